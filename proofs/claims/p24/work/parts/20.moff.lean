section MOff
noncomputable def offD (D : ZD) (k : Nat) (p v : Int32) : Int32 × ZD := if dL D k 6 = nI (sdN D k p) then (0, D) else if dL D k 6 = -1 then (1, layD D k (nI (sdN D k p)) v) else (-1, glrD D k (1 - sdN D k p) (sdN D k p) v)
end MOff
