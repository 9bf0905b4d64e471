section MApi
noncomputable def tellP (D : ZD) (k j : Nat) : Int32 := if j < 3 then dP D k j else if j = 3 then zb (eng D (nI k)) else if j = 4 then legW D (nI k) 1 else rung D (nI k)
noncomputable def tellC (D : ZD) (k j : Nat) : Int32 := if j < 4 then dC D k j else if j = 4 then zb (rngs D (nI k)) else dC D k 4
end MApi
