section MRing
theorem evs_cons (lg cl rf tm c : Int32) (cs : List Int32) (vs : List Int64) : evs lg cl rf tm (c :: cs) vs = evs lg cl rf tm cs (ev1 lg cl rf tm c vs) := rfl
end MRing
