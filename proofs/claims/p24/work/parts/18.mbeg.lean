section MBeg
theorem RC_newC {D : ZD} {cs : List Int32} {p : Int32} {c : Nat} {v : Int32} (h : RC D cs) (hc : c < 20 := by omega) : RC (setC (setC D c 0 p) c 1 v) cs := by
  have e : ∀ i, i < 9 ∨ 146 ≤ i → (setC (setC D c 0 p) c 1 v) i = D i := fun i hi => (if_neg (by omega)).trans (if_neg (by omega))
  refine ⟨(e 8 (by omega)).trans h.1, h.2.1, fun j hj => (e _ (by omega)).trans (h.2.2.1 j hj), h.2.2.2⟩
theorem newC_t {D : ZD} {c : Nat} {p v : Int32} : (setC (setC D c 0 p) c 1 v) 0 = D 0 := by
  unfold setC upd
  rw [if_neg (by omega), if_neg (by omega)]
end MBeg
