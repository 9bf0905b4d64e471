section MPrs
theorem byte_dig {x : Int32} (h : 48 ≤ x ∧ x ≤ 57) : ∃ d, d ≤ 9 ∧ x = nI (48 + d) ∧ (x - 48).toNatClampNeg = d := by
  have h1 : (48 : Int) ≤ x.toInt := Int32.le_iff_toInt_le.mp h.1
  have h2 : x.toInt ≤ 57 := Int32.le_iff_toInt_le.mp h.2
  obtain ⟨d, hd⟩ : ∃ d : Nat, x.toInt = ((48 + d : Nat) : Int) := ⟨x.toInt.toNat - 48, by omega⟩
  have hd9 : d ≤ 9 := by omega
  have e : x = nI (48 + d) := by
    apply Int32.toInt_inj.mp
    rw [hd]
    exact (Int32.toInt_ofNat_of_lt (by omega)).symm
  have e2 : x - 48 = nI d := by
    rw [e, Nat.add_comm 48 d, ← nI_add]
    exact Int32.add_sub_cancel _ _
  exact ⟨d, hd9, e, by rw [e2, nI_clamp (by omega)]⟩
/-- the saturated value -/
def vC (cap : Nat) (B : ZB) : Nat → Nat → Nat → Nat
  | 0, _, v => v
  | f + 1, p, v => if isD B p = true then vC cap B f (p + 1) (min cap (10 * v + (B p - 48).toNatClampNeg)) else v
theorem vC_eq {cap : Nat} {B : ZB} : ∀ (f p v : Nat), vC cap B f p (min cap v) = min cap (vN B f p v)
  | 0, _, _ => rfl
  | f + 1, p, v => by
    unfold vC vN
    by_cases h : isD B p = true
    · rw [if_pos h, if_pos h, show min cap (10 * min cap v + (B p - 48).toNatClampNeg) = min cap (10 * v + (B p - 48).toNatClampNeg) by omega]
      exact vC_eq f (p + 1) _
    · rw [if_neg h, if_neg h]
end MPrs
