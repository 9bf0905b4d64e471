section LWrn
/-- the digits of n from the place 10^m down -/
def dd : Nat → Nat → List Nat
  | 0, n => [48 + n % 10]
  | m + 1, n => (48 + n / 10 ^ (m + 1) % 10) :: dd m n
theorem dd_len : ∀ m n, (dd m n).length = m + 1
  | 0, n => rfl
  | m + 1, n => congrArg (· + 1) (dd_len m n)
theorem dd_dec {n : Nat} (hn : n ≤ 9999) : dec n = if n < 10 then dd 0 n else if n < 100 then dd 1 n else if n < 1000 then dd 2 n else dd 3 n := by
  unfold dec
  split
  · show [48 + n] = [48 + n % 10]
    rw [Nat.mod_eq_of_lt (by omega)]
  split
  · show [48 + n / 10, 48 + n % 10] = [48 + n / 10 ^ 1 % 10, 48 + n % 10]
    rw [show 10 ^ 1 = 10 by decide, show n / 10 % 10 = n / 10 by omega]
  split
  · show [48 + n / 100, 48 + n / 10 % 10, 48 + n % 10] = [48 + n / 10 ^ 2 % 10, 48 + n / 10 ^ 1 % 10, 48 + n % 10]
    rw [show 10 ^ 1 = 10 by decide, show 10 ^ 2 = 100 by decide, show n / 100 % 10 = n / 100 by omega]
  · show [48 + n / 1000, 48 + n / 100 % 10, 48 + n / 10 % 10, 48 + n % 10] = [48 + n / 10 ^ 3 % 10, 48 + n / 10 ^ 2 % 10, 48 + n / 10 ^ 1 % 10, 48 + n % 10]
    rw [show 10 ^ 1 = 10 by decide, show 10 ^ 2 = 100 by decide, show 10 ^ 3 = 1000 by decide, show n / 1000 % 10 = n / 1000 by omega]
theorem nI_m10 : ∀ p, p < 1001 → nI p * 10 = nI (p * 10) := by decide +kernel
theorem pw_le : ∀ m, m ≤ 3 → 1 ≤ 10 ^ m ∧ 10 ^ m ≤ 1000 := by decide
theorem lp_dig {l : Launch} {Γ : ZG} {w : ZW} {x b v : Nat} {C : CS} (hb : b < x ∨ x + 105 ≤ b) (hv : v ≤ 9999) : ∀ (m : Nat) (tx : List Nat) (R : RS) (f : Nat → Int32), m ≤ 3 → WK (cR C R) f tx → tx.length + m ≤ 490 → Go l Γ mL_writeNumber 5 0 0 (PW Γ w x C b (tx ++ dd m v)) zNo 0 0 (wWr Γ w x (cR C R) b f) 18 [(0, .ref x), (1, .ref b), (2, .int (nI v)), (3, .int (nI (10 ^ m)))] [] := by
  intro m
  induction m with
  | zero =>
    intro tx R f hm hW hl
    have r10 : nI v - nI v / 10 * 10 = nI (v % 10) := pk_rem (d := 10) (by omega) (by decide) (by decide)
    refine go_iload_n 19 dL_writeNumber_18 rfl ?_
    refine go_if_le 44 22 dL_writeNumber_19 (fun h => absurd h (by decide)) (fun _ => ?_)
    refine go_aload_n 23 dL_writeNumber_22 rfl ?_
    refine go_aload_n 24 dL_writeNumber_23 rfl ?_
    refine go_bipush 26 dL_writeNumber_24 zb_48 ?_
    refine go_iload_n 27 dL_writeNumber_26 rfl ?_
    refine go_iload_n 28 dL_writeNumber_27 rfl ?_
    refine go_idiv 29 dL_writeNumber_28 (by decide) ?_
    rw [show nI v / nI (10 ^ 0) = nI (v / 10 ^ 0) from pk_div (by omega) (by decide) (by decide), show v / 10 ^ 0 = v by simp]
    refine go_bipush 31 dL_writeNumber_29 zb_10 ?_
    refine go_irem 32 dL_writeNumber_31 (by decide) ?_
    rw [r10]
    refine go_iadd 33 dL_writeNumber_32 ?_
    rw [show (48 : Int32) + nI (v % 10) = nI (48 + v % 10) from nI_add 48 _]
    refine go_callS 36 [.ref x, .ref b, .int (nI (48 + v % 10))] dL_writeNumber_33 vL_33 rfl (ct_L_put hb hW (by omega) (by omega)) (by decide) (by decide) (by omega) (by omega) (by exact Nat.le_of_ble_eq_true rfl) ?_
    rintro _ _ ⟨rfl, R2, f2, rfl, hW2⟩
    refine go_iload_n 37 dL_writeNumber_36 rfl ?_
    refine go_bipush 39 dL_writeNumber_37 zb_10 ?_
    refine go_idiv 40 dL_writeNumber_39 (by decide) ?_
    refine go_istore_n 41 dL_writeNumber_40 (by decide) ?_
    refine go_goto 18 dL_writeNumber_41 ?_
    refine go_iload_n 19 dL_writeNumber_18 rfl ?_
    refine go_if_le 44 22 dL_writeNumber_19 (fun _ => ?_) (fun h => absurd (by decide) h)
    exact go_return dL_writeNumber_44 rfl (by omega) (by omega) ⟨rfl, R2, f2, rfl, hW2⟩
  | succ m ih =>
    intro tx R f hm hW hl
    obtain ⟨p1, p2⟩ := pw_le (m + 1) hm
    have r10 : nI (v / 10 ^ (m + 1)) - nI (v / 10 ^ (m + 1)) / 10 * 10 = nI (v / 10 ^ (m + 1) % 10) := pk_rem (d := 10) (by have := Nat.div_le_self v (10 ^ (m + 1)); omega) (by decide) (by decide)
    refine go_iload_n 19 dL_writeNumber_18 rfl ?_
    refine go_if_le 44 22 dL_writeNumber_19 (fun h => absurd ((nI_leI (b := 0) (by omega) (by omega)).mp h) (by omega)) (fun _ => ?_)
    refine go_aload_n 23 dL_writeNumber_22 rfl ?_
    refine go_aload_n 24 dL_writeNumber_23 rfl ?_
    refine go_bipush 26 dL_writeNumber_24 zb_48 ?_
    refine go_iload_n 27 dL_writeNumber_26 rfl ?_
    refine go_iload_n 28 dL_writeNumber_27 rfl ?_
    refine go_idiv 29 dL_writeNumber_28 (nI_ne0 (by omega) (by omega)) ?_
    rw [pk_div (a := v) (d := 10 ^ (m + 1)) (by omega) (by omega) (by omega)]
    refine go_bipush 31 dL_writeNumber_29 zb_10 ?_
    refine go_irem 32 dL_writeNumber_31 (by decide) ?_
    rw [r10]
    refine go_iadd 33 dL_writeNumber_32 ?_
    rw [show (48 : Int32) + nI (v / 10 ^ (m + 1) % 10) = nI (48 + v / 10 ^ (m + 1) % 10) from nI_add 48 _]
    refine go_callS 36 [.ref x, .ref b, .int (nI (48 + v / 10 ^ (m + 1) % 10))] dL_writeNumber_33 vL_33 rfl (ct_L_put hb hW (by have := Nat.mod_lt (v / 10 ^ (m + 1)) (show 0 < 10 by decide); omega) (by omega)) (by decide) (by decide) (by omega) (by omega) (by exact Nat.le_of_ble_eq_true rfl) ?_
    rintro _ _ ⟨rfl, R2, f2, rfl, hW2⟩
    refine go_iload_n 37 dL_writeNumber_36 rfl ?_
    refine go_bipush 39 dL_writeNumber_37 zb_10 ?_
    refine go_idiv 40 dL_writeNumber_39 (by decide) ?_
    rw [show nI (10 ^ (m + 1)) / 10 = nI (10 ^ m) from (pk_div (a := 10 ^ (m + 1)) (d := 10) (by omega) (by decide) (by decide)).trans (congrArg nI (by rw [Nat.pow_succ]; omega))]
    refine go_istore_n 41 dL_writeNumber_40 (by decide) ?_
    refine go_goto 18 dL_writeNumber_41 ?_
    have h9 := ih (tx ++ [48 + v / 10 ^ (m + 1) % 10]) R2 f2 (by omega) hW2 (by simp; omega)
    rw [List.append_assoc] at h9
    exact go_locals _ rfl h9
theorem lp_up {l : Launch} {Γ : ZG} {w : ZW} {x b v p : Nat} {Φ : Option Value → ZW → Prop} (hv : v ≤ 9999) (hp : 1 ≤ p ∧ p ≤ 1000) (h1 : p ≤ v / 10 → Go l Γ mL_writeNumber 5 0 0 Φ zNo 0 0 w 2 [(0, .ref x), (1, .ref b), (2, .int (nI v)), (3, .int (nI (p * 10)))] []) (h2 : ¬ p ≤ v / 10 → Go l Γ mL_writeNumber 5 0 0 Φ zNo 0 0 w 18 [(0, .ref x), (1, .ref b), (2, .int (nI v)), (3, .int (nI p))] []) : Go l Γ mL_writeNumber 5 0 0 Φ zNo 0 0 w 2 [(0, .ref x), (1, .ref b), (2, .int (nI v)), (3, .int (nI p))] [] := by
  refine go_iload_n 3 dL_writeNumber_2 rfl ?_
  refine go_iload_n 4 dL_writeNumber_3 rfl ?_
  refine go_bipush 6 dL_writeNumber_4 zb_10 ?_
  refine go_idiv 7 dL_writeNumber_6 (by decide) ?_
  rw [show nI v / 10 = nI (v / 10) from pk_div (d := 10) (by omega) (by decide) (by decide)]
  refine go_icmp_gt 18 10 dL_writeNumber_7 (fun h => ?_) (fun h => ?_)
  · exact h2 (fun z => absurd h (by first | exact Int32.not_lt.mpr ((nI_leI (by omega) (by omega)).mpr z) | exact fun y => y ((nI_leI (by omega) (by omega)).mpr z)))
  · refine go_iload_n 11 dL_writeNumber_10 rfl ?_
    refine go_bipush 13 dL_writeNumber_11 zb_10 ?_
    refine go_imul 14 dL_writeNumber_13 ?_
    rw [show nI p * 10 = nI (p * 10) from nI_m10 p (by omega)]
    refine go_istore_n 15 dL_writeNumber_14 (by decide) ?_
    refine go_goto 2 dL_writeNumber_15 ?_
    have h3 : p ≤ v / 10 := by first | exact (nI_leI (by omega) (by omega)).mp (Int32.not_lt.mp h) | exact (nI_leI (by omega) (by omega)).mp (Decidable.not_not.mp h) | exact (nI_leI (by omega) (by omega)).mp h
    exact go_locals _ rfl (h1 h3)
theorem ct_L_writeNumber {l : Launch} {Γ : ZG} {w : ZW} {x b v : Nat} {C : CS} {f : Nat → Int32} {tx : List Nat} (hb : b < x ∨ x + 105 ≤ b) (hW : WK C f tx) (hv : v ≤ 9999) (hl : tx.length ≤ 480) : Ct l Γ mL_writeNumber 5 0 0 [.ref x, .ref b, .int (nI v)] (wWr Γ w x C b f) (PW Γ w x C b (tx ++ dec v)) zNo := by
  refine Ct.of (by decide) rfl (Nat.le_of_ble_eq_true rfl) ?_
  refine go_iconst 1 dL_writeNumber_0 zc_1 ?_
  refine go_istore_n 2 dL_writeNumber_1 (by decide) ?_
  rw [dd_dec hv]
  have key := fun m hm => lp_dig (l := l) (Γ := Γ) (w := w) (C := C) hb hv m tx C.2.1 f hm hW (by omega)
  refine go_locals [(0, .ref x), (1, .ref b), (2, .int (nI v)), (3, .int (nI 1))] rfl (lp_up hv (by decide) (fun a1 => ?_) (fun a1 => ?_))
  · rw [if_neg (by omega)]
    refine lp_up (p := 10) hv (by decide) (fun a2 => ?_) (fun a2 => ?_)
    · rw [if_neg (by omega)]
      refine lp_up (p := 100) hv (by decide) (fun a3 => ?_) (fun a3 => ?_)
      · rw [if_neg (by omega)]
        refine lp_up (p := 1000) hv (by decide) (fun a4 => absurd a4 (by omega)) (fun a4 => ?_)
        exact key 3 (by decide)
      · rw [if_pos (by omega)]
        exact key 2 (by decide)
    · rw [if_pos (by omega)]
      exact key 1 (by decide)
  · rw [if_pos (by omega)]
    exact key 0 (by decide)
end LWrn
