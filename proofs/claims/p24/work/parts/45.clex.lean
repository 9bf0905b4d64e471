section CLex
def failC (R : RS) (c : Int32) : RS := if R.1 13 = 0 then rF (rF R 13 c) 14 (R.1 8) else R
def addR (R : RS) (m : Nat) (c : Int32) : RS := if m < 600 then rF (rC R (upd R.2.2.2 m c)) 4 (nI (m + 1)) else R
def numR (R : RS) (lo hi : Int32) : RS := if R.1 7 = 2 then (if R.1 9 < lo ∨ hi < R.1 9 then failC R (-3) else R) else failC R (-2)
theorem fail_j {R : RS} {c : Int32} {j : Nat} (h : j ≠ 13 ∧ j ≠ 14) : (failC R c).1 j = R.1 j := by
  unfold failC
  split
  · show upd (upd R.1 13 c) 14 (R.1 8) j = R.1 j
    rw [pk_un h.2, pk_un h.1]
  · rfl
theorem fail_snd {R : RS} {c : Int32} : (failC R c).2 = R.2 := by
  unfold failC
  split <;> rfl
theorem num_j {R : RS} {lo hi : Int32} {j : Nat} (h : j ≠ 13 ∧ j ≠ 14) : (numR R lo hi).1 j = R.1 j := by
  unfold numR
  split
  · split
    · exact fail_j h
    · rfl
  · exact fail_j h
theorem num_snd {R : RS} {lo hi : Int32} : (numR R lo hi).2 = R.2 := by
  unfold numR
  split
  · split
    · exact fail_snd
    · rfl
  · exact fail_snd
theorem add_j {R : RS} {m : Nat} {c : Int32} {j : Nat} (h : j ≠ 4) : (addR R m c).1 j = R.1 j := by
  unfold addR
  split
  · exact pk_un h
  · rfl
theorem At.cong {B : ZB} {n q : Nat} {R R' : RS} (h : At B n R q) (e : ∀ j, 6 ≤ j → j ≤ 9 → R'.1 j = R.1 j) : At B n R' q := by
  obtain ⟨a, b, c, d⟩ := h
  refine ⟨?_, ?_, ?_, fun z => ?_⟩
  · rw [e 8 (by decide) (by decide)]; exact a
  · rw [e 7 (by decide) (by decide)]; exact b
  · rw [e 6 (by decide) (by decide)]; exact c
  · rw [e 9 (by decide) (by decide)]; exact d z
theorem At.fail {B : ZB} {n q : Nat} {R : RS} {c : Int32} (h : At B n R q) : At B n (failC R c) q := h.cong (fun j a b => fail_j (by omega))
theorem At.num {B : ZB} {n q : Nat} {R : RS} {lo hi : Int32} (h : At B n R q) : At B n (numR R lo hi) q := h.cong (fun j a b => num_j (by omega))
theorem At.add {B : ZB} {n q m : Nat} {R : RS} {c : Int32} (h : At B n R q) : At B n (addR R m c) q := h.cong (fun j a b => add_j (by omega))
theorem nI_sub {a b : Nat} (h : b ≤ a) : nI a - nI b = nI (a - b) := by
  have e : nI a = nI (a - b) + nI b := by rw [nI_add, Nat.sub_add_cancel h]
  rw [e]
  exact Int32.add_sub_cancel _ _
/-- signs that are neither digits nor letters -/
def Sgn (c : Int32) : Prop := c ≠ -1 ∧ ¬ (48 ≤ c ∧ c ≤ 57) ∧ ¬ (97 ≤ c ∧ c ≤ 122)
theorem tk_3 {B : ZB} {n q : Nat} (hT : TB B n) {c : Int32} (hc : Sgn c) (h : B q = c) : tk B n q = 3 := by
  unfold tk
  rw [if_neg (fun z => by have := of_decide_eq_true z; rw [h] at this; exact hc.2.1 this), if_neg (fun z => by have := of_decide_eq_true z; rw [h] at this; exact hc.2.2 this), if_pos (lt_of_B hT (by rw [h]; exact hc.1))]
theorem tk_eq {B : ZB} {n q : Nat} {R : RS} (h : At B n R q) {k : Nat} (hk : k < 4) : R.1 7 = nI k ↔ tk B n q = k := by
  rw [h.2.1]
  have ht : tk B n q < 4 := by
    unfold tk
    split
    · decide
    · split
      · decide
      · split <;> decide
  exact nI_eq (by omega) (by omega)
theorem tk_2 {B : ZB} {n q : Nat} : tk B n q = 2 ↔ isD B q = true := by
  unfold tk
  split
  · exact ⟨fun _ => by assumption, fun _ => rfl⟩
  · split
    · exact ⟨fun z => absurd z (by decide), fun z => by contradiction⟩
    · split
      · exact ⟨fun z => absurd z (by decide), fun z => by contradiction⟩
      · exact ⟨fun z => absurd z (by decide), fun z => by contradiction⟩
theorem tk_1 {B : ZB} {n q : Nat} : tk B n q = 1 ↔ isL B q = true := by
  unfold tk
  split
  · rename_i h
    exact ⟨fun z => absurd z (by decide), fun z => by rw [isDL h] at z; exact absurd z (by decide)⟩
  · split
    · exact ⟨fun _ => by assumption, fun _ => rfl⟩
    · split
      · exact ⟨fun z => absurd z (by decide), fun z => by contradiction⟩
      · exact ⟨fun z => absurd z (by decide), fun z => by contradiction⟩
theorem tk_0 {B : ZB} {n q : Nat} (hT : TB B n) : tk B n q = 0 ↔ B q = -1 := by
  unfold tk
  split
  · rename_i h
    exact ⟨fun z => absurd z (by decide), fun z => absurd z (isD_ne h)⟩
  · split
    · rename_i h
      exact ⟨fun z => absurd z (by decide), fun z => absurd z (isL_ne h)⟩
    · split
      · rename_i h
        refine ⟨fun z => absurd z (by decide), fun z => ?_⟩
        have := hT.2.2 q h
        rw [z] at this
        exact absurd this (by decide)
      · rename_i h
        exact ⟨fun _ => hT.2.1 q (by omega), fun _ => rfl⟩
/-- a word of letters alone -/
def Ltr (w : String) : Prop := 0 < w.length ∧ ∀ i, i < w.length → 97 ≤ zch w i ∧ zch w i ≤ 122
theorem el_stop {B : ZB} {n q : Nat} (hT : TB B n) (hq : q ≤ n) : isL B (el B q) = false := runW_stop (tb_l hT) _ _ hq (by have := hT.1; omega)
theorem wd_el {B : ZB} {n q : Nat} {w : String} (hT : TB B n) (hw : Ltr w) (h : wd B w q) : el B q = q + w.length ∧ isL B q = true := by
  have hl : ∀ i, i < w.length → isL B (q + i) = true := fun i hi => decide_eq_true (by rw [h.1 i hi]; exact hw.2 i hi)
  have hp := wd_pos hT h (fun i hi z => by have := (hw.2 i hi).1; rw [z] at this; exact absurd this (by decide))
  have h9 := hp (w.length - 1) (by have := hw.1; omega)
  have hn := hT.1
  refine ⟨runW_is _ _ _ (by omega) (by omega) (fun i a b => ?_) h.2, ?_⟩
  · have := hl (i - q) (by omega)
    rw [show q + (i - q) = i by omega] at this
    exact this
  · exact hl 0 hw.1
set_option maxRecDepth 100000 in
set_option maxHeartbeats 4000000 in
theorem ct_X3_fail {l : Launch} {Γ : ZG} {w : ZW} {r : Nat} {R : RS} {c : Int32} : Cm l Γ mX3_fail 1 [.ref r, .int c] (wZ Γ w r R) (none) (wZ Γ w r (failC R c)) := by
  refine Cm.of (by decide) rfl (Nat.le_of_ble_eq_true rfl) ?_
  refine go_aload_n 1 dX3_fail_0 rfl ?_
  refine xs_get 4 dX3_fail_1 fX3_49 rfl ?_
  refine go_if_ne 20 7 dX3_fail_4 (fun h4 => ?_) (fun h4 => ?_)
  · exact go_return dX3_fail_20 rfl (by omega) (by omega) (⟨rfl, by unfold failC; first | (rw [if_neg h4]) | (rw [if_pos (by first | exact h4 | exact Classical.not_not.mp h4)]; rfl)⟩)
  · refine go_aload_n 8 dX3_fail_7 rfl ?_
    refine go_iload_n 9 dX3_fail_8 rfl ?_
    refine xs_put 13 12 dX3_fail_9 pX3_49 (by decide) rfl rfl ?_
    refine go_aload_n 13 dX3_fail_12 rfl ?_
    refine go_aload_n 14 dX3_fail_13 rfl ?_
    refine xs_get 17 dX3_fail_14 fX3_164 rfl ?_
    refine xs_put 14 20 dX3_fail_17 pX3_52 (by decide) rfl rfl ?_
    exact go_return dX3_fail_20 rfl (by omega) (by omega) (⟨rfl, by unfold failC; first | (rw [if_neg h4]) | (rw [if_pos (by first | exact h4 | exact Classical.not_not.mp h4)]; rfl)⟩)
set_option maxRecDepth 100000 in
set_option maxHeartbeats 4000000 in
theorem ct_X3_addCode {l : Launch} {Γ : ZG} {w : ZW} {r : Nat} {R : RS} {m : Nat} {c : Int32} (hm : R.1 4 = nI m) (hm6 : m ≤ 600) : Cm l Γ mX3_addCode 1 [.ref r, .int c] (wZ Γ w r R) (none) (wZ Γ w r (addR R m c)) := by
  refine Cm.of (by decide) rfl (Nat.le_of_ble_eq_true rfl) ?_
  refine go_aload_n 1 dX3_addCode_0 rfl ?_
  refine xs_get 4 dX3_addCode_1 fX3_36 rfl ?_
  refine go_if_lt 39 7 dX3_addCode_4 (fun h4 => ?_) (fun h4 => ?_)
  · exact absurd h4 (by rw [hm]; exact nI_pos (by omega))
  · refine go_aload_n 8 dX3_addCode_7 rfl ?_
    refine xs_get 11 dX3_addCode_8 fX3_36 rfl ?_
    refine go_aload_n 12 dX3_addCode_11 rfl ?_
    refine xs_get 15 dX3_addCode_12 fX3_22 rfl ?_
    refine go_alen (t0 := 0) (v := 600) 16 dX3_addCode_15 wZ_at11 rfl rfl ?_
    refine go_icmp_ge 39 19 dX3_addCode_16 (fun h16 => ?_) (fun h16 => ?_)
    · exact go_return dX3_addCode_39 rfl (by omega) (by omega) (⟨rfl, by unfold addR; first | (rw [if_pos hlt, ← nI_1, ← hm]; rfl) | (rw [if_neg (fun z => nI_ge z (by decide) (by rw [← hm]; exact h16))])⟩)
    · have hlt : m < 600 := Nat.lt_of_not_le fun z => h16 (by rw [hm]; exact nI_le (a := 600) z (by omega))
      refine go_aload_n 20 dX3_addCode_19 rfl ?_
      refine xs_get 23 dX3_addCode_20 fX3_22 rfl ?_
      refine go_aload_n 24 dX3_addCode_23 rfl ?_
      refine xs_get 27 dX3_addCode_24 fX3_36 rfl ?_
      refine go_iload_n 28 dX3_addCode_27 rfl ?_
      rw [hm]
      refine go_iast 29 dX3_addCode_28 wZ_at11 (vp_in_nI (by omega) (by decide)) ?_
      rw [nI_clamp (by omega), wZ_C]
      refine go_aload_n 30 dX3_addCode_29 rfl ?_
      refine go_dup 31 dX3_addCode_30 rfl ?_
      refine xs_get 34 dX3_addCode_31 fX3_36 rfl ?_
      refine go_iconst 35 dX3_addCode_34 zc_1 ?_
      refine go_iadd 36 dX3_addCode_35 ?_
      refine xs_put 4 39 dX3_addCode_36 pX3_36 (by decide) rfl rfl ?_
      exact go_return dX3_addCode_39 rfl (by omega) (by omega) (⟨rfl, by unfold addR; first | (rw [if_pos hlt, ← nI_1, ← hm]; rfl) | (rw [if_neg (fun z => nI_ge z (by decide) (by rw [← hm]; exact h16))])⟩)
set_option maxRecDepth 100000 in
set_option maxHeartbeats 4000000 in
theorem ct_X3_numberInRange {l : Launch} {Γ : ZG} {w : ZW} {r : Nat} {R : RS} {lo hi : Int32} : Cm l Γ mX3_numberInRange 2 [.ref r, .int lo, .int hi] (wZ Γ w r R) (some (.int (R.1 9))) (wZ Γ w r (numR R lo hi)) := by
  refine Cm.of (by decide) rfl (Nat.le_of_ble_eq_true rfl) ?_
  refine go_aload_n 1 dX3_numberInRange_0 rfl ?_
  refine xs_get 4 dX3_numberInRange_1 fX3_75 rfl ?_
  refine go_iconst 5 dX3_numberInRange_4 zc_2 ?_
  refine go_icmp_eq 17 8 dX3_numberInRange_5 (fun h5 => ?_) (fun h5 => ?_)
  · refine go_aload_n 18 dX3_numberInRange_17 rfl ?_
    refine xs_get 21 dX3_numberInRange_18 fX3_167 rfl ?_
    refine go_iload_n 22 dX3_numberInRange_21 rfl ?_
    refine go_icmp_lt 33 25 dX3_numberInRange_22 (fun h22 => ?_) (fun h22 => ?_)
    · refine go_aload_n 34 dX3_numberInRange_33 rfl ?_
      refine go_bipush 36 dX3_numberInRange_34 zb_m3 ?_
      refine gcV1v 39 dX3_numberInRange_36 vX3_67 wZ_at0 rfl (ct_X3_fail) ?_
      refine go_aload_n 40 dX3_numberInRange_39 rfl ?_
      refine xs_get 43 dX3_numberInRange_40 fX3_167 rfl ?_
      exact go_ireturn dX3_numberInRange_43 rfl (by omega) (by omega) (⟨by first | rfl | rw [fail_j (by decide)], by unfold numR; first | (rw [if_neg h5]) | (rw [if_pos (by first | exact h5 | exact Classical.not_not.mp h5), if_pos (Or.inl (by first | exact h22 | exact Int32.not_le.mp h22))]) | (rw [if_pos (by first | exact h5 | exact Classical.not_not.mp h5), if_pos (Or.inr (by first | exact h30 | exact Int32.not_le.mp h30))]) | (rw [if_pos (by first | exact h5 | exact Classical.not_not.mp h5), if_neg (fun z => z.elim (fun y => absurd y (by first | exact h22 | exact Int32.not_lt.mpr h22)) (fun y => absurd y (by first | exact Int32.not_lt.mpr h30 | exact h30)))])⟩)
    · refine go_aload_n 26 dX3_numberInRange_25 rfl ?_
      refine xs_get 29 dX3_numberInRange_26 fX3_167 rfl ?_
      refine go_iload_n 30 dX3_numberInRange_29 rfl ?_
      refine go_icmp_le 39 33 dX3_numberInRange_30 (fun h30 => ?_) (fun h30 => ?_)
      · refine go_aload_n 40 dX3_numberInRange_39 rfl ?_
        refine xs_get 43 dX3_numberInRange_40 fX3_167 rfl ?_
        exact go_ireturn dX3_numberInRange_43 rfl (by omega) (by omega) (⟨by first | rfl | rw [fail_j (by decide)], by unfold numR; first | (rw [if_neg h5]) | (rw [if_pos (by first | exact h5 | exact Classical.not_not.mp h5), if_pos (Or.inl (by first | exact h22 | exact Int32.not_le.mp h22))]) | (rw [if_pos (by first | exact h5 | exact Classical.not_not.mp h5), if_pos (Or.inr (by first | exact h30 | exact Int32.not_le.mp h30))]) | (rw [if_pos (by first | exact h5 | exact Classical.not_not.mp h5), if_neg (fun z => z.elim (fun y => absurd y (by first | exact h22 | exact Int32.not_lt.mpr h22)) (fun y => absurd y (by first | exact Int32.not_lt.mpr h30 | exact h30)))])⟩)
      · refine go_aload_n 34 dX3_numberInRange_33 rfl ?_
        refine go_bipush 36 dX3_numberInRange_34 zb_m3 ?_
        refine gcV1v 39 dX3_numberInRange_36 vX3_67 wZ_at0 rfl (ct_X3_fail) ?_
        refine go_aload_n 40 dX3_numberInRange_39 rfl ?_
        refine xs_get 43 dX3_numberInRange_40 fX3_167 rfl ?_
        exact go_ireturn dX3_numberInRange_43 rfl (by omega) (by omega) (⟨by first | rfl | rw [fail_j (by decide)], by unfold numR; first | (rw [if_neg h5]) | (rw [if_pos (by first | exact h5 | exact Classical.not_not.mp h5), if_pos (Or.inl (by first | exact h22 | exact Int32.not_le.mp h22))]) | (rw [if_pos (by first | exact h5 | exact Classical.not_not.mp h5), if_pos (Or.inr (by first | exact h30 | exact Int32.not_le.mp h30))]) | (rw [if_pos (by first | exact h5 | exact Classical.not_not.mp h5), if_neg (fun z => z.elim (fun y => absurd y (by first | exact h22 | exact Int32.not_lt.mpr h22)) (fun y => absurd y (by first | exact Int32.not_lt.mpr h30 | exact h30)))])⟩)
  · refine go_aload_n 9 dX3_numberInRange_8 rfl ?_
    refine go_bipush 11 dX3_numberInRange_9 zb_m2 ?_
    refine gcV1v 14 dX3_numberInRange_11 vX3_67 wZ_at0 rfl (ct_X3_fail) ?_
    refine go_goto 39 dX3_numberInRange_14 ?_
    refine go_aload_n 40 dX3_numberInRange_39 rfl ?_
    refine xs_get 43 dX3_numberInRange_40 fX3_167 rfl ?_
    exact go_ireturn dX3_numberInRange_43 rfl (by omega) (by omega) (⟨by first | rfl | rw [fail_j (by decide)], by unfold numR; first | (rw [if_neg h5]) | (rw [if_pos (by first | exact h5 | exact Classical.not_not.mp h5), if_pos (Or.inl (by first | exact h22 | exact Int32.not_le.mp h22))]) | (rw [if_pos (by first | exact h5 | exact Classical.not_not.mp h5), if_pos (Or.inr (by first | exact h30 | exact Int32.not_le.mp h30))]) | (rw [if_pos (by first | exact h5 | exact Classical.not_not.mp h5), if_neg (fun z => z.elim (fun y => absurd y (by first | exact h22 | exact Int32.not_lt.mpr h22)) (fun y => absurd y (by first | exact Int32.not_lt.mpr h30 | exact h30)))])⟩)
set_option maxRecDepth 100000 in
set_option maxHeartbeats 4000000 in
theorem ct_X3_takeNumber {l : Launch} {Γ : ZG} {w : ZW} {r : Nat} {R : RS} {B : ZB} {n p : Nat} (hn : R.1 5 = nI n) (hB : BB R.2.1 n = B) (hT : TB B n) (hp : R.1 6 = nI p) (hpn : p ≤ n) {lo hi : Int32} : Cm l Γ mX3_takeNumber 3 [.ref r, .int lo, .int hi] (wZ Γ w r R) (some (.int (R.1 9))) (wZ Γ w r (tokR B n (numR R lo hi) (sp B p))) := by
  refine Cm.of (by decide) rfl (Nat.le_of_ble_eq_true rfl) ?_
  refine go_aload_n 1 dX3_takeNumber_0 rfl ?_
  refine go_iload_n 2 dX3_takeNumber_1 rfl ?_
  refine go_iload_n 3 dX3_takeNumber_2 rfl ?_
  refine gcV2 6 dX3_takeNumber_3 vX3_153 wZ_at0 rfl (ct_X3_numberInRange) ?_
  refine go_istore_n 7 dX3_takeNumber_6 (by decide) ?_
  refine go_aload_n 8 dX3_takeNumber_7 rfl ?_
  refine gcV0v 11 dX3_takeNumber_8 vX3_58 wZ_at0 rfl (ct_X3_nextToken (R := numR R lo hi) ((num_j (by decide)).trans hn) (by rw [num_snd]; exact hB) hT ((num_j (by decide)).trans hp) hpn) ?_
  refine go_iload_n 12 dX3_takeNumber_11 rfl ?_
  exact go_ireturn dX3_takeNumber_12 rfl (by omega) (by omega) (⟨rfl, rfl⟩)
set_option maxRecDepth 100000 in
set_option maxHeartbeats 4000000 in
theorem ct_X3_atSign {l : Launch} {Γ : ZG} {w : ZW} {r : Nat} {R : RS} {B : ZB} {n q : Nat} (hn : R.1 5 = nI n) (hB : BB R.2.1 n = B) (hT : TB B n) (hA : At B n R q) (hq : q ≤ n) {c : Int32} (hc : Sgn c) : Cm l Γ mX3_atSign 2 [.ref r, .int c] (wZ Γ w r R) (some (.int (zb (B q = c)))) (wZ Γ w r R) := by
  have hn6 := hT.1
  refine Cm.of (by decide) rfl (Nat.le_of_ble_eq_true rfl) ?_
  refine go_aload_n 1 dX3_atSign_0 rfl ?_
  refine xs_get 4 dX3_atSign_1 fX3_75 rfl ?_
  refine go_iconst 5 dX3_atSign_4 zc_3 ?_
  refine go_icmp_ne 24 8 dX3_atSign_5 (fun h5 => ?_) (fun h5 => ?_)
  · refine go_iconst 25 dX3_atSign_24 zc_0 ?_
    exact go_zreturn dX3_atSign_25 rfl (by omega) (by omega) (Or.inl rfl) (⟨by rw [zb_f (fun z => by first | exact h17 z | exact h5 ((tk_eq hA (by decide)).mpr (tk_3 hT hc z)))], rfl⟩)
  · refine go_aload_n 9 dX3_atSign_8 rfl ?_
    refine go_aload_n 10 dX3_atSign_9 rfl ?_
    refine xs_get 13 dX3_atSign_10 fX3_164 rfl ?_
    refine gcV1 16 dX3_atSign_13 vX3_170 wZ_at0 rfl (ct_X3_byteAt (k := q) hn hB hT hA.1 (by omega)) ?_
    refine go_iload_n 17 dX3_atSign_16 rfl ?_
    refine go_icmp_ne 24 20 dX3_atSign_17 (fun h17 => ?_) (fun h17 => ?_)
    · refine go_iconst 25 dX3_atSign_24 zc_0 ?_
      exact go_zreturn dX3_atSign_25 rfl (by omega) (by omega) (Or.inl rfl) (⟨by rw [zb_f (fun z => by first | exact h17 z | exact h5 ((tk_eq hA (by decide)).mpr (tk_3 hT hc z)))], rfl⟩)
    · refine go_iconst 21 dX3_atSign_20 zc_1 ?_
      refine go_goto 25 dX3_atSign_21 ?_
      exact go_zreturn dX3_atSign_25 rfl (by omega) (by omega) (Or.inr rfl) (⟨by rw [zb_t (by first | exact h17 | exact Classical.not_not.mp h17)], rfl⟩)
set_option maxRecDepth 100000 in
set_option maxHeartbeats 4000000 in
theorem ct_X3_takeSign {l : Launch} {Γ : ZG} {w : ZW} {r : Nat} {R : RS} {B : ZB} {n q : Nat} (hn : R.1 5 = nI n) (hB : BB R.2.1 n = B) (hT : TB B n) (hA : At B n R q) (hq : q ≤ n) {c : Int32} (hc : Sgn c) : Cm l Γ mX3_takeSign 3 [.ref r, .int c] (wZ Γ w r R) (none) (wZ Γ w r (tokR B n (@ite _ (B q = c) (Classical.propDecidable _) R (failC R (-2))) (sp B (ps B n q)))) := by
  refine Cm.of (by decide) rfl (Nat.le_of_ble_eq_true rfl) ?_
  refine go_aload_n 1 dX3_takeSign_0 rfl ?_
  refine go_iload_n 2 dX3_takeSign_1 rfl ?_
  refine gcV1 5 dX3_takeSign_2 vX3_143 wZ_at0 rfl (ct_X3_atSign hn hB hT hA hq hc) ?_
  refine go_if_ne 14 8 dX3_takeSign_5 (fun h5 => ?_) (fun h5 => ?_)
  · refine go_aload_n 15 dX3_takeSign_14 rfl ?_
    refine gcV0v 18 dX3_takeSign_15 vX3_58 wZ_at0 rfl (ct_X3_nextToken (R := (R)) (p := ps B n q) (by first | exact hn | exact (fail_j (by decide)).trans hn) (by first | exact hB | (rw [fail_snd]; exact hB)) hT (by first | exact hA.2.2.1 | exact (fail_j (by decide)).trans hA.2.2.1) (ps_le hT hq).1) ?_
    exact go_return dX3_takeSign_18 rfl (by omega) (by omega) (⟨rfl, by first | (rw [if_pos (zb_1 h5)]) | (rw [if_neg (zb_0 (by first | exact h5 | exact Classical.not_not.mp h5))])⟩)
  · refine go_aload_n 9 dX3_takeSign_8 rfl ?_
    refine go_bipush 11 dX3_takeSign_9 zb_m2 ?_
    refine gcV1v 14 dX3_takeSign_11 vX3_67 wZ_at0 rfl (ct_X3_fail) ?_
    refine go_aload_n 15 dX3_takeSign_14 rfl ?_
    refine gcV0v 18 dX3_takeSign_15 vX3_58 wZ_at0 rfl (ct_X3_nextToken (R := (failC R (-2))) (p := ps B n q) (by first | exact hn | exact (fail_j (by decide)).trans hn) (by first | exact hB | (rw [fail_snd]; exact hB)) hT (by first | exact hA.2.2.1 | exact (fail_j (by decide)).trans hA.2.2.1) (ps_le hT hq).1) ?_
    exact go_return dX3_takeSign_18 rfl (by omega) (by omega) (⟨rfl, by first | (rw [if_pos (zb_1 h5)]) | (rw [if_neg (zb_0 (by first | exact h5 | exact Classical.not_not.mp h5))])⟩)
set_option maxRecDepth 100000 in
set_option maxHeartbeats 4000000 in
theorem lp_X3_atWord {l : Launch} {Γ : ZG} {w : ZW} {r : Nat} {R : RS} {B : ZB} {n q : Nat} (hn : R.1 5 = nI n) (hB : BB R.2.1 n = B) (hT : TB B n) (hA : At B n R q) (hq : q ≤ n) {q9 : String × Nat × String} (hw : q9 ∈ zStr) (hl9 : Ltr q9.2.2) (hE : isL B (q + q9.2.2.length) = false) : ∀ (f j : Nat), j + f = q9.2.2.length → (∀ i, i < j → B (q + i) = zch q9.2.2 i) → Go l Γ mX3_atWord 7 0 0 (fun v w2 => v = some (.int (zb (wd B q9.2.2 q))) ∧ w2 = wZ Γ w r R) zNo 0 0 (wZ Γ w r R) 28 [(0, .ref r), (1, .ref (Γ.2.2.2.1 q9.1 q9.2.1)), (2, .int (nI j))] [] := by
  have hn6 := hT.1
  have hl6 := zStr_len q9 hw
  intro f
  induction f with
  | zero =>
    intro j hif hj
    refine go_iload_n 29 dX3_atWord_28 rfl ?_
    refine go_aload_n 30 dX3_atWord_29 rfl ?_
    refine gcVS0 33 dX3_atWord_30 vX3_174 hw (ct_J0_length hw) ?_
    refine go_icmp_ge 62 36 dX3_atWord_33 (fun h33 => ?_) (fun h33 => ?_)
    · refine go_iconst 63 dX3_atWord_62 zc_1 ?_
      exact go_zreturn dX3_atWord_63 rfl (by omega) (by omega) (Or.inr rfl) (⟨by rw [zb_t ⟨fun i hi => hj i (by omega), hE⟩], rfl⟩)
    · exact (lpE (a := nI q9.2.2.length) (N := q9.2.2.length) rfl (by omega) h33).elim
  | succ f ih =>
    intro j hif hj
    refine go_iload_n 29 dX3_atWord_28 rfl ?_
    refine go_aload_n 30 dX3_atWord_29 rfl ?_
    refine gcVS0 33 dX3_atWord_30 vX3_174 hw (ct_J0_length hw) ?_
    refine go_icmp_ge 62 36 dX3_atWord_33 (fun h33 => ?_) (fun h33 => ?_)
    · exact (lpG (a := nI q9.2.2.length) (N := q9.2.2.length) rfl (by omega) (by omega) h33).elim
    · refine go_aload_n 37 dX3_atWord_36 rfl ?_
      refine go_aload_n 38 dX3_atWord_37 rfl ?_
      refine xs_get 41 dX3_atWord_38 fX3_164 rfl ?_
      refine go_iload_n 42 dX3_atWord_41 rfl ?_
      refine go_iadd 43 dX3_atWord_42 ?_
      refine gcV1 46 dX3_atWord_43 vX3_170 wZ_at0 rfl (ct_X3_byteAt (k := q + j) hn hB hT (by rw [hA.1]; exact nI_add _ _) (by omega)) ?_
      refine go_aload_n 47 dX3_atWord_46 rfl ?_
      refine go_iload_n 48 dX3_atWord_47 rfl ?_
      refine gcVS1 51 dX3_atWord_48 vX3_179 hw (ct_J0_charAt hw (i := j) (by omega)) ?_
      refine go_icmp_eq 56 54 dX3_atWord_51 (fun h51 => ?_) (fun h51 => ?_)
      · refine go_iinc 59 dX3_atWord_56 rfl (by decide) zc_1 ?_
        refine go_goto 28 dX3_atWord_59 ?_
        rw [nI_1]
        exact go_locals _ rfl (ih (j + 1) (by omega) (fun i hi => by
          by_cases e : i = j
          · rw [e]; first | exact h51 | exact Classical.not_not.mp h51
          · exact hj i (by omega)))
      · refine go_iconst 55 dX3_atWord_54 zc_0 ?_
        exact go_zreturn dX3_atWord_55 rfl (by omega) (by omega) (Or.inl rfl) (⟨by rw [zb_f (fun z => h51 (z.1 j (by omega)))], rfl⟩)
set_option maxRecDepth 100000 in
set_option maxHeartbeats 4000000 in
theorem ct_X3_atWord {l : Launch} {Γ : ZG} {w : ZW} {r : Nat} {R : RS} {B : ZB} {n q : Nat} (hn : R.1 5 = nI n) (hB : BB R.2.1 n = B) (hT : TB B n) (hA : At B n R q) (hq : q ≤ n) {q9 : String × Nat × String} (hw : q9 ∈ zStr) (hl9 : Ltr q9.2.2) : Cm l Γ mX3_atWord 7 [.ref r, .ref (Γ.2.2.2.1 q9.1 q9.2.1)] (wZ Γ w r R) (some (.int (zb (wd B q9.2.2 q)))) (wZ Γ w r R) := by
  have hn6 := hT.1
  have hl6 := zStr_len q9 hw
  refine Cm.of (by decide) rfl (Nat.le_of_ble_eq_true rfl) ?_
  refine go_aload_n 1 dX3_atWord_0 rfl ?_
  refine xs_get 4 dX3_atWord_1 fX3_75 rfl ?_
  refine go_iconst 5 dX3_atWord_4 zc_1 ?_
  refine go_icmp_ne 24 8 dX3_atWord_5 (fun h5 => ?_) (fun h5 => ?_)
  · refine go_iconst 25 dX3_atWord_24 zc_0 ?_
    exact go_zreturn dX3_atWord_25 rfl (by omega) (by omega) (Or.inl rfl) (⟨by rw [zb_f (fun z => by
      have := wd_el hT hl9 z
      first
      | exact h5 ((tk_eq hA (by decide)).mpr (tk_1.mpr this.2))
      | exact h21 (by rw [this.1, Nat.add_sub_cancel_left]))], rfl⟩)
  · refine go_aload_n 9 dX3_atWord_8 rfl ?_
    have ht1 : isL B q = true := tk_1.mp ((tk_eq hA (by decide)).mp (by first | exact h5 | exact Classical.not_not.mp h5))
    have hd1 : isD B q = false := by
      cases hd : isD B q with
      | false => rfl
      | true => rw [isDL hd] at ht1; exact absurd ht1 (by decide)
    have hps : ps B n q = el B q := by unfold ps; rw [if_neg (by rw [hd1]; decide), if_pos ht1]
    refine xs_get 12 dX3_atWord_9 fX3_33 rfl ?_
    refine go_aload_n 13 dX3_atWord_12 rfl ?_
    refine xs_get 16 dX3_atWord_13 fX3_164 rfl ?_
    refine go_isub 17 dX3_atWord_16 ?_
    rw [hA.2.2.1, hA.1, hps, nI_sub el_ge]
    refine go_aload_n 18 dX3_atWord_17 rfl ?_
    refine gcVS0 21 dX3_atWord_18 vX3_174 hw (ct_J0_length hw) ?_
    refine go_icmp_eq 26 24 dX3_atWord_21 (fun h21 => ?_) (fun h21 => ?_)
    · refine go_iconst 27 dX3_atWord_26 zc_0 ?_
      refine go_istore_n 28 dX3_atWord_27 (by decide) ?_
      have hE9 : el B q = q + q9.2.2.length := by
        have e := (nI_eq (a := el B q - q) (b := q9.2.2.length) (by have := el_le hT hq; omega) (by omega)).mp (by first | exact h21 | exact Classical.not_not.mp h21)
        have := el_ge (B := B) (p := q)
        omega
      exact go_locals _ rfl (lp_X3_atWord hn hB hT hA hq hw hl9 (by rw [← hE9]; exact el_stop hT hq) q9.2.2.length 0 (Nat.zero_add _) (fun i hi => absurd hi (Nat.not_lt_zero i)))
    · refine go_iconst 25 dX3_atWord_24 zc_0 ?_
      exact go_zreturn dX3_atWord_25 rfl (by omega) (by omega) (Or.inl rfl) (⟨by rw [zb_f (fun z => by
        have := wd_el hT hl9 z
        first
        | exact h5 ((tk_eq hA (by decide)).mpr (tk_1.mpr this.2))
        | exact h21 (by rw [this.1, Nat.add_sub_cancel_left]))], rfl⟩)
end CLex
