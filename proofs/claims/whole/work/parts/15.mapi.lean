section MApi
set_option maxRecDepth 100000 in
set_option maxHeartbeats 4000000 in
theorem lp_X6_copy {l : Launch} {Γ : ZG} {w : ZW} {a b : Nat} {f g : Nat → Int32} (ha : w.2 a = some (.inl (Γ.2.2.1 0, 1666, .inl f))) (hb : w.2 b = some (.inl (Γ.2.2.1 0, 1666, .inl g))) (hab : a ≠ b) : ∀ (n i : Nat), i + n = 1666 → Go l Γ mX6_copy 1 0 0 (fun v w2 => v = none ∧ w2 = wset w b (.inl (Γ.2.2.1 0, 1666, .inl f))) zNo 0 0 (wset w b (.inl (Γ.2.2.1 0, 1666, .inl (cpi f g i)))) 2 [(0, .ref a), (1, .ref b), (2, .int (nI i))] [] := by
  intro n
  induction n with
  | zero =>
    intro i hif
    refine go_iload_n 3 dX6_copy_2 rfl ?_
    refine go_sipush 6 dX6_copy_3 zs_1666 ?_
    refine go_icmp_ge 21 9 dX6_copy_6 (fun h6 => ?_) (fun h6 => ?_)
    · exact go_conv (g := f) wset_at (fun j hj => if_pos (by omega)) (go_return dX6_copy_21 rfl (by omega) (by omega) (⟨rfl, wset_wset⟩))
    · exact (lpE (a := 1666) (N := 1666) rfl (by omega) h6).elim
  | succ n ih =>
    intro i hif
    refine go_iload_n 3 dX6_copy_2 rfl ?_
    refine go_sipush 6 dX6_copy_3 zs_1666 ?_
    refine go_icmp_ge 21 9 dX6_copy_6 (fun h6 => ?_) (fun h6 => ?_)
    · exact (lpG (a := 1666) (N := 1666) rfl (by decide) (by omega) h6).elim
    · refine go_aload_n 10 dX6_copy_9 rfl ?_
      refine go_iload_n 11 dX6_copy_10 rfl ?_
      refine go_aload_n 12 dX6_copy_11 rfl ?_
      refine go_iload_n 13 dX6_copy_12 rfl ?_
      refine go_iald 14 dX6_copy_13 ((wset_ne hab).trans ha) (vp_in_nI (n := i) (by omega) (by decide)) ?_
      rw [nI_clamp (by omega)]
      refine go_iast 15 dX6_copy_14 wset_at (vp_in_nI (n := i) (by omega) (by decide)) ?_
      rw [nI_clamp (by omega), wset_wset, cpi_s]
      refine go_iinc 18 dX6_copy_15 rfl (by decide) zc_1 ?_
      refine go_goto 2 dX6_copy_18 ?_
      rw [nI_1]
      exact go_locals _ rfl (ih (i + 1) (by omega))

set_option maxRecDepth 100000 in
set_option maxHeartbeats 4000000 in
theorem ct_X6_copy {l : Launch} {Γ : ZG} {w : ZW} {a b : Nat} {f g : Nat → Int32} (ha : w.2 a = some (.inl (Γ.2.2.1 0, 1666, .inl f))) (hb : w.2 b = some (.inl (Γ.2.2.1 0, 1666, .inl g))) (hab : a ≠ b) : Cm l Γ mX6_copy 1 [.ref a, .ref b] w none (wset w b (.inl (Γ.2.2.1 0, 1666, .inl f))) := by
  refine Cm.of (by decide) rfl (Nat.le_of_ble_eq_true rfl) ?_
  refine go_iconst 1 dX6_copy_0 zc_0 ?_
  refine go_istore_n 2 dX6_copy_1 (by decide) ?_
  refine go_conv (g := cpi f g 0) hb (fun j hj => (if_neg (by omega)).symm) ?_
  exact go_locals _ rfl (lp_X6_copy ha hb hab 1666 0 (by omega))

set_option maxRecDepth 100000 in
set_option maxHeartbeats 4000000 in
theorem ct_X6_fails_n {l : Launch} {Γ : ZG} {w : ZW} {o : Nat} {S : MS} {D : ZD} {e : Int32} (h0 : S.1 0 = 0) : Cm l Γ mX6_fails 1 [.ref o, .int 0, .int e] (wD Γ w o S D) (some (.int 0)) (wD Γ w o S D) := by
  refine Cm.of (by decide) rfl (Nat.le_of_ble_eq_true rfl) ?_
  refine go_iload_n 1 dX6_fails_0 rfl ?_
  refine go_if_eq 16 4 dX6_fails_1 (fun h1 => ?_) (fun h1 => ?_)
  · refine go_aload_n 17 dX6_fails_16 rfl ?_
    refine gd_get 20 dX6_fails_17 fX6_39 rfl ?_
    refine go_if_eq 27 23 dX6_fails_20 (fun h20 => ?_) (fun h20 => ?_)
    · refine go_iconst 28 dX6_fails_27 zc_0 ?_
      exact go_zreturn dX6_fails_28 rfl (by omega) (by omega) (Or.inl rfl) (⟨rfl, rfl⟩)
    · exact absurd h0 h20
  · exact absurd h1 (by decide)

set_option maxRecDepth 100000 in
set_option maxHeartbeats 4000000 in
theorem ct_X6_fails_y {l : Launch} {Γ : ZG} {w : ZW} {o : Nat} {S : MS} {D : ZD} {e : Int32} (h0 : S.1 0 = 0) (he : e ≠ 0) : Cm l Γ mX6_fails 1 [.ref o, .int 1, .int e] (wD Γ w o S D) (some (.int 1)) (wD Γ w o (mf S 0 e) D) := by
  refine Cm.of (by decide) rfl (Nat.le_of_ble_eq_true rfl) ?_
  refine go_iload_n 1 dX6_fails_0 rfl ?_
  refine go_if_eq 16 4 dX6_fails_1 (fun h1 => ?_) (fun h1 => ?_)
  · exact absurd h1 (by decide)
  · refine go_aload_n 5 dX6_fails_4 rfl ?_
    refine gd_get 8 dX6_fails_5 fX6_39 rfl ?_
    refine go_if_ne 16 11 dX6_fails_8 (fun h8 => ?_) (fun h8 => ?_)
    · exact absurd h0 h8
    · refine go_aload_n 12 dX6_fails_11 rfl ?_
      refine go_iload_n 13 dX6_fails_12 rfl ?_
      refine gd_put 16 dX6_fails_13 pX6_39 rfl (by decide) ?_
      refine go_aload_n 17 dX6_fails_16 rfl ?_
      refine gd_get 20 dX6_fails_17 fX6_39 rfl ?_
      refine go_if_eq 27 23 dX6_fails_20 (fun h20 => ?_) (fun h20 => ?_)
      · exact absurd h20 he
      · refine go_iconst 24 dX6_fails_23 zc_1 ?_
        refine go_goto 28 dX6_fails_24 ?_
        exact go_zreturn dX6_fails_28 rfl (by omega) (by omega) (Or.inr rfl) (⟨rfl, rfl⟩)

set_option maxRecDepth 100000 in
set_option maxHeartbeats 4000000 in
theorem ct_X6_noParty_n {l : Launch} {Γ : ZG} {w : ZW} {o : Nat} {S : MS} {D : ZD} {x : Int32} (h : 0 ≤ x ∧ x ≤ D 4 - 1) (h0 : S.1 0 = 0) : Cm l Γ mX6_noParty 2 [.ref o, .int x] (wD Γ w o S D) (some (.int 0)) (wD Γ w o S D) := by
  refine Cm.of (by decide) rfl (Nat.le_of_ble_eq_true rfl) ?_
  refine go_aload_n 1 dX6_noParty_0 rfl ?_
  refine go_iload_n 2 dX6_noParty_1 rfl ?_
  refine go_iconst 3 dX6_noParty_2 zc_0 ?_
  refine go_aload_n 4 dX6_noParty_3 rfl ?_
  refine gd_get 7 dX6_noParty_4 fX6_17 rfl ?_
  refine go_iconst 8 dX6_noParty_7 zc_4 ?_
  refine gd_iald 9 (4) dX6_noParty_8 rfl (by decide) ?_
  refine go_iconst 10 dX6_noParty_9 zc_1 ?_
  refine go_isub 11 dX6_noParty_10 ?_
  refine gcS3 14 dX6_noParty_11 vX6_61 (ct_X6_in) ?_
  refine go_if_ne 21 17 dX6_noParty_14 (fun h14 => ?_) (fun h14 => ?_)
  · refine go_iconst 22 dX6_noParty_21 zc_0 ?_
    refine go_iconst 23 dX6_noParty_22 zc_1 ?_
    refine gdV2 26 dX6_noParty_23 vX6_149 (ct_X6_fails_n h0) ?_
    exact go_zreturn dX6_noParty_26 rfl (by omega) (by omega) (Or.inl rfl) (⟨rfl, rfl⟩)
  · exact (zb_0 h14 h).elim

set_option maxRecDepth 100000 in
set_option maxHeartbeats 4000000 in
theorem ct_X6_noParty_y {l : Launch} {Γ : ZG} {w : ZW} {o : Nat} {S : MS} {D : ZD} {x : Int32} (h : ¬ (0 ≤ x ∧ x ≤ D 4 - 1)) (h0 : S.1 0 = 0) : Cm l Γ mX6_noParty 2 [.ref o, .int x] (wD Γ w o S D) (some (.int 1)) (wD Γ w o (mf S 0 1) D) := by
  refine Cm.of (by decide) rfl (Nat.le_of_ble_eq_true rfl) ?_
  refine go_aload_n 1 dX6_noParty_0 rfl ?_
  refine go_iload_n 2 dX6_noParty_1 rfl ?_
  refine go_iconst 3 dX6_noParty_2 zc_0 ?_
  refine go_aload_n 4 dX6_noParty_3 rfl ?_
  refine gd_get 7 dX6_noParty_4 fX6_17 rfl ?_
  refine go_iconst 8 dX6_noParty_7 zc_4 ?_
  refine gd_iald 9 (4) dX6_noParty_8 rfl (by decide) ?_
  refine go_iconst 10 dX6_noParty_9 zc_1 ?_
  refine go_isub 11 dX6_noParty_10 ?_
  refine gcS3 14 dX6_noParty_11 vX6_61 (ct_X6_in) ?_
  refine go_if_ne 21 17 dX6_noParty_14 (fun h14 => ?_) (fun h14 => ?_)
  · exact (h (zb_1 h14)).elim
  · refine go_iconst 18 dX6_noParty_17 zc_1 ?_
    refine go_goto 22 dX6_noParty_18 ?_
    refine go_iconst 23 dX6_noParty_22 zc_1 ?_
    refine gdV2 26 dX6_noParty_23 vX6_149 (ct_X6_fails_y h0 (by decide)) ?_
    exact go_zreturn dX6_noParty_26 rfl (by omega) (by omega) (Or.inr rfl) (⟨rfl, rfl⟩)

set_option maxRecDepth 100000 in
set_option maxHeartbeats 4000000 in
theorem ct_X6_noCall_n {l : Launch} {Γ : ZG} {w : ZW} {o : Nat} {S : MS} {D : ZD} {x : Int32} (h : 0 ≤ x ∧ x ≤ D 5 - 1) (h0 : S.1 0 = 0) : Cm l Γ mX6_noCall 2 [.ref o, .int x] (wD Γ w o S D) (some (.int 0)) (wD Γ w o S D) := by
  refine Cm.of (by decide) rfl (Nat.le_of_ble_eq_true rfl) ?_
  refine go_aload_n 1 dX6_noCall_0 rfl ?_
  refine go_iload_n 2 dX6_noCall_1 rfl ?_
  refine go_iconst 3 dX6_noCall_2 zc_0 ?_
  refine go_aload_n 4 dX6_noCall_3 rfl ?_
  refine gd_get 7 dX6_noCall_4 fX6_17 rfl ?_
  refine go_iconst 8 dX6_noCall_7 zc_5 ?_
  refine gd_iald 9 (5) dX6_noCall_8 rfl (by decide) ?_
  refine go_iconst 10 dX6_noCall_9 zc_1 ?_
  refine go_isub 11 dX6_noCall_10 ?_
  refine gcS3 14 dX6_noCall_11 vX6_61 (ct_X6_in) ?_
  refine go_if_ne 21 17 dX6_noCall_14 (fun h14 => ?_) (fun h14 => ?_)
  · refine go_iconst 22 dX6_noCall_21 zc_0 ?_
    refine go_iconst 23 dX6_noCall_22 zc_1 ?_
    refine gdV2 26 dX6_noCall_23 vX6_149 (ct_X6_fails_n h0) ?_
    exact go_zreturn dX6_noCall_26 rfl (by omega) (by omega) (Or.inl rfl) (⟨rfl, rfl⟩)
  · exact (zb_0 h14 h).elim

set_option maxRecDepth 100000 in
set_option maxHeartbeats 4000000 in
theorem ct_X6_noCall_y {l : Launch} {Γ : ZG} {w : ZW} {o : Nat} {S : MS} {D : ZD} {x : Int32} (h : ¬ (0 ≤ x ∧ x ≤ D 5 - 1)) (h0 : S.1 0 = 0) : Cm l Γ mX6_noCall 2 [.ref o, .int x] (wD Γ w o S D) (some (.int 1)) (wD Γ w o (mf S 0 1) D) := by
  refine Cm.of (by decide) rfl (Nat.le_of_ble_eq_true rfl) ?_
  refine go_aload_n 1 dX6_noCall_0 rfl ?_
  refine go_iload_n 2 dX6_noCall_1 rfl ?_
  refine go_iconst 3 dX6_noCall_2 zc_0 ?_
  refine go_aload_n 4 dX6_noCall_3 rfl ?_
  refine gd_get 7 dX6_noCall_4 fX6_17 rfl ?_
  refine go_iconst 8 dX6_noCall_7 zc_5 ?_
  refine gd_iald 9 (5) dX6_noCall_8 rfl (by decide) ?_
  refine go_iconst 10 dX6_noCall_9 zc_1 ?_
  refine go_isub 11 dX6_noCall_10 ?_
  refine gcS3 14 dX6_noCall_11 vX6_61 (ct_X6_in) ?_
  refine go_if_ne 21 17 dX6_noCall_14 (fun h14 => ?_) (fun h14 => ?_)
  · exact (h (zb_1 h14)).elim
  · refine go_iconst 18 dX6_noCall_17 zc_1 ?_
    refine go_goto 22 dX6_noCall_18 ?_
    refine go_iconst 23 dX6_noCall_22 zc_1 ?_
    refine gdV2 26 dX6_noCall_23 vX6_149 (ct_X6_fails_y h0 (by decide)) ?_
    exact go_zreturn dX6_noCall_26 rfl (by omega) (by omega) (Or.inr rfl) (⟨rfl, rfl⟩)

set_option maxRecDepth 100000 in
set_option maxHeartbeats 4000000 in
theorem ct_X6_noLeg_n {l : Launch} {Γ : ZG} {w : ZW} {o : Nat} {S : MS} {D : ZD} {x : Int32} (h : 0 ≤ x ∧ x ≤ D 6 - 1) (h0 : S.1 0 = 0) : Cm l Γ mX6_noLeg 2 [.ref o, .int x] (wD Γ w o S D) (some (.int 0)) (wD Γ w o S D) := by
  refine Cm.of (by decide) rfl (Nat.le_of_ble_eq_true rfl) ?_
  refine go_aload_n 1 dX6_noLeg_0 rfl ?_
  refine go_iload_n 2 dX6_noLeg_1 rfl ?_
  refine go_iconst 3 dX6_noLeg_2 zc_0 ?_
  refine go_aload_n 4 dX6_noLeg_3 rfl ?_
  refine gd_get 7 dX6_noLeg_4 fX6_17 rfl ?_
  refine go_bipush 9 dX6_noLeg_7 zb_6 ?_
  refine gd_iald 10 (6) dX6_noLeg_9 rfl (by decide) ?_
  refine go_iconst 11 dX6_noLeg_10 zc_1 ?_
  refine go_isub 12 dX6_noLeg_11 ?_
  refine gcS3 15 dX6_noLeg_12 vX6_61 (ct_X6_in) ?_
  refine go_if_ne 22 18 dX6_noLeg_15 (fun h15 => ?_) (fun h15 => ?_)
  · refine go_iconst 23 dX6_noLeg_22 zc_0 ?_
    refine go_iconst 24 dX6_noLeg_23 zc_1 ?_
    refine gdV2 27 dX6_noLeg_24 vX6_149 (ct_X6_fails_n h0) ?_
    exact go_zreturn dX6_noLeg_27 rfl (by omega) (by omega) (Or.inl rfl) (⟨rfl, rfl⟩)
  · exact (zb_0 h15 h).elim

set_option maxRecDepth 100000 in
set_option maxHeartbeats 4000000 in
theorem ct_X6_noLeg_y {l : Launch} {Γ : ZG} {w : ZW} {o : Nat} {S : MS} {D : ZD} {x : Int32} (h : ¬ (0 ≤ x ∧ x ≤ D 6 - 1)) (h0 : S.1 0 = 0) : Cm l Γ mX6_noLeg 2 [.ref o, .int x] (wD Γ w o S D) (some (.int 1)) (wD Γ w o (mf S 0 1) D) := by
  refine Cm.of (by decide) rfl (Nat.le_of_ble_eq_true rfl) ?_
  refine go_aload_n 1 dX6_noLeg_0 rfl ?_
  refine go_iload_n 2 dX6_noLeg_1 rfl ?_
  refine go_iconst 3 dX6_noLeg_2 zc_0 ?_
  refine go_aload_n 4 dX6_noLeg_3 rfl ?_
  refine gd_get 7 dX6_noLeg_4 fX6_17 rfl ?_
  refine go_bipush 9 dX6_noLeg_7 zb_6 ?_
  refine gd_iald 10 (6) dX6_noLeg_9 rfl (by decide) ?_
  refine go_iconst 11 dX6_noLeg_10 zc_1 ?_
  refine go_isub 12 dX6_noLeg_11 ?_
  refine gcS3 15 dX6_noLeg_12 vX6_61 (ct_X6_in) ?_
  refine go_if_ne 22 18 dX6_noLeg_15 (fun h15 => ?_) (fun h15 => ?_)
  · exact (h (zb_1 h15)).elim
  · refine go_iconst 19 dX6_noLeg_18 zc_1 ?_
    refine go_goto 23 dX6_noLeg_19 ?_
    refine go_iconst 24 dX6_noLeg_23 zc_1 ?_
    refine gdV2 27 dX6_noLeg_24 vX6_149 (ct_X6_fails_y h0 (by decide)) ?_
    exact go_zreturn dX6_noLeg_27 rfl (by omega) (by omega) (Or.inr rfl) (⟨rfl, rfl⟩)

set_option maxRecDepth 100000 in
set_option maxHeartbeats 4000000 in
theorem ct_X6_noWhat_n {l : Launch} {Γ : ZG} {w : ZW} {o : Nat} {S : MS} {D : ZD} {x y e : Int32} (h : 0 ≤ x ∧ x ≤ y) (h0 : S.1 0 = 0) : Cm l Γ mX6_noWhat 2 [.ref o, .int x, .int y, .int e] (wD Γ w o S D) (some (.int 0)) (wD Γ w o S D) := by
  refine Cm.of (by decide) rfl (Nat.le_of_ble_eq_true rfl) ?_
  refine go_aload_n 1 dX6_noWhat_0 rfl ?_
  refine go_iload_n 2 dX6_noWhat_1 rfl ?_
  refine go_iconst 3 dX6_noWhat_2 zc_0 ?_
  refine go_iload_n 4 dX6_noWhat_3 rfl ?_
  refine gcS3 7 dX6_noWhat_4 vX6_61 (ct_X6_in) ?_
  refine go_if_ne 14 10 dX6_noWhat_7 (fun h7 => ?_) (fun h7 => ?_)
  · refine go_iconst 15 dX6_noWhat_14 zc_0 ?_
    refine go_iload_n 16 dX6_noWhat_15 rfl ?_
    refine gdV2 19 dX6_noWhat_16 vX6_149 (ct_X6_fails_n h0) ?_
    exact go_zreturn dX6_noWhat_19 rfl (by omega) (by omega) (Or.inl rfl) (⟨rfl, rfl⟩)
  · exact (zb_0 h7 h).elim

set_option maxRecDepth 100000 in
set_option maxHeartbeats 4000000 in
theorem ct_X6_noWhat_y {l : Launch} {Γ : ZG} {w : ZW} {o : Nat} {S : MS} {D : ZD} {x y e : Int32} (h : ¬ (0 ≤ x ∧ x ≤ y)) (h0 : S.1 0 = 0) (he : e ≠ 0) : Cm l Γ mX6_noWhat 2 [.ref o, .int x, .int y, .int e] (wD Γ w o S D) (some (.int 1)) (wD Γ w o (mf S 0 e) D) := by
  refine Cm.of (by decide) rfl (Nat.le_of_ble_eq_true rfl) ?_
  refine go_aload_n 1 dX6_noWhat_0 rfl ?_
  refine go_iload_n 2 dX6_noWhat_1 rfl ?_
  refine go_iconst 3 dX6_noWhat_2 zc_0 ?_
  refine go_iload_n 4 dX6_noWhat_3 rfl ?_
  refine gcS3 7 dX6_noWhat_4 vX6_61 (ct_X6_in) ?_
  refine go_if_ne 14 10 dX6_noWhat_7 (fun h7 => ?_) (fun h7 => ?_)
  · exact (h (zb_1 h7)).elim
  · refine go_iconst 11 dX6_noWhat_10 zc_1 ?_
    refine go_goto 15 dX6_noWhat_11 ?_
    refine go_iload_n 16 dX6_noWhat_15 rfl ?_
    refine gdV2 19 dX6_noWhat_16 vX6_149 (ct_X6_fails_y h0 he) ?_
    exact go_zreturn dX6_noWhat_19 rfl (by omega) (by omega) (Or.inr rfl) (⟨rfl, rfl⟩)

set_option maxRecDepth 100000 in
set_option maxHeartbeats 4000000 in
theorem ct_X6_thrown {l : Launch} {Γ : ZG} {w : ZW} {o : Nat} {S : MS} {D : ZD}  : Cm l Γ mX6_thrown 1 [.ref o] (wD Γ w o S D) (some (.int (S.1 0))) (wD Γ w o S D) := by
  refine Cm.of (by decide) rfl (Nat.le_of_ble_eq_true rfl) ?_
  refine go_aload_n 1 dX6_thrown_0 rfl ?_
  refine gd_get 4 dX6_thrown_1 fX6_39 rfl ?_
  exact go_ireturn dX6_thrown_4 rfl (by omega) (by omega) (⟨rfl, rfl⟩)

set_option maxRecDepth 100000 in
set_option maxHeartbeats 4000000 in
theorem ct_X6_errorOffset {l : Launch} {Γ : ZG} {w : ZW} {o : Nat} {S : MS} {D : ZD}  : Cm l Γ mX6_errorOffset 1 [.ref o] (wD Γ w o S D) (some (.int (S.1 7))) (wD Γ w o (mf S 0 0) D) := by
  refine Cm.of (by decide) rfl (Nat.le_of_ble_eq_true rfl) ?_
  refine go_aload_n 1 dX6_errorOffset_0 rfl ?_
  refine go_iconst 2 dX6_errorOffset_1 zc_0 ?_
  refine gd_put 5 dX6_errorOffset_2 pX6_39 rfl (by decide) ?_
  refine go_aload_n 6 dX6_errorOffset_5 rfl ?_
  refine gd_get 9 dX6_errorOffset_6 fX6_13 rfl ?_
  exact go_ireturn dX6_errorOffset_9 rfl (by omega) (by omega) (⟨rfl, rfl⟩)

set_option maxRecDepth 100000 in
set_option maxHeartbeats 4000000 in
theorem ct_X6_time {l : Launch} {Γ : ZG} {w : ZW} {o : Nat} {S : MS} {D : ZD}  : Cm l Γ mX6_time 1 [.ref o] (wD Γ w o S D) (some (.int (D 0))) (wD Γ w o (mf S 0 0) D) := by
  refine Cm.of (by decide) rfl (Nat.le_of_ble_eq_true rfl) ?_
  refine go_aload_n 1 dX6_time_0 rfl ?_
  refine go_iconst 2 dX6_time_1 zc_0 ?_
  refine gd_put 5 dX6_time_2 pX6_39 rfl (by decide) ?_
  refine go_aload_n 6 dX6_time_5 rfl ?_
  refine gd_get 9 dX6_time_6 fX6_17 rfl ?_
  refine go_iconst 10 dX6_time_9 zc_0 ?_
  refine gd_iald 11 (0) dX6_time_10 rfl (by decide) ?_
  exact go_ireturn dX6_time_11 rfl (by omega) (by omega) (⟨rfl, rfl⟩)

set_option maxRecDepth 100000 in
set_option maxHeartbeats 4000000 in
theorem ct_X6_count_x {l : Launch} {Γ : ZG} {w : ZW} {o : Nat} {S : MS} {D : ZD} {y : Int32} (h2 : ¬ (0 ≤ y ∧ y ≤ 7)) : Cm l Γ mX6_count 5 [.ref o, .int y] (wD Γ w o S D) (some (.int 0)) (wD Γ w o (mf (mf S 0 0) 0 1) D) := by
  refine Cm.of (by decide) rfl (Nat.le_of_ble_eq_true rfl) ?_
  refine go_aload_n 1 dX6_count_0 rfl ?_
  refine go_iconst 2 dX6_count_1 zc_0 ?_
  refine gd_put 5 dX6_count_2 pX6_39 rfl (by decide) ?_
  refine go_aload_n 6 dX6_count_5 rfl ?_
  refine go_iload_n 7 dX6_count_6 rfl ?_
  refine go_bipush 9 dX6_count_7 zb_7 ?_
  refine go_iconst 10 dX6_count_9 zc_1 ?_
  refine gdV3 13 dX6_count_10 vX6_265 (ct_X6_noWhat_y h2 rfl (by decide)) ?_
  refine go_if_eq 18 16 dX6_count_13 (fun h13 => ?_) (fun h13 => ?_)
  · exact absurd h13 (by decide)
  · refine go_iconst 17 dX6_count_16 zc_0 ?_
    exact go_ireturn dX6_count_17 rfl (by omega) (by omega) (⟨rfl, rfl⟩)

set_option maxRecDepth 100000 in
set_option maxHeartbeats 4000000 in
theorem ct_X6_count_0 {l : Launch} {Γ : ZG} {w : ZW} {o : Nat} {S : MS} {D : ZD} (hI : Ix D) : Cm l Γ mX6_count 5 [.ref o, .int 0] (wD Γ w o S D) (some (.int (D 4))) (wD Γ w o (mf S 0 0) D) := by
  refine Cm.of (by decide) rfl (Nat.le_of_ble_eq_true rfl) ?_
  refine go_aload_n 1 dX6_count_0 rfl ?_
  refine go_iconst 2 dX6_count_1 zc_0 ?_
  refine gd_put 5 dX6_count_2 pX6_39 rfl (by decide) ?_
  refine go_aload_n 6 dX6_count_5 rfl ?_
  refine go_iload_n 7 dX6_count_6 rfl ?_
  refine go_bipush 9 dX6_count_7 zb_7 ?_
  refine go_iconst 10 dX6_count_9 zc_1 ?_
  refine gdV3 13 dX6_count_10 vX6_265 (ct_X6_noWhat_n (by decide) rfl) ?_
  refine go_if_eq 18 16 dX6_count_13 (fun h13 => ?_) (fun h13 => ?_)
  · refine go_iload_n 19 dX6_count_18 rfl ?_
    refine go_iconst 20 dX6_count_19 zc_3 ?_
    refine go_icmp_ge 34 23 dX6_count_20 (fun h20 => ?_) (fun h20 => ?_)
    · exact absurd h20 (by decide)
    · refine go_aload_n 24 dX6_count_23 rfl ?_
      refine gd_get 27 dX6_count_24 fX6_17 rfl ?_
      refine go_iconst 28 dX6_count_27 zc_4 ?_
      refine go_iload_n 29 dX6_count_28 rfl ?_
      refine go_iadd 30 dX6_count_29 ?_
      refine gd_iald 31 (4) dX6_count_30 (by decide) (by decide) ?_
      refine go_goto 70 dX6_count_31 ?_
      exact go_ireturn dX6_count_70 rfl (by omega) (by omega) (⟨rfl, rfl⟩)
  · exact absurd h13 (by decide)

set_option maxRecDepth 100000 in
set_option maxHeartbeats 4000000 in
theorem ct_X6_count_1 {l : Launch} {Γ : ZG} {w : ZW} {o : Nat} {S : MS} {D : ZD} (hI : Ix D) : Cm l Γ mX6_count 5 [.ref o, .int 1] (wD Γ w o S D) (some (.int (D 5))) (wD Γ w o (mf S 0 0) D) := by
  refine Cm.of (by decide) rfl (Nat.le_of_ble_eq_true rfl) ?_
  refine go_aload_n 1 dX6_count_0 rfl ?_
  refine go_iconst 2 dX6_count_1 zc_0 ?_
  refine gd_put 5 dX6_count_2 pX6_39 rfl (by decide) ?_
  refine go_aload_n 6 dX6_count_5 rfl ?_
  refine go_iload_n 7 dX6_count_6 rfl ?_
  refine go_bipush 9 dX6_count_7 zb_7 ?_
  refine go_iconst 10 dX6_count_9 zc_1 ?_
  refine gdV3 13 dX6_count_10 vX6_265 (ct_X6_noWhat_n (by decide) rfl) ?_
  refine go_if_eq 18 16 dX6_count_13 (fun h13 => ?_) (fun h13 => ?_)
  · refine go_iload_n 19 dX6_count_18 rfl ?_
    refine go_iconst 20 dX6_count_19 zc_3 ?_
    refine go_icmp_ge 34 23 dX6_count_20 (fun h20 => ?_) (fun h20 => ?_)
    · exact absurd h20 (by decide)
    · refine go_aload_n 24 dX6_count_23 rfl ?_
      refine gd_get 27 dX6_count_24 fX6_17 rfl ?_
      refine go_iconst 28 dX6_count_27 zc_4 ?_
      refine go_iload_n 29 dX6_count_28 rfl ?_
      refine go_iadd 30 dX6_count_29 ?_
      refine gd_iald 31 (5) dX6_count_30 (by decide) (by decide) ?_
      refine go_goto 70 dX6_count_31 ?_
      exact go_ireturn dX6_count_70 rfl (by omega) (by omega) (⟨rfl, rfl⟩)
  · exact absurd h13 (by decide)

set_option maxRecDepth 100000 in
set_option maxHeartbeats 4000000 in
theorem ct_X6_count_2 {l : Launch} {Γ : ZG} {w : ZW} {o : Nat} {S : MS} {D : ZD} (hI : Ix D) : Cm l Γ mX6_count 5 [.ref o, .int 2] (wD Γ w o S D) (some (.int (D 6))) (wD Γ w o (mf S 0 0) D) := by
  refine Cm.of (by decide) rfl (Nat.le_of_ble_eq_true rfl) ?_
  refine go_aload_n 1 dX6_count_0 rfl ?_
  refine go_iconst 2 dX6_count_1 zc_0 ?_
  refine gd_put 5 dX6_count_2 pX6_39 rfl (by decide) ?_
  refine go_aload_n 6 dX6_count_5 rfl ?_
  refine go_iload_n 7 dX6_count_6 rfl ?_
  refine go_bipush 9 dX6_count_7 zb_7 ?_
  refine go_iconst 10 dX6_count_9 zc_1 ?_
  refine gdV3 13 dX6_count_10 vX6_265 (ct_X6_noWhat_n (by decide) rfl) ?_
  refine go_if_eq 18 16 dX6_count_13 (fun h13 => ?_) (fun h13 => ?_)
  · refine go_iload_n 19 dX6_count_18 rfl ?_
    refine go_iconst 20 dX6_count_19 zc_3 ?_
    refine go_icmp_ge 34 23 dX6_count_20 (fun h20 => ?_) (fun h20 => ?_)
    · exact absurd h20 (by decide)
    · refine go_aload_n 24 dX6_count_23 rfl ?_
      refine gd_get 27 dX6_count_24 fX6_17 rfl ?_
      refine go_iconst 28 dX6_count_27 zc_4 ?_
      refine go_iload_n 29 dX6_count_28 rfl ?_
      refine go_iadd 30 dX6_count_29 ?_
      refine gd_iald 31 (6) dX6_count_30 (by decide) (by decide) ?_
      refine go_goto 70 dX6_count_31 ?_
      exact go_ireturn dX6_count_70 rfl (by omega) (by omega) (⟨rfl, rfl⟩)
  · exact absurd h13 (by decide)

set_option maxRecDepth 100000 in
set_option maxHeartbeats 4000000 in
theorem ct_X6_count_3 {l : Launch} {Γ : ZG} {w : ZW} {o : Nat} {S : MS} {D : ZD} (hI : Ix D) : Cm l Γ mX6_count 5 [.ref o, .int 3] (wD Γ w o S D) (some (.int (cntSt D 1))) (wD Γ w o (mf S 0 0) D) := by
  refine Cm.of (by decide) rfl (Nat.le_of_ble_eq_true rfl) ?_
  refine go_aload_n 1 dX6_count_0 rfl ?_
  refine go_iconst 2 dX6_count_1 zc_0 ?_
  refine gd_put 5 dX6_count_2 pX6_39 rfl (by decide) ?_
  refine go_aload_n 6 dX6_count_5 rfl ?_
  refine go_iload_n 7 dX6_count_6 rfl ?_
  refine go_bipush 9 dX6_count_7 zb_7 ?_
  refine go_iconst 10 dX6_count_9 zc_1 ?_
  refine gdV3 13 dX6_count_10 vX6_265 (ct_X6_noWhat_n (by decide) rfl) ?_
  refine go_if_eq 18 16 dX6_count_13 (fun h13 => ?_) (fun h13 => ?_)
  · refine go_iload_n 19 dX6_count_18 rfl ?_
    refine go_iconst 20 dX6_count_19 zc_3 ?_
    refine go_icmp_ge 34 23 dX6_count_20 (fun h20 => ?_) (fun h20 => ?_)
    · refine go_iload_n 35 dX6_count_34 rfl ?_
      refine go_iconst 36 dX6_count_35 zc_3 ?_
      refine go_icmp_ne 47 39 dX6_count_36 (fun h36 => ?_) (fun h36 => ?_)
      · exact absurd h36 (by decide)
      · refine go_aload_n 40 dX6_count_39 rfl ?_
        refine go_iconst 41 dX6_count_40 zc_1 ?_
        refine gdV1 44 dX6_count_41 vX6_268 (ct_X6_countOf hI) ?_
        refine go_goto 70 dX6_count_44 ?_
        exact go_ireturn dX6_count_70 rfl (by omega) (by omega) (⟨rfl, rfl⟩)
    · exact absurd h20 (by decide)
  · exact absurd h13 (by decide)

set_option maxRecDepth 100000 in
set_option maxHeartbeats 4000000 in
theorem ct_X6_count_4 {l : Launch} {Γ : ZG} {w : ZW} {o : Nat} {S : MS} {D : ZD} (hI : Ix D) : Cm l Γ mX6_count 5 [.ref o, .int 4] (wD Γ w o S D) (some (.int (cntSt D 0))) (wD Γ w o (mf S 0 0) D) := by
  refine Cm.of (by decide) rfl (Nat.le_of_ble_eq_true rfl) ?_
  refine go_aload_n 1 dX6_count_0 rfl ?_
  refine go_iconst 2 dX6_count_1 zc_0 ?_
  refine gd_put 5 dX6_count_2 pX6_39 rfl (by decide) ?_
  refine go_aload_n 6 dX6_count_5 rfl ?_
  refine go_iload_n 7 dX6_count_6 rfl ?_
  refine go_bipush 9 dX6_count_7 zb_7 ?_
  refine go_iconst 10 dX6_count_9 zc_1 ?_
  refine gdV3 13 dX6_count_10 vX6_265 (ct_X6_noWhat_n (by decide) rfl) ?_
  refine go_if_eq 18 16 dX6_count_13 (fun h13 => ?_) (fun h13 => ?_)
  · refine go_iload_n 19 dX6_count_18 rfl ?_
    refine go_iconst 20 dX6_count_19 zc_3 ?_
    refine go_icmp_ge 34 23 dX6_count_20 (fun h20 => ?_) (fun h20 => ?_)
    · refine go_iload_n 35 dX6_count_34 rfl ?_
      refine go_iconst 36 dX6_count_35 zc_3 ?_
      refine go_icmp_ne 47 39 dX6_count_36 (fun h36 => ?_) (fun h36 => ?_)
      · refine go_iload_n 48 dX6_count_47 rfl ?_
        refine go_iconst 49 dX6_count_48 zc_4 ?_
        refine go_icmp_ne 60 52 dX6_count_49 (fun h49 => ?_) (fun h49 => ?_)
        · exact absurd h49 (by decide)
        · refine go_aload_n 53 dX6_count_52 rfl ?_
          refine go_iconst 54 dX6_count_53 zc_0 ?_
          refine gdV1 57 dX6_count_54 vX6_268 (ct_X6_countOf hI) ?_
          refine go_goto 70 dX6_count_57 ?_
          exact go_ireturn dX6_count_70 rfl (by omega) (by omega) (⟨rfl, rfl⟩)
      · exact absurd h36 (by decide)
    · exact absurd h20 (by decide)
  · exact absurd h13 (by decide)

set_option maxRecDepth 100000 in
set_option maxHeartbeats 4000000 in
theorem ct_X6_count_5 {l : Launch} {Γ : ZG} {w : ZW} {o : Nat} {S : MS} {D : ZD} (hI : Ix D) : Cm l Γ mX6_count 5 [.ref o, .int 5] (wD Γ w o S D) (some (.int (D 1))) (wD Γ w o (mf S 0 0) D) := by
  refine Cm.of (by decide) rfl (Nat.le_of_ble_eq_true rfl) ?_
  refine go_aload_n 1 dX6_count_0 rfl ?_
  refine go_iconst 2 dX6_count_1 zc_0 ?_
  refine gd_put 5 dX6_count_2 pX6_39 rfl (by decide) ?_
  refine go_aload_n 6 dX6_count_5 rfl ?_
  refine go_iload_n 7 dX6_count_6 rfl ?_
  refine go_bipush 9 dX6_count_7 zb_7 ?_
  refine go_iconst 10 dX6_count_9 zc_1 ?_
  refine gdV3 13 dX6_count_10 vX6_265 (ct_X6_noWhat_n (by decide) rfl) ?_
  refine go_if_eq 18 16 dX6_count_13 (fun h13 => ?_) (fun h13 => ?_)
  · refine go_iload_n 19 dX6_count_18 rfl ?_
    refine go_iconst 20 dX6_count_19 zc_3 ?_
    refine go_icmp_ge 34 23 dX6_count_20 (fun h20 => ?_) (fun h20 => ?_)
    · refine go_iload_n 35 dX6_count_34 rfl ?_
      refine go_iconst 36 dX6_count_35 zc_3 ?_
      refine go_icmp_ne 47 39 dX6_count_36 (fun h36 => ?_) (fun h36 => ?_)
      · refine go_iload_n 48 dX6_count_47 rfl ?_
        refine go_iconst 49 dX6_count_48 zc_4 ?_
        refine go_icmp_ne 60 52 dX6_count_49 (fun h49 => ?_) (fun h49 => ?_)
        · refine go_aload_n 61 dX6_count_60 rfl ?_
          refine gd_get 64 dX6_count_61 fX6_17 rfl ?_
          refine go_iconst 65 dX6_count_64 zc_1 ?_
          refine go_iload_n 66 dX6_count_65 rfl ?_
          refine go_iadd 67 dX6_count_66 ?_
          refine go_iconst 68 dX6_count_67 zc_5 ?_
          refine go_isub 69 dX6_count_68 ?_
          refine gd_iald 70 (1) dX6_count_69 (by decide) (by decide) ?_
          exact go_ireturn dX6_count_70 rfl (by omega) (by omega) (⟨rfl, rfl⟩)
        · exact absurd h49 (by decide)
      · exact absurd h36 (by decide)
    · exact absurd h20 (by decide)
  · exact absurd h13 (by decide)

set_option maxRecDepth 100000 in
set_option maxHeartbeats 4000000 in
theorem ct_X6_count_6 {l : Launch} {Γ : ZG} {w : ZW} {o : Nat} {S : MS} {D : ZD} (hI : Ix D) : Cm l Γ mX6_count 5 [.ref o, .int 6] (wD Γ w o S D) (some (.int (D 2))) (wD Γ w o (mf S 0 0) D) := by
  refine Cm.of (by decide) rfl (Nat.le_of_ble_eq_true rfl) ?_
  refine go_aload_n 1 dX6_count_0 rfl ?_
  refine go_iconst 2 dX6_count_1 zc_0 ?_
  refine gd_put 5 dX6_count_2 pX6_39 rfl (by decide) ?_
  refine go_aload_n 6 dX6_count_5 rfl ?_
  refine go_iload_n 7 dX6_count_6 rfl ?_
  refine go_bipush 9 dX6_count_7 zb_7 ?_
  refine go_iconst 10 dX6_count_9 zc_1 ?_
  refine gdV3 13 dX6_count_10 vX6_265 (ct_X6_noWhat_n (by decide) rfl) ?_
  refine go_if_eq 18 16 dX6_count_13 (fun h13 => ?_) (fun h13 => ?_)
  · refine go_iload_n 19 dX6_count_18 rfl ?_
    refine go_iconst 20 dX6_count_19 zc_3 ?_
    refine go_icmp_ge 34 23 dX6_count_20 (fun h20 => ?_) (fun h20 => ?_)
    · refine go_iload_n 35 dX6_count_34 rfl ?_
      refine go_iconst 36 dX6_count_35 zc_3 ?_
      refine go_icmp_ne 47 39 dX6_count_36 (fun h36 => ?_) (fun h36 => ?_)
      · refine go_iload_n 48 dX6_count_47 rfl ?_
        refine go_iconst 49 dX6_count_48 zc_4 ?_
        refine go_icmp_ne 60 52 dX6_count_49 (fun h49 => ?_) (fun h49 => ?_)
        · refine go_aload_n 61 dX6_count_60 rfl ?_
          refine gd_get 64 dX6_count_61 fX6_17 rfl ?_
          refine go_iconst 65 dX6_count_64 zc_1 ?_
          refine go_iload_n 66 dX6_count_65 rfl ?_
          refine go_iadd 67 dX6_count_66 ?_
          refine go_iconst 68 dX6_count_67 zc_5 ?_
          refine go_isub 69 dX6_count_68 ?_
          refine gd_iald 70 (2) dX6_count_69 (by decide) (by decide) ?_
          exact go_ireturn dX6_count_70 rfl (by omega) (by omega) (⟨rfl, rfl⟩)
        · exact absurd h49 (by decide)
      · exact absurd h36 (by decide)
    · exact absurd h20 (by decide)
  · exact absurd h13 (by decide)

set_option maxRecDepth 100000 in
set_option maxHeartbeats 4000000 in
theorem ct_X6_count_7 {l : Launch} {Γ : ZG} {w : ZW} {o : Nat} {S : MS} {D : ZD} (hI : Ix D) : Cm l Γ mX6_count 5 [.ref o, .int 7] (wD Γ w o S D) (some (.int (D 3))) (wD Γ w o (mf S 0 0) D) := by
  refine Cm.of (by decide) rfl (Nat.le_of_ble_eq_true rfl) ?_
  refine go_aload_n 1 dX6_count_0 rfl ?_
  refine go_iconst 2 dX6_count_1 zc_0 ?_
  refine gd_put 5 dX6_count_2 pX6_39 rfl (by decide) ?_
  refine go_aload_n 6 dX6_count_5 rfl ?_
  refine go_iload_n 7 dX6_count_6 rfl ?_
  refine go_bipush 9 dX6_count_7 zb_7 ?_
  refine go_iconst 10 dX6_count_9 zc_1 ?_
  refine gdV3 13 dX6_count_10 vX6_265 (ct_X6_noWhat_n (by decide) rfl) ?_
  refine go_if_eq 18 16 dX6_count_13 (fun h13 => ?_) (fun h13 => ?_)
  · refine go_iload_n 19 dX6_count_18 rfl ?_
    refine go_iconst 20 dX6_count_19 zc_3 ?_
    refine go_icmp_ge 34 23 dX6_count_20 (fun h20 => ?_) (fun h20 => ?_)
    · refine go_iload_n 35 dX6_count_34 rfl ?_
      refine go_iconst 36 dX6_count_35 zc_3 ?_
      refine go_icmp_ne 47 39 dX6_count_36 (fun h36 => ?_) (fun h36 => ?_)
      · refine go_iload_n 48 dX6_count_47 rfl ?_
        refine go_iconst 49 dX6_count_48 zc_4 ?_
        refine go_icmp_ne 60 52 dX6_count_49 (fun h49 => ?_) (fun h49 => ?_)
        · refine go_aload_n 61 dX6_count_60 rfl ?_
          refine gd_get 64 dX6_count_61 fX6_17 rfl ?_
          refine go_iconst 65 dX6_count_64 zc_1 ?_
          refine go_iload_n 66 dX6_count_65 rfl ?_
          refine go_iadd 67 dX6_count_66 ?_
          refine go_iconst 68 dX6_count_67 zc_5 ?_
          refine go_isub 69 dX6_count_68 ?_
          refine gd_iald 70 (3) dX6_count_69 (by decide) (by decide) ?_
          exact go_ireturn dX6_count_70 rfl (by omega) (by omega) (⟨rfl, rfl⟩)
        · exact absurd h49 (by decide)
      · exact absurd h36 (by decide)
    · exact absurd h20 (by decide)
  · exact absurd h13 (by decide)

set_option maxRecDepth 100000 in
set_option maxHeartbeats 4000000 in
theorem ct_X6_tellParty_0 {l : Launch} {Γ : ZG} {w : ZW} {o : Nat} {S : MS} {D : ZD} (hI : Ix D) {k : Nat} {x : Int32} (hx : x = nI k) (hk : k < 10) : Cm l Γ mX6_tellParty 7 [.ref o, .int x, .int 0] (wD Γ w o S D) (some (.int (dP D k 0))) (wD Γ w o S D) := by
  refine Cm.of (by decide) rfl (Nat.le_of_ble_eq_true rfl) ?_
  refine go_iload_n 1 dX6_tellParty_0 rfl ?_
  refine go_iconst 2 dX6_tellParty_1 zc_3 ?_
  refine go_icmp_ge 14 5 dX6_tellParty_2 (fun h2 => ?_) (fun h2 => ?_)
  · exact absurd h2 (by decide)
  · refine go_aload_n 6 dX6_tellParty_5 rfl ?_
    refine go_iload_n 7 dX6_tellParty_6 rfl ?_
    refine go_iload_n 8 dX6_tellParty_7 rfl ?_
    refine gdV2 11 dX6_tellParty_8 vX6_250 (ct_X6_ofParty (j := 0) hx rfl (by omega)) ?_
    refine go_goto 54 dX6_tellParty_11 ?_
    exact go_ireturn dX6_tellParty_54 rfl (by omega) (by omega) (⟨rfl, rfl⟩)

set_option maxRecDepth 100000 in
set_option maxHeartbeats 4000000 in
theorem ct_X6_tellParty_1 {l : Launch} {Γ : ZG} {w : ZW} {o : Nat} {S : MS} {D : ZD} (hI : Ix D) {k : Nat} {x : Int32} (hx : x = nI k) (hk : k < 10) : Cm l Γ mX6_tellParty 7 [.ref o, .int x, .int 1] (wD Γ w o S D) (some (.int (dP D k 1))) (wD Γ w o S D) := by
  refine Cm.of (by decide) rfl (Nat.le_of_ble_eq_true rfl) ?_
  refine go_iload_n 1 dX6_tellParty_0 rfl ?_
  refine go_iconst 2 dX6_tellParty_1 zc_3 ?_
  refine go_icmp_ge 14 5 dX6_tellParty_2 (fun h2 => ?_) (fun h2 => ?_)
  · exact absurd h2 (by decide)
  · refine go_aload_n 6 dX6_tellParty_5 rfl ?_
    refine go_iload_n 7 dX6_tellParty_6 rfl ?_
    refine go_iload_n 8 dX6_tellParty_7 rfl ?_
    refine gdV2 11 dX6_tellParty_8 vX6_250 (ct_X6_ofParty (j := 1) hx rfl (by omega)) ?_
    refine go_goto 54 dX6_tellParty_11 ?_
    exact go_ireturn dX6_tellParty_54 rfl (by omega) (by omega) (⟨rfl, rfl⟩)

set_option maxRecDepth 100000 in
set_option maxHeartbeats 4000000 in
theorem ct_X6_tellParty_2 {l : Launch} {Γ : ZG} {w : ZW} {o : Nat} {S : MS} {D : ZD} (hI : Ix D) {k : Nat} {x : Int32} (hx : x = nI k) (hk : k < 10) : Cm l Γ mX6_tellParty 7 [.ref o, .int x, .int 2] (wD Γ w o S D) (some (.int (dP D k 2))) (wD Γ w o S D) := by
  refine Cm.of (by decide) rfl (Nat.le_of_ble_eq_true rfl) ?_
  refine go_iload_n 1 dX6_tellParty_0 rfl ?_
  refine go_iconst 2 dX6_tellParty_1 zc_3 ?_
  refine go_icmp_ge 14 5 dX6_tellParty_2 (fun h2 => ?_) (fun h2 => ?_)
  · exact absurd h2 (by decide)
  · refine go_aload_n 6 dX6_tellParty_5 rfl ?_
    refine go_iload_n 7 dX6_tellParty_6 rfl ?_
    refine go_iload_n 8 dX6_tellParty_7 rfl ?_
    refine gdV2 11 dX6_tellParty_8 vX6_250 (ct_X6_ofParty (j := 2) hx rfl (by omega)) ?_
    refine go_goto 54 dX6_tellParty_11 ?_
    exact go_ireturn dX6_tellParty_54 rfl (by omega) (by omega) (⟨rfl, rfl⟩)

set_option maxRecDepth 100000 in
set_option maxHeartbeats 4000000 in
theorem ct_X6_tellParty_3 {l : Launch} {Γ : ZG} {w : ZW} {o : Nat} {S : MS} {D : ZD} (hI : Ix D) {k : Nat} {x : Int32} (hx : x = nI k) (hk : k < 10) : Cm l Γ mX6_tellParty 7 [.ref o, .int x, .int 3] (wD Γ w o S D) (some (.int (zb (eng D x)))) (wD Γ w o S D) := by
  refine Cm.of (by decide) rfl (Nat.le_of_ble_eq_true rfl) ?_
  refine go_iload_n 1 dX6_tellParty_0 rfl ?_
  refine go_iconst 2 dX6_tellParty_1 zc_3 ?_
  refine go_icmp_ge 14 5 dX6_tellParty_2 (fun h2 => ?_) (fun h2 => ?_)
  · refine go_iload_n 15 dX6_tellParty_14 rfl ?_
    refine go_iconst 16 dX6_tellParty_15 zc_3 ?_
    refine go_icmp_ne 35 19 dX6_tellParty_16 (fun h16 => ?_) (fun h16 => ?_)
    · exact absurd h16 (by decide)
    · refine go_aload_n 20 dX6_tellParty_19 rfl ?_
      refine go_iload_n 21 dX6_tellParty_20 rfl ?_
      refine gdV1 24 dX6_tellParty_21 vX6_234 (ct_X6_isEngaged hI) ?_
      refine go_if_eq 31 27 dX6_tellParty_24 (fun h24 => ?_) (fun h24 => ?_)
      · refine go_iconst 32 dX6_tellParty_31 zc_0 ?_
        refine go_goto 54 dX6_tellParty_32 ?_
        exact go_ireturn dX6_tellParty_54 rfl (by omega) (by omega) (⟨by first | rw [zb_t (zb_1 h24)] | rw [zb_f (zb_0 h24)], rfl⟩)
      · refine go_iconst 28 dX6_tellParty_27 zc_1 ?_
        refine go_goto 54 dX6_tellParty_28 ?_
        exact go_ireturn dX6_tellParty_54 rfl (by omega) (by omega) (⟨by first | rw [zb_t (zb_1 h24)] | rw [zb_f (zb_0 h24)], rfl⟩)
  · exact absurd h2 (by decide)

set_option maxRecDepth 100000 in
set_option maxHeartbeats 4000000 in
theorem ct_X6_tellParty_4 {l : Launch} {Γ : ZG} {w : ZW} {o : Nat} {S : MS} {D : ZD} (hI : Ix D) {k : Nat} {x : Int32} (hx : x = nI k) (hk : k < 10) : Cm l Γ mX6_tellParty 7 [.ref o, .int x, .int 4] (wD Γ w o S D) (some (.int (legW D x 1))) (wD Γ w o S D) := by
  refine Cm.of (by decide) rfl (Nat.le_of_ble_eq_true rfl) ?_
  refine go_iload_n 1 dX6_tellParty_0 rfl ?_
  refine go_iconst 2 dX6_tellParty_1 zc_3 ?_
  refine go_icmp_ge 14 5 dX6_tellParty_2 (fun h2 => ?_) (fun h2 => ?_)
  · refine go_iload_n 15 dX6_tellParty_14 rfl ?_
    refine go_iconst 16 dX6_tellParty_15 zc_3 ?_
    refine go_icmp_ne 35 19 dX6_tellParty_16 (fun h16 => ?_) (fun h16 => ?_)
    · refine go_iload_n 36 dX6_tellParty_35 rfl ?_
      refine go_iconst 37 dX6_tellParty_36 zc_4 ?_
      refine go_icmp_ne 49 40 dX6_tellParty_37 (fun h37 => ?_) (fun h37 => ?_)
      · exact absurd h37 (by decide)
      · refine go_aload_n 41 dX6_tellParty_40 rfl ?_
        refine go_iload_n 42 dX6_tellParty_41 rfl ?_
        refine go_iconst 43 dX6_tellParty_42 zc_1 ?_
        refine gdV2 46 dX6_tellParty_43 vX6_190 (ct_X6_legWith hI) ?_
        refine go_goto 54 dX6_tellParty_46 ?_
        exact go_ireturn dX6_tellParty_54 rfl (by omega) (by omega) (⟨rfl, rfl⟩)
    · exact absurd h16 (by decide)
  · exact absurd h2 (by decide)

set_option maxRecDepth 100000 in
set_option maxHeartbeats 4000000 in
theorem ct_X6_tellParty_5 {l : Launch} {Γ : ZG} {w : ZW} {o : Nat} {S : MS} {D : ZD} (hI : Ix D) {k : Nat} {x : Int32} (hx : x = nI k) (hk : k < 10) : Cm l Γ mX6_tellParty 7 [.ref o, .int x, .int 5] (wD Γ w o S D) (some (.int (rung D x))) (wD Γ w o S D) := by
  refine Cm.of (by decide) rfl (Nat.le_of_ble_eq_true rfl) ?_
  refine go_iload_n 1 dX6_tellParty_0 rfl ?_
  refine go_iconst 2 dX6_tellParty_1 zc_3 ?_
  refine go_icmp_ge 14 5 dX6_tellParty_2 (fun h2 => ?_) (fun h2 => ?_)
  · refine go_iload_n 15 dX6_tellParty_14 rfl ?_
    refine go_iconst 16 dX6_tellParty_15 zc_3 ?_
    refine go_icmp_ne 35 19 dX6_tellParty_16 (fun h16 => ?_) (fun h16 => ?_)
    · refine go_iload_n 36 dX6_tellParty_35 rfl ?_
      refine go_iconst 37 dX6_tellParty_36 zc_4 ?_
      refine go_icmp_ne 49 40 dX6_tellParty_37 (fun h37 => ?_) (fun h37 => ?_)
      · refine go_aload_n 50 dX6_tellParty_49 rfl ?_
        refine go_iload_n 51 dX6_tellParty_50 rfl ?_
        refine gdV1 54 dX6_tellParty_51 vX6_271 (ct_X6_rungAt hI) ?_
        exact go_ireturn dX6_tellParty_54 rfl (by omega) (by omega) (⟨rfl, rfl⟩)
      · exact absurd h37 (by decide)
    · exact absurd h16 (by decide)
  · exact absurd h2 (by decide)

set_option maxRecDepth 100000 in
set_option maxHeartbeats 4000000 in
theorem ct_X6_tellCall_0 {l : Launch} {Γ : ZG} {w : ZW} {o : Nat} {S : MS} {D : ZD} (hI : Ix D) {k : Nat} {x : Int32} (hx : x = nI k) (hk : k < 20) : Cm l Γ mX6_tellCall 5 [.ref o, .int x, .int 0] (wD Γ w o S D) (some (.int (dC D k 0))) (wD Γ w o S D) := by
  refine Cm.of (by decide) rfl (Nat.le_of_ble_eq_true rfl) ?_
  refine go_iload_n 1 dX6_tellCall_0 rfl ?_
  refine go_iconst 2 dX6_tellCall_1 zc_4 ?_
  refine go_icmp_ge 14 5 dX6_tellCall_2 (fun h2 => ?_) (fun h2 => ?_)
  · exact absurd h2 (by decide)
  · refine go_aload_n 6 dX6_tellCall_5 rfl ?_
    refine go_iload_n 7 dX6_tellCall_6 rfl ?_
    refine go_iload_n 8 dX6_tellCall_7 rfl ?_
    refine gdV2 11 dX6_tellCall_8 vX6_174 (ct_X6_ofCall (j := 0) hx rfl (by omega)) ?_
    refine go_goto 41 dX6_tellCall_11 ?_
    exact go_ireturn dX6_tellCall_41 rfl (by omega) (by omega) (⟨rfl, rfl⟩)

set_option maxRecDepth 100000 in
set_option maxHeartbeats 4000000 in
theorem ct_X6_tellCall_1 {l : Launch} {Γ : ZG} {w : ZW} {o : Nat} {S : MS} {D : ZD} (hI : Ix D) {k : Nat} {x : Int32} (hx : x = nI k) (hk : k < 20) : Cm l Γ mX6_tellCall 5 [.ref o, .int x, .int 1] (wD Γ w o S D) (some (.int (dC D k 1))) (wD Γ w o S D) := by
  refine Cm.of (by decide) rfl (Nat.le_of_ble_eq_true rfl) ?_
  refine go_iload_n 1 dX6_tellCall_0 rfl ?_
  refine go_iconst 2 dX6_tellCall_1 zc_4 ?_
  refine go_icmp_ge 14 5 dX6_tellCall_2 (fun h2 => ?_) (fun h2 => ?_)
  · exact absurd h2 (by decide)
  · refine go_aload_n 6 dX6_tellCall_5 rfl ?_
    refine go_iload_n 7 dX6_tellCall_6 rfl ?_
    refine go_iload_n 8 dX6_tellCall_7 rfl ?_
    refine gdV2 11 dX6_tellCall_8 vX6_174 (ct_X6_ofCall (j := 1) hx rfl (by omega)) ?_
    refine go_goto 41 dX6_tellCall_11 ?_
    exact go_ireturn dX6_tellCall_41 rfl (by omega) (by omega) (⟨rfl, rfl⟩)

set_option maxRecDepth 100000 in
set_option maxHeartbeats 4000000 in
theorem ct_X6_tellCall_2 {l : Launch} {Γ : ZG} {w : ZW} {o : Nat} {S : MS} {D : ZD} (hI : Ix D) {k : Nat} {x : Int32} (hx : x = nI k) (hk : k < 20) : Cm l Γ mX6_tellCall 5 [.ref o, .int x, .int 2] (wD Γ w o S D) (some (.int (dC D k 2))) (wD Γ w o S D) := by
  refine Cm.of (by decide) rfl (Nat.le_of_ble_eq_true rfl) ?_
  refine go_iload_n 1 dX6_tellCall_0 rfl ?_
  refine go_iconst 2 dX6_tellCall_1 zc_4 ?_
  refine go_icmp_ge 14 5 dX6_tellCall_2 (fun h2 => ?_) (fun h2 => ?_)
  · exact absurd h2 (by decide)
  · refine go_aload_n 6 dX6_tellCall_5 rfl ?_
    refine go_iload_n 7 dX6_tellCall_6 rfl ?_
    refine go_iload_n 8 dX6_tellCall_7 rfl ?_
    refine gdV2 11 dX6_tellCall_8 vX6_174 (ct_X6_ofCall (j := 2) hx rfl (by omega)) ?_
    refine go_goto 41 dX6_tellCall_11 ?_
    exact go_ireturn dX6_tellCall_41 rfl (by omega) (by omega) (⟨rfl, rfl⟩)

set_option maxRecDepth 100000 in
set_option maxHeartbeats 4000000 in
theorem ct_X6_tellCall_3 {l : Launch} {Γ : ZG} {w : ZW} {o : Nat} {S : MS} {D : ZD} (hI : Ix D) {k : Nat} {x : Int32} (hx : x = nI k) (hk : k < 20) : Cm l Γ mX6_tellCall 5 [.ref o, .int x, .int 3] (wD Γ w o S D) (some (.int (dC D k 3))) (wD Γ w o S D) := by
  refine Cm.of (by decide) rfl (Nat.le_of_ble_eq_true rfl) ?_
  refine go_iload_n 1 dX6_tellCall_0 rfl ?_
  refine go_iconst 2 dX6_tellCall_1 zc_4 ?_
  refine go_icmp_ge 14 5 dX6_tellCall_2 (fun h2 => ?_) (fun h2 => ?_)
  · exact absurd h2 (by decide)
  · refine go_aload_n 6 dX6_tellCall_5 rfl ?_
    refine go_iload_n 7 dX6_tellCall_6 rfl ?_
    refine go_iload_n 8 dX6_tellCall_7 rfl ?_
    refine gdV2 11 dX6_tellCall_8 vX6_174 (ct_X6_ofCall (j := 3) hx rfl (by omega)) ?_
    refine go_goto 41 dX6_tellCall_11 ?_
    exact go_ireturn dX6_tellCall_41 rfl (by omega) (by omega) (⟨rfl, rfl⟩)

set_option maxRecDepth 100000 in
set_option maxHeartbeats 4000000 in
theorem ct_X6_tellCall_4 {l : Launch} {Γ : ZG} {w : ZW} {o : Nat} {S : MS} {D : ZD} (hI : Ix D) {k : Nat} {x : Int32} (hx : x = nI k) (hk : k < 20) : Cm l Γ mX6_tellCall 5 [.ref o, .int x, .int 4] (wD Γ w o S D) (some (.int (zb (rngs D x)))) (wD Γ w o S D) := by
  refine Cm.of (by decide) rfl (Nat.le_of_ble_eq_true rfl) ?_
  refine go_iload_n 1 dX6_tellCall_0 rfl ?_
  refine go_iconst 2 dX6_tellCall_1 zc_4 ?_
  refine go_icmp_ge 14 5 dX6_tellCall_2 (fun h2 => ?_) (fun h2 => ?_)
  · refine go_iload_n 15 dX6_tellCall_14 rfl ?_
    refine go_iconst 16 dX6_tellCall_15 zc_4 ?_
    refine go_icmp_ne 35 19 dX6_tellCall_16 (fun h16 => ?_) (fun h16 => ?_)
    · exact absurd h16 (by decide)
    · refine go_aload_n 20 dX6_tellCall_19 rfl ?_
      refine go_iload_n 21 dX6_tellCall_20 rfl ?_
      refine gdV1 24 dX6_tellCall_21 vX6_187 (ct_X6_rings hI) ?_
      refine go_if_eq 31 27 dX6_tellCall_24 (fun h24 => ?_) (fun h24 => ?_)
      · refine go_iconst 32 dX6_tellCall_31 zc_0 ?_
        refine go_goto 41 dX6_tellCall_32 ?_
        exact go_ireturn dX6_tellCall_41 rfl (by omega) (by omega) (⟨by first | rw [zb_t (zb_1 h24)] | rw [zb_f (zb_0 h24)], rfl⟩)
      · refine go_iconst 28 dX6_tellCall_27 zc_1 ?_
        refine go_goto 41 dX6_tellCall_28 ?_
        exact go_ireturn dX6_tellCall_41 rfl (by omega) (by omega) (⟨by first | rw [zb_t (zb_1 h24)] | rw [zb_f (zb_0 h24)], rfl⟩)
  · exact absurd h2 (by decide)

set_option maxRecDepth 100000 in
set_option maxHeartbeats 4000000 in
theorem ct_X6_tellCall_5 {l : Launch} {Γ : ZG} {w : ZW} {o : Nat} {S : MS} {D : ZD} (hI : Ix D) {k : Nat} {x : Int32} (hx : x = nI k) (hk : k < 20) : Cm l Γ mX6_tellCall 5 [.ref o, .int x, .int 5] (wD Γ w o S D) (some (.int (dC D k 4))) (wD Γ w o S D) := by
  refine Cm.of (by decide) rfl (Nat.le_of_ble_eq_true rfl) ?_
  refine go_iload_n 1 dX6_tellCall_0 rfl ?_
  refine go_iconst 2 dX6_tellCall_1 zc_4 ?_
  refine go_icmp_ge 14 5 dX6_tellCall_2 (fun h2 => ?_) (fun h2 => ?_)
  · refine go_iload_n 15 dX6_tellCall_14 rfl ?_
    refine go_iconst 16 dX6_tellCall_15 zc_4 ?_
    refine go_icmp_ne 35 19 dX6_tellCall_16 (fun h16 => ?_) (fun h16 => ?_)
    · refine go_aload_n 36 dX6_tellCall_35 rfl ?_
      refine go_iload_n 37 dX6_tellCall_36 rfl ?_
      refine go_iconst 38 dX6_tellCall_37 zc_4 ?_
      refine gdV2 41 dX6_tellCall_38 vX6_174 (ct_X6_ofCall (j := 4) hx rfl (by omega)) ?_
      exact go_ireturn dX6_tellCall_41 rfl (by omega) (by omega) (⟨rfl, rfl⟩)
    · exact absurd h16 (by decide)
  · exact absurd h2 (by decide)

noncomputable def tellP (D : ZD) (k j : Nat) : Int32 := if j < 3 then dP D k j else if j = 3 then zb (eng D (nI k)) else if j = 4 then legW D (nI k) 1 else rung D (nI k)
noncomputable def tellC (D : ZD) (k j : Nat) : Int32 := if j < 4 then dC D k j else if j = 4 then zb (rngs D (nI k)) else dC D k 4

set_option maxRecDepth 100000 in
set_option maxHeartbeats 4000000 in
theorem ct_X6_tellParty {l : Launch} {Γ : ZG} {w : ZW} {o : Nat} {S : MS} {D : ZD} (hI : Ix D) {k j : Nat} {x y : Int32} (hx : x = nI k) (hy : y = nI j) (hk : k < 10) (hj : j < 6) : Cm l Γ mX6_tellParty 7 [.ref o, .int x, .int y] (wD Γ w o S D) (some (.int (tellP D k j))) (wD Γ w o S D) := by
  subst hx
  subst hy
  rcases (show j = 0 ∨ j = 1 ∨ j = 2 ∨ j = 3 ∨ j = 4 ∨ j = 5 by omega) with rfl | rfl | rfl | rfl | rfl | rfl
  · exact ct_X6_tellParty_0 hI rfl hk
  · exact ct_X6_tellParty_1 hI rfl hk
  · exact ct_X6_tellParty_2 hI rfl hk
  · exact ct_X6_tellParty_3 hI rfl hk
  · exact ct_X6_tellParty_4 hI rfl hk
  · exact ct_X6_tellParty_5 hI rfl hk

set_option maxRecDepth 100000 in
set_option maxHeartbeats 4000000 in
theorem ct_X6_tellCall {l : Launch} {Γ : ZG} {w : ZW} {o : Nat} {S : MS} {D : ZD} (hI : Ix D) {k j : Nat} {x y : Int32} (hx : x = nI k) (hy : y = nI j) (hk : k < 20) (hj : j < 6) : Cm l Γ mX6_tellCall 5 [.ref o, .int x, .int y] (wD Γ w o S D) (some (.int (tellC D k j))) (wD Γ w o S D) := by
  subst hx
  subst hy
  rcases (show j = 0 ∨ j = 1 ∨ j = 2 ∨ j = 3 ∨ j = 4 ∨ j = 5 by omega) with rfl | rfl | rfl | rfl | rfl | rfl
  · exact ct_X6_tellCall_0 hI rfl hk
  · exact ct_X6_tellCall_1 hI rfl hk
  · exact ct_X6_tellCall_2 hI rfl hk
  · exact ct_X6_tellCall_3 hI rfl hk
  · exact ct_X6_tellCall_4 hI rfl hk
  · exact ct_X6_tellCall_5 hI rfl hk

set_option maxRecDepth 100000 in
set_option maxHeartbeats 4000000 in
theorem ct_X6_party_1 {l : Launch} {Γ : ZG} {w : ZW} {o : Nat} {S : MS} {D : ZD} {x y : Int32} (h1 : ¬ (0 ≤ x ∧ x ≤ D 4 - 1)) : Cm l Γ mX6_party 8 [.ref o, .int x, .int y] (wD Γ w o S D) (some (.int 0)) (wD Γ w o (mf (mf S 0 0) 0 1) D) := by
  refine Cm.of (by decide) rfl (Nat.le_of_ble_eq_true rfl) ?_
  refine go_aload_n 1 dX6_party_0 rfl ?_
  refine go_iconst 2 dX6_party_1 zc_0 ?_
  refine gd_put 5 dX6_party_2 pX6_39 rfl (by decide) ?_
  refine go_aload_n 6 dX6_party_5 rfl ?_
  refine go_iload_n 7 dX6_party_6 rfl ?_
  refine gdV1 10 dX6_party_7 vX6_274 (ct_X6_noParty_y h1 rfl) ?_
  refine go_if_ne 23 13 dX6_party_10 (fun h10 => ?_) (fun h10 => ?_)
  · refine go_iconst 24 dX6_party_23 zc_0 ?_
    refine go_goto 33 dX6_party_24 ?_
    exact go_ireturn dX6_party_33 rfl (by omega) (by omega) (⟨rfl, rfl⟩)
  · exact absurd h10 (by decide)

set_option maxRecDepth 100000 in
set_option maxHeartbeats 4000000 in
theorem ct_X6_party_2 {l : Launch} {Γ : ZG} {w : ZW} {o : Nat} {S : MS} {D : ZD} {x y : Int32} (h1 : 0 ≤ x ∧ x ≤ D 4 - 1) (h2 : ¬ (0 ≤ y ∧ y ≤ 5)) : Cm l Γ mX6_party 8 [.ref o, .int x, .int y] (wD Γ w o S D) (some (.int 0)) (wD Γ w o (mf (mf S 0 0) 0 2) D) := by
  refine Cm.of (by decide) rfl (Nat.le_of_ble_eq_true rfl) ?_
  refine go_aload_n 1 dX6_party_0 rfl ?_
  refine go_iconst 2 dX6_party_1 zc_0 ?_
  refine gd_put 5 dX6_party_2 pX6_39 rfl (by decide) ?_
  refine go_aload_n 6 dX6_party_5 rfl ?_
  refine go_iload_n 7 dX6_party_6 rfl ?_
  refine gdV1 10 dX6_party_7 vX6_274 (ct_X6_noParty_n h1 rfl) ?_
  refine go_if_ne 23 13 dX6_party_10 (fun h10 => ?_) (fun h10 => ?_)
  · exact absurd h10 (by decide)
  · refine go_aload_n 14 dX6_party_13 rfl ?_
    refine go_iload_n 15 dX6_party_14 rfl ?_
    refine go_iconst 16 dX6_party_15 zc_5 ?_
    refine go_iconst 17 dX6_party_16 zc_2 ?_
    refine gdV3 20 dX6_party_17 vX6_265 (ct_X6_noWhat_y h2 rfl (by decide)) ?_
    refine go_if_eq 27 23 dX6_party_20 (fun h20 => ?_) (fun h20 => ?_)
    · exact absurd h20 (by decide)
    · refine go_iconst 24 dX6_party_23 zc_0 ?_
      refine go_goto 33 dX6_party_24 ?_
      exact go_ireturn dX6_party_33 rfl (by omega) (by omega) (⟨rfl, rfl⟩)

set_option maxRecDepth 100000 in
set_option maxHeartbeats 4000000 in
theorem ct_X6_party {l : Launch} {Γ : ZG} {w : ZW} {o : Nat} {S : MS} {D : ZD} (hI : Ix D) {k j : Nat} {x y : Int32} (hx : x = nI k) (hy : y = nI j) (hk : k < 10) (hj : j < 6) (h1 : 0 ≤ x ∧ x ≤ D 4 - 1) (h2 : 0 ≤ y ∧ y ≤ 5) : Cm l Γ mX6_party 8 [.ref o, .int x, .int y] (wD Γ w o S D) (some (.int (tellP D k j))) (wD Γ w o (mf S 0 0) D) := by
  refine Cm.of (by decide) rfl (Nat.le_of_ble_eq_true rfl) ?_
  refine go_aload_n 1 dX6_party_0 rfl ?_
  refine go_iconst 2 dX6_party_1 zc_0 ?_
  refine gd_put 5 dX6_party_2 pX6_39 rfl (by decide) ?_
  refine go_aload_n 6 dX6_party_5 rfl ?_
  refine go_iload_n 7 dX6_party_6 rfl ?_
  refine gdV1 10 dX6_party_7 vX6_274 (ct_X6_noParty_n h1 rfl) ?_
  refine go_if_ne 23 13 dX6_party_10 (fun h10 => ?_) (fun h10 => ?_)
  · exact absurd h10 (by decide)
  · refine go_aload_n 14 dX6_party_13 rfl ?_
    refine go_iload_n 15 dX6_party_14 rfl ?_
    refine go_iconst 16 dX6_party_15 zc_5 ?_
    refine go_iconst 17 dX6_party_16 zc_2 ?_
    refine gdV3 20 dX6_party_17 vX6_265 (ct_X6_noWhat_n h2 rfl) ?_
    refine go_if_eq 27 23 dX6_party_20 (fun h20 => ?_) (fun h20 => ?_)
    · refine go_aload_n 28 dX6_party_27 rfl ?_
      refine go_iload_n 29 dX6_party_28 rfl ?_
      refine go_iload_n 30 dX6_party_29 rfl ?_
      refine gdV2 33 dX6_party_30 vX6_277 (ct_X6_tellParty hI hx hy hk hj) ?_
      exact go_ireturn dX6_party_33 rfl (by omega) (by omega) (⟨rfl, rfl⟩)
    · exact absurd h20 (by decide)

set_option maxRecDepth 100000 in
set_option maxHeartbeats 4000000 in
theorem ct_X6_call_1 {l : Launch} {Γ : ZG} {w : ZW} {o : Nat} {S : MS} {D : ZD} {x y : Int32} (h1 : ¬ (0 ≤ x ∧ x ≤ D 5 - 1)) : Cm l Γ mX6_call 6 [.ref o, .int x, .int y] (wD Γ w o S D) (some (.int 0)) (wD Γ w o (mf (mf S 0 0) 0 1) D) := by
  refine Cm.of (by decide) rfl (Nat.le_of_ble_eq_true rfl) ?_
  refine go_aload_n 1 dX6_call_0 rfl ?_
  refine go_iconst 2 dX6_call_1 zc_0 ?_
  refine gd_put 5 dX6_call_2 pX6_39 rfl (by decide) ?_
  refine go_aload_n 6 dX6_call_5 rfl ?_
  refine go_iload_n 7 dX6_call_6 rfl ?_
  refine gdV1 10 dX6_call_7 vX6_280 (ct_X6_noCall_y h1 rfl) ?_
  refine go_if_ne 23 13 dX6_call_10 (fun h10 => ?_) (fun h10 => ?_)
  · refine go_iconst 24 dX6_call_23 zc_0 ?_
    refine go_goto 33 dX6_call_24 ?_
    exact go_ireturn dX6_call_33 rfl (by omega) (by omega) (⟨rfl, rfl⟩)
  · exact absurd h10 (by decide)

set_option maxRecDepth 100000 in
set_option maxHeartbeats 4000000 in
theorem ct_X6_call_2 {l : Launch} {Γ : ZG} {w : ZW} {o : Nat} {S : MS} {D : ZD} {x y : Int32} (h1 : 0 ≤ x ∧ x ≤ D 5 - 1) (h2 : ¬ (0 ≤ y ∧ y ≤ 5)) : Cm l Γ mX6_call 6 [.ref o, .int x, .int y] (wD Γ w o S D) (some (.int 0)) (wD Γ w o (mf (mf S 0 0) 0 2) D) := by
  refine Cm.of (by decide) rfl (Nat.le_of_ble_eq_true rfl) ?_
  refine go_aload_n 1 dX6_call_0 rfl ?_
  refine go_iconst 2 dX6_call_1 zc_0 ?_
  refine gd_put 5 dX6_call_2 pX6_39 rfl (by decide) ?_
  refine go_aload_n 6 dX6_call_5 rfl ?_
  refine go_iload_n 7 dX6_call_6 rfl ?_
  refine gdV1 10 dX6_call_7 vX6_280 (ct_X6_noCall_n h1 rfl) ?_
  refine go_if_ne 23 13 dX6_call_10 (fun h10 => ?_) (fun h10 => ?_)
  · exact absurd h10 (by decide)
  · refine go_aload_n 14 dX6_call_13 rfl ?_
    refine go_iload_n 15 dX6_call_14 rfl ?_
    refine go_iconst 16 dX6_call_15 zc_5 ?_
    refine go_iconst 17 dX6_call_16 zc_2 ?_
    refine gdV3 20 dX6_call_17 vX6_265 (ct_X6_noWhat_y h2 rfl (by decide)) ?_
    refine go_if_eq 27 23 dX6_call_20 (fun h20 => ?_) (fun h20 => ?_)
    · exact absurd h20 (by decide)
    · refine go_iconst 24 dX6_call_23 zc_0 ?_
      refine go_goto 33 dX6_call_24 ?_
      exact go_ireturn dX6_call_33 rfl (by omega) (by omega) (⟨rfl, rfl⟩)

set_option maxRecDepth 100000 in
set_option maxHeartbeats 4000000 in
theorem ct_X6_call {l : Launch} {Γ : ZG} {w : ZW} {o : Nat} {S : MS} {D : ZD} (hI : Ix D) {k j : Nat} {x y : Int32} (hx : x = nI k) (hy : y = nI j) (hk : k < 20) (hj : j < 6) (h1 : 0 ≤ x ∧ x ≤ D 5 - 1) (h2 : 0 ≤ y ∧ y ≤ 5) : Cm l Γ mX6_call 6 [.ref o, .int x, .int y] (wD Γ w o S D) (some (.int (tellC D k j))) (wD Γ w o (mf S 0 0) D) := by
  refine Cm.of (by decide) rfl (Nat.le_of_ble_eq_true rfl) ?_
  refine go_aload_n 1 dX6_call_0 rfl ?_
  refine go_iconst 2 dX6_call_1 zc_0 ?_
  refine gd_put 5 dX6_call_2 pX6_39 rfl (by decide) ?_
  refine go_aload_n 6 dX6_call_5 rfl ?_
  refine go_iload_n 7 dX6_call_6 rfl ?_
  refine gdV1 10 dX6_call_7 vX6_280 (ct_X6_noCall_n h1 rfl) ?_
  refine go_if_ne 23 13 dX6_call_10 (fun h10 => ?_) (fun h10 => ?_)
  · exact absurd h10 (by decide)
  · refine go_aload_n 14 dX6_call_13 rfl ?_
    refine go_iload_n 15 dX6_call_14 rfl ?_
    refine go_iconst 16 dX6_call_15 zc_5 ?_
    refine go_iconst 17 dX6_call_16 zc_2 ?_
    refine gdV3 20 dX6_call_17 vX6_265 (ct_X6_noWhat_n h2 rfl) ?_
    refine go_if_eq 27 23 dX6_call_20 (fun h20 => ?_) (fun h20 => ?_)
    · refine go_aload_n 28 dX6_call_27 rfl ?_
      refine go_iload_n 29 dX6_call_28 rfl ?_
      refine go_iload_n 30 dX6_call_29 rfl ?_
      refine gdV2 33 dX6_call_30 vX6_283 (ct_X6_tellCall hI hx hy hk hj) ?_
      exact go_ireturn dX6_call_33 rfl (by omega) (by omega) (⟨rfl, rfl⟩)
    · exact absurd h20 (by decide)

set_option maxRecDepth 100000 in
set_option maxHeartbeats 4000000 in
theorem ct_X6_leg_1 {l : Launch} {Γ : ZG} {w : ZW} {o : Nat} {S : MS} {D : ZD} {x y : Int32} (h1 : ¬ (0 ≤ x ∧ x ≤ D 6 - 1)) : Cm l Γ mX6_leg 3 [.ref o, .int x, .int y] (wD Γ w o S D) (some (.int 0)) (wD Γ w o (mf (mf S 0 0) 0 1) D) := by
  refine Cm.of (by decide) rfl (Nat.le_of_ble_eq_true rfl) ?_
  refine go_aload_n 1 dX6_leg_0 rfl ?_
  refine go_iconst 2 dX6_leg_1 zc_0 ?_
  refine gd_put 5 dX6_leg_2 pX6_39 rfl (by decide) ?_
  refine go_aload_n 6 dX6_leg_5 rfl ?_
  refine go_iload_n 7 dX6_leg_6 rfl ?_
  refine gdV1 10 dX6_leg_7 vX6_286 (ct_X6_noLeg_y h1 rfl) ?_
  refine go_if_ne 23 13 dX6_leg_10 (fun h10 => ?_) (fun h10 => ?_)
  · refine go_iconst 24 dX6_leg_23 zc_0 ?_
    refine go_goto 33 dX6_leg_24 ?_
    exact go_ireturn dX6_leg_33 rfl (by omega) (by omega) (⟨rfl, rfl⟩)
  · exact absurd h10 (by decide)

set_option maxRecDepth 100000 in
set_option maxHeartbeats 4000000 in
theorem ct_X6_leg_2 {l : Launch} {Γ : ZG} {w : ZW} {o : Nat} {S : MS} {D : ZD} {x y : Int32} (h1 : 0 ≤ x ∧ x ≤ D 6 - 1) (h2 : ¬ (0 ≤ y ∧ y ≤ 5)) : Cm l Γ mX6_leg 3 [.ref o, .int x, .int y] (wD Γ w o S D) (some (.int 0)) (wD Γ w o (mf (mf S 0 0) 0 2) D) := by
  refine Cm.of (by decide) rfl (Nat.le_of_ble_eq_true rfl) ?_
  refine go_aload_n 1 dX6_leg_0 rfl ?_
  refine go_iconst 2 dX6_leg_1 zc_0 ?_
  refine gd_put 5 dX6_leg_2 pX6_39 rfl (by decide) ?_
  refine go_aload_n 6 dX6_leg_5 rfl ?_
  refine go_iload_n 7 dX6_leg_6 rfl ?_
  refine gdV1 10 dX6_leg_7 vX6_286 (ct_X6_noLeg_n h1 rfl) ?_
  refine go_if_ne 23 13 dX6_leg_10 (fun h10 => ?_) (fun h10 => ?_)
  · exact absurd h10 (by decide)
  · refine go_aload_n 14 dX6_leg_13 rfl ?_
    refine go_iload_n 15 dX6_leg_14 rfl ?_
    refine go_iconst 16 dX6_leg_15 zc_5 ?_
    refine go_iconst 17 dX6_leg_16 zc_2 ?_
    refine gdV3 20 dX6_leg_17 vX6_265 (ct_X6_noWhat_y h2 rfl (by decide)) ?_
    refine go_if_eq 27 23 dX6_leg_20 (fun h20 => ?_) (fun h20 => ?_)
    · exact absurd h20 (by decide)
    · refine go_iconst 24 dX6_leg_23 zc_0 ?_
      refine go_goto 33 dX6_leg_24 ?_
      exact go_ireturn dX6_leg_33 rfl (by omega) (by omega) (⟨rfl, rfl⟩)

set_option maxRecDepth 100000 in
set_option maxHeartbeats 4000000 in
theorem ct_X6_leg {l : Launch} {Γ : ZG} {w : ZW} {o : Nat} {S : MS} {D : ZD} (hI : Ix D) {k j : Nat} {x y : Int32} (hx : x = nI k) (hy : y = nI j) (hk : k < 40) (hj : j < 6) (h1 : 0 ≤ x ∧ x ≤ D 6 - 1) (h2 : 0 ≤ y ∧ y ≤ 5) : Cm l Γ mX6_leg 3 [.ref o, .int x, .int y] (wD Γ w o S D) (some (.int (dL D k j))) (wD Γ w o (mf S 0 0) D) := by
  refine Cm.of (by decide) rfl (Nat.le_of_ble_eq_true rfl) ?_
  refine go_aload_n 1 dX6_leg_0 rfl ?_
  refine go_iconst 2 dX6_leg_1 zc_0 ?_
  refine gd_put 5 dX6_leg_2 pX6_39 rfl (by decide) ?_
  refine go_aload_n 6 dX6_leg_5 rfl ?_
  refine go_iload_n 7 dX6_leg_6 rfl ?_
  refine gdV1 10 dX6_leg_7 vX6_286 (ct_X6_noLeg_n h1 rfl) ?_
  refine go_if_ne 23 13 dX6_leg_10 (fun h10 => ?_) (fun h10 => ?_)
  · exact absurd h10 (by decide)
  · refine go_aload_n 14 dX6_leg_13 rfl ?_
    refine go_iload_n 15 dX6_leg_14 rfl ?_
    refine go_iconst 16 dX6_leg_15 zc_5 ?_
    refine go_iconst 17 dX6_leg_16 zc_2 ?_
    refine gdV3 20 dX6_leg_17 vX6_265 (ct_X6_noWhat_n h2 rfl) ?_
    refine go_if_eq 27 23 dX6_leg_20 (fun h20 => ?_) (fun h20 => ?_)
    · refine go_aload_n 28 dX6_leg_27 rfl ?_
      refine go_iload_n 29 dX6_leg_28 rfl ?_
      refine go_iload_n 30 dX6_leg_29 rfl ?_
      refine gdV2 33 dX6_leg_30 vX6_171 (ct_X6_ofLeg hx hy (by omega)) ?_
      exact go_ireturn dX6_leg_33 rfl (by omega) (by omega) (⟨rfl, rfl⟩)
    · exact absurd h20 (by decide)

set_option maxRecDepth 100000 in
set_option maxHeartbeats 4000000 in
theorem ct_X6_repetition_1 {l : Launch} {Γ : ZG} {w : ZW} {o : Nat} {S : MS} {D : ZD} {x y : Int32} (h1 : ¬ (0 ≤ x ∧ x ≤ D 6 - 1)) : Cm l Γ mX6_repetition 3 [.ref o, .int x, .int y] (wD Γ w o S D) (some (.int 0)) (wD Γ w o (mf (mf S 0 0) 0 1) D) := by
  refine Cm.of (by decide) rfl (Nat.le_of_ble_eq_true rfl) ?_
  refine go_aload_n 1 dX6_repetition_0 rfl ?_
  refine go_iconst 2 dX6_repetition_1 zc_0 ?_
  refine gd_put 5 dX6_repetition_2 pX6_39 rfl (by decide) ?_
  refine go_aload_n 6 dX6_repetition_5 rfl ?_
  refine go_iload_n 7 dX6_repetition_6 rfl ?_
  refine gdV1 10 dX6_repetition_7 vX6_286 (ct_X6_noLeg_y h1 rfl) ?_
  refine go_if_ne 23 13 dX6_repetition_10 (fun h10 => ?_) (fun h10 => ?_)
  · refine go_iconst 24 dX6_repetition_23 zc_0 ?_
    refine go_goto 36 dX6_repetition_24 ?_
    exact go_ireturn dX6_repetition_36 rfl (by omega) (by omega) (⟨rfl, rfl⟩)
  · exact absurd h10 (by decide)

set_option maxRecDepth 100000 in
set_option maxHeartbeats 4000000 in
theorem ct_X6_repetition_2 {l : Launch} {Γ : ZG} {w : ZW} {o : Nat} {S : MS} {D : ZD} {x y : Int32} (h1 : 0 ≤ x ∧ x ≤ D 6 - 1) (h2 : ¬ (0 ≤ y ∧ y ≤ 1)) : Cm l Γ mX6_repetition 3 [.ref o, .int x, .int y] (wD Γ w o S D) (some (.int 0)) (wD Γ w o (mf (mf S 0 0) 0 2) D) := by
  refine Cm.of (by decide) rfl (Nat.le_of_ble_eq_true rfl) ?_
  refine go_aload_n 1 dX6_repetition_0 rfl ?_
  refine go_iconst 2 dX6_repetition_1 zc_0 ?_
  refine gd_put 5 dX6_repetition_2 pX6_39 rfl (by decide) ?_
  refine go_aload_n 6 dX6_repetition_5 rfl ?_
  refine go_iload_n 7 dX6_repetition_6 rfl ?_
  refine gdV1 10 dX6_repetition_7 vX6_286 (ct_X6_noLeg_n h1 rfl) ?_
  refine go_if_ne 23 13 dX6_repetition_10 (fun h10 => ?_) (fun h10 => ?_)
  · exact absurd h10 (by decide)
  · refine go_aload_n 14 dX6_repetition_13 rfl ?_
    refine go_iload_n 15 dX6_repetition_14 rfl ?_
    refine go_iconst 16 dX6_repetition_15 zc_1 ?_
    refine go_iconst 17 dX6_repetition_16 zc_2 ?_
    refine gdV3 20 dX6_repetition_17 vX6_265 (ct_X6_noWhat_y h2 rfl (by decide)) ?_
    refine go_if_eq 27 23 dX6_repetition_20 (fun h20 => ?_) (fun h20 => ?_)
    · exact absurd h20 (by decide)
    · refine go_iconst 24 dX6_repetition_23 zc_0 ?_
      refine go_goto 36 dX6_repetition_24 ?_
      exact go_ireturn dX6_repetition_36 rfl (by omega) (by omega) (⟨rfl, rfl⟩)

set_option maxRecDepth 100000 in
set_option maxHeartbeats 4000000 in
theorem ct_X6_repetition {l : Launch} {Γ : ZG} {w : ZW} {o : Nat} {S : MS} {D : ZD} {j : Nat} {k : Nat} {x y : Int32} (hx : x = nI k) (hk : k < 40) (hy : y = nI j) (hj : j < 2) (h1 : 0 ≤ x ∧ x ≤ D 6 - 1) (h2 : 0 ≤ y ∧ y ≤ 1) : Cm l Γ mX6_repetition 3 [.ref o, .int x, .int y] (wD Γ w o S D) (some (.int (dL D k (9 + j)))) (wD Γ w o (mf S 0 0) D) := by
  refine Cm.of (by decide) rfl (Nat.le_of_ble_eq_true rfl) ?_
  refine go_aload_n 1 dX6_repetition_0 rfl ?_
  refine go_iconst 2 dX6_repetition_1 zc_0 ?_
  refine gd_put 5 dX6_repetition_2 pX6_39 rfl (by decide) ?_
  refine go_aload_n 6 dX6_repetition_5 rfl ?_
  refine go_iload_n 7 dX6_repetition_6 rfl ?_
  refine gdV1 10 dX6_repetition_7 vX6_286 (ct_X6_noLeg_n h1 rfl) ?_
  refine go_if_ne 23 13 dX6_repetition_10 (fun h10 => ?_) (fun h10 => ?_)
  · exact absurd h10 (by decide)
  · refine go_aload_n 14 dX6_repetition_13 rfl ?_
    refine go_iload_n 15 dX6_repetition_14 rfl ?_
    refine go_iconst 16 dX6_repetition_15 zc_1 ?_
    refine go_iconst 17 dX6_repetition_16 zc_2 ?_
    refine gdV3 20 dX6_repetition_17 vX6_265 (ct_X6_noWhat_n h2 rfl) ?_
    refine go_if_eq 27 23 dX6_repetition_20 (fun h20 => ?_) (fun h20 => ?_)
    · refine go_aload_n 28 dX6_repetition_27 rfl ?_
      refine go_iload_n 29 dX6_repetition_28 rfl ?_
      refine go_bipush 31 dX6_repetition_29 zb_9 ?_
      refine go_iload_n 32 dX6_repetition_31 rfl ?_
      refine go_iadd 33 dX6_repetition_32 ?_
      refine gdV2 36 dX6_repetition_33 vX6_171 (ct_X6_ofLeg (j := 9 + j) hx (by rw [hy]; exact ix2 9 j _ rfl) (by omega)) ?_
      exact go_ireturn dX6_repetition_36 rfl (by omega) (by omega) (⟨rfl, rfl⟩)
    · exact absurd h20 (by decide)

set_option maxRecDepth 100000 in
set_option maxHeartbeats 4000000 in
theorem ct_X6_total_x {l : Launch} {Γ : ZG} {w : ZW} {o : Nat} {S : MS} {D : ZD} {y : Int32} (h2 : ¬ (0 ≤ y ∧ y ≤ 6)) : Cm l Γ mX6_total 3 [.ref o, .int y] (wD Γ w o S D) (some (.int 0)) (wD Γ w o (mf (mf S 0 0) 0 1) D) := by
  refine Cm.of (by decide) rfl (Nat.le_of_ble_eq_true rfl) ?_
  refine go_aload_n 1 dX6_total_0 rfl ?_
  refine go_iconst 2 dX6_total_1 zc_0 ?_
  refine gd_put 5 dX6_total_2 pX6_39 rfl (by decide) ?_
  refine go_aload_n 6 dX6_total_5 rfl ?_
  refine go_iload_n 7 dX6_total_6 rfl ?_
  refine go_bipush 9 dX6_total_7 zb_6 ?_
  refine go_iconst 10 dX6_total_9 zc_1 ?_
  refine gdV3 13 dX6_total_10 vX6_265 (ct_X6_noWhat_y h2 rfl (by decide)) ?_
  refine go_if_eq 20 16 dX6_total_13 (fun h13 => ?_) (fun h13 => ?_)
  · exact absurd h13 (by decide)
  · refine go_iconst 17 dX6_total_16 zc_0 ?_
    refine go_goto 29 dX6_total_17 ?_
    exact go_ireturn dX6_total_29 rfl (by omega) (by omega) (⟨rfl, rfl⟩)

set_option maxRecDepth 100000 in
set_option maxHeartbeats 4000000 in
theorem ct_X6_total {l : Launch} {Γ : ZG} {w : ZW} {o : Nat} {S : MS} {D : ZD} {j : Nat} {y : Int32} (hy : y = nI j) (hj : j < 7) (h2 : 0 ≤ y ∧ y ≤ 6) : Cm l Γ mX6_total 3 [.ref o, .int y] (wD Γ w o S D) (some (.int (D (9 + j)))) (wD Γ w o (mf S 0 0) D) := by
  refine Cm.of (by decide) rfl (Nat.le_of_ble_eq_true rfl) ?_
  refine go_aload_n 1 dX6_total_0 rfl ?_
  refine go_iconst 2 dX6_total_1 zc_0 ?_
  refine gd_put 5 dX6_total_2 pX6_39 rfl (by decide) ?_
  refine go_aload_n 6 dX6_total_5 rfl ?_
  refine go_iload_n 7 dX6_total_6 rfl ?_
  refine go_bipush 9 dX6_total_7 zb_6 ?_
  refine go_iconst 10 dX6_total_9 zc_1 ?_
  refine gdV3 13 dX6_total_10 vX6_265 (ct_X6_noWhat_n h2 rfl) ?_
  refine go_if_eq 20 16 dX6_total_13 (fun h13 => ?_) (fun h13 => ?_)
  · refine go_aload_n 21 dX6_total_20 rfl ?_
    refine gd_get 24 dX6_total_21 fX6_17 rfl ?_
    refine go_bipush 26 dX6_total_24 zb_9 ?_
    refine go_iload_n 27 dX6_total_26 rfl ?_
    refine go_iadd 28 dX6_total_27 ?_
    refine gd_iald 29 (9 + j) dX6_total_28 (by rw [hy]; exact ix2 9 j _ rfl) (by omega) ?_
    exact go_ireturn dX6_total_29 rfl (by omega) (by omega) (⟨rfl, rfl⟩)
  · exact absurd h13 (by decide)

set_option maxRecDepth 100000 in
set_option maxHeartbeats 4000000 in
theorem ct_X6_pending_1 {l : Launch} {Γ : ZG} {w : ZW} {o : Nat} {S : MS} {D : ZD} {x y : Int32} (h1 : ¬ (0 ≤ x ∧ x ≤ D 6 - 1)) : Cm l Γ mX6_pending 3 [.ref o, .int x, .int y] (wD Γ w o S D) (some (.int 0)) (wD Γ w o (mf (mf S 0 0) 0 1) D) := by
  refine Cm.of (by decide) rfl (Nat.le_of_ble_eq_true rfl) ?_
  refine go_aload_n 1 dX6_pending_0 rfl ?_
  refine go_iconst 2 dX6_pending_1 zc_0 ?_
  refine gd_put 5 dX6_pending_2 pX6_39 rfl (by decide) ?_
  refine go_aload_n 6 dX6_pending_5 rfl ?_
  refine go_iload_n 7 dX6_pending_6 rfl ?_
  refine gdV1 10 dX6_pending_7 vX6_286 (ct_X6_noLeg_y h1 rfl) ?_
  refine go_if_ne 47 13 dX6_pending_10 (fun h10 => ?_) (fun h10 => ?_)
  · refine go_iconst 48 dX6_pending_47 zc_0 ?_
    refine go_goto 60 dX6_pending_48 ?_
    exact go_ireturn dX6_pending_60 rfl (by omega) (by omega) (⟨rfl, rfl⟩)
  · exact absurd h10 (by decide)

set_option maxRecDepth 100000 in
set_option maxHeartbeats 4000000 in
theorem ct_X6_pending_2 {l : Launch} {Γ : ZG} {w : ZW} {o : Nat} {S : MS} {D : ZD} {k : Nat} {x y : Int32} (hx : x = nI k) (hk : k < 40) (h1 : 0 ≤ x ∧ x ≤ D 6 - 1) (h3 : dL D k 6 = -1) : Cm l Γ mX6_pending 3 [.ref o, .int x, .int y] (wD Γ w o S D) (some (.int 0)) (wD Γ w o (mf (mf S 0 0) 0 2) D) := by
  refine Cm.of (by decide) rfl (Nat.le_of_ble_eq_true rfl) ?_
  refine go_aload_n 1 dX6_pending_0 rfl ?_
  refine go_iconst 2 dX6_pending_1 zc_0 ?_
  refine gd_put 5 dX6_pending_2 pX6_39 rfl (by decide) ?_
  refine go_aload_n 6 dX6_pending_5 rfl ?_
  refine go_iload_n 7 dX6_pending_6 rfl ?_
  refine gdV1 10 dX6_pending_7 vX6_286 (ct_X6_noLeg_n h1 rfl) ?_
  refine go_if_ne 47 13 dX6_pending_10 (fun h10 => ?_) (fun h10 => ?_)
  · exact absurd h10 (by decide)
  · refine go_aload_n 14 dX6_pending_13 rfl ?_
    refine go_aload_n 15 dX6_pending_14 rfl ?_
    refine go_iload_n 16 dX6_pending_15 rfl ?_
    refine go_bipush 18 dX6_pending_16 zb_6 ?_
    refine gdV2 21 dX6_pending_18 vX6_171 (ct_X6_ofLeg (j := 6) hx rfl (by omega)) ?_
    refine go_iconst 22 dX6_pending_21 zc_m1 ?_
    refine go_icmp_ne 29 25 dX6_pending_22 (fun h22 => ?_) (fun h22 => ?_)
    · exact absurd h3 h22
    · refine go_iconst 26 dX6_pending_25 zc_1 ?_
      refine go_goto 30 dX6_pending_26 ?_
      refine go_iconst 31 dX6_pending_30 zc_2 ?_
      refine gdV2 34 dX6_pending_31 vX6_149 (ct_X6_fails_y rfl (by decide)) ?_
      refine go_if_ne 47 37 dX6_pending_34 (fun h34 => ?_) (fun h34 => ?_)
      · refine go_iconst 48 dX6_pending_47 zc_0 ?_
        refine go_goto 60 dX6_pending_48 ?_
        exact go_ireturn dX6_pending_60 rfl (by omega) (by omega) (⟨rfl, rfl⟩)
      · exact absurd h34 (by decide)

set_option maxRecDepth 100000 in
set_option maxHeartbeats 4000000 in
theorem ct_X6_pending_3 {l : Launch} {Γ : ZG} {w : ZW} {o : Nat} {S : MS} {D : ZD} {k : Nat} {x y : Int32} (hx : x = nI k) (hk : k < 40) (h1 : 0 ≤ x ∧ x ≤ D 6 - 1) (h3 : ¬ dL D k 6 = -1) (h2 : ¬ (0 ≤ y ∧ y ≤ 2)) : Cm l Γ mX6_pending 3 [.ref o, .int x, .int y] (wD Γ w o S D) (some (.int 0)) (wD Γ w o (mf (mf S 0 0) 0 3) D) := by
  refine Cm.of (by decide) rfl (Nat.le_of_ble_eq_true rfl) ?_
  refine go_aload_n 1 dX6_pending_0 rfl ?_
  refine go_iconst 2 dX6_pending_1 zc_0 ?_
  refine gd_put 5 dX6_pending_2 pX6_39 rfl (by decide) ?_
  refine go_aload_n 6 dX6_pending_5 rfl ?_
  refine go_iload_n 7 dX6_pending_6 rfl ?_
  refine gdV1 10 dX6_pending_7 vX6_286 (ct_X6_noLeg_n h1 rfl) ?_
  refine go_if_ne 47 13 dX6_pending_10 (fun h10 => ?_) (fun h10 => ?_)
  · exact absurd h10 (by decide)
  · refine go_aload_n 14 dX6_pending_13 rfl ?_
    refine go_aload_n 15 dX6_pending_14 rfl ?_
    refine go_iload_n 16 dX6_pending_15 rfl ?_
    refine go_bipush 18 dX6_pending_16 zb_6 ?_
    refine gdV2 21 dX6_pending_18 vX6_171 (ct_X6_ofLeg (j := 6) hx rfl (by omega)) ?_
    refine go_iconst 22 dX6_pending_21 zc_m1 ?_
    refine go_icmp_ne 29 25 dX6_pending_22 (fun h22 => ?_) (fun h22 => ?_)
    · refine go_iconst 30 dX6_pending_29 zc_0 ?_
      refine go_iconst 31 dX6_pending_30 zc_2 ?_
      refine gdV2 34 dX6_pending_31 vX6_149 (ct_X6_fails_n rfl) ?_
      refine go_if_ne 47 37 dX6_pending_34 (fun h34 => ?_) (fun h34 => ?_)
      · exact absurd h34 (by decide)
      · refine go_aload_n 38 dX6_pending_37 rfl ?_
        refine go_iload_n 39 dX6_pending_38 rfl ?_
        refine go_iconst 40 dX6_pending_39 zc_2 ?_
        refine go_iconst 41 dX6_pending_40 zc_3 ?_
        refine gdV3 44 dX6_pending_41 vX6_265 (ct_X6_noWhat_y h2 rfl (by decide)) ?_
        refine go_if_eq 51 47 dX6_pending_44 (fun h44 => ?_) (fun h44 => ?_)
        · exact absurd h44 (by decide)
        · refine go_iconst 48 dX6_pending_47 zc_0 ?_
          refine go_goto 60 dX6_pending_48 ?_
          exact go_ireturn dX6_pending_60 rfl (by omega) (by omega) (⟨rfl, rfl⟩)
    · exact absurd h22 h3

set_option maxRecDepth 100000 in
set_option maxHeartbeats 4000000 in
theorem ct_X6_pending {l : Launch} {Γ : ZG} {w : ZW} {o : Nat} {S : MS} {D : ZD} {j : Nat} {k : Nat} {x y : Int32} (hx : x = nI k) (hk : k < 40) (hy : y = nI j) (hj : j < 3) (h1 : 0 ≤ x ∧ x ≤ D 6 - 1) (h3 : ¬ dL D k 6 = -1) (h2 : 0 ≤ y ∧ y ≤ 2) : Cm l Γ mX6_pending 3 [.ref o, .int x, .int y] (wD Γ w o S D) (some (.int (dL D k (6 + j)))) (wD Γ w o (mf S 0 0) D) := by
  refine Cm.of (by decide) rfl (Nat.le_of_ble_eq_true rfl) ?_
  refine go_aload_n 1 dX6_pending_0 rfl ?_
  refine go_iconst 2 dX6_pending_1 zc_0 ?_
  refine gd_put 5 dX6_pending_2 pX6_39 rfl (by decide) ?_
  refine go_aload_n 6 dX6_pending_5 rfl ?_
  refine go_iload_n 7 dX6_pending_6 rfl ?_
  refine gdV1 10 dX6_pending_7 vX6_286 (ct_X6_noLeg_n h1 rfl) ?_
  refine go_if_ne 47 13 dX6_pending_10 (fun h10 => ?_) (fun h10 => ?_)
  · exact absurd h10 (by decide)
  · refine go_aload_n 14 dX6_pending_13 rfl ?_
    refine go_aload_n 15 dX6_pending_14 rfl ?_
    refine go_iload_n 16 dX6_pending_15 rfl ?_
    refine go_bipush 18 dX6_pending_16 zb_6 ?_
    refine gdV2 21 dX6_pending_18 vX6_171 (ct_X6_ofLeg (j := 6) hx rfl (by omega)) ?_
    refine go_iconst 22 dX6_pending_21 zc_m1 ?_
    refine go_icmp_ne 29 25 dX6_pending_22 (fun h22 => ?_) (fun h22 => ?_)
    · refine go_iconst 30 dX6_pending_29 zc_0 ?_
      refine go_iconst 31 dX6_pending_30 zc_2 ?_
      refine gdV2 34 dX6_pending_31 vX6_149 (ct_X6_fails_n rfl) ?_
      refine go_if_ne 47 37 dX6_pending_34 (fun h34 => ?_) (fun h34 => ?_)
      · exact absurd h34 (by decide)
      · refine go_aload_n 38 dX6_pending_37 rfl ?_
        refine go_iload_n 39 dX6_pending_38 rfl ?_
        refine go_iconst 40 dX6_pending_39 zc_2 ?_
        refine go_iconst 41 dX6_pending_40 zc_3 ?_
        refine gdV3 44 dX6_pending_41 vX6_265 (ct_X6_noWhat_n h2 rfl) ?_
        refine go_if_eq 51 47 dX6_pending_44 (fun h44 => ?_) (fun h44 => ?_)
        · refine go_aload_n 52 dX6_pending_51 rfl ?_
          refine go_iload_n 53 dX6_pending_52 rfl ?_
          refine go_bipush 55 dX6_pending_53 zb_6 ?_
          refine go_iload_n 56 dX6_pending_55 rfl ?_
          refine go_iadd 57 dX6_pending_56 ?_
          refine gdV2 60 dX6_pending_57 vX6_171 (ct_X6_ofLeg (j := 6 + j) hx (by rw [hy]; exact ix2 6 j _ rfl) (by omega)) ?_
          exact go_ireturn dX6_pending_60 rfl (by omega) (by omega) (⟨rfl, rfl⟩)
        · exact absurd h44 (by decide)
    · exact absurd h22 h3

set_option maxRecDepth 100000 in
set_option maxHeartbeats 4000000 in
theorem lp_X6_remember {l : Launch} {Γ : ZG} {w : ZW} {o : Nat} {S : MS} {D : ZD} : ∀ (f j : Nat) (S' : MS), j + f = 7 → S'.1 12 = nI 8 → Go l Γ mX6_remember 2 0 0 (fun v w2 => v = none ∧ w2 = wD Γ w o (fin8 (shS S' j f) D) D) zNo 0 0 (wD Γ w o S' D) 11 [(0, .ref o), (1, .int (nI (j + 1)))] [] := by
  intro f
  induction f with
  | zero =>
    intro j S' hif hU
    refine go_iload_n 12 dX6_remember_11 rfl ?_
    refine go_bipush 14 dX6_remember_12 zb_8 ?_
    refine go_icmp_ge 40 17 dX6_remember_14 (fun h14 => ?_) (fun h14 => ?_)
    · refine go_aload_n 41 dX6_remember_40 rfl ?_
      refine go_dup 42 dX6_remember_41 rfl ?_
      refine gd_get 45 dX6_remember_42 fX6_295 rfl ?_
      refine go_iconst 46 dX6_remember_45 zc_1 ?_
      refine go_isub 47 dX6_remember_46 ?_
      refine gd_put 50 dX6_remember_47 pX6_295 rfl (by decide) ?_
      refine go_aload_n 51 dX6_remember_50 rfl ?_
      refine gd_get 54 dX6_remember_51 fX6_17 rfl ?_
      refine go_aload_n 55 dX6_remember_54 rfl ?_
      refine gd_get 58 dX6_remember_55 fX6_28 rfl ?_
      refine go_aload_n 59 dX6_remember_58 rfl ?_
      refine gd_get 62 dX6_remember_59 fX6_295 rfl ?_
      refine gd_hist 63 (7) dX6_remember_62 (by show S'.1 12 - 1 = nI 7; rw [hU]; rfl) (by decide) ?_
      refine gcS2v 66 dX6_remember_63 vX6_161 (ct_X6_copy (a := o + 2) (b := o + (6 + 7)) wD_data (wD_arr (x := 6 + 7) (a := 11) (by omega) (by omega) (by omega) (by omega) (by omega) (by omega) (by split <;> omega)) (by omega)) ?_
      rw [wD_seta (x := 6 + 7) (a := 11) (by omega) (by omega) (by omega) (by omega) (by omega) (by omega) (by split <;> omega)]
      refine go_aload_n 67 dX6_remember_66 rfl ?_
      refine go_dup 68 dX6_remember_67 rfl ?_
      refine gd_get 71 dX6_remember_68 fX6_295 rfl ?_
      refine go_iconst 72 dX6_remember_71 zc_1 ?_
      refine go_iadd 73 dX6_remember_72 ?_
      refine gd_put 76 dX6_remember_73 pX6_295 rfl (by decide) ?_
      exact go_return dX6_remember_76 rfl (by omega) (by omega) (⟨rfl, rfl⟩)
    · exact (lpE (a := 8) (N := 8) rfl (by omega) h14).elim
  | succ f ih =>
    intro j S' hif hU
    refine go_iload_n 12 dX6_remember_11 rfl ?_
    refine go_bipush 14 dX6_remember_12 zb_8 ?_
    refine go_icmp_ge 40 17 dX6_remember_14 (fun h14 => ?_) (fun h14 => ?_)
    · exact (lpG (a := 8) (N := 8) rfl (by decide) (by omega) h14).elim
    · refine go_aload_n 18 dX6_remember_17 rfl ?_
      refine gd_get 21 dX6_remember_18 fX6_28 rfl ?_
      refine go_iload_n 22 dX6_remember_21 rfl ?_
      refine gd_hist 23 (j + 1) dX6_remember_22 rfl (by omega) ?_
      refine go_aload_n 24 dX6_remember_23 rfl ?_
      refine gd_get 27 dX6_remember_24 fX6_28 rfl ?_
      refine go_iload_n 28 dX6_remember_27 rfl ?_
      refine go_iconst 29 dX6_remember_28 zc_1 ?_
      refine go_isub 30 dX6_remember_29 ?_
      refine gd_hist 31 (j) dX6_remember_30 (nI_pred j) (by omega) ?_
      refine gcS2v 34 dX6_remember_31 vX6_161 (ct_X6_copy (a := o + (6 + (j + 1))) (b := o + (6 + j)) (wD_arr (x := 6 + (j + 1)) (a := 5 + j) (by omega) (by omega) (by omega) (by omega) (by omega) (by omega) (by split <;> omega)) (wD_arr (x := 6 + j) (a := 4 + j) (by omega) (by omega) (by omega) (by omega) (by omega) (by omega) (by split <;> omega)) (by omega)) ?_
      rw [wD_seta (x := 6 + j) (a := 4 + j) (by omega) (by omega) (by omega) (by omega) (by omega) (by omega) (by split <;> omega)]
      refine go_iinc 37 dX6_remember_34 rfl (by decide) zc_1 ?_
      refine go_goto 11 dX6_remember_37 ?_
      rw [nI_1]
      exact go_locals _ rfl (ih (j + 1) _ (by omega) hU)

set_option maxRecDepth 100000 in
set_option maxHeartbeats 4000000 in
theorem ct_X6_remember {l : Launch} {Γ : ZG} {w : ZW} {o : Nat} {S : MS} {D : ZD} {u : Nat} (hU : S.1 12 = nI u) (hu : u ≤ 8) : Cm l Γ mX6_remember 2 [.ref o] (wD Γ w o S D) (none) (wD Γ w o (remM S D u) D) := by
  refine Cm.of (by decide) rfl (Nat.le_of_ble_eq_true rfl) ?_
  refine go_aload_n 1 dX6_remember_0 rfl ?_
  refine gd_get 4 dX6_remember_1 fX6_295 rfl ?_
  refine go_bipush 6 dX6_remember_4 zb_8 ?_
  refine go_icmp_ne 50 9 dX6_remember_6 (fun h6 => ?_) (fun h6 => ?_)
  · have hu8 : u ≠ 8 := fun q => h6 (by rw [hU, q]; rfl)
    refine go_aload_n 51 dX6_remember_50 rfl ?_
    refine gd_get 54 dX6_remember_51 fX6_17 rfl ?_
    refine go_aload_n 55 dX6_remember_54 rfl ?_
    refine gd_get 58 dX6_remember_55 fX6_28 rfl ?_
    refine go_aload_n 59 dX6_remember_58 rfl ?_
    refine gd_get 62 dX6_remember_59 fX6_295 rfl ?_
    refine gd_hist 63 (u) dX6_remember_62 hU (by omega) ?_
    refine gcS2v 66 dX6_remember_63 vX6_161 (ct_X6_copy (a := o + 2) (b := o + (6 + u)) wD_data (wD_arr (x := 6 + u) (a := 4 + u) (by omega) (by omega) (by omega) (by omega) (by omega) (by omega) (by split <;> omega)) (by omega)) ?_
    rw [wD_seta (x := 6 + u) (a := 4 + u) (by omega) (by omega) (by omega) (by omega) (by omega) (by omega) (by split <;> omega)]
    refine go_aload_n 67 dX6_remember_66 rfl ?_
    refine go_dup 68 dX6_remember_67 rfl ?_
    refine gd_get 71 dX6_remember_68 fX6_295 rfl ?_
    refine go_iconst 72 dX6_remember_71 zc_1 ?_
    refine go_iadd 73 dX6_remember_72 ?_
    refine gd_put 76 dX6_remember_73 pX6_295 rfl (by decide) ?_
    exact go_return dX6_remember_76 rfl (by omega) (by omega) (⟨rfl, by unfold remM; rw [if_neg hu8]; rfl⟩)
  · refine go_iconst 10 dX6_remember_9 zc_1 ?_
    refine go_istore_n 11 dX6_remember_10 (by decide) ?_
    unfold remM
    have hu8 : u = 8 := (nI_eq (b := 8) (by omega) (by decide)).mp (hU.symm.trans h6)
    rw [if_pos hu8]
    exact go_locals _ rfl (lp_X6_remember (S := S) 7 0 S (by omega) h6)

set_option maxRecDepth 100000 in
set_option maxHeartbeats 4000000 in
theorem ct_X6_undo_0 {l : Launch} {Γ : ZG} {w : ZW} {o : Nat} {S : MS} {D : ZD} (hU : S.1 12 = 0) : Cm l Γ mX6_undo 2 [.ref o] (wD Γ w o S D) (some (.int (-1))) (wD Γ w o (mf S 0 0) D) := by
  refine Cm.of (by decide) rfl (Nat.le_of_ble_eq_true rfl) ?_
  refine go_aload_n 1 dX6_undo_0 rfl ?_
  refine go_iconst 2 dX6_undo_1 zc_0 ?_
  refine gd_put 5 dX6_undo_2 pX6_39 rfl (by decide) ?_
  refine go_aload_n 6 dX6_undo_5 rfl ?_
  refine gd_get 9 dX6_undo_6 fX6_295 rfl ?_
  refine go_if_ne 14 12 dX6_undo_9 (fun h9 => ?_) (fun h9 => ?_)
  · exact absurd hU h9
  · refine go_iconst 13 dX6_undo_12 zc_m1 ?_
    exact go_ireturn dX6_undo_13 rfl (by omega) (by omega) (⟨rfl, rfl⟩)

set_option maxRecDepth 100000 in
set_option maxHeartbeats 4000000 in
theorem ct_X6_undo {l : Launch} {Γ : ZG} {w : ZW} {o : Nat} {S : MS} {D : ZD} {u : Nat} (hU : S.1 12 = nI (u + 1)) (hu : u < 8) : Cm l Γ mX6_undo 2 [.ref o] (wD Γ w o S D) (some (.int (nI u))) (wD Γ w o (mf (mf S 0 0) 12 (S.1 12 - 1)) (S.2.1 (4 + u))) := by
  refine Cm.of (by decide) rfl (Nat.le_of_ble_eq_true rfl) ?_
  refine go_aload_n 1 dX6_undo_0 rfl ?_
  refine go_iconst 2 dX6_undo_1 zc_0 ?_
  refine gd_put 5 dX6_undo_2 pX6_39 rfl (by decide) ?_
  refine go_aload_n 6 dX6_undo_5 rfl ?_
  refine gd_get 9 dX6_undo_6 fX6_295 rfl ?_
  refine go_if_ne 14 12 dX6_undo_9 (fun h9 => ?_) (fun h9 => ?_)
  · refine go_aload_n 15 dX6_undo_14 rfl ?_
    refine go_dup 16 dX6_undo_15 rfl ?_
    refine gd_get 19 dX6_undo_16 fX6_295 rfl ?_
    refine go_iconst 20 dX6_undo_19 zc_1 ?_
    refine go_isub 21 dX6_undo_20 ?_
    refine gd_put 24 dX6_undo_21 pX6_295 rfl (by decide) ?_
    refine go_aload_n 25 dX6_undo_24 rfl ?_
    refine gd_get 28 dX6_undo_25 fX6_28 rfl ?_
    refine go_aload_n 29 dX6_undo_28 rfl ?_
    refine gd_get 32 dX6_undo_29 fX6_295 rfl ?_
    refine gd_hist 33 (u) dX6_undo_32 (by show S.1 12 - 1 = nI u; rw [hU]; exact nI_pred u) hu ?_
    refine go_aload_n 34 dX6_undo_33 rfl ?_
    refine gd_get 37 dX6_undo_34 fX6_17 rfl ?_
    refine gcS2v 40 dX6_undo_37 vX6_161 (ct_X6_copy (a := o + (6 + u)) (b := o + 2) (wD_arr (x := 6 + u) (a := 4 + u) (by omega) (by omega) (by omega) (by omega) (by omega) (by omega) (by split <;> omega)) wD_data (by omega)) ?_
    rw [wD_setd]
    refine go_aload_n 41 dX6_undo_40 rfl ?_
    refine gd_get 44 dX6_undo_41 fX6_295 rfl ?_
    exact go_ireturn dX6_undo_44 rfl (by omega) (by omega) (⟨by show some (Value.int (S.1 12 - 1)) = _; rw [hU, nI_pred], rfl⟩)
  · exact absurd (hU.symm.trans h9) (nI_ne0 (by omega) (by omega))

set_option maxRecDepth 100000 in
set_option maxHeartbeats 4000000 in
theorem lp_X6_settle {l : Launch} {Γ : ZG} {w : ZW} {o : Nat} {S : MS} {x : Int32} : ∀ (F n : Nat) (D : ZD), Iv D → ¬ rngs (stl x F D).2 x → Go l Γ mX6_settle 10 0 0 (fun v w2 => v = some (.int (nI (n + (stl x F D).1))) ∧ w2 = wD Γ w o S (stl x F D).2) zNo 0 0 (wD Γ w o S D) 2 [(0, .ref o), (1, .int x), (2, .int (nI n))] [] := by
  intro F
  induction F with
  | zero =>
    intro n D hI ht
    refine go_aload_n 3 dX6_settle_2 rfl ?_
    refine go_iload_n 4 dX6_settle_3 rfl ?_
    refine gdV1 7 dX6_settle_4 vX6_187 (ct_X6_rings hI.1) ?_
    refine go_if_eq 20 10 dX6_settle_7 (fun h7 => ?_) (fun h7 => ?_)
    · refine go_iload_n 21 dX6_settle_20 rfl ?_
      exact go_ireturn dX6_settle_21 rfl (by omega) (by omega) (⟨rfl, rfl⟩)
    · exact absurd (zb_1 h7) ht
  | succ F ih =>
    intro n D hI ht
    refine go_aload_n 3 dX6_settle_2 rfl ?_
    refine go_iload_n 4 dX6_settle_3 rfl ?_
    refine gdV1 7 dX6_settle_4 vX6_187 (ct_X6_rings hI.1) ?_
    refine go_if_eq 20 10 dX6_settle_7 (fun h7 => ?_) (fun h7 => ?_)
    · rw [stl_f (zb_0 h7)]
      refine go_iload_n 21 dX6_settle_20 rfl ?_
      exact go_ireturn dX6_settle_21 rfl (by omega) (by omega) (⟨rfl, rfl⟩)
    · rw [stl_t (zb_1 h7)] at ht ⊢
      refine go_aload_n 11 dX6_settle_10 rfl ?_
      refine gdV0v 14 dX6_settle_11 vX6_289 (ct_X6_second hI) ?_
      refine go_iinc 17 dX6_settle_14 rfl (by decide) zc_1 ?_
      refine go_goto 2 dX6_settle_17 ?_
      rw [nI_1, show n + ((stl x F (secD D)).1 + 1) = n + 1 + (stl x F (secD D)).1 by omega]
      exact go_locals _ rfl (ih (n + 1) (secD D) hI.sec ht)

set_option maxRecDepth 100000 in
set_option maxHeartbeats 4000000 in
theorem ct_X6_settle {l : Launch} {Γ : ZG} {w : ZW} {o : Nat} {S : MS} {D : ZD} (hI : Iv D) {x : Int32} {F : Nat} (ht : ¬ rngs (stl x F D).2 x) : Cm l Γ mX6_settle 10 [.ref o, .int x] (wD Γ w o S D) (some (.int (nI (stl x F D).1))) (wD Γ w o S (stl x F D).2) := by
  refine Cm.of (by decide) rfl (Nat.le_of_ble_eq_true rfl) ?_
  refine go_iconst 1 dX6_settle_0 zc_0 ?_
  refine go_istore_n 2 dX6_settle_1 (by decide) ?_
  have q := lp_X6_settle (l := l) (Γ := Γ) (w := w) (o := o) (S := S) F 0 D hI ht
  rw [Nat.zero_add] at q
  exact go_locals _ rfl q

set_option maxRecDepth 100000 in
set_option maxHeartbeats 4000000 in
theorem ct_X6_settlesIn_1 {l : Launch} {Γ : ZG} {w : ZW} {o : Nat} {S : MS} {D : ZD} {x : Int32} (h1 : ¬ (0 ≤ x ∧ x ≤ D 5 - 1)) : Cm l Γ mX6_settlesIn 11 [.ref o, .int x] (wD Γ w o S D) (some (.int 0)) (wD Γ w o (mf (mf S 0 0) 0 1) D) := by
  refine Cm.of (by decide) rfl (Nat.le_of_ble_eq_true rfl) ?_
  refine go_aload_n 1 dX6_settlesIn_0 rfl ?_
  refine go_iconst 2 dX6_settlesIn_1 zc_0 ?_
  refine gd_put 5 dX6_settlesIn_2 pX6_39 rfl (by decide) ?_
  refine go_aload_n 6 dX6_settlesIn_5 rfl ?_
  refine go_iload_n 7 dX6_settlesIn_6 rfl ?_
  refine gdV1 10 dX6_settlesIn_7 vX6_280 (ct_X6_noCall_y h1 rfl) ?_
  refine go_if_eq 15 13 dX6_settlesIn_10 (fun h10 => ?_) (fun h10 => ?_)
  · exact absurd h10 (by decide)
  · refine go_iconst 14 dX6_settlesIn_13 zc_0 ?_
    exact go_ireturn dX6_settlesIn_14 rfl (by omega) (by omega) (⟨rfl, rfl⟩)

set_option maxRecDepth 100000 in
set_option maxHeartbeats 4000000 in
theorem ct_X6_settlesIn {l : Launch} {Γ : ZG} {w : ZW} {o : Nat} {S : MS} {D : ZD} (hI : Iv D) {x : Int32} {F : Nat} (ht : ¬ rngs (stl x F D).2 x) (h1 : 0 ≤ x ∧ x ≤ D 5 - 1) : Cm l Γ mX6_settlesIn 11 [.ref o, .int x] (wD Γ w o S D) (some (.int (nI (stl x F D).1))) (wD Γ w o (ma (mf S 0 0) 3 D) D) := by
  refine Cm.of (by decide) rfl (Nat.le_of_ble_eq_true rfl) ?_
  refine go_aload_n 1 dX6_settlesIn_0 rfl ?_
  refine go_iconst 2 dX6_settlesIn_1 zc_0 ?_
  refine gd_put 5 dX6_settlesIn_2 pX6_39 rfl (by decide) ?_
  refine go_aload_n 6 dX6_settlesIn_5 rfl ?_
  refine go_iload_n 7 dX6_settlesIn_6 rfl ?_
  refine gdV1 10 dX6_settlesIn_7 vX6_280 (ct_X6_noCall_n h1 rfl) ?_
  refine go_if_eq 15 13 dX6_settlesIn_10 (fun h10 => ?_) (fun h10 => ?_)
  · refine go_aload_n 16 dX6_settlesIn_15 rfl ?_
    refine gd_get 19 dX6_settlesIn_16 fX6_17 rfl ?_
    refine go_aload_n 20 dX6_settlesIn_19 rfl ?_
    refine gd_get 23 dX6_settlesIn_20 fX6_23 rfl ?_
    refine gcS2v 26 dX6_settlesIn_23 vX6_161 (ct_X6_copy (a := o + 2) (b := o + 4) wD_data (wD_arr (x := 4) (a := 3) (by decide) (by decide) (by decide) (by decide) (by decide) (by decide) (by decide)) (by omega)) ?_
    rw [wD_seta (x := 4) (a := 3) (by decide) (by decide) (by decide) (by decide) (by decide) (by decide) (by decide)]
    refine go_aload_n 27 dX6_settlesIn_26 rfl ?_
    refine go_iload_n 28 dX6_settlesIn_27 rfl ?_
    refine gdV1 31 dX6_settlesIn_28 vX6_292 (ct_X6_settle hI ht) ?_
    refine go_istore_n 32 dX6_settlesIn_31 (by decide) ?_
    refine go_aload_n 33 dX6_settlesIn_32 rfl ?_
    refine gd_get 36 dX6_settlesIn_33 fX6_23 rfl ?_
    refine go_aload_n 37 dX6_settlesIn_36 rfl ?_
    refine gd_get 40 dX6_settlesIn_37 fX6_17 rfl ?_
    refine gcS2v 43 dX6_settlesIn_40 vX6_161 (ct_X6_copy (a := o + 4) (b := o + 2) (wD_arr (x := 4) (a := 3) (by decide) (by decide) (by decide) (by decide) (by decide) (by decide) (by decide)) wD_data (by omega)) ?_
    rw [wD_setd]
    refine go_iload_n 44 dX6_settlesIn_43 rfl ?_
    exact go_ireturn dX6_settlesIn_44 rfl (by omega) (by omega) (⟨rfl, rfl⟩)
  · exact absurd h10 (by decide)

set_option maxRecDepth 100000 in
set_option maxHeartbeats 4000000 in
theorem ct_X6_answeredBy_1 {l : Launch} {Γ : ZG} {w : ZW} {o : Nat} {S : MS} {D : ZD} {x : Int32} (h1 : ¬ (0 ≤ x ∧ x ≤ D 5 - 1)) : Cm l Γ mX6_answeredBy 11 [.ref o, .int x] (wD Γ w o S D) (some (.int 0)) (wD Γ w o (mf (mf S 0 0) 0 1) D) := by
  refine Cm.of (by decide) rfl (Nat.le_of_ble_eq_true rfl) ?_
  refine go_aload_n 1 dX6_answeredBy_0 rfl ?_
  refine go_iconst 2 dX6_answeredBy_1 zc_0 ?_
  refine gd_put 5 dX6_answeredBy_2 pX6_39 rfl (by decide) ?_
  refine go_aload_n 6 dX6_answeredBy_5 rfl ?_
  refine go_iload_n 7 dX6_answeredBy_6 rfl ?_
  refine gdV1 10 dX6_answeredBy_7 vX6_280 (ct_X6_noCall_y h1 rfl) ?_
  refine go_if_eq 15 13 dX6_answeredBy_10 (fun h10 => ?_) (fun h10 => ?_)
  · exact absurd h10 (by decide)
  · refine go_iconst 14 dX6_answeredBy_13 zc_0 ?_
    exact go_ireturn dX6_answeredBy_14 rfl (by omega) (by omega) (⟨rfl, rfl⟩)

set_option maxRecDepth 100000 in
set_option maxHeartbeats 4000000 in
theorem ct_X6_answeredBy {l : Launch} {Γ : ZG} {w : ZW} {o : Nat} {S : MS} {D : ZD} (hI : Iv D) {x : Int32} {F c : Nat} (hx : x = nI c) (hc : c < 20) (ht : ¬ rngs (stl x F D).2 x) (h1 : 0 ≤ x ∧ x ≤ D 5 - 1) : Cm l Γ mX6_answeredBy 11 [.ref o, .int x] (wD Γ w o S D) (some (.int (dC (stl x F D).2 c 4))) (wD Γ w o (ma (mf S 0 0) 3 D) D) := by
  refine Cm.of (by decide) rfl (Nat.le_of_ble_eq_true rfl) ?_
  refine go_aload_n 1 dX6_answeredBy_0 rfl ?_
  refine go_iconst 2 dX6_answeredBy_1 zc_0 ?_
  refine gd_put 5 dX6_answeredBy_2 pX6_39 rfl (by decide) ?_
  refine go_aload_n 6 dX6_answeredBy_5 rfl ?_
  refine go_iload_n 7 dX6_answeredBy_6 rfl ?_
  refine gdV1 10 dX6_answeredBy_7 vX6_280 (ct_X6_noCall_n h1 rfl) ?_
  refine go_if_eq 15 13 dX6_answeredBy_10 (fun h10 => ?_) (fun h10 => ?_)
  · refine go_aload_n 16 dX6_answeredBy_15 rfl ?_
    refine gd_get 19 dX6_answeredBy_16 fX6_17 rfl ?_
    refine go_aload_n 20 dX6_answeredBy_19 rfl ?_
    refine gd_get 23 dX6_answeredBy_20 fX6_23 rfl ?_
    refine gcS2v 26 dX6_answeredBy_23 vX6_161 (ct_X6_copy (a := o + 2) (b := o + 4) wD_data (wD_arr (x := 4) (a := 3) (by decide) (by decide) (by decide) (by decide) (by decide) (by decide) (by decide)) (by omega)) ?_
    rw [wD_seta (x := 4) (a := 3) (by decide) (by decide) (by decide) (by decide) (by decide) (by decide) (by decide)]
    refine go_aload_n 27 dX6_answeredBy_26 rfl ?_
    refine go_iload_n 28 dX6_answeredBy_27 rfl ?_
    refine gdV1 31 dX6_answeredBy_28 vX6_292 (ct_X6_settle hI ht) ?_
    refine go_istore_n 32 dX6_answeredBy_31 (by decide) ?_
    refine go_aload_n 33 dX6_answeredBy_32 rfl ?_
    refine go_iload_n 34 dX6_answeredBy_33 rfl ?_
    refine go_iconst 35 dX6_answeredBy_34 zc_4 ?_
    refine gdV2 38 dX6_answeredBy_35 vX6_174 (ct_X6_ofCall (j := 4) hx rfl (by omega)) ?_
    refine go_istore_n 39 dX6_answeredBy_38 (by decide) ?_
    refine go_aload_n 40 dX6_answeredBy_39 rfl ?_
    refine gd_get 43 dX6_answeredBy_40 fX6_23 rfl ?_
    refine go_aload_n 44 dX6_answeredBy_43 rfl ?_
    refine gd_get 47 dX6_answeredBy_44 fX6_17 rfl ?_
    refine gcS2v 50 dX6_answeredBy_47 vX6_161 (ct_X6_copy (a := o + 4) (b := o + 2) (wD_arr (x := 4) (a := 3) (by decide) (by decide) (by decide) (by decide) (by decide) (by decide) (by decide)) wD_data (by omega)) ?_
    rw [wD_setd]
    refine go_iload_n 51 dX6_answeredBy_50 rfl ?_
    exact go_ireturn dX6_answeredBy_51 rfl (by omega) (by omega) (⟨rfl, rfl⟩)
  · exact absurd h10 (by decide)

set_option maxRecDepth 100000 in
set_option maxHeartbeats 4000000 in
theorem ct_X6_pass_1 {l : Launch} {Γ : ZG} {w : ZW} {o : Nat} {S : MS} {D : ZD} {x : Int32} (h1 : ¬ (1 ≤ x ∧ x ≤ 200) ∨ ¬ D 0 + x ≤ 9999) : Cm l Γ mX6_pass 10 [.ref o, .int x] (wD Γ w o S D) (some (.int 0)) (wD Γ w o (mf (mf S 0 0) 0 1) D) := by
  refine Cm.of (by decide) rfl (Nat.le_of_ble_eq_true rfl) ?_
  refine go_aload_n 1 dX6_pass_0 rfl ?_
  refine go_iconst 2 dX6_pass_1 zc_0 ?_
  refine gd_put 5 dX6_pass_2 pX6_39 rfl (by decide) ?_
  refine go_aload_n 6 dX6_pass_5 rfl ?_
  refine go_iload_n 7 dX6_pass_6 rfl ?_
  refine go_iconst 8 dX6_pass_7 zc_1 ?_
  refine go_sipush 11 dX6_pass_8 zs_200 ?_
  refine gcS3 14 dX6_pass_11 vX6_61 (ct_X6_in) ?_
  refine go_if_eq 31 17 dX6_pass_14 (fun h14 => ?_) (fun h14 => ?_)
  · refine go_iconst 32 dX6_pass_31 zc_1 ?_
    refine go_goto 36 dX6_pass_32 ?_
    refine go_iconst 37 dX6_pass_36 zc_1 ?_
    refine gdV2 40 dX6_pass_37 vX6_149 (ct_X6_fails_y rfl (by decide)) ?_
    refine go_if_eq 45 43 dX6_pass_40 (fun h40 => ?_) (fun h40 => ?_)
    · exact absurd h40 (by decide)
    · refine go_iconst 44 dX6_pass_43 zc_0 ?_
      exact go_ireturn dX6_pass_44 rfl (by omega) (by omega) (⟨rfl, rfl⟩)
  · refine go_aload_n 18 dX6_pass_17 rfl ?_
    refine gd_get 21 dX6_pass_18 fX6_17 rfl ?_
    refine go_iconst 22 dX6_pass_21 zc_0 ?_
    refine gd_iald 23 (0) dX6_pass_22 rfl (by decide) ?_
    refine go_iload_n 24 dX6_pass_23 rfl ?_
    refine go_iadd 25 dX6_pass_24 ?_
    refine go_sipush 28 dX6_pass_25 zs_9999 ?_
    refine go_icmp_le 35 31 dX6_pass_28 (fun h28 => ?_) (fun h28 => ?_)
    · exact (h1.elim (fun q => q (zb_1 h14)) (fun q => q h28)).elim
    · refine go_iconst 32 dX6_pass_31 zc_1 ?_
      refine go_goto 36 dX6_pass_32 ?_
      refine go_iconst 37 dX6_pass_36 zc_1 ?_
      refine gdV2 40 dX6_pass_37 vX6_149 (ct_X6_fails_y rfl (by decide)) ?_
      refine go_if_eq 45 43 dX6_pass_40 (fun h40 => ?_) (fun h40 => ?_)
      · exact absurd h40 (by decide)
      · refine go_iconst 44 dX6_pass_43 zc_0 ?_
        exact go_ireturn dX6_pass_44 rfl (by omega) (by omega) (⟨rfl, rfl⟩)

set_option maxRecDepth 100000 in
set_option maxHeartbeats 4000000 in
theorem lp_X6_pass {l : Launch} {Γ : ZG} {w : ZW} {o : Nat} {S : MS} {N : Nat} (hN : N ≤ 200) : ∀ (f i : Nat) (D : ZD), i + f = N → Iv D → Go l Γ mX6_pass 10 0 0 (fun v w2 => v = some (.int (cntSt (itr (fun _ D => secD D) i f D) 1)) ∧ w2 = wD Γ w o S (itr (fun _ D => secD D) i f D)) zNo 0 0 (wD Γ w o S D) 51 [(0, .ref o), (1, .int (nI N)), (2, .int (nI i))] [] := by
  intro f
  induction f with
  | zero =>
    intro i D hif hI
    refine go_iload_n 52 dX6_pass_51 rfl ?_
    refine go_iload_n 53 dX6_pass_52 rfl ?_
    refine go_icmp_ge 66 56 dX6_pass_53 (fun h53 => ?_) (fun h53 => ?_)
    · refine go_aload_n 67 dX6_pass_66 rfl ?_
      refine go_iconst 68 dX6_pass_67 zc_1 ?_
      refine gdV1 71 dX6_pass_68 vX6_268 (ct_X6_countOf hI.1) ?_
      exact go_ireturn dX6_pass_71 rfl (by omega) (by omega) (⟨rfl, rfl⟩)
    · exact (lpE (a := nI N) rfl (by omega) h53).elim
  | succ f ih =>
    intro i D hif hI
    refine go_iload_n 52 dX6_pass_51 rfl ?_
    refine go_iload_n 53 dX6_pass_52 rfl ?_
    refine go_icmp_ge 66 56 dX6_pass_53 (fun h53 => ?_) (fun h53 => ?_)
    · exact (lpG (a := nI N) rfl (by omega) (by omega) h53).elim
    · refine go_aload_n 57 dX6_pass_56 rfl ?_
      refine gdV0v 60 dX6_pass_57 vX6_289 (ct_X6_second hI) ?_
      refine go_iinc 63 dX6_pass_60 rfl (by decide) zc_1 ?_
      refine go_goto 51 dX6_pass_63 ?_
      rw [nI_1]
      exact go_locals _ rfl (ih (i + 1) (secD D) (by omega) hI.sec)

set_option maxRecDepth 100000 in
set_option maxHeartbeats 4000000 in
theorem ct_X6_pass {l : Launch} {Γ : ZG} {w : ZW} {o : Nat} {S : MS} {D : ZD} (hI : Iv D) {x : Int32} {N : Nat} {u : Nat} (hU : S.1 12 = nI u) (hu : u ≤ 8) (hx : x = nI N) (hN : N ≤ 200) (h1 : 1 ≤ x ∧ x ≤ 200) (h2 : D 0 + x ≤ 9999) : Cm l Γ mX6_pass 10 [.ref o, .int x] (wD Γ w o S D) (some (.int (cntSt (itr (fun _ D => secD D) 0 N D) 1))) (wD Γ w o (remM (mf S 0 0) D u) (itr (fun _ D => secD D) 0 N D)) := by
  subst hx
  refine Cm.of (by decide) rfl (Nat.le_of_ble_eq_true rfl) ?_
  refine go_aload_n 1 dX6_pass_0 rfl ?_
  refine go_iconst 2 dX6_pass_1 zc_0 ?_
  refine gd_put 5 dX6_pass_2 pX6_39 rfl (by decide) ?_
  refine go_aload_n 6 dX6_pass_5 rfl ?_
  refine go_iload_n 7 dX6_pass_6 rfl ?_
  refine go_iconst 8 dX6_pass_7 zc_1 ?_
  refine go_sipush 11 dX6_pass_8 zs_200 ?_
  refine gcS3 14 dX6_pass_11 vX6_61 (ct_X6_in) ?_
  refine go_if_eq 31 17 dX6_pass_14 (fun h14 => ?_) (fun h14 => ?_)
  · exact (zb_0 h14 h1).elim
  · refine go_aload_n 18 dX6_pass_17 rfl ?_
    refine gd_get 21 dX6_pass_18 fX6_17 rfl ?_
    refine go_iconst 22 dX6_pass_21 zc_0 ?_
    refine gd_iald 23 (0) dX6_pass_22 rfl (by decide) ?_
    refine go_iload_n 24 dX6_pass_23 rfl ?_
    refine go_iadd 25 dX6_pass_24 ?_
    refine go_sipush 28 dX6_pass_25 zs_9999 ?_
    refine go_icmp_le 35 31 dX6_pass_28 (fun h28 => ?_) (fun h28 => ?_)
    · refine go_iconst 36 dX6_pass_35 zc_0 ?_
      refine go_iconst 37 dX6_pass_36 zc_1 ?_
      refine gdV2 40 dX6_pass_37 vX6_149 (ct_X6_fails_n rfl) ?_
      refine go_if_eq 45 43 dX6_pass_40 (fun h40 => ?_) (fun h40 => ?_)
      · refine go_aload_n 46 dX6_pass_45 rfl ?_
        refine gdV0v 49 dX6_pass_46 vX6_158 (ct_X6_remember (u := u) hU hu) ?_
        refine go_iconst 50 dX6_pass_49 zc_0 ?_
        refine go_istore_n 51 dX6_pass_50 (by decide) ?_
        exact go_locals _ rfl (lp_X6_pass hN _ 0 D (by omega) hI)
      · exact absurd h40 (by decide)
    · exact absurd h2 h28

set_option maxRecDepth 100000 in
set_option maxHeartbeats 4000000 in
theorem ct_X6_setParty_1 {l : Launch} {Γ : ZG} {w : ZW} {o : Nat} {S : MS} {D : ZD} {x y z : Int32} (h1 : ¬ (0 ≤ x ∧ x ≤ D 4 - 1)) : Cm l Γ mX6_setParty 3 [.ref o, .int x, .int y, .int z] (wD Γ w o S D) (some (.int 0)) (wD Γ w o (mf (mf S 0 0) 0 1) D) := by
  refine Cm.of (by decide) rfl (Nat.le_of_ble_eq_true rfl) ?_
  refine go_aload_n 1 dX6_setParty_0 rfl ?_
  refine go_iconst 2 dX6_setParty_1 zc_0 ?_
  refine gd_put 5 dX6_setParty_2 pX6_39 rfl (by decide) ?_
  refine go_aload_n 6 dX6_setParty_5 rfl ?_
  refine go_iload_n 7 dX6_setParty_6 rfl ?_
  refine gdV1 10 dX6_setParty_7 vX6_274 (ct_X6_noParty_y h1 rfl) ?_
  refine go_if_ne 56 13 dX6_setParty_10 (fun h10 => ?_) (fun h10 => ?_)
  · refine go_iconst 57 dX6_setParty_56 zc_0 ?_
    exact go_ireturn dX6_setParty_57 rfl (by omega) (by omega) (⟨rfl, rfl⟩)
  · exact absurd h10 (by decide)

set_option maxRecDepth 100000 in
set_option maxHeartbeats 4000000 in
theorem ct_X6_setParty_2 {l : Launch} {Γ : ZG} {w : ZW} {o : Nat} {S : MS} {D : ZD} {x y z : Int32} (h1 : 0 ≤ x ∧ x ≤ D 4 - 1) (h2 : ¬ (0 ≤ y ∧ y ≤ 2) ∨ ¬ (0 ≤ z ∧ z ≤ if y = 2 then 999 else 99)) : Cm l Γ mX6_setParty 3 [.ref o, .int x, .int y, .int z] (wD Γ w o S D) (some (.int 0)) (wD Γ w o (mf (mf S 0 0) 0 2) D) := by
  refine Cm.of (by decide) rfl (Nat.le_of_ble_eq_true rfl) ?_
  refine go_aload_n 1 dX6_setParty_0 rfl ?_
  refine go_iconst 2 dX6_setParty_1 zc_0 ?_
  refine gd_put 5 dX6_setParty_2 pX6_39 rfl (by decide) ?_
  refine go_aload_n 6 dX6_setParty_5 rfl ?_
  refine go_iload_n 7 dX6_setParty_6 rfl ?_
  refine gdV1 10 dX6_setParty_7 vX6_274 (ct_X6_noParty_n h1 rfl) ?_
  refine go_if_ne 56 13 dX6_setParty_10 (fun h10 => ?_) (fun h10 => ?_)
  · exact absurd h10 (by decide)
  · refine go_aload_n 14 dX6_setParty_13 rfl ?_
    refine go_iload_n 15 dX6_setParty_14 rfl ?_
    refine go_iconst 16 dX6_setParty_15 zc_0 ?_
    refine go_iconst 17 dX6_setParty_16 zc_2 ?_
    refine gcS3 20 dX6_setParty_17 vX6_61 (ct_X6_in) ?_
    refine go_if_eq 44 23 dX6_setParty_20 (fun h20 => ?_) (fun h20 => ?_)
    · refine go_iconst 45 dX6_setParty_44 zc_1 ?_
      refine go_goto 49 dX6_setParty_45 ?_
      refine go_iconst 50 dX6_setParty_49 zc_2 ?_
      refine gdV2 53 dX6_setParty_50 vX6_149 (ct_X6_fails_y rfl (by decide)) ?_
      refine go_if_eq 58 56 dX6_setParty_53 (fun h53 => ?_) (fun h53 => ?_)
      · exact absurd h53 (by decide)
      · refine go_iconst 57 dX6_setParty_56 zc_0 ?_
        exact go_ireturn dX6_setParty_57 rfl (by omega) (by omega) (⟨rfl, rfl⟩)
    · refine go_iload_n 24 dX6_setParty_23 rfl ?_
      refine go_iconst 25 dX6_setParty_24 zc_0 ?_
      refine go_iload_n 26 dX6_setParty_25 rfl ?_
      refine go_iconst 27 dX6_setParty_26 zc_2 ?_
      refine go_icmp_ne 36 30 dX6_setParty_27 (fun h27 => ?_) (fun h27 => ?_)
      · refine go_bipush 38 dX6_setParty_36 zb_99 ?_
        refine gcS3 41 dX6_setParty_38 vX6_61 (ct_X6_in) ?_
        refine go_if_ne 48 44 dX6_setParty_41 (fun h41 => ?_) (fun h41 => ?_)
        · exact (h2.elim (fun q => q (zb_1 h20)) (fun q => q (by first | (rw [if_pos h27]; exact zb_1 h41) | (rw [if_neg h27]; exact zb_1 h41)))).elim
        · refine go_iconst 45 dX6_setParty_44 zc_1 ?_
          refine go_goto 49 dX6_setParty_45 ?_
          refine go_iconst 50 dX6_setParty_49 zc_2 ?_
          refine gdV2 53 dX6_setParty_50 vX6_149 (ct_X6_fails_y rfl (by decide)) ?_
          refine go_if_eq 58 56 dX6_setParty_53 (fun h53 => ?_) (fun h53 => ?_)
          · exact absurd h53 (by decide)
          · refine go_iconst 57 dX6_setParty_56 zc_0 ?_
            exact go_ireturn dX6_setParty_57 rfl (by omega) (by omega) (⟨rfl, rfl⟩)
      · refine go_sipush 33 dX6_setParty_30 zs_999 ?_
        refine go_goto 38 dX6_setParty_33 ?_
        refine gcS3 41 dX6_setParty_38 vX6_61 (ct_X6_in) ?_
        refine go_if_ne 48 44 dX6_setParty_41 (fun h41 => ?_) (fun h41 => ?_)
        · exact (h2.elim (fun q => q (zb_1 h20)) (fun q => q (by first | (rw [if_pos h27]; exact zb_1 h41) | (rw [if_neg h27]; exact zb_1 h41)))).elim
        · refine go_iconst 45 dX6_setParty_44 zc_1 ?_
          refine go_goto 49 dX6_setParty_45 ?_
          refine go_iconst 50 dX6_setParty_49 zc_2 ?_
          refine gdV2 53 dX6_setParty_50 vX6_149 (ct_X6_fails_y rfl (by decide)) ?_
          refine go_if_eq 58 56 dX6_setParty_53 (fun h53 => ?_) (fun h53 => ?_)
          · exact absurd h53 (by decide)
          · refine go_iconst 57 dX6_setParty_56 zc_0 ?_
            exact go_ireturn dX6_setParty_57 rfl (by omega) (by omega) (⟨rfl, rfl⟩)

set_option maxRecDepth 100000 in
set_option maxHeartbeats 4000000 in
theorem ct_X6_setParty {l : Launch} {Γ : ZG} {w : ZW} {o : Nat} {S : MS} {D : ZD} {x y z : Int32} {k j : Nat} {u : Nat} (hU : S.1 12 = nI u) (hu : u ≤ 8) (hx : x = nI k) (hy : y = nI j) (hk : k < 10) (hj : j < 3) (h1 : 0 ≤ x ∧ x ≤ D 4 - 1) (h2 : 0 ≤ y ∧ y ≤ 2) (h3 : 0 ≤ z ∧ z ≤ if y = 2 then 999 else 99) : Cm l Γ mX6_setParty 3 [.ref o, .int x, .int y, .int z] (wD Γ w o S D) (some (.int (dP D k j))) (wD Γ w o (remM (mf S 0 0) D u) (upd D (16 + 3 * k + j) z)) := by
  refine Cm.of (by decide) rfl (Nat.le_of_ble_eq_true rfl) ?_
  refine go_aload_n 1 dX6_setParty_0 rfl ?_
  refine go_iconst 2 dX6_setParty_1 zc_0 ?_
  refine gd_put 5 dX6_setParty_2 pX6_39 rfl (by decide) ?_
  refine go_aload_n 6 dX6_setParty_5 rfl ?_
  refine go_iload_n 7 dX6_setParty_6 rfl ?_
  refine gdV1 10 dX6_setParty_7 vX6_274 (ct_X6_noParty_n h1 rfl) ?_
  refine go_if_ne 56 13 dX6_setParty_10 (fun h10 => ?_) (fun h10 => ?_)
  · exact absurd h10 (by decide)
  · refine go_aload_n 14 dX6_setParty_13 rfl ?_
    refine go_iload_n 15 dX6_setParty_14 rfl ?_
    refine go_iconst 16 dX6_setParty_15 zc_0 ?_
    refine go_iconst 17 dX6_setParty_16 zc_2 ?_
    refine gcS3 20 dX6_setParty_17 vX6_61 (ct_X6_in) ?_
    refine go_if_eq 44 23 dX6_setParty_20 (fun h20 => ?_) (fun h20 => ?_)
    · exact (zb_0 h20 h2).elim
    · refine go_iload_n 24 dX6_setParty_23 rfl ?_
      refine go_iconst 25 dX6_setParty_24 zc_0 ?_
      refine go_iload_n 26 dX6_setParty_25 rfl ?_
      refine go_iconst 27 dX6_setParty_26 zc_2 ?_
      refine go_icmp_ne 36 30 dX6_setParty_27 (fun h27 => ?_) (fun h27 => ?_)
      · refine go_bipush 38 dX6_setParty_36 zb_99 ?_
        refine gcS3 41 dX6_setParty_38 vX6_61 (ct_X6_in) ?_
        refine go_if_ne 48 44 dX6_setParty_41 (fun h41 => ?_) (fun h41 => ?_)
        · refine go_iconst 49 dX6_setParty_48 zc_0 ?_
          refine go_iconst 50 dX6_setParty_49 zc_2 ?_
          refine gdV2 53 dX6_setParty_50 vX6_149 (ct_X6_fails_n rfl) ?_
          refine go_if_eq 58 56 dX6_setParty_53 (fun h53 => ?_) (fun h53 => ?_)
          · refine go_aload_n 59 dX6_setParty_58 rfl ?_
            refine gdV0v 62 dX6_setParty_59 vX6_158 (ct_X6_remember (u := u) hU hu) ?_
            refine go_aload_n 63 dX6_setParty_62 rfl ?_
            refine go_iload_n 64 dX6_setParty_63 rfl ?_
            refine go_iload_n 65 dX6_setParty_64 rfl ?_
            refine gdV2 68 dX6_setParty_65 vX6_250 (ct_X6_ofParty (j := j) hx hy (by omega)) ?_
            refine go_istore 70 dX6_setParty_68 (by decide) ?_
            refine go_aload_n 71 dX6_setParty_70 rfl ?_
            refine gd_get 74 dX6_setParty_71 fX6_17 rfl ?_
            refine go_bipush 76 dX6_setParty_74 zb_16 ?_
            refine go_iconst 77 dX6_setParty_76 zc_3 ?_
            refine go_iload_n 78 dX6_setParty_77 rfl ?_
            refine go_imul 79 dX6_setParty_78 ?_
            refine go_iadd 80 dX6_setParty_79 ?_
            refine go_iload_n 81 dX6_setParty_80 rfl ?_
            refine go_iadd 82 dX6_setParty_81 ?_
            refine go_iload_n 83 dX6_setParty_82 rfl ?_
            refine gd_iast 84 (16 + 3 * k + j) dX6_setParty_83 (by rw [hx, hy, ixP0, nI_add]) (by omega) ?_
            refine go_iload 86 dX6_setParty_84 rfl ?_
            exact go_ireturn dX6_setParty_86 rfl (by omega) (by omega) (⟨rfl, rfl⟩)
          · exact absurd h53 (by decide)
        · exact (zb_0 h41 (by first | (rw [if_pos h27] at h3; exact h3) | (rw [if_neg h27] at h3; exact h3))).elim
      · refine go_sipush 33 dX6_setParty_30 zs_999 ?_
        refine go_goto 38 dX6_setParty_33 ?_
        refine gcS3 41 dX6_setParty_38 vX6_61 (ct_X6_in) ?_
        refine go_if_ne 48 44 dX6_setParty_41 (fun h41 => ?_) (fun h41 => ?_)
        · refine go_iconst 49 dX6_setParty_48 zc_0 ?_
          refine go_iconst 50 dX6_setParty_49 zc_2 ?_
          refine gdV2 53 dX6_setParty_50 vX6_149 (ct_X6_fails_n rfl) ?_
          refine go_if_eq 58 56 dX6_setParty_53 (fun h53 => ?_) (fun h53 => ?_)
          · refine go_aload_n 59 dX6_setParty_58 rfl ?_
            refine gdV0v 62 dX6_setParty_59 vX6_158 (ct_X6_remember (u := u) hU hu) ?_
            refine go_aload_n 63 dX6_setParty_62 rfl ?_
            refine go_iload_n 64 dX6_setParty_63 rfl ?_
            refine go_iload_n 65 dX6_setParty_64 rfl ?_
            refine gdV2 68 dX6_setParty_65 vX6_250 (ct_X6_ofParty (j := j) hx hy (by omega)) ?_
            refine go_istore 70 dX6_setParty_68 (by decide) ?_
            refine go_aload_n 71 dX6_setParty_70 rfl ?_
            refine gd_get 74 dX6_setParty_71 fX6_17 rfl ?_
            refine go_bipush 76 dX6_setParty_74 zb_16 ?_
            refine go_iconst 77 dX6_setParty_76 zc_3 ?_
            refine go_iload_n 78 dX6_setParty_77 rfl ?_
            refine go_imul 79 dX6_setParty_78 ?_
            refine go_iadd 80 dX6_setParty_79 ?_
            refine go_iload_n 81 dX6_setParty_80 rfl ?_
            refine go_iadd 82 dX6_setParty_81 ?_
            refine go_iload_n 83 dX6_setParty_82 rfl ?_
            refine gd_iast 84 (16 + 3 * k + j) dX6_setParty_83 (by rw [hx, hy, ixP0, nI_add]) (by omega) ?_
            refine go_iload 86 dX6_setParty_84 rfl ?_
            exact go_ireturn dX6_setParty_86 rfl (by omega) (by omega) (⟨rfl, rfl⟩)
          · exact absurd h53 (by decide)
        · exact (zb_0 h41 (by first | (rw [if_pos h27] at h3; exact h3) | (rw [if_neg h27] at h3; exact h3))).elim

set_option maxRecDepth 100000 in
set_option maxHeartbeats 4000000 in
theorem ct_X6_hangUp_1 {l : Launch} {Γ : ZG} {w : ZW} {o : Nat} {S : MS} {D : ZD} {x : Int32} (h1 : ¬ (0 ≤ x ∧ x ≤ D 4 - 1)) : Cm l Γ mX6_hangUp 7 [.ref o, .int x] (wD Γ w o S D) (some (.int 0)) (wD Γ w o (mf (mf S 0 0) 0 1) D) := by
  refine Cm.of (by decide) rfl (Nat.le_of_ble_eq_true rfl) ?_
  refine go_aload_n 1 dX6_hangUp_0 rfl ?_
  refine go_iconst 2 dX6_hangUp_1 zc_0 ?_
  refine gd_put 5 dX6_hangUp_2 pX6_39 rfl (by decide) ?_
  refine go_aload_n 6 dX6_hangUp_5 rfl ?_
  refine go_iload_n 7 dX6_hangUp_6 rfl ?_
  refine gdV1 10 dX6_hangUp_7 vX6_274 (ct_X6_noParty_y h1 rfl) ?_
  refine go_if_eq 15 13 dX6_hangUp_10 (fun h10 => ?_) (fun h10 => ?_)
  · exact absurd h10 (by decide)
  · refine go_iconst 14 dX6_hangUp_13 zc_0 ?_
    exact go_ireturn dX6_hangUp_14 rfl (by omega) (by omega) (⟨rfl, rfl⟩)

set_option maxRecDepth 100000 in
set_option maxHeartbeats 4000000 in
theorem ct_X6_hangUp {l : Launch} {Γ : ZG} {w : ZW} {o : Nat} {S : MS} {D : ZD} (hI : Iv D) {x : Int32} {u : Nat} (hU : S.1 12 = nI u) (hu : u ≤ 8) (h1 : 0 ≤ x ∧ x ≤ D 4 - 1) : Cm l Γ mX6_hangUp 7 [.ref o, .int x] (wD Γ w o S D) (some (.int (hupD D x).1)) (wD Γ w o (remM (mf S 0 0) D u) (hupD D x).2) := by
  have hl40 : nL D ≤ 40 := hI.1.2.2.1.2
  have hc20 : nC D ≤ 20 := hI.1.2.1.2
  refine Cm.of (by decide) rfl (Nat.le_of_ble_eq_true rfl) ?_
  refine go_aload_n 1 dX6_hangUp_0 rfl ?_
  refine go_iconst 2 dX6_hangUp_1 zc_0 ?_
  refine gd_put 5 dX6_hangUp_2 pX6_39 rfl (by decide) ?_
  refine go_aload_n 6 dX6_hangUp_5 rfl ?_
  refine go_iload_n 7 dX6_hangUp_6 rfl ?_
  refine gdV1 10 dX6_hangUp_7 vX6_274 (ct_X6_noParty_n h1 rfl) ?_
  refine go_if_eq 15 13 dX6_hangUp_10 (fun h10 => ?_) (fun h10 => ?_)
  · refine go_aload_n 16 dX6_hangUp_15 rfl ?_
    refine gdV0v 19 dX6_hangUp_16 vX6_158 (ct_X6_remember (u := u) hU hu) ?_
    refine go_aload_n 20 dX6_hangUp_19 rfl ?_
    refine go_iload_n 21 dX6_hangUp_20 rfl ?_
    refine go_iconst 22 dX6_hangUp_21 zc_1 ?_
    refine gdV2 25 dX6_hangUp_22 vX6_190 (ct_X6_legWith hI.1) ?_
    refine go_istore_n 26 dX6_hangUp_25 (by decide) ?_
    refine go_aload_n 27 dX6_hangUp_26 rfl ?_
    refine go_iload_n 28 dX6_hangUp_27 rfl ?_
    refine gdV1 31 dX6_hangUp_28 vX6_193 (ct_X6_ringingOf hI.1) ?_
    refine go_istore_n 32 dX6_hangUp_31 (by decide) ?_
    refine go_aload_n 33 dX6_hangUp_32 rfl ?_
    refine go_iload_n 34 dX6_hangUp_33 rfl ?_
    refine go_iconst 35 dX6_hangUp_34 zc_2 ?_
    refine gdV2 38 dX6_hangUp_35 vX6_190 (ct_X6_legWith hI.1) ?_
    refine go_istore 40 dX6_hangUp_38 (by decide) ?_
    refine go_iload_n 41 dX6_hangUp_40 rfl ?_
    refine go_iconst 42 dX6_hangUp_41 zc_m1 ?_
    refine go_icmp_eq 54 45 dX6_hangUp_42 (fun h42 => ?_) (fun h42 => ?_)
    · refine go_iload_n 55 dX6_hangUp_54 rfl ?_
      refine go_iconst 56 dX6_hangUp_55 zc_m1 ?_
      refine go_icmp_eq 73 59 dX6_hangUp_56 (fun h56 => ?_) (fun h56 => ?_)
      · refine go_iload 75 dX6_hangUp_73 rfl ?_
        refine go_iconst 76 dX6_hangUp_75 zc_m1 ?_
        refine go_icmp_eq 89 79 dX6_hangUp_76 (fun h76 => ?_) (fun h76 => ?_)
        · refine go_aload_n 90 dX6_hangUp_89 rfl ?_
          refine go_iload_n 91 dX6_hangUp_90 rfl ?_
          refine gdV1 94 dX6_hangUp_91 vX6_271 (ct_X6_rungAt hI.1) ?_
          refine go_if_ne 99 97 dX6_hangUp_94 (fun h94 => ?_) (fun h94 => ?_)
          · have h94 := h94
            refine go_aload_n 100 dX6_hangUp_99 rfl ?_
            refine go_iload_n 101 dX6_hangUp_100 rfl ?_
            refine go_iconst 102 dX6_hangUp_101 zc_5 ?_
            refine gdV2v 105 dX6_hangUp_102 vX6_215 (ct_X6_endAllTo hI) ?_
            rw [show hupD D x = _ from (if_neg (fun q => q h42)).trans ((if_neg (fun q => q h56)).trans ((if_neg (fun q => q h76)).trans (if_neg h94)))]
            refine go_iconst 106 dX6_hangUp_105 zc_4 ?_
            exact go_ireturn dX6_hangUp_106 rfl (by omega) (by omega) (⟨rfl, rfl⟩)
          · rw [show hupD D x = _ from (if_neg (fun q => q h42)).trans ((if_neg (fun q => q h56)).trans ((if_neg (fun q => q h76)).trans (if_pos (by first | exact h94 | exact Classical.not_not.mp h94))))]
            refine go_iconst 98 dX6_hangUp_97 zc_0 ?_
            exact go_ireturn dX6_hangUp_98 rfl (by omega) (by omega) (⟨rfl, rfl⟩)
        · have hl := zfind_ok (n := nL D) (by omega) h76
          refine go_aload_n 80 dX6_hangUp_79 rfl ?_
          refine go_iload 82 dX6_hangUp_80 rfl ?_
          refine go_bipush 84 dX6_hangUp_82 zb_6 ?_
          refine gdV2v 87 dX6_hangUp_84 vX6_205 (ct_X6_end hl.1 (by omega)) ?_
          rw [show hupD D x = _ from (if_neg (fun q => q h42)).trans ((if_neg (fun q => q h56)).trans (if_pos h76))]
          refine go_iconst 88 dX6_hangUp_87 zc_3 ?_
          exact go_ireturn dX6_hangUp_88 rfl (by omega) (by omega) (⟨rfl, rfl⟩)
      · have hl := zfind_ok (n := nC D) (by omega) h56
        refine go_aload_n 60 dX6_hangUp_59 rfl ?_
        refine go_iload_n 61 dX6_hangUp_60 rfl ?_
        refine go_iconst 62 dX6_hangUp_61 zc_m1 ?_
        refine go_iconst 63 dX6_hangUp_62 zc_4 ?_
        refine gdV3v 66 dX6_hangUp_63 vX6_211 (ct_X6_endAll hI) ?_
        refine go_aload_n 67 dX6_hangUp_66 rfl ?_
        refine go_iload_n 68 dX6_hangUp_67 rfl ?_
        refine gdV1v 71 dX6_hangUp_68 vX6_202 (ct_X6_takeBack (hI.same sm_endAll) hl.1 (by rw [sm_nC (sm_endAll (D := D))]; exact hl.2.1)) ?_
        rw [show hupD D x = _ from (if_neg (fun q => q h42)).trans (if_pos h56)]
        refine go_iconst 72 dX6_hangUp_71 zc_2 ?_
        exact go_ireturn dX6_hangUp_72 rfl (by omega) (by omega) (⟨rfl, rfl⟩)
    · have hl := zfind_ok (n := nL D) (by omega) h42
      refine go_aload_n 46 dX6_hangUp_45 rfl ?_
      refine go_iload_n 47 dX6_hangUp_46 rfl ?_
      refine go_bipush 49 dX6_hangUp_47 zb_6 ?_
      refine gdV2v 52 dX6_hangUp_49 vX6_205 (ct_X6_end hl.1 (by omega)) ?_
      rw [show hupD D x = _ from if_pos h42]
      refine go_iconst 53 dX6_hangUp_52 zc_1 ?_
      exact go_ireturn dX6_hangUp_53 rfl (by omega) (by omega) (⟨rfl, rfl⟩)
  · exact absurd h10 (by decide)
end MApi
