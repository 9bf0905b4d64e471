section MRing
set_option maxRecDepth 100000 in
set_option maxHeartbeats 4000000 in
theorem lp_X6_makeLeg {l : Launch} {Γ : ZG} {w : ZW} {o : Nat} {S : MS} {D : ZD} {E : Prop} {k : Nat} {c ce : Int32} (hk : k < 40) : ∀ (f j : Nat) (D' : ZD), j + f = 13 → Go l Γ mX6_makeLeg 7 0 0 (fun v w2 => v = none ∧ w2 = wD Γ w o S (mkF E k c ce (itr (fun j D => setL D k j 0) j f D'))) zNo 0 0 (wD Γ w o S D') 24 [(0, .ref o), (1, .int c), (2, .int ce), (3, .int (nI k)), (4, .int (nI (146 + 13 * k))), (5, .int (zb E)), (6, .int (nI j))] [] := by
  intro f
  induction f with
  | zero =>
    intro j D' hif
    refine go_iload 26 dX6_makeLeg_24 rfl ?_
    refine go_bipush 28 dX6_makeLeg_26 zb_13 ?_
    refine go_icmp_ge 48 31 dX6_makeLeg_28 (fun h28 => ?_) (fun h28 => ?_)
    · refine go_aload_n 49 dX6_makeLeg_48 rfl ?_
      refine gd_get 52 dX6_makeLeg_49 fX6_17 rfl ?_
      refine go_iload 54 dX6_makeLeg_52 rfl ?_
      refine go_iconst 55 dX6_makeLeg_54 zc_0 ?_
      refine go_iadd 56 dX6_makeLeg_55 ?_
      refine go_iload_n 57 dX6_makeLeg_56 rfl ?_
      refine gd_iast 58 (146 + 13 * k + 0) dX6_makeLeg_57 (ix2 _ 0 _ rfl) (by omega) ?_
      refine go_aload_n 59 dX6_makeLeg_58 rfl ?_
      refine gd_get 62 dX6_makeLeg_59 fX6_17 rfl ?_
      refine go_iload 64 dX6_makeLeg_62 rfl ?_
      refine go_iconst 65 dX6_makeLeg_64 zc_1 ?_
      refine go_iadd 66 dX6_makeLeg_65 ?_
      refine go_iload_n 67 dX6_makeLeg_66 rfl ?_
      refine gd_iast 68 (146 + 13 * k + 1) dX6_makeLeg_67 (ix2 _ 1 _ rfl) (by omega) ?_
      refine go_aload_n 69 dX6_makeLeg_68 rfl ?_
      refine gd_get 72 dX6_makeLeg_69 fX6_17 rfl ?_
      refine go_iload 74 dX6_makeLeg_72 rfl ?_
      refine go_iconst 75 dX6_makeLeg_74 zc_2 ?_
      refine go_iadd 76 dX6_makeLeg_75 ?_
      refine go_iconst 77 dX6_makeLeg_76 zc_0 ?_
      refine gd_iast 78 (146 + 13 * k + 2) dX6_makeLeg_77 (ix2 _ 2 _ rfl) (by omega) ?_
      refine go_aload_n 79 dX6_makeLeg_78 rfl ?_
      refine go_iload_n 80 dX6_makeLeg_79 rfl ?_
      refine gdV1v 83 dX6_makeLeg_80 vX6_196 (ct_X6_withoutOffers rfl hk) ?_
      refine go_aload_n 84 dX6_makeLeg_83 rfl ?_
      refine gd_get 87 dX6_makeLeg_84 fX6_17 rfl ?_
      refine go_bipush 89 dX6_makeLeg_87 zb_6 ?_
      refine go_dup2 90 dX6_makeLeg_89 rfl rfl ?_
      refine gd_iald 91 (6) dX6_makeLeg_90 rfl (by decide) ?_
      refine go_iconst 92 dX6_makeLeg_91 zc_1 ?_
      refine go_iadd 93 dX6_makeLeg_92 ?_
      refine gd_iast 94 (6) dX6_makeLeg_93 rfl (by decide) ?_
      refine go_iload 96 dX6_makeLeg_94 rfl ?_
      refine go_if_eq 105 99 dX6_makeLeg_96 (fun h96 => ?_) (fun h96 => ?_)
      · exact go_return dX6_makeLeg_105 rfl (by omega) (by omega) (⟨rfl, congrArg (wD Γ w o S) (by unfold mkF; first | exact (if_neg (zb_0 h96)).symm | exact (if_pos (zb_1 h96)).symm)⟩)
      · refine go_aload_n 100 dX6_makeLeg_99 rfl ?_
        refine go_iload_n 101 dX6_makeLeg_100 rfl ?_
        refine go_iconst 102 dX6_makeLeg_101 zc_1 ?_
        refine gdV2v 105 dX6_makeLeg_102 vX6_205 (ct_X6_end rfl hk) ?_
        exact go_return dX6_makeLeg_105 rfl (by omega) (by omega) (⟨rfl, congrArg (wD Γ w o S) (by unfold mkF; first | exact (if_neg (zb_0 h96)).symm | exact (if_pos (zb_1 h96)).symm)⟩)
    · exact (lpE (a := 13) (N := 13) rfl (by omega) h28).elim
  | succ f ih =>
    intro j D' hif
    refine go_iload 26 dX6_makeLeg_24 rfl ?_
    refine go_bipush 28 dX6_makeLeg_26 zb_13 ?_
    refine go_icmp_ge 48 31 dX6_makeLeg_28 (fun h28 => ?_) (fun h28 => ?_)
    · exact (lpG (a := 13) (N := 13) rfl (by decide) (by omega) h28).elim
    · refine go_aload_n 32 dX6_makeLeg_31 rfl ?_
      refine gd_get 35 dX6_makeLeg_32 fX6_17 rfl ?_
      refine go_iload 37 dX6_makeLeg_35 rfl ?_
      refine go_iload 39 dX6_makeLeg_37 rfl ?_
      refine go_iadd 40 dX6_makeLeg_39 ?_
      refine go_iconst 41 dX6_makeLeg_40 zc_0 ?_
      refine gd_iast 42 (146 + 13 * k + j) dX6_makeLeg_41 (ix2 _ j _ rfl) (by omega) ?_
      refine go_iinc 45 dX6_makeLeg_42 rfl (by decide) zc_1 ?_
      refine go_goto 24 dX6_makeLeg_45 ?_
      rw [nI_1]
      exact go_locals _ rfl (ih (j + 1) (setL D' k j 0) (by omega))

set_option maxRecDepth 100000 in
set_option maxHeartbeats 4000000 in
theorem ct_X6_makeLeg {l : Launch} {Γ : ZG} {w : ZW} {o : Nat} {S : MS} {D : ZD} (hI : Ix D) (hk : nL D < 40) {c ce : Int32} : Cm l Γ mX6_makeLeg 7 [.ref o, .int c, .int ce] (wD Γ w o S D) (none) (wD Γ w o S (mkD D c ce)) := by
  refine Cm.of (by decide) rfl (Nat.le_of_ble_eq_true rfl) ?_
  refine go_aload_n 1 dX6_makeLeg_0 rfl ?_
  refine gd_get 4 dX6_makeLeg_1 fX6_17 rfl ?_
  refine go_bipush 6 dX6_makeLeg_4 zb_6 ?_
  refine gd_iald 7 (6) dX6_makeLeg_6 rfl (by decide) ?_
  rw [hI.2.2.1.1]
  refine go_istore_n 8 dX6_makeLeg_7 (by decide) ?_
  refine go_iload_n 9 dX6_makeLeg_8 rfl ?_
  refine gcS1 12 dX6_makeLeg_9 vX6_168 (ct_X6_legAt rfl) ?_
  refine go_istore 14 dX6_makeLeg_12 (by decide) ?_
  refine go_aload_n 15 dX6_makeLeg_14 rfl ?_
  refine go_iload_n 16 dX6_makeLeg_15 rfl ?_
  refine gdV1 19 dX6_makeLeg_16 vX6_234 (ct_X6_isEngaged hI) ?_
  refine go_istore 21 dX6_makeLeg_19 (by decide) ?_
  refine go_iconst 22 dX6_makeLeg_21 zc_0 ?_
  refine go_istore 24 dX6_makeLeg_22 (by decide) ?_
  exact go_locals _ rfl (lp_X6_makeLeg (D := D) (E := eng D ce) hk 13 0 D (by omega))

set_option maxRecDepth 100000 in
set_option maxHeartbeats 4000000 in
theorem ct_X6_limited {l : Launch} {Γ : ZG} {w : ZW} {x : Int64} : Cm l Γ mX6_limited 1 [.long x] (w) (some (.long (lim x))) (w) := by
  refine Cm.of (by decide) rfl (Nat.le_of_ble_eq_true rfl) ?_
  refine go_lload_n 1 dX6_limited_0 rfl ?_
  refine go_ldc2 4 dX6_limited_1 clX6_218 ?_
  refine go_lcmp 5 dX6_limited_4 ?_
  refine go_if_le 14 8 dX6_limited_5 (fun h5 => ?_) (fun h5 => ?_)
  · refine go_lload_n 15 dX6_limited_14 rfl ?_
    refine go_ldc2 18 dX6_limited_15 clX6_220 ?_
    refine go_lcmp 19 dX6_limited_18 ?_
    refine go_if_ge 28 22 dX6_limited_19 (fun h19 => ?_) (fun h19 => ?_)
    · refine go_lload_n 29 dX6_limited_28 rfl ?_
      exact go_lreturn dX6_limited_29 rfl (by omega) (by omega) (⟨by unfold lim; first | rw [if_pos h5, if_pos h19] | rw [if_pos h5, if_neg h19] | rw [if_neg h5], rfl⟩)
    · refine go_ldc2 25 dX6_limited_22 clX6_220 ?_
      refine go_goto 29 dX6_limited_25 ?_
      exact go_lreturn dX6_limited_29 rfl (by omega) (by omega) (⟨by unfold lim; first | rw [if_pos h5, if_pos h19] | rw [if_pos h5, if_neg h19] | rw [if_neg h5], rfl⟩)
  · refine go_ldc2 11 dX6_limited_8 clX6_218 ?_
    refine go_goto 29 dX6_limited_11 ?_
    exact go_lreturn dX6_limited_29 rfl (by omega) (by omega) (⟨by unfold lim; first | rw [if_pos h5, if_pos h19] | rw [if_pos h5, if_neg h19] | rw [if_neg h5], rfl⟩)

set_option maxRecDepth 100000 in
set_option maxHeartbeats 4000000 in
theorem ct_X6_operate_2 {l : Launch} {Γ : ZG} {w : ZW} {x y : Int64} : Cm l Γ mX6_operate 2 [.int 2, .long x, .long y] (w) (some (.long (opv (-5) x y))) (w) := by
  refine Cm.of (by decide) rfl (Nat.le_of_ble_eq_true rfl) ?_
  refine go_iload_n 1 dX6_operate_0 rfl ?_
  refine go_iconst 2 dX6_operate_1 zc_5 ?_
  refine go_icmp_ne 19 5 dX6_operate_2 (fun h2 => ?_) (fun h2 => ?_)
  · refine go_iload_n 20 dX6_operate_19 rfl ?_
    refine go_iconst 21 dX6_operate_20 zc_2 ?_
    refine go_icmp_ne 30 24 dX6_operate_21 (fun h21 => ?_) (fun h21 => ?_)
    · exact absurd h21 (by decide)
    · refine go_lload_n 25 dX6_operate_24 rfl ?_
      refine go_lload_n 26 dX6_operate_25 rfl ?_
      refine go_ladd 27 dX6_operate_26 ?_
      refine go_goto 44 dX6_operate_27 ?_
      refine gcS1 47 dX6_operate_44 vX6_222 (ct_X6_limited) ?_
      exact go_lreturn dX6_operate_47 rfl (by omega) (by omega) (⟨by first | rfl | (unfold opv; first | rw [if_pos rfl, if_pos h8] | rw [if_pos rfl, if_neg h8]), rfl⟩)
  · exact absurd h2 (by decide)

set_option maxRecDepth 100000 in
set_option maxHeartbeats 4000000 in
theorem ct_X6_operate_3 {l : Launch} {Γ : ZG} {w : ZW} {x y : Int64} : Cm l Γ mX6_operate 2 [.int 3, .long x, .long y] (w) (some (.long (opv (-6) x y))) (w) := by
  refine Cm.of (by decide) rfl (Nat.le_of_ble_eq_true rfl) ?_
  refine go_iload_n 1 dX6_operate_0 rfl ?_
  refine go_iconst 2 dX6_operate_1 zc_5 ?_
  refine go_icmp_ne 19 5 dX6_operate_2 (fun h2 => ?_) (fun h2 => ?_)
  · refine go_iload_n 20 dX6_operate_19 rfl ?_
    refine go_iconst 21 dX6_operate_20 zc_2 ?_
    refine go_icmp_ne 30 24 dX6_operate_21 (fun h21 => ?_) (fun h21 => ?_)
    · refine go_iload_n 31 dX6_operate_30 rfl ?_
      refine go_iconst 32 dX6_operate_31 zc_3 ?_
      refine go_icmp_ne 41 35 dX6_operate_32 (fun h32 => ?_) (fun h32 => ?_)
      · exact absurd h32 (by decide)
      · refine go_lload_n 36 dX6_operate_35 rfl ?_
        refine go_lload_n 37 dX6_operate_36 rfl ?_
        refine go_lsub 38 dX6_operate_37 ?_
        refine go_goto 44 dX6_operate_38 ?_
        refine gcS1 47 dX6_operate_44 vX6_222 (ct_X6_limited) ?_
        exact go_lreturn dX6_operate_47 rfl (by omega) (by omega) (⟨by first | rfl | (unfold opv; first | rw [if_pos rfl, if_pos h8] | rw [if_pos rfl, if_neg h8]), rfl⟩)
    · exact absurd h21 (by decide)
  · exact absurd h2 (by decide)

set_option maxRecDepth 100000 in
set_option maxHeartbeats 4000000 in
theorem ct_X6_operate_4 {l : Launch} {Γ : ZG} {w : ZW} {x y : Int64} : Cm l Γ mX6_operate 2 [.int 4, .long x, .long y] (w) (some (.long (opv (-7) x y))) (w) := by
  refine Cm.of (by decide) rfl (Nat.le_of_ble_eq_true rfl) ?_
  refine go_iload_n 1 dX6_operate_0 rfl ?_
  refine go_iconst 2 dX6_operate_1 zc_5 ?_
  refine go_icmp_ne 19 5 dX6_operate_2 (fun h2 => ?_) (fun h2 => ?_)
  · refine go_iload_n 20 dX6_operate_19 rfl ?_
    refine go_iconst 21 dX6_operate_20 zc_2 ?_
    refine go_icmp_ne 30 24 dX6_operate_21 (fun h21 => ?_) (fun h21 => ?_)
    · refine go_iload_n 31 dX6_operate_30 rfl ?_
      refine go_iconst 32 dX6_operate_31 zc_3 ?_
      refine go_icmp_ne 41 35 dX6_operate_32 (fun h32 => ?_) (fun h32 => ?_)
      · refine go_lload_n 42 dX6_operate_41 rfl ?_
        refine go_lload_n 43 dX6_operate_42 rfl ?_
        refine go_lmul 44 dX6_operate_43 ?_
        refine gcS1 47 dX6_operate_44 vX6_222 (ct_X6_limited) ?_
        exact go_lreturn dX6_operate_47 rfl (by omega) (by omega) (⟨by first | rfl | (unfold opv; first | rw [if_pos rfl, if_pos h8] | rw [if_pos rfl, if_neg h8]), rfl⟩)
      · exact absurd h32 (by decide)
    · exact absurd h21 (by decide)
  · exact absurd h2 (by decide)

set_option maxRecDepth 100000 in
set_option maxHeartbeats 4000000 in
theorem ct_X6_operate_5 {l : Launch} {Γ : ZG} {w : ZW} {x y : Int64} : Cm l Γ mX6_operate 2 [.int 5, .long x, .long y] (w) (some (.long (opv (-8) x y))) (w) := by
  refine Cm.of (by decide) rfl (Nat.le_of_ble_eq_true rfl) ?_
  refine go_iload_n 1 dX6_operate_0 rfl ?_
  refine go_iconst 2 dX6_operate_1 zc_5 ?_
  refine go_icmp_ne 19 5 dX6_operate_2 (fun h2 => ?_) (fun h2 => ?_)
  · exact absurd h2 (by decide)
  · refine go_lload_n 6 dX6_operate_5 rfl ?_
    refine go_lconst 7 dX6_operate_6 zl_0 ?_
    refine go_lcmp 8 dX6_operate_7 ?_
    refine go_if_ne 15 11 dX6_operate_8 (fun h8 => ?_) (fun h8 => ?_)
    · refine go_lload_n 16 dX6_operate_15 rfl ?_
      refine go_lload_n 17 dX6_operate_16 rfl ?_
      refine go_ldiv 18 dX6_operate_17 (fun q => h8 ((lg_cmp_eq _ _).mpr q)) ?_
      exact go_lreturn dX6_operate_18 rfl (by omega) (by omega) (⟨by first | rfl | (unfold opv; first | rw [if_pos rfl, if_pos h8] | rw [if_pos rfl, if_neg h8]), rfl⟩)
    · refine go_lconst 12 dX6_operate_11 zl_0 ?_
      refine go_goto 18 dX6_operate_12 ?_
      exact go_lreturn dX6_operate_18 rfl (by omega) (by omega) (⟨by first | rfl | (unfold opv; first | rw [if_pos rfl, if_pos h8] | rw [if_pos rfl, if_neg h8]), rfl⟩)
end MRing
