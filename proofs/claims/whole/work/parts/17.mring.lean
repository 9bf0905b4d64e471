section MRing
set_option maxRecDepth 100000 in
set_option maxHeartbeats 4000000 in
theorem lp_X6_makeLeg {l : Launch} {Γ : ZG} {w : ZW} {o : Nat} {S : MS} {D : ZD} {E : Prop} {k : Nat} {c ce : Int32} (hk : k < 40) : ∀ (f j : Nat) (D' : ZD), j + f = 13 → Go l Γ mX6_makeLeg 7 0 0 (fun v w2 => v = none ∧ w2 = wD Γ w o S (mkF E k c ce (itr (fun j D => setL D k j 0) j f D'))) zNo 0 0 (wD Γ w o S D') 24 [(0, .ref o), (1, .int c), (2, .int ce), (3, .int (nI k)), (4, .int (nI (146 + 13 * k))), (5, .int (zb E)), (6, .int (nI j))] [] := by
  intro f
  induction f with
  | zero =>
    intro j D' hif
    refine go_iload 26 dX6_makeLeg_24 rfl ?_
    refine go_bipush 28 dX6_makeLeg_26 zb_13 ?_
    refine go_icmp_ge 48 31 dX6_makeLeg_28 (fun h28 => ?_) (fun h28 => ?_)
    · refine go_aload_n 49 dX6_makeLeg_48 rfl ?_
      refine gd_get 52 dX6_makeLeg_49 fX6_17 rfl ?_
      refine go_iload 54 dX6_makeLeg_52 rfl ?_
      refine go_iconst 55 dX6_makeLeg_54 zc_0 ?_
      refine go_iadd 56 dX6_makeLeg_55 ?_
      refine go_iload_n 57 dX6_makeLeg_56 rfl ?_
      refine gd_iast 58 (146 + 13 * k + 0) dX6_makeLeg_57 (ix2 _ 0 _ rfl) (by omega) ?_
      refine go_aload_n 59 dX6_makeLeg_58 rfl ?_
      refine gd_get 62 dX6_makeLeg_59 fX6_17 rfl ?_
      refine go_iload 64 dX6_makeLeg_62 rfl ?_
      refine go_iconst 65 dX6_makeLeg_64 zc_1 ?_
      refine go_iadd 66 dX6_makeLeg_65 ?_
      refine go_iload_n 67 dX6_makeLeg_66 rfl ?_
      refine gd_iast 68 (146 + 13 * k + 1) dX6_makeLeg_67 (ix2 _ 1 _ rfl) (by omega) ?_
      refine go_aload_n 69 dX6_makeLeg_68 rfl ?_
      refine gd_get 72 dX6_makeLeg_69 fX6_17 rfl ?_
      refine go_iload 74 dX6_makeLeg_72 rfl ?_
      refine go_iconst 75 dX6_makeLeg_74 zc_2 ?_
      refine go_iadd 76 dX6_makeLeg_75 ?_
      refine go_iconst 77 dX6_makeLeg_76 zc_0 ?_
      refine gd_iast 78 (146 + 13 * k + 2) dX6_makeLeg_77 (ix2 _ 2 _ rfl) (by omega) ?_
      refine go_aload_n 79 dX6_makeLeg_78 rfl ?_
      refine go_iload_n 80 dX6_makeLeg_79 rfl ?_
      refine gdV1v 83 dX6_makeLeg_80 vX6_196 (ct_X6_withoutOffers rfl hk) ?_
      refine go_aload_n 84 dX6_makeLeg_83 rfl ?_
      refine gd_get 87 dX6_makeLeg_84 fX6_17 rfl ?_
      refine go_bipush 89 dX6_makeLeg_87 zb_6 ?_
      refine go_dup2 90 dX6_makeLeg_89 rfl rfl ?_
      refine gd_iald 91 (6) dX6_makeLeg_90 rfl (by decide) ?_
      refine go_iconst 92 dX6_makeLeg_91 zc_1 ?_
      refine go_iadd 93 dX6_makeLeg_92 ?_
      refine gd_iast 94 (6) dX6_makeLeg_93 rfl (by decide) ?_
      refine go_iload 96 dX6_makeLeg_94 rfl ?_
      refine go_if_eq 105 99 dX6_makeLeg_96 (fun h96 => ?_) (fun h96 => ?_)
      · exact go_return dX6_makeLeg_105 rfl (by omega) (by omega) (⟨rfl, congrArg (wD Γ w o S) (by unfold mkF; first | exact (if_neg (zb_0 h96)).symm | exact (if_pos (zb_1 h96)).symm)⟩)
      · refine go_aload_n 100 dX6_makeLeg_99 rfl ?_
        refine go_iload_n 101 dX6_makeLeg_100 rfl ?_
        refine go_iconst 102 dX6_makeLeg_101 zc_1 ?_
        refine gdV2v 105 dX6_makeLeg_102 vX6_205 (ct_X6_end rfl hk) ?_
        exact go_return dX6_makeLeg_105 rfl (by omega) (by omega) (⟨rfl, congrArg (wD Γ w o S) (by unfold mkF; first | exact (if_neg (zb_0 h96)).symm | exact (if_pos (zb_1 h96)).symm)⟩)
    · exact (lpE (a := 13) (N := 13) rfl (by omega) h28).elim
  | succ f ih =>
    intro j D' hif
    refine go_iload 26 dX6_makeLeg_24 rfl ?_
    refine go_bipush 28 dX6_makeLeg_26 zb_13 ?_
    refine go_icmp_ge 48 31 dX6_makeLeg_28 (fun h28 => ?_) (fun h28 => ?_)
    · exact (lpG (a := 13) (N := 13) rfl (by decide) (by omega) h28).elim
    · refine go_aload_n 32 dX6_makeLeg_31 rfl ?_
      refine gd_get 35 dX6_makeLeg_32 fX6_17 rfl ?_
      refine go_iload 37 dX6_makeLeg_35 rfl ?_
      refine go_iload 39 dX6_makeLeg_37 rfl ?_
      refine go_iadd 40 dX6_makeLeg_39 ?_
      refine go_iconst 41 dX6_makeLeg_40 zc_0 ?_
      refine gd_iast 42 (146 + 13 * k + j) dX6_makeLeg_41 (ix2 _ j _ rfl) (by omega) ?_
      refine go_iinc 45 dX6_makeLeg_42 rfl (by decide) zc_1 ?_
      refine go_goto 24 dX6_makeLeg_45 ?_
      rw [nI_1]
      exact go_locals _ rfl (ih (j + 1) (setL D' k j 0) (by omega))

set_option maxRecDepth 100000 in
set_option maxHeartbeats 4000000 in
theorem ct_X6_makeLeg {l : Launch} {Γ : ZG} {w : ZW} {o : Nat} {S : MS} {D : ZD} (hI : Ix D) (hk : nL D < 40) {c ce : Int32} : Cm l Γ mX6_makeLeg 7 [.ref o, .int c, .int ce] (wD Γ w o S D) (none) (wD Γ w o S (mkD D c ce)) := by
  refine Cm.of (by decide) rfl (Nat.le_of_ble_eq_true rfl) ?_
  refine go_aload_n 1 dX6_makeLeg_0 rfl ?_
  refine gd_get 4 dX6_makeLeg_1 fX6_17 rfl ?_
  refine go_bipush 6 dX6_makeLeg_4 zb_6 ?_
  refine gd_iald 7 (6) dX6_makeLeg_6 rfl (by decide) ?_
  rw [hI.2.2.1.1]
  refine go_istore_n 8 dX6_makeLeg_7 (by decide) ?_
  refine go_iload_n 9 dX6_makeLeg_8 rfl ?_
  refine gcS1 12 dX6_makeLeg_9 vX6_168 (ct_X6_legAt rfl) ?_
  refine go_istore 14 dX6_makeLeg_12 (by decide) ?_
  refine go_aload_n 15 dX6_makeLeg_14 rfl ?_
  refine go_iload_n 16 dX6_makeLeg_15 rfl ?_
  refine gdV1 19 dX6_makeLeg_16 vX6_234 (ct_X6_isEngaged hI) ?_
  refine go_istore 21 dX6_makeLeg_19 (by decide) ?_
  refine go_iconst 22 dX6_makeLeg_21 zc_0 ?_
  refine go_istore 24 dX6_makeLeg_22 (by decide) ?_
  exact go_locals _ rfl (lp_X6_makeLeg (D := D) (E := eng D ce) hk 13 0 D (by omega))

set_option maxRecDepth 100000 in
set_option maxHeartbeats 4000000 in
theorem ct_X6_limited {l : Launch} {Γ : ZG} {w : ZW} {x : Int64} : Cm l Γ mX6_limited 1 [.long x] (w) (some (.long (lim x))) (w) := by
  refine Cm.of (by decide) rfl (Nat.le_of_ble_eq_true rfl) ?_
  refine go_lload_n 1 dX6_limited_0 rfl ?_
  refine go_ldc2 4 dX6_limited_1 clX6_218 ?_
  refine go_lcmp 5 dX6_limited_4 ?_
  refine go_if_le 14 8 dX6_limited_5 (fun h5 => ?_) (fun h5 => ?_)
  · refine go_lload_n 15 dX6_limited_14 rfl ?_
    refine go_ldc2 18 dX6_limited_15 clX6_220 ?_
    refine go_lcmp 19 dX6_limited_18 ?_
    refine go_if_ge 28 22 dX6_limited_19 (fun h19 => ?_) (fun h19 => ?_)
    · refine go_lload_n 29 dX6_limited_28 rfl ?_
      exact go_lreturn dX6_limited_29 rfl (by omega) (by omega) (⟨by unfold lim; first | rw [if_pos h5, if_pos h19] | rw [if_pos h5, if_neg h19] | rw [if_neg h5], rfl⟩)
    · refine go_ldc2 25 dX6_limited_22 clX6_220 ?_
      refine go_goto 29 dX6_limited_25 ?_
      exact go_lreturn dX6_limited_29 rfl (by omega) (by omega) (⟨by unfold lim; first | rw [if_pos h5, if_pos h19] | rw [if_pos h5, if_neg h19] | rw [if_neg h5], rfl⟩)
  · refine go_ldc2 11 dX6_limited_8 clX6_218 ?_
    refine go_goto 29 dX6_limited_11 ?_
    exact go_lreturn dX6_limited_29 rfl (by omega) (by omega) (⟨by unfold lim; first | rw [if_pos h5, if_pos h19] | rw [if_pos h5, if_neg h19] | rw [if_neg h5], rfl⟩)

set_option maxRecDepth 100000 in
set_option maxHeartbeats 4000000 in
theorem ct_X6_operate_2 {l : Launch} {Γ : ZG} {w : ZW} {x y : Int64} : Cm l Γ mX6_operate 2 [.int 2, .long x, .long y] (w) (some (.long (opv (-5) x y))) (w) := by
  refine Cm.of (by decide) rfl (Nat.le_of_ble_eq_true rfl) ?_
  refine go_iload_n 1 dX6_operate_0 rfl ?_
  refine go_iconst 2 dX6_operate_1 zc_5 ?_
  refine go_icmp_ne 19 5 dX6_operate_2 (fun h2 => ?_) (fun h2 => ?_)
  · refine go_iload_n 20 dX6_operate_19 rfl ?_
    refine go_iconst 21 dX6_operate_20 zc_2 ?_
    refine go_icmp_ne 30 24 dX6_operate_21 (fun h21 => ?_) (fun h21 => ?_)
    · exact absurd h21 (by decide)
    · refine go_lload_n 25 dX6_operate_24 rfl ?_
      refine go_lload_n 26 dX6_operate_25 rfl ?_
      refine go_ladd 27 dX6_operate_26 ?_
      refine go_goto 44 dX6_operate_27 ?_
      refine gcS1 47 dX6_operate_44 vX6_222 (ct_X6_limited) ?_
      exact go_lreturn dX6_operate_47 rfl (by omega) (by omega) (⟨by first | rfl | (unfold opv; first | rw [if_pos rfl, if_pos h8] | rw [if_pos rfl, if_neg h8]), rfl⟩)
  · exact absurd h2 (by decide)

set_option maxRecDepth 100000 in
set_option maxHeartbeats 4000000 in
theorem ct_X6_operate_3 {l : Launch} {Γ : ZG} {w : ZW} {x y : Int64} : Cm l Γ mX6_operate 2 [.int 3, .long x, .long y] (w) (some (.long (opv (-6) x y))) (w) := by
  refine Cm.of (by decide) rfl (Nat.le_of_ble_eq_true rfl) ?_
  refine go_iload_n 1 dX6_operate_0 rfl ?_
  refine go_iconst 2 dX6_operate_1 zc_5 ?_
  refine go_icmp_ne 19 5 dX6_operate_2 (fun h2 => ?_) (fun h2 => ?_)
  · refine go_iload_n 20 dX6_operate_19 rfl ?_
    refine go_iconst 21 dX6_operate_20 zc_2 ?_
    refine go_icmp_ne 30 24 dX6_operate_21 (fun h21 => ?_) (fun h21 => ?_)
    · refine go_iload_n 31 dX6_operate_30 rfl ?_
      refine go_iconst 32 dX6_operate_31 zc_3 ?_
      refine go_icmp_ne 41 35 dX6_operate_32 (fun h32 => ?_) (fun h32 => ?_)
      · exact absurd h32 (by decide)
      · refine go_lload_n 36 dX6_operate_35 rfl ?_
        refine go_lload_n 37 dX6_operate_36 rfl ?_
        refine go_lsub 38 dX6_operate_37 ?_
        refine go_goto 44 dX6_operate_38 ?_
        refine gcS1 47 dX6_operate_44 vX6_222 (ct_X6_limited) ?_
        exact go_lreturn dX6_operate_47 rfl (by omega) (by omega) (⟨by first | rfl | (unfold opv; first | rw [if_pos rfl, if_pos h8] | rw [if_pos rfl, if_neg h8]), rfl⟩)
    · exact absurd h21 (by decide)
  · exact absurd h2 (by decide)

set_option maxRecDepth 100000 in
set_option maxHeartbeats 4000000 in
theorem ct_X6_operate_4 {l : Launch} {Γ : ZG} {w : ZW} {x y : Int64} : Cm l Γ mX6_operate 2 [.int 4, .long x, .long y] (w) (some (.long (opv (-7) x y))) (w) := by
  refine Cm.of (by decide) rfl (Nat.le_of_ble_eq_true rfl) ?_
  refine go_iload_n 1 dX6_operate_0 rfl ?_
  refine go_iconst 2 dX6_operate_1 zc_5 ?_
  refine go_icmp_ne 19 5 dX6_operate_2 (fun h2 => ?_) (fun h2 => ?_)
  · refine go_iload_n 20 dX6_operate_19 rfl ?_
    refine go_iconst 21 dX6_operate_20 zc_2 ?_
    refine go_icmp_ne 30 24 dX6_operate_21 (fun h21 => ?_) (fun h21 => ?_)
    · refine go_iload_n 31 dX6_operate_30 rfl ?_
      refine go_iconst 32 dX6_operate_31 zc_3 ?_
      refine go_icmp_ne 41 35 dX6_operate_32 (fun h32 => ?_) (fun h32 => ?_)
      · refine go_lload_n 42 dX6_operate_41 rfl ?_
        refine go_lload_n 43 dX6_operate_42 rfl ?_
        refine go_lmul 44 dX6_operate_43 ?_
        refine gcS1 47 dX6_operate_44 vX6_222 (ct_X6_limited) ?_
        exact go_lreturn dX6_operate_47 rfl (by omega) (by omega) (⟨by first | rfl | (unfold opv; first | rw [if_pos rfl, if_pos h8] | rw [if_pos rfl, if_neg h8]), rfl⟩)
      · exact absurd h32 (by decide)
    · exact absurd h21 (by decide)
  · exact absurd h2 (by decide)

set_option maxRecDepth 100000 in
set_option maxHeartbeats 4000000 in
theorem ct_X6_operate_5 {l : Launch} {Γ : ZG} {w : ZW} {x y : Int64} : Cm l Γ mX6_operate 2 [.int 5, .long x, .long y] (w) (some (.long (opv (-8) x y))) (w) := by
  refine Cm.of (by decide) rfl (Nat.le_of_ble_eq_true rfl) ?_
  refine go_iload_n 1 dX6_operate_0 rfl ?_
  refine go_iconst 2 dX6_operate_1 zc_5 ?_
  refine go_icmp_ne 19 5 dX6_operate_2 (fun h2 => ?_) (fun h2 => ?_)
  · exact absurd h2 (by decide)
  · refine go_lload_n 6 dX6_operate_5 rfl ?_
    refine go_lconst 7 dX6_operate_6 zl_0 ?_
    refine go_lcmp 8 dX6_operate_7 ?_
    refine go_if_ne 15 11 dX6_operate_8 (fun h8 => ?_) (fun h8 => ?_)
    · refine go_lload_n 16 dX6_operate_15 rfl ?_
      refine go_lload_n 17 dX6_operate_16 rfl ?_
      refine go_ldiv 18 dX6_operate_17 (fun q => h8 ((lg_cmp_eq _ _).mpr q)) ?_
      exact go_lreturn dX6_operate_18 rfl (by omega) (by omega) (⟨by first | rfl | (unfold opv; first | rw [if_pos rfl, if_pos h8] | rw [if_pos rfl, if_neg h8]), rfl⟩)
    · refine go_lconst 12 dX6_operate_11 zl_0 ?_
      refine go_goto 18 dX6_operate_12 ?_
      exact go_lreturn dX6_operate_18 rfl (by omega) (by omega) (⟨by first | rfl | (unfold opv; first | rw [if_pos rfl, if_pos h8] | rw [if_pos rfl, if_neg h8]), rfl⟩)

set_option maxRecDepth 100000 in
set_option maxHeartbeats 4000000 in
theorem st_X6_ringTime_lit {l : Launch} {Γ : ZG} {w : ZW} {o : Nat} {S : MS} {D : ZD} {Φ : Option Value → ZW → Prop} {f : Nat → Int64} {lg cl rf : Int32} {top i N : Nat} {v : Int32} (hN : D 8 = nI N) (hi : i + 1 < N + 1) (hNb : N ≤ 1000) (ht : top < 1000) (hi2 : i + 1 < 1000) (hc : D (666 + i) = 0) (hv : D (666 + (i + 1)) = v) (kk : Go l Γ mX6_ringTime 3 0 0 Φ zNo 0 0 (wD Γ w o (ml S (vp_updL f top v.toInt64)) D) 15 [(0, .ref o), (1, .int lg), (2, .int cl), (3, .int rf), (4, .int (nI (top + 1))), (5, .int (nI (i + 2)))] []) : Go l Γ mX6_ringTime 3 0 0 Φ zNo 0 0 (wD Γ w o (ml S f) D) 15 [(0, .ref o), (1, .int lg), (2, .int cl), (3, .int rf), (4, .int (nI top)), (5, .int (nI i))] [] := by
  refine go_iload 17 dX6_ringTime_15 rfl ?_
  refine go_aload_n 18 dX6_ringTime_17 rfl ?_
  refine gd_get 21 dX6_ringTime_18 fX6_17 rfl ?_
  refine go_bipush 23 dX6_ringTime_21 zb_8 ?_
  refine gd_iald 24 (8) dX6_ringTime_23 rfl (by decide) ?_
  refine go_icmp_ge 164 27 dX6_ringTime_24 (fun h24 => ?_) (fun h24 => ?_)
  · exact (lpG hN (by omega) (by omega) h24).elim
  · refine go_aload_n 28 dX6_ringTime_27 rfl ?_
    refine gd_get 31 dX6_ringTime_28 fX6_17 rfl ?_
    refine go_sipush 34 dX6_ringTime_31 zs_666 ?_
    refine go_iload 36 dX6_ringTime_34 rfl ?_
    refine go_iadd 37 dX6_ringTime_36 ?_
    refine gd_iald 38 (666 + i) dX6_ringTime_37 (ix2 666 i _ rfl) (by omega) ?_
    rw [hc]
    refine go_istore 40 dX6_ringTime_38 (by decide) ?_
    refine go_iload 42 dX6_ringTime_40 rfl ?_
    refine go_iconst 43 dX6_ringTime_42 zc_1 ?_
    refine go_icmp_gt 125 46 dX6_ringTime_43 (fun h43 => ?_) (fun h43 => ?_)
    · exact absurd h43 (by decide)
    · refine go_iinc 49 dX6_ringTime_46 rfl (by decide) zc_1 ?_
      refine go_aload_n 50 dX6_ringTime_49 rfl ?_
      refine gd_get 53 dX6_ringTime_50 fX6_17 rfl ?_
      refine go_sipush 56 dX6_ringTime_53 zs_666 ?_
      refine go_iload 58 dX6_ringTime_56 rfl ?_
      refine go_iadd 59 dX6_ringTime_58 ?_
      refine gd_iald 60 (666 + (i + 1)) dX6_ringTime_59 (by rw [nI_1]; exact ix2 666 (i + 1) _ rfl) (by omega) ?_
      rw [hv]
      refine go_istore 62 dX6_ringTime_60 (by decide) ?_
      refine go_aload_n 63 dX6_ringTime_62 rfl ?_
      refine gd_get 66 dX6_ringTime_63 fX6_31 rfl ?_
      refine go_iload 68 dX6_ringTime_66 rfl ?_
      refine go_iload 70 dX6_ringTime_68 rfl ?_
      refine go_if_ne 79 73 dX6_ringTime_70 (fun h70 => ?_) (fun h70 => ?_)
      · exact absurd h70 (by decide)
      · refine go_iload 75 dX6_ringTime_73 rfl ?_
        refine go_i2l 76 dX6_ringTime_75 ?_
        refine go_goto 118 dX6_ringTime_76 ?_
        refine gd_last 119 (top) dX6_ringTime_118 rfl (by omega) ?_
        refine go_iinc 122 dX6_ringTime_119 rfl (by decide) zc_1 ?_
        refine go_goto 158 dX6_ringTime_122 ?_
        refine go_iinc 161 dX6_ringTime_158 rfl (by decide) zc_1 ?_
        refine go_goto 15 dX6_ringTime_161 ?_
        simp only [nI_1]
        exact go_locals _ rfl kk

set_option maxRecDepth 100000 in
set_option maxHeartbeats 4000000 in
theorem st_X6_ringTime_var0 {l : Launch} {Γ : ZG} {w : ZW} {o : Nat} {S : MS} {D : ZD} {Φ : Option Value → ZW → Prop} {f : Nat → Int64} {lg cl rf : Int32} {top i N : Nat}  (hN : D 8 = nI N) (hi : i + 1 < N + 1) (hNb : N ≤ 1000) (ht : top < 1000) (hi2 : i + 1 < 1000) (hc : D (666 + i) = 1) (hv : D (666 + (i + 1)) = 0) (kk : Go l Γ mX6_ringTime 3 0 0 Φ zNo 0 0 (wD Γ w o (ml S (vp_updL f top lg.toInt64)) D) 15 [(0, .ref o), (1, .int lg), (2, .int cl), (3, .int rf), (4, .int (nI (top + 1))), (5, .int (nI (i + 2)))] []) : Go l Γ mX6_ringTime 3 0 0 Φ zNo 0 0 (wD Γ w o (ml S f) D) 15 [(0, .ref o), (1, .int lg), (2, .int cl), (3, .int rf), (4, .int (nI top)), (5, .int (nI i))] [] := by
  refine go_iload 17 dX6_ringTime_15 rfl ?_
  refine go_aload_n 18 dX6_ringTime_17 rfl ?_
  refine gd_get 21 dX6_ringTime_18 fX6_17 rfl ?_
  refine go_bipush 23 dX6_ringTime_21 zb_8 ?_
  refine gd_iald 24 (8) dX6_ringTime_23 rfl (by decide) ?_
  refine go_icmp_ge 164 27 dX6_ringTime_24 (fun h24 => ?_) (fun h24 => ?_)
  · exact (lpG hN (by omega) (by omega) h24).elim
  · refine go_aload_n 28 dX6_ringTime_27 rfl ?_
    refine gd_get 31 dX6_ringTime_28 fX6_17 rfl ?_
    refine go_sipush 34 dX6_ringTime_31 zs_666 ?_
    refine go_iload 36 dX6_ringTime_34 rfl ?_
    refine go_iadd 37 dX6_ringTime_36 ?_
    refine gd_iald 38 (666 + i) dX6_ringTime_37 (ix2 666 i _ rfl) (by omega) ?_
    rw [hc]
    refine go_istore 40 dX6_ringTime_38 (by decide) ?_
    refine go_iload 42 dX6_ringTime_40 rfl ?_
    refine go_iconst 43 dX6_ringTime_42 zc_1 ?_
    refine go_icmp_gt 125 46 dX6_ringTime_43 (fun h43 => ?_) (fun h43 => ?_)
    · exact absurd h43 (by decide)
    · refine go_iinc 49 dX6_ringTime_46 rfl (by decide) zc_1 ?_
      refine go_aload_n 50 dX6_ringTime_49 rfl ?_
      refine gd_get 53 dX6_ringTime_50 fX6_17 rfl ?_
      refine go_sipush 56 dX6_ringTime_53 zs_666 ?_
      refine go_iload 58 dX6_ringTime_56 rfl ?_
      refine go_iadd 59 dX6_ringTime_58 ?_
      refine gd_iald 60 (666 + (i + 1)) dX6_ringTime_59 (by rw [nI_1]; exact ix2 666 (i + 1) _ rfl) (by omega) ?_
      rw [hv]
      refine go_istore 62 dX6_ringTime_60 (by decide) ?_
      refine go_aload_n 63 dX6_ringTime_62 rfl ?_
      refine gd_get 66 dX6_ringTime_63 fX6_31 rfl ?_
      refine go_iload 68 dX6_ringTime_66 rfl ?_
      refine go_iload 70 dX6_ringTime_68 rfl ?_
      refine go_if_ne 79 73 dX6_ringTime_70 (fun h70 => ?_) (fun h70 => ?_)
      · refine go_iload 81 dX6_ringTime_79 rfl ?_
        refine go_if_ne 89 84 dX6_ringTime_81 (fun h81 => ?_) (fun h81 => ?_)
        · exact absurd h81 (by decide)
        · refine go_iload_n 85 dX6_ringTime_84 rfl ?_
          refine go_i2l 86 dX6_ringTime_85 ?_
          refine go_goto 118 dX6_ringTime_86 ?_
          refine gd_last 119 (top) dX6_ringTime_118 rfl (by omega) ?_
          refine go_iinc 122 dX6_ringTime_119 rfl (by decide) zc_1 ?_
          refine go_goto 158 dX6_ringTime_122 ?_
          refine go_iinc 161 dX6_ringTime_158 rfl (by decide) zc_1 ?_
          refine go_goto 15 dX6_ringTime_161 ?_
          simp only [nI_1]
          exact go_locals _ rfl kk
      · exact absurd h70 (by decide)

set_option maxRecDepth 100000 in
set_option maxHeartbeats 4000000 in
theorem st_X6_ringTime_var1 {l : Launch} {Γ : ZG} {w : ZW} {o : Nat} {S : MS} {D : ZD} {Φ : Option Value → ZW → Prop} {f : Nat → Int64} {lg cl rf : Int32} {top i N : Nat}  (hN : D 8 = nI N) (hi : i + 1 < N + 1) (hNb : N ≤ 1000) (ht : top < 1000) (hi2 : i + 1 < 1000) (hc : D (666 + i) = 1) (hv : D (666 + (i + 1)) = 1) (kk : Go l Γ mX6_ringTime 3 0 0 Φ zNo 0 0 (wD Γ w o (ml S (vp_updL f top cl.toInt64)) D) 15 [(0, .ref o), (1, .int lg), (2, .int cl), (3, .int rf), (4, .int (nI (top + 1))), (5, .int (nI (i + 2)))] []) : Go l Γ mX6_ringTime 3 0 0 Φ zNo 0 0 (wD Γ w o (ml S f) D) 15 [(0, .ref o), (1, .int lg), (2, .int cl), (3, .int rf), (4, .int (nI top)), (5, .int (nI i))] [] := by
  refine go_iload 17 dX6_ringTime_15 rfl ?_
  refine go_aload_n 18 dX6_ringTime_17 rfl ?_
  refine gd_get 21 dX6_ringTime_18 fX6_17 rfl ?_
  refine go_bipush 23 dX6_ringTime_21 zb_8 ?_
  refine gd_iald 24 (8) dX6_ringTime_23 rfl (by decide) ?_
  refine go_icmp_ge 164 27 dX6_ringTime_24 (fun h24 => ?_) (fun h24 => ?_)
  · exact (lpG hN (by omega) (by omega) h24).elim
  · refine go_aload_n 28 dX6_ringTime_27 rfl ?_
    refine gd_get 31 dX6_ringTime_28 fX6_17 rfl ?_
    refine go_sipush 34 dX6_ringTime_31 zs_666 ?_
    refine go_iload 36 dX6_ringTime_34 rfl ?_
    refine go_iadd 37 dX6_ringTime_36 ?_
    refine gd_iald 38 (666 + i) dX6_ringTime_37 (ix2 666 i _ rfl) (by omega) ?_
    rw [hc]
    refine go_istore 40 dX6_ringTime_38 (by decide) ?_
    refine go_iload 42 dX6_ringTime_40 rfl ?_
    refine go_iconst 43 dX6_ringTime_42 zc_1 ?_
    refine go_icmp_gt 125 46 dX6_ringTime_43 (fun h43 => ?_) (fun h43 => ?_)
    · exact absurd h43 (by decide)
    · refine go_iinc 49 dX6_ringTime_46 rfl (by decide) zc_1 ?_
      refine go_aload_n 50 dX6_ringTime_49 rfl ?_
      refine gd_get 53 dX6_ringTime_50 fX6_17 rfl ?_
      refine go_sipush 56 dX6_ringTime_53 zs_666 ?_
      refine go_iload 58 dX6_ringTime_56 rfl ?_
      refine go_iadd 59 dX6_ringTime_58 ?_
      refine gd_iald 60 (666 + (i + 1)) dX6_ringTime_59 (by rw [nI_1]; exact ix2 666 (i + 1) _ rfl) (by omega) ?_
      rw [hv]
      refine go_istore 62 dX6_ringTime_60 (by decide) ?_
      refine go_aload_n 63 dX6_ringTime_62 rfl ?_
      refine gd_get 66 dX6_ringTime_63 fX6_31 rfl ?_
      refine go_iload 68 dX6_ringTime_66 rfl ?_
      refine go_iload 70 dX6_ringTime_68 rfl ?_
      refine go_if_ne 79 73 dX6_ringTime_70 (fun h70 => ?_) (fun h70 => ?_)
      · refine go_iload 81 dX6_ringTime_79 rfl ?_
        refine go_if_ne 89 84 dX6_ringTime_81 (fun h81 => ?_) (fun h81 => ?_)
        · refine go_iload 91 dX6_ringTime_89 rfl ?_
          refine go_iconst 92 dX6_ringTime_91 zc_1 ?_
          refine go_icmp_ne 100 95 dX6_ringTime_92 (fun h92 => ?_) (fun h92 => ?_)
          · exact absurd h92 (by decide)
          · refine go_iload_n 96 dX6_ringTime_95 rfl ?_
            refine go_i2l 97 dX6_ringTime_96 ?_
            refine go_goto 118 dX6_ringTime_97 ?_
            refine gd_last 119 (top) dX6_ringTime_118 rfl (by omega) ?_
            refine go_iinc 122 dX6_ringTime_119 rfl (by decide) zc_1 ?_
            refine go_goto 158 dX6_ringTime_122 ?_
            refine go_iinc 161 dX6_ringTime_158 rfl (by decide) zc_1 ?_
            refine go_goto 15 dX6_ringTime_161 ?_
            simp only [nI_1]
            exact go_locals _ rfl kk
        · exact absurd h81 (by decide)
      · exact absurd h70 (by decide)

set_option maxRecDepth 100000 in
set_option maxHeartbeats 4000000 in
theorem st_X6_ringTime_var2 {l : Launch} {Γ : ZG} {w : ZW} {o : Nat} {S : MS} {D : ZD} {Φ : Option Value → ZW → Prop} {f : Nat → Int64} {lg cl rf : Int32} {top i N : Nat}  (hN : D 8 = nI N) (hi : i + 1 < N + 1) (hNb : N ≤ 1000) (ht : top < 1000) (hi2 : i + 1 < 1000) (hc : D (666 + i) = 1) (hv : D (666 + (i + 1)) = 2) (kk : Go l Γ mX6_ringTime 3 0 0 Φ zNo 0 0 (wD Γ w o (ml S (vp_updL f top rf.toInt64)) D) 15 [(0, .ref o), (1, .int lg), (2, .int cl), (3, .int rf), (4, .int (nI (top + 1))), (5, .int (nI (i + 2)))] []) : Go l Γ mX6_ringTime 3 0 0 Φ zNo 0 0 (wD Γ w o (ml S f) D) 15 [(0, .ref o), (1, .int lg), (2, .int cl), (3, .int rf), (4, .int (nI top)), (5, .int (nI i))] [] := by
  refine go_iload 17 dX6_ringTime_15 rfl ?_
  refine go_aload_n 18 dX6_ringTime_17 rfl ?_
  refine gd_get 21 dX6_ringTime_18 fX6_17 rfl ?_
  refine go_bipush 23 dX6_ringTime_21 zb_8 ?_
  refine gd_iald 24 (8) dX6_ringTime_23 rfl (by decide) ?_
  refine go_icmp_ge 164 27 dX6_ringTime_24 (fun h24 => ?_) (fun h24 => ?_)
  · exact (lpG hN (by omega) (by omega) h24).elim
  · refine go_aload_n 28 dX6_ringTime_27 rfl ?_
    refine gd_get 31 dX6_ringTime_28 fX6_17 rfl ?_
    refine go_sipush 34 dX6_ringTime_31 zs_666 ?_
    refine go_iload 36 dX6_ringTime_34 rfl ?_
    refine go_iadd 37 dX6_ringTime_36 ?_
    refine gd_iald 38 (666 + i) dX6_ringTime_37 (ix2 666 i _ rfl) (by omega) ?_
    rw [hc]
    refine go_istore 40 dX6_ringTime_38 (by decide) ?_
    refine go_iload 42 dX6_ringTime_40 rfl ?_
    refine go_iconst 43 dX6_ringTime_42 zc_1 ?_
    refine go_icmp_gt 125 46 dX6_ringTime_43 (fun h43 => ?_) (fun h43 => ?_)
    · exact absurd h43 (by decide)
    · refine go_iinc 49 dX6_ringTime_46 rfl (by decide) zc_1 ?_
      refine go_aload_n 50 dX6_ringTime_49 rfl ?_
      refine gd_get 53 dX6_ringTime_50 fX6_17 rfl ?_
      refine go_sipush 56 dX6_ringTime_53 zs_666 ?_
      refine go_iload 58 dX6_ringTime_56 rfl ?_
      refine go_iadd 59 dX6_ringTime_58 ?_
      refine gd_iald 60 (666 + (i + 1)) dX6_ringTime_59 (by rw [nI_1]; exact ix2 666 (i + 1) _ rfl) (by omega) ?_
      rw [hv]
      refine go_istore 62 dX6_ringTime_60 (by decide) ?_
      refine go_aload_n 63 dX6_ringTime_62 rfl ?_
      refine gd_get 66 dX6_ringTime_63 fX6_31 rfl ?_
      refine go_iload 68 dX6_ringTime_66 rfl ?_
      refine go_iload 70 dX6_ringTime_68 rfl ?_
      refine go_if_ne 79 73 dX6_ringTime_70 (fun h70 => ?_) (fun h70 => ?_)
      · refine go_iload 81 dX6_ringTime_79 rfl ?_
        refine go_if_ne 89 84 dX6_ringTime_81 (fun h81 => ?_) (fun h81 => ?_)
        · refine go_iload 91 dX6_ringTime_89 rfl ?_
          refine go_iconst 92 dX6_ringTime_91 zc_1 ?_
          refine go_icmp_ne 100 95 dX6_ringTime_92 (fun h92 => ?_) (fun h92 => ?_)
          · refine go_iload 102 dX6_ringTime_100 rfl ?_
            refine go_iconst 103 dX6_ringTime_102 zc_2 ?_
            refine go_icmp_ne 111 106 dX6_ringTime_103 (fun h103 => ?_) (fun h103 => ?_)
            · exact absurd h103 (by decide)
            · refine go_iload_n 107 dX6_ringTime_106 rfl ?_
              refine go_i2l 108 dX6_ringTime_107 ?_
              refine go_goto 118 dX6_ringTime_108 ?_
              refine gd_last 119 (top) dX6_ringTime_118 rfl (by omega) ?_
              refine go_iinc 122 dX6_ringTime_119 rfl (by decide) zc_1 ?_
              refine go_goto 158 dX6_ringTime_122 ?_
              refine go_iinc 161 dX6_ringTime_158 rfl (by decide) zc_1 ?_
              refine go_goto 15 dX6_ringTime_161 ?_
              simp only [nI_1]
              exact go_locals _ rfl kk
          · exact absurd h92 (by decide)
        · exact absurd h81 (by decide)
      · exact absurd h70 (by decide)

set_option maxRecDepth 100000 in
set_option maxHeartbeats 4000000 in
theorem st_X6_ringTime_var3 {l : Launch} {Γ : ZG} {w : ZW} {o : Nat} {S : MS} {D : ZD} {Φ : Option Value → ZW → Prop} {f : Nat → Int64} {lg cl rf : Int32} {top i N : Nat}  (hN : D 8 = nI N) (hi : i + 1 < N + 1) (hNb : N ≤ 1000) (ht : top < 1000) (hi2 : i + 1 < 1000) (hc : D (666 + i) = 1) (hv : D (666 + (i + 1)) = 3) (kk : Go l Γ mX6_ringTime 3 0 0 Φ zNo 0 0 (wD Γ w o (ml S (vp_updL f top (D 0).toInt64)) D) 15 [(0, .ref o), (1, .int lg), (2, .int cl), (3, .int rf), (4, .int (nI (top + 1))), (5, .int (nI (i + 2)))] []) : Go l Γ mX6_ringTime 3 0 0 Φ zNo 0 0 (wD Γ w o (ml S f) D) 15 [(0, .ref o), (1, .int lg), (2, .int cl), (3, .int rf), (4, .int (nI top)), (5, .int (nI i))] [] := by
  refine go_iload 17 dX6_ringTime_15 rfl ?_
  refine go_aload_n 18 dX6_ringTime_17 rfl ?_
  refine gd_get 21 dX6_ringTime_18 fX6_17 rfl ?_
  refine go_bipush 23 dX6_ringTime_21 zb_8 ?_
  refine gd_iald 24 (8) dX6_ringTime_23 rfl (by decide) ?_
  refine go_icmp_ge 164 27 dX6_ringTime_24 (fun h24 => ?_) (fun h24 => ?_)
  · exact (lpG hN (by omega) (by omega) h24).elim
  · refine go_aload_n 28 dX6_ringTime_27 rfl ?_
    refine gd_get 31 dX6_ringTime_28 fX6_17 rfl ?_
    refine go_sipush 34 dX6_ringTime_31 zs_666 ?_
    refine go_iload 36 dX6_ringTime_34 rfl ?_
    refine go_iadd 37 dX6_ringTime_36 ?_
    refine gd_iald 38 (666 + i) dX6_ringTime_37 (ix2 666 i _ rfl) (by omega) ?_
    rw [hc]
    refine go_istore 40 dX6_ringTime_38 (by decide) ?_
    refine go_iload 42 dX6_ringTime_40 rfl ?_
    refine go_iconst 43 dX6_ringTime_42 zc_1 ?_
    refine go_icmp_gt 125 46 dX6_ringTime_43 (fun h43 => ?_) (fun h43 => ?_)
    · exact absurd h43 (by decide)
    · refine go_iinc 49 dX6_ringTime_46 rfl (by decide) zc_1 ?_
      refine go_aload_n 50 dX6_ringTime_49 rfl ?_
      refine gd_get 53 dX6_ringTime_50 fX6_17 rfl ?_
      refine go_sipush 56 dX6_ringTime_53 zs_666 ?_
      refine go_iload 58 dX6_ringTime_56 rfl ?_
      refine go_iadd 59 dX6_ringTime_58 ?_
      refine gd_iald 60 (666 + (i + 1)) dX6_ringTime_59 (by rw [nI_1]; exact ix2 666 (i + 1) _ rfl) (by omega) ?_
      rw [hv]
      refine go_istore 62 dX6_ringTime_60 (by decide) ?_
      refine go_aload_n 63 dX6_ringTime_62 rfl ?_
      refine gd_get 66 dX6_ringTime_63 fX6_31 rfl ?_
      refine go_iload 68 dX6_ringTime_66 rfl ?_
      refine go_iload 70 dX6_ringTime_68 rfl ?_
      refine go_if_ne 79 73 dX6_ringTime_70 (fun h70 => ?_) (fun h70 => ?_)
      · refine go_iload 81 dX6_ringTime_79 rfl ?_
        refine go_if_ne 89 84 dX6_ringTime_81 (fun h81 => ?_) (fun h81 => ?_)
        · refine go_iload 91 dX6_ringTime_89 rfl ?_
          refine go_iconst 92 dX6_ringTime_91 zc_1 ?_
          refine go_icmp_ne 100 95 dX6_ringTime_92 (fun h92 => ?_) (fun h92 => ?_)
          · refine go_iload 102 dX6_ringTime_100 rfl ?_
            refine go_iconst 103 dX6_ringTime_102 zc_2 ?_
            refine go_icmp_ne 111 106 dX6_ringTime_103 (fun h103 => ?_) (fun h103 => ?_)
            · refine go_aload_n 112 dX6_ringTime_111 rfl ?_
              refine gd_get 115 dX6_ringTime_112 fX6_17 rfl ?_
              refine go_iconst 116 dX6_ringTime_115 zc_0 ?_
              refine gd_iald 117 (0) dX6_ringTime_116 rfl (by decide) ?_
              refine go_i2l 118 dX6_ringTime_117 ?_
              refine gd_last 119 (top) dX6_ringTime_118 rfl (by omega) ?_
              refine go_iinc 122 dX6_ringTime_119 rfl (by decide) zc_1 ?_
              refine go_goto 158 dX6_ringTime_122 ?_
              refine go_iinc 161 dX6_ringTime_158 rfl (by decide) zc_1 ?_
              refine go_goto 15 dX6_ringTime_161 ?_
              simp only [nI_1]
              exact go_locals _ rfl kk
            · exact absurd h103 (by decide)
          · exact absurd h92 (by decide)
        · exact absurd h81 (by decide)
      · exact absurd h70 (by decide)

set_option maxRecDepth 100000 in
set_option maxHeartbeats 4000000 in
theorem st_X6_ringTime_op2 {l : Launch} {Γ : ZG} {w : ZW} {o : Nat} {S : MS} {D : ZD} {Φ : Option Value → ZW → Prop} {f : Nat → Int64} {lg cl rf : Int32} {top i N : Nat}  (hN : D 8 = nI N) (hi : i + 1 < N + 1) (hNb : N ≤ 1000) (ht : top + 1 < 1000) (hc : D (666 + i) = 2) (kk : Go l Γ mX6_ringTime 3 0 0 Φ zNo 0 0 (wD Γ w o (ml S (vp_updL f top (opv (-5) (f top) (f (top + 1))))) D) 15 [(0, .ref o), (1, .int lg), (2, .int cl), (3, .int rf), (4, .int (nI (top + 1))), (5, .int (nI (i + 1)))] []) : Go l Γ mX6_ringTime 3 0 0 Φ zNo 0 0 (wD Γ w o (ml S f) D) 15 [(0, .ref o), (1, .int lg), (2, .int cl), (3, .int rf), (4, .int (nI (top + 2))), (5, .int (nI i))] [] := by
  refine go_iload 17 dX6_ringTime_15 rfl ?_
  refine go_aload_n 18 dX6_ringTime_17 rfl ?_
  refine gd_get 21 dX6_ringTime_18 fX6_17 rfl ?_
  refine go_bipush 23 dX6_ringTime_21 zb_8 ?_
  refine gd_iald 24 (8) dX6_ringTime_23 rfl (by decide) ?_
  refine go_icmp_ge 164 27 dX6_ringTime_24 (fun h24 => ?_) (fun h24 => ?_)
  · exact (lpG hN (by omega) (by omega) h24).elim
  · refine go_aload_n 28 dX6_ringTime_27 rfl ?_
    refine gd_get 31 dX6_ringTime_28 fX6_17 rfl ?_
    refine go_sipush 34 dX6_ringTime_31 zs_666 ?_
    refine go_iload 36 dX6_ringTime_34 rfl ?_
    refine go_iadd 37 dX6_ringTime_36 ?_
    refine gd_iald 38 (666 + i) dX6_ringTime_37 (ix2 666 i _ rfl) (by omega) ?_
    rw [hc]
    refine go_istore 40 dX6_ringTime_38 (by decide) ?_
    refine go_iload 42 dX6_ringTime_40 rfl ?_
    refine go_iconst 43 dX6_ringTime_42 zc_1 ?_
    refine go_icmp_gt 125 46 dX6_ringTime_43 (fun h43 => ?_) (fun h43 => ?_)
    · refine go_iinc 128 dX6_ringTime_125 rfl (by decide) zc_m1 ?_
      rw [pk_m1]
      refine go_aload_n 129 dX6_ringTime_128 rfl ?_
      refine gd_get 132 dX6_ringTime_129 fX6_31 rfl ?_
      refine go_iload 134 dX6_ringTime_132 rfl ?_
      refine go_iconst 135 dX6_ringTime_134 zc_1 ?_
      refine go_isub 136 dX6_ringTime_135 ?_
      refine go_iload 138 dX6_ringTime_136 rfl ?_
      refine go_aload_n 139 dX6_ringTime_138 rfl ?_
      refine gd_get 142 dX6_ringTime_139 fX6_31 rfl ?_
      refine go_iload 144 dX6_ringTime_142 rfl ?_
      refine go_iconst 145 dX6_ringTime_144 zc_1 ?_
      refine go_isub 146 dX6_ringTime_145 ?_
      refine gd_lald 147 (top) dX6_ringTime_146 (nI_pred top) (by omega) ?_
      refine go_aload_n 148 dX6_ringTime_147 rfl ?_
      refine gd_get 151 dX6_ringTime_148 fX6_31 rfl ?_
      refine go_iload 153 dX6_ringTime_151 rfl ?_
      refine gd_lald 154 (top + 1) dX6_ringTime_153 rfl (by omega) ?_
      refine gcS3 157 dX6_ringTime_154 vX6_228 (ct_X6_operate_2) ?_
      refine gd_last 158 (top) dX6_ringTime_157 (nI_pred top) (by omega) ?_
      refine go_iinc 161 dX6_ringTime_158 rfl (by decide) zc_1 ?_
      refine go_goto 15 dX6_ringTime_161 ?_
      simp only [nI_1]
      exact go_locals _ rfl kk
    · exact absurd h43 (by decide)

set_option maxRecDepth 100000 in
set_option maxHeartbeats 4000000 in
theorem st_X6_ringTime_op3 {l : Launch} {Γ : ZG} {w : ZW} {o : Nat} {S : MS} {D : ZD} {Φ : Option Value → ZW → Prop} {f : Nat → Int64} {lg cl rf : Int32} {top i N : Nat}  (hN : D 8 = nI N) (hi : i + 1 < N + 1) (hNb : N ≤ 1000) (ht : top + 1 < 1000) (hc : D (666 + i) = 3) (kk : Go l Γ mX6_ringTime 3 0 0 Φ zNo 0 0 (wD Γ w o (ml S (vp_updL f top (opv (-6) (f top) (f (top + 1))))) D) 15 [(0, .ref o), (1, .int lg), (2, .int cl), (3, .int rf), (4, .int (nI (top + 1))), (5, .int (nI (i + 1)))] []) : Go l Γ mX6_ringTime 3 0 0 Φ zNo 0 0 (wD Γ w o (ml S f) D) 15 [(0, .ref o), (1, .int lg), (2, .int cl), (3, .int rf), (4, .int (nI (top + 2))), (5, .int (nI i))] [] := by
  refine go_iload 17 dX6_ringTime_15 rfl ?_
  refine go_aload_n 18 dX6_ringTime_17 rfl ?_
  refine gd_get 21 dX6_ringTime_18 fX6_17 rfl ?_
  refine go_bipush 23 dX6_ringTime_21 zb_8 ?_
  refine gd_iald 24 (8) dX6_ringTime_23 rfl (by decide) ?_
  refine go_icmp_ge 164 27 dX6_ringTime_24 (fun h24 => ?_) (fun h24 => ?_)
  · exact (lpG hN (by omega) (by omega) h24).elim
  · refine go_aload_n 28 dX6_ringTime_27 rfl ?_
    refine gd_get 31 dX6_ringTime_28 fX6_17 rfl ?_
    refine go_sipush 34 dX6_ringTime_31 zs_666 ?_
    refine go_iload 36 dX6_ringTime_34 rfl ?_
    refine go_iadd 37 dX6_ringTime_36 ?_
    refine gd_iald 38 (666 + i) dX6_ringTime_37 (ix2 666 i _ rfl) (by omega) ?_
    rw [hc]
    refine go_istore 40 dX6_ringTime_38 (by decide) ?_
    refine go_iload 42 dX6_ringTime_40 rfl ?_
    refine go_iconst 43 dX6_ringTime_42 zc_1 ?_
    refine go_icmp_gt 125 46 dX6_ringTime_43 (fun h43 => ?_) (fun h43 => ?_)
    · refine go_iinc 128 dX6_ringTime_125 rfl (by decide) zc_m1 ?_
      rw [pk_m1]
      refine go_aload_n 129 dX6_ringTime_128 rfl ?_
      refine gd_get 132 dX6_ringTime_129 fX6_31 rfl ?_
      refine go_iload 134 dX6_ringTime_132 rfl ?_
      refine go_iconst 135 dX6_ringTime_134 zc_1 ?_
      refine go_isub 136 dX6_ringTime_135 ?_
      refine go_iload 138 dX6_ringTime_136 rfl ?_
      refine go_aload_n 139 dX6_ringTime_138 rfl ?_
      refine gd_get 142 dX6_ringTime_139 fX6_31 rfl ?_
      refine go_iload 144 dX6_ringTime_142 rfl ?_
      refine go_iconst 145 dX6_ringTime_144 zc_1 ?_
      refine go_isub 146 dX6_ringTime_145 ?_
      refine gd_lald 147 (top) dX6_ringTime_146 (nI_pred top) (by omega) ?_
      refine go_aload_n 148 dX6_ringTime_147 rfl ?_
      refine gd_get 151 dX6_ringTime_148 fX6_31 rfl ?_
      refine go_iload 153 dX6_ringTime_151 rfl ?_
      refine gd_lald 154 (top + 1) dX6_ringTime_153 rfl (by omega) ?_
      refine gcS3 157 dX6_ringTime_154 vX6_228 (ct_X6_operate_3) ?_
      refine gd_last 158 (top) dX6_ringTime_157 (nI_pred top) (by omega) ?_
      refine go_iinc 161 dX6_ringTime_158 rfl (by decide) zc_1 ?_
      refine go_goto 15 dX6_ringTime_161 ?_
      simp only [nI_1]
      exact go_locals _ rfl kk
    · exact absurd h43 (by decide)

set_option maxRecDepth 100000 in
set_option maxHeartbeats 4000000 in
theorem st_X6_ringTime_op4 {l : Launch} {Γ : ZG} {w : ZW} {o : Nat} {S : MS} {D : ZD} {Φ : Option Value → ZW → Prop} {f : Nat → Int64} {lg cl rf : Int32} {top i N : Nat}  (hN : D 8 = nI N) (hi : i + 1 < N + 1) (hNb : N ≤ 1000) (ht : top + 1 < 1000) (hc : D (666 + i) = 4) (kk : Go l Γ mX6_ringTime 3 0 0 Φ zNo 0 0 (wD Γ w o (ml S (vp_updL f top (opv (-7) (f top) (f (top + 1))))) D) 15 [(0, .ref o), (1, .int lg), (2, .int cl), (3, .int rf), (4, .int (nI (top + 1))), (5, .int (nI (i + 1)))] []) : Go l Γ mX6_ringTime 3 0 0 Φ zNo 0 0 (wD Γ w o (ml S f) D) 15 [(0, .ref o), (1, .int lg), (2, .int cl), (3, .int rf), (4, .int (nI (top + 2))), (5, .int (nI i))] [] := by
  refine go_iload 17 dX6_ringTime_15 rfl ?_
  refine go_aload_n 18 dX6_ringTime_17 rfl ?_
  refine gd_get 21 dX6_ringTime_18 fX6_17 rfl ?_
  refine go_bipush 23 dX6_ringTime_21 zb_8 ?_
  refine gd_iald 24 (8) dX6_ringTime_23 rfl (by decide) ?_
  refine go_icmp_ge 164 27 dX6_ringTime_24 (fun h24 => ?_) (fun h24 => ?_)
  · exact (lpG hN (by omega) (by omega) h24).elim
  · refine go_aload_n 28 dX6_ringTime_27 rfl ?_
    refine gd_get 31 dX6_ringTime_28 fX6_17 rfl ?_
    refine go_sipush 34 dX6_ringTime_31 zs_666 ?_
    refine go_iload 36 dX6_ringTime_34 rfl ?_
    refine go_iadd 37 dX6_ringTime_36 ?_
    refine gd_iald 38 (666 + i) dX6_ringTime_37 (ix2 666 i _ rfl) (by omega) ?_
    rw [hc]
    refine go_istore 40 dX6_ringTime_38 (by decide) ?_
    refine go_iload 42 dX6_ringTime_40 rfl ?_
    refine go_iconst 43 dX6_ringTime_42 zc_1 ?_
    refine go_icmp_gt 125 46 dX6_ringTime_43 (fun h43 => ?_) (fun h43 => ?_)
    · refine go_iinc 128 dX6_ringTime_125 rfl (by decide) zc_m1 ?_
      rw [pk_m1]
      refine go_aload_n 129 dX6_ringTime_128 rfl ?_
      refine gd_get 132 dX6_ringTime_129 fX6_31 rfl ?_
      refine go_iload 134 dX6_ringTime_132 rfl ?_
      refine go_iconst 135 dX6_ringTime_134 zc_1 ?_
      refine go_isub 136 dX6_ringTime_135 ?_
      refine go_iload 138 dX6_ringTime_136 rfl ?_
      refine go_aload_n 139 dX6_ringTime_138 rfl ?_
      refine gd_get 142 dX6_ringTime_139 fX6_31 rfl ?_
      refine go_iload 144 dX6_ringTime_142 rfl ?_
      refine go_iconst 145 dX6_ringTime_144 zc_1 ?_
      refine go_isub 146 dX6_ringTime_145 ?_
      refine gd_lald 147 (top) dX6_ringTime_146 (nI_pred top) (by omega) ?_
      refine go_aload_n 148 dX6_ringTime_147 rfl ?_
      refine gd_get 151 dX6_ringTime_148 fX6_31 rfl ?_
      refine go_iload 153 dX6_ringTime_151 rfl ?_
      refine gd_lald 154 (top + 1) dX6_ringTime_153 rfl (by omega) ?_
      refine gcS3 157 dX6_ringTime_154 vX6_228 (ct_X6_operate_4) ?_
      refine gd_last 158 (top) dX6_ringTime_157 (nI_pred top) (by omega) ?_
      refine go_iinc 161 dX6_ringTime_158 rfl (by decide) zc_1 ?_
      refine go_goto 15 dX6_ringTime_161 ?_
      simp only [nI_1]
      exact go_locals _ rfl kk
    · exact absurd h43 (by decide)

set_option maxRecDepth 100000 in
set_option maxHeartbeats 4000000 in
theorem st_X6_ringTime_op5 {l : Launch} {Γ : ZG} {w : ZW} {o : Nat} {S : MS} {D : ZD} {Φ : Option Value → ZW → Prop} {f : Nat → Int64} {lg cl rf : Int32} {top i N : Nat}  (hN : D 8 = nI N) (hi : i + 1 < N + 1) (hNb : N ≤ 1000) (ht : top + 1 < 1000) (hc : D (666 + i) = 5) (kk : Go l Γ mX6_ringTime 3 0 0 Φ zNo 0 0 (wD Γ w o (ml S (vp_updL f top (opv (-8) (f top) (f (top + 1))))) D) 15 [(0, .ref o), (1, .int lg), (2, .int cl), (3, .int rf), (4, .int (nI (top + 1))), (5, .int (nI (i + 1)))] []) : Go l Γ mX6_ringTime 3 0 0 Φ zNo 0 0 (wD Γ w o (ml S f) D) 15 [(0, .ref o), (1, .int lg), (2, .int cl), (3, .int rf), (4, .int (nI (top + 2))), (5, .int (nI i))] [] := by
  refine go_iload 17 dX6_ringTime_15 rfl ?_
  refine go_aload_n 18 dX6_ringTime_17 rfl ?_
  refine gd_get 21 dX6_ringTime_18 fX6_17 rfl ?_
  refine go_bipush 23 dX6_ringTime_21 zb_8 ?_
  refine gd_iald 24 (8) dX6_ringTime_23 rfl (by decide) ?_
  refine go_icmp_ge 164 27 dX6_ringTime_24 (fun h24 => ?_) (fun h24 => ?_)
  · exact (lpG hN (by omega) (by omega) h24).elim
  · refine go_aload_n 28 dX6_ringTime_27 rfl ?_
    refine gd_get 31 dX6_ringTime_28 fX6_17 rfl ?_
    refine go_sipush 34 dX6_ringTime_31 zs_666 ?_
    refine go_iload 36 dX6_ringTime_34 rfl ?_
    refine go_iadd 37 dX6_ringTime_36 ?_
    refine gd_iald 38 (666 + i) dX6_ringTime_37 (ix2 666 i _ rfl) (by omega) ?_
    rw [hc]
    refine go_istore 40 dX6_ringTime_38 (by decide) ?_
    refine go_iload 42 dX6_ringTime_40 rfl ?_
    refine go_iconst 43 dX6_ringTime_42 zc_1 ?_
    refine go_icmp_gt 125 46 dX6_ringTime_43 (fun h43 => ?_) (fun h43 => ?_)
    · refine go_iinc 128 dX6_ringTime_125 rfl (by decide) zc_m1 ?_
      rw [pk_m1]
      refine go_aload_n 129 dX6_ringTime_128 rfl ?_
      refine gd_get 132 dX6_ringTime_129 fX6_31 rfl ?_
      refine go_iload 134 dX6_ringTime_132 rfl ?_
      refine go_iconst 135 dX6_ringTime_134 zc_1 ?_
      refine go_isub 136 dX6_ringTime_135 ?_
      refine go_iload 138 dX6_ringTime_136 rfl ?_
      refine go_aload_n 139 dX6_ringTime_138 rfl ?_
      refine gd_get 142 dX6_ringTime_139 fX6_31 rfl ?_
      refine go_iload 144 dX6_ringTime_142 rfl ?_
      refine go_iconst 145 dX6_ringTime_144 zc_1 ?_
      refine go_isub 146 dX6_ringTime_145 ?_
      refine gd_lald 147 (top) dX6_ringTime_146 (nI_pred top) (by omega) ?_
      refine go_aload_n 148 dX6_ringTime_147 rfl ?_
      refine gd_get 151 dX6_ringTime_148 fX6_31 rfl ?_
      refine go_iload 153 dX6_ringTime_151 rfl ?_
      refine gd_lald 154 (top + 1) dX6_ringTime_153 rfl (by omega) ?_
      refine gcS3 157 dX6_ringTime_154 vX6_228 (ct_X6_operate_5) ?_
      refine gd_last 158 (top) dX6_ringTime_157 (nI_pred top) (by omega) ?_
      refine go_iinc 161 dX6_ringTime_158 rfl (by decide) zc_1 ?_
      refine go_goto 15 dX6_ringTime_161 ?_
      simp only [nI_1]
      exact go_locals _ rfl kk
    · exact absurd h43 (by decide)

set_option maxRecDepth 100000 in
set_option maxHeartbeats 4000000 in
theorem en_X6_ringTime {l : Launch} {Γ : ZG} {w : ZW} {o : Nat} {S : MS} {D : ZD} {f : Nat → Int64} {lg cl rf : Int32} {top i N : Nat} (hN : D 8 = nI N) (hi : i = N) : Go l Γ mX6_ringTime 3 0 0 (fun v w2 => ∃ g, v = some (.int (rtv (f 0))) ∧ w2 = wD Γ w o (ml S g) D) zNo 0 0 (wD Γ w o (ml S f) D) 15 [(0, .ref o), (1, .int lg), (2, .int cl), (3, .int rf), (4, .int (nI top)), (5, .int (nI i))] [] := by
  refine go_iload 17 dX6_ringTime_15 rfl ?_
  refine go_aload_n 18 dX6_ringTime_17 rfl ?_
  refine gd_get 21 dX6_ringTime_18 fX6_17 rfl ?_
  refine go_bipush 23 dX6_ringTime_21 zb_8 ?_
  refine gd_iald 24 (8) dX6_ringTime_23 rfl (by decide) ?_
  refine go_icmp_ge 164 27 dX6_ringTime_24 (fun h24 => ?_) (fun h24 => ?_)
  · refine go_aload_n 165 dX6_ringTime_164 rfl ?_
    refine gd_get 168 dX6_ringTime_165 fX6_31 rfl ?_
    refine go_iconst 169 dX6_ringTime_168 zc_0 ?_
    refine gd_lald 170 (0) dX6_ringTime_169 rfl (by decide) ?_
    refine go_lconst 171 dX6_ringTime_170 zl_1 ?_
    refine go_lcmp 172 dX6_ringTime_171 ?_
    refine go_if_ge 179 175 dX6_ringTime_172 (fun h172 => ?_) (fun h172 => ?_)
    · refine go_aload_n 180 dX6_ringTime_179 rfl ?_
      refine gd_get 183 dX6_ringTime_180 fX6_31 rfl ?_
      refine go_iconst 184 dX6_ringTime_183 zc_0 ?_
      refine gd_lald 185 (0) dX6_ringTime_184 rfl (by decide) ?_
      refine go_ldc2 188 dX6_ringTime_185 clX6_232 ?_
      refine go_lcmp 189 dX6_ringTime_188 ?_
      refine go_if_le 197 192 dX6_ringTime_189 (fun h189 => ?_) (fun h189 => ?_)
      · refine go_aload_n 198 dX6_ringTime_197 rfl ?_
        refine gd_get 201 dX6_ringTime_198 fX6_31 rfl ?_
        refine go_iconst 202 dX6_ringTime_201 zc_0 ?_
        refine gd_lald 203 (0) dX6_ringTime_202 rfl (by decide) ?_
        refine go_l2i 204 dX6_ringTime_203 ?_
        exact go_ireturn dX6_ringTime_204 rfl (by omega) (by omega) (⟨f, by unfold rtv; first | exact congrArg (fun x => some (Value.int x)) ((if_pos h172).trans (if_pos h189)).symm | exact congrArg (fun x => some (Value.int x)) ((if_pos h172).trans (if_neg h189)).symm | exact congrArg (fun x => some (Value.int x)) (if_neg h172).symm, rfl⟩)
      · refine go_bipush 194 dX6_ringTime_192 zb_99 ?_
        refine go_goto 204 dX6_ringTime_194 ?_
        exact go_ireturn dX6_ringTime_204 rfl (by omega) (by omega) (⟨f, by unfold rtv; first | exact congrArg (fun x => some (Value.int x)) ((if_pos h172).trans (if_pos h189)).symm | exact congrArg (fun x => some (Value.int x)) ((if_pos h172).trans (if_neg h189)).symm | exact congrArg (fun x => some (Value.int x)) (if_neg h172).symm, rfl⟩)
    · refine go_iconst 176 dX6_ringTime_175 zc_1 ?_
      refine go_goto 204 dX6_ringTime_176 ?_
      exact go_ireturn dX6_ringTime_204 rfl (by omega) (by omega) (⟨f, by unfold rtv; first | exact congrArg (fun x => some (Value.int x)) ((if_pos h172).trans (if_pos h189)).symm | exact congrArg (fun x => some (Value.int x)) ((if_pos h172).trans (if_neg h189)).symm | exact congrArg (fun x => some (Value.int x)) (if_neg h172).symm, rfl⟩)
  · exact (lpE hN hi h24).elim

theorem evs_cons (lg cl rf tm c : Int32) (cs : List Int32) (vs : List Int64) : evs lg cl rf tm (c :: cs) vs = evs lg cl rf tm cs (ev1 lg cl rf tm c vs) := rfl
set_option maxHeartbeats 4000000 in
theorem lp_X6_ringTime {l : Launch} {Γ : ZG} {w : ZW} {o : Nat} {S : MS} {D : ZD} {lg cl rf : Int32} {N : Nat} (hN : D 8 = nI N) (hNb : N ≤ 1000) : ∀ (cs : List Int32) (i : Nat) (f : Nat → Int64) (vs : List Int64), codesAt D i cs → i + (encs cs).length = N → stkOK f vs → wfd cs vs.length → vs.length ≤ 11 →
    Go l Γ mX6_ringTime 3 0 0 (fun v w2 => ∃ g, v = some (.int (rtv ((evs lg cl rf (D 0) cs vs).getD 0 0))) ∧ w2 = wD Γ w o (ml S g) D) zNo 0 0 (wD Γ w o (ml S f) D) 15 [(0, .ref o), (1, .int lg), (2, .int cl), (3, .int rf), (4, .int (nI vs.length)), (5, .int (nI i))] [] := by
  intro cs
  induction cs with
  | nil =>
    intro i f vs hca hlen hst hwf hle
    have h1 : vs.length = 1 := hwf
    match vs, h1, hst with
    | [b], _, hst =>
      have hb : f 0 = b := hst.1
      have q := en_X6_ringTime (l := l) (Γ := Γ) (w := w) (o := o) (S := S) (lg := lg) (cl := cl) (rf := rf) (f := f) (top := 1) (i := i) hN (by have : (encs []).length = 0 := rfl; omega)
      rw [hb] at q
      exact q
  | cons c cs ih =>
    intro i f vs hca hlen hst hwf hle
    obtain ⟨hok, hwf⟩ := hwf
    rw [evs_cons]
    rw [encs_cons, List.length_append] at hlen
    rcases hwf with ⟨hop, h2, hwf⟩ | ⟨hnop, h11, hwf⟩
    · match vs, h2, hst, hwf, hle with
      | b :: a :: r, _, hst, hwf, hle =>
        have hb : f (r.length + 1) = b := hst.1
        have ha : f r.length = a := hst.2.1
        have hle2 : r.length + 2 ≤ 11 := hle
        have hwf2 : wfd cs (r.length + 1) := hwf
        have fin : ∀ v : Int64, ev1 lg cl rf (D 0) c (b :: a :: r) = v :: r → (enc c).length = 1 → Go l Γ mX6_ringTime 3 0 0 (fun v w2 => ∃ g, v = some (.int (rtv ((evs lg cl rf (D 0) cs (ev1 lg cl rf (D 0) c (b :: a :: r))).getD 0 0))) ∧ w2 = wD Γ w o (ml S g) D) zNo 0 0 (wD Γ w o (ml S (vp_updL f r.length v)) D) 15 [(0, .ref o), (1, .int lg), (2, .int cl), (3, .int rf), (4, .int (nI (r.length + 1))), (5, .int (nI (i + 1)))] [] := by
          intro v hv he
          rw [hv]
          exact ih (i + 1) (vp_updL f r.length v) (v :: r) (codesAt_s hca he) (by omega) (stkOK_push hst.2.2) hwf2 (by have : (v :: r).length = r.length + 1 := rfl; omega)
        rcases hok with ⟨h, -⟩ | rfl | rfl | rfl | rfl | rfl | rfl | rfl | rfl
        · exact absurd (Int32.le_trans h (show c ≤ -5 from hop)) (by decide)
        · exact absurd (show (-1 : Int32) ≤ -5 from hop) (by decide)
        · exact absurd (show (-2 : Int32) ≤ -5 from hop) (by decide)
        · exact absurd (show (-3 : Int32) ≤ -5 from hop) (by decide)
        · exact absurd (show (-4 : Int32) ≤ -5 from hop) (by decide)
        · exact st_X6_ringTime_op2 (top := r.length) hN (by have : (enc (-5)).length = 1 := rfl; omega) hNb (by omega) (codesAt_0 hca rfl) (by rw [ha, hb]; exact fin _ rfl rfl)
        · exact st_X6_ringTime_op3 (top := r.length) hN (by have : (enc (-6)).length = 1 := rfl; omega) hNb (by omega) (codesAt_0 hca rfl) (by rw [ha, hb]; exact fin _ rfl rfl)
        · exact st_X6_ringTime_op4 (top := r.length) hN (by have : (enc (-7)).length = 1 := rfl; omega) hNb (by omega) (codesAt_0 hca rfl) (by rw [ha, hb]; exact fin _ rfl rfl)
        · exact st_X6_ringTime_op5 (top := r.length) hN (by have : (enc (-8)).length = 1 := rfl; omega) hNb (by omega) (codesAt_0 hca rfl) (by rw [ha, hb]; exact fin _ rfl rfl)
    · have fin : ∀ v : Int64, ev1 lg cl rf (D 0) c vs = v :: vs → (enc c).length = 2 → Go l Γ mX6_ringTime 3 0 0 (fun v w2 => ∃ g, v = some (.int (rtv ((evs lg cl rf (D 0) cs (ev1 lg cl rf (D 0) c vs)).getD 0 0))) ∧ w2 = wD Γ w o (ml S g) D) zNo 0 0 (wD Γ w o (ml S (vp_updL f vs.length v)) D) 15 [(0, .ref o), (1, .int lg), (2, .int cl), (3, .int rf), (4, .int (nI (vs.length + 1))), (5, .int (nI (i + 2)))] [] := by
        intro v hv he
        rw [hv]
        exact ih (i + 2) (vp_updL f vs.length v) (v :: vs) (codesAt_s hca he) (by omega) (stkOK_push hst) hwf (by have : (v :: vs).length = vs.length + 1 := rfl; omega)
      rcases hok with ⟨h, -⟩ | rfl | rfl | rfl | rfl | rfl | rfl | rfl | rfl
      · have he := enc_lit h
        have hl2 : (enc c).length = 2 := by rw [he]; rfl
        exact st_X6_ringTime_lit hN (by omega) hNb (by omega) (by omega) (codesAt_0 hca (by rw [he]; rfl)) (codesAt_1 hca he) (fin _ (by unfold ev1 evv; rw [if_neg (show ¬ c ≤ -5 from hnop), if_pos h]) hl2)
      · exact st_X6_ringTime_var0 hN (by have : (enc (-1)).length = 2 := rfl; omega) hNb (by omega) (by have : (enc (-1)).length = 2 := rfl; omega) (codesAt_0 hca rfl) (codesAt_1 hca rfl) (fin _ rfl rfl)
      · exact st_X6_ringTime_var1 hN (by have : (enc (-2)).length = 2 := rfl; omega) hNb (by omega) (by have : (enc (-2)).length = 2 := rfl; omega) (codesAt_0 hca rfl) (codesAt_1 hca rfl) (fin _ rfl rfl)
      · exact st_X6_ringTime_var2 hN (by have : (enc (-3)).length = 2 := rfl; omega) hNb (by omega) (by have : (enc (-3)).length = 2 := rfl; omega) (codesAt_0 hca rfl) (codesAt_1 hca rfl) (fin _ rfl rfl)
      · exact st_X6_ringTime_var3 hN (by have : (enc (-4)).length = 2 := rfl; omega) hNb (by omega) (by have : (enc (-4)).length = 2 := rfl; omega) (codesAt_0 hca rfl) (codesAt_1 hca rfl) (fin _ rfl rfl)
      · exact absurd (show isop (-5) by unfold isop; decide) hnop
      · exact absurd (show isop (-6) by unfold isop; decide) hnop
      · exact absurd (show isop (-7) by unfold isop; decide) hnop
      · exact absurd (show isop (-8) by unfold isop; decide) hnop

set_option maxRecDepth 100000 in
set_option maxHeartbeats 4000000 in
theorem ct_X6_ringTime {l : Launch} {Γ : ZG} {w : ZW} {o : Nat} {S : MS} {D : ZD} {cs : List Int32} (hR : RC D cs) {lg cl rf : Int32} : Ct l Γ mX6_ringTime 3 0 0 [.ref o, .int lg, .int cl, .int rf] (wD Γ w o S D) (fun v w2 => v = some (.int (ringV lg cl rf (D 0) cs)) ∧ ∃ g, w2 = wD Γ w o (ml S g) D) zNo := by
  obtain ⟨hN, hNb, hca, hwf⟩ := hR
  refine Ct.of (by decide) rfl (Nat.le_of_ble_eq_true rfl) ?_
  refine go_iconst 1 dX6_ringTime_0 zc_0 ?_
  refine go_istore 3 dX6_ringTime_1 (by decide) ?_
  refine go_aload_n 4 dX6_ringTime_3 rfl ?_
  refine gd_get 7 dX6_ringTime_4 fX6_31 rfl ?_
  refine go_iconst 8 dX6_ringTime_7 zc_0 ?_
  refine go_ldc2 11 dX6_ringTime_8 clX6_226 ?_
  refine gd_last 12 (0) dX6_ringTime_11 rfl (by decide) ?_
  refine go_iconst 13 dX6_ringTime_12 zc_0 ?_
  refine go_istore 15 dX6_ringTime_13 (by decide) ?_
  refine go_mono (Φ := fun v w2 => ∃ g, v = some (.int (ringV lg cl rf (D 0) cs)) ∧ w2 = wD Γ w o (ml S g) D) (fun v w2 h => ⟨h.choose_spec.1, h.choose, h.choose_spec.2⟩) (fun _ _ h => h) ?_
  unfold ringV
  by_cases hc : cs = []
  · rw [if_pos hc]
    have q := en_X6_ringTime (l := l) (Γ := Γ) (w := w) (o := o) (S := S) (lg := lg) (cl := cl) (rf := rf) (f := vp_updL S.2.2 0 30) (top := 0) (i := 0) hN (by rw [hc]; rfl)
    exact go_locals _ rfl q
  · rw [if_neg hc]
    exact go_locals _ rfl (lp_X6_ringTime hN hNb cs 0 _ [] hca (by omega) trivial (hwf.resolve_left hc) (by decide))
end MRing
