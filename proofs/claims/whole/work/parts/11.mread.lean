section MRead
set_option maxRecDepth 100000 in
set_option maxHeartbeats 4000000 in
theorem ct_X6_callAt {l : Launch} {Γ : ZG} {w : ZW} {k : Nat} {x : Int32} (hx : x = nI k) : Cm l Γ mX6_callAt 1 [.int x] (w) (some (.int (nI (46 + 5 * k)))) (w) := by
  refine Cm.of (by decide) rfl (Nat.le_of_ble_eq_true rfl) ?_
  refine go_bipush 2 dX6_callAt_0 zb_46 ?_
  refine go_iconst 3 dX6_callAt_2 zc_5 ?_
  refine go_iload_n 4 dX6_callAt_3 rfl ?_
  refine go_imul 5 dX6_callAt_4 ?_
  refine go_iadd 6 dX6_callAt_5 ?_
  exact go_ireturn dX6_callAt_6 rfl (by omega) (by omega) (⟨by rw [hx, ixC0], rfl⟩)

set_option maxRecDepth 100000 in
set_option maxHeartbeats 4000000 in
theorem ct_X6_legAt {l : Launch} {Γ : ZG} {w : ZW} {k : Nat} {x : Int32} (hx : x = nI k) : Cm l Γ mX6_legAt 1 [.int x] (w) (some (.int (nI (146 + 13 * k)))) (w) := by
  refine Cm.of (by decide) rfl (Nat.le_of_ble_eq_true rfl) ?_
  refine go_sipush 3 dX6_legAt_0 zs_146 ?_
  refine go_bipush 5 dX6_legAt_3 zb_13 ?_
  refine go_iload_n 6 dX6_legAt_5 rfl ?_
  refine go_imul 7 dX6_legAt_6 ?_
  refine go_iadd 8 dX6_legAt_7 ?_
  exact go_ireturn dX6_legAt_8 rfl (by omega) (by omega) (⟨by rw [hx, ixL0], rfl⟩)

set_option maxRecDepth 100000 in
set_option maxHeartbeats 4000000 in
theorem ct_X6_in {l : Launch} {Γ : ZG} {w : ZW} {x y z : Int32} : Cm l Γ mX6_in 1 [.int x, .int y, .int z] (w) (some (.int (zb (y ≤ x ∧ x ≤ z)))) (w) := by
  refine Cm.of (by decide) rfl (Nat.le_of_ble_eq_true rfl) ?_
  refine go_iload_n 1 dX6_in_0 rfl ?_
  refine go_iload_n 2 dX6_in_1 rfl ?_
  refine go_icmp_lt 14 5 dX6_in_2 (fun h2 => ?_) (fun h2 => ?_)
  · refine go_iconst 15 dX6_in_14 zc_0 ?_
    exact go_zreturn dX6_in_15 rfl (by omega) (by omega) (Or.inl rfl) (⟨by first | rw [zb_t ⟨by first | assumption | exact Int32.not_lt.mp (by assumption), by first | assumption | exact Int32.not_lt.mp (by assumption)⟩] | rw [zb_f (fun q => by first | exact absurd q.1 (Int32.not_le.mpr (by assumption)) | exact absurd q.2 (Int32.not_le.mpr (by assumption)) | exact absurd q.1 (by assumption) | exact absurd q.2 (by assumption))], rfl⟩)
  · refine go_iload_n 6 dX6_in_5 rfl ?_
    refine go_iload_n 7 dX6_in_6 rfl ?_
    refine go_icmp_gt 14 10 dX6_in_7 (fun h7 => ?_) (fun h7 => ?_)
    · refine go_iconst 15 dX6_in_14 zc_0 ?_
      exact go_zreturn dX6_in_15 rfl (by omega) (by omega) (Or.inl rfl) (⟨by first | rw [zb_t ⟨by first | assumption | exact Int32.not_lt.mp (by assumption), by first | assumption | exact Int32.not_lt.mp (by assumption)⟩] | rw [zb_f (fun q => by first | exact absurd q.1 (Int32.not_le.mpr (by assumption)) | exact absurd q.2 (Int32.not_le.mpr (by assumption)) | exact absurd q.1 (by assumption) | exact absurd q.2 (by assumption))], rfl⟩)
    · refine go_iconst 11 dX6_in_10 zc_1 ?_
      refine go_goto 15 dX6_in_11 ?_
      exact go_zreturn dX6_in_15 rfl (by omega) (by omega) (Or.inr rfl) (⟨by first | rw [zb_t ⟨by first | assumption | exact Int32.not_lt.mp (by assumption), by first | assumption | exact Int32.not_lt.mp (by assumption)⟩] | rw [zb_f (fun q => by first | exact absurd q.1 (Int32.not_le.mpr (by assumption)) | exact absurd q.2 (Int32.not_le.mpr (by assumption)) | exact absurd q.1 (by assumption) | exact absurd q.2 (by assumption))], rfl⟩)

set_option maxRecDepth 100000 in
set_option maxHeartbeats 4000000 in
theorem ct_X6_min {l : Launch} {Γ : ZG} {w : ZW} {x y : Int32} : Cm l Γ mX6_min 1 [.int x, .int y] (w) (some (.int (@ite _ (x < y) (Classical.propDecidable _) x y))) (w) := by
  refine Cm.of (by decide) rfl (Nat.le_of_ble_eq_true rfl) ?_
  refine go_iload_n 1 dX6_min_0 rfl ?_
  refine go_iload_n 2 dX6_min_1 rfl ?_
  refine go_icmp_ge 9 5 dX6_min_2 (fun h2 => ?_) (fun h2 => ?_)
  · refine go_iload_n 10 dX6_min_9 rfl ?_
    exact go_ireturn dX6_min_10 rfl (by omega) (by omega) (⟨by first | rw [if_neg (Int32.not_lt.mpr (by assumption))] | rw [if_pos (Int32.not_le.mp (by assumption))], rfl⟩)
  · refine go_iload_n 6 dX6_min_5 rfl ?_
    refine go_goto 10 dX6_min_6 ?_
    exact go_ireturn dX6_min_10 rfl (by omega) (by omega) (⟨by first | rw [if_neg (Int32.not_lt.mpr (by assumption))] | rw [if_pos (Int32.not_le.mp (by assumption))], rfl⟩)

set_option maxRecDepth 100000 in
set_option maxHeartbeats 4000000 in
theorem ct_X6_ofParty {l : Launch} {Γ : ZG} {w : ZW} {o : Nat} {S : MS} {D : ZD} {k j : Nat} {x y : Int32} (hx : x = nI k) (hy : y = nI j) (hk : 16 + 3 * k + j < 1666) : Cm l Γ mX6_ofParty 1 [.ref o, .int x, .int y] (wD Γ w o S D) (some (.int (dP D k j))) (wD Γ w o S D) := by
  refine Cm.of (by decide) rfl (Nat.le_of_ble_eq_true rfl) ?_
  refine go_aload_n 1 dX6_ofParty_0 rfl ?_
  refine gd_get 4 dX6_ofParty_1 fX6_17 rfl ?_
  refine go_bipush 6 dX6_ofParty_4 zb_16 ?_
  refine go_iconst 7 dX6_ofParty_6 zc_3 ?_
  refine go_iload_n 8 dX6_ofParty_7 rfl ?_
  refine go_imul 9 dX6_ofParty_8 ?_
  refine go_iadd 10 dX6_ofParty_9 ?_
  refine go_iload_n 11 dX6_ofParty_10 rfl ?_
  refine go_iadd 12 dX6_ofParty_11 ?_
  refine gd_iald 13 (16 + 3 * k + j) dX6_ofParty_12 (by rw [hx, hy, ixP0, nI_add]) hk ?_
  exact go_ireturn dX6_ofParty_13 rfl (by omega) (by omega) (⟨rfl, rfl⟩)

set_option maxRecDepth 100000 in
set_option maxHeartbeats 4000000 in
theorem ct_X6_ofCall {l : Launch} {Γ : ZG} {w : ZW} {o : Nat} {S : MS} {D : ZD} {k j : Nat} {x y : Int32} (hx : x = nI k) (hy : y = nI j) (hk : 46 + 5 * k + j < 1666) : Cm l Γ mX6_ofCall 2 [.ref o, .int x, .int y] (wD Γ w o S D) (some (.int (dC D k j))) (wD Γ w o S D) := by
  refine Cm.of (by decide) rfl (Nat.le_of_ble_eq_true rfl) ?_
  refine go_aload_n 1 dX6_ofCall_0 rfl ?_
  refine gd_get 4 dX6_ofCall_1 fX6_17 rfl ?_
  refine go_iload_n 5 dX6_ofCall_4 rfl ?_
  refine gcS1 8 dX6_ofCall_5 vX6_165 (ct_X6_callAt hx) ?_
  refine go_iload_n 9 dX6_ofCall_8 rfl ?_
  refine go_iadd 10 dX6_ofCall_9 ?_
  refine gd_iald 11 (46 + 5 * k + j) dX6_ofCall_10 (by rw [hy, nI_add]) hk ?_
  exact go_ireturn dX6_ofCall_11 rfl (by omega) (by omega) (⟨rfl, rfl⟩)

set_option maxRecDepth 100000 in
set_option maxHeartbeats 4000000 in
theorem ct_X6_ofLeg {l : Launch} {Γ : ZG} {w : ZW} {o : Nat} {S : MS} {D : ZD} {k j : Nat} {x y : Int32} (hx : x = nI k) (hy : y = nI j) (hk : 146 + 13 * k + j < 1666) : Cm l Γ mX6_ofLeg 2 [.ref o, .int x, .int y] (wD Γ w o S D) (some (.int (dL D k j))) (wD Γ w o S D) := by
  refine Cm.of (by decide) rfl (Nat.le_of_ble_eq_true rfl) ?_
  refine go_aload_n 1 dX6_ofLeg_0 rfl ?_
  refine gd_get 4 dX6_ofLeg_1 fX6_17 rfl ?_
  refine go_iload_n 5 dX6_ofLeg_4 rfl ?_
  refine gcS1 8 dX6_ofLeg_5 vX6_168 (ct_X6_legAt hx) ?_
  refine go_iload_n 9 dX6_ofLeg_8 rfl ?_
  refine go_iadd 10 dX6_ofLeg_9 ?_
  refine gd_iald 11 (146 + 13 * k + j) dX6_ofLeg_10 (by rw [hy, nI_add]) hk ?_
  exact go_ireturn dX6_ofLeg_11 rfl (by omega) (by omega) (⟨rfl, rfl⟩)

set_option maxRecDepth 100000 in
set_option maxHeartbeats 4000000 in
theorem ct_X6_is {l : Launch} {Γ : ZG} {w : ZW} {o : Nat} {S : MS} {D : ZD} {k : Nat} {x y : Int32} (hx : x = nI k) (hk : k < 40) : Cm l Γ mX6_is 3 [.ref o, .int x, .int y] (wD Γ w o S D) (some (.int (zb (dL D k 2 = y)))) (wD Γ w o S D) := by
  refine Cm.of (by decide) rfl (Nat.le_of_ble_eq_true rfl) ?_
  refine go_aload_n 1 dX6_is_0 rfl ?_
  refine go_iload_n 2 dX6_is_1 rfl ?_
  refine go_iconst 3 dX6_is_2 zc_2 ?_
  refine gdV2 6 dX6_is_3 vX6_171 (ct_X6_ofLeg (j := 2) hx rfl (by omega)) ?_
  refine go_iload_n 7 dX6_is_6 rfl ?_
  refine go_icmp_ne 14 10 dX6_is_7 (fun h7 => ?_) (fun h7 => ?_)
  · refine go_iconst 15 dX6_is_14 zc_0 ?_
    exact go_zreturn dX6_is_15 rfl (by omega) (by omega) (Or.inl rfl) (⟨by first | rw [zb_t (by first | assumption | (constructor <;> assumption) | (left; assumption) | (right; assumption))] | rw [zb_f (by first | assumption | (intro q; rcases q with q | q <;> contradiction) | (intro q; rcases q with ⟨q1, q2⟩; contradiction))], rfl⟩)
  · refine go_iconst 11 dX6_is_10 zc_1 ?_
    refine go_goto 15 dX6_is_11 ?_
    exact go_zreturn dX6_is_15 rfl (by omega) (by omega) (Or.inr rfl) (⟨by first | rw [zb_t (by first | assumption | (constructor <;> assumption) | (left; assumption) | (right; assumption))] | rw [zb_f (by first | assumption | (intro q; rcases q with q | q <;> contradiction) | (intro q; rcases q with ⟨q1, q2⟩; contradiction))], rfl⟩)

set_option maxRecDepth 100000 in
set_option maxHeartbeats 4000000 in
theorem ct_X6_callerOf {l : Launch} {Γ : ZG} {w : ZW} {o : Nat} {S : MS} {D : ZD} (hI : Ix D) {k : Nat} {x : Int32} (hx : x = nI k) (hk : k < nL D) : Cm l Γ mX6_callerOf 3 [.ref o, .int x] (wD Γ w o S D) (some (.int (clr D k))) (wD Γ w o S D) := by
  have hl40 : nL D ≤ 40 := hI.2.2.1.2
  have hc20 : nC D ≤ 20 := hI.2.1.2
  have ho := hI.2.2.2 k hk
  refine Cm.of (by decide) rfl (Nat.le_of_ble_eq_true rfl) ?_
  refine go_aload_n 1 dX6_callerOf_0 rfl ?_
  refine go_aload_n 2 dX6_callerOf_1 rfl ?_
  refine go_iload_n 3 dX6_callerOf_2 rfl ?_
  refine go_iconst 4 dX6_callerOf_3 zc_0 ?_
  refine gdV2 7 dX6_callerOf_4 vX6_171 (ct_X6_ofLeg (j := 0) hx rfl (by omega)) ?_
  refine go_iconst 8 dX6_callerOf_7 zc_0 ?_
  refine gdV2 11 dX6_callerOf_8 vX6_174 (ct_X6_ofCall (j := 0) ho.1 rfl (by omega)) ?_
  exact go_ireturn dX6_callerOf_11 rfl (by omega) (by omega) (⟨rfl, rfl⟩)

set_option maxRecDepth 100000 in
set_option maxHeartbeats 4000000 in
theorem ct_X6_isIn {l : Launch} {Γ : ZG} {w : ZW} {o : Nat} {S : MS} {D : ZD} (hI : Ix D) {k : Nat} {x y : Int32} (hx : x = nI k) (hk : k < nL D) : Cm l Γ mX6_isIn 4 [.ref o, .int y, .int x] (wD Γ w o S D) (some (.int (zb (inLeg D y k)))) (wD Γ w o S D) := by
  have hl40 : nL D ≤ 40 := hI.2.2.1.2
  have hc20 : nC D ≤ 20 := hI.2.1.2
  refine Cm.of (by decide) rfl (Nat.le_of_ble_eq_true rfl) ?_
  refine go_aload_n 1 dX6_isIn_0 rfl ?_
  refine go_iload_n 2 dX6_isIn_1 rfl ?_
  refine gdV1 5 dX6_isIn_2 vX6_177 (ct_X6_callerOf hI hx hk) ?_
  refine go_iload_n 6 dX6_isIn_5 rfl ?_
  refine go_icmp_eq 19 9 dX6_isIn_6 (fun h6 => ?_) (fun h6 => ?_)
  · refine go_iconst 20 dX6_isIn_19 zc_1 ?_
    refine go_goto 24 dX6_isIn_20 ?_
    exact go_zreturn dX6_isIn_24 rfl (by omega) (by omega) (Or.inr rfl) (⟨by first | rw [zb_t (by first | assumption | (constructor <;> assumption) | (left; assumption) | (right; assumption))] | rw [zb_f (by first | assumption | (intro q; rcases q with q | q <;> contradiction) | (intro q; rcases q with ⟨q1, q2⟩; contradiction))], rfl⟩)
  · refine go_aload_n 10 dX6_isIn_9 rfl ?_
    refine go_iload_n 11 dX6_isIn_10 rfl ?_
    refine go_iconst 12 dX6_isIn_11 zc_1 ?_
    refine gdV2 15 dX6_isIn_12 vX6_171 (ct_X6_ofLeg (j := 1) hx rfl (by omega)) ?_
    refine go_iload_n 16 dX6_isIn_15 rfl ?_
    refine go_icmp_ne 23 19 dX6_isIn_16 (fun h16 => ?_) (fun h16 => ?_)
    · refine go_iconst 24 dX6_isIn_23 zc_0 ?_
      exact go_zreturn dX6_isIn_24 rfl (by omega) (by omega) (Or.inl rfl) (⟨by first | rw [zb_t (by first | assumption | (constructor <;> assumption) | (left; assumption) | (right; assumption))] | rw [zb_f (by first | assumption | (intro q; rcases q with q | q <;> contradiction) | (intro q; rcases q with ⟨q1, q2⟩; contradiction))], rfl⟩)
    · refine go_iconst 20 dX6_isIn_19 zc_1 ?_
      refine go_goto 24 dX6_isIn_20 ?_
      exact go_zreturn dX6_isIn_24 rfl (by omega) (by omega) (Or.inr rfl) (⟨by first | rw [zb_t (by first | assumption | (constructor <;> assumption) | (left; assumption) | (right; assumption))] | rw [zb_f (by first | assumption | (intro q; rcases q with q | q <;> contradiction) | (intro q; rcases q with ⟨q1, q2⟩; contradiction))], rfl⟩)

set_option maxRecDepth 100000 in
set_option maxHeartbeats 4000000 in
theorem lp_X6_legWith {l : Launch} {Γ : ZG} {w : ZW} {o : Nat} {S : MS} {D : ZD} {x y : Int32} (hI : Ix D) : ∀ (f i : Nat), i + f = nL D → Go l Γ mX6_legWith 5 0 0 (fun v w2 => v = some (.int (zfind (fun k => dL D k 2 = y ∧ inLeg D x k) i f)) ∧ w2 = wD Γ w o S D) zNo 0 0 (wD Γ w o S D) 2 [(0, .ref o), (1, .int x), (2, .int y), (3, .int (nI i))] [] := by
  intro f
  induction f with
  | zero =>
    intro i hif
    have hl40 : nL D ≤ 40 := hI.2.2.1.2
    have hc20 : nC D ≤ 20 := hI.2.1.2
    refine go_iload_n 3 dX6_legWith_2 rfl ?_
    refine go_aload_n 4 dX6_legWith_3 rfl ?_
    refine gd_get 7 dX6_legWith_4 fX6_17 rfl ?_
    refine go_bipush 9 dX6_legWith_7 zb_6 ?_
    refine gd_iald 10 (6) dX6_legWith_9 rfl (by decide) ?_
    refine go_icmp_ge 39 13 dX6_legWith_10 (fun h10 => ?_) (fun h10 => ?_)
    · refine go_iconst 40 dX6_legWith_39 zc_m1 ?_
      exact go_ireturn dX6_legWith_40 rfl (by omega) (by omega) (⟨rfl, rfl⟩)
    · exact (lpE hI.2.2.1.1 (by omega) h10).elim
  | succ f ih =>
    intro i hif
    have hl40 : nL D ≤ 40 := hI.2.2.1.2
    have hc20 : nC D ≤ 20 := hI.2.1.2
    refine go_iload_n 3 dX6_legWith_2 rfl ?_
    refine go_aload_n 4 dX6_legWith_3 rfl ?_
    refine gd_get 7 dX6_legWith_4 fX6_17 rfl ?_
    refine go_bipush 9 dX6_legWith_7 zb_6 ?_
    refine gd_iald 10 (6) dX6_legWith_9 rfl (by decide) ?_
    refine go_icmp_ge 39 13 dX6_legWith_10 (fun h10 => ?_) (fun h10 => ?_)
    · exact (lpG hI.2.2.1.1 (by omega) (by omega) h10).elim
    · refine go_aload_n 14 dX6_legWith_13 rfl ?_
      refine go_iload_n 15 dX6_legWith_14 rfl ?_
      refine go_iload_n 16 dX6_legWith_15 rfl ?_
      refine gdV2 19 dX6_legWith_16 vX6_180 (ct_X6_is rfl (by omega)) ?_
      refine go_if_eq 33 22 dX6_legWith_19 (fun h19 => ?_) (fun h19 => ?_)
      · rw [zfind_f (P := (fun k => dL D k 2 = y ∧ inLeg D x k)) (fun q => by first | exact zb_0 h19 q.1 | exact zb_0 h28 q.2)]
        refine go_iinc 36 dX6_legWith_33 rfl (by decide) zc_1 ?_
        refine go_goto 2 dX6_legWith_36 ?_
        rw [nI_1]
        exact go_locals _ rfl (ih (i + 1) (by omega))
      · refine go_aload_n 23 dX6_legWith_22 rfl ?_
        refine go_iload_n 24 dX6_legWith_23 rfl ?_
        refine go_iload_n 25 dX6_legWith_24 rfl ?_
        refine gdV2 28 dX6_legWith_25 vX6_184 (ct_X6_isIn hI rfl (by omega)) ?_
        refine go_if_eq 33 31 dX6_legWith_28 (fun h28 => ?_) (fun h28 => ?_)
        · rw [zfind_f (P := (fun k => dL D k 2 = y ∧ inLeg D x k)) (fun q => by first | exact zb_0 h19 q.1 | exact zb_0 h28 q.2)]
          refine go_iinc 36 dX6_legWith_33 rfl (by decide) zc_1 ?_
          refine go_goto 2 dX6_legWith_36 ?_
          rw [nI_1]
          exact go_locals _ rfl (ih (i + 1) (by omega))
        · refine go_iload_n 32 dX6_legWith_31 rfl ?_
          exact go_ireturn dX6_legWith_32 rfl (by omega) (by omega) (⟨by rw [zfind_t (P := (fun k => dL D k 2 = y ∧ inLeg D x k)) ⟨zb_1 h19, zb_1 h28⟩], rfl⟩)

set_option maxRecDepth 100000 in
set_option maxHeartbeats 4000000 in
theorem ct_X6_legWith {l : Launch} {Γ : ZG} {w : ZW} {o : Nat} {S : MS} {D : ZD} (hI : Ix D) {x y : Int32} : Cm l Γ mX6_legWith 5 [.ref o, .int x, .int y] (wD Γ w o S D) (some (.int (legW D x y))) (wD Γ w o S D) := by
  refine Cm.of (by decide) rfl (Nat.le_of_ble_eq_true rfl) ?_
  refine go_iconst 1 dX6_legWith_0 zc_0 ?_
  refine go_istore_n 2 dX6_legWith_1 (by decide) ?_
  exact go_locals _ rfl (lp_X6_legWith hI _ 0 (by omega))

set_option maxRecDepth 100000 in
set_option maxHeartbeats 4000000 in
theorem lp_X6_rings {l : Launch} {Γ : ZG} {w : ZW} {o : Nat} {S : MS} {D : ZD} {x : Int32} (hI : Ix D) : ∀ (f i : Nat), i + f = nL D → Go l Γ mX6_rings 4 0 0 (fun v w2 => v = some (.int (zb (exs (fun k => dL D k 0 = x ∧ dL D k 2 = 0) i f))) ∧ w2 = wD Γ w o S D) zNo 0 0 (wD Γ w o S D) 2 [(0, .ref o), (1, .int x), (2, .int (nI i))] [] := by
  intro f
  induction f with
  | zero =>
    intro i hif
    have hl40 : nL D ≤ 40 := hI.2.2.1.2
    have hc20 : nC D ≤ 20 := hI.2.1.2
    refine go_iload_n 3 dX6_rings_2 rfl ?_
    refine go_aload_n 4 dX6_rings_3 rfl ?_
    refine gd_get 7 dX6_rings_4 fX6_17 rfl ?_
    refine go_bipush 9 dX6_rings_7 zb_6 ?_
    refine gd_iald 10 (6) dX6_rings_9 rfl (by decide) ?_
    refine go_icmp_ge 40 13 dX6_rings_10 (fun h10 => ?_) (fun h10 => ?_)
    · refine go_iconst 41 dX6_rings_40 zc_0 ?_
      exact go_zreturn dX6_rings_41 rfl (by omega) (by omega) (Or.inl rfl) (⟨by rw [zb_f (p := exs (fun k => dL D k 0 = x ∧ dL D k 2 = 0) i 0) (fun q => q)], rfl⟩)
    · exact (lpE hI.2.2.1.1 (by omega) h10).elim
  | succ f ih =>
    intro i hif
    have hl40 : nL D ≤ 40 := hI.2.2.1.2
    have hc20 : nC D ≤ 20 := hI.2.1.2
    refine go_iload_n 3 dX6_rings_2 rfl ?_
    refine go_aload_n 4 dX6_rings_3 rfl ?_
    refine gd_get 7 dX6_rings_4 fX6_17 rfl ?_
    refine go_bipush 9 dX6_rings_7 zb_6 ?_
    refine gd_iald 10 (6) dX6_rings_9 rfl (by decide) ?_
    refine go_icmp_ge 40 13 dX6_rings_10 (fun h10 => ?_) (fun h10 => ?_)
    · exact (lpG hI.2.2.1.1 (by omega) (by omega) h10).elim
    · refine go_aload_n 14 dX6_rings_13 rfl ?_
      refine go_iload_n 15 dX6_rings_14 rfl ?_
      refine go_iconst 16 dX6_rings_15 zc_0 ?_
      refine gdV2 19 dX6_rings_16 vX6_171 (ct_X6_ofLeg (j := 0) rfl rfl (by omega)) ?_
      refine go_iload_n 20 dX6_rings_19 rfl ?_
      refine go_icmp_ne 34 23 dX6_rings_20 (fun h20 => ?_) (fun h20 => ?_)
      · rw [exs_f (P := (fun k => dL D k 0 = x ∧ dL D k 2 = 0)) (fun q => by first | exact h20 q.1 | exact zb_0 h29 q.2)]
        refine go_iinc 37 dX6_rings_34 rfl (by decide) zc_1 ?_
        refine go_goto 2 dX6_rings_37 ?_
        rw [nI_1]
        exact go_locals _ rfl (ih (i + 1) (by omega))
      · refine go_aload_n 24 dX6_rings_23 rfl ?_
        refine go_iload_n 25 dX6_rings_24 rfl ?_
        refine go_iconst 26 dX6_rings_25 zc_0 ?_
        refine gdV2 29 dX6_rings_26 vX6_180 (ct_X6_is rfl (by omega)) ?_
        refine go_if_eq 34 32 dX6_rings_29 (fun h29 => ?_) (fun h29 => ?_)
        · rw [exs_f (P := (fun k => dL D k 0 = x ∧ dL D k 2 = 0)) (fun q => by first | exact h20 q.1 | exact zb_0 h29 q.2)]
          refine go_iinc 37 dX6_rings_34 rfl (by decide) zc_1 ?_
          refine go_goto 2 dX6_rings_37 ?_
          rw [nI_1]
          exact go_locals _ rfl (ih (i + 1) (by omega))
        · refine go_iconst 33 dX6_rings_32 zc_1 ?_
          exact go_zreturn dX6_rings_33 rfl (by omega) (by omega) (Or.inr rfl) (⟨by rw [zb_t (p := exs (fun k => dL D k 0 = x ∧ dL D k 2 = 0) i (f + 1)) (Or.inl ⟨h20, zb_1 h29⟩)], rfl⟩)

set_option maxRecDepth 100000 in
set_option maxHeartbeats 4000000 in
theorem ct_X6_rings {l : Launch} {Γ : ZG} {w : ZW} {o : Nat} {S : MS} {D : ZD} (hI : Ix D) {x : Int32} : Cm l Γ mX6_rings 4 [.ref o, .int x] (wD Γ w o S D) (some (.int (zb (rngs D x)))) (wD Γ w o S D) := by
  refine Cm.of (by decide) rfl (Nat.le_of_ble_eq_true rfl) ?_
  refine go_iconst 1 dX6_rings_0 zc_0 ?_
  refine go_istore_n 2 dX6_rings_1 (by decide) ?_
  exact go_locals _ rfl (lp_X6_rings hI _ 0 (by omega))

set_option maxRecDepth 100000 in
set_option maxHeartbeats 4000000 in
theorem lp_X6_ringingOf {l : Launch} {Γ : ZG} {w : ZW} {o : Nat} {S : MS} {D : ZD} {x : Int32} (hI : Ix D) : ∀ (f i : Nat), i + f = nC D → Go l Γ mX6_ringingOf 5 0 0 (fun v w2 => v = some (.int (zfind (fun c => dC D c 0 = x ∧ rngs D (nI c)) i f)) ∧ w2 = wD Γ w o S D) zNo 0 0 (wD Γ w o S D) 2 [(0, .ref o), (1, .int x), (2, .int (nI i))] [] := by
  intro f
  induction f with
  | zero =>
    intro i hif
    have hl40 : nL D ≤ 40 := hI.2.2.1.2
    have hc20 : nC D ≤ 20 := hI.2.1.2
    refine go_iload_n 3 dX6_ringingOf_2 rfl ?_
    refine go_aload_n 4 dX6_ringingOf_3 rfl ?_
    refine gd_get 7 dX6_ringingOf_4 fX6_17 rfl ?_
    refine go_iconst 8 dX6_ringingOf_7 zc_5 ?_
    refine gd_iald 9 (5) dX6_ringingOf_8 rfl (by decide) ?_
    refine go_icmp_ge 38 12 dX6_ringingOf_9 (fun h9 => ?_) (fun h9 => ?_)
    · refine go_iconst 39 dX6_ringingOf_38 zc_m1 ?_
      exact go_ireturn dX6_ringingOf_39 rfl (by omega) (by omega) (⟨rfl, rfl⟩)
    · exact (lpE hI.2.1.1 (by omega) h9).elim
  | succ f ih =>
    intro i hif
    have hl40 : nL D ≤ 40 := hI.2.2.1.2
    have hc20 : nC D ≤ 20 := hI.2.1.2
    refine go_iload_n 3 dX6_ringingOf_2 rfl ?_
    refine go_aload_n 4 dX6_ringingOf_3 rfl ?_
    refine gd_get 7 dX6_ringingOf_4 fX6_17 rfl ?_
    refine go_iconst 8 dX6_ringingOf_7 zc_5 ?_
    refine gd_iald 9 (5) dX6_ringingOf_8 rfl (by decide) ?_
    refine go_icmp_ge 38 12 dX6_ringingOf_9 (fun h9 => ?_) (fun h9 => ?_)
    · exact (lpG hI.2.1.1 (by omega) (by omega) h9).elim
    · refine go_aload_n 13 dX6_ringingOf_12 rfl ?_
      refine go_iload_n 14 dX6_ringingOf_13 rfl ?_
      refine go_iconst 15 dX6_ringingOf_14 zc_0 ?_
      refine gdV2 18 dX6_ringingOf_15 vX6_174 (ct_X6_ofCall (j := 0) rfl rfl (by omega)) ?_
      refine go_iload_n 19 dX6_ringingOf_18 rfl ?_
      refine go_icmp_ne 32 22 dX6_ringingOf_19 (fun h19 => ?_) (fun h19 => ?_)
      · rw [zfind_f (P := (fun c => dC D c 0 = x ∧ rngs D (nI c))) (fun q => by first | exact h19 q.1 | exact zb_0 h27 q.2)]
        refine go_iinc 35 dX6_ringingOf_32 rfl (by decide) zc_1 ?_
        refine go_goto 2 dX6_ringingOf_35 ?_
        rw [nI_1]
        exact go_locals _ rfl (ih (i + 1) (by omega))
      · refine go_aload_n 23 dX6_ringingOf_22 rfl ?_
        refine go_iload_n 24 dX6_ringingOf_23 rfl ?_
        refine gdV1 27 dX6_ringingOf_24 vX6_187 (ct_X6_rings hI) ?_
        refine go_if_eq 32 30 dX6_ringingOf_27 (fun h27 => ?_) (fun h27 => ?_)
        · rw [zfind_f (P := (fun c => dC D c 0 = x ∧ rngs D (nI c))) (fun q => by first | exact h19 q.1 | exact zb_0 h27 q.2)]
          refine go_iinc 35 dX6_ringingOf_32 rfl (by decide) zc_1 ?_
          refine go_goto 2 dX6_ringingOf_35 ?_
          rw [nI_1]
          exact go_locals _ rfl (ih (i + 1) (by omega))
        · refine go_iload_n 31 dX6_ringingOf_30 rfl ?_
          exact go_ireturn dX6_ringingOf_31 rfl (by omega) (by omega) (⟨by rw [zfind_t (P := (fun c => dC D c 0 = x ∧ rngs D (nI c))) ⟨h19, zb_1 h27⟩], rfl⟩)

set_option maxRecDepth 100000 in
set_option maxHeartbeats 4000000 in
theorem ct_X6_ringingOf {l : Launch} {Γ : ZG} {w : ZW} {o : Nat} {S : MS} {D : ZD} (hI : Ix D) {x : Int32} : Cm l Γ mX6_ringingOf 5 [.ref o, .int x] (wD Γ w o S D) (some (.int (rngOf D x))) (wD Γ w o S D) := by
  refine Cm.of (by decide) rfl (Nat.le_of_ble_eq_true rfl) ?_
  refine go_iconst 1 dX6_ringingOf_0 zc_0 ?_
  refine go_istore_n 2 dX6_ringingOf_1 (by decide) ?_
  exact go_locals _ rfl (lp_X6_ringingOf hI _ 0 (by omega))

set_option maxRecDepth 100000 in
set_option maxHeartbeats 4000000 in
theorem ct_X6_isEngaged {l : Launch} {Γ : ZG} {w : ZW} {o : Nat} {S : MS} {D : ZD} (hI : Ix D) {x : Int32} : Cm l Γ mX6_isEngaged 6 [.ref o, .int x] (wD Γ w o S D) (some (.int (zb (eng D x)))) (wD Γ w o S D) := by
  refine Cm.of (by decide) rfl (Nat.le_of_ble_eq_true rfl) ?_
  refine go_aload_n 1 dX6_isEngaged_0 rfl ?_
  refine go_iload_n 2 dX6_isEngaged_1 rfl ?_
  refine go_iconst 3 dX6_isEngaged_2 zc_1 ?_
  refine gdV2 6 dX6_isEngaged_3 vX6_190 (ct_X6_legWith hI) ?_
  refine go_iconst 7 dX6_isEngaged_6 zc_m1 ?_
  refine go_icmp_ne 29 10 dX6_isEngaged_7 (fun h7 => ?_) (fun h7 => ?_)
  · refine go_iconst 30 dX6_isEngaged_29 zc_1 ?_
    refine go_goto 34 dX6_isEngaged_30 ?_
    exact go_zreturn dX6_isEngaged_34 rfl (by omega) (by omega) (Or.inr rfl) (⟨by rw [zb_t (p := eng D x) (by first | exact Or.inl h7 | exact Or.inr (Or.inl h17) | exact Or.inr (Or.inr h26))], rfl⟩)
  · refine go_aload_n 11 dX6_isEngaged_10 rfl ?_
    refine go_iload_n 12 dX6_isEngaged_11 rfl ?_
    refine go_iconst 13 dX6_isEngaged_12 zc_2 ?_
    refine gdV2 16 dX6_isEngaged_13 vX6_190 (ct_X6_legWith hI) ?_
    refine go_iconst 17 dX6_isEngaged_16 zc_m1 ?_
    refine go_icmp_ne 29 20 dX6_isEngaged_17 (fun h17 => ?_) (fun h17 => ?_)
    · refine go_iconst 30 dX6_isEngaged_29 zc_1 ?_
      refine go_goto 34 dX6_isEngaged_30 ?_
      exact go_zreturn dX6_isEngaged_34 rfl (by omega) (by omega) (Or.inr rfl) (⟨by rw [zb_t (p := eng D x) (by first | exact Or.inl h7 | exact Or.inr (Or.inl h17) | exact Or.inr (Or.inr h26))], rfl⟩)
    · refine go_aload_n 21 dX6_isEngaged_20 rfl ?_
      refine go_iload_n 22 dX6_isEngaged_21 rfl ?_
      refine gdV1 25 dX6_isEngaged_22 vX6_193 (ct_X6_ringingOf hI) ?_
      refine go_iconst 26 dX6_isEngaged_25 zc_m1 ?_
      refine go_icmp_eq 33 29 dX6_isEngaged_26 (fun h26 => ?_) (fun h26 => ?_)
      · refine go_iconst 34 dX6_isEngaged_33 zc_0 ?_
        exact go_zreturn dX6_isEngaged_34 rfl (by omega) (by omega) (Or.inl rfl) (⟨by rw [zb_f (p := eng D x) (fun q => by rcases q with q | q | q <;> contradiction)], rfl⟩)
      · refine go_iconst 30 dX6_isEngaged_29 zc_1 ?_
        refine go_goto 34 dX6_isEngaged_30 ?_
        exact go_zreturn dX6_isEngaged_34 rfl (by omega) (by omega) (Or.inr rfl) (⟨by rw [zb_t (p := eng D x) (by first | exact Or.inl h7 | exact Or.inr (Or.inl h17) | exact Or.inr (Or.inr h26))], rfl⟩)

set_option maxRecDepth 100000 in
set_option maxHeartbeats 4000000 in
theorem lp_X6_countOf {l : Launch} {Γ : ZG} {w : ZW} {o : Nat} {S : MS} {D : ZD} {x : Int32} (hI : Ix D) : ∀ (f i : Nat) (a : Int32), i + f = nL D → Go l Γ mX6_countOf 4 0 0 (fun v w2 => v = some (.int (zcnt (fun k => dL D k 2 = x) i f a)) ∧ w2 = wD Γ w o S D) zNo 0 0 (wD Γ w o S D) 4 [(0, .ref o), (1, .int x), (2, .int a), (3, .int (nI i))] [] := by
  intro f
  induction f with
  | zero =>
    intro i a hif
    have hl40 : nL D ≤ 40 := hI.2.2.1.2
    have hc20 : nC D ≤ 20 := hI.2.1.2
    refine go_iload_n 5 dX6_countOf_4 rfl ?_
    refine go_aload_n 6 dX6_countOf_5 rfl ?_
    refine gd_get 9 dX6_countOf_6 fX6_17 rfl ?_
    refine go_bipush 11 dX6_countOf_9 zb_6 ?_
    refine gd_iald 12 (6) dX6_countOf_11 rfl (by decide) ?_
    refine go_icmp_ge 38 15 dX6_countOf_12 (fun h12 => ?_) (fun h12 => ?_)
    · refine go_iload_n 39 dX6_countOf_38 rfl ?_
      exact go_ireturn dX6_countOf_39 rfl (by omega) (by omega) (⟨rfl, rfl⟩)
    · exact (lpE hI.2.2.1.1 (by omega) h12).elim
  | succ f ih =>
    intro i a hif
    have hl40 : nL D ≤ 40 := hI.2.2.1.2
    have hc20 : nC D ≤ 20 := hI.2.1.2
    refine go_iload_n 5 dX6_countOf_4 rfl ?_
    refine go_aload_n 6 dX6_countOf_5 rfl ?_
    refine gd_get 9 dX6_countOf_6 fX6_17 rfl ?_
    refine go_bipush 11 dX6_countOf_9 zb_6 ?_
    refine gd_iald 12 (6) dX6_countOf_11 rfl (by decide) ?_
    refine go_icmp_ge 38 15 dX6_countOf_12 (fun h12 => ?_) (fun h12 => ?_)
    · exact (lpG hI.2.2.1.1 (by omega) (by omega) h12).elim
    · refine go_iload_n 16 dX6_countOf_15 rfl ?_
      refine go_aload_n 17 dX6_countOf_16 rfl ?_
      refine go_iload_n 18 dX6_countOf_17 rfl ?_
      refine go_iload_n 19 dX6_countOf_18 rfl ?_
      refine gdV2 22 dX6_countOf_19 vX6_180 (ct_X6_is rfl (by omega)) ?_
      refine go_if_eq 29 25 dX6_countOf_22 (fun h22 => ?_) (fun h22 => ?_)
      · refine go_iconst 30 dX6_countOf_29 zc_0 ?_
        refine go_iadd 31 dX6_countOf_30 ?_
        refine go_istore_n 32 dX6_countOf_31 (by decide) ?_
        refine go_iinc 35 dX6_countOf_32 rfl (by decide) zc_1 ?_
        refine go_goto 4 dX6_countOf_35 ?_
        rw [nI_1]
        first
          | (rw [show a + 1 = a + zb (dL D i 2 = x) by rw [zb_t (zb_1 h22)]]; exact go_locals _ rfl (ih (i + 1) _ (by omega)))
          | (rw [show a + 0 = a + zb (dL D i 2 = x) by rw [zb_f (by first | exact zb_0 h22 | exact h22)]]; exact go_locals _ rfl (ih (i + 1) _ (by omega)))
      · refine go_iconst 26 dX6_countOf_25 zc_1 ?_
        refine go_goto 30 dX6_countOf_26 ?_
        refine go_iadd 31 dX6_countOf_30 ?_
        refine go_istore_n 32 dX6_countOf_31 (by decide) ?_
        refine go_iinc 35 dX6_countOf_32 rfl (by decide) zc_1 ?_
        refine go_goto 4 dX6_countOf_35 ?_
        rw [nI_1]
        first
          | (rw [show a + 1 = a + zb (dL D i 2 = x) by rw [zb_t (zb_1 h22)]]; exact go_locals _ rfl (ih (i + 1) _ (by omega)))
          | (rw [show a + 0 = a + zb (dL D i 2 = x) by rw [zb_f (by first | exact zb_0 h22 | exact h22)]]; exact go_locals _ rfl (ih (i + 1) _ (by omega)))

set_option maxRecDepth 100000 in
set_option maxHeartbeats 4000000 in
theorem ct_X6_countOf {l : Launch} {Γ : ZG} {w : ZW} {o : Nat} {S : MS} {D : ZD} (hI : Ix D) {x : Int32} : Cm l Γ mX6_countOf 4 [.ref o, .int x] (wD Γ w o S D) (some (.int (cntSt D x))) (wD Γ w o S D) := by
  refine Cm.of (by decide) rfl (Nat.le_of_ble_eq_true rfl) ?_
  refine go_iconst 1 dX6_countOf_0 zc_0 ?_
  refine go_istore_n 2 dX6_countOf_1 (by decide) ?_
  refine go_iconst 3 dX6_countOf_2 zc_0 ?_
  refine go_istore_n 4 dX6_countOf_3 (by decide) ?_
  exact go_locals _ rfl (lp_X6_countOf hI _ 0 0 (by omega))

set_option maxRecDepth 100000 in
set_option maxHeartbeats 4000000 in
theorem lp_X6_rungAt {l : Launch} {Γ : ZG} {w : ZW} {o : Nat} {S : MS} {D : ZD} {x : Int32} (hI : Ix D) : ∀ (f i : Nat) (a : Int32), i + f = nL D → Go l Γ mX6_rungAt 4 0 0 (fun v w2 => v = some (.int (zcnt (fun k => dL D k 2 = 0 ∧ dL D k 1 = x) i f a)) ∧ w2 = wD Γ w o S D) zNo 0 0 (wD Γ w o S D) 4 [(0, .ref o), (1, .int x), (2, .int a), (3, .int (nI i))] [] := by
  intro f
  induction f with
  | zero =>
    intro i a hif
    have hl40 : nL D ≤ 40 := hI.2.2.1.2
    have hc20 : nC D ≤ 20 := hI.2.1.2
    refine go_iload_n 5 dX6_rungAt_4 rfl ?_
    refine go_aload_n 6 dX6_rungAt_5 rfl ?_
    refine gd_get 9 dX6_rungAt_6 fX6_17 rfl ?_
    refine go_bipush 11 dX6_rungAt_9 zb_6 ?_
    refine gd_iald 12 (6) dX6_rungAt_11 rfl (by decide) ?_
    refine go_icmp_ge 48 15 dX6_rungAt_12 (fun h12 => ?_) (fun h12 => ?_)
    · refine go_iload_n 49 dX6_rungAt_48 rfl ?_
      exact go_ireturn dX6_rungAt_49 rfl (by omega) (by omega) (⟨rfl, rfl⟩)
    · exact (lpE hI.2.2.1.1 (by omega) h12).elim
  | succ f ih =>
    intro i a hif
    have hl40 : nL D ≤ 40 := hI.2.2.1.2
    have hc20 : nC D ≤ 20 := hI.2.1.2
    refine go_iload_n 5 dX6_rungAt_4 rfl ?_
    refine go_aload_n 6 dX6_rungAt_5 rfl ?_
    refine gd_get 9 dX6_rungAt_6 fX6_17 rfl ?_
    refine go_bipush 11 dX6_rungAt_9 zb_6 ?_
    refine gd_iald 12 (6) dX6_rungAt_11 rfl (by decide) ?_
    refine go_icmp_ge 48 15 dX6_rungAt_12 (fun h12 => ?_) (fun h12 => ?_)
    · exact (lpG hI.2.2.1.1 (by omega) (by omega) h12).elim
    · refine go_iload_n 16 dX6_rungAt_15 rfl ?_
      refine go_aload_n 17 dX6_rungAt_16 rfl ?_
      refine go_iload_n 18 dX6_rungAt_17 rfl ?_
      refine go_iconst 19 dX6_rungAt_18 zc_0 ?_
      refine gdV2 22 dX6_rungAt_19 vX6_180 (ct_X6_is rfl (by omega)) ?_
      refine go_if_eq 39 25 dX6_rungAt_22 (fun h22 => ?_) (fun h22 => ?_)
      · refine go_iconst 40 dX6_rungAt_39 zc_0 ?_
        refine go_iadd 41 dX6_rungAt_40 ?_
        refine go_istore_n 42 dX6_rungAt_41 (by decide) ?_
        refine go_iinc 45 dX6_rungAt_42 rfl (by decide) zc_1 ?_
        refine go_goto 4 dX6_rungAt_45 ?_
        rw [nI_1]
        first
          | (rw [show a + 1 = a + zb (dL D i 2 = 0 ∧ dL D i 1 = x) by rw [zb_t ⟨zb_1 h22, h32⟩]]; exact go_locals _ rfl (ih (i + 1) _ (by omega)))
          | (rw [show a + 0 = a + zb (dL D i 2 = 0 ∧ dL D i 1 = x) by rw [zb_f (fun q => by first | exact zb_0 h22 q.1 | exact h32 q.2)]]; exact go_locals _ rfl (ih (i + 1) _ (by omega)))
      · refine go_aload_n 26 dX6_rungAt_25 rfl ?_
        refine go_iload_n 27 dX6_rungAt_26 rfl ?_
        refine go_iconst 28 dX6_rungAt_27 zc_1 ?_
        refine gdV2 31 dX6_rungAt_28 vX6_171 (ct_X6_ofLeg (j := 1) rfl rfl (by omega)) ?_
        refine go_iload_n 32 dX6_rungAt_31 rfl ?_
        refine go_icmp_ne 39 35 dX6_rungAt_32 (fun h32 => ?_) (fun h32 => ?_)
        · refine go_iconst 40 dX6_rungAt_39 zc_0 ?_
          refine go_iadd 41 dX6_rungAt_40 ?_
          refine go_istore_n 42 dX6_rungAt_41 (by decide) ?_
          refine go_iinc 45 dX6_rungAt_42 rfl (by decide) zc_1 ?_
          refine go_goto 4 dX6_rungAt_45 ?_
          rw [nI_1]
          first
            | (rw [show a + 1 = a + zb (dL D i 2 = 0 ∧ dL D i 1 = x) by rw [zb_t ⟨zb_1 h22, h32⟩]]; exact go_locals _ rfl (ih (i + 1) _ (by omega)))
            | (rw [show a + 0 = a + zb (dL D i 2 = 0 ∧ dL D i 1 = x) by rw [zb_f (fun q => by first | exact zb_0 h22 q.1 | exact h32 q.2)]]; exact go_locals _ rfl (ih (i + 1) _ (by omega)))
        · refine go_iconst 36 dX6_rungAt_35 zc_1 ?_
          refine go_goto 40 dX6_rungAt_36 ?_
          refine go_iadd 41 dX6_rungAt_40 ?_
          refine go_istore_n 42 dX6_rungAt_41 (by decide) ?_
          refine go_iinc 45 dX6_rungAt_42 rfl (by decide) zc_1 ?_
          refine go_goto 4 dX6_rungAt_45 ?_
          rw [nI_1]
          first
            | (rw [show a + 1 = a + zb (dL D i 2 = 0 ∧ dL D i 1 = x) by rw [zb_t ⟨zb_1 h22, h32⟩]]; exact go_locals _ rfl (ih (i + 1) _ (by omega)))
            | (rw [show a + 0 = a + zb (dL D i 2 = 0 ∧ dL D i 1 = x) by rw [zb_f (fun q => by first | exact zb_0 h22 q.1 | exact h32 q.2)]]; exact go_locals _ rfl (ih (i + 1) _ (by omega)))

set_option maxRecDepth 100000 in
set_option maxHeartbeats 4000000 in
theorem ct_X6_rungAt {l : Launch} {Γ : ZG} {w : ZW} {o : Nat} {S : MS} {D : ZD} (hI : Ix D) {x : Int32} : Cm l Γ mX6_rungAt 4 [.ref o, .int x] (wD Γ w o S D) (some (.int (rung D x))) (wD Γ w o S D) := by
  refine Cm.of (by decide) rfl (Nat.le_of_ble_eq_true rfl) ?_
  refine go_iconst 1 dX6_rungAt_0 zc_0 ?_
  refine go_istore_n 2 dX6_rungAt_1 (by decide) ?_
  refine go_iconst 3 dX6_rungAt_2 zc_0 ?_
  refine go_istore_n 4 dX6_rungAt_3 (by decide) ?_
  exact go_locals _ rfl (lp_X6_rungAt hI _ 0 0 (by omega))
end MRead
