section MMut
set_option maxRecDepth 100000 in
set_option maxHeartbeats 4000000 in
theorem ct_X6_adds {l : Launch} {Γ : ZG} {w : ZW} {o : Nat} {S : MS} {D : ZD} {t : Nat} {x : Int32} (hx : x = nI t) (ht : t < 7) : Cm l Γ mX6_adds 1 [.ref o, .int x] (wD Γ w o S D) (none) (wD Γ w o S (tally D t)) := by
  refine Cm.of (by decide) rfl (Nat.le_of_ble_eq_true rfl) ?_
  refine go_aload_n 1 dX6_adds_0 rfl ?_
  refine gd_get 4 dX6_adds_1 fX6_17 rfl ?_
  refine go_bipush 6 dX6_adds_4 zb_9 ?_
  refine go_iload_n 7 dX6_adds_6 rfl ?_
  refine go_iadd 8 dX6_adds_7 ?_
  refine go_dup2 9 dX6_adds_8 rfl rfl ?_
  refine gd_iald 10 (9 + t) dX6_adds_9 (by rw [hx]; exact ix2 9 t _ rfl) (by omega) ?_
  refine go_iconst 11 dX6_adds_10 zc_1 ?_
  refine go_iadd 12 dX6_adds_11 ?_
  refine gd_iast 13 (9 + t) dX6_adds_12 (by rw [hx]; exact ix2 9 t _ rfl) (by omega) ?_
  exact go_return dX6_adds_13 rfl (by omega) (by omega) (⟨rfl, rfl⟩)

set_option maxRecDepth 100000 in
set_option maxHeartbeats 4000000 in
theorem ct_X6_withoutOffers {l : Launch} {Γ : ZG} {w : ZW} {o : Nat} {S : MS} {D : ZD} {k : Nat} {x : Int32} (hx : x = nI k) (hk : k < 40) : Cm l Γ mX6_withoutOffers 2 [.ref o, .int x] (wD Γ w o S D) (none) (wD Γ w o S (dropD D k)) := by
  refine Cm.of (by decide) rfl (Nat.le_of_ble_eq_true rfl) ?_
  refine go_iload_n 1 dX6_withoutOffers_0 rfl ?_
  refine gcS1 4 dX6_withoutOffers_1 vX6_168 (ct_X6_legAt hx) ?_
  refine go_istore_n 5 dX6_withoutOffers_4 (by decide) ?_
  refine go_aload_n 6 dX6_withoutOffers_5 rfl ?_
  refine gd_get 9 dX6_withoutOffers_6 fX6_17 rfl ?_
  refine go_iload_n 10 dX6_withoutOffers_9 rfl ?_
  refine go_bipush 12 dX6_withoutOffers_10 zb_6 ?_
  refine go_iadd 13 dX6_withoutOffers_12 ?_
  refine go_iconst 14 dX6_withoutOffers_13 zc_m1 ?_
  refine gd_iast 15 (146 + 13 * k + 6) dX6_withoutOffers_14 (ix2 _ 6 _ rfl) (by omega) ?_
  refine go_aload_n 16 dX6_withoutOffers_15 rfl ?_
  refine gd_get 19 dX6_withoutOffers_16 fX6_17 rfl ?_
  refine go_iload_n 20 dX6_withoutOffers_19 rfl ?_
  refine go_bipush 22 dX6_withoutOffers_20 zb_9 ?_
  refine go_iadd 23 dX6_withoutOffers_22 ?_
  refine go_iconst 24 dX6_withoutOffers_23 zc_m1 ?_
  refine gd_iast 25 (146 + 13 * k + 9) dX6_withoutOffers_24 (ix2 _ 9 _ rfl) (by omega) ?_
  refine go_aload_n 26 dX6_withoutOffers_25 rfl ?_
  refine gd_get 29 dX6_withoutOffers_26 fX6_17 rfl ?_
  refine go_iload_n 30 dX6_withoutOffers_29 rfl ?_
  refine go_bipush 32 dX6_withoutOffers_30 zb_9 ?_
  refine go_iadd 33 dX6_withoutOffers_32 ?_
  refine go_iconst 34 dX6_withoutOffers_33 zc_1 ?_
  refine go_iadd 35 dX6_withoutOffers_34 ?_
  refine go_iconst 36 dX6_withoutOffers_35 zc_m1 ?_
  refine gd_iast 37 (146 + 13 * k + 10) dX6_withoutOffers_36 (ix3 _ 9 1 _ rfl) (by omega) ?_
  exact go_return dX6_withoutOffers_37 rfl (by omega) (by omega) (⟨rfl, rfl⟩)

set_option maxRecDepth 100000 in
set_option maxHeartbeats 4000000 in
theorem ct_X6_end {l : Launch} {Γ : ZG} {w : ZW} {o : Nat} {S : MS} {D : ZD} {k : Nat} {x r : Int32} (hx : x = nI k) (hk : k < 40) : Cm l Γ mX6_end 3 [.ref o, .int x, .int r] (wD Γ w o S D) (none) (wD Γ w o S (endD D k r)) := by
  refine Cm.of (by decide) rfl (Nat.le_of_ble_eq_true rfl) ?_
  refine go_aload_n 1 dX6_end_0 rfl ?_
  refine gd_get 4 dX6_end_1 fX6_17 rfl ?_
  refine go_iload_n 5 dX6_end_4 rfl ?_
  refine gcS1 8 dX6_end_5 vX6_168 (ct_X6_legAt hx) ?_
  refine go_iconst 9 dX6_end_8 zc_2 ?_
  refine go_iadd 10 dX6_end_9 ?_
  refine go_iconst 11 dX6_end_10 zc_3 ?_
  refine gd_iast 12 (146 + 13 * k + 2) dX6_end_11 (ix2 _ 2 _ rfl) (by omega) ?_
  refine go_aload_n 13 dX6_end_12 rfl ?_
  refine gd_get 16 dX6_end_13 fX6_17 rfl ?_
  refine go_iload_n 17 dX6_end_16 rfl ?_
  refine gcS1 20 dX6_end_17 vX6_168 (ct_X6_legAt hx) ?_
  refine go_iconst 21 dX6_end_20 zc_3 ?_
  refine go_iadd 22 dX6_end_21 ?_
  refine go_iload_n 23 dX6_end_22 rfl ?_
  refine gd_iast 24 (146 + 13 * k + 3) dX6_end_23 (ix2 _ 3 _ rfl) (by omega) ?_
  refine go_aload_n 25 dX6_end_24 rfl ?_
  refine go_iload_n 26 dX6_end_25 rfl ?_
  refine gdV1v 29 dX6_end_26 vX6_196 (ct_X6_withoutOffers hx hk) ?_
  exact go_return dX6_end_29 rfl (by omega) (by omega) (⟨rfl, rfl⟩)

set_option maxRecDepth 100000 in
set_option maxHeartbeats 4000000 in
theorem ct_X6_takeBack {l : Launch} {Γ : ZG} {w : ZW} {o : Nat} {S : MS} {D : ZD} (hI : Iv D) {c : Nat} {x : Int32} (hx : x = nI c) (hc : c < nC D) : Cm l Γ mX6_takeBack 4 [.ref o, .int x] (wD Γ w o S D) (none) (wD Γ w o S (takeB D c)) := by
  have hl40 : nL D ≤ 40 := hI.1.2.2.1.2
  have hc20 : nC D ≤ 20 := hI.1.2.1.2
  refine Cm.of (by decide) rfl (Nat.le_of_ble_eq_true rfl) ?_
  refine go_aload_n 1 dX6_takeBack_0 rfl ?_
  refine go_iload_n 2 dX6_takeBack_1 rfl ?_
  refine go_iconst 3 dX6_takeBack_2 zc_3 ?_
  refine gdV2 6 dX6_takeBack_3 vX6_174 (ct_X6_ofCall (j := 3) hx rfl (by omega)) ?_
  refine go_istore_n 7 dX6_takeBack_6 (by decide) ?_
  refine go_iload_n 8 dX6_takeBack_7 rfl ?_
  refine go_iconst 9 dX6_takeBack_8 zc_m1 ?_
  refine go_icmp_eq 33 12 dX6_takeBack_9 (fun h9 => ?_) (fun h9 => ?_)
  · exact go_return dX6_takeBack_33 rfl (by omega) (by omega) (⟨rfl, congrArg (wD Γ w o S) (by unfold takeB; first | rw [if_pos h9] | rw [if_neg h9, if_neg (zb_0 h18)] | (rw [if_neg h9, if_pos (zb_1 h18)]; rfl))⟩)
  · have hr := (hI.2.1 c hc).resolve_left h9
    refine go_aload_n 13 dX6_takeBack_12 rfl ?_
    refine go_iload_n 14 dX6_takeBack_13 rfl ?_
    refine go_iconst 15 dX6_takeBack_14 zc_2 ?_
    refine gdV2 18 dX6_takeBack_15 vX6_180 (ct_X6_is hr.1 (by omega)) ?_
    refine go_if_eq 33 21 dX6_takeBack_18 (fun h18 => ?_) (fun h18 => ?_)
    · exact go_return dX6_takeBack_33 rfl (by omega) (by omega) (⟨rfl, congrArg (wD Γ w o S) (by unfold takeB; first | rw [if_pos h9] | rw [if_neg h9, if_neg (zb_0 h18)] | (rw [if_neg h9, if_pos (zb_1 h18)]; rfl))⟩)
    · refine go_aload_n 22 dX6_takeBack_21 rfl ?_
      refine gd_get 25 dX6_takeBack_22 fX6_17 rfl ?_
      refine go_iload_n 26 dX6_takeBack_25 rfl ?_
      refine gcS1 29 dX6_takeBack_26 vX6_168 (ct_X6_legAt hr.1) ?_
      refine go_iconst 30 dX6_takeBack_29 zc_2 ?_
      refine go_iadd 31 dX6_takeBack_30 ?_
      refine go_iconst 32 dX6_takeBack_31 zc_1 ?_
      refine gd_iast 33 (146 + 13 * rf D c + 2) dX6_takeBack_32 (ix2 _ 2 _ rfl) (by omega) ?_
      exact go_return dX6_takeBack_33 rfl (by omega) (by omega) (⟨rfl, congrArg (wD Γ w o S) (by unfold takeB; first | rw [if_pos h9] | rw [if_neg h9, if_neg (zb_0 h18)] | (rw [if_neg h9, if_pos (zb_1 h18)]; rfl))⟩)

set_option maxRecDepth 100000 in
set_option maxHeartbeats 4000000 in
theorem ct_X6_failCall {l : Launch} {Γ : ZG} {w : ZW} {o : Nat} {S : MS} {D : ZD} (hI : Iv D) {c : Nat} {x : Int32} (hx : x = nI c) (hc : c < nC D) : Cm l Γ mX6_failCall 5 [.ref o, .int x] (wD Γ w o S D) (none) (wD Γ w o S (failD D c)) := by
  refine Cm.of (by decide) rfl (Nat.le_of_ble_eq_true rfl) ?_
  refine go_aload_n 1 dX6_failCall_0 rfl ?_
  refine go_iconst 2 dX6_failCall_1 zc_5 ?_
  refine gdV1v 5 dX6_failCall_2 vX6_199 (ct_X6_adds (t := 5) rfl (by decide)) ?_
  refine go_aload_n 6 dX6_failCall_5 rfl ?_
  refine go_iload_n 7 dX6_failCall_6 rfl ?_
  refine gdV1v 10 dX6_failCall_7 vX6_202 (ct_X6_takeBack (hI.same (sm_tally (t := 5) (by decide))) hx (by rw [sm_nC (sm_tally (D := D) (t := 5) (by decide))]; exact hc)) ?_
  exact go_return dX6_failCall_10 rfl (by omega) (by omega) (⟨rfl, rfl⟩)

set_option maxRecDepth 100000 in
set_option maxHeartbeats 4000000 in
theorem lp_X6_endAll {l : Launch} {Γ : ZG} {w : ZW} {o : Nat} {S : MS} {D : ZD} {x y z : Int32} (hI : Iv D) : ∀ (f i : Nat) (D' : ZD), i + f = nL D → Same D D' → Go l Γ mX6_endAll 4 0 0 (fun v w2 => v = none ∧ w2 = wD Γ w o S (itr (eaStep x y z) i f D')) zNo 0 0 (wD Γ w o S D') 3 [(0, .ref o), (1, .int x), (2, .int y), (3, .int z), (4, .int (nI i))] [] := by
  intro f
  induction f with
  | zero =>
    intro i D' hif hs
    have hl40 : nL D ≤ 40 := hI.1.2.2.1.2
    have hc20 : nC D ≤ 20 := hI.1.2.1.2
    have hI2 : Iv D' := hI.same hs
    have hN2 : nL D' = nL D := sm_nL hs
    have hC2 : nC D' = nC D := sm_nC hs
    refine go_iload 5 dX6_endAll_3 rfl ?_
    refine go_aload_n 6 dX6_endAll_5 rfl ?_
    refine gd_get 9 dX6_endAll_6 fX6_17 rfl ?_
    refine go_bipush 11 dX6_endAll_9 zb_6 ?_
    refine gd_iald 12 (6) dX6_endAll_11 rfl (by decide) ?_
    refine go_icmp_ge 55 15 dX6_endAll_12 (fun h12 => ?_) (fun h12 => ?_)
    · exact go_return dX6_endAll_55 rfl (by omega) (by omega) (⟨rfl, rfl⟩)
    · exact (lpE ((hs.low (by decide)).trans hI.1.2.2.1.1) (by omega) h12).elim
  | succ f ih =>
    intro i D' hif hs
    have hl40 : nL D ≤ 40 := hI.1.2.2.1.2
    have hc20 : nC D ≤ 20 := hI.1.2.1.2
    have hI2 : Iv D' := hI.same hs
    have hN2 : nL D' = nL D := sm_nL hs
    have hC2 : nC D' = nC D := sm_nC hs
    refine go_iload 5 dX6_endAll_3 rfl ?_
    refine go_aload_n 6 dX6_endAll_5 rfl ?_
    refine gd_get 9 dX6_endAll_6 fX6_17 rfl ?_
    refine go_bipush 11 dX6_endAll_9 zb_6 ?_
    refine gd_iald 12 (6) dX6_endAll_11 rfl (by decide) ?_
    refine go_icmp_ge 55 15 dX6_endAll_12 (fun h12 => ?_) (fun h12 => ?_)
    · exact (lpG ((hs.low (by decide)).trans hI.1.2.2.1.1) (by omega) (by omega) h12).elim
    · refine go_iload 17 dX6_endAll_15 rfl ?_
      refine go_iload_n 18 dX6_endAll_17 rfl ?_
      refine go_icmp_eq 49 21 dX6_endAll_18 (fun h18 => ?_) (fun h18 => ?_)
      · refine go_iinc 52 dX6_endAll_49 rfl (by decide) zc_1 ?_
        refine go_goto 3 dX6_endAll_52 ?_
        rw [nI_1]
        first
          | (rw [show itr (eaStep x y z) i (f + 1) D' = itr (eaStep x y z) (i + 1) f (D') from congrArg (itr (eaStep x y z) (i + 1) f) (by unfold eaStep; first | rw [if_pos h18] | rw [if_neg h18, if_neg h29] | rw [if_neg h18, if_pos h29, if_neg (zb_0 h39)])]; exact go_locals _ rfl (ih (i + 1) (D') (by omega) (hs)))
          | (rw [show itr (eaStep x y z) i (f + 1) D' = itr (eaStep x y z) (i + 1) f (endD D' i z) from congrArg (itr (eaStep x y z) (i + 1) f) (by unfold eaStep; rw [if_neg h18, if_pos h29, if_pos (zb_1 h39)])]; exact go_locals _ rfl (ih (i + 1) (endD D' i z) (by omega) (hs.trans sm_end_)))
      · refine go_aload_n 22 dX6_endAll_21 rfl ?_
        refine go_iload 24 dX6_endAll_22 rfl ?_
        refine go_iconst 25 dX6_endAll_24 zc_0 ?_
        refine gdV2 28 dX6_endAll_25 vX6_171 (ct_X6_ofLeg (j := 0) rfl rfl (by omega)) ?_
        refine go_iload_n 29 dX6_endAll_28 rfl ?_
        refine go_icmp_ne 49 32 dX6_endAll_29 (fun h29 => ?_) (fun h29 => ?_)
        · refine go_iinc 52 dX6_endAll_49 rfl (by decide) zc_1 ?_
          refine go_goto 3 dX6_endAll_52 ?_
          rw [nI_1]
          first
            | (rw [show itr (eaStep x y z) i (f + 1) D' = itr (eaStep x y z) (i + 1) f (D') from congrArg (itr (eaStep x y z) (i + 1) f) (by unfold eaStep; first | rw [if_pos h18] | rw [if_neg h18, if_neg h29] | rw [if_neg h18, if_pos h29, if_neg (zb_0 h39)])]; exact go_locals _ rfl (ih (i + 1) (D') (by omega) (hs)))
            | (rw [show itr (eaStep x y z) i (f + 1) D' = itr (eaStep x y z) (i + 1) f (endD D' i z) from congrArg (itr (eaStep x y z) (i + 1) f) (by unfold eaStep; rw [if_neg h18, if_pos h29, if_pos (zb_1 h39)])]; exact go_locals _ rfl (ih (i + 1) (endD D' i z) (by omega) (hs.trans sm_end_)))
        · refine go_aload_n 33 dX6_endAll_32 rfl ?_
          refine go_iload 35 dX6_endAll_33 rfl ?_
          refine go_iconst 36 dX6_endAll_35 zc_0 ?_
          refine gdV2 39 dX6_endAll_36 vX6_180 (ct_X6_is rfl (by omega)) ?_
          refine go_if_eq 49 42 dX6_endAll_39 (fun h39 => ?_) (fun h39 => ?_)
          · refine go_iinc 52 dX6_endAll_49 rfl (by decide) zc_1 ?_
            refine go_goto 3 dX6_endAll_52 ?_
            rw [nI_1]
            first
              | (rw [show itr (eaStep x y z) i (f + 1) D' = itr (eaStep x y z) (i + 1) f (D') from congrArg (itr (eaStep x y z) (i + 1) f) (by unfold eaStep; first | rw [if_pos h18] | rw [if_neg h18, if_neg h29] | rw [if_neg h18, if_pos h29, if_neg (zb_0 h39)])]; exact go_locals _ rfl (ih (i + 1) (D') (by omega) (hs)))
              | (rw [show itr (eaStep x y z) i (f + 1) D' = itr (eaStep x y z) (i + 1) f (endD D' i z) from congrArg (itr (eaStep x y z) (i + 1) f) (by unfold eaStep; rw [if_neg h18, if_pos h29, if_pos (zb_1 h39)])]; exact go_locals _ rfl (ih (i + 1) (endD D' i z) (by omega) (hs.trans sm_end_)))
          · refine go_aload_n 43 dX6_endAll_42 rfl ?_
            refine go_iload 45 dX6_endAll_43 rfl ?_
            refine go_iload_n 46 dX6_endAll_45 rfl ?_
            refine gdV2v 49 dX6_endAll_46 vX6_205 (ct_X6_end rfl (by omega)) ?_
            refine go_iinc 52 dX6_endAll_49 rfl (by decide) zc_1 ?_
            refine go_goto 3 dX6_endAll_52 ?_
            rw [nI_1]
            first
              | (rw [show itr (eaStep x y z) i (f + 1) D' = itr (eaStep x y z) (i + 1) f (D') from congrArg (itr (eaStep x y z) (i + 1) f) (by unfold eaStep; first | rw [if_pos h18] | rw [if_neg h18, if_neg h29] | rw [if_neg h18, if_pos h29, if_neg (zb_0 h39)])]; exact go_locals _ rfl (ih (i + 1) (D') (by omega) (hs)))
              | (rw [show itr (eaStep x y z) i (f + 1) D' = itr (eaStep x y z) (i + 1) f (endD D' i z) from congrArg (itr (eaStep x y z) (i + 1) f) (by unfold eaStep; rw [if_neg h18, if_pos h29, if_pos (zb_1 h39)])]; exact go_locals _ rfl (ih (i + 1) (endD D' i z) (by omega) (hs.trans sm_end_)))

set_option maxRecDepth 100000 in
set_option maxHeartbeats 4000000 in
theorem ct_X6_endAll {l : Launch} {Γ : ZG} {w : ZW} {o : Nat} {S : MS} {D : ZD} (hI : Iv D) {x y z : Int32} : Cm l Γ mX6_endAll 4 [.ref o, .int x, .int y, .int z] (wD Γ w o S D) (none) (wD Γ w o S (endAllD D x y z)) := by
  refine Cm.of (by decide) rfl (Nat.le_of_ble_eq_true rfl) ?_
  refine go_iconst 1 dX6_endAll_0 zc_0 ?_
  refine go_istore 3 dX6_endAll_1 (by decide) ?_
  exact go_locals _ rfl (lp_X6_endAll hI _ 0 D (by omega) sm_rf)

set_option maxRecDepth 100000 in
set_option maxHeartbeats 4000000 in
theorem lp2_X6_endAllTo {l : Launch} {Γ : ZG} {w : ZW} {o : Nat} {S : MS} {D : ZD} {x y : Int32} {t : Int64} (hI : Iv D) : ∀ (f i : Nat) (D' : ZD), i + f = nC D → Same D D' → Go l Γ mX6_endAllTo 6 0 0 (fun v w2 => v = none ∧ w2 = wD Γ w o S (itr (ftStep t) i f D')) zNo 0 0 (wD Γ w o S D') 69 [(0, .ref o), (1, .int x), (2, .int y), (3, .long t), (5, .int (nI i))] [] := by
  intro f
  induction f with
  | zero =>
    intro i D' hif hs
    have hl40 : nL D ≤ 40 := hI.1.2.2.1.2
    have hc20 : nC D ≤ 20 := hI.1.2.1.2
    have hI2 : Iv D' := hI.same hs
    have hN2 : nL D' = nL D := sm_nL hs
    have hC2 : nC D' = nC D := sm_nC hs
    refine go_iload 71 dX6_endAllTo_69 rfl ?_
    refine go_aload_n 72 dX6_endAllTo_71 rfl ?_
    refine gd_get 75 dX6_endAllTo_72 fX6_17 rfl ?_
    refine go_iconst 76 dX6_endAllTo_75 zc_5 ?_
    refine gd_iald 77 (5) dX6_endAllTo_76 rfl (by decide) ?_
    refine go_icmp_ge 112 80 dX6_endAllTo_77 (fun h77 => ?_) (fun h77 => ?_)
    · exact go_return dX6_endAllTo_112 rfl (by omega) (by omega) (⟨rfl, rfl⟩)
    · exact (lpE ((hs.low (by decide)).trans hI.1.2.1.1) (by omega) h77).elim
  | succ f ih =>
    intro i D' hif hs
    have hl40 : nL D ≤ 40 := hI.1.2.2.1.2
    have hc20 : nC D ≤ 20 := hI.1.2.1.2
    have hI2 : Iv D' := hI.same hs
    have hN2 : nL D' = nL D := sm_nL hs
    have hC2 : nC D' = nC D := sm_nC hs
    refine go_iload 71 dX6_endAllTo_69 rfl ?_
    refine go_aload_n 72 dX6_endAllTo_71 rfl ?_
    refine gd_get 75 dX6_endAllTo_72 fX6_17 rfl ?_
    refine go_iconst 76 dX6_endAllTo_75 zc_5 ?_
    refine gd_iald 77 (5) dX6_endAllTo_76 rfl (by decide) ?_
    refine go_icmp_ge 112 80 dX6_endAllTo_77 (fun h77 => ?_) (fun h77 => ?_)
    · exact (lpG ((hs.low (by decide)).trans hI.1.2.1.1) (by omega) (by omega) h77).elim
    · refine go_lload_n 81 dX6_endAllTo_80 rfl ?_
      refine go_iload 83 dX6_endAllTo_81 rfl ?_
      refine go_lshr 84 dX6_endAllTo_83 ?_
      refine go_lconst 85 dX6_endAllTo_84 zl_1 ?_
      refine go_land 86 dX6_endAllTo_85 ?_
      refine go_lconst 87 dX6_endAllTo_86 zl_1 ?_
      refine go_lcmp 88 dX6_endAllTo_87 ?_
      refine go_if_ne 106 91 dX6_endAllTo_88 (fun h88 => ?_) (fun h88 => ?_)
      · refine go_iinc 109 dX6_endAllTo_106 rfl (by decide) zc_1 ?_
        refine go_goto 69 dX6_endAllTo_109 ?_
        rw [nI_1]
        first
          | (rw [show itr (ftStep t) i (f + 1) D' = itr (ftStep t) (i + 1) f (D') from congrArg (itr (ftStep t) (i + 1) f) (by unfold ftStep; first | exact if_neg (fun q => h88 q.1) | exact if_neg (fun q => q.2 (zb_1 h97)))]; exact go_locals _ rfl (ih (i + 1) (D') (by omega) (hs)))
          | (rw [show itr (ftStep t) i (f + 1) D' = itr (ftStep t) (i + 1) f (failD D' i) from congrArg (itr (ftStep t) (i + 1) f) (by unfold ftStep; exact if_pos ⟨by first | exact h88 | exact Classical.not_not.mp h88, zb_0 (by first | exact h97 | exact Classical.not_not.mp h97)⟩)]; exact go_locals _ rfl (ih (i + 1) (failD D' i) (by omega) (hs.trans sm_fail)))
      · refine go_aload_n 92 dX6_endAllTo_91 rfl ?_
        refine go_iload 94 dX6_endAllTo_92 rfl ?_
        refine gdV1 97 dX6_endAllTo_94 vX6_187 (ct_X6_rings hI2.1) ?_
        refine go_if_ne 106 100 dX6_endAllTo_97 (fun h97 => ?_) (fun h97 => ?_)
        · refine go_iinc 109 dX6_endAllTo_106 rfl (by decide) zc_1 ?_
          refine go_goto 69 dX6_endAllTo_109 ?_
          rw [nI_1]
          first
            | (rw [show itr (ftStep t) i (f + 1) D' = itr (ftStep t) (i + 1) f (D') from congrArg (itr (ftStep t) (i + 1) f) (by unfold ftStep; first | exact if_neg (fun q => h88 q.1) | exact if_neg (fun q => q.2 (zb_1 h97)))]; exact go_locals _ rfl (ih (i + 1) (D') (by omega) (hs)))
            | (rw [show itr (ftStep t) i (f + 1) D' = itr (ftStep t) (i + 1) f (failD D' i) from congrArg (itr (ftStep t) (i + 1) f) (by unfold ftStep; exact if_pos ⟨by first | exact h88 | exact Classical.not_not.mp h88, zb_0 (by first | exact h97 | exact Classical.not_not.mp h97)⟩)]; exact go_locals _ rfl (ih (i + 1) (failD D' i) (by omega) (hs.trans sm_fail)))
        · refine go_aload_n 101 dX6_endAllTo_100 rfl ?_
          refine go_iload 103 dX6_endAllTo_101 rfl ?_
          refine gdV1v 106 dX6_endAllTo_103 vX6_208 (ct_X6_failCall hI2 rfl (by omega)) ?_
          refine go_iinc 109 dX6_endAllTo_106 rfl (by decide) zc_1 ?_
          refine go_goto 69 dX6_endAllTo_109 ?_
          rw [nI_1]
          first
            | (rw [show itr (ftStep t) i (f + 1) D' = itr (ftStep t) (i + 1) f (D') from congrArg (itr (ftStep t) (i + 1) f) (by unfold ftStep; first | exact if_neg (fun q => h88 q.1) | exact if_neg (fun q => q.2 (zb_1 h97)))]; exact go_locals _ rfl (ih (i + 1) (D') (by omega) (hs)))
            | (rw [show itr (ftStep t) i (f + 1) D' = itr (ftStep t) (i + 1) f (failD D' i) from congrArg (itr (ftStep t) (i + 1) f) (by unfold ftStep; exact if_pos ⟨by first | exact h88 | exact Classical.not_not.mp h88, zb_0 (by first | exact h97 | exact Classical.not_not.mp h97)⟩)]; exact go_locals _ rfl (ih (i + 1) (failD D' i) (by omega) (hs.trans sm_fail)))

set_option maxRecDepth 100000 in
set_option maxHeartbeats 4000000 in
theorem lp_X6_endAllTo {l : Launch} {Γ : ZG} {w : ZW} {o : Nat} {S : MS} {D : ZD} {x y : Int32} (hI : Iv D) : ∀ (f i : Nat) (t : Int64) (D' : ZD), i + f = nL D → Same D D' → Go l Γ mX6_endAllTo 6 0 0 (fun v w2 => v = none ∧ w2 = wD Γ w o S (itr (ftStep (itr (etStep x y) i f (D', t)).2) 0 (nC D) (itr (etStep x y) i f (D', t)).1)) zNo 0 0 (wD Γ w o S D') 5 [(0, .ref o), (1, .int x), (2, .int y), (3, .long t), (5, .int (nI i))] [] := by
  intro f
  induction f with
  | zero =>
    intro i t D' hif hs
    have hl40 : nL D ≤ 40 := hI.1.2.2.1.2
    have hc20 : nC D ≤ 20 := hI.1.2.1.2
    have hI2 : Iv D' := hI.same hs
    have hN2 : nL D' = nL D := sm_nL hs
    have hC2 : nC D' = nC D := sm_nC hs
    refine go_iload 7 dX6_endAllTo_5 rfl ?_
    refine go_aload_n 8 dX6_endAllTo_7 rfl ?_
    refine gd_get 11 dX6_endAllTo_8 fX6_17 rfl ?_
    refine go_bipush 13 dX6_endAllTo_11 zb_6 ?_
    refine gd_iald 14 (6) dX6_endAllTo_13 rfl (by decide) ?_
    refine go_icmp_ge 66 17 dX6_endAllTo_14 (fun h14 => ?_) (fun h14 => ?_)
    · refine go_iconst 67 dX6_endAllTo_66 zc_0 ?_
      refine go_istore 69 dX6_endAllTo_67 (by decide) ?_
      exact go_locals _ rfl (lp2_X6_endAllTo hI _ 0 D' (by omega) hs)
    · exact (lpE ((hs.low (by decide)).trans hI.1.2.2.1.1) (by omega) h14).elim
  | succ f ih =>
    intro i t D' hif hs
    have hl40 : nL D ≤ 40 := hI.1.2.2.1.2
    have hc20 : nC D ≤ 20 := hI.1.2.1.2
    have hI2 : Iv D' := hI.same hs
    have hN2 : nL D' = nL D := sm_nL hs
    have hC2 : nC D' = nC D := sm_nC hs
    refine go_iload 7 dX6_endAllTo_5 rfl ?_
    refine go_aload_n 8 dX6_endAllTo_7 rfl ?_
    refine gd_get 11 dX6_endAllTo_8 fX6_17 rfl ?_
    refine go_bipush 13 dX6_endAllTo_11 zb_6 ?_
    refine gd_iald 14 (6) dX6_endAllTo_13 rfl (by decide) ?_
    refine go_icmp_ge 66 17 dX6_endAllTo_14 (fun h14 => ?_) (fun h14 => ?_)
    · exact (lpG ((hs.low (by decide)).trans hI.1.2.2.1.1) (by omega) (by omega) h14).elim
    · refine go_aload_n 18 dX6_endAllTo_17 rfl ?_
      refine go_iload 20 dX6_endAllTo_18 rfl ?_
      refine go_iconst 21 dX6_endAllTo_20 zc_1 ?_
      refine gdV2 24 dX6_endAllTo_21 vX6_171 (ct_X6_ofLeg (j := 1) rfl rfl (by omega)) ?_
      refine go_iload_n 25 dX6_endAllTo_24 rfl ?_
      refine go_icmp_ne 60 28 dX6_endAllTo_25 (fun h25 => ?_) (fun h25 => ?_)
      · refine go_iinc 63 dX6_endAllTo_60 rfl (by decide) zc_1 ?_
        refine go_goto 5 dX6_endAllTo_63 ?_
        rw [nI_1]
        first
          | (rw [show itr (etStep x y) i (f + 1) (D', t) = itr (etStep x y) (i + 1) f (D', t) from congrArg (itr (etStep x y) (i + 1) f) (by unfold etStep; first | rw [if_neg h25] | rw [if_pos h25, if_neg (zb_0 h35)])]; exact go_locals _ rfl (ih (i + 1) (t) (D') (by omega) (hs)))
          | (rw [show itr (etStep x y) i (f + 1) (D', t) = itr (etStep x y) (i + 1) f (endD D' i y, t ||| ((1 : Int64) <<< ((dL (endD D' i y) i 0).toInt64 &&& 63))) from congrArg (itr (etStep x y) (i + 1) f) (by unfold etStep; rw [if_pos h25, if_pos (zb_1 h35)])]; exact go_locals _ rfl (ih (i + 1) (t ||| ((1 : Int64) <<< ((dL (endD D' i y) i 0).toInt64 &&& 63))) (endD D' i y) (by omega) (hs.trans sm_end_)))
      · refine go_aload_n 29 dX6_endAllTo_28 rfl ?_
        refine go_iload 31 dX6_endAllTo_29 rfl ?_
        refine go_iconst 32 dX6_endAllTo_31 zc_0 ?_
        refine gdV2 35 dX6_endAllTo_32 vX6_180 (ct_X6_is rfl (by omega)) ?_
        refine go_if_ne 41 38 dX6_endAllTo_35 (fun h35 => ?_) (fun h35 => ?_)
        · refine go_aload_n 42 dX6_endAllTo_41 rfl ?_
          refine go_iload 44 dX6_endAllTo_42 rfl ?_
          refine go_iload_n 45 dX6_endAllTo_44 rfl ?_
          refine gdV2v 48 dX6_endAllTo_45 vX6_205 (ct_X6_end rfl (by omega)) ?_
          refine go_lload_n 49 dX6_endAllTo_48 rfl ?_
          refine go_lconst 50 dX6_endAllTo_49 zl_1 ?_
          refine go_aload_n 51 dX6_endAllTo_50 rfl ?_
          refine go_iload 53 dX6_endAllTo_51 rfl ?_
          refine go_iconst 54 dX6_endAllTo_53 zc_0 ?_
          refine gdV2 57 dX6_endAllTo_54 vX6_171 (ct_X6_ofLeg (j := 0) rfl rfl (by omega)) ?_
          refine go_lshl 58 dX6_endAllTo_57 ?_
          refine go_lor 59 dX6_endAllTo_58 ?_
          refine go_lstore_n 60 dX6_endAllTo_59 (by decide) ?_
          refine go_iinc 63 dX6_endAllTo_60 rfl (by decide) zc_1 ?_
          refine go_goto 5 dX6_endAllTo_63 ?_
          rw [nI_1]
          first
            | (rw [show itr (etStep x y) i (f + 1) (D', t) = itr (etStep x y) (i + 1) f (D', t) from congrArg (itr (etStep x y) (i + 1) f) (by unfold etStep; first | rw [if_neg h25] | rw [if_pos h25, if_neg (zb_0 h35)])]; exact go_locals _ rfl (ih (i + 1) (t) (D') (by omega) (hs)))
            | (rw [show itr (etStep x y) i (f + 1) (D', t) = itr (etStep x y) (i + 1) f (endD D' i y, t ||| ((1 : Int64) <<< ((dL (endD D' i y) i 0).toInt64 &&& 63))) from congrArg (itr (etStep x y) (i + 1) f) (by unfold etStep; rw [if_pos h25, if_pos (zb_1 h35)])]; exact go_locals _ rfl (ih (i + 1) (t ||| ((1 : Int64) <<< ((dL (endD D' i y) i 0).toInt64 &&& 63))) (endD D' i y) (by omega) (hs.trans sm_end_)))
        · refine go_goto 60 dX6_endAllTo_38 ?_
          refine go_iinc 63 dX6_endAllTo_60 rfl (by decide) zc_1 ?_
          refine go_goto 5 dX6_endAllTo_63 ?_
          rw [nI_1]
          first
            | (rw [show itr (etStep x y) i (f + 1) (D', t) = itr (etStep x y) (i + 1) f (D', t) from congrArg (itr (etStep x y) (i + 1) f) (by unfold etStep; first | rw [if_neg h25] | rw [if_pos h25, if_neg (zb_0 h35)])]; exact go_locals _ rfl (ih (i + 1) (t) (D') (by omega) (hs)))
            | (rw [show itr (etStep x y) i (f + 1) (D', t) = itr (etStep x y) (i + 1) f (endD D' i y, t ||| ((1 : Int64) <<< ((dL (endD D' i y) i 0).toInt64 &&& 63))) from congrArg (itr (etStep x y) (i + 1) f) (by unfold etStep; rw [if_pos h25, if_pos (zb_1 h35)])]; exact go_locals _ rfl (ih (i + 1) (t ||| ((1 : Int64) <<< ((dL (endD D' i y) i 0).toInt64 &&& 63))) (endD D' i y) (by omega) (hs.trans sm_end_)))

set_option maxRecDepth 100000 in
set_option maxHeartbeats 4000000 in
theorem ct_X6_endAllTo {l : Launch} {Γ : ZG} {w : ZW} {o : Nat} {S : MS} {D : ZD} (hI : Iv D) {x y : Int32} : Cm l Γ mX6_endAllTo 6 [.ref o, .int x, .int y] (wD Γ w o S D) (none) (wD Γ w o S (endToD D x y)) := by
  refine Cm.of (by decide) rfl (Nat.le_of_ble_eq_true rfl) ?_
  refine go_lconst 1 dX6_endAllTo_0 zl_0 ?_
  refine go_lstore_n 2 dX6_endAllTo_1 (by decide) ?_
  refine go_iconst 3 dX6_endAllTo_2 zc_0 ?_
  refine go_istore 5 dX6_endAllTo_3 (by decide) ?_
  exact go_locals _ rfl (lp_X6_endAllTo hI _ 0 0 D (by omega) sm_rf)

set_option maxRecDepth 100000 in
set_option maxHeartbeats 4000000 in
theorem ct_X6_answer {l : Launch} {Γ : ZG} {w : ZW} {o : Nat} {S : MS} {D : ZD} (hI : Iv D) {k : Nat} {x : Int32} (hx : x = nI k) (hk : k < nL D) : Cm l Γ mX6_answer 7 [.ref o, .int x] (wD Γ w o S D) (none) (wD Γ w o S (ansD D k)) := by
  subst hx
  have hl40 : nL D ≤ 40 := hI.1.2.2.1.2
  have hc20 : nC D ≤ 20 := hI.1.2.1.2
  have ho := hI.1.2.2.2 k hk
  have h20 : ofN D k < 20 := by omega
  refine Cm.of (by decide) rfl (Nat.le_of_ble_eq_true rfl) ?_
  refine go_aload_n 1 dX6_answer_0 rfl ?_
  refine go_iload_n 2 dX6_answer_1 rfl ?_
  refine go_iconst 3 dX6_answer_2 zc_0 ?_
  refine gdV2 6 dX6_answer_3 vX6_171 (ct_X6_ofLeg (j := 0) rfl rfl (by omega)) ?_
  refine go_istore_n 7 dX6_answer_6 (by decide) ?_
  refine go_aload_n 8 dX6_answer_7 rfl ?_
  refine go_iload_n 9 dX6_answer_8 rfl ?_
  refine go_iconst 10 dX6_answer_9 zc_3 ?_
  refine gdV2 13 dX6_answer_10 vX6_174 (ct_X6_ofCall (j := 3) ho.1 rfl (by omega)) ?_
  refine go_istore_n 14 dX6_answer_13 (by decide) ?_
  refine go_aload_n 15 dX6_answer_14 rfl ?_
  refine gd_get 18 dX6_answer_15 fX6_17 rfl ?_
  refine go_iload_n 19 dX6_answer_18 rfl ?_
  refine gcS1 22 dX6_answer_19 vX6_168 (ct_X6_legAt rfl) ?_
  refine go_iconst 23 dX6_answer_22 zc_2 ?_
  refine go_iadd 24 dX6_answer_23 ?_
  refine go_iconst 25 dX6_answer_24 zc_1 ?_
  refine gd_iast 26 (146 + 13 * k + 2) dX6_answer_25 (ix2 _ 2 _ rfl) (by omega) ?_
  refine go_aload_n 27 dX6_answer_26 rfl ?_
  refine gd_get 30 dX6_answer_27 fX6_17 rfl ?_
  refine go_iload_n 31 dX6_answer_30 rfl ?_
  refine gcS1 34 dX6_answer_31 vX6_165 (ct_X6_callAt ho.1) ?_
  refine go_iconst 35 dX6_answer_34 zc_4 ?_
  refine go_iadd 36 dX6_answer_35 ?_
  refine go_iload_n 37 dX6_answer_36 rfl ?_
  refine gd_iast 38 (46 + 5 * ofN D k + 4) dX6_answer_37 (ix2 _ 4 _ rfl) (by omega) ?_
  refine go_aload_n 39 dX6_answer_38 rfl ?_
  refine go_iconst 40 dX6_answer_39 zc_4 ?_
  refine gdV1v 43 dX6_answer_40 vX6_199 (ct_X6_adds (t := 4) rfl (by decide)) ?_
  refine go_aload_n 44 dX6_answer_43 rfl ?_
  refine go_iload_n 45 dX6_answer_44 rfl ?_
  refine go_iload_n 46 dX6_answer_45 rfl ?_
  refine go_iconst 47 dX6_answer_46 zc_2 ?_
  refine gdV3v 50 dX6_answer_47 vX6_211 (ct_X6_endAll (D := ans3 D k) (hI.same (sm_ans3 h20))) ?_
  refine go_aload_n 51 dX6_answer_50 rfl ?_
  refine go_aload_n 52 dX6_answer_51 rfl ?_
  refine go_iload_n 53 dX6_answer_52 rfl ?_
  refine go_iconst 54 dX6_answer_53 zc_1 ?_
  refine gdV2 57 dX6_answer_54 vX6_171 (ct_X6_ofLeg (D := ans4 D k) (j := 1) rfl rfl (by omega)) ?_
  refine go_iconst 58 dX6_answer_57 zc_1 ?_
  refine gdV2v 61 dX6_answer_58 vX6_215 (ct_X6_endAllTo (D := ans4 D k) (hI.same (sm_ans4 h20))) ?_
  refine go_iload_n 62 dX6_answer_61 rfl ?_
  refine go_iconst 63 dX6_answer_62 zc_m1 ?_
  refine go_icmp_eq 75 66 dX6_answer_63 (fun h63 => ?_) (fun h63 => ?_)
  · exact go_return dX6_answer_75 rfl (by omega) (by omega) (⟨rfl, congrArg (wD Γ w o S) (by unfold ansD; first | exact (if_pos h63).symm | exact ((if_neg h63).trans (if_neg (zb_0 h72))).symm | exact ((if_neg h63).trans (if_pos (zb_1 h72))).symm)⟩)
  · have hr := (hI.2.1 _ ho.2).resolve_left h63
    refine go_aload_n 67 dX6_answer_66 rfl ?_
    refine go_iload_n 68 dX6_answer_67 rfl ?_
    refine go_iconst 69 dX6_answer_68 zc_2 ?_
    refine gdV2 72 dX6_answer_69 vX6_180 (ct_X6_is hr.1 (by omega)) ?_
    refine go_if_ne 76 75 dX6_answer_72 (fun h72 => ?_) (fun h72 => ?_)
    · refine go_aload_n 77 dX6_answer_76 rfl ?_
      refine go_iload_n 78 dX6_answer_77 rfl ?_
      refine go_bipush 80 dX6_answer_78 zb_7 ?_
      refine gdV2v 83 dX6_answer_80 vX6_205 (ct_X6_end hr.1 (by omega)) ?_
      refine go_aload_n 84 dX6_answer_83 rfl ?_
      refine go_bipush 86 dX6_answer_84 zb_6 ?_
      refine gdV1v 89 dX6_answer_86 vX6_199 (ct_X6_adds (t := 6) rfl (by decide)) ?_
      exact go_return dX6_answer_89 rfl (by omega) (by omega) (⟨rfl, congrArg (wD Γ w o S) (by unfold ansD; first | exact (if_pos h63).symm | exact ((if_neg h63).trans (if_neg (zb_0 h72))).symm | exact ((if_neg h63).trans (if_pos (zb_1 h72))).symm)⟩)
    · exact go_return dX6_answer_75 rfl (by omega) (by omega) (⟨rfl, congrArg (wD Γ w o S) (by unfold ansD; first | exact (if_pos h63).symm | exact ((if_neg h63).trans (if_neg (zb_0 h72))).symm | exact ((if_neg h63).trans (if_pos (zb_1 h72))).symm)⟩)

set_option maxRecDepth 100000 in
set_option maxHeartbeats 4000000 in
theorem ct_X6_partyOn {l : Launch} {Γ : ZG} {w : ZW} {o : Nat} {S : MS} {D : ZD} (hI : Ix D) {k : Nat} {x y : Int32} (hx : x = nI k) (hk : k < nL D) : Cm l Γ mX6_partyOn 4 [.ref o, .int x, .int y] (wD Γ w o S D) (some (.int (if y = 0 then clr D k else dL D k 1))) (wD Γ w o S D) := by
  have hl40 : nL D ≤ 40 := hI.2.2.1.2
  have hc20 : nC D ≤ 20 := hI.2.1.2
  refine Cm.of (by decide) rfl (Nat.le_of_ble_eq_true rfl) ?_
  refine go_iload_n 1 dX6_partyOn_0 rfl ?_
  refine go_if_ne 12 4 dX6_partyOn_1 (fun h1 => ?_) (fun h1 => ?_)
  · refine go_aload_n 13 dX6_partyOn_12 rfl ?_
    refine go_iload_n 14 dX6_partyOn_13 rfl ?_
    refine go_iconst 15 dX6_partyOn_14 zc_1 ?_
    refine gdV2 18 dX6_partyOn_15 vX6_171 (ct_X6_ofLeg (j := 1) hx rfl (by omega)) ?_
    exact go_ireturn dX6_partyOn_18 rfl (by omega) (by omega) (⟨by first | rw [if_pos h1] | rw [if_neg h1], rfl⟩)
  · refine go_aload_n 5 dX6_partyOn_4 rfl ?_
    refine go_iload_n 6 dX6_partyOn_5 rfl ?_
    refine gdV1 9 dX6_partyOn_6 vX6_177 (ct_X6_callerOf hI hx hk) ?_
    refine go_goto 18 dX6_partyOn_9 ?_
    exact go_ireturn dX6_partyOn_18 rfl (by omega) (by omega) (⟨by first | rw [if_pos h1] | rw [if_neg h1], rfl⟩)

set_option maxRecDepth 100000 in
set_option maxHeartbeats 4000000 in
theorem ct_X6_layOffer {l : Launch} {Γ : ZG} {w : ZW} {o : Nat} {S : MS} {D : ZD} {k : Nat} {x y z : Int32} (hx : x = nI k) (hk : k < 40) : Cm l Γ mX6_layOffer 2 [.ref o, .int x, .int y, .int z] (wD Γ w o S D) (none) (wD Γ w o S (layD D k y z)) := by
  refine Cm.of (by decide) rfl (Nat.le_of_ble_eq_true rfl) ?_
  refine go_iload_n 1 dX6_layOffer_0 rfl ?_
  refine gcS1 4 dX6_layOffer_1 vX6_168 (ct_X6_legAt hx) ?_
  refine go_istore 6 dX6_layOffer_4 (by decide) ?_
  refine go_aload_n 7 dX6_layOffer_6 rfl ?_
  refine gd_get 10 dX6_layOffer_7 fX6_17 rfl ?_
  refine go_iload 12 dX6_layOffer_10 rfl ?_
  refine go_bipush 14 dX6_layOffer_12 zb_6 ?_
  refine go_iadd 15 dX6_layOffer_14 ?_
  refine go_iload_n 16 dX6_layOffer_15 rfl ?_
  refine gd_iast 17 (146 + 13 * k + 6) dX6_layOffer_16 (ix2 _ 6 _ rfl) (by omega) ?_
  refine go_aload_n 18 dX6_layOffer_17 rfl ?_
  refine gd_get 21 dX6_layOffer_18 fX6_17 rfl ?_
  refine go_iload 23 dX6_layOffer_21 rfl ?_
  refine go_bipush 25 dX6_layOffer_23 zb_7 ?_
  refine go_iadd 26 dX6_layOffer_25 ?_
  refine go_iload_n 27 dX6_layOffer_26 rfl ?_
  refine gd_iast 28 (146 + 13 * k + 7) dX6_layOffer_27 (ix2 _ 7 _ rfl) (by omega) ?_
  refine go_aload_n 29 dX6_layOffer_28 rfl ?_
  refine gd_get 32 dX6_layOffer_29 fX6_17 rfl ?_
  refine go_iload 34 dX6_layOffer_32 rfl ?_
  refine go_bipush 36 dX6_layOffer_34 zb_8 ?_
  refine go_iadd 37 dX6_layOffer_36 ?_
  refine go_aload_n 38 dX6_layOffer_37 rfl ?_
  refine gd_get 41 dX6_layOffer_38 fX6_17 rfl ?_
  refine go_iconst 42 dX6_layOffer_41 zc_0 ?_
  refine gd_iald 43 (0) dX6_layOffer_42 rfl (by decide) ?_
  refine gd_iast 44 (146 + 13 * k + 8) dX6_layOffer_43 (ix2 _ 8 _ rfl) (by omega) ?_
  exact go_return dX6_layOffer_44 rfl (by omega) (by omega) (⟨rfl, rfl⟩)

set_option maxRecDepth 100000 in
set_option maxHeartbeats 4000000 in
theorem ct_X6_repeat {l : Launch} {Γ : ZG} {w : ZW} {o : Nat} {S : MS} {D : ZD} {k s : Nat} {x y : Int32} (hx : x = nI k) (hy : y = nI s) (hk : k < 40) (hs : s < 2) : Cm l Γ mX6_repeat 3 [.ref o, .int x, .int y] (wD Γ w o S D) (none) (wD Γ w o S (repD D k s)) := by
  subst hx
  subst hy
  refine Cm.of (by decide) rfl (Nat.le_of_ble_eq_true rfl) ?_
  refine go_iload_n 1 dX6_repeat_0 rfl ?_
  refine gcS1 4 dX6_repeat_1 vX6_168 (ct_X6_legAt rfl) ?_
  refine go_istore_n 5 dX6_repeat_4 (by decide) ?_
  refine go_aload_n 6 dX6_repeat_5 rfl ?_
  refine gd_get 9 dX6_repeat_6 fX6_17 rfl ?_
  refine go_iload_n 10 dX6_repeat_9 rfl ?_
  refine go_bipush 12 dX6_repeat_10 zb_9 ?_
  refine go_iadd 13 dX6_repeat_12 ?_
  refine go_iload_n 14 dX6_repeat_13 rfl ?_
  refine go_iadd 15 dX6_repeat_14 ?_
  refine gd_iald 16 (146 + 13 * k + (9 + s)) dX6_repeat_15 (ix3 _ 9 s _ (by omega)) (by omega) ?_
  refine go_aload_n 17 dX6_repeat_16 rfl ?_
  refine gd_get 20 dX6_repeat_17 fX6_17 rfl ?_
  refine go_iconst 21 dX6_repeat_20 zc_0 ?_
  refine gd_iald 22 (0) dX6_repeat_21 rfl (by decide) ?_
  refine go_icmp_eq 26 25 dX6_repeat_22 (fun h22 => ?_) (fun h22 => ?_)
  · refine go_aload_n 27 dX6_repeat_26 rfl ?_
    refine gd_get 30 dX6_repeat_27 fX6_17 rfl ?_
    refine go_iload_n 31 dX6_repeat_30 rfl ?_
    refine go_bipush 33 dX6_repeat_31 zb_9 ?_
    refine go_iadd 34 dX6_repeat_33 ?_
    refine go_iload_n 35 dX6_repeat_34 rfl ?_
    refine go_iadd 36 dX6_repeat_35 ?_
    refine go_iconst 37 dX6_repeat_36 zc_m1 ?_
    refine gd_iast 38 (146 + 13 * k + (9 + s)) dX6_repeat_37 (ix3 _ 9 s _ (by omega)) (by omega) ?_
    refine go_aload_n 39 dX6_repeat_38 rfl ?_
    refine gd_get 42 dX6_repeat_39 fX6_17 rfl ?_
    refine go_iload_n 43 dX6_repeat_42 rfl ?_
    refine go_bipush 45 dX6_repeat_43 zb_6 ?_
    refine go_iadd 46 dX6_repeat_45 ?_
    refine gd_iald 47 (146 + 13 * k + 6) dX6_repeat_46 (ix2 _ 6 _ rfl) (by omega) ?_
    refine go_iconst 48 dX6_repeat_47 zc_m1 ?_
    refine go_icmp_eq 57 51 dX6_repeat_48 (fun h48 => ?_) (fun h48 => ?_)
    · refine go_aload_n 58 dX6_repeat_57 rfl ?_
      refine go_iload_n 59 dX6_repeat_58 rfl ?_
      refine go_iload_n 60 dX6_repeat_59 rfl ?_
      refine go_aload_n 61 dX6_repeat_60 rfl ?_
      refine gd_get 64 dX6_repeat_61 fX6_17 rfl ?_
      refine go_iload_n 65 dX6_repeat_64 rfl ?_
      refine go_bipush 67 dX6_repeat_65 zb_11 ?_
      refine go_iadd 68 dX6_repeat_67 ?_
      refine go_iload_n 69 dX6_repeat_68 rfl ?_
      refine go_iadd 70 dX6_repeat_69 ?_
      refine gd_iald 71 (146 + 13 * k + (11 + s)) dX6_repeat_70 (ix3 _ 11 s _ (by omega)) (by omega) ?_
      refine gdV3v 74 dX6_repeat_71 vX6_244 (ct_X6_layOffer rfl hk) ?_
      exact go_return dX6_repeat_74 rfl (by omega) (by omega) (⟨rfl, congrArg (wD Γ w o S) (by unfold repD; first | exact (if_neg h22).symm | exact ((if_pos h22).trans (if_pos h48)).symm | exact ((if_pos h22).trans (if_neg h48)).symm)⟩)
    · refine go_aload_n 52 dX6_repeat_51 rfl ?_
      refine go_iconst 53 dX6_repeat_52 zc_3 ?_
      refine gdV1v 56 dX6_repeat_53 vX6_199 (ct_X6_adds (t := 3) rfl (by decide)) ?_
      exact go_return dX6_repeat_56 rfl (by omega) (by omega) (⟨rfl, congrArg (wD Γ w o S) (by unfold repD; first | exact (if_neg h22).symm | exact ((if_pos h22).trans (if_pos h48)).symm | exact ((if_pos h22).trans (if_neg h48)).symm)⟩)
  · exact go_return dX6_repeat_25 rfl (by omega) (by omega) (⟨rfl, congrArg (wD Γ w o S) (by unfold repD; first | exact (if_neg h22).symm | exact ((if_pos h22).trans (if_pos h48)).symm | exact ((if_pos h22).trans (if_neg h48)).symm)⟩)

set_option maxRecDepth 100000 in
set_option maxHeartbeats 4000000 in
theorem ct_X6_reply {l : Launch} {Γ : ZG} {w : ZW} {o : Nat} {S : MS} {D : ZD} (hI : Iv D) {k : Nat} {x : Int32} (hx : x = nI k) (hk : k < nL D) : Cm l Γ mX6_reply 5 [.ref o, .int x] (wD Γ w o S D) (none) (wD Γ w o S (replD D k)) := by
  subst hx
  have hl40 : nL D ≤ 40 := hI.1.2.2.1.2
  have hc20 : nC D ≤ 20 := hI.1.2.1.2
  have ho := hI.1.2.2.2 k hk
  have hoth := othr_ok hI hk
  refine Cm.of (by decide) rfl (Nat.le_of_ble_eq_true rfl) ?_
  refine go_iload_n 1 dX6_reply_0 rfl ?_
  refine gcS1 4 dX6_reply_1 vX6_168 (ct_X6_legAt rfl) ?_
  refine go_istore_n 5 dX6_reply_4 (by decide) ?_
  refine go_aload_n 6 dX6_reply_5 rfl ?_
  refine gd_get 9 dX6_reply_6 fX6_17 rfl ?_
  refine go_iload_n 10 dX6_reply_9 rfl ?_
  refine go_bipush 12 dX6_reply_10 zb_6 ?_
  refine go_iadd 13 dX6_reply_12 ?_
  refine gd_iald 14 (146 + 13 * k + 6) dX6_reply_13 (ix2 _ 6 _ rfl) (by omega) ?_
  refine go_iconst 15 dX6_reply_14 zc_m1 ?_
  refine go_icmp_ne 19 18 dX6_reply_15 (fun h15 => ?_) (fun h15 => ?_)
  · refine go_aload_n 20 dX6_reply_19 rfl ?_
    refine go_iload_n 21 dX6_reply_20 rfl ?_
    refine go_iconst 22 dX6_reply_21 zc_1 ?_
    refine go_aload_n 23 dX6_reply_22 rfl ?_
    refine gd_get 26 dX6_reply_23 fX6_17 rfl ?_
    refine go_iload_n 27 dX6_reply_26 rfl ?_
    refine go_bipush 29 dX6_reply_27 zb_6 ?_
    refine go_iadd 30 dX6_reply_29 ?_
    refine gd_iald 31 (146 + 13 * k + 6) dX6_reply_30 (ix2 _ 6 _ rfl) (by omega) ?_
    refine go_isub 32 dX6_reply_31 ?_
    refine gdV2 35 dX6_reply_32 vX6_247 (ct_X6_partyOn hI.1 rfl hk) ?_
    refine go_istore_n 36 dX6_reply_35 (by decide) ?_
    refine go_aload_n 37 dX6_reply_36 rfl ?_
    refine go_iload_n 38 dX6_reply_37 rfl ?_
    refine go_iconst 39 dX6_reply_38 zc_1 ?_
    refine gdV2 42 dX6_reply_39 vX6_250 (ct_X6_ofParty (j := 1) hoth.1 rfl (by omega)) ?_
    refine go_istore 44 dX6_reply_42 (by decide) ?_
    refine go_aload_n 45 dX6_reply_44 rfl ?_
    refine gd_get 48 dX6_reply_45 fX6_17 rfl ?_
    refine go_iconst 49 dX6_reply_48 zc_0 ?_
    refine gd_iald 50 (0) dX6_reply_49 rfl (by decide) ?_
    refine go_aload_n 51 dX6_reply_50 rfl ?_
    refine gd_get 54 dX6_reply_51 fX6_17 rfl ?_
    refine go_iload_n 55 dX6_reply_54 rfl ?_
    refine go_bipush 57 dX6_reply_55 zb_8 ?_
    refine go_iadd 58 dX6_reply_57 ?_
    refine gd_iald 59 (146 + 13 * k + 8) dX6_reply_58 (ix2 _ 8 _ rfl) (by omega) ?_
    refine go_isub 60 dX6_reply_59 ?_
    refine go_istore 62 dX6_reply_60 (by decide) ?_
    refine go_iload 64 dX6_reply_62 rfl ?_
    refine go_if_le 78 67 dX6_reply_64 (fun h64 => ?_) (fun h64 => ?_)
    · have hnr : ¬ replied D k := fun q => by first | exact h71 q.2 | exact Int32.not_le.mpr q.1 h64
      refine go_iconst 79 dX6_reply_78 zc_0 ?_
      refine go_istore 81 dX6_reply_79 (by decide) ?_
      refine go_iload 83 dX6_reply_81 rfl ?_
      refine go_if_ne 98 86 dX6_reply_83 (fun h83 => ?_) (fun h83 => ?_)
      · exact absurd h83 (by decide)
      · refine go_iload 88 dX6_reply_86 rfl ?_
        refine go_aload_n 89 dX6_reply_88 rfl ?_
        refine gd_get 92 dX6_reply_89 fX6_17 rfl ?_
        refine go_iconst 93 dX6_reply_92 zc_3 ?_
        refine gd_iald 94 (3) dX6_reply_93 rfl (by decide) ?_
        refine go_icmp_ge 98 97 dX6_reply_94 (fun h94 => ?_) (fun h94 => ?_)
        · refine go_aload_n 99 dX6_reply_98 rfl ?_
          refine gd_get 102 dX6_reply_99 fX6_17 rfl ?_
          refine go_iload_n 103 dX6_reply_102 rfl ?_
          refine go_bipush 105 dX6_reply_103 zb_6 ?_
          refine go_iadd 106 dX6_reply_105 ?_
          refine go_iconst 107 dX6_reply_106 zc_m1 ?_
          refine gd_iast 108 (146 + 13 * k + 6) dX6_reply_107 (ix2 _ 6 _ rfl) (by omega) ?_
          refine go_iload 110 dX6_reply_108 rfl ?_
          refine go_if_eq 131 113 dX6_reply_110 (fun h110 => ?_) (fun h110 => ?_)
          · refine go_aload_n 132 dX6_reply_131 rfl ?_
            refine go_iconst 133 dX6_reply_132 zc_1 ?_
            refine gdV1v 136 dX6_reply_133 vX6_199 (ct_X6_adds (t := 1) rfl (by decide)) ?_
            exact go_return dX6_reply_136 rfl (by omega) (by omega) (⟨rfl, congrArg (wD Γ w o S) (by
                  unfold replD
                  first
                    | exact (if_pos h15).symm
                    | exact ((if_neg h15).trans (if_pos ⟨hnr, Int32.not_le.mp h94⟩)).symm
                    | exact ((if_neg h15).trans ((if_neg (fun q => h94 (Int32.not_le.mp q.2))).trans (if_neg (fun q => hnr q.1)))).symm
                    | exact ((if_neg h15).trans ((if_neg (fun q => Int32.not_le.mpr q.2 h94)).trans (if_neg (fun q => hnr q.1)))).symm
                    | exact ((if_neg h15).trans ((if_neg (fun q => q.1 hyr)).trans (if_neg (fun q => h128 (by show dL (setL D k 6 (-1)) k 7 ≤ dP (setL D k 6 (-1)) (othr D k) 2; rw [dL_setLn (by omega), dP_setL (by omega) (by decide)]; exact q.2))))).symm
                    | (refine Eq.trans ?_ ((if_neg h15).trans ((if_neg (fun q => q.1 hyr)).trans (if_pos ⟨hyr, by have h9 : dL (setL D k 6 (-1)) k 7 ≤ dP (setL D k 6 (-1)) (othr D k) 2 := h128; rw [dL_setLn (by omega), dP_setL (by omega) (by decide)] at h9; exact h9⟩))).symm
                       show tally (setL (setL (setL D k 6 (-1)) k 4 (dL (setL D k 6 (-1)) k 7)) k 5 (dL (setL (setL D k 6 (-1)) k 4 (dL (setL D k 6 (-1)) k 7)) k 5 + 1)) 0 = _
                       rw [dL_setLn (j := 4) (j' := 5) (by omega), dL_setLn (j := 6) (j' := 5) (by omega), dL_setLn (j := 6) (j' := 7) (by omega)]))⟩)
          · exact absurd h110 (by decide)
        · exact go_return dX6_reply_97 rfl (by omega) (by omega) (⟨rfl, congrArg (wD Γ w o S) (by
                unfold replD
                first
                  | exact (if_pos h15).symm
                  | exact ((if_neg h15).trans (if_pos ⟨hnr, Int32.not_le.mp h94⟩)).symm
                  | exact ((if_neg h15).trans ((if_neg (fun q => h94 (Int32.not_le.mp q.2))).trans (if_neg (fun q => hnr q.1)))).symm
                  | exact ((if_neg h15).trans ((if_neg (fun q => Int32.not_le.mpr q.2 h94)).trans (if_neg (fun q => hnr q.1)))).symm
                  | exact ((if_neg h15).trans ((if_neg (fun q => q.1 hyr)).trans (if_neg (fun q => h128 (by show dL (setL D k 6 (-1)) k 7 ≤ dP (setL D k 6 (-1)) (othr D k) 2; rw [dL_setLn (by omega), dP_setL (by omega) (by decide)]; exact q.2))))).symm
                  | (refine Eq.trans ?_ ((if_neg h15).trans ((if_neg (fun q => q.1 hyr)).trans (if_pos ⟨hyr, by have h9 : dL (setL D k 6 (-1)) k 7 ≤ dP (setL D k 6 (-1)) (othr D k) 2 := h128; rw [dL_setLn (by omega), dP_setL (by omega) (by decide)] at h9; exact h9⟩))).symm
                     show tally (setL (setL (setL D k 6 (-1)) k 4 (dL (setL D k 6 (-1)) k 7)) k 5 (dL (setL (setL D k 6 (-1)) k 4 (dL (setL D k 6 (-1)) k 7)) k 5 + 1)) 0 = _
                     rw [dL_setLn (j := 4) (j' := 5) (by omega), dL_setLn (j := 6) (j' := 5) (by omega), dL_setLn (j := 6) (j' := 7) (by omega)]))⟩)
    · refine go_iload 69 dX6_reply_67 rfl ?_
      refine go_iload 71 dX6_reply_69 rfl ?_
      refine go_icmp_ne 78 74 dX6_reply_71 (fun h71 => ?_) (fun h71 => ?_)
      · have hnr : ¬ replied D k := fun q => by first | exact h71 q.2 | exact Int32.not_le.mpr q.1 h64
        refine go_iconst 79 dX6_reply_78 zc_0 ?_
        refine go_istore 81 dX6_reply_79 (by decide) ?_
        refine go_iload 83 dX6_reply_81 rfl ?_
        refine go_if_ne 98 86 dX6_reply_83 (fun h83 => ?_) (fun h83 => ?_)
        · exact absurd h83 (by decide)
        · refine go_iload 88 dX6_reply_86 rfl ?_
          refine go_aload_n 89 dX6_reply_88 rfl ?_
          refine gd_get 92 dX6_reply_89 fX6_17 rfl ?_
          refine go_iconst 93 dX6_reply_92 zc_3 ?_
          refine gd_iald 94 (3) dX6_reply_93 rfl (by decide) ?_
          refine go_icmp_ge 98 97 dX6_reply_94 (fun h94 => ?_) (fun h94 => ?_)
          · refine go_aload_n 99 dX6_reply_98 rfl ?_
            refine gd_get 102 dX6_reply_99 fX6_17 rfl ?_
            refine go_iload_n 103 dX6_reply_102 rfl ?_
            refine go_bipush 105 dX6_reply_103 zb_6 ?_
            refine go_iadd 106 dX6_reply_105 ?_
            refine go_iconst 107 dX6_reply_106 zc_m1 ?_
            refine gd_iast 108 (146 + 13 * k + 6) dX6_reply_107 (ix2 _ 6 _ rfl) (by omega) ?_
            refine go_iload 110 dX6_reply_108 rfl ?_
            refine go_if_eq 131 113 dX6_reply_110 (fun h110 => ?_) (fun h110 => ?_)
            · refine go_aload_n 132 dX6_reply_131 rfl ?_
              refine go_iconst 133 dX6_reply_132 zc_1 ?_
              refine gdV1v 136 dX6_reply_133 vX6_199 (ct_X6_adds (t := 1) rfl (by decide)) ?_
              exact go_return dX6_reply_136 rfl (by omega) (by omega) (⟨rfl, congrArg (wD Γ w o S) (by
                    unfold replD
                    first
                      | exact (if_pos h15).symm
                      | exact ((if_neg h15).trans (if_pos ⟨hnr, Int32.not_le.mp h94⟩)).symm
                      | exact ((if_neg h15).trans ((if_neg (fun q => h94 (Int32.not_le.mp q.2))).trans (if_neg (fun q => hnr q.1)))).symm
                      | exact ((if_neg h15).trans ((if_neg (fun q => Int32.not_le.mpr q.2 h94)).trans (if_neg (fun q => hnr q.1)))).symm
                      | exact ((if_neg h15).trans ((if_neg (fun q => q.1 hyr)).trans (if_neg (fun q => h128 (by show dL (setL D k 6 (-1)) k 7 ≤ dP (setL D k 6 (-1)) (othr D k) 2; rw [dL_setLn (by omega), dP_setL (by omega) (by decide)]; exact q.2))))).symm
                      | (refine Eq.trans ?_ ((if_neg h15).trans ((if_neg (fun q => q.1 hyr)).trans (if_pos ⟨hyr, by have h9 : dL (setL D k 6 (-1)) k 7 ≤ dP (setL D k 6 (-1)) (othr D k) 2 := h128; rw [dL_setLn (by omega), dP_setL (by omega) (by decide)] at h9; exact h9⟩))).symm
                         show tally (setL (setL (setL D k 6 (-1)) k 4 (dL (setL D k 6 (-1)) k 7)) k 5 (dL (setL (setL D k 6 (-1)) k 4 (dL (setL D k 6 (-1)) k 7)) k 5 + 1)) 0 = _
                         rw [dL_setLn (j := 4) (j' := 5) (by omega), dL_setLn (j := 6) (j' := 5) (by omega), dL_setLn (j := 6) (j' := 7) (by omega)]))⟩)
            · exact absurd h110 (by decide)
          · exact go_return dX6_reply_97 rfl (by omega) (by omega) (⟨rfl, congrArg (wD Γ w o S) (by
                  unfold replD
                  first
                    | exact (if_pos h15).symm
                    | exact ((if_neg h15).trans (if_pos ⟨hnr, Int32.not_le.mp h94⟩)).symm
                    | exact ((if_neg h15).trans ((if_neg (fun q => h94 (Int32.not_le.mp q.2))).trans (if_neg (fun q => hnr q.1)))).symm
                    | exact ((if_neg h15).trans ((if_neg (fun q => Int32.not_le.mpr q.2 h94)).trans (if_neg (fun q => hnr q.1)))).symm
                    | exact ((if_neg h15).trans ((if_neg (fun q => q.1 hyr)).trans (if_neg (fun q => h128 (by show dL (setL D k 6 (-1)) k 7 ≤ dP (setL D k 6 (-1)) (othr D k) 2; rw [dL_setLn (by omega), dP_setL (by omega) (by decide)]; exact q.2))))).symm
                    | (refine Eq.trans ?_ ((if_neg h15).trans ((if_neg (fun q => q.1 hyr)).trans (if_pos ⟨hyr, by have h9 : dL (setL D k 6 (-1)) k 7 ≤ dP (setL D k 6 (-1)) (othr D k) 2 := h128; rw [dL_setLn (by omega), dP_setL (by omega) (by decide)] at h9; exact h9⟩))).symm
                       show tally (setL (setL (setL D k 6 (-1)) k 4 (dL (setL D k 6 (-1)) k 7)) k 5 (dL (setL (setL D k 6 (-1)) k 4 (dL (setL D k 6 (-1)) k 7)) k 5 + 1)) 0 = _
                       rw [dL_setLn (j := 4) (j' := 5) (by omega), dL_setLn (j := 6) (j' := 5) (by omega), dL_setLn (j := 6) (j' := 7) (by omega)]))⟩)
      · have hyr : replied D k := ⟨Int32.not_le.mp h64, h71⟩
        refine go_iconst 75 dX6_reply_74 zc_1 ?_
        refine go_goto 79 dX6_reply_75 ?_
        refine go_istore 81 dX6_reply_79 (by decide) ?_
        refine go_iload 83 dX6_reply_81 rfl ?_
        refine go_if_ne 98 86 dX6_reply_83 (fun h83 => ?_) (fun h83 => ?_)
        · refine go_aload_n 99 dX6_reply_98 rfl ?_
          refine gd_get 102 dX6_reply_99 fX6_17 rfl ?_
          refine go_iload_n 103 dX6_reply_102 rfl ?_
          refine go_bipush 105 dX6_reply_103 zb_6 ?_
          refine go_iadd 106 dX6_reply_105 ?_
          refine go_iconst 107 dX6_reply_106 zc_m1 ?_
          refine gd_iast 108 (146 + 13 * k + 6) dX6_reply_107 (ix2 _ 6 _ rfl) (by omega) ?_
          refine go_iload 110 dX6_reply_108 rfl ?_
          refine go_if_eq 131 113 dX6_reply_110 (fun h110 => ?_) (fun h110 => ?_)
          · exact absurd h110 (by decide)
          · refine go_aload_n 114 dX6_reply_113 rfl ?_
            refine gd_get 117 dX6_reply_114 fX6_17 rfl ?_
            refine go_iload_n 118 dX6_reply_117 rfl ?_
            refine go_bipush 120 dX6_reply_118 zb_7 ?_
            refine go_iadd 121 dX6_reply_120 ?_
            refine gd_iald 122 (146 + 13 * k + 7) dX6_reply_121 (ix2 _ 7 _ rfl) (by omega) ?_
            refine go_aload_n 123 dX6_reply_122 rfl ?_
            refine go_iload_n 124 dX6_reply_123 rfl ?_
            refine go_iconst 125 dX6_reply_124 zc_2 ?_
            refine gdV2 128 dX6_reply_125 vX6_250 (ct_X6_ofParty (j := 2) hoth.1 rfl (by omega)) ?_
            refine go_icmp_le 137 131 dX6_reply_128 (fun h128 => ?_) (fun h128 => ?_)
            · refine go_aload_n 138 dX6_reply_137 rfl ?_
              refine gd_get 141 dX6_reply_138 fX6_17 rfl ?_
              refine go_iload_n 142 dX6_reply_141 rfl ?_
              refine go_iconst 143 dX6_reply_142 zc_4 ?_
              refine go_iadd 144 dX6_reply_143 ?_
              refine go_aload_n 145 dX6_reply_144 rfl ?_
              refine gd_get 148 dX6_reply_145 fX6_17 rfl ?_
              refine go_iload_n 149 dX6_reply_148 rfl ?_
              refine go_bipush 151 dX6_reply_149 zb_7 ?_
              refine go_iadd 152 dX6_reply_151 ?_
              refine gd_iald 153 (146 + 13 * k + 7) dX6_reply_152 (ix2 _ 7 _ rfl) (by omega) ?_
              refine gd_iast 154 (146 + 13 * k + 4) dX6_reply_153 (ix2 _ 4 _ rfl) (by omega) ?_
              refine go_aload_n 155 dX6_reply_154 rfl ?_
              refine gd_get 158 dX6_reply_155 fX6_17 rfl ?_
              refine go_iload_n 159 dX6_reply_158 rfl ?_
              refine go_iconst 160 dX6_reply_159 zc_5 ?_
              refine go_iadd 161 dX6_reply_160 ?_
              refine go_dup2 162 dX6_reply_161 rfl rfl ?_
              refine gd_iald 163 (146 + 13 * k + 5) dX6_reply_162 (ix2 _ 5 _ rfl) (by omega) ?_
              refine go_iconst 164 dX6_reply_163 zc_1 ?_
              refine go_iadd 165 dX6_reply_164 ?_
              refine gd_iast 166 (146 + 13 * k + 5) dX6_reply_165 (ix2 _ 5 _ rfl) (by omega) ?_
              refine go_aload_n 167 dX6_reply_166 rfl ?_
              refine go_iconst 168 dX6_reply_167 zc_0 ?_
              refine gdV1v 171 dX6_reply_168 vX6_199 (ct_X6_adds (t := 0) rfl (by decide)) ?_
              exact go_return dX6_reply_171 rfl (by omega) (by omega) (⟨rfl, congrArg (wD Γ w o S) (by
                    unfold replD
                    first
                      | exact (if_pos h15).symm
                      | exact ((if_neg h15).trans (if_pos ⟨hnr, Int32.not_le.mp h94⟩)).symm
                      | exact ((if_neg h15).trans ((if_neg (fun q => h94 (Int32.not_le.mp q.2))).trans (if_neg (fun q => hnr q.1)))).symm
                      | exact ((if_neg h15).trans ((if_neg (fun q => Int32.not_le.mpr q.2 h94)).trans (if_neg (fun q => hnr q.1)))).symm
                      | exact ((if_neg h15).trans ((if_neg (fun q => q.1 hyr)).trans (if_neg (fun q => h128 (by show dL (setL D k 6 (-1)) k 7 ≤ dP (setL D k 6 (-1)) (othr D k) 2; rw [dL_setLn (by omega), dP_setL (by omega) (by decide)]; exact q.2))))).symm
                      | (refine Eq.trans ?_ ((if_neg h15).trans ((if_neg (fun q => q.1 hyr)).trans (if_pos ⟨hyr, by have h9 : dL (setL D k 6 (-1)) k 7 ≤ dP (setL D k 6 (-1)) (othr D k) 2 := h128; rw [dL_setLn (by omega), dP_setL (by omega) (by decide)] at h9; exact h9⟩))).symm
                         show tally (setL (setL (setL D k 6 (-1)) k 4 (dL (setL D k 6 (-1)) k 7)) k 5 (dL (setL (setL D k 6 (-1)) k 4 (dL (setL D k 6 (-1)) k 7)) k 5 + 1)) 0 = _
                         rw [dL_setLn (j := 4) (j' := 5) (by omega), dL_setLn (j := 6) (j' := 5) (by omega), dL_setLn (j := 6) (j' := 7) (by omega)]))⟩)
            · refine go_aload_n 132 dX6_reply_131 rfl ?_
              refine go_iconst 133 dX6_reply_132 zc_1 ?_
              refine gdV1v 136 dX6_reply_133 vX6_199 (ct_X6_adds (t := 1) rfl (by decide)) ?_
              exact go_return dX6_reply_136 rfl (by omega) (by omega) (⟨rfl, congrArg (wD Γ w o S) (by
                    unfold replD
                    first
                      | exact (if_pos h15).symm
                      | exact ((if_neg h15).trans (if_pos ⟨hnr, Int32.not_le.mp h94⟩)).symm
                      | exact ((if_neg h15).trans ((if_neg (fun q => h94 (Int32.not_le.mp q.2))).trans (if_neg (fun q => hnr q.1)))).symm
                      | exact ((if_neg h15).trans ((if_neg (fun q => Int32.not_le.mpr q.2 h94)).trans (if_neg (fun q => hnr q.1)))).symm
                      | exact ((if_neg h15).trans ((if_neg (fun q => q.1 hyr)).trans (if_neg (fun q => h128 (by show dL (setL D k 6 (-1)) k 7 ≤ dP (setL D k 6 (-1)) (othr D k) 2; rw [dL_setLn (by omega), dP_setL (by omega) (by decide)]; exact q.2))))).symm
                      | (refine Eq.trans ?_ ((if_neg h15).trans ((if_neg (fun q => q.1 hyr)).trans (if_pos ⟨hyr, by have h9 : dL (setL D k 6 (-1)) k 7 ≤ dP (setL D k 6 (-1)) (othr D k) 2 := h128; rw [dL_setLn (by omega), dP_setL (by omega) (by decide)] at h9; exact h9⟩))).symm
                         show tally (setL (setL (setL D k 6 (-1)) k 4 (dL (setL D k 6 (-1)) k 7)) k 5 (dL (setL (setL D k 6 (-1)) k 4 (dL (setL D k 6 (-1)) k 7)) k 5 + 1)) 0 = _
                         rw [dL_setLn (j := 4) (j' := 5) (by omega), dL_setLn (j := 6) (j' := 5) (by omega), dL_setLn (j := 6) (j' := 7) (by omega)]))⟩)
        · exact absurd h83 (by decide)
  · exact go_return dX6_reply_18 rfl (by omega) (by omega) (⟨rfl, congrArg (wD Γ w o S) (by
          unfold replD
          first
            | exact (if_pos h15).symm
            | exact ((if_neg h15).trans (if_pos ⟨hnr, Int32.not_le.mp h94⟩)).symm
            | exact ((if_neg h15).trans ((if_neg (fun q => h94 (Int32.not_le.mp q.2))).trans (if_neg (fun q => hnr q.1)))).symm
            | exact ((if_neg h15).trans ((if_neg (fun q => Int32.not_le.mpr q.2 h94)).trans (if_neg (fun q => hnr q.1)))).symm
            | exact ((if_neg h15).trans ((if_neg (fun q => q.1 hyr)).trans (if_neg (fun q => h128 (by show dL (setL D k 6 (-1)) k 7 ≤ dP (setL D k 6 (-1)) (othr D k) 2; rw [dL_setLn (by omega), dP_setL (by omega) (by decide)]; exact q.2))))).symm
            | (refine Eq.trans ?_ ((if_neg h15).trans ((if_neg (fun q => q.1 hyr)).trans (if_pos ⟨hyr, by have h9 : dL (setL D k 6 (-1)) k 7 ≤ dP (setL D k 6 (-1)) (othr D k) 2 := h128; rw [dL_setLn (by omega), dP_setL (by omega) (by decide)] at h9; exact h9⟩))).symm
               show tally (setL (setL (setL D k 6 (-1)) k 4 (dL (setL D k 6 (-1)) k 7)) k 5 (dL (setL (setL D k 6 (-1)) k 4 (dL (setL D k 6 (-1)) k 7)) k 5 + 1)) 0 = _
               rw [dL_setLn (j := 4) (j' := 5) (by omega), dL_setLn (j := 6) (j' := 5) (by omega), dL_setLn (j := 6) (j' := 7) (by omega)]))⟩)

set_option maxRecDepth 100000 in
set_option maxHeartbeats 4000000 in
theorem ct_X6_mayAnswer {l : Launch} {Γ : ZG} {w : ZW} {o : Nat} {S : MS} {D : ZD} (hI : Iv D) {k : Nat} {x : Int32} (hx : x = nI k) (hk : k < nL D) : Cm l Γ mX6_mayAnswer 8 [.ref o, .int x] (wD Γ w o S D) (none) (wD Γ w o S (mayD D k)) := by
  subst hx
  have hl40 : nL D ≤ 40 := hI.1.2.2.1.2
  have hc20 : nC D ≤ 20 := hI.1.2.1.2
  have ho := hI.1.2.2.2 k hk
  have hce := hI.2.2.1 k hk
  have hp10 : nP D ≤ 10 := hI.1.1.2
  refine Cm.of (by decide) rfl (Nat.le_of_ble_eq_true rfl) ?_
  refine go_aload_n 1 dX6_mayAnswer_0 rfl ?_
  refine go_iload_n 2 dX6_mayAnswer_1 rfl ?_
  refine go_iconst 3 dX6_mayAnswer_2 zc_1 ?_
  refine gdV2 6 dX6_mayAnswer_3 vX6_171 (ct_X6_ofLeg (j := 1) rfl rfl (by omega)) ?_
  refine go_istore_n 7 dX6_mayAnswer_6 (by decide) ?_
  refine go_aload_n 8 dX6_mayAnswer_7 rfl ?_
  refine go_iload_n 9 dX6_mayAnswer_8 rfl ?_
  refine go_iconst 10 dX6_mayAnswer_9 zc_0 ?_
  refine gdV2 13 dX6_mayAnswer_10 vX6_250 (ct_X6_ofParty (j := 0) hce.1 rfl (by omega)) ?_
  refine go_istore_n 14 dX6_mayAnswer_13 (by decide) ?_
  refine go_iload_n 15 dX6_mayAnswer_14 rfl ?_
  refine go_if_le 53 18 dX6_mayAnswer_15 (fun h15 => ?_) (fun h15 => ?_)
  · exact go_return dX6_mayAnswer_53 rfl (by omega) (by omega) (⟨rfl, congrArg (wD Γ w o S) (by unfold mayD; first | exact (if_neg (fun q => Int32.not_le.mpr q.1 h15)).symm | exact (if_neg (fun q => h37 q.2.1)).symm | exact (if_neg (fun q => q.2.2 (zb_1 h45))).symm | exact (if_pos ⟨Int32.not_le.mp h15, by first | exact h37 | exact Classical.not_not.mp h37, zb_0 (by first | exact h45 | exact Classical.not_not.mp h45)⟩).symm)⟩)
  · refine go_aload_n 19 dX6_mayAnswer_18 rfl ?_
    refine gd_get 22 dX6_mayAnswer_19 fX6_17 rfl ?_
    refine go_iconst 23 dX6_mayAnswer_22 zc_0 ?_
    refine gd_iald 24 (0) dX6_mayAnswer_23 rfl (by decide) ?_
    refine go_aload_n 25 dX6_mayAnswer_24 rfl ?_
    refine go_aload_n 26 dX6_mayAnswer_25 rfl ?_
    refine go_iload_n 27 dX6_mayAnswer_26 rfl ?_
    refine go_iconst 28 dX6_mayAnswer_27 zc_0 ?_
    refine gdV2 31 dX6_mayAnswer_28 vX6_171 (ct_X6_ofLeg (j := 0) rfl rfl (by omega)) ?_
    refine go_iconst 32 dX6_mayAnswer_31 zc_1 ?_
    refine gdV2 35 dX6_mayAnswer_32 vX6_174 (ct_X6_ofCall (j := 1) ho.1 rfl (by omega)) ?_
    refine go_isub 36 dX6_mayAnswer_35 ?_
    refine go_iload_n 37 dX6_mayAnswer_36 rfl ?_
    refine go_icmp_ne 53 40 dX6_mayAnswer_37 (fun h37 => ?_) (fun h37 => ?_)
    · exact go_return dX6_mayAnswer_53 rfl (by omega) (by omega) (⟨rfl, congrArg (wD Γ w o S) (by unfold mayD; first | exact (if_neg (fun q => Int32.not_le.mpr q.1 h15)).symm | exact (if_neg (fun q => h37 q.2.1)).symm | exact (if_neg (fun q => q.2.2 (zb_1 h45))).symm | exact (if_pos ⟨Int32.not_le.mp h15, by first | exact h37 | exact Classical.not_not.mp h37, zb_0 (by first | exact h45 | exact Classical.not_not.mp h45)⟩).symm)⟩)
    · refine go_aload_n 41 dX6_mayAnswer_40 rfl ?_
      refine go_iload_n 42 dX6_mayAnswer_41 rfl ?_
      refine gdV1 45 dX6_mayAnswer_42 vX6_234 (ct_X6_isEngaged hI.1) ?_
      refine go_if_ne 53 48 dX6_mayAnswer_45 (fun h45 => ?_) (fun h45 => ?_)
      · exact go_return dX6_mayAnswer_53 rfl (by omega) (by omega) (⟨rfl, congrArg (wD Γ w o S) (by unfold mayD; first | exact (if_neg (fun q => Int32.not_le.mpr q.1 h15)).symm | exact (if_neg (fun q => h37 q.2.1)).symm | exact (if_neg (fun q => q.2.2 (zb_1 h45))).symm | exact (if_pos ⟨Int32.not_le.mp h15, by first | exact h37 | exact Classical.not_not.mp h37, zb_0 (by first | exact h45 | exact Classical.not_not.mp h45)⟩).symm)⟩)
      · refine go_aload_n 49 dX6_mayAnswer_48 rfl ?_
        refine go_iload_n 50 dX6_mayAnswer_49 rfl ?_
        refine gdV1v 53 dX6_mayAnswer_50 vX6_253 (ct_X6_answer hI rfl hk) ?_
        exact go_return dX6_mayAnswer_53 rfl (by omega) (by omega) (⟨rfl, congrArg (wD Γ w o S) (by unfold mayD; first | exact (if_neg (fun q => Int32.not_le.mpr q.1 h15)).symm | exact (if_neg (fun q => h37 q.2.1)).symm | exact (if_neg (fun q => q.2.2 (zb_1 h45))).symm | exact (if_pos ⟨Int32.not_le.mp h15, by first | exact h37 | exact Classical.not_not.mp h37, zb_0 (by first | exact h45 | exact Classical.not_not.mp h45)⟩).symm)⟩)

set_option maxRecDepth 100000 in
set_option maxHeartbeats 4000000 in
theorem lp4_X6_second {l : Launch} {Γ : ZG} {w : ZW} {o : Nat} {S : MS} {D : ZD}  (hI : Iv D) : ∀ (f i : Nat) (D' : ZD), i + f = nC D → Same D D' → Go l Γ mX6_second 9 0 0 (fun v w2 => v = none ∧ w2 = wD Γ w o S (itr s4Step i f D')) zNo 0 0 (wD Γ w o S D') 121 [(0, .ref o), (1, .int (nI i))] [] := by
  intro f
  induction f with
  | zero =>
    intro i D' hif hs
    have hl40 : nL D ≤ 40 := hI.1.2.2.1.2
    have hc20 : nC D ≤ 20 := hI.1.2.1.2
    have hI2 : Iv D' := hI.same hs
    have hN2 : nL D' = nL D := sm_nL hs
    have hC2 : nC D' = nC D := sm_nC hs
    refine go_iload_n 122 dX6_second_121 rfl ?_
    refine go_aload_n 123 dX6_second_122 rfl ?_
    refine gd_get 126 dX6_second_123 fX6_17 rfl ?_
    refine go_iconst 127 dX6_second_126 zc_5 ?_
    refine gd_iald 128 (5) dX6_second_127 rfl (by decide) ?_
    refine go_icmp_ge 182 131 dX6_second_128 (fun h128 => ?_) (fun h128 => ?_)
    · exact go_return dX6_second_182 rfl (by omega) (by omega) (⟨rfl, rfl⟩)
    · exact (lpE ((hs.low (by decide)).trans hI.1.2.1.1) (by omega) h128).elim
  | succ f ih =>
    intro i D' hif hs
    have hl40 : nL D ≤ 40 := hI.1.2.2.1.2
    have hc20 : nC D ≤ 20 := hI.1.2.1.2
    have hI2 : Iv D' := hI.same hs
    have hN2 : nL D' = nL D := sm_nL hs
    have hC2 : nC D' = nC D := sm_nC hs
    refine go_iload_n 122 dX6_second_121 rfl ?_
    refine go_aload_n 123 dX6_second_122 rfl ?_
    refine gd_get 126 dX6_second_123 fX6_17 rfl ?_
    refine go_iconst 127 dX6_second_126 zc_5 ?_
    refine gd_iald 128 (5) dX6_second_127 rfl (by decide) ?_
    refine go_icmp_ge 182 131 dX6_second_128 (fun h128 => ?_) (fun h128 => ?_)
    · exact (lpG ((hs.low (by decide)).trans hI.1.2.1.1) (by omega) (by omega) h128).elim
    · refine go_aload_n 132 dX6_second_131 rfl ?_
      refine go_iload_n 133 dX6_second_132 rfl ?_
      refine gdV1 136 dX6_second_133 vX6_187 (ct_X6_rings hI2.1) ?_
      refine go_if_eq 176 139 dX6_second_136 (fun h136 => ?_) (fun h136 => ?_)
      · refine go_iinc 179 dX6_second_176 rfl (by decide) zc_1 ?_
        refine go_goto 121 dX6_second_179 ?_
        rw [nI_1]
        first
          | (rw [show itr s4Step i (f + 1) D' = itr s4Step (i + 1) f (D') from congrArg (itr s4Step (i + 1) f) (by unfold s4Step; first | exact if_neg (fun q => zb_0 h136 q.1) | exact if_neg (fun q => q.2 (by first | exact h158 | exact Int32.not_le.mp h158)))]; exact go_locals _ rfl (ih (i + 1) (D') (by omega) (hs)))
          | (rw [show itr s4Step i (f + 1) D' = itr s4Step (i + 1) f (failD (endAllD D' (nI i) (-1) 3) i) from congrArg (itr s4Step (i + 1) f) (by unfold s4Step; exact if_pos ⟨zb_1 h136, fun q => by first | exact h158 q | exact Int32.not_lt.mpr h158 q⟩)]; exact go_locals _ rfl (ih (i + 1) (failD (endAllD D' (nI i) (-1) 3) i) (by omega) (hs.trans (sm_endAll.trans sm_fail))))
      · refine go_aload_n 140 dX6_second_139 rfl ?_
        refine gd_get 143 dX6_second_140 fX6_17 rfl ?_
        refine go_iconst 144 dX6_second_143 zc_0 ?_
        refine gd_iald 145 (0) dX6_second_144 rfl (by decide) ?_
        refine go_aload_n 146 dX6_second_145 rfl ?_
        refine go_iload_n 147 dX6_second_146 rfl ?_
        refine go_iconst 148 dX6_second_147 zc_1 ?_
        refine gdV2 151 dX6_second_148 vX6_174 (ct_X6_ofCall (j := 1) rfl rfl (by omega)) ?_
        refine go_isub 152 dX6_second_151 ?_
        refine go_aload_n 153 dX6_second_152 rfl ?_
        refine go_iload_n 154 dX6_second_153 rfl ?_
        refine go_iconst 155 dX6_second_154 zc_2 ?_
        refine gdV2 158 dX6_second_155 vX6_174 (ct_X6_ofCall (j := 2) rfl rfl (by omega)) ?_
        refine go_icmp_ge 164 161 dX6_second_158 (fun h158 => ?_) (fun h158 => ?_)
        · refine go_aload_n 165 dX6_second_164 rfl ?_
          refine go_iload_n 166 dX6_second_165 rfl ?_
          refine go_iconst 167 dX6_second_166 zc_m1 ?_
          refine go_iconst 168 dX6_second_167 zc_3 ?_
          refine gdV3v 171 dX6_second_168 vX6_211 (ct_X6_endAll hI2) ?_
          refine go_aload_n 172 dX6_second_171 rfl ?_
          refine go_iload_n 173 dX6_second_172 rfl ?_
          refine gdV1v 176 dX6_second_173 vX6_208 (ct_X6_failCall (hI2.same sm_endAll) rfl (by rw [sm_nC (sm_endAll (D := D'))]; omega)) ?_
          refine go_iinc 179 dX6_second_176 rfl (by decide) zc_1 ?_
          refine go_goto 121 dX6_second_179 ?_
          rw [nI_1]
          first
            | (rw [show itr s4Step i (f + 1) D' = itr s4Step (i + 1) f (D') from congrArg (itr s4Step (i + 1) f) (by unfold s4Step; first | exact if_neg (fun q => zb_0 h136 q.1) | exact if_neg (fun q => q.2 (by first | exact h158 | exact Int32.not_le.mp h158)))]; exact go_locals _ rfl (ih (i + 1) (D') (by omega) (hs)))
            | (rw [show itr s4Step i (f + 1) D' = itr s4Step (i + 1) f (failD (endAllD D' (nI i) (-1) 3) i) from congrArg (itr s4Step (i + 1) f) (by unfold s4Step; exact if_pos ⟨zb_1 h136, fun q => by first | exact h158 q | exact Int32.not_lt.mpr h158 q⟩)]; exact go_locals _ rfl (ih (i + 1) (failD (endAllD D' (nI i) (-1) 3) i) (by omega) (hs.trans (sm_endAll.trans sm_fail))))
        · refine go_goto 176 dX6_second_161 ?_
          refine go_iinc 179 dX6_second_176 rfl (by decide) zc_1 ?_
          refine go_goto 121 dX6_second_179 ?_
          rw [nI_1]
          first
            | (rw [show itr s4Step i (f + 1) D' = itr s4Step (i + 1) f (D') from congrArg (itr s4Step (i + 1) f) (by unfold s4Step; first | exact if_neg (fun q => zb_0 h136 q.1) | exact if_neg (fun q => q.2 (by first | exact h158 | exact Int32.not_le.mp h158)))]; exact go_locals _ rfl (ih (i + 1) (D') (by omega) (hs)))
            | (rw [show itr s4Step i (f + 1) D' = itr s4Step (i + 1) f (failD (endAllD D' (nI i) (-1) 3) i) from congrArg (itr s4Step (i + 1) f) (by unfold s4Step; exact if_pos ⟨zb_1 h136, fun q => by first | exact h158 q | exact Int32.not_lt.mpr h158 q⟩)]; exact go_locals _ rfl (ih (i + 1) (failD (endAllD D' (nI i) (-1) 3) i) (by omega) (hs.trans (sm_endAll.trans sm_fail))))

set_option maxRecDepth 100000 in
set_option maxHeartbeats 4000000 in
theorem lp3_X6_second {l : Launch} {Γ : ZG} {w : ZW} {o : Nat} {S : MS} {D : ZD}  (hI : Iv D) : ∀ (f i : Nat) (D' : ZD), i + f = nL D → Same D D' → Go l Γ mX6_second 9 0 0 (fun v w2 => v = none ∧ w2 = wD Γ w o S (itr s4Step 0 (nC D) (itr s3Step i f D'))) zNo 0 0 (wD Γ w o S D') 88 [(0, .ref o), (1, .int (nI i))] [] := by
  intro f
  induction f with
  | zero =>
    intro i D' hif hs
    have hl40 : nL D ≤ 40 := hI.1.2.2.1.2
    have hc20 : nC D ≤ 20 := hI.1.2.1.2
    have hI2 : Iv D' := hI.same hs
    have hN2 : nL D' = nL D := sm_nL hs
    have hC2 : nC D' = nC D := sm_nC hs
    have h20 : i < nL D → ofN D' i < 20 := fun q => by have := (hI2.1.2.2.2 i (by omega)).2; omega
    refine go_iload_n 89 dX6_second_88 rfl ?_
    refine go_aload_n 90 dX6_second_89 rfl ?_
    refine gd_get 93 dX6_second_90 fX6_17 rfl ?_
    refine go_bipush 95 dX6_second_93 zb_6 ?_
    refine gd_iald 96 (6) dX6_second_95 rfl (by decide) ?_
    refine go_icmp_ge 119 99 dX6_second_96 (fun h96 => ?_) (fun h96 => ?_)
    · refine go_iconst 120 dX6_second_119 zc_0 ?_
      refine go_istore_n 121 dX6_second_120 (by decide) ?_
      exact go_locals _ rfl (lp4_X6_second hI _ 0 D' (by omega) hs)
    · exact (lpE ((hs.low (by decide)).trans hI.1.2.2.1.1) (by omega) h96).elim
  | succ f ih =>
    intro i D' hif hs
    have hl40 : nL D ≤ 40 := hI.1.2.2.1.2
    have hc20 : nC D ≤ 20 := hI.1.2.1.2
    have hI2 : Iv D' := hI.same hs
    have hN2 : nL D' = nL D := sm_nL hs
    have hC2 : nC D' = nC D := sm_nC hs
    have h20 : i < nL D → ofN D' i < 20 := fun q => by have := (hI2.1.2.2.2 i (by omega)).2; omega
    refine go_iload_n 89 dX6_second_88 rfl ?_
    refine go_aload_n 90 dX6_second_89 rfl ?_
    refine gd_get 93 dX6_second_90 fX6_17 rfl ?_
    refine go_bipush 95 dX6_second_93 zb_6 ?_
    refine gd_iald 96 (6) dX6_second_95 rfl (by decide) ?_
    refine go_icmp_ge 119 99 dX6_second_96 (fun h96 => ?_) (fun h96 => ?_)
    · exact (lpG ((hs.low (by decide)).trans hI.1.2.2.1.1) (by omega) (by omega) h96).elim
    · refine go_aload_n 100 dX6_second_99 rfl ?_
      refine go_iload_n 101 dX6_second_100 rfl ?_
      refine go_iconst 102 dX6_second_101 zc_0 ?_
      refine gdV2 105 dX6_second_102 vX6_180 (ct_X6_is rfl (by omega)) ?_
      refine go_if_eq 113 108 dX6_second_105 (fun h105 => ?_) (fun h105 => ?_)
      · refine go_iinc 116 dX6_second_113 rfl (by decide) zc_1 ?_
        refine go_goto 88 dX6_second_116 ?_
        rw [nI_1]
        first
          | (rw [show itr s3Step i (f + 1) D' = itr s3Step (i + 1) f (D') from congrArg (itr s3Step (i + 1) f) (by unfold s3Step; exact if_neg (zb_0 h105))]; exact go_locals _ rfl (ih (i + 1) (D') (by omega) (hs)))
          | (rw [show itr s3Step i (f + 1) D' = itr s3Step (i + 1) f (mayD D' i) from congrArg (itr s3Step (i + 1) f) (by unfold s3Step; exact if_pos (zb_1 h105))]; exact go_locals _ rfl (ih (i + 1) (mayD D' i) (by omega) (hs.trans (sm_may (h20 (by omega))))))
      · refine go_aload_n 109 dX6_second_108 rfl ?_
        refine go_iload_n 110 dX6_second_109 rfl ?_
        refine gdV1v 113 dX6_second_110 vX6_262 (ct_X6_mayAnswer hI2 rfl (by omega)) ?_
        refine go_iinc 116 dX6_second_113 rfl (by decide) zc_1 ?_
        refine go_goto 88 dX6_second_116 ?_
        rw [nI_1]
        first
          | (rw [show itr s3Step i (f + 1) D' = itr s3Step (i + 1) f (D') from congrArg (itr s3Step (i + 1) f) (by unfold s3Step; exact if_neg (zb_0 h105))]; exact go_locals _ rfl (ih (i + 1) (D') (by omega) (hs)))
          | (rw [show itr s3Step i (f + 1) D' = itr s3Step (i + 1) f (mayD D' i) from congrArg (itr s3Step (i + 1) f) (by unfold s3Step; exact if_pos (zb_1 h105))]; exact go_locals _ rfl (ih (i + 1) (mayD D' i) (by omega) (hs.trans (sm_may (h20 (by omega))))))

set_option maxRecDepth 100000 in
set_option maxHeartbeats 4000000 in
theorem lp2_X6_second {l : Launch} {Γ : ZG} {w : ZW} {o : Nat} {S : MS} {D : ZD}  (hI : Iv D) : ∀ (f i : Nat) (D' : ZD), i + f = nL D → Same D D' → Go l Γ mX6_second 9 0 0 (fun v w2 => v = none ∧ w2 = wD Γ w o S (itr s4Step 0 (nC D) (itr s3Step 0 (nL D) (itr s2Step i f D')))) zNo 0 0 (wD Γ w o S D') 55 [(0, .ref o), (1, .int (nI i))] [] := by
  intro f
  induction f with
  | zero =>
    intro i D' hif hs
    have hl40 : nL D ≤ 40 := hI.1.2.2.1.2
    have hc20 : nC D ≤ 20 := hI.1.2.1.2
    have hI2 : Iv D' := hI.same hs
    have hN2 : nL D' = nL D := sm_nL hs
    have hC2 : nC D' = nC D := sm_nC hs
    refine go_iload_n 56 dX6_second_55 rfl ?_
    refine go_aload_n 57 dX6_second_56 rfl ?_
    refine gd_get 60 dX6_second_57 fX6_17 rfl ?_
    refine go_bipush 62 dX6_second_60 zb_6 ?_
    refine gd_iald 63 (6) dX6_second_62 rfl (by decide) ?_
    refine go_icmp_ge 86 66 dX6_second_63 (fun h63 => ?_) (fun h63 => ?_)
    · refine go_iconst 87 dX6_second_86 zc_0 ?_
      refine go_istore_n 88 dX6_second_87 (by decide) ?_
      exact go_locals _ rfl (lp3_X6_second hI _ 0 D' (by omega) hs)
    · exact (lpE ((hs.low (by decide)).trans hI.1.2.2.1.1) (by omega) h63).elim
  | succ f ih =>
    intro i D' hif hs
    have hl40 : nL D ≤ 40 := hI.1.2.2.1.2
    have hc20 : nC D ≤ 20 := hI.1.2.1.2
    have hI2 : Iv D' := hI.same hs
    have hN2 : nL D' = nL D := sm_nL hs
    have hC2 : nC D' = nC D := sm_nC hs
    refine go_iload_n 56 dX6_second_55 rfl ?_
    refine go_aload_n 57 dX6_second_56 rfl ?_
    refine gd_get 60 dX6_second_57 fX6_17 rfl ?_
    refine go_bipush 62 dX6_second_60 zb_6 ?_
    refine gd_iald 63 (6) dX6_second_62 rfl (by decide) ?_
    refine go_icmp_ge 86 66 dX6_second_63 (fun h63 => ?_) (fun h63 => ?_)
    · exact (lpG ((hs.low (by decide)).trans hI.1.2.2.1.1) (by omega) (by omega) h63).elim
    · refine go_aload_n 67 dX6_second_66 rfl ?_
      refine go_iload_n 68 dX6_second_67 rfl ?_
      refine go_iconst 69 dX6_second_68 zc_1 ?_
      refine gdV2 72 dX6_second_69 vX6_180 (ct_X6_is rfl (by omega)) ?_
      refine go_if_eq 80 75 dX6_second_72 (fun h72 => ?_) (fun h72 => ?_)
      · refine go_iinc 83 dX6_second_80 rfl (by decide) zc_1 ?_
        refine go_goto 55 dX6_second_83 ?_
        rw [nI_1]
        first
          | (rw [show itr s2Step i (f + 1) D' = itr s2Step (i + 1) f (D') from congrArg (itr s2Step (i + 1) f) (by unfold s2Step; exact if_neg (zb_0 h72))]; exact go_locals _ rfl (ih (i + 1) (D') (by omega) (hs)))
          | (rw [show itr s2Step i (f + 1) D' = itr s2Step (i + 1) f (replD D' i) from congrArg (itr s2Step (i + 1) f) (by unfold s2Step; exact if_pos (zb_1 h72))]; exact go_locals _ rfl (ih (i + 1) (replD D' i) (by omega) (hs.trans sm_repl)))
      · refine go_aload_n 76 dX6_second_75 rfl ?_
        refine go_iload_n 77 dX6_second_76 rfl ?_
        refine gdV1v 80 dX6_second_77 vX6_259 (ct_X6_reply hI2 rfl (by omega)) ?_
        refine go_iinc 83 dX6_second_80 rfl (by decide) zc_1 ?_
        refine go_goto 55 dX6_second_83 ?_
        rw [nI_1]
        first
          | (rw [show itr s2Step i (f + 1) D' = itr s2Step (i + 1) f (D') from congrArg (itr s2Step (i + 1) f) (by unfold s2Step; exact if_neg (zb_0 h72))]; exact go_locals _ rfl (ih (i + 1) (D') (by omega) (hs)))
          | (rw [show itr s2Step i (f + 1) D' = itr s2Step (i + 1) f (replD D' i) from congrArg (itr s2Step (i + 1) f) (by unfold s2Step; exact if_pos (zb_1 h72))]; exact go_locals _ rfl (ih (i + 1) (replD D' i) (by omega) (hs.trans sm_repl)))

set_option maxRecDepth 100000 in
set_option maxHeartbeats 4000000 in
theorem lp1_X6_second {l : Launch} {Γ : ZG} {w : ZW} {o : Nat} {S : MS} {D : ZD}  (hI : Iv D) : ∀ (f i : Nat) (D' : ZD), i + f = nL D → Same D D' → Go l Γ mX6_second 9 0 0 (fun v w2 => v = none ∧ w2 = wD Γ w o S (itr s4Step 0 (nC D) (itr s3Step 0 (nL D) (itr s2Step 0 (nL D) (itr s1Step i f D'))))) zNo 0 0 (wD Γ w o S D') 12 [(0, .ref o), (1, .int (nI i))] [] := by
  intro f
  induction f with
  | zero =>
    intro i D' hif hs
    have hl40 : nL D ≤ 40 := hI.1.2.2.1.2
    have hc20 : nC D ≤ 20 := hI.1.2.1.2
    have hI2 : Iv D' := hI.same hs
    have hN2 : nL D' = nL D := sm_nL hs
    have hC2 : nC D' = nC D := sm_nC hs
    refine go_iload_n 13 dX6_second_12 rfl ?_
    refine go_aload_n 14 dX6_second_13 rfl ?_
    refine gd_get 17 dX6_second_14 fX6_17 rfl ?_
    refine go_bipush 19 dX6_second_17 zb_6 ?_
    refine gd_iald 20 (6) dX6_second_19 rfl (by decide) ?_
    refine go_icmp_ge 53 23 dX6_second_20 (fun h20 => ?_) (fun h20 => ?_)
    · refine go_iconst 54 dX6_second_53 zc_0 ?_
      refine go_istore_n 55 dX6_second_54 (by decide) ?_
      exact go_locals _ rfl (lp2_X6_second hI _ 0 D' (by omega) hs)
    · exact (lpE ((hs.low (by decide)).trans hI.1.2.2.1.1) (by omega) h20).elim
  | succ f ih =>
    intro i D' hif hs
    have hl40 : nL D ≤ 40 := hI.1.2.2.1.2
    have hc20 : nC D ≤ 20 := hI.1.2.1.2
    have hI2 : Iv D' := hI.same hs
    have hN2 : nL D' = nL D := sm_nL hs
    have hC2 : nC D' = nC D := sm_nC hs
    refine go_iload_n 13 dX6_second_12 rfl ?_
    refine go_aload_n 14 dX6_second_13 rfl ?_
    refine gd_get 17 dX6_second_14 fX6_17 rfl ?_
    refine go_bipush 19 dX6_second_17 zb_6 ?_
    refine gd_iald 20 (6) dX6_second_19 rfl (by decide) ?_
    refine go_icmp_ge 53 23 dX6_second_20 (fun h20 => ?_) (fun h20 => ?_)
    · exact (lpG ((hs.low (by decide)).trans hI.1.2.2.1.1) (by omega) (by omega) h20).elim
    · refine go_aload_n 24 dX6_second_23 rfl ?_
      refine go_iload_n 25 dX6_second_24 rfl ?_
      refine go_iconst 26 dX6_second_25 zc_1 ?_
      refine gdV2 29 dX6_second_26 vX6_180 (ct_X6_is rfl (by omega)) ?_
      refine go_if_ne 35 32 dX6_second_29 (fun h29 => ?_) (fun h29 => ?_)
      · refine go_aload_n 36 dX6_second_35 rfl ?_
        refine go_iload_n 37 dX6_second_36 rfl ?_
        refine go_iconst 38 dX6_second_37 zc_0 ?_
        refine gdV2v 41 dX6_second_38 vX6_256 (ct_X6_repeat (s := 0) rfl rfl (by omega) (by decide)) ?_
        refine go_aload_n 42 dX6_second_41 rfl ?_
        refine go_iload_n 43 dX6_second_42 rfl ?_
        refine go_iconst 44 dX6_second_43 zc_1 ?_
        refine gdV2v 47 dX6_second_44 vX6_256 (ct_X6_repeat (s := 1) rfl rfl (by omega) (by decide)) ?_
        refine go_iinc 50 dX6_second_47 rfl (by decide) zc_1 ?_
        refine go_goto 12 dX6_second_50 ?_
        rw [nI_1]
        first
          | (rw [show itr s1Step i (f + 1) D' = itr s1Step (i + 1) f (D') from congrArg (itr s1Step (i + 1) f) (by unfold s1Step; exact if_neg (by first | exact zb_0 h29 | exact zb_0 (Classical.not_not.mp h29)))]; exact go_locals _ rfl (ih (i + 1) (D') (by omega) (hs)))
          | (rw [show itr s1Step i (f + 1) D' = itr s1Step (i + 1) f (repD (repD D' i 0) i 1) from congrArg (itr s1Step (i + 1) f) (by unfold s1Step; exact if_pos (zb_1 h29))]; exact go_locals _ rfl (ih (i + 1) (repD (repD D' i 0) i 1) (by omega) (hs.trans ((sm_rep (by decide)).trans (sm_rep (by decide))))))
      · refine go_goto 47 dX6_second_32 ?_
        refine go_iinc 50 dX6_second_47 rfl (by decide) zc_1 ?_
        refine go_goto 12 dX6_second_50 ?_
        rw [nI_1]
        first
          | (rw [show itr s1Step i (f + 1) D' = itr s1Step (i + 1) f (D') from congrArg (itr s1Step (i + 1) f) (by unfold s1Step; exact if_neg (by first | exact zb_0 h29 | exact zb_0 (Classical.not_not.mp h29)))]; exact go_locals _ rfl (ih (i + 1) (D') (by omega) (hs)))
          | (rw [show itr s1Step i (f + 1) D' = itr s1Step (i + 1) f (repD (repD D' i 0) i 1) from congrArg (itr s1Step (i + 1) f) (by unfold s1Step; exact if_pos (zb_1 h29))]; exact go_locals _ rfl (ih (i + 1) (repD (repD D' i 0) i 1) (by omega) (hs.trans ((sm_rep (by decide)).trans (sm_rep (by decide))))))

set_option maxRecDepth 100000 in
set_option maxHeartbeats 4000000 in
theorem ct_X6_second {l : Launch} {Γ : ZG} {w : ZW} {o : Nat} {S : MS} {D : ZD} (hI : Iv D) : Cm l Γ mX6_second 9 [.ref o] (wD Γ w o S D) (none) (wD Γ w o S (secD D)) := by
  refine Cm.of (by decide) rfl (Nat.le_of_ble_eq_true rfl) ?_
  refine go_aload_n 1 dX6_second_0 rfl ?_
  refine gd_get 4 dX6_second_1 fX6_17 rfl ?_
  refine go_iconst 5 dX6_second_4 zc_0 ?_
  refine go_dup2 6 dX6_second_5 rfl rfl ?_
  refine gd_iald 7 (0) dX6_second_6 rfl (by decide) ?_
  refine go_iconst 8 dX6_second_7 zc_1 ?_
  refine go_iadd 9 dX6_second_8 ?_
  refine gd_iast 10 (0) dX6_second_9 rfl (by decide) ?_
  refine go_iconst 11 dX6_second_10 zc_0 ?_
  refine go_istore_n 12 dX6_second_11 (by decide) ?_
  have q := lp1_X6_second (l := l) (Γ := Γ) (w := w) (o := o) (S := S) (hI.sec0 (v := D 0 + 1)) (nL D) 0 (upd D 0 (D 0 + 1)) (by rw [sec0_nL]; omega) sm_rf
  rw [sec0_nL, sec0_nC] at q
  exact go_locals _ rfl q
end MMut
