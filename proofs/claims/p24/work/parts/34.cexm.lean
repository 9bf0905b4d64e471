section CExM
def erS (r : Int32) (k : Nat) (D : ZD) : ZD := if dL D k 2 = 0 then endD D k r else D
noncomputable def atS (p r : Int32) (k : Nat) (x : ZD × Int32) : ZD × Int32 := @ite _ (dL x.1 k 2 = 0 ∧ dL x.1 k 1 = p) (Classical.propDecidable _) (@ite _ (rngs (endD x.1 k r) (dL (endD x.1 k r) k 0)) (Classical.propDecidable _) (endD x.1 k r) (failD (endD x.1 k r) (ofN (endD x.1 k r) k)), x.2 + 1) x
noncomputable def ansC (D : ZD) (sg : ZSg) (k : Nat) : ZD := (itr (atS (dL (itr (erS 2) (sg (ofN D k)).1 ((sg (ofN D k)).2 - (sg (ofN D k)).1) (ans3 D k)) k 1) 1) 0 (nL D) (itr (erS 2) (sg (ofN D k)).1 ((sg (ofN D k)).2 - (sg (ofN D k)).1) (ans3 D k), 0)).1
noncomputable def ansE (D : ZD) (sg : ZSg) (k : Nat) : ZD := if dC (ansC D sg k) (ofN D k) 3 = -1 then ansC D sg k else if dL (ansC D sg k) (rf (ansC D sg k) (ofN D k)) 2 = 2 then tally (endD (ansC D sg k) (rf (ansC D sg k) (ofN D k)) 7) 6 else ansC D sg k
theorem CR.othr {D0 D : ZD} {g : Option Nat} {sg : ZSg} {E : ES} (h : CR D0 g sg E D) {k : Nat} (hk : k < nL D0) : (if 1 - dL D k 6 = 0 then clr D k else dL D k 1) = nI (othr D k) ∧ othr D k < nP D0 := by
  have ho := h.of hk
  have h1 := h.ca ho.2
  have h2 := h.ce hk
  show (if 1 - dL D k 6 = 0 then clr D k else dL D k 1) = nI (if 1 - dL D k 6 = 0 then caN D (ofN D k) else ceN D k) ∧ (if 1 - dL D k 6 = 0 then caN D (ofN D k) else ceN D k) < nP D0
  split
  · exact ⟨h1.1, h1.2⟩
  · exact ⟨h2.1, h2.2⟩
set_option maxRecDepth 100000 in
set_option maxHeartbeats 4000000 in
theorem cx_X0_dropOffers {D0 D : ZD} {g : Option Nat} {sg : ZSg} {E : ES} {l : Launch} {Γ : ZG} {w : ZW} {e : Nat} (h : CR D0 g sg E D) {k : Nat} {x : Int32} (hx : x = nI k) (hk : k < nL D0) : Ct l Γ mX0_dropOffers 2 0 0 [.ref e, .int x] (wE Γ w e E) (PvE Γ w e (none) (fun E' => CR D0 g sg E' (dropD D k))) zNo := by
  refine Ct.of (by decide) rfl (Nat.le_of_ble_eq_true rfl) ?_
  refine go_aload_n 1 dX0_dropOffers_0 rfl ?_
  refine xe_get 4 dX0_dropOffers_1 fX0_23 rfl ?_
  refine go_iload_n 5 dX0_dropOffers_4 rfl ?_
  refine go_bipush 7 dX0_dropOffers_5 zb_6 ?_
  refine go_iconst 8 dX0_dropOffers_7 zc_m1 ?_
  refine gxX3v 11 dX0_dropOffers_8 vX0_57 h.tL rfl (cs_L (k := k) (j := 6) h hx rfl hk (by decide) (by decide)) (fun E8 r8 => ?_)
  refine go_aload_n 12 dX0_dropOffers_11 rfl ?_
  refine xe_get 15 dX0_dropOffers_12 fX0_23 rfl ?_
  refine go_iload_n 16 dX0_dropOffers_15 rfl ?_
  refine go_bipush 18 dX0_dropOffers_16 zb_9 ?_
  refine go_iconst 19 dX0_dropOffers_18 zc_m1 ?_
  refine gxX3v 22 dX0_dropOffers_19 vX0_57 r8.tL rfl (cs_L (k := k) (j := 9) r8 hx rfl hk (by decide) (by decide)) (fun E19 r19 => ?_)
  refine go_aload_n 23 dX0_dropOffers_22 rfl ?_
  refine xe_get 26 dX0_dropOffers_23 fX0_23 rfl ?_
  refine go_iload_n 27 dX0_dropOffers_26 rfl ?_
  refine go_bipush 29 dX0_dropOffers_27 zb_10 ?_
  refine go_iconst 30 dX0_dropOffers_29 zc_m1 ?_
  refine gxX3v 33 dX0_dropOffers_30 vX0_57 r19.tL rfl (cs_L (k := k) (j := 10) r19 hx rfl hk (by decide) (by decide)) (fun E30 r30 => ?_)
  exact go_return dX0_dropOffers_33 rfl (by omega) (by omega) (⟨rfl, _, rfl, r30⟩)
set_option maxRecDepth 100000 in
set_option maxHeartbeats 4000000 in
theorem cx_X0_endLeg {D0 D : ZD} {g : Option Nat} {sg : ZSg} {E : ES} {l : Launch} {Γ : ZG} {w : ZW} {e : Nat} (h : CR D0 g sg E D) {k : Nat} {x : Int32} (hx : x = nI k) (hk : k < nL D0) {r : Int32} : Ct l Γ mX0_endLeg 3 0 0 [.ref e, .int x, .int r] (wE Γ w e E) (PvE Γ w e (none) (fun E' => CR D0 g sg E' (endD D k r))) zNo := by
  refine Ct.of (by decide) rfl (Nat.le_of_ble_eq_true rfl) ?_
  refine go_aload_n 1 dX0_endLeg_0 rfl ?_
  refine xe_get 4 dX0_endLeg_1 fX0_23 rfl ?_
  refine go_iload_n 5 dX0_endLeg_4 rfl ?_
  refine go_iconst 6 dX0_endLeg_5 zc_2 ?_
  refine go_iconst 7 dX0_endLeg_6 zc_3 ?_
  refine gxX3v 10 dX0_endLeg_7 vX0_57 h.tL rfl (cs_L (k := k) (j := 2) h hx rfl hk (by decide) (by decide)) (fun E7 r7 => ?_)
  refine go_aload_n 11 dX0_endLeg_10 rfl ?_
  refine xe_get 14 dX0_endLeg_11 fX0_23 rfl ?_
  refine go_iload_n 15 dX0_endLeg_14 rfl ?_
  refine go_iconst 16 dX0_endLeg_15 zc_3 ?_
  refine go_iload_n 17 dX0_endLeg_16 rfl ?_
  refine gxX3v 20 dX0_endLeg_17 vX0_57 r7.tL rfl (cs_L (k := k) (j := 3) r7 hx rfl hk (by decide) (by decide)) (fun E17 r17 => ?_)
  refine go_aload_n 21 dX0_endLeg_20 rfl ?_
  refine go_iload_n 22 dX0_endLeg_21 rfl ?_
  refine gxX1v 25 dX0_endLeg_22 vX0_101 wE_at0 rfl (cx_X0_dropOffers r17 hx hk) (fun E22 r22 => ?_)
  exact go_return dX0_endLeg_25 rfl (by omega) (by omega) (⟨rfl, _, rfl, r22⟩)
set_option maxRecDepth 100000 in
set_option maxHeartbeats 4000000 in
theorem cx_X0_tally {D0 D : ZD} {g : Option Nat} {sg : ZSg} {E : ES} {l : Launch} {Γ : ZG} {w : ZW} {e : Nat} (h : CR D0 g sg E D) {t : Nat} {x : Int32} (hx : x = nI t) (ht : t < 7) : Ct l Γ mX0_tally 2 0 0 [.ref e, .int x] (wE Γ w e E) (PvE Γ w e (none) (fun E' => CR D0 g sg E' (tally D t))) zNo := by
  refine Ct.of (by decide) rfl (Nat.le_of_ble_eq_true rfl) ?_
  refine go_aload_n 1 dX0_tally_0 rfl ?_
  refine xe_get 4 dX0_tally_1 fX0_26 rfl ?_
  refine go_iconst 5 dX0_tally_4 zc_0 ?_
  refine go_iload_n 6 dX0_tally_5 rfl ?_
  refine go_aload_n 7 dX0_tally_6 rfl ?_
  refine xe_get 10 dX0_tally_7 fX0_26 rfl ?_
  refine go_iconst 11 dX0_tally_10 zc_0 ?_
  refine go_iload_n 12 dX0_tally_11 rfl ?_
  refine gcV2 15 dX0_tally_12 vX0_64 h.tT rfl (cg_T (j := t) h hx ht) ?_
  refine go_iconst 16 dX0_tally_15 zc_1 ?_
  refine go_iadd 17 dX0_tally_16 ?_
  refine gxX3v 20 dX0_tally_17 vX0_57 h.tT rfl (cs_T (j := t) h hx ht) (fun E17 r17 => ?_)
  exact go_return dX0_tally_20 rfl (by omega) (by omega) (⟨rfl, _, rfl, r17⟩)
set_option maxRecDepth 100000 in
set_option maxHeartbeats 4000000 in
theorem cx_X0_resumeReferrer {D0 D : ZD} {g : Option Nat} {sg : ZSg} {E : ES} {l : Launch} {Γ : ZG} {w : ZW} {e : Nat} (h : CR D0 g sg E D) {c : Nat} {x : Int32} (hx : x = nI c) (hc : c < nC D0) : Ct l Γ mX0_resumeReferrer 2 0 0 [.ref e, .int x] (wE Γ w e E) (PvE Γ w e (none) (fun E' => CR D0 g sg E' (takeB D c))) zNo := by
  refine Ct.of (by decide) rfl (Nat.le_of_ble_eq_true rfl) ?_
  refine go_aload_n 1 dX0_resumeReferrer_0 rfl ?_
  refine xe_get 4 dX0_resumeReferrer_1 fX0_20 rfl ?_
  refine go_iload_n 5 dX0_resumeReferrer_4 rfl ?_
  refine go_iconst 6 dX0_resumeReferrer_5 zc_3 ?_
  refine gcV2 9 dX0_resumeReferrer_6 vX0_64 h.tC rfl (cg_C (k := c) (j := 3) h hx rfl hc (by decide)) ?_
  refine go_istore_n 10 dX0_resumeReferrer_9 (by decide) ?_
  refine go_iload_n 11 dX0_resumeReferrer_10 rfl ?_
  refine go_iconst 12 dX0_resumeReferrer_11 zc_m1 ?_
  refine go_icmp_eq 38 15 dX0_resumeReferrer_12 (fun h12 => ?_) (fun h12 => ?_)
  · exact go_return dX0_resumeReferrer_38 rfl (by omega) (by omega) (⟨rfl, _, rfl, by unfold takeB; first | (rw [if_pos (by first | exact h12 | exact Classical.not_not.mp h12)]; exact h) | (rw [if_neg h12, if_pos (by first | exact h25 | exact Classical.not_not.mp h25)]; exact h) | (rw [if_neg h12, if_neg h25]; exact h)⟩)
  · have hrf := (h.rfk hc).resolve_left h12
    refine go_aload_n 16 dX0_resumeReferrer_15 rfl ?_
    refine xe_get 19 dX0_resumeReferrer_16 fX0_23 rfl ?_
    refine go_iload_n 20 dX0_resumeReferrer_19 rfl ?_
    refine go_iconst 21 dX0_resumeReferrer_20 zc_2 ?_
    refine gcV2 24 dX0_resumeReferrer_21 vX0_64 h.tL rfl (cg_L (k := rf D c) (j := 2) h hrf.1 rfl hrf.2 (by decide)) ?_
    refine go_iconst 25 dX0_resumeReferrer_24 zc_2 ?_
    refine go_icmp_ne 38 28 dX0_resumeReferrer_25 (fun h25 => ?_) (fun h25 => ?_)
    · exact go_return dX0_resumeReferrer_38 rfl (by omega) (by omega) (⟨rfl, _, rfl, by unfold takeB; first | (rw [if_pos (by first | exact h12 | exact Classical.not_not.mp h12)]; exact h) | (rw [if_neg h12, if_pos (by first | exact h25 | exact Classical.not_not.mp h25)]; exact h) | (rw [if_neg h12, if_neg h25]; exact h)⟩)
    · refine go_aload_n 29 dX0_resumeReferrer_28 rfl ?_
      refine xe_get 32 dX0_resumeReferrer_29 fX0_23 rfl ?_
      refine go_iload_n 33 dX0_resumeReferrer_32 rfl ?_
      refine go_iconst 34 dX0_resumeReferrer_33 zc_2 ?_
      refine go_iconst 35 dX0_resumeReferrer_34 zc_1 ?_
      refine gxX3v 38 dX0_resumeReferrer_35 vX0_57 h.tL rfl (cs_L (k := rf D c) (j := 2) h hrf.1 rfl hrf.2 (by decide) (by decide)) (fun E35 r35 => ?_)
      exact go_return dX0_resumeReferrer_38 rfl (by omega) (by omega) (⟨rfl, _, rfl, by unfold takeB; first | (rw [if_pos (by first | exact h12 | exact Classical.not_not.mp h12)]; exact r35) | (rw [if_neg h12, if_pos (by first | exact h25 | exact Classical.not_not.mp h25)]; exact r35) | (rw [if_neg h12, if_neg h25]; exact r35)⟩)
set_option maxRecDepth 100000 in
set_option maxHeartbeats 4000000 in
theorem cx_X0_failCall {D0 D : ZD} {g : Option Nat} {sg : ZSg} {E : ES} {l : Launch} {Γ : ZG} {w : ZW} {e : Nat} (h : CR D0 g sg E D) {c : Nat} {x : Int32} (hx : x = nI c) (hc : c < nC D0) : Ct l Γ mX0_failCall 3 0 0 [.ref e, .int x] (wE Γ w e E) (PvE Γ w e (none) (fun E' => CR D0 g sg E' (failD D c))) zNo := by
  refine Ct.of (by decide) rfl (Nat.le_of_ble_eq_true rfl) ?_
  refine go_aload_n 1 dX0_failCall_0 rfl ?_
  refine go_iconst 2 dX0_failCall_1 zc_5 ?_
  refine gxX1v 5 dX0_failCall_2 vX0_132 wE_at0 rfl (cx_X0_tally h (t := 5) rfl (by decide)) (fun E2 r2 => ?_)
  refine go_aload_n 6 dX0_failCall_5 rfl ?_
  refine go_iload_n 7 dX0_failCall_6 rfl ?_
  refine gxX1v 10 dX0_failCall_7 vX0_120 wE_at0 rfl (cx_X0_resumeReferrer r2 hx hc) (fun E7 r7 => ?_)
  exact go_return dX0_failCall_10 rfl (by omega) (by omega) (⟨rfl, _, rfl, r7⟩)
set_option maxRecDepth 100000 in
set_option maxHeartbeats 4000000 in
theorem lp_X0_endRinging {D0 : ZD} {g : Option Nat} {sg : ZSg} {l : Launch} {Γ : ZG} {w : ZW} {e : Nat} (hs : SegD sg D0) {c : Nat} {x r : Int32} (hx : x = nI c) (hc : c < nC D0) : ∀ (f i : Nat) (E : ES) (D : ZD), CR D0 g sg E D → i + f = (sg c).2 → Go l Γ mX0_endRinging 4 0 0 (PvE Γ w e (none) (fun E' => CR D0 g sg E' (itr (erS r) i f D))) zNo 0 0 (wE Γ w e E) 11 [(0, .ref e), (1, .int x), (2, .int r), (3, .int (nI i))] [] := by
  intro f
  induction f with
  | zero =>
    intro i E D h hif
    have h40 := h.L40
    have h20 := h.C20
    obtain ⟨s1, s2, -⟩ := hs c hc
    refine go_iload_n 12 dX0_endRinging_11 rfl ?_
    refine go_aload_n 13 dX0_endRinging_12 rfl ?_
    refine xe_get 16 dX0_endRinging_13 fX0_20 rfl ?_
    refine go_iload_n 17 dX0_endRinging_16 rfl ?_
    refine go_bipush 19 dX0_endRinging_17 zb_7 ?_
    refine gcV2 22 dX0_endRinging_19 vX0_64 h.tC rfl (cg_C7 (k := c) h hx hc) ?_
    refine go_icmp_ge 49 25 dX0_endRinging_22 (fun h22 => ?_) (fun h22 => ?_)
    · exact go_return dX0_endRinging_49 rfl (by omega) (by omega) (⟨rfl, _, rfl, h⟩)
    · exact (lpE (a := nI ((sg c).2)) (N := (sg c).2) rfl (by omega) h22).elim
  | succ f ih =>
    intro i E D h hif
    have h40 := h.L40
    have h20 := h.C20
    obtain ⟨s1, s2, -⟩ := hs c hc
    refine go_iload_n 12 dX0_endRinging_11 rfl ?_
    refine go_aload_n 13 dX0_endRinging_12 rfl ?_
    refine xe_get 16 dX0_endRinging_13 fX0_20 rfl ?_
    refine go_iload_n 17 dX0_endRinging_16 rfl ?_
    refine go_bipush 19 dX0_endRinging_17 zb_7 ?_
    refine gcV2 22 dX0_endRinging_19 vX0_64 h.tC rfl (cg_C7 (k := c) h hx hc) ?_
    refine go_icmp_ge 49 25 dX0_endRinging_22 (fun h22 => ?_) (fun h22 => ?_)
    · exact (lpG (a := nI ((sg c).2)) (N := (sg c).2) rfl (by omega) (by omega) h22).elim
    · refine go_aload_n 26 dX0_endRinging_25 rfl ?_
      refine xe_get 29 dX0_endRinging_26 fX0_23 rfl ?_
      refine go_iload_n 30 dX0_endRinging_29 rfl ?_
      refine go_iconst 31 dX0_endRinging_30 zc_2 ?_
      refine gcV2 34 dX0_endRinging_31 vX0_64 h.tL rfl (cg_L (k := i) (j := 2) h rfl rfl (by omega) (by decide)) ?_
      refine go_if_ne 43 37 dX0_endRinging_34 (fun h34 => ?_) (fun h34 => ?_)
      · refine go_iinc 46 dX0_endRinging_43 rfl (by decide) zc_1 ?_
        refine go_goto 11 dX0_endRinging_46 ?_
        rw [nI_1, show itr (erS r) i (f + 1) D = itr (erS r) (i + 1) f (erS r i D) from rfl, show erS r i D = _ from if_neg h34]
        exact go_locals _ rfl (ih (i + 1) _ _ h (by omega))
      · refine go_aload_n 38 dX0_endRinging_37 rfl ?_
        refine go_iload_n 39 dX0_endRinging_38 rfl ?_
        refine go_iload_n 40 dX0_endRinging_39 rfl ?_
        refine gxX2v 43 dX0_endRinging_40 vX0_110 wE_at0 rfl (cx_X0_endLeg (k := i) h rfl (by omega)) (fun E40 r40 => ?_)
        refine go_iinc 46 dX0_endRinging_43 rfl (by decide) zc_1 ?_
        refine go_goto 11 dX0_endRinging_46 ?_
        rw [nI_1, show itr (erS r) i (f + 1) D = itr (erS r) (i + 1) f (erS r i D) from rfl, show erS r i D = _ from if_pos (by first | exact h34 | exact Classical.not_not.mp h34)]
        exact go_locals _ rfl (ih (i + 1) _ _ r40 (by omega))
set_option maxRecDepth 100000 in
set_option maxHeartbeats 4000000 in
theorem cx_X0_endRinging {D0 D : ZD} {g : Option Nat} {sg : ZSg} {E : ES} {l : Launch} {Γ : ZG} {w : ZW} {e : Nat} (h : CR D0 g sg E D) (hs : SegD sg D0) {c : Nat} {x : Int32} (hx : x = nI c) (hc : c < nC D0) {r : Int32} : Ct l Γ mX0_endRinging 4 0 0 [.ref e, .int x, .int r] (wE Γ w e E) (PvE Γ w e (none) (fun E' => CR D0 g sg E' (itr (erS r) (sg c).1 ((sg c).2 - (sg c).1) D))) zNo := by
  refine Ct.of (by decide) rfl (Nat.le_of_ble_eq_true rfl) ?_
  refine go_aload_n 1 dX0_endRinging_0 rfl ?_
  refine xe_get 4 dX0_endRinging_1 fX0_20 rfl ?_
  refine go_iload_n 5 dX0_endRinging_4 rfl ?_
  refine go_bipush 7 dX0_endRinging_5 zb_6 ?_
  refine gcV2 10 dX0_endRinging_7 vX0_64 h.tC rfl (cg_C6 (k := c) h hx hc) ?_
  refine go_istore_n 11 dX0_endRinging_10 (by decide) ?_
  obtain ⟨s1, s2, -⟩ := hs c hc
  exact go_locals _ rfl (lp_X0_endRinging hs hx hc ((sg c).2 - (sg c).1) (sg c).1 E D h (by omega))
set_option maxRecDepth 100000 in
set_option maxHeartbeats 4000000 in
theorem lp_X0_endRingingAt {D0 : ZD} {g : Option Nat} {sg : ZSg} {l : Launch} {Γ : ZG} {w : ZW} {e : Nat} (hs : SegD sg D0) {p r : Int32} : ∀ (f i : Nat) (E : ES) (D : ZD) (a : Int32), CR D0 g sg E D → i + f = nL D0 → Go l Γ mX0_endRingingAt 4 0 0 (PvE Γ w e (some (.int (itr (atS p r) i f (D, a)).2)) (fun E' => CR D0 g sg E' ((itr (atS p r) i f (D, a)).1))) zNo 0 0 (wE Γ w e E) 5 [(0, .ref e), (1, .int p), (2, .int r), (3, .int a), (4, .int (nI i))] [] := by
  intro f
  induction f with
  | zero =>
    intro i E D a h hif
    have h40 := h.L40
    have h20 := h.C20
    refine go_iload 7 dX0_endRingingAt_5 rfl ?_
    refine go_aload_n 8 dX0_endRingingAt_7 rfl ?_
    refine xe_get 11 dX0_endRingingAt_8 fX0_23 rfl ?_
    refine xe_rL 14 h dX0_endRingingAt_11 fX0_61 ?_
    refine go_icmp_ge 70 17 dX0_endRingingAt_14 (fun h14 => ?_) (fun h14 => ?_)
    · refine go_iload_n 71 dX0_endRingingAt_70 rfl ?_
      exact go_ireturn dX0_endRingingAt_71 rfl (by omega) (by omega) (⟨rfl, _, rfl, h⟩)
    · exact (lpE (a := nI (nL D0)) (N := nL D0) rfl (by omega) h14).elim
  | succ f ih =>
    intro i E D a h hif
    have h40 := h.L40
    have h20 := h.C20
    refine go_iload 7 dX0_endRingingAt_5 rfl ?_
    refine go_aload_n 8 dX0_endRingingAt_7 rfl ?_
    refine xe_get 11 dX0_endRingingAt_8 fX0_23 rfl ?_
    refine xe_rL 14 h dX0_endRingingAt_11 fX0_61 ?_
    refine go_icmp_ge 70 17 dX0_endRingingAt_14 (fun h14 => ?_) (fun h14 => ?_)
    · exact (lpG (a := nI (nL D0)) (N := nL D0) rfl (by omega) (by omega) h14).elim
    · refine go_aload_n 18 dX0_endRingingAt_17 rfl ?_
      refine go_iload 20 dX0_endRingingAt_18 rfl ?_
      refine go_iload_n 21 dX0_endRingingAt_20 rfl ?_
      refine gcV2 24 dX0_endRingingAt_21 vX0_68 wE_at0 rfl (cx_X0_ringsAt h (k := i) rfl (by omega)) ?_
      refine go_if_eq 64 27 dX0_endRingingAt_24 (fun h24 => ?_) (fun h24 => ?_)
      · refine go_iinc 67 dX0_endRingingAt_64 rfl (by decide) zc_1 ?_
        refine go_goto 5 dX0_endRingingAt_67 ?_
        rw [nI_1, show itr (atS p r) i (f + 1) (D, a) = itr (atS p r) (i + 1) f (atS p r i (D, a)) from rfl, show atS p r i (D, a) = (D, a) from if_neg (zb_0 (by first | exact h24 | exact Classical.not_not.mp h24))]
        exact go_locals [(0, .ref e), (1, .int p), (2, .int r), (3, .int a), (4, .int (nI (i + 1)))] rfl (ih (i + 1) _ _ a h (by omega))
      · have hrg := zb_1 h24
        refine go_aload_n 28 dX0_endRingingAt_27 rfl ?_
        refine go_iload 30 dX0_endRingingAt_28 rfl ?_
        refine go_iload_n 31 dX0_endRingingAt_30 rfl ?_
        refine gxX2v 34 dX0_endRingingAt_31 vX0_110 wE_at0 rfl (cx_X0_endLeg (k := i) h rfl (by omega)) (fun E31 r31 => ?_)
        refine go_iinc 37 dX0_endRingingAt_34 rfl (by decide) zc_1 ?_
        refine go_aload_n 38 dX0_endRingingAt_37 rfl ?_
        refine xe_get 41 dX0_endRingingAt_38 fX0_23 rfl ?_
        refine go_iload 43 dX0_endRingingAt_41 rfl ?_
        refine go_iconst 44 dX0_endRingingAt_43 zc_0 ?_
        refine gcV2 47 dX0_endRingingAt_44 vX0_64 r31.tL rfl (cg_L (k := i) (j := 0) r31 rfl rfl (by omega) (by decide)) ?_
        refine go_istore 49 dX0_endRingingAt_47 (by decide) ?_
        refine go_aload_n 50 dX0_endRingingAt_49 rfl ?_
        refine go_iload 52 dX0_endRingingAt_50 rfl ?_
        refine gcV1 55 dX0_endRingingAt_52 vX0_148 wE_at0 rfl (cx_X0_rings r31 hs (c := ofN (endD D i r) i) (r31.of (by omega)).1 (r31.of (by omega)).2) ?_
        refine go_if_ne 64 58 dX0_endRingingAt_55 (fun h55 => ?_) (fun h55 => ?_)
        · refine go_iinc 67 dX0_endRingingAt_64 rfl (by decide) zc_1 ?_
          refine go_goto 5 dX0_endRingingAt_67 ?_
          rw [nI_1, show itr (atS p r) i (f + 1) (D, a) = itr (atS p r) (i + 1) f (atS p r i (D, a)) from rfl, show atS p r i (D, a) = (endD D i r, a + 1) from (if_pos hrg).trans (congrArg (fun z => (z, a + 1)) (if_pos (by rw [(r31.of (by omega)).1]; exact zb_1 h55)))]
          exact go_locals [(0, .ref e), (1, .int p), (2, .int r), (3, .int (a + 1)), (4, .int (nI (i + 1)))] rfl (ih (i + 1) _ _ (a + 1) r31 (by omega))
        · refine go_aload_n 59 dX0_endRingingAt_58 rfl ?_
          refine go_iload 61 dX0_endRingingAt_59 rfl ?_
          refine gxX1v 64 dX0_endRingingAt_61 vX0_91 wE_at0 rfl (cx_X0_failCall r31 (c := ofN (endD D i r) i) (r31.of (by omega)).1 (r31.of (by omega)).2) (fun E61 r61 => ?_)
          refine go_iinc 67 dX0_endRingingAt_64 rfl (by decide) zc_1 ?_
          refine go_goto 5 dX0_endRingingAt_67 ?_
          rw [nI_1, show itr (atS p r) i (f + 1) (D, a) = itr (atS p r) (i + 1) f (atS p r i (D, a)) from rfl, show atS p r i (D, a) = (failD (endD D i r) (ofN (endD D i r) i), a + 1) from (if_pos hrg).trans (congrArg (fun z => (z, a + 1)) (if_neg (by rw [(r31.of (by omega)).1]; exact zb_0 (by first | exact h55 | exact Classical.not_not.mp h55))))]
          exact go_locals [(0, .ref e), (1, .int p), (2, .int r), (3, .int (a + 1)), (4, .int (nI (i + 1)))] rfl (ih (i + 1) _ _ (a + 1) r61 (by omega))
set_option maxRecDepth 100000 in
set_option maxHeartbeats 4000000 in
theorem cx_X0_endRingingAt {D0 D : ZD} {g : Option Nat} {sg : ZSg} {E : ES} {l : Launch} {Γ : ZG} {w : ZW} {e : Nat} (h : CR D0 g sg E D) (hs : SegD sg D0) {p r : Int32} : Ct l Γ mX0_endRingingAt 4 0 0 [.ref e, .int p, .int r] (wE Γ w e E) (PvE Γ w e (some (.int (itr (atS p r) 0 (nL D) (D, 0)).2)) (fun E' => CR D0 g sg E' ((itr (atS p r) 0 (nL D) (D, 0)).1))) zNo := by
  refine Ct.of (by decide) rfl (Nat.le_of_ble_eq_true rfl) ?_
  refine go_iconst 1 dX0_endRingingAt_0 zc_0 ?_
  refine go_istore_n 2 dX0_endRingingAt_1 (by decide) ?_
  refine go_iconst 3 dX0_endRingingAt_2 zc_0 ?_
  refine go_istore 5 dX0_endRingingAt_3 (by decide) ?_
  rw [h.eqL]
  exact go_locals _ rfl (lp_X0_endRingingAt hs (nL D0) 0 E D 0 h (by omega))
set_option maxRecDepth 100000 in
set_option maxHeartbeats 4000000 in
theorem cx_X0_setOffer {D0 D : ZD} {g : Option Nat} {sg : ZSg} {E : ES} {l : Launch} {Γ : ZG} {w : ZW} {e : Nat} (h : CR D0 g sg E D) {k : Nat} {x : Int32} (hx : x = nI k) (hk : k < nL D0) {y v : Int32} : Ct l Γ mX0_setOffer 2 0 0 [.ref e, .int x, .int y, .int v] (wE Γ w e E) (PvE Γ w e (none) (fun E' => CR D0 g sg E' (layD D k y v))) zNo := by
  refine Ct.of (by decide) rfl (Nat.le_of_ble_eq_true rfl) ?_
  refine go_aload_n 1 dX0_setOffer_0 rfl ?_
  refine xe_get 4 dX0_setOffer_1 fX0_23 rfl ?_
  refine go_iload_n 5 dX0_setOffer_4 rfl ?_
  refine go_bipush 7 dX0_setOffer_5 zb_6 ?_
  refine go_iload_n 8 dX0_setOffer_7 rfl ?_
  refine gxX3v 11 dX0_setOffer_8 vX0_57 h.tL rfl (cs_L (k := k) (j := 6) h hx rfl hk (by decide) (by decide)) (fun E8 r8 => ?_)
  refine go_aload_n 12 dX0_setOffer_11 rfl ?_
  refine xe_get 15 dX0_setOffer_12 fX0_23 rfl ?_
  refine go_iload_n 16 dX0_setOffer_15 rfl ?_
  refine go_bipush 18 dX0_setOffer_16 zb_7 ?_
  refine go_iload_n 19 dX0_setOffer_18 rfl ?_
  refine gxX3v 22 dX0_setOffer_19 vX0_57 r8.tL rfl (cs_L (k := k) (j := 7) r8 hx rfl hk (by decide) (by decide)) (fun E19 r19 => ?_)
  refine go_aload_n 23 dX0_setOffer_22 rfl ?_
  refine xe_get 26 dX0_setOffer_23 fX0_23 rfl ?_
  refine go_iload_n 27 dX0_setOffer_26 rfl ?_
  refine go_bipush 29 dX0_setOffer_27 zb_8 ?_
  refine go_aload_n 30 dX0_setOffer_29 rfl ?_
  refine xe_fld 5 0 33 r19 dX0_setOffer_30 fX0_50 (by decide) ?_
  refine gxX3v 36 dX0_setOffer_33 vX0_57 r19.tL rfl (cs_L (k := k) (j := 8) r19 hx rfl hk (by decide) (by decide)) (fun E33 r33 => ?_)
  exact go_return dX0_setOffer_36 rfl (by omega) (by omega) (⟨rfl, _, rfl, r33⟩)
set_option maxRecDepth 100000 in
set_option maxHeartbeats 4000000 in
theorem cx_X0_planRepetition {D0 D : ZD} {g : Option Nat} {sg : ZSg} {E : ES} {l : Launch} {Γ : ZG} {w : ZW} {e : Nat} (h : CR D0 g sg E D) {k : Nat} {x : Int32} (hx : x = nI k) (hk : k < nL D0) {s : Nat} {v : Int32} (hs : s < 2) : Ct l Γ mX0_planRepetition 2 0 0 [.ref e, .int x, .int (nI s), .int v] (wE Γ w e E) (PvE Γ w e (none) (fun E' => CR D0 g sg E' (setL (setL D k (9 + s) (D 0 + (if s = 0 then D 1 else D 2))) k (11 + s) v))) zNo := by
  refine Ct.of (by decide) rfl (Nat.le_of_ble_eq_true rfl) ?_
  refine go_iload_n 1 dX0_planRepetition_0 rfl ?_
  refine go_if_ne 11 4 dX0_planRepetition_1 (fun h1 => ?_) (fun h1 => ?_)
  · have hs0 : ¬ s = 0 := fun q => h1 (by rw [q]; rfl)
    refine go_aload_n 12 dX0_planRepetition_11 rfl ?_
    refine xe_fld 7 2 15 h dX0_planRepetition_12 fX0_33 (by decide) ?_
    refine go_istore 17 dX0_planRepetition_15 (by decide) ?_
    refine go_aload_n 18 dX0_planRepetition_17 rfl ?_
    refine xe_get 21 dX0_planRepetition_18 fX0_23 rfl ?_
    refine go_iload_n 22 dX0_planRepetition_21 rfl ?_
    refine go_bipush 24 dX0_planRepetition_22 zb_9 ?_
    refine go_iload_n 25 dX0_planRepetition_24 rfl ?_
    refine go_iadd 26 dX0_planRepetition_25 ?_
    refine go_aload_n 27 dX0_planRepetition_26 rfl ?_
    refine xe_fld 5 0 30 h dX0_planRepetition_27 fX0_50 (by decide) ?_
    refine go_iload 32 dX0_planRepetition_30 rfl ?_
    refine go_iadd 33 dX0_planRepetition_32 ?_
    refine gxX3v 36 dX0_planRepetition_33 vX0_57 h.tL rfl (cs_L (k := k) (j := 9 + s) h hx (ix2 9 s _ rfl) hk (by omega) (by omega)) (fun E33 r33 => ?_)
    refine go_aload_n 37 dX0_planRepetition_36 rfl ?_
    refine xe_get 40 dX0_planRepetition_37 fX0_23 rfl ?_
    refine go_iload_n 41 dX0_planRepetition_40 rfl ?_
    refine go_bipush 43 dX0_planRepetition_41 zb_11 ?_
    refine go_iload_n 44 dX0_planRepetition_43 rfl ?_
    refine go_iadd 45 dX0_planRepetition_44 ?_
    refine go_iload_n 46 dX0_planRepetition_45 rfl ?_
    refine gxX3v 49 dX0_planRepetition_46 vX0_57 r33.tL rfl (cs_L (k := k) (j := 11 + s) r33 hx (ix2 11 s _ rfl) hk (by omega) (by omega)) (fun E46 r46 => ?_)
    exact go_return dX0_planRepetition_49 rfl (by omega) (by omega) (⟨rfl, _, rfl, by first | (rw [if_pos hs0]; exact r46) | (rw [if_neg hs0]; exact r46)⟩)
  · have hs0 : s = 0 := (nI_eq (b := 0) (by omega) (by decide)).mp (by first | exact h1 | exact Classical.not_not.mp h1)
    refine go_aload_n 5 dX0_planRepetition_4 rfl ?_
    refine xe_fld 6 1 8 h dX0_planRepetition_5 fX0_29 (by decide) ?_
    refine go_goto 15 dX0_planRepetition_8 ?_
    refine go_istore 17 dX0_planRepetition_15 (by decide) ?_
    refine go_aload_n 18 dX0_planRepetition_17 rfl ?_
    refine xe_get 21 dX0_planRepetition_18 fX0_23 rfl ?_
    refine go_iload_n 22 dX0_planRepetition_21 rfl ?_
    refine go_bipush 24 dX0_planRepetition_22 zb_9 ?_
    refine go_iload_n 25 dX0_planRepetition_24 rfl ?_
    refine go_iadd 26 dX0_planRepetition_25 ?_
    refine go_aload_n 27 dX0_planRepetition_26 rfl ?_
    refine xe_fld 5 0 30 h dX0_planRepetition_27 fX0_50 (by decide) ?_
    refine go_iload 32 dX0_planRepetition_30 rfl ?_
    refine go_iadd 33 dX0_planRepetition_32 ?_
    refine gxX3v 36 dX0_planRepetition_33 vX0_57 h.tL rfl (cs_L (k := k) (j := 9 + s) h hx (ix2 9 s _ rfl) hk (by omega) (by omega)) (fun E33 r33 => ?_)
    refine go_aload_n 37 dX0_planRepetition_36 rfl ?_
    refine xe_get 40 dX0_planRepetition_37 fX0_23 rfl ?_
    refine go_iload_n 41 dX0_planRepetition_40 rfl ?_
    refine go_bipush 43 dX0_planRepetition_41 zb_11 ?_
    refine go_iload_n 44 dX0_planRepetition_43 rfl ?_
    refine go_iadd 45 dX0_planRepetition_44 ?_
    refine go_iload_n 46 dX0_planRepetition_45 rfl ?_
    refine gxX3v 49 dX0_planRepetition_46 vX0_57 r33.tL rfl (cs_L (k := k) (j := 11 + s) r33 hx (ix2 11 s _ rfl) hk (by omega) (by omega)) (fun E46 r46 => ?_)
    exact go_return dX0_planRepetition_49 rfl (by omega) (by omega) (⟨rfl, _, rfl, by first | (rw [if_pos hs0]; exact r46) | (rw [if_neg hs0]; exact r46)⟩)
set_option maxRecDepth 100000 in
set_option maxHeartbeats 4000000 in
theorem cx_X0_repeatOffer {D0 D : ZD} {g : Option Nat} {sg : ZSg} {E : ES} {l : Launch} {Γ : ZG} {w : ZW} {e : Nat} (h : CR D0 g sg E D) {k : Nat} {x : Int32} (hx : x = nI k) (hk : k < nL D0) {s : Nat} {y : Int32} (hy : y = nI s) (hs : s < 2) : Ct l Γ mX0_repeatOffer 3 0 0 [.ref e, .int x, .int y] (wE Γ w e E) (PvE Γ w e (none) (fun E' => CR D0 g sg E' (repD D k s))) zNo := by
  refine Ct.of (by decide) rfl (Nat.le_of_ble_eq_true rfl) ?_
  refine go_aload_n 1 dX0_repeatOffer_0 rfl ?_
  refine xe_get 4 dX0_repeatOffer_1 fX0_23 rfl ?_
  refine go_iload_n 5 dX0_repeatOffer_4 rfl ?_
  refine go_bipush 7 dX0_repeatOffer_5 zb_9 ?_
  refine go_iload_n 8 dX0_repeatOffer_7 rfl ?_
  refine go_iadd 9 dX0_repeatOffer_8 ?_
  refine gcV2 12 dX0_repeatOffer_9 vX0_64 h.tL rfl (cg_L (k := k) (j := 9 + s) h hx (by rw [hy]; exact ix2 9 s _ rfl) hk (by omega)) ?_
  refine go_aload_n 13 dX0_repeatOffer_12 rfl ?_
  refine xe_fld 5 0 16 h dX0_repeatOffer_13 fX0_50 (by decide) ?_
  refine go_icmp_eq 20 19 dX0_repeatOffer_16 (fun h16 => ?_) (fun h16 => ?_)
  · refine go_aload_n 21 dX0_repeatOffer_20 rfl ?_
    refine xe_get 24 dX0_repeatOffer_21 fX0_23 rfl ?_
    refine go_iload_n 25 dX0_repeatOffer_24 rfl ?_
    refine go_bipush 27 dX0_repeatOffer_25 zb_9 ?_
    refine go_iload_n 28 dX0_repeatOffer_27 rfl ?_
    refine go_iadd 29 dX0_repeatOffer_28 ?_
    refine go_iconst 30 dX0_repeatOffer_29 zc_m1 ?_
    refine gxX3v 33 dX0_repeatOffer_30 vX0_57 h.tL rfl (cs_L (k := k) (j := 9 + s) h hx (by rw [hy]; exact ix2 9 s _ rfl) hk (by omega) (by omega)) (fun E30 r30 => ?_)
    refine go_aload_n 34 dX0_repeatOffer_33 rfl ?_
    refine xe_get 37 dX0_repeatOffer_34 fX0_23 rfl ?_
    refine go_iload_n 38 dX0_repeatOffer_37 rfl ?_
    refine go_bipush 40 dX0_repeatOffer_38 zb_6 ?_
    refine gcV2 43 dX0_repeatOffer_40 vX0_64 r30.tL rfl (cg_L (k := k) (j := 6) r30 hx rfl hk (by decide)) ?_
    refine go_iconst 44 dX0_repeatOffer_43 zc_m1 ?_
    refine go_icmp_ne 68 47 dX0_repeatOffer_44 (fun h44 => ?_) (fun h44 => ?_)
    · refine go_aload_n 69 dX0_repeatOffer_68 rfl ?_
      refine go_iconst 70 dX0_repeatOffer_69 zc_3 ?_
      refine gxX1v 73 dX0_repeatOffer_70 vX0_132 wE_at0 rfl (cx_X0_tally r30 (t := 3) rfl (by decide)) (fun E70 r70 => ?_)
      exact go_return dX0_repeatOffer_73 rfl (by omega) (by omega) (⟨rfl, _, rfl, by unfold repD; first | (rw [if_neg h16]; exact r70) | (rw [if_pos (by first | exact h16 | exact Classical.not_not.mp h16), if_pos (by first | exact h44 | exact Classical.not_not.mp h44), ← hy]; exact r70) | (rw [if_pos (by first | exact h16 | exact Classical.not_not.mp h16), if_neg h44]; exact r70)⟩)
    · refine go_aload_n 48 dX0_repeatOffer_47 rfl ?_
      refine go_iload_n 49 dX0_repeatOffer_48 rfl ?_
      refine go_iload_n 50 dX0_repeatOffer_49 rfl ?_
      refine go_aload_n 51 dX0_repeatOffer_50 rfl ?_
      refine xe_get 54 dX0_repeatOffer_51 fX0_23 rfl ?_
      refine go_iload_n 55 dX0_repeatOffer_54 rfl ?_
      refine go_bipush 57 dX0_repeatOffer_55 zb_11 ?_
      refine go_iload_n 58 dX0_repeatOffer_57 rfl ?_
      refine go_iadd 59 dX0_repeatOffer_58 ?_
      refine gcV2 62 dX0_repeatOffer_59 vX0_64 r30.tL rfl (cg_L (k := k) (j := 11 + s) r30 hx (by rw [hy]; exact ix2 11 s _ rfl) hk (by omega)) ?_
      refine gxX3v 65 dX0_repeatOffer_62 vX0_126 wE_at0 rfl (cx_X0_setOffer r30 hx hk) (fun E62 r62 => ?_)
      refine go_goto 73 dX0_repeatOffer_65 ?_
      exact go_return dX0_repeatOffer_73 rfl (by omega) (by omega) (⟨rfl, _, rfl, by unfold repD; first | (rw [if_neg h16]; exact r62) | (rw [if_pos (by first | exact h16 | exact Classical.not_not.mp h16), if_pos (by first | exact h44 | exact Classical.not_not.mp h44), ← hy]; exact r62) | (rw [if_pos (by first | exact h16 | exact Classical.not_not.mp h16), if_neg h44]; exact r62)⟩)
  · exact go_return dX0_repeatOffer_19 rfl (by omega) (by omega) (⟨rfl, _, rfl, by unfold repD; first | (rw [if_neg h16]; exact h) | (rw [if_pos (by first | exact h16 | exact Classical.not_not.mp h16), if_pos (by first | exact h44 | exact Classical.not_not.mp h44), ← hy]; exact h) | (rw [if_pos (by first | exact h16 | exact Classical.not_not.mp h16), if_neg h44]; exact h)⟩)
/-- an offer settled, as the class does it -/
def setlP (D : ZD) (k : Nat) : Int32 := if 1 - dL D k 6 = 0 then clr D k else dL D k 1
noncomputable def setl (D : ZD) (k : Nat) : ZD := if dL D k 6 = -1 then D else
  @ite _ ((¬ dP D (othr D k) 1 = 0 ∧ D 0 - dL D k 8 = dP D (othr D k) 1) ∧ dL D k 7 ≤ dP D (othr D k) 2) (Classical.propDecidable _) (tally (setL (setL (setL D k 4 (dL D k 7)) k 5 (dL (setL D k 4 (dL D k 7)) k 5 + 1)) k 6 (-1)) 0)
  (@ite _ ((¬ dP D (othr D k) 1 = 0 ∧ D 0 - dL D k 8 = dP D (othr D k) 1) ∨ D 3 ≤ D 0 - dL D k 8) (Classical.propDecidable _) (tally (setL D k 6 (-1)) 1) D)
set_option maxRecDepth 100000 in
set_option maxHeartbeats 4000000 in
theorem cx_X0_settleOffer {D0 D : ZD} {g : Option Nat} {sg : ZSg} {E : ES} {l : Launch} {Γ : ZG} {w : ZW} {e : Nat} (h : CR D0 g sg E D) {k : Nat} {x : Int32} (hx : x = nI k) (hk : k < nL D0) : Ct l Γ mX0_settleOffer 4 0 0 [.ref e, .int x] (wE Γ w e E) (PvE Γ w e (none) (fun E' => CR D0 g sg E' (setl D k))) zNo := by
  refine Ct.of (by decide) rfl (Nat.le_of_ble_eq_true rfl) ?_
  refine go_aload_n 1 dX0_settleOffer_0 rfl ?_
  refine xe_get 4 dX0_settleOffer_1 fX0_23 rfl ?_
  refine go_iload_n 5 dX0_settleOffer_4 rfl ?_
  refine go_bipush 7 dX0_settleOffer_5 zb_6 ?_
  refine gcV2 10 dX0_settleOffer_7 vX0_64 h.tL rfl (cg_L (k := k) (j := 6) h hx rfl hk (by decide)) ?_
  refine go_istore_n 11 dX0_settleOffer_10 (by decide) ?_
  refine go_iload_n 12 dX0_settleOffer_11 rfl ?_
  refine go_iconst 13 dX0_settleOffer_12 zc_m1 ?_
  refine go_icmp_ne 17 16 dX0_settleOffer_13 (fun h13 => ?_) (fun h13 => ?_)
  · refine go_aload_n 18 dX0_settleOffer_17 rfl ?_
    refine go_iload_n 19 dX0_settleOffer_18 rfl ?_
    refine go_iconst 20 dX0_settleOffer_19 zc_1 ?_
    refine go_iload_n 21 dX0_settleOffer_20 rfl ?_
    refine go_isub 22 dX0_settleOffer_21 ?_
    refine gcV2 25 dX0_settleOffer_22 vX0_98 wE_at0 rfl (cx_X0_partyOn h hx hk) ?_
    have ho : (if 1 - dL D k 6 = 0 then clr D k else dL D k 1) = nI (othr D k) ∧ othr D k < nP D0 := h.othr hk
    refine go_istore_n 26 dX0_settleOffer_25 (by decide) ?_
    refine go_aload_n 27 dX0_settleOffer_26 rfl ?_
    refine xe_get 30 dX0_settleOffer_27 fX0_14 rfl ?_
    refine go_iload_n 31 dX0_settleOffer_30 rfl ?_
    refine go_iconst 32 dX0_settleOffer_31 zc_1 ?_
    refine gcV2 35 dX0_settleOffer_32 vX0_64 h.tP rfl (cg_P (k := othr D k) (j := 1) h ho.1 rfl ho.2 (by decide)) ?_
    refine go_istore 37 dX0_settleOffer_35 (by decide) ?_
    refine go_aload_n 38 dX0_settleOffer_37 rfl ?_
    refine xe_get 41 dX0_settleOffer_38 fX0_23 rfl ?_
    refine go_iload_n 42 dX0_settleOffer_41 rfl ?_
    refine go_bipush 44 dX0_settleOffer_42 zb_7 ?_
    refine gcV2 47 dX0_settleOffer_44 vX0_64 h.tL rfl (cg_L (k := k) (j := 7) h hx rfl hk (by decide)) ?_
    refine go_istore 49 dX0_settleOffer_47 (by decide) ?_
    refine go_aload_n 50 dX0_settleOffer_49 rfl ?_
    refine xe_fld 5 0 53 h dX0_settleOffer_50 fX0_50 (by decide) ?_
    refine go_aload_n 54 dX0_settleOffer_53 rfl ?_
    refine xe_get 57 dX0_settleOffer_54 fX0_23 rfl ?_
    refine go_iload_n 58 dX0_settleOffer_57 rfl ?_
    refine go_bipush 60 dX0_settleOffer_58 zb_8 ?_
    refine gcV2 63 dX0_settleOffer_60 vX0_64 h.tL rfl (cg_L (k := k) (j := 8) h hx rfl hk (by decide)) ?_
    refine go_isub 64 dX0_settleOffer_63 ?_
    refine go_istore 66 dX0_settleOffer_64 (by decide) ?_
    refine go_iload 68 dX0_settleOffer_66 rfl ?_
    refine go_if_eq 82 71 dX0_settleOffer_68 (fun h68 => ?_) (fun h68 => ?_)
    · refine go_iconst 83 dX0_settleOffer_82 zc_0 ?_
      refine go_istore 85 dX0_settleOffer_83 (by decide) ?_
      refine go_iload 87 dX0_settleOffer_85 rfl ?_
      refine go_if_eq 154 90 dX0_settleOffer_87 (fun h87 => ?_) (fun h87 => ?_)
      · refine go_iload 156 dX0_settleOffer_154 rfl ?_
        refine go_if_ne 168 159 dX0_settleOffer_156 (fun h156 => ?_) (fun h156 => ?_)
        · exact absurd h156 (by decide)
        · refine go_iload 161 dX0_settleOffer_159 rfl ?_
          refine go_aload_n 162 dX0_settleOffer_161 rfl ?_
          refine xe_fld 8 3 165 h dX0_settleOffer_162 fX0_36 (by decide) ?_
          refine go_icmp_lt 184 168 dX0_settleOffer_165 (fun h165 => ?_) (fun h165 => ?_)
          · exact go_return dX0_settleOffer_184 rfl (by omega) (by omega) (⟨rfl, _, rfl, by unfold setl; first | (rw [if_pos (by first | exact h13 | exact Classical.not_not.mp h13)]; exact h) | (rw [if_neg h13, if_pos ⟨(show ¬ dP D (othr D k) 1 = 0 ∧ D 0 - dL D k 8 = dP D (othr D k) 1 from ⟨h68, (by first | exact h75 | exact Classical.not_not.mp h75)⟩), Int32.not_lt.mp h101⟩]; exact h) | (rw [if_neg h13, if_neg (fun q => absurd q.2 (Int32.not_le.mpr h101)), if_pos (Or.inl (show ¬ dP D (othr D k) 1 = 0 ∧ D 0 - dL D k 8 = dP D (othr D k) 1 from ⟨h68, (by first | exact h75 | exact Classical.not_not.mp h75)⟩))]; exact h) | (rw [if_neg h13, if_neg (fun q => (fun q : ¬ dP D (othr D k) 1 = 0 ∧ D 0 - dL D k 8 = dP D (othr D k) 1 => by first | exact q.1 (by first | exact h68 | exact Classical.not_not.mp h68) | exact h75 q.2) q.1), if_pos (Or.inr (Int32.not_lt.mp h165))]; exact h) | (rw [if_neg h13, if_neg (fun q => (fun q : ¬ dP D (othr D k) 1 = 0 ∧ D 0 - dL D k 8 = dP D (othr D k) 1 => by first | exact q.1 (by first | exact h68 | exact Classical.not_not.mp h68) | exact h75 q.2) q.1), if_neg (fun q => q.elim (fun q : ¬ dP D (othr D k) 1 = 0 ∧ D 0 - dL D k 8 = dP D (othr D k) 1 => by first | exact q.1 (by first | exact h68 | exact Classical.not_not.mp h68) | exact h75 q.2) (fun z => absurd z (Int32.not_le.mpr h165)))]; exact h)⟩)
          · refine go_aload_n 169 dX0_settleOffer_168 rfl ?_
            refine xe_get 172 dX0_settleOffer_169 fX0_23 rfl ?_
            refine go_iload_n 173 dX0_settleOffer_172 rfl ?_
            refine go_bipush 175 dX0_settleOffer_173 zb_6 ?_
            refine go_iconst 176 dX0_settleOffer_175 zc_m1 ?_
            refine gxX3v 179 dX0_settleOffer_176 vX0_57 h.tL rfl (cs_L (k := k) (j := 6) h hx rfl hk (by decide) (by decide)) (fun E176 r176 => ?_)
            refine go_aload_n 180 dX0_settleOffer_179 rfl ?_
            refine go_iconst 181 dX0_settleOffer_180 zc_1 ?_
            refine gxX1v 184 dX0_settleOffer_181 vX0_132 wE_at0 rfl (cx_X0_tally r176 (t := 1) rfl (by decide)) (fun E181 r181 => ?_)
            exact go_return dX0_settleOffer_184 rfl (by omega) (by omega) (⟨rfl, _, rfl, by unfold setl; first | (rw [if_pos (by first | exact h13 | exact Classical.not_not.mp h13)]; exact r181) | (rw [if_neg h13, if_pos ⟨(show ¬ dP D (othr D k) 1 = 0 ∧ D 0 - dL D k 8 = dP D (othr D k) 1 from ⟨h68, (by first | exact h75 | exact Classical.not_not.mp h75)⟩), Int32.not_lt.mp h101⟩]; exact r181) | (rw [if_neg h13, if_neg (fun q => absurd q.2 (Int32.not_le.mpr h101)), if_pos (Or.inl (show ¬ dP D (othr D k) 1 = 0 ∧ D 0 - dL D k 8 = dP D (othr D k) 1 from ⟨h68, (by first | exact h75 | exact Classical.not_not.mp h75)⟩))]; exact r181) | (rw [if_neg h13, if_neg (fun q => (fun q : ¬ dP D (othr D k) 1 = 0 ∧ D 0 - dL D k 8 = dP D (othr D k) 1 => by first | exact q.1 (by first | exact h68 | exact Classical.not_not.mp h68) | exact h75 q.2) q.1), if_pos (Or.inr (Int32.not_lt.mp h165))]; exact r181) | (rw [if_neg h13, if_neg (fun q => (fun q : ¬ dP D (othr D k) 1 = 0 ∧ D 0 - dL D k 8 = dP D (othr D k) 1 => by first | exact q.1 (by first | exact h68 | exact Classical.not_not.mp h68) | exact h75 q.2) q.1), if_neg (fun q => q.elim (fun q : ¬ dP D (othr D k) 1 = 0 ∧ D 0 - dL D k 8 = dP D (othr D k) 1 => by first | exact q.1 (by first | exact h68 | exact Classical.not_not.mp h68) | exact h75 q.2) (fun z => absurd z (Int32.not_le.mpr h165)))]; exact r181)⟩)
      · exact absurd h87 (by decide)
    · refine go_iload 73 dX0_settleOffer_71 rfl ?_
      refine go_iload 75 dX0_settleOffer_73 rfl ?_
      refine go_icmp_ne 82 78 dX0_settleOffer_75 (fun h75 => ?_) (fun h75 => ?_)
      · refine go_iconst 83 dX0_settleOffer_82 zc_0 ?_
        refine go_istore 85 dX0_settleOffer_83 (by decide) ?_
        refine go_iload 87 dX0_settleOffer_85 rfl ?_
        refine go_if_eq 154 90 dX0_settleOffer_87 (fun h87 => ?_) (fun h87 => ?_)
        · refine go_iload 156 dX0_settleOffer_154 rfl ?_
          refine go_if_ne 168 159 dX0_settleOffer_156 (fun h156 => ?_) (fun h156 => ?_)
          · exact absurd h156 (by decide)
          · refine go_iload 161 dX0_settleOffer_159 rfl ?_
            refine go_aload_n 162 dX0_settleOffer_161 rfl ?_
            refine xe_fld 8 3 165 h dX0_settleOffer_162 fX0_36 (by decide) ?_
            refine go_icmp_lt 184 168 dX0_settleOffer_165 (fun h165 => ?_) (fun h165 => ?_)
            · exact go_return dX0_settleOffer_184 rfl (by omega) (by omega) (⟨rfl, _, rfl, by unfold setl; first | (rw [if_pos (by first | exact h13 | exact Classical.not_not.mp h13)]; exact h) | (rw [if_neg h13, if_pos ⟨(show ¬ dP D (othr D k) 1 = 0 ∧ D 0 - dL D k 8 = dP D (othr D k) 1 from ⟨h68, (by first | exact h75 | exact Classical.not_not.mp h75)⟩), Int32.not_lt.mp h101⟩]; exact h) | (rw [if_neg h13, if_neg (fun q => absurd q.2 (Int32.not_le.mpr h101)), if_pos (Or.inl (show ¬ dP D (othr D k) 1 = 0 ∧ D 0 - dL D k 8 = dP D (othr D k) 1 from ⟨h68, (by first | exact h75 | exact Classical.not_not.mp h75)⟩))]; exact h) | (rw [if_neg h13, if_neg (fun q => (fun q : ¬ dP D (othr D k) 1 = 0 ∧ D 0 - dL D k 8 = dP D (othr D k) 1 => by first | exact q.1 (by first | exact h68 | exact Classical.not_not.mp h68) | exact h75 q.2) q.1), if_pos (Or.inr (Int32.not_lt.mp h165))]; exact h) | (rw [if_neg h13, if_neg (fun q => (fun q : ¬ dP D (othr D k) 1 = 0 ∧ D 0 - dL D k 8 = dP D (othr D k) 1 => by first | exact q.1 (by first | exact h68 | exact Classical.not_not.mp h68) | exact h75 q.2) q.1), if_neg (fun q => q.elim (fun q : ¬ dP D (othr D k) 1 = 0 ∧ D 0 - dL D k 8 = dP D (othr D k) 1 => by first | exact q.1 (by first | exact h68 | exact Classical.not_not.mp h68) | exact h75 q.2) (fun z => absurd z (Int32.not_le.mpr h165)))]; exact h)⟩)
            · refine go_aload_n 169 dX0_settleOffer_168 rfl ?_
              refine xe_get 172 dX0_settleOffer_169 fX0_23 rfl ?_
              refine go_iload_n 173 dX0_settleOffer_172 rfl ?_
              refine go_bipush 175 dX0_settleOffer_173 zb_6 ?_
              refine go_iconst 176 dX0_settleOffer_175 zc_m1 ?_
              refine gxX3v 179 dX0_settleOffer_176 vX0_57 h.tL rfl (cs_L (k := k) (j := 6) h hx rfl hk (by decide) (by decide)) (fun E176 r176 => ?_)
              refine go_aload_n 180 dX0_settleOffer_179 rfl ?_
              refine go_iconst 181 dX0_settleOffer_180 zc_1 ?_
              refine gxX1v 184 dX0_settleOffer_181 vX0_132 wE_at0 rfl (cx_X0_tally r176 (t := 1) rfl (by decide)) (fun E181 r181 => ?_)
              exact go_return dX0_settleOffer_184 rfl (by omega) (by omega) (⟨rfl, _, rfl, by unfold setl; first | (rw [if_pos (by first | exact h13 | exact Classical.not_not.mp h13)]; exact r181) | (rw [if_neg h13, if_pos ⟨(show ¬ dP D (othr D k) 1 = 0 ∧ D 0 - dL D k 8 = dP D (othr D k) 1 from ⟨h68, (by first | exact h75 | exact Classical.not_not.mp h75)⟩), Int32.not_lt.mp h101⟩]; exact r181) | (rw [if_neg h13, if_neg (fun q => absurd q.2 (Int32.not_le.mpr h101)), if_pos (Or.inl (show ¬ dP D (othr D k) 1 = 0 ∧ D 0 - dL D k 8 = dP D (othr D k) 1 from ⟨h68, (by first | exact h75 | exact Classical.not_not.mp h75)⟩))]; exact r181) | (rw [if_neg h13, if_neg (fun q => (fun q : ¬ dP D (othr D k) 1 = 0 ∧ D 0 - dL D k 8 = dP D (othr D k) 1 => by first | exact q.1 (by first | exact h68 | exact Classical.not_not.mp h68) | exact h75 q.2) q.1), if_pos (Or.inr (Int32.not_lt.mp h165))]; exact r181) | (rw [if_neg h13, if_neg (fun q => (fun q : ¬ dP D (othr D k) 1 = 0 ∧ D 0 - dL D k 8 = dP D (othr D k) 1 => by first | exact q.1 (by first | exact h68 | exact Classical.not_not.mp h68) | exact h75 q.2) q.1), if_neg (fun q => q.elim (fun q : ¬ dP D (othr D k) 1 = 0 ∧ D 0 - dL D k 8 = dP D (othr D k) 1 => by first | exact q.1 (by first | exact h68 | exact Classical.not_not.mp h68) | exact h75 q.2) (fun z => absurd z (Int32.not_le.mpr h165)))]; exact r181)⟩)
        · exact absurd h87 (by decide)
      · refine go_iconst 79 dX0_settleOffer_78 zc_1 ?_
        refine go_goto 83 dX0_settleOffer_79 ?_
        refine go_istore 85 dX0_settleOffer_83 (by decide) ?_
        refine go_iload 87 dX0_settleOffer_85 rfl ?_
        refine go_if_eq 154 90 dX0_settleOffer_87 (fun h87 => ?_) (fun h87 => ?_)
        · exact absurd h87 (by decide)
        · refine go_iload 92 dX0_settleOffer_90 rfl ?_
          refine go_aload_n 93 dX0_settleOffer_92 rfl ?_
          refine xe_get 96 dX0_settleOffer_93 fX0_14 rfl ?_
          refine go_iload_n 97 dX0_settleOffer_96 rfl ?_
          refine go_iconst 98 dX0_settleOffer_97 zc_2 ?_
          refine gcV2 101 dX0_settleOffer_98 vX0_64 h.tP rfl (cg_P (k := othr D k) (j := 2) h ho.1 rfl ho.2 (by decide)) ?_
          refine go_icmp_gt 154 104 dX0_settleOffer_101 (fun h101 => ?_) (fun h101 => ?_)
          · refine go_iload 156 dX0_settleOffer_154 rfl ?_
            refine go_if_ne 168 159 dX0_settleOffer_156 (fun h156 => ?_) (fun h156 => ?_)
            · refine go_aload_n 169 dX0_settleOffer_168 rfl ?_
              refine xe_get 172 dX0_settleOffer_169 fX0_23 rfl ?_
              refine go_iload_n 173 dX0_settleOffer_172 rfl ?_
              refine go_bipush 175 dX0_settleOffer_173 zb_6 ?_
              refine go_iconst 176 dX0_settleOffer_175 zc_m1 ?_
              refine gxX3v 179 dX0_settleOffer_176 vX0_57 h.tL rfl (cs_L (k := k) (j := 6) h hx rfl hk (by decide) (by decide)) (fun E176 r176 => ?_)
              refine go_aload_n 180 dX0_settleOffer_179 rfl ?_
              refine go_iconst 181 dX0_settleOffer_180 zc_1 ?_
              refine gxX1v 184 dX0_settleOffer_181 vX0_132 wE_at0 rfl (cx_X0_tally r176 (t := 1) rfl (by decide)) (fun E181 r181 => ?_)
              exact go_return dX0_settleOffer_184 rfl (by omega) (by omega) (⟨rfl, _, rfl, by unfold setl; first | (rw [if_pos (by first | exact h13 | exact Classical.not_not.mp h13)]; exact r181) | (rw [if_neg h13, if_pos ⟨(show ¬ dP D (othr D k) 1 = 0 ∧ D 0 - dL D k 8 = dP D (othr D k) 1 from ⟨h68, (by first | exact h75 | exact Classical.not_not.mp h75)⟩), Int32.not_lt.mp h101⟩]; exact r181) | (rw [if_neg h13, if_neg (fun q => absurd q.2 (Int32.not_le.mpr h101)), if_pos (Or.inl (show ¬ dP D (othr D k) 1 = 0 ∧ D 0 - dL D k 8 = dP D (othr D k) 1 from ⟨h68, (by first | exact h75 | exact Classical.not_not.mp h75)⟩))]; exact r181) | (rw [if_neg h13, if_neg (fun q => (fun q : ¬ dP D (othr D k) 1 = 0 ∧ D 0 - dL D k 8 = dP D (othr D k) 1 => by first | exact q.1 (by first | exact h68 | exact Classical.not_not.mp h68) | exact h75 q.2) q.1), if_pos (Or.inr (Int32.not_lt.mp h165))]; exact r181) | (rw [if_neg h13, if_neg (fun q => (fun q : ¬ dP D (othr D k) 1 = 0 ∧ D 0 - dL D k 8 = dP D (othr D k) 1 => by first | exact q.1 (by first | exact h68 | exact Classical.not_not.mp h68) | exact h75 q.2) q.1), if_neg (fun q => q.elim (fun q : ¬ dP D (othr D k) 1 = 0 ∧ D 0 - dL D k 8 = dP D (othr D k) 1 => by first | exact q.1 (by first | exact h68 | exact Classical.not_not.mp h68) | exact h75 q.2) (fun z => absurd z (Int32.not_le.mpr h165)))]; exact r181)⟩)
            · exact absurd h156 (by decide)
          · refine go_aload_n 105 dX0_settleOffer_104 rfl ?_
            refine xe_get 108 dX0_settleOffer_105 fX0_23 rfl ?_
            refine go_iload_n 109 dX0_settleOffer_108 rfl ?_
            refine go_iconst 110 dX0_settleOffer_109 zc_4 ?_
            refine go_iload 112 dX0_settleOffer_110 rfl ?_
            refine gxX3v 115 dX0_settleOffer_112 vX0_57 h.tL rfl (cs_L (k := k) (j := 4) h hx rfl hk (by decide) (by decide)) (fun E112 r112 => ?_)
            refine go_aload_n 116 dX0_settleOffer_115 rfl ?_
            refine xe_get 119 dX0_settleOffer_116 fX0_23 rfl ?_
            refine go_iload_n 120 dX0_settleOffer_119 rfl ?_
            refine go_iconst 121 dX0_settleOffer_120 zc_5 ?_
            refine go_aload_n 122 dX0_settleOffer_121 rfl ?_
            refine xe_get 125 dX0_settleOffer_122 fX0_23 rfl ?_
            refine go_iload_n 126 dX0_settleOffer_125 rfl ?_
            refine go_iconst 127 dX0_settleOffer_126 zc_5 ?_
            refine gcV2 130 dX0_settleOffer_127 vX0_64 r112.tL rfl (cg_L (k := k) (j := 5) r112 hx rfl hk (by decide)) ?_
            refine go_iconst 131 dX0_settleOffer_130 zc_1 ?_
            refine go_iadd 132 dX0_settleOffer_131 ?_
            refine gxX3v 135 dX0_settleOffer_132 vX0_57 r112.tL rfl (cs_L (k := k) (j := 5) r112 hx rfl hk (by decide) (by decide)) (fun E132 r132 => ?_)
            refine go_aload_n 136 dX0_settleOffer_135 rfl ?_
            refine xe_get 139 dX0_settleOffer_136 fX0_23 rfl ?_
            refine go_iload_n 140 dX0_settleOffer_139 rfl ?_
            refine go_bipush 142 dX0_settleOffer_140 zb_6 ?_
            refine go_iconst 143 dX0_settleOffer_142 zc_m1 ?_
            refine gxX3v 146 dX0_settleOffer_143 vX0_57 r132.tL rfl (cs_L (k := k) (j := 6) r132 hx rfl hk (by decide) (by decide)) (fun E143 r143 => ?_)
            refine go_aload_n 147 dX0_settleOffer_146 rfl ?_
            refine go_iconst 148 dX0_settleOffer_147 zc_0 ?_
            refine gxX1v 151 dX0_settleOffer_148 vX0_132 wE_at0 rfl (cx_X0_tally r143 (t := 0) rfl (by decide)) (fun E148 r148 => ?_)
            refine go_goto 184 dX0_settleOffer_151 ?_
            exact go_return dX0_settleOffer_184 rfl (by omega) (by omega) (⟨rfl, _, rfl, by unfold setl; first | (rw [if_pos (by first | exact h13 | exact Classical.not_not.mp h13)]; exact r148) | (rw [if_neg h13, if_pos ⟨(show ¬ dP D (othr D k) 1 = 0 ∧ D 0 - dL D k 8 = dP D (othr D k) 1 from ⟨h68, (by first | exact h75 | exact Classical.not_not.mp h75)⟩), Int32.not_lt.mp h101⟩]; exact r148) | (rw [if_neg h13, if_neg (fun q => absurd q.2 (Int32.not_le.mpr h101)), if_pos (Or.inl (show ¬ dP D (othr D k) 1 = 0 ∧ D 0 - dL D k 8 = dP D (othr D k) 1 from ⟨h68, (by first | exact h75 | exact Classical.not_not.mp h75)⟩))]; exact r148) | (rw [if_neg h13, if_neg (fun q => (fun q : ¬ dP D (othr D k) 1 = 0 ∧ D 0 - dL D k 8 = dP D (othr D k) 1 => by first | exact q.1 (by first | exact h68 | exact Classical.not_not.mp h68) | exact h75 q.2) q.1), if_pos (Or.inr (Int32.not_lt.mp h165))]; exact r148) | (rw [if_neg h13, if_neg (fun q => (fun q : ¬ dP D (othr D k) 1 = 0 ∧ D 0 - dL D k 8 = dP D (othr D k) 1 => by first | exact q.1 (by first | exact h68 | exact Classical.not_not.mp h68) | exact h75 q.2) q.1), if_neg (fun q => q.elim (fun q : ¬ dP D (othr D k) 1 = 0 ∧ D 0 - dL D k 8 = dP D (othr D k) 1 => by first | exact q.1 (by first | exact h68 | exact Classical.not_not.mp h68) | exact h75 q.2) (fun z => absurd z (Int32.not_le.mpr h165)))]; exact r148)⟩)
  · exact go_return dX0_settleOffer_16 rfl (by omega) (by omega) (⟨rfl, _, rfl, by unfold setl; first | (rw [if_pos (by first | exact h13 | exact Classical.not_not.mp h13)]; exact h) | (rw [if_neg h13, if_pos ⟨(show ¬ dP D (othr D k) 1 = 0 ∧ D 0 - dL D k 8 = dP D (othr D k) 1 from ⟨h68, (by first | exact h75 | exact Classical.not_not.mp h75)⟩), Int32.not_lt.mp h101⟩]; exact h) | (rw [if_neg h13, if_neg (fun q => absurd q.2 (Int32.not_le.mpr h101)), if_pos (Or.inl (show ¬ dP D (othr D k) 1 = 0 ∧ D 0 - dL D k 8 = dP D (othr D k) 1 from ⟨h68, (by first | exact h75 | exact Classical.not_not.mp h75)⟩))]; exact h) | (rw [if_neg h13, if_neg (fun q => (fun q : ¬ dP D (othr D k) 1 = 0 ∧ D 0 - dL D k 8 = dP D (othr D k) 1 => by first | exact q.1 (by first | exact h68 | exact Classical.not_not.mp h68) | exact h75 q.2) q.1), if_pos (Or.inr (Int32.not_lt.mp h165))]; exact h) | (rw [if_neg h13, if_neg (fun q => (fun q : ¬ dP D (othr D k) 1 = 0 ∧ D 0 - dL D k 8 = dP D (othr D k) 1 => by first | exact q.1 (by first | exact h68 | exact Classical.not_not.mp h68) | exact h75 q.2) q.1), if_neg (fun q => q.elim (fun q : ¬ dP D (othr D k) 1 = 0 ∧ D 0 - dL D k 8 = dP D (othr D k) 1 => by first | exact q.1 (by first | exact h68 | exact Classical.not_not.mp h68) | exact h75 q.2) (fun z => absurd z (Int32.not_le.mpr h165)))]; exact h)⟩)
/-- a leg is answered at this second -/
def annP (D : ZD) (k : Nat) : Prop := dL D k 2 = 0 ∧ ¬ dP D (ceN D k) 0 = 0 ∧ D 0 - dC D (ofN D k) 1 = dP D (ceN D k) 0 ∧ ¬ eng D (dL D k 1)
set_option maxRecDepth 100000 in
set_option maxHeartbeats 4000000 in
theorem cx_X0_isAnsweredNow {D0 D : ZD} {g : Option Nat} {sg : ZSg} {E : ES} {l : Launch} {Γ : ZG} {w : ZW} {e : Nat} (h : CR D0 g sg E D) (hS : StI D) {k : Nat} {x : Int32} (hx : x = nI k) (hk : k < nL D0) : Cm l Γ mX0_isAnsweredNow 4 [.ref e, .int x] (wE Γ w e E) (some (.int (zb (annP D k)))) (wE Γ w e E) := by
  refine Cm.of (by decide) rfl (Nat.le_of_ble_eq_true rfl) ?_
  refine go_aload_n 1 dX0_isAnsweredNow_0 rfl ?_
  refine xe_get 4 dX0_isAnsweredNow_1 fX0_23 rfl ?_
  refine go_iload_n 5 dX0_isAnsweredNow_4 rfl ?_
  refine go_iconst 6 dX0_isAnsweredNow_5 zc_2 ?_
  refine gcV2 9 dX0_isAnsweredNow_6 vX0_64 h.tL rfl (cg_L (k := k) (j := 2) h hx rfl hk (by decide)) ?_
  refine go_if_eq 14 12 dX0_isAnsweredNow_9 (fun h9 => ?_) (fun h9 => ?_)
  · refine go_aload_n 15 dX0_isAnsweredNow_14 rfl ?_
    refine xe_get 18 dX0_isAnsweredNow_15 fX0_23 rfl ?_
    refine go_iload_n 19 dX0_isAnsweredNow_18 rfl ?_
    refine go_iconst 20 dX0_isAnsweredNow_19 zc_1 ?_
    refine gcV2 23 dX0_isAnsweredNow_20 vX0_64 h.tL rfl (cg_L (k := k) (j := 1) h hx rfl hk (by decide)) ?_
    refine go_istore_n 24 dX0_isAnsweredNow_23 (by decide) ?_
    refine go_aload_n 25 dX0_isAnsweredNow_24 rfl ?_
    refine xe_get 28 dX0_isAnsweredNow_25 fX0_14 rfl ?_
    refine go_iload_n 29 dX0_isAnsweredNow_28 rfl ?_
    refine go_iconst 30 dX0_isAnsweredNow_29 zc_0 ?_
    refine gcV2 33 dX0_isAnsweredNow_30 vX0_64 h.tP rfl (cg_P (k := ceN D k) (j := 0) h (h.ce hk).1 rfl (h.ce hk).2 (by decide)) ?_
    refine go_istore_n 34 dX0_isAnsweredNow_33 (by decide) ?_
    refine go_aload_n 35 dX0_isAnsweredNow_34 rfl ?_
    refine xe_fld 5 0 38 h dX0_isAnsweredNow_35 fX0_50 (by decide) ?_
    refine go_aload_n 39 dX0_isAnsweredNow_38 rfl ?_
    refine xe_get 42 dX0_isAnsweredNow_39 fX0_20 rfl ?_
    refine go_aload_n 43 dX0_isAnsweredNow_42 rfl ?_
    refine xe_get 46 dX0_isAnsweredNow_43 fX0_23 rfl ?_
    refine go_iload_n 47 dX0_isAnsweredNow_46 rfl ?_
    refine go_iconst 48 dX0_isAnsweredNow_47 zc_0 ?_
    refine gcV2 51 dX0_isAnsweredNow_48 vX0_64 h.tL rfl (cg_L (k := k) (j := 0) h hx rfl hk (by decide)) ?_
    refine go_iconst 52 dX0_isAnsweredNow_51 zc_1 ?_
    refine gcV2 55 dX0_isAnsweredNow_52 vX0_64 h.tC rfl (cg_C (k := ofN D k) (j := 1) h (h.of hk).1 rfl (h.of hk).2 (by decide)) ?_
    refine go_isub 56 dX0_isAnsweredNow_55 ?_
    refine go_istore 58 dX0_isAnsweredNow_56 (by decide) ?_
    refine go_iload_n 59 dX0_isAnsweredNow_58 rfl ?_
    refine go_if_eq 80 62 dX0_isAnsweredNow_59 (fun h59 => ?_) (fun h59 => ?_)
    · refine go_iconst 81 dX0_isAnsweredNow_80 zc_0 ?_
      exact go_zreturn dX0_isAnsweredNow_81 rfl (by omega) (by omega) (Or.inl rfl) (⟨by rw [zb_f (show ¬ annP D k from fun q => by first | exact h9 q.1 | exact q.2.1 (by first | exact h59 | exact Classical.not_not.mp h59) | exact h65 q.2.2.1 | exact q.2.2.2 (zb_1 h73))], rfl⟩)
    · refine go_iload 64 dX0_isAnsweredNow_62 rfl ?_
      refine go_iload_n 65 dX0_isAnsweredNow_64 rfl ?_
      refine go_icmp_ne 80 68 dX0_isAnsweredNow_65 (fun h65 => ?_) (fun h65 => ?_)
      · refine go_iconst 81 dX0_isAnsweredNow_80 zc_0 ?_
        exact go_zreturn dX0_isAnsweredNow_81 rfl (by omega) (by omega) (Or.inl rfl) (⟨by rw [zb_f (show ¬ annP D k from fun q => by first | exact h9 q.1 | exact q.2.1 (by first | exact h59 | exact Classical.not_not.mp h59) | exact h65 q.2.2.1 | exact q.2.2.2 (zb_1 h73))], rfl⟩)
      · refine go_aload_n 69 dX0_isAnsweredNow_68 rfl ?_
        refine go_iload_n 70 dX0_isAnsweredNow_69 rfl ?_
        refine gcV1 73 dX0_isAnsweredNow_70 vX0_161 wE_at0 rfl (cx_X0_isEngaged h hS) ?_
        refine go_if_ne 80 76 dX0_isAnsweredNow_73 (fun h73 => ?_) (fun h73 => ?_)
        · refine go_iconst 81 dX0_isAnsweredNow_80 zc_0 ?_
          exact go_zreturn dX0_isAnsweredNow_81 rfl (by omega) (by omega) (Or.inl rfl) (⟨by rw [zb_f (show ¬ annP D k from fun q => by first | exact h9 q.1 | exact q.2.1 (by first | exact h59 | exact Classical.not_not.mp h59) | exact h65 q.2.2.1 | exact q.2.2.2 (zb_1 h73))], rfl⟩)
        · refine go_iconst 77 dX0_isAnsweredNow_76 zc_1 ?_
          refine go_goto 81 dX0_isAnsweredNow_77 ?_
          exact go_zreturn dX0_isAnsweredNow_81 rfl (by omega) (by omega) (Or.inr rfl) (⟨by rw [zb_t (show annP D k from ⟨(by first | exact h9 | exact Classical.not_not.mp h9), h59, (by first | exact h65 | exact Classical.not_not.mp h65), zb_0 (by first | exact h73 | exact Classical.not_not.mp h73)⟩)], rfl⟩)
  · refine go_iconst 13 dX0_isAnsweredNow_12 zc_0 ?_
    exact go_zreturn dX0_isAnsweredNow_13 rfl (by omega) (by omega) (Or.inl rfl) (⟨by rw [zb_f (show ¬ annP D k from fun q => by first | exact h9 q.1 | exact q.2.1 (by first | exact h59 | exact Classical.not_not.mp h59) | exact h65 q.2.2.1 | exact q.2.2.2 (zb_1 h73))], rfl⟩)
theorem CR.sm {D0 D D1 : ZD} {g g1 : Option Nat} {sg sg1 : ZSg} {E E1 : ES} (h : CR D0 g sg E D) (h1 : CR D0 g1 sg1 E1 D1) : Same D0 D ∧ Same D0 D1 := ⟨h.2.2.1, h1.2.2.1⟩
set_option maxRecDepth 100000 in
set_option maxHeartbeats 4000000 in
theorem cx_X0_answer {D0 D : ZD} {g : Option Nat} {sg : ZSg} {E : ES} {l : Launch} {Γ : ZG} {w : ZW} {e : Nat} (h : CR D0 g sg E D) (hs : SegD sg D0) {k : Nat} {x : Int32} (hx : x = nI k) (hk : k < nL D0) : Ct l Γ mX0_answer 5 0 0 [.ref e, .int x] (wE Γ w e E) (PvE Γ w e (none) (fun E' => CR D0 g sg E' (ansE D sg k))) zNo := by
  subst hx
  refine Ct.of (by decide) rfl (Nat.le_of_ble_eq_true rfl) ?_
  refine go_aload_n 1 dX0_answer_0 rfl ?_
  refine xe_get 4 dX0_answer_1 fX0_23 rfl ?_
  refine go_iload_n 5 dX0_answer_4 rfl ?_
  refine go_iconst 6 dX0_answer_5 zc_0 ?_
  refine gcV2 9 dX0_answer_6 vX0_64 h.tL rfl (cg_L (k := k) (j := 0) h rfl rfl hk (by decide)) ?_
  refine go_istore_n 10 dX0_answer_9 (by decide) ?_
  refine go_aload_n 11 dX0_answer_10 rfl ?_
  refine xe_get 14 dX0_answer_11 fX0_23 rfl ?_
  refine go_iload_n 15 dX0_answer_14 rfl ?_
  refine go_iconst 16 dX0_answer_15 zc_2 ?_
  refine go_iconst 17 dX0_answer_16 zc_1 ?_
  refine gxX3v 20 dX0_answer_17 vX0_57 h.tL rfl (cs_L (k := k) (j := 2) h rfl rfl hk (by decide) (by decide)) (fun E17 r17 => ?_)
  refine go_aload_n 21 dX0_answer_20 rfl ?_
  refine xe_get 24 dX0_answer_21 fX0_20 rfl ?_
  refine go_iload_n 25 dX0_answer_24 rfl ?_
  refine go_iconst 26 dX0_answer_25 zc_5 ?_
  refine go_iload_n 27 dX0_answer_26 rfl ?_
  refine gxX3v 30 dX0_answer_27 vX0_57 r17.tC rfl (cs_C5 (k := ofN D k) r17 (h.of hk).1 (h.of hk).2) (fun E27 r27 => ?_)
  refine go_aload_n 31 dX0_answer_30 rfl ?_
  refine go_iconst 32 dX0_answer_31 zc_4 ?_
  refine gxX1v 35 dX0_answer_32 vX0_132 wE_at0 rfl (cx_X0_tally r27 (t := 4) rfl (by decide)) (fun E32 r32 => ?_)
  refine go_aload_n 36 dX0_answer_35 rfl ?_
  refine go_iload_n 37 dX0_answer_36 rfl ?_
  refine go_iconst 38 dX0_answer_37 zc_2 ?_
  refine gxX2v 41 dX0_answer_38 vX0_117 wE_at0 rfl (cx_X0_endRinging r32 hs (h.of hk).1 (h.of hk).2) (fun E38 r38 => ?_)
  refine go_aload_n 42 dX0_answer_41 rfl ?_
  refine go_aload_n 43 dX0_answer_42 rfl ?_
  refine xe_get 46 dX0_answer_43 fX0_23 rfl ?_
  refine go_iload_n 47 dX0_answer_46 rfl ?_
  refine go_iconst 48 dX0_answer_47 zc_1 ?_
  refine gcV2 51 dX0_answer_48 vX0_64 r38.tL rfl (cg_L (k := k) (j := 1) r38 rfl rfl hk (by decide)) ?_
  refine go_iconst 52 dX0_answer_51 zc_1 ?_
  refine gxX2 55 dX0_answer_52 vX0_123 wE_at0 rfl (cx_X0_endRingingAt r38 hs) (fun E52 r52 => ?_)
  have eL : nL (itr (erS 2) (sg (ofN D k)).1 ((sg (ofN D k)).2 - (sg (ofN D k)).1) (tally (setC (setL D k 2 1) (ofN D k) 4 (nI k)) 4)) = nL D := (r38.eqL).trans h.eqL.symm
  rw [eL] at r52
  have r52 : CR D0 g sg E52 (ansC D sg k) := r52
  refine go_pop 56 dX0_answer_55 rfl ?_
  refine go_aload_n 57 dX0_answer_56 rfl ?_
  refine xe_get 60 dX0_answer_57 fX0_20 rfl ?_
  refine go_iload_n 61 dX0_answer_60 rfl ?_
  refine go_iconst 62 dX0_answer_61 zc_3 ?_
  refine gcV2 65 dX0_answer_62 vX0_64 r52.tC rfl (cg_C (k := ofN D k) (j := 3) r52 (h.of hk).1 rfl (h.of hk).2 (by decide)) ?_
  refine go_istore_n 66 dX0_answer_65 (by decide) ?_
  refine go_iload_n 67 dX0_answer_66 rfl ?_
  refine go_iconst 68 dX0_answer_67 zc_m1 ?_
  refine go_icmp_eq 97 71 dX0_answer_68 (fun h68 => ?_) (fun h68 => ?_)
  · exact go_return dX0_answer_97 rfl (by omega) (by omega) (⟨rfl, _, rfl, by unfold ansE; first | (rw [if_pos (by first | exact h68 | exact Classical.not_not.mp h68)]; exact r52) | (rw [if_neg h68, if_pos (by first | exact h81 | exact Classical.not_not.mp h81)]; exact r52) | (rw [if_neg h68, if_neg h81]; exact r52)⟩)
  · have hrf := (r52.rfk (h.of hk).2).resolve_left h68
    refine go_aload_n 72 dX0_answer_71 rfl ?_
    refine xe_get 75 dX0_answer_72 fX0_23 rfl ?_
    refine go_iload_n 76 dX0_answer_75 rfl ?_
    refine go_iconst 77 dX0_answer_76 zc_2 ?_
    refine gcV2 80 dX0_answer_77 vX0_64 r52.tL rfl (cg_L (k := rf (ansC D sg k) (ofN D k)) (j := 2) r52 hrf.1 rfl hrf.2 (by decide)) ?_
    refine go_iconst 81 dX0_answer_80 zc_2 ?_
    refine go_icmp_ne 97 84 dX0_answer_81 (fun h81 => ?_) (fun h81 => ?_)
    · exact go_return dX0_answer_97 rfl (by omega) (by omega) (⟨rfl, _, rfl, by unfold ansE; first | (rw [if_pos (by first | exact h68 | exact Classical.not_not.mp h68)]; exact r52) | (rw [if_neg h68, if_pos (by first | exact h81 | exact Classical.not_not.mp h81)]; exact r52) | (rw [if_neg h68, if_neg h81]; exact r52)⟩)
    · refine go_aload_n 85 dX0_answer_84 rfl ?_
      refine go_iload_n 86 dX0_answer_85 rfl ?_
      refine go_bipush 88 dX0_answer_86 zb_7 ?_
      refine gxX2v 91 dX0_answer_88 vX0_110 wE_at0 rfl (cx_X0_endLeg (k := rf (ansC D sg k) (ofN D k)) r52 hrf.1 hrf.2) (fun E88 r88 => ?_)
      refine go_aload_n 92 dX0_answer_91 rfl ?_
      refine go_bipush 94 dX0_answer_92 zb_6 ?_
      refine gxX1v 97 dX0_answer_94 vX0_132 wE_at0 rfl (cx_X0_tally r88 (t := 6) rfl (by decide)) (fun E94 r94 => ?_)
      exact go_return dX0_answer_97 rfl (by omega) (by omega) (⟨rfl, _, rfl, by unfold ansE; first | (rw [if_pos (by first | exact h68 | exact Classical.not_not.mp h68)]; exact r94) | (rw [if_neg h68, if_pos (by first | exact h81 | exact Classical.not_not.mp h81)]; exact r94) | (rw [if_neg h68, if_neg h81]; exact r94)⟩)
end CExM
