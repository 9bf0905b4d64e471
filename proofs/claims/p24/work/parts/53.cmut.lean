section CMut
/-! the class's changing methods -/
theorem puC_0 {C : CS} {i u a b c : Nat} : (puC C i u a b c).1 0 = C.1 0 := if_neg (by omega)
theorem cE_cE {C : CS} {m : Nat} {E E' : ES} : cE (cE C m E) m E' = cE C m E' := by
  refine Prod.ext (funext fun i => ?_) rfl
  show (if i = m then E' else if i = m then E else C.1 i) = if i = m then E' else C.1 i
  by_cases h : i = m
  · rw [if_pos h, if_pos h]
  · rw [if_neg h, if_neg h, if_neg h]
theorem cE_at {C : CS} {m : Nat} {E : ES} : (cE C m E).1 m = E := if_pos rfl
theorem sdN_lt {D : ZD} {k : Nat} {p : Int32} : sdN D k p < 2 := by unfold sdN; split <;> decide
theorem jo_hup {D : ZD} {x : Int32} (h : JO D) : JO (hupD D x).2 := by
  unfold hupD
  split
  · exact jo_end h
  · split
    · exact jo_take (jo_endAll h)
    · split
      · exact jo_end h
      · split
        · exact h
        · exact jo_endTo h
theorem jo_glr {D : ZD} {k o s : Nat} {v : Int32} (ho : o < 2) (hs2 : s < 2) (h : JO D) (hs : Same D (glrD D k o s v)) (h1 : dL D k 2 = 1) : JO (glrD D k o s v) := by
  refine JO.row (k := k) h hs (fun k' j e hj => ?_) (fun _ => rowOK_1 ?_ (Or.inl ?_))
  · unfold glrD
    rw [tally_L (by decide), dL_setLn (by omega), dL_setLn (by omega), dL_setLn (by omega), dL_setLn (by omega), dL_setLn (by omega)]
  · unfold glrD
    rw [tally_L (by decide), dL_setLn (by omega), dL_setLn (by omega), dL_setLn (by omega), dL_setLn (by omega), dL_setLn (by omega)]
    exact h1
  · unfold glrD
    rw [tally_L (by decide), dL_setL]
theorem jo_mkO {D : ZD} {k s : Nat} {v : Int32} (h : JO D) (hs : Same D (mkO D k s v).2) (h1 : dL D k 2 = 1) (h2 : s < 2) : JO (mkO D k s v).2 := by
  unfold mkO at hs ⊢
  by_cases q : dL D k 6 = nI s
  · rw [if_pos q]; exact h
  · rw [if_neg q] at hs ⊢
    by_cases q2 : dL D k 6 = -1
    · rw [if_pos q2]
      exact jo_lay h (fun _ => h1) (by rcases (show s = 0 ∨ s = 1 by omega) with rfl | rfl; exact Or.inl rfl; exact Or.inr rfl)
    · rw [if_neg q2] at hs ⊢
      exact jo_glr (by omega) h2 h hs h1
theorem go_loc {l : Launch} {Γ : ZG} {M : ZM} {dp mc ms : Nat} {Φ : Option Value → ZW → Prop} {Ψ : String → ZW → Prop} {k n : Nat} {w w' : ZW} {pc : Nat} {L : ZL} {st : List Value} (h : w = w') (kk : Go l Γ M dp mc ms Φ Ψ k n w' pc L st) : Go l Γ M dp mc ms Φ Ψ k n w pc L st := by subst h; exact kk
theorem XCc {l : Launch} {Γ : ZG} {w : ZW} {x n0 n1 n2 : Nat} {C : CS} (hR : RB (C.1 0) n0 n1 n2) : Cm l Γ mX0_copyFrom 2 [.ref (x + 10), .ref (x + 1)] (wC Γ w x C) none (wC Γ w x (cE C 1 (cpE (C.1 1) (C.1 0) n0 n1 n2))) := by
  have c := cx_X0_copyFrom (l := l) (Γ := Γ) (w := wC Γ w x C) (e := x + eo 1) (f := x + eo 0) (E := C.1 1) (F := C.1 0) (wC_ex (m := 0) (by decide)) (by rw [eo1, eo0]; omega) hR
  rw [wC_Es (by decide), wC_E (by decide), eo1, eo0] at c
  exact c
set_option maxRecDepth 100000 in
set_option maxHeartbeats 4000000 in
theorem ct_X5_hangUp_1 {l : Launch} {Γ : ZG} {w : ZW} {x : Nat} {C : CS} {D : ZD} {g : Option Nat} {sg : ZSg} (h : CR D g sg (C.1 0) D) {y0 : Int32} (h1 : ¬ (0 ≤ y0 ∧ y0 ≤ D 4 - 1)) : Ct l Γ mX5_hangUp 7 1 6 [.ref x, .int y0] (wC Γ w x C) zNv (ThP "java/lang/IndexOutOfBoundsException" (wC Γ w x C)) := by
  refine Ct.of (by decide) rfl (Nat.le_of_ble_eq_true rfl) ?_
  refine go_aload_n 1 dX5_hangUp_0 rfl ?_
  refine go_iload_n 2 dX5_hangUp_1 rfl ?_
  exact gt_V1 5 dX5_hangUp_2 vX5_106 wC_at0 rfl (ct_X5_requireParty_n h h1) (fun w' a b => ⟨rfl, a, b⟩)
set_option maxRecDepth 100000 in
set_option maxHeartbeats 4000000 in
theorem ct_X5_hangUp {l : Launch} {Γ : ZG} {w : ZW} {x : Nat} {C : CS} {D : ZD} {g : Option Nat} {sg : ZSg} (h : CR D g sg (C.1 0) D) (hG : GI sg D) {i u : Nat} (hn : C.2.2.1 = nI i) (hi : i < 8) (hu : C.2.2.2.1 = nI u) (hu8 : u ≤ 8) {y0 : Int32} (h1 : 0 ≤ y0 ∧ y0 ≤ D 4 - 1) : Ct l Γ mX5_hangUp 8 0 0 [.ref x, .int y0] (wC Γ w x C) (PvC Γ w x (puC C i u (nP D) (nC D) (nL D)) 0 (some (.int (hupD D y0).1)) (fun E => CR D g sg E (hupD D y0).2)) zNo := by
  have hp : CR D g sg ((puC C i u (nP D) (nC D) (nL D)).1 0) D := by rw [puC_0]; exact h
  refine Ct.of (by decide) rfl (Nat.le_of_ble_eq_true rfl) ?_
  refine go_aload_n 1 dX5_hangUp_0 rfl ?_
  refine go_iload_n 2 dX5_hangUp_1 rfl ?_
  refine gcV1v 5 dX5_hangUp_2 vX5_106 wC_at0 rfl (ct_X5_requireParty_y h h1) ?_
  refine go_aload_n 6 dX5_hangUp_5 rfl ?_
  refine go_get 9 dX5_hangUp_6 fX5_22 wC_at0 rfl ?_
  refine go_aload_n 10 dX5_hangUp_9 rfl ?_
  refine go_get 13 dX5_hangUp_10 fX5_10 wC_at0 rfl ?_
  refine gcV1v 16 dX5_hangUp_13 vX5_59 wC_at19 rfl (ct_X1_push hn hi hu hu8 h.rb) ?_
  refine go_aload_n 17 dX5_hangUp_16 rfl ?_
  refine go_get 20 dX5_hangUp_17 fX5_10 wC_at0 rfl ?_
  refine go_iload_n 21 dX5_hangUp_20 rfl ?_
  refine go_callV 24 [.int y0] dX5_hangUp_21 vX5_175 xc_now rfl (XPt0 (cx_X0_leave hp hG)) (by decide) (by decide) (by omega) (by omega) (Nat.le_of_ble_eq_true rfl) ?_
  intro v9 w9 q9
  obtain ⟨rfl, E9, rfl, hE9⟩ := q9
  exact go_ireturn dX5_hangUp_24 rfl (by omega) (by omega) ⟨rfl, E9, rfl, hE9⟩
set_option maxRecDepth 100000 in
set_option maxHeartbeats 4000000 in
theorem ct_X5_offer_1 {l : Launch} {Γ : ZG} {w : ZW} {x : Nat} {C : CS} {D : ZD} {g : Option Nat} {sg : ZSg} (h : CR D g sg (C.1 0) D) {y0 y1 : Int32} (h1 : ¬ (0 ≤ y0 ∧ y0 ≤ D 4 - 1)) : Ct l Γ mX5_offer 7 1 6 [.ref x, .int y0, .int y1] (wC Γ w x C) zNv (ThP "java/lang/IndexOutOfBoundsException" (wC Γ w x C)) := by
  refine Ct.of (by decide) rfl (Nat.le_of_ble_eq_true rfl) ?_
  refine go_aload_n 1 dX5_offer_0 rfl ?_
  refine go_iload_n 2 dX5_offer_1 rfl ?_
  exact gt_V1 5 dX5_offer_2 vX5_106 wC_at0 rfl (ct_X5_requireParty_n h h1) (fun w' a b => ⟨rfl, a, b⟩)
set_option maxRecDepth 100000 in
set_option maxHeartbeats 4000000 in
theorem ct_X5_offer_2 {l : Launch} {Γ : ZG} {w : ZW} {x : Nat} {C : CS} {D : ZD} {g : Option Nat} {sg : ZSg} (h : CR D g sg (C.1 0) D) {y0 y1 : Int32} (h1 : 0 ≤ y0 ∧ y0 ≤ D 4 - 1) (h2 : ¬ (0 ≤ y1 ∧ y1 ≤ 999)) : Ct l Γ mX5_offer 7 1 6 [.ref x, .int y0, .int y1] (wC Γ w x C) zNv (ThP "java/lang/IllegalArgumentException" (wC Γ w x C)) := by
  refine Ct.of (by decide) rfl (Nat.le_of_ble_eq_true rfl) ?_
  refine go_aload_n 1 dX5_offer_0 rfl ?_
  refine go_iload_n 2 dX5_offer_1 rfl ?_
  refine gcV1v 5 dX5_offer_2 vX5_106 wC_at0 rfl (ct_X5_requireParty_y h h1) ?_
  refine go_iload_n 6 dX5_offer_5 rfl ?_
  refine go_iconst 7 dX5_offer_6 zc_0 ?_
  refine go_sipush 10 dX5_offer_7 zs_999 ?_
  exact gt_S3 13 dX5_offer_10 vX5_48 (ct_X5_requireRange_n (by exact h2)) (fun w' a b => ⟨rfl, a, b⟩)
set_option maxRecDepth 100000 in
set_option maxHeartbeats 4000000 in
theorem ct_X5_offer_3 {l : Launch} {Γ : ZG} {w : ZW} {x : Nat} {C : CS} {D : ZD} {g : Option Nat} {sg : ZSg} (h : CR D g sg (C.1 0) D) {y0 y1 : Int32} (h1 : 0 ≤ y0 ∧ y0 ≤ D 4 - 1) (h2 : 0 ≤ y1 ∧ y1 ≤ 999) (h4 : legW D y0 1 = -1) : Ct l Γ mX5_offer 7 1 6 [.ref x, .int y0, .int y1] (wC Γ w x C) zNv (ThP "java/lang/IllegalStateException" (wC Γ w x C)) := by
  refine Ct.of (by decide) rfl (Nat.le_of_ble_eq_true rfl) ?_
  refine go_aload_n 1 dX5_offer_0 rfl ?_
  refine go_iload_n 2 dX5_offer_1 rfl ?_
  refine gcV1v 5 dX5_offer_2 vX5_106 wC_at0 rfl (ct_X5_requireParty_y h h1) ?_
  refine go_iload_n 6 dX5_offer_5 rfl ?_
  refine go_iconst 7 dX5_offer_6 zc_0 ?_
  refine go_sipush 10 dX5_offer_7 zs_999 ?_
  refine gcS3v 13 dX5_offer_10 vX5_48 (ct_X5_requireRange_y (by exact h2)) ?_
  refine go_aload_n 14 dX5_offer_13 rfl ?_
  refine go_get 17 dX5_offer_14 fX5_10 wC_at0 rfl ?_
  refine go_iload_n 18 dX5_offer_17 rfl ?_
  refine go_iconst 19 dX5_offer_18 zc_1 ?_
  refine gcV2 22 dX5_offer_19 vX5_112 xc_now rfl (XCm0 (cx_X0_legOf h)) ?_
  refine go_istore_n 23 dX5_offer_22 (by decide) ?_
  refine go_iload_n 24 dX5_offer_23 rfl ?_
  refine go_iconst 25 dX5_offer_24 zc_m1 ?_
  refine go_icmp_ne 38 28 dX5_offer_25 (fun h25 => ?_) (fun h25 => ?_)
  · exact absurd h4 h25
  · exact go_throw (thS "the party is in no talking leg" 178 (by decide +kernel)) dX5_offer_28 dX5_offer_31 dX5_offer_32 dX5_offer_34 dX5_offer_37 rfl (by decide) (by decide) (by decide) (Nat.le_of_ble_eq_true rfl) (fun w' a b => ⟨rfl, a, b⟩)
set_option maxRecDepth 100000 in
set_option maxHeartbeats 4000000 in
theorem ct_X5_offer {l : Launch} {Γ : ZG} {w : ZW} {x : Nat} {C : CS} {D : ZD} {g : Option Nat} {sg : ZSg} (h : CR D g sg (C.1 0) D) (hG : GI sg D) {i u : Nat} (hn : C.2.2.1 = nI i) (hi : i < 8) (hu : C.2.2.2.1 = nI u) (hu8 : u ≤ 8) {y0 y1 : Int32} (h1 : 0 ≤ y0 ∧ y0 ≤ D 4 - 1) (h2 : 0 ≤ y1 ∧ y1 ≤ 999) (h4 : legW D y0 1 ≠ -1) : Ct l Γ mX5_offer 8 0 0 [.ref x, .int y0, .int y1] (wC Γ w x C) (PvC Γ w x (puC C i u (nP D) (nC D) (nL D)) 0 (some (.int (offD D (tN (legW D y0 1)) y0 y1).1)) (fun E => CR D g sg E (offD D (tN (legW D y0 1)) y0 y1).2)) zNo := by
  have hp : CR D g sg ((puC C i u (nP D) (nC D) (nL D)).1 0) D := by rw [puC_0]; exact h
  obtain ⟨k1, k2, k3, k4⟩ := leg_ok h.L40 h4
  have h6 := (hG.jo _ k2).2.2
  refine Ct.of (by decide) rfl (Nat.le_of_ble_eq_true rfl) ?_
  refine go_aload_n 1 dX5_offer_0 rfl ?_
  refine go_iload_n 2 dX5_offer_1 rfl ?_
  refine gcV1v 5 dX5_offer_2 vX5_106 wC_at0 rfl (ct_X5_requireParty_y h h1) ?_
  refine go_iload_n 6 dX5_offer_5 rfl ?_
  refine go_iconst 7 dX5_offer_6 zc_0 ?_
  refine go_sipush 10 dX5_offer_7 zs_999 ?_
  refine gcS3v 13 dX5_offer_10 vX5_48 (ct_X5_requireRange_y (by exact h2)) ?_
  refine go_aload_n 14 dX5_offer_13 rfl ?_
  refine go_get 17 dX5_offer_14 fX5_10 wC_at0 rfl ?_
  refine go_iload_n 18 dX5_offer_17 rfl ?_
  refine go_iconst 19 dX5_offer_18 zc_1 ?_
  refine gcV2 22 dX5_offer_19 vX5_112 xc_now rfl (XCm0 (cx_X0_legOf h)) ?_
  refine go_istore_n 23 dX5_offer_22 (by decide) ?_
  refine go_iload_n 24 dX5_offer_23 rfl ?_
  refine go_iconst 25 dX5_offer_24 zc_m1 ?_
  refine go_icmp_ne 38 28 dX5_offer_25 (fun h25 => ?_) (fun h25 => ?_)
  · refine go_aload_n 39 dX5_offer_38 rfl ?_
    refine go_get 42 dX5_offer_39 fX5_22 wC_at0 rfl ?_
    refine go_aload_n 43 dX5_offer_42 rfl ?_
    refine go_get 46 dX5_offer_43 fX5_10 wC_at0 rfl ?_
    refine gcV1v 49 dX5_offer_46 vX5_59 wC_at19 rfl (ct_X1_push hn hi hu hu8 h.rb) ?_
    refine go_aload_n 50 dX5_offer_49 rfl ?_
    refine go_get 53 dX5_offer_50 fX5_10 wC_at0 rfl ?_
    refine go_iload_n 54 dX5_offer_53 rfl ?_
    refine go_aload_n 55 dX5_offer_54 rfl ?_
    refine go_get 58 dX5_offer_55 fX5_10 wC_at0 rfl ?_
    refine go_iload_n 59 dX5_offer_58 rfl ?_
    refine go_iload_n 60 dX5_offer_59 rfl ?_
    refine gcV2 63 dX5_offer_60 vX5_180 xc_now rfl (XCm0 (cx_X0_sideOf hp k1 k2)) ?_
    refine go_iload_n 64 dX5_offer_63 rfl ?_
    refine go_callV 67 [.int (legW D y0 1), .int (nI (sdN D (tN (legW D y0 1)) y0)), .int y1] dX5_offer_64 vX5_183 xc_now rfl (XPt0 (cx_X0_makeOffer hp k1 k2 sdN_lt h6)) (by decide) (by decide) (by omega) (by omega) (Nat.le_of_ble_eq_true rfl) ?_
    intro v9 w9 q9
    obtain ⟨rfl, E9, rfl, hE9⟩ := q9
    exact go_ireturn dX5_offer_67 rfl (by omega) (by omega) ⟨rfl, E9, rfl, hE9⟩
  · exact absurd (by first | exact h25 | exact Classical.not_not.mp h25) h4
set_option maxRecDepth 100000 in
set_option maxHeartbeats 4000000 in
theorem ct_X5_transfer_1 {l : Launch} {Γ : ZG} {w : ZW} {x : Nat} {C : CS} {D : ZD} {g : Option Nat} {sg : ZSg} (h : CR D g sg (C.1 0) D) {y0 y1 : Int32} (h1 : ¬ (0 ≤ y0 ∧ y0 ≤ D 4 - 1)) : Ct l Γ mX5_transfer 7 1 6 [.ref x, .int y0, .int y1] (wC Γ w x C) zNv (ThP "java/lang/IndexOutOfBoundsException" (wC Γ w x C)) := by
  refine Ct.of (by decide) rfl (Nat.le_of_ble_eq_true rfl) ?_
  refine go_aload_n 1 dX5_transfer_0 rfl ?_
  refine go_iload_n 2 dX5_transfer_1 rfl ?_
  exact gt_V1 5 dX5_transfer_2 vX5_106 wC_at0 rfl (ct_X5_requireParty_n h h1) (fun w' a b => ⟨rfl, a, b⟩)
set_option maxRecDepth 100000 in
set_option maxHeartbeats 4000000 in
theorem ct_X5_transfer_1b {l : Launch} {Γ : ZG} {w : ZW} {x : Nat} {C : CS} {D : ZD} {g : Option Nat} {sg : ZSg} (h : CR D g sg (C.1 0) D) {y0 y1 : Int32} (h1 : 0 ≤ y0 ∧ y0 ≤ D 4 - 1) (h2 : ¬ (0 ≤ y1 ∧ y1 ≤ D 4 - 1)) : Ct l Γ mX5_transfer 7 1 6 [.ref x, .int y0, .int y1] (wC Γ w x C) zNv (ThP "java/lang/IndexOutOfBoundsException" (wC Γ w x C)) := by
  refine Ct.of (by decide) rfl (Nat.le_of_ble_eq_true rfl) ?_
  refine go_aload_n 1 dX5_transfer_0 rfl ?_
  refine go_iload_n 2 dX5_transfer_1 rfl ?_
  refine gcV1v 5 dX5_transfer_2 vX5_106 wC_at0 rfl (ct_X5_requireParty_y h h1) ?_
  refine go_aload_n 6 dX5_transfer_5 rfl ?_
  refine go_iload_n 7 dX5_transfer_6 rfl ?_
  exact gt_V1 10 dX5_transfer_7 vX5_106 wC_at0 rfl (ct_X5_requireParty_n h h2) (fun w' a b => ⟨rfl, a, b⟩)
set_option maxRecDepth 100000 in
set_option maxHeartbeats 4000000 in
theorem ct_X5_transfer_2 {l : Launch} {Γ : ZG} {w : ZW} {x : Nat} {C : CS} {D : ZD} {g : Option Nat} {sg : ZSg} (h : CR D g sg (C.1 0) D) {y0 y1 : Int32} (h1 : 0 ≤ y0 ∧ y0 ≤ D 4 - 1) (h2 : 0 ≤ y1 ∧ y1 ≤ D 4 - 1) (h4 : legW D y0 1 = -1 ∨ ¬ (nC D < 20 ∧ nL D + 1 ≤ 40)) : Ct l Γ mX5_transfer 7 1 6 [.ref x, .int y0, .int y1] (wC Γ w x C) zNv (ThP "java/lang/IllegalStateException" (wC Γ w x C)) := by
  refine Ct.of (by decide) rfl (Nat.le_of_ble_eq_true rfl) ?_
  refine go_aload_n 1 dX5_transfer_0 rfl ?_
  refine go_iload_n 2 dX5_transfer_1 rfl ?_
  refine gcV1v 5 dX5_transfer_2 vX5_106 wC_at0 rfl (ct_X5_requireParty_y h h1) ?_
  refine go_aload_n 6 dX5_transfer_5 rfl ?_
  refine go_iload_n 7 dX5_transfer_6 rfl ?_
  refine gcV1v 10 dX5_transfer_7 vX5_106 wC_at0 rfl (ct_X5_requireParty_y h h2) ?_
  refine go_aload_n 11 dX5_transfer_10 rfl ?_
  refine go_get 14 dX5_transfer_11 fX5_10 wC_at0 rfl ?_
  refine go_iload_n 15 dX5_transfer_14 rfl ?_
  refine go_iconst 16 dX5_transfer_15 zc_1 ?_
  refine gcV2 19 dX5_transfer_16 vX5_112 xc_now rfl (XCm0 (cx_X0_legOf h)) ?_
  refine go_istore_n 20 dX5_transfer_19 (by decide) ?_
  refine go_iload_n 21 dX5_transfer_20 rfl ?_
  refine go_iconst 22 dX5_transfer_21 zc_m1 ?_
  refine go_icmp_eq 36 25 dX5_transfer_22 (fun h22 => ?_) (fun h22 => ?_)
  · exact go_throw (thS "no transfer can begin" 164 (by decide +kernel)) dX5_transfer_36 dX5_transfer_39 dX5_transfer_40 dX5_transfer_42 dX5_transfer_45 rfl (by decide) (by decide) (by decide) (Nat.le_of_ble_eq_true rfl) (fun w' a b => ⟨rfl, a, b⟩)
  · refine go_aload_n 26 dX5_transfer_25 rfl ?_
    refine go_get 29 dX5_transfer_26 fX5_10 wC_at0 rfl ?_
    refine go_iconst 30 dX5_transfer_29 zc_1 ?_
    refine gcV1 33 dX5_transfer_30 vX5_154 xc_now rfl (XCm0 (cx_X0_hasRoomFor (y := 1) h (by decide))) ?_
    rw [zb_f (by rcases h4 with q | q; exact absurd q (by first | exact h22 | exact fun z => h22 z); exact q)]
    refine go_if_ne 46 36 dX5_transfer_33 (fun h33 => ?_) (fun h33 => ?_)
    · exact absurd h33 (by decide)
    · exact go_throw (thS "no transfer can begin" 164 (by decide +kernel)) dX5_transfer_36 dX5_transfer_39 dX5_transfer_40 dX5_transfer_42 dX5_transfer_45 rfl (by decide) (by decide) (by decide) (Nat.le_of_ble_eq_true rfl) (fun w' a b => ⟨rfl, a, b⟩)
set_option maxRecDepth 100000 in
set_option maxHeartbeats 4000000 in
theorem ct_X5_transfer_3 {l : Launch} {Γ : ZG} {w : ZW} {x : Nat} {C : CS} {D : ZD} {g : Option Nat} {sg : ZSg} (h : CR D g sg (C.1 0) D) {y0 y1 : Int32} (h1 : 0 ≤ y0 ∧ y0 ≤ D 4 - 1) (h2 : 0 ≤ y1 ∧ y1 ≤ D 4 - 1) (h4 : legW D y0 1 ≠ -1) (h3 : nC D < 20 ∧ nL D + 1 ≤ 40) (h5 : inLeg D y1 (tN (legW D y0 1))) : Ct l Γ mX5_transfer 7 1 6 [.ref x, .int y0, .int y1] (wC Γ w x C) zNv (ThP "java/lang/IllegalArgumentException" (wC Γ w x C)) := by
  obtain ⟨k1, k2, k3, k4⟩ := leg_ok h.L40 h4
  refine Ct.of (by decide) rfl (Nat.le_of_ble_eq_true rfl) ?_
  refine go_aload_n 1 dX5_transfer_0 rfl ?_
  refine go_iload_n 2 dX5_transfer_1 rfl ?_
  refine gcV1v 5 dX5_transfer_2 vX5_106 wC_at0 rfl (ct_X5_requireParty_y h h1) ?_
  refine go_aload_n 6 dX5_transfer_5 rfl ?_
  refine go_iload_n 7 dX5_transfer_6 rfl ?_
  refine gcV1v 10 dX5_transfer_7 vX5_106 wC_at0 rfl (ct_X5_requireParty_y h h2) ?_
  refine go_aload_n 11 dX5_transfer_10 rfl ?_
  refine go_get 14 dX5_transfer_11 fX5_10 wC_at0 rfl ?_
  refine go_iload_n 15 dX5_transfer_14 rfl ?_
  refine go_iconst 16 dX5_transfer_15 zc_1 ?_
  refine gcV2 19 dX5_transfer_16 vX5_112 xc_now rfl (XCm0 (cx_X0_legOf h)) ?_
  refine go_istore_n 20 dX5_transfer_19 (by decide) ?_
  refine go_iload_n 21 dX5_transfer_20 rfl ?_
  refine go_iconst 22 dX5_transfer_21 zc_m1 ?_
  refine go_icmp_eq 36 25 dX5_transfer_22 (fun h22 => ?_) (fun h22 => ?_)
  · exact absurd (by first | exact h22 | exact Classical.not_not.mp h22) h4
  · refine go_aload_n 26 dX5_transfer_25 rfl ?_
    refine go_get 29 dX5_transfer_26 fX5_10 wC_at0 rfl ?_
    refine go_iconst 30 dX5_transfer_29 zc_1 ?_
    refine gcV1 33 dX5_transfer_30 vX5_154 xc_now rfl (XCm0 (cx_X0_hasRoomFor (y := 1) h (by decide))) ?_
    rw [zb_t h3]
    refine go_if_ne 46 36 dX5_transfer_33 (fun h33 => ?_) (fun h33 => ?_)
    · refine go_aload_n 47 dX5_transfer_46 rfl ?_
      refine go_get 50 dX5_transfer_47 fX5_10 wC_at0 rfl ?_
      refine go_iload_n 51 dX5_transfer_50 rfl ?_
      refine go_iload_n 52 dX5_transfer_51 rfl ?_
      refine gcV2 55 dX5_transfer_52 vX5_166 xc_now rfl (XCm0 (cx_X0_isIn h k1 k2)) ?_
      rw [zb_t h5]
      refine go_if_eq 68 58 dX5_transfer_55 (fun h55 => ?_) (fun h55 => ?_)
      · exact absurd h55 (by decide)
      · exact go_throw (thI "the target is in the leg" 170 (by decide +kernel)) dX5_transfer_58 dX5_transfer_61 dX5_transfer_62 dX5_transfer_64 dX5_transfer_67 rfl (by decide) (by decide) (by decide) (Nat.le_of_ble_eq_true rfl) (fun w' a b => ⟨rfl, a, b⟩)
    · exact absurd h33 (by decide)
set_option maxRecDepth 100000 in
set_option maxHeartbeats 4000000 in
theorem ct_X5_transfer {l : Launch} {Γ : ZG} {w : ZW} {x : Nat} {C : CS} {D : ZD} {g : Option Nat} {sg : ZSg} (h : CR D g sg (C.1 0) D) (hG : GI sg D) {i u : Nat} (hn : C.2.2.1 = nI i) (hi : i < 8) (hu : C.2.2.2.1 = nI u) (hu8 : u ≤ 8) {y0 y1 : Int32} (h1 : 0 ≤ y0 ∧ y0 ≤ D 4 - 1) (h2 : 0 ≤ y1 ∧ y1 ≤ D 4 - 1) {k : Nat} (hk : legW D y0 1 = nI k) (hkL : k < nL D) (h3 : nC D < 20 ∧ nL D + 1 ≤ 40) (h5 : ¬ inLeg D y1 k) {t q : Nat} {cs : List Int32} (hR : RG Γ w g cs) (hA : gAway g x 105) (ht : y1 = nI t) (htP : t < nP D) (hq : (if clr D k = y0 then dL D k 1 else clr D k) = nI q ∧ q < nP D) : Ct l Γ mX5_transfer 9 0 0 [.ref x, .int y0, .int y1] (wC Γ w x C) (PvD Γ w x (puC C i u (nP D) (nC D) (nL D)) g (some (.int (begN (dropD (setL D k 2 2) k) (nI q) (nI (2 ^ t)) (ringV (nI (bN (nI (2 ^ t)) 0 10)) (nI q) 1 ((dropD (setL D k 2 2) k) 0) cs) (nI k)))) (fun E => CR (begD (dropD (setL D k 2 2) k) (nI q) (nI (2 ^ t)) (ringV (nI (bN (nI (2 ^ t)) 0 10)) (nI q) 1 ((dropD (setL D k 2 2) k) 0) cs) (nI k)) g (sgN sg (dropD (setL D k 2 2) k) (bN (nI (2 ^ t)) 0 10)) E (begD (dropD (setL D k 2 2) k) (nI q) (nI (2 ^ t)) (ringV (nI (bN (nI (2 ^ t)) 0 10)) (nI q) 1 ((dropD (setL D k 2 2) k) 0) cs) (nI k)))) zNo := by
  have hp : CR D g sg ((puC C i u (nP D) (nC D) (nL D)).1 0) D := by rw [puC_0]; exact h
  have h4 : legW D y0 1 ≠ -1 := by rw [hk]; exact nI_nm1 (by have := h.L40; omega)
  refine Ct.of (by decide) rfl (Nat.le_of_ble_eq_true rfl) ?_
  refine go_aload_n 1 dX5_transfer_0 rfl ?_
  refine go_iload_n 2 dX5_transfer_1 rfl ?_
  refine gcV1v 5 dX5_transfer_2 vX5_106 wC_at0 rfl (ct_X5_requireParty_y h h1) ?_
  refine go_aload_n 6 dX5_transfer_5 rfl ?_
  refine go_iload_n 7 dX5_transfer_6 rfl ?_
  refine gcV1v 10 dX5_transfer_7 vX5_106 wC_at0 rfl (ct_X5_requireParty_y h h2) ?_
  refine go_aload_n 11 dX5_transfer_10 rfl ?_
  refine go_get 14 dX5_transfer_11 fX5_10 wC_at0 rfl ?_
  refine go_iload_n 15 dX5_transfer_14 rfl ?_
  refine go_iconst 16 dX5_transfer_15 zc_1 ?_
  refine gcV2 19 dX5_transfer_16 vX5_112 xc_now rfl (XCm0 (cx_X0_legOf h)) ?_
  refine go_istore_n 20 dX5_transfer_19 (by decide) ?_
  refine go_iload_n 21 dX5_transfer_20 rfl ?_
  refine go_iconst 22 dX5_transfer_21 zc_m1 ?_
  refine go_icmp_eq 36 25 dX5_transfer_22 (fun h22 => ?_) (fun h22 => ?_)
  · exact absurd (by first | exact h22 | exact Classical.not_not.mp h22) h4
  · refine go_aload_n 26 dX5_transfer_25 rfl ?_
    refine go_get 29 dX5_transfer_26 fX5_10 wC_at0 rfl ?_
    refine go_iconst 30 dX5_transfer_29 zc_1 ?_
    refine gcV1 33 dX5_transfer_30 vX5_154 xc_now rfl (XCm0 (cx_X0_hasRoomFor (y := 1) h (by decide))) ?_
    rw [zb_t h3]
    refine go_if_ne 46 36 dX5_transfer_33 (fun h33 => ?_) (fun h33 => ?_)
    · refine go_aload_n 47 dX5_transfer_46 rfl ?_
      refine go_get 50 dX5_transfer_47 fX5_10 wC_at0 rfl ?_
      refine go_iload_n 51 dX5_transfer_50 rfl ?_
      refine go_iload_n 52 dX5_transfer_51 rfl ?_
      refine gcV2 55 dX5_transfer_52 vX5_166 xc_now rfl (XCm0 (cx_X0_isIn h hk hkL)) ?_
      rw [zb_f h5]
      refine go_if_eq 68 58 dX5_transfer_55 (fun h55 => ?_) (fun h55 => ?_)
      · refine go_aload_n 69 dX5_transfer_68 rfl ?_
        refine go_get 72 dX5_transfer_69 fX5_22 wC_at0 rfl ?_
        refine go_aload_n 73 dX5_transfer_72 rfl ?_
        refine go_get 76 dX5_transfer_73 fX5_10 wC_at0 rfl ?_
        refine gcV1v 79 dX5_transfer_76 vX5_59 wC_at19 rfl (ct_X1_push hn hi hu hu8 h.rb) ?_
        refine go_aload_n 80 dX5_transfer_79 rfl ?_
        refine go_get 83 dX5_transfer_80 fX5_10 wC_at0 rfl ?_
        refine go_iload_n 84 dX5_transfer_83 rfl ?_
        refine go_iload_n 85 dX5_transfer_84 rfl ?_
        refine go_iload_n 86 dX5_transfer_85 rfl ?_
        refine go_callV 89 [.int (legW D y0 1), .int y0, .int y1] dX5_transfer_86 vX5_172 xc_now rfl (by rw [hk, ht]; exact XPg0 hA (cx_X0_refer hp hG (hR.out hA) (fun r hr => by have := hA r hr; omega) hkL htP h3.1 h3.2 hq)) (by decide) (by decide) (by omega) (by omega) (Nat.le_of_ble_eq_true rfl) ?_
        intro v9 w9 q9
        obtain ⟨rfl, h9, z9, E9, rfl, hE9⟩ := q9
        exact go_ireturn dX5_transfer_89 rfl (by omega) (by omega) ⟨rfl, h9, z9, E9, rfl, hE9⟩
      · exact absurd h55 (by decide)
    · exact absurd h33 (by decide)
set_option maxRecDepth 100000 in
set_option maxHeartbeats 4000000 in
theorem ct_X5_setParty_1 {l : Launch} {Γ : ZG} {w : ZW} {x : Nat} {C : CS} {D : ZD} {g : Option Nat} {sg : ZSg} (h : CR D g sg (C.1 0) D) {y0 y1 y2 : Int32} (h1 : ¬ (0 ≤ y0 ∧ y0 ≤ D 4 - 1)) : Ct l Γ mX5_setParty 7 1 6 [.ref x, .int y0, .int y1, .int y2] (wC Γ w x C) zNv (ThP "java/lang/IndexOutOfBoundsException" (wC Γ w x C)) := by
  refine Ct.of (by decide) rfl (Nat.le_of_ble_eq_true rfl) ?_
  refine go_aload_n 1 dX5_setParty_0 rfl ?_
  refine go_iload_n 2 dX5_setParty_1 rfl ?_
  exact gt_V1 5 dX5_setParty_2 vX5_106 wC_at0 rfl (ct_X5_requireParty_n h h1) (fun w' a b => ⟨rfl, a, b⟩)
set_option maxRecDepth 100000 in
set_option maxHeartbeats 4000000 in
theorem ct_X5_setParty_2 {l : Launch} {Γ : ZG} {w : ZW} {x : Nat} {C : CS} {D : ZD} {g : Option Nat} {sg : ZSg} (h : CR D g sg (C.1 0) D) {y0 y1 y2 : Int32} (h1 : 0 ≤ y0 ∧ y0 ≤ D 4 - 1) (h2 : ¬ (0 ≤ y1 ∧ y1 ≤ 2)) : Ct l Γ mX5_setParty 7 1 6 [.ref x, .int y0, .int y1, .int y2] (wC Γ w x C) zNv (ThP "java/lang/IllegalArgumentException" (wC Γ w x C)) := by
  refine Ct.of (by decide) rfl (Nat.le_of_ble_eq_true rfl) ?_
  refine go_aload_n 1 dX5_setParty_0 rfl ?_
  refine go_iload_n 2 dX5_setParty_1 rfl ?_
  refine gcV1v 5 dX5_setParty_2 vX5_106 wC_at0 rfl (ct_X5_requireParty_y h h1) ?_
  refine go_iload_n 6 dX5_setParty_5 rfl ?_
  refine go_iconst 7 dX5_setParty_6 zc_0 ?_
  refine go_iconst 8 dX5_setParty_7 zc_2 ?_
  exact gt_S3 11 dX5_setParty_8 vX5_48 (ct_X5_requireRange_n (by exact h2)) (fun w' a b => ⟨rfl, a, b⟩)
set_option maxRecDepth 100000 in
set_option maxHeartbeats 4000000 in
theorem ct_X5_setParty_3 {l : Launch} {Γ : ZG} {w : ZW} {x : Nat} {C : CS} {D : ZD} {g : Option Nat} {sg : ZSg} (h : CR D g sg (C.1 0) D) {y0 y1 y2 : Int32} (h1 : 0 ≤ y0 ∧ y0 ≤ D 4 - 1) (h2 : 0 ≤ y1 ∧ y1 ≤ 2) (h3 : ¬ (0 ≤ y2 ∧ y2 ≤ (if y1 = 2 then 999 else 99))) : Ct l Γ mX5_setParty 7 1 6 [.ref x, .int y0, .int y1, .int y2] (wC Γ w x C) zNv (ThP "java/lang/IllegalArgumentException" (wC Γ w x C)) := by
  refine Ct.of (by decide) rfl (Nat.le_of_ble_eq_true rfl) ?_
  refine go_aload_n 1 dX5_setParty_0 rfl ?_
  refine go_iload_n 2 dX5_setParty_1 rfl ?_
  refine gcV1v 5 dX5_setParty_2 vX5_106 wC_at0 rfl (ct_X5_requireParty_y h h1) ?_
  refine go_iload_n 6 dX5_setParty_5 rfl ?_
  refine go_iconst 7 dX5_setParty_6 zc_0 ?_
  refine go_iconst 8 dX5_setParty_7 zc_2 ?_
  refine gcS3v 11 dX5_setParty_8 vX5_48 (ct_X5_requireRange_y (by exact h2)) ?_
  refine go_iload_n 12 dX5_setParty_11 rfl ?_
  refine go_iconst 13 dX5_setParty_12 zc_0 ?_
  refine go_iload_n 14 dX5_setParty_13 rfl ?_
  refine go_iconst 15 dX5_setParty_14 zc_2 ?_
  refine go_icmp_ne 24 18 dX5_setParty_15 (fun h15 => ?_) (fun h15 => ?_)
  · refine go_bipush 26 dX5_setParty_24 zb_99 ?_
    exact gt_S3 29 dX5_setParty_26 vX5_48 (ct_X5_requireRange_n (by rw [if_neg h15] at h3; exact h3)) (fun w' a b => ⟨rfl, a, b⟩)
  · refine go_sipush 21 dX5_setParty_18 zs_999 ?_
    refine go_goto 26 dX5_setParty_21 ?_
    exact gt_S3 29 dX5_setParty_26 vX5_48 (ct_X5_requireRange_n (by rw [if_pos (by first | exact h15 | exact Classical.not_not.mp h15)] at h3; exact h3)) (fun w' a b => ⟨rfl, a, b⟩)
set_option maxRecDepth 100000 in
set_option maxHeartbeats 4000000 in
theorem ct_X5_setParty {l : Launch} {Γ : ZG} {w : ZW} {x : Nat} {C : CS} {D : ZD} {g : Option Nat} {sg : ZSg} (h : CR D g sg (C.1 0) D) {i u : Nat} (hn : C.2.2.1 = nI i) (hi : i < 8) (hu : C.2.2.2.1 = nI u) (hu8 : u ≤ 8) {y0 y1 y2 : Int32} (h1 : 0 ≤ y0 ∧ y0 ≤ D 4 - 1) (h2 : 0 ≤ y1 ∧ y1 ≤ 2) (h3 : 0 ≤ y2 ∧ y2 ≤ (if y1 = 2 then 999 else 99)) {k j : Nat} (hx : y0 = nI k) (hk : k < nP D) (hy : y1 = nI j) (hj : j < 3) : Cm l Γ mX5_setParty 4 [.ref x, .int y0, .int y1, .int y2] (wC Γ w x C) (some (.int (dP D k j))) (wC Γ w x (cE (puC C i u (nP D) (nC D) (nL D)) 0 (es ((puC C i u (nP D) (nC D) (nL D)).1 0) 0 (upd (((puC C i u (nP D) (nC D) (nL D)).1 0).1 0) (k * 3 + j) y2)))) := by
  have hp : CR D g sg ((puC C i u (nP D) (nC D) (nL D)).1 0) D := by rw [puC_0]; exact h
  have hset : Cm l Γ mX4_set 1 [.ref (x + 1 + 1), .int (nI k), .int (nI j), .int y2] (wC Γ w x (puC C i u (nP D) (nC D) (nL D))) none (wC Γ w x (cE (puC C i u (nP D) (nC D) (nL D)) 0 (es ((puC C i u (nP D) (nC D) (nL D)).1 0) 0 (upd (((puC C i u (nP D) (nC D) (nL D)).1 0).1 0) (k * 3 + j) y2)))) := by
    have c := cr_P (l := l) (Γ := Γ) (w := wC Γ w x (puC C i u (nP D) (nC D) (nL D))) (e := x + 1) (v := y2) (hp.1.1.1.trans hp.D4) hp.P10 hk hj
    rw [xc_s0, xc_E0] at c
    exact c
  refine Cm.of (by decide) rfl (Nat.le_of_ble_eq_true rfl) ?_
  refine go_aload_n 1 dX5_setParty_0 rfl ?_
  refine go_iload_n 2 dX5_setParty_1 rfl ?_
  refine gcV1v 5 dX5_setParty_2 vX5_106 wC_at0 rfl (ct_X5_requireParty_y h h1) ?_
  refine go_iload_n 6 dX5_setParty_5 rfl ?_
  refine go_iconst 7 dX5_setParty_6 zc_0 ?_
  refine go_iconst 8 dX5_setParty_7 zc_2 ?_
  refine gcS3v 11 dX5_setParty_8 vX5_48 (ct_X5_requireRange_y (by exact h2)) ?_
  refine go_iload_n 12 dX5_setParty_11 rfl ?_
  refine go_iconst 13 dX5_setParty_12 zc_0 ?_
  refine go_iload_n 14 dX5_setParty_13 rfl ?_
  refine go_iconst 15 dX5_setParty_14 zc_2 ?_
  refine go_icmp_ne 24 18 dX5_setParty_15 (fun h15 => ?_) (fun h15 => ?_)
  · refine go_bipush 26 dX5_setParty_24 zb_99 ?_
    refine gcS3v 29 dX5_setParty_26 vX5_48 (ct_X5_requireRange_y (by rw [if_neg h15] at h3; exact h3)) ?_
    refine go_aload_n 30 dX5_setParty_29 rfl ?_
    refine go_get 33 dX5_setParty_30 fX5_22 wC_at0 rfl ?_
    refine go_aload_n 34 dX5_setParty_33 rfl ?_
    refine go_get 37 dX5_setParty_34 fX5_10 wC_at0 rfl ?_
    refine gcV1v 40 dX5_setParty_37 vX5_59 wC_at19 rfl (ct_X1_push hn hi hu hu8 h.rb) ?_
    refine go_aload_n 41 dX5_setParty_40 rfl ?_
    refine go_get 44 dX5_setParty_41 fX5_10 wC_at0 rfl ?_
    refine go_get 47 dX5_setParty_44 fX5_69 xc_now rfl ?_
    refine go_iload_n 48 dX5_setParty_47 rfl ?_
    refine go_iload_n 49 dX5_setParty_48 rfl ?_
    refine gcV2 52 dX5_setParty_49 vX5_119 (xwP hp) rfl (XCm0 (cg_P hp hx hy hk hj)) ?_
    refine go_istore 54 dX5_setParty_52 (by decide) ?_
    refine go_aload_n 55 dX5_setParty_54 rfl ?_
    refine go_get 58 dX5_setParty_55 fX5_10 wC_at0 rfl ?_
    refine go_get 61 dX5_setParty_58 fX5_69 xc_now rfl ?_
    refine go_iload_n 62 dX5_setParty_61 rfl ?_
    refine go_iload_n 63 dX5_setParty_62 rfl ?_
    refine go_iload_n 64 dX5_setParty_63 rfl ?_
    refine gcV3v 67 dX5_setParty_64 vX5_186 (xwP hp) rfl (by rw [hx, hy]; exact hset) ?_
    refine go_iload 69 dX5_setParty_67 rfl ?_
    exact go_ireturn dX5_setParty_69 rfl (by omega) (by omega) (⟨rfl, rfl⟩)
  · refine go_sipush 21 dX5_setParty_18 zs_999 ?_
    refine go_goto 26 dX5_setParty_21 ?_
    refine gcS3v 29 dX5_setParty_26 vX5_48 (ct_X5_requireRange_y (by rw [if_pos (by first | exact h15 | exact Classical.not_not.mp h15)] at h3; exact h3)) ?_
    refine go_aload_n 30 dX5_setParty_29 rfl ?_
    refine go_get 33 dX5_setParty_30 fX5_22 wC_at0 rfl ?_
    refine go_aload_n 34 dX5_setParty_33 rfl ?_
    refine go_get 37 dX5_setParty_34 fX5_10 wC_at0 rfl ?_
    refine gcV1v 40 dX5_setParty_37 vX5_59 wC_at19 rfl (ct_X1_push hn hi hu hu8 h.rb) ?_
    refine go_aload_n 41 dX5_setParty_40 rfl ?_
    refine go_get 44 dX5_setParty_41 fX5_10 wC_at0 rfl ?_
    refine go_get 47 dX5_setParty_44 fX5_69 xc_now rfl ?_
    refine go_iload_n 48 dX5_setParty_47 rfl ?_
    refine go_iload_n 49 dX5_setParty_48 rfl ?_
    refine gcV2 52 dX5_setParty_49 vX5_119 (xwP hp) rfl (XCm0 (cg_P hp hx hy hk hj)) ?_
    refine go_istore 54 dX5_setParty_52 (by decide) ?_
    refine go_aload_n 55 dX5_setParty_54 rfl ?_
    refine go_get 58 dX5_setParty_55 fX5_10 wC_at0 rfl ?_
    refine go_get 61 dX5_setParty_58 fX5_69 xc_now rfl ?_
    refine go_iload_n 62 dX5_setParty_61 rfl ?_
    refine go_iload_n 63 dX5_setParty_62 rfl ?_
    refine go_iload_n 64 dX5_setParty_63 rfl ?_
    refine gcV3v 67 dX5_setParty_64 vX5_186 (xwP hp) rfl (by rw [hx, hy]; exact hset) ?_
    refine go_iload 69 dX5_setParty_67 rfl ?_
    exact go_ireturn dX5_setParty_69 rfl (by omega) (by omega) (⟨rfl, rfl⟩)
set_option maxRecDepth 100000 in
set_option maxHeartbeats 4000000 in
theorem ct_X5_undo {l : Launch} {Γ : ZG} {w : ZW} {x : Nat} {C : CS} {i u n0 n1 n2 : Nat} (hn : C.2.2.1 = nI i) (hi : i < 8) (hu : C.2.2.2.1 = nI (u + 1)) (hu8 : u < 8) (hR : RB (C.1 (2 + slt i)) n0 n1 n2) : Cm l Γ mX5_undo 4 [.ref x] (wC Γ w x C) (some (.int (nI u))) (wC Γ w x (poC C i u n0 n1 n2)) := by
  refine Cm.of (by decide) rfl (Nat.le_of_ble_eq_true rfl) ?_
  refine go_aload_n 1 dX5_undo_0 rfl ?_
  refine go_get 4 dX5_undo_1 fX5_22 wC_at0 rfl ?_
  refine go_aload_n 5 dX5_undo_4 rfl ?_
  refine go_get 8 dX5_undo_5 fX5_10 wC_at0 rfl ?_
  refine gcV1 11 dX5_undo_8 vX5_189 wC_at19 rfl (ct_X1_popInto hn hi hu hu8 hR) ?_
  exact go_ireturn dX5_undo_11 rfl (by omega) (by omega) (⟨rfl, rfl⟩)
set_option maxRecDepth 100000 in
set_option maxHeartbeats 4000000 in
theorem ct_X5_undo_0 {l : Launch} {Γ : ZG} {w : ZW} {x : Nat} {C : CS} (hu : C.2.2.2.1 = 0) : Cm l Γ mX5_undo 4 [.ref x] (wC Γ w x C) (some (.int (-1))) (wC Γ w x C) := by
  refine Cm.of (by decide) rfl (Nat.le_of_ble_eq_true rfl) ?_
  refine go_aload_n 1 dX5_undo_0 rfl ?_
  refine go_get 4 dX5_undo_1 fX5_22 wC_at0 rfl ?_
  refine go_aload_n 5 dX5_undo_4 rfl ?_
  refine go_get 8 dX5_undo_5 fX5_10 wC_at0 rfl ?_
  refine gcV1 11 dX5_undo_8 vX5_189 wC_at19 rfl (ct_X1_pop0 hu) ?_
  exact go_ireturn dX5_undo_11 rfl (by omega) (by omega) (⟨rfl, rfl⟩)
set_option maxRecDepth 100000 in
set_option maxHeartbeats 4000000 in
theorem ct_X5_pass_r {l : Launch} {Γ : ZG} {w : ZW} {x : Nat} {C : CS} {y0 : Int32} (h1 : ¬ (1 ≤ y0 ∧ y0 ≤ 200)) : Ct l Γ mX5_pass 7 1 6 [.ref x, .int y0] (wC Γ w x C) zNv (ThP "java/lang/IllegalArgumentException" (wC Γ w x C)) := by
  refine Ct.of (by decide) rfl (Nat.le_of_ble_eq_true rfl) ?_
  refine go_iload_n 1 dX5_pass_0 rfl ?_
  refine go_iconst 2 dX5_pass_1 zc_1 ?_
  refine go_sipush 5 dX5_pass_2 zs_200 ?_
  exact gt_S3 8 dX5_pass_5 vX5_48 (ct_X5_requireRange_n (by exact h1)) (fun w' a b => ⟨rfl, a, b⟩)
set_option maxRecDepth 100000 in
set_option maxHeartbeats 4000000 in
theorem ct_X5_pass_t {l : Launch} {Γ : ZG} {w : ZW} {x : Nat} {C : CS} {D : ZD} {g : Option Nat} {sg : ZSg} (h : CR D g sg (C.1 0) D) {y0 : Int32} (h1 : 1 ≤ y0 ∧ y0 ≤ 200) (h2 : ¬ D 0 + y0 ≤ 9999) : Ct l Γ mX5_pass 7 1 6 [.ref x, .int y0] (wC Γ w x C) zNv (ThP "java/lang/IllegalArgumentException" (wC Γ w x C)) := by
  refine Ct.of (by decide) rfl (Nat.le_of_ble_eq_true rfl) ?_
  refine go_iload_n 1 dX5_pass_0 rfl ?_
  refine go_iconst 2 dX5_pass_1 zc_1 ?_
  refine go_sipush 5 dX5_pass_2 zs_200 ?_
  refine gcS3v 8 dX5_pass_5 vX5_48 (ct_X5_requireRange_y (by exact h1)) ?_
  refine go_aload_n 9 dX5_pass_8 rfl ?_
  refine go_get 12 dX5_pass_9 fX5_10 wC_at0 rfl ?_
  refine go_get 15 dX5_pass_12 fX5_78 xc_now rfl ?_
  refine go_iload_n 16 dX5_pass_15 rfl ?_
  refine go_iadd 17 dX5_pass_16 ?_
  refine go_sipush 20 dX5_pass_17 zs_9999 ?_
  rw [h.1.2.1.1]
  refine go_icmp_le 33 23 dX5_pass_20 (fun h20 => ?_) (fun h20 => ?_)
  · exact absurd h20 h2
  · exact go_throw (thI "the time would be too late" 142 (by decide +kernel)) dX5_pass_23 dX5_pass_26 dX5_pass_27 dX5_pass_29 dX5_pass_32 rfl (by decide) (by decide) (by decide) (Nat.le_of_ble_eq_true rfl) (fun w' a b => ⟨rfl, a, b⟩)
set_option maxRecDepth 100000 in
set_option maxHeartbeats 4000000 in
theorem lp_X5_pass {l : Launch} {Γ : ZG} {w : ZW} {x N : Nat} {C : CS} {g : Option Nat} {sg : ZSg} (hN : N ≤ 200) : ∀ (n j : Nat) (E : ES) (D' : ZD), j + n = N → CR D' g sg E D' → GI sg D' → tmN D' + n ≤ 20000 → Go l Γ mX5_pass 9 0 0 (PvC Γ w x C 0 (some (.int (cntSt (itr (fun _ D => secD D) j n D') 1))) (fun E => CR (itr (fun _ D => secD D) j n D') g sg E (itr (fun _ D => secD D) j n D'))) zNo 0 0 (wC Γ w x (cE C 0 E)) 46 [(0, .ref x), (1, .int (nI N)), (2, .int (nI j))] [] := by
  intro n
  induction n with
  | zero =>
    intro j E D' hif hC hg ht
    refine go_iload_n 47 dX5_pass_46 rfl ?_
    refine go_iload_n 48 dX5_pass_47 rfl ?_
    refine go_icmp_ge 64 51 dX5_pass_48 (fun h48 => ?_) (fun h48 => ?_)
    · refine go_aload_n 65 dX5_pass_64 rfl ?_
      refine go_get 68 dX5_pass_65 fX5_10 wC_at0 rfl ?_
      refine go_iconst 69 dX5_pass_68 zc_1 ?_
      refine gcV1 72 dX5_pass_69 vX5_87 xc_now rfl (XCm0 (cx_X0_legsInState (by rw [cE_at]; exact hC))) ?_
      exact go_ireturn dX5_pass_72 rfl (by omega) (by omega) (⟨rfl, E, rfl, hC⟩)
    · exact absurd (show nI N ≤ nI j from nI_le (by omega) (by omega)) h48
  | succ n ih =>
    intro j E D' hif hC hg ht
    refine go_iload_n 47 dX5_pass_46 rfl ?_
    refine go_iload_n 48 dX5_pass_47 rfl ?_
    refine go_icmp_ge 64 51 dX5_pass_48 (fun h48 => ?_) (fun h48 => ?_)
    · exact absurd h48 (nI_ge (by omega) (by omega))
    · refine go_aload_n 52 dX5_pass_51 rfl ?_
      refine go_get 55 dX5_pass_52 fX5_10 wC_at0 rfl ?_
      refine go_callV 58 [] dX5_pass_55 vX5_144 xc_now rfl (XPt0 (cx_X0_passSecond (by rw [cE_at]; exact hC) hg (by omega))) (by decide) (by decide) (by omega) (by omega) (Nat.le_of_ble_eq_true rfl) ?_
      intro v9 w9 q9
      obtain ⟨rfl, E9, rfl, hE9⟩ := q9
      rw [cE_cE]
      refine go_iinc 61 dX5_pass_58 rfl (by decide) zc_1 ?_
      refine go_goto 46 dX5_pass_61 ?_
      rw [nI_1]
      exact go_locals _ rfl (ih (j + 1) E9 (secD D') (by omega) hE9 (hg.sec (by omega)).1 (by rw [(hg.sec (by omega)).2]; omega))
set_option maxRecDepth 100000 in
set_option maxHeartbeats 4000000 in
theorem ct_X5_pass {l : Launch} {Γ : ZG} {w : ZW} {x : Nat} {C : CS} {D : ZD} {g : Option Nat} {sg : ZSg} (h : CR D g sg (C.1 0) D) (hG : GI sg D) {i u : Nat} (hn : C.2.2.1 = nI i) (hi : i < 8) (hu : C.2.2.2.1 = nI u) (hu8 : u ≤ 8) {y0 : Int32} {N : Nat} (hx : y0 = nI N) (hN : N ≤ 200) (h1 : 1 ≤ y0 ∧ y0 ≤ 200) (h2 : D 0 + y0 ≤ 9999) (ht : tmN D + N ≤ 20000) : Ct l Γ mX5_pass 9 0 0 [.ref x, .int y0] (wC Γ w x C) (PvC Γ w x (puC C i u (nP D) (nC D) (nL D)) 0 (some (.int (cntSt (itr (fun _ D => secD D) 0 N D) 1))) (fun E => CR (itr (fun _ D => secD D) 0 N D) g sg E (itr (fun _ D => secD D) 0 N D))) zNo := by
  have hp : CR D g sg ((puC C i u (nP D) (nC D) (nL D)).1 0) D := by rw [puC_0]; exact h
  refine Ct.of (by decide) rfl (Nat.le_of_ble_eq_true rfl) ?_
  refine go_iload_n 1 dX5_pass_0 rfl ?_
  refine go_iconst 2 dX5_pass_1 zc_1 ?_
  refine go_sipush 5 dX5_pass_2 zs_200 ?_
  refine gcS3v 8 dX5_pass_5 vX5_48 (ct_X5_requireRange_y (by exact h1)) ?_
  refine go_aload_n 9 dX5_pass_8 rfl ?_
  refine go_get 12 dX5_pass_9 fX5_10 wC_at0 rfl ?_
  refine go_get 15 dX5_pass_12 fX5_78 xc_now rfl ?_
  refine go_iload_n 16 dX5_pass_15 rfl ?_
  refine go_iadd 17 dX5_pass_16 ?_
  refine go_sipush 20 dX5_pass_17 zs_9999 ?_
  rw [h.1.2.1.1]
  refine go_icmp_le 33 23 dX5_pass_20 (fun h20 => ?_) (fun h20 => ?_)
  · refine go_aload_n 34 dX5_pass_33 rfl ?_
    refine go_get 37 dX5_pass_34 fX5_22 wC_at0 rfl ?_
    refine go_aload_n 38 dX5_pass_37 rfl ?_
    refine go_get 41 dX5_pass_38 fX5_10 wC_at0 rfl ?_
    refine gcV1v 44 dX5_pass_41 vX5_59 wC_at19 rfl (ct_X1_push hn hi hu hu8 h.rb) ?_
    refine go_iconst 45 dX5_pass_44 zc_0 ?_
    refine go_istore_n 46 dX5_pass_45 (by decide) ?_
    refine go_loc (w' := wC Γ w x (cE (puC C i u (nP D) (nC D) (nL D)) 0 ((puC C i u (nP D) (nC D) (nL D)).1 0))) (by rw [cE_self]) ?_
    rw [hx]
    exact go_locals _ rfl (lp_X5_pass hN N 0 _ D (by omega) hp hG ht)
  · exact absurd h2 h20
set_option maxRecDepth 100000 in
set_option maxHeartbeats 4000000 in
theorem lp_X5_play {l : Launch} {Γ : ZG} {w : ZW} {x c : Nat} {C : CS} {g : Option Nat} {sg : ZSg} : ∀ (n j : Nat) (E : ES) (D' : ZD), j + n = 99 → CR D' g sg E D' → GI sg D' → tmN D' + n ≤ 20000 → c < nC D' → Go l Γ mX5_playUntilSettled 8 0 0 (PvC Γ w x C 1 (some (.int (nI (j + (stl (nI c) n D').1)))) (fun E => CR (stl (nI c) n D').2 g sg E (stl (nI c) n D').2)) zNo 0 0 (wC Γ w x (cE C 1 E)) 13 [(0, .ref x), (1, .int (nI c)), (2, .int (nI j))] [] := by
  intro n
  induction n with
  | zero =>
    intro j E D' hif hC hg ht hc
    refine go_iload_n 14 dX5_playUntilSettled_13 rfl ?_
    refine go_bipush 16 dX5_playUntilSettled_14 zb_99 ?_
    refine go_icmp_ge 43 19 dX5_playUntilSettled_16 (fun h16 => ?_) (fun h16 => ?_)
    · refine go_iload_n 44 dX5_playUntilSettled_43 rfl ?_
      exact go_ireturn dX5_playUntilSettled_44 rfl (by omega) (by omega) (⟨by rw [show j = 99 by omega]; rfl, E, rfl, hC⟩)
    · exact absurd (show nI 99 ≤ nI j from nI_le (by omega) (by omega)) h16
  | succ n ih =>
    intro j E D' hif hC hg ht hc
    by_cases hrg : rngs D' (nI c)
    · refine go_iload_n 14 dX5_playUntilSettled_13 rfl ?_
      refine go_bipush 16 dX5_playUntilSettled_14 zb_99 ?_
      refine go_icmp_ge 43 19 dX5_playUntilSettled_16 (fun h16 => ?_) (fun h16 => ?_)
      · exact absurd h16 (nI_ge (b := 99) (by omega) (by decide))
      · refine go_aload_n 20 dX5_playUntilSettled_19 rfl ?_
        refine go_get 23 dX5_playUntilSettled_20 fX5_16 wC_at0 rfl ?_
        refine go_iload_n 24 dX5_playUntilSettled_23 rfl ?_
        refine gcV1 27 dX5_playUntilSettled_24 vX5_125 xc_fut rfl (XCm1 (cx_X0_rings (by rw [cE_at]; exact hC) hg.seg rfl hc)) ?_
        rw [zb_t hrg]
        refine go_if_eq 43 30 dX5_playUntilSettled_27 (fun h27 => ?_) (fun h27 => ?_)
        · exact absurd h27 (by decide)
        · refine go_aload_n 31 dX5_playUntilSettled_30 rfl ?_
          refine go_get 34 dX5_playUntilSettled_31 fX5_16 wC_at0 rfl ?_
          refine go_callV 37 [] dX5_playUntilSettled_34 vX5_144 xc_fut rfl (XPt1 (cx_X0_passSecond (by rw [cE_at]; exact hC) hg (by omega))) (by decide) (by decide) (by omega) (by omega) (Nat.le_of_ble_eq_true rfl) ?_
          intro v9 w9 q9
          obtain ⟨rfl, E9, rfl, hE9⟩ := q9
          rw [cE_cE]
          refine go_iinc 40 dX5_playUntilSettled_37 rfl (by decide) zc_1 ?_
          refine go_goto 13 dX5_playUntilSettled_40 ?_
          rw [nI_1, stl_t hrg, show j + ((stl (nI c) n (secD D')).1 + 1) = j + 1 + (stl (nI c) n (secD D')).1 by omega]
          exact go_locals _ rfl (ih (j + 1) E9 (secD D') (by omega) hE9 (hg.sec (by omega)).1 (by rw [(hg.sec (by omega)).2]; omega) (by rw [(sec_n3 hg (by omega)).1]; exact hc))
    · refine go_iload_n 14 dX5_playUntilSettled_13 rfl ?_
      refine go_bipush 16 dX5_playUntilSettled_14 zb_99 ?_
      refine go_icmp_ge 43 19 dX5_playUntilSettled_16 (fun h16 => ?_) (fun h16 => ?_)
      · exact absurd h16 (nI_ge (b := 99) (by omega) (by decide))
      · refine go_aload_n 20 dX5_playUntilSettled_19 rfl ?_
        refine go_get 23 dX5_playUntilSettled_20 fX5_16 wC_at0 rfl ?_
        refine go_iload_n 24 dX5_playUntilSettled_23 rfl ?_
        refine gcV1 27 dX5_playUntilSettled_24 vX5_125 xc_fut rfl (XCm1 (cx_X0_rings (by rw [cE_at]; exact hC) hg.seg rfl hc)) ?_
        rw [zb_f hrg]
        refine go_if_eq 43 30 dX5_playUntilSettled_27 (fun h27 => ?_) (fun h27 => ?_)
        · refine go_iload_n 44 dX5_playUntilSettled_43 rfl ?_
          exact go_ireturn dX5_playUntilSettled_44 rfl (by omega) (by omega) (⟨by rw [stl_f hrg]; rfl, E, rfl, by rw [stl_f hrg]; exact hC⟩)
        · exact absurd h27 (by decide)
set_option maxRecDepth 100000 in
set_option maxHeartbeats 4000000 in
theorem ct_X5_play {l : Launch} {Γ : ZG} {w : ZW} {x : Nat} {C : CS} {D : ZD} {g : Option Nat} {sg : ZSg} (h : CR D g sg (C.1 0) D) (hG : GI sg D) {c : Nat} (hc : c < nC D) (ht : tmN D ≤ 19000) : Ct l Γ mX5_playUntilSettled 8 0 0 [.ref x, .int (nI c)] (wC Γ w x C) (PvC Γ w x C 1 (some (.int (nI ((stl (nI c) 99 D).1)))) (fun E => CR (stl (nI c) 99 D).2 g sg E (stl (nI c) 99 D).2)) zNo := by
  refine Ct.of (by decide) rfl (Nat.le_of_ble_eq_true rfl) ?_
  refine go_aload_n 1 dX5_playUntilSettled_0 rfl ?_
  refine go_get 4 dX5_playUntilSettled_1 fX5_16 wC_at0 rfl ?_
  refine go_aload_n 5 dX5_playUntilSettled_4 rfl ?_
  refine go_get 8 dX5_playUntilSettled_5 fX5_10 wC_at0 rfl ?_
  refine gcV1v 11 dX5_playUntilSettled_8 vX5_66 xc_fut rfl (XCc h.rb) ?_
  refine go_iconst 12 dX5_playUntilSettled_11 zc_0 ?_
  refine go_istore_n 13 dX5_playUntilSettled_12 (by decide) ?_
  have q := lp_X5_play (l := l) (Γ := Γ) (w := w) (x := x) (C := C) 99 0 _ D (by omega) (h.cpy (C.1 1)) hG (by omega) hc
  rw [Nat.zero_add] at q
  exact go_locals _ rfl q
set_option maxRecDepth 100000 in
set_option maxHeartbeats 4000000 in
theorem ct_X5_settlesIn_1 {l : Launch} {Γ : ZG} {w : ZW} {x : Nat} {C : CS} {D : ZD} {g : Option Nat} {sg : ZSg} (h : CR D g sg (C.1 0) D) {y0 : Int32} (h1 : ¬ (0 ≤ y0 ∧ y0 ≤ D 5 - 1)) : Ct l Γ mX5_settlesIn 7 1 6 [.ref x, .int y0] (wC Γ w x C) zNv (ThP "java/lang/IndexOutOfBoundsException" (wC Γ w x C)) := by
  refine Ct.of (by decide) rfl (Nat.le_of_ble_eq_true rfl) ?_
  refine go_aload_n 1 dX5_settlesIn_0 rfl ?_
  refine go_iload_n 2 dX5_settlesIn_1 rfl ?_
  exact gt_V1 5 dX5_settlesIn_2 vX5_122 wC_at0 rfl (ct_X5_requireCall_n h h1) (fun w' a b => ⟨rfl, a, b⟩)
set_option maxRecDepth 100000 in
set_option maxHeartbeats 4000000 in
theorem ct_X5_settlesIn {l : Launch} {Γ : ZG} {w : ZW} {x : Nat} {C : CS} {D : ZD} {g : Option Nat} {sg : ZSg} (h : CR D g sg (C.1 0) D) (hG : GI sg D) {y0 : Int32} {c : Nat} (hx : y0 = nI c) (hc : c < nC D) (ht : tmN D ≤ 19000) (h1 : 0 ≤ y0 ∧ y0 ≤ D 5 - 1) : Ct l Γ mX5_settlesIn 9 0 0 [.ref x, .int y0] (wC Γ w x C) (PvC Γ w x C 1 (some (.int (nI ((stl (nI c) 99 D).1)))) (fun E => CR (stl (nI c) 99 D).2 g sg E (stl (nI c) 99 D).2)) zNo := by
  subst hx
  refine Ct.of (by decide) rfl (Nat.le_of_ble_eq_true rfl) ?_
  refine go_aload_n 1 dX5_settlesIn_0 rfl ?_
  refine go_iload_n 2 dX5_settlesIn_1 rfl ?_
  refine gcV1v 5 dX5_settlesIn_2 vX5_122 wC_at0 rfl (ct_X5_requireCall_y h h1) ?_
  refine go_aload_n 6 dX5_settlesIn_5 rfl ?_
  refine go_iload_n 7 dX5_settlesIn_6 rfl ?_
  refine go_callV 10 [.int (nI c)] dX5_settlesIn_7 vX5_139 wC_at0 rfl (ct_X5_play h hG hc ht) (by decide) (by decide) (by omega) (by omega) (Nat.le_of_ble_eq_true rfl) ?_
  intro v9 w9 q9
  obtain ⟨rfl, E9, rfl, hE9⟩ := q9
  exact go_ireturn dX5_settlesIn_10 rfl (by omega) (by omega) ⟨rfl, E9, rfl, hE9⟩
end CMut
