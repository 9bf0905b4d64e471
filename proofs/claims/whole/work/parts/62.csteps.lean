section CSteps2
/-! the changing calls on both objects -/
section
variable {l : Launch} {Γ : ZG} {P : Nat} {b b' : ZW} {x : Nat} {C C' : CS} {o : Nat} {S S' : MS} {D D' : ZD} {p : Nat} {Ml Mx M5 : ZM} {as as' : List Value} {E E' : ES} {i u : Nat} {g : Option Nat} {sg : ZSg} {cs : List Int32}
theorem Sm.ml {f : Nat → Int64} : Sm S (ml S f) := ⟨fun _ _ _ => rfl, rfl, rfl, fun _ => rfl⟩
theorem Sm.rf : Sm S S := ⟨fun _ _ _ => rfl, rfl, rfl, fun _ => rfl⟩
theorem LI.mut (h : LI Γ P b x C o S D p) (hH : HI Γ b P i u C S) (hX : XI Γ b P E' D') (hS : Sm (remM (mf S 0 0) D u) S') : LI Γ P b x (cE (puC C i u (nP D) (nC D) (nL D)) 0 E') o S' D' p := by
  obtain ⟨h1, h2, h3, -, ⟨n, h5, h6, h7, h8⟩, h9⟩ := h
  have r := remM_what (S := mf S 0 0) (D := D) (u := u) hH.2.2.2.2.1 hH.2.2.2.1
  have hH2 : HI Γ b P i u C (mf S 0 0) := hH.ms rfl (fun _ => rfl)
  refine ⟨h1, h2, ?_, ⟨_, _, ((hH2.push h3).cE (by decide)).ms hS.2.1 hS.2.2.2⟩, ⟨n, ?_, h6, h7, fun k hk => ?_⟩, ?_⟩
  · rw [cE_at]; exact hX
  · rw [hS.1 2 (by decide) (by decide), r.2.1 2 (by decide)]; exact h5
  · rw [hS.2.2.1, r.2.2.1 0 (by decide)]; exact h8 k hk
  · rw [hS.1 7 (by decide) (by decide), r.2.1 7 (by decide)]; exact h9
theorem rem0 (hU : S.1 12 = nI u) (hu : u ≤ 8) : (remM (mf S 0 0) D u).1 0 = 0 := (remM_what (S := mf S 0 0) (D := D) hU hu).2.1 0 (by decide)
theorem opM {d2 : Nat} {R : Int32} (h : LI Γ P b x C o S D p) (hH : HI Γ b P i u C S) (cw : Ct l Γ Ml 32 0 0 (.ref x :: (as ++ [.ref p])) (WL Γ b x C o S D) (OutP Γ p (fun r w3 => r = R ∧ ∃ b3 C3, w3 = WL Γ b3 x C3 o S D ∧ Ext Γ P b b3 ∧ (∃ f, b3.2 p = some (lcell Γ f)) ∧ (∃ E', C3 = cE (puC C i u (nP D) (nC D) (nL D)) 0 E' ∧ XI Γ b3 P E' D'))) zNo) (hd : d2 ≤ 30)
    (cm : ∀ w, Ct l Γ Mx d2 0 0 (.ref o :: as) (wD Γ w o S D) (fun v w2 => v = some (.int R) ∧ ∃ gg, w2 = wD Γ w o (ml (remM (mf S 0 0) D u) gg) D') zNo) : OpS l Γ P b x C o S D p Ml Mx as := by
  refine opR (Q := fun b3 C3 => ∃ E', C3 = cE (puC C i u (nP D) (nC D) (nL D)) 0 E' ∧ XI Γ b3 P E' D') h (by decide) (by decide) cw hd (fun b4 C3 hq he hp => ?_)
  obtain ⟨b3, ⟨E', rfl, hX⟩, e⟩ := hq
  refine Ct.mono (fun v w3 q => ?_) (fun _ _ q => q) (cm _)
  obtain ⟨rfl, gg, rfl⟩ := q
  exact ⟨rfl, _, D', rfl, rem0 hH.2.2.2.2.1 hH.2.2.2.1, (h.base he hp).mut (hH.ext he) (hX.ext e) Sm.ml⟩
theorem cmM {d2 : Nat} {R : Int32} (cm : ∀ w, Cm l Γ Mx d2 as (wD Γ w o S D) (some (.int R)) (wD Γ w o S' D')) : ∀ w, Ct l Γ Mx d2 0 0 as (wD Γ w o S D) (fun v w2 => v = some (.int R) ∧ ∃ gg, w2 = wD Γ w o (ml S' gg) D') zNo :=
  fun w => Ct.mono (fun v w2 q => ⟨q.1, S'.2.2, q.2⟩) (fun _ _ q => q) (cm w)
theorem cP {d' : Nat} {R : Int32} {Pp : ES → Prop} (h : LI Γ P b x C o S D p) (c : Ct l Γ M5 d' 0 0 as' (WL Γ b x C o S D) (PvC Γ (wD Γ b o S D) x C' 0 (some (.int R)) Pp) zNo) (hX : ∀ E, Pp E → XI Γ b P E D') : Ct l Γ M5 d' 0 0 as' (WL Γ b x C o S D) (fun v w2 => ∃ r, v = some (.int r) ∧ (r = R ∧ ∃ b3 C3, w2 = WL Γ b3 x C3 o S D ∧ Ext Γ P b b3 ∧ (∃ f, b3.2 p = some (lcell Γ f)) ∧ (∃ E', C3 = cE C' 0 E' ∧ XI Γ b3 P E' D'))) zNo :=
  Ct.mono (fun v w2 q => by obtain ⟨q1, E', q2, q3⟩ := q; exact ⟨R, q1, rfl, b, cE C' 0 E', q2, Ext.rf, h.2.1, E', rfl, hX E' q3⟩) (fun _ _ q => q) c
theorem gW_at {hh : Int32} {z : ZD} (hg : gOK P b g) (hp : p + 1 ≤ P) : (gW Γ b g hh z).2 p = b.2 p := by
  cases g with
  | none => rfl
  | some r =>
    have := hg r rfl
    exact (if_neg (by omega)).trans (if_neg (by omega))
theorem cD {d' : Nat} {R : Int32} {Pp : ES → Prop} (h : LI Γ P b x C o S D p) (hRG : RG Γ b g cs) (hgo : gOK P b g) (c : Ct l Γ M5 d' 0 0 as' (WL Γ b x C o S D) (PvD Γ (wD Γ b o S D) x C' g (some (.int R)) Pp) zNo) (hX : ∀ E b3, Ext Γ P b b3 → Pp E → XI Γ b3 P E D') : Ct l Γ M5 d' 0 0 as' (WL Γ b x C o S D) (fun v w2 => ∃ r, v = some (.int r) ∧ (r = R ∧ ∃ b3 C3, w2 = WL Γ b3 x C3 o S D ∧ Ext Γ P b b3 ∧ (∃ f, b3.2 p = some (lcell Γ f)) ∧ (∃ E', C3 = cE C' 0 E' ∧ XI Γ b3 P E' D'))) zNo := by
  refine Ct.mono (fun v w2 q => ?_) (fun _ _ q => q) c
  obtain ⟨q1, hh, z, E', q2, q3⟩ := q
  obtain ⟨f, hf⟩ := h.2.1
  have e : Ext Γ P b (gW Γ b g hh z) := Ext.gw hRG
  exact ⟨R, q1, rfl, gW Γ b g hh z, cE C' 0 E', by rw [q2, wD_g (h.away hgo).2]; rfl, e, ⟨f, (gW_at hgo h.1.2.2.1).trans hf⟩, E', rfl, hX E' _ e q3⟩
theorem xiS (hG : GI sg D) (hRC : RC D cs) (hRG : RG Γ b g cs) (hgo : gOK P b g) (htm : tmN D ≤ 9999) (hE : CR D g sg E D') (hj : JO D') (hh : Hs D D') : XI Γ b P E D' :=
  ⟨g, sg, cs, hE.base, hG.same hE.2.2.1 hj, hRC.hs' hh, hRG, hgo, by rw [tm_same hE.2.2.1]; exact htm⟩
/-- answers, the class's trial row alone changed -/
theorem opF {d2 : Nat} {R : Int32} (h : LI Γ P b x C o S D p) (cw : Ct l Γ Ml 32 0 0 (.ref x :: (as ++ [.ref p])) (WL Γ b x C o S D) (OutP Γ p (fun r w3 => r = R ∧ ∃ b3 C3, w3 = WL Γ b3 x C3 o S D ∧ Ext Γ P b b3 ∧ (∃ f, b3.2 p = some (lcell Γ f)) ∧ (b3 = b ∧ ∃ E, C3 = cE C 1 E))) zNo) (hd : d2 ≤ 30)
    (cm : ∀ w, Cm l Γ Mx d2 (.ref o :: as) (wD Γ w o S D) (some (.int R)) (wD Γ w o (ma (mf S 0 0) 3 D) D)) : OpS l Γ P b x C o S D p Ml Mx as := by
  refine opR (Q := fun b3 C3 => b3 = b ∧ ∃ E, C3 = cE C 1 E) h (by decide) (by decide) cw hd (fun b4 C3 hq he hp => ?_)
  obtain ⟨b3, ⟨rfl, E, rfl⟩, -⟩ := hq
  refine Ct.mono (fun v w3 q => ?_) (fun _ _ q => q) (cm _)
  obtain ⟨rfl, rfl⟩ := q
  exact ⟨rfl, _, D, rfl, rfl, ((h.base he hp).fut).sm (Sm.mf.trans Sm.ma3)⟩
theorem cF {d' : Nat} {R : Int32} {Pp : ES → Prop} (h : LI Γ P b x C o S D p) (c : Ct l Γ M5 d' 0 0 as' (WL Γ b x C o S D) (PvC Γ (wD Γ b o S D) x C 1 (some (.int R)) Pp) zNo) : Ct l Γ M5 d' 0 0 as' (WL Γ b x C o S D) (fun v w2 => ∃ r, v = some (.int r) ∧ (r = R ∧ ∃ b3 C3, w2 = WL Γ b3 x C3 o S D ∧ Ext Γ P b b3 ∧ (∃ f, b3.2 p = some (lcell Γ f)) ∧ (b3 = b ∧ ∃ E, C3 = cE C 1 E))) zNo :=
  Ct.mono (fun v w2 q => by obtain ⟨q1, E', q2, q3⟩ := q; exact ⟨R, q1, rfl, b, cE C 1 E', q2, Ext.rf, h.2.1, rfl, E', rfl⟩) (fun _ _ q => q) c
theorem stl_nC {c : Nat} : ∀ (F : Nat) (D : ZD), GI sg D → tmN D + F ≤ 20000 → nC (stl (nI c) F D).2 = nC D
  | 0, _, _, _ => rfl
  | F + 1, D, h, ht => by
    by_cases q : rngs D (nI c)
    · rw [stl_t q]
      exact (stl_nC F (secD D) (h.sec (by omega)).1 (by rw [(h.sec (by omega)).2]; omega)).trans (sec_n3 h (by omega)).1
    · rw [stl_f q]
theorem itr_sec : ∀ (N j : Nat) (D : ZD), GI sg D → RC D cs → tmN D + N ≤ 20000 → GI sg (itr (fun _ D => secD D) j N D) ∧ RC (itr (fun _ D => secD D) j N D) cs ∧ tmN (itr (fun _ D => secD D) j N D) = tmN D + N
  | 0, _, _, h, hr, _ => ⟨h, hr, rfl⟩
  | N + 1, j, D, h, hr, ht => by
    have g := h.sec (by omega)
    have ih := itr_sec N (j + 1) (secD D) g.1 (hr.sec h (by omega)) (by rw [g.2]; omega)
    rw [g.2] at ih
    exact ⟨ih.1, ih.2.1, by rw [show tmN D + (N + 1) = tmN D + 1 + N by omega]; exact ih.2.2⟩
theorem i_le {a : Nat} {c : Nat} (ha : a < 2 ^ 31) (hc : c < 2 ^ 31) (h : nI a ≤ nI c) : a ≤ c := by
  rw [Int32.le_iff_toInt_le, nI_toInt ha, nI_toInt hc] at h
  omega
end

set_option maxRecDepth 100000 in
set_option maxHeartbeats 4000000 in
theorem op_settlesIn {l : Launch} {Γ : ZG} {P : Nat} {b : ZW} {x : Nat} {C : CS} {o : Nat} {S : MS} {D : ZD} {p : Nat} (h : LI Γ P b x C o S D p) {y0 : Int32} : OpS l Γ P b x C o S D p mL_settlesIn mX6_settlesIn [.int y0] := by
  obtain ⟨g, sg, cs, hC, hG, hRC, hRG, hgo, htm⟩ := h.2.2.1
  have hx := h.1.1
  have hp := h.1.2.1
  by_cases h1 : 0 ≤ y0 ∧ y0 ≤ D 5 - 1
  · obtain ⟨c, hc, hcn⟩ := hC.kC h1
    have hb := hC.C20
    have hr : ¬ rngs (stl y0 99 D).2 y0 := by rw [hc]; exact stl_end hG (by omega) hcn
    exact opF (d2 := 11) h (ct_L_settlesIn_0 (cF h (ct_X5_settlesIn hC hG hc hcn (by omega) h1)) (by decide) LI.w5 (oP hx hp)) (by decide) (fun w => by rw [hc] at hr h1 ⊢; exact ct_X6_settlesIn hG.iv hr h1)
  · exact opX h (k := 1) (by decide) (ct_L_settlesIn_1 (ct_X5_settlesIn_1 hC h1) (by decide) LI.w5) (by decide) (fun w => ct_X6_settlesIn_1 h1)

set_option maxRecDepth 100000 in
set_option maxHeartbeats 4000000 in
theorem op_answeredBy {l : Launch} {Γ : ZG} {P : Nat} {b : ZW} {x : Nat} {C : CS} {o : Nat} {S : MS} {D : ZD} {p : Nat} (h : LI Γ P b x C o S D p) {y0 : Int32} : OpS l Γ P b x C o S D p mL_answeredBy mX6_answeredBy [.int y0] := by
  obtain ⟨g, sg, cs, hC, hG, hRC, hRG, hgo, htm⟩ := h.2.2.1
  have hx := h.1.1
  have hp := h.1.2.1
  by_cases h1 : 0 ≤ y0 ∧ y0 ≤ D 5 - 1
  · obtain ⟨c, hc, hcn⟩ := hC.kC h1
    have hb := hC.C20
    have hr : ¬ rngs (stl y0 99 D).2 y0 := by rw [hc]; exact stl_end hG (by omega) hcn
    exact opF (d2 := 11) h (ct_L_answeredBy_0 (cF h (ct_X5_answeredBy hC hG hc hcn (by omega) h1 (by rw [stl_nC 99 D hG (by omega)]; exact hcn))) (by decide) LI.w5 (oP hx hp)) (by decide) (fun w => by rw [hc] at hr h1 ⊢; exact ct_X6_answeredBy hG.iv rfl (by omega) hr h1)
  · exact opX h (k := 1) (by decide) (ct_L_answeredBy_1 (ct_X5_answeredBy_1 hC h1) (by decide) LI.w5) (by decide) (fun w => ct_X6_answeredBy_1 h1)

set_option maxRecDepth 100000 in
set_option maxHeartbeats 4000000 in
theorem op_hangUp {l : Launch} {Γ : ZG} {P : Nat} {b : ZW} {x : Nat} {C : CS} {o : Nat} {S : MS} {D : ZD} {p : Nat} (h : LI Γ P b x C o S D p) {y0 : Int32} : OpS l Γ P b x C o S D p mL_hangUp mX6_hangUp [.int y0] := by
  obtain ⟨g, sg, cs, hC, hG, hRC, hRG, hgo, htm⟩ := h.2.2.1
  have hx := h.1.1
  have hp := h.1.2.1
  obtain ⟨i, u, hH⟩ := h.2.2.2.1
  obtain ⟨hn, hi, hu, hu8, hU, -⟩ := id hH
  by_cases h1 : 0 ≤ y0 ∧ y0 ≤ D 4 - 1
  · exact opM h hH (ct_L_hangUp_0 (cP h (ct_X5_hangUp hC hG hn hi hu hu8 h1) (fun E hE => xiS hG hRC hRG hgo htm hE (jo_hup hG.jo) (hs_hup hG.iv))) (by decide) LI.w5 (oP hx hp)) (by decide) (cmM (fun w => ct_X6_hangUp hG.iv hU hu8 h1))
  · exact opX h (k := 1) (by decide) (ct_L_hangUp_1 (ct_X5_hangUp_1 hC h1) (by decide) LI.w5) (by decide) (fun w => ct_X6_hangUp_1 h1)

set_option maxRecDepth 100000 in
set_option maxHeartbeats 4000000 in
theorem op_offer {l : Launch} {Γ : ZG} {P : Nat} {b : ZW} {x : Nat} {C : CS} {o : Nat} {S : MS} {D : ZD} {p : Nat} (h : LI Γ P b x C o S D p) {y0 y1 : Int32} : OpS l Γ P b x C o S D p mL_offer mX6_offer [.int y0, .int y1] := by
  obtain ⟨g, sg, cs, hC, hG, hRC, hRG, hgo, htm⟩ := h.2.2.1
  have hx := h.1.1
  have hp := h.1.2.1
  obtain ⟨i, u, hH⟩ := h.2.2.2.1
  obtain ⟨hn, hi, hu, hu8, hU, -⟩ := id hH
  by_cases h1 : 0 ≤ y0 ∧ y0 ≤ D 4 - 1
  · by_cases h2 : 0 ≤ y1 ∧ y1 ≤ 999
    · by_cases h4 : legW D y0 1 = -1
      · exact opX h (k := 3) (by decide) (ct_L_offer_3 (ct_X5_offer_3 hC h1 h2 h4) (by decide) LI.w5) (by decide) (fun w => ct_X6_offer_3 hG.iv h1 h2 h4)
      · obtain ⟨k1, k2, k3, k4⟩ := leg_ok hC.L40 h4
        have h6 := (hG.jo _ k2).2.2
        have hb := hC.L40
        exact opM h hH (ct_L_offer_0 (cP h (ct_X5_offer hC hG hn hi hu hu8 h1 h2 h4) (fun E hE => xiS hG hRC hRG hgo htm hE (jo_mkO hG.jo hE.2.2.1 k3 sdN_lt) (hs_mkO (by omega) sdN_lt))) (by decide) LI.w5 (oP hx hp)) (by decide) (cmM (fun w => ct_X6_offer hG.iv hU hu8 h1 h2 h4 h6))
    · exact opX h (k := 2) (by decide) (ct_L_offer_2 (ct_X5_offer_2 hC h1 h2) (by decide) LI.w5) (by decide) (fun w => ct_X6_offer_2 h1 h2)
  · exact opX h (k := 1) (by decide) (ct_L_offer_1 (ct_X5_offer_1 hC h1) (by decide) LI.w5) (by decide) (fun w => ct_X6_offer_1 h1)

set_option maxRecDepth 100000 in
set_option maxHeartbeats 4000000 in
theorem op_setParty {l : Launch} {Γ : ZG} {P : Nat} {b : ZW} {x : Nat} {C : CS} {o : Nat} {S : MS} {D : ZD} {p : Nat} (h : LI Γ P b x C o S D p) {y0 y1 y2 : Int32} : OpS l Γ P b x C o S D p mL_setParty mX6_setParty [.int y0, .int y1, .int y2] := by
  obtain ⟨g, sg, cs, hC, hG, hRC, hRG, hgo, htm⟩ := h.2.2.1
  have hx := h.1.1
  have hp := h.1.2.1
  obtain ⟨i, u, hH⟩ := h.2.2.2.1
  obtain ⟨hn, hi, hu, hu8, hU, -⟩ := id hH
  by_cases h1 : 0 ≤ y0 ∧ y0 ≤ D 4 - 1
  · by_cases h2 : 0 ≤ y1 ∧ y1 ≤ 2
    · by_cases h3 : 0 ≤ y2 ∧ y2 ≤ if y1 = 2 then 999 else 99
      · obtain ⟨k, hk, hkn⟩ := hC.kP h1
        obtain ⟨j, hj, hjn⟩ := inC (n := 2) (by decide) h2
        have hb := hC.P10
        exact opM h hH (ct_L_setParty_0 (cP h (Ct.mono (fun v w2 q => (⟨q.1, _, q.2, rfl⟩ : PvC Γ (wD Γ b o S D) x _ 0 _ (fun E => E = es ((puC C i u (nP D) (nC D) (nL D)).1 0) 0 (upd (((puC C i u (nP D) (nC D) (nL D)).1 0).1 0) (k * 3 + j) y2)) v w2)) (fun _ _ q => q) (ct_X5_setParty hC hn hi hu hu8 h1 h2 h3 hk hkn hj (by omega))) (fun E hE => by subst hE; exact ⟨g, sg, cs, sp_CR hkn (by omega) (by rw [puC_0]; exact hC), sp_GI (by omega) (by omega) h3.1 hG, RC.hs hRC (sp_lo (by decide)) (fun i hi => sp_hi (by omega) (by omega) (by omega)), hRG, hgo, by show tmN (setP D k j y2) ≤ 9999; rw [sp_n.2.2.2]; exact htm⟩)) (by decide) LI.w5 (oP hx hp)) (by decide) (cmM (fun w => ct_X6_setParty hU hu8 hk hj (by omega) (by omega) h1 h2 h3))
      · exact opX h (k := 2) (by decide) (ct_L_setParty_2 (ct_X5_setParty_3 hC h1 h2 h3) (by decide) LI.w5) (by decide) (fun w => ct_X6_setParty_2 h1 (Or.inr h3))
    · exact opX h (k := 2) (by decide) (ct_L_setParty_2 (ct_X5_setParty_2 hC h1 h2) (by decide) LI.w5) (by decide) (fun w => ct_X6_setParty_2 h1 (Or.inl h2))
  · exact opX h (k := 1) (by decide) (ct_L_setParty_1 (ct_X5_setParty_1 hC h1) (by decide) LI.w5) (by decide) (fun w => ct_X6_setParty_1 h1)

set_option maxRecDepth 100000 in
set_option maxHeartbeats 4000000 in
theorem op_pass {l : Launch} {Γ : ZG} {P : Nat} {b : ZW} {x : Nat} {C : CS} {o : Nat} {S : MS} {D : ZD} {p : Nat} (h : LI Γ P b x C o S D p) {y0 : Int32} : OpS l Γ P b x C o S D p mL_pass mX6_pass [.int y0] := by
  obtain ⟨g, sg, cs, hC, hG, hRC, hRG, hgo, htm⟩ := h.2.2.1
  have hx := h.1.1
  have hp := h.1.2.1
  obtain ⟨i, u, hH⟩ := h.2.2.2.1
  obtain ⟨hn, hi, hu, hu8, hU, -⟩ := id hH
  by_cases h1 : 1 ≤ y0 ∧ y0 ≤ 200
  · by_cases h2 : D 0 + y0 ≤ 9999
    · obtain ⟨N, hN, hNn⟩ := inC (n := 200) (by decide) ⟨Int32.le_trans (by decide) h1.1, h1.2⟩
      have ht : tmN D + N ≤ 9999 := by
        rw [hG.jt.1.1, hN, nI_add] at h2
        exact i_le (by omega) (by decide) h2
      exact opM h hH (ct_L_pass_0 (cP h (ct_X5_pass hC hG hn hi hu hu8 hN hNn h1 h2 (by omega)) (fun E hE => by have q := itr_sec N 0 D hG hRC (by omega); exact ⟨g, sg, cs, hE, q.1, q.2.1, hRG, hgo, by rw [q.2.2]; exact ht⟩)) (by decide) LI.w5 (oP hx hp)) (by decide) (cmM (fun w => ct_X6_pass hG.iv hU hu8 hN hNn h1 h2))
    · exact opX h (k := 1) (by decide) (ct_L_pass_1 (ct_X5_pass_t hC h1 h2) (by decide) LI.w5) (by decide) (fun w => ct_X6_pass_1 (Or.inr h2))
  · exact opX h (k := 1) (by decide) (ct_L_pass_1 (ct_X5_pass_r h1) (by decide) LI.w5) (by decide) (fun w => ct_X6_pass_1 (Or.inl h1))
end CSteps2
