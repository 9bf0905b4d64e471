section CSteps
/-! one call on both objects -/
def OpQ (l : Launch) (Γ : ZG) (P x o : Nat) (S : MS) (D : ZD) (p : Nat) (Mx : ZM) (as : List Value) : Option Value → ZW → Prop := fun v w2 =>
  ∃ (k r : Int32) (b' : ZW) (C' : CS) (d2 : Nat), v = some (.int k) ∧ w2 = WL Γ b' x C' o S D ∧ (∃ f, b'.2 p = some (lcell Γ f) ∧ (k = 0 → f 0 = r.toInt64)) ∧ d2 ≤ 30 ∧
    Ct l Γ Mx d2 0 0 (.ref o :: as) w2 (fun v w3 => ∃ bb S' D', v = some (.int bb) ∧ (k = 0 → bb = r) ∧ w3 = WL Γ b' x C' o S' D' ∧ S'.1 0 = k ∧ LI Γ P b' x C' o S' D' p) zNo
def OpS (l : Launch) (Γ : ZG) (P : Nat) (b : ZW) (x : Nat) (C : CS) (o : Nat) (S : MS) (D : ZD) (p : Nat) (Ml Mx : ZM) (as : List Value) : Prop :=
  ∃ mc ms, mc ≤ 3 ∧ ms ≤ 614 ∧ Ct l Γ Ml 32 mc ms (.ref x :: (as ++ [.ref p])) (WL Γ b x C o S D) (OpQ l Γ P x o S D p Mx as) zNo
section
variable {l : Launch} {Γ : ZG} {P : Nat} {b b' : ZW} {x : Nat} {C C' : CS} {o : Nat} {S S' : MS} {D D' : ZD} {p : Nat} {Ml Mx : ZM} {as : List Value} {E E' : ES}
/-- what of the reference's numbers the relation reads -/
def Sm (S S' : MS) : Prop := (∀ k, k ≠ 0 → k ≠ 12 → S'.1 k = S.1 k) ∧ S'.1 12 = S.1 12 ∧ S'.2.1 0 = S.2.1 0 ∧ ∀ j, S'.2.1 (4 + j) = S.2.1 (4 + j)
theorem Sm.mf {v : Int32} : Sm S (mf S 0 v) := ⟨fun k h _ => if_neg h, rfl, rfl, fun _ => rfl⟩
theorem Sm.trans {S2 : MS} (h : Sm S S') (h2 : Sm S' S2) : Sm S S2 := ⟨fun k a c => (h2.1 k a c).trans (h.1 k a c), h2.2.1.trans h.2.1, h2.2.2.1.trans h.2.2.1, fun j => (h2.2.2.2 j).trans (h.2.2.2 j)⟩
theorem Sm.ma3 {f : ZD} : Sm S (ma S 3 f) := ⟨fun _ _ _ => rfl, rfl, rfl, fun j => if_neg (by omega)⟩
theorem LI.sm (h : LI Γ P b x C o S D p) (hs : Sm S S') : LI Γ P b x C o S' D p := by
  obtain ⟨h1, h2, h3, ⟨i, u, h4⟩, ⟨n, h5, h6, h7, h8⟩, h9⟩ := h
  exact ⟨h1, h2, h3, ⟨i, u, h4.ms hs.2.1 hs.2.2.2⟩, ⟨n, (hs.1 2 (by decide) (by decide)).trans h5, h6, h7, fun k hk => by rw [hs.2.2.1]; exact h8 k hk⟩, h9.trans (hs.1 7 (by decide) (by decide)).symm⟩
theorem LI.base (h : LI Γ P b x C o S D p) (e : Ext Γ P b b') (hp : ∃ f, b'.2 p = some (lcell Γ f)) : LI Γ P b' x C o S D p := by
  obtain ⟨⟨a1, a2, a3, a4⟩, h2, h3, ⟨i, u, h4⟩, h5⟩ := h
  exact ⟨⟨a1, a2, a3, Nat.le_trans a4 e.1⟩, hp, h3.ext e, ⟨i, u, h4.ext e⟩, h5⟩
theorem LI.fut (h : LI Γ P b x C o S D p) : LI Γ P b x (cE C 1 E) o S D p := by
  obtain ⟨h1, h2, h3, ⟨i, u, h4⟩, h5⟩ := h
  exact ⟨h1, h2, h3, ⟨i, u, h4.cE (by decide)⟩, h5⟩
theorem LI.away (h : LI Γ P b x C o S D p) {g : Option Nat} (hg : gOK P b g) : gAway g x 105 ∧ gAway g o 15 := by
  obtain ⟨⟨a1, a2, a3, a4⟩, -⟩ := h
  exact ⟨fun r hr => by have := hg r hr; omega, fun r hr => by have := hg r hr; omega⟩
theorem LI.w5 : (WL Γ b x C o S D).2 x = some (.inr (5, [.ref (x + 1), .ref (x + 10), .ref (x + 19), .ref (x + 93), .int C.2.2.2.2])) := wC_at0
/-- the model's call, seen from both -/
theorem mdl {d2 : Nat} {Φ : Option Value → ZW → Prop} (hx : x + 105 ≤ o) (cm : Ct l Γ Mx d2 0 0 (.ref o :: as) (wD Γ (wC Γ b x C) o S D) Φ zNo) : Ct l Γ Mx d2 0 0 (.ref o :: as) (WL Γ b x C o S D) Φ zNo := by
  rw [WL_sw hx]
  exact cm
/-- both throw -/
theorem opX {k : Int32} {d2 : Nat} (h : LI Γ P b x C o S D p) (hk : k ≠ 0) (cw : Ct l Γ Ml 32 1 6 (.ref x :: (as ++ [.ref p])) (WL Γ b x C o S D) (OutX (WL Γ b x C o S D) k) zNo) (hd : d2 ≤ 30) (cm : ∀ w, Cm l Γ Mx d2 (.ref o :: as) (wD Γ w o S D) (some (.int 0)) (wD Γ w o (mf (mf S 0 0) 0 k) D)) : OpS l Γ P b x C o S D p Ml Mx as := by
  refine ⟨1, 6, by decide, by decide, Ct.mono (fun v w2 q => ?_) (fun _ _ q => q) cw⟩
  obtain ⟨rfl, q1, q2⟩ := q
  have hw := WL_bump q1
  obtain ⟨f, hf⟩ := h.2.1
  refine ⟨k, 0, (w2.1, b.2), C, d2, rfl, hw, ⟨f, hf, fun z => absurd z hk⟩, hd, ?_⟩
  rw [hw]
  refine mdl h.1.1 (Ct.mono (fun v w3 q => ?_) (fun _ _ q => q) (cm _))
  obtain ⟨rfl, rfl⟩ := q
  exact ⟨0, mf (mf S 0 0) 0 k, D, rfl, fun z => absurd z hk, (WL_sw h.1.1).symm, rfl, (h.base (Ext.bump q2) ⟨f, hf⟩).sm (Sm.mf.trans Sm.mf)⟩
/-- both answer -/
theorem opR {mc ms d2 : Nat} {R : Int32} {Q : ZW → CS → Prop} (h : LI Γ P b x C o S D p) (hm : mc ≤ 3) (hn : ms ≤ 614)
    (cw : Ct l Γ Ml 32 mc ms (.ref x :: (as ++ [.ref p])) (WL Γ b x C o S D) (OutP Γ p (fun r w3 => r = R ∧ ∃ b3 C3, w3 = WL Γ b3 x C3 o S D ∧ Ext Γ P b b3 ∧ (∃ f, b3.2 p = some (lcell Γ f)) ∧ Q b3 C3)) zNo) (hd : d2 ≤ 30)
    (cm : ∀ (b4 : ZW) (C3 : CS), (∃ b3, Q b3 C3 ∧ Ext Γ P b3 b4) → Ext Γ P b b4 → (∃ f, b4.2 p = some (lcell Γ f)) → Ct l Γ Mx d2 0 0 (.ref o :: as) (wD Γ (wC Γ b4 x C3) o S D) (fun v w3 => v = some (.int R) ∧ ∃ S' D', w3 = wD Γ (wC Γ b4 x C3) o S' D' ∧ S'.1 0 = 0 ∧ LI Γ P b4 x C3 o S' D' p) zNo) : OpS l Γ P b x C o S D p Ml Mx as := by
  refine ⟨mc, ms, hm, hn, Ct.mono (fun v w2 q => ?_) (fun _ _ q => q) cw⟩
  obtain ⟨rfl, r, w3, f, ⟨rfl, b3, C3, rfl, e3, ⟨f3, hf3⟩, hQ⟩, rfl, hf⟩ := q
  have hx := h.1.1
  have hp := h.1.2.1
  have e4 : Ext Γ P b3 (wset b3 p (lcell Γ f)) := Ext.set hf3
  have hp4 : (wset b3 p (lcell Γ f)).2 p = some (lcell Γ f) := if_pos rfl
  refine ⟨0, r, wset b3 p (lcell Γ f), C3, d2, rfl, WL_set hx hp, ⟨f, hp4, fun _ => hf⟩, hd, ?_⟩
  rw [WL_set hx hp]
  refine mdl hx (Ct.mono (fun v w3 q => ?_) (fun _ _ q => q) (cm _ C3 ⟨b3, hQ, e4⟩ (e3.trans e4) ⟨f, hp4⟩))
  obtain ⟨rfl, S', D', rfl, q1, q2⟩ := q
  exact ⟨r, S', D', rfl, fun _ => rfl, (WL_sw hx).symm, q1, q2⟩
/-- both answer, nothing changes -/
theorem opT {d2 : Nat} {R : Int32} (h : LI Γ P b x C o S D p) (cw : Ct l Γ Ml 32 0 0 (.ref x :: (as ++ [.ref p])) (WL Γ b x C o S D) (OutP Γ p (fun r w3 => r = R ∧ ∃ b3 C3, w3 = WL Γ b3 x C3 o S D ∧ Ext Γ P b b3 ∧ (∃ f, b3.2 p = some (lcell Γ f)) ∧ (b3 = b ∧ C3 = C))) zNo) (hd : d2 ≤ 30)
    (cm : ∀ w, Cm l Γ Mx d2 (.ref o :: as) (wD Γ w o S D) (some (.int R)) (wD Γ w o (mf S 0 0) D)) : OpS l Γ P b x C o S D p Ml Mx as := by
  refine opR (Q := fun b3 C3 => b3 = b ∧ C3 = C) h (by decide) (by decide) cw hd (fun b4 C3 hq he hp => ?_)
  obtain ⟨b3, ⟨rfl, rfl⟩, -⟩ := hq
  refine Ct.mono (fun v w3 q => ?_) (fun _ _ q => q) (cm _)
  obtain ⟨rfl, rfl⟩ := q
  exact ⟨rfl, mf S 0 0, D, rfl, rfl, (h.base he hp).sm Sm.mf⟩
theorem cT {M5 : ZM} {d' : Nat} {as' : List Value} {R : Int32} (h : LI Γ P b x C o S D p) (c : Cm l Γ M5 d' as' (WL Γ b x C o S D) (some (.int R)) (WL Γ b x C o S D)) : Ct l Γ M5 d' 0 0 as' (WL Γ b x C o S D) (fun v w2 => ∃ r, v = some (.int r) ∧ (r = R ∧ ∃ b3 C3, w2 = WL Γ b3 x C3 o S D ∧ Ext Γ P b b3 ∧ (∃ f, b3.2 p = some (lcell Γ f)) ∧ (b3 = b ∧ C3 = C))) zNo :=
  Ct.mono (fun v w2 q => ⟨R, q.1, rfl, b, C, q.2, Ext.rf, h.2.1, rfl, rfl⟩) (fun _ _ q => q) c
theorem oP {Q : ZW → CS → Prop} {R : Int32} (hx : x + 105 ≤ o) (hp : o + 15 ≤ p) : ∀ r w2, (r = R ∧ ∃ b3 C3, w2 = WL Γ b3 x C3 o S D ∧ Ext Γ P b b3 ∧ (∃ f, b3.2 p = some (lcell Γ f)) ∧ Q b3 C3) → ∃ f, w2.2 p = some (lcell Γ f) := by
  rintro r w2 ⟨-, b3, C3, rfl, -, ⟨f, hf⟩, -⟩
  exact ⟨f, (WL_at hx hp).trans hf⟩
end

set_option maxRecDepth 100000 in
set_option maxHeartbeats 4000000 in
theorem op_count {l : Launch} {Γ : ZG} {P : Nat} {b : ZW} {x : Nat} {C : CS} {o : Nat} {S : MS} {D : ZD} {p : Nat} (h : LI Γ P b x C o S D p) {y0 : Int32} : OpS l Γ P b x C o S D p mL_count mX6_count [.int y0] := by
  obtain ⟨g, sg, cs, hC, hG, hRC, hRG, hgo, htm⟩ := h.2.2.1
  have hx := h.1.1
  have hp := h.1.2.1
  by_cases hy : 0 ≤ y0 ∧ y0 ≤ 7
  · obtain ⟨j, rfl, hj⟩ := inC (n := 7) (by decide) hy
    rcases (show j = 0 ∨ j = 1 ∨ j = 2 ∨ j = 3 ∨ j = 4 ∨ j = 5 ∨ j = 6 ∨ j = 7 by omega) with rfl | rfl | rfl | rfl | rfl | rfl | rfl | rfl
    · exact opT h (ct_L_count_0 (cT h (ct_X5_count_0 hC rfl)) (by decide) LI.w5 (oP hx hp)) (by decide) (fun w => ct_X6_count_0 hG.iv.1)
    · exact opT h (ct_L_count_0 (cT h (ct_X5_count_1 hC rfl)) (by decide) LI.w5 (oP hx hp)) (by decide) (fun w => ct_X6_count_1 hG.iv.1)
    · exact opT h (ct_L_count_0 (cT h (ct_X5_count_2 hC rfl)) (by decide) LI.w5 (oP hx hp)) (by decide) (fun w => ct_X6_count_2 hG.iv.1)
    · exact opT h (ct_L_count_0 (cT h (ct_X5_count_3 hC rfl)) (by decide) LI.w5 (oP hx hp)) (by decide) (fun w => ct_X6_count_3 hG.iv.1)
    · exact opT h (ct_L_count_0 (cT h (ct_X5_count_4 hC rfl)) (by decide) LI.w5 (oP hx hp)) (by decide) (fun w => ct_X6_count_4 hG.iv.1)
    · exact opT h (ct_L_count_0 (cT h (ct_X5_count_5 hC rfl)) (by decide) LI.w5 (oP hx hp)) (by decide) (fun w => ct_X6_count_5 hG.iv.1)
    · exact opT h (ct_L_count_0 (cT h (ct_X5_count_6 hC rfl)) (by decide) LI.w5 (oP hx hp)) (by decide) (fun w => ct_X6_count_6 hG.iv.1)
    · exact opT h (ct_L_count_0 (cT h (ct_X5_count_7 hC rfl)) (by decide) LI.w5 (oP hx hp)) (by decide) (fun w => ct_X6_count_7 hG.iv.1)
  · exact opX h (k := 1) (by decide) (ct_L_count_1 (ct_X5_count_x hy) (by decide) LI.w5) (by decide) (fun w => ct_X6_count_x hy)

set_option maxRecDepth 100000 in
set_option maxHeartbeats 4000000 in
theorem op_party {l : Launch} {Γ : ZG} {P : Nat} {b : ZW} {x : Nat} {C : CS} {o : Nat} {S : MS} {D : ZD} {p : Nat} (h : LI Γ P b x C o S D p) {y0 y1 : Int32} : OpS l Γ P b x C o S D p mL_party mX6_party [.int y0, .int y1] := by
  obtain ⟨g, sg, cs, hC, hG, hRC, hRG, hgo, htm⟩ := h.2.2.1
  have hx := h.1.1
  have hp := h.1.2.1
  by_cases h1 : 0 ≤ y0 ∧ y0 ≤ D 4 - 1
  · by_cases h2 : 0 ≤ y1 ∧ y1 ≤ 5
    · obtain ⟨k, hk, hkn⟩ := hC.kP h1
      obtain ⟨j, hj, hjn⟩ := inC (n := 5) (by decide) h2
      have hb := hC.P10
      exact opT h (ct_L_party_0 (cT h (ct_X5_party hC hG hk hkn hj (by omega) h1)) (by decide) LI.w5 (oP hx hp)) (by decide) (fun w => ct_X6_party hG.iv.1 hk hj (by omega) (by omega) h1 h2)
    · exact opX h (k := 2) (by decide) (ct_L_party_2 (ct_X5_party_2 hC h1 h2) (by decide) LI.w5) (by decide) (fun w => ct_X6_party_2 h1 h2)
  · exact opX h (k := 1) (by decide) (ct_L_party_1 (ct_X5_party_1 hC h1) (by decide) LI.w5) (by decide) (fun w => ct_X6_party_1 h1)

set_option maxRecDepth 100000 in
set_option maxHeartbeats 4000000 in
theorem op_call {l : Launch} {Γ : ZG} {P : Nat} {b : ZW} {x : Nat} {C : CS} {o : Nat} {S : MS} {D : ZD} {p : Nat} (h : LI Γ P b x C o S D p) {y0 y1 : Int32} : OpS l Γ P b x C o S D p mL_call mX6_call [.int y0, .int y1] := by
  obtain ⟨g, sg, cs, hC, hG, hRC, hRG, hgo, htm⟩ := h.2.2.1
  have hx := h.1.1
  have hp := h.1.2.1
  by_cases h1 : 0 ≤ y0 ∧ y0 ≤ D 5 - 1
  · by_cases h2 : 0 ≤ y1 ∧ y1 ≤ 5
    · obtain ⟨k, hk, hkn⟩ := hC.kC h1
      obtain ⟨j, hj, hjn⟩ := inC (n := 5) (by decide) h2
      have hb := hC.C20
      exact opT h (ct_L_call_0 (cT h (ct_X5_call hC hG hk hkn hj (by omega) h1)) (by decide) LI.w5 (oP hx hp)) (by decide) (fun w => ct_X6_call hG.iv.1 hk hj (by omega) (by omega) h1 h2)
    · exact opX h (k := 2) (by decide) (ct_L_call_2 (ct_X5_call_2 hC h1 h2) (by decide) LI.w5) (by decide) (fun w => ct_X6_call_2 h1 h2)
  · exact opX h (k := 1) (by decide) (ct_L_call_1 (ct_X5_call_1 hC h1) (by decide) LI.w5) (by decide) (fun w => ct_X6_call_1 h1)

set_option maxRecDepth 100000 in
set_option maxHeartbeats 4000000 in
theorem op_leg {l : Launch} {Γ : ZG} {P : Nat} {b : ZW} {x : Nat} {C : CS} {o : Nat} {S : MS} {D : ZD} {p : Nat} (h : LI Γ P b x C o S D p) {y0 y1 : Int32} : OpS l Γ P b x C o S D p mL_leg mX6_leg [.int y0, .int y1] := by
  obtain ⟨g, sg, cs, hC, hG, hRC, hRG, hgo, htm⟩ := h.2.2.1
  have hx := h.1.1
  have hp := h.1.2.1
  by_cases h1 : 0 ≤ y0 ∧ y0 ≤ D 6 - 1
  · by_cases h2 : 0 ≤ y1 ∧ y1 ≤ 5
    · obtain ⟨k, hk, hkn⟩ := hC.kL h1
      obtain ⟨j, hj, hjn⟩ := inC (n := 5) (by decide) h2
      have hb := hC.L40
      exact opT h (ct_L_leg_0 (cT h (ct_X5_leg hC hk hkn hj (by omega) h1 h2)) (by decide) LI.w5 (oP hx hp)) (by decide) (fun w => ct_X6_leg hG.iv.1 hk hj (by omega) (by omega) h1 h2)
    · exact opX h (k := 2) (by decide) (ct_L_leg_2 (ct_X5_leg_2 hC h1 h2) (by decide) LI.w5) (by decide) (fun w => ct_X6_leg_2 h1 h2)
  · exact opX h (k := 1) (by decide) (ct_L_leg_1 (ct_X5_leg_1 hC h1) (by decide) LI.w5) (by decide) (fun w => ct_X6_leg_1 h1)

set_option maxRecDepth 100000 in
set_option maxHeartbeats 4000000 in
theorem op_repetition {l : Launch} {Γ : ZG} {P : Nat} {b : ZW} {x : Nat} {C : CS} {o : Nat} {S : MS} {D : ZD} {p : Nat} (h : LI Γ P b x C o S D p) {y0 y1 : Int32} : OpS l Γ P b x C o S D p mL_repetition mX6_repetition [.int y0, .int y1] := by
  obtain ⟨g, sg, cs, hC, hG, hRC, hRG, hgo, htm⟩ := h.2.2.1
  have hx := h.1.1
  have hp := h.1.2.1
  by_cases h1 : 0 ≤ y0 ∧ y0 ≤ D 6 - 1
  · by_cases h2 : 0 ≤ y1 ∧ y1 ≤ 1
    · obtain ⟨k, hk, hkn⟩ := hC.kL h1
      obtain ⟨j, hj, hjn⟩ := inC (n := 1) (by decide) h2
      have hb := hC.L40
      exact opT h (ct_L_repetition_0 (cT h (ct_X5_repetition hC hk hkn hj (by omega) h1 h2)) (by decide) LI.w5 (oP hx hp)) (by decide) (fun w => ct_X6_repetition hk (by omega) hj (by omega) h1 h2)
    · exact opX h (k := 2) (by decide) (ct_L_repetition_2 (ct_X5_repetition_2 hC h1 h2) (by decide) LI.w5) (by decide) (fun w => ct_X6_repetition_2 h1 h2)
  · exact opX h (k := 1) (by decide) (ct_L_repetition_1 (ct_X5_repetition_1 hC h1) (by decide) LI.w5) (by decide) (fun w => ct_X6_repetition_1 h1)

set_option maxRecDepth 100000 in
set_option maxHeartbeats 4000000 in
theorem op_total {l : Launch} {Γ : ZG} {P : Nat} {b : ZW} {x : Nat} {C : CS} {o : Nat} {S : MS} {D : ZD} {p : Nat} (h : LI Γ P b x C o S D p) {y0 : Int32} : OpS l Γ P b x C o S D p mL_total mX6_total [.int y0] := by
  obtain ⟨g, sg, cs, hC, hG, hRC, hRG, hgo, htm⟩ := h.2.2.1
  have hx := h.1.1
  have hp := h.1.2.1
  by_cases h2 : 0 ≤ y0 ∧ y0 ≤ 6
  · obtain ⟨j, hj, hjn⟩ := inC (n := 6) (by decide) h2
    exact opT h (ct_L_total_0 (cT h (ct_X5_total hC hj (by omega) h2)) (by decide) LI.w5 (oP hx hp)) (by decide) (fun w => ct_X6_total hj (by omega) h2)
  · exact opX h (k := 1) (by decide) (ct_L_total_1 (ct_X5_total_x h2) (by decide) LI.w5) (by decide) (fun w => ct_X6_total_x h2)

set_option maxRecDepth 100000 in
set_option maxHeartbeats 4000000 in
theorem op_pending {l : Launch} {Γ : ZG} {P : Nat} {b : ZW} {x : Nat} {C : CS} {o : Nat} {S : MS} {D : ZD} {p : Nat} (h : LI Γ P b x C o S D p) {y0 y1 : Int32} : OpS l Γ P b x C o S D p mL_pending mX6_pending [.int y0, .int y1] := by
  obtain ⟨g, sg, cs, hC, hG, hRC, hRG, hgo, htm⟩ := h.2.2.1
  have hx := h.1.1
  have hp := h.1.2.1
  by_cases h1 : 0 ≤ y0 ∧ y0 ≤ D 6 - 1
  · obtain ⟨k, hk, hkn⟩ := hC.kL h1
    have hb := hC.L40
    by_cases h3 : dL D k 6 = -1
    · exact opX h (k := 2) (by decide) (ct_L_pending_2 (ct_X5_pending_2 hC hk hkn h1 h3) (by decide) LI.w5) (by decide) (fun w => ct_X6_pending_2 hk (by omega) h1 h3)
    · by_cases h2 : 0 ≤ y1 ∧ y1 ≤ 2
      · obtain ⟨j, hj, hjn⟩ := inC (n := 2) (by decide) h2
        exact opT h (ct_L_pending_0 (cT h (ct_X5_pending hC hk hkn hj (by omega) h1 h3 h2)) (by decide) LI.w5 (oP hx hp)) (by decide) (fun w => ct_X6_pending hk (by omega) hj (by omega) h1 h3 h2)
      · exact opX h (k := 3) (by decide) (ct_L_pending_3 (ct_X5_pending_3 hC hk hkn h1 h3 h2) (by decide) LI.w5) (by decide) (fun w => ct_X6_pending_3 hk (by omega) h1 h3 h2)
  · exact opX h (k := 1) (by decide) (ct_L_pending_1 (ct_X5_pending_1 hC h1) (by decide) LI.w5) (by decide) (fun w => ct_X6_pending_1 h1)
end CSteps
