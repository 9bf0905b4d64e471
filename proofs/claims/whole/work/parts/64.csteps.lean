section CSteps4
/-! load on both objects -/
theorem NewR.at {Γ : ZG} {b b' : ZW} {g : Option Nat} {cs : List Int32} {p : Nat} (hN : NewR Γ b b' g cs) (hp : p < b.1) : b'.2 p = b.2 p := by
  rcases hN with ⟨-, rfl, -⟩ | ⟨-, -, -, -, f, rfl, -⟩
  · rfl
  · exact (if_neg (by omega)).trans ((if_neg (by omega)).trans (if_neg (by omega)))

set_option maxRecDepth 100000 in
set_option maxHeartbeats 4000000 in
theorem op_load {l : Launch} {Γ : ZG} {P : Nat} {b : ZW} {x : Nat} {C : CS} {o : Nat} {S : MS} {D : ZD} {p : Nat} (h : LI Γ P b x C o S D p) {y0 : Int32} : OpS l Γ P b x C o S D p mL_load mX6_load [.int y0] := by
  obtain ⟨g, sg, cs, hC, hG, hRC, hRG, hgo, htm⟩ := h.2.2.1
  have hx := h.1.1
  have hp := h.1.2.1
  obtain ⟨i, u, hH⟩ := h.2.2.2.1
  obtain ⟨hn, hi, hu, hu8, hU, -⟩ := id hH
  obtain ⟨n, t1, t2, t3, t4⟩ := h.2.2.2.2.1
  by_cases h1 : 0 ≤ y0 ∧ y0 ≤ S.1 2
  · have h1' : 0 ≤ y0 ∧ y0 ≤ C.2.1.1 1 := by rw [t2, ← t1]; exact h1
    obtain ⟨m, hm, hmn⟩ := inC (n := n) (by omega) (by rw [← t1]; exact h1)
    have hB : bt (S.2.1 0) m = BB C.2.1.2.1 m := funext fun k => by
      unfold bt BB
      split
      · exact t4 k (by omega)
      · rfl
    have hT : TB (BB C.2.1.2.1 m) m := ⟨by omega, fun k hk => if_neg (by omega), fun k hk => by
      rw [show BB C.2.1.2.1 m k = C.2.1.2.1 k &&& 255 from if_pos hk]
      exact byte0 _⟩
    have c5 := ct_X5_load (l := l) (Γ := Γ) (w := wD Γ b o S D) (x := x) hC hn hi hu hu8 hm h1' rfl hT (by show x + 105 ≤ b.1; have := h.1; omega)
    have c6 : ∀ w, Ct l Γ mX6_load 24 0 0 (.ref o :: [.int y0]) (wD Γ w o S D) (LdP Γ w o S D u (prs (BB C.2.1.2.1 m))) zNo := fun w => ct_X6_load hm hB hT hU hu8 h1
    cases hpr : prs (BB C.2.1.2.1 m) with
    | inl e =>
      rw [hpr] at c5 c6
      refine opR (Q := fun b3 C3 => b3 = b ∧ ∃ R', C3 = C2l C R' ∧ R'.1 1 = 0 ∧ R'.1 14 = nI e.2) (R := e.1) (d2 := 24) h (by decide) (by decide) (ct_L_load_0 (Ct.mono (fun v w2 q => ?_) (fun _ _ q => q) c5) (by decide) LI.w5 (oP hx hp)) (by decide) (fun b4 C3 hq he hp4 => ?_)
      · obtain ⟨q1, q2, R', q3, q4, q5, q6⟩ := q
        exact ⟨e.1, q1, rfl, b, C2l C R', q3, Ext.rf, h.2.1, rfl, R', rfl, q5, q6⟩
      · obtain ⟨b3, ⟨q0, R', rfl, q5, q6⟩, -⟩ := hq
        refine Ct.mono (fun v w3 q => ?_) (fun _ _ q => q) (c6 _)
        obtain ⟨q1, q2, S', rfl, q7, k0, k2, k12, ka⟩ := q
        have hb := h.base he hp4
        exact ⟨q1, S', D, rfl, k0, hb.1, hp4, hb.2.2.1, ⟨i, u, ((hH.ext he).oc (C' := C2l C R') rfl rfl rfl).ms k12 (fun j => ka _ (by omega))⟩, ⟨0, k2, q5, by omega, fun k hk => by omega⟩, q6.trans q7.symm⟩
    | inr s =>
      rw [hpr] at c5 c6
      refine opR (Q := fun b3 C3 => ∃ R' g', C3 = cE (C3l C R' i u (nP D) (nC D) (nL D)) 0 (cpE ((C3l C R' i u (nP D) (nC D) (nL D)).1 0) R'.2.2.1 (nP s.2.1) 0 0) ∧ R'.1 1 = 0 ∧ R'.1 14 = -1 ∧ RelE R'.2.2.1 s.2.1 ∧ R'.2.2.1.2.2.2 = g' ∧ RG Γ b3 g' s.2.2.2 ∧ gOK P b3 g' ∧ QInv s) (R := s.2.1 4) (d2 := 24) h (by decide) (by decide) (ct_L_load_0 (Ct.mono (fun v w2 q => ?_) (fun _ _ q => q) c5) (by decide) LI.w5 (oP hx hp)) (by decide) (fun b4 C3 hq he hp4 => ?_)
      · obtain ⟨q1, R', w0, g', q3, q4, q5, q6, q7, q8, q9, q10⟩ := q
        obtain ⟨b3, rfl, hN⟩ := NewR_D (by have := h.1; omega) q9
        have wh := NewR.what h.1.2.2.2 hN
        obtain ⟨f, hf⟩ := h.2.1
        exact ⟨s.2.1 4, q1, rfl, b3, _, q3, wh.1, ⟨f, (hN.at (by have := h.1; omega)).trans hf⟩, R', g', rfl, q5, q6, q7, q8, wh.2.1, wh.2.2, q10⟩
      · obtain ⟨b3, ⟨R', g', rfl, q5, q6, q7, q8, q9, q10, q11⟩, e⟩ := hq
        refine Ct.mono (fun v w3 q => ?_) (fun _ _ q => q) (c6 _)
        obtain ⟨v1, S', D', rfl, k7, ⟨k0, k2, k12, ka⟩, hag, hraw, -⟩ := q
        have hb := h.base he hp4
        have hH4 : HI Γ b4 P i u (C2l C R') S' := ((hH.ext he).oc (C' := C2l C R') rfl rfl rfl).ms k12 (fun j => ka _ (by omega))
        have hpu := hH4.push (D := D) hb.2.2.1
        have r := remM_what (S := S') (D := D) (k12.trans hU) hu8
        have hcp := (qi_CR q11 q7 sg).cpy ((C3l C R' i u (nP D) (nC D) (nL D)).1 0)
        rw [(qi_nC q11).1, (qi_nC q11).2.1] at hcp
        obtain ⟨a1, a2, a3⟩ := agr q11 hag hcp
        refine ⟨v1, remM S' D u, D', rfl, (r.2.1 0 (by decide)).trans k0, hb.1, hp4, ?_, ⟨_, _, hpu.cE (by decide)⟩, ⟨0, (r.2.1 2 (by decide)).trans k2, q5, by omega, fun k hk => by omega⟩, q6.trans ((r.2.1 7 (by decide)).trans k7).symm⟩
        rw [cE_at]
        exact ⟨_, sg, s.2.2.2, a1, a2, ⟨hraw.1, q11.2.2.2.2.2, fun j hj => by rw [Nat.zero_add]; exact hraw.2 j hj, q11.2.2.2.2.1⟩, by rw [q8]; exact e.2 g' _ q10 q9, by rw [q8]; exact q10.ext e, by omega⟩
  · exact opX h (k := 1) (by decide) (ct_L_load_1 (ct_X5_load_1 (by rw [t2, ← t1]; exact h1)) (by decide) LI.w5) (by decide) (fun w => ct_X6_load_1 h1)
end CSteps4
