section LBas
abbrev mLaw : ZM := (yL_law, cL_law, 25, some .boolean, [])
/-- a frozen exchange holds what the class keeps in E -/
def Fz (Γ : ZG) (w : ZW) (T : LT) (E : ES) (y : Nat) : Prop := ∃ (D : ZD) (g : Option Nat) (sg : ZSg) (A V : LA) (tm : Option Nat), CR D g sg E D ∧ GI sg D ∧ JX D ∧ LX Γ w T 0 sg A V tm y D
/-- the same of one D -/
def Fy (Γ : ZG) (w : ZW) (T : LT) (E : ES) (D : ZD) (y : Nat) : Prop := ∃ (g : Option Nat) (sg : ZSg) (A V : LA) (tm : Option Nat), CR D g sg E D ∧ GI sg D ∧ JX D ∧ LX Γ w T 0 sg A V tm y D
/-- the row of the latest exchanges -/
def Hb (Γ : ZG) (w : ZW) (T : LT) (bf : Nat) (C : CS) (i u dn : Nat) : Prop := Hc C i u ∧ (8 ≤ u ∨ dn ≤ u) ∧ ∃ f, w.2 bf = some (q5 Γ 6 9 f) ∧ T bf = 3 ∧ (∀ j, j < 9 → f j = none ∨ ∃ y fs, f j = some y ∧ w.2 y = some (.inr (6, fs)) ∧ T y = 0) ∧ ∀ j, j < 8 → j < dn → ∃ y, f j = some y ∧ Fz Γ w T (C.1 (2 + (i + 7 - j) % 8)) y
/-- behind a step: nothing changed (c = 0), or a change (c = 1) -/
def Aft (Γ : ZG) (w : ZW) (T : LT) (x a e bf y : Nat) (C : CS) (D : ZD) (i u dn nn : Nat) (c : Int32) : Prop := Hb Γ w T bf C i u dn ∧ ((c = 0 ∧ Bo Γ w T x a e C D ∧ nP D ≤ 8 ∧ tmN D ≤ 30 * nn) ∨ (c = 1 ∧ Fy Γ w T (C.1 0) D y ∧ ∃ E' D', Bo Γ w T x a e (cE (puC C i u (nP D) (nC D) (nL D)) 0 E') D' ∧ nP D' ≤ 8 ∧ tmN D' ≤ 30 * nn + 30))
section
variable {l : Launch} {Γ : ZG} {w w' : ZW} {T T' : LT} {x a e bf y i u dn nn : Nat} {C : CS} {D D' : ZD} {g : Option Nat} {cs : List Int32} {sg : ZSg} {s : Int32} {tm : Option Nat} {P : Nat → Prop} {E : ES}
theorem FR.kq (f : FR w T w' T') (hw : WF w) : Kq w T w' T' (fun z => z < 10) := fun q c h1 h2 => ⟨(f.2.2 q (hw q c h1) h2).trans h1, f.2.1 q (hw q c h1)⟩
theorem Cl.go (h : Cl Γ w T x C) (k : Kq w T w' T' P) (h1 : P 1) (hl : w.1 ≤ w'.1) : Cl Γ w' T' x C := ⟨fun j hj => (k _ _ (h.1 j hj) (by rw [h.2.1 j hj]; exact h1)).1, fun j hj => (k _ _ (h.1 j hj) (by rw [h.2.1 j hj]; exact h1)).2.trans (h.2.1 j hj), Nat.le_trans h.2.2 hl⟩
theorem Rn.go (h : Rn w T a s) (k : Kq w T w' T' P) (h2 : P 2) : Rn w' T' a s := ⟨(k _ _ h.1 (by rw [h.2]; exact h2)).1, (k _ _ h.1 (by rw [h.2]; exact h2)).2.trans h.2⟩
theorem Rg.go (h : Rg Γ w T x g cs) (k : Kq w T w' T' P) (h1 : P 1) (hl : w.1 ≤ w'.1) : Rg Γ w' T' x g cs := by
  cases g with
  | none => exact ⟨h.1, fun r hr => by cases hr⟩
  | some r =>
    obtain ⟨⟨h1', h2, h3, a', c', d', g0, g1, g2, g3⟩, hr⟩ := h
    have t := (hr r rfl).2.2
    have k0 := k _ _ g0 (by rw [show T r = 1 from t 0 (by decide)]; exact h1)
    have k1 := k _ _ g1 (by rw [t 1 (by decide)]; exact h1)
    have k2 := k _ _ g2 (by rw [t 2 (by decide)]; exact h1)
    refine ⟨⟨h1', h2, h3, a', c', d', k0.1, k1.1, k2.1, g3⟩, fun r' hr' => ?_⟩
    cases hr'
    refine ⟨(hr r rfl).1, Nat.le_trans (hr r rfl).2.1 hl, fun j hj => ?_⟩
    rcases (show j = 0 ∨ j = 1 ∨ j = 2 by omega) with rfl | rfl | rfl
    · exact k0.2.trans (t 0 (by decide))
    · exact k1.2.trans (t 1 (by decide))
    · exact k2.2.trans (t 2 (by decide))
theorem TMR.go (h : TMR w T tm cs) (k : Kq w T w' T' P) (h0 : P 0) : TMR w' T' tm cs := by
  rcases h with h | ⟨t, tx, ow, h1, h2⟩
  · exact Or.inl h
  · exact Or.inr ⟨t, tx, ow, h1, h2.fr (k.mono (fun z hz => by rw [hz]; exact h0))⟩
theorem lx_fz {A V : LA} {e : Nat} (h : LX Γ w T 0 sg A V tm e D) (k : Kq w T w' T' P) (h0 : P 0) : LX Γ w' T' 0 sg A V tm e D := h.fr (k.mono (fun z hz => by
  rcases hz with hz | hz
  · rw [hz]; exact h0
  · exact absurd rfl hz.1))
theorem Fz.go {y : Nat} (h : Fz Γ w T E y) (k : Kq w T w' T' P) (h0 : P 0) : Fz Γ w' T' E y := by
  obtain ⟨D, g, sg, A, V, tm, h1, h2, h3, h4⟩ := h
  exact ⟨D, g, sg, A, V, tm, h1, h2, h3, lx_fz h4 k h0⟩
theorem Fy.go (h : Fy Γ w T E D y) (k : Kq w T w' T' P) (h0 : P 0) : Fy Γ w' T' E D y := by
  obtain ⟨g, sg, A, V, tm, h1, h2, h3, h4⟩ := h
  exact ⟨g, sg, A, V, tm, h1, h2, h3, lx_fz h4 k h0⟩
theorem Hb.go (h : Hb Γ w T bf C i u dn) (k : Kq w T w' T' P) (h0 : P 0) (h3 : P 3) : Hb Γ w' T' bf C i u dn := by
  obtain ⟨a1, a2, f, f1, f2, f3, f4⟩ := h
  have kb := k _ _ f1 (by rw [f2]; exact h3)
  refine ⟨a1, a2, f, kb.1, kb.2.trans f2, fun j hj => ?_, fun j hj hd => ?_⟩
  · rcases f3 j hj with h | ⟨y, fs, e1, e2, e3⟩
    · exact Or.inl h
    · have ky := k _ _ e2 (by rw [e3]; exact h0)
      exact Or.inr ⟨y, fs, e1, ky.1, ky.2.trans e3⟩
  · obtain ⟨y, e1, e2⟩ := f4 j hj hd
    exact ⟨y, e1, e2.go k h0⟩
theorem lx_n1 {A V : LA} {m e : Nat} (h : LX Γ w T m sg A V tm e D) (k : Kq w T w' T' (fun z => z ≠ 1)) : LX Γ w' T' m sg A V tm e D := h.fr (k.mono (fun z hz => by omega))
theorem lx_n2 {A V : LA} {m e : Nat} (h : LX Γ w T m sg A V tm e D) (k : Kq w T w' T' (fun z => z ≠ 2)) : LX Γ w' T' m sg A V tm e D := h.fr (k.mono (fun z hz => by omega))
theorem Bo.go (h : Bo Γ w T x a e C D) (k : Kq w T w' T' (fun _ => True)) (hl : w.1 ≤ w'.1) : Bo Γ w' T' x a e C D := by
  obtain ⟨s, g, cs, sg, A, V, tm, h1, h2, h3, h4, h5, h6⟩ := h
  exact ⟨s, g, cs, sg, A, V, tm, h1.go k trivial hl, h2.go k trivial, h3.go k trivial hl, h4.fr (k.mono (fun _ _ => trivial)), h5.go k trivial, h6⟩
theorem aft_0 (hB : Bo Γ w T x a e C D) (hH : Hb Γ w T bf C i u dn) (hP : nP D ≤ 8) (ht : tmN D ≤ 30 * nn) (e2 : w'.2 = w.2) (hl : w.1 ≤ w'.1) : Aft Γ w' T x a e bf y C D i u dn nn 0 :=
  ⟨hH.go (Kq.bp (P := fun _ => True) e2) trivial trivial, Or.inl ⟨rfl, hB.go (Kq.bp e2) hl, hP, ht⟩⟩
/-- a change, done on both sides -/
theorem aft_1 {A V : LA} {R : Int32} {v : Option Value} {w2 : ZW} (rn : Rn w T a s) (tr : TMR w T tm cs) (h : LX Γ w T 1 sg A V tm e D') (hH : Hb Γ w T bf C i u dn) (hF : Fy Γ w T (C.1 0) D y) (hG : GI sg D') (hJ : JX D') (hW : JW D') (hz : C.2.1.1 1 = 0) (hP : nP D' ≤ 8) (ht : tmN D' ≤ 30 * nn + 30) (q : Pch Γ w T x i u C D D' g cs sg R v w2) : v = some (.int R) ∧ Aft Γ w2 T x a e bf y C D i u dn nn 1 := by
  obtain ⟨q1, E', q2, q3, q4, q5', q6⟩ := q
  exact ⟨q1, hH.go q5' (by decide) (by decide), Or.inr ⟨rfl, hF.go q5' (by decide), E', D', ⟨s, g, cs, sg, A, V, tm, q3, rn.go q5' (by decide), q4, lx_n1 h q5', tr.go q5' (by decide), q6, hG, hJ, hW, hz⟩, hP, ht⟩⟩
end
end LBas
