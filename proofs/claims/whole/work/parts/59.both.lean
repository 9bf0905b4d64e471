section Both
/-! both objects in one world -/
noncomputable def WL (Γ : ZG) (b : ZW) (x : Nat) (C : CS) (o : Nat) (S : MS) (D : ZD) : ZW := wC Γ (wD Γ b o S D) x C
section
variable {Γ : ZG} {b b' : ZW} {x o p P : Nat} {C : CS} {S : MS} {D : ZD} {g g' : Option Nat} {cs cs' : List Int32} {h : Int32} {v : ZD} {K : Nat} {f : ZD}
theorem WL_sw (hx : x + 105 ≤ o) : WL Γ b x C o S D = wD Γ (wC Γ b x C) o S D := by
  refine Prod.ext rfl (funext fun q => ?_)
  show (if x ≤ q ∧ q < x + 105 then some (ccl Γ x C (q - x)) else if o ≤ q ∧ q < o + 15 then mcell Γ o (ma S 1 D) (q - o) else b.2 q) = if o ≤ q ∧ q < o + 15 then mcell Γ o (ma S 1 D) (q - o) else if x ≤ q ∧ q < x + 105 then some (ccl Γ x C (q - x)) else b.2 q
  by_cases h1 : x ≤ q ∧ q < x + 105
  · rw [if_pos h1, if_neg (by omega), if_pos h1]
  · rw [if_neg h1, if_neg h1]
theorem wD_g (hg : gAway g o 15) : gW Γ (wD Γ b o S D) g h v = wD Γ (gW Γ b g h v) o S D := by
  cases g with
  | none => rfl
  | some r =>
    have hr := hg r rfl
    refine Prod.ext rfl (funext fun q => ?_)
    show (if q = r then _ else if q = r + 2 then _ else if o ≤ q ∧ q < o + 15 then _ else b.2 q) = if o ≤ q ∧ q < o + 15 then _ else if q = r then _ else if q = r + 2 then _ else b.2 q
    by_cases hq : o ≤ q ∧ q < o + 15
    · rw [if_neg (by omega), if_neg (by omega), if_pos hq, if_pos hq]
    · rw [if_neg hq, if_neg hq]
theorem rgN_D (hx : o + 15 ≤ b.1) : rgN Γ (wD Γ b o S D) K f = wD Γ (rgN Γ b K f) o S D := by
  refine Prod.ext rfl (funext fun q => ?_)
  show (if q = b.1 then _ else if q = b.1 + 1 then _ else if q = b.1 + 2 then _ else if o ≤ q ∧ q < o + 15 then _ else b.2 q) = if o ≤ q ∧ q < o + 15 then _ else if q = b.1 then _ else if q = b.1 + 1 then _ else if q = b.1 + 2 then _ else b.2 q
  by_cases hq : o ≤ q ∧ q < o + 15
  · rw [if_neg (by omega), if_neg (by omega), if_neg (by omega), if_pos hq, if_pos hq]
  · rw [if_neg hq, if_neg hq]
    rfl
theorem WL_set {c : va_E} (hx : x + 105 ≤ o) (hp : o + 15 ≤ p) : wset (WL Γ b x C o S D) p c = WL Γ (wset b p c) x C o S D := by
  refine Prod.ext rfl (funext fun q => ?_)
  show (if q = p then some c else if x ≤ q ∧ q < x + 105 then some (ccl Γ x C (q - x)) else if o ≤ q ∧ q < o + 15 then mcell Γ o (ma S 1 D) (q - o) else b.2 q) = if x ≤ q ∧ q < x + 105 then some (ccl Γ x C (q - x)) else if o ≤ q ∧ q < o + 15 then mcell Γ o (ma S 1 D) (q - o) else if q = p then some c else b.2 q
  by_cases h1 : q = p
  · rw [if_pos h1, if_neg (by omega), if_neg (by omega), if_pos h1]
  · rw [if_neg h1, if_neg h1]
theorem WL_at (hx : x + 105 ≤ o) (hp : o + 15 ≤ p) : (WL Γ b x C o S D).2 p = b.2 p := (wC_out (by omega)).trans (wM_out (by omega))
theorem WL_bump {w' : ZW} (hw : w'.2 = (WL Γ b x C o S D).2) : w' = WL Γ (w'.1, b.2) x C o S D := Prod.ext rfl hw
/-! the ring rules stay -/
def gOK (P : Nat) (b : ZW) (g : Option Nat) : Prop := ∀ r, g = some r → P ≤ r ∧ r + 3 ≤ b.1
def Ext (Γ : ZG) (P : Nat) (b b' : ZW) : Prop := b.1 ≤ b'.1 ∧ ∀ g cs, gOK P b g → RG Γ b g cs → RG Γ b' g cs
theorem Ext.rf : Ext Γ P b b := ⟨Nat.le_refl _, fun _ _ _ h => h⟩
theorem gOK.ext (h : gOK P b g) (e : Ext Γ P b b') : gOK P b' g := fun r hr => ⟨(h r hr).1, Nat.le_trans (h r hr).2 e.1⟩
theorem Ext.trans {b2 : ZW} (e : Ext Γ P b b') (e2 : Ext Γ P b' b2) : Ext Γ P b b2 := ⟨Nat.le_trans e.1 e2.1, fun g cs hg h => e2.2 g cs (hg.ext e) (e.2 g cs hg h)⟩
theorem Ext.bump {n : Nat} (hn : b.1 ≤ n) : Ext Γ P b (n, b.2) := ⟨hn, fun g cs _ h => by cases g <;> exact h⟩
theorem Ext.set {f0 f1 : Nat → Int64} (hp : b.2 p = some (lcell Γ f0)) : Ext Γ P b (wset b p (lcell Γ f1)) := by
  refine ⟨Nat.le_refl _, fun g cs _ h => ?_⟩
  cases g with
  | none => exact h
  | some r =>
    obtain ⟨h1, h2, h3, a, c, d, g0, g1, g2, g3⟩ := h
    refine ⟨h1, h2, h3, a, c, d, ?_, ?_, ?_, g3⟩
    · refine (if_neg (fun z => ?_)).trans g0
      rw [z, hp] at g0
      cases g0
    · refine (if_neg (fun z => ?_)).trans g1
      rw [z, hp] at g1
      unfold lcell at g1
      simp at g1
    · refine (if_neg (fun z => ?_)).trans g2
      rw [z, hp] at g2
      unfold lcell at g2
      simp at g2
theorem Ext.gw (hR : RG Γ b g' cs') : Ext Γ P b (gW Γ b g' h v) := by
  cases g' with
  | none => exact Ext.rf
  | some r' =>
    obtain ⟨-, -, -, a', c', d', k0, k1, k2, -⟩ := hR
    refine ⟨Nat.le_refl _, fun g cs _ hh => ?_⟩
    cases g with
    | none => exact hh
    | some r =>
      obtain ⟨h1, h2, h3, a, c, d, g0, g1, g2, g3⟩ := hh
      by_cases e : r = r'
      · subst e
        refine ⟨h1, h2, h3, h, v, d, ?_, ?_, ?_, g3⟩
        · exact if_pos rfl
        · exact ((if_neg (by omega)).trans (if_neg (by omega))).trans g1
        · exact (if_neg (by omega)).trans (if_pos rfl)
      · have e1 : r + 1 ≠ r' := fun z => by rw [z, k0] at g1; cases g1
        have e2 : r + 2 ≠ r' := fun z => by rw [z, k0] at g2; cases g2
        have e3 : r ≠ r' + 2 := fun z => by rw [z, k2] at g0; cases g0
        have e4 : r ≠ r' + 1 := fun z => by rw [z, k1] at g0; cases g0
        refine ⟨h1, h2, h3, a, c, d, ?_, ?_, ?_, g3⟩
        · exact ((if_neg e).trans (if_neg e3)).trans g0
        · exact ((if_neg e1).trans (if_neg (by omega))).trans g1
        · exact ((if_neg e2).trans (if_neg (by omega))).trans g2
theorem Ext.rg : Ext Γ P b (rgN Γ b K f) := by
  refine ⟨Nat.le_add_right _ 3, fun g cs hg hh => ?_⟩
  cases g with
  | none => exact hh
  | some r =>
    have hr := hg r rfl
    obtain ⟨h1, h2, h3, a, c, d, g0, g1, g2, g3⟩ := hh
    refine ⟨h1, h2, h3, a, c, d, ?_, ?_, ?_, g3⟩
    · exact ((if_neg (by omega)).trans ((if_neg (by omega)).trans (if_neg (by omega)))).trans g0
    · exact ((if_neg (by omega)).trans ((if_neg (by omega)).trans (if_neg (by omega)))).trans g1
    · exact ((if_neg (by omega)).trans ((if_neg (by omega)).trans (if_neg (by omega)))).trans g2
theorem NewR.what (hP : P ≤ b.1) (hN : NewR Γ b b' g cs) : Ext Γ P b b' ∧ RG Γ b' g cs ∧ gOK P b' g := by
  rcases hN with ⟨rfl, rfl, rfl⟩ | ⟨rfl, h2, h3, h4, f, rfl, h6⟩
  · exact ⟨Ext.rf, rfl, fun r hr => by cases hr⟩
  · refine ⟨Ext.rg, ⟨h2, h4, by omega, 0, fun _ => 0, f, if_pos rfl, (if_neg (by omega)).trans (if_pos rfl), (if_neg (by omega)).trans ((if_neg (by omega)).trans (if_pos rfl)), h6⟩, fun r hr => ?_⟩
    cases hr
    exact ⟨hP, Nat.le_refl _⟩
theorem NewR_D (hx : o + 15 ≤ b.1) (hN : NewR Γ (wD Γ b o S D) b' g cs) : ∃ w0, b' = wD Γ w0 o S D ∧ NewR Γ b w0 g cs := by
  rcases hN with ⟨h1, h2, h3⟩ | ⟨h1, h2, h3, h4, f, h5, h6⟩
  · exact ⟨b, h2, Or.inl ⟨h1, rfl, h3⟩⟩
  · exact ⟨rgN Γ b cs.length f, h5.trans (rgN_D hx), Or.inr ⟨h1, h2, h3, h4, f, rfl, h6⟩⟩
theorem RG.outD (hR : RG Γ b g cs) (hg : gAway g o 15) : RG Γ (wD Γ b o S D) g cs := by
  cases g with
  | none => exact hR
  | some r =>
    obtain ⟨h1, h2, h3, a, c, f, g0, g1, g2, g3⟩ := hR
    have hr := hg r rfl
    exact ⟨h1, h2, h3, a, c, f, (wM_out (by omega)).trans g0, (wM_out (by omega)).trans g1, (wM_out (by omega)).trans g2, g3⟩
end
/-! one exchange against one row -/
def XI (Γ : ZG) (b : ZW) (P : Nat) (E : ES) (D : ZD) : Prop := ∃ g sg cs, CR D g sg E D ∧ GI sg D ∧ RC D cs ∧ RG Γ b g cs ∧ gOK P b g ∧ tmN D ≤ 9999
section
variable {Γ : ZG} {b b' : ZW} {P : Nat} {E : ES} {C : CS} {S S' : MS} {D : ZD} {i u : Nat}
theorem XI.ext (h : XI Γ b P E D) (e : Ext Γ P b b') : XI Γ b' P E D := by
  obtain ⟨g, sg, cs, h1, h2, h3, h4, h5, h6⟩ := h
  exact ⟨g, sg, cs, h1, h2, h3, e.2 g cs h5 h4, h5.ext e, h6⟩
theorem XI.cpy (h : XI Γ b P E D) (F : ES) : XI Γ b P (cpE F E (nP D) (nC D) (nL D)) D := by
  obtain ⟨g, sg, cs, h1, h2⟩ := h
  exact ⟨g, sg, cs, h1.cpy F, h2⟩
def HI (Γ : ZG) (b : ZW) (P i u : Nat) (C : CS) (S : MS) : Prop :=
  C.2.2.1 = nI i ∧ i < 8 ∧ C.2.2.2.1 = nI u ∧ u ≤ 8 ∧ S.1 12 = nI u ∧ ∀ j, j < u → XI Γ b P (C.1 (2 + (i + 8 - u + j) % 8)) (S.2.1 (4 + j))
theorem HI.ext (h : HI Γ b P i u C S) (e : Ext Γ P b b') : HI Γ b' P i u C S := by
  obtain ⟨h1, h2, h3, h4, h5, h6⟩ := h
  exact ⟨h1, h2, h3, h4, h5, fun j hj => (h6 j hj).ext e⟩
theorem HI.cE (h : HI Γ b P i u C S) {m : Nat} (hm : m < 2) : HI Γ b P i u (cE C m E) S := by
  obtain ⟨h1, h2, h3, h4, h5, h6⟩ := h
  refine ⟨h1, h2, h3, h4, h5, fun j hj => ?_⟩
  have e : (_root_.Jvm.Pilot.CCallForksLaw_law_r5089_bfb46a.cE C m E).1 (2 + (i + 8 - u + j) % 8) = C.1 (2 + (i + 8 - u + j) % 8) := if_neg (by omega)
  rw [e]
  exact h6 j hj
theorem HI.ms (h : HI Γ b P i u C S) (h1 : S'.1 12 = S.1 12) (h2 : ∀ j, S'.2.1 (4 + j) = S.2.1 (4 + j)) : HI Γ b P i u C S' := by
  obtain ⟨a1, a2, a3, a4, a5, a6⟩ := h
  exact ⟨a1, a2, a3, a4, h1.trans a5, fun j hj => by rw [h2]; exact a6 j hj⟩
theorem HI.oc (h : HI Γ b P i u C S) {C' : CS} (h1 : C'.1 = C.1) (h2 : C'.2.2.1 = C.2.2.1) (h3 : C'.2.2.2.1 = C.2.2.2.1) : HI Γ b P i u C' S := by
  obtain ⟨a1, a2, a3, a4, a5, a6⟩ := h
  exact ⟨h2.trans a1, a2, h3.trans a3, a4, a5, fun j hj => by rw [h1]; exact a6 j hj⟩
theorem shS_what : ∀ (f j : Nat) (S : MS), (shS S j f).1 = S.1 ∧ (∀ a, a < 4 + j ∨ 4 + (j + f) ≤ a → (shS S j f).2.1 a = S.2.1 a) ∧ ∀ a, 4 + j ≤ a → a < 4 + (j + f) → (shS S j f).2.1 a = S.2.1 (a + 1)
  | 0, j, S => ⟨rfl, fun _ _ => rfl, fun a h1 h2 => by omega⟩
  | f + 1, j, S => by
    have e : shS S j (f + 1) = shS (ma S (4 + j) (S.2.1 (5 + j))) (j + 1) f := rfl
    obtain ⟨h1, h2, h3⟩ := shS_what f (j + 1) (ma S (4 + j) (S.2.1 (5 + j)))
    rw [e]
    refine ⟨h1, fun a ha => ?_, fun a h4 h5 => ?_⟩
    · rw [h2 a (by omega)]
      exact if_neg (by omega)
    · by_cases q : a = 4 + j
      · subst q
        rw [h2 _ (by omega), show 4 + j + 1 = 5 + j by omega]
        exact if_pos rfl
      · rw [h3 a (by omega) (by omega)]
        exact if_neg (by omega)
theorem remM_what (hU : S.1 12 = nI u) (hu : u ≤ 8) : (remM S D u).1 12 = nI (if u + 1 < 8 then u + 1 else 8) ∧ (∀ k, k ≠ 12 → (remM S D u).1 k = S.1 k) ∧ (∀ a, a < 4 → (remM S D u).2.1 a = S.2.1 a) ∧ ∀ j, j < (if u + 1 < 8 then u + 1 else 8) → (remM S D u).2.1 (4 + j) = if j + 1 = (if u + 1 < 8 then u + 1 else 8) then D else S.2.1 (4 + (if u = 8 then j + 1 else j)) := by
  unfold remM
  by_cases q : u = 8
  · subst q
    rw [if_pos rfl, if_neg (by decide)]
    obtain ⟨h1, h2, h3⟩ := shS_what 7 0 S
    refine ⟨?_, fun k hk => ?_, fun a ha => ?_, fun j hj => ?_⟩
    · have e : (fin8 (shS S 0 7) D).1 12 = (shS S 0 7).1 12 - 1 + 1 := rfl
      rw [e, h1, hU]
      rfl
    · show (if k = 12 then _ else if k = 12 then _ else (shS S 0 7).1 k) = _
      rw [if_neg hk, if_neg hk, h1]
    · show (if a = 11 then D else (shS S 0 7).2.1 a) = _
      rw [if_neg (by omega), h2 a (by omega)]
    · show (if 4 + j = 11 then D else (shS S 0 7).2.1 (4 + j)) = _
      by_cases z : j + 1 = 8
      · rw [if_pos (by omega), if_pos z]
      · rw [if_neg (by omega), if_neg z, h3 (4 + j) (by omega) (by omega)]
        rfl
  · rw [if_neg q]
    have e8 : (if u + 1 < 8 then u + 1 else 8) = u + 1 := by split <;> omega
    rw [e8]
    refine ⟨?_, fun k hk => if_neg hk, fun a ha => if_neg (by omega), fun j hj => ?_⟩
    · have e : (mf (ma S (4 + u) D) 12 (S.1 12 + 1)).1 12 = S.1 12 + 1 := rfl
      rw [e, hU, nI_1]
    · show (if 4 + j = 4 + u then D else S.2.1 (4 + j)) = _
      by_cases z : j + 1 = u + 1
      · rw [if_pos (by omega), if_pos z]
      · rw [if_neg (by omega), if_neg z, if_neg q]
theorem HI.push (h : HI Γ b P i u C S) (hx : XI Γ b P (C.1 0) D) : HI Γ b P (if i + 1 = 8 then 0 else i + 1) (if u + 1 < 8 then u + 1 else 8) (puC C i u (nP D) (nC D) (nL D)) (remM S D u) := by
  obtain ⟨h1, h2, h3, h4, h5, h6⟩ := h
  obtain ⟨r1, r2, r3, r4⟩ := remM_what (D := D) h5 h4
  refine ⟨rfl, by split <;> omega, rfl, by split <;> omega, r1, fun j hj => ?_⟩
  rw [r4 j hj]
  show XI Γ b P (if 2 + ((if i + 1 = 8 then 0 else i + 1) + 8 - (if u + 1 < 8 then u + 1 else 8) + j) % 8 = 2 + i then cpE (C.1 (2 + i)) (C.1 0) (nP D) (nC D) (nL D) else C.1 (2 + ((if i + 1 = 8 then 0 else i + 1) + 8 - (if u + 1 < 8 then u + 1 else 8) + j) % 8)) _
  by_cases z : j + 1 = (if u + 1 < 8 then u + 1 else 8)
  · rw [if_pos z, if_pos (by split at z <;> split <;> omega)]
    exact hx.cpy _
  · rw [if_neg z, if_neg (by split at z <;> split at hj <;> split <;> omega)]
    by_cases q : u = 8
    · rw [if_pos q]
      have e : ((if i + 1 = 8 then 0 else i + 1) + 8 - (if u + 1 < 8 then u + 1 else 8) + j) % 8 = (i + 8 - u + (j + 1)) % 8 := by split at z <;> split at hj <;> split <;> omega
      rw [e]
      exact h6 (j + 1) (by split at z <;> split at hj <;> omega)
    · rw [if_neg q]
      have e : ((if i + 1 = 8 then 0 else i + 1) + 8 - (if u + 1 < 8 then u + 1 else 8) + j) % 8 = (i + 8 - u + j) % 8 := by split at z <;> split at hj <;> split <;> omega
      rw [e]
      exact h6 j (by split at z <;> split at hj <;> omega)
theorem HI.pop (h : HI Γ b P i (u + 1) C S) : XI Γ b P (C.1 (2 + slt i)) (S.2.1 (4 + u)) ∧ ∀ (n0 n1 n2 : Nat), HI Γ b P (slt i) u (poC C i u n0 n1 n2) (mf S 12 (S.1 12 - 1)) := by
  obtain ⟨h1, h2, h3, h4, h5, h6⟩ := h
  have e : slt i = (i + 8 - (u + 1) + u) % 8 := by unfold slt; split <;> omega
  refine ⟨by rw [e]; exact h6 u (by omega), fun n0 n1 n2 => ⟨rfl, by unfold slt; split <;> omega, rfl, by omega, ?_, fun j hj => ?_⟩⟩
  · show S.1 12 - 1 = _
    rw [h5, nI_pred]
  · have e2 : (slt i + 8 - u + j) % 8 = (i + 8 - (u + 1) + j) % 8 := by unfold slt; split <;> omega
    rw [e2]
    have e3 : (poC C i u n0 n1 n2).1 (2 + (i + 8 - (u + 1) + j) % 8) = C.1 (2 + (i + 8 - (u + 1) + j) % 8) := if_neg (by omega)
    rw [e3]
    exact h6 j (by omega)
end
/-- the relation of the two objects -/
def LI (Γ : ZG) (P : Nat) (b : ZW) (x : Nat) (C : CS) (o : Nat) (S : MS) (D : ZD) (p : Nat) : Prop :=
  (x + 105 ≤ o ∧ o + 15 ≤ p ∧ p + 1 ≤ P ∧ P ≤ b.1) ∧ (∃ f, b.2 p = some (lcell Γ f)) ∧ XI Γ b P (C.1 0) D ∧ (∃ i u, HI Γ b P i u C S) ∧
  (∃ n, S.1 2 = nI n ∧ C.2.1.1 1 = nI n ∧ n ≤ 600 ∧ ∀ k, k < n → S.2.1 0 k = C.2.1.2.1 k &&& 255) ∧ C.2.2.2.2 = S.1 7
end Both
