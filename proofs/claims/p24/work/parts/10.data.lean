/-! words for the reference's row of numbers -/
theorem zbdec (p : Prop) : ∃ v : Int32, (p → v = 1) ∧ (¬ p → v = 0) := by
  rcases Classical.em p with h | h
  · exact ⟨1, fun _ => rfl, fun q => absurd h q⟩
  · exact ⟨0, fun q => absurd q h, fun _ => rfl⟩
noncomputable def zb (p : Prop) : Int32 := Classical.choose (zbdec p)
theorem zb_t {p : Prop} (h : p) : zb p = 1 := (Classical.choose_spec (zbdec p)).1 h
theorem zb_f {p : Prop} (h : ¬ p) : zb p = 0 := (Classical.choose_spec (zbdec p)).2 h
theorem zb_0 {p : Prop} (h : zb p = 0) : ¬ p := fun q => by rw [zb_t q] at h; exact absurd h (by decide)
theorem zb_1 {p : Prop} (h : ¬ zb p = 0) : p := Classical.byContradiction fun q => h (zb_f q)
theorem zb_01 (p : Prop) : zb p = 0 ∨ zb p = 1 := (Classical.em p).elim (fun h => Or.inr (zb_t h)) (fun h => Or.inl (zb_f h))
theorem zb_congr {p q : Prop} (h : p ↔ q) : zb p = zb q := by rw [propext h]
noncomputable def zfind (P : Nat → Prop) : Nat → Nat → Int32
  | _, 0 => -1
  | i, f + 1 => @ite _ (P i) (Classical.propDecidable _) (nI i) (zfind P (i + 1) f)
theorem zfind_t {P : Nat → Prop} {i f : Nat} (h : P i) : zfind P i (f + 1) = nI i := by unfold zfind; exact if_pos h
theorem zfind_f {P : Nat → Prop} {i f : Nat} (h : ¬ P i) : zfind P i (f + 1) = zfind P (i + 1) f := by rw [zfind]; exact if_neg h
theorem zfind_spec {P : Nat → Prop} : ∀ (f i : Nat), (zfind P i f = -1 ∧ ∀ j, i ≤ j → j < i + f → ¬ P j) ∨ ∃ j, i ≤ j ∧ j < i + f ∧ P j ∧ zfind P i f = nI j ∧ ∀ t, i ≤ t → t < j → ¬ P t
  | 0, i => Or.inl ⟨rfl, fun j h1 h2 => by omega⟩
  | f + 1, i => by
    rcases Classical.em (P i) with h | h
    · exact Or.inr ⟨i, Nat.le_refl _, by omega, h, zfind_t h, fun t h1 h2 => by omega⟩
    · rw [zfind_f h]
      rcases zfind_spec f (i + 1) with ⟨h1, h2⟩ | ⟨j, h1, h2, h3, h4, h5⟩
      · refine Or.inl ⟨h1, fun j g1 g2 => ?_⟩
        rcases Nat.eq_or_lt_of_le g1 with e | g
        · rw [← e]; exact h
        · exact h2 j g (by omega)
      · refine Or.inr ⟨j, by omega, by omega, h3, h4, fun t g1 g2 => ?_⟩
        rcases Nat.eq_or_lt_of_le g1 with e | g
        · rw [← e]; exact h
        · exact h5 t g g2
theorem zfind_congr {P Q : Nat → Prop} : ∀ (f i : Nat), (∀ j, i ≤ j → j < i + f → (P j ↔ Q j)) → zfind P i f = zfind Q i f
  | 0, _, _ => rfl
  | f + 1, i, h => by
    have ih := zfind_congr f (i + 1) (fun j h1 h2 => h j (by omega) (by omega))
    rcases Classical.em (P i) with hp | hp
    · rw [zfind_t hp, zfind_t ((h i (Nat.le_refl _) (by omega)).mp hp)]
    · rw [zfind_f hp, zfind_f (fun q => hp ((h i (Nat.le_refl _) (by omega)).mpr q)), ih]
noncomputable def zcnt (P : Nat → Prop) : Nat → Nat → Int32 → Int32
  | _, 0, a => a
  | i, f + 1, a => zcnt P (i + 1) f (a + zb (P i))
theorem zcnt_congr {P Q : Nat → Prop} : ∀ (f i : Nat) (a : Int32), (∀ j, i ≤ j → j < i + f → (P j ↔ Q j)) → zcnt P i f a = zcnt Q i f a
  | 0, _, _, _ => rfl
  | f + 1, i, a, h => by
    show zcnt P (i + 1) f (a + zb (P i)) = zcnt Q (i + 1) f (a + zb (Q i))
    rw [zb_congr (h i (Nat.le_refl _) (by omega))]
    exact zcnt_congr f (i + 1) _ (fun j h1 h2 => h j (by omega) (by omega))
def exs (P : Nat → Prop) : Nat → Nat → Prop
  | _, 0 => False
  | i, f + 1 => P i ∨ exs P (i + 1) f
theorem exs_iff {P : Nat → Prop} : ∀ (f i : Nat), exs P i f ↔ ∃ j, i ≤ j ∧ j < i + f ∧ P j
  | 0, i => ⟨fun h => h.elim, fun ⟨j, h1, h2, _⟩ => by omega⟩
  | f + 1, i => by
    show P i ∨ exs P (i + 1) f ↔ _
    rw [exs_iff f (i + 1)]
    constructor
    · rintro (h | ⟨j, h1, h2, h3⟩)
      · exact ⟨i, Nat.le_refl _, by omega, h⟩
      · exact ⟨j, by omega, by omega, h3⟩
    · rintro ⟨j, h1, h2, h3⟩
      rcases Nat.eq_or_lt_of_le h1 with e | g
      · exact Or.inl (e ▸ h3)
      · exact Or.inr ⟨j, g, by omega, h3⟩
theorem exs_f {P : Nat → Prop} {i f : Nat} (h : ¬ P i) : zb (exs P i (f + 1)) = zb (exs P (i + 1) f) := zb_congr ⟨fun q => q.elim (fun z => absurd z h) id, Or.inr⟩
def itr {σ : Type} (g : Nat → σ → σ) : Nat → Nat → σ → σ
  | _, 0, s => s
  | i, f + 1, s => itr g (i + 1) f (g i s)
theorem lpE {a : Int32} {i N : Nat} (ha : a = nI N) (hi : i = N) (h : ¬ a ≤ nI i) : False := by
  subst hi
  rw [ha] at h
  exact h (Int32.le_refl _)
theorem lpG {a : Int32} {i N : Nat} (ha : a = nI N) (hN : N < 2 ^ 31) (hi : i < N) (h : a ≤ nI i) : False := by
  rw [ha] at h
  exact nI_ge hi hN h
abbrev ZD : Type := Nat → Int32
def dL (D : ZD) (k j : Nat) : Int32 := D (146 + 13 * k + j)
def dC (D : ZD) (c j : Nat) : Int32 := D (46 + 5 * c + j)
def dP (D : ZD) (p j : Nat) : Int32 := D (16 + 3 * p + j)
def nP (D : ZD) : Nat := (D 4).toNatClampNeg
def nC (D : ZD) : Nat := (D 5).toNatClampNeg
def nL (D : ZD) : Nat := (D 6).toNatClampNeg
def ofN (D : ZD) (k : Nat) : Nat := (dL D k 0).toNatClampNeg
/-- the indexes lie where they may -/
def Ix (D : ZD) : Prop := (D 4 = nI (nP D) ∧ nP D ≤ 10) ∧ (D 5 = nI (nC D) ∧ nC D ≤ 20) ∧ (D 6 = nI (nL D) ∧ nL D ≤ 40) ∧ ∀ k, k < nL D → dL D k 0 = nI (ofN D k) ∧ ofN D k < nC D
theorem ixL (k j : Nat) : nI (146 + 13 * k) + nI j = nI (146 + 13 * k + j) := nI_add _ _
theorem ixL0 (k : Nat) : (146 : Int32) + 13 * nI k = nI (146 + 13 * k) := by
  rw [show (13 : Int32) = nI 13 from rfl, pk_mul, show (146 : Int32) = nI 146 from rfl, nI_add]
theorem ixC0 (k : Nat) : (46 : Int32) + 5 * nI k = nI (46 + 5 * k) := by
  rw [show (5 : Int32) = nI 5 from rfl, pk_mul, show (46 : Int32) = nI 46 from rfl, nI_add]
theorem ixP0 (k : Nat) : (16 : Int32) + 3 * nI k = nI (16 + 3 * k) := by
  rw [show (3 : Int32) = nI 3 from rfl, pk_mul, show (16 : Int32) = nI 16 from rfl, nI_add]
/-- the caller of a leg's call; whether a party is in a leg; and so on, as the reference says them -/
def clr (D : ZD) (k : Nat) : Int32 := dC D (ofN D k) 0
def inLeg (D : ZD) (p : Int32) (k : Nat) : Prop := clr D k = p ∨ dL D k 1 = p
noncomputable def legW (D : ZD) (p s : Int32) : Int32 := zfind (fun k => dL D k 2 = s ∧ inLeg D p k) 0 (nL D)
def rngs (D : ZD) (c : Int32) : Prop := exs (fun k => dL D k 0 = c ∧ dL D k 2 = 0) 0 (nL D)
noncomputable def rngOf (D : ZD) (p : Int32) : Int32 := zfind (fun c => dC D c 0 = p ∧ rngs D (nI c)) 0 (nC D)
def eng (D : ZD) (p : Int32) : Prop := legW D p 1 ≠ -1 ∨ legW D p 2 ≠ -1 ∨ rngOf D p ≠ -1
noncomputable def cntSt (D : ZD) (s : Int32) : Int32 := zcnt (fun k => dL D k 2 = s) 0 (nL D) 0
noncomputable def rung (D : ZD) (p : Int32) : Int32 := zcnt (fun k => dL D k 2 = 0 ∧ dL D k 1 = p) 0 (nL D) 0
