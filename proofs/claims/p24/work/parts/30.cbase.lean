/-! the class's Exchange: nine cells from e on; its tables against the reference's row -/
/-- cells of the tables (0 parties, 1 calls, 2 legs, 3 totals); their rows; the fields 5.. (time, waits, patience); the ring rule -/
abbrev ES : Type := (Nat → ZD) × (Nat → Int32) × (Nat → Int32) × Option Nat
def ccol : Nat → Nat
  | 0 => 3
  | 1 => 8
  | 2 => 13
  | _ => 7
def csz : Nat → Nat
  | 0 => 30
  | 1 => 160
  | 2 => 520
  | _ => 7
def efs (e : Nat) (E : ES) : List Value := [.ref (e + 1), .ref (e + 3), .ref (e + 5), .ref (e + 7), va_rf E.2.2.2, .int (E.2.2.1 5), .int (E.2.2.1 6), .int (E.2.2.1 7), .int (E.2.2.1 8)]
def etab (e j : Nat) (E : ES) : List Value := [.ref (e + (j + 1)), .int (nI (ccol (j / 2))), .int (E.2.1 (j / 2))]
def ecell (Γ : ZG) (e : Nat) (E : ES) (j : Nat) : va_E :=
  if j = 0 then .inr (0, efs e E) else if j % 2 = 1 then .inr (4, etab e j E) else .inl (Γ.2.2.1 0, csz (j / 2 - 1), .inl (E.1 (j / 2 - 1)))
def wE (Γ : ZG) (w : ZW) (e : Nat) (E : ES) : ZW := (w.1, fun q => if e ≤ q ∧ q < e + 9 then some (ecell Γ e E (q - e)) else w.2 q)
def es (E : ES) (t : Nat) (f : ZD) : ES := (fun i => if i = t then f else E.1 i, E.2)
def er (E : ES) (t : Nat) (v : Int32) : ES := (E.1, fun i => if i = t then v else E.2.1 i, E.2.2)
def ef (E : ES) (j : Nat) (v : Int32) : ES := (E.1, E.2.1, upd E.2.2.1 j v, E.2.2.2)
def eg (E : ES) (r : Option Nat) : ES := (E.1, E.2.1, E.2.2.1, r)
theorem wE_at {Γ : ZG} {w : ZW} {e : Nat} {E : ES} (j : Nat) (hj : j < 9) : (wE Γ w e E).2 (e + j) = some (ecell Γ e E j) := by
  show (if e ≤ e + j ∧ e + j < e + 9 then some (ecell Γ e E (e + j - e)) else w.2 (e + j)) = _
  rw [if_pos ⟨by omega, by omega⟩, show e + j - e = j by omega]
theorem wE_at0 {Γ : ZG} {w : ZW} {e : Nat} {E : ES} : (wE Γ w e E).2 e = some (.inr (0, efs e E)) := wE_at (e := e) 0 (by decide)
theorem wE_out {Γ : ZG} {w : ZW} {e q : Nat} {E : ES} (h : q < e ∨ e + 9 ≤ q) : (wE Γ w e E).2 q = w.2 q := if_neg (by omega)
theorem wE_set {Γ : ZG} {w : ZW} {e x : Nat} {E E' : ES} {c : va_E} (hx : x < 9) (he : ecell Γ e E' x = c) (ho : ∀ j, j < 9 → j ≠ x → ecell Γ e E' j = ecell Γ e E j) : wset (wE Γ w e E) (e + x) c = wE Γ w e E' := by
  refine Prod.ext rfl (funext fun q => ?_)
  show (if q = e + x then some c else if e ≤ q ∧ q < e + 9 then some (ecell Γ e E (q - e)) else w.2 q) = if e ≤ q ∧ q < e + 9 then some (ecell Γ e E' (q - e)) else w.2 q
  by_cases hq : q = e + x
  · rw [if_pos hq, if_pos ⟨by omega, by omega⟩, show q - e = x by omega, he]
  · rw [if_neg hq]
    by_cases hr : e ≤ q ∧ q < e + 9
    · rw [if_pos hr, if_pos hr, ho (q - e) (by omega) (by omega)]
    · rw [if_neg hr, if_neg hr]
theorem wE_setT {Γ : ZG} {w : ZW} {e t : Nat} {E : ES} {f : ZD} (ht : t < 4) : wset (wE Γ w e E) (e + (2 + 2 * t)) (.inl (Γ.2.2.1 0, csz t, .inl f)) = wE Γ w e (es E t f) := by
  refine wE_set (by omega) ?_ ?_
  · unfold ecell es
    rw [if_neg (by omega), if_neg (by omega), show (2 + 2 * t) / 2 - 1 = t by omega]
    simp
  · intro j hj hne
    unfold ecell
    by_cases h0 : j = 0
    · rw [if_pos h0, if_pos h0]; rfl
    · rw [if_neg h0, if_neg h0]
      by_cases h1 : j % 2 = 1
      · rw [if_pos h1, if_pos h1]; rfl
      · rw [if_neg h1, if_neg h1]
        have : j / 2 - 1 ≠ t := by omega
        simp [es, this]
theorem wE_setR {Γ : ZG} {w : ZW} {e t : Nat} {E : ES} {v : Int32} (ht : t < 4) : wset (wE Γ w e E) (e + (1 + 2 * t)) (.inr (4, [.ref (e + (2 + 2 * t)), .int (nI (ccol t)), .int v])) = wE Γ w e (er E t v) := by
  refine wE_set (by omega) ?_ ?_
  · unfold ecell er etab
    rw [if_neg (by omega), if_pos (by omega), show (1 + 2 * t) / 2 = t by omega, show 1 + 2 * t + 1 = 2 + 2 * t by omega]
    simp
  · intro j hj hne
    unfold ecell
    by_cases h0 : j = 0
    · rw [if_pos h0, if_pos h0]; rfl
    · rw [if_neg h0, if_neg h0]
      by_cases h1 : j % 2 = 1
      · rw [if_pos h1, if_pos h1]
        have : j / 2 ≠ t := by omega
        simp [er, etab, this]
      · rw [if_neg h1, if_neg h1]; rfl
theorem wE_setF {Γ : ZG} {w : ZW} {e : Nat} {E E' : ES} {fs : List Value} (h : fs = efs e E') (h1 : E'.1 = E.1) (h2 : E'.2.1 = E.2.1) : wset (wE Γ w e E) e (.inr (0, fs)) = wE Γ w e E' := by
  subst h
  refine wE_set (x := 0) (by decide) rfl ?_
  intro j hj hne
  unfold ecell etab
  rw [if_neg hne, if_neg hne, h1, h2]
theorem wE_tab {Γ : ZG} {w : ZW} {e t : Nat} {E : ES} (ht : t < 4) : (wE Γ w e E).2 (e + (1 + 2 * t)) = some (.inr (4, [.ref (e + (2 + 2 * t)), .int (nI (ccol t)), .int (E.2.1 t)])) := by
  rw [wE_at _ (by omega)]
  unfold ecell etab
  rw [if_neg (by omega), if_pos (by omega), show (1 + 2 * t) / 2 = t by omega, show 1 + 2 * t + 1 = 2 + 2 * t by omega]
theorem wE_arr {Γ : ZG} {w : ZW} {e t : Nat} {E : ES} (ht : t < 4) : (wE Γ w e E).2 (e + (2 + 2 * t)) = some (.inl (Γ.2.2.1 0, csz t, .inl (E.1 t))) := by
  rw [wE_at _ (by omega)]
  unfold ecell
  rw [if_neg (by omega), if_neg (by omega), show (2 + 2 * t) / 2 - 1 = t by omega]
theorem wE_wE {Γ : ZG} {w : ZW} {e : Nat} {E E' : ES} : wE Γ (wE Γ w e E) e E' = wE Γ w e E' := by
  refine Prod.ext rfl (funext fun q => ?_)
  show (if e ≤ q ∧ q < e + 9 then some (ecell Γ e E' (q - e)) else if e ≤ q ∧ q < e + 9 then some (ecell Γ e E (q - e)) else w.2 q) = if e ≤ q ∧ q < e + 9 then some (ecell Γ e E' (q - e)) else w.2 q
  by_cases hr : e ≤ q ∧ q < e + 9
  · rw [if_pos hr, if_pos hr]
  · rw [if_neg hr, if_neg hr, if_neg hr]
/-- first leg of a call, and the leg behind its last, as the class's table of calls says -/
def fsN (E : ES) (c : Nat) : Nat := (E.1 1 (c * 8 + 6)).toNatClampNeg
def afN (E : ES) (c : Nat) : Nat := (E.1 1 (c * 8 + 7)).toNatClampNeg
/-- the class's tables say what the reference's row says -/
def RelE (E : ES) (D : ZD) : Prop :=
  (E.2.1 0 = D 4 ∧ E.2.1 1 = D 5 ∧ E.2.1 2 = D 6 ∧ E.2.1 3 = 1) ∧ (E.2.2.1 5 = D 0 ∧ E.2.2.1 6 = D 1 ∧ E.2.2.1 7 = D 2 ∧ E.2.2.1 8 = D 3) ∧
  (∀ p j, p < nP D → j < 3 → E.1 0 (p * 3 + j) = dP D p j) ∧ (∀ c j, c < nC D → j < 4 → E.1 1 (c * 8 + j) = dC D c j) ∧ (∀ c, c < nC D → E.1 1 (c * 8 + 5) = dC D c 4) ∧
  (∀ k j, k < nL D → j < 13 → E.1 2 (k * 13 + j) = dL D k j) ∧ (∀ j, j < 7 → E.1 3 j = D (9 + j))
/-- the legs of a call stand side by side, from its first on -/
def Seg (E : ES) (D : ZD) : Prop := ∀ c, c < nC D → (E.1 1 (c * 8 + 6) = nI (fsN E c) ∧ E.1 1 (c * 8 + 7) = nI (afN E c) ∧ fsN E c ≤ afN E c ∧ afN E c ≤ nL D) ∧ ∀ k, k < nL D → (ofN D k = c ↔ fsN E c ≤ k ∧ k < afN E c)
