section LXs
/-! the law's own exchange in the heap, against the row of numbers -/
/-- addresses: 0 legs, 1 calls, 3 rows of parties, 4 the calls' rows of legs, 8: the rows of parties, calls, legs, totals; V, which change: 2 the legs' pairs of repetitions, 5 offers, 6 and 7 repetitions -/
abbrev LA : Type := Nat → Nat → Nat
def q5 (Γ : ZG) (t N : Nat) (f : Nat → Option Nat) : va_E := .inl (Γ.2.2.1 t, N, .inr (.inr (.inr (.inr f))))
def i5 (Γ : ZG) (N : Nat) (f : Nat → Int32) : va_E := .inl (Γ.2.2.1 0, N, .inl f)
def lgO (A : LA) (v : Int32) : Option Nat := if v = -1 then none else some (A 0 (tN v))
def tkO (A : LA) (v : Int32) : Option Nat := if v = -1 then none else some (A 1 (tN v))
def ofO (V : LA) (D : ZD) (k : Nat) : Option Nat := if dL D k 6 = -1 then none else some (V 5 k)
def rpO (V : LA) (D : ZD) (k s : Nat) : Option Nat := if dL D k (9 + s) = -1 then none else some (V (6 + s) k)
def rpF (V : LA) (D : ZD) (k : Nat) : Nat → Option Nat := fun s => if s < 2 then rpO V D k s else none
def xFs (A : LA) (tm : Option Nat) (D : ZD) : List Value := [.int (D 0), .int (D 1), .int (D 2), .int (D 3), .ref (A 8 0), .ref (A 8 1), .ref (A 8 2), .ref (A 8 3), va_rf tm]
def lFs (A V : LA) (D : ZD) (k : Nat) : List Value := [.ref (A 1 (ofN D k)), .int (dL D k 1), .int (dL D k 2), .int (dL D k 3), .int (dL D k 4), .int (dL D k 5), va_rf (ofO V D k), .ref (V 2 k)]
def tFs (A : LA) (D : ZD) (c : Nat) : List Value := [.int (dC D c 0), .int (dC D c 1), .int (dC D c 2), va_rf (lgO A (dC D c 3)), va_rf (lgO A (dC D c 4)), .ref (A 4 c)]
abbrev LT : Type := Nat → Nat
/-- what is kept of the cells with these tags -/
def Kq (w : ZW) (T : LT) (w' : ZW) (T' : LT) (P : Nat → Prop) : Prop := ∀ q c, w.2 q = some c → P (T q) → w'.2 q = some c ∧ T' q = T q
def PE (w : ZW) (T : LT) (m : Nat) (A : LA) (tm : Option Nat) (e : Nat) (D : ZD) : Prop := w.2 e = some (.inr (6, xFs A tm D)) ∧ T e = m * 14
def PP (Γ : ZG) (w : ZW) (T : LT) (m : Nat) (A : LA) (D : ZD) : Prop := (∃ f, w.2 (A 8 0) = some (q5 Γ 4 (nP D) f) ∧ T (A 8 0) = 0 ∧ ∀ p, p < nP D → f p = some (A 3 p)) ∧ ∀ p, p < nP D → ∃ f, w.2 (A 3 p) = some (i5 Γ 3 f) ∧ T (A 3 p) = m * (13 + 5 * p) ∧ ∀ j, j < 3 → f j = dP D p j
def PA (Γ : ZG) (w : ZW) (T : LT) (A : LA) (D : ZD) : Prop := (∃ f, w.2 (A 8 1) = some (q5 Γ 8 (nC D) f) ∧ T (A 8 1) = 0 ∧ ∀ c, c < nC D → f c = some (A 1 c)) ∧ ∃ f, w.2 (A 8 2) = some (q5 Γ 7 (nL D) f) ∧ T (A 8 2) = 0 ∧ ∀ k, k < nL D → f k = some (A 0 k)
def PT (Γ : ZG) (w : ZW) (T : LT) (m : Nat) (A : LA) (D : ZD) : Prop := ∃ f, w.2 (A 8 3) = some (i5 Γ 7 f) ∧ T (A 8 3) = m * 19 ∧ ∀ j, j < 7 → f j = D (9 + j)
def PC (Γ : ZG) (w : ZW) (T : LT) (m : Nat) (sg : ZSg) (A : LA) (D : ZD) (c : Nat) : Prop := w.2 (A 1 c) = some (.inr (10, tFs A D c)) ∧ T (A 1 c) = m * (11 + 5 * c) ∧ ∃ f, w.2 (A 4 c) = some (q5 Γ 7 ((sg c).2 - (sg c).1) f) ∧ T (A 4 c) = 0 ∧ ∀ i, i < (sg c).2 - (sg c).1 → f i = some (A 0 ((sg c).1 + i))
def PO (Γ : ZG) (w : ZW) (T : LT) (V : LA) (D : ZD) (k : Nat) : Prop := dL D k 6 ≠ -1 → ∃ f, w.2 (V 5 k) = some (i5 Γ 3 f) ∧ T (V 5 k) = 0 ∧ ∀ j, j < 3 → f j = dL D k (6 + j)
def PR' (Γ : ZG) (w : ZW) (T : LT) (V : LA) (D : ZD) (k s : Nat) : Prop := dL D k (9 + s) ≠ -1 → ∃ f, w.2 (V (6 + s) k) = some (i5 Γ 2 f) ∧ T (V (6 + s) k) = 0 ∧ f 0 = dL D k (11 + s) ∧ f 1 = dL D k (9 + s)
def PL (Γ : ZG) (w : ZW) (T : LT) (m : Nat) (A V : LA) (D : ZD) (k : Nat) : Prop := (w.2 (A 0 k) = some (.inr (7, lFs A V D k)) ∧ T (A 0 k) = m * (10 + 5 * k)) ∧ (w.2 (V 2 k) = some (q5 Γ 4 2 (rpF V D k)) ∧ T (V 2 k) = m * (12 + 5 * k)) ∧ PO Γ w T V D k ∧ ∀ s, s < 2 → PR' Γ w T V D k s
def PI (A : LA) (D : ZD) : Prop := (∀ k k', k < nL D → k' < nL D → A 0 k = A 0 k' → k = k') ∧ ∀ c c', c < nC D → c' < nC D → A 1 c = A 1 c' → c = c'
def LX (Γ : ZG) (w : ZW) (T : LT) (m : Nat) (sg : ZSg) (A V : LA) (tm : Option Nat) (e : Nat) (D : ZD) : Prop := PE w T m A tm e D ∧ PP Γ w T m A D ∧ PA Γ w T A D ∧ PT Γ w T m A D ∧ (∀ c, c < nC D → PC Γ w T m sg A D c) ∧ (∀ k, k < nL D → PL Γ w T m A V D k) ∧ PI A D
section
variable {Γ : ZG} {w w' : ZW} {T T' : LT} {m : Nat} {sg : ZSg} {A A' V V' : LA} {tm : Option Nat} {e : Nat} {D D' : ZD}
theorem LX.x (h : LX Γ w T m sg A V tm e D) : PE w T m A tm e D := h.1
theorem LX.p (h : LX Γ w T m sg A V tm e D) : PP Γ w T m A D := h.2.1
theorem LX.a (h : LX Γ w T m sg A V tm e D) : PA Γ w T A D := h.2.2.1
theorem LX.t (h : LX Γ w T m sg A V tm e D) : PT Γ w T m A D := h.2.2.2.1
theorem LX.c (h : LX Γ w T m sg A V tm e D) {c : Nat} (hc : c < nC D) : PC Γ w T m sg A D c := h.2.2.2.2.1 c hc
theorem LX.l (h : LX Γ w T m sg A V tm e D) {k : Nat} (hk : k < nL D) : PL Γ w T m A V D k := h.2.2.2.2.2.1 k hk
theorem LX.i (h : LX Γ w T m sg A V tm e D) : PI A D := h.2.2.2.2.2.2
theorem Kq.mono {P Q : Nat → Prop} (h : Kq w T w' T' P) (hq : ∀ t, Q t → P t) : Kq w T w' T' Q := fun q c h1 h2 => h q c h1 (hq _ h2)
theorem Kq.trans {w2 : ZW} {T2 : LT} {P : Nat → Prop} (h : Kq w T w' T' P) (h2 : Kq w' T' w2 T2 P) : Kq w T w2 T2 P := fun q c h3 h4 => by
  obtain ⟨a, b⟩ := h q c h3 h4
  obtain ⟨a2, b2⟩ := h2 q c a (by rw [b]; exact h4)
  exact ⟨a2, b2.trans b⟩
theorem Kq.rf {P : Nat → Prop} : Kq w T w T P := fun _ _ h _ => ⟨h, rfl⟩
theorem Kq.set {a t : Nat} {c : va_E} (ha : T a = t) : Kq w T (wset w a c) T (fun z => z ≠ t) := fun q c' h1 h2 => ⟨(if_neg (fun z => h2 (by rw [z]; exact ha))).trans h1, rfl⟩
theorem PE.go (h : PE w T m A tm e D) (hk : Kq w T w' T' (fun t => t = m * 14)) (hD : ∀ i, i < 4 → D' i = D i) (hA : ∀ j, A' 8 j = A 8 j) : PE w' T' m A' tm e D' := by
  obtain ⟨h1, h2⟩ := h
  obtain ⟨k1, k2⟩ := hk e _ h1 h2
  refine ⟨?_, k2.trans h2⟩
  rw [k1]
  unfold xFs
  rw [hD 0 (by decide), hD 1 (by decide), hD 2 (by decide), hD 3 (by decide), hA, hA, hA, hA]
theorem PP.go (h : PP Γ w T m A D) (hk : Kq w T w' T' (fun t => t = 0 ∨ ∃ p, t = m * (13 + 5 * p))) (hn : nP D' = nP D) (hD : ∀ p j, p < nP D → j < 3 → dP D' p j = dP D p j) (hA : A' 8 0 = A 8 0) (hA3 : ∀ p, A' 3 p = A 3 p) : PP Γ w' T' m A' D' := by
  obtain ⟨⟨f, f1, f2, f3⟩, h2⟩ := h
  obtain ⟨k1, k2⟩ := hk _ _ f1 (Or.inl f2)
  refine ⟨⟨f, by rw [hn, hA]; exact k1, by rw [hA]; exact k2.trans f2, fun p hp => by rw [hA3]; exact f3 p (by rw [← hn]; exact hp)⟩, fun p hp => ?_⟩
  rw [hn] at hp
  obtain ⟨g, g1, g2, g3⟩ := h2 p hp
  obtain ⟨k3, k4⟩ := hk _ _ g1 (Or.inr ⟨p, g2⟩)
  exact ⟨g, by rw [hA3]; exact k3, by rw [hA3]; exact k4.trans g2, fun j hj => by rw [hD p j hp hj]; exact g3 j hj⟩
theorem PA.go (h : PA Γ w T A D) (hk : Kq w T w' T' (fun t => t = 0)) (hn : nC D' = nC D) (hl : nL D' = nL D) (hA : ∀ j, A' 8 j = A 8 j) (h0 : ∀ k, A' 0 k = A 0 k) (h1 : ∀ k, A' 1 k = A 1 k) : PA Γ w' T' A' D' := by
  obtain ⟨⟨f, f1, f2, f3⟩, g, g1, g2, g3⟩ := h
  obtain ⟨k1, k2⟩ := hk _ _ f1 f2
  obtain ⟨k3, k4⟩ := hk _ _ g1 g2
  exact ⟨⟨f, by rw [hn, hA]; exact k1, by rw [hA]; exact k2.trans f2, fun c hc => by rw [h1]; exact f3 c (by rw [← hn]; exact hc)⟩, g, by rw [hl, hA]; exact k3, by rw [hA]; exact k4.trans g2, fun c hc => by rw [h0]; exact g3 c (by rw [← hl]; exact hc)⟩
theorem PT.go (h : PT Γ w T m A D) (hk : Kq w T w' T' (fun t => t = m * 19)) (hD : ∀ j, j < 7 → D' (9 + j) = D (9 + j)) (hA : A' 8 3 = A 8 3) : PT Γ w' T' m A' D' := by
  obtain ⟨f, f1, f2, f3⟩ := h
  obtain ⟨k1, k2⟩ := hk _ _ f1 f2
  exact ⟨f, by rw [hA]; exact k1, by rw [hA]; exact k2.trans f2, fun j hj => by rw [hD j hj]; exact f3 j hj⟩
theorem lgO_c {v : Int32} (h0 : ∀ k, A' 0 k = A 0 k) : lgO A' v = lgO A v := by unfold lgO; rw [h0]
theorem PC.go {c : Nat} (h : PC Γ w T m sg A D c) (hk : Kq w T w' T' (fun t => t = 0 ∨ t = m * (11 + 5 * c))) (hD : ∀ j, j < 5 → dC D' c j = dC D c j) (h0 : ∀ k, A' 0 k = A 0 k) (h1 : A' 1 c = A 1 c) (h4 : A' 4 c = A 4 c) : PC Γ w' T' m sg A' D' c := by
  obtain ⟨a1, a2, f, f1, f2, f3⟩ := h
  obtain ⟨k1, k2⟩ := hk _ _ a1 (Or.inr a2)
  obtain ⟨k3, k4⟩ := hk _ _ f1 (Or.inl f2)
  refine ⟨?_, by rw [h1]; exact k2.trans a2, f, by rw [h4]; exact k3, by rw [h4]; exact k4.trans f2, fun i hi => by rw [h0]; exact f3 i hi⟩
  rw [h1, k1]
  unfold tFs
  rw [hD 0 (by decide), hD 1 (by decide), hD 2 (by decide), hD 3 (by decide), hD 4 (by decide), lgO_c h0, lgO_c h0, h4]
theorem ofO_c {k : Nat} (hD : dL D' k 6 = dL D k 6) (hA : V' 5 k = V 5 k) : ofO V' D' k = ofO V D k := by unfold ofO; rw [hD, hA]
theorem rpF_c {k : Nat} (hD : ∀ s, s < 2 → dL D' k (9 + s) = dL D k (9 + s)) (hA : ∀ s, s < 2 → V' (6 + s) k = V (6 + s) k) : rpF V' D' k = rpF V D k := by
  funext s
  unfold rpF rpO
  by_cases h : s < 2
  · rw [if_pos h, if_pos h, hD s h, hA s h]
  · rw [if_neg h, if_neg h]
theorem lFs_c {k : Nat} (hD : ∀ j, j < 13 → dL D' k j = dL D k j) (hA : V' 2 k = V 2 k ∧ V' 5 k = V 5 k) (h1 : ∀ c, A' 1 c = A 1 c) : lFs A' V' D' k = lFs A V D k := by
  unfold lFs ofN
  rw [hD 0 (by decide), hD 1 (by decide), hD 2 (by decide), hD 3 (by decide), hD 4 (by decide), hD 5 (by decide), ofO_c (hD 6 (by decide)) hA.2, hA.1, h1]
theorem PO.go {k : Nat} (h : PO Γ w T V D k) (hk : Kq w T w' T' (fun t => t = 0)) (hD : ∀ j, j < 3 → dL D' k (6 + j) = dL D k (6 + j)) (hA : V' 5 k = V 5 k) : PO Γ w' T' V' D' k := by
  intro h6
  obtain ⟨f, f1, f2, f3⟩ := h (by rw [← hD 0 (by decide)]; exact h6)
  obtain ⟨k1, k2⟩ := hk _ _ f1 f2
  exact ⟨f, by rw [hA]; exact k1, by rw [hA]; exact k2.trans f2, fun j hj => by rw [hD j hj]; exact f3 j hj⟩
theorem PR'.go {k s : Nat} (h : PR' Γ w T V D k s) (hk : Kq w T w' T' (fun t => t = 0)) (hD : dL D' k (9 + s) = dL D k (9 + s) ∧ dL D' k (11 + s) = dL D k (11 + s)) (hA : V' (6 + s) k = V (6 + s) k) : PR' Γ w' T' V' D' k s := by
  intro h6
  obtain ⟨f, f1, f2, f3, f4⟩ := h (by rw [← hD.1]; exact h6)
  obtain ⟨k1, k2⟩ := hk _ _ f1 f2
  exact ⟨f, by rw [hA]; exact k1, by rw [hA]; exact k2.trans f2, f3.trans hD.2.symm, f4.trans hD.1.symm⟩
theorem PL.go {k : Nat} (h : PL Γ w T m A V D k) (hk : Kq w T w' T' (fun t => t = 0 ∨ t = m * (10 + 5 * k) ∨ t = m * (12 + 5 * k))) (hD : ∀ j, j < 13 → dL D' k j = dL D k j) (h0 : A' 0 k = A 0 k) (h1 : ∀ c, A' 1 c = A 1 c) (h2 : V' 2 k = V 2 k) (h5 : V' 5 k = V 5 k) (h6 : ∀ s, s < 2 → V' (6 + s) k = V (6 + s) k) : PL Γ w' T' m A' V' D' k := by
  obtain ⟨⟨a1, a2⟩, ⟨b1, b2⟩, hO, hR⟩ := h
  obtain ⟨k1, k2⟩ := hk _ _ a1 (Or.inr (Or.inl a2))
  obtain ⟨k3, k4⟩ := hk _ _ b1 (Or.inr (Or.inr b2))
  have hk0 : Kq w T w' T' (fun t => t = 0) := hk.mono (fun t h => Or.inl h)
  refine ⟨⟨by rw [h0, k1, lFs_c hD ⟨h2, h5⟩ h1], by rw [h0]; exact k2.trans a2⟩, ⟨by rw [h2, k3, rpF_c (fun s hs => hD _ (by omega)) h6], by rw [h2]; exact k4.trans b2⟩, hO.go hk0 (fun j hj => hD _ (by omega)) h5, fun s hs => (hR s hs).go hk0 ⟨hD _ (by omega), hD _ (by omega)⟩ (h6 s hs)⟩
theorem PI.go (h : PI A D) (hn : nC D' = nC D) (hl : nL D' = nL D) (h0 : ∀ k, A' 0 k = A 0 k) (h1 : ∀ k, A' 1 k = A 1 k) : PI A' D' := by
  refine ⟨fun k k' hk hk' hh => h.1 k k' (by rw [← hl]; exact hk) (by rw [← hl]; exact hk') (by rw [← h0, ← h0]; exact hh), fun c c' hc hc' hh => h.2 c c' (by rw [← hn]; exact hc) (by rw [← hn]; exact hc') (by rw [← h1, ← h1]; exact hh)⟩
/-- nothing of it changed -/
theorem LX.fr (h : LX Γ w T m sg A V tm e D) (hk : Kq w T w' T' (fun t => t = 0 ∨ (m ≠ 0 ∧ 10 ≤ t))) : LX Γ w' T' m sg A V tm e D := by
  have hp : ∀ t, t = 0 ∨ (m ≠ 0 ∧ 10 ≤ t) → t = 0 ∨ (m ≠ 0 ∧ 10 ≤ t) := fun _ h => h
  have k0 : ∀ {z : Nat}, 10 ≤ z → (m * z = 0 ∨ (m ≠ 0 ∧ 10 ≤ m * z)) := by
    intro z hz
    rcases Nat.eq_zero_or_pos m with h0 | h0
    · left; rw [h0]; exact Nat.zero_mul _
    · right; exact ⟨by omega, Nat.le_trans hz (Nat.le_mul_of_pos_left z h0)⟩
  refine ⟨h.x.go (hk.mono fun t ht => by rw [ht]; exact k0 (by decide)) (fun _ _ => rfl) (fun _ => rfl), h.p.go (hk.mono fun t ht => ?_) rfl (fun _ _ _ _ => rfl) rfl (fun _ => rfl), h.a.go (hk.mono fun t ht => Or.inl ht) rfl rfl (fun _ => rfl) (fun _ => rfl) (fun _ => rfl), h.t.go (hk.mono fun t ht => by rw [ht]; exact k0 (by decide)) (fun _ _ => rfl) rfl, fun c hc => (h.c hc).go (hk.mono fun t ht => ?_) (fun _ _ => rfl) (fun _ => rfl) rfl rfl, fun k hk9 => (h.l hk9).go (hk.mono fun t ht => ?_) (fun _ _ => rfl) rfl (fun _ => rfl) rfl rfl (fun _ _ => rfl), h.i⟩
  · rcases ht with ht | ⟨p, ht⟩
    · exact Or.inl ht
    · rw [ht]; exact k0 (by omega)
  · rcases ht with ht | ht
    · exact Or.inl ht
    · rw [ht]; exact k0 (by omega)
  · rcases ht with ht | ht | ht
    · exact Or.inl ht
    · rw [ht]; exact k0 (by omega)
    · rw [ht]; exact k0 (by omega)
theorem LX.leg {k : Nat} (h : LX Γ w T 1 sg A V tm e D) (hI : Ix D) (hk : k < nL D) (hD : ∀ i, (i < 148 + 13 * k ∨ 159 + 13 * k ≤ i) → D' i = D i) (hA : ∀ i j, j ≠ k → V' i j = V i j) (hq : Kq w T w' T' (fun t => t ≠ 10 + 5 * k ∧ t ≠ 12 + 5 * k ∧ t ≠ 5)) (hL : PL Γ w' T' 1 A V' D' k) : LX Γ w' T' 1 sg A V' tm e D' := by
  have n4 : nP D' = nP D := by unfold nP; rw [hD 4 (by omega)]
  have n5 : nC D' = nC D := by unfold nC; rw [hD 5 (by omega)]
  have n6 : nL D' = nL D := by unfold nL; rw [hD 6 (by omega)]
  have i4 := hI.1.2
  have i5 := hI.2.1.2
  refine ⟨h.x.go (hq.mono fun t ht => by omega) (fun i hi => hD i (by omega)) (fun _ => rfl), h.p.go (hq.mono fun t ht => ?_) n4 (fun p j hp hj => hD _ (by omega)) rfl (fun p => rfl), h.a.go (hq.mono fun t ht => by omega) n5 n6 (fun _ => rfl) (fun _ => rfl) (fun _ => rfl), h.t.go (hq.mono fun t ht => by omega) (fun j hj => hD _ (by omega)) rfl, fun c hc => ?_, fun k' hk' => ?_, h.i.go n5 n6 (fun _ => rfl) (fun _ => rfl)⟩
  · rcases ht with ht | ⟨p, ht⟩ <;> omega
  · rw [n5] at hc
    exact (h.c hc).go (hq.mono fun t ht => by omega) (fun j hj => hD _ (by omega)) (fun _ => rfl) rfl rfl
  · rw [n6] at hk'
    by_cases hkk : k' = k
    · rw [hkk]; exact hL
    · exact (h.l hk').go (hq.mono fun t ht => by omega) (fun j hj => hD _ (by omega)) rfl (fun _ => rfl) (hA 2 k' hkk) (hA 5 k' hkk) (fun s hs => hA _ k' hkk)
/-- a change of few numbers, at one tag that is no leg's -/
theorem LX.one {t : Nat} (h : LX Γ w T 1 sg A V tm e D) (hq : Kq w T w' T' (fun z => z ≠ t)) (hn : D' 4 = D 4 ∧ D' 5 = D 5 ∧ D' 6 = D 6) (ht : t % 5 ≠ 0 ∧ t % 5 ≠ 2 ∧ t ≠ 0) (hL : ∀ k j, j < 13 → dL D' k j = dL D k j)
    (hE : t ≠ 14 → ∀ i, i < 4 → D' i = D i) (hE2 : t = 14 → PE w' T' 1 A tm e D') (hP : PP Γ w' T' 1 A D') (hT : t ≠ 19 → ∀ j, j < 7 → D' (9 + j) = D (9 + j)) (hT2 : t = 19 → PT Γ w' T' 1 A D') (hC : ∀ c, c < nC D → (t ≠ 11 + 5 * c ∧ ∀ j, j < 5 → dC D' c j = dC D c j) ∨ PC Γ w' T' 1 sg A D' c) : LX Γ w' T' 1 sg A V tm e D' := by
  have n5 : nC D' = nC D := by unfold nC; rw [hn.2.1]
  have n6 : nL D' = nL D := by unfold nL; rw [hn.2.2]
  refine ⟨?_, hP, h.a.go (hq.mono fun z hz => by omega) n5 n6 (fun _ => rfl) (fun _ => rfl) (fun _ => rfl), ?_, fun c hc => ?_, fun k hk => ?_, h.i.go n5 n6 (fun _ => rfl) (fun _ => rfl)⟩
  · by_cases h14 : t = 14
    · exact hE2 h14
    · exact h.x.go (hq.mono fun z hz => by omega) (hE h14) (fun _ => rfl)
  · by_cases h19 : t = 19
    · exact hT2 h19
    · exact h.t.go (hq.mono fun z hz => by omega) (hT h19) rfl
  · rw [n5] at hc
    rcases hC c hc with ⟨a, b⟩ | a
    · exact (h.c hc).go (hq.mono fun z hz => by omega) b (fun _ => rfl) rfl rfl
    · exact a
  · rw [n6] at hk
    exact (h.l hk).go (hq.mono fun z hz => by omega) (hL k) rfl (fun _ => rfl) rfl rfl (fun _ _ => rfl)
theorem LX.talk {c : Nat} {v : Int32} (h : LX Γ w T 1 sg A V tm e D) (hI : Ix D) (hc : c < nC D) : LX Γ (wset w (A 1 c) (.inr (10, tFs A (setC D c 4 v) c))) T 1 sg A V tm e (setC D c 4 v) := by
  have i5 := hI.2.1.2
  have i4 := hI.1.2
  obtain ⟨a1, a2, f, f1, f2, f3⟩ := h.c hc
  have hk := Kq.set (w := w) (c := .inr (10, tFs A (setC D c 4 v) c)) a2
  have ho : ∀ i, i ≠ 46 + 5 * c + 4 → setC D c 4 v i = D i := fun i hi => if_neg hi
  refine h.one hk ⟨ho _ (by omega), ho _ (by omega), ho _ (by omega)⟩ ⟨by omega, by omega, by omega⟩ (fun k j hj => ho _ (by omega)) (fun _ i hi => ho _ (by omega)) (fun z => by omega) (h.p.go (hk.mono fun t ht => ?_) (by unfold nP; rw [ho _ (by omega)]) (fun p j hp hj => ho _ (by omega)) rfl (fun _ => rfl)) (fun _ j hj => ho _ (by omega)) (fun z => by omega) (fun c' hc' => ?_)
  · rcases ht with ht | ⟨p, ht⟩ <;> omega
  · by_cases hcc : c' = c
    · right
      rw [hcc]
      obtain ⟨k1, k2⟩ := hk _ _ f1 (by rw [f2]; omega)
      exact ⟨if_pos rfl, a2, f, k1, f2, f3⟩
    · exact Or.inl ⟨by omega, fun j hj => ho _ (by omega)⟩
theorem LX.tot {t : Nat} {v : Int32} {f : Nat → Int32} (h : LX Γ w T 1 sg A V tm e D) (hI : Ix D) (ht : t < 7) (hf : w.2 (A 8 3) = some (i5 Γ 7 f)) : LX Γ (wset w (A 8 3) (i5 Γ 7 (upd f t v))) T 1 sg A V tm e (upd D (9 + t) v) := by
  have i5' := hI.2.1.2
  have i4 := hI.1.2
  obtain ⟨g, f1, f2, f3⟩ := h.t
  have hfg : f = g := by rw [hf] at f1; cases f1; rfl
  subst hfg
  have hk := Kq.set (w := w) (c := i5 Γ 7 (upd f t v)) f2
  have ho : ∀ i, i ≠ 9 + t → upd D (9 + t) v i = D i := fun i hi => if_neg hi
  refine h.one hk ⟨ho _ (by omega), ho _ (by omega), ho _ (by omega)⟩ ⟨by decide, by decide, by decide⟩ (fun k j hj => ho _ (by omega)) (fun _ i hi => ho _ (by omega)) (fun z => by omega) (h.p.go (hk.mono fun t ht => ?_) (by unfold nP; rw [ho _ (by omega)]) (fun p j hp hj => ho _ (by omega)) rfl (fun _ => rfl)) (fun z => absurd rfl z) (fun _ => ?_) (fun c' hc' => Or.inl ⟨by omega, fun j hj => ho _ (by omega)⟩)
  · rcases ht with ht | ⟨p, ht⟩ <;> omega
  · refine ⟨_, if_pos rfl, f2, fun j hj => ?_⟩
    show (if j = t then v else f j) = if 9 + j = 9 + t then v else D (9 + j)
    by_cases hjt : j = t
    · rw [if_pos hjt, if_pos (by omega)]
    · rw [if_neg hjt, if_neg (by omega), f3 j hj]
theorem LX.time {v : Int32} (h : LX Γ w T 1 sg A V tm e D) (hI : Ix D) : LX Γ (wset w e (.inr (6, xFs A tm (upd D 0 v)))) T 1 sg A V tm e (upd D 0 v) := by
  have i5' := hI.2.1.2
  have i4 := hI.1.2
  obtain ⟨a1, a2⟩ := h.x
  have hk := Kq.set (w := w) (c := .inr (6, xFs A tm (upd D 0 v))) a2
  have ho : ∀ i, i ≠ 0 → upd D 0 v i = D i := fun i hi => if_neg hi
  refine h.one hk ⟨ho _ (by omega), ho _ (by omega), ho _ (by omega)⟩ ⟨by decide, by decide, by decide⟩ (fun k j hj => ho _ (by omega)) (fun z => absurd rfl z) (fun z => ⟨if_pos rfl, a2⟩) (h.p.go (hk.mono fun t ht => ?_) (by unfold nP; rw [ho _ (by omega)]) (fun p j hp hj => ho _ (by omega)) rfl (fun _ => rfl)) (fun _ j hj => ho _ (by omega)) (fun z => by omega) (fun c' hc' => Or.inl ⟨by omega, fun j hj => ho _ (by omega)⟩)
  rcases ht with ht | ⟨p, ht⟩ <;> omega
theorem LX.par {p j : Nat} {v : Int32} {f : Nat → Int32} (h : LX Γ w T 1 sg A V tm e D) (hI : Ix D) (hp : p < nP D) (hj : j < 3) (hf : w.2 (A 3 p) = some (i5 Γ 3 f)) : LX Γ (wset w (A 3 p) (i5 Γ 3 (upd f j v))) T 1 sg A V tm e (upd D (16 + 3 * p + j) v) := by
  have i5' := hI.2.1.2
  have i4 := hI.1.2
  obtain ⟨⟨g, g1, g2, g3⟩, h2⟩ := h.p
  obtain ⟨f', f1, f2, f3⟩ := h2 p hp
  have hfg : f = f' := by rw [hf] at f1; cases f1; rfl
  subst hfg
  have hk := Kq.set (w := w) (c := i5 Γ 3 (upd f j v)) f2
  have ho : ∀ i, i ≠ 16 + 3 * p + j → upd D (16 + 3 * p + j) v i = D i := fun i hi => if_neg hi
  have n4 : nP (upd D (16 + 3 * p + j) v) = nP D := by unfold nP; rw [ho _ (by omega)]
  refine h.one hk ⟨ho _ (by omega), ho _ (by omega), ho _ (by omega)⟩ ⟨by omega, by omega, by omega⟩ (fun k j hj => ho _ (by omega)) (fun _ i hi => ho _ (by omega)) (fun z => by omega) ⟨?_, fun p' hp' => ?_⟩ (fun _ j hj => ho _ (by omega)) (fun z => by omega) (fun c' hc' => Or.inl ⟨by omega, fun j hj => ho _ (by omega)⟩)
  · obtain ⟨k1, k2⟩ := hk _ _ g1 (by rw [g2]; omega)
    exact ⟨g, by rw [n4]; exact k1, g2, fun q hq => g3 q (by rw [← n4]; exact hq)⟩
  · rw [n4] at hp'
    by_cases hpp : p' = p
    · rw [hpp]
      refine ⟨_, if_pos rfl, f2, fun i hi => ?_⟩
      show (if i = j then v else f i) = if 16 + 3 * p + i = 16 + 3 * p + j then v else D (16 + 3 * p + i)
      by_cases hij : i = j
      · rw [if_pos hij, if_pos (by omega)]
      · rw [if_neg hij, if_neg (by omega), f3 i hi]
        rfl
    · obtain ⟨f', b1, b2, b3⟩ := h2 p' hp'
      obtain ⟨k1, k2⟩ := hk _ _ b1 (by rw [b2]; omega)
      exact ⟨f', k1, b2, fun i hi => (b3 i hi).trans (ho _ (by omega)).symm⟩
end
/-- what is known of a world: its addresses lie in the heap -/
def WF (w : ZW) : Prop := ∀ a c, w.2 a = some c → a < w.1
section
variable {l : Launch} {Γ : ZG} {M M' : ZM} {dp mc ms : Nat} {Φ : Option Value → ZW → Prop} {Ψ : String → ZW → Prop} {k n : Nat} {w : ZW} {pc : Nat} {L : ZL} {st : List Value}
variable {T : LT} {m : Nat} {sg : ZSg} {A V : LA} {tm : Option Nat} {e : Nat} {D : ZD}
theorem go_wf (kk : WF w → Go l Γ M dp mc ms Φ Ψ k n w pc L st) : Go l Γ M dp mc ms Φ Ψ k n w pc L st :=
  fun p e s m args below meth c C H locs ls hl hH hS => kk (fun a c ha => by rw [← hH.1]; exact (hH.2.2 a c ha).2.lt) p e s m args below meth c C H locs ls hl hH hS
theorem gl_x {index j : Nat} {v : Value} (h : LX Γ w T m sg A V tm e D) (pc' : Nat) (hd : decode M.2.1 pc = .ok (.getfield index, 3)) (F : zF M.1.cls index 6 j) (hv : (xFs A tm D)[j]? = some v) (kk : Go l Γ M dp mc ms Φ Ψ k n w pc' L (v :: st)) (hp : pc + 3 = pc' := by rfl) : Go l Γ M dp mc ms Φ Ψ k n w pc L (.ref e :: st) := go_get pc' hd F h.x.1 hv kk hp
theorem gl_l {index j K : Nat} {v : Value} (h : LX Γ w T m sg A V tm e D) (hk : K < nL D) (pc' : Nat) (hd : decode M.2.1 pc = .ok (.getfield index, 3)) (F : zF M.1.cls index 7 j) (hv : (lFs A V D K)[j]? = some v) (kk : Go l Γ M dp mc ms Φ Ψ k n w pc' L (v :: st)) (hp : pc + 3 = pc' := by rfl) : Go l Γ M dp mc ms Φ Ψ k n w pc L (.ref (A 0 K) :: st) := go_get pc' hd F (h.l hk).1.1 hv kk hp
theorem gl_t {index j K : Nat} {v : Value} (h : LX Γ w T m sg A V tm e D) (hk : K < nC D) (pc' : Nat) (hd : decode M.2.1 pc = .ok (.getfield index, 3)) (F : zF M.1.cls index 10 j) (hv : (tFs A D K)[j]? = some v) (kk : Go l Γ M dp mc ms Φ Ψ k n w pc' L (v :: st)) (hp : pc + 3 = pc' := by rfl) : Go l Γ M dp mc ms Φ Ψ k n w pc L (.ref (A 1 K) :: st) := go_get pc' hd F (h.c hk).1 hv kk hp
theorem gl_la {i : Int32} {K : Nat} (h : LX Γ w T m sg A V tm e D) (hI : Ix D) (hi : i = nI K) (hk : K < nL D) (pc' : Nat) (hd : decode M.2.1 pc = .ok (.aaload, 1)) (kk : Go l Γ M dp mc ms Φ Ψ k n w pc' L (.ref (A 0 K) :: st)) (hp : pc + 1 = pc' := by rfl) : Go l Γ M dp mc ms Φ Ψ k n w pc L (.int i :: .ref (A 8 2) :: st) := by
  obtain ⟨f, f1, f2, f3⟩ := h.a.2
  have := hI.2.2.1.2
  refine go_aald7 pc' hd f1 (by rw [hi]; exact vp_in_nI hk (by omega)) ?_ hp
  rw [hi, nI_clamp (by omega), f3 K hk]
  exact kk
theorem gl_ca {i : Int32} {K : Nat} (h : LX Γ w T m sg A V tm e D) (hI : Ix D) (hi : i = nI K) (hk : K < nC D) (pc' : Nat) (hd : decode M.2.1 pc = .ok (.aaload, 1)) (kk : Go l Γ M dp mc ms Φ Ψ k n w pc' L (.ref (A 1 K) :: st)) (hp : pc + 1 = pc' := by rfl) : Go l Γ M dp mc ms Φ Ψ k n w pc L (.int i :: .ref (A 8 1) :: st) := by
  obtain ⟨f, f1, f2, f3⟩ := h.a.1
  have := hI.2.1.2
  refine go_aald8 pc' hd f1 (by rw [hi]; exact vp_in_nI hk (by omega)) ?_ hp
  rw [hi, nI_clamp (by omega), f3 K hk]
  exact kk
theorem gl_pa {i : Int32} {K : Nat} (h : LX Γ w T m sg A V tm e D) (hI : Ix D) (hi : i = nI K) (hk : K < nP D) (pc' : Nat) (hd : decode M.2.1 pc = .ok (.aaload, 1)) (kk : Go l Γ M dp mc ms Φ Ψ k n w pc' L (.ref (A 3 K) :: st)) (hp : pc + 1 = pc' := by rfl) : Go l Γ M dp mc ms Φ Ψ k n w pc L (.int i :: .ref (A 8 0) :: st) := by
  obtain ⟨f, f1, f2, f3⟩ := h.p.1
  have := hI.1.2
  refine go_aaldA pc' hd f1 (by rw [hi]; exact vp_in_nI hk (by omega)) ?_ hp
  rw [hi, nI_clamp (by omega), f3 K hk]
  exact kk
theorem gl_pi {i : Int32} {K j : Nat} (h : LX Γ w T m sg A V tm e D) (hk : K < nP D) (hi : i = nI j) (hj : j < 3) (pc' : Nat) (hd : decode M.2.1 pc = .ok (.iaload, 1)) (kk : Go l Γ M dp mc ms Φ Ψ k n w pc' L (.int (dP D K j) :: st)) (hp : pc + 1 = pc' := by rfl) : Go l Γ M dp mc ms Φ Ψ k n w pc L (.int i :: .ref (A 3 K) :: st) := by
  obtain ⟨f, f1, f2, f3⟩ := h.p.2 K hk
  refine go_iald pc' hd f1 (by rw [hi]; exact vp_in_nI hj (by decide)) ?_ hp
  rw [hi, nI_clamp (by omega), f3 j hj]
  exact kk
theorem gl_ti {i : Int32} {j : Nat} (h : LX Γ w T m sg A V tm e D) (hi : i = nI j) (hj : j < 7) (pc' : Nat) (hd : decode M.2.1 pc = .ok (.iaload, 1)) (kk : Go l Γ M dp mc ms Φ Ψ k n w pc' L (.int (D (9 + j)) :: st)) (hp : pc + 1 = pc' := by rfl) : Go l Γ M dp mc ms Φ Ψ k n w pc L (.int i :: .ref (A 8 3) :: st) := by
  obtain ⟨f, f1, f2, f3⟩ := h.t
  refine go_iald pc' hd f1 (by rw [hi]; exact vp_in_nI hj (by decide)) ?_ hp
  rw [hi, nI_clamp (by omega), f3 j hj]
  exact kk
theorem gl_tl {i : Int32} {c j : Nat} (h : LX Γ w T m sg A V tm e D) (hc : c < nC D) (hi : i = nI j) (hj : j < (sg c).2 - (sg c).1) (hs : (sg c).2 ≤ 40) (pc' : Nat) (hd : decode M.2.1 pc = .ok (.aaload, 1)) (kk : Go l Γ M dp mc ms Φ Ψ k n w pc' L (.ref (A 0 ((sg c).1 + j)) :: st)) (hp : pc + 1 = pc' := by rfl) : Go l Γ M dp mc ms Φ Ψ k n w pc L (.int i :: .ref (A 4 c) :: st) := by
  obtain ⟨-, -, f, f1, f2, f3⟩ := h.c hc
  refine go_aald7 pc' hd f1 (by rw [hi]; exact vp_in_nI hj (by omega)) ?_ hp
  rw [hi, nI_clamp (by omega), f3 j hj]
  exact kk
theorem gl_rp {i : Int32} {K s : Nat} (h : LX Γ w T m sg A V tm e D) (hk : K < nL D) (hi : i = nI s) (hs : s < 2) (pc' : Nat) (hd : decode M.2.1 pc = .ok (.aaload, 1)) (kk : Go l Γ M dp mc ms Φ Ψ k n w pc' L (va_rf (rpO V D K s) :: st)) (hp : pc + 1 = pc' := by rfl) : Go l Γ M dp mc ms Φ Ψ k n w pc L (.int i :: .ref (V 2 K) :: st) := by
  refine go_aaldA pc' hd (h.l hk).2.1.1 (by rw [hi]; exact vp_in_nI hs (by decide)) ?_ hp
  rw [hi, nI_clamp (by omega)]
  unfold rpF
  rw [if_pos hs]
  exact kk
theorem gl_oi {i : Int32} {K j : Nat} (h : LX Γ w T m sg A V tm e D) (hk : K < nL D) (h6 : dL D K 6 ≠ -1) (hi : i = nI j) (hj : j < 3) (pc' : Nat) (hd : decode M.2.1 pc = .ok (.iaload, 1)) (kk : Go l Γ M dp mc ms Φ Ψ k n w pc' L (.int (dL D K (6 + j)) :: st)) (hp : pc + 1 = pc' := by rfl) : Go l Γ M dp mc ms Φ Ψ k n w pc L (.int i :: .ref (V 5 K) :: st) := by
  obtain ⟨f, f1, f2, f3⟩ := (h.l hk).2.2.1 h6
  refine go_iald pc' hd f1 (by rw [hi]; exact vp_in_nI hj (by decide)) ?_ hp
  rw [hi, nI_clamp (by omega), f3 j hj]
  exact kk
theorem gl_ri {i : Int32} {K s j : Nat} (h : LX Γ w T m sg A V tm e D) (hk : K < nL D) (hs : s < 2) (h9 : dL D K (9 + s) ≠ -1) (hi : i = nI j) (hj : j < 2) (pc' : Nat) (hd : decode M.2.1 pc = .ok (.iaload, 1)) (kk : Go l Γ M dp mc ms Φ Ψ k n w pc' L (.int (dL D K (if j = 0 then 11 + s else 9 + s)) :: st)) (hp : pc + 1 = pc' := by rfl) : Go l Γ M dp mc ms Φ Ψ k n w pc L (.int i :: .ref (V (6 + s) K) :: st) := by
  obtain ⟨f, f1, f2, f3, f4⟩ := (h.l hk).2.2.2 s hs h9
  refine go_iald pc' hd f1 (by rw [hi]; exact vp_in_nI hj (by decide)) ?_ hp
  rw [hi, nI_clamp (by omega)]
  have e9 : f j = dL D K (if j = 0 then 11 + s else 9 + s) := by
    rcases (show j = 0 ∨ j = 1 by omega) with rfl | rfl
    · exact f3
    · exact f4
  rw [e9]
  exact kk
theorem gl_nL (h : LX Γ w T m sg A V tm e D) (pc' : Nat) (hd : decode M.2.1 pc = .ok (.arraylength, 1)) (kk : Go l Γ M dp mc ms Φ Ψ k n w pc' L (.int (nI (nL D)) :: st)) (hp : pc + 1 = pc' := by rfl) : Go l Γ M dp mc ms Φ Ψ k n w pc L (.ref (A 8 2) :: st) := by
  obtain ⟨f, f1, -⟩ := h.a.2
  exact go_alen (t0 := 7) pc' hd f1 rfl rfl kk hp
theorem gl_nC (h : LX Γ w T m sg A V tm e D) (pc' : Nat) (hd : decode M.2.1 pc = .ok (.arraylength, 1)) (kk : Go l Γ M dp mc ms Φ Ψ k n w pc' L (.int (nI (nC D)) :: st)) (hp : pc + 1 = pc' := by rfl) : Go l Γ M dp mc ms Φ Ψ k n w pc L (.ref (A 8 1) :: st) := by
  obtain ⟨f, f1, -⟩ := h.a.1
  exact go_alen (t0 := 8) pc' hd f1 rfl rfl kk hp
theorem gl_nP (h : LX Γ w T m sg A V tm e D) (pc' : Nat) (hd : decode M.2.1 pc = .ok (.arraylength, 1)) (kk : Go l Γ M dp mc ms Φ Ψ k n w pc' L (.int (nI (nP D)) :: st)) (hp : pc + 1 = pc' := by rfl) : Go l Γ M dp mc ms Φ Ψ k n w pc L (.ref (A 8 0) :: st) := by
  obtain ⟨f, f1, -⟩ := h.p.1
  exact go_alen (t0 := 4) pc' hd f1 rfl rfl kk hp
theorem gl_nT (h : LX Γ w T m sg A V tm e D) (pc' : Nat) (hd : decode M.2.1 pc = .ok (.arraylength, 1)) (kk : Go l Γ M dp mc ms Φ Ψ k n w pc' L (.int (nI 7) :: st)) (hp : pc + 1 = pc' := by rfl) : Go l Γ M dp mc ms Φ Ψ k n w pc L (.ref (A 8 3) :: st) := by
  obtain ⟨f, f1, -⟩ := h.t
  exact go_alen (t0 := 0) pc' hd f1 rfl rfl kk hp
theorem gl_nS {c : Nat} (h : LX Γ w T m sg A V tm e D) (hc : c < nC D) (pc' : Nat) (hd : decode M.2.1 pc = .ok (.arraylength, 1)) (kk : Go l Γ M dp mc ms Φ Ψ k n w pc' L (.int (nI ((sg c).2 - (sg c).1)) :: st)) (hp : pc + 1 = pc' := by rfl) : Go l Γ M dp mc ms Φ Ψ k n w pc L (.ref (A 4 c) :: st) := by
  obtain ⟨-, -, f, f1, -⟩ := h.c hc
  exact go_alen (t0 := 7) pc' hd f1 rfl rfl kk hp
end
end LXs
