section LMut
/-! the law's own exchange: what changes it -/
/-- of an earlier world all is kept but the cells of this exchange -/
def FR (w0 : ZW) (T0 : LT) (w : ZW) (T : LT) : Prop := w0.1 ≤ w.1 ∧ (∀ q, q < w0.1 → T q = T0 q) ∧ ∀ q, q < w0.1 → T0 q < 10 → w.2 q = w0.2 q
def tset (T : LT) (a t : Nat) : LT := fun q => if q = a then t else T q
def aset (V : LA) (i k v : Nat) : LA := fun i' k' => if i' = i ∧ k' = k then v else V i' k'
section
variable {Γ : ZG} {w0 w w1 w2 : ZW} {T0 T T1 T2 : LT} {m : Nat} {sg : ZSg} {A V : LA} {tm : Option Nat} {e : Nat} {D : ZD} {a t : Nat} {c : va_E}
theorem FR.rf : FR w T w T := ⟨Nat.le_refl _, fun _ _ => rfl, fun _ _ _ => rfl⟩
theorem FR.trans (f : FR w0 T0 w1 T1) (f2 : FR w1 T1 w2 T2) : FR w0 T0 w2 T2 :=
  ⟨Nat.le_trans f.1 f2.1, fun q hq => (f2.2.1 q (Nat.lt_of_lt_of_le hq f.1)).trans (f.2.1 q hq), fun q hq ht => (f2.2.2 q (Nat.lt_of_lt_of_le hq f.1) (by rw [f.2.1 q hq]; exact ht)).trans (f.2.2 q hq ht)⟩
theorem FR.own (f : FR w0 T0 w T) (ha : T a = t) (ht : 10 ≤ t) : FR w0 T0 (wset w a c) T := ⟨f.1, f.2.1, fun q hq h => (if_neg (fun z => by
  have := f.2.1 q hq
  rw [z, ha] at this
  rw [z] at h
  omega)).trans (f.2.2 q hq h)⟩
theorem FR.new (f : FR w0 T0 w T) (ha : w0.1 ≤ a) : FR w0 T0 (wset w a c) T := ⟨f.1, f.2.1, fun q hq h => (if_neg (by omega)).trans (f.2.2 q hq h)⟩
theorem FR.tag (f : FR w0 T0 w T) (ha : w0.1 ≤ a) : FR w0 T0 w (tset T a t) := ⟨f.1, fun q hq => (if_neg (by omega)).trans (f.2.1 q hq), f.2.2⟩
theorem FR.alloc (f : FR w0 T0 w T) : FR w0 T0 (wnew w c) (tset T w.1 t) := by
  have h1 := f.1
  exact ⟨Nat.le_succ_of_le f.1, fun q hq => (if_neg (by omega)).trans (f.2.1 q hq), fun q hq h => (if_neg (by omega)).trans (f.2.2 q hq h)⟩
theorem LX.alloc (h : LX Γ w T m sg A V tm e D) (hw : WF w) : LX Γ (wnew w c) (tset T w.1 t) m sg A V tm e D := h.fr (fun q c h1 _ => by
  have := hw q c h1
  exact ⟨(if_neg (by omega)).trans h1, if_neg (by omega)⟩)
theorem LX.flux (h : LX Γ w T m sg A V tm e D) (ha : T a = 5) : LX Γ (wset w a c) T m sg A V tm e D := h.fr ((Kq.set ha).mono (fun t ht => by omega))
theorem LX.retag (h : LX Γ w T m sg A V tm e D) (ha : T a = 5) : LX Γ w (tset T a t) m sg A V tm e D := h.fr (fun q c h1 ht => ⟨h1, if_neg (fun z => by rw [z, ha] at ht; omega)⟩)
theorem LX.frz (h : LX Γ w T 0 sg A V tm e D) (f : FR w T w1 T1) (hw : WF w) : LX Γ w1 T1 0 sg A V tm e D := h.fr (fun q c h1 ht => by
  have hq := hw q c h1
  have h0 : T q = 0 := by
    rcases ht with z | z
    · exact z
    · exact absurd rfl z.1
  exact ⟨(f.2.2 q hq (by rw [h0]; decide)).trans h1, f.2.1 q hq⟩)
theorem lt_sm {D D' : ZD} {K : Nat} (s : Same D D') (h : K < nL D) : K < nL D' := by rw [sm_nL s]; exact h
theorem lt_smC {D D' : ZD} {K : Nat} (s : Same D D') (h : K < nC D) : K < nC D' := by rw [sm_nC s]; exact h
theorem lFs_set {K j : Nat} {v : Int32} (hj : 2 ≤ j ∧ j ≤ 5) : (lFs A V D K).set j (.int v) = lFs A V (setL D K j v) K := by
  have e : ∀ i, i ≠ j → dL (setL D K j v) K i = dL D K i := fun i hi => dL_setLn (by omega)
  have e0 : ofN (setL D K j v) K = ofN D K := by unfold ofN; rw [e 0 (by omega)]
  have e1 := e 1 (by omega)
  have e6 : ofO V (setL D K j v) K = ofO V D K := ofO_c (e 6 (by omega)) rfl
  have ej : dL (setL D K j v) K j = v := dL_setL
  unfold lFs
  rw [e0, e1, e6]
  rcases (show j = 2 ∨ j = 3 ∨ j = 4 ∨ j = 5 by omega) with rfl | rfl | rfl | rfl
  · rw [ej, e 3 (by decide), e 4 (by decide), e 5 (by decide)]; rfl
  · rw [ej, e 2 (by decide), e 4 (by decide), e 5 (by decide)]; rfl
  · rw [ej, e 2 (by decide), e 3 (by decide), e 5 (by decide)]; rfl
  · rw [ej, e 2 (by decide), e 3 (by decide), e 4 (by decide)]; rfl
theorem LX.int {K j : Nat} {v : Int32} (h : LX Γ w T 1 sg A V tm e D) (hI : Ix D) (hk : K < nL D) (hj : 2 ≤ j ∧ j ≤ 5) : LX Γ (wset w (A 0 K) (.inr (7, (lFs A V D K).set j (.int v)))) T 1 sg A V tm e (setL D K j v) := by
  obtain ⟨⟨a1, a2⟩, ⟨b1, b2⟩, hO, hR⟩ := h.l hk
  have kq := Kq.set (w := w) (c := .inr (7, (lFs A V D K).set j (.int v))) a2
  have e : ∀ i, i ≠ j → dL (setL D K j v) K i = dL D K i := fun i hi => dL_setLn (by omega)
  refine h.leg hI hk (fun i hi => if_neg (by omega)) (fun _ _ _ => rfl) (kq.mono fun t ht => by omega) ⟨⟨?_, a2⟩, ⟨?_, b2⟩, ?_, fun s hs => ?_⟩
  · rw [lFs_set hj]; exact if_pos rfl
  · rw [rpF_c (V := V) (V' := V) (fun s hs => e (9 + s) (by omega)) (fun _ _ => rfl)]
    exact (kq _ _ b1 (by rw [b2]; omega)).1
  · exact hO.go (kq.mono fun t ht => by omega) (fun i hi => e _ (by omega)) rfl
  · exact (hR s hs).go (kq.mono fun t ht => by omega) ⟨e _ (by omega), e _ (by omega)⟩ rfl
theorem lFs_off {K : Nat} {V' : LA} {D' : ZD} {o : Option Nat} (hD : ∀ i, i < 6 → dL D' K i = dL D K i) (ho : ofO V' D' K = o) (h2 : V' 2 K = V 2 K) : (lFs A V D K).set 6 (va_rf o) = lFs A V' D' K := by
  unfold lFs ofN
  rw [hD 0 (by decide), hD 1 (by decide), hD 2 (by decide), hD 3 (by decide), hD 4 (by decide), hD 5 (by decide), ho, h2]
  rfl
theorem LX.off0 {K : Nat} (h : LX Γ w T 1 sg A V tm e D) (hI : Ix D) (hk : K < nL D) : LX Γ (wset w (A 0 K) (.inr (7, (lFs A V D K).set 6 .null))) T 1 sg A V tm e (setL D K 6 (-1)) := by
  obtain ⟨⟨a1, a2⟩, ⟨b1, b2⟩, hO, hR⟩ := h.l hk
  have kq := Kq.set (w := w) (c := .inr (7, (lFs A V D K).set 6 .null)) a2
  have e : ∀ i, i ≠ 6 → dL (setL D K 6 (-1)) K i = dL D K i := fun i hi => dL_setLn (by omega)
  refine h.leg hI hk (fun i hi => if_neg (by omega)) (fun _ _ _ => rfl) (kq.mono fun t ht => by omega) ⟨⟨?_, a2⟩, ⟨?_, b2⟩, fun q => absurd dL_setL q, fun s hs => ?_⟩
  · rw [show (.null : Value) = va_rf none from rfl, lFs_off (V' := V) (D' := setL D K 6 (-1)) (fun i hi => e i (by omega)) (by unfold ofO; rw [if_pos dL_setL]) rfl]; exact if_pos rfl
  · rw [rpF_c (V := V) (V' := V) (fun s hs => e (9 + s) (by omega)) (fun _ _ => rfl)]
    exact (kq _ _ b1 (by rw [b2]; omega)).1
  · exact (hR s hs).go (kq.mono fun t ht => by omega) ⟨e _ (by omega), e _ (by omega)⟩ rfl
theorem aset_s {i k v : Nat} : aset V i k v i k = v := if_pos ⟨rfl, rfl⟩
theorem aset_n {i k v i' k' : Nat} (h : i' ≠ i ∨ k' ≠ k) : aset V i k v i' k' = V i' k' := if_neg (fun q => h.elim (fun z => z q.1) (fun z => z q.2))
theorem LX.offN {K : Nat} {f : Nat → Int32} (h : LX Γ w T 1 sg A V tm e D) (hI : Ix D) (hk : K < nL D) (ha : w.2 a = some (i5 Γ 3 f)) (hT : T a = 5) (h0 : f 0 ≠ -1) : LX Γ (wset w (A 0 K) (.inr (7, (lFs A V D K).set 6 (.ref a)))) (tset T a 0) 1 sg A (aset V 5 K a) tm e (setL (setL (setL D K 6 (f 0)) K 7 (f 1)) K 8 (f 2)) := by
  obtain ⟨⟨a1, a2⟩, ⟨b1, b2⟩, hO, hR⟩ := h.l hk
  have kq := Kq.set (w := w) (c := .inr (7, (lFs A V D K).set 6 (.ref a))) a2
  have na : a ≠ A 0 K := fun z => by rw [z, a2] at hT; omega
  have kr : Kq w T (wset w (A 0 K) (.inr (7, (lFs A V D K).set 6 (.ref a)))) (tset T a 0) (fun t => t ≠ 10 + 5 * K ∧ t ≠ 5) := fun q c h1 h2 => by
    obtain ⟨k1, k2⟩ := kq q c h1 (by omega)
    exact ⟨k1, (if_neg (fun z => by rw [z, hT] at h2; omega)).trans k2⟩
  have e : ∀ i, i ≠ 6 → i ≠ 7 → i ≠ 8 → dL (setL (setL (setL D K 6 (f 0)) K 7 (f 1)) K 8 (f 2)) K i = dL D K i := fun i g6 g7 g8 => by rw [dL_setLn (by omega), dL_setLn (by omega), dL_setLn (by omega)]
  have e6 : dL (setL (setL (setL D K 6 (f 0)) K 7 (f 1)) K 8 (f 2)) K 6 = f 0 := by rw [dL_setLn (by omega), dL_setLn (by omega), dL_setL]
  have e7 : dL (setL (setL (setL D K 6 (f 0)) K 7 (f 1)) K 8 (f 2)) K 7 = f 1 := by rw [dL_setLn (by omega), dL_setL]
  have e8 : dL (setL (setL (setL D K 6 (f 0)) K 7 (f 1)) K 8 (f 2)) K 8 = f 2 := dL_setL
  refine h.leg hI hk (fun i hi => by unfold setL upd; rw [if_neg (by omega), if_neg (by omega), if_neg (by omega)]) (fun _ _ q => aset_n (Or.inr q)) (kr.mono fun t ht => ⟨ht.1, ht.2.2⟩) ⟨⟨?_, ?_⟩, ⟨?_, ?_⟩, fun q => ?_, fun s hs => ?_⟩
  · rw [show (.ref a : Value) = va_rf (some a) from rfl, lFs_off (V' := aset V 5 K a) (D' := setL (setL (setL D K 6 (f 0)) K 7 (f 1)) K 8 (f 2)) (fun i hi => e i (by omega) (by omega) (by omega)) (by unfold ofO; rw [e6, if_neg h0, aset_s]) (aset_n (Or.inl (by decide)))]; exact if_pos rfl
  · exact (if_neg (fun z => na z.symm)).trans a2
  · rw [aset_n (Or.inl (by decide)), rpF_c (V := V) (V' := aset V 5 K a) (fun s hs => e (9 + s) (by omega) (by omega) (by omega)) (fun s hs => aset_n (Or.inl (by omega)))]
    exact (kr _ _ b1 (by rw [b2]; omega)).1
  · rw [aset_n (Or.inl (by decide))]
    exact (kr _ _ b1 (by rw [b2]; omega)).2.trans b2
  · rw [aset_s]
    refine ⟨f, (if_neg na).trans ha, if_pos rfl, fun j hj => ?_⟩
    rcases (show j = 0 ∨ j = 1 ∨ j = 2 by omega) with rfl | rfl | rfl
    · exact e6.symm
    · exact e7.symm
    · exact e8.symm
  · exact (hR s hs).go (kr.mono fun t ht => by omega) ⟨e _ (by omega) (by omega) (by omega), e _ (by omega) (by omega) (by omega)⟩ (aset_n (Or.inl (by omega)))
theorem rpF_set {K s : Nat} {V' : LA} {D' : ZD} {o : Option Nat} (hs : s < 2) (ho : rpO V' D' K s = o) (hn : ∀ s', s' < 2 → s' ≠ s → rpO V' D' K s' = rpO V D K s') : va_up (rpF V D K) s o = rpF V' D' K := by
  funext i
  unfold va_up rpF
  by_cases h : i = s
  · rw [if_pos h, h, if_pos hs, ho]
  · rw [if_neg h]
    by_cases h2 : i < 2
    · rw [if_pos h2, if_pos h2, hn i h2 h]
    · rw [if_neg h2, if_neg h2]
theorem LX.rep0 {K s : Nat} (h : LX Γ w T 1 sg A V tm e D) (hI : Ix D) (hk : K < nL D) (hs : s < 2) : LX Γ (wset w (V 2 K) (q5 Γ 4 2 (va_up (rpF V D K) s none))) T 1 sg A V tm e (setL D K (9 + s) (-1)) := by
  obtain ⟨⟨a1, a2⟩, ⟨b1, b2⟩, hO, hR⟩ := h.l hk
  have kq := Kq.set (w := w) (c := q5 Γ 4 2 (va_up (rpF V D K) s none)) b2
  have e : ∀ i, i ≠ 9 + s → dL (setL D K (9 + s) (-1)) K i = dL D K i := fun i hi => dL_setLn (by omega)
  have e9 : dL (setL D K (9 + s) (-1)) K (9 + s) = -1 := dL_setL
  refine h.leg hI hk (fun i hi => if_neg (by omega)) (fun _ _ _ => rfl) (kq.mono fun t ht => by omega) ⟨⟨?_, a2⟩, ⟨?_, b2⟩, ?_, fun s' hs' => ?_⟩
  · have e0 : lFs A V (setL D K (9 + s) (-1)) K = lFs A V D K := by
      unfold lFs ofN
      rw [e 0 (by omega), e 1 (by omega), e 2 (by omega), e 3 (by omega), e 4 (by omega), e 5 (by omega), ofO_c (V := V) (e 6 (by omega)) rfl]
    rw [e0]
    exact (kq _ _ a1 (by rw [a2]; omega)).1
  · rw [← rpF_set (V := V) (V' := V) (D := D) (D' := setL D K (9 + s) (-1)) (o := none) hs (by unfold rpO; rw [if_pos e9]) (fun s' h1 h2 => by unfold rpO; rw [e _ (by omega)])]
    exact if_pos rfl
  · exact hO.go (kq.mono fun t ht => by omega) (fun i hi => e _ (by omega)) rfl
  · by_cases hss : s' = s
    · rw [hss]; exact fun q => absurd e9 q
    · exact (hR s' hs').go (kq.mono fun t ht => by omega) ⟨e _ (by omega), e _ (by omega)⟩ rfl
theorem LX.repN {K s : Nat} {f : Nat → Int32} (h : LX Γ w T 1 sg A V tm e D) (hI : Ix D) (hk : K < nL D) (hs : s < 2) (ha : w.2 a = some (i5 Γ 2 f)) (hT : T a = 5) (h0 : f 1 ≠ -1) : LX Γ (wset w (V 2 K) (q5 Γ 4 2 (va_up (rpF V D K) s (some a)))) (tset T a 0) 1 sg A (aset V (6 + s) K a) tm e (setL (setL D K (9 + s) (f 1)) K (11 + s) (f 0)) := by
  obtain ⟨⟨a1, a2⟩, ⟨b1, b2⟩, hO, hR⟩ := h.l hk
  have kq := Kq.set (w := w) (c := q5 Γ 4 2 (va_up (rpF V D K) s (some a))) b2
  have na : a ≠ V 2 K := fun z => by rw [z, b2] at hT; omega
  have kr : Kq w T (wset w (V 2 K) (q5 Γ 4 2 (va_up (rpF V D K) s (some a)))) (tset T a 0) (fun t => t ≠ 12 + 5 * K ∧ t ≠ 5) := fun q c h1 h2 => by
    obtain ⟨k1, k2⟩ := kq q c h1 (by omega)
    exact ⟨k1, (if_neg (fun z => by rw [z, hT] at h2; omega)).trans k2⟩
  have e : ∀ i, i ≠ 9 + s → i ≠ 11 + s → dL (setL (setL D K (9 + s) (f 1)) K (11 + s) (f 0)) K i = dL D K i := fun i g1 g2 => by rw [dL_setLn (by omega), dL_setLn (by omega)]
  have e9 : dL (setL (setL D K (9 + s) (f 1)) K (11 + s) (f 0)) K (9 + s) = f 1 := by rw [dL_setLn (by omega), dL_setL]
  have e11 : dL (setL (setL D K (9 + s) (f 1)) K (11 + s) (f 0)) K (11 + s) = f 0 := dL_setL
  refine h.leg hI hk (fun i hi => by unfold setL upd; rw [if_neg (by omega), if_neg (by omega)]) (fun _ _ q => aset_n (Or.inr q)) (kr.mono fun t ht => ⟨ht.2.1, ht.2.2⟩) ⟨⟨?_, ?_⟩, ⟨?_, ?_⟩, ?_, fun s' hs' => ?_⟩
  · have e0 : lFs A (aset V (6 + s) K a) (setL (setL D K (9 + s) (f 1)) K (11 + s) (f 0)) K = lFs A V D K := by
      unfold lFs ofN
      rw [e 0 (by omega) (by omega), e 1 (by omega) (by omega), e 2 (by omega) (by omega), e 3 (by omega) (by omega), e 4 (by omega) (by omega), e 5 (by omega) (by omega), ofO_c (V := V) (V' := aset V (6 + s) K a) (e 6 (by omega) (by omega)) (aset_n (Or.inl (by omega))), aset_n (V := V) (i' := 2) (Or.inl (by omega))]
    rw [e0]
    exact (kr _ _ a1 (by rw [a2]; omega)).1
  · exact (kr _ _ a1 (by rw [a2]; omega)).2.trans a2
  · rw [aset_n (V := V) (i' := 2) (Or.inl (by omega)), ← rpF_set (V := V) (V' := aset V (6 + s) K a) (D := D) (D' := setL (setL D K (9 + s) (f 1)) K (11 + s) (f 0)) (o := some a) hs (by unfold rpO; rw [e9, if_neg h0, aset_s]) (fun s' h1 h2 => by unfold rpO; rw [e _ (by omega) (by omega), aset_n (Or.inl (by omega))])]
    exact if_pos rfl
  · rw [aset_n (V := V) (i' := 2) (Or.inl (by omega))]
    exact (if_neg (fun z => na z.symm)).trans b2
  · exact hO.go (kr.mono fun t ht => by omega) (fun i hi => e _ (by omega) (by omega)) (aset_n (Or.inl (by omega)))
  · by_cases hss : s' = s
    · rw [hss]
      intro _
      rw [aset_s]
      exact ⟨f, (if_neg na).trans ha, if_pos rfl, e11.symm, e9.symm⟩
    · exact (hR s' hs').go (kr.mono fun t ht => by omega) ⟨e _ (by omega) (by omega), e _ (by omega) (by omega)⟩ (aset_n (Or.inl (by omega)))
theorem LX.repZ {K : Nat} (h : LX Γ w T 1 sg A V tm e D) (hI : Ix D) (hk : K < nL D) (ha : w.2 a = some (q5 Γ 4 2 (fun _ => none))) (hT : T a = 5) : LX Γ (wset w (A 0 K) (.inr (7, (lFs A V D K).set 7 (.ref a)))) (tset T a (12 + 5 * K)) 1 sg A (aset V 2 K a) tm e (setL (setL D K 9 (-1)) K 10 (-1)) := by
  obtain ⟨⟨a1, a2⟩, ⟨b1, b2⟩, hO, hR⟩ := h.l hk
  have kq := Kq.set (w := w) (c := .inr (7, (lFs A V D K).set 7 (.ref a))) a2
  have na : a ≠ A 0 K := fun z => by rw [z, a2] at hT; omega
  have kr : Kq w T (wset w (A 0 K) (.inr (7, (lFs A V D K).set 7 (.ref a)))) (tset T a (12 + 5 * K)) (fun t => t ≠ 10 + 5 * K ∧ t ≠ 5) := fun q c h1 h2 => by
    obtain ⟨k1, k2⟩ := kq q c h1 (by omega)
    exact ⟨k1, (if_neg (fun z => by rw [z, hT] at h2; omega)).trans k2⟩
  have e : ∀ i, i ≠ 9 → i ≠ 10 → dL (setL (setL D K 9 (-1)) K 10 (-1)) K i = dL D K i := fun i g1 g2 => by rw [dL_setLn (by omega), dL_setLn (by omega)]
  have e9 : dL (setL (setL D K 9 (-1)) K 10 (-1)) K 9 = -1 := by rw [dL_setLn (by omega), dL_setL]
  have e10 : dL (setL (setL D K 9 (-1)) K 10 (-1)) K 10 = -1 := dL_setL
  refine h.leg hI hk (fun i hi => by unfold setL upd; rw [if_neg (by omega), if_neg (by omega)]) (fun _ _ q => aset_n (Or.inr q)) (kr.mono fun t ht => ⟨ht.1, ht.2.2⟩) ⟨⟨?_, ?_⟩, ⟨?_, ?_⟩, ?_, fun s hs => ?_⟩
  · have e0 : (lFs A V D K).set 7 (.ref a) = lFs A (aset V 2 K a) (setL (setL D K 9 (-1)) K 10 (-1)) K := by
      unfold lFs ofN
      rw [e 0 (by omega) (by omega), e 1 (by omega) (by omega), e 2 (by omega) (by omega), e 3 (by omega) (by omega), e 4 (by omega) (by omega), e 5 (by omega) (by omega), ofO_c (V := V) (V' := aset V 2 K a) (e 6 (by omega) (by omega)) (aset_n (Or.inl (by omega))), aset_s]
      rfl
    rw [← e0]
    exact if_pos rfl
  · exact (if_neg (fun z => na z.symm)).trans a2
  · rw [aset_s]
    have e0 : rpF (aset V 2 K a) (setL (setL D K 9 (-1)) K 10 (-1)) K = fun _ => none := by
      funext s
      unfold rpF rpO
      by_cases h2 : s < 2
      · rw [if_pos h2]
        rcases (show s = 0 ∨ s = 1 by omega) with rfl | rfl
        · rw [if_pos e9]
        · rw [if_pos e10]
      · rw [if_neg h2]
    rw [e0]
    exact (if_neg na).trans ha
  · rw [aset_s]
    show (if a = a then 12 + 5 * K else T a) = 1 * (12 + 5 * K)
    rw [if_pos rfl, Nat.one_mul]
  · exact hO.go (kr.mono fun t ht => by omega) (fun i hi => e _ (by omega) (by omega)) (aset_n (Or.inl (by omega)))
  · rcases (show s = 0 ∨ s = 1 by omega) with rfl | rfl
    · exact fun q => absurd e9 q
    · exact fun q => absurd e10 q
end
section
variable {l : Launch} {Γ : ZG} {M M' : ZM} {dp mc ms d' mc' ms' : Nat} {Φ : Option Value → ZW → Prop} {Ψ : String → ZW → Prop} {k n : Nat} {w0 w : ZW} {pc : Nat} {L : ZL} {st : List Value}
variable {T0 T : LT} {sg : ZSg} {A V : LA} {tm : Option Nat} {e a K : Nat} {D : ZD}
/-- behind a method that changes this exchange -/
def PvL (Γ : ZG) (w : ZW) (T : LT) (sg : ZSg) (A : LA) (tm : Option Nat) (e : Nat) (r : Option Value) (D' : ZD) : Option Value → ZW → Prop := fun v w' => v = r ∧ ∃ T' V', FR w T w' T' ∧ LX Γ w' T' 1 sg A V' tm e D'
theorem gl_lput {index j : Nat} {v : Int32} (h : LX Γ w T 1 sg A V tm e D) (hI : Ix D) (hk : K < nL D) (f : FR w0 T0 w T) (hj : 2 ≤ j ∧ j ≤ 5) (pc' : Nat) (hd : decode M.2.1 pc = .ok (.putfield index, 3)) (F : zFp M.1.cls index 7 j .int) (kk : ∀ w', LX Γ w' T 1 sg A V tm e (setL D K j v) → FR w0 T0 w' T → w'.1 = w.1 → Go l Γ M dp mc ms Φ Ψ k n w' pc' L st) (hp : pc + 3 = pc' := by rfl) : Go l Γ M dp mc ms Φ Ψ k n w pc L (.int v :: .ref (A 0 K) :: st) :=
  go_put pc' hd F (h.l hk).1.1 (show j < 8 by omega) rfl rfl (kk _ (h.int hI hk hj) (f.own (h.l hk).1.2 (by omega)) rfl) hp
theorem gl_off0 {index : Nat} (h : LX Γ w T 1 sg A V tm e D) (hI : Ix D) (hk : K < nL D) (f : FR w0 T0 w T) (pc' : Nat) (hd : decode M.2.1 pc = .ok (.putfield index, 3)) (F : zFp M.1.cls index 7 6 (.array .int)) (kk : ∀ w', LX Γ w' T 1 sg A V tm e (setL D K 6 (-1)) → FR w0 T0 w' T → w'.1 = w.1 → Go l Γ M dp mc ms Φ Ψ k n w' pc' L st) (hp : pc + 3 = pc' := by rfl) : Go l Γ M dp mc ms Φ Ψ k n w pc L (.null :: .ref (A 0 K) :: st) :=
  go_put pc' hd F (h.l hk).1.1 (show 6 < 8 by decide) rfl rfl (kk _ (h.off0 hI hk) (f.own (h.l hk).1.2 (by omega)) rfl) hp
theorem gl_offN {index : Nat} {g : Nat → Int32} (h : LX Γ w T 1 sg A V tm e D) (hI : Ix D) (hk : K < nL D) (f : FR w0 T0 w T) (ha : w.2 a = some (i5 Γ 3 g)) (hT : T a = 5) (h0 : g 0 ≠ -1) (hb : w0.1 ≤ a) (pc' : Nat) (hd : decode M.2.1 pc = .ok (.putfield index, 3)) (F : zFp M.1.cls index 7 6 (.array .int)) (kk : ∀ w' T' V', LX Γ w' T' 1 sg A V' tm e (setL (setL (setL D K 6 (g 0)) K 7 (g 1)) K 8 (g 2)) → FR w0 T0 w' T' → Go l Γ M dp mc ms Φ Ψ k n w' pc' L st) (hp : pc + 3 = pc' := by rfl) : Go l Γ M dp mc ms Φ Ψ k n w pc L (.ref a :: .ref (A 0 K) :: st) :=
  go_put pc' hd F (h.l hk).1.1 (show 6 < 8 by decide) rfl rfl (kk _ _ _ (h.offN hI hk ha hT h0) ((f.own (h.l hk).1.2 (by omega)).tag hb)) hp
theorem gl_repZ {index : Nat} (h : LX Γ w T 1 sg A V tm e D) (hI : Ix D) (hk : K < nL D) (f : FR w0 T0 w T) (ha : w.2 a = some (q5 Γ 4 2 (fun _ => none))) (hT : T a = 5) (hb : w0.1 ≤ a) (pc' : Nat) (hd : decode M.2.1 pc = .ok (.putfield index, 3)) (F : zFp M.1.cls index 7 7 (.array (.array .int))) (kk : ∀ w' T' V', LX Γ w' T' 1 sg A V' tm e (setL (setL D K 9 (-1)) K 10 (-1)) → FR w0 T0 w' T' → Go l Γ M dp mc ms Φ Ψ k n w' pc' L st) (hp : pc + 3 = pc' := by rfl) : Go l Γ M dp mc ms Φ Ψ k n w pc L (.ref a :: .ref (A 0 K) :: st) :=
  go_put pc' hd F (h.l hk).1.1 (show 7 < 8 by decide) rfl rfl (kk _ _ _ (h.repZ hI hk ha hT) ((f.own (h.l hk).1.2 (by omega)).tag hb)) hp
theorem gl_rep0 {s : Nat} {i : Int32} (h : LX Γ w T 1 sg A V tm e D) (hI : Ix D) (hk : K < nL D) (f : FR w0 T0 w T) (hi : i = nI s) (hs : s < 2) (pc' : Nat) (hd : decode M.2.1 pc = .ok (.aastore, 1)) (kk : ∀ w', LX Γ w' T 1 sg A V tm e (setL D K (9 + s) (-1)) → FR w0 T0 w' T → w'.1 = w.1 → Go l Γ M dp mc ms Φ Ψ k n w' pc' L st) (hp : pc + 1 = pc' := by rfl) : Go l Γ M dp mc ms Φ Ψ k n w pc L (.null :: .int i :: .ref (V 2 K) :: st) := by
  refine go_aastAN pc' hd (h.l hk).2.1.1 (by rw [hi]; exact vp_in_nI hs (by decide)) ?_ hp
  rw [hi, nI_clamp (by omega)]
  exact kk _ (h.rep0 hI hk hs) (f.own (h.l hk).2.1.2 (by omega)) rfl
theorem gl_repN {s : Nat} {i : Int32} {g : Nat → Int32} (h : LX Γ w T 1 sg A V tm e D) (hI : Ix D) (hk : K < nL D) (f : FR w0 T0 w T) (hi : i = nI s) (hs : s < 2) (ha : w.2 a = some (i5 Γ 2 g)) (hT : T a = 5) (h0 : g 1 ≠ -1) (hb : w0.1 ≤ a) (pc' : Nat) (hd : decode M.2.1 pc = .ok (.aastore, 1)) (kk : ∀ w' T' V', V' 2 K = V 2 K → V' 5 K = V 5 K → LX Γ w' T' 1 sg A V' tm e (setL (setL D K (9 + s) (g 1)) K (11 + s) (g 0)) → FR w0 T0 w' T' → Go l Γ M dp mc ms Φ Ψ k n w' pc' L st) (hp : pc + 1 = pc' := by rfl) : Go l Γ M dp mc ms Φ Ψ k n w pc L (.ref a :: .int i :: .ref (V 2 K) :: st) := by
  refine go_aastA pc' hd (h.l hk).2.1.1 ha (by rw [hi]; exact vp_in_nI hs (by decide)) ?_ hp
  rw [hi, nI_clamp (by omega)]
  exact kk _ _ _ (aset_n (Or.inl (by omega))) (aset_n (Or.inl (by omega))) (h.repN hI hk hs ha hT h0) ((f.own (h.l hk).2.1.2 (by omega)).tag hb)
theorem gl_ans {index c : Nat} (h : LX Γ w T 1 sg A V tm e D) (hI : Ix D) (hc : c < nC D) (hK : K < 2 ^ 31) (f : FR w0 T0 w T) (pc' : Nat) (hd : decode M.2.1 pc = .ok (.putfield index, 3)) (F : zFp M.1.cls index 10 4 (.object RX7)) (kk : ∀ w', LX Γ w' T 1 sg A V tm e (setC D c 4 (nI K)) → FR w0 T0 w' T → w'.1 = w.1 → Go l Γ M dp mc ms Φ Ψ k n w' pc' L st) (hp : pc + 3 = pc' := by rfl) : Go l Γ M dp mc ms Φ Ψ k n w pc L (.ref (A 0 K) :: .ref (A 1 c) :: st) := by
  refine go_put pc' hd F (h.c hc).1 (show 4 < 6 by decide) rfl rfl ?_ hp
  have e9 : (tFs A D c).set 4 (.ref (A 0 K)) = tFs A (setC D c 4 (nI K)) c := by
    have e : ∀ i, i ≠ 4 → dC (setC D c 4 (nI K)) c i = dC D c i := fun i hi => if_neg (by omega)
    have e4 : dC (setC D c 4 (nI K)) c 4 = nI K := if_pos rfl
    unfold tFs
    rw [e 0 (by decide), e 1 (by decide), e 2 (by decide), e 3 (by decide), e4, lgO_i hK]
    rfl
  rw [e9]
  exact kk _ (h.talk hI hc) (f.own (h.c hc).2.1 (by omega)) rfl
theorem gl_tot {t : Nat} {i v : Int32} (h : LX Γ w T 1 sg A V tm e D) (hI : Ix D) (f : FR w0 T0 w T) (hi : i = nI t) (ht : t < 7) (hv : v = D (9 + t) + 1) (pc' : Nat) (hd : decode M.2.1 pc = .ok (.iastore, 1)) (kk : ∀ w', LX Γ w' T 1 sg A V tm e (tally D t) → FR w0 T0 w' T → w'.1 = w.1 → Go l Γ M dp mc ms Φ Ψ k n w' pc' L st) (hp : pc + 1 = pc' := by rfl) : Go l Γ M dp mc ms Φ Ψ k n w pc L (.int v :: .int i :: .ref (A 8 3) :: st) := by
  obtain ⟨g, f1, f2, f3⟩ := h.t
  refine go_iast pc' hd f1 (by rw [hi]; exact vp_in_nI ht (by decide)) ?_ hp
  rw [hi, nI_clamp (by omega), hv]
  exact kk _ (h.tot hI ht f1) (f.own f2 (by decide)) rfl
theorem gl_time {index : Nat} {v : Int32} (h : LX Γ w T 1 sg A V tm e D) (hI : Ix D) (f : FR w0 T0 w T) (pc' : Nat) (hd : decode M.2.1 pc = .ok (.putfield index, 3)) (F : zFp M.1.cls index 6 0 .int) (kk : ∀ w', LX Γ w' T 1 sg A V tm e (upd D 0 v) → FR w0 T0 w' T → w'.1 = w.1 → Go l Γ M dp mc ms Φ Ψ k n w' pc' L st) (hp : pc + 3 = pc' := by rfl) : Go l Γ M dp mc ms Φ Ψ k n w pc L (.int v :: .ref e :: st) := by
  refine go_put pc' hd F h.x.1 (show 0 < 9 by decide) rfl rfl ?_ hp
  exact kk _ (h.time hI) (f.own h.x.2 (by decide)) rfl
theorem gl_newi {i : Int32} {N : Nat} (h : LX Γ w T 1 sg A V tm e D) (f : FR w0 T0 w T) (pc' : Nat) (hd : decode M.2.1 pc = .ok (.newarray .int, 2)) (hi : i = nI N) (hN : N ≤ 65536) (hc1 : k + 1 ≤ mc) (hs1 : n + N ≤ ms) (kk : ∀ w' T' a, LX Γ w' T' 1 sg A V tm e D → FR w0 T0 w' T' → w'.2 a = some (i5 Γ N (fun _ => 0)) → T' a = 5 → w0.1 ≤ a → Go l Γ M dp mc ms Φ Ψ (k + 1) (n + N) w' pc' L (.ref a :: st)) (hp : pc + 2 = pc' := by rfl) : Go l Γ M dp mc ms Φ Ψ k n w pc L (.int i :: st) :=
  go_wf fun hw => go_newarray_i pc' hd hi hN hc1 hs1 ac_int (kk _ (tset T w.1 5) w.1 (h.alloc hw) f.alloc (if_pos rfl) (if_pos rfl) f.1) hp
theorem gl_newA {i : Int32} {index : Nat} (h : LX Γ w T 1 sg A V tm e D) (f : FR w0 T0 w T) (pc' : Nat) (hd : decode M.2.1 pc = .ok (.anewarray index, 3)) (hcl : Cond.classLink M.1.cls index (FieldType.array .int).toString ∈ zGood) (hi : i = nI 2) (hc1 : k + 1 ≤ mc) (hs1 : n + 2 ≤ ms) (kk : ∀ w' T' a, LX Γ w' T' 1 sg A V tm e D → FR w0 T0 w' T' → w'.2 a = some (q5 Γ 4 2 (fun _ => none)) → T' a = 5 → w0.1 ≤ a → Go l Γ M dp mc ms Φ Ψ (k + 1) (n + 2) w' pc' L (.ref a :: st)) (hp : pc + 3 = pc' := by rfl) : Go l Γ M dp mc ms Φ Ψ k n w pc L (.int i :: st) :=
  go_wf fun hw => go_anewA pc' hd hcl hi (by decide) hc1 hs1 (kk _ (tset T w.1 5) w.1 (h.alloc hw) f.alloc (if_pos rfl) (if_pos rfl) f.1) hp
theorem gl_newz {i : Int32} {N : Nat} (h : LX Γ w T 1 sg A V tm e D) (f : FR w0 T0 w T) (pc' : Nat) (hd : decode M.2.1 pc = .ok (.newarray .boolean, 2)) (hi : i = nI N) (hN : N ≤ 65536) (hc1 : k + 1 ≤ mc) (hs1 : n + N ≤ ms) (kk : ∀ w' T' a, LX Γ w' T' 1 sg A V tm e D → FR w0 T0 w' T' → w'.2 a = some (.inl (Γ.2.2.1 5, N, .inl (fun _ => 0))) → T' a = 5 → w0.1 ≤ a → Go l Γ M dp mc ms Φ Ψ (k + 1) (n + N) w' pc' L (.ref a :: st)) (hp : pc + 2 = pc' := by rfl) : Go l Γ M dp mc ms Φ Ψ k n w pc L (.int i :: st) :=
  go_wf fun hw => go_newarray_z pc' hd hi hN hc1 hs1 ac_boolean (kk _ (tset T w.1 5) w.1 (h.alloc hw) f.alloc (if_pos rfl) (if_pos rfl) f.1) hp
theorem gl_fst {N j : Nat} {i v : Int32} {g : Nat → Int32} (h : LX Γ w T 1 sg A V tm e D) (f : FR w0 T0 w T) (ha : w.2 a = some (i5 Γ N g)) (hT : T a = 5) (hb : w0.1 ≤ a) (hi : i = nI j) (hj : j < N) (hN : N < 2 ^ 31) (pc' : Nat) (hd : decode M.2.1 pc = .ok (.iastore, 1)) (kk : ∀ w', LX Γ w' T 1 sg A V tm e D → FR w0 T0 w' T → w'.2 a = some (i5 Γ N (upd g j v)) → w'.1 = w.1 → Go l Γ M dp mc ms Φ Ψ k n w' pc' L st) (hp : pc + 1 = pc' := by rfl) : Go l Γ M dp mc ms Φ Ψ k n w pc L (.int v :: .int i :: .ref a :: st) := by
  refine go_iast pc' hd ha (by rw [hi]; exact vp_in_nI hj hN) ?_ hp
  rw [hi, nI_clamp (by omega)]
  exact kk _ (h.flux hT) (f.new hb) (if_pos rfl) rfl
/-- a call that changes this exchange -/
theorem gl_call {index b ci : Nat} {fs : List Value} {r : Option Value} {D' : ZD} (f : FR w0 T0 w T) (pc' : Nat) (As : List Value) (hd : decode M.2.1 pc = .ok (.invokevirtual index, 3)) (V9 : zV M.1.cls index M' As.length) (hw : w.2 b = some (.inr (ci, fs))) (hc : (vwCl[ci]?).map (fun q => q.1) = some M'.1.cls) (hct : Ct l Γ M' d' mc' ms' (.ref b :: As) w (PvL Γ w T sg A tm e r D') zNo) (hdp : d' + 1 ≤ dp) (hL : M'.2.2.1 ≤ 40) (h1 : k + mc' ≤ mc) (h2 : n + ms' ≤ ms) (hst : (st.map fun v => v.category).sum ≤ 8)
    (kk : ∀ w' T' V', LX Γ w' T' 1 sg A V' tm e D' → FR w0 T0 w' T' → FR w T w' T' → Go l Γ M dp mc ms Φ Ψ (k + mc') (n + ms') w' pc' L (r.toList ++ st)) (hp : pc + 3 = pc' := by rfl) : Go l Γ M dp mc ms Φ Ψ k n w pc L (As.reverse ++ .ref b :: st) := by
  refine go_callV pc' As hd V9 hw hc hct hdp hL h1 h2 hst ?_ hp
  rintro v w2 ⟨rfl, T2, V2, f2, h2⟩
  exact kk w2 T2 V2 h2 (f.trans f2) f2
end
theorem al_X6_19 : Cond.classLink RX6 19 (FieldType.array .int).toString ∈ zGood := zGood.mem 280 (by decide +kernel) rfl

theorem al_X6_25 : Cond.classLink RX6 25 RX10 ∈ zGood := zGood.mem 282 (by decide +kernel) rfl

theorem al_X6_31 : Cond.classLink RX6 31 RX7 ∈ zGood := zGood.mem 284 (by decide +kernel) rfl

theorem al_X6_8 : Cond.classLink RX6 8 RX6 ∈ zGood := zGood.mem 327 (by decide +kernel) rfl

theorem al_X7_7 : Cond.classLink RX7 7 (FieldType.array .int).toString ∈ zGood := zGood.mem 367 (by decide +kernel) rfl

theorem al_L_120 : Cond.classLink RL 120 (FieldType.array .int).toString ∈ zGood := zGood.mem 1114 (by decide +kernel) rfl

theorem al_L_110 : Cond.classLink RL 110 RX6 ∈ zGood := zGood.mem 274 (by decide +kernel) rfl

set_option maxRecDepth 100000 in
set_option maxHeartbeats 4000000 in
theorem cl_close {l : Launch} {Γ : ZG} {w : ZW} {T : LT} {sg : ZSg} {A V : LA} {tm : Option Nat} {e : Nat} {D : ZD} (h : LX Γ w T 1 sg A V tm e D) (hI : Ix D) {K : Nat} (hk : K < nL D) {st r : Int32} : Ct l Γ mX7_close 1 1 2 [.ref (A 0 K), .int st, .int r] w (PvL Γ w T sg A tm e none (dropD (setL (setL D K 2 st) K 3 r) K)) zNo := by
  refine Ct.of (by decide) rfl (Nat.le_of_ble_eq_true rfl) ?_
  refine go_aload_n 1 dX7_close_0 rfl ?_
  refine go_iload_n 2 dX7_close_1 rfl ?_
  refine gl_lput h hI hk FR.rf (by decide) 5 dX7_close_2 pX7_15 (fun w_2 h_2 f_2 z_2 => ?_)
  refine go_aload_n 6 dX7_close_5 rfl ?_
  refine go_iload_n 7 dX7_close_6 rfl ?_
  refine gl_lput h_2 (hI.same (sm_setL (by decide) (by decide))) (lt_sm (sm_setL (by decide) (by decide)) hk) f_2 (by decide) 10 dX7_close_7 pX7_19 (fun w_7 h_7 f_7 z_7 => ?_)
  refine go_aload_n 11 dX7_close_10 rfl ?_
  refine go_null 12 dX7_close_11 ?_
  refine gl_off0 h_7 (hI.same ((sm_setL (by decide) (by decide)).trans (sm_setL (by decide) (by decide)))) (lt_sm ((sm_setL (by decide) (by decide)).trans (sm_setL (by decide) (by decide))) hk) f_7 15 dX7_close_12 pX7_22 (fun w_12 h_12 f_12 z_12 => ?_)
  refine go_aload_n 16 dX7_close_15 rfl ?_
  refine go_iconst 17 dX7_close_16 zc_2 ?_
  refine gl_newA h_12 f_12 20 dX7_close_17 al_X7_7 rfl (by omega) (by omega) (fun w_17 T_17 a_17 h_17 f_17 x_17 t_17 b_17 => ?_)
  refine gl_repZ h_17 (hI.same (((sm_setL (by decide) (by decide)).trans (sm_setL (by decide) (by decide))).trans (sm_setL (by decide) (by decide)))) (lt_sm (((sm_setL (by decide) (by decide)).trans (sm_setL (by decide) (by decide))).trans (sm_setL (by decide) (by decide))) hk) f_17 x_17 t_17 b_17 23 dX7_close_20 pX7_9 (fun w_20 T_20 V_20 h_20 f_20 => ?_)
  exact go_return dX7_close_23 rfl (by omega) (by omega) (⟨rfl, _, _, f_20, h_20⟩)

theorem tb_1 {D : ZD} {c : Nat} (h : dC D c 3 = -1) : takeB D c = D := if_pos h
theorem tb_2 {D : ZD} {c : Nat} (h : dC D c 3 ≠ -1) (h2 : ¬ dL D (tN (dC D c 3)) 2 = 2) : takeB D c = D := (if_neg h).trans (if_neg h2)
theorem tb_3 {D : ZD} {c : Nat} (h : dC D c 3 ≠ -1) (h2 : dL D (tN (dC D c 3)) 2 = 2) : takeB D c = setL D (tN (dC D c 3)) 2 1 := (if_neg h).trans (if_pos h2)
theorem rfK {D : ZD} (hV : Iv D) {c : Nat} (hc : c < nC D) (h : dC D c 3 ≠ -1) : tN (dC D c 3) < nL D := ((hV.2.1 c hc).resolve_left h).2

set_option maxRecDepth 100000 in
set_option maxHeartbeats 4000000 in
theorem cl_takeBack {l : Launch} {Γ : ZG} {w : ZW} {T : LT} {sg : ZSg} {A V : LA} {tm : Option Nat} {e : Nat} {D : ZD} (h : LX Γ w T 1 sg A V tm e D) (hV : Iv D) {c : Nat} (hc : c < nC D) : Ct l Γ mX6_takeBack 1 0 0 [.ref e, .ref (A 1 c)] w (PvL Γ w T sg A tm e none (takeB D c)) zNo := by
  have hI := hV.1
  refine Ct.of (by decide) rfl (Nat.le_of_ble_eq_true rfl) ?_
  refine go_aload_n 1 dX6_takeBack_0 rfl ?_
  refine gl_t h hc 4 dX6_takeBack_1 fX6_97 rfl ?_
  refine go_ifnullQ 26 7 dX6_takeBack_4 (fun n4 => ?_) (fun x4 n4 => ?_)
  · have o4 := lgO_n n4
    exact go_return dX6_takeBack_26 rfl (by omega) (by omega) (by rw [tb_1 o4]; exact ⟨rfl, _, _, FR.rf, h⟩)
  · have o4 := lgO_s n4
    refine go_aload_n 8 dX6_takeBack_7 rfl ?_
    refine gl_t h hc 11 dX6_takeBack_8 fX6_97 (tFs3 o4) ?_
    refine gl_l h (rfK hV hc o4) 14 dX6_takeBack_11 fX6_75 rfl ?_
    refine go_iconst 15 dX6_takeBack_14 zc_2 ?_
    refine go_icmp_ne 26 18 dX6_takeBack_15 (fun h15 => ?_) (fun h15 => ?_)
    · exact go_return dX6_takeBack_26 rfl (by omega) (by omega) (by rw [tb_2 o4 h15]; exact ⟨rfl, _, _, FR.rf, h⟩)
    · refine go_aload_n 19 dX6_takeBack_18 rfl ?_
      refine gl_t h hc 22 dX6_takeBack_19 fX6_97 (tFs3 o4) ?_
      refine go_iconst 23 dX6_takeBack_22 zc_1 ?_
      refine gl_lput h hI (rfK hV hc o4) FR.rf (by decide) 26 dX6_takeBack_23 pX6_75 (fun w_23 h_23 f_23 z_23 => ?_)
      exact go_return dX6_takeBack_26 rfl (by omega) (by omega) (by rw [tb_3 o4 h15]; exact ⟨rfl, _, _, f_23, h_23⟩)

set_option maxRecDepth 100000 in
set_option maxHeartbeats 4000000 in
theorem cl_fails {l : Launch} {Γ : ZG} {w : ZW} {T : LT} {sg : ZSg} {A V : LA} {tm : Option Nat} {e : Nat} {D : ZD} (h : LX Γ w T 1 sg A V tm e D) (hV : Iv D) {c : Nat} (hc : c < nC D) : Ct l Γ mX6_fails 2 0 0 [.ref e, .ref (A 1 c)] w (PvL Γ w T sg A tm e none (failD D c)) zNo := by
  have hI := hV.1
  refine Ct.of (by decide) rfl (Nat.le_of_ble_eq_true rfl) ?_
  refine go_aload_n 1 dX6_fails_0 rfl ?_
  refine gl_x h 4 dX6_fails_1 fX6_37 rfl ?_
  refine go_iconst 5 dX6_fails_4 zc_5 ?_
  refine go_dup2 6 dX6_fails_5 rfl rfl ?_
  refine gl_ti h rfl (by decide) 7 dX6_fails_6 ?_
  refine go_iconst 8 dX6_fails_7 zc_1 ?_
  refine go_iadd 9 dX6_fails_8 ?_
  refine gl_tot h hI FR.rf rfl (by decide) rfl 10 dX6_fails_9 (fun w_9 h_9 f_9 z_9 => ?_)
  refine go_aload_n 11 dX6_fails_10 rfl ?_
  refine go_aload_n 12 dX6_fails_11 rfl ?_
  refine gl_call f_9 15 [.ref (A 1 c)] dX6_fails_12 vX6_116 h_9.x.1 rfl (cl_takeBack h_9 (hV.same (sm_tally (by decide))) (lt_smC (sm_tally (by decide)) hc)) (by decide) (by decide) (by omega) (by omega) (by exact Nat.le_of_ble_eq_true rfl) (fun w_12 T_12 V_12 h_12 f_12 g_12 => ?_)
  exact go_return dX6_fails_15 rfl (by omega) (by omega) (⟨rfl, _, _, f_12, h_12⟩)
end LMut
