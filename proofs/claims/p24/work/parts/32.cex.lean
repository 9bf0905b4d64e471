section CEx
/-! the class's Exchange against the reference's row -/
/-- bounds of the calls' legs -/
abbrev ZSg : Type := Nat → Nat × Nat
def CR (D0 : ZD) (g : Option Nat) (sg : ZSg) (E : ES) (D : ZD) : Prop :=
  RelE E D ∧ Iv D ∧ Same D0 D ∧ E.2.2.2 = g ∧ ∀ c, c < nC D0 → E.1 1 (c * 8 + 6) = nI (sg c).1 ∧ E.1 1 (c * 8 + 7) = nI (sg c).2
def SegD (sg : ZSg) (D0 : ZD) : Prop := ∀ c, c < nC D0 → (sg c).1 ≤ (sg c).2 ∧ (sg c).2 ≤ nL D0 ∧ ∀ k, k < nL D0 → (ofN D0 k = c ↔ (sg c).1 ≤ k ∧ k < (sg c).2)
/-- an answer and an Exchange of which only this is known -/
def PvE (Γ : ZG) (w : ZW) (e : Nat) (r : Option Value) (P : ES → Prop) : Option Value → ZW → Prop := fun v w2 => v = r ∧ ∃ E', w2 = wE Γ w e E' ∧ P E'
theorem Cm.pe {l : Launch} {Γ : ZG} {M : ZM} {d : Nat} {as : List Value} {w w1 : ZW} {e : Nat} {r : Option Value} {E' : ES} {P : ES → Prop} (c : Cm l Γ M d as w1 r (wE Γ w e E')) (h : P E') : Ct l Γ M d 0 0 as w1 (PvE Γ w e r P) zNo := Ct.mono (fun _ _ q => ⟨q.1, E', q.2, h⟩) (fun _ _ q => q) c
section
variable {D0 D : ZD} {g : Option Nat} {sg : ZSg} {E : ES}
theorem CR.eqL (h : CR D0 g sg E D) : nL D = nL D0 := sm_nL h.2.2.1
theorem CR.eqC (h : CR D0 g sg E D) : nC D = nC D0 := sm_nC h.2.2.1
theorem CR.eqP (h : CR D0 g sg E D) : nP D = nP D0 := sm_nP h.2.2.1
theorem CR.L40 (h : CR D0 g sg E D) : nL D0 ≤ 40 := by rw [← h.eqL]; exact h.2.1.1.2.2.1.2
theorem CR.C20 (h : CR D0 g sg E D) : nC D0 ≤ 20 := by rw [← h.eqC]; exact h.2.1.1.2.1.2
theorem CR.P10 (h : CR D0 g sg E D) : nP D0 ≤ 10 := by rw [← h.eqP]; exact h.2.1.1.1.2
theorem CR.D6 (h : CR D0 g sg E D) : D 6 = nI (nL D0) := by rw [← h.eqL]; exact h.2.1.1.2.2.1.1
theorem CR.D5 (h : CR D0 g sg E D) : D 5 = nI (nC D0) := by rw [← h.eqC]; exact h.2.1.1.2.1.1
theorem CR.D4 (h : CR D0 g sg E D) : D 4 = nI (nP D0) := by rw [← h.eqP]; exact h.2.1.1.1.1
theorem CR.of (h : CR D0 g sg E D) {k : Nat} (hk : k < nL D0) : dL D k 0 = nI (ofN D k) ∧ ofN D k < nC D0 := by
  have := h.2.1.1.2.2.2 k (by rw [h.eqL]; exact hk)
  rw [h.eqC] at this
  exact this
theorem CR.ce (h : CR D0 g sg E D) {k : Nat} (hk : k < nL D0) : dL D k 1 = nI (ceN D k) ∧ ceN D k < nP D0 := by
  have := h.2.1.2.2.1 k (by rw [h.eqL]; exact hk)
  rw [h.eqP] at this
  exact this
theorem CR.ca (h : CR D0 g sg E D) {c : Nat} (hc : c < nC D0) : dC D c 0 = nI (caN D c) ∧ caN D c < nP D0 := by
  have := h.2.1.2.2.2 c (by rw [h.eqC]; exact hc)
  rw [h.eqP] at this
  exact this
theorem CR.rfk (h : CR D0 g sg E D) {c : Nat} (hc : c < nC D0) : dC D c 3 = -1 ∨ (dC D c 3 = nI (rf D c) ∧ rf D c < nL D0) := by
  have := h.2.1.2.1 c (by rw [h.eqC]; exact hc)
  rw [h.eqL] at this
  exact this
theorem CR.tL {Γ : ZG} {w : ZW} {e : Nat} (h : CR D0 g sg E D) : (wE Γ w e E).2 (e + 5) = some (.inr (4, [.ref (e + 6), .int (nI 13), .int (nI (nL D0))])) := by
  refine (wE_tab (t := 2) (by decide)).trans ?_
  rw [h.1.1.2.2.1, h.D6]
  rfl
theorem CR.tC {Γ : ZG} {w : ZW} {e : Nat} (h : CR D0 g sg E D) : (wE Γ w e E).2 (e + 3) = some (.inr (4, [.ref (e + 4), .int (nI 8), .int (nI (nC D0))])) := by
  refine (wE_tab (t := 1) (by decide)).trans ?_
  rw [h.1.1.2.1, h.D5]
  rfl
theorem CR.tP {Γ : ZG} {w : ZW} {e : Nat} (h : CR D0 g sg E D) : (wE Γ w e E).2 (e + 1) = some (.inr (4, [.ref (e + 2), .int (nI 3), .int (nI (nP D0))])) := by
  refine (wE_tab (t := 0) (by decide)).trans ?_
  rw [h.1.1.1, h.D4]
  rfl
theorem CR.tT {Γ : ZG} {w : ZW} {e : Nat} (h : CR D0 g sg E D) : (wE Γ w e E).2 (e + 7) = some (.inr (4, [.ref (e + 8), .int (nI 7), .int (nI 1)])) := by
  refine (wE_tab (t := 3) (by decide)).trans ?_
  rw [h.1.1.2.2.2]
  rfl
theorem CR.base (h : CR D0 g sg E D) : CR D g sg E D := ⟨h.1, h.2.1, sm_rf, h.2.2.2.1, fun c hc => h.2.2.2.2 c (by rw [← h.eqC]; exact hc)⟩
theorem CR.tr {D1 : ZD} (h : CR D0 g sg E D) {E' : ES} (h2 : CR D g sg E' D1) : CR D0 g sg E' D1 := ⟨h2.1, h2.2.1, h.2.2.1.trans h2.2.2.1, h2.2.2.2.1, fun c hc => h2.2.2.2.2 c (by rw [h.eqC]; exact hc)⟩
variable {l : Launch} {Γ : ZG} {w : ZW} {e : Nat} {x y : Int32}
theorem cg_L {k j : Nat} (h : CR D0 g sg E D) (hx : x = nI k) (hy : y = nI j) (hk : k < nL D0) (hj : j < 13) : Cm l Γ mX4_get 1 [.ref (e + 5), .int x, .int y] (wE Γ w e E) (some (.int (dL D k j))) (wE Γ w e E) := by
  have h40 := h.L40
  have c := ct_X4_get (l := l) (N := 520) (h.tL (Γ := Γ) (w := w) (e := e)) (wE_arr (t := 2) (by decide)) hx hy hk hj (by omega) (by decide) (by omega) (by decide)
  rw [h.1.2.2.2.2.2.1 k j (by rw [h.eqL]; exact hk) hj] at c
  exact c
theorem cg_C {k j : Nat} (h : CR D0 g sg E D) (hx : x = nI k) (hy : y = nI j) (hk : k < nC D0) (hj : j < 4) : Cm l Γ mX4_get 1 [.ref (e + 3), .int x, .int y] (wE Γ w e E) (some (.int (dC D k j))) (wE Γ w e E) := by
  have h20 := h.C20
  have c := ct_X4_get (l := l) (N := 160) (h.tC (Γ := Γ) (w := w) (e := e)) (wE_arr (t := 1) (by decide)) hx hy hk (by omega) (by omega) (by decide) (by omega) (by decide)
  rw [h.1.2.2.2.1 k j (by rw [h.eqC]; exact hk) hj] at c
  exact c
theorem cg_C5 {k : Nat} (h : CR D0 g sg E D) (hx : x = nI k) (hy : y = 5) (hk : k < nC D0) : Cm l Γ mX4_get 1 [.ref (e + 3), .int x, .int y] (wE Γ w e E) (some (.int (dC D k 4))) (wE Γ w e E) := by
  have h20 := h.C20
  have c := ct_X4_get (l := l) (N := 160) (c := 5) (h.tC (Γ := Γ) (w := w) (e := e)) (wE_arr (t := 1) (by decide)) hx hy hk (by decide) (by omega) (by decide) (by omega) (by decide)
  rw [h.1.2.2.2.2.1 k (by rw [h.eqC]; exact hk)] at c
  exact c
theorem cg_C6 {k : Nat} (h : CR D0 g sg E D) (hx : x = nI k) (hk : k < nC D0) : Cm l Γ mX4_get 1 [.ref (e + 3), .int x, .int 6] (wE Γ w e E) (some (.int (nI (sg k).1))) (wE Γ w e E) := by
  have h20 := h.C20
  have c := ct_X4_get (l := l) (N := 160) (c := 6) (y := 6) (h.tC (Γ := Γ) (w := w) (e := e)) (wE_arr (t := 1) (by decide)) hx rfl hk (by decide) (by omega) (by decide) (by omega) (by decide)
  rw [(h.2.2.2.2 k hk).1] at c
  exact c
theorem cg_C7 {k : Nat} (h : CR D0 g sg E D) (hx : x = nI k) (hk : k < nC D0) : Cm l Γ mX4_get 1 [.ref (e + 3), .int x, .int 7] (wE Γ w e E) (some (.int (nI (sg k).2))) (wE Γ w e E) := by
  have h20 := h.C20
  have c := ct_X4_get (l := l) (N := 160) (c := 7) (y := 7) (h.tC (Γ := Γ) (w := w) (e := e)) (wE_arr (t := 1) (by decide)) hx rfl hk (by decide) (by omega) (by decide) (by omega) (by decide)
  rw [(h.2.2.2.2 k hk).2] at c
  exact c
theorem cg_P {k j : Nat} (h : CR D0 g sg E D) (hx : x = nI k) (hy : y = nI j) (hk : k < nP D0) (hj : j < 3) : Cm l Γ mX4_get 1 [.ref (e + 1), .int x, .int y] (wE Γ w e E) (some (.int (dP D k j))) (wE Γ w e E) := by
  have h10 := h.P10
  have c := ct_X4_get (l := l) (N := 30) (h.tP (Γ := Γ) (w := w) (e := e)) (wE_arr (t := 0) (by decide)) hx hy hk hj (by omega) (by decide) (by omega) (by decide)
  rw [h.1.2.2.1 k j (by rw [h.eqP]; exact hk) hj] at c
  exact c
theorem cg_T {j : Nat} (h : CR D0 g sg E D) (hy : y = nI j) (hj : j < 7) : Cm l Γ mX4_get 1 [.ref (e + 7), .int 0, .int y] (wE Γ w e E) (some (.int (D (9 + j)))) (wE Γ w e E) := by
  have c := ct_X4_get (l := l) (N := 7) (r := 0) (x := 0) (h.tT (Γ := Γ) (w := w) (e := e)) (wE_arr (t := 3) (by decide)) rfl hy (by decide) hj (by decide) (by decide) (by decide) (by decide)
  rw [Nat.zero_mul, Nat.zero_add, h.1.2.2.2.2.2.2 j hj] at c
  exact c
theorem es_ne {E : ES} {t s : Nat} {f : ZD} (h : s ≠ t) : (es E t f).1 s = E.1 s := if_neg h
theorem es_eq {E : ES} {t : Nat} {f : ZD} : (es E t f).1 t = f := if_pos rfl
theorem CR.wL (h : CR D0 g sg E D) {k j : Nat} {v : Int32} (hk : k < nL D0) (h2 : 2 ≤ j) (hj : j < 13) : CR D0 g sg (es E 2 (upd (E.1 2) (k * 13 + j) v)) (setL D k j v) := by
  have hs : Same D (setL D k j v) := sm_setL h2 hj
  obtain ⟨⟨a1, a2, a3, a4, a5, a6, a7⟩, b, c, d, f⟩ := id h
  refine ⟨⟨?_, ?_, fun p i hp hi => ?_, fun q i hq hi => ?_, fun q hq => ?_, fun n i hn hi => ?_, fun i hi => ?_⟩, b.same hs, c.trans hs, d, f⟩
  · refine ⟨?_, ?_, ?_, a1.2.2.2⟩
    · rw [hs.low (by decide)]; exact a1.1
    · rw [hs.low (by decide)]; exact a1.2.1
    · rw [hs.low (by decide)]; exact a1.2.2.1
  · refine ⟨?_, ?_, ?_, ?_⟩
    · rw [hs.low (by decide)]; exact a2.1
    · rw [hs.low (by decide)]; exact a2.2.1
    · rw [hs.low (by decide)]; exact a2.2.2.1
    · rw [hs.low (by decide)]; exact a2.2.2.2
  · have hp' : p < nP D := by rw [← sm_nP hs]; exact hp
    have h10 := b.1.1.2
    rw [es_ne (by decide), hs.P (by omega) hi]
    exact a3 p i hp' hi
  · have hq' : q < nC D := by rw [← sm_nC hs]; exact hq
    have h20 := b.1.2.1.2
    rw [es_ne (by decide), hs.C (by omega) hi]
    exact a4 q i hq' hi
  · have hq' : q < nC D := by rw [← sm_nC hs]; exact hq
    have h20 := b.1.2.1.2
    rw [es_ne (by decide), show dC (setL D k j v) q 4 = dC D q 4 from if_neg (by omega)]
    exact a5 q hq'
  · have hn' : n < nL D := by rw [← sm_nL hs]; exact hn
    rw [es_eq]
    show (if n * 13 + i = k * 13 + j then v else E.1 2 (n * 13 + i)) = dL (setL D k j v) n i
    by_cases he : n * 13 + i = k * 13 + j
    · rw [if_pos he]
      exact (if_pos (by omega)).symm
    · rw [if_neg he, dL_setLn (by omega)]
      exact a6 n i hn' hi
  · rw [es_ne (by decide), show setL D k j v (9 + i) = D (9 + i) from if_neg (by omega)]
    exact a7 i hi
theorem CR.wC (h : CR D0 g sg E D) {c : Nat} {v : Int32} (hc : c < nC D0) : CR D0 g sg (es E 1 (upd (E.1 1) (c * 8 + 5) v)) (setC D c 4 v) := by
  have h20 := h.C20
  have hs : Same D (setC D c 4 v) := sm_setC (by omega)
  obtain ⟨⟨a1, a2, a3, a4, a5, a6, a7⟩, b, c9, d, f⟩ := id h
  refine ⟨⟨?_, ?_, fun p i hp hi => ?_, fun q i hq hi => ?_, fun q hq => ?_, fun n i hn hi => ?_, fun i hi => ?_⟩, b.same hs, c9.trans hs, d, fun q hq => ?_⟩
  · refine ⟨?_, ?_, ?_, a1.2.2.2⟩
    · rw [hs.low (by decide)]; exact a1.1
    · rw [hs.low (by decide)]; exact a1.2.1
    · rw [hs.low (by decide)]; exact a1.2.2.1
  · refine ⟨?_, ?_, ?_, ?_⟩
    · rw [hs.low (by decide)]; exact a2.1
    · rw [hs.low (by decide)]; exact a2.2.1
    · rw [hs.low (by decide)]; exact a2.2.2.1
    · rw [hs.low (by decide)]; exact a2.2.2.2
  · have hp' : p < nP D := by rw [← sm_nP hs]; exact hp
    have h10 := b.1.1.2
    rw [es_ne (by decide), hs.P (by omega) hi]
    exact a3 p i hp' hi
  · have hq' : q < nC D := by rw [← sm_nC hs]; exact hq
    have h20' := b.1.2.1.2
    rw [es_eq, hs.C (by omega) hi]
    exact (if_neg (by omega)).trans (a4 q i hq' hi)
  · have hq' : q < nC D := by rw [← sm_nC hs]; exact hq
    have h20' := b.1.2.1.2
    rw [es_eq]
    show (if q * 8 + 5 = c * 8 + 5 then v else E.1 1 (q * 8 + 5)) = if 46 + 5 * q + 4 = 46 + 5 * c + 4 then v else D (46 + 5 * q + 4)
    by_cases he : q = c
    · rw [if_pos (by omega), if_pos (by omega)]
    · rw [if_neg (by omega), if_neg (by omega)]; exact a5 q hq'
  · have hn' : n < nL D := by rw [← sm_nL hs]; exact hn
    rw [es_ne (by decide), show dL (setC D c 4 v) n i = dL D n i from if_neg (by omega)]
    exact a6 n i hn' hi
  · rw [es_ne (by decide), show setC D c 4 v (9 + i) = D (9 + i) from if_neg (by omega)]
    exact a7 i hi
  · rw [es_eq]
    exact ⟨(if_neg (by omega)).trans (f q hq).1, (if_neg (by omega)).trans (f q hq).2⟩
theorem CR.wT (h : CR D0 g sg E D) {t : Nat} {v : Int32} (ht : t < 7) : CR D0 g sg (es E 3 (upd (E.1 3) (0 * 7 + t) v)) (upd D (9 + t) v) := by
  have hs : Same D (upd D (9 + t) v) := sm_upd (Or.inl ⟨by omega, by omega⟩)
  obtain ⟨⟨a1, a2, a3, a4, a5, a6, a7⟩, b, c9, d, f⟩ := id h
  refine ⟨⟨?_, ?_, fun p i hp hi => ?_, fun q i hq hi => ?_, fun q hq => ?_, fun n i hn hi => ?_, fun i hi => ?_⟩, b.same hs, c9.trans hs, d, f⟩
  · refine ⟨?_, ?_, ?_, a1.2.2.2⟩
    · rw [hs.low (by decide)]; exact a1.1
    · rw [hs.low (by decide)]; exact a1.2.1
    · rw [hs.low (by decide)]; exact a1.2.2.1
  · refine ⟨?_, ?_, ?_, ?_⟩
    · rw [hs.low (by decide)]; exact a2.1
    · rw [hs.low (by decide)]; exact a2.2.1
    · rw [hs.low (by decide)]; exact a2.2.2.1
    · rw [hs.low (by decide)]; exact a2.2.2.2
  · have hp' : p < nP D := by rw [← sm_nP hs]; exact hp
    have h10 := b.1.1.2
    rw [es_ne (by decide), hs.P (by omega) hi]
    exact a3 p i hp' hi
  · have hq' : q < nC D := by rw [← sm_nC hs]; exact hq
    have h20 := b.1.2.1.2
    rw [es_ne (by decide), hs.C (by omega) hi]
    exact a4 q i hq' hi
  · have hq' : q < nC D := by rw [← sm_nC hs]; exact hq
    rw [es_ne (by decide), show dC (upd D (9 + t) v) q 4 = dC D q 4 from if_neg (by omega)]
    exact a5 q hq'
  · have hn' : n < nL D := by rw [← sm_nL hs]; exact hn
    rw [es_ne (by decide), show dL (upd D (9 + t) v) n i = dL D n i from if_neg (by omega)]
    exact a6 n i hn' hi
  · rw [es_eq]
    show (if i = 0 * 7 + t then v else E.1 3 i) = if 9 + i = 9 + t then v else D (9 + i)
    by_cases he : i = t
    · rw [if_pos (by omega), if_pos (by omega)]
    · rw [if_neg (by omega), if_neg (by omega)]; exact a7 i hi
theorem cs_L {k j : Nat} {v : Int32} (h : CR D0 g sg E D) (hx : x = nI k) (hy : y = nI j) (hk : k < nL D0) (h2 : 2 ≤ j) (hj : j < 13) : Ct l Γ mX4_set 1 0 0 [.ref (e + 5), .int x, .int y, .int v] (wE Γ w e E) (PvE Γ w e none (fun E' => CR D0 g sg E' (setL D k j v))) zNo := by
  have h40 := h.L40
  have c := ct_X4_set (l := l) (N := 520) (v := v) (h.tL (Γ := Γ) (w := w) (e := e)) (wE_arr (t := 2) (by decide)) hx hy hk hj (by omega) (by decide) (by omega) (by decide)
  have e9 : wset (wE Γ w e E) (e + 6) (.inl (Γ.2.2.1 0, 520, .inl (upd (E.1 2) (k * 13 + j) v))) = wE Γ w e (es E 2 (upd (E.1 2) (k * 13 + j) v)) := wE_setT (t := 2) (by decide)
  have c : Cm _ _ _ _ _ _ _ (wset (wE Γ w e E) (e + 6) (.inl (Γ.2.2.1 0, 520, .inl (upd (E.1 2) (k * 13 + j) v)))) := c
  rw [e9] at c
  exact c.pe (h.wL hk h2 hj)
theorem cs_C5 {k : Nat} {v : Int32} (h : CR D0 g sg E D) (hx : x = nI k) (hk : k < nC D0) : Ct l Γ mX4_set 1 0 0 [.ref (e + 3), .int x, .int 5, .int v] (wE Γ w e E) (PvE Γ w e none (fun E' => CR D0 g sg E' (setC D k 4 v))) zNo := by
  have h20 := h.C20
  have c := ct_X4_set (l := l) (N := 160) (v := v) (c := 5) (y := 5) (h.tC (Γ := Γ) (w := w) (e := e)) (wE_arr (t := 1) (by decide)) hx rfl hk (by decide) (by omega) (by decide) (by omega) (by decide)
  have e9 : wset (wE Γ w e E) (e + 4) (.inl (Γ.2.2.1 0, 160, .inl (upd (E.1 1) (k * 8 + 5) v))) = wE Γ w e (es E 1 (upd (E.1 1) (k * 8 + 5) v)) := wE_setT (t := 1) (by decide)
  have c : Cm _ _ _ _ _ _ _ (wset (wE Γ w e E) (e + 4) (.inl (Γ.2.2.1 0, 160, .inl (upd (E.1 1) (k * 8 + 5) v)))) := c
  rw [e9] at c
  exact c.pe (h.wC hk)
theorem cs_T {j : Nat} {v : Int32} (h : CR D0 g sg E D) (hy : y = nI j) (hj : j < 7) : Ct l Γ mX4_set 1 0 0 [.ref (e + 7), .int 0, .int y, .int v] (wE Γ w e E) (PvE Γ w e none (fun E' => CR D0 g sg E' (upd D (9 + j) v))) zNo := by
  have c := ct_X4_set (l := l) (N := 7) (v := v) (r := 0) (x := 0) (h.tT (Γ := Γ) (w := w) (e := e)) (wE_arr (t := 3) (by decide)) rfl hy (by decide) hj (by decide) (by decide) (by decide) (by decide)
  have e9 : wset (wE Γ w e E) (e + 8) (.inl (Γ.2.2.1 0, 7, .inl (upd (E.1 3) (0 * 7 + j) v))) = wE Γ w e (es E 3 (upd (E.1 3) (0 * 7 + j) v)) := wE_setT (t := 3) (by decide)
  have c : Cm _ _ _ _ _ _ _ (wset (wE Γ w e E) (e + 8) (.inl (Γ.2.2.1 0, 7, .inl (upd (E.1 3) (0 * 7 + j) v)))) := c
  rw [e9] at c
  exact c.pe (h.wT hj)
end
section
variable {D0 D : ZD} {g : Option Nat} {sg : ZSg} {E : ES} {l : Launch} {Γ : ZG} {M M' : ZM} {dp mc ms d' : Nat} {Φ : Option Value → ZW → Prop} {Ψ : String → ZW → Prop} {k n : Nat} {w : ZW} {pc e : Nat} {L : ZL} {st : List Value} {P : ES → Prop}
theorem xe_get {index j : Nat} {v : Value} (pc' : Nat) (hd : decode M.2.1 pc = .ok (.getfield index, 3)) (F : zF M.1.cls index 0 j) (hv : (efs e E)[j]? = some v) (kk : Go l Γ M dp mc ms Φ Ψ k n (wE Γ w e E) pc' L (v :: st)) (hp : pc + 3 = pc' := by rfl) : Go l Γ M dp mc ms Φ Ψ k n (wE Γ w e E) pc L (.ref e :: st) := go_get pc' hd F wE_at0 hv kk hp
theorem xe_fld {index : Nat} (j i : Nat) (pc' : Nat) (h : CR D0 g sg E D) (hd : decode M.2.1 pc = .ok (.getfield index, 3)) (F : zF M.1.cls index 0 j) (hj : (j = 5 ∧ i = 0) ∨ (j = 6 ∧ i = 1) ∨ (j = 7 ∧ i = 2) ∨ (j = 8 ∧ i = 3)) (kk : Go l Γ M dp mc ms Φ Ψ k n (wE Γ w e E) pc' L (.int (D i) :: st)) (hp : pc + 3 = pc' := by rfl) : Go l Γ M dp mc ms Φ Ψ k n (wE Γ w e E) pc L (.ref e :: st) := by
  refine go_get pc' hd F wE_at0 ?_ kk hp
  rcases hj with ⟨rfl, rfl⟩ | ⟨rfl, rfl⟩ | ⟨rfl, rfl⟩ | ⟨rfl, rfl⟩
  · rw [← h.1.2.1.1]; rfl
  · rw [← h.1.2.1.2.1]; rfl
  · rw [← h.1.2.1.2.2.1]; rfl
  · rw [← h.1.2.1.2.2.2]; rfl
theorem xe_rL {index : Nat} (pc' : Nat) (h : CR D0 g sg E D) (hd : decode M.2.1 pc = .ok (.getfield index, 3)) (F : zF M.1.cls index 4 2) (kk : Go l Γ M dp mc ms Φ Ψ k n (wE Γ w e E) pc' L (.int (nI (nL D0)) :: st)) (hp : pc + 3 = pc' := by rfl) : Go l Γ M dp mc ms Φ Ψ k n (wE Γ w e E) pc L (.ref (e + 5) :: st) := go_get pc' hd F h.tL rfl kk hp
theorem xe_rC {index : Nat} (pc' : Nat) (h : CR D0 g sg E D) (hd : decode M.2.1 pc = .ok (.getfield index, 3)) (F : zF M.1.cls index 4 2) (kk : Go l Γ M dp mc ms Φ Ψ k n (wE Γ w e E) pc' L (.int (nI (nC D0)) :: st)) (hp : pc + 3 = pc' := by rfl) : Go l Γ M dp mc ms Φ Ψ k n (wE Γ w e E) pc L (.ref (e + 3) :: st) := go_get pc' hd F h.tC rfl kk hp
theorem xe_rP {index : Nat} (pc' : Nat) (h : CR D0 g sg E D) (hd : decode M.2.1 pc = .ok (.getfield index, 3)) (F : zF M.1.cls index 4 2) (kk : Go l Γ M dp mc ms Φ Ψ k n (wE Γ w e E) pc' L (.int (nI (nP D0)) :: st)) (hp : pc + 3 = pc' := by rfl) : Go l Γ M dp mc ms Φ Ψ k n (wE Γ w e E) pc L (.ref (e + 1) :: st) := go_get pc' hd F h.tP rfl kk hp
theorem gxX1 {index b ci : Nat} {fs : List Value} {x1 : Value} {r : Value} (pc' : Nat) (hd : decode M.2.1 pc = .ok (.invokevirtual index, 3)) (V : zV M.1.cls index M' 1) (hw : (wE Γ w e E).2 b = some (.inr (ci, fs))) (hc : (vwCl[ci]?).map (fun q => q.1) = some M'.1.cls) (hct : Ct l Γ M' d' 0 0 (.ref b :: [x1]) (wE Γ w e E) (PvE Γ w e (some r) P) zNo) (kk : ∀ E', P E' → Go l Γ M dp mc ms Φ Ψ k n (wE Γ w e E') pc' L (r :: st)) (hdp : d' + 1 ≤ dp := by decide) (hL : M'.2.2.1 ≤ 40 := by decide) (hk : k ≤ mc := by omega) (hn : n ≤ ms := by omega) (hst : (st.map fun v => v.category).sum ≤ 8 := by exact Nat.le_of_ble_eq_true rfl) (hp : pc + 3 = pc' := by rfl) : Go l Γ M dp mc ms Φ Ψ k n (wE Γ w e E) pc L (x1 :: .ref b :: st) := by
  refine go_callV (As := [x1]) pc' hd V hw hc hct hdp hL hk hn hst ?_ hp
  intro v w2 h
  obtain ⟨rfl, E', rfl, hP⟩ := h
  exact kk E' hP
theorem gxX1v {index b ci : Nat} {fs : List Value} {x1 : Value} (pc' : Nat) (hd : decode M.2.1 pc = .ok (.invokevirtual index, 3)) (V : zV M.1.cls index M' 1) (hw : (wE Γ w e E).2 b = some (.inr (ci, fs))) (hc : (vwCl[ci]?).map (fun q => q.1) = some M'.1.cls) (hct : Ct l Γ M' d' 0 0 (.ref b :: [x1]) (wE Γ w e E) (PvE Γ w e (none) P) zNo) (kk : ∀ E', P E' → Go l Γ M dp mc ms Φ Ψ k n (wE Γ w e E') pc' L (st)) (hdp : d' + 1 ≤ dp := by decide) (hL : M'.2.2.1 ≤ 40 := by decide) (hk : k ≤ mc := by omega) (hn : n ≤ ms := by omega) (hst : (st.map fun v => v.category).sum ≤ 8 := by exact Nat.le_of_ble_eq_true rfl) (hp : pc + 3 = pc' := by rfl) : Go l Γ M dp mc ms Φ Ψ k n (wE Γ w e E) pc L (x1 :: .ref b :: st) := by
  refine go_callV (As := [x1]) pc' hd V hw hc hct hdp hL hk hn hst ?_ hp
  intro v w2 h
  obtain ⟨rfl, E', rfl, hP⟩ := h
  exact kk E' hP
theorem gxX2 {index b ci : Nat} {fs : List Value} {x1 x2 : Value} {r : Value} (pc' : Nat) (hd : decode M.2.1 pc = .ok (.invokevirtual index, 3)) (V : zV M.1.cls index M' 2) (hw : (wE Γ w e E).2 b = some (.inr (ci, fs))) (hc : (vwCl[ci]?).map (fun q => q.1) = some M'.1.cls) (hct : Ct l Γ M' d' 0 0 (.ref b :: [x1, x2]) (wE Γ w e E) (PvE Γ w e (some r) P) zNo) (kk : ∀ E', P E' → Go l Γ M dp mc ms Φ Ψ k n (wE Γ w e E') pc' L (r :: st)) (hdp : d' + 1 ≤ dp := by decide) (hL : M'.2.2.1 ≤ 40 := by decide) (hk : k ≤ mc := by omega) (hn : n ≤ ms := by omega) (hst : (st.map fun v => v.category).sum ≤ 8 := by exact Nat.le_of_ble_eq_true rfl) (hp : pc + 3 = pc' := by rfl) : Go l Γ M dp mc ms Φ Ψ k n (wE Γ w e E) pc L (x2 :: x1 :: .ref b :: st) := by
  refine go_callV (As := [x1, x2]) pc' hd V hw hc hct hdp hL hk hn hst ?_ hp
  intro v w2 h
  obtain ⟨rfl, E', rfl, hP⟩ := h
  exact kk E' hP
theorem gxX2v {index b ci : Nat} {fs : List Value} {x1 x2 : Value} (pc' : Nat) (hd : decode M.2.1 pc = .ok (.invokevirtual index, 3)) (V : zV M.1.cls index M' 2) (hw : (wE Γ w e E).2 b = some (.inr (ci, fs))) (hc : (vwCl[ci]?).map (fun q => q.1) = some M'.1.cls) (hct : Ct l Γ M' d' 0 0 (.ref b :: [x1, x2]) (wE Γ w e E) (PvE Γ w e (none) P) zNo) (kk : ∀ E', P E' → Go l Γ M dp mc ms Φ Ψ k n (wE Γ w e E') pc' L (st)) (hdp : d' + 1 ≤ dp := by decide) (hL : M'.2.2.1 ≤ 40 := by decide) (hk : k ≤ mc := by omega) (hn : n ≤ ms := by omega) (hst : (st.map fun v => v.category).sum ≤ 8 := by exact Nat.le_of_ble_eq_true rfl) (hp : pc + 3 = pc' := by rfl) : Go l Γ M dp mc ms Φ Ψ k n (wE Γ w e E) pc L (x2 :: x1 :: .ref b :: st) := by
  refine go_callV (As := [x1, x2]) pc' hd V hw hc hct hdp hL hk hn hst ?_ hp
  intro v w2 h
  obtain ⟨rfl, E', rfl, hP⟩ := h
  exact kk E' hP
theorem gxX3 {index b ci : Nat} {fs : List Value} {x1 x2 x3 : Value} {r : Value} (pc' : Nat) (hd : decode M.2.1 pc = .ok (.invokevirtual index, 3)) (V : zV M.1.cls index M' 3) (hw : (wE Γ w e E).2 b = some (.inr (ci, fs))) (hc : (vwCl[ci]?).map (fun q => q.1) = some M'.1.cls) (hct : Ct l Γ M' d' 0 0 (.ref b :: [x1, x2, x3]) (wE Γ w e E) (PvE Γ w e (some r) P) zNo) (kk : ∀ E', P E' → Go l Γ M dp mc ms Φ Ψ k n (wE Γ w e E') pc' L (r :: st)) (hdp : d' + 1 ≤ dp := by decide) (hL : M'.2.2.1 ≤ 40 := by decide) (hk : k ≤ mc := by omega) (hn : n ≤ ms := by omega) (hst : (st.map fun v => v.category).sum ≤ 8 := by exact Nat.le_of_ble_eq_true rfl) (hp : pc + 3 = pc' := by rfl) : Go l Γ M dp mc ms Φ Ψ k n (wE Γ w e E) pc L (x3 :: x2 :: x1 :: .ref b :: st) := by
  refine go_callV (As := [x1, x2, x3]) pc' hd V hw hc hct hdp hL hk hn hst ?_ hp
  intro v w2 h
  obtain ⟨rfl, E', rfl, hP⟩ := h
  exact kk E' hP
theorem gxX3v {index b ci : Nat} {fs : List Value} {x1 x2 x3 : Value} (pc' : Nat) (hd : decode M.2.1 pc = .ok (.invokevirtual index, 3)) (V : zV M.1.cls index M' 3) (hw : (wE Γ w e E).2 b = some (.inr (ci, fs))) (hc : (vwCl[ci]?).map (fun q => q.1) = some M'.1.cls) (hct : Ct l Γ M' d' 0 0 (.ref b :: [x1, x2, x3]) (wE Γ w e E) (PvE Γ w e (none) P) zNo) (kk : ∀ E', P E' → Go l Γ M dp mc ms Φ Ψ k n (wE Γ w e E') pc' L (st)) (hdp : d' + 1 ≤ dp := by decide) (hL : M'.2.2.1 ≤ 40 := by decide) (hk : k ≤ mc := by omega) (hn : n ≤ ms := by omega) (hst : (st.map fun v => v.category).sum ≤ 8 := by exact Nat.le_of_ble_eq_true rfl) (hp : pc + 3 = pc' := by rfl) : Go l Γ M dp mc ms Φ Ψ k n (wE Γ w e E) pc L (x3 :: x2 :: x1 :: .ref b :: st) := by
  refine go_callV (As := [x1, x2, x3]) pc' hd V hw hc hct hdp hL hk hn hst ?_ hp
  intro v w2 h
  obtain ⟨rfl, E', rfl, hP⟩ := h
  exact kk E' hP
theorem gxX4 {index b ci : Nat} {fs : List Value} {x1 x2 x3 x4 : Value} {r : Value} (pc' : Nat) (hd : decode M.2.1 pc = .ok (.invokevirtual index, 3)) (V : zV M.1.cls index M' 4) (hw : (wE Γ w e E).2 b = some (.inr (ci, fs))) (hc : (vwCl[ci]?).map (fun q => q.1) = some M'.1.cls) (hct : Ct l Γ M' d' 0 0 (.ref b :: [x1, x2, x3, x4]) (wE Γ w e E) (PvE Γ w e (some r) P) zNo) (kk : ∀ E', P E' → Go l Γ M dp mc ms Φ Ψ k n (wE Γ w e E') pc' L (r :: st)) (hdp : d' + 1 ≤ dp := by decide) (hL : M'.2.2.1 ≤ 40 := by decide) (hk : k ≤ mc := by omega) (hn : n ≤ ms := by omega) (hst : (st.map fun v => v.category).sum ≤ 8 := by exact Nat.le_of_ble_eq_true rfl) (hp : pc + 3 = pc' := by rfl) : Go l Γ M dp mc ms Φ Ψ k n (wE Γ w e E) pc L (x4 :: x3 :: x2 :: x1 :: .ref b :: st) := by
  refine go_callV (As := [x1, x2, x3, x4]) pc' hd V hw hc hct hdp hL hk hn hst ?_ hp
  intro v w2 h
  obtain ⟨rfl, E', rfl, hP⟩ := h
  exact kk E' hP
theorem gxX4v {index b ci : Nat} {fs : List Value} {x1 x2 x3 x4 : Value} (pc' : Nat) (hd : decode M.2.1 pc = .ok (.invokevirtual index, 3)) (V : zV M.1.cls index M' 4) (hw : (wE Γ w e E).2 b = some (.inr (ci, fs))) (hc : (vwCl[ci]?).map (fun q => q.1) = some M'.1.cls) (hct : Ct l Γ M' d' 0 0 (.ref b :: [x1, x2, x3, x4]) (wE Γ w e E) (PvE Γ w e (none) P) zNo) (kk : ∀ E', P E' → Go l Γ M dp mc ms Φ Ψ k n (wE Γ w e E') pc' L (st)) (hdp : d' + 1 ≤ dp := by decide) (hL : M'.2.2.1 ≤ 40 := by decide) (hk : k ≤ mc := by omega) (hn : n ≤ ms := by omega) (hst : (st.map fun v => v.category).sum ≤ 8 := by exact Nat.le_of_ble_eq_true rfl) (hp : pc + 3 = pc' := by rfl) : Go l Γ M dp mc ms Φ Ψ k n (wE Γ w e E) pc L (x4 :: x3 :: x2 :: x1 :: .ref b :: st) := by
  refine go_callV (As := [x1, x2, x3, x4]) pc' hd V hw hc hct hdp hL hk hn hst ?_ hp
  intro v w2 h
  obtain ⟨rfl, E', rfl, hP⟩ := h
  exact kk E' hP
theorem gxX0v {index b ci : Nat} {fs : List Value} (pc' : Nat) (hd : decode M.2.1 pc = .ok (.invokevirtual index, 3)) (V : zV M.1.cls index M' 0) (hw : (wE Γ w e E).2 b = some (.inr (ci, fs))) (hc : (vwCl[ci]?).map (fun q => q.1) = some M'.1.cls) (hct : Ct l Γ M' d' 0 0 (.ref b :: []) (wE Γ w e E) (PvE Γ w e none P) zNo) (kk : ∀ E', P E' → Go l Γ M dp mc ms Φ Ψ k n (wE Γ w e E') pc' L st) (hdp : d' + 1 ≤ dp := by decide) (hL : M'.2.2.1 ≤ 40 := by decide) (hk : k ≤ mc := by omega) (hn : n ≤ ms := by omega) (hst : (st.map fun v => v.category).sum ≤ 8 := by exact Nat.le_of_ble_eq_true rfl) (hp : pc + 3 = pc' := by rfl) : Go l Γ M dp mc ms Φ Ψ k n (wE Γ w e E) pc L (.ref b :: st) := by
  refine go_callV (As := []) pc' hd V hw hc hct hdp hL hk hn hst ?_ hp
  intro v w2 h
  obtain ⟨rfl, E', rfl, hP⟩ := h
  exact kk E' hP
end
end CEx
