section COps
/-! offers, hanging up, transfers; an exchange copied, cleared; a party put on *)-/
noncomputable def mkO (D : ZD) (k s : Nat) (v : Int32) : Int32 × ZD := if dL D k 6 = nI s then (0, D) else if dL D k 6 = -1 then (1, layD D k (nI s) v) else (-1, glrD D k (1 - s) s v)
theorem off_mkO {D : ZD} {k : Nat} {p v : Int32} : offD D k p v = mkO D k (sdN D k p) v := rfl
theorem glr_eq {D : ZD} {k o s : Nat} {v : Int32} (h : (o = 0 ∧ s = 1) ∨ (o = 1 ∧ s = 0)) : tally (setL (setL (setL (setL (setL D k (9 + o) (D 0 + (if o = 0 then D 1 else D 2))) k (11 + o) (dL D k 7)) k (9 + s) ((setL (setL D k (9 + o) (D 0 + (if o = 0 then D 1 else D 2))) k (11 + o) (dL D k 7)) 0 + (if s = 0 then (setL (setL D k (9 + o) (D 0 + (if o = 0 then D 1 else D 2))) k (11 + o) (dL D k 7)) 1 else (setL (setL D k (9 + o) (D 0 + (if o = 0 then D 1 else D 2))) k (11 + o) (dL D k 7)) 2))) k (11 + s) v) k 6 (-1)) 2 = glrD D k o s v := by
  unfold glrD
  simp only
  refine congrArg (fun X => tally X 2) ?_
  refine congrArg (fun X => setL X k 6 (-1)) ?_
  funext i
  rcases h with ⟨rfl, rfl⟩ | ⟨rfl, rfl⟩ <;>
  · unfold setL upd
    by_cases h1 : i = 146 + 13 * k + 9
    · subst h1
      simp
      try omega
    · by_cases h2 : i = 146 + 13 * k + 10
      · subst h2
        simp
        try omega
      · by_cases h3 : i = 146 + 13 * k + 11
        · subst h3
          simp
        · by_cases h4 : i = 146 + 13 * k + 12
          · subst h4
            simp
          · simp [h1, h2, h3, h4]
theorem leg_ok {D : ZD} (hL : nL D ≤ 40) {x s : Int32} (h : legW D x s ≠ -1) : legW D x s = nI (tN (legW D x s)) ∧ tN (legW D x s) < nL D ∧ dL D (tN (legW D x s)) 2 = s ∧ inLeg D x (tN (legW D x s)) := zfind_ok (by omega) h
theorem rng_ok {D : ZD} (hC : nC D ≤ 20) {x : Int32} (h : rngOf D x ≠ -1) : rngOf D x = nI (tN (rngOf D x)) ∧ tN (rngOf D x) < nC D := by
  have := zfind_ok (P := fun c => dC D c 0 = x ∧ rngs D (nI c)) (n := nC D) (by omega) h
  exact ⟨this.1, this.2.1⟩
theorem rung_0 {D : ZD} (hL : nL D ≤ 40) {x : Int32} : (rung D x = 0 → ∀ k, 0 ≤ k → k < 0 + nL D → ¬ KP x D k) ∧ ((0 : Int32) < rung D x ↔ ¬ rung D x = 0) := by
  obtain ⟨m, h1, h2, h3⟩ := zcnt_nI (P := KP x D) (nL D) 0 0
  have e : rung D x = nI m := by rw [Nat.zero_add] at h2; exact h2
  have hz : rung D x = 0 ↔ m = 0 := by
    rw [e]
    exact nI_eq (b := 0) (by omega) (by decide)
  refine ⟨fun q k a b => h3 (hz.mp q) k a b, ?_⟩
  rw [hz, e]
  exact (nI_ltI (a := 0) (by decide) (by omega)).trans (by omega)
theorem at_2 {p r : Int32} {D : ZD} : (itr (atS p r) 0 (nL D) (D, 0)).2 = rung D p := at_snd (nL D) 0 D 0
theorem hold_GI {sg : ZSg} {D : ZD} (h : GI sg D) {k : Nat} : GI sg (dropD (setL D k 2 2) k) := by
  have s : Same D (dropD (setL D k 2 2) k) := (sm_setL (by decide) (by decide)).trans sm_drop
  refine h.same s (h.jo.row (k := k) s (fun k' j e hj => ?_) (fun _ => ?_))
  · exact (row_drop _ (by omega)).trans (dL_setLn (by omega))
  · have e2 : dL (dropD (setL D k 2 2) k) k 2 = 2 := by rw [drop_2 (by decide), dL_setL]
    exact ⟨Or.inr (Or.inr (Or.inl e2)), fun _ => drop_v, Or.inl drop_v.1⟩
theorem sh_pow : ∀ t, t < 10 → (1 : Int32) <<< (nI t &&& 31) = nI (2 ^ t) ∧ 2 ^ t < 1024 := by decide +kernel
theorem go_stk {l : Launch} {Γ : ZG} {M : ZM} {dp mc ms : Nat} {Φ : Option Value → ZW → Prop} {Ψ : String → ZW → Prop} {k n : Nat} {w : ZW} {pc : Nat} {L : ZL} {st st' : List Value} (h : st = st') (kk : Go l Γ M dp mc ms Φ Ψ k n w pc L st') : Go l Γ M dp mc ms Φ Ψ k n w pc L st := by subst h; exact kk
section
variable {l : Launch} {Γ : ZG} {M : ZM} {dp mc ms : Nat} {Φ : Option Value → ZW → Prop} {Ψ : String → ZW → Prop} {k n : Nat} {w : ZW} {pc e : Nat} {L : ZL} {st : List Value} {E : ES}
theorem xe_putR {index : Nat} (r : Option Nat) (pc' : Nat) (hd : decode M.2.1 pc = .ok (.putfield index, 3)) (F : zFp M.1.cls index 0 4 (.object RX2)) (kk : Go l Γ M dp mc ms Φ Ψ k n (wE Γ w e (eg E r)) pc' L st) (hp : pc + 3 = pc' := by rfl) : Go l Γ M dp mc ms Φ Ψ k n (wE Γ w e E) pc L (va_rf r :: .ref e :: st) := by
  have e9 : wset (wE Γ w e E) e (.inr (0, (efs e E).set 4 (va_rf r))) = wE Γ w e (eg E r) := wE_setF rfl rfl rfl
  refine go_put pc' hd F wE_at0 (by show 4 < 9; omega) (by cases r <;> rfl) (by cases r <;> rfl) ?_ hp
  rw [e9]
  exact kk
theorem xe_clear {t index : Nat} (ht : t < 4) (pc' : Nat) (hd : decode M.2.1 pc = .ok (.invokevirtual index, 3)) (V : zV M.1.cls index mX4_clear 0) (hdp : 2 ≤ dp) (kk : Go l Γ M dp mc ms Φ Ψ k n (wE Γ w e (er E t 0)) pc' L st) (hk : k ≤ mc := by omega) (hn : n ≤ ms := by omega) (hst : (st.map fun v => v.category).sum ≤ 8 := by exact Nat.le_of_ble_eq_true rfl) (hp : pc + 3 = pc' := by rfl) : Go l Γ M dp mc ms Φ Ψ k n (wE Γ w e E) pc L (.ref (e + (1 + 2 * t)) :: st) := by
  have c := ct_X4_clear (l := l) (Γ := Γ) (wE_tab (Γ := Γ) (w := w) (e := e) (E := E) ht)
  rw [show wset (wE Γ w e E) (e + (1 + 2 * t)) (.inr (4, [.ref (e + (2 + 2 * t)), .int (nI (ccol t)), .int 0])) = wE Γ w e (er E t 0) from wE_setR ht] at c
  exact gcV0v pc' hd V (wE_tab ht) rfl c kk hdp (by decide) hk hn hst hp
end
theorem ca_T {l : Launch} {Γ : ZG} {w : ZW} {e : Nat} {E : ES} (hR : E.2.1 3 = 0) : Cm l Γ mX4_addRow 2 [.ref (e + 7)] (wE Γ w e E) (some (.int 0)) (wE Γ w e (es (er E 3 1) 3 (zrow (E.1 3) 0 7))) := by
  have ht : (wE Γ w e E).2 (e + 7) = some (.inr (4, [.ref (e + 8), .int (nI 7), .int (nI 0)])) := by
    refine (wE_tab (t := 3) (by decide)).trans ?_
    rw [hR]; rfl
  have c := ct_X4_addRow (l := l) (N := 7) ht (wE_arr (t := 3) (by decide)) (by omega) (by omega) (by decide) (by omega) (by decide)
  have e1 : wset (wE Γ w e E) (e + 7) (.inr (4, [.ref (e + 8), .int (nI 7), .int 1])) = wE Γ w e (er E 3 1) := wE_setR (t := 3) (by decide)
  have e2 : wset (wE Γ w e (er E 3 1)) (e + 8) (.inl (Γ.2.2.1 0, 7, .inl (zrow (E.1 3) 0 7))) = wE Γ w e (es (er E 3 1) 3 (zrow (E.1 3) 0 7)) := wE_setT (t := 3) (by decide)
  have c : Cm _ _ _ _ _ _ _ (wset (wset (wE Γ w e E) (e + 7) (.inr (4, [.ref (e + 8), .int (nI 7), .int 1]))) (e + 8) (.inl (Γ.2.2.1 0, 7, .inl (zrow (E.1 3) (0 * 7) 7)))) := c
  rw [e1, Nat.zero_mul, e2] at c
  exact c
/-- an exchange's rows are within its tables -/
def RB (F : ES) (n0 n1 n2 : Nat) : Prop := (F.2.1 0 = nI n0 ∧ n0 ≤ 10) ∧ (F.2.1 1 = nI n1 ∧ n1 ≤ 20) ∧ (F.2.1 2 = nI n2 ∧ n2 ≤ 40) ∧ F.2.1 3 = 1
def cpT (E F : ES) (t n : Nat) : ES := es (er E t (nI n)) t (cpi (F.1 t) (E.1 t) (n * ccol t))
/-- an exchange copied -/
def cpE (E F : ES) (n0 n1 n2 : Nat) : ES :=
  ef (ef (ef (ef (eg (cpT (cpT (cpT (cpT E F 0 n0) F 1 n1) F 2 n2) F 3 1) F.2.2.2) 5 (F.2.2.1 5)) 6 (F.2.2.1 6)) 7 (F.2.2.1 7)) 8 (F.2.2.1 8)
theorem ct_cpT {l : Launch} {Γ : ZG} {w : ZW} {e f t n : Nat} {E F : ES} (ht : t < 4) (hF : ∀ j, j < 9 → w.2 (f + j) = some (ecell Γ f F j)) (hef : e + 9 ≤ f ∨ f + 9 ≤ e) (hR : F.2.1 t = nI n) (hn : n * ccol t ≤ csz t) (hnb : n ≤ 40) : Cm l Γ mX4_copyFrom 1 [.ref (e + (1 + 2 * t)), .ref (f + (1 + 2 * t))] (wE Γ w e E) none (wE Γ w e (cpT E F t n)) := by
  have hcs : csz t ≤ 520 ∧ ccol t ≤ 520 := by
    rcases (show t = 0 ∨ t = 1 ∨ t = 2 ∨ t = 3 by omega) with rfl | rfl | rfl | rfl <;> exact ⟨by decide, by decide⟩
  have hu : (wE Γ w e E).2 (f + (1 + 2 * t)) = some (.inr (4, [.ref (f + (2 + 2 * t)), .int (nI (ccol t)), .int (nI n)])) := by
    rw [wE_out (by omega), hF _ (by omega)]
    unfold ecell etab
    rw [if_neg (by omega), if_pos (by omega), show (1 + 2 * t) / 2 = t by omega, show 1 + 2 * t + 1 = 2 + 2 * t by omega, hR]
  have hb : (wE Γ w e E).2 (f + (2 + 2 * t)) = some (.inl (Γ.2.2.1 0, csz t, .inl (F.1 t))) := by
    rw [wE_out (by omega), hF _ (by omega)]
    unfold ecell
    rw [if_neg (by omega), if_neg (by omega), show (2 + 2 * t) / 2 - 1 = t by omega]
  have c := ct_X4_copyFrom (l := l) (wE_tab (Γ := Γ) (w := w) (e := e) (E := E) ht) (wE_arr ht) hu hb (by omega) (by omega) (by omega) (by omega) (by omega) hn hcs.1 (by omega) hcs.2
  rw [show wset (wE Γ w e E) (e + (1 + 2 * t)) (.inr (4, [.ref (e + (2 + 2 * t)), .int (nI (ccol t)), .int (nI n)])) = wE Γ w e (er E t (nI n)) from wE_setR ht] at c
  have e2 : wset (wE Γ w e (er E t (nI n))) (e + (2 + 2 * t)) (.inl (Γ.2.2.1 0, csz t, .inl (cpi (F.1 t) (E.1 t) (n * ccol t)))) = wE Γ w e (cpT E F t n) := wE_setT ht
  rw [e2] at c
  exact c
theorem cpT_t {E F : ES} {t n : Nat} : (cpT E F t n).1 t = cpi (F.1 t) (E.1 t) (n * ccol t) ∧ (cpT E F t n).2.1 t = nI n := ⟨if_pos rfl, if_pos rfl⟩
theorem cpT_o {E F : ES} {t s n : Nat} (h : s ≠ t) : (cpT E F t n).1 s = E.1 s ∧ (cpT E F t n).2.1 s = E.2.1 s := ⟨if_neg h, if_neg h⟩
theorem cpi_lt {f g : Nat → Int32} {n i : Nat} (h : i < n) : cpi f g n i = f i := if_pos h
theorem cpE_what {E F : ES} {n0 n1 n2 : Nat} (hR : RB F n0 n1 n2) : (∀ t, t < 4 → (cpE E F n0 n1 n2).2.1 t = F.2.1 t) ∧ (∀ j, 5 ≤ j → j < 9 → (cpE E F n0 n1 n2).2.2.1 j = F.2.2.1 j) ∧ (cpE E F n0 n1 n2).2.2.2 = F.2.2.2 ∧ (∀ i, i < n0 * 3 → (cpE E F n0 n1 n2).1 0 i = F.1 0 i) ∧ (∀ i, i < n1 * 8 → (cpE E F n0 n1 n2).1 1 i = F.1 1 i) ∧ (∀ i, i < n2 * 13 → (cpE E F n0 n1 n2).1 2 i = F.1 2 i) ∧ ∀ i, i < 7 → (cpE E F n0 n1 n2).1 3 i = F.1 3 i := by
  have e1 : (cpE E F n0 n1 n2).1 = (cpT (cpT (cpT (cpT E F 0 n0) F 1 n1) F 2 n2) F 3 1).1 := rfl
  have e2 : (cpE E F n0 n1 n2).2.1 = (cpT (cpT (cpT (cpT E F 0 n0) F 1 n1) F 2 n2) F 3 1).2.1 := rfl
  refine ⟨fun t ht => ?_, fun j h1 h2 => ?_, rfl, fun i hi => ?_, fun i hi => ?_, fun i hi => ?_, fun i hi => ?_⟩
  · rw [e2]
    rcases (show t = 0 ∨ t = 1 ∨ t = 2 ∨ t = 3 by omega) with rfl | rfl | rfl | rfl
    · rw [(cpT_o (by decide)).2, (cpT_o (by decide)).2, (cpT_o (by decide)).2, cpT_t.2, hR.1.1]
    · rw [(cpT_o (by decide)).2, (cpT_o (by decide)).2, cpT_t.2, hR.2.1.1]
    · rw [(cpT_o (by decide)).2, cpT_t.2, hR.2.2.1.1]
    · rw [cpT_t.2, hR.2.2.2]; rfl
  · rcases (show j = 5 ∨ j = 6 ∨ j = 7 ∨ j = 8 by omega) with rfl | rfl | rfl | rfl <;> rfl
  · rw [e1, (cpT_o (by decide)).1, (cpT_o (by decide)).1, (cpT_o (by decide)).1, cpT_t.1]
    exact cpi_lt hi
  · rw [e1, (cpT_o (by decide)).1, (cpT_o (by decide)).1, cpT_t.1]
    exact cpi_lt hi
  · rw [e1, (cpT_o (by decide)).1, cpT_t.1]
    exact cpi_lt hi
  · rw [e1, cpT_t.1]
    exact cpi_lt hi
theorem CR.rb {D0 D : ZD} {g : Option Nat} {sg : ZSg} {F : ES} (h : CR D0 g sg F D) : RB F (nP D0) (nC D0) (nL D0) := ⟨⟨h.1.1.1.trans h.D4, h.P10⟩, ⟨h.1.1.2.1.trans h.D5, h.C20⟩, ⟨h.1.1.2.2.1.trans h.D6, h.L40⟩, h.1.1.2.2.2⟩
theorem CR.cpy {D : ZD} {g : Option Nat} {sg : ZSg} {F : ES} (h : CR D g sg F D) (E : ES) : CR D g sg (cpE E F (nP D) (nC D) (nL D)) D := by
  obtain ⟨w1, w2, w3, w4, w5, w6, w7⟩ := cpE_what (E := E) h.rb
  obtain ⟨⟨a1, a2, a3, a4, a5, a6, a7⟩, b, c9, d, f⟩ := h
  refine ⟨⟨⟨?_, ?_, ?_, ?_⟩, ⟨?_, ?_, ?_, ?_⟩, fun p i hp hi => ?_, fun p i hp hi => ?_, fun p hp => ?_, fun k i hk hi => ?_, fun i hi => ?_⟩, b, sm_rf, ?_, fun p hp => ?_⟩
  · rw [w1 _ (by decide)]; exact a1.1
  · rw [w1 _ (by decide)]; exact a1.2.1
  · rw [w1 _ (by decide)]; exact a1.2.2.1
  · rw [w1 _ (by decide)]; exact a1.2.2.2
  · rw [w2 _ (by decide) (by decide)]; exact a2.1
  · rw [w2 _ (by decide) (by decide)]; exact a2.2.1
  · rw [w2 _ (by decide) (by decide)]; exact a2.2.2.1
  · rw [w2 _ (by decide) (by decide)]; exact a2.2.2.2
  · rw [w4 _ (by omega)]; exact a3 p i hp hi
  · rw [w5 _ (by omega)]; exact a4 p i hp hi
  · rw [w5 _ (by omega)]; exact a5 p hp
  · rw [w6 _ (by omega)]; exact a6 k i hk hi
  · rw [w7 _ hi]; exact a7 i hi
  · rw [w3]; exact d
  · rw [w5 _ (by omega), w5 _ (by omega)]; exact f p hp
/-- an exchange cleared -/
def clE (E : ES) : ES := ef (ef (ef (ef (eg (es (er (er (er (er (er E 0 0) 1 0) 2 0) 3 0) 3 1) 3 (zrow (E.1 3) 0 7)) none) 5 0) 6 3) 7 5) 8 20
theorem clE_rel {E : ES} : RelE (clE E) usual ∧ (clE E).2.2.2 = none := by
  refine ⟨⟨⟨rfl, rfl, rfl, rfl⟩, ⟨rfl, rfl, rfl, rfl⟩, fun p j hp hj => absurd hp (Nat.not_lt_zero p), fun p j hp hj => absurd hp (Nat.not_lt_zero p), fun p hp => absurd hp (Nat.not_lt_zero p), fun p j hp hj => absurd hp (Nat.not_lt_zero p), fun j hj => ?_⟩, rfl⟩
  have e : (clE E).1 3 = zrow (E.1 3) 0 7 := rfl
  rw [e, zrow_i (by omega)]
  unfold usual
  rw [pk_un (by omega), pk_un (by omega), pk_un (by omega)]
def aP (E : ES) (m : Nat) (a r c : Int32) : ES :=
  let E1 := es (er E 0 (nI (m + 1))) 0 (zrow (E.1 0) (m * 3) 3)
  let Ea := es E1 0 (upd (E1.1 0) (m * 3 + 0) a)
  let Eb := es Ea 0 (upd (Ea.1 0) (m * 3 + 1) r)
  es Eb 0 (upd (Eb.1 0) (m * 3 + 2) c)
theorem aP_0 {E : ES} {m : Nat} {a r c : Int32} : (aP E m a r c).1 0 = upd (upd (upd (zrow (E.1 0) (m * 3) 3) (m * 3 + 0) a) (m * 3 + 1) r) (m * 3 + 2) c := rfl
theorem addP_row {G : ZD} {a r c : Int32} {j : Nat} (hj : j < 3) : dP (addP G a r c) (nP G) j = if j = 0 then a else if j = 1 then r else c := by
  unfold dP addP
  rw [pk_un (by omega)]
  rcases (show j = 0 ∨ j = 1 ∨ j = 2 by omega) with rfl | rfl | rfl
  · rw [pk_un (by omega), pk_un (by omega)]
    exact pk_us
  · rw [pk_un (by omega)]
    exact pk_us
  · exact pk_us
theorem aP_row {E : ES} {m : Nat} {a r c : Int32} {j : Nat} (hj : j < 3) : (aP E m a r c).1 0 (m * 3 + j) = if j = 0 then a else if j = 1 then r else c := by
  rw [aP_0]
  rcases (show j = 0 ∨ j = 1 ∨ j = 2 by omega) with rfl | rfl | rfl
  · rw [pk_un (by omega), pk_un (by omega)]
    exact pk_us
  · rw [pk_un (by omega)]
    exact pk_us
  · exact pk_us
theorem aP_rel {E : ES} {G : ZD} {a r c : Int32} (h : RelE E G) (h4 : G 4 = nI (nP G)) (hn : nP G < 10) (hz : G 5 = 0 ∧ G 6 = 0) : RelE (aP E (nP G) a r c) (addP G a r c) := by
  obtain ⟨a1, a2, a3, a4, a5, a6, a7⟩ := h
  have n := addP_n (a := a) (r := r) (c := c) h4 (Nat.le_of_lt hn)
  have z1 : nC (addP G a r c) = 0 := by unfold nC; rw [addP_at (by omega) (by omega) (by omega) (by omega), hz.1]; rfl
  have z2 : nL (addP G a r c) = 0 := by unfold nL; rw [addP_at (by omega) (by omega) (by omega) (by omega), hz.2]; rfl
  refine ⟨⟨?_, ?_, ?_, ?_⟩, ⟨?_, ?_, ?_, ?_⟩, fun p j hp hj => ?_, fun p j hp hj => ?_, fun p hp => ?_, fun p j hp hj => ?_, fun j hj => ?_⟩
  · rw [n.1]; rfl
  · rw [addP_at (by omega) (by omega) (by omega) (by omega)]; exact a1.2.1
  · rw [addP_at (by omega) (by omega) (by omega) (by omega)]; exact a1.2.2.1
  · exact a1.2.2.2
  · rw [addP_at (by omega) (by omega) (by omega) (by omega)]; exact a2.1
  · rw [addP_at (by omega) (by omega) (by omega) (by omega)]; exact a2.2.1
  · rw [addP_at (by omega) (by omega) (by omega) (by omega)]; exact a2.2.2.1
  · rw [addP_at (by omega) (by omega) (by omega) (by omega)]; exact a2.2.2.2
  · rw [n.2] at hp
    by_cases e : p = nP G
    · subst e
      exact (aP_row hj).trans (addP_row hj).symm
    · unfold dP
      rw [aP_0, pk_un (by omega), pk_un (by omega), pk_un (by omega), zrow_o (Or.inl (by omega)), addP_at (by omega) (by omega) (by omega) (by omega)]
      exact a3 p j (by omega) hj
  · rw [z1] at hp; omega
  · rw [z1] at hp; omega
  · rw [z2] at hp; omega
  · rw [addP_at (by omega) (by omega) (by omega) (by omega)]
    exact a7 j hj
set_option maxRecDepth 100000 in
set_option maxHeartbeats 4000000 in
theorem cx_X0_makeOffer {D0 D : ZD} {g : Option Nat} {sg : ZSg} {E : ES} {l : Launch} {Γ : ZG} {w : ZW} {e : Nat} (h : CR D0 g sg E D) {k s : Nat} {x v : Int32} (hx : x = nI k) (hk : k < nL D0) (hs : s < 2) (h6 : dL D k 6 = -1 ∨ dL D k 6 = 0 ∨ dL D k 6 = 1) : Ct l Γ mX0_makeOffer 3 0 0 [.ref e, .int x, .int (nI s), .int v] (wE Γ w e E) (PvE Γ w e (some (.int (mkO D k s v).1)) (fun E' => CR D0 g sg E' (mkO D k s v).2)) zNo := by
  refine Ct.of (by decide) rfl (Nat.le_of_ble_eq_true rfl) ?_
  refine go_aload_n 1 dX0_makeOffer_0 rfl ?_
  refine xe_get 4 dX0_makeOffer_1 fX0_23 rfl ?_
  refine go_iload_n 5 dX0_makeOffer_4 rfl ?_
  refine go_bipush 7 dX0_makeOffer_5 zb_6 ?_
  refine gcV2 10 dX0_makeOffer_7 vX0_64 h.tL rfl (cg_L (k := k) (j := 6) h hx rfl hk (by decide)) ?_
  refine go_istore 12 dX0_makeOffer_10 (by decide) ?_
  refine go_iload 14 dX0_makeOffer_12 rfl ?_
  refine go_iload_n 15 dX0_makeOffer_14 rfl ?_
  refine go_icmp_ne 20 18 dX0_makeOffer_15 (fun h15 => ?_) (fun h15 => ?_)
  · refine go_iload 22 dX0_makeOffer_20 rfl ?_
    refine go_iconst 23 dX0_makeOffer_22 zc_m1 ?_
    refine go_icmp_ne 35 26 dX0_makeOffer_23 (fun h23 => ?_) (fun h23 => ?_)
    · have ho : dL D k 6 = nI (1 - s) := by
        rcases h6 with q | q | q
        · exact absurd q h23
        · rcases (show s = 0 ∨ s = 1 by omega) with rfl | rfl
          · exact absurd q h15
          · exact q
        · rcases (show s = 0 ∨ s = 1 by omega) with rfl | rfl
          · exact q
          · exact absurd q h15
      have hos : (1 - s = 0 ∧ s = 1) ∨ (1 - s = 1 ∧ s = 0) := by omega
      refine go_aload_n 36 dX0_makeOffer_35 rfl ?_
      refine go_iload_n 37 dX0_makeOffer_36 rfl ?_
      refine go_iload 39 dX0_makeOffer_37 rfl ?_
      refine go_aload_n 40 dX0_makeOffer_39 rfl ?_
      refine xe_get 43 dX0_makeOffer_40 fX0_23 rfl ?_
      refine go_iload_n 44 dX0_makeOffer_43 rfl ?_
      refine go_bipush 46 dX0_makeOffer_44 zb_7 ?_
      refine gcV2 49 dX0_makeOffer_46 vX0_64 h.tL rfl (cg_L (k := k) (j := 7) h hx rfl hk (by decide)) ?_
      refine go_stk (st' := [.int (dL D k 7), .int (nI (1 - s)), .int x, .ref e]) (by rw [ho]) ?_
      refine gxX3v 52 dX0_makeOffer_49 vX0_129 wE_at0 rfl (cx_X0_planRepetition h hx hk (s := 1 - s) (by omega)) (fun E49 r49 => ?_)
      refine go_aload_n 53 dX0_makeOffer_52 rfl ?_
      refine go_iload_n 54 dX0_makeOffer_53 rfl ?_
      refine go_iload_n 55 dX0_makeOffer_54 rfl ?_
      refine go_iload_n 56 dX0_makeOffer_55 rfl ?_
      refine gxX3v 59 dX0_makeOffer_56 vX0_129 wE_at0 rfl (cx_X0_planRepetition r49 hx hk (s := s) hs) (fun E56 r56 => ?_)
      refine go_aload_n 60 dX0_makeOffer_59 rfl ?_
      refine xe_get 63 dX0_makeOffer_60 fX0_23 rfl ?_
      refine go_iload_n 64 dX0_makeOffer_63 rfl ?_
      refine go_bipush 66 dX0_makeOffer_64 zb_6 ?_
      refine go_iconst 67 dX0_makeOffer_66 zc_m1 ?_
      refine gxX3v 70 dX0_makeOffer_67 vX0_57 r56.tL rfl (cs_L (k := k) (j := 6) r56 hx rfl hk (by decide) (by decide)) (fun E67 r67 => ?_)
      refine go_aload_n 71 dX0_makeOffer_70 rfl ?_
      refine go_iconst 72 dX0_makeOffer_71 zc_2 ?_
      refine gxX1v 75 dX0_makeOffer_72 vX0_132 wE_at0 rfl (cx_X0_tally r67 (t := 2) rfl (by decide)) (fun E72 r72 => ?_)
      refine go_iconst 76 dX0_makeOffer_75 zc_m1 ?_
      exact go_ireturn dX0_makeOffer_76 rfl (by omega) (by omega) (⟨by unfold mkO; first | (rw [if_pos (by first | exact h15 | exact Classical.not_not.mp h15)] <;> rfl) | (rw [if_neg h15, if_pos (by first | exact h23 | exact Classical.not_not.mp h23)] <;> rfl) | (rw [if_neg h15, if_neg h23] <;> rfl), _, rfl, by unfold mkO; first | (rw [if_pos (by first | exact h15 | exact Classical.not_not.mp h15)]; exact r72) | (rw [if_neg h15, if_pos (by first | exact h23 | exact Classical.not_not.mp h23)]; exact r72) | (rw [if_neg h15, if_neg h23]; rw [glr_eq hos] at r72; exact r72)⟩)
    · refine go_aload_n 27 dX0_makeOffer_26 rfl ?_
      refine go_iload_n 28 dX0_makeOffer_27 rfl ?_
      refine go_iload_n 29 dX0_makeOffer_28 rfl ?_
      refine go_iload_n 30 dX0_makeOffer_29 rfl ?_
      refine gxX3v 33 dX0_makeOffer_30 vX0_126 wE_at0 rfl (cx_X0_setOffer h hx hk) (fun E30 r30 => ?_)
      refine go_iconst 34 dX0_makeOffer_33 zc_1 ?_
      exact go_ireturn dX0_makeOffer_34 rfl (by omega) (by omega) (⟨by unfold mkO; first | (rw [if_pos (by first | exact h15 | exact Classical.not_not.mp h15)] <;> rfl) | (rw [if_neg h15, if_pos (by first | exact h23 | exact Classical.not_not.mp h23)] <;> rfl) | (rw [if_neg h15, if_neg h23] <;> rfl), _, rfl, by unfold mkO; first | (rw [if_pos (by first | exact h15 | exact Classical.not_not.mp h15)]; exact r30) | (rw [if_neg h15, if_pos (by first | exact h23 | exact Classical.not_not.mp h23)]; exact r30) | (rw [if_neg h15, if_neg h23]; rw [glr_eq hos] at r30; exact r30)⟩)
  · refine go_iconst 19 dX0_makeOffer_18 zc_0 ?_
    exact go_ireturn dX0_makeOffer_19 rfl (by omega) (by omega) (⟨by unfold mkO; first | (rw [if_pos (by first | exact h15 | exact Classical.not_not.mp h15)] <;> rfl) | (rw [if_neg h15, if_pos (by first | exact h23 | exact Classical.not_not.mp h23)] <;> rfl) | (rw [if_neg h15, if_neg h23] <;> rfl), _, rfl, by unfold mkO; first | (rw [if_pos (by first | exact h15 | exact Classical.not_not.mp h15)]; exact h) | (rw [if_neg h15, if_pos (by first | exact h23 | exact Classical.not_not.mp h23)]; exact h) | (rw [if_neg h15, if_neg h23]; rw [glr_eq hos] at h; exact h)⟩)
set_option maxRecDepth 100000 in
set_option maxHeartbeats 4000000 in
theorem cx_X0_leave {D : ZD} {g : Option Nat} {sg : ZSg} {E : ES} {l : Launch} {Γ : ZG} {w : ZW} {e : Nat} (h : CR D g sg E D) (hG : GI sg D) {x : Int32} : Ct l Γ mX0_leave 5 0 0 [.ref e, .int x] (wE Γ w e E) (PvE Γ w e (some (.int (hupD D x).1)) (fun E' => CR D g sg E' (hupD D x).2)) zNo := by
  refine Ct.of (by decide) rfl (Nat.le_of_ble_eq_true rfl) ?_
  refine go_aload_n 1 dX0_leave_0 rfl ?_
  refine go_iload_n 2 dX0_leave_1 rfl ?_
  refine go_iconst 3 dX0_leave_2 zc_1 ?_
  refine gcV2 6 dX0_leave_3 vX0_107 wE_at0 rfl (cx_X0_legOf h) ?_
  refine go_istore_n 7 dX0_leave_6 (by decide) ?_
  refine go_iload_n 8 dX0_leave_7 rfl ?_
  refine go_iconst 9 dX0_leave_8 zc_m1 ?_
  refine go_icmp_eq 21 12 dX0_leave_9 (fun h9 => ?_) (fun h9 => ?_)
  · refine go_aload_n 22 dX0_leave_21 rfl ?_
    refine go_iload_n 23 dX0_leave_22 rfl ?_
    refine gcV1 26 dX0_leave_23 vX0_114 wE_at0 rfl (cx_X0_ringingCallOf h hG.seg) ?_
    refine go_istore_n 27 dX0_leave_26 (by decide) ?_
    refine go_iload_n 28 dX0_leave_27 rfl ?_
    refine go_iconst 29 dX0_leave_28 zc_m1 ?_
    refine go_icmp_eq 45 32 dX0_leave_29 (fun h29 => ?_) (fun h29 => ?_)
    · refine go_aload_n 46 dX0_leave_45 rfl ?_
      refine go_iload_n 47 dX0_leave_46 rfl ?_
      refine go_iconst 48 dX0_leave_47 zc_2 ?_
      refine gcV2 51 dX0_leave_48 vX0_107 wE_at0 rfl (cx_X0_legOf h) ?_
      refine go_istore 53 dX0_leave_51 (by decide) ?_
      refine go_iload 55 dX0_leave_53 rfl ?_
      refine go_iconst 56 dX0_leave_55 zc_m1 ?_
      refine go_icmp_eq 69 59 dX0_leave_56 (fun h56 => ?_) (fun h56 => ?_)
      · refine go_aload_n 70 dX0_leave_69 rfl ?_
        refine go_iload_n 71 dX0_leave_70 rfl ?_
        refine go_iconst 72 dX0_leave_71 zc_5 ?_
        refine gxX2 75 dX0_leave_72 vX0_123 wE_at0 rfl (cx_X0_endRingingAt h hG.seg) (fun E72 r72 => ?_)
        rw [at_2]
        have r72x := r72
        rw [show (itr (atS x 5) 0 (nL D) (D, 0)).1 = endToD D x 5 from at_eq hG.seg hG.ctg hG.iv hG.js sm_rf] at r72x
        refine go_if_le 82 78 dX0_leave_75 (fun h75 => ?_) (fun h75 => ?_)
        · have hru : rung D x = 0 := Classical.byContradiction fun q => by have := (rung_0 h.L40 (x := x)).2.mpr q; exact absurd this (by first | exact h75 | exact Int32.not_lt.mpr h75)
          have r72x := r72
          rw [at_0 ((rung_0 h.L40).1 hru)] at r72x
          refine go_iconst 83 dX0_leave_82 zc_0 ?_
          exact go_ireturn dX0_leave_83 rfl (by omega) (by omega) (⟨by unfold hupD; rw [if_neg (fun q => q (by first | exact h9 | exact Classical.not_not.mp h9)), if_neg (fun q => q (by first | exact h29 | exact Classical.not_not.mp h29)), if_neg (fun q => q (by first | exact h56 | exact Classical.not_not.mp h56)), if_pos hru], _, rfl, by unfold hupD; rw [if_neg (fun q => q (by first | exact h9 | exact Classical.not_not.mp h9)), if_neg (fun q => q (by first | exact h29 | exact Classical.not_not.mp h29)), if_neg (fun q => q (by first | exact h56 | exact Classical.not_not.mp h56)), if_pos hru]; exact r72x⟩)
        · have hru := (rung_0 h.L40 (x := x)).2.mp (by first | exact h75 | exact Int32.not_le.mp h75)
          refine go_iconst 79 dX0_leave_78 zc_4 ?_
          refine go_goto 83 dX0_leave_79 ?_
          exact go_ireturn dX0_leave_83 rfl (by omega) (by omega) (⟨by unfold hupD; rw [if_neg (fun q => q (by first | exact h9 | exact Classical.not_not.mp h9)), if_neg (fun q => q (by first | exact h29 | exact Classical.not_not.mp h29)), if_neg (fun q => q (by first | exact h56 | exact Classical.not_not.mp h56)), if_neg hru], _, rfl, by unfold hupD; rw [if_neg (fun q => q (by first | exact h9 | exact Classical.not_not.mp h9)), if_neg (fun q => q (by first | exact h29 | exact Classical.not_not.mp h29)), if_neg (fun q => q (by first | exact h56 | exact Classical.not_not.mp h56)), if_neg hru]; exact r72x⟩)
      · refine go_aload_n 60 dX0_leave_59 rfl ?_
        refine go_iload 62 dX0_leave_60 rfl ?_
        refine go_bipush 64 dX0_leave_62 zb_6 ?_
        refine gxX2v 67 dX0_leave_64 vX0_110 wE_at0 rfl (cx_X0_endLeg h (k := tN (legW D x 2)) (leg_ok h.L40 h56).1 (leg_ok h.L40 h56).2.1) (fun E64 r64 => ?_)
        refine go_iconst 68 dX0_leave_67 zc_3 ?_
        exact go_ireturn dX0_leave_68 rfl (by omega) (by omega) (⟨by unfold hupD; rw [if_neg (fun q => q (by first | exact h9 | exact Classical.not_not.mp h9)), if_neg (fun q => q (by first | exact h29 | exact Classical.not_not.mp h29)), if_pos h56], _, rfl, by unfold hupD; rw [if_neg (fun q => q (by first | exact h9 | exact Classical.not_not.mp h9)), if_neg (fun q => q (by first | exact h29 | exact Classical.not_not.mp h29)), if_pos h56]; exact r64⟩)
    · refine go_aload_n 33 dX0_leave_32 rfl ?_
      refine go_iload_n 34 dX0_leave_33 rfl ?_
      refine go_iconst 35 dX0_leave_34 zc_4 ?_
      refine gxX2v 38 dX0_leave_35 vX0_117 wE_at0 rfl (cx_X0_endRinging h hG.seg (c := tN (rngOf D x)) (rng_ok h.C20 h29).1 (rng_ok h.C20 h29).2) (fun E35 r35 => ?_)
      rw [er_eq hG.seg hG.iv.1 sm_rf (rng_ok h.C20 h29).2 (Or.inl (fun k hk => nI_nm1 (by have := h.L40; omega))), ← (rng_ok h.C20 h29).1] at r35
      refine go_aload_n 39 dX0_leave_38 rfl ?_
      refine go_iload_n 40 dX0_leave_39 rfl ?_
      refine gxX1v 43 dX0_leave_40 vX0_120 wE_at0 rfl (cx_X0_resumeReferrer r35 (c := tN (rngOf D x)) (rng_ok h.C20 h29).1 (rng_ok h.C20 h29).2) (fun E40 r40 => ?_)
      refine go_iconst 44 dX0_leave_43 zc_2 ?_
      exact go_ireturn dX0_leave_44 rfl (by omega) (by omega) (⟨by unfold hupD; rw [if_neg (fun q => q (by first | exact h9 | exact Classical.not_not.mp h9)), if_pos h29], _, rfl, by unfold hupD; rw [if_neg (fun q => q (by first | exact h9 | exact Classical.not_not.mp h9)), if_pos h29]; exact r40⟩)
  · refine go_aload_n 13 dX0_leave_12 rfl ?_
    refine go_iload_n 14 dX0_leave_13 rfl ?_
    refine go_bipush 16 dX0_leave_14 zb_6 ?_
    refine gxX2v 19 dX0_leave_16 vX0_110 wE_at0 rfl (cx_X0_endLeg h (k := tN (legW D x 1)) (leg_ok h.L40 h9).1 (leg_ok h.L40 h9).2.1) (fun E16 r16 => ?_)
    refine go_iconst 20 dX0_leave_19 zc_1 ?_
    exact go_ireturn dX0_leave_20 rfl (by omega) (by omega) (⟨by unfold hupD; rw [if_pos h9], _, rfl, by unfold hupD; rw [if_pos h9]; exact r16⟩)
set_option maxRecDepth 100000 in
set_option maxHeartbeats 4000000 in
theorem cx_X0_copyFrom {l : Launch} {Γ : ZG} {w : ZW} {e f n0 n1 n2 : Nat} {E F : ES} (hF : ∀ j, j < 9 → w.2 (f + j) = some (ecell Γ f F j)) (hef : e + 9 ≤ f ∨ f + 9 ≤ e) (hR : RB F n0 n1 n2) : Cm l Γ mX0_copyFrom 2 [.ref e, .ref f] (wE Γ w e E) none (wE Γ w e (cpE E F n0 n1 n2)) := by
  refine Cm.of (by decide) rfl (Nat.le_of_ble_eq_true rfl) ?_
  refine go_aload_n 1 dX0_copyFrom_0 rfl ?_
  refine xe_get 4 dX0_copyFrom_1 fX0_14 rfl ?_
  refine go_aload_n 5 dX0_copyFrom_4 rfl ?_
  refine go_get 8 dX0_copyFrom_5 fX0_14 ((wE_out (q := f) (by omega)).trans (hF 0 (by decide))) rfl ?_
  refine gcV1v 11 dX0_copyFrom_8 vX0_53 (wE_tab (t := 0) (by decide)) rfl (ct_cpT (t := 0) (n := n0) (by decide) hF hef hR.1.1 (Nat.mul_le_mul_right 3 hR.1.2) (by have := hR.1.2; omega)) ?_
  refine go_aload_n 12 dX0_copyFrom_11 rfl ?_
  refine xe_get 15 dX0_copyFrom_12 fX0_20 rfl ?_
  refine go_aload_n 16 dX0_copyFrom_15 rfl ?_
  refine go_get 19 dX0_copyFrom_16 fX0_20 ((wE_out (q := f) (by omega)).trans (hF 0 (by decide))) rfl ?_
  refine gcV1v 22 dX0_copyFrom_19 vX0_53 (wE_tab (t := 1) (by decide)) rfl (ct_cpT (t := 1) (n := n1) (by decide) hF hef hR.2.1.1 (Nat.mul_le_mul_right 8 hR.2.1.2) (by have := hR.2.1.2; omega)) ?_
  refine go_aload_n 23 dX0_copyFrom_22 rfl ?_
  refine xe_get 26 dX0_copyFrom_23 fX0_23 rfl ?_
  refine go_aload_n 27 dX0_copyFrom_26 rfl ?_
  refine go_get 30 dX0_copyFrom_27 fX0_23 ((wE_out (q := f) (by omega)).trans (hF 0 (by decide))) rfl ?_
  refine gcV1v 33 dX0_copyFrom_30 vX0_53 (wE_tab (t := 2) (by decide)) rfl (ct_cpT (t := 2) (n := n2) (by decide) hF hef hR.2.2.1.1 (Nat.mul_le_mul_right 13 hR.2.2.1.2) (by have := hR.2.2.1.2; omega)) ?_
  refine go_aload_n 34 dX0_copyFrom_33 rfl ?_
  refine xe_get 37 dX0_copyFrom_34 fX0_26 rfl ?_
  refine go_aload_n 38 dX0_copyFrom_37 rfl ?_
  refine go_get 41 dX0_copyFrom_38 fX0_26 ((wE_out (q := f) (by omega)).trans (hF 0 (by decide))) rfl ?_
  refine gcV1v 44 dX0_copyFrom_41 vX0_53 (wE_tab (t := 3) (by decide)) rfl (ct_cpT (t := 3) (n := 1) (by decide) hF hef hR.2.2.2 (by decide) (by decide)) ?_
  refine go_aload_n 45 dX0_copyFrom_44 rfl ?_
  refine go_aload_n 46 dX0_copyFrom_45 rfl ?_
  refine go_get 49 dX0_copyFrom_46 fX0_46 ((wE_out (q := f) (by omega)).trans (hF 0 (by decide))) rfl ?_
  refine xe_putR F.2.2.2 52 dX0_copyFrom_49 pX0_46 ?_
  refine go_aload_n 53 dX0_copyFrom_52 rfl ?_
  refine go_aload_n 54 dX0_copyFrom_53 rfl ?_
  refine go_get 57 dX0_copyFrom_54 fX0_50 ((wE_out (q := f) (by omega)).trans (hF 0 (by decide))) rfl ?_
  refine xe_put 5 60 dX0_copyFrom_57 pX0_50 (by decide) ?_
  refine go_aload_n 61 dX0_copyFrom_60 rfl ?_
  refine go_aload_n 62 dX0_copyFrom_61 rfl ?_
  refine go_get 65 dX0_copyFrom_62 fX0_29 ((wE_out (q := f) (by omega)).trans (hF 0 (by decide))) rfl ?_
  refine xe_put 6 68 dX0_copyFrom_65 pX0_29 (by decide) ?_
  refine go_aload_n 69 dX0_copyFrom_68 rfl ?_
  refine go_aload_n 70 dX0_copyFrom_69 rfl ?_
  refine go_get 73 dX0_copyFrom_70 fX0_33 ((wE_out (q := f) (by omega)).trans (hF 0 (by decide))) rfl ?_
  refine xe_put 7 76 dX0_copyFrom_73 pX0_33 (by decide) ?_
  refine go_aload_n 77 dX0_copyFrom_76 rfl ?_
  refine go_aload_n 78 dX0_copyFrom_77 rfl ?_
  refine go_get 81 dX0_copyFrom_78 fX0_36 ((wE_out (q := f) (by omega)).trans (hF 0 (by decide))) rfl ?_
  refine xe_put 8 84 dX0_copyFrom_81 pX0_36 (by decide) ?_
  exact go_return dX0_copyFrom_84 rfl (by omega) (by omega) (⟨rfl, rfl⟩)
set_option maxRecDepth 100000 in
set_option maxHeartbeats 4000000 in
theorem cx_X0_clear {l : Launch} {Γ : ZG} {w : ZW} {e : Nat} {E : ES} : Cm l Γ mX0_clear 3 [.ref e] (wE Γ w e E) none (wE Γ w e (clE E)) := by
  refine Cm.of (by decide) rfl (Nat.le_of_ble_eq_true rfl) ?_
  refine go_aload_n 1 dX0_clear_0 rfl ?_
  refine xe_get 4 dX0_clear_1 fX0_14 rfl ?_
  refine xe_clear (t := 0) (by decide) 7 dX0_clear_4 vX0_43 (by decide) ?_
  refine go_aload_n 8 dX0_clear_7 rfl ?_
  refine xe_get 11 dX0_clear_8 fX0_20 rfl ?_
  refine xe_clear (t := 1) (by decide) 14 dX0_clear_11 vX0_43 (by decide) ?_
  refine go_aload_n 15 dX0_clear_14 rfl ?_
  refine xe_get 18 dX0_clear_15 fX0_23 rfl ?_
  refine xe_clear (t := 2) (by decide) 21 dX0_clear_18 vX0_43 (by decide) ?_
  refine go_aload_n 22 dX0_clear_21 rfl ?_
  refine xe_get 25 dX0_clear_22 fX0_26 rfl ?_
  refine xe_clear (t := 3) (by decide) 28 dX0_clear_25 vX0_43 (by decide) ?_
  refine go_aload_n 29 dX0_clear_28 rfl ?_
  refine xe_get 32 dX0_clear_29 fX0_26 rfl ?_
  refine gcV0 35 dX0_clear_32 vX0_39 (wE_tab (t := 3) (by decide)) rfl (ca_T rfl) ?_
  refine go_pop 36 dX0_clear_35 rfl ?_
  refine go_aload_n 37 dX0_clear_36 rfl ?_
  refine go_null 38 dX0_clear_37 ?_
  refine xe_putR none 41 dX0_clear_38 pX0_46 ?_
  refine go_aload_n 42 dX0_clear_41 rfl ?_
  refine go_iconst 43 dX0_clear_42 zc_0 ?_
  refine xe_put 5 46 dX0_clear_43 pX0_50 (by decide) ?_
  refine go_aload_n 47 dX0_clear_46 rfl ?_
  refine go_iconst 48 dX0_clear_47 zc_3 ?_
  refine xe_put 6 51 dX0_clear_48 pX0_29 (by decide) ?_
  refine go_aload_n 52 dX0_clear_51 rfl ?_
  refine go_iconst 53 dX0_clear_52 zc_5 ?_
  refine xe_put 7 56 dX0_clear_53 pX0_33 (by decide) ?_
  refine go_aload_n 57 dX0_clear_56 rfl ?_
  refine go_bipush 59 dX0_clear_57 zb_20 ?_
  refine xe_put 8 62 dX0_clear_59 pX0_36 (by decide) ?_
  exact go_return dX0_clear_62 rfl (by omega) (by omega) (⟨rfl, rfl⟩)
set_option maxRecDepth 100000 in
set_option maxHeartbeats 4000000 in
theorem cx_X0_addParty {l : Launch} {Γ : ZG} {w : ZW} {e m : Nat} {E : ES} {a r c : Int32} (hR : E.2.1 0 = nI m) (hm : m < 10) : Cm l Γ mX0_addParty 3 [.ref e, .int a, .int r, .int c] (wE Γ w e E) none (wE Γ w e (aP E m a r c)) := by
  refine Cm.of (by decide) rfl (Nat.le_of_ble_eq_true rfl) ?_
  refine go_aload_n 1 dX0_addParty_0 rfl ?_
  refine xe_get 4 dX0_addParty_1 fX0_14 rfl ?_
  refine gcV0 7 dX0_addParty_4 vX0_39 (wE_tab (t := 0) (by decide)) rfl (ca_P hR hm) ?_
  refine go_istore 9 dX0_addParty_7 (by decide) ?_
  refine go_aload_n 10 dX0_addParty_9 rfl ?_
  refine xe_get 13 dX0_addParty_10 fX0_14 rfl ?_
  refine go_iload 15 dX0_addParty_13 rfl ?_
  refine go_iconst 16 dX0_addParty_15 zc_0 ?_
  refine go_iload_n 17 dX0_addParty_16 rfl ?_
  refine gcV3v 20 dX0_addParty_17 vX0_57 (wE_tab (t := 0) (by decide)) rfl (cr_P (m := m + 1) (r := m) (c := 0) rfl (by omega) (by omega) (by decide)) ?_
  refine go_aload_n 21 dX0_addParty_20 rfl ?_
  refine xe_get 24 dX0_addParty_21 fX0_14 rfl ?_
  refine go_iload 26 dX0_addParty_24 rfl ?_
  refine go_iconst 27 dX0_addParty_26 zc_1 ?_
  refine go_iload_n 28 dX0_addParty_27 rfl ?_
  refine gcV3v 31 dX0_addParty_28 vX0_57 (wE_tab (t := 0) (by decide)) rfl (cr_P (m := m + 1) (r := m) (c := 1) rfl (by omega) (by omega) (by decide)) ?_
  refine go_aload_n 32 dX0_addParty_31 rfl ?_
  refine xe_get 35 dX0_addParty_32 fX0_14 rfl ?_
  refine go_iload 37 dX0_addParty_35 rfl ?_
  refine go_iconst 38 dX0_addParty_37 zc_2 ?_
  refine go_iload_n 39 dX0_addParty_38 rfl ?_
  refine gcV3v 42 dX0_addParty_39 vX0_57 (wE_tab (t := 0) (by decide)) rfl (cr_P (m := m + 1) (r := m) (c := 2) rfl (by omega) (by omega) (by decide)) ?_
  exact go_return dX0_addParty_42 rfl (by omega) (by omega) (⟨rfl, rfl⟩)
end COps
