/-! what the reference's methods do to its row of numbers -/
def setL (D : ZD) (k j : Nat) (v : Int32) : ZD := upd D (146 + 13 * k + j) v
def setC (D : ZD) (c j : Nat) (v : Int32) : ZD := upd D (46 + 5 * c + j) v
def tally (D : ZD) (t : Nat) : ZD := upd D (9 + t) (D (9 + t) + 1)
def dropD (D : ZD) (k : Nat) : ZD := setL (setL (setL D k 6 (-1)) k 9 (-1)) k 10 (-1)
def endD (D : ZD) (k : Nat) (r : Int32) : ZD := dropD (setL (setL D k 2 3) k 3 r) k
def rf (D : ZD) (c : Nat) : Nat := (dC D c 3).toNatClampNeg
def ceN (D : ZD) (k : Nat) : Nat := (dL D k 1).toNatClampNeg
def caN (D : ZD) (c : Nat) : Nat := (dC D c 0).toNatClampNeg
/-- the cells that change while calls and legs stay -/
def Okc (i : Nat) : Prop := (9 ≤ i ∧ i < 16) ∨ (46 ≤ i ∧ i < 146 ∧ (i - 46) % 5 = 4) ∨ (146 ≤ i ∧ 2 ≤ (i - 146) % 13)
def Same (D D' : ZD) : Prop := ∀ i, ¬ Okc i → D' i = D i
theorem sm_rf {D : ZD} : Same D D := fun _ _ => rfl
theorem Same.trans {D D' D'' : ZD} (h : Same D D') (h2 : Same D' D'') : Same D D'' := fun i hi => (h2 i hi).trans (h i hi)
theorem sm_upd {D : ZD} {m : Nat} {v : Int32} (h : Okc m) : Same D (upd D m v) := by
  intro i hi
  show (if i = m then v else D i) = D i
  exact if_neg (fun e => hi (by rw [e]; exact h))
theorem sm_setL {D : ZD} {k j : Nat} {v : Int32} (h2 : 2 ≤ j) (h : j < 13) : Same D (setL D k j v) := sm_upd (Or.inr (Or.inr ⟨by omega, by omega⟩))
theorem sm_setC {D : ZD} {c : Nat} {v : Int32} (h : c < 20) : Same D (setC D c 4 v) := sm_upd (Or.inr (Or.inl ⟨by omega, by omega, by omega⟩))
theorem sm_tally {D : ZD} {t : Nat} (h : t < 7) : Same D (tally D t) := sm_upd (Or.inl ⟨by omega, by omega⟩)
theorem sm_drop {D : ZD} {k : Nat} : Same D (dropD D k) := ((sm_setL (by decide) (by decide)).trans (sm_setL (by decide) (by decide))).trans (sm_setL (by decide) (by decide))
theorem sm_end_ {D : ZD} {k : Nat} {r : Int32} : Same D (endD D k r) := ((sm_setL (by decide) (by decide)).trans (sm_setL (by decide) (by decide))).trans sm_drop
theorem Same.low {D D' : ZD} (h : Same D D') {i : Nat} (hi : i < 9) : D' i = D i := h i (fun q => by unfold Okc at q; omega)
theorem Same.P {D D' : ZD} (h : Same D D') {p j : Nat} (hp : p < 10) (hj : j < 3) : dP D' p j = dP D p j := h _ (fun q => by unfold Okc at q; omega)
theorem Same.C {D D' : ZD} (h : Same D D') {c j : Nat} (hc : c < 20) (hj : j < 4) : dC D' c j = dC D c j := h _ (fun q => by unfold Okc at q; omega)
theorem Same.L {D D' : ZD} (h : Same D D') {k j : Nat} (hj : j < 2) : dL D' k j = dL D k j := h _ (fun q => by unfold Okc at q; omega)
theorem sm_nL {D D' : ZD} (h : Same D D') : nL D' = nL D := by unfold nL; rw [h.low (by decide)]
theorem sm_nC {D D' : ZD} (h : Same D D') : nC D' = nC D := by unfold nC; rw [h.low (by decide)]
theorem sm_nP {D D' : ZD} (h : Same D D') : nP D' = nP D := by unfold nP; rw [h.low (by decide)]
theorem sm_ofN {D D' : ZD} (h : Same D D') (k : Nat) : ofN D' k = ofN D k := by unfold ofN; rw [h.L (by decide)]
theorem sm_ceN {D D' : ZD} (h : Same D D') (k : Nat) : ceN D' k = ceN D k := by unfold ceN; rw [h.L (by decide)]
theorem sm_caN {D D' : ZD} (h : Same D D') {c : Nat} (hc : c < 20) : caN D' c = caN D c := by unfold caN; rw [h.C hc (by decide)]
theorem sm_rfN {D D' : ZD} (h : Same D D') {c : Nat} (hc : c < 20) : rf D' c = rf D c := by unfold rf; rw [h.C hc (by decide)]
/-- the indexes, and what refers to what -/
def Iv (D : ZD) : Prop := Ix D ∧ (∀ c, c < nC D → dC D c 3 = -1 ∨ (dC D c 3 = nI (rf D c) ∧ rf D c < nL D)) ∧ (∀ k, k < nL D → dL D k 1 = nI (ceN D k) ∧ ceN D k < nP D) ∧ ∀ c, c < nC D → dC D c 0 = nI (caN D c) ∧ caN D c < nP D
theorem Ix.same {D D' : ZD} (h : Ix D) (s : Same D D') : Ix D' := by
  obtain ⟨⟨a1, a2⟩, ⟨b1, b2⟩, ⟨c1, c2⟩, d1⟩ := h
  refine ⟨⟨?_, ?_⟩, ⟨?_, ?_⟩, ⟨?_, ?_⟩, fun k hk => ?_⟩
  · rw [sm_nP s, s.low (by decide)]; exact a1
  · rw [sm_nP s]; exact a2
  · rw [sm_nC s, s.low (by decide)]; exact b1
  · rw [sm_nC s]; exact b2
  · rw [sm_nL s, s.low (by decide)]; exact c1
  · rw [sm_nL s]; exact c2
  · rw [s.L (by decide), sm_ofN s k, sm_nC s]
    exact d1 k (by rw [← sm_nL s]; exact hk)
theorem Iv.same {D D' : ZD} (h : Iv D) (s : Same D D') : Iv D' := by
  have hc20 := h.1.2.1.2
  refine ⟨h.1.same s, fun c hc => ?_, fun k hk => ?_, fun c hc => ?_⟩
  · have hc' : c < nC D := by rw [← sm_nC s]; exact hc
    rw [s.C (by omega) (by decide), sm_rfN s (by omega), sm_nL s]
    exact h.2.1 c hc'
  · rw [s.L (by decide), sm_ceN s k, sm_nP s]
    exact h.2.2.1 k (by rw [← sm_nL s]; exact hk)
  · have hc' : c < nC D := by rw [← sm_nC s]; exact hc
    rw [s.C (by omega) (by decide), sm_caN s (by omega), sm_nP s]
    exact h.2.2.2 c hc'
theorem ix2 (a b m : Nat) (h : a + b = m) : nI a + nI b = nI m := by rw [nI_add, h]
theorem ix3 (a b c m : Nat) (h : a + b + c = m) : nI a + nI b + nI c = nI m := by rw [nI_add, nI_add, h]
def takeB (D : ZD) (c : Nat) : ZD := if dC D c 3 = -1 then D else if dL D (rf D c) 2 = 2 then setL D (rf D c) 2 1 else D
def failD (D : ZD) (c : Nat) : ZD := takeB (tally D 5) c
def eaStep (c but r : Int32) (k : Nat) (D : ZD) : ZD := if nI k = but then D else if dL D k 0 = c then (if dL D k 2 = 0 then endD D k r else D) else D
def endAllD (D : ZD) (c but r : Int32) : ZD := itr (eaStep c but r) 0 (nL D) D
def etStep (p r : Int32) (k : Nat) (x : ZD × Int64) : ZD × Int64 := if dL x.1 k 1 = p then (if dL x.1 k 2 = 0 then (endD x.1 k r, x.2 ||| ((1 : Int64) <<< ((dL (endD x.1 k r) k 0).toInt64 &&& 63))) else x) else x
noncomputable def ftStep (t : Int64) (c : Nat) (D : ZD) : ZD := @ite _ (lg_cmp ((t >>> ((nI c).toInt64 &&& 63)) &&& 1) 1 = 0 ∧ ¬ rngs D (nI c)) (Classical.propDecidable _) (failD D c) D
noncomputable def endToD (D : ZD) (p r : Int32) : ZD := itr (ftStep (itr (etStep p r) 0 (nL D) (D, 0)).2) 0 (nC D) (itr (etStep p r) 0 (nL D) (D, 0)).1
def ans3 (D : ZD) (k : Nat) : ZD := tally (setC (setL D k 2 1) (ofN D k) 4 (nI k)) 4
def ans4 (D : ZD) (k : Nat) : ZD := endAllD (ans3 D k) (dL D k 0) (nI k) 2
noncomputable def ans5 (D : ZD) (k : Nat) : ZD := endToD (ans4 D k) (dL (ans4 D k) k 1) 1
noncomputable def ansD (D : ZD) (k : Nat) : ZD := if dC D (ofN D k) 3 = -1 then ans5 D k else if dL (ans5 D k) (rf D (ofN D k)) 2 = 2 then tally (endD (ans5 D k) (rf D (ofN D k)) 7) 6 else ans5 D k
def layD (D : ZD) (k : Nat) (side v : Int32) : ZD := setL (setL (setL D k 6 side) k 7 v) k 8 ((setL (setL D k 6 side) k 7 v) 0)
def repD (D : ZD) (k s : Nat) : ZD := if dL D k (9 + s) = D 0 then (if dL (setL D k (9 + s) (-1)) k 6 = -1 then layD (setL D k (9 + s) (-1)) k (nI s) (dL (setL D k (9 + s) (-1)) k (11 + s)) else tally (setL D k (9 + s) (-1)) 3) else D
def othr (D : ZD) (k : Nat) : Nat := if 1 - dL D k 6 = 0 then caN D (ofN D k) else ceN D k
def replied (D : ZD) (k : Nat) : Prop := 0 < dP D (othr D k) 1 ∧ D 0 - dL D k 8 = dP D (othr D k) 1
noncomputable def replD (D : ZD) (k : Nat) : ZD := if dL D k 6 = -1 then D else @ite _ (¬ replied D k ∧ D 0 - dL D k 8 < D 3) (Classical.propDecidable _) D
  (@ite _ (replied D k ∧ dL D k 7 ≤ dP D (othr D k) 2) (Classical.propDecidable _) (tally (setL (setL (setL D k 6 (-1)) k 4 (dL D k 7)) k 5 (dL D k 5 + 1)) 0) (tally (setL D k 6 (-1)) 1))
noncomputable def mayD (D : ZD) (k : Nat) : ZD := @ite _ (0 < dP D (ceN D k) 0 ∧ D 0 - dC D (ofN D k) 1 = dP D (ceN D k) 0 ∧ ¬ eng D (dL D k 1)) (Classical.propDecidable _) (ansD D k) D
def s1Step (k : Nat) (D : ZD) : ZD := if dL D k 2 = 1 then repD (repD D k 0) k 1 else D
noncomputable def s2Step (k : Nat) (D : ZD) : ZD := if dL D k 2 = 1 then replD D k else D
noncomputable def s3Step (k : Nat) (D : ZD) : ZD := if dL D k 2 = 0 then mayD D k else D
noncomputable def s4Step (c : Nat) (D : ZD) : ZD := @ite _ (rngs D (nI c) ∧ ¬ D 0 - dC D c 1 < dC D c 2) (Classical.propDecidable _) (failD (endAllD D (nI c) (-1) 3) c) D
noncomputable def secD (D : ZD) : ZD := itr s4Step 0 (nC D) (itr s3Step 0 (nL D) (itr s2Step 0 (nL D) (itr s1Step 0 (nL D) (upd D 0 (D 0 + 1)))))
theorem sm_itr {g : Nat → ZD → ZD} {D : ZD} (N : Nat) (hg : ∀ k D', k < N → Same D D' → Same D' (g k D')) : ∀ (f i : Nat) (D' : ZD), i + f ≤ N → Same D D' → Same D (itr g i f D')
  | 0, _, _, _, h => h
  | f + 1, i, D', hN, h => sm_itr N hg f (i + 1) (g i D') (by omega) (h.trans (hg i D' (by omega) h))
theorem sm_takeB {D : ZD} {c : Nat} : Same D (takeB D c) := by
  unfold takeB
  split
  · exact sm_rf
  · split
    · exact sm_setL (by decide) (by decide)
    · exact sm_rf
theorem sm_fail {D : ZD} {c : Nat} : Same D (failD D c) := (sm_tally (by decide)).trans sm_takeB
theorem sm_eaStep {c but r : Int32} {k : Nat} {D : ZD} : Same D (eaStep c but r k D) := by
  unfold eaStep
  split
  · exact sm_rf
  · split
    · split
      · exact sm_end_
      · exact sm_rf
    · exact sm_rf
theorem sm_endAll {D : ZD} {c but r : Int32} : Same D (endAllD D c but r) := sm_itr (nL D) (fun _ _ _ _ => sm_eaStep) _ _ _ (by omega) sm_rf
theorem sm_etStep {p r : Int32} {k : Nat} {x : ZD × Int64} : Same x.1 (etStep p r k x).1 := by
  unfold etStep
  split
  · split
    · exact sm_end_
    · exact sm_rf
  · exact sm_rf
theorem sm_etItr {p r : Int32} {D : ZD} : ∀ (f i : Nat) (x : ZD × Int64), Same D x.1 → Same D (itr (etStep p r) i f x).1
  | 0, _, _, h => h
  | f + 1, i, x, h => sm_etItr f (i + 1) _ (h.trans sm_etStep)
theorem sm_ftStep {t : Int64} {c : Nat} {D : ZD} : Same D (ftStep t c D) := by
  unfold ftStep
  split
  · exact sm_fail
  · exact sm_rf
theorem sm_endTo {D : ZD} {p r : Int32} : Same D (endToD D p r) := sm_itr (D := D) (nC D) (fun _ _ _ _ => sm_ftStep) _ _ _ (by omega) (sm_etItr _ _ _ sm_rf)
theorem sm_ans3 {D : ZD} {k : Nat} (h : ofN D k < 20) : Same D (ans3 D k) := ((sm_setL (by decide) (by decide)).trans (sm_setC h)).trans (sm_tally (by decide))
theorem sm_ans4 {D : ZD} {k : Nat} (h : ofN D k < 20) : Same D (ans4 D k) := (sm_ans3 h).trans sm_endAll
theorem sm_ans5 {D : ZD} {k : Nat} (h : ofN D k < 20) : Same D (ans5 D k) := (sm_ans4 h).trans sm_endTo
theorem sm_ans {D : ZD} {k : Nat} (h : ofN D k < 20) : Same D (ansD D k) := by
  unfold ansD
  split
  · exact sm_ans5 h
  · split
    · exact (sm_ans5 h).trans (sm_end_.trans (sm_tally (by decide)))
    · exact sm_ans5 h
theorem sm_lay {D : ZD} {k : Nat} {x v : Int32} : Same D (layD D k x v) := ((sm_setL (by decide) (by decide)).trans (sm_setL (by decide) (by decide))).trans (sm_setL (by decide) (by decide))
theorem sm_rep {D : ZD} {k s : Nat} (hs : s < 2) : Same D (repD D k s) := by
  unfold repD
  split
  · split
    · exact (sm_setL (by omega) (by omega)).trans sm_lay
    · exact (sm_setL (by omega) (by omega)).trans (sm_tally (by decide))
  · exact sm_rf
theorem sm_repl {D : ZD} {k : Nat} : Same D (replD D k) := by
  unfold replD
  split
  · exact sm_rf
  · split
    · exact sm_rf
    · split
      · exact (((sm_setL (by decide) (by decide)).trans (sm_setL (by decide) (by decide))).trans (sm_setL (by decide) (by decide))).trans (sm_tally (by decide))
      · exact (sm_setL (by decide) (by decide)).trans (sm_tally (by decide))
theorem sm_may {D : ZD} {k : Nat} (h : ofN D k < 20) : Same D (mayD D k) := by
  unfold mayD
  split
  · exact sm_ans h
  · exact sm_rf
theorem sm_s1 {k : Nat} {D : ZD} : Same D (s1Step k D) := by
  unfold s1Step
  split
  · exact (sm_rep (by decide)).trans (sm_rep (by decide))
  · exact sm_rf
theorem sm_s2 {k : Nat} {D : ZD} : Same D (s2Step k D) := by
  unfold s2Step
  split
  · exact sm_repl
  · exact sm_rf
theorem sm_s3 {k : Nat} {D : ZD} (h : ofN D k < 20) : Same D (s3Step k D) := by
  unfold s3Step
  split
  · exact sm_may h
  · exact sm_rf
theorem sm_s4 {c : Nat} {D : ZD} : Same D (s4Step c D) := by
  unfold s4Step
  split
  · exact sm_endAll.trans sm_fail
  · exact sm_rf
/-- a cell of a leg, behind a change of a leg's cell -/
theorem dL_setL {D : ZD} {k j : Nat} {v : Int32} : dL (setL D k j v) k j = v := if_pos rfl
theorem dL_setLn {D : ZD} {k j k' j' : Nat} {v : Int32} (h : 13 * k' + j' ≠ 13 * k + j) : dL (setL D k j v) k' j' = dL D k' j' := if_neg (by omega)
theorem dP_setL {D : ZD} {k j p i : Nat} {v : Int32} (hp : p < 10) (hi : i < 3) : dP (setL D k j v) p i = dP D p i := if_neg (by omega)
theorem low_setL {D : ZD} {k j i : Nat} {v : Int32} (hi : i < 146) : setL D k j v i = D i := if_neg (by omega)
theorem othr_ok {D : ZD} (hI : Iv D) {k : Nat} (hk : k < nL D) : (if 1 - dL D k 6 = 0 then clr D k else dL D k 1) = nI (othr D k) ∧ othr D k < 10 := by
  have ho := hI.1.2.2.2 k hk
  have h1 := hI.2.2.2 _ ho.2
  have h2 := hI.2.2.1 k hk
  have hp := hI.1.1.2
  unfold othr
  split
  · exact ⟨h1.1, by omega⟩
  · exact ⟨h2.1, by omega⟩
theorem sec0_nL {D : ZD} {v : Int32} : nL (upd D 0 v) = nL D := rfl
theorem sec0_nC {D : ZD} {v : Int32} : nC (upd D 0 v) = nC D := rfl
theorem sec0_dL {D : ZD} {v : Int32} {k j : Nat} : dL (upd D 0 v) k j = dL D k j := if_neg (by omega)
theorem sec0_dC {D : ZD} {v : Int32} {k j : Nat} : dC (upd D 0 v) k j = dC D k j := if_neg (by omega)
theorem sec0_dP {D : ZD} {v : Int32} {k j : Nat} : dP (upd D 0 v) k j = dP D k j := if_neg (by omega)
theorem Iv.sec0 {D : ZD} {v : Int32} (h : Iv D) : Iv (upd D 0 v) := by
  obtain ⟨⟨a, b, c, d⟩, e, f, g⟩ := h
  refine ⟨⟨a, b, c, fun k hk => ?_⟩, fun q hq => ?_, fun k hk => ?_, fun q hq => ?_⟩
  · have := d k hk
    unfold ofN
    rw [sec0_dL]
    exact this
  · have := e q hq
    unfold rf
    rw [sec0_dC]
    exact this
  · have := f k hk
    unfold ceN
    rw [sec0_dL]
    exact this
  · have := g q hq
    unfold caN
    rw [sec0_dC]
    exact this
