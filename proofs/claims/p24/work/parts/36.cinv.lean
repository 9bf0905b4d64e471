section CInv
/-! what holds of the legs at any time -/
def rowOK (D : ZD) (k : Nat) : Prop := (dL D k 2 = 0 ∨ dL D k 2 = 1 ∨ dL D k 2 = 2 ∨ dL D k 2 = 3) ∧ (dL D k 2 ≠ 1 → dL D k 6 = -1 ∧ dL D k 9 = -1 ∧ dL D k 10 = -1) ∧ (dL D k 6 = -1 ∨ dL D k 6 = 0 ∨ dL D k 6 = 1)
def JO (D : ZD) : Prop := ∀ k, k < nL D → rowOK D k
def JP (D : ZD) : Prop := ∀ p j, p < nP D → j < 3 → 0 ≤ dP D p j
theorem JO.st {D : ZD} (h : JO D) : StI D := fun k hk => (h k hk).1
theorem JP.same {D D' : ZD} (h : JP D) (hI : Ix D) (s : Same D D') : JP D' := fun p j hp hj => by
  have h10 := hI.1.2
  rw [sm_nP s] at hp
  rw [s.P (by omega) hj]
  exact h p j hp hj
theorem rowOK_c {D D' : ZD} {k : Nat} (h : ∀ j, j < 13 → dL D' k j = dL D k j) (hk : rowOK D k) : rowOK D' k := by
  unfold rowOK at hk ⊢
  rw [h 2 (by decide), h 6 (by decide), h 9 (by decide), h 10 (by decide)]
  exact hk
theorem JO.row {D D' : ZD} {k : Nat} (hJ : JO D) (hs : Same D D') (hr : ∀ k' j, k' ≠ k → j < 13 → dL D' k' j = dL D k' j) (hk : k < nL D → rowOK D' k) : JO D' := fun k' hk' => by
  rw [sm_nL hs] at hk'
  by_cases e : k' = k
  · subst e; exact hk hk'
  · exact rowOK_c (fun j hj => hr k' j e hj) (hJ k' hk')
theorem JO.all {D D' : ZD} (hJ : JO D) (hs : Same D D') (hr : ∀ k j, j < 13 → dL D' k j = dL D k j) : JO D' := fun k hk => rowOK_c (hr k) (hJ k (by rw [← sm_nL hs]; exact hk))
theorem jo_end {D : ZD} {k : Nat} {r : Int32} (h : JO D) : JO (endD D k r) := h.row sm_end_ (fun k' j e hj => end_o e hj) (fun _ => ⟨Or.inr (Or.inr (Or.inr end_2)), fun _ => ⟨end_6, end_9, end_10⟩, Or.inl end_6⟩)
theorem jo_tally {D : ZD} {t : Nat} (ht : t < 7) (h : JO D) : JO (tally D t) := h.all (sm_tally ht) (fun k j _ => tally_L ht)
theorem jo_set {D : ZD} {k j : Nat} {v : Int32} (h : JO D) (h2 : 2 ≤ j) (hj : j < 13) (hk : k < nL D → rowOK (setL D k j v) k) : JO (setL D k j v) := h.row (sm_setL h2 hj) (fun k' i e hi => dL_setLn (by omega)) hk
theorem rowOK_1 {D : ZD} {k : Nat} (h1 : dL D k 2 = 1) (h6 : dL D k 6 = -1 ∨ dL D k 6 = 0 ∨ dL D k 6 = 1) : rowOK D k := ⟨Or.inr (Or.inl h1), fun q => absurd h1 q, h6⟩
theorem jo_talk {D : ZD} {k : Nat} (h : JO D) : JO (setL D k 2 1) := jo_set h (by decide) (by decide) (fun hk => rowOK_1 dL_setL (by rw [dL_setLn (by omega)]; exact (h k hk).2.2))
theorem jo_take {D : ZD} {c : Nat} (h : JO D) : JO (takeB D c) := by
  unfold takeB
  split
  · exact h
  · split
    · exact jo_talk h
    · exact h
theorem jo_fail {D : ZD} {c : Nat} (h : JO D) : JO (failD D c) := jo_take (jo_tally (by decide) h)
theorem jo_ea {c but r : Int32} {k : Nat} {D : ZD} (h : JO D) : JO (eaStep c but r k D) := by
  unfold eaStep
  split
  · exact h
  · split
    · split
      · exact jo_end h
      · exact h
    · exact h
theorem jo_endAll {D : ZD} {c but r : Int32} (h : JO D) : JO (endAllD D c but r) := itr_inv JO _ _ _ h (fun _ _ _ _ q => jo_ea q)
theorem jo_en {p r : Int32} {k : Nat} {D : ZD} (h : JO D) : JO (enS p r k D) := by
  unfold enS
  split
  · exact jo_end h
  · exact h
theorem jo_endTo {D : ZD} {p r : Int32} (h : JO D) : JO (endToD D p r) := by
  unfold endToD
  refine itr_inv JO _ _ _ ?_ (fun k X _ _ q => ?_)
  · rw [et_itr]
    exact itr_inv JO _ _ _ h (fun _ _ _ _ q => jo_en q)
  · unfold ftStep
    split
    · exact jo_fail q
    · exact q
theorem jo_ans3 {D : ZD} {k : Nat} (h : JO D) (hc : ofN D k < 20) : JO (ans3 D k) :=
  jo_tally (by decide) ((jo_talk h).all (sm_setC hc) (fun n j _ => if_neg (by omega)))
theorem jo_ans {D : ZD} {k : Nat} (h : JO D) (hc : ofN D k < 20) : JO (ansD D k) := by
  have h5 : JO (ans5 D k) := jo_endTo (jo_endAll (jo_ans3 h hc))
  unfold ansD
  split
  · exact h5
  · split
    · exact jo_tally (by decide) (jo_end h5)
    · exact h5
theorem lay_row {D : ZD} {k : Nat} {x v : Int32} : (∀ k' j, k' ≠ k → j < 13 → dL (layD D k x v) k' j = dL D k' j) ∧ dL (layD D k x v) k 2 = dL D k 2 ∧ dL (layD D k x v) k 6 = x := by
  unfold layD
  refine ⟨fun k' j e hj => ?_, ?_, ?_⟩
  · rw [dL_setLn (by omega), dL_setLn (by omega), dL_setLn (by omega)]
  · rw [dL_setLn (by omega), dL_setLn (by omega), dL_setLn (by omega)]
  · rw [dL_setLn (by omega), dL_setLn (by omega), dL_setL]
theorem jo_lay {D : ZD} {k : Nat} {x v : Int32} (h : JO D) (h1 : k < nL D → dL D k 2 = 1) (hx : x = 0 ∨ x = 1) : JO (layD D k x v) :=
  h.row sm_lay lay_row.1 (fun hk => rowOK_1 (lay_row.2.1.trans (h1 hk)) (by rw [lay_row.2.2]; exact Or.inr hx))
theorem rep_st {D : ZD} {k s : Nat} (h : JO D) (hk : k < nL D) (ht : D 0 ≠ -1) (hs : s < 2) (hd : dL D k (9 + s) = D 0) : dL D k 2 = 1 := by
  refine Classical.byContradiction fun q => ?_
  have := (h k hk).2.1 q
  rcases (show s = 0 ∨ s = 1 by omega) with rfl | rfl
  · exact ht (hd.symm.trans this.2.1)
  · exact ht (hd.symm.trans this.2.2)
theorem jo_rep {D : ZD} {k s : Nat} (h : JO D) (hk : k < nL D) (ht : D 0 ≠ -1) (hs : s < 2) : JO (repD D k s) := by
  unfold repD
  by_cases hd : dL D k (9 + s) = D 0
  · have h1 := rep_st h hk ht hs hd
    have e1 : dL (setL D k (9 + s) (-1)) k 2 = 1 := by rw [dL_setLn (by omega)]; exact h1
    have hJ1 : JO (setL D k (9 + s) (-1)) := jo_set h (by omega) (by omega) (fun hk => rowOK_1 e1 (by rw [dL_setLn (by omega)]; exact (h k hk).2.2))
    rw [if_pos hd]
    split
    · refine jo_lay hJ1 (fun _ => e1) ?_
      rcases (show s = 0 ∨ s = 1 by omega) with rfl | rfl
      · exact Or.inl rfl
      · exact Or.inr rfl
    · exact jo_tally (by decide) hJ1
  · rw [if_neg hd]; exact h
theorem jo_6 {D : ZD} {k : Nat} (h : JO D) : JO (setL D k 6 (-1)) := jo_set h (by decide) (by decide) (fun hk => ⟨by rw [dL_setLn (by omega)]; exact (h k hk).1, fun q => by
  rw [dL_setLn (by omega)] at q
  have := (h k hk).2.1 q
  rw [dL_setL, dL_setLn (by omega), dL_setLn (by omega)]
  exact ⟨rfl, this.2⟩, Or.inl dL_setL⟩)
theorem jo_45 {D : ZD} {k j : Nat} {v : Int32} (h : JO D) (hj : j = 4 ∨ j = 5 ∨ j = 3 ∨ j = 7 ∨ j = 8 ∨ j = 11 ∨ j = 12) : JO (setL D k j v) := jo_set h (by omega) (by omega) (fun hk => by
  have := h k hk
  unfold rowOK at this ⊢
  rw [dL_setLn (by omega), dL_setLn (by omega), dL_setLn (by omega), dL_setLn (by omega)]
  exact this)
theorem jo_repl {D : ZD} {k : Nat} (h : JO D) : JO (replD D k) := by
  unfold replD
  split
  · exact h
  · split
    · exact h
    · split
      · exact jo_tally (by decide) (jo_45 (jo_45 (jo_6 h) (Or.inl rfl)) (Or.inr (Or.inl rfl)))
      · exact jo_tally (by decide) (jo_6 h)
theorem jo_s1 {D : ZD} {k : Nat} (h : JO D) (hk : k < nL D) (ht : D 0 ≠ -1) : JO (s1Step k D) := by
  unfold s1Step
  split
  · exact jo_rep (jo_rep h hk ht (by decide)) (by rw [sm_nL (sm_rep (by decide))]; exact hk) (by rw [(sm_rep (D := D) (k := k) (s := 0) (by decide)).low (by decide)]; exact ht) (by decide)
  · exact h
theorem jo_s2 {D : ZD} {k : Nat} (h : JO D) : JO (s2Step k D) := by
  unfold s2Step
  split
  · exact jo_repl h
  · exact h
theorem jo_s3 {D : ZD} {k : Nat} (h : JO D) (hc : ofN D k < 20) : JO (s3Step k D) := by
  unfold s3Step mayD
  split
  · split
    · exact jo_ans h hc
    · exact h
  · exact h
theorem jo_s4 {D : ZD} {c : Nat} (h : JO D) : JO (s4Step c D) := by
  unfold s4Step
  split
  · exact jo_fail (jo_endAll h)
  · exact h
/-- the class's steps of a second -/
theorem s1_eq {D : ZD} {k : Nat} (h : JO D) (hk : k < nL D) (ht : D 0 ≠ -1) : repD (repD D k 0) k 1 = s1Step k D := by
  unfold s1Step
  by_cases h1 : dL D k 2 = 1
  · rw [if_pos h1]
  · rw [if_neg h1]
    have e0 : repD D k 0 = D := if_neg (fun q => h1 (rep_st h hk ht (by decide) q))
    rw [e0]
    exact if_neg (fun q => h1 (rep_st h hk ht (by decide) q))
theorem acc_eq {D : ZD} {k : Nat} {a b : Int32} : setL (setL (setL D k 4 a) k 5 b) k 6 (-1) = setL (setL (setL D k 6 (-1)) k 4 a) k 5 b := by
  unfold setL
  rw [upd_comm (f := upd D _ a) (i := 146 + 13 * k + 5) (by omega), upd_comm (f := D) (i := 146 + 13 * k + 4) (j := 146 + 13 * k + 6) (by omega)]
theorem s2_eq {D : ZD} {k : Nat} (h : JO D) (hI : Iv D) (hP : JP D) (hk : k < nL D) : setl D k = s2Step k D := by
  unfold s2Step
  by_cases h1 : dL D k 2 = 1
  · rw [if_pos h1]
    have ho := (hI.1.2.2.2 k hk).2
    have hot : othr D k < nP D := by
      unfold othr
      split
      · exact (hI.2.2.2 _ ho).2
      · exact (hI.2.2.1 k hk).2
    have hd := hP (othr D k) 1 hot (by decide)
    have hrep : (¬ dP D (othr D k) 1 = 0 ∧ D 0 - dL D k 8 = dP D (othr D k) 1) ↔ replied D k := by
      unfold replied
      exact and_congr ⟨fun q => Int32.lt_iff_le_and_ne.mpr ⟨hd, fun z => q z.symm⟩, fun q z => by rw [z] at q; exact Int32.lt_irrefl q⟩ Iff.rfl
    unfold setl replD
    rw [propext hrep]
    by_cases h6 : dL D k 6 = -1
    · rw [if_pos h6, if_pos h6]
    · rw [if_neg h6, if_neg h6]
      by_cases hr : replied D k
      · rw [if_neg (fun q : ¬ replied D k ∧ _ => q.1 hr)]
        by_cases hv : dL D k 7 ≤ dP D (othr D k) 2
        · rw [if_pos ⟨hr, hv⟩, if_pos ⟨hr, hv⟩, acc_eq, dL_setLn (by omega)]
        · rw [if_neg (fun q => hv q.2), if_pos (Or.inl hr), if_neg (fun q => hv q.2)]
      · rw [if_neg (fun q : replied D k ∧ _ => hr q.1)]
        by_cases hw : D 0 - dL D k 8 < D 3
        · rw [if_neg (fun q => q.elim hr (fun z => absurd z (Int32.not_le.mpr hw))), if_pos ⟨hr, hw⟩]
        · rw [if_pos (Or.inr (Int32.not_lt.mp hw)), if_neg (fun q => hw q.2), if_neg (fun q => hr q.1)]
  · rw [if_neg h1]
    exact if_pos ((h k hk).2.1 h1).1
theorem ansE_eq {D0 D : ZD} {sg : ZSg} (hs : SegD sg D0) (hg : Ctg sg D0) (hI : Iv D0) (hJ : JS D0) (hD : Same D0 D) {k : Nat} (hk : k < nL D0) : ansE D sg k = ansD D k := by
  have hID := hI.same hD
  have hof := hID.1.2.2.2 k (by rw [sm_nL hD]; exact hk)
  have hc : ofN D k < nC D0 := by rw [← sm_nC hD]; exact hof.2
  have hc20 : ofN D k < 20 := by have := hI.1.2.1.2; omega
  have h3 : Same D0 (ans3 D k) := hD.trans (sm_ans3 hc20)
  have e2 : dL (ans3 D k) k 2 = 1 := (if_neg (by omega)).trans ((if_neg (by omega)).trans dL_setL)
  have e4 : itr (erS 2) (sg (ofN D k)).1 ((sg (ofN D k)).2 - (sg (ofN D k)).1) (ans3 D k) = ans4 D k := by
    rw [er_eq hs hI.1 h3 hc (Or.inr ⟨k, rfl, hk, by rw [e2]; decide⟩)]
    unfold ans4
    rw [hof.1]
  have h4 : Same D0 (ans4 D k) := hD.trans (sm_ans4 hc20)
  have e5 : ansC D sg k = ans5 D k := by
    unfold ansC
    rw [e4, show nL D = nL (ans4 D k) from (sm_nL hD).trans (sm_nL h4).symm, at_eq hs hg hI hJ h4]
    rfl
  have h5 : Same D (ans5 D k) := sm_ans5 hc20
  unfold ansE ansD
  rw [e5, h5.C hc20 (by decide), sm_rfN h5 hc20]
theorem s3_t {D0 D : ZD} {sg : ZSg} (hs : SegD sg D0) (hg : Ctg sg D0) (hI : Iv D0) (hJ : JS D0) (hP : JP D0) (hD : Same D0 D) {k : Nat} (hk : k < nL D0) (ha : annP D k) : ansE D sg k = s3Step k D := by
  have hID := hI.same hD
  have hce := (hID.2.2.1 k (by rw [sm_nL hD]; exact hk)).2
  have hd := (hP.same hI.1 hD) (ceN D k) 0 hce (by decide)
  unfold s3Step mayD
  rw [if_pos ha.1, if_pos ⟨Int32.lt_iff_le_and_ne.mpr ⟨hd, fun z => ha.2.1 z.symm⟩, ha.2.2.1, ha.2.2.2⟩]
  exact ansE_eq hs hg hI hJ hD hk
theorem s3_f {D : ZD} {k : Nat} (ha : ¬ annP D k) : s3Step k D = D := by
  unfold s3Step mayD
  by_cases h1 : dL D k 2 = 0
  · rw [if_pos h1, if_neg (fun q => ha ⟨h1, fun z => by rw [z] at q; exact Int32.lt_irrefl q.1, q.2.1, q.2.2⟩)]
  · rw [if_neg h1]
theorem s4_t {D0 D : ZD} {sg : ZSg} (hs : SegD sg D0) (hI : Iv D0) (hD : Same D0 D) {c : Nat} (hc : c < nC D0) (h1 : rngs D (nI c)) (h2 : ¬ D 0 - dC D c 1 < dC D c 2) : failD (itr (erS 3) (sg c).1 ((sg c).2 - (sg c).1) D) c = s4Step c D := by
  have h40 := hI.1.2.2.1.2
  rw [er_eq hs hI.1 hD hc (Or.inl (fun k hk => nI_nm1 (by omega)))]
  unfold s4Step
  rw [if_pos ⟨h1, h2⟩]
end CInv
