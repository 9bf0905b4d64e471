section DX
/-! more of the row of numbers: the law's way through a second, what it may make, what holds besides -/
theorem en_keep {p r : Int32} {k j : Nat} (hj : j < 13) : ∀ (f i : Nat) (D : ZD), ¬ KP p D k → dL (itr (enS p r) i f D) k j = dL D k j
  | 0, _, _, _ => rfl
  | f + 1, i, D, h => by
    show dL (itr (enS p r) (i + 1) f (enS p r i D)) k j = dL D k j
    by_cases hik : k = i
    · subst hik
      have e : enS p r k D = D := by unfold enS; exact if_neg h
      rw [e]
      exact en_keep hj f (k + 1) D h
    · rw [en_keep hj f (i + 1) _ (fun q => h ((KP_en hik).mp q))]
      unfold enS
      split
      · exact end_o hik hj
      · rfl
noncomputable def ftL (D : ZD) (c : Nat) (X : ZD) : ZD := @ite _ (rngs D (nI c) ∧ ¬ rngs X (nI c)) (Classical.propDecidable _) (failD X c) X
theorem ends_eq {D : ZD} (hI : Iv D) {p r : Int32} : itr (ftL D) 0 (nC D) (itr (enS p r) 0 (nL D) D) = endToD D p r := by
  unfold endToD
  rw [et_itr]
  have hbit := fun c (hc : c < 20) => et_bit hI (p := p) (r := r) hc (nL D) 0 (D, 0) (Nat.zero_add _) sm_rf
  refine itr_cong (fun X => ∀ v, rngs X v ↔ rngs (itr (enS p r) 0 (nL D) D) v) _ _ _ (fun _ => Iff.rfl) (fun c X h1 h2 hX => ?_)
  have hc20 : c < 20 := by have := hI.1.2.1.2; omega
  have hn : nL (itr (enS p r) 0 (nL D) D) = nL D := sm_nL (sm_itr (nL D) (fun _ _ _ _ => sm_en) _ _ _ (by omega) sm_rf)
  have key : (rngs D (nI c) ∧ ¬ rngs X (nI c)) ↔ (tbit (itr (etStep p r) 0 (nL D) (D, 0)).2 c ∧ ¬ rngs X (nI c)) := by
    refine ⟨fun ⟨a, b⟩ => ⟨?_, b⟩, fun ⟨a, b⟩ => ⟨?_, b⟩⟩
    · refine (hbit c hc20).mpr (Or.inr ?_)
      rw [hX] at b
      obtain ⟨k, hk, k1, k2⟩ := rngs_iff.mp a
      have ho := hI.1.2.2.2 k hk
      refine ⟨k, Nat.zero_le _, by omega, Classical.byContradiction fun q => b ?_, ?_⟩
      · refine rngs_iff.mpr ⟨k, by rw [hn]; exact hk, ?_, ?_⟩
        · rw [en_keep (by decide) _ _ _ q]; exact k1
        · rw [en_keep (by decide) _ _ _ q]; exact k2
      · rw [ho.1] at k1
        have h20 := hI.1.2.1.2
        show ofN D k = c
        exact (nI_eq (by omega) (by omega)).mp k1
    · rcases (hbit c hc20).mp a with z | ⟨k, -, g2, g3, g4⟩
      · exact absurd z (tbit_0 c hc20)
      · have hk : k < nL D := by omega
        refine rngs_iff.mpr ⟨k, hk, ?_, g3.1⟩
        rw [(hI.1.2.2.2 k hk).1]
        exact congrArg nI g4
  refine ⟨?_, fun v => ?_⟩
  · unfold ftL ftStep
    by_cases q : rngs D (nI c) ∧ ¬ rngs X (nI c)
    · rw [if_pos q]; exact (if_pos (key.mp q)).symm
    · rw [if_neg q]; exact (if_neg (fun z => q (key.mpr z))).symm
  · unfold ftL
    split
    · rw [rngs_fail]; exact hX v
    · exact hX v
theorem sm_ftL {D : ZD} {c : Nat} {X : ZD} : Same X (ftL D c X) := by
  unfold ftL
  split
  · exact sm_fail
  · exact sm_rf
/-! what may still be made: 3 for a leg that rings, 1 for one that talks or is held -/
def wt (v : Int32) : Nat := if v = 0 then 3 else if v = 3 then 0 else 1
def potF (D : ZD) : Nat → Nat
  | 0 => 0
  | n + 1 => potF D n + wt (dL D n 2)
def pot (D : ZD) : Nat := potF D (nL D)
theorem potF_o {D D' : ZD} : ∀ n, (∀ k, k < n → wt (dL D' k 2) = wt (dL D k 2)) → potF D' n = potF D n
  | 0, _ => rfl
  | n + 1, h => by
    show potF D' n + wt (dL D' n 2) = potF D n + wt (dL D n 2)
    rw [potF_o n (fun k hk => h k (by omega)), h n (by omega)]
theorem potF_set {D D' : ZD} {k : Nat} (ho : ∀ k', k' ≠ k → wt (dL D' k' 2) = wt (dL D k' 2)) : ∀ n, k < n → potF D' n + wt (dL D k 2) = potF D n + wt (dL D' k 2)
  | 0, h => by omega
  | n + 1, h => by
    show potF D' n + wt (dL D' n 2) + wt (dL D k 2) = potF D n + wt (dL D n 2) + wt (dL D' k 2)
    by_cases hk : k = n
    · subst hk
      rw [potF_o k (fun k' hk' => ho k' (by omega))]
      omega
    · have := potF_set ho n (by omega)
      rw [ho n (fun q => hk q.symm)]
      omega
theorem pot_o {D D' : ZD} (hn : nL D' = nL D) (h : ∀ k, wt (dL D' k 2) = wt (dL D k 2)) : pot D' = pot D := by
  unfold pot
  rw [hn]
  exact potF_o _ (fun k _ => h k)
theorem pot_set {D D' : ZD} {k : Nat} (hk : k < nL D) (hn : nL D' = nL D) (ho : ∀ k', k' ≠ k → dL D' k' 2 = dL D k' 2) : pot D' + wt (dL D k 2) = pot D + wt (dL D' k 2) := by
  unfold pot
  rw [hn]
  exact potF_set (fun k' h => by rw [ho k' h]) _ hk
theorem wt_3 {v : Int32} (h : v ≠ 3) : 1 ≤ wt v := by
  unfold wt
  by_cases h0 : v = 0
  · rw [if_pos h0]; omega
  · rw [if_neg h0, if_neg h]; omega
theorem wt_le {v : Int32} : wt v ≤ 3 := by
  unfold wt
  split
  · omega
  · split <;> omega
theorem potF_le {D : ZD} : ∀ n, potF D n ≤ 3 * n
  | 0 => Nat.le_refl _
  | n + 1 => by
    have := potF_le (D := D) n
    have := wt_le (v := dL D n 2)
    show potF D n + wt (dL D n 2) ≤ 3 * (n + 1)
    omega
theorem pot_end {D : ZD} {k : Nat} {r : Int32} (hk : k < nL D) (h : dL D k 2 ≠ 3) : pot (endD D k r) + 1 ≤ pot D := by
  have h1 := pot_set (D' := endD D k r) hk (sm_nL sm_end_) (fun k' q => end_o q (by decide))
  rw [end_2] at h1
  have h2 := wt_3 h
  have h3 : wt 3 = 0 := rfl
  omega
theorem pot_tally {D : ZD} {t : Nat} (ht : t < 7) : pot (tally D t) = pot D := pot_o (sm_nL (sm_tally ht)) (fun k => by rw [tally_L ht])
theorem pot_take {D : ZD} {c : Nat} : pot (takeB D c) = pot D := by
  unfold takeB
  split
  · rfl
  · split
    · rename_i h
      refine pot_o (sm_nL (sm_setL (by decide) (by decide))) (fun k => ?_)
      by_cases hk : k = rf D c
      · subst hk
        rw [dL_setL, h]; rfl
      · rw [dL_setLn (by omega)]
    · rfl
theorem pot_fail {D : ZD} {c : Nat} : pot (failD D c) = pot D := by unfold failD; rw [pot_take, pot_tally (by decide)]
theorem pot_en {p r : Int32} {k : Nat} {D : ZD} (hk : k < nL D) : pot (enS p r k D) ≤ pot D := by
  unfold enS
  split
  · rename_i h
    have := pot_end (r := r) hk (show dL D k 2 ≠ 3 by rw [h.1]; decide)
    omega
  · exact Nat.le_refl _
theorem pot_endTo {D : ZD} (hI : Iv D) {p r : Int32} : pot (endToD D p r) ≤ pot D := by
  rw [← ends_eq hI]
  refine itr_inv (fun X => pot X ≤ pot D) _ _ _ ?_ (fun c X _ _ hX => ?_)
  · refine (itr_inv (fun X => Same D X ∧ pot X ≤ pot D) _ _ _ ⟨sm_rf, Nat.le_refl _⟩ (fun k X _ h2 hX => ⟨hX.1.trans sm_en, Nat.le_trans (pot_en (by rw [sm_nL hX.1]; omega)) hX.2⟩)).2
  · unfold ftL
    split
    · rw [pot_fail]; exact hX
    · exact hX
theorem pot_er {r : Int32} {k : Nat} {D : ZD} (hk : k < nL D) : pot (erS r k D) ≤ pot D := by
  unfold erS
  split
  · rename_i h
    have := pot_end (r := r) hk (show dL D k 2 ≠ 3 by rw [h]; decide)
    omega
  · exact Nat.le_refl _
theorem pot_ers {D0 : ZD} {r : Int32} : ∀ (f i : Nat) (D : ZD), Same D0 D → i + f ≤ nL D0 → pot (itr (erS r) i f D) ≤ pot D
  | 0, _, _, _, _ => Nat.le_refl _
  | f + 1, i, D, hs, hf => Nat.le_trans (pot_ers f (i + 1) (erS r i D) (hs.trans sm_er) (by omega)) (pot_er (by rw [sm_nL hs]; omega))
/-! what holds besides: who answered is a leg; a leg that hasn't ended has no reason -/
def JX (D : ZD) : Prop := (∀ c, c < nC D → dC D c 4 = -1 ∨ (dC D c 4 = nI (tN (dC D c 4)) ∧ tN (dC D c 4) < nL D)) ∧ ∀ k, k < nL D → dL D k 2 ≠ 3 → dL D k 3 = 0
theorem JX.o {D D' : ZD} (h : JX D) (hI : Ix D) (hs : Same D D') (h4 : ∀ c, c < nC D → dC D' c 4 = dC D c 4) (hr : ∀ k, k < nL D → dL D' k 2 ≠ 3 → dL D' k 3 = 0) : JX D' := by
  refine ⟨fun c hc => ?_, fun k hk => hr k (by rw [← sm_nL hs]; exact hk)⟩
  rw [sm_nC hs] at hc
  rw [h4 c hc, sm_nL hs]
  exact h.1 c hc
theorem JX.set {D : ZD} {k j : Nat} {v : Int32} (h : JX D) (hI : Ix D) (h2 : 2 ≤ j) (hj : j < 13) (hk : k < nL D → dL (setL D k j v) k 2 ≠ 3 → dL (setL D k j v) k 3 = 0) : JX (setL D k j v) := by
  have h20 := hI.2.1.2
  refine h.o hI (sm_setL h2 hj) (fun c hc => if_neg (by omega)) (fun k' hk' => ?_)
  by_cases hkk : k' = k
  · subst hkk; exact hk hk'
  · rw [dL_setLn (by omega), dL_setLn (by omega)]
    exact h.2 k' hk'
theorem JX.set0 {D : ZD} {k j : Nat} {v : Int32} (h : JX D) (hI : Ix D) (h2 : 4 ≤ j) (hj : j < 13) : JX (setL D k j v) := h.set hI (by omega) hj (fun hk => by
  rw [dL_setLn (by omega), dL_setLn (by omega)]
  exact h.2 k hk)
theorem Ix.set {D : ZD} {k j : Nat} {v : Int32} (hI : Ix D) (h2 : 2 ≤ j) (hj : j < 13) : Ix (setL D k j v) := hI.same (sm_setL h2 hj)
theorem JX.drop {D : ZD} {k : Nat} (h : JX D) (hI : Ix D) : JX (dropD D k) := ((h.set0 hI (by decide) (by decide)).set0 (hI.set (by decide) (by decide)) (by decide) (by decide)).set0 ((hI.set (by decide) (by decide)).set (by decide) (by decide)) (by decide) (by decide)
theorem JX.end_ {D : ZD} {k : Nat} {r : Int32} (h : JX D) (hI : Ix D) : JX (endD D k r) := by
  have h1 : JX (setL D k 2 3) := h.set hI (by decide) (by decide) (fun _ q => absurd dL_setL q)
  have i1 : Ix (setL D k 2 3) := hI.set (by decide) (by decide)
  have h2 : JX (setL (setL D k 2 3) k 3 r) := h1.set i1 (by decide) (by decide) (fun _ q => absurd ((dL_setLn (by omega)).trans dL_setL) q)
  exact h2.drop (i1.set (by decide) (by decide))
theorem JX.tally_ {D : ZD} {t : Nat} (h : JX D) (hI : Ix D) (ht : t < 7) : JX (tally D t) := by
  have h20 := hI.2.1.2
  exact h.o hI (sm_tally ht) (fun c hc => if_neg (by omega)) (fun k hk => by rw [tally_L ht, tally_L ht]; exact h.2 k hk)
theorem JX.take {D : ZD} {c : Nat} (h : JX D) (hI : Ix D) : JX (takeB D c) := by
  unfold takeB
  split
  · exact h
  · split
    · rename_i h2
      exact h.set hI (by decide) (by decide) (fun hk _ => by rw [dL_setLn (by omega)]; exact h.2 _ hk (by rw [h2]; decide))
    · exact h
theorem JX.fail {D : ZD} {c : Nat} (h : JX D) (hI : Ix D) : JX (failD D c) := (h.tally_ hI (by decide)).take (hI.same (sm_tally (by decide)))
theorem JX.itr {g : Nat → ZD → ZD} {D : ZD} (N : Nat) (hg : ∀ k X, k < N → Same D X → JX X → Same X (g k X) ∧ JX (g k X)) : ∀ (f i : Nat) (X : ZD), i + f ≤ N → Same D X → JX X → JX (itr g i f X)
  | 0, _, _, _, _, h => h
  | f + 1, i, X, hN, hs, h => by
    obtain ⟨a, b⟩ := hg i X (by omega) hs h
    exact JX.itr N hg f (i + 1) (g i X) (by omega) (hs.trans a) b
theorem JX.endTo {D : ZD} {p r : Int32} (h : JX D) (hI : Iv D) : JX (endToD D p r) := by
  rw [← ends_eq hI]
  have hs : Same D (_root_.Jvm.Pilot.CCallForksLaw_law_r6927_1bd9c9.itr (enS p r) 0 (nL D) D) := sm_itr (nL D) (fun _ _ _ _ => sm_en) _ _ _ (by omega) sm_rf
  refine JX.itr (nC D) (fun c X _ hX hJ => ⟨sm_ftL, ?_⟩) _ _ _ (by omega) hs (JX.itr (nL D) (fun k X _ hX hJ => ⟨sm_en, ?_⟩) _ _ _ (by omega) sm_rf h)
  · unfold ftL
    split
    · exact hJ.fail (hI.1.same hX)
    · exact hJ
  · unfold enS
    split
    · exact hJ.end_ (hI.1.same hX)
    · exact hJ
theorem JX.endAll {D : ZD} {c but r : Int32} (h : JX D) (hI : Ix D) : JX (endAllD D c but r) := by
  refine JX.itr (D := D) (nL D) (fun k X _ hX hJ => ⟨sm_eaStep, ?_⟩) _ _ _ (by omega) sm_rf h
  unfold eaStep
  split
  · exact hJ
  · split
    · split
      · exact hJ.end_ (hI.same hX)
      · exact hJ
    · exact hJ
theorem JX.ans3_ {D : ZD} {k : Nat} (h : JX D) (hI : Ix D) (hk : k < nL D) (h0 : dL D k 2 = 0) : JX (ans3 D k) := by
  have h20 := hI.2.1.2
  have h40 := hI.2.2.1.2
  have hc := (hI.2.2.2 k hk).2
  have h1 : JX (setL D k 2 1) := h.set hI (by decide) (by decide) (fun _ _ => by rw [dL_setLn (by omega)]; exact h.2 k hk (by rw [h0]; decide))
  have i1 : Ix (setL D k 2 1) := hI.set (by decide) (by decide)
  have s9 : Same D (setC (setL D k 2 1) (ofN D k) 4 (nI k)) := (sm_setL (by decide) (by decide)).trans (sm_setC (by omega))
  have s1 : Same D (setL D k 2 1) := sm_setL (by decide) (by decide)
  refine JX.tally_ (D := setC (setL D k 2 1) (ofN D k) 4 (nI k)) ⟨fun c' hc' => ?_, fun k' hk' => ?_⟩ (i1.same (sm_setC (by omega))) (by decide)
  · by_cases hcc : c' = ofN D k
    · right
      have e : dC (setC (setL D k 2 1) (ofN D k) 4 (nI k)) c' 4 = nI k := by rw [hcc]; exact if_pos rfl
      have t : tN (nI k) = k := nI_clamp (by omega)
      rw [e, t, sm_nL s9]
      exact ⟨rfl, hk⟩
    · have e : dC (setC (setL D k 2 1) (ofN D k) 4 (nI k)) c' 4 = dC (setL D k 2 1) c' 4 := if_neg (by omega)
      rw [e, sm_nL s9, ← sm_nL s1]
      exact h1.1 c' (by rw [sm_nC s1, ← sm_nC s9]; exact hc')
  · have e : ∀ j, dL (setC (setL D k 2 1) (ofN D k) 4 (nI k)) k' j = dL (setL D k 2 1) k' j := fun j => if_neg (by omega)
    rw [e, e]
    exact h1.2 k' (by rw [sm_nL s1, ← sm_nL s9]; exact hk')
theorem JX.ans {D : ZD} {k : Nat} (h : JX D) (hI : Iv D) (hk : k < nL D) (h0 : dL D k 2 = 0) : JX (ansD D k) := by
  have hc : ofN D k < 20 := by have := (hI.1.2.2.2 k hk).2; have := hI.1.2.1.2; omega
  have j3 := h.ans3_ hI.1 hk h0
  have s3 : Same D (ans3 D k) := sm_ans3 hc
  have j4 : JX (ans4 D k) := j3.endAll (hI.1.same s3)
  have i4 : Iv (ans4 D k) := hI.same (sm_ans4 hc)
  have j5 : JX (ans5 D k) := j4.endTo i4
  have i5 : Iv (ans5 D k) := hI.same (sm_ans5 hc)
  unfold ansD
  split
  · exact j5
  · split
    · exact (j5.end_ i5.1).tally_ (i5.1.same sm_end_) (by decide)
    · exact j5
theorem JX.lay {D : ZD} {k : Nat} {x v : Int32} (h : JX D) (hI : Ix D) : JX (layD D k x v) := ((h.set0 hI (by decide) (by decide)).set0 (hI.set (by decide) (by decide)) (by decide) (by decide)).set0 ((hI.set (by decide) (by decide)).set (by decide) (by decide)) (by decide) (by decide)
theorem JX.rep {D : ZD} {k s : Nat} (h : JX D) (hI : Ix D) (hs : s < 2) : JX (repD D k s) := by
  have h1 : JX (setL D k (9 + s) (-1)) := h.set0 hI (by omega) (by omega)
  have i1 : Ix (setL D k (9 + s) (-1)) := hI.set (by omega) (by omega)
  unfold repD
  split
  · split
    · exact h1.lay i1
    · exact h1.tally_ i1 (by decide)
  · exact h
theorem JX.repl {D : ZD} {k : Nat} (h : JX D) (hI : Ix D) : JX (replD D k) := by
  have h6 : JX (setL D k 6 (-1)) := h.set0 hI (by decide) (by decide)
  have i6 : Ix (setL D k 6 (-1)) := hI.set (by decide) (by decide)
  unfold replD
  split
  · exact h
  · split
    · exact h
    · split
      · exact ((h6.set0 i6 (by decide) (by decide)).set0 (i6.set (by decide) (by decide)) (by decide) (by decide)).tally_ ((i6.set (by decide) (by decide)).set (by decide) (by decide)) (by decide)
      · exact h6.tally_ i6 (by decide)
theorem JX.sec0 {D : ZD} {v : Int32} (h : JX D) : JX (upd D 0 v) := by
  refine ⟨fun c hc => ?_, fun k hk => ?_⟩
  · rw [sec0_dC]; exact h.1 c hc
  · rw [sec0_dL, sec0_dL]; exact h.2 k hk
theorem JX.sec {D : ZD} (h : JX D) (hI : Iv D) : JX (secD D) := by
  unfold secD
  generalize hD1 : upd D 0 (D 0 + 1) = D1
  have h1 : JX D1 := by rw [← hD1]; exact h.sec0
  have i1 : Iv D1 := by rw [← hD1]; exact hI.sec0
  have n1 : nL D = nL D1 := by rw [← hD1]; exact sec0_nL.symm
  have c1 : nC D = nC D1 := by rw [← hD1]; exact sec0_nC.symm
  rw [n1, c1]
  have s1 : Same D1 (_root_.Jvm.Pilot.CCallForksLaw_law_r6927_1bd9c9.itr s1Step 0 (nL D1) D1) := sm_itr (nL D1) (fun _ _ _ _ => sm_s1) _ _ _ (by omega) sm_rf
  have s2 := sm_itr (D := D1) (g := s2Step) (nL D1) (fun _ _ _ _ => sm_s2) (nL D1) 0 _ (by omega) s1
  have s3 := sm_itr (D := D1) (g := s3Step) (nL D1) (fun k X hk hX => sm_s3 (of20 i1 hX hk)) (nL D1) 0 _ (by omega) s2
  refine JX.itr (nC D1) (fun c X _ hX hJ => ⟨sm_s4, ?_⟩) _ _ _ (by omega) s3 (JX.itr (nL D1) (fun k X hk hX hJ => ⟨sm_s3 (of20 i1 hX hk), ?_⟩) _ _ _ (by omega) s2 (JX.itr (nL D1) (fun k X _ hX hJ => ⟨sm_s2, ?_⟩) _ _ _ (by omega) s1 (JX.itr (nL D1) (fun k X _ hX hJ => ⟨sm_s1, ?_⟩) _ _ _ (by omega) sm_rf h1)))
  · unfold s4Step
    split
    · exact (hJ.endAll (i1.1.same hX)).fail ((i1.1.same hX).same sm_endAll)
    · exact hJ
  · unfold s3Step
    split
    · rename_i q0
      unfold mayD
      split
      · exact hJ.ans (i1.same hX) (by rw [sm_nL hX]; exact hk) q0
      · exact hJ
    · exact hJ
  · unfold s2Step
    split
    · exact hJ.repl (i1.1.same hX)
    · exact hJ
  · unfold s1Step
    split
    · exact (hJ.rep (i1.1.same hX) (by decide)).rep ((i1.1.same hX).same (sm_rep (by decide))) (by decide)
    · exact hJ
end DX
