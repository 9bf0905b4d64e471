section High
/-! the rule's codes stay -/
def Hs (D0 X : ZD) : Prop := Same D0 X ∧ ∀ i, 666 ≤ i → X i = D0 i
section
variable {D0 X : ZD} {k j c s : Nat} {v r p but : Int32}
theorem Hs.rf : Hs D0 D0 := ⟨sm_rf, fun _ _ => rfl⟩
theorem Hs.trans {Y : ZD} (h : Hs D0 X) (h2 : Hs X Y) : Hs D0 Y := ⟨h.1.trans h2.1, fun i hi => (h2.2 i hi).trans (h.2 i hi)⟩
theorem hs_set (h : Hs D0 X) (h2 : 2 ≤ j) (hj : j < 13) (hk : k < 40) : Hs D0 (setL X k j v) := ⟨h.1.trans (sm_setL h2 hj), fun i hi => (if_neg (by omega)).trans (h.2 i hi)⟩
theorem hs_tal {t : Nat} (h : Hs D0 X) (ht : t < 7) : Hs D0 (tally X t) := ⟨h.1.trans (sm_tally ht), fun i hi => (if_neg (by omega)).trans (h.2 i hi)⟩
theorem hs_setC (h : Hs D0 X) (hc : c < 20) : Hs D0 (setC X c 4 v) := ⟨h.1.trans (sm_setC hc), fun i hi => (if_neg (by omega)).trans (h.2 i hi)⟩
theorem hs_drop (h : Hs D0 X) (hk : k < 40) : Hs D0 (dropD X k) := by
  unfold dropD
  exact hs_set (hs_set (hs_set h (by decide) (by decide) hk) (by decide) (by decide) hk) (by decide) (by decide) hk
theorem hs_end (h : Hs D0 X) (hk : k < 40) : Hs D0 (endD X k r) := by
  unfold endD
  exact hs_drop (hs_set (hs_set h (by decide) (by decide) hk) (by decide) (by decide) hk) hk
theorem hs_rf (hI : Iv D0) (h : Hs D0 X) (hc : c < nC D0) (h3 : dC X c 3 ≠ -1) : rf X c < 40 := by
  have hIX := hI.same h.1
  rcases hIX.2.1 c (by rw [sm_nC h.1]; exact hc) with q | q
  · exact absurd q h3
  · have := hIX.1.2.2.1.2
    omega
theorem hs_take (hI : Iv D0) (h : Hs D0 X) (hc : c < nC D0) : Hs D0 (takeB X c) := by
  unfold takeB
  by_cases q : dC X c 3 = -1
  · rw [if_pos q]; exact h
  · rw [if_neg q]
    split
    · exact hs_set h (by decide) (by decide) (hs_rf hI h hc q)
    · exact h
theorem hs_fail (hI : Iv D0) (h : Hs D0 X) (hc : c < nC D0) : Hs D0 (failD X c) := hs_take hI (hs_tal h (by decide)) hc
theorem hs_ea {cc : Int32} (h : Hs D0 X) (hk : k < 40) : Hs D0 (eaStep cc but r k X) := by
  unfold eaStep
  split
  · exact h
  · split
    · split
      · exact hs_end h hk
      · exact h
    · exact h
theorem hs_nL (hI : Iv D0) (h : Hs D0 X) : nL X ≤ 40 := by rw [sm_nL h.1]; exact hI.1.2.2.1.2
theorem hs_nC (hI : Iv D0) (h : Hs D0 X) : nC X = nC D0 := sm_nC h.1
theorem hs_endAll {cc : Int32} (hI : Iv D0) (h : Hs D0 X) : Hs D0 (endAllD X cc but r) := by
  have := hs_nL hI h
  exact itr_inv (Hs D0) _ _ _ h (fun k X' _ hk q => hs_ea q (by omega))
theorem hs_et {x : ZD × Int64} (h : Hs D0 x.1) (hk : k < 40) : Hs D0 (etStep p r k x).1 := by
  unfold etStep
  split
  · split
    · exact hs_end h hk
    · exact h
  · exact h
theorem hs_endTo (hI : Iv D0) (h : Hs D0 X) : Hs D0 (endToD X p r) := by
  have h40 := hs_nL hI h
  have hC := hs_nC hI h
  unfold endToD
  refine itr_inv (Hs D0) _ _ _ (itr_inv (fun x : ZD × Int64 => Hs D0 x.1) _ _ _ h (fun k x _ hk q => hs_et q (by omega))) (fun c X' _ hc q => ?_)
  unfold ftStep
  split
  · exact hs_fail hI q (by omega)
  · exact q
theorem hs_of (hI : Iv D0) (h : Hs D0 X) (hk : k < nL D0) : ofN X k < nC D0 ∧ ofN X k < 20 := by
  have hIX := hI.same h.1
  have h1 := (hIX.1.2.2.2 k (by rw [sm_nL h.1]; exact hk)).2
  rw [sm_nC h.1] at h1
  have := hI.1.2.1.2
  exact ⟨h1, by omega⟩
theorem hs_ans (hI : Iv D0) (h : Hs D0 X) (hk : k < nL D0) : Hs D0 (ansD X k) := by
  have h40 := hI.1.2.2.1.2
  have ho := hs_of hI h hk
  have h5 : Hs D0 (ans5 X k) := by
    unfold ans5 ans4 ans3
    exact hs_endTo hI (hs_endAll hI (hs_tal (hs_setC (hs_set h (by decide) (by decide) (by omega)) ho.2) (by decide)))
  unfold ansD
  by_cases q : dC X (ofN X k) 3 = -1
  · rw [if_pos q]; exact h5
  · rw [if_neg q]
    split
    · exact hs_tal (hs_end h5 (hs_rf hI h ho.1 q)) (by decide)
    · exact h5
theorem hs_lay (h : Hs D0 X) (hk : k < 40) : Hs D0 (layD X k p v) := by
  unfold layD
  exact hs_set (hs_set (hs_set h (by decide) (by decide) hk) (by decide) (by decide) hk) (by decide) (by decide) hk
theorem hs_rep (h : Hs D0 X) (hk : k < 40) (hs : s < 2) : Hs D0 (repD X k s) := by
  unfold repD
  split
  · split
    · exact hs_lay (hs_set h (by omega) (by omega) hk) hk
    · exact hs_tal (hs_set h (by omega) (by omega) hk) (by decide)
  · exact h
theorem hs_repl (h : Hs D0 X) (hk : k < 40) : Hs D0 (replD X k) := by
  unfold replD
  split
  · exact h
  · split
    · exact h
    · split
      · exact hs_tal (hs_set (hs_set (hs_set h (by decide) (by decide) hk) (by decide) (by decide) hk) (by decide) (by decide) hk) (by decide)
      · exact hs_tal (hs_set h (by decide) (by decide) hk) (by decide)
theorem hs_s1 (h : Hs D0 X) (hk : k < 40) : Hs D0 (s1Step k X) := by
  unfold s1Step
  split
  · exact hs_rep (hs_rep h hk (by decide)) hk (by decide)
  · exact h
theorem hs_s2 (h : Hs D0 X) (hk : k < 40) : Hs D0 (s2Step k X) := by
  unfold s2Step
  split
  · exact hs_repl h hk
  · exact h
theorem hs_s3 (hI : Iv D0) (h : Hs D0 X) (hk : k < nL D0) : Hs D0 (s3Step k X) := by
  unfold s3Step
  split
  · unfold mayD
    split
    · exact hs_ans hI h hk
    · exact h
  · exact h
theorem hs_s4 (hI : Iv D0) (h : Hs D0 X) (hc : c < nC D0) : Hs D0 (s4Step c X) := by
  unfold s4Step
  split
  · exact hs_fail hI (hs_endAll hI h) hc
  · exact h
theorem hs_hup (hI : Iv D0) : Hs D0 (hupD D0 v).2 := by
  have h40 := hI.1.2.2.1.2
  have h20 := hI.1.2.1.2
  unfold hupD
  by_cases q1 : legW D0 v 1 ≠ -1
  · rw [if_pos q1]
    exact hs_end Hs.rf (by have := (leg_ok h40 q1).2.1; omega)
  · rw [if_neg q1]
    by_cases q2 : rngOf D0 v ≠ -1
    · rw [if_pos q2]
      exact hs_take hI (hs_endAll hI Hs.rf) (rng_ok h20 q2).2
    · rw [if_neg q2]
      by_cases q3 : legW D0 v 2 ≠ -1
      · rw [if_pos q3]
        exact hs_end Hs.rf (by have := (leg_ok h40 q3).2.1; omega)
      · rw [if_neg q3]
        split
        · exact Hs.rf
        · exact hs_endTo hI Hs.rf
theorem hs_glr {o : Nat} (h : Hs D0 X) (hk : k < 40) (ho : o < 2) (hs : s < 2) : Hs D0 (glrD X k o s v) := by
  unfold glrD
  exact hs_tal (hs_set (hs_set (hs_set (hs_set (hs_set h (by omega) (by omega) hk) (by omega) (by omega) hk) (by decide) (by decide) hk) (by decide) (by decide) hk) (by decide) (by decide) hk) (by decide)
theorem hs_mkO (hk : k < 40) (hs : s < 2) : Hs D0 (mkO D0 k s v).2 := by
  unfold mkO
  split
  · exact Hs.rf
  · split
    · exact hs_lay Hs.rf hk
    · exact hs_glr Hs.rf hk (by omega) hs
theorem RC.hs {D : ZD} {cs : List Int32} (h : RC D0 cs) (h8 : D 8 = D0 8) (hh : ∀ i, 666 ≤ i → D i = D0 i) : RC D cs := by
  obtain ⟨h1, h2, h3, h4⟩ := h
  exact ⟨h8.trans h1, h2, fun j hj => (hh _ (by omega)).trans (h3 j hj), h4⟩
theorem RC.hs' {D : ZD} {cs : List Int32} (h : RC D0 cs) (hh : Hs D0 D) : RC D cs := RC.hs h (hh.1.low (by decide)) hh.2
end
theorem hs_sec {sg : ZSg} {D : ZD} (h : GI sg D) (ht : tmN D < 20000) : ∀ i, 666 ≤ i ∨ i = 8 → secD D i = D i := by
  have hI := (h.sec0 ht).1.iv
  have h40 := hI.1.2.2.1.2
  have a1 : Hs (upd D 0 (D 0 + 1)) (itr s1Step 0 (nL D) (upd D 0 (D 0 + 1))) := itr_inv (Hs _) _ _ _ Hs.rf (fun k X _ hk q => hs_s1 q (by have : nL (upd D 0 (D 0 + 1)) = nL D := rfl; omega))
  have a2 : Hs (upd D 0 (D 0 + 1)) (itr s2Step 0 (nL D) (itr s1Step 0 (nL D) (upd D 0 (D 0 + 1)))) := itr_inv (Hs _) _ _ _ a1 (fun k X _ hk q => hs_s2 q (by have : nL (upd D 0 (D 0 + 1)) = nL D := rfl; omega))
  have a3 : Hs (upd D 0 (D 0 + 1)) (itr s3Step 0 (nL D) (itr s2Step 0 (nL D) (itr s1Step 0 (nL D) (upd D 0 (D 0 + 1))))) := itr_inv (Hs _) _ _ _ a2 (fun k X _ hk q => hs_s3 hI q (by have : nL (upd D 0 (D 0 + 1)) = nL D := rfl; omega))
  have a4 : Hs (upd D 0 (D 0 + 1)) (secD D) := by
    unfold secD
    exact itr_inv (Hs _) _ _ _ a3 (fun k X _ hk q => hs_s4 hI q (by have : nC (upd D 0 (D 0 + 1)) = nC D := rfl; omega))
  intro i hi
  rcases hi with hi | rfl
  · exact (a4.2 i hi).trans (if_neg (by omega))
  · exact (a4.1.low (by decide)).trans (if_neg (by decide))
theorem RC.sec {sg : ZSg} {D : ZD} {cs : List Int32} (h : RC D cs) (hG : GI sg D) (ht : tmN D < 20000) : RC (secD D) cs := RC.hs h (hs_sec hG ht 8 (Or.inr rfl)) (fun i hi => hs_sec hG ht i (Or.inl hi))
/-- a call begun -/
theorem hi_beg {sg : ZSg} {D : ZD} (h : GI sg D) {q : Nat} {x rv ref : Int32} (hC : nC D < 20) (hq : q < nP D) (hr : ref = -1 ∨ (ref = nI (tN ref) ∧ tN ref < nL D)) (hv : RvOK rv) (hb : ∀ j, j < 10 → bitOf x j = 1 → j < nP D) (hL : nL D + bN x 0 10 ≤ 40) : ∀ i, 666 ≤ i ∨ i = 8 ∨ i = 0 → begD D (nI q) x rv ref i = D i := by
  have hB : ∀ i, 666 ≤ i ∨ i = 8 ∨ i = 0 → begB D (nI q) x rv ref i = D i := by
    have st : ∀ (f k : Nat) (X : ZD), X 6 = nI (nL X) → nL X + bN x k f ≤ 40 → ∀ i, 666 ≤ i ∨ i = 8 ∨ i = 0 → itr (bStep x (nI (nC D))) k f X i = X i := by
      intro f
      induction f with
      | zero => intro k X _ _ i _; rfl
      | succ f ih =>
        intro k X hX hn i hi
        rw [bN_s] at hn
        show itr (bStep x (nI (nC D))) (k + 1) f (bStep x (nI (nC D)) k X) i = X i
        by_cases z : bitOf x k = 1
        · rw [if_pos z] at hn
          have e : bStep x (nI (nC D)) k X = mkD X (nI (nC D)) (nI k) := if_pos z
          have w := mk_what (c := nI (nC D)) (ce := nI k) (show nL X < 40 by omega)
          have h6 : mkD X (nI (nC D)) (nI k) 6 = nI (nL X + 1) := by rw [w.2.1, hX, nI_1]
          have hn6 : nL (mkD X (nI (nC D)) (nI k)) = nL X + 1 := by unfold nL at h6 ⊢; rw [h6]; exact nI_clamp (by unfold nL at hn; omega)
          rw [e, ih (k + 1) _ (by rw [h6, hn6]) (by omega) i hi]
          exact w.1 i (by omega) (by omega)
        · rw [if_neg z] at hn
          have e : bStep x (nI (nC D)) k X = X := if_neg z
          rw [e]
          exact ih (k + 1) X hX (by omega) i hi
    intro i hi
    have w := newC_what (p := nI q) (rv := rv) (ref := ref) hC
    have h6 : newC D (nI q) rv ref 6 = D 6 := w.1 6 (by decide) (by omega)
    have hn6 : nL (newC D (nI q) rv ref) = nL D := by unfold nL; rw [h6]
    unfold begB
    rw [st 10 0 _ (by rw [h6, hn6]; exact h.iv.1.2.2.1.1) (by omega) i hi]
    exact w.1 i (by omega) (by omega)
  have g := beg_GI h hC hq hr hv hb hL
  intro i hi
  unfold begD
  split
  · have f := hs_fail (c := nC D) g.1.iv Hs.rf (by omega)
    rcases hi with hi | rfl | rfl
    · exact (f.2 i hi).trans (hB i (Or.inl hi))
    · exact (f.1.low (by decide)).trans (hB 8 (Or.inr (Or.inl rfl)))
    · exact (f.1.low (by decide)).trans (hB 0 (Or.inr (Or.inr rfl)))
  · exact hB i hi
end High
