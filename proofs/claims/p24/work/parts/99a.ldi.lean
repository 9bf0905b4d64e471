section LDi
/-! what the changes keep: pure -/
theorem jx_mk {X : ZD} {c ce : Int32} (h : JX X) (h6 : X 6 = nI (nL X)) (hL : nL X < 40) (hC : nC X ≤ 20) : JX (mkD X c ce) ∧ nL (mkD X c ce) = nL X + 1 ∧ mkD X c ce 6 = nI (nL X + 1) ∧ ∀ i, i < 6 → mkD X c ce i = X i := by
  have w := mk_what (D := X) (c := c) (ce := ce) hL
  have e6 : mkD X c ce 6 = nI (nL X + 1) := by rw [w.2.1, h6, nI_1]
  have n6 : nL (mkD X c ce) = nL X + 1 := by
    have e7 := e6
    unfold nL at e7 ⊢
    rw [e7]
    exact nI_clamp (by unfold nL at hL; omega)
  have n5 : nC (mkD X c ce) = nC X := by
    unfold nC
    rw [w.1 5 (by decide) (by omega)]
  refine ⟨⟨fun q hq => ?_, fun k hk => ?_⟩, n6, e6, fun i hi => w.1 i (by omega) (by omega)⟩
  · rw [n5] at hq
    rw [n6, show dC (mkD X c ce) q 4 = dC X q 4 from w.1 _ (by omega) (by omega)]
    rcases h.1 q hq with z | ⟨z, z2⟩
    · exact Or.inl z
    · exact Or.inr ⟨z, by omega⟩
  · rw [n6] at hk
    by_cases hkk : k = nL X
    · subst hkk
      have m := mk_n (D := X) (c := c) (ce := ce)
      rw [m.1, m.2.1]
      by_cases hz : zb (eng X ce) = 1
      · rw [if_pos hz]
        exact fun z => absurd rfl z
      · rw [if_neg hz, if_neg hz]
        exact fun _ => rfl
    · rw [show dL (mkD X c ce) k 2 = dL X k 2 from w.1 _ (by omega) (by omega), show dL (mkD X c ce) k 3 = dL X k 3 from w.1 _ (by omega) (by omega)]
      exact h.2 k (by omega)
theorem jx_newC {D : ZD} {p rv ref : Int32} (h : JX D) (hI : Ix D) (hC : nC D < 20) : JX (newC D p rv ref) ∧ nL (newC D p rv ref) = nL D ∧ nC (newC D p rv ref) = nC D + 1 ∧ newC D p rv ref 6 = nI (nL D) ∧ ∀ i, i < 5 → newC D p rv ref i = D i := by
  have w := newC_what (D := D) (p := p) (rv := rv) (ref := ref) hC
  have i5 := hI.2.1
  have i6 := hI.2.2.1
  have e6 : newC D p rv ref 6 = D 6 := w.1 6 (by decide) (by omega)
  have n6 : nL (newC D p rv ref) = nL D := by unfold nL; rw [e6]
  have n5 : nC (newC D p rv ref) = nC D + 1 := by
    have e5 : newC D p rv ref 5 = nI (nC D + 1) := by rw [w.2.1, i5.1, nI_1]
    unfold nC at e5 ⊢
    rw [e5]
    exact nI_clamp (by unfold nC at hC; omega)
  refine ⟨⟨fun q hq => ?_, fun k hk => ?_⟩, n6, n5, e6.trans i6.1, fun i hi => w.1 i (by omega) (by omega)⟩
  · rw [n5] at hq
    rw [n6]
    by_cases hqq : q = nC D
    · rw [hqq]
      exact Or.inl w.2.2.2.2.2.2
    · rw [show dC (newC D p rv ref) q 4 = dC D q 4 from w.1 _ (by omega) (by omega)]
      exact h.1 q (by omega)
  · rw [n6] at hk
    rw [show dL (newC D p rv ref) k 2 = dL D k 2 from w.1 _ (by omega) (by omega), show dL (newC D p rv ref) k 3 = dL D k 3 from w.1 _ (by omega) (by omega)]
    exact h.2 k hk
theorem jx_bs {x c : Int32} {N : Nat} (hN : N ≤ 20) : ∀ (f k : Nat) (X : ZD), JX X → X 6 = nI (nL X) → nC X = N → nL X + bN x k f ≤ 40 → JX (itr (bStep x c) k f X) ∧ ∀ i, i < 6 → itr (bStep x c) k f X i = X i
  | 0, _, _, h, _, _, _ => ⟨h, fun _ _ => rfl⟩
  | f + 1, k, X, h, h6, hC, hL => by
    rw [bN_s] at hL
    show JX (itr (bStep x c) (k + 1) f (bStep x c k X)) ∧ ∀ i, i < 6 → itr (bStep x c) (k + 1) f (bStep x c k X) i = X i
    by_cases z : bitOf x k = 1
    · rw [if_pos z] at hL
      have e : bStep x c k X = mkD X c (nI k) := if_pos z
      obtain ⟨a1, a2, a3, a4⟩ := jx_mk (c := c) (ce := nI k) h h6 (by omega) (by omega)
      rw [e]
      have ih := jx_bs (x := x) (c := c) hN f (k + 1) (mkD X c (nI k)) a1 (by rw [a3, a2]) (by unfold nC; rw [a4 5 (by decide)]; exact hC) (by rw [a2]; omega)
      exact ⟨ih.1, fun i hi => (ih.2 i hi).trans (a4 i hi)⟩
    · rw [if_neg z] at hL
      have e : bStep x c k X = X := if_neg z
      rw [e]
      exact jx_bs (x := x) (c := c) hN f (k + 1) X h h6 hC (by omega)
theorem jx_beg {sg : ZSg} {D : ZD} (hG : GI sg D) (h : JX D) {q : Nat} {x rv ref : Int32} (hC : nC D < 20) (hq : q < nP D) (hr : ref = -1 ∨ (ref = nI (tN ref) ∧ tN ref < nL D)) (hv : RvOK rv) (hb : ∀ j, j < 10 → bitOf x j = 1 → j < nP D) (hL : nL D + bN x 0 10 ≤ 40) : JX (begD D (nI q) x rv ref) ∧ ∀ i, i < 5 → begD D (nI q) x rv ref i = D i := by
  obtain ⟨a1, a2, a3, a4, a5⟩ := jx_newC (p := nI q) (rv := rv) (ref := ref) h hG.iv.1 hC
  have s := jx_bs (x := x) (c := nI (nC D)) (N := nC D + 1) (by omega) 10 0 (newC D (nI q) rv ref) a1 (by rw [a4, a2]) a3 (by rw [a2]; exact hL)
  have hB : JX (begB D (nI q) x rv ref) ∧ ∀ i, i < 5 → begB D (nI q) x rv ref i = D i := ⟨s.1, fun i hi => (s.2 i (by omega)).trans (a5 i hi)⟩
  have g := beg_GI hG hC hq hr hv hb hL
  unfold begD
  split
  · refine ⟨hB.1.fail g.1.iv.1, fun i hi => ?_⟩
    have f : Same (begB D (nI q) x rv ref) (failD (begB D (nI q) x rv ref) (nC D)) := sm_fail
    exact (f.low (by omega)).trans (hB.2 i hi)
  · exact hB
theorem jx_hold {D : ZD} {k : Nat} (h : JX D) (hI : Ix D) (h1 : dL D k 2 = 1) : JX (dropD (setL D k 2 2) k) := by
  refine (h.set hI (by decide) (by decide) (fun hk _ => ?_)).drop (hI.set (by decide) (by decide))
  rw [dL_setLn (by omega)]
  exact h.2 k hk (by rw [h1]; decide)
theorem jx_hup {D : ZD} {x : Int32} (h : JX D) (hV : Iv D) : JX (hupD D x).2 := by
  by_cases h1 : legW D x 1 = -1
  · by_cases h2 : rngOf D x = -1
    · by_cases h3 : legW D x 2 = -1
      · by_cases h4 : rung D x = 0
        · rw [hu_4 h1 h2 h3 h4]; exact h
        · rw [hu_5 h1 h2 h3 h4]; exact h.endTo hV
      · rw [hu_3 h1 h2 h3]; exact h.end_ hV.1
    · rw [hu_2 h1 h2]
      exact (h.endAll hV.1).take (hV.1.same sm_endAll)
  · rw [hu_1 h1]; exact h.end_ hV.1
theorem jx_glr {D : ZD} {k s : Nat} {v : Int32} (h : JX D) (hI : Ix D) (hs : s < 2) : JX (glrD D k (1 - s) s v) := by
  rcases (show s = 0 ∨ s = 1 by omega) with rfl | rfl
  · rw [← glr_0]
    exact ((((((h.set0 hI (by decide) (by decide)).set0 (hI.set (by decide) (by decide)) (by decide) (by decide)).set0 ((hI.set (by decide) (by decide)).set (by decide) (by decide)) (by decide) (by decide)).set0 (((hI.set (by decide) (by decide)).set (by decide) (by decide)).set (by decide) (by decide)) (by decide) (by decide)).set0 ((((hI.set (by decide) (by decide)).set (by decide) (by decide)).set (by decide) (by decide)).set (by decide) (by decide)) (by decide) (by decide))).tally_ (((((hI.set (by decide) (by decide)).set (by decide) (by decide)).set (by decide) (by decide)).set (by decide) (by decide)).set (by decide) (by decide)) (by decide)
  · rw [← glr_1]
    exact ((((((h.set0 hI (by decide) (by decide)).set0 (hI.set (by decide) (by decide)) (by decide) (by decide)).set0 ((hI.set (by decide) (by decide)).set (by decide) (by decide)) (by decide) (by decide)).set0 (((hI.set (by decide) (by decide)).set (by decide) (by decide)).set (by decide) (by decide)) (by decide) (by decide)).set0 ((((hI.set (by decide) (by decide)).set (by decide) (by decide)).set (by decide) (by decide)).set (by decide) (by decide)) (by decide) (by decide))).tally_ (((((hI.set (by decide) (by decide)).set (by decide) (by decide)).set (by decide) (by decide)).set (by decide) (by decide)).set (by decide) (by decide)) (by decide)
theorem jx_off {D : ZD} {k : Nat} {p v : Int32} (h : JX D) (hI : Ix D) : JX (offD D k p v).2 := by
  by_cases h0 : dL D k 6 = nI (sdN D k p)
  · rw [of_0 h0]; exact h
  · by_cases h1 : dL D k 6 = -1
    · rw [of_1 h1 sdN_lt]; exact h.lay hI
    · rw [of_2 h0 h1]; exact jx_glr h hI sdN_lt
theorem hup_sm {D : ZD} {x : Int32} : Same D (hupD D x).2 := by
  by_cases h1 : legW D x 1 = -1
  · by_cases h2 : rngOf D x = -1
    · by_cases h3 : legW D x 2 = -1
      · by_cases h4 : rung D x = 0
        · rw [hu_4 h1 h2 h3 h4]; exact sm_rf
        · rw [hu_5 h1 h2 h3 h4]; exact sm_endTo
      · rw [hu_3 h1 h2 h3]; exact sm_end_
    · rw [hu_2 h1 h2]
      exact sm_endAll.trans sm_takeB
  · rw [hu_1 h1]; exact sm_end_
theorem glr_sm {D : ZD} {k s : Nat} {v : Int32} (hs : s < 2) : Same D (glrD D k (1 - s) s v) := by
  rcases (show s = 0 ∨ s = 1 by omega) with rfl | rfl
  · rw [← glr_0]
    exact (((((sm_setL (by decide) (by decide)).trans (sm_setL (by decide) (by decide))).trans (sm_setL (by decide) (by decide))).trans (sm_setL (by decide) (by decide))).trans (sm_setL (by decide) (by decide))).trans (sm_tally (by decide))
  · rw [← glr_1]
    exact (((((sm_setL (by decide) (by decide)).trans (sm_setL (by decide) (by decide))).trans (sm_setL (by decide) (by decide))).trans (sm_setL (by decide) (by decide))).trans (sm_setL (by decide) (by decide))).trans (sm_tally (by decide))
theorem off_sm {D : ZD} {k : Nat} {p v : Int32} : Same D (offD D k p v).2 := by
  by_cases h0 : dL D k 6 = nI (sdN D k p)
  · rw [of_0 h0]; exact sm_rf
  · by_cases h1 : dL D k 6 = -1
    · rw [of_1 h1 sdN_lt]; exact sm_lay
    · rw [of_2 h0 h1]; exact glr_sm sdN_lt
theorem JW.sm {D D' : ZD} (h : JW D) (s : Same D D') : JW D' := by
  obtain ⟨a, b, e1, e2, e3, e4⟩ := h
  exact ⟨a, b, (s.low (by decide)).trans e1, e2, (s.low (by decide)).trans e3, e4⟩
theorem jx_sp {D : ZD} {p j : Nat} {v : Int32} (hp : p < 10) (hj : j < 3) (h : JX D) : JX (setP D p j v) := by
  obtain ⟨n1, n2, n3, -⟩ := sp_n (D := D) (p := p) (j := j) (v := v)
  refine ⟨fun c hc => ?_, fun k hk => ?_⟩
  · rw [n2] at hc
    rw [sp_C hp hj, n3]
    exact h.1 c hc
  · rw [n3] at hk
    rw [sp_L hp hj, sp_L hp hj]
    exact h.2 k hk
theorem sec_lo {sg : ZSg} {D : ZD} (h : GI sg D) (ht : tmN D < 20000) {i : Nat} (hi : i < 9) (h0 : i ≠ 0) : secD D i = D i := ((sm_sec h.iv).low hi).trans (if_neg h0)
theorem JW.lo {D D' : ZD} (h : JW D) (h1 : D' 1 = D 1) (h2 : D' 2 = D 2) : JW D' := by
  obtain ⟨a, b, e1, e2, e3, e4⟩ := h
  exact ⟨a, b, h1.trans e1, e2, h2.trans e3, e4⟩
theorem nP_lo {D D' : ZD} (h : D' 4 = D 4) : nP D' = nP D := by unfold nP; rw [h]
theorem tm_lo {D D' : ZD} (h : D' 0 = D 0) : tmN D' = tmN D := by unfold tmN; rw [h]
theorem pot_sec {sg : ZSg} {D : ZD} (hG : GI sg D) (htm : tmN D < 20000) : pot (secD D) ≤ pot D := by
  obtain ⟨hG1, ht1⟩ := hG.sec0 htm
  generalize hD1 : upd D 0 (D 0 + 1) = D1 at hG1 ht1
  have hV := hG1.iv
  have hs := hG1.seg
  have p1 : pot D1 = pot D := by rw [← hD1]; exact pot_o sec0_nL (fun k => by rw [sec0_dL])
  have nL1 : nL D = nL D1 := by rw [← hD1]; exact sec0_nL.symm
  have nC1 : nC D = nC D1 := by rw [← hD1]; exact sec0_nC.symm
  have s1 : Same D1 (itr s1Step 0 (nL D1) D1) := sm_itr (nL D1) (fun _ _ _ _ => sm_s1) _ _ _ (by omega) sm_rf
  have s2 : Same D1 (itr s2Step 0 (nL D1) (itr s1Step 0 (nL D1) D1)) := sm_itr (D := D1) (nL D1) (fun _ _ _ _ => sm_s2) _ _ _ (by omega) s1
  have s3 : Same D1 (itr s3Step 0 (nL D1) (itr s2Step 0 (nL D1) (itr s1Step 0 (nL D1) D1))) := sm_itr (D := D1) (nL D1) (fun k X hk hX => sm_s3 (of20 hV hX hk)) _ _ _ (by omega) s2
  have e4 : itr s4Step 0 (nC D1) (itr s3Step 0 (nL D1) (itr s2Step 0 (nL D1) (itr s1Step 0 (nL D1) D1))) = secD D := by unfold secD; rw [hD1, nL1, nC1]
  have q4 : pot (secD D) ≤ pot (itr s3Step 0 (nL D1) (itr s2Step 0 (nL D1) (itr s1Step 0 (nL D1) D1))) := by
    rw [← e4]; exact pot_itr (D := D1) (nC D1) (fun k Y hk9 hY => ⟨sm_s4, pot_s4 hs hV hY hk9⟩) _ _ _ (by omega) s3
  have q3 : pot (itr s3Step 0 (nL D1) (itr s2Step 0 (nL D1) (itr s1Step 0 (nL D1) D1))) ≤ pot (itr s2Step 0 (nL D1) (itr s1Step 0 (nL D1) D1)) := pot_itr (D := D1) (nL D1) (fun k Y hk9 hY => ⟨sm_s3 (of20 hV hY hk9), pot_s3 (hV.same hY) ⟨sg, hs.same hY⟩ (by rw [sm_nL hY]; exact hk9)⟩) _ _ _ (by omega) s2
  have q2 : pot (itr s2Step 0 (nL D1) (itr s1Step 0 (nL D1) D1)) ≤ pot (itr s1Step 0 (nL D1) D1) := pot_itr (D := D1) (nL D1) (fun k Y _ _ => ⟨sm_s2, Nat.le_of_eq pot_s2⟩) _ _ _ (by omega) s1
  have q1 : pot (itr s1Step 0 (nL D1) D1) ≤ pot D1 := pot_itr (D := D1) (nL D1) (fun k Y _ _ => ⟨sm_s1, Nat.le_of_eq pot_s1⟩) _ _ _ (by omega) sm_rf
  omega
theorem pot_120 {D : ZD} (hI : Ix D) : pot D ≤ 120 := by
  have := potF_le (D := D) (nL D)
  have h40 := hI.2.2.1.2
  unfold pot
  omega
/-- some seconds -/
theorem itr_sec : ∀ (N j : Nat) (D : ZD) {sg : ZSg}, GI sg D → JX D → JW D → tmN D + N ≤ 20000 → GI sg (itr (fun _ D => secD D) j N D) ∧ JX (itr (fun _ D => secD D) j N D) ∧ JW (itr (fun _ D => secD D) j N D) ∧ tmN (itr (fun _ D => secD D) j N D) = tmN D + N ∧ nP (itr (fun _ D => secD D) j N D) = nP D
  | 0, _, _, _, h, hJ, hW, _ => ⟨h, hJ, hW, rfl, rfl⟩
  | N + 1, j, D, sg, h, hJ, hW, ht => by
    have g := h.sec (by omega)
    have ih := itr_sec N (j + 1) (secD D) g.1 (hJ.sec h.iv) (hW.lo (sec_lo h (by omega) (by decide) (by decide)) (sec_lo h (by omega) (by decide) (by decide))) (by rw [g.2]; omega)
    rw [g.2, (sec_n3 h (by omega)).2.2] at ih
    exact ⟨ih.1, ih.2.1, ih.2.2.1, by rw [show tmN D + (N + 1) = tmN D + 1 + N by omega]; exact ih.2.2.2.1, ih.2.2.2.2⟩
end LDi
