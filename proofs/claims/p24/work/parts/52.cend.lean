section CRing2
/-! a call has stopped ringing behind its ring time -/
def Mo (D D' : ZD) : Prop := ∀ k, dL D' k 2 = 0 → dL D k 2 = 0
theorem Mo.rf {D : ZD} : Mo D D := fun _ h => h
theorem Mo.trans {D D' D2 : ZD} (h : Mo D D') (h2 : Mo D' D2) : Mo D D2 := fun k q => h k (h2 k q)
theorem mo_end {D : ZD} {k : Nat} {r : Int32} : Mo D (endD D k r) := fun k' h => by
  by_cases q : k' = k
  · subst q
    rw [end_2] at h
    exact absurd h (by decide)
  · rw [end_o q (by decide)] at h
    exact h
theorem end_0 {D : ZD} {k k' : Nat} {r : Int32} : dL (endD D k r) k' 0 = dL D k' 0 := by
  unfold endD dropD
  rw [dL_setLn (by omega), dL_setLn (by omega), dL_setLn (by omega), dL_setLn (by omega), dL_setLn (by omega)]
theorem ea_mo {c r : Int32} : ∀ (f i : Nat) (D : ZD), Mo D (itr (eaStep c (-1) r) i f D) ∧ (∀ k, dL (itr (eaStep c (-1) r) i f D) k 0 = dL D k 0) ∧ (i + f ≤ 40 → ∀ k, i ≤ k → k < i + f → dL D k 0 = c → dL (itr (eaStep c (-1) r) i f D) k 2 ≠ 0)
  | 0, _, _ => ⟨Mo.rf, fun _ => rfl, fun _ k a b => by omega⟩
  | f + 1, i, D => by
    have ih := ea_mo (c := c) (r := r) f (i + 1) (eaStep c (-1) r i D)
    have st : Mo D (eaStep c (-1) r i D) ∧ (∀ k, dL (eaStep c (-1) r i D) k 0 = dL D k 0) ∧ (i < 40 → dL D i 0 = c → dL (eaStep c (-1) r i D) i 2 ≠ 0) := by
      unfold eaStep
      by_cases z : nI i = -1
      · rw [if_pos z]
        exact ⟨Mo.rf, fun _ => rfl, fun hi => absurd z (nI_nm1 (by omega))⟩
      · rw [if_neg z]
        by_cases z2 : dL D i 0 = c
        · rw [if_pos z2]
          by_cases z3 : dL D i 2 = 0
          · rw [if_pos z3]
            exact ⟨mo_end, fun k => end_0, fun _ _ => by rw [end_2]; decide⟩
          · rw [if_neg z3]
            exact ⟨Mo.rf, fun _ => rfl, fun _ _ => z3⟩
        · rw [if_neg z2]
          exact ⟨Mo.rf, fun _ => rfl, fun _ q => absurd q z2⟩
    refine ⟨st.1.trans ih.1, fun k => (ih.2.1 k).trans (st.2.1 k), fun hf k h1 h2 h3 => ?_⟩
    by_cases q : k = i
    · subst q
      exact fun h => st.2.2 (by omega) h3 (ih.1 k h)
    · exact ih.2.2 (by omega) k (by omega) (by omega) ((st.2.1 k).trans h3)
theorem mo_tal {D : ZD} {t k j : Nat} (ht : t < 7) : dL (tally D t) k j = dL D k j := if_neg (by omega)
theorem mo_takeB {D : ZD} {c : Nat} : Mo D (takeB D c) ∧ ∀ k, dL (takeB D c) k 0 = dL D k 0 := by
  unfold takeB
  split
  · exact ⟨Mo.rf, fun _ => rfl⟩
  · split
    · refine ⟨fun k h => ?_, fun k => dL_setLn (by omega)⟩
      by_cases q : k = rf D c
      · subst q
        rw [dL_setL] at h
        exact absurd h (by decide)
      · rw [dL_setLn (by omega)] at h
        exact h
    · exact ⟨Mo.rf, fun _ => rfl⟩
theorem mo_fail {D : ZD} {c : Nat} : Mo D (failD D c) ∧ ∀ k, dL (failD D c) k 0 = dL D k 0 := by
  have h := mo_takeB (D := tally D 5) (c := c)
  refine ⟨fun k q => ?_, fun k => (h.2 k).trans (mo_tal (by decide))⟩
  have := h.1 k q
  rw [mo_tal (by decide)] at this
  exact this
theorem rg_iff {D : ZD} {c : Int32} : rngs D c ↔ ∃ k, k < nL D ∧ dL D k 0 = c ∧ dL D k 2 = 0 := by
  unfold rngs
  rw [exs_iff]
  exact ⟨fun ⟨j, _, b, h⟩ => ⟨j, by omega, h⟩, fun ⟨j, b, h⟩ => ⟨j, by omega, by omega, h⟩⟩
theorem Mo.rg {D D' : ZD} (h : Mo D D') (s : Same D D') {c : Int32} (q : rngs D' c) : rngs D c := by
  obtain ⟨k, h1, h2, h3⟩ := rg_iff.mp q
  exact rg_iff.mpr ⟨k, by rw [← sm_nL s]; exact h1, by rw [← s.L (by decide)]; exact h2, h k h3⟩
theorem mo_s4 {D : ZD} {c : Nat} : Mo D (s4Step c D) := by
  unfold s4Step
  split
  · exact Mo.trans (ea_mo (nL D) 0 D).1 mo_fail.1
  · exact Mo.rf
theorem s4_ri {D : ZD} {c : Nat} (hL : nL D ≤ 40) (h : rngs (s4Step c D) (nI c)) : D 0 - dC D c 1 < dC D c 2 := by
  have s : Same D (s4Step c D) := sm_s4
  have hr := Mo.rg mo_s4 s h
  by_cases q : D 0 - dC D c 1 < dC D c 2
  · exact q
  · exfalso
    have e : s4Step c D = failD (endAllD D (nI c) (-1) 3) c := by unfold s4Step; rw [if_pos ⟨hr, q⟩]
    obtain ⟨k, h1, h2, h3⟩ := rg_iff.mp h
    rw [sm_nL s] at h1
    rw [e] at h2 h3
    have h4 := mo_fail.1 k h3
    rw [mo_fail.2 k] at h2
    have ea := ea_mo (c := nI c) (r := 3) (nL D) 0 D
    have h5 : dL (itr (eaStep (nI c) (-1) 3) 0 (nL D) D) k 0 = nI c := h2
    rw [ea.2.1 k] at h5
    exact ea.2.2 (by omega) k (by omega) (by omega) h5 h4
theorem i4_ri {D3 : ZD} (hL : nL D3 ≤ 40) (hC : nC D3 ≤ 20) {c : Nat} : ∀ (f i : Nat) (D : ZD), Same D3 D → (Mo D (itr s4Step i f D) ∧ Same D (itr s4Step i f D)) ∧ (i ≤ c → c < i + f → i + f ≤ 20 → rngs (itr s4Step i f D) (nI c) → D 0 - dC D c 1 < dC D c 2)
  | 0, _, _, _ => ⟨⟨Mo.rf, sm_rf⟩, fun _ _ => by omega⟩
  | f + 1, i, D, s => by
    have s1 : Same D (s4Step i D) := sm_s4
    have ih := i4_ri hL hC (c := c) f (i + 1) (s4Step i D) (s.trans s1)
    refine ⟨⟨Mo.trans mo_s4 ih.1.1, s1.trans ih.1.2⟩, fun h1 h2 h20 h3 => ?_⟩
    by_cases q : c = i
    · subst q
      exact s4_ri (by rw [sm_nL s]; exact hL) (Mo.rg ih.1.1 ih.1.2 h3)
    · have := ih.2 (by omega) (by omega) (by omega) h3
      rw [s1.low (by decide), s1.C (by omega) (by decide), s1.C (by omega) (by decide)] at this
      exact this
theorem sec_ri {sg : ZSg} {D : ZD} (h : GI sg D) (ht : tmN D < 20000) {c : Nat} (hc : c < nC D) (hr : rngs (secD D) (nI c)) : secD D 0 - dC (secD D) c 1 < dC (secD D) c 2 := by
  have h1 := h.sec0 ht
  have s3 := (S3_what h1.1).1
  have h40 := h1.1.iv.1.2.2.1.2
  have h20 := h1.1.iv.1.2.1.2
  have hc' : nC (upd D 0 (D 0 + 1)) = nC D := rfl
  have ri := i4_ri (D3 := itr s3Step 0 (nL (upd D 0 (D 0 + 1))) (itr s2Step 0 (nL (upd D 0 (D 0 + 1))) (itr s1Step 0 (nL (upd D 0 (D 0 + 1))) (upd D 0 (D 0 + 1))))) (by rw [sm_nL s3]; exact h40) (by rw [sm_nC s3]; exact h20) (c := c) (nC D) 0 _ sm_rf
  have e : itr s4Step 0 (nC D) (itr s3Step 0 (nL (upd D 0 (D 0 + 1))) (itr s2Step 0 (nL (upd D 0 (D 0 + 1))) (itr s1Step 0 (nL (upd D 0 (D 0 + 1))) (upd D 0 (D 0 + 1))))) = secD D := rfl
  rw [e] at ri
  have := ri.2 (by omega) (by omega) (by omega) hr
  rw [ri.1.2.low (by decide), ri.1.2.C (by omega) (by decide), ri.1.2.C (by omega) (by decide)]
  exact this
theorem sec_C {sg : ZSg} {D : ZD} (h : GI sg D) (ht : tmN D < 20000) {c j : Nat} (hc : c < nC D) (hj : j < 4) : dC (secD D) c j = dC D c j := by
  have h4 := (S4_what (h.sec0 ht).1).1
  have h20 := h.iv.1.2.1.2
  have e : itr s4Step 0 (nC (upd D 0 (D 0 + 1))) (itr s3Step 0 (nL (upd D 0 (D 0 + 1))) (itr s2Step 0 (nL (upd D 0 (D 0 + 1))) (itr s1Step 0 (nL (upd D 0 (D 0 + 1))) (upd D 0 (D 0 + 1))))) = secD D := rfl
  rw [e] at h4
  rw [h4.C (by omega) hj]
  exact sec0_dC
theorem sec_n3 {sg : ZSg} {D : ZD} (h : GI sg D) (ht : tmN D < 20000) : nC (secD D) = nC D ∧ nL (secD D) = nL D ∧ nP (secD D) = nP D := by
  have h4 := (S4_what (h.sec0 ht).1).1
  have e : itr s4Step 0 (nC (upd D 0 (D 0 + 1))) (itr s3Step 0 (nL (upd D 0 (D 0 + 1))) (itr s2Step 0 (nL (upd D 0 (D 0 + 1))) (itr s1Step 0 (nL (upd D 0 (D 0 + 1))) (upd D 0 (D 0 + 1))))) = secD D := rfl
  rw [e] at h4
  have e1 := sm_nC h4
  have e2 := sm_nL h4
  have e3 := sm_nP h4
  exact ⟨e1, e2, e3⟩
theorem nI_sublt {a b r : Nat} (hb : b ≤ a) (ha : a < 100000) (hr : r < 1000) (h : nI a - nI b < nI r) : a - b < r := by
  have e : nI a - nI b = nI (a - b) := by
    have := nI_add (a - b) b
    rw [show a - b + b = a by omega] at this
    rw [← this, Int32.sub_eq_add_neg, Int32.add_assoc, Int32.add_right_neg, Int32.add_zero]
  rw [e, Int32.lt_iff_toInt_lt, nI_toInt (by omega), nI_toInt (by omega)] at h
  omega
theorem stl_dn {sg : ZSg} {c b r : Nat} : ∀ (F : Nat) (D : ZD), GI sg D → tmN D + F ≤ 20000 → c < nC D → dC D c 1 = nI b → b ≤ tmN D → dC D c 2 = nI r → r ≤ 99 → rngs (stl (nI c) F D).2 (nI c) → tmN D + F < b + r ∨ F = 0
  | 0, _, _, _, _, _, _, _, _, _ => Or.inr rfl
  | F + 1, D, h, ht, hc, h1, h2, h3, h4, h5 => by
    left
    by_cases q : rngs D (nI c)
    · rw [stl_t q] at h5
      have g := h.sec (by omega)
      have ih := stl_dn F (secD D) g.1 (by rw [g.2]; omega) (by rw [(sec_n3 h (by omega)).1]; exact hc) (by rw [sec_C h (by omega) hc (by decide)]; exact h1) (by rw [g.2]; omega) (by rw [sec_C h (by omega) hc (by decide)]; exact h3) h4 h5
      rw [g.2] at ih
      rcases ih with ih | rfl
      · omega
      · have q2 : rngs (secD D) (nI c) := h5
        have := sec_ri h (by omega) hc q2
        rw [sec_C h (by omega) hc (by decide), sec_C h (by omega) hc (by decide), h1, h3, g.1.jt.1.1, g.2] at this
        have := nI_sublt (by omega) (by omega) (by omega) this
        omega
    · rw [stl_f q] at h5
      exact absurd h5 q
/-- after 99 seconds no leg of the call rings -/
theorem stl_end {sg : ZSg} {D : ZD} (h : GI sg D) (ht : tmN D ≤ 19000) {c : Nat} (hc : c < nC D) : ¬ rngs (stl (nI c) 99 D).2 (nI c) := by
  intro q
  obtain ⟨b, r, h1, h2, h3, h4, h5⟩ := h.jt.2 c hc
  have := stl_dn 99 D h (by omega) hc h1 h2 h3 h5 q
  omega
/-! a number of a party set -/
section
variable {sg : ZSg} {D : ZD} {p j : Nat} {v : Int32}
def setP (D : ZD) (p j : Nat) (v : Int32) : ZD := upd D (16 + 3 * p + j) v
theorem sp_lo {i : Nat} (h : i < 16) : setP D p j v i = D i := if_neg (by omega)
theorem sp_hi {i : Nat} (h : 46 ≤ i) (hp : p < 10) (hj : j < 3) : setP D p j v i = D i := if_neg (by omega)
theorem sp_n : nP (setP D p j v) = nP D ∧ nC (setP D p j v) = nC D ∧ nL (setP D p j v) = nL D ∧ tmN (setP D p j v) = tmN D := by
  unfold nP nC nL tmN
  rw [sp_lo (by decide), sp_lo (by decide), sp_lo (by decide), sp_lo (by decide)]
  exact ⟨rfl, rfl, rfl, rfl⟩
theorem sp_C (hp : p < 10) (hj : j < 3) {c i : Nat} : dC (setP D p j v) c i = dC D c i := sp_hi (by omega) hp hj
theorem sp_L (hp : p < 10) (hj : j < 3) {c i : Nat} : dL (setP D p j v) c i = dL D c i := sp_hi (by omega) hp hj
theorem sp_of (hp : p < 10) (hj : j < 3) {k : Nat} : ofN (setP D p j v) k = ofN D k := by unfold ofN; rw [sp_L hp hj]
theorem sp_ce (hp : p < 10) (hj : j < 3) {k : Nat} : ceN (setP D p j v) k = ceN D k := by unfold ceN; rw [sp_L hp hj]
theorem sp_ca (hp : p < 10) (hj : j < 3) {k : Nat} : caN (setP D p j v) k = caN D k := by unfold caN; rw [sp_C hp hj]
theorem sp_rf (hp : p < 10) (hj : j < 3) {k : Nat} : rf (setP D p j v) k = rf D k := by unfold rf; rw [sp_C hp hj]
theorem sp_Iv (hp : p < 10) (hj : j < 3) (h : Iv D) : Iv (setP D p j v) := by
  obtain ⟨⟨a, b, c, d⟩, e, f, g⟩ := h
  obtain ⟨n1, n2, n3, -⟩ := sp_n (D := D) (p := p) (j := j) (v := v)
  refine ⟨⟨?_, ?_, ?_, fun k hk => ?_⟩, fun q hq => ?_, fun k hk => ?_, fun q hq => ?_⟩
  · rw [n1, sp_lo (by decide)]; exact a
  · rw [n2, sp_lo (by decide)]; exact b
  · rw [n3, sp_lo (by decide)]; exact c
  · rw [n3] at hk
    rw [sp_L hp hj, sp_of hp hj, n2]; exact d k hk
  · rw [n2] at hq
    rw [sp_C hp hj, sp_rf hp hj, n3]; exact e q hq
  · rw [n3] at hk
    rw [sp_L hp hj, sp_ce hp hj, n1]; exact f k hk
  · rw [n2] at hq
    rw [sp_C hp hj, sp_ca hp hj, n1]; exact g q hq
theorem sp_GI (hp : p < 10) (hj : j < 3) (hv : 0 ≤ v) (h : GI sg D) : GI sg (setP D p j v) := by
  obtain ⟨a, b, c, d, e, f, t⟩ := h
  obtain ⟨n1, n2, n3, n4⟩ := sp_n (D := D) (p := p) (j := j) (v := v)
  refine ⟨fun q hq => ?_, ?_, sp_Iv hp hj c, fun k k' h1 h2 h3 => ?_, fun k hk => ?_, fun q i hq hi => ?_, ?_, fun q hq => ?_⟩
  · rw [n2] at hq
    have := a q hq
    rw [n3]
    refine ⟨this.1, this.2.1, fun k hk => ?_⟩
    rw [sp_of hp hj]
    exact this.2.2 k hk
  · unfold Ctg
    rw [n2, n3]
    exact b
  · rw [n3] at h2
    rw [sp_of hp hj, sp_of hp hj] at h3
    rw [sp_ce hp hj, sp_ce hp hj]
    exact d k k' h1 h2 h3
  · rw [n3] at hk
    exact rowOK_c (fun j' hj' => sp_L hp hj) (e k hk)
  · rw [n1] at hq
    show 0 ≤ upd D (16 + 3 * p + j) v (16 + 3 * q + i)
    by_cases z : 16 + 3 * q + i = 16 + 3 * p + j
    · rw [show upd D (16 + 3 * p + j) v (16 + 3 * q + i) = v from if_pos z]; exact hv
    · rw [show upd D (16 + 3 * p + j) v (16 + 3 * q + i) = D (16 + 3 * q + i) from if_neg z]; exact f q i hq hi
  · rw [n4, sp_lo (by decide)]; exact t.1
  · rw [n2] at hq
    obtain ⟨b1, r1, h1, h2, h3⟩ := t.2 q hq
    rw [n4, sp_C hp hj, sp_C hp hj]
    exact ⟨b1, r1, h1, h2, h3⟩
theorem sp_CR {g : Option Nat} {E : ES} (hp : p < nP D) (hj : j < 3) (h : CR D g sg E D) : CR (setP D p j v) g sg (es E 0 (upd (E.1 0) (p * 3 + j) v)) (setP D p j v) := by
  have h10 := h.P10
  have hI := sp_Iv (v := v) (show p < 10 by omega) hj h.2.1
  obtain ⟨n1, n2, n3, n4⟩ := sp_n (D := D) (p := p) (j := j) (v := v)
  obtain ⟨⟨a1, a2, a3, a4, a5, a6, a7⟩, b, c9, d, f⟩ := h
  refine ⟨⟨?_, ?_, fun q i hq hi => ?_, fun q i hq hi => ?_, fun q hq => ?_, fun k i hk hi => ?_, fun i hi => ?_⟩, hI, sm_rf, d, fun q hq => ?_⟩
  · rw [sp_lo (by decide), sp_lo (by decide), sp_lo (by decide)]; exact a1
  · rw [sp_lo (by decide), sp_lo (by decide), sp_lo (by decide), sp_lo (by decide)]; exact a2
  · rw [n1] at hq
    show upd (E.1 0) (p * 3 + j) v (q * 3 + i) = upd D (16 + 3 * p + j) v (16 + 3 * q + i)
    by_cases z : q * 3 + i = p * 3 + j
    · rw [show upd (E.1 0) (p * 3 + j) v (q * 3 + i) = v from if_pos z, show upd D (16 + 3 * p + j) v (16 + 3 * q + i) = v from if_pos (by omega)]
    · rw [show upd (E.1 0) (p * 3 + j) v (q * 3 + i) = E.1 0 (q * 3 + i) from if_neg z, show upd D (16 + 3 * p + j) v (16 + 3 * q + i) = D (16 + 3 * q + i) from if_neg (by omega)]
      exact a3 q i hq hi
  · rw [n2] at hq
    rw [sp_C (by omega) hj]; exact a4 q i hq hi
  · rw [n2] at hq
    rw [sp_C (by omega) hj]; exact a5 q hq
  · rw [n3] at hk
    rw [sp_L (by omega) hj]; exact a6 k i hk hi
  · rw [sp_lo (by omega)]; exact a7 i hi
  · rw [n2] at hq
    exact f q hq
end
end CRing2
