section MLo
/-- what holds of a setup as far as it is read -/
def QInv (s : QS) : Prop := (s.2.1 4 = nI (nP s.2.1) ∧ nP s.2.1 ≤ 10) ∧ (∀ i, (i = 0 ∨ i = 5 ∨ i = 6 ∨ (9 ≤ i ∧ i < 16)) → s.2.1 i = 0) ∧ (∀ p j, p < nP s.2.1 → j < 3 → 0 ≤ dP s.2.1 p j) ∧ (s.2.2.1.2.2 = false → s.2.2.2 = []) ∧ (s.2.2.2 = [] ∨ wfd s.2.2.2 0) ∧ (encs s.2.2.2).length ≤ 1000
theorem addP_at {G : ZD} {a r c : Int32} {i : Nat} (h4 : i ≠ 4) (h0 : i ≠ 16 + 3 * nP G) (h1 : i ≠ 16 + 3 * nP G + 1) (h2 : i ≠ 16 + 3 * nP G + 2) : addP G a r c i = G i := ((if_neg h4).trans (if_neg h2)).trans ((if_neg h1).trans (if_neg h0))
theorem addP_n {G : ZD} {a r c : Int32} (h : G 4 = nI (nP G)) (hn : nP G ≤ 10) : addP G a r c 4 = nI (nP G + 1) ∧ nP (addP G a r c) = nP G + 1 := by
  have e : addP G a r c 4 = nI (nP G + 1) := (show addP G a r c 4 = G 4 + 1 from pk_us).trans (by rw [h, nI_1])
  exact ⟨e, by unfold nP; rw [e]; exact nI_clamp (by omega)⟩
theorem nP_upd {G : ZD} {i : Nat} {v : Int32} (h : i ≠ 4) : nP (upd G i v) = nP G := by
  unfold nP
  rw [show upd G i v 4 = G 4 from if_neg (Ne.symm h)]
theorem qinv_low {s : QS} {q : Nat} {i : Nat} {v : Int32} {t : Bool × Bool × Bool} {cs : List Int32} (h : QInv s) (hi : i = 1 ∨ i = 2 ∨ i = 3 ∨ i = 7) (hcs : (t.2.2 = false → cs = []) ∧ (cs = [] ∨ wfd cs 0) ∧ (encs cs).length ≤ 1000) : QInv (q, upd s.2.1 i v, t, cs) := by
  obtain ⟨⟨a, b⟩, c, d, -⟩ := h
  refine ⟨⟨?_, ?_⟩, fun k hk => ?_, fun p j hp hj => ?_, hcs⟩
  · show upd s.2.1 i v 4 = nI (nP (upd s.2.1 i v))
    rw [nP_upd (by omega), show upd s.2.1 i v 4 = s.2.1 4 from if_neg (by omega)]
    exact a
  · show nP (upd s.2.1 i v) ≤ 10
    rw [nP_upd (by omega)]
    exact b
  · show upd s.2.1 i v k = 0
    rw [show upd s.2.1 i v k = s.2.1 k from if_neg (by omega)]
    exact c k hk
  · have hp' : p < nP s.2.1 := by rw [← nP_upd (v := v) (show i ≠ 4 by omega)]; exact hp
    show 0 ≤ upd s.2.1 i v (16 + 3 * p + j)
    rw [show upd s.2.1 i v (16 + 3 * p + j) = s.2.1 (16 + 3 * p + j) from if_neg (by omega)]
    exact d p j hp' hj
theorem stm_ok {B : ZB} {n : Nat} (hT : TB B n) {s s2 : QS} (hs : s.1 ≤ n) (hI : QInv s) (h : stm B s = .inr s2) : QInv s2 ∧ s.1 < s2.1 ∧ s2.1 ≤ n := by
  obtain ⟨q, G, ⟨a, b, c⟩, cs⟩ := s
  have hs : q ≤ n := hs
  by_cases w0 : wd B "party" q
  · rw [stm_party w0] at h
    have g0 : q + 5 ≤ n := wd_end hT w0 (by decide +kernel) (by decide +kernel)
    have g1 : q + 5 ≤ sp B (q + 5) := sp_ge
    unfold pty at h
    by_cases h10 : G 4 = 10
    · rw [if_pos h10] at h; cases h
    · rw [if_neg h10] at h
      cases e1 : num B 0 99 (sp B (q + 5)) with
      | inl e => simp only [e1, qp] at h; cases h
      | inr r1 =>
        cases e2 : num B 0 99 r1.1 with
        | inl e => simp only [e1, e2, qp] at h; cases h
        | inr r2 =>
          cases e3 : num B 0 999 r2.1 with
          | inl e => simp only [e1, e2, e3, qp] at h; cases h
          | inr r3 =>
            simp only [e1, e2, e3, qp] at h
            cases h
            obtain ⟨a1, a2, -, a4, a5, -⟩ := num_what hT e1
            obtain ⟨b1, b2, -, b4, b5, -⟩ := num_what hT e2
            obtain ⟨c1, c2, -, c4, c5, -⟩ := num_what hT e3
            obtain ⟨⟨i1, i2⟩, i3, i4, i5⟩ := hI
            have i1 : G 4 = nI (nP G) := i1
            have i2 : nP G ≤ 10 := i2
            have hlt : nP G < 10 := by
              rcases Nat.eq_or_lt_of_le i2 with e | g
              · exact absurd (i1.trans (by rw [e]; rfl)) h10
              · exact g
            obtain ⟨n1, n2⟩ := addP_n (a := nI r1.2) (r := nI r2.2) (c := nI r3.2) i1 i2
            refine ⟨⟨⟨?_, ?_⟩, fun k hk => ?_, fun p j hp hj => ?_, i5⟩, by show q < r3.1; omega, c2⟩
            · show (addP G (nI r1.2) (nI r2.2) (nI r3.2)) 4 = nI (nP (addP G (nI r1.2) (nI r2.2) (nI r3.2)))
              rw [n1, n2]
            · show nP (addP G (nI r1.2) (nI r2.2) (nI r3.2)) ≤ 10
              omega
            · show (addP G (nI r1.2) (nI r2.2) (nI r3.2)) k = 0
              rw [addP_at (by omega) (by omega) (by omega) (by omega)]
              exact i3 k hk
            · have hp : p < nP (addP G (nI r1.2) (nI r2.2) (nI r3.2)) := hp
              rw [n2] at hp
              rcases (show p < nP G ∨ p = nP G by omega) with g | g
              · show 0 ≤ (addP G (nI r1.2) (nI r2.2) (nI r3.2)) (16 + 3 * p + j)
                rw [addP_at (by omega) (by omega) (by omega) (by omega)]
                exact i4 p j g hj
              · subst g
                rcases (show j = 0 ∨ j = 1 ∨ j = 2 by omega) with rfl | rfl | rfl
                · have e : dP (addP G (nI r1.2) (nI r2.2) (nI r3.2)) (nP G) 0 = nI r1.2 := ((if_neg (by omega)).trans (if_neg (by omega))).trans ((if_neg (by omega)).trans (if_pos rfl))
                  show 0 ≤ dP (addP G (nI r1.2) (nI r2.2) (nI r3.2)) (nP G) 0
                  rw [e]; exact nI_pos' (by omega)
                · have e : dP (addP G (nI r1.2) (nI r2.2) (nI r3.2)) (nP G) 1 = nI r2.2 := ((if_neg (by omega)).trans (if_neg (by omega))).trans (if_pos rfl)
                  show 0 ≤ dP (addP G (nI r1.2) (nI r2.2) (nI r3.2)) (nP G) 1
                  rw [e]; exact nI_pos' (by omega)
                · have e : dP (addP G (nI r1.2) (nI r2.2) (nI r3.2)) (nP G) 2 = nI r3.2 := (if_neg (by omega)).trans (if_pos rfl)
                  show 0 ≤ dP (addP G (nI r1.2) (nI r2.2) (nI r3.2)) (nP G) 2
                  rw [e]; exact nI_pos' (by omega)
  by_cases w1 : wd B "wait" q ∧ a = false
  · obtain ⟨w1, rfl⟩ := w1
    rw [stm_wait w0 w1] at h
    have g0 : q + 4 ≤ n := wd_end hT w1 (by decide +kernel) (by decide +kernel)
    have g1 : q + 4 ≤ sp B (q + 4) := sp_ge
    cases e1 : num B 1 99 (sp B (q + 4)) with
    | inl e => simp only [e1] at h; cases h
    | inr r1 =>
      cases e2 : num B 1 99 r1.1 with
      | inl e => simp only [e1, e2] at h; cases h
      | inr r2 =>
        simp only [e1, e2] at h
        cases h
        obtain ⟨a1, a2, -⟩ := num_what hT e1
        obtain ⟨b1, b2, -⟩ := num_what hT e2
        have k1 := qinv_low (q := q) (v := nI r1.2) (t := (true, b, c)) (cs := cs) hI (Or.inl rfl) hI.2.2.2
        exact ⟨qinv_low (s := (q, upd G 1 (nI r1.2), (true, b, c), cs)) k1 (Or.inr (Or.inl rfl)) hI.2.2.2, by show q < r2.1; omega, b2⟩
  by_cases w2 : wd B "patience" q ∧ b = false
  · obtain ⟨w2, rfl⟩ := w2
    have w1' : ¬ wd B "wait" q := fun z => wd_two w2 z (by decide +kernel) (by decide +kernel) (by decide +kernel)
    rw [stm_pat w0 w1' w2] at h
    have g0 : q + 8 ≤ n := wd_end hT w2 (by decide +kernel) (by decide +kernel)
    have g1 : q + 8 ≤ sp B (q + 8) := sp_ge
    cases e1 : num B 1 99 (sp B (q + 8)) with
    | inl e => simp only [e1] at h; cases h
    | inr r1 =>
      simp only [e1] at h
      cases h
      obtain ⟨a1, a2, -⟩ := num_what hT e1
      exact ⟨qinv_low (s := (q, G, (a, false, c), cs)) hI (Or.inr (Or.inr (Or.inl rfl))) hI.2.2.2, by show q < r1.1; omega, a2⟩
  by_cases w3 : wd B "ring" q ∧ c = false
  · obtain ⟨w3, rfl⟩ := w3
    have w1' : ¬ wd B "wait" q := fun z => wd_two w3 z (by decide +kernel) (by decide +kernel) (by decide +kernel)
    have w2' : ¬ wd B "patience" q := fun z => wd_two w3 z (by decide +kernel) (by decide +kernel) (by decide +kernel)
    rw [stm_ring w0 w1' w2' w3] at h
    have hcs : cs = [] := hI.2.2.2.1 rfl
    subst hcs
    have g0 : q + 4 ≤ n := wd_end hT w3 (by decide +kernel) (by decide +kernel)
    have g1 : q + 4 ≤ sp B (q + 4) := sp_ge
    cases e1 : smm B (fac B 4) (sp B (q + 4), []) with
    | inl e => simp only [e1] at h; cases h
    | inr x =>
      simp only [e1] at h
      cases h
      obtain ⟨b1, b2, b3, ad, b4, b5, b6, b7⟩ := smm_ok hT (fac_ok hT 4) (sp B (q + 4), []) x (sp_le hT g0) e1
      have b4 : x.2 = ad := b4
      have b1 : sp B (q + 4) < x.1 := b1
      have b6 : 2 * (encs ad).length + 3 * sp B (q + 4) ≤ 3 * x.1 + 1 := b6
      have h6 := hT.1
      refine ⟨qinv_low (s := (q, G, (a, b, false), [])) (q := x.1) (t := (a, b, true)) (cs := x.2) hI (Or.inr (Or.inr (Or.inr rfl))) ⟨fun z => (by cases z), Or.inr ?_, ?_⟩, by show q < x.1; omega, b2⟩
      · have := b7 0 [] (by omega) rfl
        rw [List.append_nil] at this
        rw [b4]; exact this
      · rw [b4]; omega
  rw [stm_else w0 w1 w2 w3] at h
  cases h
def byt (x : Int32) (r : Nat) : Int32 := (x >>> ((24 - 8 * nI r) &&& 31)) &&& 255
def wS (w0 w1 w2 w3 w4 : Int32) (k : Nat) : Int32 := if k < 4 then w0 else if k < 8 then w1 else if k < 12 then w2 else if k < 16 then w3 else w4
/-- a buffer with k more bytes from b on -/
def apT (t : ZD) (b : Nat) (w0 w1 w2 w3 w4 : Int32) (k : Nat) : ZD := fun i => if b ≤ i ∧ i < b + k then byt (wS w0 w1 w2 w3 w4 (i - b)) ((i - b) % 4) else t i
theorem apT_0 {t : ZD} {b : Nat} {w0 w1 w2 w3 w4 : Int32} : apT t b w0 w1 w2 w3 w4 0 = t := funext fun i => if_neg (by omega)
theorem apT_s {t : ZD} {b k : Nat} {w0 w1 w2 w3 w4 v : Int32} (h : wS w0 w1 w2 w3 w4 k = v) : upd (apT t b w0 w1 w2 w3 w4 k) (b + k) (byt v (k % 4)) = apT t b w0 w1 w2 w3 w4 (k + 1) := by
  funext i
  show (if i = b + k then _ else if b ≤ i ∧ i < b + k then _ else t i) = if b ≤ i ∧ i < b + (k + 1) then _ else t i
  by_cases e : i = b + k
  · rw [if_pos e, if_pos (by omega), e, show b + k - b = k by omega, h]
  · rw [if_neg e]
    by_cases g : b ≤ i ∧ i < b + k
    · rw [if_pos g, if_pos (by omega)]
    · rw [if_neg g, if_neg (by omega)]
theorem rem4 : ∀ k, k < 20 → nI k - nI k / 4 * 4 = nI (k % 4) := by decide +kernel
theorem byt_nn {x : Int32} {r : Nat} : 0 ≤ byt x r := by
  unfold byt
  rw [pk_and _ (m := 255) 8 rfl]
  have := Nat.mod_lt (x >>> ((24 - 8 * nI r) &&& 31)).toBitVec.toNat (show 0 < 2 ^ 8 by decide)
  exact nI_pos' (by omega)
theorem usual_q {q : Nat} : QInv (q, usual, (false, false, false), []) := by
  refine ⟨⟨rfl, by show nP usual ≤ 10; decide⟩, fun i hi => ?_, fun p j hp hj => ?_, fun _ => rfl, Or.inl rfl, by show (encs []).length ≤ 1000; decide⟩
  · exact (if_neg (by omega)).trans ((if_neg (by omega)).trans (if_neg (by omega)))
  · exact absurd hp (Nat.not_lt_zero p)
end MLo
