section MPx
theorem Ct.mono {l : Launch} {Γ : ZG} {M : ZM} {d mc ms : Nat} {as : List Value} {w : ZW} {Φ Φ' : Option Value → ZW → Prop} {Ψ Ψ' : String → ZW → Prop} (h : ∀ v w2, Φ v w2 → Φ' v w2) (hx : ∀ E w2, Ψ E w2 → Ψ' E w2) (c : Ct l Γ M d mc ms as w Φ Ψ) : Ct l Γ M d mc ms as w Φ' Ψ' := by
  intro htr p e ha hc hk s m args below hf happ hp hK
  obtain ⟨n, o, h1, h2, h3, h4⟩ := c htr p e ha hc hk s m args below hf happ hp hK
  refine ⟨n, o, h1, h2, h3, ?_⟩
  rcases h4 with ⟨⟨v, w', c1, c2, c3⟩, c4⟩ | ⟨q, c1, E, ce, L9, ⟨w', d1, d2⟩, c3⟩
  · exact Or.inl ⟨⟨v, w', c1, h _ _ c2, c3⟩, c4⟩
  · exact Or.inr ⟨q, c1, E, ce, L9, ⟨w', hx _ _ d1, d2⟩, c3⟩
/-- an answer and a state of the reference of which only this is known -/
def Pv (Γ : ZG) (w : ZW) (o : Nat) (D : ZD) (r : Option Value) (P : MS → Prop) : Option Value → ZW → Prop := fun v w2 => v = r ∧ ∃ S', w2 = wD Γ w o S' D ∧ P S'
theorem Cm.px {l : Launch} {Γ : ZG} {M : ZM} {d : Nat} {as : List Value} {w w1 : ZW} {o : Nat} {D : ZD} {r : Option Value} {S' : MS} {P : MS → Prop} (c : Cm l Γ M d as w1 r (wD Γ w o S' D)) (h : P S') : Ct l Γ M d 0 0 as w1 (Pv Γ w o D r P) zNo := Ct.mono (fun _ _ q => ⟨q.1, S', q.2, h⟩) (fun _ _ q => q) c
section
variable {l : Launch} {Γ : ZG} {M M' : ZM} {dp mc ms d' : Nat} {Φ : Option Value → ZW → Prop} {Ψ : String → ZW → Prop} {k n : Nat} {w : ZW} {pc o : Nat} {L : ZL} {st : List Value} {S : MS} {D : ZD} {P : MS → Prop}

theorem gdX0 {index : Nat} {r : Value} (pc' : Nat) (hd : decode M.2.1 pc = .ok (.invokevirtual index, 3)) (V : zV M.1.cls index M' 0) (hct : Ct l Γ M' d' 0 0 (.ref o :: []) (wD Γ w o S D) (Pv Γ w o D (some r) P) zNo) (kk : ∀ S', P S' → Go l Γ M dp mc ms Φ Ψ k n (wD Γ w o S' D) pc' L (r :: st)) (hc : some RX6 = some M'.1.cls := by rfl) (hdp : d' + 1 ≤ dp := by decide) (hL : M'.2.2.1 ≤ 40 := by decide) (hk : k ≤ mc := by omega) (hn : n ≤ ms := by omega) (hst : (st.map fun v => v.category).sum ≤ 8 := by exact Nat.le_of_ble_eq_true rfl) (hp : pc + 3 = pc' := by rfl) : Go l Γ M dp mc ms Φ Ψ k n (wD Γ w o S D) pc L (.ref o :: st) := by
  refine go_callV (As := []) pc' hd V wD_at0 hc hct hdp hL hk hn hst ?_ hp
  intro v w2 h
  obtain ⟨rfl, S', rfl, hP⟩ := h
  exact kk S' hP
theorem gdX0v {index : Nat} (pc' : Nat) (hd : decode M.2.1 pc = .ok (.invokevirtual index, 3)) (V : zV M.1.cls index M' 0) (hct : Ct l Γ M' d' 0 0 (.ref o :: []) (wD Γ w o S D) (Pv Γ w o D (none) P) zNo) (kk : ∀ S', P S' → Go l Γ M dp mc ms Φ Ψ k n (wD Γ w o S' D) pc' L (st)) (hc : some RX6 = some M'.1.cls := by rfl) (hdp : d' + 1 ≤ dp := by decide) (hL : M'.2.2.1 ≤ 40 := by decide) (hk : k ≤ mc := by omega) (hn : n ≤ ms := by omega) (hst : (st.map fun v => v.category).sum ≤ 8 := by exact Nat.le_of_ble_eq_true rfl) (hp : pc + 3 = pc' := by rfl) : Go l Γ M dp mc ms Φ Ψ k n (wD Γ w o S D) pc L (.ref o :: st) := by
  refine go_callV (As := []) pc' hd V wD_at0 hc hct hdp hL hk hn hst ?_ hp
  intro v w2 h
  obtain ⟨rfl, S', rfl, hP⟩ := h
  exact kk S' hP
theorem gdX1 {index : Nat} {x1 : Value} {r : Value} (pc' : Nat) (hd : decode M.2.1 pc = .ok (.invokevirtual index, 3)) (V : zV M.1.cls index M' 1) (hct : Ct l Γ M' d' 0 0 (.ref o :: [x1]) (wD Γ w o S D) (Pv Γ w o D (some r) P) zNo) (kk : ∀ S', P S' → Go l Γ M dp mc ms Φ Ψ k n (wD Γ w o S' D) pc' L (r :: st)) (hc : some RX6 = some M'.1.cls := by rfl) (hdp : d' + 1 ≤ dp := by decide) (hL : M'.2.2.1 ≤ 40 := by decide) (hk : k ≤ mc := by omega) (hn : n ≤ ms := by omega) (hst : (st.map fun v => v.category).sum ≤ 8 := by exact Nat.le_of_ble_eq_true rfl) (hp : pc + 3 = pc' := by rfl) : Go l Γ M dp mc ms Φ Ψ k n (wD Γ w o S D) pc L (x1 :: .ref o :: st) := by
  refine go_callV (As := [x1]) pc' hd V wD_at0 hc hct hdp hL hk hn hst ?_ hp
  intro v w2 h
  obtain ⟨rfl, S', rfl, hP⟩ := h
  exact kk S' hP
theorem gdX1v {index : Nat} {x1 : Value} (pc' : Nat) (hd : decode M.2.1 pc = .ok (.invokevirtual index, 3)) (V : zV M.1.cls index M' 1) (hct : Ct l Γ M' d' 0 0 (.ref o :: [x1]) (wD Γ w o S D) (Pv Γ w o D (none) P) zNo) (kk : ∀ S', P S' → Go l Γ M dp mc ms Φ Ψ k n (wD Γ w o S' D) pc' L (st)) (hc : some RX6 = some M'.1.cls := by rfl) (hdp : d' + 1 ≤ dp := by decide) (hL : M'.2.2.1 ≤ 40 := by decide) (hk : k ≤ mc := by omega) (hn : n ≤ ms := by omega) (hst : (st.map fun v => v.category).sum ≤ 8 := by exact Nat.le_of_ble_eq_true rfl) (hp : pc + 3 = pc' := by rfl) : Go l Γ M dp mc ms Φ Ψ k n (wD Γ w o S D) pc L (x1 :: .ref o :: st) := by
  refine go_callV (As := [x1]) pc' hd V wD_at0 hc hct hdp hL hk hn hst ?_ hp
  intro v w2 h
  obtain ⟨rfl, S', rfl, hP⟩ := h
  exact kk S' hP
theorem gdX2 {index : Nat} {x1 x2 : Value} {r : Value} (pc' : Nat) (hd : decode M.2.1 pc = .ok (.invokevirtual index, 3)) (V : zV M.1.cls index M' 2) (hct : Ct l Γ M' d' 0 0 (.ref o :: [x1, x2]) (wD Γ w o S D) (Pv Γ w o D (some r) P) zNo) (kk : ∀ S', P S' → Go l Γ M dp mc ms Φ Ψ k n (wD Γ w o S' D) pc' L (r :: st)) (hc : some RX6 = some M'.1.cls := by rfl) (hdp : d' + 1 ≤ dp := by decide) (hL : M'.2.2.1 ≤ 40 := by decide) (hk : k ≤ mc := by omega) (hn : n ≤ ms := by omega) (hst : (st.map fun v => v.category).sum ≤ 8 := by exact Nat.le_of_ble_eq_true rfl) (hp : pc + 3 = pc' := by rfl) : Go l Γ M dp mc ms Φ Ψ k n (wD Γ w o S D) pc L (x2 :: x1 :: .ref o :: st) := by
  refine go_callV (As := [x1, x2]) pc' hd V wD_at0 hc hct hdp hL hk hn hst ?_ hp
  intro v w2 h
  obtain ⟨rfl, S', rfl, hP⟩ := h
  exact kk S' hP
theorem gdX2v {index : Nat} {x1 x2 : Value} (pc' : Nat) (hd : decode M.2.1 pc = .ok (.invokevirtual index, 3)) (V : zV M.1.cls index M' 2) (hct : Ct l Γ M' d' 0 0 (.ref o :: [x1, x2]) (wD Γ w o S D) (Pv Γ w o D (none) P) zNo) (kk : ∀ S', P S' → Go l Γ M dp mc ms Φ Ψ k n (wD Γ w o S' D) pc' L (st)) (hc : some RX6 = some M'.1.cls := by rfl) (hdp : d' + 1 ≤ dp := by decide) (hL : M'.2.2.1 ≤ 40 := by decide) (hk : k ≤ mc := by omega) (hn : n ≤ ms := by omega) (hst : (st.map fun v => v.category).sum ≤ 8 := by exact Nat.le_of_ble_eq_true rfl) (hp : pc + 3 = pc' := by rfl) : Go l Γ M dp mc ms Φ Ψ k n (wD Γ w o S D) pc L (x2 :: x1 :: .ref o :: st) := by
  refine go_callV (As := [x1, x2]) pc' hd V wD_at0 hc hct hdp hL hk hn hst ?_ hp
  intro v w2 h
  obtain ⟨rfl, S', rfl, hP⟩ := h
  exact kk S' hP
end
/-- what the parser leaves as it is -/
def Fr (S0 S : MS) : Prop := (∀ j, j ≠ 4 → j ≠ 5 → j ≠ 6 → j ≠ 13 → j ≠ 14 → j ≠ 15 → S.1 j = S0.1 j) ∧ (∀ a, a ≠ 2 → S.2.1 a = S0.2.1 a) ∧ S.2.2 = S0.2.2
theorem Fr.rf {S : MS} : Fr S S := ⟨fun _ _ _ _ _ _ _ => rfl, fun _ _ => rfl, rfl⟩
theorem Fr.mf {S0 S : MS} (h : Fr S0 S) {j : Nat} {v : Int32} (hj : j = 4 ∨ j = 5 ∨ j = 6 ∨ j = 13 ∨ j = 14 ∨ j = 15) : Fr S0 (mf S j v) :=
  ⟨fun i a b c d e f => (if_neg (by omega)).trans (h.1 i a b c d e f), h.2⟩
theorem Fr.m2 {S0 S : MS} (h : Fr S0 S) {f : ZD} : Fr S0 (ma S 2 f) := ⟨h.1, fun a ha => (if_neg ha).trans (h.2.1 a ha), h.2.2⟩
def rawAt (E : ZD) (es : List Int32) : Prop := E 8 = nI es.length ∧ ∀ j, j < es.length → E (666 + j) = es.getD j 0
theorem rawAt.app {E : ZD} {es : List Int32} {v : Int32} (h : rawAt E es) : rawAt (upd (upd E (666 + es.length) v) 8 (nI (es.length + 1))) (es ++ [v]) := by
  refine ⟨by rw [List.length_append]; exact if_pos rfl, fun j hj => ?_⟩
  rw [List.length_append] at hj
  have hj' : j < es.length + 1 := hj
  show (if 666 + j = 8 then _ else if 666 + j = 666 + es.length then v else E (666 + j)) = _
  rw [if_neg (by omega), List.getD_eq_getElem?_getD]
  rcases (show j < es.length ∨ j = es.length by omega) with hlt | heq
  · rw [if_neg (by omega), List.getElem?_append_left hlt, h.2 j hlt, List.getD_eq_getElem?_getD]
  · subst heq
    rw [if_pos rfl, List.getElem?_append_right (Nat.le_refl _), Nat.sub_self]
    rfl
/-- the reference's parser at place q: data G, codes es, so deep, so much seen -/
def RPs (B : ZB) (n : Nat) (S0 S : MS) (q : Nat) (G : ZD) (es : List Int32) (ne sn : Nat) : Prop :=
  (S.1 3 = nI n ∧ bt (S.2.1 0) n = B) ∧ S.1 5 = 0 ∧ S.1 6 = -1 ∧ (∃ p, S.1 4 = nI p ∧ p ≤ n ∧ sp B p = q) ∧ ((∀ i, i < 666 → i ≠ 8 → S.2.1 2 i = G i) ∧ rawAt (S.2.1 2) es) ∧ (S.1 14 = nI ne ∧ S.1 15 = nI sn) ∧ Fr S0 S
def RPq (B : ZB) (n : Nat) (S0 S : MS) (q : Nat) (G : ZD) (es : List Int32) (ne sn : Nat) : Prop := RPs B n S0 S q G es ne sn ∧ S.1 4 = nI q ∧ B q ≠ 32 ∧ q ≤ n
def RPe (S0 S : MS) (e : Int32 × Nat) : Prop := S.1 5 = e.1 ∧ e.1 ≠ 0 ∧ S.1 6 = nI e.2 ∧ Fr S0 S
def RXr (B : ZB) (n : Nat) (S0 S : MS) (G : ZD) (ne sn : Nat) (r : PR XS) : Prop := match r with
  | .inl e => RPe S0 S e
  | .inr x => RPs B n S0 S x.1 G (encs x.2) ne sn
section
variable {B : ZB} {n : Nat} {S0 S : MS} {q : Nat} {G : ZD} {es : List Int32} {ne sn : Nat}
theorem RPs.qn (h : RPs B n S0 S q G es ne sn) (hT : TB B n) : q ≤ n ∧ B q ≠ 32 := by
  obtain ⟨-, -, -, ⟨p, -, h1, rfl⟩, -⟩ := h
  exact ⟨sp_le hT h1, sp_no hT h1⟩
theorem RPs.to (h : RPs B n S0 S q G es ne sn) {p : Nat} (hp : p ≤ n) : RPs B n S0 (mf S 4 (nI p)) (sp B p) G es ne sn := by
  obtain ⟨h1, h2, h3, -, h4, h5, h6⟩ := h
  exact ⟨h1, h2, h3, ⟨p, rfl, hp, rfl⟩, h4, h5, h6.mf (by omega)⟩
theorem RPs.cq (h : RPs B n S0 S q G es ne sn) (hT : TB B n) : RPq B n S0 (mf S 4 (nI q)) q G es ne sn := by
  have h0 := h.qn hT
  have h1 := h.to h0.1
  rw [sp_id h0.2] at h1
  exact ⟨h1, rfl, h0.2, h0.1⟩
theorem RPq.inc (h : RPq B n S0 S q G es ne sn) (hq : q < n) : RPs B n S0 (mf S 4 (S.1 4 + 1)) (sp B (q + 1)) G es ne sn := by
  rw [h.2.1, nI_1]
  exact h.1.to hq
theorem RPs.m13 (h : RPs B n S0 S q G es ne sn) {v : Int32} : RPs B n S0 (mf S 13 v) q G es ne sn := by
  obtain ⟨h1, h2, h3, h3', h4, h5, h6⟩ := h
  exact ⟨h1, h2, h3, h3', h4, h5, h6.mf (by omega)⟩
theorem RPs.m14 (h : RPs B n S0 S q G es ne sn) {x : Nat} : RPs B n S0 (mf S 14 (nI x)) q G es x sn := by
  obtain ⟨h1, h2, h3, h3', h4, h5, h6⟩ := h
  exact ⟨h1, h2, h3, h3', h4, ⟨rfl, h5.2⟩, h6.mf (by omega)⟩
theorem RPs.rep (h : RPs B n S0 S q G es ne sn) {k : Int32} {a : Nat} (hk : k ≠ 0) : RPe S0 (mf (mf S 5 k) 6 (nI a)) (k, a) := by
  obtain ⟨-, -, -, -, -, -, h6⟩ := h
  exact ⟨rfl, hk, rfl, (h6.mf (by omega)).mf (by omega)⟩
theorem RPe.mf {e : Int32 × Nat} (h : RPe S0 S e) {j : Nat} {v : Int32} (hj : j = 4 ∨ j = 13 ∨ j = 14 ∨ j = 15) : RPe S0 (mf S j v) e :=
  ⟨(if_neg (by omega)).trans h.1, h.2.1, (if_neg (by omega)).trans h.2.2.1, h.2.2.2.mf (by omega)⟩
theorem RPe.no {e : Int32 × Nat} (h : RPe S0 S e) : ¬ S.1 5 = 0 := by rw [h.1]; exact h.2.1
theorem RPs.emit (h : RPs B n S0 S q G es ne sn) {v : Int32} : RPs B n S0 (ma S 2 (upd (upd (S.2.1 2) (666 + es.length) v) 8 (nI (es.length + 1)))) q G (es ++ [v]) ne sn := by
  obtain ⟨h1, h2, h3, h3', h4, h5, h6⟩ := h
  exact ⟨h1, h2, h3, h3', ⟨fun i hi h8 => ((if_neg h8).trans (if_neg (by omega))).trans (h4.1 i hi h8), h4.2.app⟩, h5, h6.m2⟩
variable {l : Launch} {Γ : ZG} {w : ZW} {o : Nat} {D : ZD}
theorem cn_next (hT : TB B n) (h : RPs B n S0 S q G es ne sn) : Ct l Γ mX6_next 2 0 0 [.ref o] (wD Γ w o S D) (Pv Γ w o D (some (.int (B q))) (fun S' => RPq B n S0 S' q G es ne sn)) zNo := by
  obtain ⟨⟨a1, a2⟩, -, -, ⟨p, b1, b2, b3⟩, -⟩ := id h
  have c := ct_X6_next (l := l) (Γ := Γ) (w := w) (o := o) (D := D) a1 a2 hT b1 b2
  rw [b3] at c
  exact c.px (h.cq hT)
theorem cn_emit {v : Int32} (h : RPs B n S0 S q G es ne sn) (hl : es.length < 1000) : Ct l Γ mX6_emit 2 0 0 [.ref o, .int v] (wD Γ w o S D) (Pv Γ w o D none (fun S' => RPs B n S0 S' q G (es ++ [v]) ne sn)) zNo :=
  (ct_X6_emit h.2.1 h.2.2.2.2.1.2.1 hl).px h.emit
theorem cn_expect_y {c : Int32} (hT : TB B n) (h : RPs B n S0 S q G es ne sn) (hc : B q = c) (hc1 : c ≠ -1) : Ct l Γ mX6_expect 3 0 0 [.ref o, .int c] (wD Γ w o S D) (Pv Γ w o D none (fun S' => RPs B n S0 S' (sp B (q + 1)) G es ne sn)) zNo := by
  obtain ⟨⟨a1, a2⟩, a3, -, ⟨p, b1, b2, b3⟩, -⟩ := id h
  have c := ct_X6_expect_y (l := l) (Γ := Γ) (w := w) (o := o) (D := D) a3 a1 a2 hT b1 b2 (x := c) (by rw [b3]; exact hc)
  rw [b3] at c
  exact c.px (h.to (p := q + 1) (lt_of_B hT (by rw [hc]; exact hc1)))
theorem cn_expect_n {c : Int32} (hT : TB B n) (h : RPs B n S0 S q G es ne sn) (hc : ¬ B q = c) : Ct l Γ mX6_expect 3 0 0 [.ref o, .int c] (wD Γ w o S D) (Pv Γ w o D none (fun S' => RPe S0 S' (-2, q))) zNo := by
  obtain ⟨⟨a1, a2⟩, a3, -, ⟨p, b1, b2, b3⟩, -⟩ := id h
  have c := ct_X6_expect_n (l := l) (Γ := Γ) (w := w) (o := o) (D := D) a3 a1 a2 hT b1 b2 (by rw [b3]; exact hc)
  rw [b3] at c
  exact c.px ((h.cq hT).1.rep (by decide))
theorem cn_number_y {lo hi : Nat} (hlo : lo ≤ 9999) (hhi : hi ≤ 9999) (hT : TB B n) (h : RPs B n S0 S q G es ne sn) (hd : isD B q = true) (hv : lo ≤ valN B q ∧ valN B q ≤ hi) : Ct l Γ mX6_number 3 0 0 [.ref o, .int (nI lo), .int (nI hi)] (wD Γ w o S D) (Pv Γ w o D (some (.int (nI (valN B q)))) (fun S' => RPs B n S0 S' (sp B (ed B q)) G es ne sn)) zNo := by
  obtain ⟨⟨a1, a2⟩, a3, -, ⟨p, b1, b2, b3⟩, -⟩ := id h
  have c := ct_X6_number_y (l := l) (Γ := Γ) (w := w) (o := o) (D := D) hlo hhi a3 a1 a2 hT b1 b2 (by rw [b3]; exact hd) (by rw [b3]; exact hv)
  rw [b3, Nat.min_eq_right (by omega)] at c
  exact c.px ((h.cq hT).1.m13.to (ed_le hT (h.qn hT).1))
theorem cn_number_o {lo hi : Nat} (hlo : lo ≤ 9999) (hhi : hi ≤ 9999) (hT : TB B n) (h : RPs B n S0 S q G es ne sn) (hd : isD B q = true) (hv : ¬ (lo ≤ valN B q ∧ valN B q ≤ hi)) : Ct l Γ mX6_number 3 0 0 [.ref o, .int (nI lo), .int (nI hi)] (wD Γ w o S D) (Pv Γ w o D (some (.int (nI (min 1000000 (valN B q))))) (fun S' => RPe S0 S' (-3, q))) zNo := by
  obtain ⟨⟨a1, a2⟩, a3, -, ⟨p, b1, b2, b3⟩, -⟩ := id h
  have c := ct_X6_number_o (l := l) (Γ := Γ) (w := w) (o := o) (D := D) hlo hhi a3 a1 a2 hT b1 b2 (by rw [b3]; exact hd) (by rw [b3]; exact hv)
  rw [b3] at c
  exact c.px (((h.cq hT).1.m13.to (ed_le hT (h.qn hT).1)).rep (by decide))
theorem cn_number_n {x y : Int32} (hT : TB B n) (h : RPs B n S0 S q G es ne sn) (hd : isD B q = false) : Ct l Γ mX6_number 3 0 0 [.ref o, .int x, .int y] (wD Γ w o S D) (Pv Γ w o D (some (.int 0)) (fun S' => RPe S0 S' (-2, q))) zNo := by
  obtain ⟨⟨a1, a2⟩, a3, -, ⟨p, b1, b2, b3⟩, -⟩ := id h
  have c := ct_X6_number_n (l := l) (Γ := Γ) (w := w) (o := o) (D := D) (x := x) (y := y) a3 a1 a2 hT b1 b2 (by rw [b3]; exact hd)
  rw [b3] at c
  exact c.px ((h.cq hT).1.rep (by decide))
theorem cn_word_y {t : String × Nat × String} (ht : t ∈ zStr) (hT : TB B n) (h : RPs B n S0 S q G es ne sn) (hw : wd B t.2.2 q) (hle : q + t.2.2.length ≤ n) : Ct l Γ mX6_takeWord 7 0 0 [.ref o, .ref (Γ.2.2.2.1 t.1 t.2.1)] (wD Γ w o S D) (Pv Γ w o D (some (.int 1)) (fun S' => RPs B n S0 S' (sp B (q + t.2.2.length)) G es ne sn)) zNo := by
  obtain ⟨⟨a1, a2⟩, a3, -, ⟨p, b1, b2, b3⟩, -⟩ := id h
  have c := ct_X6_takeWord_y (l := l) (Γ := Γ) (w := w) (o := o) (D := D) a3 a1 a2 hT b1 b2 ht (by rw [b3]; exact hw)
  rw [b3] at c
  exact c.px (h.to hle)
theorem cn_word_n {t : String × Nat × String} (ht : t ∈ zStr) (hT : TB B n) (h : RPs B n S0 S q G es ne sn) (hw : ¬ wd B t.2.2 q) : Ct l Γ mX6_takeWord 7 0 0 [.ref o, .ref (Γ.2.2.2.1 t.1 t.2.1)] (wD Γ w o S D) (Pv Γ w o D (some (.int 0)) (fun S' => RPq B n S0 S' q G es ne sn)) zNo := by
  obtain ⟨⟨a1, a2⟩, a3, -, ⟨p, b1, b2, b3⟩, -⟩ := id h
  have c := ct_X6_takeWord_n (l := l) (Γ := Γ) (w := w) (o := o) (D := D) a3 a1 a2 hT b1 b2 ht (by rw [b3]; exact hw)
  rw [b3] at c
  exact c.px (h.cq hT)
end

set_option maxRecDepth 100000 in
set_option maxHeartbeats 4000000 in
theorem ct_X6_factor_b {l : Launch} {Γ : ZG} {w : ZW} {o : Nat} {D : ZD} {S : MS} (h5 : ¬ S.1 5 = 0) : Cm l Γ mX6_factor 2 [.ref o] (wD Γ w o S D) none (wD Γ w o S D) := by
  refine Cm.of (by decide) rfl (Nat.le_of_ble_eq_true rfl) ?_
  refine go_aload_n 1 dX6_factor_0 rfl ?_
  refine gdV0 4 dX6_factor_1 vX6_65 (ct_X6_isGood_n h5) ?_
  refine go_if_ne 8 7 dX6_factor_4 (fun h4 => ?_) (fun h4 => ?_)
  · exact absurd h4 (by decide)
  · exact go_return dX6_factor_7 rfl (by omega) (by omega) (⟨rfl, rfl⟩)

set_option maxRecDepth 100000 in
set_option maxHeartbeats 4000000 in
theorem ct_X6_term_b {l : Launch} {Γ : ZG} {w : ZW} {o : Nat} {D : ZD} {S : MS} (h5 : ¬ S.1 5 = 0) : Cm l Γ mX6_term 3 [.ref o] (wD Γ w o S D) none (wD Γ w o S D) := by
  refine Cm.of (by decide) rfl (Nat.le_of_ble_eq_true rfl) ?_
  refine go_aload_n 1 dX6_term_0 rfl ?_
  refine gdV0v 4 dX6_term_1 vX6_126 (ct_X6_factor_b h5) ?_
  refine go_aload_n 5 dX6_term_4 rfl ?_
  refine gdV0 8 dX6_term_5 vX6_65 (ct_X6_isGood_n h5) ?_
  refine go_if_eq 74 11 dX6_term_8 (fun h8 => ?_) (fun h8 => ?_)
  · exact go_return dX6_term_74 rfl (by omega) (by omega) (⟨rfl, rfl⟩)
  · exact absurd h8 (by decide)

set_option maxRecDepth 100000 in
set_option maxHeartbeats 4000000 in
theorem ct_X6_sum_b {l : Launch} {Γ : ZG} {w : ZW} {o : Nat} {D : ZD} {S : MS} (h5 : ¬ S.1 5 = 0) : Cm l Γ mX6_sum 4 [.ref o] (wD Γ w o S D) none (wD Γ w o S D) := by
  refine Cm.of (by decide) rfl (Nat.le_of_ble_eq_true rfl) ?_
  refine go_aload_n 1 dX6_sum_0 rfl ?_
  refine gdV0v 4 dX6_sum_1 vX6_129 (ct_X6_term_b h5) ?_
  refine go_aload_n 5 dX6_sum_4 rfl ?_
  refine gdV0 8 dX6_sum_5 vX6_65 (ct_X6_isGood_n h5) ?_
  refine go_if_eq 74 11 dX6_sum_8 (fun h8 => ?_) (fun h8 => ?_)
  · exact go_return dX6_sum_74 rfl (by omega) (by omega) (⟨rfl, rfl⟩)
  · exact absurd h8 (by decide)

theorem wd_end {B : ZB} {n q : Nat} {t : String} (hT : TB B n) (h : wd B t q) (hw : ∀ i, i < t.length → zch t i ≠ -1) (h0 : 0 < t.length) : q + t.length ≤ n := by
  have := wd_pos hT h hw (t.length - 1) (by omega)
  omega
theorem wd_ne {B : ZB} {q : Nat} {t : String} {c : Int32} (hc : B q = c) (h0 : 0 < t.length) (h1 : zch t 0 ≠ c) : ¬ wd B t q := fun z => h1 ((z.1 0 h0).symm.trans hc)

set_option maxRecDepth 100000 in
set_option maxHeartbeats 4000000 in
theorem cx_fac_A {l : Launch} {Γ : ZG} {w : ZW} {o : Nat} {D : ZD} {B : ZB} {n : Nat} {S0 : MS} {G : ZD} {ne sn : Nat} (hT : TB B n) {sub : Option (XS → PR XS)} {S : MS} {q : Nat} {cs : List Int32} {dp : Nat} (hdp : 8 ≤ dp) (h : RPs B n S0 S q G (encs cs) ne sn) (hl : 2 * (encs cs).length ≤ 3 * q) (h40 : ¬ B q = 40) (hd : isD B q = true) (hv : 0 ≤ valN B q ∧ valN B q ≤ 9999) : Ct l Γ mX6_factor dp 0 0 [.ref o] (wD Γ w o S D) (Pv Γ w o D none (fun S' => RXr B n S0 S' G ne sn (facS B sub (q, cs)))) zNo := by
  have hn6 := hT.1
  have hqn := (h.qn hT).1
  have hfx : facS B sub (q, cs) = .inr (sp B (ed B q), cs ++ [nI (valN B q)]) := by
    unfold facS
    rw [if_pos hd, show num B 0 9999 q = .inr (sp B (ed B q), valN B q) by unfold num; rw [if_pos hd, if_pos hv]]
  refine Ct.of (by decide) rfl (Nat.le_of_ble_eq_true rfl) ?_
  refine go_aload_n 1 dX6_factor_0 rfl ?_
  refine gdV0 4 dX6_factor_1 vX6_65 (ct_X6_isGood_y h.2.1) ?_ (hdp := by omega)
  refine go_if_ne 8 7 dX6_factor_4 (fun h4 => ?_) (fun h4 => ?_)
  · refine go_aload_n 9 dX6_factor_8 rfl ?_
    refine gdX0 12 dX6_factor_9 vX6_69 (cn_next hT h) (fun S9 r9 => ?_) (hdp := by omega)
    refine go_istore_n 13 dX6_factor_12 (by decide) ?_
    refine go_iload_n 14 dX6_factor_13 rfl ?_
    refine go_bipush 16 dX6_factor_14 zb_40 ?_
    refine go_icmp_ne 78 19 dX6_factor_16 (fun h16 => ?_) (fun h16 => ?_)
    · refine go_iload_n 79 dX6_factor_78 rfl ?_
      refine gcS1 82 dX6_factor_79 vX6_86 (ct_X6_isDigit) ?_ (hdp := by omega)
      refine go_if_eq 89 85 dX6_factor_82 (fun h82 => ?_) (fun h82 => ?_)
      · exact (zb_0 h82 (of_decide_eq_true hd)).elim
      · refine go_iconst 86 dX6_factor_85 zc_m1 ?_
        refine go_goto 142 dX6_factor_86 ?_
        refine go_istore_n 143 dX6_factor_142 (by decide) ?_
        refine go_iload_n 144 dX6_factor_143 rfl ?_
        refine go_if_ge 158 147 dX6_factor_144 (fun h144 => ?_) (fun h144 => ?_)
        · exact absurd h144 (by decide)
        · refine go_aload_n 148 dX6_factor_147 rfl ?_
          refine go_iconst 149 dX6_factor_148 zc_0 ?_
          refine go_sipush 152 dX6_factor_149 zs_9999 ?_
          refine gdX2 155 dX6_factor_152 vX6_120 (cn_number_y (lo := 0) (hi := 9999) (by decide) (by decide) hT r9.1 hd hv) (fun S152 r152 => ?_) (hdp := by omega)
          refine go_goto 159 dX6_factor_155 ?_
          refine go_istore_n 160 dX6_factor_159 (by decide) ?_
          refine go_aload_n 161 dX6_factor_160 rfl ?_
          refine go_iload_n 162 dX6_factor_161 rfl ?_
          refine go_if_ge 169 165 dX6_factor_162 (fun h162 => ?_) (fun h162 => ?_)
          · exact absurd h162 (by decide)
          · refine go_iconst 166 dX6_factor_165 zc_0 ?_
            refine go_goto 170 dX6_factor_166 ?_
            refine gdX1v 173 dX6_factor_170 vX6_123 (cn_emit r152 (by have := r9.2.2.2; omega)) (fun S170 r170 => ?_) (hdp := by omega)
            refine go_aload_n 174 dX6_factor_173 rfl ?_
            refine go_iload_n 175 dX6_factor_174 rfl ?_
            refine gdX1v 178 dX6_factor_175 vX6_123 (cn_emit r170 (by rw [List.length_append]; show _ + 1 < 1000; omega)) (fun S175 r175 => ?_) (hdp := by omega)
            have e9 : encs cs ++ [0] ++ [nI (valN B q)] = encs (cs ++ [nI (valN B q)]) := by rw [encs_app, encs_one, enc_lit (nI_pos' (by omega)), List.append_assoc]; rfl
            rw [e9] at r175
            exact go_return dX6_factor_178 rfl (by omega) (by omega) (⟨rfl, S175, rfl, by rw [hfx]; exact r175⟩)
    · exact (h40 (by first | exact h16 | exact Classical.not_not.mp h16)).elim
  · exact absurd h4 (by decide)

set_option maxRecDepth 100000 in
set_option maxHeartbeats 4000000 in
theorem cx_fac_B {l : Launch} {Γ : ZG} {w : ZW} {o : Nat} {D : ZD} {B : ZB} {n : Nat} {S0 : MS} {G : ZD} {ne sn : Nat} (hT : TB B n) {sub : Option (XS → PR XS)} {S : MS} {q : Nat} {cs : List Int32} {dp : Nat} (hdp : 8 ≤ dp) (h : RPs B n S0 S q G (encs cs) ne sn) (hl : 2 * (encs cs).length ≤ 3 * q) (h40 : ¬ B q = 40) (hd : isD B q = true) (hv : ¬ (0 ≤ valN B q ∧ valN B q ≤ 9999)) : Ct l Γ mX6_factor dp 0 0 [.ref o] (wD Γ w o S D) (Pv Γ w o D none (fun S' => RXr B n S0 S' G ne sn (facS B sub (q, cs)))) zNo := by
  have hn6 := hT.1
  have hqn := (h.qn hT).1
  have hfx : facS B sub (q, cs) = .inl (-3, q) := by
    unfold facS
    rw [if_pos hd, show num B 0 9999 q = .inl (-3, q) by unfold num; rw [if_pos hd, if_neg hv]]
  refine Ct.of (by decide) rfl (Nat.le_of_ble_eq_true rfl) ?_
  refine go_aload_n 1 dX6_factor_0 rfl ?_
  refine gdV0 4 dX6_factor_1 vX6_65 (ct_X6_isGood_y h.2.1) ?_ (hdp := by omega)
  refine go_if_ne 8 7 dX6_factor_4 (fun h4 => ?_) (fun h4 => ?_)
  · refine go_aload_n 9 dX6_factor_8 rfl ?_
    refine gdX0 12 dX6_factor_9 vX6_69 (cn_next hT h) (fun S9 r9 => ?_) (hdp := by omega)
    refine go_istore_n 13 dX6_factor_12 (by decide) ?_
    refine go_iload_n 14 dX6_factor_13 rfl ?_
    refine go_bipush 16 dX6_factor_14 zb_40 ?_
    refine go_icmp_ne 78 19 dX6_factor_16 (fun h16 => ?_) (fun h16 => ?_)
    · refine go_iload_n 79 dX6_factor_78 rfl ?_
      refine gcS1 82 dX6_factor_79 vX6_86 (ct_X6_isDigit) ?_ (hdp := by omega)
      refine go_if_eq 89 85 dX6_factor_82 (fun h82 => ?_) (fun h82 => ?_)
      · exact (zb_0 h82 (of_decide_eq_true hd)).elim
      · refine go_iconst 86 dX6_factor_85 zc_m1 ?_
        refine go_goto 142 dX6_factor_86 ?_
        refine go_istore_n 143 dX6_factor_142 (by decide) ?_
        refine go_iload_n 144 dX6_factor_143 rfl ?_
        refine go_if_ge 158 147 dX6_factor_144 (fun h144 => ?_) (fun h144 => ?_)
        · exact absurd h144 (by decide)
        · refine go_aload_n 148 dX6_factor_147 rfl ?_
          refine go_iconst 149 dX6_factor_148 zc_0 ?_
          refine go_sipush 152 dX6_factor_149 zs_9999 ?_
          refine gdX2 155 dX6_factor_152 vX6_120 (cn_number_o (lo := 0) (hi := 9999) (by decide) (by decide) hT r9.1 hd hv) (fun S152 r152 => ?_) (hdp := by omega)
          refine go_goto 159 dX6_factor_155 ?_
          refine go_istore_n 160 dX6_factor_159 (by decide) ?_
          refine go_aload_n 161 dX6_factor_160 rfl ?_
          refine go_iload_n 162 dX6_factor_161 rfl ?_
          refine go_if_ge 169 165 dX6_factor_162 (fun h162 => ?_) (fun h162 => ?_)
          · exact absurd h162 (by decide)
          · refine go_iconst 166 dX6_factor_165 zc_0 ?_
            refine go_goto 170 dX6_factor_166 ?_
            refine gdV1v 173 dX6_factor_170 vX6_123 (ct_X6_emit_n r152.no) ?_ (hdp := by omega)
            refine go_aload_n 174 dX6_factor_173 rfl ?_
            refine go_iload_n 175 dX6_factor_174 rfl ?_
            refine gdV1v 178 dX6_factor_175 vX6_123 (ct_X6_emit_n r152.no) ?_ (hdp := by omega)
            exact go_return dX6_factor_178 rfl (by omega) (by omega) (⟨rfl, S152, rfl, by rw [hfx]; exact r152⟩)
    · exact (h40 (by first | exact h16 | exact Classical.not_not.mp h16)).elim
  · exact absurd h4 (by decide)

set_option maxRecDepth 100000 in
set_option maxHeartbeats 4000000 in
theorem cx_fac_W0 {l : Launch} {Γ : ZG} {w : ZW} {o : Nat} {D : ZD} {B : ZB} {n : Nat} {S0 : MS} {G : ZD} {ne sn : Nat} (hT : TB B n) {sub : Option (XS → PR XS)} {S : MS} {q : Nat} {cs : List Int32} {dp : Nat} (hdp : 8 ≤ dp) (h : RPs B n S0 S q G (encs cs) ne sn) (hl : 2 * (encs cs).length ≤ 3 * q) (h40 : ¬ B q = 40) (hd : isD B q = false) (w0 : wd B "legs" q) : Ct l Γ mX6_factor dp 0 0 [.ref o] (wD Γ w o S D) (Pv Γ w o D none (fun S' => RXr B n S0 S' G ne sn (facS B sub (q, cs)))) zNo := by
  have hn6 := hT.1
  have hqn := (h.qn hT).1
  have hfx : facS B sub (q, cs) = .inr (sp B (q + 4), cs ++ [-1]) := by
    unfold facS
    rw [if_neg (show ¬ isD B (q, cs).1 = true by rw [hd]; decide), if_pos w0]
  refine Ct.of (by decide) rfl (Nat.le_of_ble_eq_true rfl) ?_
  refine go_aload_n 1 dX6_factor_0 rfl ?_
  refine gdV0 4 dX6_factor_1 vX6_65 (ct_X6_isGood_y h.2.1) ?_ (hdp := by omega)
  refine go_if_ne 8 7 dX6_factor_4 (fun h4 => ?_) (fun h4 => ?_)
  · refine go_aload_n 9 dX6_factor_8 rfl ?_
    refine gdX0 12 dX6_factor_9 vX6_69 (cn_next hT h) (fun S9 r9 => ?_) (hdp := by omega)
    refine go_istore_n 13 dX6_factor_12 (by decide) ?_
    refine go_iload_n 14 dX6_factor_13 rfl ?_
    refine go_bipush 16 dX6_factor_14 zb_40 ?_
    refine go_icmp_ne 78 19 dX6_factor_16 (fun h16 => ?_) (fun h16 => ?_)
    · refine go_iload_n 79 dX6_factor_78 rfl ?_
      refine gcS1 82 dX6_factor_79 vX6_86 (ct_X6_isDigit) ?_ (hdp := by omega)
      refine go_if_eq 89 85 dX6_factor_82 (fun h82 => ?_) (fun h82 => ?_)
      · refine go_aload_n 90 dX6_factor_89 rfl ?_
        refine go_ldcS 92 dX6_factor_90 sX6_108 ?_
        refine gdX1 95 dX6_factor_92 vX6_110 (cn_word_y (t := (RX6, 108, "legs")) sX6_108 hT r9.1 w0 (wd_end hT w0 (by decide +kernel) (by decide +kernel))) (fun S92 r92 => ?_) (hdp := by omega)
        refine go_if_eq 102 98 dX6_factor_95 (fun h95 => ?_) (fun h95 => ?_)
        · exact absurd h95 (by decide)
        · refine go_iconst 99 dX6_factor_98 zc_0 ?_
          refine go_goto 142 dX6_factor_99 ?_
          refine go_istore_n 143 dX6_factor_142 (by decide) ?_
          refine go_iload_n 144 dX6_factor_143 rfl ?_
          refine go_if_ge 158 147 dX6_factor_144 (fun h144 => ?_) (fun h144 => ?_)
          · refine go_iload_n 159 dX6_factor_158 rfl ?_
            refine go_istore_n 160 dX6_factor_159 (by decide) ?_
            refine go_aload_n 161 dX6_factor_160 rfl ?_
            refine go_iload_n 162 dX6_factor_161 rfl ?_
            refine go_if_ge 169 165 dX6_factor_162 (fun h162 => ?_) (fun h162 => ?_)
            · refine go_iconst 170 dX6_factor_169 zc_1 ?_
              refine gdX1v 173 dX6_factor_170 vX6_123 (cn_emit r92 (by have := r9.2.2.2; omega)) (fun S170 r170 => ?_) (hdp := by omega)
              refine go_aload_n 174 dX6_factor_173 rfl ?_
              refine go_iload_n 175 dX6_factor_174 rfl ?_
              refine gdX1v 178 dX6_factor_175 vX6_123 (cn_emit r170 (by rw [List.length_append]; show _ + 1 < 1000; omega)) (fun S175 r175 => ?_) (hdp := by omega)
              have e9 : encs cs ++ [1] ++ [0] = encs (cs ++ [-1]) := by rw [encs_app, encs_one, List.append_assoc]; rfl
              rw [e9] at r175
              exact go_return dX6_factor_178 rfl (by omega) (by omega) (⟨rfl, S175, rfl, by rw [hfx]; exact r175⟩)
            · exact absurd h162 (by decide)
          · exact absurd h144 (by decide)
      · exact absurd (zb_1 h82) (of_decide_eq_false hd)
    · exact (h40 (by first | exact h16 | exact Classical.not_not.mp h16)).elim
  · exact absurd h4 (by decide)

set_option maxRecDepth 100000 in
set_option maxHeartbeats 4000000 in
theorem cx_fac_W1 {l : Launch} {Γ : ZG} {w : ZW} {o : Nat} {D : ZD} {B : ZB} {n : Nat} {S0 : MS} {G : ZD} {ne sn : Nat} (hT : TB B n) {sub : Option (XS → PR XS)} {S : MS} {q : Nat} {cs : List Int32} {dp : Nat} (hdp : 8 ≤ dp) (h : RPs B n S0 S q G (encs cs) ne sn) (hl : 2 * (encs cs).length ≤ 3 * q) (h40 : ¬ B q = 40) (hd : isD B q = false) (w0 : ¬ wd B "legs" q) (w1 : wd B "caller" q) : Ct l Γ mX6_factor dp 0 0 [.ref o] (wD Γ w o S D) (Pv Γ w o D none (fun S' => RXr B n S0 S' G ne sn (facS B sub (q, cs)))) zNo := by
  have hn6 := hT.1
  have hqn := (h.qn hT).1
  have hfx : facS B sub (q, cs) = .inr (sp B (q + 6), cs ++ [-2]) := by
    unfold facS
    rw [if_neg (show ¬ isD B (q, cs).1 = true by rw [hd]; decide), if_neg w0, if_pos w1]
  refine Ct.of (by decide) rfl (Nat.le_of_ble_eq_true rfl) ?_
  refine go_aload_n 1 dX6_factor_0 rfl ?_
  refine gdV0 4 dX6_factor_1 vX6_65 (ct_X6_isGood_y h.2.1) ?_ (hdp := by omega)
  refine go_if_ne 8 7 dX6_factor_4 (fun h4 => ?_) (fun h4 => ?_)
  · refine go_aload_n 9 dX6_factor_8 rfl ?_
    refine gdX0 12 dX6_factor_9 vX6_69 (cn_next hT h) (fun S9 r9 => ?_) (hdp := by omega)
    refine go_istore_n 13 dX6_factor_12 (by decide) ?_
    refine go_iload_n 14 dX6_factor_13 rfl ?_
    refine go_bipush 16 dX6_factor_14 zb_40 ?_
    refine go_icmp_ne 78 19 dX6_factor_16 (fun h16 => ?_) (fun h16 => ?_)
    · refine go_iload_n 79 dX6_factor_78 rfl ?_
      refine gcS1 82 dX6_factor_79 vX6_86 (ct_X6_isDigit) ?_ (hdp := by omega)
      refine go_if_eq 89 85 dX6_factor_82 (fun h82 => ?_) (fun h82 => ?_)
      · refine go_aload_n 90 dX6_factor_89 rfl ?_
        refine go_ldcS 92 dX6_factor_90 sX6_108 ?_
        refine gdX1 95 dX6_factor_92 vX6_110 (cn_word_n (t := (RX6, 108, "legs")) sX6_108 hT r9.1 w0) (fun S92 r92 => ?_) (hdp := by omega)
        refine go_if_eq 102 98 dX6_factor_95 (fun h95 => ?_) (fun h95 => ?_)
        · refine go_aload_n 103 dX6_factor_102 rfl ?_
          refine go_ldcS 105 dX6_factor_103 sX6_114 ?_
          refine gdX1 108 dX6_factor_105 vX6_110 (cn_word_y (t := (RX6, 114, "caller")) sX6_114 hT r92.1 w1 (wd_end hT w1 (by decide +kernel) (by decide +kernel))) (fun S105 r105 => ?_) (hdp := by omega)
          refine go_if_eq 115 111 dX6_factor_108 (fun h108 => ?_) (fun h108 => ?_)
          · exact absurd h108 (by decide)
          · refine go_iconst 112 dX6_factor_111 zc_1 ?_
            refine go_goto 142 dX6_factor_112 ?_
            refine go_istore_n 143 dX6_factor_142 (by decide) ?_
            refine go_iload_n 144 dX6_factor_143 rfl ?_
            refine go_if_ge 158 147 dX6_factor_144 (fun h144 => ?_) (fun h144 => ?_)
            · refine go_iload_n 159 dX6_factor_158 rfl ?_
              refine go_istore_n 160 dX6_factor_159 (by decide) ?_
              refine go_aload_n 161 dX6_factor_160 rfl ?_
              refine go_iload_n 162 dX6_factor_161 rfl ?_
              refine go_if_ge 169 165 dX6_factor_162 (fun h162 => ?_) (fun h162 => ?_)
              · refine go_iconst 170 dX6_factor_169 zc_1 ?_
                refine gdX1v 173 dX6_factor_170 vX6_123 (cn_emit r105 (by have := r9.2.2.2; omega)) (fun S170 r170 => ?_) (hdp := by omega)
                refine go_aload_n 174 dX6_factor_173 rfl ?_
                refine go_iload_n 175 dX6_factor_174 rfl ?_
                refine gdX1v 178 dX6_factor_175 vX6_123 (cn_emit r170 (by rw [List.length_append]; show _ + 1 < 1000; omega)) (fun S175 r175 => ?_) (hdp := by omega)
                have e9 : encs cs ++ [1] ++ [1] = encs (cs ++ [-2]) := by rw [encs_app, encs_one, List.append_assoc]; rfl
                rw [e9] at r175
                exact go_return dX6_factor_178 rfl (by omega) (by omega) (⟨rfl, S175, rfl, by rw [hfx]; exact r175⟩)
              · exact absurd h162 (by decide)
            · exact absurd h144 (by decide)
        · exact absurd h95 (by decide)
      · exact absurd (zb_1 h82) (of_decide_eq_false hd)
    · exact (h40 (by first | exact h16 | exact Classical.not_not.mp h16)).elim
  · exact absurd h4 (by decide)

set_option maxRecDepth 100000 in
set_option maxHeartbeats 4000000 in
theorem cx_fac_W2 {l : Launch} {Γ : ZG} {w : ZW} {o : Nat} {D : ZD} {B : ZB} {n : Nat} {S0 : MS} {G : ZD} {ne sn : Nat} (hT : TB B n) {sub : Option (XS → PR XS)} {S : MS} {q : Nat} {cs : List Int32} {dp : Nat} (hdp : 8 ≤ dp) (h : RPs B n S0 S q G (encs cs) ne sn) (hl : 2 * (encs cs).length ≤ 3 * q) (h40 : ¬ B q = 40) (hd : isD B q = false) (w0 : ¬ wd B "legs" q) (w1 : ¬ wd B "caller" q) (w2 : wd B "referred" q) : Ct l Γ mX6_factor dp 0 0 [.ref o] (wD Γ w o S D) (Pv Γ w o D none (fun S' => RXr B n S0 S' G ne sn (facS B sub (q, cs)))) zNo := by
  have hn6 := hT.1
  have hqn := (h.qn hT).1
  have hfx : facS B sub (q, cs) = .inr (sp B (q + 8), cs ++ [-3]) := by
    unfold facS
    rw [if_neg (show ¬ isD B (q, cs).1 = true by rw [hd]; decide), if_neg w0, if_neg w1, if_pos w2]
  refine Ct.of (by decide) rfl (Nat.le_of_ble_eq_true rfl) ?_
  refine go_aload_n 1 dX6_factor_0 rfl ?_
  refine gdV0 4 dX6_factor_1 vX6_65 (ct_X6_isGood_y h.2.1) ?_ (hdp := by omega)
  refine go_if_ne 8 7 dX6_factor_4 (fun h4 => ?_) (fun h4 => ?_)
  · refine go_aload_n 9 dX6_factor_8 rfl ?_
    refine gdX0 12 dX6_factor_9 vX6_69 (cn_next hT h) (fun S9 r9 => ?_) (hdp := by omega)
    refine go_istore_n 13 dX6_factor_12 (by decide) ?_
    refine go_iload_n 14 dX6_factor_13 rfl ?_
    refine go_bipush 16 dX6_factor_14 zb_40 ?_
    refine go_icmp_ne 78 19 dX6_factor_16 (fun h16 => ?_) (fun h16 => ?_)
    · refine go_iload_n 79 dX6_factor_78 rfl ?_
      refine gcS1 82 dX6_factor_79 vX6_86 (ct_X6_isDigit) ?_ (hdp := by omega)
      refine go_if_eq 89 85 dX6_factor_82 (fun h82 => ?_) (fun h82 => ?_)
      · refine go_aload_n 90 dX6_factor_89 rfl ?_
        refine go_ldcS 92 dX6_factor_90 sX6_108 ?_
        refine gdX1 95 dX6_factor_92 vX6_110 (cn_word_n (t := (RX6, 108, "legs")) sX6_108 hT r9.1 w0) (fun S92 r92 => ?_) (hdp := by omega)
        refine go_if_eq 102 98 dX6_factor_95 (fun h95 => ?_) (fun h95 => ?_)
        · refine go_aload_n 103 dX6_factor_102 rfl ?_
          refine go_ldcS 105 dX6_factor_103 sX6_114 ?_
          refine gdX1 108 dX6_factor_105 vX6_110 (cn_word_n (t := (RX6, 114, "caller")) sX6_114 hT r92.1 w1) (fun S105 r105 => ?_) (hdp := by omega)
          refine go_if_eq 115 111 dX6_factor_108 (fun h108 => ?_) (fun h108 => ?_)
          · refine go_aload_n 116 dX6_factor_115 rfl ?_
            refine go_ldcS 118 dX6_factor_116 sX6_116 ?_
            refine gdX1 121 dX6_factor_118 vX6_110 (cn_word_y (t := (RX6, 116, "referred")) sX6_116 hT r105.1 w2 (wd_end hT w2 (by decide +kernel) (by decide +kernel))) (fun S118 r118 => ?_) (hdp := by omega)
            refine go_if_eq 128 124 dX6_factor_121 (fun h121 => ?_) (fun h121 => ?_)
            · exact absurd h121 (by decide)
            · refine go_iconst 125 dX6_factor_124 zc_2 ?_
              refine go_goto 142 dX6_factor_125 ?_
              refine go_istore_n 143 dX6_factor_142 (by decide) ?_
              refine go_iload_n 144 dX6_factor_143 rfl ?_
              refine go_if_ge 158 147 dX6_factor_144 (fun h144 => ?_) (fun h144 => ?_)
              · refine go_iload_n 159 dX6_factor_158 rfl ?_
                refine go_istore_n 160 dX6_factor_159 (by decide) ?_
                refine go_aload_n 161 dX6_factor_160 rfl ?_
                refine go_iload_n 162 dX6_factor_161 rfl ?_
                refine go_if_ge 169 165 dX6_factor_162 (fun h162 => ?_) (fun h162 => ?_)
                · refine go_iconst 170 dX6_factor_169 zc_1 ?_
                  refine gdX1v 173 dX6_factor_170 vX6_123 (cn_emit r118 (by have := r9.2.2.2; omega)) (fun S170 r170 => ?_) (hdp := by omega)
                  refine go_aload_n 174 dX6_factor_173 rfl ?_
                  refine go_iload_n 175 dX6_factor_174 rfl ?_
                  refine gdX1v 178 dX6_factor_175 vX6_123 (cn_emit r170 (by rw [List.length_append]; show _ + 1 < 1000; omega)) (fun S175 r175 => ?_) (hdp := by omega)
                  have e9 : encs cs ++ [1] ++ [2] = encs (cs ++ [-3]) := by rw [encs_app, encs_one, List.append_assoc]; rfl
                  rw [e9] at r175
                  exact go_return dX6_factor_178 rfl (by omega) (by omega) (⟨rfl, S175, rfl, by rw [hfx]; exact r175⟩)
                · exact absurd h162 (by decide)
              · exact absurd h144 (by decide)
          · exact absurd h108 (by decide)
        · exact absurd h95 (by decide)
      · exact absurd (zb_1 h82) (of_decide_eq_false hd)
    · exact (h40 (by first | exact h16 | exact Classical.not_not.mp h16)).elim
  · exact absurd h4 (by decide)

set_option maxRecDepth 100000 in
set_option maxHeartbeats 4000000 in
theorem cx_fac_W3 {l : Launch} {Γ : ZG} {w : ZW} {o : Nat} {D : ZD} {B : ZB} {n : Nat} {S0 : MS} {G : ZD} {ne sn : Nat} (hT : TB B n) {sub : Option (XS → PR XS)} {S : MS} {q : Nat} {cs : List Int32} {dp : Nat} (hdp : 8 ≤ dp) (h : RPs B n S0 S q G (encs cs) ne sn) (hl : 2 * (encs cs).length ≤ 3 * q) (h40 : ¬ B q = 40) (hd : isD B q = false) (w0 : ¬ wd B "legs" q) (w1 : ¬ wd B "caller" q) (w2 : ¬ wd B "referred" q) (w3 : wd B "time" q) : Ct l Γ mX6_factor dp 0 0 [.ref o] (wD Γ w o S D) (Pv Γ w o D none (fun S' => RXr B n S0 S' G ne sn (facS B sub (q, cs)))) zNo := by
  have hn6 := hT.1
  have hqn := (h.qn hT).1
  have hfx : facS B sub (q, cs) = .inr (sp B (q + 4), cs ++ [-4]) := by
    unfold facS
    rw [if_neg (show ¬ isD B (q, cs).1 = true by rw [hd]; decide), if_neg w0, if_neg w1, if_neg w2, if_pos w3]
  refine Ct.of (by decide) rfl (Nat.le_of_ble_eq_true rfl) ?_
  refine go_aload_n 1 dX6_factor_0 rfl ?_
  refine gdV0 4 dX6_factor_1 vX6_65 (ct_X6_isGood_y h.2.1) ?_ (hdp := by omega)
  refine go_if_ne 8 7 dX6_factor_4 (fun h4 => ?_) (fun h4 => ?_)
  · refine go_aload_n 9 dX6_factor_8 rfl ?_
    refine gdX0 12 dX6_factor_9 vX6_69 (cn_next hT h) (fun S9 r9 => ?_) (hdp := by omega)
    refine go_istore_n 13 dX6_factor_12 (by decide) ?_
    refine go_iload_n 14 dX6_factor_13 rfl ?_
    refine go_bipush 16 dX6_factor_14 zb_40 ?_
    refine go_icmp_ne 78 19 dX6_factor_16 (fun h16 => ?_) (fun h16 => ?_)
    · refine go_iload_n 79 dX6_factor_78 rfl ?_
      refine gcS1 82 dX6_factor_79 vX6_86 (ct_X6_isDigit) ?_ (hdp := by omega)
      refine go_if_eq 89 85 dX6_factor_82 (fun h82 => ?_) (fun h82 => ?_)
      · refine go_aload_n 90 dX6_factor_89 rfl ?_
        refine go_ldcS 92 dX6_factor_90 sX6_108 ?_
        refine gdX1 95 dX6_factor_92 vX6_110 (cn_word_n (t := (RX6, 108, "legs")) sX6_108 hT r9.1 w0) (fun S92 r92 => ?_) (hdp := by omega)
        refine go_if_eq 102 98 dX6_factor_95 (fun h95 => ?_) (fun h95 => ?_)
        · refine go_aload_n 103 dX6_factor_102 rfl ?_
          refine go_ldcS 105 dX6_factor_103 sX6_114 ?_
          refine gdX1 108 dX6_factor_105 vX6_110 (cn_word_n (t := (RX6, 114, "caller")) sX6_114 hT r92.1 w1) (fun S105 r105 => ?_) (hdp := by omega)
          refine go_if_eq 115 111 dX6_factor_108 (fun h108 => ?_) (fun h108 => ?_)
          · refine go_aload_n 116 dX6_factor_115 rfl ?_
            refine go_ldcS 118 dX6_factor_116 sX6_116 ?_
            refine gdX1 121 dX6_factor_118 vX6_110 (cn_word_n (t := (RX6, 116, "referred")) sX6_116 hT r105.1 w2) (fun S118 r118 => ?_) (hdp := by omega)
            refine go_if_eq 128 124 dX6_factor_121 (fun h121 => ?_) (fun h121 => ?_)
            · refine go_aload_n 129 dX6_factor_128 rfl ?_
              refine go_ldcS 131 dX6_factor_129 sX6_118 ?_
              refine gdX1 134 dX6_factor_131 vX6_110 (cn_word_y (t := (RX6, 118, "time")) sX6_118 hT r118.1 w3 (wd_end hT w3 (by decide +kernel) (by decide +kernel))) (fun S131 r131 => ?_) (hdp := by omega)
              refine go_if_eq 141 137 dX6_factor_134 (fun h134 => ?_) (fun h134 => ?_)
              · exact absurd h134 (by decide)
              · refine go_iconst 138 dX6_factor_137 zc_3 ?_
                refine go_goto 142 dX6_factor_138 ?_
                refine go_istore_n 143 dX6_factor_142 (by decide) ?_
                refine go_iload_n 144 dX6_factor_143 rfl ?_
                refine go_if_ge 158 147 dX6_factor_144 (fun h144 => ?_) (fun h144 => ?_)
                · refine go_iload_n 159 dX6_factor_158 rfl ?_
                  refine go_istore_n 160 dX6_factor_159 (by decide) ?_
                  refine go_aload_n 161 dX6_factor_160 rfl ?_
                  refine go_iload_n 162 dX6_factor_161 rfl ?_
                  refine go_if_ge 169 165 dX6_factor_162 (fun h162 => ?_) (fun h162 => ?_)
                  · refine go_iconst 170 dX6_factor_169 zc_1 ?_
                    refine gdX1v 173 dX6_factor_170 vX6_123 (cn_emit r131 (by have := r9.2.2.2; omega)) (fun S170 r170 => ?_) (hdp := by omega)
                    refine go_aload_n 174 dX6_factor_173 rfl ?_
                    refine go_iload_n 175 dX6_factor_174 rfl ?_
                    refine gdX1v 178 dX6_factor_175 vX6_123 (cn_emit r170 (by rw [List.length_append]; show _ + 1 < 1000; omega)) (fun S175 r175 => ?_) (hdp := by omega)
                    have e9 : encs cs ++ [1] ++ [3] = encs (cs ++ [-4]) := by rw [encs_app, encs_one, List.append_assoc]; rfl
                    rw [e9] at r175
                    exact go_return dX6_factor_178 rfl (by omega) (by omega) (⟨rfl, S175, rfl, by rw [hfx]; exact r175⟩)
                  · exact absurd h162 (by decide)
                · exact absurd h144 (by decide)
            · exact absurd h121 (by decide)
          · exact absurd h108 (by decide)
        · exact absurd h95 (by decide)
      · exact absurd (zb_1 h82) (of_decide_eq_false hd)
    · exact (h40 (by first | exact h16 | exact Classical.not_not.mp h16)).elim
  · exact absurd h4 (by decide)

set_option maxRecDepth 100000 in
set_option maxHeartbeats 4000000 in
theorem cx_fac_N {l : Launch} {Γ : ZG} {w : ZW} {o : Nat} {D : ZD} {B : ZB} {n : Nat} {S0 : MS} {G : ZD} {ne sn : Nat} (hT : TB B n) {sub : Option (XS → PR XS)} {S : MS} {q : Nat} {cs : List Int32} {dp : Nat} (hdp : 8 ≤ dp) (h : RPs B n S0 S q G (encs cs) ne sn) (hl : 2 * (encs cs).length ≤ 3 * q) (h40 : ¬ B q = 40) (hd : isD B q = false) (w0 : ¬ wd B "legs" q) (w1 : ¬ wd B "caller" q) (w2 : ¬ wd B "referred" q) (w3 : ¬ wd B "time" q) : Ct l Γ mX6_factor dp 0 0 [.ref o] (wD Γ w o S D) (Pv Γ w o D none (fun S' => RXr B n S0 S' G ne sn (facS B sub (q, cs)))) zNo := by
  have hn6 := hT.1
  have hqn := (h.qn hT).1
  have hfx : facS B sub (q, cs) = .inl (-2, q) := by
    unfold facS
    rw [if_neg (show ¬ isD B (q, cs).1 = true by rw [hd]; decide), if_neg w0, if_neg w1, if_neg w2, if_neg w3, if_neg h40]
  refine Ct.of (by decide) rfl (Nat.le_of_ble_eq_true rfl) ?_
  refine go_aload_n 1 dX6_factor_0 rfl ?_
  refine gdV0 4 dX6_factor_1 vX6_65 (ct_X6_isGood_y h.2.1) ?_ (hdp := by omega)
  refine go_if_ne 8 7 dX6_factor_4 (fun h4 => ?_) (fun h4 => ?_)
  · refine go_aload_n 9 dX6_factor_8 rfl ?_
    refine gdX0 12 dX6_factor_9 vX6_69 (cn_next hT h) (fun S9 r9 => ?_) (hdp := by omega)
    refine go_istore_n 13 dX6_factor_12 (by decide) ?_
    refine go_iload_n 14 dX6_factor_13 rfl ?_
    refine go_bipush 16 dX6_factor_14 zb_40 ?_
    refine go_icmp_ne 78 19 dX6_factor_16 (fun h16 => ?_) (fun h16 => ?_)
    · refine go_iload_n 79 dX6_factor_78 rfl ?_
      refine gcS1 82 dX6_factor_79 vX6_86 (ct_X6_isDigit) ?_ (hdp := by omega)
      refine go_if_eq 89 85 dX6_factor_82 (fun h82 => ?_) (fun h82 => ?_)
      · refine go_aload_n 90 dX6_factor_89 rfl ?_
        refine go_ldcS 92 dX6_factor_90 sX6_108 ?_
        refine gdX1 95 dX6_factor_92 vX6_110 (cn_word_n (t := (RX6, 108, "legs")) sX6_108 hT r9.1 w0) (fun S92 r92 => ?_) (hdp := by omega)
        refine go_if_eq 102 98 dX6_factor_95 (fun h95 => ?_) (fun h95 => ?_)
        · refine go_aload_n 103 dX6_factor_102 rfl ?_
          refine go_ldcS 105 dX6_factor_103 sX6_114 ?_
          refine gdX1 108 dX6_factor_105 vX6_110 (cn_word_n (t := (RX6, 114, "caller")) sX6_114 hT r92.1 w1) (fun S105 r105 => ?_) (hdp := by omega)
          refine go_if_eq 115 111 dX6_factor_108 (fun h108 => ?_) (fun h108 => ?_)
          · refine go_aload_n 116 dX6_factor_115 rfl ?_
            refine go_ldcS 118 dX6_factor_116 sX6_116 ?_
            refine gdX1 121 dX6_factor_118 vX6_110 (cn_word_n (t := (RX6, 116, "referred")) sX6_116 hT r105.1 w2) (fun S118 r118 => ?_) (hdp := by omega)
            refine go_if_eq 128 124 dX6_factor_121 (fun h121 => ?_) (fun h121 => ?_)
            · refine go_aload_n 129 dX6_factor_128 rfl ?_
              refine go_ldcS 131 dX6_factor_129 sX6_118 ?_
              refine gdX1 134 dX6_factor_131 vX6_110 (cn_word_n (t := (RX6, 118, "time")) sX6_118 hT r118.1 w3) (fun S131 r131 => ?_) (hdp := by omega)
              refine go_if_eq 141 137 dX6_factor_134 (fun h134 => ?_) (fun h134 => ?_)
              · refine go_iconst 142 dX6_factor_141 zc_m1 ?_
                refine go_istore_n 143 dX6_factor_142 (by decide) ?_
                refine go_iload_n 144 dX6_factor_143 rfl ?_
                refine go_if_ge 158 147 dX6_factor_144 (fun h144 => ?_) (fun h144 => ?_)
                · exact absurd h144 (by decide)
                · refine go_aload_n 148 dX6_factor_147 rfl ?_
                  refine go_iconst 149 dX6_factor_148 zc_0 ?_
                  refine go_sipush 152 dX6_factor_149 zs_9999 ?_
                  refine gdX2 155 dX6_factor_152 vX6_120 (cn_number_n hT r131.1 hd) (fun S152 r152 => ?_) (hdp := by omega)
                  refine go_goto 159 dX6_factor_155 ?_
                  refine go_istore_n 160 dX6_factor_159 (by decide) ?_
                  refine go_aload_n 161 dX6_factor_160 rfl ?_
                  refine go_iload_n 162 dX6_factor_161 rfl ?_
                  refine go_if_ge 169 165 dX6_factor_162 (fun h162 => ?_) (fun h162 => ?_)
                  · exact absurd h162 (by decide)
                  · refine go_iconst 166 dX6_factor_165 zc_0 ?_
                    refine go_goto 170 dX6_factor_166 ?_
                    refine gdV1v 173 dX6_factor_170 vX6_123 (ct_X6_emit_n r152.no) ?_ (hdp := by omega)
                    refine go_aload_n 174 dX6_factor_173 rfl ?_
                    refine go_iload_n 175 dX6_factor_174 rfl ?_
                    refine gdV1v 178 dX6_factor_175 vX6_123 (ct_X6_emit_n r152.no) ?_ (hdp := by omega)
                    exact go_return dX6_factor_178 rfl (by omega) (by omega) (⟨rfl, S152, rfl, by rw [hfx]; exact r152⟩)
              · exact absurd h134 (by decide)
            · exact absurd h121 (by decide)
          · exact absurd h108 (by decide)
        · exact absurd h95 (by decide)
      · exact absurd (zb_1 h82) (of_decide_eq_false hd)
    · exact (h40 (by first | exact h16 | exact Classical.not_not.mp h16)).elim
  · exact absurd h4 (by decide)

set_option maxRecDepth 100000 in
set_option maxHeartbeats 4000000 in
theorem cx_fac_P0 {l : Launch} {Γ : ZG} {w : ZW} {o : Nat} {D : ZD} {B : ZB} {n : Nat} {S0 : MS} {G : ZD} {ne sn : Nat} (hT : TB B n) {sub : Option (XS → PR XS)} {S : MS} {q : Nat} {cs : List Int32} {dp : Nat} (hdp : 8 ≤ dp) (h : RPs B n S0 S q G (encs cs) ne sn) (hl : 2 * (encs cs).length ≤ 3 * q) (h40 : B q = 40) (hs : sub = none) (hne : ne = 4) : Ct l Γ mX6_factor dp 0 0 [.ref o] (wD Γ w o S D) (Pv Γ w o D none (fun S' => RXr B n S0 S' G ne sn (facS B sub (q, cs)))) zNo := by
  have hn6 := hT.1
  have hlt : q < n := lt_of_B hT (by rw [h40]; decide)
  have hd : isD B q = false := decide_eq_false (fun z => absurd z.1 (by rw [h40]; decide))
  have w0 : ¬ wd B "legs" q := wd_ne h40 (by decide +kernel) (by decide +kernel)
  have w1 : ¬ wd B "caller" q := wd_ne h40 (by decide +kernel) (by decide +kernel)
  have w2 : ¬ wd B "referred" q := wd_ne h40 (by decide +kernel) (by decide +kernel)
  have w3 : ¬ wd B "time" q := wd_ne h40 (by decide +kernel) (by decide +kernel)
  have hfx : facS B sub (q, cs) = .inl (-5, q) := by
    unfold facS
    rw [if_neg (show ¬ isD B (q, cs).1 = true by rw [hd]; decide), if_neg w0, if_neg w1, if_neg w2, if_neg w3, if_pos h40, hs]
  refine Ct.of (by decide) rfl (Nat.le_of_ble_eq_true rfl) ?_
  refine go_aload_n 1 dX6_factor_0 rfl ?_
  refine gdV0 4 dX6_factor_1 vX6_65 (ct_X6_isGood_y h.2.1) ?_ (hdp := by omega)
  refine go_if_ne 8 7 dX6_factor_4 (fun h4 => ?_) (fun h4 => ?_)
  · refine go_aload_n 9 dX6_factor_8 rfl ?_
    refine gdX0 12 dX6_factor_9 vX6_69 (cn_next hT h) (fun S9 r9 => ?_) (hdp := by omega)
    refine go_istore_n 13 dX6_factor_12 (by decide) ?_
    refine go_iload_n 14 dX6_factor_13 rfl ?_
    refine go_bipush 16 dX6_factor_14 zb_40 ?_
    refine go_icmp_ne 78 19 dX6_factor_16 (fun h16 => ?_) (fun h16 => ?_)
    · exact absurd h40 h16
    · refine go_aload_n 20 dX6_factor_19 rfl ?_
      refine gd_get 23 dX6_factor_20 fX6_98 rfl ?_
      refine go_iconst 24 dX6_factor_23 zc_4 ?_
      refine go_icmp_ne 37 27 dX6_factor_24 (fun h24 => ?_) (fun h24 => ?_)
      · exact (h24 (by rw [r9.1.2.2.2.2.2.1.1, hne]; rfl)).elim
      · refine go_aload_n 28 dX6_factor_27 rfl ?_
        refine go_bipush 30 dX6_factor_28 zb_m5 ?_
        refine go_aload_n 31 dX6_factor_30 rfl ?_
        refine gd_get 34 dX6_factor_31 fX6_48 rfl ?_
        rw [r9.2.1]
        refine gdV2v 37 dX6_factor_34 vX6_82 (ct_X6_report_n r9.1.2.1) ?_ (hdp := by omega)
        refine go_aload_n 38 dX6_factor_37 rfl ?_
        refine go_dup 39 dX6_factor_38 rfl ?_
        refine gd_get 42 dX6_factor_39 fX6_48 rfl ?_
        refine go_iconst 43 dX6_factor_42 zc_1 ?_
        refine go_iadd 44 dX6_factor_43 ?_
        refine gd_put 47 dX6_factor_44 pX6_48 rfl (by decide) ?_
        refine go_aload_n 48 dX6_factor_47 rfl ?_
        refine go_dup 49 dX6_factor_48 rfl ?_
        refine gd_get 52 dX6_factor_49 fX6_98 rfl ?_
        refine go_iconst 53 dX6_factor_52 zc_1 ?_
        refine go_iadd 54 dX6_factor_53 ?_
        refine gd_put 57 dX6_factor_54 pX6_98 rfl (by decide) ?_
        have hb := (((r9.1.rep (k := -5) (a := q) (by decide)).mf (j := 4) (v := S9.1 4 + 1) (by omega)).mf (j := 14) (v := S9.1 14 + 1) (by omega))
        refine go_aload_n 58 dX6_factor_57 rfl ?_
        refine gdV0v 61 dX6_factor_58 vX6_101 (ct_X6_sum_b hb.no) ?_ (hdp := by omega)
        refine go_aload_n 62 dX6_factor_61 rfl ?_
        refine go_bipush 64 dX6_factor_62 zb_41 ?_
        refine gdV1v 67 dX6_factor_64 vX6_104 (ct_X6_expect_b hb.no) ?_ (hdp := by omega)
        refine go_aload_n 68 dX6_factor_67 rfl ?_
        refine go_dup 69 dX6_factor_68 rfl ?_
        refine gd_get 72 dX6_factor_69 fX6_98 rfl ?_
        refine go_iconst 73 dX6_factor_72 zc_1 ?_
        refine go_isub 74 dX6_factor_73 ?_
        refine gd_put 77 dX6_factor_74 pX6_98 rfl (by decide) ?_
        exact go_return dX6_factor_77 rfl (by omega) (by omega) (⟨rfl, _, rfl, by rw [hfx]; exact hb.mf (by omega)⟩)
  · exact absurd h4 (by decide)

set_option maxRecDepth 100000 in
set_option maxHeartbeats 4000000 in
theorem cx_fac_PS {l : Launch} {Γ : ZG} {w : ZW} {o : Nat} {D : ZD} {B : ZB} {n : Nat} {S0 : MS} {G : ZD} {ne sn : Nat} (hT : TB B n) {sub : Option (XS → PR XS)} {S : MS} {q : Nat} {cs : List Int32} {dp : Nat} (hdp : 8 ≤ dp) (h : RPs B n S0 S q G (encs cs) ne sn) (hl : 2 * (encs cs).length ≤ 3 * q) (h40 : B q = 40) {f : XS → PR XS} (hs : sub = some f) (hne : ne < 4) {ds : Nat} (hds : ds + 1 ≤ dp) (hf : ∀ (S : MS) (q : Nat) (cs : List Int32), RPs B n S0 S q G (encs cs) (ne + 1) sn → 2 * (encs cs).length ≤ 3 * q → Ct l Γ mX6_sum ds 0 0 [.ref o] (wD Γ w o S D) (Pv Γ w o D none (fun S' => RXr B n S0 S' G (ne + 1) sn (f (q, cs)))) zNo) : Ct l Γ mX6_factor dp 0 0 [.ref o] (wD Γ w o S D) (Pv Γ w o D none (fun S' => RXr B n S0 S' G ne sn (facS B sub (q, cs)))) zNo := by
  have hn6 := hT.1
  have hlt : q < n := lt_of_B hT (by rw [h40]; decide)
  have hd : isD B q = false := decide_eq_false (fun z => absurd z.1 (by rw [h40]; decide))
  have w0 : ¬ wd B "legs" q := wd_ne h40 (by decide +kernel) (by decide +kernel)
  have w1 : ¬ wd B "caller" q := wd_ne h40 (by decide +kernel) (by decide +kernel)
  have w2 : ¬ wd B "referred" q := wd_ne h40 (by decide +kernel) (by decide +kernel)
  have w3 : ¬ wd B "time" q := wd_ne h40 (by decide +kernel) (by decide +kernel)
  have hfx : facS B sub (q, cs) = (match f (sp B (q + 1), cs) with
        | .inl e => .inl e
        | .inr s2 => if B s2.1 = 41 then .inr (sp B (s2.1 + 1), s2.2) else .inl (-2, s2.1)) := by
    unfold facS
    rw [if_neg (show ¬ isD B (q, cs).1 = true by rw [hd]; decide), if_neg w0, if_neg w1, if_neg w2, if_neg w3, if_pos h40, hs]
    rfl
  refine Ct.of (by decide) rfl (Nat.le_of_ble_eq_true rfl) ?_
  refine go_aload_n 1 dX6_factor_0 rfl ?_
  refine gdV0 4 dX6_factor_1 vX6_65 (ct_X6_isGood_y h.2.1) ?_ (hdp := by omega)
  refine go_if_ne 8 7 dX6_factor_4 (fun h4 => ?_) (fun h4 => ?_)
  · refine go_aload_n 9 dX6_factor_8 rfl ?_
    refine gdX0 12 dX6_factor_9 vX6_69 (cn_next hT h) (fun S9 r9 => ?_) (hdp := by omega)
    refine go_istore_n 13 dX6_factor_12 (by decide) ?_
    refine go_iload_n 14 dX6_factor_13 rfl ?_
    refine go_bipush 16 dX6_factor_14 zb_40 ?_
    refine go_icmp_ne 78 19 dX6_factor_16 (fun h16 => ?_) (fun h16 => ?_)
    · exact absurd h40 h16
    · refine go_aload_n 20 dX6_factor_19 rfl ?_
      refine gd_get 23 dX6_factor_20 fX6_98 rfl ?_
      refine go_iconst 24 dX6_factor_23 zc_4 ?_
      refine go_icmp_ne 37 27 dX6_factor_24 (fun h24 => ?_) (fun h24 => ?_)
      · refine go_aload_n 38 dX6_factor_37 rfl ?_
        refine go_dup 39 dX6_factor_38 rfl ?_
        refine gd_get 42 dX6_factor_39 fX6_48 rfl ?_
        refine go_iconst 43 dX6_factor_42 zc_1 ?_
        refine go_iadd 44 dX6_factor_43 ?_
        refine gd_put 47 dX6_factor_44 pX6_48 rfl (by decide) ?_
        refine go_aload_n 48 dX6_factor_47 rfl ?_
        refine go_dup 49 dX6_factor_48 rfl ?_
        refine gd_get 52 dX6_factor_49 fX6_98 rfl ?_
        refine go_iconst 53 dX6_factor_52 zc_1 ?_
        refine go_iadd 54 dX6_factor_53 ?_
        refine gd_put 57 dX6_factor_54 pX6_98 rfl (by decide) ?_
        rw [show (mf S9 4 (S9.1 4 + 1)).1 14 + 1 = nI (ne + 1) from by rw [show (mf S9 4 (S9.1 4 + 1)).1 14 = nI ne from r9.1.2.2.2.2.2.1.1, nI_1]]
        have hb := (r9.inc hlt).m14 (x := ne + 1)
        refine go_aload_n 58 dX6_factor_57 rfl ?_
        refine gdX0v 61 dX6_factor_58 vX6_101 (hf _ (sp B (q + 1)) cs hb (by have : q + 1 ≤ sp B (q + 1) := sp_ge; omega)) (fun S58 r58 => ?_) (hdp := by omega)
        rw [hfx]
        cases hfr : f (sp B (q + 1), cs) with
        | inl e =>
          rw [hfr] at r58
          have r58 : RPe S0 S58 e := r58
          refine go_aload_n 62 dX6_factor_61 rfl ?_
          refine go_bipush 64 dX6_factor_62 zb_41 ?_
          refine gdV1v 67 dX6_factor_64 vX6_104 (ct_X6_expect_b r58.no) ?_ (hdp := by omega)
          refine go_aload_n 68 dX6_factor_67 rfl ?_
          refine go_dup 69 dX6_factor_68 rfl ?_
          refine gd_get 72 dX6_factor_69 fX6_98 rfl ?_
          refine go_iconst 73 dX6_factor_72 zc_1 ?_
          refine go_isub 74 dX6_factor_73 ?_
          refine gd_put 77 dX6_factor_74 pX6_98 rfl (by decide) ?_
          exact go_return dX6_factor_77 rfl (by omega) (by omega) (⟨rfl, _, rfl, r58.mf (by omega)⟩)
        | inr x =>
          rw [hfr] at r58
          have r58 : RPs B n S0 S58 x.1 G (encs x.2) (ne + 1) sn := r58
          by_cases h41 : B x.1 = 41
          · have hrr : (if B x.1 = 41 then (Sum.inr (sp B (x.1 + 1), x.2) : PR XS) else .inl (-2, x.1)) = .inr (sp B (x.1 + 1), x.2) := if_pos h41
            refine go_aload_n 62 dX6_factor_61 rfl ?_
            refine go_bipush 64 dX6_factor_62 zb_41 ?_
            refine gdX1v 67 dX6_factor_64 vX6_104 (cn_expect_y hT r58 h41 (by decide)) (fun S64 r64 => ?_) (hdp := by omega)
            refine go_aload_n 68 dX6_factor_67 rfl ?_
            refine go_dup 69 dX6_factor_68 rfl ?_
            refine gd_get 72 dX6_factor_69 fX6_98 rfl ?_
            refine go_iconst 73 dX6_factor_72 zc_1 ?_
            refine go_isub 74 dX6_factor_73 ?_
            refine gd_put 77 dX6_factor_74 pX6_98 rfl (by decide) ?_
            rw [show S64.1 14 - 1 = nI ne from by rw [r64.2.2.2.2.2.1.1, nI_pred]]
            exact go_return dX6_factor_77 rfl (by omega) (by omega) (⟨rfl, _, rfl, by show RXr _ _ _ _ _ _ _ (if B x.1 = 41 then (Sum.inr (sp B (x.1 + 1), x.2) : PR XS) else .inl (-2, x.1)); rw [hrr]; exact r64.m14⟩)
          · have hrr : (if B x.1 = 41 then (Sum.inr (sp B (x.1 + 1), x.2) : PR XS) else .inl (-2, x.1)) = .inl (-2, x.1) := if_neg h41
            refine go_aload_n 62 dX6_factor_61 rfl ?_
            refine go_bipush 64 dX6_factor_62 zb_41 ?_
            refine gdX1v 67 dX6_factor_64 vX6_104 (cn_expect_n hT r58 h41) (fun S64 r64 => ?_) (hdp := by omega)
            refine go_aload_n 68 dX6_factor_67 rfl ?_
            refine go_dup 69 dX6_factor_68 rfl ?_
            refine gd_get 72 dX6_factor_69 fX6_98 rfl ?_
            refine go_iconst 73 dX6_factor_72 zc_1 ?_
            refine go_isub 74 dX6_factor_73 ?_
            refine gd_put 77 dX6_factor_74 pX6_98 rfl (by decide) ?_
            exact go_return dX6_factor_77 rfl (by omega) (by omega) (⟨rfl, _, rfl, by show RXr _ _ _ _ _ _ _ (if B x.1 = 41 then (Sum.inr (sp B (x.1 + 1), x.2) : PR XS) else .inl (-2, x.1)); rw [hrr]; exact r64.mf (by omega)⟩)
      · exact absurd (r9.1.2.2.2.2.2.1.1.symm.trans (by first | exact h24 | exact Classical.not_not.mp h24)) (fun z => absurd ((nI_eq (b := 4) (by omega) (by decide)).mp z) (by omega))
  · exact absurd h4 (by decide)

theorem cx_facS {l : Launch} {Γ : ZG} {w : ZW} {o : Nat} {D : ZD} {B : ZB} {n : Nat} {S0 : MS} {G : ZD} {ne sn : Nat} (hT : TB B n) {sub : Option (XS → PR XS)} {S : MS} {q : Nat} {cs : List Int32} {dp : Nat} (hdp : 8 ≤ dp) (h : RPs B n S0 S q G (encs cs) ne sn) (hl : 2 * (encs cs).length ≤ 3 * q) (hsub : (sub = none ∧ ne = 4) ∨ ∃ f ds, sub = some f ∧ ne < 4 ∧ ds + 1 ≤ dp ∧ ∀ (S : MS) (q : Nat) (cs : List Int32), RPs B n S0 S q G (encs cs) (ne + 1) sn → 2 * (encs cs).length ≤ 3 * q → Ct l Γ mX6_sum ds 0 0 [.ref o] (wD Γ w o S D) (Pv Γ w o D none (fun S' => RXr B n S0 S' G (ne + 1) sn (f (q, cs)))) zNo) : Ct l Γ mX6_factor dp 0 0 [.ref o] (wD Γ w o S D) (Pv Γ w o D none (fun S' => RXr B n S0 S' G ne sn (facS B sub (q, cs)))) zNo := by
  by_cases h40 : B q = 40
  · rcases hsub with ⟨a, b⟩ | ⟨f, ds, a, b, c, e⟩
    · exact cx_fac_P0 hT hdp h hl h40 a b
    · exact cx_fac_PS hT hdp h hl h40 a b c e
  · cases hd : isD B q with
    | true =>
      by_cases hv : 0 ≤ valN B q ∧ valN B q ≤ 9999
      · exact cx_fac_A hT hdp h hl h40 hd hv
      · exact cx_fac_B hT hdp h hl h40 hd hv
    | false =>
      by_cases w0 : wd B "legs" q
      · exact cx_fac_W0 hT hdp h hl h40 hd w0
      · by_cases w1 : wd B "caller" q
        · exact cx_fac_W1 hT hdp h hl h40 hd w0 w1
        · by_cases w2 : wd B "referred" q
          · exact cx_fac_W2 hT hdp h hl h40 hd w0 w1 w2
          · by_cases w3 : wd B "time" q
            · exact cx_fac_W3 hT hdp h hl h40 hd w0 w1 w2 w3
            · exact cx_fac_N hT hdp h hl h40 hd w0 w1 w2 w3

set_option maxRecDepth 100000 in
set_option maxHeartbeats 4000000 in
theorem lp_X6_term_bad {l : Launch} {Γ : ZG} {w : ZW} {o : Nat} {D : ZD} {B : ZB} {n : Nat} {S0 : MS} {G : ZD} {ne sn : Nat} {S : MS} {e : Int32 × Nat} (h : RPe S0 S e) {ds dp : Nat} (hds : ds + 1 ≤ dp) (h4 : 4 ≤ dp) {r : PR XS} (hr : r = .inl e) : Go l Γ mX6_term dp 0 0 (Pv Γ w o D none (fun S' => RXr B n S0 S' G ne sn r)) zNo 0 0 (wD Γ w o S D) 4 [(0, .ref o)] [] := by
  subst hr
  refine go_aload_n 5 dX6_term_4 rfl ?_
  refine gdV0 8 dX6_term_5 vX6_65 (ct_X6_isGood_n h.no) ?_ (hdp := by omega)
  refine go_if_eq 74 11 dX6_term_8 (fun h8 => ?_) (fun h8 => ?_)
  · exact go_return dX6_term_74 rfl (by omega) (by omega) (⟨rfl, S, rfl, h⟩)
  · exact absurd h8 (by decide)

set_option maxRecDepth 100000 in
set_option maxHeartbeats 4000000 in
theorem lp_X6_term {l : Launch} {Γ : ZG} {w : ZW} {o : Nat} {D : ZD} {B : ZB} {n : Nat} {S0 : MS} {G : ZD} {ne sn : Nat} (hT : TB B n) {F : XS → PR XS} {k ds : Nat} (hG : Gd B n k 0 F) (hF : ∀ (S : MS) (q : Nat) (cs : List Int32), RPs B n S0 S q G (encs cs) ne sn → 2 * (encs cs).length ≤ 3 * q → Ct l Γ mX6_factor ds 0 0 [.ref o] (wD Γ w o S D) (Pv Γ w o D none (fun S' => RXr B n S0 S' G ne sn (F (q, cs)))) zNo) {dp : Nat} (hds : ds + 1 ≤ dp) (h4 : 4 ≤ dp) : ∀ (f : Nat) (S : MS) (q : Nat) (cs : List Int32), n ≤ q + f → RPs B n S0 S q G (encs cs) ne sn → 2 * (encs cs).length ≤ 3 * q + 1 → Go l Γ mX6_term dp 0 0 (Pv Γ w o D none (fun S' => RXr B n S0 S' G ne sn (opL B 42 47 (-7) (-8) F f (q, cs)))) zNo 0 0 (wD Γ w o S D) 4 [(0, .ref o)] [] := by
  have hn6 := hT.1
  intro f
  induction f with
  | zero =>
    intro S q cs hf h hl
    have hb1 : B q = -1 := hT.2.1 q (by omega)
    have hn1 : ¬ B q = 42 := by rw [hb1]; decide
    have hn2 : ¬ B q = 47 := by rw [hb1]; decide
    have hfx : opL B 42 47 (-7) (-8) F 0 (q, cs) = .inr (q, cs) := rfl
    refine go_aload_n 5 dX6_term_4 rfl ?_
    refine gdV0 8 dX6_term_5 vX6_65 (ct_X6_isGood_y h.2.1) ?_ (hdp := by omega)
    refine go_if_eq 74 11 dX6_term_8 (fun h8 => ?_) (fun h8 => ?_)
    · exact absurd h8 (by decide)
    · refine go_aload_n 12 dX6_term_11 rfl ?_
      refine gdX0 15 dX6_term_12 vX6_69 (cn_next hT h) (fun S12 r12 => ?_) (hdp := by omega)
      refine go_bipush 17 dX6_term_15 zb_42 ?_
      refine go_icmp_eq 29 20 dX6_term_17 (fun h17 => ?_) (fun h17 => ?_)
      · exact (hn1 h17).elim
      · refine go_aload_n 21 dX6_term_20 rfl ?_
        refine gdX0 24 dX6_term_21 vX6_69 (cn_next hT r12.1) (fun S21 r21 => ?_) (hdp := by omega)
        refine go_bipush 26 dX6_term_24 zb_47 ?_
        refine go_icmp_ne 74 29 dX6_term_26 (fun h26 => ?_) (fun h26 => ?_)
        · exact go_return dX6_term_74 rfl (by omega) (by omega) (⟨rfl, S21, rfl, by rw [hfx]; exact r21.1⟩)
        · exact (hn2 (by first | exact h26 | exact Classical.not_not.mp h26)).elim
  | succ f ih =>
    intro S q cs hf h hl
    have hqn := (h.qn hT).1
    by_cases h1 : B q = 42
    · have hlt : q < n := lt_of_B hT (by rw [h1]; decide)
      have hfx : opL B 42 47 (-7) (-8) F (f + 1) (q, cs) = (match F (sp B (q + 1), cs) with
        | .inl e => .inl e
        | .inr s2 => opL B 42 47 (-7) (-8) F f (s2.1, s2.2 ++ [-7])) := by
        rw [opL, if_pos (show B (q, cs).1 = 42 ∨ B (q, cs).1 = 47 from Or.inl h1), if_pos (show B (q, cs).1 = 42 from h1)]
        rfl
      refine go_aload_n 5 dX6_term_4 rfl ?_
      refine gdV0 8 dX6_term_5 vX6_65 (ct_X6_isGood_y h.2.1) ?_ (hdp := by omega)
      refine go_if_eq 74 11 dX6_term_8 (fun h8 => ?_) (fun h8 => ?_)
      · exact absurd h8 (by decide)
      · refine go_aload_n 12 dX6_term_11 rfl ?_
        refine gdX0 15 dX6_term_12 vX6_69 (cn_next hT h) (fun S12 r12 => ?_) (hdp := by omega)
        refine go_bipush 17 dX6_term_15 zb_42 ?_
        refine go_icmp_eq 29 20 dX6_term_17 (fun h17 => ?_) (fun h17 => ?_)
        · refine go_aload_n 30 dX6_term_29 rfl ?_
          refine gdX0 33 dX6_term_30 vX6_69 (cn_next hT r12.1) (fun S30 r30 => ?_) (hdp := by omega)
          refine go_bipush 35 dX6_term_33 zb_42 ?_
          refine go_icmp_ne 42 38 dX6_term_35 (fun h35 => ?_) (fun h35 => ?_)
          · exact absurd h1 h35
          · refine go_iconst 39 dX6_term_38 zc_1 ?_
            refine go_goto 43 dX6_term_39 ?_
            refine go_istore_n 44 dX6_term_43 (by decide) ?_
            refine go_aload_n 45 dX6_term_44 rfl ?_
            refine go_dup 46 dX6_term_45 rfl ?_
            refine gd_get 49 dX6_term_46 fX6_48 rfl ?_
            refine go_iconst 50 dX6_term_49 zc_1 ?_
            refine go_iadd 51 dX6_term_50 ?_
            refine gd_put 54 dX6_term_51 pX6_48 rfl (by decide) ?_
            refine go_aload_n 55 dX6_term_54 rfl ?_
            refine gdX0v 58 dX6_term_55 vX6_126 (hF _ (sp B (q + 1)) cs (r30.inc hlt) (by have : q + 1 ≤ sp B (q + 1) := sp_ge; omega)) (fun S55 r55 => ?_) (hdp := by omega)
            cases hfr : F (sp B (q + 1), cs) with
            | inl e =>
              rw [hfr] at r55
              have r55 : RPe S0 S55 e := r55
              refine go_aload_n 59 dX6_term_58 rfl ?_
              refine go_iload_n 60 dX6_term_59 rfl ?_
              refine go_if_eq 67 63 dX6_term_60 (fun h60 => ?_) (fun h60 => ?_)
              · exact absurd h60 (by decide)
              · refine go_iconst 64 dX6_term_63 zc_4 ?_
                refine go_goto 68 dX6_term_64 ?_
                refine gdV1v 71 dX6_term_68 vX6_123 (ct_X6_emit_n r55.no) ?_ (hdp := by omega)
                refine go_goto 4 dX6_term_71 ?_
                exact go_locals [(0, .ref o)] rfl (lp_X6_term_bad r55 hds h4 (by rw [hfx, hfr]))
            | inr x =>
              rw [hfr] at r55
              have r55 : RPs B n S0 S55 x.1 G (encs x.2) ne sn := r55
              obtain ⟨b1, b2, b3, ad, b4, b5, b6, b7⟩ := hG (sp B (q + 1), cs) x (sp_le hT hlt) hfr
              have b1 : sp B (q + 1) < x.1 := b1
              have b4 : x.2 = cs ++ ad := b4
              have b6 : 2 * (encs ad).length + 3 * sp B (q + 1) ≤ 3 * x.1 + 1 := b6
              have b8 : q + 1 ≤ sp B (q + 1) := sp_ge
              have b9 : (encs x.2).length = (encs cs).length + (encs ad).length := by rw [b4, encs_app, List.length_append]
              have hlen : (encs x.2).length < 1000 := by omega
              refine go_aload_n 59 dX6_term_58 rfl ?_
              refine go_iload_n 60 dX6_term_59 rfl ?_
              refine go_if_eq 67 63 dX6_term_60 (fun h60 => ?_) (fun h60 => ?_)
              · exact absurd h60 (by decide)
              · refine go_iconst 64 dX6_term_63 zc_4 ?_
                refine go_goto 68 dX6_term_64 ?_
                refine gdX1v 71 dX6_term_68 vX6_123 (cn_emit r55 hlen) (fun S68 r68 => ?_) (hdp := by omega)
                refine go_goto 4 dX6_term_71 ?_
                rw [show encs x.2 ++ [4] = encs (x.2 ++ [-7]) by rw [encs_app, encs_one]; rfl] at r68
                rw [show opL B 42 47 (-7) (-8) F (f + 1) (q, cs) = opL B 42 47 (-7) (-8) F f (x.1, x.2 ++ [-7]) by rw [hfx, hfr]]
                exact go_locals [(0, .ref o)] rfl (ih S68 x.1 (x.2 ++ [-7]) (by omega) r68 (by rw [encs_app, encs_one, List.length_append]; show 2 * (_ + 1) ≤ _; omega))
        · exact (h17 h1).elim
    · have hn1 := h1
      by_cases h1 : B q = 47
      · have hlt : q < n := lt_of_B hT (by rw [h1]; decide)
        have hfx : opL B 42 47 (-7) (-8) F (f + 1) (q, cs) = (match F (sp B (q + 1), cs) with
          | .inl e => .inl e
          | .inr s2 => opL B 42 47 (-7) (-8) F f (s2.1, s2.2 ++ [-8])) := by
          rw [opL, if_pos (show B (q, cs).1 = 42 ∨ B (q, cs).1 = 47 from Or.inr h1), if_neg (show ¬ B (q, cs).1 = 42 from hn1)]
          rfl
        refine go_aload_n 5 dX6_term_4 rfl ?_
        refine gdV0 8 dX6_term_5 vX6_65 (ct_X6_isGood_y h.2.1) ?_ (hdp := by omega)
        refine go_if_eq 74 11 dX6_term_8 (fun h8 => ?_) (fun h8 => ?_)
        · exact absurd h8 (by decide)
        · refine go_aload_n 12 dX6_term_11 rfl ?_
          refine gdX0 15 dX6_term_12 vX6_69 (cn_next hT h) (fun S12 r12 => ?_) (hdp := by omega)
          refine go_bipush 17 dX6_term_15 zb_42 ?_
          refine go_icmp_eq 29 20 dX6_term_17 (fun h17 => ?_) (fun h17 => ?_)
          · exact (hn1 h17).elim
          · refine go_aload_n 21 dX6_term_20 rfl ?_
            refine gdX0 24 dX6_term_21 vX6_69 (cn_next hT r12.1) (fun S21 r21 => ?_) (hdp := by omega)
            refine go_bipush 26 dX6_term_24 zb_47 ?_
            refine go_icmp_ne 74 29 dX6_term_26 (fun h26 => ?_) (fun h26 => ?_)
            · exact absurd h1 h26
            · refine go_aload_n 30 dX6_term_29 rfl ?_
              refine gdX0 33 dX6_term_30 vX6_69 (cn_next hT r21.1) (fun S30 r30 => ?_) (hdp := by omega)
              refine go_bipush 35 dX6_term_33 zb_42 ?_
              refine go_icmp_ne 42 38 dX6_term_35 (fun h35 => ?_) (fun h35 => ?_)
              · refine go_iconst 43 dX6_term_42 zc_0 ?_
                refine go_istore_n 44 dX6_term_43 (by decide) ?_
                refine go_aload_n 45 dX6_term_44 rfl ?_
                refine go_dup 46 dX6_term_45 rfl ?_
                refine gd_get 49 dX6_term_46 fX6_48 rfl ?_
                refine go_iconst 50 dX6_term_49 zc_1 ?_
                refine go_iadd 51 dX6_term_50 ?_
                refine gd_put 54 dX6_term_51 pX6_48 rfl (by decide) ?_
                refine go_aload_n 55 dX6_term_54 rfl ?_
                refine gdX0v 58 dX6_term_55 vX6_126 (hF _ (sp B (q + 1)) cs (r30.inc hlt) (by have : q + 1 ≤ sp B (q + 1) := sp_ge; omega)) (fun S55 r55 => ?_) (hdp := by omega)
                cases hfr : F (sp B (q + 1), cs) with
                | inl e =>
                  rw [hfr] at r55
                  have r55 : RPe S0 S55 e := r55
                  refine go_aload_n 59 dX6_term_58 rfl ?_
                  refine go_iload_n 60 dX6_term_59 rfl ?_
                  refine go_if_eq 67 63 dX6_term_60 (fun h60 => ?_) (fun h60 => ?_)
                  · refine go_iconst 68 dX6_term_67 zc_5 ?_
                    refine gdV1v 71 dX6_term_68 vX6_123 (ct_X6_emit_n r55.no) ?_ (hdp := by omega)
                    refine go_goto 4 dX6_term_71 ?_
                    exact go_locals [(0, .ref o)] rfl (lp_X6_term_bad r55 hds h4 (by rw [hfx, hfr]))
                  · exact absurd h60 (by decide)
                | inr x =>
                  rw [hfr] at r55
                  have r55 : RPs B n S0 S55 x.1 G (encs x.2) ne sn := r55
                  obtain ⟨b1, b2, b3, ad, b4, b5, b6, b7⟩ := hG (sp B (q + 1), cs) x (sp_le hT hlt) hfr
                  have b1 : sp B (q + 1) < x.1 := b1
                  have b4 : x.2 = cs ++ ad := b4
                  have b6 : 2 * (encs ad).length + 3 * sp B (q + 1) ≤ 3 * x.1 + 1 := b6
                  have b8 : q + 1 ≤ sp B (q + 1) := sp_ge
                  have b9 : (encs x.2).length = (encs cs).length + (encs ad).length := by rw [b4, encs_app, List.length_append]
                  have hlen : (encs x.2).length < 1000 := by omega
                  refine go_aload_n 59 dX6_term_58 rfl ?_
                  refine go_iload_n 60 dX6_term_59 rfl ?_
                  refine go_if_eq 67 63 dX6_term_60 (fun h60 => ?_) (fun h60 => ?_)
                  · refine go_iconst 68 dX6_term_67 zc_5 ?_
                    refine gdX1v 71 dX6_term_68 vX6_123 (cn_emit r55 hlen) (fun S68 r68 => ?_) (hdp := by omega)
                    refine go_goto 4 dX6_term_71 ?_
                    rw [show encs x.2 ++ [5] = encs (x.2 ++ [-8]) by rw [encs_app, encs_one]; rfl] at r68
                    rw [show opL B 42 47 (-7) (-8) F (f + 1) (q, cs) = opL B 42 47 (-7) (-8) F f (x.1, x.2 ++ [-8]) by rw [hfx, hfr]]
                    exact go_locals [(0, .ref o)] rfl (ih S68 x.1 (x.2 ++ [-8]) (by omega) r68 (by rw [encs_app, encs_one, List.length_append]; show 2 * (_ + 1) ≤ _; omega))
                  · exact absurd h60 (by decide)
              · exact (hn1 (by first | exact h35 | exact Classical.not_not.mp h35)).elim
      · have hn2 := h1
        have hfx : opL B 42 47 (-7) (-8) F (f + 1) (q, cs) = .inr (q, cs) := by
          rw [opL, if_neg (show ¬ (B (q, cs).1 = 42 ∨ B (q, cs).1 = 47) from fun z => z.elim hn1 hn2)]
        refine go_aload_n 5 dX6_term_4 rfl ?_
        refine gdV0 8 dX6_term_5 vX6_65 (ct_X6_isGood_y h.2.1) ?_ (hdp := by omega)
        refine go_if_eq 74 11 dX6_term_8 (fun h8 => ?_) (fun h8 => ?_)
        · exact absurd h8 (by decide)
        · refine go_aload_n 12 dX6_term_11 rfl ?_
          refine gdX0 15 dX6_term_12 vX6_69 (cn_next hT h) (fun S12 r12 => ?_) (hdp := by omega)
          refine go_bipush 17 dX6_term_15 zb_42 ?_
          refine go_icmp_eq 29 20 dX6_term_17 (fun h17 => ?_) (fun h17 => ?_)
          · exact (hn1 h17).elim
          · refine go_aload_n 21 dX6_term_20 rfl ?_
            refine gdX0 24 dX6_term_21 vX6_69 (cn_next hT r12.1) (fun S21 r21 => ?_) (hdp := by omega)
            refine go_bipush 26 dX6_term_24 zb_47 ?_
            refine go_icmp_ne 74 29 dX6_term_26 (fun h26 => ?_) (fun h26 => ?_)
            · exact go_return dX6_term_74 rfl (by omega) (by omega) (⟨rfl, S21, rfl, by rw [hfx]; exact r21.1⟩)
            · exact (hn2 (by first | exact h26 | exact Classical.not_not.mp h26)).elim

set_option maxRecDepth 100000 in
set_option maxHeartbeats 4000000 in
theorem cx_X6_term {l : Launch} {Γ : ZG} {w : ZW} {o : Nat} {D : ZD} {B : ZB} {n : Nat} {S0 : MS} {G : ZD} {ne sn : Nat} (hT : TB B n) {F : XS → PR XS} {k ds : Nat} (hG : Gd B n k 0 F) (hF : ∀ (S : MS) (q : Nat) (cs : List Int32), RPs B n S0 S q G (encs cs) ne sn → 2 * (encs cs).length ≤ 3 * q → Ct l Γ mX6_factor ds 0 0 [.ref o] (wD Γ w o S D) (Pv Γ w o D none (fun S' => RXr B n S0 S' G ne sn (F (q, cs)))) zNo) {dp : Nat} (hds : ds + 1 ≤ dp) (h4 : 4 ≤ dp) {S : MS} {q : Nat} {cs : List Int32} (h : RPs B n S0 S q G (encs cs) ne sn) (hl : 2 * (encs cs).length ≤ 3 * q) : Ct l Γ mX6_term dp 0 0 [.ref o] (wD Γ w o S D) (Pv Γ w o D none (fun S' => RXr B n S0 S' G ne sn (trm B F (q, cs)))) zNo := by
  refine Ct.of (by decide) rfl (Nat.le_of_ble_eq_true rfl) ?_
  refine go_aload_n 1 dX6_term_0 rfl ?_
  refine gdX0v 4 dX6_term_1 vX6_126 (hF S q cs h hl) (fun S1 r1 => ?_) (hdp := by omega)
  have hfx : trm B F (q, cs) = (match F (q, cs) with
    | .inl e => .inl e
    | .inr s2 => opL B 42 47 (-7) (-8) F 601 s2) := rfl
  cases hfr : F (q, cs) with
  | inl e =>
    rw [hfr] at r1
    have r1 : RPe S0 S1 e := r1
    exact go_locals [(0, .ref o)] rfl (lp_X6_term_bad r1 hds h4 (by rw [hfx, hfr]))
  | inr x =>
    rw [hfr] at r1
    have r1 : RPs B n S0 S1 x.1 G (encs x.2) ne sn := r1
    obtain ⟨b1, b2, b3, ad, b4, b5, b6, b7⟩ := hG (q, cs) x (h.qn hT).1 hfr
    have b1 : q < x.1 := b1
    have b4 : x.2 = cs ++ ad := b4
    have b6 : 2 * (encs ad).length + 3 * q ≤ 3 * x.1 + 1 := b6
    have b9 : (encs x.2).length = (encs cs).length + (encs ad).length := by rw [b4, encs_app, List.length_append]
    rw [show trm B F (q, cs) = opL B 42 47 (-7) (-8) F 601 (x.1, x.2) by rw [hfx, hfr]]
    exact go_locals [(0, .ref o)] rfl (lp_X6_term hT hG hF hds h4 601 S1 x.1 x.2 (by have := hT.1; omega) r1 (by omega))

set_option maxRecDepth 100000 in
set_option maxHeartbeats 4000000 in
theorem lp_X6_sum_bad {l : Launch} {Γ : ZG} {w : ZW} {o : Nat} {D : ZD} {B : ZB} {n : Nat} {S0 : MS} {G : ZD} {ne sn : Nat} {S : MS} {e : Int32 × Nat} (h : RPe S0 S e) {ds dp : Nat} (hds : ds + 1 ≤ dp) (h4 : 4 ≤ dp) {r : PR XS} (hr : r = .inl e) : Go l Γ mX6_sum dp 0 0 (Pv Γ w o D none (fun S' => RXr B n S0 S' G ne sn r)) zNo 0 0 (wD Γ w o S D) 4 [(0, .ref o)] [] := by
  subst hr
  refine go_aload_n 5 dX6_sum_4 rfl ?_
  refine gdV0 8 dX6_sum_5 vX6_65 (ct_X6_isGood_n h.no) ?_ (hdp := by omega)
  refine go_if_eq 74 11 dX6_sum_8 (fun h8 => ?_) (fun h8 => ?_)
  · exact go_return dX6_sum_74 rfl (by omega) (by omega) (⟨rfl, S, rfl, h⟩)
  · exact absurd h8 (by decide)

set_option maxRecDepth 100000 in
set_option maxHeartbeats 4000000 in
theorem lp_X6_sum {l : Launch} {Γ : ZG} {w : ZW} {o : Nat} {D : ZD} {B : ZB} {n : Nat} {S0 : MS} {G : ZD} {ne sn : Nat} (hT : TB B n) {F : XS → PR XS} {k ds : Nat} (hG : Gd B n k 0 F) (hF : ∀ (S : MS) (q : Nat) (cs : List Int32), RPs B n S0 S q G (encs cs) ne sn → 2 * (encs cs).length ≤ 3 * q → Ct l Γ mX6_term ds 0 0 [.ref o] (wD Γ w o S D) (Pv Γ w o D none (fun S' => RXr B n S0 S' G ne sn (F (q, cs)))) zNo) {dp : Nat} (hds : ds + 1 ≤ dp) (h4 : 4 ≤ dp) : ∀ (f : Nat) (S : MS) (q : Nat) (cs : List Int32), n ≤ q + f → RPs B n S0 S q G (encs cs) ne sn → 2 * (encs cs).length ≤ 3 * q + 1 → Go l Γ mX6_sum dp 0 0 (Pv Γ w o D none (fun S' => RXr B n S0 S' G ne sn (opL B 43 45 (-5) (-6) F f (q, cs)))) zNo 0 0 (wD Γ w o S D) 4 [(0, .ref o)] [] := by
  have hn6 := hT.1
  intro f
  induction f with
  | zero =>
    intro S q cs hf h hl
    have hb1 : B q = -1 := hT.2.1 q (by omega)
    have hn1 : ¬ B q = 43 := by rw [hb1]; decide
    have hn2 : ¬ B q = 45 := by rw [hb1]; decide
    have hfx : opL B 43 45 (-5) (-6) F 0 (q, cs) = .inr (q, cs) := rfl
    refine go_aload_n 5 dX6_sum_4 rfl ?_
    refine gdV0 8 dX6_sum_5 vX6_65 (ct_X6_isGood_y h.2.1) ?_ (hdp := by omega)
    refine go_if_eq 74 11 dX6_sum_8 (fun h8 => ?_) (fun h8 => ?_)
    · exact absurd h8 (by decide)
    · refine go_aload_n 12 dX6_sum_11 rfl ?_
      refine gdX0 15 dX6_sum_12 vX6_69 (cn_next hT h) (fun S12 r12 => ?_) (hdp := by omega)
      refine go_bipush 17 dX6_sum_15 zb_43 ?_
      refine go_icmp_eq 29 20 dX6_sum_17 (fun h17 => ?_) (fun h17 => ?_)
      · exact (hn1 h17).elim
      · refine go_aload_n 21 dX6_sum_20 rfl ?_
        refine gdX0 24 dX6_sum_21 vX6_69 (cn_next hT r12.1) (fun S21 r21 => ?_) (hdp := by omega)
        refine go_bipush 26 dX6_sum_24 zb_45 ?_
        refine go_icmp_ne 74 29 dX6_sum_26 (fun h26 => ?_) (fun h26 => ?_)
        · exact go_return dX6_sum_74 rfl (by omega) (by omega) (⟨rfl, S21, rfl, by rw [hfx]; exact r21.1⟩)
        · exact (hn2 (by first | exact h26 | exact Classical.not_not.mp h26)).elim
  | succ f ih =>
    intro S q cs hf h hl
    have hqn := (h.qn hT).1
    by_cases h1 : B q = 43
    · have hlt : q < n := lt_of_B hT (by rw [h1]; decide)
      have hfx : opL B 43 45 (-5) (-6) F (f + 1) (q, cs) = (match F (sp B (q + 1), cs) with
        | .inl e => .inl e
        | .inr s2 => opL B 43 45 (-5) (-6) F f (s2.1, s2.2 ++ [-5])) := by
        rw [opL, if_pos (show B (q, cs).1 = 43 ∨ B (q, cs).1 = 45 from Or.inl h1), if_pos (show B (q, cs).1 = 43 from h1)]
        rfl
      refine go_aload_n 5 dX6_sum_4 rfl ?_
      refine gdV0 8 dX6_sum_5 vX6_65 (ct_X6_isGood_y h.2.1) ?_ (hdp := by omega)
      refine go_if_eq 74 11 dX6_sum_8 (fun h8 => ?_) (fun h8 => ?_)
      · exact absurd h8 (by decide)
      · refine go_aload_n 12 dX6_sum_11 rfl ?_
        refine gdX0 15 dX6_sum_12 vX6_69 (cn_next hT h) (fun S12 r12 => ?_) (hdp := by omega)
        refine go_bipush 17 dX6_sum_15 zb_43 ?_
        refine go_icmp_eq 29 20 dX6_sum_17 (fun h17 => ?_) (fun h17 => ?_)
        · refine go_aload_n 30 dX6_sum_29 rfl ?_
          refine gdX0 33 dX6_sum_30 vX6_69 (cn_next hT r12.1) (fun S30 r30 => ?_) (hdp := by omega)
          refine go_bipush 35 dX6_sum_33 zb_43 ?_
          refine go_icmp_ne 42 38 dX6_sum_35 (fun h35 => ?_) (fun h35 => ?_)
          · exact absurd h1 h35
          · refine go_iconst 39 dX6_sum_38 zc_1 ?_
            refine go_goto 43 dX6_sum_39 ?_
            refine go_istore_n 44 dX6_sum_43 (by decide) ?_
            refine go_aload_n 45 dX6_sum_44 rfl ?_
            refine go_dup 46 dX6_sum_45 rfl ?_
            refine gd_get 49 dX6_sum_46 fX6_48 rfl ?_
            refine go_iconst 50 dX6_sum_49 zc_1 ?_
            refine go_iadd 51 dX6_sum_50 ?_
            refine gd_put 54 dX6_sum_51 pX6_48 rfl (by decide) ?_
            refine go_aload_n 55 dX6_sum_54 rfl ?_
            refine gdX0v 58 dX6_sum_55 vX6_129 (hF _ (sp B (q + 1)) cs (r30.inc hlt) (by have : q + 1 ≤ sp B (q + 1) := sp_ge; omega)) (fun S55 r55 => ?_) (hdp := by omega)
            cases hfr : F (sp B (q + 1), cs) with
            | inl e =>
              rw [hfr] at r55
              have r55 : RPe S0 S55 e := r55
              refine go_aload_n 59 dX6_sum_58 rfl ?_
              refine go_iload_n 60 dX6_sum_59 rfl ?_
              refine go_if_eq 67 63 dX6_sum_60 (fun h60 => ?_) (fun h60 => ?_)
              · exact absurd h60 (by decide)
              · refine go_iconst 64 dX6_sum_63 zc_2 ?_
                refine go_goto 68 dX6_sum_64 ?_
                refine gdV1v 71 dX6_sum_68 vX6_123 (ct_X6_emit_n r55.no) ?_ (hdp := by omega)
                refine go_goto 4 dX6_sum_71 ?_
                exact go_locals [(0, .ref o)] rfl (lp_X6_sum_bad r55 hds h4 (by rw [hfx, hfr]))
            | inr x =>
              rw [hfr] at r55
              have r55 : RPs B n S0 S55 x.1 G (encs x.2) ne sn := r55
              obtain ⟨b1, b2, b3, ad, b4, b5, b6, b7⟩ := hG (sp B (q + 1), cs) x (sp_le hT hlt) hfr
              have b1 : sp B (q + 1) < x.1 := b1
              have b4 : x.2 = cs ++ ad := b4
              have b6 : 2 * (encs ad).length + 3 * sp B (q + 1) ≤ 3 * x.1 + 1 := b6
              have b8 : q + 1 ≤ sp B (q + 1) := sp_ge
              have b9 : (encs x.2).length = (encs cs).length + (encs ad).length := by rw [b4, encs_app, List.length_append]
              have hlen : (encs x.2).length < 1000 := by omega
              refine go_aload_n 59 dX6_sum_58 rfl ?_
              refine go_iload_n 60 dX6_sum_59 rfl ?_
              refine go_if_eq 67 63 dX6_sum_60 (fun h60 => ?_) (fun h60 => ?_)
              · exact absurd h60 (by decide)
              · refine go_iconst 64 dX6_sum_63 zc_2 ?_
                refine go_goto 68 dX6_sum_64 ?_
                refine gdX1v 71 dX6_sum_68 vX6_123 (cn_emit r55 hlen) (fun S68 r68 => ?_) (hdp := by omega)
                refine go_goto 4 dX6_sum_71 ?_
                rw [show encs x.2 ++ [2] = encs (x.2 ++ [-5]) by rw [encs_app, encs_one]; rfl] at r68
                rw [show opL B 43 45 (-5) (-6) F (f + 1) (q, cs) = opL B 43 45 (-5) (-6) F f (x.1, x.2 ++ [-5]) by rw [hfx, hfr]]
                exact go_locals [(0, .ref o)] rfl (ih S68 x.1 (x.2 ++ [-5]) (by omega) r68 (by rw [encs_app, encs_one, List.length_append]; show 2 * (_ + 1) ≤ _; omega))
        · exact (h17 h1).elim
    · have hn1 := h1
      by_cases h1 : B q = 45
      · have hlt : q < n := lt_of_B hT (by rw [h1]; decide)
        have hfx : opL B 43 45 (-5) (-6) F (f + 1) (q, cs) = (match F (sp B (q + 1), cs) with
          | .inl e => .inl e
          | .inr s2 => opL B 43 45 (-5) (-6) F f (s2.1, s2.2 ++ [-6])) := by
          rw [opL, if_pos (show B (q, cs).1 = 43 ∨ B (q, cs).1 = 45 from Or.inr h1), if_neg (show ¬ B (q, cs).1 = 43 from hn1)]
          rfl
        refine go_aload_n 5 dX6_sum_4 rfl ?_
        refine gdV0 8 dX6_sum_5 vX6_65 (ct_X6_isGood_y h.2.1) ?_ (hdp := by omega)
        refine go_if_eq 74 11 dX6_sum_8 (fun h8 => ?_) (fun h8 => ?_)
        · exact absurd h8 (by decide)
        · refine go_aload_n 12 dX6_sum_11 rfl ?_
          refine gdX0 15 dX6_sum_12 vX6_69 (cn_next hT h) (fun S12 r12 => ?_) (hdp := by omega)
          refine go_bipush 17 dX6_sum_15 zb_43 ?_
          refine go_icmp_eq 29 20 dX6_sum_17 (fun h17 => ?_) (fun h17 => ?_)
          · exact (hn1 h17).elim
          · refine go_aload_n 21 dX6_sum_20 rfl ?_
            refine gdX0 24 dX6_sum_21 vX6_69 (cn_next hT r12.1) (fun S21 r21 => ?_) (hdp := by omega)
            refine go_bipush 26 dX6_sum_24 zb_45 ?_
            refine go_icmp_ne 74 29 dX6_sum_26 (fun h26 => ?_) (fun h26 => ?_)
            · exact absurd h1 h26
            · refine go_aload_n 30 dX6_sum_29 rfl ?_
              refine gdX0 33 dX6_sum_30 vX6_69 (cn_next hT r21.1) (fun S30 r30 => ?_) (hdp := by omega)
              refine go_bipush 35 dX6_sum_33 zb_43 ?_
              refine go_icmp_ne 42 38 dX6_sum_35 (fun h35 => ?_) (fun h35 => ?_)
              · refine go_iconst 43 dX6_sum_42 zc_0 ?_
                refine go_istore_n 44 dX6_sum_43 (by decide) ?_
                refine go_aload_n 45 dX6_sum_44 rfl ?_
                refine go_dup 46 dX6_sum_45 rfl ?_
                refine gd_get 49 dX6_sum_46 fX6_48 rfl ?_
                refine go_iconst 50 dX6_sum_49 zc_1 ?_
                refine go_iadd 51 dX6_sum_50 ?_
                refine gd_put 54 dX6_sum_51 pX6_48 rfl (by decide) ?_
                refine go_aload_n 55 dX6_sum_54 rfl ?_
                refine gdX0v 58 dX6_sum_55 vX6_129 (hF _ (sp B (q + 1)) cs (r30.inc hlt) (by have : q + 1 ≤ sp B (q + 1) := sp_ge; omega)) (fun S55 r55 => ?_) (hdp := by omega)
                cases hfr : F (sp B (q + 1), cs) with
                | inl e =>
                  rw [hfr] at r55
                  have r55 : RPe S0 S55 e := r55
                  refine go_aload_n 59 dX6_sum_58 rfl ?_
                  refine go_iload_n 60 dX6_sum_59 rfl ?_
                  refine go_if_eq 67 63 dX6_sum_60 (fun h60 => ?_) (fun h60 => ?_)
                  · refine go_iconst 68 dX6_sum_67 zc_3 ?_
                    refine gdV1v 71 dX6_sum_68 vX6_123 (ct_X6_emit_n r55.no) ?_ (hdp := by omega)
                    refine go_goto 4 dX6_sum_71 ?_
                    exact go_locals [(0, .ref o)] rfl (lp_X6_sum_bad r55 hds h4 (by rw [hfx, hfr]))
                  · exact absurd h60 (by decide)
                | inr x =>
                  rw [hfr] at r55
                  have r55 : RPs B n S0 S55 x.1 G (encs x.2) ne sn := r55
                  obtain ⟨b1, b2, b3, ad, b4, b5, b6, b7⟩ := hG (sp B (q + 1), cs) x (sp_le hT hlt) hfr
                  have b1 : sp B (q + 1) < x.1 := b1
                  have b4 : x.2 = cs ++ ad := b4
                  have b6 : 2 * (encs ad).length + 3 * sp B (q + 1) ≤ 3 * x.1 + 1 := b6
                  have b8 : q + 1 ≤ sp B (q + 1) := sp_ge
                  have b9 : (encs x.2).length = (encs cs).length + (encs ad).length := by rw [b4, encs_app, List.length_append]
                  have hlen : (encs x.2).length < 1000 := by omega
                  refine go_aload_n 59 dX6_sum_58 rfl ?_
                  refine go_iload_n 60 dX6_sum_59 rfl ?_
                  refine go_if_eq 67 63 dX6_sum_60 (fun h60 => ?_) (fun h60 => ?_)
                  · refine go_iconst 68 dX6_sum_67 zc_3 ?_
                    refine gdX1v 71 dX6_sum_68 vX6_123 (cn_emit r55 hlen) (fun S68 r68 => ?_) (hdp := by omega)
                    refine go_goto 4 dX6_sum_71 ?_
                    rw [show encs x.2 ++ [3] = encs (x.2 ++ [-6]) by rw [encs_app, encs_one]; rfl] at r68
                    rw [show opL B 43 45 (-5) (-6) F (f + 1) (q, cs) = opL B 43 45 (-5) (-6) F f (x.1, x.2 ++ [-6]) by rw [hfx, hfr]]
                    exact go_locals [(0, .ref o)] rfl (ih S68 x.1 (x.2 ++ [-6]) (by omega) r68 (by rw [encs_app, encs_one, List.length_append]; show 2 * (_ + 1) ≤ _; omega))
                  · exact absurd h60 (by decide)
              · exact (hn1 (by first | exact h35 | exact Classical.not_not.mp h35)).elim
      · have hn2 := h1
        have hfx : opL B 43 45 (-5) (-6) F (f + 1) (q, cs) = .inr (q, cs) := by
          rw [opL, if_neg (show ¬ (B (q, cs).1 = 43 ∨ B (q, cs).1 = 45) from fun z => z.elim hn1 hn2)]
        refine go_aload_n 5 dX6_sum_4 rfl ?_
        refine gdV0 8 dX6_sum_5 vX6_65 (ct_X6_isGood_y h.2.1) ?_ (hdp := by omega)
        refine go_if_eq 74 11 dX6_sum_8 (fun h8 => ?_) (fun h8 => ?_)
        · exact absurd h8 (by decide)
        · refine go_aload_n 12 dX6_sum_11 rfl ?_
          refine gdX0 15 dX6_sum_12 vX6_69 (cn_next hT h) (fun S12 r12 => ?_) (hdp := by omega)
          refine go_bipush 17 dX6_sum_15 zb_43 ?_
          refine go_icmp_eq 29 20 dX6_sum_17 (fun h17 => ?_) (fun h17 => ?_)
          · exact (hn1 h17).elim
          · refine go_aload_n 21 dX6_sum_20 rfl ?_
            refine gdX0 24 dX6_sum_21 vX6_69 (cn_next hT r12.1) (fun S21 r21 => ?_) (hdp := by omega)
            refine go_bipush 26 dX6_sum_24 zb_45 ?_
            refine go_icmp_ne 74 29 dX6_sum_26 (fun h26 => ?_) (fun h26 => ?_)
            · exact go_return dX6_sum_74 rfl (by omega) (by omega) (⟨rfl, S21, rfl, by rw [hfx]; exact r21.1⟩)
            · exact (hn2 (by first | exact h26 | exact Classical.not_not.mp h26)).elim

noncomputable def smg (B : ZB) (F : XS → PR XS) (s : XS) : PR XS := match F s with
  | .inl e => .inl e
  | .inr s2 => opL B 43 45 (-5) (-6) F 601 s2

set_option maxRecDepth 100000 in
set_option maxHeartbeats 4000000 in
theorem cx_X6_sum {l : Launch} {Γ : ZG} {w : ZW} {o : Nat} {D : ZD} {B : ZB} {n : Nat} {S0 : MS} {G : ZD} {ne sn : Nat} (hT : TB B n) {F : XS → PR XS} {k ds : Nat} (hG : Gd B n k 0 F) (hF : ∀ (S : MS) (q : Nat) (cs : List Int32), RPs B n S0 S q G (encs cs) ne sn → 2 * (encs cs).length ≤ 3 * q → Ct l Γ mX6_term ds 0 0 [.ref o] (wD Γ w o S D) (Pv Γ w o D none (fun S' => RXr B n S0 S' G ne sn (F (q, cs)))) zNo) {dp : Nat} (hds : ds + 1 ≤ dp) (h4 : 4 ≤ dp) {S : MS} {q : Nat} {cs : List Int32} (h : RPs B n S0 S q G (encs cs) ne sn) (hl : 2 * (encs cs).length ≤ 3 * q) : Ct l Γ mX6_sum dp 0 0 [.ref o] (wD Γ w o S D) (Pv Γ w o D none (fun S' => RXr B n S0 S' G ne sn (smg B F (q, cs)))) zNo := by
  refine Ct.of (by decide) rfl (Nat.le_of_ble_eq_true rfl) ?_
  refine go_aload_n 1 dX6_sum_0 rfl ?_
  refine gdX0v 4 dX6_sum_1 vX6_129 (hF S q cs h hl) (fun S1 r1 => ?_) (hdp := by omega)
  have hfx : smg B F (q, cs) = (match F (q, cs) with
    | .inl e => .inl e
    | .inr s2 => opL B 43 45 (-5) (-6) F 601 s2) := rfl
  cases hfr : F (q, cs) with
  | inl e =>
    rw [hfr] at r1
    have r1 : RPe S0 S1 e := r1
    exact go_locals [(0, .ref o)] rfl (lp_X6_sum_bad r1 hds h4 (by rw [hfx, hfr]))
  | inr x =>
    rw [hfr] at r1
    have r1 : RPs B n S0 S1 x.1 G (encs x.2) ne sn := r1
    obtain ⟨b1, b2, b3, ad, b4, b5, b6, b7⟩ := hG (q, cs) x (h.qn hT).1 hfr
    have b1 : q < x.1 := b1
    have b4 : x.2 = cs ++ ad := b4
    have b6 : 2 * (encs ad).length + 3 * q ≤ 3 * x.1 + 1 := b6
    have b9 : (encs x.2).length = (encs cs).length + (encs ad).length := by rw [b4, encs_app, List.length_append]
    rw [show smg B F (q, cs) = opL B 43 45 (-5) (-6) F 601 (x.1, x.2) by rw [hfx, hfr]]
    exact go_locals [(0, .ref o)] rfl (lp_X6_sum hT hG hF hds h4 601 S1 x.1 x.2 (by have := hT.1; omega) r1 (by omega))

theorem smg_trm {B : ZB} {F : XS → PR XS} : smg B (trm B F) = smm B F := rfl
/-- factors, and sums, of any depth -/
theorem cx_fac {l : Launch} {Γ : ZG} {w : ZW} {o : Nat} {D : ZD} {B : ZB} {n : Nat} {S0 : MS} {G : ZD} {sn : Nat} (hT : TB B n) : ∀ (d ne : Nat), d + ne = 4 → ∀ (S : MS) (q : Nat) (cs : List Int32), RPs B n S0 S q G (encs cs) ne sn → 2 * (encs cs).length ≤ 3 * q → Ct l Γ mX6_factor (8 + 3 * d) 0 0 [.ref o] (wD Γ w o S D) (Pv Γ w o D none (fun S' => RXr B n S0 S' G ne sn (fac B d (q, cs)))) zNo := by
  intro d
  induction d with
  | zero =>
    intro ne hne S q cs h hl
    exact cx_facS hT (by omega) h hl (Or.inl ⟨rfl, by omega⟩)
  | succ d ih =>
    intro ne hne S q cs h hl
    refine cx_facS hT (by omega) h hl (Or.inr ⟨smm B (fac B d), 8 + 3 * d + 2, rfl, by omega, by omega, fun S q cs h hl => ?_⟩)
    rw [← smg_trm]
    exact cx_X6_sum hT (trm_ok hT (fac_ok hT d)) (fun S q cs h hl => cx_X6_term hT (fac_ok hT d) (ih (ne + 1) (by omega)) (Nat.le_refl _) (by omega) h hl) (Nat.le_refl _) (by omega) h hl
theorem cx_sum {l : Launch} {Γ : ZG} {w : ZW} {o : Nat} {D : ZD} {B : ZB} {n : Nat} {S0 : MS} {G : ZD} {sn : Nat} (hT : TB B n) {S : MS} {q : Nat} {cs : List Int32} (h : RPs B n S0 S q G (encs cs) 0 sn) (hl : 2 * (encs cs).length ≤ 3 * q) : Ct l Γ mX6_sum 22 0 0 [.ref o] (wD Γ w o S D) (Pv Γ w o D none (fun S' => RXr B n S0 S' G 0 sn (smm B (fac B 4) (q, cs)))) zNo := by
  rw [← smg_trm]
  exact cx_X6_sum hT (trm_ok hT (fac_ok hT 4)) (fun S q cs h hl => cx_X6_term hT (fac_ok hT 4) (cx_fac hT 4 0 rfl) (Nat.le_refl _) (by omega) h hl) (Nat.le_refl _) (by omega) h hl
end MPx
