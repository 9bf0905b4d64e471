section CXpr
/-! ring expressions, as the class reads them *)-/
def FrX (R0 R : RS) : Prop := R.2.1 = R0.2.1 ∧ R.2.2.1 = R0.2.2.1 ∧ ∀ j, j = 1 ∨ j = 5 ∨ j = 10 ∨ j = 11 ∨ j = 12 → R.1 j = R0.1 j
def OkX (B : ZB) (n : Nat) (R0 R : RS) (q : Nat) (cs : List Int32) (dd : Nat) : Prop := FrX R0 R ∧ At B n R q ∧ q ≤ n ∧ R.1 13 = 0 ∧ R.1 14 = -1 ∧ R.1 4 = nI cs.length ∧ cs.length + dd ≤ q ∧ ∀ j, j < cs.length → R.2.2.2 j = cs.getD j 0
def ErX (B : ZB) (n : Nat) (R0 R : RS) (e : Int32 × Nat) : Prop := FrX R0 R ∧ (∃ q, q ≤ n ∧ At B n R q) ∧ R.1 13 = e.1 ∧ e.1 ≠ 0 ∧ R.1 14 = nI e.2 ∧ ∃ m, m ≤ 600 ∧ R.1 4 = nI m
def ResX (B : ZB) (n : Nat) (R0 : RS) (dd : Nat) (pr : PR XS) (R : RS) : Prop := match pr with
  | .inl e => ErX B n R0 R e
  | .inr s => OkX B n R0 R s.1 s.2 dd
def PvX (Γ : ZG) (w : ZW) (r : Nat) (P : RS → Prop) : Option Value → ZW → Prop := fun v w2 => v = none ∧ ∃ R', w2 = wZ Γ w r R' ∧ P R'
section
variable {B : ZB} {n q : Nat} {R0 R R1 : RS} {cs : List Int32} {dd : Nat} {e : Int32 × Nat}
theorem rF_s {j : Nat} {v : Int32} : (rF R j v).1 j = v := pk_us
theorem rF_n {i j : Nat} {v : Int32} (h : i ≠ j) : (rF R j v).1 i = R.1 i := pk_un h
theorem FrX.rf : FrX R0 R0 := ⟨rfl, rfl, fun _ _ => rfl⟩
theorem FrX.trans (h : FrX R0 R) (h2 : FrX R R1) : FrX R0 R1 := ⟨h2.1.trans h.1, h2.2.1.trans h.2.1, fun j hj => (h2.2.2 j hj).trans (h.2.2 j hj)⟩
theorem fr_tok : FrX R (tokR B n R q) := ⟨rfl, rfl, fun j hj => tok_o (by omega)⟩
theorem fr_fail {c : Int32} : FrX R (failC R c) := ⟨by rw [fail_snd], by rw [fail_snd], fun j hj => fail_j (by omega)⟩
theorem fr_add {m : Nat} {c : Int32} : FrX R (addR R m c) := by
  unfold addR
  split
  · exact ⟨rfl, rfl, fun j hj => pk_un (by omega)⟩
  · exact FrX.rf
theorem OkX.len (h : OkX B n R0 R q cs dd) (hn : R0.1 5 = nI n) : R.1 5 = nI n := (h.1.2.2 5 (Or.inr (Or.inl rfl))).trans hn
theorem OkX.txt (h : OkX B n R0 R q cs dd) (hB : BB R0.2.1 n = B) : BB R.2.1 n = B := by rw [h.1.1]; exact hB
theorem ErX.len (h : ErX B n R0 R e) (hn : R0.1 5 = nI n) : R.1 5 = nI n := (h.1.2.2 5 (Or.inr (Or.inl rfl))).trans hn
theorem ErX.txt (h : ErX B n R0 R e) (hB : BB R0.2.1 n = B) : BB R.2.1 n = B := by rw [h.1.1]; exact hB
theorem OkX.tok (h : OkX B n R0 R q cs dd) {q2 d2 : Nat} (h2 : q2 ≤ n) (h3 : cs.length + d2 ≤ q2) : OkX B n R0 (tokR B n R q2) q2 cs d2 :=
  ⟨h.1.trans fr_tok, tok_At, h2, (tok_o (by decide)).trans h.2.2.2.1, (tok_o (by decide)).trans h.2.2.2.2.1, (tok_o (by decide)).trans h.2.2.2.2.2.1, h3, h.2.2.2.2.2.2.2⟩
theorem add_cells {c : Int32} {cd : ZD} (h : ∀ j, j < cs.length → cd j = cs.getD j 0) : ∀ j, j < (cs ++ [c]).length → upd cd cs.length c j = (cs ++ [c]).getD j 0 := fun j hj => by
  have hl : (cs ++ [c]).length = cs.length + 1 := List.length_append
  rw [hl] at hj
  by_cases e : j = cs.length
  · subst e
    rw [pk_us]
    simp
  · rw [pk_un e, h j (by omega)]
    simp [List.getD_eq_getElem?_getD, List.getElem?_append_left (show j < cs.length by omega)]
theorem OkX.add (h : OkX B n R0 R q cs (dd + 1)) (hT : TB B n) {c : Int32} : OkX B n R0 (addR R cs.length c) q (cs ++ [c]) dd := by
  have hl : (cs ++ [c]).length = cs.length + 1 := List.length_append
  have h6 : cs.length < 600 := by have := h.2.2.2.2.2.2.1; have := h.2.2.1; have := hT.1; omega
  refine ⟨h.1.trans fr_add, h.2.1.add, h.2.2.1, (add_j (by decide)).trans h.2.2.2.1, (add_j (by decide)).trans h.2.2.2.2.1, ?_, by rw [hl]; have := h.2.2.2.2.2.2.1; omega, ?_⟩
  · unfold addR
    rw [if_pos h6, hl]
    exact rF_s
  · unfold addR
    rw [if_pos h6]
    exact add_cells h.2.2.2.2.2.2.2
theorem OkX.fail (h : OkX B n R0 R q cs dd) (hT : TB B n) {c : Int32} (hc : c ≠ 0) : ErX B n R0 (failC R c) (c, q) := by
  have e : failC R c = rF (rF R 13 c) 14 (R.1 8) := if_pos h.2.2.2.1
  refine ⟨h.1.trans fr_fail, ⟨q, h.2.2.1, h.2.1.fail⟩, ?_, hc, ?_, cs.length, by have := h.2.2.2.2.2.2.1; have := h.2.2.1; have := hT.1; omega, (fail_j (by decide)).trans h.2.2.2.2.2.1⟩
  · rw [e]
    exact (rF_n (by decide)).trans rF_s
  · rw [e]
    exact rF_s.trans h.2.1.1
theorem ErX.tok (h : ErX B n R0 R e) {q2 : Nat} (h2 : q2 ≤ n) : ErX B n R0 (tokR B n R q2) e := by
  obtain ⟨a, -, c, d, f, m, g1, g2⟩ := h
  exact ⟨a.trans fr_tok, ⟨q2, h2, tok_At⟩, (tok_o (by decide)).trans c, d, (tok_o (by decide)).trans f, m, g1, (tok_o (by decide)).trans g2⟩
theorem ErX.fail (h : ErX B n R0 R e) {c : Int32} : failC R c = R := if_neg (by rw [h.2.2.1]; exact h.2.2.2.1)
theorem ErX.add (h : ErX B n R0 R e) {m : Nat} (hm : R.1 4 = nI m) (hm6 : m ≤ 600) {c : Int32} : ErX B n R0 (addR R m c) e := by
  obtain ⟨a, ⟨q, b1, b2⟩, c9, d, f, -⟩ := h
  refine ⟨a.trans fr_add, ⟨q, b1, b2.add⟩, (add_j (by decide)).trans c9, d, (add_j (by decide)).trans f, ?_⟩
  unfold addR
  by_cases h6 : m < 600
  · rw [if_pos h6]
    exact ⟨m + 1, by omega, rF_s⟩
  · rw [if_neg h6]
    exact ⟨m, hm6, hm⟩
/-- numbers in range, and not -/
theorem num_ok (hA : At B n R q) (hd : isD B q = true) {lo hi : Nat} (hlo : lo < 100000) (hhi : hi < 100000) (hv : lo ≤ valN B q ∧ valN B q ≤ hi) : numR R (nI lo) (nI hi) = R ∧ R.1 9 = nI (valN B q) := by
  have e9 : R.1 9 = nI (valN B q) := by rw [hA.2.2.2 hd, Nat.min_eq_right (by omega)]
  refine ⟨?_, e9⟩
  unfold numR
  rw [if_pos (show R.1 7 = 2 from (tk_eq hA (k := 2) (by decide)).mpr (tk_2.mpr hd)), if_neg]
  rw [e9]
  intro z
  rcases z with z | z
  · exact absurd ((nI_ltI (by omega) (by omega)).mp z) (by omega)
  · exact absurd ((nI_ltI (by omega) (by omega)).mp z) (by omega)
theorem num_bad (hA : At B n R q) (hd : isD B q = true) {lo hi : Nat} (hlo : lo < 100000) (hhi : hi < 100000) (hv : ¬ (lo ≤ valN B q ∧ valN B q ≤ hi)) : numR R (nI lo) (nI hi) = failC R (-3) := by
  unfold numR
  rw [if_pos (show R.1 7 = 2 from (tk_eq hA (k := 2) (by decide)).mpr (tk_2.mpr hd)), if_pos]
  rw [hA.2.2.2 hd]
  by_cases h1 : lo ≤ valN B q
  · have h2 : hi < valN B q := Nat.lt_of_not_le fun z => hv ⟨h1, z⟩
    exact Or.inr (nI_lt (by omega) (by omega))
  · exact Or.inl (nI_lt (by omega) (by omega))
theorem num_nd (hA : At B n R q) (hd : isD B q = false) {lo hi : Int32} : numR R lo hi = failC R (-2) := by
  unfold numR
  rw [if_neg fun z => by
    have := tk_2.mp ((tk_eq hA (k := 2) (by decide)).mp z)
    rw [hd] at this
    exact absurd this (by decide)]
theorem ps_sgn (hT : TB B n) {c : Int32} (hc : Sgn c) (h : B q = c) : ps B n q = q + 1 ∧ q < n := by
  have hq : q < n := lt_of_B hT (by rw [h]; exact hc.1)
  refine ⟨?_, hq⟩
  unfold ps
  rw [if_neg (fun z => by have := of_decide_eq_true z; rw [h] at this; exact hc.2.1 this), if_neg (fun z => by have := of_decide_eq_true z; rw [h] at this; exact hc.2.2 this), if_pos hq]
theorem ps_wd (hT : TB B n) {w : String} (hw : Ltr w) (h : wd B w q) : ps B n q = q + w.length ∧ isD B q = false ∧ q < n := by
  obtain ⟨h1, h2⟩ := wd_el hT hw h
  have hd : isD B q = false := by
    cases hd : isD B q with
    | false => rfl
    | true => rw [isDL hd] at h2; exact absurd h2 (by decide)
  refine ⟨?_, hd, lt_of_B hT (isL_ne h2)⟩
  unfold ps
  rw [if_neg (by rw [hd]; decide), if_pos h2, h1]
end
section
variable {l : Launch} {Γ : ZG} {M M' : ZM} {dp mc ms d' : Nat} {Φ : Option Value → ZW → Prop} {Ψ : String → ZW → Prop} {k n : Nat} {w : ZW} {pc r : Nat} {L : ZL} {st : List Value} {R : RS} {P : RS → Prop}
theorem gz0v {index : Nat} (pc' : Nat) (hd : decode M.2.1 pc = .ok (.invokevirtual index, 3)) (V : zV M.1.cls index M' 0) (hc : some RX3 = some M'.1.cls) (hct : Ct l Γ M' d' 0 0 [.ref r] (wZ Γ w r R) (PvX Γ w r P) zNo) (kk : ∀ R', P R' → Go l Γ M dp mc ms Φ Ψ k n (wZ Γ w r R') pc' L st) (hdp : d' + 1 ≤ dp) (hL : M'.2.2.1 ≤ 40 := by decide) (hk : k ≤ mc := by omega) (hn : n ≤ ms := by omega) (hst : (st.map fun v => v.category).sum ≤ 8 := by exact Nat.le_of_ble_eq_true rfl) (hp : pc + 3 = pc' := by rfl) : Go l Γ M dp mc ms Φ Ψ k n (wZ Γ w r R) pc L (.ref r :: st) := by
  refine go_callV (As := []) pc' hd V wZ_at0 hc hct hdp hL hk hn hst ?_ hp
  intro v w2 h
  obtain ⟨rfl, R', rfl, hP⟩ := h
  exact kk R' hP
theorem gz1v {index : Nat} {x1 : Value} (pc' : Nat) (hd : decode M.2.1 pc = .ok (.invokevirtual index, 3)) (V : zV M.1.cls index M' 1) (hc : some RX3 = some M'.1.cls) (hct : Ct l Γ M' d' 0 0 [.ref r, x1] (wZ Γ w r R) (PvX Γ w r P) zNo) (kk : ∀ R', P R' → Go l Γ M dp mc ms Φ Ψ k n (wZ Γ w r R') pc' L st) (hdp : d' + 1 ≤ dp) (hL : M'.2.2.1 ≤ 40 := by decide) (hk : k ≤ mc := by omega) (hn : n ≤ ms := by omega) (hst : (st.map fun v => v.category).sum ≤ 8 := by exact Nat.le_of_ble_eq_true rfl) (hp : pc + 3 = pc' := by rfl) : Go l Γ M dp mc ms Φ Ψ k n (wZ Γ w r R) pc L (x1 :: .ref r :: st) := by
  refine go_callV (As := [x1]) pc' hd V wZ_at0 hc hct hdp hL hk hn hst ?_ hp
  intro v w2 h
  obtain ⟨rfl, R', rfl, hP⟩ := h
  exact kk R' hP
end
def FacP (l : Launch) (Γ : ZG) (r : Nat) (B : ZB) (n d : Nat) : Prop := ∀ (w : ZW) (k : Nat) (R0 R : RS) (q : Nat) (cs : List Int32) (dd : Nat), k + d = 4 → R0.1 5 = nI n → BB R0.2.1 n = B → OkX B n R0 R q cs dd → Ct l Γ mX3_readFactor (8 + 3 * d) 0 0 [.ref r, .int (nI k)] (wZ Γ w r R) (PvX Γ w r (ResX B n R0 dd (fac B d (q, cs)))) zNo
def TrmP (l : Launch) (Γ : ZG) (r : Nat) (B : ZB) (n d : Nat) : Prop := ∀ (w : ZW) (k : Nat) (R0 R : RS) (q : Nat) (cs : List Int32) (dd : Nat), k + d = 4 → R0.1 5 = nI n → BB R0.2.1 n = B → OkX B n R0 R q cs dd → Ct l Γ mX3_readTerm (8 + 1 + 3 * d) 0 0 [.ref r, .int (nI k)] (wZ Γ w r R) (PvX Γ w r (ResX B n R0 dd (trm B (fac B d) (q, cs)))) zNo
def SumP (l : Launch) (Γ : ZG) (r : Nat) (B : ZB) (n d : Nat) : Prop := ∀ (w : ZW) (k : Nat) (R0 R : RS) (q : Nat) (cs : List Int32) (dd : Nat), k + d = 4 → R0.1 5 = nI n → BB R0.2.1 n = B → OkX B n R0 R q cs dd → Ct l Γ mX3_readSum (8 + 2 + 3 * d) 0 0 [.ref r, .int (nI k)] (wZ Γ w r R) (PvX Γ w r (ResX B n R0 dd (smm B (fac B d) (q, cs)))) zNo
theorem sg_40 : Sgn 40 := ⟨by decide, by decide, by decide⟩
theorem sg_41 : Sgn 41 := ⟨by decide, by decide, by decide⟩
theorem sg_42 : Sgn 42 := ⟨by decide, by decide, by decide⟩
theorem sg_43 : Sgn 43 := ⟨by decide, by decide, by decide⟩
theorem sg_45 : Sgn 45 := ⟨by decide, by decide, by decide⟩
theorem sg_47 : Sgn 47 := ⟨by decide, by decide, by decide⟩
theorem sg_59 : Sgn 59 := ⟨by decide, by decide, by decide⟩
theorem lt_exchange : Ltr "exchange" := by unfold Ltr; decide +kernel
theorem lt_party : Ltr "party" := by unfold Ltr; decide +kernel
theorem lt_wait : Ltr "wait" := by unfold Ltr; decide +kernel
theorem lt_patience : Ltr "patience" := by unfold Ltr; decide +kernel
theorem lt_ring : Ltr "ring" := by unfold Ltr; decide +kernel
theorem lt_legs : Ltr "legs" := by unfold Ltr; decide +kernel
theorem lt_caller : Ltr "caller" := by unfold Ltr; decide +kernel
theorem lt_referred : Ltr "referred" := by unfold Ltr; decide +kernel
theorem lt_time : Ltr "time" := by unfold Ltr; decide +kernel
set_option maxRecDepth 100000 in
set_option maxHeartbeats 4000000 in
theorem le_X3_readTerm {l : Launch} {Γ : ZG} {w : ZW} {r : Nat} {B : ZB} {n : Nat} {R0 : RS} (hT : TB B n) (hn : R0.1 5 = nI n) (hB : BB R0.2.1 n = B) {d : Nat} {e : Int32 × Nat} {R : RS} {x y : Int32} (h : ErX B n R0 R e) : Go l Γ mX3_readTerm (8 + 1 + 3 * d) 0 0 (PvX Γ w r (fun R' => ErX B n R0 R' e)) zNo 0 0 (wZ Γ w r R) 7 [(0, .ref r), (1, .int y), (2, .int x)] [] := by
  obtain ⟨q9, hq9, hA9⟩ := h.2.1
  refine go_iload_n 8 dX3_readTerm_7 rfl ?_
  refine go_aload_n 9 dX3_readTerm_8 rfl ?_
  refine xs_get 12 dX3_readTerm_9 fX3_30 rfl ?_
  refine go_icmp_ge 77 15 dX3_readTerm_12 (fun h12 => ?_) (fun h12 => ?_)
  · exact go_return dX3_readTerm_77 rfl (by omega) (by omega) (⟨rfl, R, rfl, h⟩)
  · refine go_aload_n 16 dX3_readTerm_15 rfl ?_
    refine go_bipush 18 dX3_readTerm_16 zb_42 ?_
    refine gcV1 21 dX3_readTerm_18 vX3_143 wZ_at0 rfl (ct_X3_atSign (q := q9) (h.len hn) (h.txt hB) hT hA9 hq9 sg_42) ?_ (hdp := by omega)
    refine go_if_ne 33 24 dX3_readTerm_21 (fun h21 => ?_) (fun h21 => ?_)
    · refine go_aload_n 34 dX3_readTerm_33 rfl ?_
      refine xs_get 37 dX3_readTerm_34 fX3_49 rfl ?_
      refine go_if_ne 77 40 dX3_readTerm_37 (fun h37 => ?_) (fun h37 => ?_)
      · exact go_return dX3_readTerm_77 rfl (by omega) (by omega) (⟨rfl, R, rfl, h⟩)
      · exact absurd (by first | exact h37 | exact Classical.not_not.mp h37) (by rw [h.2.2.1]; exact h.2.2.2.1)
    · refine go_aload_n 25 dX3_readTerm_24 rfl ?_
      refine go_bipush 27 dX3_readTerm_25 zb_47 ?_
      refine gcV1 30 dX3_readTerm_27 vX3_143 wZ_at0 rfl (ct_X3_atSign (q := q9) (h.len hn) (h.txt hB) hT hA9 hq9 sg_47) ?_ (hdp := by omega)
      refine go_if_eq 77 33 dX3_readTerm_30 (fun h30 => ?_) (fun h30 => ?_)
      · exact go_return dX3_readTerm_77 rfl (by omega) (by omega) (⟨rfl, R, rfl, h⟩)
      · refine go_aload_n 34 dX3_readTerm_33 rfl ?_
        refine xs_get 37 dX3_readTerm_34 fX3_49 rfl ?_
        refine go_if_ne 77 40 dX3_readTerm_37 (fun h37 => ?_) (fun h37 => ?_)
        · exact go_return dX3_readTerm_77 rfl (by omega) (by omega) (⟨rfl, R, rfl, h⟩)
        · exact absurd (by first | exact h37 | exact Classical.not_not.mp h37) (by rw [h.2.2.1]; exact h.2.2.2.1)
set_option maxRecDepth 100000 in
set_option maxHeartbeats 4000000 in
theorem lp_X3_readTerm {l : Launch} {Γ : ZG} {w : ZW} {r : Nat} {B : ZB} {n : Nat} {R0 : RS} (hT : TB B n) (hn : R0.1 5 = nI n) (hB : BB R0.2.1 n = B) {d k : Nat} (hk : k + d = 4) (hF : FacP l Γ r B n d) (hG : ∀ s s2, s.1 ≤ n → (fac B d) s = .inr s2 → s.1 < s2.1 ∧ s2.1 ≤ n) {dd : Nat} : ∀ (f i : Nat) (R : RS) (q : Nat) (cs : List Int32), OkX B n R0 R q cs dd → i ≤ q → 601 ≤ q + f → Go l Γ mX3_readTerm (8 + 1 + 3 * d) 0 0 (PvX Γ w r (ResX B n R0 dd (opL B 42 47 (-7) (-8) (fac B d) f (q, cs)))) zNo 0 0 (wZ Γ w r R) 7 [(0, .ref r), (1, .int (nI k)), (2, .int (nI i))] [] := by
  have hn6 := hT.1
  intro f
  induction f with
  | zero =>
    intro i R q cs h hi hf
    have := h.2.2.1
    omega
  | succ f ih =>
    intro i R q cs h hi hf
    have hqn := h.2.2.1
    have hlq := h.2.2.2.2.2.2.1
    rcases Classical.em (B q = 42 ∨ B q = 47) with hop | hop
    · have hps : ps B n q = q + 1 ∧ q < n := hop.elim (fun z => ps_sgn hT sg_42 z) (fun z => ps_sgn hT sg_47 z)
      obtain ⟨hps, hqlt⟩ := hps
      have hsn : sp B (q + 1) ≤ n := sp_le hT (by omega)
      have hsg := sp_ge (B := B) (p := q + 1)
      have ok1 : OkX B n R0 (tokR B n R (sp B (q + 1))) (sp B (q + 1)) cs (dd + 1) := h.tok hsn (by omega)
      have k56 : ∀ c9, c9 = (if B q = 42 then (-7 : Int32) else -8) → Go l Γ mX3_readTerm (8 + 1 + 3 * d) 0 0 (PvX Γ w r (ResX B n R0 dd (opL B 42 47 (-7) (-8) (fac B d) (f + 1) (q, cs)))) zNo 0 0 (wZ Γ w r R) 56 [(0, .ref r), (1, .int (nI k)), (2, .int (nI i))] [.int c9] := by
        intro c9 hc9
        refine go_istore_n 57 dX3_readTerm_56 (by decide) ?_
        refine go_aload_n 58 dX3_readTerm_57 rfl ?_
        refine gcV0v 61 dX3_readTerm_58 vX3_58 wZ_at0 rfl (ct_X3_nextToken (p := q + 1) (h.len hn) (h.txt hB) hT (h.2.1.2.2.1.trans (congrArg nI hps)) (by omega)) ?_ (hdp := by omega)
        refine go_aload_n 62 dX3_readTerm_61 rfl ?_
        refine go_iload_n 63 dX3_readTerm_62 rfl ?_
        refine gz1v 66 dX3_readTerm_63 vX3_150 rfl (hF w k R0 _ _ cs (dd + 1) hk hn hB ok1) (fun R2 r2 => ?_) (by omega)
        unfold opL
        rw [if_pos hop]
        cases hr : (fac B d) (sp B (q + 1), cs) with
        | inl e =>
          rw [hr] at r2
          have r2 : ErX B n R0 R2 e := r2
          obtain ⟨m9, hm9, hm8⟩ := r2.2.2.2.2.2
          refine go_aload_n 67 dX3_readTerm_66 rfl ?_
          refine go_iload_n 68 dX3_readTerm_67 rfl ?_
          refine gcV1v 71 dX3_readTerm_68 vX3_147 wZ_at0 rfl (ct_X3_addCode hm8 hm9) ?_ (hdp := by omega)
          refine go_iinc 74 dX3_readTerm_71 rfl (by decide) zc_1 ?_
          refine go_goto 7 dX3_readTerm_74 ?_
          exact go_locals [(0, .ref r), (1, .int (nI k)), (2, .int (nI i + 1))] rfl (le_X3_readTerm hT hn hB (r2.add hm8 hm9))
        | inr s2 =>
          rw [hr] at r2
          have r2 : OkX B n R0 R2 s2.1 s2.2 (dd + 1) := r2
          have hl9 := r2.2.2.2.2.2.2.1
          have hn9 := r2.2.2.1
          refine go_aload_n 67 dX3_readTerm_66 rfl ?_
          refine go_iload_n 68 dX3_readTerm_67 rfl ?_
          refine gcV1v 71 dX3_readTerm_68 vX3_147 wZ_at0 rfl (ct_X3_addCode (m := s2.2.length) r2.2.2.2.2.2.1 (by omega)) ?_ (hdp := by omega)
          refine go_iinc 74 dX3_readTerm_71 rfl (by decide) zc_1 ?_
          refine go_goto 7 dX3_readTerm_74 ?_
          rw [nI_1, hc9]
          have hlt9 := hG (sp B (q + 1), cs) s2 hsn hr
          exact go_locals [(0, .ref r), (1, .int (nI k)), (2, .int (nI (i + 1)))] rfl (ih (i + 1) _ s2.1 (s2.2 ++ [if B q = 42 then -7 else -8]) (r2.add hT) (by have := hlt9.1; omega) (by have := hlt9.1; omega))
      have k33 : Go l Γ mX3_readTerm (8 + 1 + 3 * d) 0 0 (PvX Γ w r (ResX B n R0 dd (opL B 42 47 (-7) (-8) (fac B d) (f + 1) (q, cs)))) zNo 0 0 (wZ Γ w r R) 33 [(0, .ref r), (1, .int (nI k)), (2, .int (nI i))] [] := by
        refine go_aload_n 34 dX3_readTerm_33 rfl ?_
        refine xs_get 37 dX3_readTerm_34 fX3_49 rfl ?_
        refine go_if_ne 77 40 dX3_readTerm_37 (fun h37 => ?_) (fun h37 => ?_)
        · exact absurd h.2.2.2.1 h37
        · refine go_aload_n 41 dX3_readTerm_40 rfl ?_
          refine go_bipush 43 dX3_readTerm_41 zb_42 ?_
          refine gcV1 46 dX3_readTerm_43 vX3_143 wZ_at0 rfl (ct_X3_atSign (q := q) (h.len hn) (h.txt hB) hT h.2.1 h.2.2.1 sg_42) ?_ (hdp := by omega)
          refine go_if_eq 54 49 dX3_readTerm_46 (fun h46 => ?_) (fun h46 => ?_)
          · refine go_bipush 56 dX3_readTerm_54 zb_m8 ?_
            exact go_locals _ rfl (k56 (-8) (by rw [if_neg (zb_0 (by first | exact h46 | exact Classical.not_not.mp h46))]))
          · refine go_bipush 51 dX3_readTerm_49 zb_m7 ?_
            refine go_goto 56 dX3_readTerm_51 ?_
            exact go_locals _ rfl (k56 (-7) (by rw [if_pos (zb_1 h46)]))
      refine go_iload_n 8 dX3_readTerm_7 rfl ?_
      refine go_aload_n 9 dX3_readTerm_8 rfl ?_
      refine xs_get 12 dX3_readTerm_9 fX3_30 rfl ?_
      refine go_icmp_ge 77 15 dX3_readTerm_12 (fun h12 => ?_) (fun h12 => ?_)
      · exact absurd (by have e : R.1 5 ≤ nI i := h12; rw [h.len hn] at e; exact e) (nI_ge (show i < n by omega) (by omega))
      · refine go_aload_n 16 dX3_readTerm_15 rfl ?_
        refine go_bipush 18 dX3_readTerm_16 zb_42 ?_
        refine gcV1 21 dX3_readTerm_18 vX3_143 wZ_at0 rfl (ct_X3_atSign (q := q) (h.len hn) (h.txt hB) hT h.2.1 h.2.2.1 sg_42) ?_ (hdp := by omega)
        refine go_if_ne 33 24 dX3_readTerm_21 (fun h21 => ?_) (fun h21 => ?_)
        · exact go_locals _ rfl k33
        · refine go_aload_n 25 dX3_readTerm_24 rfl ?_
          refine go_bipush 27 dX3_readTerm_25 zb_47 ?_
          refine gcV1 30 dX3_readTerm_27 vX3_143 wZ_at0 rfl (ct_X3_atSign (q := q) (h.len hn) (h.txt hB) hT h.2.1 h.2.2.1 sg_47) ?_ (hdp := by omega)
          refine go_if_eq 77 33 dX3_readTerm_30 (fun h30 => ?_) (fun h30 => ?_)
          · exact (hop.elim (fun z => zb_0 (by first | exact h21 | exact Classical.not_not.mp h21) z) (fun z => zb_0 (by first | exact h30 | exact Classical.not_not.mp h30) z)).elim
          · exact go_locals _ rfl k33
    · have he0 : opL B 42 47 (-7) (-8) (fac B d) (f + 1) (q, cs) = .inr (q, cs) := if_neg hop
      refine go_iload_n 8 dX3_readTerm_7 rfl ?_
      refine go_aload_n 9 dX3_readTerm_8 rfl ?_
      refine xs_get 12 dX3_readTerm_9 fX3_30 rfl ?_
      refine go_icmp_ge 77 15 dX3_readTerm_12 (fun h12 => ?_) (fun h12 => ?_)
      · exact go_return dX3_readTerm_77 rfl (by omega) (by omega) (⟨rfl, R, rfl, by rw [he0]; exact h⟩)
      · refine go_aload_n 16 dX3_readTerm_15 rfl ?_
        refine go_bipush 18 dX3_readTerm_16 zb_42 ?_
        refine gcV1 21 dX3_readTerm_18 vX3_143 wZ_at0 rfl (ct_X3_atSign (q := q) (h.len hn) (h.txt hB) hT h.2.1 h.2.2.1 sg_42) ?_ (hdp := by omega)
        refine go_if_ne 33 24 dX3_readTerm_21 (fun h21 => ?_) (fun h21 => ?_)
        · exact absurd (Or.inl (zb_1 h21)) hop
        · refine go_aload_n 25 dX3_readTerm_24 rfl ?_
          refine go_bipush 27 dX3_readTerm_25 zb_47 ?_
          refine gcV1 30 dX3_readTerm_27 vX3_143 wZ_at0 rfl (ct_X3_atSign (q := q) (h.len hn) (h.txt hB) hT h.2.1 h.2.2.1 sg_47) ?_ (hdp := by omega)
          refine go_if_eq 77 33 dX3_readTerm_30 (fun h30 => ?_) (fun h30 => ?_)
          · exact go_return dX3_readTerm_77 rfl (by omega) (by omega) (⟨rfl, R, rfl, by rw [he0]; exact h⟩)
          · exact absurd (Or.inr (zb_1 h30)) hop
set_option maxRecDepth 100000 in
set_option maxHeartbeats 4000000 in
theorem ct_X3_readTerm {l : Launch} {Γ : ZG} {r : Nat} {B : ZB} {n : Nat} (hT : TB B n) {d : Nat} (hF : FacP l Γ r B n d) (hG : ∀ s s2, s.1 ≤ n → (fac B d) s = .inr s2 → s.1 < s2.1 ∧ s2.1 ≤ n) : TrmP l Γ r B n d := by
  intro w k R0 R q cs dd hk hn hB h
  refine Ct.of (by decide) rfl (Nat.le_of_ble_eq_true rfl) ?_
  refine go_aload_n 1 dX3_readTerm_0 rfl ?_
  refine go_iload_n 2 dX3_readTerm_1 rfl ?_
  refine gz1v 5 dX3_readTerm_2 vX3_150 rfl (hF w k R0 R q cs dd hk hn hB h) (fun R2 r2 => ?_) (by omega)
  refine go_iconst 6 dX3_readTerm_5 zc_0 ?_
  refine go_istore_n 7 dX3_readTerm_6 (by decide) ?_
  unfold trm
  cases hr : (fac B d) (q, cs) with
  | inl e =>
    rw [hr] at r2
    exact go_locals [(0, .ref r), (1, .int (nI k)), (2, .int 0)] rfl (le_X3_readTerm hT hn hB r2)
  | inr s2 =>
    rw [hr] at r2
    exact go_locals [(0, .ref r), (1, .int (nI k)), (2, .int (nI 0))] rfl (lp_X3_readTerm hT hn hB hk hF hG 601 0 R2 s2.1 s2.2 r2 (Nat.zero_le _) (by omega))
set_option maxRecDepth 100000 in
set_option maxHeartbeats 4000000 in
theorem le_X3_readSum {l : Launch} {Γ : ZG} {w : ZW} {r : Nat} {B : ZB} {n : Nat} {R0 : RS} (hT : TB B n) (hn : R0.1 5 = nI n) (hB : BB R0.2.1 n = B) {d : Nat} {e : Int32 × Nat} {R : RS} {x y : Int32} (h : ErX B n R0 R e) : Go l Γ mX3_readSum (8 + 2 + 3 * d) 0 0 (PvX Γ w r (fun R' => ErX B n R0 R' e)) zNo 0 0 (wZ Γ w r R) 7 [(0, .ref r), (1, .int y), (2, .int x)] [] := by
  obtain ⟨q9, hq9, hA9⟩ := h.2.1
  refine go_iload_n 8 dX3_readSum_7 rfl ?_
  refine go_aload_n 9 dX3_readSum_8 rfl ?_
  refine xs_get 12 dX3_readSum_9 fX3_30 rfl ?_
  refine go_icmp_ge 77 15 dX3_readSum_12 (fun h12 => ?_) (fun h12 => ?_)
  · exact go_return dX3_readSum_77 rfl (by omega) (by omega) (⟨rfl, R, rfl, h⟩)
  · refine go_aload_n 16 dX3_readSum_15 rfl ?_
    refine go_bipush 18 dX3_readSum_16 zb_43 ?_
    refine gcV1 21 dX3_readSum_18 vX3_143 wZ_at0 rfl (ct_X3_atSign (q := q9) (h.len hn) (h.txt hB) hT hA9 hq9 sg_43) ?_ (hdp := by omega)
    refine go_if_ne 33 24 dX3_readSum_21 (fun h21 => ?_) (fun h21 => ?_)
    · refine go_aload_n 34 dX3_readSum_33 rfl ?_
      refine xs_get 37 dX3_readSum_34 fX3_49 rfl ?_
      refine go_if_ne 77 40 dX3_readSum_37 (fun h37 => ?_) (fun h37 => ?_)
      · exact go_return dX3_readSum_77 rfl (by omega) (by omega) (⟨rfl, R, rfl, h⟩)
      · exact absurd (by first | exact h37 | exact Classical.not_not.mp h37) (by rw [h.2.2.1]; exact h.2.2.2.1)
    · refine go_aload_n 25 dX3_readSum_24 rfl ?_
      refine go_bipush 27 dX3_readSum_25 zb_45 ?_
      refine gcV1 30 dX3_readSum_27 vX3_143 wZ_at0 rfl (ct_X3_atSign (q := q9) (h.len hn) (h.txt hB) hT hA9 hq9 sg_45) ?_ (hdp := by omega)
      refine go_if_eq 77 33 dX3_readSum_30 (fun h30 => ?_) (fun h30 => ?_)
      · exact go_return dX3_readSum_77 rfl (by omega) (by omega) (⟨rfl, R, rfl, h⟩)
      · refine go_aload_n 34 dX3_readSum_33 rfl ?_
        refine xs_get 37 dX3_readSum_34 fX3_49 rfl ?_
        refine go_if_ne 77 40 dX3_readSum_37 (fun h37 => ?_) (fun h37 => ?_)
        · exact go_return dX3_readSum_77 rfl (by omega) (by omega) (⟨rfl, R, rfl, h⟩)
        · exact absurd (by first | exact h37 | exact Classical.not_not.mp h37) (by rw [h.2.2.1]; exact h.2.2.2.1)
set_option maxRecDepth 100000 in
set_option maxHeartbeats 4000000 in
theorem lp_X3_readSum {l : Launch} {Γ : ZG} {w : ZW} {r : Nat} {B : ZB} {n : Nat} {R0 : RS} (hT : TB B n) (hn : R0.1 5 = nI n) (hB : BB R0.2.1 n = B) {d k : Nat} (hk : k + d = 4) (hF : TrmP l Γ r B n d) (hG : ∀ s s2, s.1 ≤ n → (trm B (fac B d)) s = .inr s2 → s.1 < s2.1 ∧ s2.1 ≤ n) {dd : Nat} : ∀ (f i : Nat) (R : RS) (q : Nat) (cs : List Int32), OkX B n R0 R q cs dd → i ≤ q → 601 ≤ q + f → Go l Γ mX3_readSum (8 + 2 + 3 * d) 0 0 (PvX Γ w r (ResX B n R0 dd (opL B 43 45 (-5) (-6) (trm B (fac B d)) f (q, cs)))) zNo 0 0 (wZ Γ w r R) 7 [(0, .ref r), (1, .int (nI k)), (2, .int (nI i))] [] := by
  have hn6 := hT.1
  intro f
  induction f with
  | zero =>
    intro i R q cs h hi hf
    have := h.2.2.1
    omega
  | succ f ih =>
    intro i R q cs h hi hf
    have hqn := h.2.2.1
    have hlq := h.2.2.2.2.2.2.1
    rcases Classical.em (B q = 43 ∨ B q = 45) with hop | hop
    · have hps : ps B n q = q + 1 ∧ q < n := hop.elim (fun z => ps_sgn hT sg_43 z) (fun z => ps_sgn hT sg_45 z)
      obtain ⟨hps, hqlt⟩ := hps
      have hsn : sp B (q + 1) ≤ n := sp_le hT (by omega)
      have hsg := sp_ge (B := B) (p := q + 1)
      have ok1 : OkX B n R0 (tokR B n R (sp B (q + 1))) (sp B (q + 1)) cs (dd + 1) := h.tok hsn (by omega)
      have k56 : ∀ c9, c9 = (if B q = 43 then (-5 : Int32) else -6) → Go l Γ mX3_readSum (8 + 2 + 3 * d) 0 0 (PvX Γ w r (ResX B n R0 dd (opL B 43 45 (-5) (-6) (trm B (fac B d)) (f + 1) (q, cs)))) zNo 0 0 (wZ Γ w r R) 56 [(0, .ref r), (1, .int (nI k)), (2, .int (nI i))] [.int c9] := by
        intro c9 hc9
        refine go_istore_n 57 dX3_readSum_56 (by decide) ?_
        refine go_aload_n 58 dX3_readSum_57 rfl ?_
        refine gcV0v 61 dX3_readSum_58 vX3_58 wZ_at0 rfl (ct_X3_nextToken (p := q + 1) (h.len hn) (h.txt hB) hT (h.2.1.2.2.1.trans (congrArg nI hps)) (by omega)) ?_ (hdp := by omega)
        refine go_aload_n 62 dX3_readSum_61 rfl ?_
        refine go_iload_n 63 dX3_readSum_62 rfl ?_
        refine gz1v 66 dX3_readSum_63 vX3_140 rfl (hF w k R0 _ _ cs (dd + 1) hk hn hB ok1) (fun R2 r2 => ?_) (by omega)
        unfold opL
        rw [if_pos hop]
        cases hr : (trm B (fac B d)) (sp B (q + 1), cs) with
        | inl e =>
          rw [hr] at r2
          have r2 : ErX B n R0 R2 e := r2
          obtain ⟨m9, hm9, hm8⟩ := r2.2.2.2.2.2
          refine go_aload_n 67 dX3_readSum_66 rfl ?_
          refine go_iload_n 68 dX3_readSum_67 rfl ?_
          refine gcV1v 71 dX3_readSum_68 vX3_147 wZ_at0 rfl (ct_X3_addCode hm8 hm9) ?_ (hdp := by omega)
          refine go_iinc 74 dX3_readSum_71 rfl (by decide) zc_1 ?_
          refine go_goto 7 dX3_readSum_74 ?_
          exact go_locals [(0, .ref r), (1, .int (nI k)), (2, .int (nI i + 1))] rfl (le_X3_readSum hT hn hB (r2.add hm8 hm9))
        | inr s2 =>
          rw [hr] at r2
          have r2 : OkX B n R0 R2 s2.1 s2.2 (dd + 1) := r2
          have hl9 := r2.2.2.2.2.2.2.1
          have hn9 := r2.2.2.1
          refine go_aload_n 67 dX3_readSum_66 rfl ?_
          refine go_iload_n 68 dX3_readSum_67 rfl ?_
          refine gcV1v 71 dX3_readSum_68 vX3_147 wZ_at0 rfl (ct_X3_addCode (m := s2.2.length) r2.2.2.2.2.2.1 (by omega)) ?_ (hdp := by omega)
          refine go_iinc 74 dX3_readSum_71 rfl (by decide) zc_1 ?_
          refine go_goto 7 dX3_readSum_74 ?_
          rw [nI_1, hc9]
          have hlt9 := hG (sp B (q + 1), cs) s2 hsn hr
          exact go_locals [(0, .ref r), (1, .int (nI k)), (2, .int (nI (i + 1)))] rfl (ih (i + 1) _ s2.1 (s2.2 ++ [if B q = 43 then -5 else -6]) (r2.add hT) (by have := hlt9.1; omega) (by have := hlt9.1; omega))
      have k33 : Go l Γ mX3_readSum (8 + 2 + 3 * d) 0 0 (PvX Γ w r (ResX B n R0 dd (opL B 43 45 (-5) (-6) (trm B (fac B d)) (f + 1) (q, cs)))) zNo 0 0 (wZ Γ w r R) 33 [(0, .ref r), (1, .int (nI k)), (2, .int (nI i))] [] := by
        refine go_aload_n 34 dX3_readSum_33 rfl ?_
        refine xs_get 37 dX3_readSum_34 fX3_49 rfl ?_
        refine go_if_ne 77 40 dX3_readSum_37 (fun h37 => ?_) (fun h37 => ?_)
        · exact absurd h.2.2.2.1 h37
        · refine go_aload_n 41 dX3_readSum_40 rfl ?_
          refine go_bipush 43 dX3_readSum_41 zb_43 ?_
          refine gcV1 46 dX3_readSum_43 vX3_143 wZ_at0 rfl (ct_X3_atSign (q := q) (h.len hn) (h.txt hB) hT h.2.1 h.2.2.1 sg_43) ?_ (hdp := by omega)
          refine go_if_eq 54 49 dX3_readSum_46 (fun h46 => ?_) (fun h46 => ?_)
          · refine go_bipush 56 dX3_readSum_54 zb_m6 ?_
            exact go_locals _ rfl (k56 (-6) (by rw [if_neg (zb_0 (by first | exact h46 | exact Classical.not_not.mp h46))]))
          · refine go_bipush 51 dX3_readSum_49 zb_m5 ?_
            refine go_goto 56 dX3_readSum_51 ?_
            exact go_locals _ rfl (k56 (-5) (by rw [if_pos (zb_1 h46)]))
      refine go_iload_n 8 dX3_readSum_7 rfl ?_
      refine go_aload_n 9 dX3_readSum_8 rfl ?_
      refine xs_get 12 dX3_readSum_9 fX3_30 rfl ?_
      refine go_icmp_ge 77 15 dX3_readSum_12 (fun h12 => ?_) (fun h12 => ?_)
      · exact absurd (by have e : R.1 5 ≤ nI i := h12; rw [h.len hn] at e; exact e) (nI_ge (show i < n by omega) (by omega))
      · refine go_aload_n 16 dX3_readSum_15 rfl ?_
        refine go_bipush 18 dX3_readSum_16 zb_43 ?_
        refine gcV1 21 dX3_readSum_18 vX3_143 wZ_at0 rfl (ct_X3_atSign (q := q) (h.len hn) (h.txt hB) hT h.2.1 h.2.2.1 sg_43) ?_ (hdp := by omega)
        refine go_if_ne 33 24 dX3_readSum_21 (fun h21 => ?_) (fun h21 => ?_)
        · exact go_locals _ rfl k33
        · refine go_aload_n 25 dX3_readSum_24 rfl ?_
          refine go_bipush 27 dX3_readSum_25 zb_45 ?_
          refine gcV1 30 dX3_readSum_27 vX3_143 wZ_at0 rfl (ct_X3_atSign (q := q) (h.len hn) (h.txt hB) hT h.2.1 h.2.2.1 sg_45) ?_ (hdp := by omega)
          refine go_if_eq 77 33 dX3_readSum_30 (fun h30 => ?_) (fun h30 => ?_)
          · exact (hop.elim (fun z => zb_0 (by first | exact h21 | exact Classical.not_not.mp h21) z) (fun z => zb_0 (by first | exact h30 | exact Classical.not_not.mp h30) z)).elim
          · exact go_locals _ rfl k33
    · have he0 : opL B 43 45 (-5) (-6) (trm B (fac B d)) (f + 1) (q, cs) = .inr (q, cs) := if_neg hop
      refine go_iload_n 8 dX3_readSum_7 rfl ?_
      refine go_aload_n 9 dX3_readSum_8 rfl ?_
      refine xs_get 12 dX3_readSum_9 fX3_30 rfl ?_
      refine go_icmp_ge 77 15 dX3_readSum_12 (fun h12 => ?_) (fun h12 => ?_)
      · exact go_return dX3_readSum_77 rfl (by omega) (by omega) (⟨rfl, R, rfl, by rw [he0]; exact h⟩)
      · refine go_aload_n 16 dX3_readSum_15 rfl ?_
        refine go_bipush 18 dX3_readSum_16 zb_43 ?_
        refine gcV1 21 dX3_readSum_18 vX3_143 wZ_at0 rfl (ct_X3_atSign (q := q) (h.len hn) (h.txt hB) hT h.2.1 h.2.2.1 sg_43) ?_ (hdp := by omega)
        refine go_if_ne 33 24 dX3_readSum_21 (fun h21 => ?_) (fun h21 => ?_)
        · exact absurd (Or.inl (zb_1 h21)) hop
        · refine go_aload_n 25 dX3_readSum_24 rfl ?_
          refine go_bipush 27 dX3_readSum_25 zb_45 ?_
          refine gcV1 30 dX3_readSum_27 vX3_143 wZ_at0 rfl (ct_X3_atSign (q := q) (h.len hn) (h.txt hB) hT h.2.1 h.2.2.1 sg_45) ?_ (hdp := by omega)
          refine go_if_eq 77 33 dX3_readSum_30 (fun h30 => ?_) (fun h30 => ?_)
          · exact go_return dX3_readSum_77 rfl (by omega) (by omega) (⟨rfl, R, rfl, by rw [he0]; exact h⟩)
          · exact absurd (Or.inr (zb_1 h30)) hop
set_option maxRecDepth 100000 in
set_option maxHeartbeats 4000000 in
theorem ct_X3_readSum {l : Launch} {Γ : ZG} {r : Nat} {B : ZB} {n : Nat} (hT : TB B n) {d : Nat} (hF : TrmP l Γ r B n d) (hG : ∀ s s2, s.1 ≤ n → (trm B (fac B d)) s = .inr s2 → s.1 < s2.1 ∧ s2.1 ≤ n) : SumP l Γ r B n d := by
  intro w k R0 R q cs dd hk hn hB h
  refine Ct.of (by decide) rfl (Nat.le_of_ble_eq_true rfl) ?_
  refine go_aload_n 1 dX3_readSum_0 rfl ?_
  refine go_iload_n 2 dX3_readSum_1 rfl ?_
  refine gz1v 5 dX3_readSum_2 vX3_140 rfl (hF w k R0 R q cs dd hk hn hB h) (fun R2 r2 => ?_) (by omega)
  refine go_iconst 6 dX3_readSum_5 zc_0 ?_
  refine go_istore_n 7 dX3_readSum_6 (by decide) ?_
  unfold smm
  cases hr : (trm B (fac B d)) (q, cs) with
  | inl e =>
    rw [hr] at r2
    exact go_locals [(0, .ref r), (1, .int (nI k)), (2, .int 0)] rfl (le_X3_readSum hT hn hB r2)
  | inr s2 =>
    rw [hr] at r2
    exact go_locals [(0, .ref r), (1, .int (nI k)), (2, .int (nI 0))] rfl (lp_X3_readSum hT hn hB hk hF hG 601 0 R2 s2.1 s2.2 r2 (Nat.zero_le _) (by omega))
theorem fac_S {B : ZB} {d : Nat} {s : XS} : fac B d s = facS B (match d with | 0 => none | d' + 1 => some (smm B (fac B d'))) s := by cases d <;> rfl
theorem ok_swap {B : ZB} {n q : Nat} {R0 R : RS} {cs : List Int32} {dd : Nat} {c : Int32} (h : OkX B n R0 (tokR B n R q) q cs (dd + 1)) (hT : TB B n) : OkX B n R0 (tokR B n (addR R cs.length c) q) q (cs ++ [c]) dd := by
  have e : tokR B n (addR R cs.length c) q = addR (tokR B n R q) cs.length c := by
    unfold addR
    split
    · refine Prod.ext (funext fun j => ?_) rfl
      show (if j = 6 then _ else if j = 8 then _ else if j = 7 then _ else if j = 9 then (if isD B q = true then _ else upd R.1 4 (nI (cs.length + 1)) 9) else upd R.1 4 (nI (cs.length + 1)) j) = upd (tokR B n R q).1 4 (nI (cs.length + 1)) j
      by_cases h4 : j = 4
      · subst h4
        rw [pk_us]
        exact (pk_us (f := (tokR B n R q).1) (k := 4)).symm
      · rw [pk_un h4, pk_un h4, pk_un (by decide)]
        rfl
    · rfl
  rw [e]
  exact h.add hT
set_option maxRecDepth 100000 in
set_option maxHeartbeats 4000000 in
theorem ct_X3_readFactor {l : Launch} {Γ : ZG} {r : Nat} {B : ZB} {n : Nat} (hT : TB B n) {d : Nat} (hS : ∀ d', d = d' + 1 → SumP l Γ r B n d') : FacP l Γ r B n d := by
  intro w k R0 R q cs dd hk hn hB h
  have hn6 := hT.1
  have hqn := h.2.2.1
  have hlq := h.2.2.2.2.2.2.1
  refine Ct.of (by decide) rfl (Nat.le_of_ble_eq_true rfl) ?_
  refine go_aload_n 1 dX3_readFactor_0 rfl ?_
  refine xs_get 4 dX3_readFactor_1 fX3_75 rfl ?_
  refine go_iconst 5 dX3_readFactor_4 zc_2 ?_
  refine go_icmp_ne 23 8 dX3_readFactor_5 (fun h5 => ?_) (fun h5 => ?_)
  · have hdg : isD B q = false := by
      cases hd : isD B q with
      | false => rfl
      | true => exact absurd ((tk_eq h.2.1 (k := 2) (by decide)).mpr (tk_2.mpr hd)) h5
    refine go_aload_n 24 dX3_readFactor_23 rfl ?_
    refine go_ldcS 26 dX3_readFactor_24 sX3_156 ?_
    refine gcV1 29 dX3_readFactor_26 vX3_63 wZ_at0 rfl (ct_X3_atWord (h.len hn) (h.txt hB) hT h.2.1 h.2.2.1 sX3_156 lt_legs) ?_ (hdp := by omega)
    refine go_if_eq 40 32 dX3_readFactor_29 (fun h29 => ?_) (fun h29 => ?_)
    · refine go_aload_n 41 dX3_readFactor_40 rfl ?_
      refine go_ldcS 43 dX3_readFactor_41 sX3_158 ?_
      refine gcV1 46 dX3_readFactor_43 vX3_63 wZ_at0 rfl (ct_X3_atWord (h.len hn) (h.txt hB) hT h.2.1 h.2.2.1 sX3_158 lt_caller) ?_ (hdp := by omega)
      refine go_if_eq 58 49 dX3_readFactor_46 (fun h46 => ?_) (fun h46 => ?_)
      · refine go_aload_n 59 dX3_readFactor_58 rfl ?_
        refine go_ldcS 61 dX3_readFactor_59 sX3_160 ?_
        refine gcV1 64 dX3_readFactor_61 vX3_63 wZ_at0 rfl (ct_X3_atWord (h.len hn) (h.txt hB) hT h.2.1 h.2.2.1 sX3_160 lt_referred) ?_ (hdp := by omega)
        refine go_if_eq 76 67 dX3_readFactor_64 (fun h64 => ?_) (fun h64 => ?_)
        · refine go_aload_n 77 dX3_readFactor_76 rfl ?_
          refine go_ldcS 79 dX3_readFactor_77 sX3_162 ?_
          refine gcV1 82 dX3_readFactor_79 vX3_63 wZ_at0 rfl (ct_X3_atWord (h.len hn) (h.txt hB) hT h.2.1 h.2.2.1 sX3_162 lt_time) ?_ (hdp := by omega)
          refine go_if_eq 94 85 dX3_readFactor_82 (fun h82 => ?_) (fun h82 => ?_)
          · refine go_aload_n 95 dX3_readFactor_94 rfl ?_
            refine go_bipush 97 dX3_readFactor_95 zb_40 ?_
            refine gcV1 100 dX3_readFactor_97 vX3_143 wZ_at0 rfl (ct_X3_atSign (h.len hn) (h.txt hB) hT h.2.1 h.2.2.1 sg_40) ?_ (hdp := by omega)
            refine go_if_ne 112 103 dX3_readFactor_100 (fun h100 => ?_) (fun h100 => ?_)
            · have hyes : B q = 40 := zb_1 h100
              have hpo := ps_sgn hT sg_40 hyes
              have hsn := sp_le hT (show q + 1 ≤ n by omega)
              have hsg := sp_ge (B := B) (p := q + 1)
              refine go_iload_n 113 dX3_readFactor_112 rfl ?_
              refine go_iconst 114 dX3_readFactor_113 zc_4 ?_
              refine go_icmp_lt 126 117 dX3_readFactor_114 (fun h114 => ?_) (fun h114 => ?_)
              · have hd1 : ∃ d', d = d' + 1 := by
                  cases d with
                  | zero =>
                    have hk4 : k = 4 := by omega
                    subst hk4
                    exact absurd (by first | exact h114 | exact Classical.not_not.mp h114) (by decide)
                  | succ d' => exact ⟨d', rfl⟩
                obtain ⟨d', rfl⟩ := hd1
                have hfac : fac B (d' + 1) (q, cs) = (match smm B (fac B d') (sp B (q + 1), cs) with
                  | .inl e => .inl e
                  | .inr s2 => if B s2.1 = 41 then .inr (sp B (s2.1 + 1), s2.2) else .inl (-2, s2.1)) := by
                  show facS B (some (smm B (fac B d'))) (q, cs) = _
                  unfold facS
                  rw [if_neg (by rw [hdg]; decide), if_neg (zb_0 (by first | exact h29 | exact Classical.not_not.mp h29)), if_neg (zb_0 (by first | exact h46 | exact Classical.not_not.mp h46)), if_neg (zb_0 (by first | exact h64 | exact Classical.not_not.mp h64)), if_neg (zb_0 (by first | exact h82 | exact Classical.not_not.mp h82)), if_pos hyes]
                  rfl
                have ok1 : OkX B n R0 (tokR B n R (sp B (q + 1))) (sp B (q + 1)) cs dd := h.tok hsn (by omega)
                refine go_aload_n 127 dX3_readFactor_126 rfl ?_
                refine gcV0v 130 dX3_readFactor_127 vX3_58 wZ_at0 rfl (ct_X3_nextToken (p := q + 1) (h.len hn) (h.txt hB) hT (h.2.1.2.2.1.trans (congrArg nI hpo.1)) (by omega)) ?_ (hdp := by omega)
                refine go_aload_n 131 dX3_readFactor_130 rfl ?_
                refine go_iload_n 132 dX3_readFactor_131 rfl ?_
                refine go_iconst 133 dX3_readFactor_132 zc_1 ?_
                refine go_iadd 134 dX3_readFactor_133 ?_
                rw [nI_1]
                refine gz1v 137 dX3_readFactor_134 vX3_112 rfl (hS d' rfl w (k + 1) R0 _ _ cs dd (by omega) hn hB ok1) (fun R2 r2 => ?_) (by omega)
                rw [hfac]
                refine go_aload_n 138 dX3_readFactor_137 rfl ?_
                refine go_bipush 140 dX3_readFactor_138 zb_41 ?_
                cases hr : smm B (fac B d') (sp B (q + 1), cs) with
                | inl e =>
                  rw [hr] at r2
                  have r2 : ErX B n R0 R2 e := r2
                  obtain ⟨q9, hq9, hA9⟩ := r2.2.1
                  refine gcV1 143 dX3_readFactor_140 vX3_143 wZ_at0 rfl (ct_X3_atSign (q := q9) (r2.len hn) (r2.txt hB) hT hA9 hq9 sg_41) ?_ (hdp := by omega)
                  have fin : Go l Γ mX3_readFactor (8 + 3 * (d' + 1)) 0 0 (PvX Γ w r (fun R' => ErX B n R0 R' e)) zNo 0 0 (wZ Γ w r R2) 152 [(0, .ref r), (1, .int (nI k))] [] := by
                    refine go_aload_n 153 dX3_readFactor_152 rfl ?_
                    refine gcV0v 156 dX3_readFactor_153 vX3_58 wZ_at0 rfl (ct_X3_nextToken (p := ps B n q9) (r2.len hn) (r2.txt hB) hT hA9.2.2.1 (ps_le hT hq9).1) ?_ (hdp := by omega)
                    exact go_return dX3_readFactor_156 rfl (by omega) (by omega) ⟨rfl, _, rfl, r2.tok (sp_le hT (ps_le hT hq9).1)⟩
                  refine go_if_ne 152 146 dX3_readFactor_143 (fun h143 => ?_) (fun h143 => ?_)
                  · exact go_locals _ rfl fin
                  · refine go_aload_n 147 dX3_readFactor_146 rfl ?_
                    refine go_bipush 149 dX3_readFactor_147 zb_m2 ?_
                    refine gcV1v 152 dX3_readFactor_149 vX3_67 wZ_at0 rfl (ct_X3_fail) ?_ (hdp := by omega)
                    rw [r2.fail]
                    exact go_locals _ rfl fin
                | inr s2 =>
                  rw [hr] at r2
                  have r2 : OkX B n R0 R2 s2.1 s2.2 dd := r2
                  have hl9 := r2.2.2.2.2.2.2.1
                  have hn9 := r2.2.2.1
                  refine gcV1 143 dX3_readFactor_140 vX3_143 wZ_at0 rfl (ct_X3_atSign (q := s2.1) (r2.len hn) (r2.txt hB) hT r2.2.1 hn9 sg_41) ?_ (hdp := by omega)
                  refine go_if_ne 152 146 dX3_readFactor_143 (fun h143 => ?_) (fun h143 => ?_)
                  · have hc := zb_1 h143
                    have hpc := ps_sgn hT sg_41 hc
                    have hsn2 := sp_le hT (show s2.1 + 1 ≤ n by omega)
                    have hsg2 := sp_ge (B := B) (p := s2.1 + 1)
                    refine go_aload_n 153 dX3_readFactor_152 rfl ?_
                    refine gcV0v 156 dX3_readFactor_153 vX3_58 wZ_at0 rfl (ct_X3_nextToken (p := s2.1 + 1) (r2.len hn) (r2.txt hB) hT (r2.2.1.2.2.1.trans (congrArg nI hpc.1)) (by omega)) ?_ (hdp := by omega)
                    refine go_return dX3_readFactor_156 rfl (by omega) (by omega) ⟨rfl, _, rfl, ?_⟩
                    simp only [if_pos hc]
                    exact r2.tok hsn2 (by omega)
                  · have hc := zb_0 (by first | exact h143 | exact Classical.not_not.mp h143)
                    refine go_aload_n 147 dX3_readFactor_146 rfl ?_
                    refine go_bipush 149 dX3_readFactor_147 zb_m2 ?_
                    refine gcV1v 152 dX3_readFactor_149 vX3_67 wZ_at0 rfl (ct_X3_fail) ?_ (hdp := by omega)
                    refine go_aload_n 153 dX3_readFactor_152 rfl ?_
                    refine gcV0v 156 dX3_readFactor_153 vX3_58 wZ_at0 rfl (ct_X3_nextToken (R := failC R2 (-2)) (p := ps B n s2.1) ((fail_j (by decide)).trans (r2.len hn)) (by rw [fail_snd]; exact r2.txt hB) hT ((fail_j (by decide)).trans r2.2.1.2.2.1) (ps_le hT hn9).1) ?_ (hdp := by omega)
                    refine go_return dX3_readFactor_156 rfl (by omega) (by omega) ⟨rfl, _, rfl, ?_⟩
                    simp only [if_neg hc]
                    exact (r2.fail hT (by decide)).tok (sp_le hT (ps_le hT hn9).1)
              · have hd0 : d = 0 := by
                  have hk4 : 4 ≤ k := Nat.le_of_not_lt fun z => h114 (nI_lt (b := 4) z (by decide))
                  omega
                have hfac : fac B d (q, cs) = .inl (-5, q) := by
                  rw [hd0]; show facS B none (q, cs) = _; unfold facS; rw [if_neg (by rw [hdg]; decide), if_neg (zb_0 (by first | exact h29 | exact Classical.not_not.mp h29)), if_neg (zb_0 (by first | exact h46 | exact Classical.not_not.mp h46)), if_neg (zb_0 (by first | exact h64 | exact Classical.not_not.mp h64)), if_neg (zb_0 (by first | exact h82 | exact Classical.not_not.mp h82)), if_pos hyes]
                refine go_aload_n 118 dX3_readFactor_117 rfl ?_
                refine go_bipush 120 dX3_readFactor_118 zb_m5 ?_
                refine gcV1v 123 dX3_readFactor_120 vX3_67 wZ_at0 rfl (ct_X3_fail) ?_ (hdp := by omega)
                refine go_goto 152 dX3_readFactor_123 ?_
                refine go_aload_n 153 dX3_readFactor_152 rfl ?_
                refine gcV0v 156 dX3_readFactor_153 vX3_58 wZ_at0 rfl (ct_X3_nextToken (R := failC R (-5)) (p := ps B n q) ((fail_j (by decide)).trans (h.len hn)) (by rw [fail_snd]; exact h.txt hB) hT ((fail_j (by decide)).trans h.2.1.2.2.1) (ps_le hT hqn).1) ?_ (hdp := by omega)
                refine go_return dX3_readFactor_156 rfl (by omega) (by omega) ⟨rfl, _, rfl, ?_⟩
                rw [hfac]
                exact (h.fail hT (by decide)).tok (sp_le hT (ps_le hT hqn).1)
            · have hno : ¬ B q = 40 := zb_0 (by first | exact h100 | exact Classical.not_not.mp h100)
              have hfac : fac B d (q, cs) = .inl (-2, q) := by
                rw [fac_S]; unfold facS; rw [if_neg (by rw [hdg]; decide), if_neg (zb_0 (by first | exact h29 | exact Classical.not_not.mp h29)), if_neg (zb_0 (by first | exact h46 | exact Classical.not_not.mp h46)), if_neg (zb_0 (by first | exact h64 | exact Classical.not_not.mp h64)), if_neg (zb_0 (by first | exact h82 | exact Classical.not_not.mp h82)), if_neg hno]
              refine go_aload_n 104 dX3_readFactor_103 rfl ?_
              refine go_bipush 106 dX3_readFactor_104 zb_m2 ?_
              refine gcV1v 109 dX3_readFactor_106 vX3_67 wZ_at0 rfl (ct_X3_fail) ?_ (hdp := by omega)
              refine go_goto 152 dX3_readFactor_109 ?_
              refine go_aload_n 153 dX3_readFactor_152 rfl ?_
              refine gcV0v 156 dX3_readFactor_153 vX3_58 wZ_at0 rfl (ct_X3_nextToken (R := failC R (-2)) (p := ps B n q) ((fail_j (by decide)).trans (h.len hn)) (by rw [fail_snd]; exact h.txt hB) hT ((fail_j (by decide)).trans h.2.1.2.2.1) (ps_le hT hqn).1) ?_ (hdp := by omega)
              refine go_return dX3_readFactor_156 rfl (by omega) (by omega) ⟨rfl, _, rfl, ?_⟩
              rw [hfac]
              exact (h.fail hT (by decide)).tok (sp_le hT (ps_le hT hqn).1)
          · have hwd := zb_1 h82
            have hpw := ps_wd hT lt_time hwd
            have hsn := sp_le hT (show q + 4 ≤ n by have := (ps_le hT hqn).1; rw [hpw.1] at this; exact this)
            have hsg := sp_ge (B := B) (p := q + 4)
            have hfac : fac B d (q, cs) = .inr (sp B (q + 4), cs ++ [-4]) := by
              rw [fac_S]; unfold facS; rw [if_neg (by rw [hpw.2.1]; decide), if_neg (zb_0 (by first | exact h29 | exact Classical.not_not.mp h29)), if_neg (zb_0 (by first | exact h46 | exact Classical.not_not.mp h46)), if_neg (zb_0 (by first | exact h64 | exact Classical.not_not.mp h64)), if_pos hwd]
            refine go_aload_n 86 dX3_readFactor_85 rfl ?_
            refine go_bipush 88 dX3_readFactor_86 zb_m4 ?_
            refine gcV1v 91 dX3_readFactor_88 vX3_147 wZ_at0 rfl (ct_X3_addCode (m := cs.length) h.2.2.2.2.2.1 (by omega)) ?_ (hdp := by omega)
            refine go_goto 152 dX3_readFactor_91 ?_
            refine go_aload_n 153 dX3_readFactor_152 rfl ?_
            refine gcV0v 156 dX3_readFactor_153 vX3_58 wZ_at0 rfl (ct_X3_nextToken (R := addR R cs.length (-4)) (p := q + 4) ((add_j (by decide)).trans (h.len hn)) (by rw [show (addR R cs.length (-4)).2.1 = R.2.1 from fr_add.1]; exact h.txt hB) hT ((add_j (by decide)).trans (h.2.1.2.2.1.trans (congrArg nI hpw.1))) (by have := (ps_le hT hqn).1; rw [hpw.1] at this; exact this)) ?_ (hdp := by omega)
            refine go_return dX3_readFactor_156 rfl (by omega) (by omega) ⟨rfl, _, rfl, ?_⟩
            rw [hfac]
            have ok : OkX B n R0 (tokR B n R (sp B (q + 4))) (sp B (q + 4)) cs (dd + 1) := h.tok hsn (by omega)
            exact ok_swap ok hT
        · have hwd := zb_1 h64
          have hpw := ps_wd hT lt_referred hwd
          have hsn := sp_le hT (show q + 8 ≤ n by have := (ps_le hT hqn).1; rw [hpw.1] at this; exact this)
          have hsg := sp_ge (B := B) (p := q + 8)
          have hfac : fac B d (q, cs) = .inr (sp B (q + 8), cs ++ [-3]) := by
            rw [fac_S]; unfold facS; rw [if_neg (by rw [hpw.2.1]; decide), if_neg (zb_0 (by first | exact h29 | exact Classical.not_not.mp h29)), if_neg (zb_0 (by first | exact h46 | exact Classical.not_not.mp h46)), if_pos hwd]
          refine go_aload_n 68 dX3_readFactor_67 rfl ?_
          refine go_bipush 70 dX3_readFactor_68 zb_m3 ?_
          refine gcV1v 73 dX3_readFactor_70 vX3_147 wZ_at0 rfl (ct_X3_addCode (m := cs.length) h.2.2.2.2.2.1 (by omega)) ?_ (hdp := by omega)
          refine go_goto 152 dX3_readFactor_73 ?_
          refine go_aload_n 153 dX3_readFactor_152 rfl ?_
          refine gcV0v 156 dX3_readFactor_153 vX3_58 wZ_at0 rfl (ct_X3_nextToken (R := addR R cs.length (-3)) (p := q + 8) ((add_j (by decide)).trans (h.len hn)) (by rw [show (addR R cs.length (-3)).2.1 = R.2.1 from fr_add.1]; exact h.txt hB) hT ((add_j (by decide)).trans (h.2.1.2.2.1.trans (congrArg nI hpw.1))) (by have := (ps_le hT hqn).1; rw [hpw.1] at this; exact this)) ?_ (hdp := by omega)
          refine go_return dX3_readFactor_156 rfl (by omega) (by omega) ⟨rfl, _, rfl, ?_⟩
          rw [hfac]
          have ok : OkX B n R0 (tokR B n R (sp B (q + 8))) (sp B (q + 8)) cs (dd + 1) := h.tok hsn (by omega)
          exact ok_swap ok hT
      · have hwd := zb_1 h46
        have hpw := ps_wd hT lt_caller hwd
        have hsn := sp_le hT (show q + 6 ≤ n by have := (ps_le hT hqn).1; rw [hpw.1] at this; exact this)
        have hsg := sp_ge (B := B) (p := q + 6)
        have hfac : fac B d (q, cs) = .inr (sp B (q + 6), cs ++ [-2]) := by
          rw [fac_S]; unfold facS; rw [if_neg (by rw [hpw.2.1]; decide), if_neg (zb_0 (by first | exact h29 | exact Classical.not_not.mp h29)), if_pos hwd]
        refine go_aload_n 50 dX3_readFactor_49 rfl ?_
        refine go_bipush 52 dX3_readFactor_50 zb_m2 ?_
        refine gcV1v 55 dX3_readFactor_52 vX3_147 wZ_at0 rfl (ct_X3_addCode (m := cs.length) h.2.2.2.2.2.1 (by omega)) ?_ (hdp := by omega)
        refine go_goto 152 dX3_readFactor_55 ?_
        refine go_aload_n 153 dX3_readFactor_152 rfl ?_
        refine gcV0v 156 dX3_readFactor_153 vX3_58 wZ_at0 rfl (ct_X3_nextToken (R := addR R cs.length (-2)) (p := q + 6) ((add_j (by decide)).trans (h.len hn)) (by rw [show (addR R cs.length (-2)).2.1 = R.2.1 from fr_add.1]; exact h.txt hB) hT ((add_j (by decide)).trans (h.2.1.2.2.1.trans (congrArg nI hpw.1))) (by have := (ps_le hT hqn).1; rw [hpw.1] at this; exact this)) ?_ (hdp := by omega)
        refine go_return dX3_readFactor_156 rfl (by omega) (by omega) ⟨rfl, _, rfl, ?_⟩
        rw [hfac]
        have ok : OkX B n R0 (tokR B n R (sp B (q + 6))) (sp B (q + 6)) cs (dd + 1) := h.tok hsn (by omega)
        exact ok_swap ok hT
    · have hwd := zb_1 h29
      have hpw := ps_wd hT lt_legs hwd
      have hsn := sp_le hT (show q + 4 ≤ n by have := (ps_le hT hqn).1; rw [hpw.1] at this; exact this)
      have hsg := sp_ge (B := B) (p := q + 4)
      have hfac : fac B d (q, cs) = .inr (sp B (q + 4), cs ++ [-1]) := by
        rw [fac_S]; unfold facS; rw [if_neg (by rw [hpw.2.1]; decide), if_pos hwd]
      refine go_aload_n 33 dX3_readFactor_32 rfl ?_
      refine go_iconst 34 dX3_readFactor_33 zc_m1 ?_
      refine gcV1v 37 dX3_readFactor_34 vX3_147 wZ_at0 rfl (ct_X3_addCode (m := cs.length) h.2.2.2.2.2.1 (by omega)) ?_ (hdp := by omega)
      refine go_goto 152 dX3_readFactor_37 ?_
      refine go_aload_n 153 dX3_readFactor_152 rfl ?_
      refine gcV0v 156 dX3_readFactor_153 vX3_58 wZ_at0 rfl (ct_X3_nextToken (R := addR R cs.length (-1)) (p := q + 4) ((add_j (by decide)).trans (h.len hn)) (by rw [show (addR R cs.length (-1)).2.1 = R.2.1 from fr_add.1]; exact h.txt hB) hT ((add_j (by decide)).trans (h.2.1.2.2.1.trans (congrArg nI hpw.1))) (by have := (ps_le hT hqn).1; rw [hpw.1] at this; exact this)) ?_ (hdp := by omega)
      refine go_return dX3_readFactor_156 rfl (by omega) (by omega) ⟨rfl, _, rfl, ?_⟩
      rw [hfac]
      have ok : OkX B n R0 (tokR B n R (sp B (q + 4))) (sp B (q + 4)) cs (dd + 1) := h.tok hsn (by omega)
      exact ok_swap ok hT
  · have hdg : isD B q = true := tk_2.mp ((tk_eq h.2.1 (k := 2) (by decide)).mp (by first | exact h5 | exact Classical.not_not.mp h5))
    have hpd : ps B n q = ed B q := by unfold ps; rw [if_pos hdg]
    have hed := ed_gt hT hdg
    have hedn := ed_le hT hqn
    refine go_aload_n 9 dX3_readFactor_8 rfl ?_
    refine go_aload_n 10 dX3_readFactor_9 rfl ?_
    refine go_iconst 11 dX3_readFactor_10 zc_0 ?_
    refine go_sipush 14 dX3_readFactor_11 zs_9999 ?_
    refine gcV2 17 dX3_readFactor_14 vX3_153 wZ_at0 rfl (ct_X3_numberInRange (lo := 0) (hi := 9999)) ?_ (hdp := by omega)
    refine gcV1v 20 dX3_readFactor_17 vX3_147 wZ_at0 rfl (ct_X3_addCode (m := cs.length) ((num_j (by decide)).trans h.2.2.2.2.2.1) (by omega)) ?_ (hdp := by omega)
    refine go_goto 152 dX3_readFactor_20 ?_
    refine go_aload_n 153 dX3_readFactor_152 rfl ?_
    refine gcV0v 156 dX3_readFactor_153 vX3_58 wZ_at0 rfl (ct_X3_nextToken (R := addR (numR R 0 9999) cs.length (R.1 9)) (p := ps B n q) ((add_j (by decide)).trans ((num_j (by decide)).trans (h.len hn))) (by rw [show (addR (numR R 0 9999) cs.length (R.1 9)).2.1 = R.2.1 from fr_add.1.trans (by rw [num_snd])]; exact h.txt hB) hT ((add_j (by decide)).trans ((num_j (by decide)).trans h.2.1.2.2.1)) (ps_le hT hqn).1) ?_ (hdp := by omega)
    refine go_return dX3_readFactor_156 rfl (by omega) (by omega) ⟨rfl, _, rfl, ?_⟩
    rw [hpd]
    have hsn := sp_le hT hedn
    have hsg := sp_ge (B := B) (p := ed B q)
    rw [fac_S]
    unfold facS num
    rw [if_pos hdg, if_pos hdg]
    by_cases hv : 0 ≤ valN B q ∧ valN B q ≤ 9999
    · rw [if_pos hv]
      have e := num_ok h.2.1 hdg (lo := 0) (hi := 9999) (by decide) (by decide) hv
      rw [show numR R 0 9999 = R from e.1, e.2]
      have ok : OkX B n R0 (tokR B n R (sp B (ed B q))) (sp B (ed B q)) cs (dd + 1) := h.tok hsn (by omega)
      exact ok_swap ok hT
    · rw [if_neg hv]
      have e := num_bad h.2.1 hdg (lo := 0) (hi := 9999) (by decide) (by decide) hv
      rw [show numR R 0 9999 = failC R (-3) from e]
      exact ((h.fail hT (by decide)).add ((fail_j (by decide)).trans h.2.2.2.2.2.1) (by omega)).tok hsn
theorem fac_lt {B : ZB} {n : Nat} (hT : TB B n) (d : Nat) : ∀ s s2, s.1 ≤ n → fac B d s = .inr s2 → s.1 < s2.1 ∧ s2.1 ≤ n := fun s s2 h1 h2 => ⟨(fac_ok hT d s s2 h1 h2).1, (fac_ok hT d s s2 h1 h2).2.1⟩
theorem trm_lt {B : ZB} {n : Nat} (hT : TB B n) (d : Nat) : ∀ s s2, s.1 ≤ n → trm B (fac B d) s = .inr s2 → s.1 < s2.1 ∧ s2.1 ≤ n := fun s s2 h1 h2 => ⟨(trm_ok hT (fac_ok hT d) s s2 h1 h2).1, (trm_ok hT (fac_ok hT d) s s2 h1 h2).2.1⟩
/-- ring expressions are read as the grammar says -/
theorem expr_all {l : Launch} {Γ : ZG} {r : Nat} {B : ZB} {n : Nat} (hT : TB B n) : ∀ d, FacP l Γ r B n d ∧ SumP l Γ r B n d
  | 0 => by
    have f := ct_X3_readFactor (l := l) (Γ := Γ) (r := r) hT (d := 0) (fun d' h => by omega)
    exact ⟨f, ct_X3_readSum hT (ct_X3_readTerm hT f (fac_lt hT 0)) (trm_lt hT 0)⟩
  | d + 1 => by
    have p := expr_all (l := l) (Γ := Γ) (r := r) hT d
    have f := ct_X3_readFactor (l := l) (Γ := Γ) (r := r) hT (d := d + 1) (fun d' h => by
      have : d' = d := by omega
      subst this
      exact p.2)
    exact ⟨f, ct_X3_readSum hT (ct_X3_readTerm hT f (fac_lt hT (d + 1))) (trm_lt hT (d + 1))⟩
end CXpr
