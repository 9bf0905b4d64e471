section CStm
/-! the statements of a setup text *)-/
def bI (b : Bool) : Int32 := if b = true then 1 else 0
def FrN (R0 R : RS) : Prop := R.2 = R0.2 ∧ ∀ j, j ≠ 6 → j ≠ 7 → j ≠ 8 → j ≠ 9 → j ≠ 13 → j ≠ 14 → R.1 j = R0.1 j
def GdN (B : ZB) (n : Nat) (R0 R : RS) (q : Nat) : Prop := FrN R0 R ∧ At B n R q ∧ q ≤ n ∧ R.1 13 = 0 ∧ R.1 14 = -1
def ErN (B : ZB) (n : Nat) (R0 R : RS) (e : Int32 × Nat) (q : Nat) : Prop := FrN R0 R ∧ At B n R q ∧ q ≤ n ∧ R.1 13 = e.1 ∧ e.1 ≠ 0 ∧ R.1 14 = nI e.2
/-- a number taken, at q -/
def tnR (B : ZB) (n : Nat) (R : RS) (q lo hi : Nat) : RS := tokR B n (numR R (nI lo) (nI hi)) (sp B (ps B n q))
section
variable {B : ZB} {n q : Nat} {R0 R : RS}
theorem frn_tok : FrN R (tokR B n R q) := ⟨rfl, fun j a b c d _ _ => tok_o ⟨a, b, c, d⟩⟩
theorem frn_fail {c : Int32} : FrN R (failC R c) := ⟨fail_snd, fun j _ _ _ _ a b => fail_j ⟨a, b⟩⟩
theorem frn_num {lo hi : Int32} : FrN R (numR R lo hi) := ⟨num_snd, fun j _ _ _ _ a b => num_j ⟨a, b⟩⟩
theorem FrN.trans {R1 : RS} (h : FrN R0 R) (h2 : FrN R R1) : FrN R0 R1 := ⟨h2.1.trans h.1, fun j a b c d e f => (h2.2 j a b c d e f).trans (h.2 j a b c d e f)⟩
theorem FrN.rf : FrN R R := ⟨rfl, fun _ _ _ _ _ _ _ => rfl⟩
theorem tn_At : At B n (tnR B n R q 0 0) (sp B (ps B n q)) := tok_At
theorem tn_ok (hT : TB B n) {lo hi : Nat} (hlo : lo < 100000) (hhi : hi < 100000) (h : GdN B n R0 R q) : match num B lo hi q with
    | .inl e => ErN B n R0 (tnR B n R q lo hi) e (sp B (ps B n q))
    | .inr r1 => r1.1 = sp B (ps B n q) ∧ q < r1.1 ∧ GdN B n R0 (tnR B n R q lo hi) r1.1 ∧ R.1 9 = nI r1.2 := by
  obtain ⟨h1, h2, h3, h4, h5⟩ := h
  have hp := (ps_le hT h3).1
  have hs := sp_le hT hp
  unfold num
  by_cases hd : isD B q = true
  · rw [if_pos hd]
    have hpe : ps B n q = ed B q := by unfold ps; rw [if_pos hd]
    have hg := ed_gt hT hd
    have hge := sp_ge (B := B) (p := ed B q)
    by_cases hv : lo ≤ valN B q ∧ valN B q ≤ hi
    · rw [if_pos hv]
      obtain ⟨e1, e2⟩ := num_ok h2 hd hlo hhi hv
      refine ⟨by show sp B (ed B q) = _; rw [hpe], by show q < sp B (ed B q); omega, ?_, e2⟩
      unfold tnR
      rw [e1]
      show GdN B n R0 (tokR B n R (sp B (ps B n q))) (sp B (ed B q))
      rw [← hpe]
      exact ⟨h1.trans frn_tok, tok_At, hs, (tok_o (by decide)).trans h4, (tok_o (by decide)).trans h5⟩
    · rw [if_neg hv]
      unfold tnR
      rw [num_bad h2 hd hlo hhi hv]
      have ef : failC R (-3) = rF (rF R 13 (-3)) 14 (R.1 8) := if_pos h4
      refine ⟨(h1.trans frn_fail).trans frn_tok, tok_At, hs, (tok_o (by decide)).trans ?_, (show (-3 : Int32) ≠ 0 by decide), (tok_o (by decide)).trans ?_⟩
      · rw [ef]; exact (rF_n (by decide)).trans rF_s
      · rw [ef]; exact rF_s.trans h2.1
  · rw [if_neg hd]
    have hd' : isD B q = false := by
      cases h : isD B q with
      | false => rfl
      | true => exact absurd h hd
    unfold tnR
    rw [num_nd h2 hd']
    have ef : failC R (-2) = rF (rF R 13 (-2)) 14 (R.1 8) := if_pos h4
    refine ⟨(h1.trans frn_fail).trans frn_tok, tok_At, hs, (tok_o (by decide)).trans ?_, (show (-2 : Int32) ≠ 0 by decide), (tok_o (by decide)).trans ?_⟩
    · rw [ef]; exact (rF_n (by decide)).trans rF_s
    · rw [ef]; exact rF_s.trans h2.1
theorem fail_er {c : Int32} (h : R.1 13 ≠ 0) : failC R c = R := if_neg h
theorem num_er {lo hi : Int32} (h : R.1 13 ≠ 0) : numR R lo hi = R := by
  unfold numR
  split
  · split
    · exact fail_er h
    · rfl
  · exact fail_er h
theorem tn_er (hT : TB B n) {lo hi : Nat} {e : Int32 × Nat} (h : ErN B n R0 R e q) : ErN B n R0 (tnR B n R q lo hi) e (sp B (ps B n q)) := by
  obtain ⟨h1, h2, h3, h4, h5, h6⟩ := h
  unfold tnR
  rw [num_er (by rw [h4]; exact h5)]
  exact ⟨h1.trans frn_tok, tok_At, sp_le hT (ps_le hT h3).1, (tok_o (by decide)).trans h4, h5, (tok_o (by decide)).trans h6⟩
end
theorem FrN.rE {R0 R : RS} (h : FrN R0 R) (E : ES) : FrN (rE R0 E) (rE R E) := ⟨by show (R.2.1, E, R.2.2.2) = (R0.2.1, E, R0.2.2.2); rw [h.1], h.2⟩
theorem GdN.rE {B : ZB} {n q : Nat} {R0 R : RS} (h : GdN B n R0 R q) (E : ES) : GdN B n (rE R0 E) (rE R E) q := ⟨h.1.rE E, h.2⟩
theorem ErN.rE {B : ZB} {n q : Nat} {R0 R : RS} {e : Int32 × Nat} (h : ErN B n R0 R e q) (E : ES) : ErN B n (rE R0 E) (rE R E) e q := ⟨h.1.rE E, h.2⟩
/-- the state between statements -/
def OkQ (B : ZB) (n : Nat) (T : ZD) (R : RS) (q : Nat) (G : ZD) (t : Bool × Bool × Bool) (cs : List Int32) : Prop :=
  (R.2.1 = T ∧ R.1 1 = 0 ∧ R.1 5 = nI n) ∧ (At B n R q ∧ q ≤ n) ∧ (R.1 13 = 0 ∧ R.1 14 = -1) ∧ (RelE R.2.2.1 G ∧ R.2.2.1.2.2.2 = none) ∧ (R.1 4 = nI cs.length ∧ cs.length + 1 ≤ q ∧ ∀ j, j < cs.length → R.2.2.2 j = cs.getD j 0) ∧ R.1 10 = bI t.1 ∧ R.1 11 = bI t.2.1 ∧ R.1 12 = bI t.2.2
def ErQ (B : ZB) (n : Nat) (T : ZD) (R : RS) (e : Int32 × Nat) : Prop := (R.2.1 = T ∧ R.1 1 = 0 ∧ R.1 5 = nI n) ∧ (∃ q, q ≤ n ∧ At B n R q) ∧ R.1 13 = e.1 ∧ e.1 ≠ 0 ∧ R.1 14 = nI e.2
def ResQ (B : ZB) (n : Nat) (T : ZD) (pr : PR QS) (R : RS) : Prop := match pr with
  | .inl e => ErQ B n T R e
  | .inr s => OkQ B n T R s.1 s.2.1 s.2.2.1 s.2.2.2
theorem wZ_ex {Γ : ZG} {w : ZW} {r : Nat} {R : RS} (j : Nat) (hj : j < 9) : (wZ Γ w r R).2 (r + 2 + j) = some (ecell Γ (r + 2) R.2.2.1 j) := by
  rw [← wZ_self]
  exact wE_at j hj
theorem rE_rE {R : RS} {E E' : ES} : rE (rE R E) E' = rE R E' := rfl
section
variable {l : Launch} {Γ : ZG} {M : ZM} {dp mc ms : Nat} {Φ : Option Value → ZW → Prop} {Ψ : String → ZW → Prop} {k n : Nat} {w : ZW} {pc r : Nat} {L : ZL} {st : List Value} {R : RS}
theorem xz_putE {index : Nat} {v : Int32} (j pc' : Nat) (hd : decode M.2.1 pc = .ok (.putfield index, 3)) (F : zFp M.1.cls index 0 j .int) (hj : j = 5 ∨ j = 6 ∨ j = 7 ∨ j = 8) (kk : Go l Γ M dp mc ms Φ Ψ k n (wZ Γ w r (rE R (ef R.2.2.1 j v))) pc' L st) (hp : pc + 3 = pc' := by rfl) : Go l Γ M dp mc ms Φ Ψ k n (wZ Γ w r R) pc L (.int v :: .ref (r + 2) :: st) := by
  refine go_w wZ_self.symm (xe_put j pc' hd F hj ?_ hp)
  rw [wZ_E]
  exact kk
end
/-- the data behind numbers set -/
theorem relE_set {E : ES} {G : ZD} {j i : Nat} {v : Int32} (h : RelE E G) (hj : (j = 6 ∧ i = 1) ∨ (j = 7 ∧ i = 2) ∨ (j = 8 ∧ i = 3)) : RelE (ef E j v) (upd G i v) := by
  obtain ⟨a1, a2, a3, a4, a5, a6, a7⟩ := h
  have hn : nP (upd G i v) = nP G ∧ nC (upd G i v) = nC G ∧ nL (upd G i v) = nL G := by
    unfold nP nC nL
    exact ⟨by rw [pk_un (by omega)], by rw [pk_un (by omega)], by rw [pk_un (by omega)]⟩
  have hg : ∀ x, 4 ≤ x → upd G i v x = G x := fun x hx => pk_un (by omega)
  refine ⟨⟨?_, ?_, ?_, a1.2.2.2⟩, ?_, fun p m hp hm => ?_, fun p m hp hm => ?_, fun p hp => ?_, fun p m hp hm => ?_, fun m hm => ?_⟩
  · rw [hg 4 (by omega)]; exact a1.1
  · rw [hg 5 (by omega)]; exact a1.2.1
  · rw [hg 6 (by omega)]; exact a1.2.2.1
  · show upd E.2.2.1 j v 5 = upd G i v 0 ∧ upd E.2.2.1 j v 6 = upd G i v 1 ∧ upd E.2.2.1 j v 7 = upd G i v 2 ∧ upd E.2.2.1 j v 8 = upd G i v 3
    rcases hj with ⟨rfl, rfl⟩ | ⟨rfl, rfl⟩ | ⟨rfl, rfl⟩
    · exact ⟨a2.1, rfl, a2.2.2.1, a2.2.2.2⟩
    · exact ⟨a2.1, a2.2.1, rfl, a2.2.2.2⟩
    · exact ⟨a2.1, a2.2.1, a2.2.2.1, rfl⟩
  · rw [hn.1] at hp
    unfold dP
    rw [hg _ (by omega)]; exact a3 p m hp hm
  · rw [hn.2.1] at hp
    unfold dC
    rw [hg _ (by omega)]; exact a4 p m hp hm
  · rw [hn.2.1] at hp
    unfold dC
    rw [hg _ (by omega)]; exact a5 p hp
  · rw [hn.2.2] at hp
    unfold dL
    rw [hg _ (by omega)]; exact a6 p m hp hm
  · rw [hg _ (by omega)]; exact a7 m hm
set_option maxRecDepth 100000 in
set_option maxHeartbeats 4000000 in
theorem cx_X3_readPatience {l : Launch} {Γ : ZG} {w : ZW} {r : Nat} {B : ZB} {n : Nat} {T : ZD} (hB : BB T n = B) (hT : TB B n) {R : RS} {q : Nat} {G : ZD} {a b c : Bool} {cs : List Int32} (h : OkQ B n T R q G (a, b, c) cs) (hw0 : ¬ wd B "party" q) (hw1 : ¬ (wd B "wait" q ∧ a = false)) (hw : wd B "patience" q) (hb : b = false) : Ct l Γ mX3_readPatience 4 0 0 [.ref r] (wZ Γ w r R) (PvX Γ w r (ResQ B n T (stm B (q, G, (a, b, c), cs)))) zNo := by
  obtain ⟨⟨t1, t2, t3⟩, ⟨hA, hqn⟩, ⟨e1, e2⟩, ⟨hR, hg⟩, ⟨c1, c2, c3⟩, f1, f2, f3⟩ := h
  have hn6 := hT.1
  have hpw := ps_wd hT lt_patience hw
  have hq5 : q + 8 ≤ n := by have := (ps_le hT hqn).1; rw [hpw.1] at this; exact this
  have hs1 := sp_le hT hq5
  have hg1 := sp_ge (B := B) (p := q + 8)
  refine Ct.of (by decide) rfl (Nat.le_of_ble_eq_true rfl) ?_
  refine go_aload_n 1 dX3_readPatience_0 rfl ?_
  refine go_iconst 2 dX3_readPatience_1 zc_1 ?_
  refine xs_put 11 5 dX3_readPatience_2 pX3_43 (by decide) rfl rfl ?_
  refine go_aload_n 6 dX3_readPatience_5 rfl ?_
  refine gcV0v 9 dX3_readPatience_6 vX3_58 wZ_at0 rfl (ct_X3_nextToken (R := rF R 11 1) (p := q + 8) t3 (by first | exact (congrArg (fun z => BB z n) t1).trans hB | (show BB R.2.1 n = B; rw [t1]; exact hB)) hT (hA.2.2.1.trans (congrArg nI hpw.1)) hq5) ?_
  refine go_aload_n 10 dX3_readPatience_9 rfl ?_
  refine xs_get 13 dX3_readPatience_10 fX3_18 rfl ?_
  refine go_aload_n 14 dX3_readPatience_13 rfl ?_
  refine go_iconst 15 dX3_readPatience_14 zc_1 ?_
  refine go_bipush 17 dX3_readPatience_15 zb_99 ?_
  refine gcV2 20 dX3_readPatience_17 vX3_124 wZ_at0 rfl (ct_X3_takeNumber (R := (tokR B n (rF R 11 1) (sp B (q + 8)))) (p := ps B n (sp B (q + 8))) (lo := nI 1) (hi := nI 99) (B := B) (n := n) (by exact t3) (by show BB R.2.1 n = B; rw [t1]; exact hB) hT rfl (ps_le hT hs1).1) ?_
  refine xz_putE 8 23 dX3_readPatience_20 pX3_138 (by decide) ?_
  refine go_return dX3_readPatience_23 rfl (by omega) (by omega) ⟨rfl, _, rfl, ?_⟩
  have hstm : stm B (q, G, (a, b, c), cs) = (match num B 1 99 (sp B (q + 8)) with
    | .inl e => .inl e
    | .inr r1 => .inr (r1.1, upd G 3 (nI r1.2), (a, true, c), cs)) := by
    unfold stm
    rw [if_neg hw0, if_neg (fun z => hw1 z), if_pos ⟨hw, hb⟩]
    rfl
  rw [hstm]
  have g0 : GdN B n (rF R 11 1) (tokR B n (rF R 11 1) (sp B (q + 8))) (sp B (q + 8)) := ⟨frn_tok, tok_At, hs1, (tok_o (by decide)).trans ((rF_n (by decide)).trans e1), (tok_o (by decide)).trans ((rF_n (by decide)).trans e2)⟩
  have g1 := tn_ok hT (lo := 1) (hi := 99) (by decide) (by decide) g0
  cases hr : num B 1 99 (sp B (q + 8)) with
  | inl e =>
    rw [hr] at g1
    obtain ⟨⟨k1, k2⟩, k3, k4, k5, k6, k7⟩ := g1
    exact ⟨⟨(congrArg (fun z => z.1) k1).trans t1, (k2 1 (by decide) (by decide) (by decide) (by decide) (by decide) (by decide)).trans ((rF_n (by decide)).trans t2), (k2 5 (by decide) (by decide) (by decide) (by decide) (by decide) (by decide)).trans ((rF_n (by decide)).trans t3)⟩, ⟨_, k4, k3⟩, k5, k6, k7⟩
  | inr r1 =>
    rw [hr] at g1
    obtain ⟨-, k0, ⟨⟨k1, k2⟩, k3, k4, k5, k6⟩, k7⟩ := g1
    have kf : ∀ j, j = 1 ∨ j = 4 ∨ j = 5 ∨ j = 10 ∨ j = 12 → (tnR B n (tokR B n (rF R 11 1) (sp B (q + 8))) (sp B (q + 8)) 1 99).1 j = R.1 j := fun j hj => (k2 j (by omega) (by omega) (by omega) (by omega) (by omega) (by omega)).trans (rF_n (by omega))
    refine ⟨⟨(congrArg (fun z => z.1) k1).trans t1, (kf 1 (by omega)).trans t2, (kf 5 (by omega)).trans t3⟩, ⟨k3, k4⟩, ⟨k5, k6⟩, ⟨?_, ?_⟩, ⟨(kf 4 (by omega)).trans c1, by show cs.length + 1 ≤ r1.1; omega, ?_⟩, (kf 10 (by omega)).trans f1, (k2 11 (by decide) (by decide) (by decide) (by decide) (by decide) (by decide)).trans rF_s, (kf 12 (by omega)).trans f3⟩
    · rw [← k7]
      exact relE_set (show RelE (tnR B n (tokR B n (rF R 11 1) (sp B (q + 8))) (sp B (q + 8)) 1 99).2.2.1 G from by rw [show (tnR B n (tokR B n (rF R 11 1) (sp B (q + 8))) (sp B (q + 8)) 1 99).2.2.1 = R.2.2.1 from congrArg (fun z : ZD × ES × ZD => z.2.1) k1]; exact hR) (Or.inr (Or.inr ⟨rfl, rfl⟩))
    · exact (congrArg (fun z : ZD × ES × ZD => z.2.1.2.2.2) k1).trans hg
    · intro j hj
      exact (congrFun (congrArg (fun z : ZD × ES × ZD => z.2.2) k1) j).trans (c3 j hj)
set_option maxRecDepth 100000 in
set_option maxHeartbeats 4000000 in
theorem cx_X3_readWait {l : Launch} {Γ : ZG} {w : ZW} {r : Nat} {B : ZB} {n : Nat} {T : ZD} (hB : BB T n = B) (hT : TB B n) {R : RS} {q : Nat} {G : ZD} {a b c : Bool} {cs : List Int32} (h : OkQ B n T R q G (a, b, c) cs) (hw0 : ¬ wd B "party" q) (hw : wd B "wait" q) (ha : a = false) : Ct l Γ mX3_readWait 4 0 0 [.ref r] (wZ Γ w r R) (PvX Γ w r (ResQ B n T (stm B (q, G, (a, b, c), cs)))) zNo := by
  obtain ⟨⟨t1, t2, t3⟩, ⟨hA, hqn⟩, ⟨e1, e2⟩, ⟨hR, hg⟩, ⟨c1, c2, c3⟩, f1, f2, f3⟩ := h
  have hn6 := hT.1
  have hpw := ps_wd hT lt_wait hw
  have hq5 : q + 4 ≤ n := by have := (ps_le hT hqn).1; rw [hpw.1] at this; exact this
  have hs1 := sp_le hT hq5
  have hg1 := sp_ge (B := B) (p := q + 4)
  have hs2 := sp_le hT (ps_le hT hs1).1
  have tn5 : (tnR B n (tokR B n (rF R 10 1) (sp B (q + 4))) (sp B (q + 4)) 1 99).1 5 = (rF R 10 1).1 5 := (tok_o (by decide)).trans ((num_j (by decide)).trans (tok_o (by decide)))
  have tnT : (tnR B n (tokR B n (rF R 10 1) (sp B (q + 4))) (sp B (q + 4)) 1 99).2.1 = T := by
    show (numR (tokR B n (rF R 10 1) (sp B (q + 4))) (nI 1) (nI 99)).2.1 = T
    rw [num_snd]
    exact t1
  refine Ct.of (by decide) rfl (Nat.le_of_ble_eq_true rfl) ?_
  refine go_aload_n 1 dX3_readWait_0 rfl ?_
  refine go_iconst 2 dX3_readWait_1 zc_1 ?_
  refine xs_put 10 5 dX3_readWait_2 pX3_39 (by decide) rfl rfl ?_
  refine go_aload_n 6 dX3_readWait_5 rfl ?_
  refine gcV0v 9 dX3_readWait_6 vX3_58 wZ_at0 rfl (ct_X3_nextToken (R := rF R 10 1) (p := q + 4) t3 (by first | exact (congrArg (fun z => BB z n) t1).trans hB | (show BB R.2.1 n = B; rw [t1]; exact hB)) hT (hA.2.2.1.trans (congrArg nI hpw.1)) hq5) ?_
  refine go_aload_n 10 dX3_readWait_9 rfl ?_
  refine xs_get 13 dX3_readWait_10 fX3_18 rfl ?_
  refine go_aload_n 14 dX3_readWait_13 rfl ?_
  refine go_iconst 15 dX3_readWait_14 zc_1 ?_
  refine go_bipush 17 dX3_readWait_15 zb_99 ?_
  refine gcV2 20 dX3_readWait_17 vX3_124 wZ_at0 rfl (ct_X3_takeNumber (R := (tokR B n (rF R 10 1) (sp B (q + 4)))) (p := ps B n (sp B (q + 4))) (lo := nI 1) (hi := nI 99) (B := B) (n := n) (by exact t3) (by show BB R.2.1 n = B; rw [t1]; exact hB) hT rfl (ps_le hT hs1).1) ?_
  refine xz_putE 6 23 dX3_readWait_20 pX3_132 (by decide) ?_
  refine go_aload_n 24 dX3_readWait_23 rfl ?_
  refine xs_get 27 dX3_readWait_24 fX3_18 rfl ?_
  refine go_aload_n 28 dX3_readWait_27 rfl ?_
  refine go_iconst 29 dX3_readWait_28 zc_1 ?_
  refine go_bipush 31 dX3_readWait_29 zb_99 ?_
  refine gcV2 34 dX3_readWait_31 vX3_124 wZ_at0 rfl (ct_X3_takeNumber (R := (rE (tnR B n (tokR B n (rF R 10 1) (sp B (q + 4))) (sp B (q + 4)) 1 99) (ef (tnR B n (tokR B n (rF R 10 1) (sp B (q + 4))) (sp B (q + 4)) 1 99).2.2.1 6 ((tokR B n (rF R 10 1) (sp B (q + 4))).1 9)))) (p := ps B n (sp B (ps B n (sp B (q + 4))))) (lo := nI 1) (hi := nI 99) (B := B) (n := n) (by exact tn5.trans ((rF_n (R := R) (j := 10) (v := 1) (by decide)).trans t3)) (by show BB (tnR B n (tokR B n (rF R 10 1) (sp B (q + 4))) (sp B (q + 4)) 1 99).2.1 n = B; rw [tnT]; exact hB) hT (tok_At (B := B) (n := n) (R := numR (tokR B n (rF R 10 1) (sp B (q + 4))) (nI 1) (nI 99))).2.2.1 (ps_le hT hs2).1) ?_
  refine xz_putE 7 37 dX3_readWait_34 pX3_135 (by decide) ?_
  refine go_return dX3_readWait_37 rfl (by omega) (by omega) ⟨rfl, _, rfl, ?_⟩
  have hstm : stm B (q, G, (a, b, c), cs) = (match num B 1 99 (sp B (q + 4)) with
    | .inl e => .inl e
    | .inr r1 => (match num B 1 99 r1.1 with
      | .inl e => .inl e
      | .inr r2 => .inr (r2.1, upd (upd G 1 (nI r1.2)) 2 (nI r2.2), (true, b, c), cs))) := by
    unfold stm
    rw [if_neg hw0, if_pos ⟨hw, ha⟩]
    rfl
  rw [hstm]
  have g0 : GdN B n (rF R 10 1) (tokR B n (rF R 10 1) (sp B (q + 4))) (sp B (q + 4)) := ⟨frn_tok, tok_At, hs1, (tok_o (by decide)).trans ((rF_n (by decide)).trans e1), (tok_o (by decide)).trans ((rF_n (by decide)).trans e2)⟩
  have g1 := tn_ok hT (lo := 1) (hi := 99) (by decide) (by decide) g0
  have er : ∀ (E6 : ES) (X : RS) (e : Int32 × Nat) (q9 : Nat), ErN B n (rE (rF R 10 1) E6) X e q9 → ∀ E9, ErQ B n T (rE X E9) e := fun E6 X e q9 g E9 => by
    obtain ⟨⟨k1, k2⟩, k3, k4, k5, k6, k7⟩ := g
    exact ⟨⟨(congrArg (fun z => z.1) k1).trans t1, (k2 1 (by decide) (by decide) (by decide) (by decide) (by decide) (by decide)).trans ((rF_n (R := R) (j := 10) (v := 1) (by decide)).trans t2), (k2 5 (by decide) (by decide) (by decide) (by decide) (by decide) (by decide)).trans ((rF_n (R := R) (j := 10) (v := 1) (by decide)).trans t3)⟩, ⟨_, k4, k3⟩, k5, k6, k7⟩
  cases hr : num B 1 99 (sp B (q + 4)) with
  | inl e =>
    rw [hr] at g1
    have g1 : ErN B n (rF R 10 1) (tnR B n (tokR B n (rF R 10 1) (sp B (q + 4))) (sp B (q + 4)) 1 99) e (sp B (ps B n (sp B (q + 4)))) := g1
    exact er _ _ e _ (tn_er hT (lo := 1) (hi := 99) (g1.rE (ef (tnR B n (tokR B n (rF R 10 1) (sp B (q + 4))) (sp B (q + 4)) 1 99).2.2.1 6 ((tokR B n (rF R 10 1) (sp B (q + 4))).1 9)))) _
  | inr r1 =>
    rw [hr] at g1
    obtain ⟨k0, k9, g2, v1⟩ := g1
    rw [k0] at g2
    have g2b : GdN B n (rE (rF R 10 1) (ef (tnR B n (tokR B n (rF R 10 1) (sp B (q + 4))) (sp B (q + 4)) 1 99).2.2.1 6 ((tokR B n (rF R 10 1) (sp B (q + 4))).1 9))) (rE (tnR B n (tokR B n (rF R 10 1) (sp B (q + 4))) (sp B (q + 4)) 1 99) (ef (tnR B n (tokR B n (rF R 10 1) (sp B (q + 4))) (sp B (q + 4)) 1 99).2.2.1 6 ((tokR B n (rF R 10 1) (sp B (q + 4))).1 9))) (sp B (ps B n (sp B (q + 4)))) := g2.rE _
    have g3 := tn_ok hT (lo := 1) (hi := 99) (by decide) (by decide) g2b
    show ResQ B n T (match num B 1 99 r1.1 with
      | .inl e => .inl e
      | .inr r2 => .inr (r2.1, upd (upd G 1 (nI r1.2)) 2 (nI r2.2), (true, b, c), cs)) _
    rw [k0]
    cases hr2 : num B 1 99 (sp B (ps B n (sp B (q + 4)))) with
    | inl e =>
      rw [hr2] at g3
      exact er _ _ e _ g3 _
    | inr r2 =>
      rw [hr2] at g3
      obtain ⟨-, k8, ⟨⟨k1, k2⟩, k3, k4, k5, k6⟩, v2⟩ := g3
      have kf : ∀ j, j = 1 ∨ j = 4 ∨ j = 5 ∨ j = 11 ∨ j = 12 → (tnR B n (rE (tnR B n (tokR B n (rF R 10 1) (sp B (q + 4))) (sp B (q + 4)) 1 99) (ef (tnR B n (tokR B n (rF R 10 1) (sp B (q + 4))) (sp B (q + 4)) 1 99).2.2.1 6 ((tokR B n (rF R 10 1) (sp B (q + 4))).1 9))) (sp B (ps B n (sp B (q + 4)))) 1 99).1 j = R.1 j := fun j hj => (k2 j (by omega) (by omega) (by omega) (by omega) (by omega) (by omega)).trans (rF_n (R := R) (j := 10) (v := 1) (by omega))
      have hge := (ps_le hT hs1).2
      have hge2 := sp_ge (B := B) (p := ps B n (sp B (q + 4)))
      refine ⟨⟨(congrArg (fun z => z.1) k1).trans t1, (kf 1 (by omega)).trans t2, (kf 5 (by omega)).trans t3⟩, ⟨k3, k4⟩, ⟨k5, k6⟩, ⟨?_, ?_⟩, ⟨(kf 4 (by omega)).trans c1, by show cs.length + 1 ≤ r2.1; omega, ?_⟩, (k2 10 (by decide) (by decide) (by decide) (by decide) (by decide) (by decide)).trans (rF_s (R := R) (j := 10) (v := 1)), (kf 11 (by omega)).trans f2, (kf 12 (by omega)).trans f3⟩
      · rw [← v2, ← v1]
        have hE : (tnR B n (rE (tnR B n (tokR B n (rF R 10 1) (sp B (q + 4))) (sp B (q + 4)) 1 99) (ef (tnR B n (tokR B n (rF R 10 1) (sp B (q + 4))) (sp B (q + 4)) 1 99).2.2.1 6 ((tokR B n (rF R 10 1) (sp B (q + 4))).1 9))) (sp B (ps B n (sp B (q + 4)))) 1 99).2.2.1 = ef (tnR B n (tokR B n (rF R 10 1) (sp B (q + 4))) (sp B (q + 4)) 1 99).2.2.1 6 ((tokR B n (rF R 10 1) (sp B (q + 4))).1 9) := congrArg (fun z => z.2.1) k1
        have hE0 : (tnR B n (tokR B n (rF R 10 1) (sp B (q + 4))) (sp B (q + 4)) 1 99).2.2.1 = R.2.2.1 := congrArg (fun z => z.2.1) g2.1.1
        refine relE_set (j := 7) ?_ (Or.inr (Or.inl ⟨rfl, rfl⟩))
        show RelE (tnR B n (rE (tnR B n (tokR B n (rF R 10 1) (sp B (q + 4))) (sp B (q + 4)) 1 99) (ef (tnR B n (tokR B n (rF R 10 1) (sp B (q + 4))) (sp B (q + 4)) 1 99).2.2.1 6 ((tokR B n (rF R 10 1) (sp B (q + 4))).1 9))) (sp B (ps B n (sp B (q + 4)))) 1 99).2.2.1 _
        rw [hE, hE0]
        exact relE_set hR (Or.inl ⟨rfl, rfl⟩)
      · have hE : (tnR B n (rE (tnR B n (tokR B n (rF R 10 1) (sp B (q + 4))) (sp B (q + 4)) 1 99) (ef (tnR B n (tokR B n (rF R 10 1) (sp B (q + 4))) (sp B (q + 4)) 1 99).2.2.1 6 ((tokR B n (rF R 10 1) (sp B (q + 4))).1 9))) (sp B (ps B n (sp B (q + 4)))) 1 99).2.2.1 = ef (tnR B n (tokR B n (rF R 10 1) (sp B (q + 4))) (sp B (q + 4)) 1 99).2.2.1 6 ((tokR B n (rF R 10 1) (sp B (q + 4))).1 9) := congrArg (fun z => z.2.1) k1
        have hE0 : (tnR B n (tokR B n (rF R 10 1) (sp B (q + 4))) (sp B (q + 4)) 1 99).2.2.1 = R.2.2.1 := congrArg (fun z => z.2.1) g2.1.1
        show (tnR B n (rE (tnR B n (tokR B n (rF R 10 1) (sp B (q + 4))) (sp B (q + 4)) 1 99) (ef (tnR B n (tokR B n (rF R 10 1) (sp B (q + 4))) (sp B (q + 4)) 1 99).2.2.1 6 ((tokR B n (rF R 10 1) (sp B (q + 4))).1 9))) (sp B (ps B n (sp B (q + 4)))) 1 99).2.2.1.2.2.2 = none
        rw [hE, hE0]
        exact hg
      · intro j hj
        have hc0 : (tnR B n (tokR B n (rF R 10 1) (sp B (q + 4))) (sp B (q + 4)) 1 99).2.2.2 = R.2.2.2 := congrArg (fun z : ZD × ES × ZD => z.2.2) g2.1.1
        exact (congrFun (congrArg (fun z : ZD × ES × ZD => z.2.2) k1) j).trans (c3 j hj)
def t1R (B : ZB) (n : Nat) (R : RS) (q : Nat) : RS := tokR B n R (sp B (q + 5))
def t2R (B : ZB) (n : Nat) (R : RS) (q : Nat) : RS := tnR B n (t1R B n R q) (sp B (q + 5)) 0 99
def t3R (B : ZB) (n : Nat) (R : RS) (q : Nat) : RS := tnR B n (t2R B n R q) (sp B (ps B n (sp B (q + 5)))) 0 99
def t4R (B : ZB) (n : Nat) (R : RS) (q : Nat) : RS := tnR B n (t3R B n R q) (sp B (ps B n (sp B (ps B n (sp B (q + 5)))))) 0 999
theorem tn_fr {B : ZB} {n : Nat} {R : RS} {q lo hi : Nat} : FrN R (tnR B n R q lo hi) := frn_num.trans frn_tok
theorem t4_fr {B : ZB} {n : Nat} {R : RS} {q : Nat} : FrN R (t1R B n R q) ∧ FrN R (t2R B n R q) ∧ FrN R (t3R B n R q) ∧ FrN R (t4R B n R q) := ⟨frn_tok, frn_tok.trans tn_fr, (frn_tok.trans tn_fr).trans tn_fr, ((frn_tok.trans tn_fr).trans tn_fr).trans tn_fr⟩
theorem FrN.lenT {B : ZB} {n : Nat} {T : ZD} {R R1 : RS} (h : FrN R R1) (t3 : R.1 5 = nI n) (t1 : R.2.1 = T) (hB : BB T n = B) : R1.1 5 = nI n ∧ BB R1.2.1 n = B := ⟨(h.2 5 (by decide) (by decide) (by decide) (by decide) (by decide) (by decide)).trans t3, by rw [h.1, t1]; exact hB⟩
set_option maxRecDepth 100000 in
set_option maxHeartbeats 4000000 in
theorem cx_X3_readParty {l : Launch} {Γ : ZG} {w : ZW} {r : Nat} {B : ZB} {n : Nat} {T : ZD} (hB : BB T n = B) (hT : TB B n) {R : RS} {q : Nat} {G : ZD} {a b c : Bool} {cs : List Int32} (h : OkQ B n T R q G (a, b, c) cs) (hw : wd B "party" q) (h4 : G 4 = nI (nP G)) (hP10 : nP G ≤ 10) (hz : G 5 = 0 ∧ G 6 = 0) : Ct l Γ mX3_readParty 4 0 0 [.ref r] (wZ Γ w r R) (PvX Γ w r (ResQ B n T (stm B (q, G, (a, b, c), cs)))) zNo := by
  obtain ⟨⟨t1, t2, t3⟩, ⟨hA, hqn⟩, ⟨e1, e2⟩, ⟨hR, hg⟩, ⟨c1, c2, c3⟩, f1, f2, f3⟩ := h
  have hn6 := hT.1
  have hpw := ps_wd hT lt_party hw
  have hq5 : q + 5 ≤ n := by have := (ps_le hT hqn).1; rw [hpw.1] at this; exact this
  have hs1 := sp_le hT hq5
  have hg1 := sp_ge (B := B) (p := q + 5)
  have hs2 := sp_le hT (ps_le hT hs1).1
  have hs3 := sp_le hT (ps_le hT hs2).1
  have hrows : R.2.2.1.2.1 0 = nI (nP G) := hR.1.1.trans h4
  refine Ct.of (by decide) rfl (Nat.le_of_ble_eq_true rfl) ?_
  refine go_aload_n 1 dX3_readParty_0 rfl ?_
  refine xs_get 4 dX3_readParty_1 fX3_18 rfl ?_
  refine go_get 7 dX3_readParty_4 fX3_115 (wZ_ex 0 (by decide)) rfl ?_
  refine go_get (v := .int (nI (nP G))) 10 dX3_readParty_7 fX3_119 (wZ_ex 1 (by decide)) (by show some (Value.int (R.2.2.1.2.1 0)) = _; rw [hrows]) ?_
  refine go_bipush 12 dX3_readParty_10 zb_10 ?_
  refine go_w (w' := wZ Γ w r R) rfl ?_
  refine go_icmp_lt 22 15 dX3_readParty_12 (fun h12 => ?_) (fun h12 => ?_)
  · have hm10 : nP G < 10 := Nat.lt_of_not_le fun z => nI_nlt (b := 10) z (by omega) (by first | exact h12 | exact Classical.not_not.mp h12)
    refine go_aload_n 23 dX3_readParty_22 rfl ?_
    refine gcV0v 26 dX3_readParty_23 vX3_58 wZ_at0 rfl (ct_X3_nextToken (R := R) (p := q + 5) t3 (by first | exact (congrArg (fun z => BB z n) t1).trans hB | (show BB R.2.1 n = B; rw [t1]; exact hB)) hT (hA.2.2.1.trans (congrArg nI hpw.1)) hq5) ?_
    refine go_w (w' := wZ Γ w r (t1R B n R q)) rfl ?_
    refine go_aload_n 27 dX3_readParty_26 rfl ?_
    refine go_iconst 28 dX3_readParty_27 zc_0 ?_
    refine go_bipush 30 dX3_readParty_28 zb_99 ?_
    refine gcV2 33 dX3_readParty_30 vX3_124 wZ_at0 rfl (ct_X3_takeNumber (R := t1R B n R q) (p := ps B n (sp B (q + 5))) (lo := nI 0) (hi := nI 99) (B := B) (n := n) (FrN.lenT t4_fr.1 t3 t1 hB).1 (FrN.lenT t4_fr.1 t3 t1 hB).2 hT (show (t1R B n R q).1 6 = _ from (tok_At (B := B)).2.2.1) (ps_le hT hs1).1) ?_
    refine go_w (w' := wZ Γ w r (t2R B n R q)) rfl ?_
    refine go_istore_n 34 dX3_readParty_33 (by decide) ?_
    refine go_aload_n 35 dX3_readParty_34 rfl ?_
    refine go_iconst 36 dX3_readParty_35 zc_0 ?_
    refine go_bipush 38 dX3_readParty_36 zb_99 ?_
    refine gcV2 41 dX3_readParty_38 vX3_124 wZ_at0 rfl (ct_X3_takeNumber (R := t2R B n R q) (p := ps B n (sp B (ps B n (sp B (q + 5))))) (lo := nI 0) (hi := nI 99) (B := B) (n := n) (FrN.lenT t4_fr.2.1 t3 t1 hB).1 (FrN.lenT t4_fr.2.1 t3 t1 hB).2 hT (show (t2R B n R q).1 6 = _ from (tok_At (B := B)).2.2.1) (ps_le hT hs2).1) ?_
    refine go_w (w' := wZ Γ w r (t3R B n R q)) rfl ?_
    refine go_istore_n 42 dX3_readParty_41 (by decide) ?_
    refine go_aload_n 43 dX3_readParty_42 rfl ?_
    refine go_iconst 44 dX3_readParty_43 zc_0 ?_
    refine go_sipush 47 dX3_readParty_44 zs_999 ?_
    refine gcV2 50 dX3_readParty_47 vX3_124 wZ_at0 rfl (ct_X3_takeNumber (R := t3R B n R q) (p := ps B n (sp B (ps B n (sp B (ps B n (sp B (q + 5))))))) (lo := nI 0) (hi := nI 999) (B := B) (n := n) (FrN.lenT t4_fr.2.2.1 t3 t1 hB).1 (FrN.lenT t4_fr.2.2.1 t3 t1 hB).2 hT (show (t3R B n R q).1 6 = _ from (tok_At (B := B)).2.2.1) (ps_le hT hs3).1) ?_
    refine go_w (w' := wZ Γ w r (t4R B n R q)) rfl ?_
    have hrow4 : (t4R B n R q).2.2.1.2.1 0 = nI (nP G) := by rw [t4_fr.2.2.2.1]; exact hrows
    refine go_istore_n 51 dX3_readParty_50 (by decide) ?_
    refine go_aload_n 52 dX3_readParty_51 rfl ?_
    refine xs_get 55 dX3_readParty_52 fX3_18 rfl ?_
    refine go_iload_n 56 dX3_readParty_55 rfl ?_
    refine go_iload_n 57 dX3_readParty_56 rfl ?_
    refine go_iload_n 58 dX3_readParty_57 rfl ?_
    refine gcV3v 61 dX3_readParty_58 vX3_128 (wZ_ex 0 (by decide)) rfl (by rw [← wZ_self]; exact cx_X0_addParty hrow4 hm10) ?_
    rw [wZ_E]
    refine go_return dX3_readParty_61 rfl (by omega) (by omega) ⟨rfl, _, rfl, ?_⟩
    have hstm : stm B (q, G, (a, b, c), cs) = (match num B 0 99 (sp B (q + 5)) with
      | .inl e => .inl e
      | .inr r1 => (match num B 0 99 r1.1 with
        | .inl e => .inl e
        | .inr r2 => (match num B 0 999 r2.1 with
          | .inl e => .inl e
          | .inr r3 => .inr (r3.1, addP G (nI r1.2) (nI r2.2) (nI r3.2), (a, b, c), cs)))) := by
      unfold stm
      rw [if_pos hw, if_neg (fun z => by
        have z : G 4 = 10 := z
        rw [h4] at z
        have := (nI_eq (b := 10) (by omega) (by decide)).mp z
        omega)]
      rfl
    rw [hstm]
    have er : ∀ (e : Int32 × Nat) (q9 : Nat), ErN B n R (t4R B n R q) e q9 → ∀ E9, ErQ B n T (rE (t4R B n R q) E9) e := fun e q9 g E9 => by
      obtain ⟨⟨k1, k2⟩, k3, k4, k5, k6, k7⟩ := g
      exact ⟨⟨(congrArg (fun z => z.1) k1).trans t1, (k2 1 (by decide) (by decide) (by decide) (by decide) (by decide) (by decide)).trans t2, (k2 5 (by decide) (by decide) (by decide) (by decide) (by decide) (by decide)).trans t3⟩, ⟨_, k4, k3⟩, k5, k6, k7⟩
    have g0 : GdN B n R (t1R B n R q) (sp B (q + 5)) := ⟨frn_tok, tok_At, hs1, (tok_o (by decide)).trans e1, (tok_o (by decide)).trans e2⟩
    have g1 := tn_ok hT (lo := 0) (hi := 99) (by decide) (by decide) g0
    cases hr1 : num B 0 99 (sp B (q + 5)) with
    | inl e =>
      rw [hr1] at g1
      exact er e _ (tn_er hT (lo := 0) (hi := 999) (tn_er hT (lo := 0) (hi := 99) g1)) _
    | inr r1 =>
      rw [hr1] at g1
      obtain ⟨k0, l1, g2, v1⟩ := g1
      rw [k0] at g2 l1
      have g3 := tn_ok hT (lo := 0) (hi := 99) (by decide) (by decide) g2
      show ResQ B n T (match num B 0 99 r1.1 with
        | .inl e => .inl e
        | .inr r2 => (match num B 0 999 r2.1 with
          | .inl e => .inl e
          | .inr r3 => .inr (r3.1, addP G (nI r1.2) (nI r2.2) (nI r3.2), (a, b, c), cs))) _
      rw [k0]
      cases hr2 : num B 0 99 (sp B (ps B n (sp B (q + 5)))) with
      | inl e =>
        rw [hr2] at g3
        exact er e _ (tn_er hT (lo := 0) (hi := 999) g3) _
      | inr r2 =>
        rw [hr2] at g3
        obtain ⟨k8, l2, g4, v2⟩ := g3
        rw [k8] at g4 l2
        have g5 := tn_ok hT (lo := 0) (hi := 999) (by decide) (by decide) g4
        show ResQ B n T (match num B 0 999 r2.1 with
          | .inl e => .inl e
          | .inr r3 => .inr (r3.1, addP G (nI r1.2) (nI r2.2) (nI r3.2), (a, b, c), cs)) _
        rw [k8]
        cases hr3 : num B 0 999 (sp B (ps B n (sp B (ps B n (sp B (q + 5)))))) with
        | inl e =>
          rw [hr3] at g5
          exact er e _ g5 _
        | inr r3 =>
          rw [hr3] at g5
          obtain ⟨-, l3, ⟨⟨k1, k2⟩, k3, k4, k5, k6⟩, v3⟩ := g5
          have k1 : (t4R B n R q).2 = R.2 := k1
          have kf : ∀ j, j = 1 ∨ j = 4 ∨ j = 5 ∨ j = 10 ∨ j = 11 ∨ j = 12 → (t4R B n R q).1 j = R.1 j := fun j hj => k2 j (by omega) (by omega) (by omega) (by omega) (by omega) (by omega)
          refine ⟨⟨(congrArg (fun z => z.1) k1).trans t1, (kf 1 (by omega)).trans t2, (kf 5 (by omega)).trans t3⟩, ⟨k3, k4⟩, ⟨k5, k6⟩, ⟨?_, ?_⟩, ⟨(kf 4 (by omega)).trans c1, by show cs.length + 1 ≤ r3.1; omega, ?_⟩, (kf 10 (by omega)).trans f1, (kf 11 (by omega)).trans f2, (kf 12 (by omega)).trans f3⟩
          · show RelE (aP (t4R B n R q).2.2.1 (nP G) ((t1R B n R q).1 9) ((t2R B n R q).1 9) ((t3R B n R q).1 9)) (addP G (nI r1.2) (nI r2.2) (nI r3.2))
            rw [← v1, ← v2, ← v3, k1]
            exact aP_rel hR h4 hm10 hz
          · show (aP (t4R B n R q).2.2.1 (nP G) ((t1R B n R q).1 9) ((t2R B n R q).1 9) ((t3R B n R q).1 9)).2.2.2 = none
            rw [k1]
            exact hg
          · intro j hj
            exact (congrFun (congrArg (fun z : ZD × ES × ZD => z.2.2) k1) j).trans (c3 j hj)
  · have h10 : ¬ nP G < 10 := fun z => h12 (nI_lt (b := 10) z (by decide))
    have h4e : G 4 = 10 := by rw [h4, show nP G = 10 by omega]; rfl
    refine go_aload_n 16 dX3_readParty_15 rfl ?_
    refine go_bipush 18 dX3_readParty_16 zb_m4 ?_
    refine gcV1v 21 dX3_readParty_18 vX3_67 wZ_at0 rfl (ct_X3_fail) ?_
    exact go_return dX3_readParty_21 rfl (by omega) (by omega) (⟨rfl, _, rfl, by
      have hstm : stm B (q, G, (a, b, c), cs) = .inl (-4, q) := by
        unfold stm
        rw [if_pos hw, if_pos h4e]
      rw [hstm]
      have ef : failC R (-4) = rF (rF R 13 (-4)) 14 (R.1 8) := if_pos e1
      refine ⟨⟨by rw [fail_snd]; exact t1, (fail_j (by decide)).trans t2, (fail_j (by decide)).trans t3⟩, ⟨q, hqn, hA.fail⟩, ?_, (show (-4 : Int32) ≠ 0 by decide), ?_⟩
      · rw [ef]; exact (rF_n (by decide)).trans rF_s
      · rw [ef]; exact rF_s.trans hA.1⟩)
theorem bI_f {b : Bool} (h : bI b = 0) : b = false := by
  cases b with
  | false => rfl
  | true => exact absurd h (by decide)
theorem relE_7 {E : ES} {G : ZD} {v : Int32} (h : RelE E G) : RelE E (upd G 7 v) := by
  obtain ⟨a1, a2, a3, a4, a5, a6, a7⟩ := h
  exact ⟨a1, a2, fun p m hp hm => (a3 p m hp hm).trans (show dP (upd G 7 v) p m = dP G p m from if_neg (by omega)).symm, fun p m hp hm => (a4 p m hp hm).trans (show dC (upd G 7 v) p m = dC G p m from if_neg (by omega)).symm, fun p hp => (a5 p hp).trans (show dC (upd G 7 v) p 4 = dC G p 4 from if_neg (by omega)).symm, fun p m hp hm => (a6 p m hp hm).trans (show dL (upd G 7 v) p m = dL G p m from if_neg (by omega)).symm, fun m hm => (a7 m hm).trans (pk_un (by omega)).symm⟩
set_option maxRecDepth 100000 in
set_option maxHeartbeats 4000000 in
theorem cx_X3_readStatement {l : Launch} {Γ : ZG} {w : ZW} {r : Nat} {B : ZB} {n : Nat} {T : ZD} (hB : BB T n = B) (hT : TB B n) {R : RS} {q : Nat} {G : ZD} {a b c : Bool} {cs : List Int32} (h : OkQ B n T R q G (a, b, c) cs) (h4 : G 4 = nI (nP G)) (hP10 : nP G ≤ 10) (hz : G 5 = 0 ∧ G 6 = 0) : Ct l Γ mX3_readStatement 23 0 0 [.ref r] (wZ Γ w r R) (PvX Γ w r (ResQ B n T (stm B (q, G, (a, b, c), cs)))) zNo := by
  have hn6 := hT.1
  refine Ct.of (by decide) rfl (Nat.le_of_ble_eq_true rfl) ?_
  refine go_aload_n 1 dX3_readStatement_0 rfl ?_
  refine go_ldcS 3 dX3_readStatement_1 sX3_96 ?_
  refine gcV1 6 dX3_readStatement_3 vX3_63 wZ_at0 rfl (ct_X3_atWord h.1.2.2 (by rw [h.1.1]; exact hB) hT h.2.1.1 h.2.1.2 sX3_96 lt_party) ?_
  refine go_if_eq 16 9 dX3_readStatement_6 (fun h6 => ?_) (fun h6 => ?_)
  · refine go_aload_n 17 dX3_readStatement_16 rfl ?_
    refine go_ldcS 19 dX3_readStatement_17 sX3_101 ?_
    refine gcV1 22 dX3_readStatement_19 vX3_63 wZ_at0 rfl (ct_X3_atWord h.1.2.2 (by rw [h.1.1]; exact hB) hT h.2.1.1 h.2.1.2 sX3_101 lt_wait) ?_
    refine go_if_eq 39 25 dX3_readStatement_22 (fun h22 => ?_) (fun h22 => ?_)
    · have hw1 : ¬ (wd B "wait" q ∧ a = false) := (fun z : wd B "wait" q ∧ a = false => by
        first
        | exact zb_0 (by first | exact h22 | exact Classical.not_not.mp h22) z.1
        | exact absurd (by first | exact h29 | exact Classical.not_not.mp h29) (by rw [h.2.2.2.2.2.1, z.2]; show ¬ ¬ bI false = 0; decide))
      refine go_aload_n 40 dX3_readStatement_39 rfl ?_
      refine go_ldcS 42 dX3_readStatement_40 sX3_106 ?_
      refine gcV1 45 dX3_readStatement_42 vX3_63 wZ_at0 rfl (ct_X3_atWord h.1.2.2 (by rw [h.1.1]; exact hB) hT h.2.1.1 h.2.1.2 sX3_106 lt_patience) ?_
      refine go_if_eq 62 48 dX3_readStatement_45 (fun h45 => ?_) (fun h45 => ?_)
      · have hw2 : ¬ (wd B "patience" q ∧ b = false) := (fun z => by
          first
          | exact zb_0 (by first | exact h45 | exact Classical.not_not.mp h45) z.1
          | exact absurd (by first | exact h52 | exact Classical.not_not.mp h52) (by rw [h.2.2.2.2.2.2.1, z.2]; show ¬ ¬ bI false = 0; decide))
        refine go_aload_n 63 dX3_readStatement_62 rfl ?_
        refine go_ldcS 65 dX3_readStatement_63 sX3_111 ?_
        refine gcV1 68 dX3_readStatement_65 vX3_63 wZ_at0 rfl (ct_X3_atWord h.1.2.2 (by rw [h.1.1]; exact hB) hT h.2.1.1 h.2.1.2 sX3_111 lt_ring) ?_
        refine go_if_eq 95 71 dX3_readStatement_68 (fun h68 => ?_) (fun h68 => ?_)
        · have hw3 : ¬ (wd B "ring" q ∧ c = false) := (fun z => by
            first
            | exact zb_0 (by first | exact h68 | exact Classical.not_not.mp h68) z.1
            | exact absurd (by first | exact h75 | exact Classical.not_not.mp h75) (by rw [h.2.2.2.2.2.2.2, z.2]; show ¬ ¬ bI false = 0; decide))
          refine go_aload_n 96 dX3_readStatement_95 rfl ?_
          refine go_bipush 98 dX3_readStatement_96 zb_m2 ?_
          refine gcV1v 101 dX3_readStatement_98 vX3_67 wZ_at0 rfl (ct_X3_fail) ?_
          refine go_return dX3_readStatement_101 rfl (by omega) (by omega) ⟨rfl, _, rfl, ?_⟩
          have hstm : stm B (q, G, (a, b, c), cs) = .inl (-2, q) := by
            unfold stm
            rw [if_neg (zb_0 (by first | exact h6 | exact Classical.not_not.mp h6)), if_neg hw1, if_neg hw2, if_neg hw3]
          rw [hstm]
          obtain ⟨⟨t1, t2, t3⟩, ⟨hA, hqn⟩, ⟨e1, e2⟩, -⟩ := h
          have ef : failC R (-2) = rF (rF R 13 (-2)) 14 (R.1 8) := if_pos e1
          refine ⟨⟨by rw [fail_snd]; exact t1, (fail_j (by decide)).trans t2, (fail_j (by decide)).trans t3⟩, ⟨q, hqn, hA.fail⟩, ?_, (show (-2 : Int32) ≠ 0 by decide), ?_⟩
          · rw [ef]; exact (rF_n (by decide)).trans rF_s
          · rw [ef]; exact rF_s.trans hA.1
        · refine go_aload_n 72 dX3_readStatement_71 rfl ?_
          refine xs_get 75 dX3_readStatement_72 fX3_46 rfl ?_
          refine go_if_ne 95 78 dX3_readStatement_75 (fun h75 => ?_) (fun h75 => ?_)
          · have hw3 : ¬ (wd B "ring" q ∧ c = false) := (fun z => by
              first
              | exact zb_0 (by first | exact h68 | exact Classical.not_not.mp h68) z.1
              | exact absurd (by first | exact h75 | exact Classical.not_not.mp h75) (by rw [h.2.2.2.2.2.2.2, z.2]; show ¬ ¬ bI false = 0; decide))
            refine go_aload_n 96 dX3_readStatement_95 rfl ?_
            refine go_bipush 98 dX3_readStatement_96 zb_m2 ?_
            refine gcV1v 101 dX3_readStatement_98 vX3_67 wZ_at0 rfl (ct_X3_fail) ?_
            refine go_return dX3_readStatement_101 rfl (by omega) (by omega) ⟨rfl, _, rfl, ?_⟩
            have hstm : stm B (q, G, (a, b, c), cs) = .inl (-2, q) := by
              unfold stm
              rw [if_neg (zb_0 (by first | exact h6 | exact Classical.not_not.mp h6)), if_neg hw1, if_neg hw2, if_neg hw3]
            rw [hstm]
            obtain ⟨⟨t1, t2, t3⟩, ⟨hA, hqn⟩, ⟨e1, e2⟩, -⟩ := h
            have ef : failC R (-2) = rF (rF R 13 (-2)) 14 (R.1 8) := if_pos e1
            refine ⟨⟨by rw [fail_snd]; exact t1, (fail_j (by decide)).trans t2, (fail_j (by decide)).trans t3⟩, ⟨q, hqn, hA.fail⟩, ?_, (show (-2 : Int32) ≠ 0 by decide), ?_⟩
            · rw [ef]; exact (rF_n (by decide)).trans rF_s
            · rw [ef]; exact rF_s.trans hA.1
          · have hwr := zb_1 h68
            have hc0 : c = false := bI_f (h.2.2.2.2.2.2.2.symm.trans (by first | exact h75 | exact Classical.not_not.mp h75))
            obtain ⟨⟨t1, t2, t3⟩, ⟨hA, hqn⟩, ⟨e1, e2⟩, ⟨hR, hg⟩, ⟨c1, c2, c3⟩, f1, f2, f3⟩ := h
            have hpw := ps_wd hT lt_ring hwr
            have hq5 : q + 4 ≤ n := by have := (ps_le hT hqn).1; rw [hpw.1] at this; exact this
            have hs1 := sp_le hT hq5
            have hg1 := sp_ge (B := B) (p := q + 4)
            refine go_aload_n 79 dX3_readStatement_78 rfl ?_
            refine go_iconst 80 dX3_readStatement_79 zc_1 ?_
            refine xs_put 12 83 dX3_readStatement_80 pX3_46 (by decide) rfl rfl ?_
            refine go_aload_n 84 dX3_readStatement_83 rfl ?_
            refine gcV0v 87 dX3_readStatement_84 vX3_58 wZ_at0 rfl (ct_X3_nextToken (R := rF R 12 1) (p := q + 4) t3 (by show BB R.2.1 n = B; rw [t1]; exact hB) hT (hA.2.2.1.trans (congrArg nI hpw.1)) hq5) ?_
            refine go_aload_n 88 dX3_readStatement_87 rfl ?_
            refine go_iconst 89 dX3_readStatement_88 zc_0 ?_
            have ok : OkX B n (tokR B n (rF R 12 1) (sp B (q + 4))) (tokR B n (rF R 12 1) (sp B (q + 4))) (sp B (q + 4)) cs 1 := ⟨FrX.rf, tok_At, hs1, (tok_o (by decide)).trans ((rF_n (by decide)).trans e1), (tok_o (by decide)).trans ((rF_n (by decide)).trans e2), (tok_o (by decide)).trans ((rF_n (by decide)).trans c1), by omega, c3⟩
            have hl0 : (tokR B n (rF R 12 1) (sp B (q + 4))).1 5 = nI n := (tok_o (by decide)).trans ((rF_n (by decide)).trans t3)
            have hb0 : BB (tokR B n (rF R 12 1) (sp B (q + 4))).2.1 n = B := by show BB R.2.1 n = B; rw [t1]; exact hB
            refine gz1v 92 dX3_readStatement_89 vX3_112 rfl ((expr_all hT 4).2 w 0 _ _ _ cs 1 rfl hl0 hb0 ok) (fun R2 r2 => ?_) (by decide)
            refine go_goto 101 dX3_readStatement_92 ?_
            refine go_return dX3_readStatement_101 rfl (by omega) (by omega) ⟨rfl, _, rfl, ?_⟩
            have hstm : stm B (q, G, (a, b, c), cs) = (match smm B (fac B 4) (sp B (q + 4), cs) with
              | .inl e => .inl e
              | .inr x => .inr (x.1, upd G 7 1, (a, b, true), x.2)) := by
              unfold stm
              rw [if_neg (zb_0 (by first | exact h6 | exact Classical.not_not.mp h6)), if_neg hw1, if_neg hw2, if_pos ⟨hwr, hc0⟩]
              rfl
            rw [hstm]
            cases hr : smm B (fac B 4) (sp B (q + 4), cs) with
            | inl e =>
              rw [hr] at r2
              obtain ⟨⟨k1, k2, k3⟩, k4, k5, k6, k7, k8⟩ := r2
              exact ⟨⟨k1.trans t1, (k3 1 (by omega)).trans ((tok_o (by decide)).trans ((rF_n (by decide)).trans t2)), (k3 5 (by omega)).trans hl0⟩, k4, k5, k6, k7⟩
            | inr x =>
              rw [hr] at r2
              obtain ⟨⟨k1, k2, k3⟩, k4, k5, k6, k7, k8, k9, k10⟩ := r2
              refine ⟨⟨k1.trans t1, (k3 1 (by omega)).trans ((tok_o (by decide)).trans ((rF_n (by decide)).trans t2)), (k3 5 (by omega)).trans hl0⟩, ⟨k4, k5⟩, ⟨k6, k7⟩, ⟨?_, ?_⟩, ⟨k8, k9, k10⟩, (k3 10 (by omega)).trans ((tok_o (by decide)).trans ((rF_n (by decide)).trans f1)), (k3 11 (by omega)).trans ((tok_o (by decide)).trans ((rF_n (by decide)).trans f2)), (k3 12 (by omega)).trans ((tok_o (by decide)).trans rF_s)⟩
              · rw [k2]
                exact relE_7 hR
              · rw [k2]
                exact hg
      · refine go_aload_n 49 dX3_readStatement_48 rfl ?_
        refine xs_get 52 dX3_readStatement_49 fX3_43 rfl ?_
        refine go_if_ne 62 55 dX3_readStatement_52 (fun h52 => ?_) (fun h52 => ?_)
        · have hw2 : ¬ (wd B "patience" q ∧ b = false) := (fun z => by
            first
            | exact zb_0 (by first | exact h45 | exact Classical.not_not.mp h45) z.1
            | exact absurd (by first | exact h52 | exact Classical.not_not.mp h52) (by rw [h.2.2.2.2.2.2.1, z.2]; show ¬ ¬ bI false = 0; decide))
          refine go_aload_n 63 dX3_readStatement_62 rfl ?_
          refine go_ldcS 65 dX3_readStatement_63 sX3_111 ?_
          refine gcV1 68 dX3_readStatement_65 vX3_63 wZ_at0 rfl (ct_X3_atWord h.1.2.2 (by rw [h.1.1]; exact hB) hT h.2.1.1 h.2.1.2 sX3_111 lt_ring) ?_
          refine go_if_eq 95 71 dX3_readStatement_68 (fun h68 => ?_) (fun h68 => ?_)
          · have hw3 : ¬ (wd B "ring" q ∧ c = false) := (fun z => by
              first
              | exact zb_0 (by first | exact h68 | exact Classical.not_not.mp h68) z.1
              | exact absurd (by first | exact h75 | exact Classical.not_not.mp h75) (by rw [h.2.2.2.2.2.2.2, z.2]; show ¬ ¬ bI false = 0; decide))
            refine go_aload_n 96 dX3_readStatement_95 rfl ?_
            refine go_bipush 98 dX3_readStatement_96 zb_m2 ?_
            refine gcV1v 101 dX3_readStatement_98 vX3_67 wZ_at0 rfl (ct_X3_fail) ?_
            refine go_return dX3_readStatement_101 rfl (by omega) (by omega) ⟨rfl, _, rfl, ?_⟩
            have hstm : stm B (q, G, (a, b, c), cs) = .inl (-2, q) := by
              unfold stm
              rw [if_neg (zb_0 (by first | exact h6 | exact Classical.not_not.mp h6)), if_neg hw1, if_neg hw2, if_neg hw3]
            rw [hstm]
            obtain ⟨⟨t1, t2, t3⟩, ⟨hA, hqn⟩, ⟨e1, e2⟩, -⟩ := h
            have ef : failC R (-2) = rF (rF R 13 (-2)) 14 (R.1 8) := if_pos e1
            refine ⟨⟨by rw [fail_snd]; exact t1, (fail_j (by decide)).trans t2, (fail_j (by decide)).trans t3⟩, ⟨q, hqn, hA.fail⟩, ?_, (show (-2 : Int32) ≠ 0 by decide), ?_⟩
            · rw [ef]; exact (rF_n (by decide)).trans rF_s
            · rw [ef]; exact rF_s.trans hA.1
          · refine go_aload_n 72 dX3_readStatement_71 rfl ?_
            refine xs_get 75 dX3_readStatement_72 fX3_46 rfl ?_
            refine go_if_ne 95 78 dX3_readStatement_75 (fun h75 => ?_) (fun h75 => ?_)
            · have hw3 : ¬ (wd B "ring" q ∧ c = false) := (fun z => by
                first
                | exact zb_0 (by first | exact h68 | exact Classical.not_not.mp h68) z.1
                | exact absurd (by first | exact h75 | exact Classical.not_not.mp h75) (by rw [h.2.2.2.2.2.2.2, z.2]; show ¬ ¬ bI false = 0; decide))
              refine go_aload_n 96 dX3_readStatement_95 rfl ?_
              refine go_bipush 98 dX3_readStatement_96 zb_m2 ?_
              refine gcV1v 101 dX3_readStatement_98 vX3_67 wZ_at0 rfl (ct_X3_fail) ?_
              refine go_return dX3_readStatement_101 rfl (by omega) (by omega) ⟨rfl, _, rfl, ?_⟩
              have hstm : stm B (q, G, (a, b, c), cs) = .inl (-2, q) := by
                unfold stm
                rw [if_neg (zb_0 (by first | exact h6 | exact Classical.not_not.mp h6)), if_neg hw1, if_neg hw2, if_neg hw3]
              rw [hstm]
              obtain ⟨⟨t1, t2, t3⟩, ⟨hA, hqn⟩, ⟨e1, e2⟩, -⟩ := h
              have ef : failC R (-2) = rF (rF R 13 (-2)) 14 (R.1 8) := if_pos e1
              refine ⟨⟨by rw [fail_snd]; exact t1, (fail_j (by decide)).trans t2, (fail_j (by decide)).trans t3⟩, ⟨q, hqn, hA.fail⟩, ?_, (show (-2 : Int32) ≠ 0 by decide), ?_⟩
              · rw [ef]; exact (rF_n (by decide)).trans rF_s
              · rw [ef]; exact rF_s.trans hA.1
            · have hwr := zb_1 h68
              have hc0 : c = false := bI_f (h.2.2.2.2.2.2.2.symm.trans (by first | exact h75 | exact Classical.not_not.mp h75))
              obtain ⟨⟨t1, t2, t3⟩, ⟨hA, hqn⟩, ⟨e1, e2⟩, ⟨hR, hg⟩, ⟨c1, c2, c3⟩, f1, f2, f3⟩ := h
              have hpw := ps_wd hT lt_ring hwr
              have hq5 : q + 4 ≤ n := by have := (ps_le hT hqn).1; rw [hpw.1] at this; exact this
              have hs1 := sp_le hT hq5
              have hg1 := sp_ge (B := B) (p := q + 4)
              refine go_aload_n 79 dX3_readStatement_78 rfl ?_
              refine go_iconst 80 dX3_readStatement_79 zc_1 ?_
              refine xs_put 12 83 dX3_readStatement_80 pX3_46 (by decide) rfl rfl ?_
              refine go_aload_n 84 dX3_readStatement_83 rfl ?_
              refine gcV0v 87 dX3_readStatement_84 vX3_58 wZ_at0 rfl (ct_X3_nextToken (R := rF R 12 1) (p := q + 4) t3 (by show BB R.2.1 n = B; rw [t1]; exact hB) hT (hA.2.2.1.trans (congrArg nI hpw.1)) hq5) ?_
              refine go_aload_n 88 dX3_readStatement_87 rfl ?_
              refine go_iconst 89 dX3_readStatement_88 zc_0 ?_
              have ok : OkX B n (tokR B n (rF R 12 1) (sp B (q + 4))) (tokR B n (rF R 12 1) (sp B (q + 4))) (sp B (q + 4)) cs 1 := ⟨FrX.rf, tok_At, hs1, (tok_o (by decide)).trans ((rF_n (by decide)).trans e1), (tok_o (by decide)).trans ((rF_n (by decide)).trans e2), (tok_o (by decide)).trans ((rF_n (by decide)).trans c1), by omega, c3⟩
              have hl0 : (tokR B n (rF R 12 1) (sp B (q + 4))).1 5 = nI n := (tok_o (by decide)).trans ((rF_n (by decide)).trans t3)
              have hb0 : BB (tokR B n (rF R 12 1) (sp B (q + 4))).2.1 n = B := by show BB R.2.1 n = B; rw [t1]; exact hB
              refine gz1v 92 dX3_readStatement_89 vX3_112 rfl ((expr_all hT 4).2 w 0 _ _ _ cs 1 rfl hl0 hb0 ok) (fun R2 r2 => ?_) (by decide)
              refine go_goto 101 dX3_readStatement_92 ?_
              refine go_return dX3_readStatement_101 rfl (by omega) (by omega) ⟨rfl, _, rfl, ?_⟩
              have hstm : stm B (q, G, (a, b, c), cs) = (match smm B (fac B 4) (sp B (q + 4), cs) with
                | .inl e => .inl e
                | .inr x => .inr (x.1, upd G 7 1, (a, b, true), x.2)) := by
                unfold stm
                rw [if_neg (zb_0 (by first | exact h6 | exact Classical.not_not.mp h6)), if_neg hw1, if_neg hw2, if_pos ⟨hwr, hc0⟩]
                rfl
              rw [hstm]
              cases hr : smm B (fac B 4) (sp B (q + 4), cs) with
              | inl e =>
                rw [hr] at r2
                obtain ⟨⟨k1, k2, k3⟩, k4, k5, k6, k7, k8⟩ := r2
                exact ⟨⟨k1.trans t1, (k3 1 (by omega)).trans ((tok_o (by decide)).trans ((rF_n (by decide)).trans t2)), (k3 5 (by omega)).trans hl0⟩, k4, k5, k6, k7⟩
              | inr x =>
                rw [hr] at r2
                obtain ⟨⟨k1, k2, k3⟩, k4, k5, k6, k7, k8, k9, k10⟩ := r2
                refine ⟨⟨k1.trans t1, (k3 1 (by omega)).trans ((tok_o (by decide)).trans ((rF_n (by decide)).trans t2)), (k3 5 (by omega)).trans hl0⟩, ⟨k4, k5⟩, ⟨k6, k7⟩, ⟨?_, ?_⟩, ⟨k8, k9, k10⟩, (k3 10 (by omega)).trans ((tok_o (by decide)).trans ((rF_n (by decide)).trans f1)), (k3 11 (by omega)).trans ((tok_o (by decide)).trans ((rF_n (by decide)).trans f2)), (k3 12 (by omega)).trans ((tok_o (by decide)).trans rF_s)⟩
                · rw [k2]
                  exact relE_7 hR
                · rw [k2]
                  exact hg
        · refine go_aload_n 56 dX3_readStatement_55 rfl ?_
          refine gz0v 59 dX3_readStatement_56 vX3_108 rfl (cx_X3_readPatience hB hT h (zb_0 (by first | exact h6 | exact Classical.not_not.mp h6)) hw1 (zb_1 h45) (bI_f (h.2.2.2.2.2.2.1.symm.trans (by first | exact h52 | exact Classical.not_not.mp h52)))) (fun R2 r2 => ?_) (by decide)
          refine go_goto 101 dX3_readStatement_59 ?_
          exact go_return dX3_readStatement_101 rfl (by omega) (by omega) ⟨rfl, R2, rfl, r2⟩
    · refine go_aload_n 26 dX3_readStatement_25 rfl ?_
      refine xs_get 29 dX3_readStatement_26 fX3_39 rfl ?_
      refine go_if_ne 39 32 dX3_readStatement_29 (fun h29 => ?_) (fun h29 => ?_)
      · have hw1 : ¬ (wd B "wait" q ∧ a = false) := (fun z : wd B "wait" q ∧ a = false => by
          first
          | exact zb_0 (by first | exact h22 | exact Classical.not_not.mp h22) z.1
          | exact absurd (by first | exact h29 | exact Classical.not_not.mp h29) (by rw [h.2.2.2.2.2.1, z.2]; show ¬ ¬ bI false = 0; decide))
        refine go_aload_n 40 dX3_readStatement_39 rfl ?_
        refine go_ldcS 42 dX3_readStatement_40 sX3_106 ?_
        refine gcV1 45 dX3_readStatement_42 vX3_63 wZ_at0 rfl (ct_X3_atWord h.1.2.2 (by rw [h.1.1]; exact hB) hT h.2.1.1 h.2.1.2 sX3_106 lt_patience) ?_
        refine go_if_eq 62 48 dX3_readStatement_45 (fun h45 => ?_) (fun h45 => ?_)
        · have hw2 : ¬ (wd B "patience" q ∧ b = false) := (fun z => by
            first
            | exact zb_0 (by first | exact h45 | exact Classical.not_not.mp h45) z.1
            | exact absurd (by first | exact h52 | exact Classical.not_not.mp h52) (by rw [h.2.2.2.2.2.2.1, z.2]; show ¬ ¬ bI false = 0; decide))
          refine go_aload_n 63 dX3_readStatement_62 rfl ?_
          refine go_ldcS 65 dX3_readStatement_63 sX3_111 ?_
          refine gcV1 68 dX3_readStatement_65 vX3_63 wZ_at0 rfl (ct_X3_atWord h.1.2.2 (by rw [h.1.1]; exact hB) hT h.2.1.1 h.2.1.2 sX3_111 lt_ring) ?_
          refine go_if_eq 95 71 dX3_readStatement_68 (fun h68 => ?_) (fun h68 => ?_)
          · have hw3 : ¬ (wd B "ring" q ∧ c = false) := (fun z => by
              first
              | exact zb_0 (by first | exact h68 | exact Classical.not_not.mp h68) z.1
              | exact absurd (by first | exact h75 | exact Classical.not_not.mp h75) (by rw [h.2.2.2.2.2.2.2, z.2]; show ¬ ¬ bI false = 0; decide))
            refine go_aload_n 96 dX3_readStatement_95 rfl ?_
            refine go_bipush 98 dX3_readStatement_96 zb_m2 ?_
            refine gcV1v 101 dX3_readStatement_98 vX3_67 wZ_at0 rfl (ct_X3_fail) ?_
            refine go_return dX3_readStatement_101 rfl (by omega) (by omega) ⟨rfl, _, rfl, ?_⟩
            have hstm : stm B (q, G, (a, b, c), cs) = .inl (-2, q) := by
              unfold stm
              rw [if_neg (zb_0 (by first | exact h6 | exact Classical.not_not.mp h6)), if_neg hw1, if_neg hw2, if_neg hw3]
            rw [hstm]
            obtain ⟨⟨t1, t2, t3⟩, ⟨hA, hqn⟩, ⟨e1, e2⟩, -⟩ := h
            have ef : failC R (-2) = rF (rF R 13 (-2)) 14 (R.1 8) := if_pos e1
            refine ⟨⟨by rw [fail_snd]; exact t1, (fail_j (by decide)).trans t2, (fail_j (by decide)).trans t3⟩, ⟨q, hqn, hA.fail⟩, ?_, (show (-2 : Int32) ≠ 0 by decide), ?_⟩
            · rw [ef]; exact (rF_n (by decide)).trans rF_s
            · rw [ef]; exact rF_s.trans hA.1
          · refine go_aload_n 72 dX3_readStatement_71 rfl ?_
            refine xs_get 75 dX3_readStatement_72 fX3_46 rfl ?_
            refine go_if_ne 95 78 dX3_readStatement_75 (fun h75 => ?_) (fun h75 => ?_)
            · have hw3 : ¬ (wd B "ring" q ∧ c = false) := (fun z => by
                first
                | exact zb_0 (by first | exact h68 | exact Classical.not_not.mp h68) z.1
                | exact absurd (by first | exact h75 | exact Classical.not_not.mp h75) (by rw [h.2.2.2.2.2.2.2, z.2]; show ¬ ¬ bI false = 0; decide))
              refine go_aload_n 96 dX3_readStatement_95 rfl ?_
              refine go_bipush 98 dX3_readStatement_96 zb_m2 ?_
              refine gcV1v 101 dX3_readStatement_98 vX3_67 wZ_at0 rfl (ct_X3_fail) ?_
              refine go_return dX3_readStatement_101 rfl (by omega) (by omega) ⟨rfl, _, rfl, ?_⟩
              have hstm : stm B (q, G, (a, b, c), cs) = .inl (-2, q) := by
                unfold stm
                rw [if_neg (zb_0 (by first | exact h6 | exact Classical.not_not.mp h6)), if_neg hw1, if_neg hw2, if_neg hw3]
              rw [hstm]
              obtain ⟨⟨t1, t2, t3⟩, ⟨hA, hqn⟩, ⟨e1, e2⟩, -⟩ := h
              have ef : failC R (-2) = rF (rF R 13 (-2)) 14 (R.1 8) := if_pos e1
              refine ⟨⟨by rw [fail_snd]; exact t1, (fail_j (by decide)).trans t2, (fail_j (by decide)).trans t3⟩, ⟨q, hqn, hA.fail⟩, ?_, (show (-2 : Int32) ≠ 0 by decide), ?_⟩
              · rw [ef]; exact (rF_n (by decide)).trans rF_s
              · rw [ef]; exact rF_s.trans hA.1
            · have hwr := zb_1 h68
              have hc0 : c = false := bI_f (h.2.2.2.2.2.2.2.symm.trans (by first | exact h75 | exact Classical.not_not.mp h75))
              obtain ⟨⟨t1, t2, t3⟩, ⟨hA, hqn⟩, ⟨e1, e2⟩, ⟨hR, hg⟩, ⟨c1, c2, c3⟩, f1, f2, f3⟩ := h
              have hpw := ps_wd hT lt_ring hwr
              have hq5 : q + 4 ≤ n := by have := (ps_le hT hqn).1; rw [hpw.1] at this; exact this
              have hs1 := sp_le hT hq5
              have hg1 := sp_ge (B := B) (p := q + 4)
              refine go_aload_n 79 dX3_readStatement_78 rfl ?_
              refine go_iconst 80 dX3_readStatement_79 zc_1 ?_
              refine xs_put 12 83 dX3_readStatement_80 pX3_46 (by decide) rfl rfl ?_
              refine go_aload_n 84 dX3_readStatement_83 rfl ?_
              refine gcV0v 87 dX3_readStatement_84 vX3_58 wZ_at0 rfl (ct_X3_nextToken (R := rF R 12 1) (p := q + 4) t3 (by show BB R.2.1 n = B; rw [t1]; exact hB) hT (hA.2.2.1.trans (congrArg nI hpw.1)) hq5) ?_
              refine go_aload_n 88 dX3_readStatement_87 rfl ?_
              refine go_iconst 89 dX3_readStatement_88 zc_0 ?_
              have ok : OkX B n (tokR B n (rF R 12 1) (sp B (q + 4))) (tokR B n (rF R 12 1) (sp B (q + 4))) (sp B (q + 4)) cs 1 := ⟨FrX.rf, tok_At, hs1, (tok_o (by decide)).trans ((rF_n (by decide)).trans e1), (tok_o (by decide)).trans ((rF_n (by decide)).trans e2), (tok_o (by decide)).trans ((rF_n (by decide)).trans c1), by omega, c3⟩
              have hl0 : (tokR B n (rF R 12 1) (sp B (q + 4))).1 5 = nI n := (tok_o (by decide)).trans ((rF_n (by decide)).trans t3)
              have hb0 : BB (tokR B n (rF R 12 1) (sp B (q + 4))).2.1 n = B := by show BB R.2.1 n = B; rw [t1]; exact hB
              refine gz1v 92 dX3_readStatement_89 vX3_112 rfl ((expr_all hT 4).2 w 0 _ _ _ cs 1 rfl hl0 hb0 ok) (fun R2 r2 => ?_) (by decide)
              refine go_goto 101 dX3_readStatement_92 ?_
              refine go_return dX3_readStatement_101 rfl (by omega) (by omega) ⟨rfl, _, rfl, ?_⟩
              have hstm : stm B (q, G, (a, b, c), cs) = (match smm B (fac B 4) (sp B (q + 4), cs) with
                | .inl e => .inl e
                | .inr x => .inr (x.1, upd G 7 1, (a, b, true), x.2)) := by
                unfold stm
                rw [if_neg (zb_0 (by first | exact h6 | exact Classical.not_not.mp h6)), if_neg hw1, if_neg hw2, if_pos ⟨hwr, hc0⟩]
                rfl
              rw [hstm]
              cases hr : smm B (fac B 4) (sp B (q + 4), cs) with
              | inl e =>
                rw [hr] at r2
                obtain ⟨⟨k1, k2, k3⟩, k4, k5, k6, k7, k8⟩ := r2
                exact ⟨⟨k1.trans t1, (k3 1 (by omega)).trans ((tok_o (by decide)).trans ((rF_n (by decide)).trans t2)), (k3 5 (by omega)).trans hl0⟩, k4, k5, k6, k7⟩
              | inr x =>
                rw [hr] at r2
                obtain ⟨⟨k1, k2, k3⟩, k4, k5, k6, k7, k8, k9, k10⟩ := r2
                refine ⟨⟨k1.trans t1, (k3 1 (by omega)).trans ((tok_o (by decide)).trans ((rF_n (by decide)).trans t2)), (k3 5 (by omega)).trans hl0⟩, ⟨k4, k5⟩, ⟨k6, k7⟩, ⟨?_, ?_⟩, ⟨k8, k9, k10⟩, (k3 10 (by omega)).trans ((tok_o (by decide)).trans ((rF_n (by decide)).trans f1)), (k3 11 (by omega)).trans ((tok_o (by decide)).trans ((rF_n (by decide)).trans f2)), (k3 12 (by omega)).trans ((tok_o (by decide)).trans rF_s)⟩
                · rw [k2]
                  exact relE_7 hR
                · rw [k2]
                  exact hg
        · refine go_aload_n 49 dX3_readStatement_48 rfl ?_
          refine xs_get 52 dX3_readStatement_49 fX3_43 rfl ?_
          refine go_if_ne 62 55 dX3_readStatement_52 (fun h52 => ?_) (fun h52 => ?_)
          · have hw2 : ¬ (wd B "patience" q ∧ b = false) := (fun z => by
              first
              | exact zb_0 (by first | exact h45 | exact Classical.not_not.mp h45) z.1
              | exact absurd (by first | exact h52 | exact Classical.not_not.mp h52) (by rw [h.2.2.2.2.2.2.1, z.2]; show ¬ ¬ bI false = 0; decide))
            refine go_aload_n 63 dX3_readStatement_62 rfl ?_
            refine go_ldcS 65 dX3_readStatement_63 sX3_111 ?_
            refine gcV1 68 dX3_readStatement_65 vX3_63 wZ_at0 rfl (ct_X3_atWord h.1.2.2 (by rw [h.1.1]; exact hB) hT h.2.1.1 h.2.1.2 sX3_111 lt_ring) ?_
            refine go_if_eq 95 71 dX3_readStatement_68 (fun h68 => ?_) (fun h68 => ?_)
            · have hw3 : ¬ (wd B "ring" q ∧ c = false) := (fun z => by
                first
                | exact zb_0 (by first | exact h68 | exact Classical.not_not.mp h68) z.1
                | exact absurd (by first | exact h75 | exact Classical.not_not.mp h75) (by rw [h.2.2.2.2.2.2.2, z.2]; show ¬ ¬ bI false = 0; decide))
              refine go_aload_n 96 dX3_readStatement_95 rfl ?_
              refine go_bipush 98 dX3_readStatement_96 zb_m2 ?_
              refine gcV1v 101 dX3_readStatement_98 vX3_67 wZ_at0 rfl (ct_X3_fail) ?_
              refine go_return dX3_readStatement_101 rfl (by omega) (by omega) ⟨rfl, _, rfl, ?_⟩
              have hstm : stm B (q, G, (a, b, c), cs) = .inl (-2, q) := by
                unfold stm
                rw [if_neg (zb_0 (by first | exact h6 | exact Classical.not_not.mp h6)), if_neg hw1, if_neg hw2, if_neg hw3]
              rw [hstm]
              obtain ⟨⟨t1, t2, t3⟩, ⟨hA, hqn⟩, ⟨e1, e2⟩, -⟩ := h
              have ef : failC R (-2) = rF (rF R 13 (-2)) 14 (R.1 8) := if_pos e1
              refine ⟨⟨by rw [fail_snd]; exact t1, (fail_j (by decide)).trans t2, (fail_j (by decide)).trans t3⟩, ⟨q, hqn, hA.fail⟩, ?_, (show (-2 : Int32) ≠ 0 by decide), ?_⟩
              · rw [ef]; exact (rF_n (by decide)).trans rF_s
              · rw [ef]; exact rF_s.trans hA.1
            · refine go_aload_n 72 dX3_readStatement_71 rfl ?_
              refine xs_get 75 dX3_readStatement_72 fX3_46 rfl ?_
              refine go_if_ne 95 78 dX3_readStatement_75 (fun h75 => ?_) (fun h75 => ?_)
              · have hw3 : ¬ (wd B "ring" q ∧ c = false) := (fun z => by
                  first
                  | exact zb_0 (by first | exact h68 | exact Classical.not_not.mp h68) z.1
                  | exact absurd (by first | exact h75 | exact Classical.not_not.mp h75) (by rw [h.2.2.2.2.2.2.2, z.2]; show ¬ ¬ bI false = 0; decide))
                refine go_aload_n 96 dX3_readStatement_95 rfl ?_
                refine go_bipush 98 dX3_readStatement_96 zb_m2 ?_
                refine gcV1v 101 dX3_readStatement_98 vX3_67 wZ_at0 rfl (ct_X3_fail) ?_
                refine go_return dX3_readStatement_101 rfl (by omega) (by omega) ⟨rfl, _, rfl, ?_⟩
                have hstm : stm B (q, G, (a, b, c), cs) = .inl (-2, q) := by
                  unfold stm
                  rw [if_neg (zb_0 (by first | exact h6 | exact Classical.not_not.mp h6)), if_neg hw1, if_neg hw2, if_neg hw3]
                rw [hstm]
                obtain ⟨⟨t1, t2, t3⟩, ⟨hA, hqn⟩, ⟨e1, e2⟩, -⟩ := h
                have ef : failC R (-2) = rF (rF R 13 (-2)) 14 (R.1 8) := if_pos e1
                refine ⟨⟨by rw [fail_snd]; exact t1, (fail_j (by decide)).trans t2, (fail_j (by decide)).trans t3⟩, ⟨q, hqn, hA.fail⟩, ?_, (show (-2 : Int32) ≠ 0 by decide), ?_⟩
                · rw [ef]; exact (rF_n (by decide)).trans rF_s
                · rw [ef]; exact rF_s.trans hA.1
              · have hwr := zb_1 h68
                have hc0 : c = false := bI_f (h.2.2.2.2.2.2.2.symm.trans (by first | exact h75 | exact Classical.not_not.mp h75))
                obtain ⟨⟨t1, t2, t3⟩, ⟨hA, hqn⟩, ⟨e1, e2⟩, ⟨hR, hg⟩, ⟨c1, c2, c3⟩, f1, f2, f3⟩ := h
                have hpw := ps_wd hT lt_ring hwr
                have hq5 : q + 4 ≤ n := by have := (ps_le hT hqn).1; rw [hpw.1] at this; exact this
                have hs1 := sp_le hT hq5
                have hg1 := sp_ge (B := B) (p := q + 4)
                refine go_aload_n 79 dX3_readStatement_78 rfl ?_
                refine go_iconst 80 dX3_readStatement_79 zc_1 ?_
                refine xs_put 12 83 dX3_readStatement_80 pX3_46 (by decide) rfl rfl ?_
                refine go_aload_n 84 dX3_readStatement_83 rfl ?_
                refine gcV0v 87 dX3_readStatement_84 vX3_58 wZ_at0 rfl (ct_X3_nextToken (R := rF R 12 1) (p := q + 4) t3 (by show BB R.2.1 n = B; rw [t1]; exact hB) hT (hA.2.2.1.trans (congrArg nI hpw.1)) hq5) ?_
                refine go_aload_n 88 dX3_readStatement_87 rfl ?_
                refine go_iconst 89 dX3_readStatement_88 zc_0 ?_
                have ok : OkX B n (tokR B n (rF R 12 1) (sp B (q + 4))) (tokR B n (rF R 12 1) (sp B (q + 4))) (sp B (q + 4)) cs 1 := ⟨FrX.rf, tok_At, hs1, (tok_o (by decide)).trans ((rF_n (by decide)).trans e1), (tok_o (by decide)).trans ((rF_n (by decide)).trans e2), (tok_o (by decide)).trans ((rF_n (by decide)).trans c1), by omega, c3⟩
                have hl0 : (tokR B n (rF R 12 1) (sp B (q + 4))).1 5 = nI n := (tok_o (by decide)).trans ((rF_n (by decide)).trans t3)
                have hb0 : BB (tokR B n (rF R 12 1) (sp B (q + 4))).2.1 n = B := by show BB R.2.1 n = B; rw [t1]; exact hB
                refine gz1v 92 dX3_readStatement_89 vX3_112 rfl ((expr_all hT 4).2 w 0 _ _ _ cs 1 rfl hl0 hb0 ok) (fun R2 r2 => ?_) (by decide)
                refine go_goto 101 dX3_readStatement_92 ?_
                refine go_return dX3_readStatement_101 rfl (by omega) (by omega) ⟨rfl, _, rfl, ?_⟩
                have hstm : stm B (q, G, (a, b, c), cs) = (match smm B (fac B 4) (sp B (q + 4), cs) with
                  | .inl e => .inl e
                  | .inr x => .inr (x.1, upd G 7 1, (a, b, true), x.2)) := by
                  unfold stm
                  rw [if_neg (zb_0 (by first | exact h6 | exact Classical.not_not.mp h6)), if_neg hw1, if_neg hw2, if_pos ⟨hwr, hc0⟩]
                  rfl
                rw [hstm]
                cases hr : smm B (fac B 4) (sp B (q + 4), cs) with
                | inl e =>
                  rw [hr] at r2
                  obtain ⟨⟨k1, k2, k3⟩, k4, k5, k6, k7, k8⟩ := r2
                  exact ⟨⟨k1.trans t1, (k3 1 (by omega)).trans ((tok_o (by decide)).trans ((rF_n (by decide)).trans t2)), (k3 5 (by omega)).trans hl0⟩, k4, k5, k6, k7⟩
                | inr x =>
                  rw [hr] at r2
                  obtain ⟨⟨k1, k2, k3⟩, k4, k5, k6, k7, k8, k9, k10⟩ := r2
                  refine ⟨⟨k1.trans t1, (k3 1 (by omega)).trans ((tok_o (by decide)).trans ((rF_n (by decide)).trans t2)), (k3 5 (by omega)).trans hl0⟩, ⟨k4, k5⟩, ⟨k6, k7⟩, ⟨?_, ?_⟩, ⟨k8, k9, k10⟩, (k3 10 (by omega)).trans ((tok_o (by decide)).trans ((rF_n (by decide)).trans f1)), (k3 11 (by omega)).trans ((tok_o (by decide)).trans ((rF_n (by decide)).trans f2)), (k3 12 (by omega)).trans ((tok_o (by decide)).trans rF_s)⟩
                  · rw [k2]
                    exact relE_7 hR
                  · rw [k2]
                    exact hg
          · refine go_aload_n 56 dX3_readStatement_55 rfl ?_
            refine gz0v 59 dX3_readStatement_56 vX3_108 rfl (cx_X3_readPatience hB hT h (zb_0 (by first | exact h6 | exact Classical.not_not.mp h6)) hw1 (zb_1 h45) (bI_f (h.2.2.2.2.2.2.1.symm.trans (by first | exact h52 | exact Classical.not_not.mp h52)))) (fun R2 r2 => ?_) (by decide)
            refine go_goto 101 dX3_readStatement_59 ?_
            exact go_return dX3_readStatement_101 rfl (by omega) (by omega) ⟨rfl, R2, rfl, r2⟩
      · refine go_aload_n 33 dX3_readStatement_32 rfl ?_
        refine gz0v 36 dX3_readStatement_33 vX3_103 rfl (cx_X3_readWait hB hT h (zb_0 (by first | exact h6 | exact Classical.not_not.mp h6)) (zb_1 h22) (bI_f (h.2.2.2.2.2.1.symm.trans (by first | exact h29 | exact Classical.not_not.mp h29)))) (fun R2 r2 => ?_) (by decide)
        refine go_goto 101 dX3_readStatement_36 ?_
        exact go_return dX3_readStatement_101 rfl (by omega) (by omega) ⟨rfl, R2, rfl, r2⟩
  · refine go_aload_n 10 dX3_readStatement_9 rfl ?_
    refine gz0v 13 dX3_readStatement_10 vX3_98 rfl (cx_X3_readParty hB hT h (zb_1 h6) h4 hP10 hz) (fun R2 r2 => ?_) (by decide)
    refine go_goto 101 dX3_readStatement_13 ?_
    exact go_return dX3_readStatement_101 rfl (by omega) (by omega) ⟨rfl, R2, rfl, r2⟩
end CStm
