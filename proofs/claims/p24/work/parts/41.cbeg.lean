section CBeg
/-! a call begun -/
theorem zcnt_last {P : Nat → Prop} : ∀ (f i : Nat) (a : Int32), zcnt P i (f + 1) a = zcnt P i f a + zb (P (i + f))
  | 0, i, a => rfl
  | f + 1, i, a => by
    show zcnt P (i + 1) (f + 1) (a + zb (P i)) = zcnt P (i + 1) f (a + zb (P i)) + zb (P (i + (f + 1)))
    rw [zcnt_last f (i + 1), show i + 1 + f = i + (f + 1) by omega]
theorem drop_v {D : ZD} {k : Nat} : dL (dropD D k) k 6 = -1 ∧ dL (dropD D k) k 9 = -1 ∧ dL (dropD D k) k 10 = -1 := by
  unfold dropD
  refine ⟨?_, ?_, ?_⟩
  · rw [dL_setLn (by omega), dL_setLn (by omega), dL_setL]
  · rw [dL_setLn (by omega), dL_setL]
  · rw [dL_setL]
theorem drop_2 {D : ZD} {k j : Nat} (h : j ≠ 6 ∧ j ≠ 9 ∧ j ≠ 10) : dL (dropD D k) k j = dL D k j := by
  unfold dropD
  rw [dL_setLn (by omega), dL_setLn (by omega), dL_setLn (by omega)]
theorem mk_row {D : ZD} {c ce : Int32} : rowOK (mkD D c ce) (nL D) ∧ (dL (mkD D c ce) (nL D) 2 = 0 ↔ ¬ eng D ce) := by
  rw [mkD_3]
  by_cases h : eng D ce
  · rw [if_pos h]
    exact ⟨⟨Or.inr (Or.inr (Or.inr end_2)), fun _ => ⟨end_6, end_9, end_10⟩, Or.inl end_6⟩, fun q => by rw [end_2] at q; exact absurd q (by decide), fun q => absurd h q⟩
  · rw [if_neg h]
    have e2 : dL (dropD (mk3 D c ce) (nL D)) (nL D) 2 = 0 := by
      rw [drop_2 (by decide), mk3_row (by decide)]
      rfl
    exact ⟨⟨Or.inl e2, fun _ => drop_v, Or.inl drop_v.1⟩, fun _ => h, fun _ => e2⟩
/-- while legs are put on: what holds of the row; the legs of call c, of parties below j -/
def GB (D : ZD) (c j : Nat) (D' : ZD) : Prop := Iv D' ∧ JO D' ∧ JS D' ∧ JP D' ∧ JT D' ∧ c < nC D' ∧ nP D' = nP D ∧ nL D ≤ nL D' ∧ (∀ k, k < nL D → ofN D' k = ofN D k ∧ ofN D k < c) ∧ ∀ k, nL D ≤ k → k < nL D' → ofN D' k = c ∧ ceN D' k < j
theorem GB.up {D D' : ZD} {c j : Nat} (h : GB D c j D') : GB D c (j + 1) D' := by
  obtain ⟨h1, h2, h3, h4, h5, h6, h7, h8, h9, h10⟩ := h
  exact ⟨h1, h2, h3, h4, h5, h6, h7, h8, h9, fun k a b => ⟨(h10 k a b).1, Nat.lt_succ_of_lt (h10 k a b).2⟩⟩
theorem gb_mk {D D' : ZD} {c j : Nat} (h : GB D c j D') (hL : nL D' < 40) (hj : j < nP D) : GB D c (j + 1) (mkD D' (nI c) (nI j)) ∧ nL (mkD D' (nI c) (nI j)) = nL D' + 1 ∧ nC (mkD D' (nI c) (nI j)) = nC D' ∧ ∀ k, k < nL D' → dL (mkD D' (nI c) (nI j)) k 2 = dL D' k 2 := by
  obtain ⟨hI, hO, hS, hP, hT, hc, hn, hm, ho, hw⟩ := h
  have hq : j < nP D' := by rw [hn]; exact hj
  obtain ⟨i1, i2, i3, i4⟩ := mk_Iv hI hL hc hq
  have w := mk_what (c := nI c) (ce := nI j) hL
  have h20 := hI.1.2.1.2
  have h10 := hI.1.1.2
  have same : ∀ k i, k < nL D' → i < 13 → dL (mkD D' (nI c) (nI j)) k i = dL D' k i := fun k i hk hi => w.1 _ (by omega) (by omega)
  have hof : ∀ k, k < nL D' → ofN (mkD D' (nI c) (nI j)) k = ofN D' k := fun k hk => by unfold ofN; rw [same k 0 hk (by decide)]
  have hce : ∀ k, k < nL D' → ceN (mkD D' (nI c) (nI j)) k = ceN D' k := fun k hk => by unfold ceN; rw [same k 1 hk (by decide)]
  have nof : ofN (mkD D' (nI c) (nI j)) (nL D') = c := by unfold ofN; rw [w.2.2.1]; exact nI_clamp (by omega)
  have nce : ceN (mkD D' (nI c) (nI j)) (nL D') = j := by unfold ceN; rw [w.2.2.2]; exact nI_clamp (by omega)
  refine ⟨⟨i1, fun k hk => ?_, fun k k' a b e => ?_, fun p i hp hi => ?_, ⟨?_, fun q hq' => ?_⟩, by rw [i3]; exact hc, i4.trans hn, by rw [i2]; omega, fun k hk => ?_, fun k a b => ?_⟩, i2, i3, fun k hk => same k 2 hk (by decide)⟩
  · rw [i2] at hk
    by_cases e : k = nL D'
    · rw [e]; exact mk_row.1
    · exact rowOK_c (fun i hi => same k i (by omega) hi) (hO k (by omega))
  · rw [i2] at b
    by_cases e2 : k' = nL D'
    · subst e2
      rw [nof, hof k a] at e
      rw [nce, hce k a]
      have hk : nL D ≤ k := Nat.le_of_not_lt fun q => by
        have := ho k q
        omega
      exact Nat.ne_of_lt (hw k hk a).2
    · rw [hof k (by omega), hof k' (by omega)] at e
      rw [hce k (by omega), hce k' (by omega)]
      exact hS k k' a (by omega) e
  · rw [i4] at hp
    rw [show dP (mkD D' (nI c) (nI j)) p i = dP D' p i from w.1 _ (by omega) (by omega)]
    exact hP p i hp hi
  · have e0 : mkD D' (nI c) (nI j) 0 = D' 0 := w.1 0 (by decide) (by omega)
    unfold tmN
    rw [e0]
    exact hT.1
  · rw [i3] at hq'
    have e0 : tmN (mkD D' (nI c) (nI j)) = tmN D' := by unfold tmN; rw [w.1 0 (by decide) (by omega)]
    rw [e0, show dC (mkD D' (nI c) (nI j)) q 1 = dC D' q 1 from w.1 _ (by omega) (by omega), show dC (mkD D' (nI c) (nI j)) q 2 = dC D' q 2 from w.1 _ (by omega) (by omega)]
    exact hT.2 q hq'
  · rw [hof k (by omega)]; exact ho k hk
  · rw [i2] at b
    by_cases e2 : k = nL D'
    · subst e2
      rw [nof, nce]
      exact ⟨rfl, Nat.lt_succ_self j⟩
    · rw [hof k (by omega), hce k (by omega)]
      exact ⟨(hw k a (by omega)).1, Nat.lt_succ_of_lt (hw k a (by omega)).2⟩
theorem bN_s {x : Int32} {k f : Nat} : bN x k (f + 1) = (if bitOf x k = 1 then 1 else 0) + bN x (k + 1) f := rfl
theorem gb_itr {D : ZD} {c : Nat} {x : Int32} : ∀ (f k : Nat) (D' : ZD), GB D c k D' → (∀ j, k ≤ j → j < k + f → bitOf x j = 1 → j < nP D) → nL D' + bN x k f ≤ 40 → GB D c (k + f) (itr (bStep x (nI c)) k f D') ∧ nL (itr (bStep x (nI c)) k f D') = nL D' + bN x k f ∧ nC (itr (bStep x (nI c)) k f D') = nC D'
  | 0, k, D', h, _, _ => ⟨h, rfl, rfl⟩
  | f + 1, k, D', h, hb, hL => by
    rw [bN_s] at hL
    show GB D c (k + (f + 1)) (itr (bStep x (nI c)) (k + 1) f (bStep x (nI c) k D')) ∧ nL (itr (bStep x (nI c)) (k + 1) f (bStep x (nI c) k D')) = _ ∧ nC (itr (bStep x (nI c)) (k + 1) f (bStep x (nI c) k D')) = _
    rw [show k + (f + 1) = k + 1 + f by omega, bN_s]
    by_cases hx : bitOf x k = 1
    · rw [if_pos hx] at hL
      have e : bStep x (nI c) k D' = mkD D' (nI c) (nI k) := if_pos hx
      have g := gb_mk h (by omega) (hb k (Nat.le_refl _) (by omega) hx)
      have r := gb_itr (x := x) f (k + 1) _ g.1 (fun j a b => hb j (by omega) (by omega)) (by rw [g.2.1]; omega)
      rw [e, if_pos hx]
      refine ⟨r.1, ?_, r.2.2.trans g.2.2.1⟩
      rw [r.2.1, g.2.1]; omega
    · rw [if_neg hx] at hL
      have e : bStep x (nI c) k D' = D' := if_neg hx
      have r := gb_itr (x := x) f (k + 1) _ h.up (fun j a b => hb j (by omega) (by omega)) (by omega)
      rw [e, if_neg hx]
      refine ⟨r.1, ?_, r.2.2⟩
      rw [r.2.1]; omega
def sgN (sg : ZSg) (D : ZD) (n : Nat) : ZSg := fun c => if c = nC D then (nL D, nL D + n) else sg c
def RvOK (v : Int32) : Prop := ∃ r, v = nI r ∧ 1 ≤ r ∧ r ≤ 99
theorem gi_newC {sg : ZSg} {D : ZD} (h : GI sg D) {q : Nat} {rv ref : Int32} (hC : nC D < 20) (hq : q < nP D) (hr : ref = -1 ∨ (ref = nI (tN ref) ∧ tN ref < nL D)) (hv : RvOK rv) : GB D (nC D) 0 (newC D (nI q) rv ref) ∧ nL (newC D (nI q) rv ref) = nL D ∧ nC (newC D (nI q) rv ref) = nC D + 1 := by
  obtain ⟨i1, i2, i3, i4⟩ := newC_Iv (rv := rv) h.iv hC hq hr
  have w := newC_what (p := nI q) (rv := rv) (ref := ref) hC
  have h10 := h.iv.1.1.2
  have sl : ∀ k i, i < 13 → dL (newC D (nI q) rv ref) k i = dL D k i := fun k i hi => w.1 _ (by omega) (by omega)
  have hof : ∀ k, ofN (newC D (nI q) rv ref) k = ofN D k := fun k => by unfold ofN; rw [sl k 0 (by decide)]
  have hce : ∀ k, ceN (newC D (nI q) rv ref) k = ceN D k := fun k => by unfold ceN; rw [sl k 1 (by decide)]
  have e0 : newC D (nI q) rv ref 0 = D 0 := w.1 0 (by decide) (by omega)
  have et : tmN (newC D (nI q) rv ref) = tmN D := by unfold tmN; rw [e0]
  refine ⟨⟨i1, fun k hk => ?_, fun k k' a b e => ?_, fun p i hp hi => ?_, ⟨?_, fun c hc => ?_⟩, by rw [i3]; omega, i4, by rw [i2]; omega, fun k hk => ⟨hof k, (h.iv.1.2.2.2 k hk).2⟩, fun k a b => by rw [i2] at b; omega⟩, i2, i3⟩
  · rw [i2] at hk
    exact rowOK_c (fun i hi => sl k i hi) (h.jo k hk)
  · rw [i2] at b
    rw [hof, hof] at e
    rw [hce, hce]
    exact h.js k k' a b e
  · rw [i4] at hp
    rw [show dP (newC D (nI q) rv ref) p i = dP D p i from w.1 _ (by omega) (by omega)]
    exact h.jp p i hp hi
  · rw [et, e0]; exact h.jt.1
  · rw [i3] at hc
    rw [et]
    by_cases e : c = nC D
    · subst e
      obtain ⟨r, r1, r2⟩ := hv
      rw [w.2.2.2.1, w.2.2.2.2.1]
      exact ⟨tmN D, r, h.jt.1.1, Nat.le_refl _, r1, r2⟩
    · rw [show dC (newC D (nI q) rv ref) c 1 = dC D c 1 from w.1 _ (by omega) (by omega), show dC (newC D (nI q) rv ref) c 2 = dC D c 2 from w.1 _ (by omega) (by omega)]
      exact h.jt.2 c (by omega)
theorem GB.gi {sg : ZSg} {D D' : ZD} (h : GI sg D) {j n : Nat} (hb : GB D (nC D) j D') (hn : nL D' = nL D + n) (hc : nC D' = nC D + 1) : GI (sgN sg D n) D' := by
  obtain ⟨h1, h2, h3, h4, h5, h6, h7, h8, h9, h10⟩ := hb
  refine ⟨fun c hc' => ?_, ⟨fun c hc' => ?_, ?_⟩, h1, h3, h2, h4, h5⟩
  · rw [hc] at hc'
    unfold sgN
    by_cases e : c = nC D
    · rw [if_pos e]
      refine ⟨by show nL D ≤ nL D + n; omega, by show nL D + n ≤ _; omega, fun k hk => ?_⟩
      show ofN D' k = c ↔ nL D ≤ k ∧ k < nL D + n
      constructor
      · intro q
        refine ⟨Nat.le_of_not_lt fun z => ?_, by omega⟩
        have := h9 k z
        omega
      · intro q
        rw [e]
        exact (h10 k q.1 hk).1
    · rw [if_neg e]
      have s := h.seg c (by omega)
      refine ⟨s.1, by omega, fun k hk => ?_⟩
      by_cases hk2 : k < nL D
      · rw [(h9 k hk2).1]
        exact s.2.2 k hk2
      · rw [(h10 k (by omega) hk).1]
        exact ⟨fun q => absurd q.symm e, fun q => by omega⟩
  · rw [hc] at hc'
    have hsE : ∀ c, c ≤ nC D → sE (sgN sg D n) c = sE sg c := fun c hc => by
      cases c with
      | zero => rfl
      | succ c =>
        show (sgN sg D n c).2 = (sg c).2
        unfold sgN
        rw [if_neg (by omega)]
    rw [hsE c (by omega)]
    unfold sgN
    by_cases e : c = nC D
    · rw [if_pos e, e]
      exact h.ctg.2.symm
    · rw [if_neg e]
      exact h.ctg.1 c (by omega)
  · rw [hc]
    show (sgN sg D n (nC D)).2 = _
    unfold sgN
    rw [if_pos rfl]
    exact hn.symm
theorem ringV_ok {lg cl rf tm : Int32} {cs : List Int32} : RvOK (ringV lg cl rf tm cs) := by
  unfold ringV
  split
  · exact ⟨30, rfl, by decide, by decide⟩
  · unfold rtv
    split
    · rename_i h1
      split
      · rename_i h2
        have a1 := Int64.le_iff_toInt_le.mp ((lg_cmp_ge _ _).mp h1)
        have a2 := Int64.le_iff_toInt_le.mp ((lg_cmp_le _ _).mp h2)
        rw [show (1 : Int64).toInt = 1 by decide] at a1
        rw [show (99 : Int64).toInt = 99 by decide] at a2
        have e : ((evs lg cl rf tm cs []).getD 0 0).toInt32.toInt = ((evs lg cl rf tm cs []).getD 0 0).toInt := by
          rw [Int64.toInt_toInt32]
          exact i32_bmod (by omega)
        refine ⟨((evs lg cl rf tm cs []).getD 0 0).toInt.toNat, ?_, by omega, by omega⟩
        apply Int32.toInt_inj.mp
        rw [e, nI_toInt (by omega)]
        omega
      · exact ⟨99, rfl, by decide, by decide⟩
    · exact ⟨1, rfl, by decide, by decide⟩
/-- all that holds behind a call begun -/
theorem beg_GI {sg : ZSg} {D : ZD} (h : GI sg D) {q : Nat} {x rv ref : Int32} (hC : nC D < 20) (hq : q < nP D) (hr : ref = -1 ∨ (ref = nI (tN ref) ∧ tN ref < nL D)) (hv : RvOK rv) (hb : ∀ j, j < 10 → bitOf x j = 1 → j < nP D) (hL : nL D + bN x 0 10 ≤ 40) : GI (sgN sg D (bN x 0 10)) (begB D (nI q) x rv ref) ∧ nL (begB D (nI q) x rv ref) = nL D + bN x 0 10 ∧ nC (begB D (nI q) x rv ref) = nC D + 1 := by
  have n := gi_newC (rv := rv) h (ref := ref) hC hq hr hv
  have r := gb_itr (x := x) 10 0 _ n.1 (fun j _ b c => hb j (by omega) c) (by rw [n.2.1]; exact hL)
  rw [n.2.1, n.2.2] at r
  exact ⟨r.1.gi h r.2.1 r.2.2, r.2⟩
theorem begD_GI {sg : ZSg} {D : ZD} (h : GI sg D) {q : Nat} {x rv ref : Int32} (hC : nC D < 20) (hq : q < nP D) (hr : ref = -1 ∨ (ref = nI (tN ref) ∧ tN ref < nL D)) (hv : RvOK rv) (hb : ∀ j, j < 10 → bitOf x j = 1 → j < nP D) (hL : nL D + bN x 0 10 ≤ 40) : GI (sgN sg D (bN x 0 10)) (begD D (nI q) x rv ref) := by
  have b := (beg_GI h hC hq hr hv hb hL).1
  unfold begD
  split
  · exact b.same sm_fail (jo_fail b.jo)
  · exact b
/-- the calls' table behind a call's row -/
def E7 (E : ES) (m : Nat) (p tm rv ref f a : Int32) : ES :=
  let E1 := es (er E 1 (nI (m + 1))) 1 (zrow (E.1 1) (m * 8) 8)
  let Ea := es E1 1 (upd (E1.1 1) (m * 8 + 0) p)
  let Eb := es Ea 1 (upd (Ea.1 1) (m * 8 + 1) tm)
  let Ec := es Eb 1 (upd (Eb.1 1) (m * 8 + 2) rv)
  let Ed := es Ec 1 (upd (Ec.1 1) (m * 8 + 3) ref)
  let Ee := es Ed 1 (upd (Ed.1 1) (m * 8 + 5) (-1))
  let Ef := es Ee 1 (upd (Ee.1 1) (m * 8 + 6) f)
  es Ef 1 (upd (Ef.1 1) (m * 8 + 7) a)
theorem E7_1 {E : ES} {m : Nat} {p tm rv ref f a : Int32} : (E7 E m p tm rv ref f a).1 1 = upd (upd (upd (upd (upd (upd (upd (zrow (E.1 1) (m * 8) 8) (m * 8 + 0) p) (m * 8 + 1) tm) (m * 8 + 2) rv) (m * 8 + 3) ref) (m * 8 + 5) (-1)) (m * 8 + 6) f) (m * 8 + 7) a := rfl
theorem E7_o {E : ES} {m t : Nat} {p tm rv ref f a : Int32} (h : t ≠ 1) : (E7 E m p tm rv ref f a).1 t = E.1 t ∧ (E7 E m p tm rv ref f a).2.1 t = E.2.1 t := by
  refine ⟨?_, if_neg h⟩
  unfold E7
  simp only [es_ne h]
  rfl
theorem E7_lo {E : ES} {m i : Nat} {p tm rv ref f a : Int32} (h : i < m * 8) : (E7 E m p tm rv ref f a).1 1 i = E.1 1 i := by
  rw [E7_1, pk_un (by omega), pk_un (by omega), pk_un (by omega), pk_un (by omega), pk_un (by omega), pk_un (by omega), pk_un (by omega), zrow_o (Or.inl h)]
theorem CR.addC {D : ZD} {g : Option Nat} {sg : ZSg} {E : ES} (h : CR D g sg E D) {q n : Nat} {rv ref : Int32} (hC : nC D < 20) (hq : q < nP D) (hr : ref = -1 ∨ (ref = nI (tN ref) ∧ tN ref < nL D)) : CR (newC D (nI q) rv ref) g (sgN sg D n) (E7 E (nC D) (nI q) (D 0) rv ref (nI (nL D)) (nI (nL D + n))) (newC D (nI q) rv ref) := by
  have hI := h.2.1
  obtain ⟨i1, n1, n2, n3⟩ := newC_Iv (rv := rv) hI hC hq hr
  have w := newC_what (p := nI q) (rv := rv) (ref := ref) hC
  have h10 := hI.1.1.2
  obtain ⟨⟨a1, a2, a3, a4, a5, a6, a7⟩, b, c9, d, f⟩ := h
  refine ⟨⟨⟨?_, ?_, ?_, ?_⟩, ⟨?_, ?_, ?_, ?_⟩, fun p i hp hi => ?_, fun p i hp hi => ?_, fun p hp => ?_, fun k i hk hi => ?_, fun i hi => ?_⟩, i1, sm_rf, d, fun p hp => ?_⟩
  · rw [(E7_o (by decide)).2, w.1 _ (by decide) (by omega)]; exact a1.1
  · rw [w.2.1, hI.1.2.1.1, nI_1]; rfl
  · rw [(E7_o (by decide)).2, w.1 _ (by decide) (by omega)]; exact a1.2.2.1
  · rw [(E7_o (by decide)).2]; exact a1.2.2.2
  · rw [w.1 _ (by decide) (by omega)]; exact a2.1
  · rw [w.1 _ (by decide) (by omega)]; exact a2.2.1
  · rw [w.1 _ (by decide) (by omega)]; exact a2.2.2.1
  · rw [w.1 _ (by decide) (by omega)]; exact a2.2.2.2
  · rw [n3] at hp
    rw [(E7_o (by decide)).1, show dP (newC D (nI q) rv ref) p i = dP D p i from w.1 _ (by omega) (by omega)]
    exact a3 p i hp hi
  · rw [n2] at hp
    by_cases e : p = nC D
    · subst e
      rw [E7_1]
      rcases (show i = 0 ∨ i = 1 ∨ i = 2 ∨ i = 3 by omega) with rfl | rfl | rfl | rfl
      · rw [w.2.2.1, pk_un (by omega), pk_un (by omega), pk_un (by omega), pk_un (by omega), pk_un (by omega), pk_un (by omega), pk_us]
      · rw [w.2.2.2.1, pk_un (by omega), pk_un (by omega), pk_un (by omega), pk_un (by omega), pk_un (by omega), pk_us]
      · rw [w.2.2.2.2.1, pk_un (by omega), pk_un (by omega), pk_un (by omega), pk_un (by omega), pk_us]
      · rw [w.2.2.2.2.2.1, pk_un (by omega), pk_un (by omega), pk_un (by omega), pk_us]
    · rw [E7_lo (by omega), show dC (newC D (nI q) rv ref) p i = dC D p i from w.1 _ (by omega) (by omega)]
      exact a4 p i (by omega) hi
  · rw [n2] at hp
    by_cases e : p = nC D
    · subst e
      rw [E7_1, w.2.2.2.2.2.2, pk_un (by omega), pk_un (by omega), pk_us]
    · rw [E7_lo (by omega), show dC (newC D (nI q) rv ref) p 4 = dC D p 4 from w.1 _ (by omega) (by omega)]
      exact a5 p (by omega)
  · rw [n1] at hk
    rw [(E7_o (by decide)).1, show dL (newC D (nI q) rv ref) k i = dL D k i from w.1 _ (by omega) (by omega)]
    exact a6 k i hk hi
  · rw [(E7_o (by decide)).1, w.1 _ (by omega) (by omega)]
    exact a7 i hi
  · rw [n2] at hp
    unfold sgN
    by_cases e : p = nC D
    · subst e
      rw [E7_1, if_pos rfl]
      refine ⟨?_, ?_⟩
      · rw [pk_un (by omega), pk_us]
      · rw [pk_us]
    · rw [if_neg e, E7_lo (by omega), E7_lo (by omega)]
      exact f p (by omega)
/-- an answer, an exchange of which this is known, and its ring rule used -/
def PvG (Γ : ZG) (w : ZW) (e : Nat) (g : Option Nat) (r : Option Value) (P : ES → Prop) : Option Value → ZW → Prop := fun v w2 => v = r ∧ ∃ h x E', w2 = wE Γ (gW Γ w g h x) e E' ∧ P E'
theorem beg_nP {D : ZD} {x p rv ref : Int32} (hC : nC D < 20) {n : Nat} (hn : n ≤ 10) (hb : ∀ j, n ≤ j → j < 10 → bitOf x j ≠ 1) : begB D p x rv ref = itr (bStep x (nI (nC D))) 0 n (newC D p rv ref) := by
  unfold begB
  conv => lhs; rw [show 10 = n + (10 - n) by omega]
  rw [itr_add]
  refine itr_id (fun _ => True) _ _ _ trivial (fun k s a b _ => if_neg (hb k (by omega) (by omega)))
set_option maxRecDepth 100000 in
set_option maxHeartbeats 4000000 in
theorem lp_X0_beginCall {D DF : ZD} {g : Option Nat} {sg : ZSg} {l : Launch} {Γ : ZG} {w : ZW} {e xn c : Nat} {p ref : Int32} {Φ : Option Value → ZW → Prop} (kk : ∀ E' a, CR DF g sg E' DF → a = zcnt (fun i => dL DF i 2 = 0) (nL D) (nL DF - nL D) 0 → Go l Γ mX0_beginCall 6 0 0 Φ zNo 0 0 (wE Γ w e E') 178 [(0, .ref e), (4, .int (nI c)), (7, .int a)] []) : ∀ (f k : Nat) (E : ES) (D' : ZD) (a : Int32), CR D' g sg E D' → GB D c k D' → k + f = nP D → nL D' + bN (nI xn) k f ≤ 40 → itr (bStep (nI xn) (nI c)) k f D' = DF → a = zcnt (fun i => dL D' i 2 = 0) (nL D) (nL D' - nL D) 0 → Go l Γ mX0_beginCall 6 0 0 Φ zNo 0 0 (wE Γ w e E) 138 [(0, .ref e), (1, .int p), (2, .int (nI xn)), (3, .int ref), (4, .int (nI c)), (7, .int a), (8, .int (nI k))] [] := by
  intro f
  induction f with
  | zero =>
    intro k E D' a h hb hif hL he ha
    have hn := hb.2.2.2.2.2.2.1
    have h10 := h.P10
    refine go_iload 140 dX0_beginCall_138 rfl ?_
    refine go_aload_n 141 dX0_beginCall_140 rfl ?_
    refine xe_get 144 dX0_beginCall_141 fX0_14 rfl ?_
    refine xe_rP 147 h dX0_beginCall_144 fX0_61 ?_
    refine go_icmp_ge 178 150 dX0_beginCall_147 (fun h147 => ?_) (fun h147 => ?_)
    · exact go_locals _ rfl (kk E a (by rw [show DF = D' from he.symm]; exact h) (by rw [show DF = D' from he.symm]; exact ha))
    · exact (lpE (a := nI (nP D')) (N := nP D') rfl (by omega) h147).elim
  | succ f ih =>
    intro k E D' a h hb hif hL he ha
    have hn := hb.2.2.2.2.2.2.1
    have h10 := h.P10
    refine go_iload 140 dX0_beginCall_138 rfl ?_
    refine go_aload_n 141 dX0_beginCall_140 rfl ?_
    refine xe_get 144 dX0_beginCall_141 fX0_14 rfl ?_
    refine xe_rP 147 h dX0_beginCall_144 fX0_61 ?_
    refine go_icmp_ge 178 150 dX0_beginCall_147 (fun h147 => ?_) (fun h147 => ?_)
    · exact (lpG (a := nI (nP D')) (N := nP D') rfl (by omega) (by omega) h147).elim
    · refine go_iload_n 151 dX0_beginCall_150 rfl ?_
      refine go_iload 153 dX0_beginCall_151 rfl ?_
      refine go_ishr 154 dX0_beginCall_153 ?_
      refine go_iconst 155 dX0_beginCall_154 zc_1 ?_
      refine go_iand 156 dX0_beginCall_155 ?_
      refine go_if_eq 172 159 dX0_beginCall_156 (fun h156 => ?_) (fun h156 => ?_)
      · refine go_iinc 175 dX0_beginCall_172 rfl (by decide) zc_1 ?_
        refine go_goto 138 dX0_beginCall_175 ?_
        rw [nI_1]
        have hx0 : ¬ bitOf (nI xn) k = 1 := fun q => by rw [show bitOf (nI xn) k = 0 from h156] at q; exact absurd q (by decide)
        have hb1 : bN (nI xn) k (f + 1) = 0 + bN (nI xn) (k + 1) f := by rw [bN_s, if_neg hx0]
        exact go_locals [(0, .ref e), (1, .int p), (2, .int (nI xn)), (3, .int ref), (4, .int (nI c)), (7, .int a), (8, .int (nI (k + 1)))] rfl (ih (k + 1) E D' a h hb.up (by omega) (by omega) (by rw [← he]; show itr (bStep (nI xn) (nI c)) (k + 1) f _ = itr (bStep (nI xn) (nI c)) (k + 1) f (bStep (nI xn) (nI c) k D'); rw [show bStep (nI xn) (nI c) k D' = D' from if_neg hx0]) ha)
      · refine go_iload 161 dX0_beginCall_159 rfl ?_
        have hx1 : bitOf (nI xn) k = 1 := (bit01 (nI xn) k).resolve_left h156
        have hb1 : bN (nI xn) k (f + 1) = 1 + bN (nI xn) (k + 1) f := by rw [bN_s, if_pos hx1]
        refine go_aload_n 162 dX0_beginCall_161 rfl ?_
        refine go_iload 164 dX0_beginCall_162 rfl ?_
        refine go_iload 166 dX0_beginCall_164 rfl ?_
        refine gxX2 169 dX0_beginCall_166 vX0_88 wE_at0 rfl (cx_X0_addLeg h hb.2.1.st (c := c) (q := k) (by rw [hb1] at hL; omega) hb.2.2.2.2.2.1 (by omega)) (fun E166 r166 => ?_)
        refine go_iadd 170 dX0_beginCall_169 ?_
        refine go_istore 172 dX0_beginCall_170 (by decide) ?_
        refine go_iinc 175 dX0_beginCall_172 rfl (by decide) zc_1 ?_
        refine go_goto 138 dX0_beginCall_175 ?_
        rw [nI_1]
        have gm := gb_mk hb (by rw [hb1] at hL; omega) (by omega)
        exact go_locals [(0, .ref e), (1, .int p), (2, .int (nI xn)), (3, .int ref), (4, .int (nI c)), (7, .int (a + zb (¬ eng D' (nI k)))), (8, .int (nI (k + 1)))] rfl (ih (k + 1) _ _ _ r166 gm.1 (by omega) (by rw [gm.2.1]; rw [hb1] at hL; omega) (by rw [← he]; show itr (bStep (nI xn) (nI c)) (k + 1) f _ = itr (bStep (nI xn) (nI c)) (k + 1) f (bStep (nI xn) (nI c) k D'); rw [show bStep (nI xn) (nI c) k D' = mkD D' (nI c) (nI k) from if_pos hx1]) (by
          have hz : zcnt (fun i => dL (mkD D' (nI c) (nI k)) i 2 = 0) (nL D) (nL D' - nL D) 0 = zcnt (fun i => dL D' i 2 = 0) (nL D) (nL D' - nL D) 0 := zcnt_congr _ _ _ (fun j h1 h2 => by rw [gm.2.2.2 j (by omega)])
          have hm := hb.2.2.2.2.2.2.2.1
          rw [gm.2.1, show nL D' + 1 - nL D = (nL D' - nL D) + 1 by omega, zcnt_last, hz, ← ha, show nL D + (nL D' - nL D) = nL D' by omega]
          exact congrArg (fun z => a + z) (zb_congr mk_row.2.symm)))
theorem bN_cut {x : Int32} {n : Nat} (hn : n ≤ 10) (hb : ∀ j, j < 10 → bitOf x j = 1 → j < n) : bN x 0 n = bN x 0 10 := by
  have add : ∀ a b k, bN x k (a + b) = bN x k a + bN x (k + a) b := by
    intro a
    induction a with
    | zero => intro b k; rw [Nat.zero_add]; show _ = 0 + _; rw [Nat.zero_add, Nat.add_zero]
    | succ a ih =>
      intro b k
      rw [show a + 1 + b = (a + b) + 1 by omega, bN_s, bN_s, ih, show k + 1 + a = k + (a + 1) by omega]
      omega
  have z : ∀ b k, n ≤ k → k + b ≤ 10 → bN x k b = 0 := by
    intro b
    induction b with
    | zero => intro k _ _; rfl
    | succ b ih =>
      intro k h1 h2
      rw [bN_s, if_neg (fun q => by have := hb k (by omega) q; omega), ih (k + 1) (by omega) (by omega)]
  have := add n (10 - n) 0
  rw [show n + (10 - n) = 10 by omega, z (10 - n) (0 + n) (by omega) (by omega)] at this
  omega
set_option maxRecDepth 100000 in
set_option maxHeartbeats 4000000 in
theorem cx_X0_beginCall {D : ZD} {g : Option Nat} {sg : ZSg} {E : ES} {l : Launch} {Γ : ZG} {w : ZW} {e : Nat} {cs : List Int32} (h : CR D g sg E D) (hG : GI sg D) (hR : RG Γ w g cs) (hA : gAway g e 9) {q xn : Nat} {ref rr rv : Int32} (hC : nC D < 20) (hq : q < nP D) (hxn : xn < 1024) (hb : ∀ j, j < 10 → bitOf (nI xn) j = 1 → j < nP D) (hL : nL D + bN (nI xn) 0 10 ≤ 40) (hr : ref = -1 ∨ (ref = nI (tN ref) ∧ tN ref < nL D)) (hrr : rr = if ref = -1 then 0 else 1) (hrv : rv = ringV (nI (bN (nI xn) 0 10)) (nI q) rr (D 0) cs) : Ct l Γ mX0_beginCall 6 0 0 [.ref e, .int (nI q), .int (nI xn), .int ref] (wE Γ w e E) (PvG Γ w e g (some (.int (begN D (nI q) (nI xn) rv ref))) (fun E' => CR (begD D (nI q) (nI xn) rv ref) g (sgN sg D (bN (nI xn) 0 10)) E' (begD D (nI q) (nI xn) rv ref))) zNo := by
  have hg : E.2.2.2 = g := h.2.2.2.1
  have ht : E.2.2.1 5 = D 0 := h.1.2.1.1
  have hRc : E.2.1 1 = nI (nC D) := h.1.1.2.1.trans h.D5
  have hR2 : E.2.1 2 = nI (nL D) := h.1.1.2.2.1.trans h.D6
  have hp10 := h.P10
  have blg : B6 (nI (bN (nI xn) 0 10)).toInt64 := B6_nI (by omega)
  have bcl : B6 (nI q).toInt64 := B6_nI (by omega)
  have btm : B6 (D 0).toInt64 := by
    have h9 := hG.jt.1
    rw [h9.1]
    exact B6_nI (by omega)
  have brr : B6 rr.toInt64 := by
    rw [hrr]
    split
    · exact B6_nI (n := 0) (by decide)
    · exact B6_nI (n := 1) (by decide)
  refine Ct.of (by decide) rfl (Nat.le_of_ble_eq_true rfl) ?_
  have key : ∀ r0, r0 = (if ref = -1 then (0 : Int32) else 1) → Go l Γ mX0_beginCall 6 0 0 (PvG Γ w e g (some (.int (begN D (nI q) (nI xn) rv ref))) (fun E' => CR (begD D (nI q) (nI xn) rv ref) g (sgN sg D (bN (nI xn) 0 10)) E' (begD D (nI q) (nI xn) rv ref))) zNo 0 0 (wE Γ w e (es (er E 1 (nI (nC D + 1))) 1 (zrow (E.1 1) (nC D * 8) 8))) 25 [(0, .ref e), (1, .int (nI q)), (2, .int (nI xn)), (3, .int ref), (4, .int (nI (nC D))), (5, .int (nI (bN (nI xn) 0 10)))] [.int r0] := by
    intro r0 hr0
    have e0 : rr = r0 := hrr.trans hr0.symm
    subst e0
    have hv : RvOK rv := by rw [hrv]; exact ringV_ok
    refine go_istore 27 dX0_beginCall_25 (by decide) ?_
    refine go_aload_n 28 dX0_beginCall_27 rfl ?_
    refine xe_get 31 dX0_beginCall_28 fX0_20 rfl ?_
    refine go_iload 33 dX0_beginCall_31 rfl ?_
    refine go_iconst 34 dX0_beginCall_33 zc_0 ?_
    refine go_iload_n 35 dX0_beginCall_34 rfl ?_
    refine gcV3v 38 dX0_beginCall_35 vX0_57 (wE_tab (t := 1) (by decide)) rfl (cr_C (m := nC D + 1) (r := nC D) (c := 0) rfl (by omega) (by omega) (by decide)) ?_
    refine go_aload_n 39 dX0_beginCall_38 rfl ?_
    refine xe_get 42 dX0_beginCall_39 fX0_20 rfl ?_
    refine go_iload 44 dX0_beginCall_42 rfl ?_
    refine go_iconst 45 dX0_beginCall_44 zc_1 ?_
    refine go_aload_n 46 dX0_beginCall_45 rfl ?_
    refine xe_get 49 dX0_beginCall_46 fX0_50 (show (efs e _)[5]? = some (.int (D 0)) from by rw [← ht]; rfl) ?_
    refine gcV3v 52 dX0_beginCall_49 vX0_57 (wE_tab (t := 1) (by decide)) rfl (cr_C (m := nC D + 1) (r := nC D) (c := 1) rfl (by omega) (by omega) (by decide)) ?_
    refine go_aload_n 53 dX0_beginCall_52 rfl ?_
    refine xe_get 56 dX0_beginCall_53 fX0_20 rfl ?_
    refine go_iload 58 dX0_beginCall_56 rfl ?_
    refine go_iconst 59 dX0_beginCall_58 zc_2 ?_
    refine go_aload_n 60 dX0_beginCall_59 rfl ?_
    refine go_iload 62 dX0_beginCall_60 rfl ?_
    refine go_iload_n 63 dX0_beginCall_62 rfl ?_
    refine go_iload 65 dX0_beginCall_63 rfl ?_
    refine go_callV (As := [.int (nI (bN (nI xn) 0 10)), .int (nI q), .int rr]) 68 dX0_beginCall_65 vX0_84 wE_at0 rfl (cx_X0_ringTime (tm := D 0) (by exact hg) (by exact ht) hR hA blg bcl brr btm) (by decide) (by decide) (by omega) (by omega) (by exact Nat.le_of_ble_eq_true rfl) (fun u w2 hu => ?_)
    obtain ⟨rfl, h9, v9, rfl⟩ := hu
    rw [← hrv]
    refine gcV3v 71 dX0_beginCall_68 vX0_57 (wE_tab (t := 1) (by decide)) rfl (cr_C (m := nC D + 1) (r := nC D) (c := 2) rfl (by omega) (by omega) (by decide)) ?_
    refine go_aload_n 72 dX0_beginCall_71 rfl ?_
    refine xe_get 75 dX0_beginCall_72 fX0_20 rfl ?_
    refine go_iload 77 dX0_beginCall_75 rfl ?_
    refine go_iconst 78 dX0_beginCall_77 zc_3 ?_
    refine go_iload_n 79 dX0_beginCall_78 rfl ?_
    refine gcV3v 82 dX0_beginCall_79 vX0_57 (wE_tab (t := 1) (by decide)) rfl (cr_C (m := nC D + 1) (r := nC D) (c := 3) rfl (by omega) (by omega) (by decide)) ?_
    refine go_aload_n 83 dX0_beginCall_82 rfl ?_
    refine xe_get 86 dX0_beginCall_83 fX0_20 rfl ?_
    refine go_iload 88 dX0_beginCall_86 rfl ?_
    refine go_iconst 89 dX0_beginCall_88 zc_5 ?_
    refine go_iconst 90 dX0_beginCall_89 zc_m1 ?_
    refine gcV3v 93 dX0_beginCall_90 vX0_57 (wE_tab (t := 1) (by decide)) rfl (cr_C (m := nC D + 1) (r := nC D) (c := 5) rfl (by omega) (by omega) (by decide)) ?_
    refine go_aload_n 94 dX0_beginCall_93 rfl ?_
    refine xe_get 97 dX0_beginCall_94 fX0_20 rfl ?_
    refine go_iload 99 dX0_beginCall_97 rfl ?_
    refine go_bipush 101 dX0_beginCall_99 zb_6 ?_
    refine go_aload_n 102 dX0_beginCall_101 rfl ?_
    refine xe_get 105 dX0_beginCall_102 fX0_23 rfl ?_
    refine go_get (v := .int (nI (nL D))) 108 dX0_beginCall_105 fX0_61 (wE_tab (t := 2) (by decide)) (by rw [← hR2]; rfl) ?_
    refine gcV3v 111 dX0_beginCall_108 vX0_57 (wE_tab (t := 1) (by decide)) rfl (cr_C (m := nC D + 1) (r := nC D) (c := 6) rfl (by omega) (by omega) (by decide)) ?_
    refine go_aload_n 112 dX0_beginCall_111 rfl ?_
    refine xe_get 115 dX0_beginCall_112 fX0_20 rfl ?_
    refine go_iload 117 dX0_beginCall_115 rfl ?_
    refine go_bipush 119 dX0_beginCall_117 zb_7 ?_
    refine go_aload_n 120 dX0_beginCall_119 rfl ?_
    refine xe_get 123 dX0_beginCall_120 fX0_23 rfl ?_
    refine go_get (v := .int (nI (nL D))) 126 dX0_beginCall_123 fX0_61 (wE_tab (t := 2) (by decide)) (by rw [← hR2]; rfl) ?_
    refine go_iload 128 dX0_beginCall_126 rfl ?_
    refine go_iadd 129 dX0_beginCall_128 ?_
    rw [nI_add]
    refine gcV3v 132 dX0_beginCall_129 vX0_57 (wE_tab (t := 1) (by decide)) rfl (cr_C (m := nC D + 1) (r := nC D) (c := 7) rfl (by omega) (by omega) (by decide)) ?_
    have r := h.addC (n := bN (nI xn) 0 10) (rv := rv) hC hq hr
    have nb := gi_newC (rv := rv) (ref := ref) hG hC hq hr hv
    change Go l Γ mX0_beginCall 6 0 0 _ zNo 0 0 (wE Γ (gW Γ w g h9 v9) e (E7 E (nC D) (nI q) (D 0) rv ref (nI (nL D)) (nI (nL D + bN (nI xn) 0 10)))) 132 _ []
    refine go_iconst 133 dX0_beginCall_132 zc_0 ?_
    refine go_istore 135 dX0_beginCall_133 (by decide) ?_
    refine go_iconst 136 dX0_beginCall_135 zc_0 ?_
    refine go_istore 138 dX0_beginCall_136 (by decide) ?_
    refine go_locals _ rfl (lp_X0_beginCall (c := nC D) (D := D) (DF := begB D (nI q) (nI xn) rv ref) (p := nI q) (ref := ref) (fun E' a r2 ha => ?_) (nP D) 0 _ _ 0 r nb.1 (by omega) (by rw [nb.2.1, bN_cut hp10 hb]; exact hL) (beg_nP hC hp10 (fun j a b c => absurd (hb j b c) (by omega))).symm (by rw [nb.2.1, Nat.sub_self]; rfl))
    have bg := beg_GI (rv := rv) (ref := ref) (x := nI xn) hG hC hq hr hv hb hL
    have hbn : zcnt (fun i => dL (begB D (nI q) (nI xn) rv ref) i 2 = 0) (nL D) (nL (begB D (nI q) (nI xn) rv ref) - nL D) 0 = begN D (nI q) (nI xn) rv ref := by
      unfold begN
      rw [bg.2.1, Nat.add_sub_cancel_left]
    refine go_iload 180 dX0_beginCall_178 rfl ?_
    refine go_if_ne 189 183 dX0_beginCall_180 (fun h180 => ?_) (fun h180 => ?_)
    · refine go_iload 191 dX0_beginCall_189 rfl ?_
      exact go_ireturn dX0_beginCall_191 rfl (by omega) (by omega) (⟨by rw [ha, hbn], h9, v9, _, rfl, by unfold begD; first | (rw [if_neg (by rw [← hbn, ← ha]; exact h180)]; exact r2) | (rw [if_pos (by rw [← hbn, ← ha]; first | exact h180 | exact Classical.not_not.mp h180)]; exact r2.base)⟩)
    · refine go_aload_n 184 dX0_beginCall_183 rfl ?_
      refine go_iload 186 dX0_beginCall_184 rfl ?_
      refine gxX1v 189 dX0_beginCall_186 vX0_91 wE_at0 rfl (cx_X0_failCall r2 (c := nC D) rfl (by rw [bg.2.2]; omega)) (fun E186 r186 => ?_)
      refine go_iload 191 dX0_beginCall_189 rfl ?_
      exact go_ireturn dX0_beginCall_191 rfl (by omega) (by omega) (⟨by rw [ha, hbn], h9, v9, _, rfl, by unfold begD; first | (rw [if_neg (by rw [← hbn, ← ha]; exact h180)]; exact r186) | (rw [if_pos (by rw [← hbn, ← ha]; first | exact h180 | exact Classical.not_not.mp h180)]; exact r186.base)⟩)
  refine go_aload_n 1 dX0_beginCall_0 rfl ?_
  refine xe_get 4 dX0_beginCall_1 fX0_20 rfl ?_
  refine gcV0 7 dX0_beginCall_4 vX0_39 (wE_tab (t := 1) (by decide)) rfl (ca_C hRc hC) ?_
  refine go_istore 9 dX0_beginCall_7 (by decide) ?_
  refine go_iload_n 10 dX0_beginCall_9 rfl ?_
  refine gcS1 13 dX0_beginCall_10 vX0_79 (ct_J6_bitCount hxn) ?_
  refine go_istore 15 dX0_beginCall_13 (by decide) ?_
  refine go_iload_n 16 dX0_beginCall_15 rfl ?_
  refine go_iconst 17 dX0_beginCall_16 zc_m1 ?_
  refine go_icmp_ne 24 20 dX0_beginCall_17 (fun h17 => ?_) (fun h17 => ?_)
  · refine go_iconst 25 dX0_beginCall_24 zc_1 ?_
    exact go_locals _ rfl (key 1 (by rw [if_neg h17]))
  · refine go_iconst 21 dX0_beginCall_20 zc_0 ?_
    refine go_goto 25 dX0_beginCall_21 ?_
    exact go_locals _ rfl (key 0 (by rw [if_pos (by first | exact h17 | exact Classical.not_not.mp h17)]))
end CBeg
