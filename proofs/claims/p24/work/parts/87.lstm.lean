section LStm
theorem word_sp {B : ZB} {p m : Nat} {w : String} {t : List Nat} (ht : Tx B p (chs w ++ (32 :: t))) (hl : (chs w).length = m) (hm : w.length = m) (hh : Hd t) (hp : p + m ≤ 590) : wd B w p ∧ sp B (p + m) = p + m + 1 ∧ Tx B (p + m + 1) t := by
  obtain ⟨t1, t2, t3⟩ := Tx.app.mp ht
  rw [hl] at t2 t3
  have t4 : B (p + m) = nI 32 := t2
  refine ⟨wd_of t1 (hl.trans hm.symm) (by rw [hm, isL_n t4 (by decide)]; decide), sp_1 (by omega) t4 (hh.ne t3), t3⟩
theorem num_sp {B : ZB} {p x lo hi : Nat} {t : List Nat} (ht : Tx B p (dec x ++ (32 :: t))) (hh : Hd t) (hx : x ≤ 9999) (hp : p ≤ 580) (h1 : lo ≤ x) (h2 : x ≤ hi) : num B lo hi p = .inr (p + (dec x).length + 1, x) ∧ Tx B (p + (dec x).length + 1) t := by
  obtain ⟨t1, t2, t3⟩ := Tx.app.mp ht
  have t4 : B (p + (dec x).length) = nI 32 := t2
  have hl := dec_pos (x := x)
  refine ⟨?_, t3⟩
  rw [(num_dec t1 hx (by rw [isD_n t4 (by decide)]; decide) (by omega) h1 h2).2, sp_1 (by omega) t4 (hh.ne t3)]
theorem num_end {B : ZB} {p x lo hi : Nat} {t : List Nat} (ht : Tx B p (dec x ++ (59 :: t))) (hx : x ≤ 9999) (hp : p ≤ 580) (h1 : lo ≤ x) (h2 : x ≤ hi) : num B lo hi p = .inr (p + (dec x).length, x) ∧ B (p + (dec x).length) = 59 ∧ Tx B (p + (dec x).length + 1) t := by
  obtain ⟨t1, t2, t3⟩ := Tx.app.mp ht
  have t4 : B (p + (dec x).length) = nI 59 := t2
  have hl := dec_pos (x := x)
  refine ⟨?_, t2, t3⟩
  rw [(num_dec t1 hx (by rw [isD_n t4 (by decide)]; decide) (by omega) h1 h2).2, sp_0 (by rw [t4]; decide)]
theorem hd_num {x : Nat} {t : List Nat} (hx : x ≤ 9999) : Hd (dec x ++ t) := hd_app (hd_dec hx)
/-- one statement and its semicolon -/
def St (B : ZB) (p q : Nat) (s s2 : ZD × (Bool × Bool × Bool) × List Int32) : Prop := B p ≠ -1 ∧ ∃ r, q = r + 1 ∧ B r = 59 ∧ stm B (p, s) = .inr (r, s2)
theorem St.go {B : ZB} {p q f : Nat} {s s2 : ZD × (Bool × Bool × Bool) × List Int32} (h : St B p q s s2) (hq : B q ≠ 32) : stms B (f + 1) (p, s) = stms B f (q, s2) := by
  obtain ⟨h1, r, rfl, h3, h4⟩ := h
  show (if B p = -1 then _ else _) = _
  rw [if_neg h1, h4]
  dsimp only
  rw [if_pos h3, sp_0 hq]
theorem ne_m1 {B : ZB} {p a : Nat} (h : B p = nI a) (ha : a < 128) : B p ≠ -1 := by
  rw [h]; exact nI_nm1 (by omega)
def ptx (a r c : Nat) : List Nat := chs "party" ++ (32 :: (dec a ++ (32 :: (dec r ++ (32 :: (dec c ++ [59]))))))
theorem st_party {B : ZB} {p q a r c : Nat} {G : ZD} {fl : Bool × Bool × Bool} {cs : List Int32} (ht : Tx B p (ptx a r c)) (hq : q = p + (ptx a r c).length) (hp : q ≤ 500) (ha : a ≤ 99) (hr : r ≤ 99) (hc : c ≤ 999) (hG : G 4 ≠ 10) : St B p q (G, fl, cs) (addP G (nI a) (nI r) (nI c), fl, cs) := by
  have l0 : (chs "party").length = 5 := by decide +kernel
  unfold ptx at hq
  simp only [List.length_append, List.length_cons, List.length_nil, l0] at hq
  have hp0 : B p = nI 112 := ((Tx.app.mp (show Tx B p (chs "party" ++ _) from ht)).1.at 0 (by rw [l0]; decide)).trans (by decide +kernel)
  obtain ⟨w1, w2, t1⟩ := word_sp (m := 5) ht l0 (by decide +kernel) (hd_num (by omega)) (by omega)
  obtain ⟨n1, t2⟩ := num_sp (lo := 0) (hi := 99) t1 (hd_num (by omega)) (by omega) (by omega) (Nat.zero_le _) ha
  obtain ⟨n2, t3⟩ := num_sp (lo := 0) (hi := 99) t2 (hd_num (by omega)) (by omega) (by omega) (Nat.zero_le _) hr
  obtain ⟨n3, b3, -⟩ := num_end (lo := 0) (hi := 999) t3 (by omega) (by omega) (Nat.zero_le _) hc
  refine ⟨ne_m1 hp0 (by decide), _, by omega, b3, ?_⟩
  unfold stm
  rw [if_pos w1, if_neg hG]
  dsimp only
  rw [w2, n1]
  dsimp only
  rw [n2]
  dsimp only
  rw [n3]
def wtx (a r : Nat) : List Nat := chs "wait" ++ (32 :: (dec a ++ (32 :: (dec r ++ [59]))))
theorem st_wait {B : ZB} {p q a r : Nat} {G : ZD} {f2 : Bool × Bool} {cs : List Int32} (ht : Tx B p (wtx a r)) (hq : q = p + (wtx a r).length) (hp : q ≤ 500) (ha : 1 ≤ a ∧ a ≤ 99) (hr : 1 ≤ r ∧ r ≤ 99) : St B p q (G, (false, f2), cs) (upd (upd G 1 (nI a)) 2 (nI r), (true, f2), cs) := by
  have l0 : (chs "wait").length = 4 := by decide +kernel
  unfold wtx at hq
  simp only [List.length_append, List.length_cons, List.length_nil, l0] at hq
  have hp0 : B p = nI 119 := ((Tx.app.mp (show Tx B p (chs "wait" ++ _) from ht)).1.at 0 (by rw [l0]; decide)).trans (by decide +kernel)
  obtain ⟨w1, w2, t1⟩ := word_sp (m := 4) ht l0 (by decide +kernel) (hd_num (by omega)) (by omega)
  obtain ⟨n1, t2⟩ := num_sp (lo := 1) (hi := 99) t1 (hd_num (by omega)) (by omega) (by omega) ha.1 ha.2
  obtain ⟨n3, b3, -⟩ := num_end (lo := 1) (hi := 99) t2 (by omega) (by omega) hr.1 hr.2
  refine ⟨ne_m1 hp0 (by decide), _, by omega, b3, ?_⟩
  unfold stm
  rw [if_neg (wd_no (t := "party") hp0 (by decide +kernel) (by decide +kernel)), if_pos ⟨w1, rfl⟩]
  dsimp only
  rw [w2, n1]
  dsimp only
  rw [n3]
def atx (a : Nat) : List Nat := chs "patience" ++ (32 :: (dec a ++ [59]))
theorem st_pat {B : ZB} {p q a : Nat} {G : ZD} {f1 f3 : Bool} {cs : List Int32} (ht : Tx B p (atx a)) (hq : q = p + (atx a).length) (hp : q ≤ 500) (ha : 1 ≤ a ∧ a ≤ 99) : St B p q (G, (f1, false, f3), cs) (upd G 3 (nI a), (f1, true, f3), cs) := by
  have l0 : (chs "patience").length = 8 := by decide +kernel
  unfold atx at hq
  simp only [List.length_append, List.length_cons, List.length_nil, l0] at hq
  have hp0 : B p = nI 112 := ((Tx.app.mp (show Tx B p (chs "patience" ++ _) from ht)).1.at 0 (by rw [l0]; decide)).trans (by decide +kernel)
  have hp2 : B (p + 2) = nI 116 := ((Tx.app.mp (show Tx B p (chs "patience" ++ _) from ht)).1.at 2 (by rw [l0]; decide)).trans (by decide +kernel)
  obtain ⟨w1, w2, t1⟩ := word_sp (m := 8) ht l0 (by decide +kernel) (hd_num (by omega)) (by omega)
  obtain ⟨n3, b3, -⟩ := num_end (lo := 1) (hi := 99) t1 (by omega) (by omega) ha.1 ha.2
  refine ⟨ne_m1 hp0 (by decide), _, by omega, b3, ?_⟩
  have hnp : ¬ wd B "party" p := fun z => absurd ((z.1 2 (by decide +kernel)).symm.trans hp2) (by decide +kernel)
  unfold stm
  rw [if_neg hnp, if_neg (fun z => wd_no (t := "wait") hp0 (by decide +kernel) (by decide +kernel) z.1), if_pos ⟨w1, rfl⟩]
  dsimp only
  rw [w2, n3]
def rtx (tx : List Nat) : List Nat := chs "ring" ++ (32 :: (tx ++ [32, 59]))
theorem st_ring {B : ZB} {p q d : Nat} {G : ZD} {f1 f2 : Bool} {c0 cs : List Int32} {tx : List Nat} {ow : Nat} (ht : Tx B p (rtx tx)) (hq : q = p + (rtx tx).length) (hp : q ≤ 500) (hd : d ≤ 5) (h : PTx d cs tx ow) : St B p q (G, (f1, f2, false), c0) (upd G 7 1, (f1, f2, true), c0 ++ cs) := by
  have l0 : (chs "ring").length = 4 := by decide +kernel
  unfold rtx at hq
  simp only [List.length_append, List.length_cons, List.length_nil, l0] at hq
  have hp0 : B p = nI 114 := ((Tx.app.mp (show Tx B p (chs "ring" ++ _) from ht)).1.at 0 (by rw [l0]; decide)).trans (by decide +kernel)
  obtain ⟨w1, w2, t1⟩ := word_sp (m := 4) ht l0 (by decide +kernel) (hd_app (hd_pt h)) (by omega)
  obtain ⟨t2, t3, t4, -⟩ := Tx.app.mp t1
  have e := smm_law (c0 := c0) hd h t2 rfl (by omega) t3 t4
  refine ⟨ne_m1 hp0 (by decide), p + 4 + 1 + tx.length + 1, by omega, t4, ?_⟩
  unfold stm
  rw [if_neg (wd_no (t := "party") hp0 (by decide +kernel) (by decide +kernel)), if_neg (fun z => wd_no (t := "wait") hp0 (by decide +kernel) (by decide +kernel) z.1), if_neg (fun z => wd_no (t := "patience") hp0 (by decide +kernel) (by decide +kernel) z.1), if_pos ⟨w1, rfl⟩]
  dsimp only
  rw [w2, e]
def addL (G : ZD) (x : Nat × Nat × Nat) : ZD := addP G (nI x.1) (nI x.2.1) (nI x.2.2)
def ptxs (ps : List (Nat × Nat × Nat)) : List Nat := ps.flatMap fun x => ptx x.1 x.2.1 x.2.2
def PsOK (ps : List (Nat × Nat × Nat)) : Prop := ∀ x ∈ ps, x.1 ≤ 99 ∧ x.2.1 ≤ 99 ∧ x.2.2 ≤ 999
def HE (t : List Nat) : Prop := t = [] ∨ Hd t
theorem he_app {s t : List Nat} (h : HE s) (h2 : HE t) : HE (s ++ t) := by
  rcases h with rfl | h
  · exact h2
  · exact Or.inr (hd_app h)
theorem he_ne {B : ZB} {p : Nat} {t : List Nat} (h : HE t) (ht : Tx B p t) (he : B (p + t.length) = -1) : B p ≠ 32 := by
  rcases h with rfl | h
  · rw [show B p = -1 from he]; decide
  · exact h.ne ht
theorem hd_ptx {a r c : Nat} : Hd (ptx a r c) := hd_app ⟨112, chs "arty", by decide +kernel, by decide, by decide⟩
theorem he_ptxs : ∀ (ps : List (Nat × Nat × Nat)), HE (ptxs ps)
  | [] => Or.inl rfl
  | x :: ps => Or.inr (hd_app (t := ptxs ps) hd_ptx)
theorem addL_4 {G : ZD} {x : Nat × Nat × Nat} {k : Nat} (h : G 4 = nI k) : addL G x 4 = nI (k + 1) := by
  have : addL G x 4 = G 4 + 1 := by
    unfold addL addP upd
    exact if_pos rfl
  rw [this, h]
  exact nI_add k 1
theorem sts_party {B : ZB} {fl : Bool × Bool × Bool} {cs : List Int32} : ∀ (ps : List (Nat × Nat × Nat)) (k p : Nat) (G : ZD) (f : Nat), Tx B p (ptxs ps) → PsOK ps → p + (ptxs ps).length ≤ 500 → G 4 = nI k → k + ps.length ≤ 10 → B (p + (ptxs ps).length) ≠ 32 → stms B (f + ps.length) (p, G, fl, cs) = stms B f (p + (ptxs ps).length, ps.foldl addL G, fl, cs)
  | [], k, p, G, f, _, _, _, _, _, _ => rfl
  | x :: ps, k, p, G, f, ht, hx, hp, hG, hk, hn => by
    obtain ⟨t1, t2⟩ := Tx.app.mp (show Tx B p (ptx x.1 x.2.1 x.2.2 ++ ptxs ps) from ht)
    have hl : (ptxs (x :: ps)).length = (ptx x.1 x.2.1 x.2.2).length + (ptxs ps).length := List.length_append
    obtain ⟨x1, x2, x3⟩ := hx x (List.mem_cons_self ..)
    simp only [List.length_cons] at hk
    have hG2 : G 4 ≠ 10 := by
      rw [hG]
      exact fun z => absurd (n128 (b := 10) (by omega) (by decide) z) (by omega)
    have hs := st_party (fl := fl) (cs := cs) t1 rfl (by omega) x1 x2 x3 hG2
    rw [hl] at hn hp ⊢
    rw [← Nat.add_assoc] at hn
    have hne : B (p + (ptx x.1 x.2.1 x.2.2).length) ≠ 32 := by
      rcases he_ptxs ps with e | h
      · rw [e] at hn; exact hn
      · exact h.ne t2
    show stms B (f + (ps.length + 1)) (p, G, fl, cs) = _
    rw [show f + (ps.length + 1) = (f + ps.length) + 1 by omega, hs.go hne]
    rw [← Nat.add_assoc]
    exact sts_party ps (k + 1) _ _ f t2 (fun y hy => hx y (List.mem_cons_of_mem _ hy)) (by omega) (addL_4 hG) (by omega) hn
/-- the law's whole text -/
def wxx : Option (Nat × Nat) → List Nat
  | none => []
  | some x => wtx x.1 x.2
def axx : Option Nat → List Nat
  | none => []
  | some x => atx x
def rxx : Option (List Int32 × List Nat) → List Nat
  | none => []
  | some x => rtx x.2
def wzz (G : ZD) : Option (Nat × Nat) → ZD
  | none => G
  | some x => upd (upd G 1 (nI x.1)) 2 (nI x.2)
def azz (G : ZD) : Option Nat → ZD
  | none => G
  | some x => upd G 3 (nI x)
def rzz (G : ZD) : Option (List Int32 × List Nat) → ZD
  | none => G
  | some _ => upd G 7 1
def rcs : Option (List Int32 × List Nat) → List Int32
  | none => []
  | some x => x.1
def ltx (ps : List (Nat × Nat × Nat)) (wv : Option (Nat × Nat)) (pa : Option Nat) (rg : Option (List Int32 × List Nat)) : List Nat := chs "exchange;" ++ (ptxs ps ++ (wxx wv ++ (axx pa ++ rxx rg)))
def lgd (ps : List (Nat × Nat × Nat)) (wv : Option (Nat × Nat)) (pa : Option Nat) (rg : Option (List Int32 × List Nat)) : ZD := rzz (azz (wzz (ps.foldl addL usual) wv) pa) rg
theorem he_wxx {wv : Option (Nat × Nat)} : HE (wxx wv) := by
  cases wv with
  | none => exact Or.inl rfl
  | some x => exact Or.inr (hd_app ⟨119, chs "ait", by decide +kernel, by decide, by decide⟩)
theorem he_axx {pa : Option Nat} : HE (axx pa) := by
  cases pa with
  | none => exact Or.inl rfl
  | some x => exact Or.inr (hd_app ⟨112, chs "atience", by decide +kernel, by decide, by decide⟩)
theorem he_rxx {rg : Option (List Int32 × List Nat)} : HE (rxx rg) := by
  cases rg with
  | none => exact Or.inl rfl
  | some x => exact Or.inr (hd_app ⟨114, chs "ing", by decide +kernel, by decide, by decide⟩)
theorem stms_end {B : ZB} {f p : Nat} {s : ZD × (Bool × Bool × Bool) × List Int32} (h : B p = -1) : stms B f (p, s) = .inr (p, s) := by
  cases f with
  | zero => rfl
  | succ f => exact if_pos h
theorem prs_law {B : ZB} {ps : List (Nat × Nat × Nat)} {wv : Option (Nat × Nat)} {pa : Option Nat} {rg : Option (List Int32 × List Nat)} {d ow : Nat} (ht : Tx B 0 (ltx ps wv pa rg)) (he : B (ltx ps wv pa rg).length = -1) (hl : (ltx ps wv pa rg).length ≤ 500) (hps : PsOK ps) (hn : ps.length ≤ 10) (hwv : ∀ x, wv = some x → (1 ≤ x.1 ∧ x.1 ≤ 99) ∧ 1 ≤ x.2 ∧ x.2 ≤ 99) (hpa : ∀ x, pa = some x → 1 ≤ x ∧ x ≤ 99) (hd : d ≤ 5) (hrg : ∀ x, rg = some x → PTx d x.1 x.2 ow) : prs B = .inr ((ltx ps wv pa rg).length, lgd ps wv pa rg, (wv.isSome, pa.isSome, rg.isSome), rcs rg) := by
  have l0 : (chs "exchange;").length = 9 := by decide +kernel
  have hL : (ltx ps wv pa rg).length = 9 + (ptxs ps).length + (wxx wv).length + (axx pa).length + (rxx rg).length := by
    unfold ltx
    simp only [List.length_append, l0]
    omega
  rw [hL] at he hl ⊢
  obtain ⟨t0, t1⟩ := Tx.app.mp ht
  rw [l0] at t1
  obtain ⟨t2, t3⟩ := Tx.app.mp t1
  obtain ⟨t4, t5⟩ := Tx.app.mp t3
  obtain ⟨t6, t7⟩ := Tx.app.mp t5
  simp only [Nat.zero_add] at t2 t4 t6 t7
  have n4 : B (9 + (ptxs ps).length + (wxx wv).length + (axx pa).length) ≠ 32 := he_ne he_rxx t7 he
  have n3 : B (9 + (ptxs ps).length + (wxx wv).length) ≠ 32 := by
    rcases he_axx (pa := pa) with e | h
    · rw [e] at n4; exact n4
    · exact h.ne t6
  have n2 : B (9 + (ptxs ps).length) ≠ 32 := by
    rcases he_wxx (wv := wv) with e | h
    · rw [e] at n3; exact n3
    · exact h.ne t4
  have n1 : B 9 ≠ 32 := by
    rcases he_ptxs ps with e | h
    · rw [e] at n2; exact n2
    · exact h.ne t2
  have b0 : B 0 = nI 101 := (t0.at 0 (by rw [l0]; decide)).trans (by decide +kernel)
  have b8 : B 8 = nI 59 := (t0.at 8 (by rw [l0]; decide)).trans (by decide +kernel)
  have s0 : sp B 0 = 0 := sp_0 (by rw [b0]; decide)
  have s8 : sp B (0 + 8) = 8 := sp_0 (by rw [b8]; decide)
  have s9 : sp B (8 + 1) = 9 := sp_0 n1
  have hw : wd B "exchange" 0 := by
    refine ⟨fun i hi => ?_, ?_⟩
    · have h8 : "exchange".length = 8 := by decide +kernel
      rw [h8] at hi
      rw [t0.at i (by rw [l0]; omega)]
      exact (show ∀ i, i < 8 → nI ((chs "exchange;").getD i 0) = zch "exchange" i by decide +kernel) i hi
    · rw [show 0 + "exchange".length = 8 by decide +kernel, isL_n b8 (by decide)]; decide
  unfold prs
  rw [s0, if_pos hw, s8, if_pos (show B 8 = 59 from b8), s9]
  rw [show 601 = (601 - ps.length) + ps.length by omega, sts_party ps 0 9 usual _ t2 hps (by omega) (by decide) (by omega) n2]
  rw [show 601 - ps.length = (598 - ps.length) + 1 + 1 + 1 by omega]
  have e1 : stms B (598 - ps.length + 1 + 1 + 1) (9 + (ptxs ps).length, ps.foldl addL usual, (false, false, false), []) = stms B (598 - ps.length + 1 + 1 + 1 - (if wv.isSome = true then 1 else 0)) (9 + (ptxs ps).length + (wxx wv).length, wzz (ps.foldl addL usual) wv, (wv.isSome, false, false), []) := by
    cases wv with
    | none => rfl
    | some x => exact (st_wait (q := 9 + (ptxs ps).length + (wxx (some x)).length) t4 rfl (by omega) (hwv x rfl).1 (hwv x rfl).2).go n3
  rw [e1]
  have e2 : ∀ f G, stms B (f + 1) (9 + (ptxs ps).length + (wxx wv).length, G, (wv.isSome, false, false), []) = stms B (f + 1 - (if pa.isSome = true then 1 else 0)) (9 + (ptxs ps).length + (wxx wv).length + (axx pa).length, azz G pa, (wv.isSome, pa.isSome, false), []) := by
    intro f G
    cases pa with
    | none => rfl
    | some x => exact (st_pat (q := 9 + (ptxs ps).length + (wxx wv).length + (axx (some x)).length) t6 rfl (by omega) (hpa x rfl)).go n4
  have e3 : ∀ f G, stms B (f + 1) (9 + (ptxs ps).length + (wxx wv).length + (axx pa).length, G, (wv.isSome, pa.isSome, false), []) = .inr (9 + (ptxs ps).length + (wxx wv).length + (axx pa).length + (rxx rg).length, rzz G rg, (wv.isSome, pa.isSome, rg.isSome), rcs rg) := by
    intro f G
    cases rg with
    | none => exact stms_end he
    | some x => exact ((st_ring (q := 9 + (ptxs ps).length + (wxx wv).length + (axx pa).length + (rxx (some x)).length) t7 rfl (by omega) hd (hrg x rfl)).go (by rw [he]; decide)).trans (stms_end he)
  have f1 : ∃ f, 598 - ps.length + 1 + 1 + 1 - (if wv.isSome = true then 1 else 0) = f + 1 + 1 := by
    split
    · exact ⟨598 - ps.length, by omega⟩
    · exact ⟨598 - ps.length + 1, by omega⟩
  obtain ⟨f, hf⟩ := f1
  rw [hf, e2]
  have f2 : ∃ g, f + 1 + 1 - (if pa.isSome = true then 1 else 0) = g + 1 := by
    split
    · exact ⟨f, by omega⟩
    · exact ⟨f + 1, by omega⟩
  obtain ⟨g, hg⟩ := f2
  rw [hg, e3]
  rfl
end LStm
