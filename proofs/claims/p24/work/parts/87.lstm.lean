section LStm
theorem word_sp {B : ZB} {p m : Nat} {w : String} {t : List Nat} (ht : Tx B p (chs w ++ (32 :: t))) (hl : (chs w).length = m) (hm : w.length = m) (hh : Hd t) (hp : p + m ≤ 590) : wd B w p ∧ sp B (p + m) = p + m + 1 ∧ Tx B (p + m + 1) t := by
  obtain ⟨t1, t2, t3⟩ := Tx.app.mp ht
  rw [hl] at t2 t3
  have t4 : B (p + m) = nI 32 := t2
  refine ⟨wd_of t1 (hl.trans hm.symm) (by rw [hm, isL_n t4 (by decide)]; decide), sp_1 (by omega) t4 (hh.ne t3), t3⟩
theorem num_sp {B : ZB} {p x lo hi : Nat} {t : List Nat} (ht : Tx B p (dec x ++ (32 :: t))) (hh : Hd t) (hx : x ≤ 9999) (hp : p ≤ 580) (h1 : lo ≤ x) (h2 : x ≤ hi) : num B lo hi p = .inr (p + (dec x).length + 1, x) ∧ Tx B (p + (dec x).length + 1) t := by
  obtain ⟨t1, t2, t3⟩ := Tx.app.mp ht
  have t4 : B (p + (dec x).length) = nI 32 := t2
  have hl := dec_pos (x := x)
  refine ⟨?_, t3⟩
  rw [(num_dec t1 hx (by rw [isD_n t4 (by decide)]; decide) (by omega) h1 h2).2, sp_1 (by omega) t4 (hh.ne t3)]
theorem num_end {B : ZB} {p x lo hi : Nat} {t : List Nat} (ht : Tx B p (dec x ++ (59 :: t))) (hx : x ≤ 9999) (hp : p ≤ 580) (h1 : lo ≤ x) (h2 : x ≤ hi) : num B lo hi p = .inr (p + (dec x).length, x) ∧ B (p + (dec x).length) = 59 ∧ Tx B (p + (dec x).length + 1) t := by
  obtain ⟨t1, t2, t3⟩ := Tx.app.mp ht
  have t4 : B (p + (dec x).length) = nI 59 := t2
  have hl := dec_pos (x := x)
  refine ⟨?_, t2, t3⟩
  rw [(num_dec t1 hx (by rw [isD_n t4 (by decide)]; decide) (by omega) h1 h2).2, sp_0 (by rw [t4]; decide)]
theorem hd_num {x : Nat} {t : List Nat} (hx : x ≤ 9999) : Hd (dec x ++ t) := hd_app (hd_dec hx)
/-- one statement and its semicolon -/
def St (B : ZB) (p q : Nat) (s s2 : ZD × (Bool × Bool × Bool) × List Int32) : Prop := B p ≠ -1 ∧ ∃ r, q = r + 1 ∧ B r = 59 ∧ stm B (p, s) = .inr (r, s2)
theorem St.go {B : ZB} {p q f : Nat} {s s2 : ZD × (Bool × Bool × Bool) × List Int32} (h : St B p q s s2) (hq : B q ≠ 32) : stms B (f + 1) (p, s) = stms B f (q, s2) := by
  obtain ⟨h1, r, rfl, h3, h4⟩ := h
  show (if B p = -1 then _ else _) = _
  rw [if_neg h1, h4]
  dsimp only
  rw [if_pos h3, sp_0 hq]
theorem ne_m1 {B : ZB} {p a : Nat} (h : B p = nI a) (ha : a < 128) : B p ≠ -1 := by
  rw [h]; exact nI_nm1 (by omega)
def ptx (a r c : Nat) : List Nat := chs "party" ++ (32 :: (dec a ++ (32 :: (dec r ++ (32 :: (dec c ++ [59]))))))
theorem st_party {B : ZB} {p q a r c : Nat} {G : ZD} {fl : Bool × Bool × Bool} {cs : List Int32} (ht : Tx B p (ptx a r c)) (hq : q = p + (ptx a r c).length) (hp : q ≤ 500) (ha : a ≤ 99) (hr : r ≤ 99) (hc : c ≤ 999) (hG : G 4 ≠ 10) : St B p q (G, fl, cs) (addP G (nI a) (nI r) (nI c), fl, cs) := by
  have l0 : (chs "party").length = 5 := by decide +kernel
  unfold ptx at hq
  simp only [List.length_append, List.length_cons, List.length_nil, l0] at hq
  have hp0 : B p = nI 112 := ((Tx.app.mp (show Tx B p (chs "party" ++ _) from ht)).1.at 0 (by rw [l0]; decide)).trans (by decide +kernel)
  obtain ⟨w1, w2, t1⟩ := word_sp (m := 5) ht l0 (by decide +kernel) (hd_num (by omega)) (by omega)
  obtain ⟨n1, t2⟩ := num_sp (lo := 0) (hi := 99) t1 (hd_num (by omega)) (by omega) (by omega) (Nat.zero_le _) ha
  obtain ⟨n2, t3⟩ := num_sp (lo := 0) (hi := 99) t2 (hd_num (by omega)) (by omega) (by omega) (Nat.zero_le _) hr
  obtain ⟨n3, b3, -⟩ := num_end (lo := 0) (hi := 999) t3 (by omega) (by omega) (Nat.zero_le _) hc
  refine ⟨ne_m1 hp0 (by decide), _, by omega, b3, ?_⟩
  unfold stm
  rw [if_pos w1, if_neg hG]
  dsimp only
  rw [w2, n1]
  dsimp only
  rw [n2]
  dsimp only
  rw [n3]
def wtx (a r : Nat) : List Nat := chs "wait" ++ (32 :: (dec a ++ (32 :: (dec r ++ [59]))))
theorem st_wait {B : ZB} {p q a r : Nat} {G : ZD} {f2 : Bool × Bool} {cs : List Int32} (ht : Tx B p (wtx a r)) (hq : q = p + (wtx a r).length) (hp : q ≤ 500) (ha : 1 ≤ a ∧ a ≤ 99) (hr : 1 ≤ r ∧ r ≤ 99) : St B p q (G, (false, f2), cs) (upd (upd G 1 (nI a)) 2 (nI r), (true, f2), cs) := by
  have l0 : (chs "wait").length = 4 := by decide +kernel
  unfold wtx at hq
  simp only [List.length_append, List.length_cons, List.length_nil, l0] at hq
  have hp0 : B p = nI 119 := ((Tx.app.mp (show Tx B p (chs "wait" ++ _) from ht)).1.at 0 (by rw [l0]; decide)).trans (by decide +kernel)
  obtain ⟨w1, w2, t1⟩ := word_sp (m := 4) ht l0 (by decide +kernel) (hd_num (by omega)) (by omega)
  obtain ⟨n1, t2⟩ := num_sp (lo := 1) (hi := 99) t1 (hd_num (by omega)) (by omega) (by omega) ha.1 ha.2
  obtain ⟨n3, b3, -⟩ := num_end (lo := 1) (hi := 99) t2 (by omega) (by omega) hr.1 hr.2
  refine ⟨ne_m1 hp0 (by decide), _, by omega, b3, ?_⟩
  unfold stm
  rw [if_neg (wd_no (t := "party") hp0 (by decide +kernel) (by decide +kernel)), if_pos ⟨w1, rfl⟩]
  dsimp only
  rw [w2, n1]
  dsimp only
  rw [n3]
def atx (a : Nat) : List Nat := chs "patience" ++ (32 :: (dec a ++ [59]))
theorem st_pat {B : ZB} {p q a : Nat} {G : ZD} {f1 f3 : Bool} {cs : List Int32} (ht : Tx B p (atx a)) (hq : q = p + (atx a).length) (hp : q ≤ 500) (ha : 1 ≤ a ∧ a ≤ 99) : St B p q (G, (f1, false, f3), cs) (upd G 3 (nI a), (f1, true, f3), cs) := by
  have l0 : (chs "patience").length = 8 := by decide +kernel
  unfold atx at hq
  simp only [List.length_append, List.length_cons, List.length_nil, l0] at hq
  have hp0 : B p = nI 112 := ((Tx.app.mp (show Tx B p (chs "patience" ++ _) from ht)).1.at 0 (by rw [l0]; decide)).trans (by decide +kernel)
  have hp2 : B (p + 2) = nI 116 := ((Tx.app.mp (show Tx B p (chs "patience" ++ _) from ht)).1.at 2 (by rw [l0]; decide)).trans (by decide +kernel)
  obtain ⟨w1, w2, t1⟩ := word_sp (m := 8) ht l0 (by decide +kernel) (hd_num (by omega)) (by omega)
  obtain ⟨n3, b3, -⟩ := num_end (lo := 1) (hi := 99) t1 (by omega) (by omega) ha.1 ha.2
  refine ⟨ne_m1 hp0 (by decide), _, by omega, b3, ?_⟩
  have hnp : ¬ wd B "party" p := fun z => absurd ((z.1 2 (by decide +kernel)).symm.trans hp2) (by decide +kernel)
  unfold stm
  rw [if_neg hnp, if_neg (fun z => wd_no (t := "wait") hp0 (by decide +kernel) (by decide +kernel) z.1), if_pos ⟨w1, rfl⟩]
  dsimp only
  rw [w2, n3]
def rtx (tx : List Nat) : List Nat := chs "ring" ++ (32 :: (tx ++ [32, 59]))
theorem st_ring {B : ZB} {p q d : Nat} {G : ZD} {f1 f2 : Bool} {c0 cs : List Int32} {tx : List Nat} {ow : Nat} (ht : Tx B p (rtx tx)) (hq : q = p + (rtx tx).length) (hp : q ≤ 500) (hd : d ≤ 5) (h : PTx d cs tx ow) : St B p q (G, (f1, f2, false), c0) (upd G 7 1, (f1, f2, true), c0 ++ cs) := by
  have l0 : (chs "ring").length = 4 := by decide +kernel
  unfold rtx at hq
  simp only [List.length_append, List.length_cons, List.length_nil, l0] at hq
  have hp0 : B p = nI 114 := ((Tx.app.mp (show Tx B p (chs "ring" ++ _) from ht)).1.at 0 (by rw [l0]; decide)).trans (by decide +kernel)
  obtain ⟨w1, w2, t1⟩ := word_sp (m := 4) ht l0 (by decide +kernel) (hd_app (hd_pt h)) (by omega)
  obtain ⟨t2, t3, t4, -⟩ := Tx.app.mp t1
  have e := smm_law (c0 := c0) hd h t2 rfl (by omega) t3 t4
  refine ⟨ne_m1 hp0 (by decide), p + 4 + 1 + tx.length + 1, by omega, t4, ?_⟩
  unfold stm
  rw [if_neg (wd_no (t := "party") hp0 (by decide +kernel) (by decide +kernel)), if_neg (fun z => wd_no (t := "wait") hp0 (by decide +kernel) (by decide +kernel) z.1), if_neg (fun z => wd_no (t := "patience") hp0 (by decide +kernel) (by decide +kernel) z.1), if_pos ⟨w1, rfl⟩]
  dsimp only
  rw [w2, e]
end LStm
