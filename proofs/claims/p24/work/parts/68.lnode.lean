section LNode

theorem maxLStat : Cond.static Lib.MathLoose.max_long.x ∈ zGood := zGood.mem 448 (by decide +kernel) rfl

theorem maxLCode : Cond.code Lib.MathLoose.max_long.x Lib.MathLoose.max_long.code 4 (some .long) ∈ zGood := zGood.mem 449 (by decide +kernel) rfl

theorem minLStat : Cond.static Lib.MathLoose.min_long.x ∈ zGood := zGood.mem 445 (by decide +kernel) rfl

theorem minLCode : Cond.code Lib.MathLoose.min_long.x Lib.MathLoose.min_long.code 4 (some .long) ∈ zGood := zGood.mem 446 (by decide +kernel) rfl

theorem mlX8_80 : Cond.methodLink RX8 80 Lib.MathLoose.min_long.x ∈ zGood := zGood.mem 444 (by decide +kernel) rfl

theorem mlX8_86 : Cond.methodLink RX8 86 Lib.MathLoose.max_long.x ∈ zGood := zGood.mem 447 (by decide +kernel) rfl

theorem mlX6_140 : Cond.methodLink RX6 140 Lib.MathLoose.min_long.x ∈ zGood := zGood.mem 451 (by decide +kernel) rfl

theorem mlX6_146 : Cond.methodLink RX6 146 Lib.MathLoose.max_long.x ∈ zGood := zGood.mem 452 (by decide +kernel) rfl

section
variable {l : Launch} {Γ : ZG} {M M' : ZM} {dp mc ms : Nat} {Φ : Option Value → ZW → Prop} {Ψ : String → ZW → Prop} {k n : Nat} {w : ZW} {pc : Nat} {L : ZL} {st : List Value}
theorem go_maxL {index : Nat} {x y : Int64} (pc' : Nat) (hd : decode M.2.1 pc = .ok (.invokestatic index, 3)) (hl9 : Cond.methodLink M.1.cls index Lib.MathLoose.max_long.x ∈ zGood) (hdp : 1 ≤ dp) (hk : k ≤ mc) (hn : n ≤ ms) (hst : (st.map fun v => v.category).sum ≤ 8) (kk : Go l Γ M dp mc ms Φ Ψ k n w pc' L (.long (if y < x then x else y) :: st)) (hp : pc + 3 = pc' := by rfl) : Go l Γ M dp mc ms Φ Ψ k n w pc L (.long y :: .long x :: st) := by
  subst hp
  exact fun p e s m args below meth c C H locs ls hl hH hS => va_mmax_long C.1 C.2.1 (by rw [C.2.2.1]; exact hl.1.symm) C.own (C.good hl9) (C.good maxLStat) (C.good minIni) (C.good maxLCode) hdp (by show _ + 15 ≤ 64 * dp; omega) hk hn hd (kk p e s m args below meth c C H locs ls hl hH hS)
theorem go_minL {index : Nat} {x y : Int64} (pc' : Nat) (hd : decode M.2.1 pc = .ok (.invokestatic index, 3)) (hl9 : Cond.methodLink M.1.cls index Lib.MathLoose.min_long.x ∈ zGood) (hdp : 1 ≤ dp) (hk : k ≤ mc) (hn : n ≤ ms) (hst : (st.map fun v => v.category).sum ≤ 8) (kk : Go l Γ M dp mc ms Φ Ψ k n w pc' L (.long (if y < x then y else x) :: st)) (hp : pc + 3 = pc' := by rfl) : Go l Γ M dp mc ms Φ Ψ k n w pc L (.long y :: .long x :: st) := by
  subst hp
  exact fun p e s m args below meth c C H locs ls hl hH hS => va_mmin_long C.1 C.2.1 (by rw [C.2.2.1]; exact hl.1.symm) C.own (C.good hl9) (C.good minLStat) (C.good minIni) (C.good minLCode) hdp (by show _ + 15 ≤ 64 * dp; omega) hk hn hd (kk p e s m args below meth c C H locs ls hl hH hS)
end
/-- the law's own limits -/
def clmp (lo hi v : Int64) : Int64 := if (if v < hi then v else hi) < lo then lo else (if v < hi then v else hi)
theorem clmp_lim (v : Int64) : clmp (-1000000) 1000000 v = lim v := by
  unfold clmp lim
  have t1 : ((-1000000 : Int64)).toInt = -1000000 := by decide
  have t2 : ((1000000 : Int64)).toInt = 1000000 := by decide
  by_cases h1 : v < 1000000
  · have h1' : lg_cmp v 1000000 ≤ 0 := (lg_cmp_le _ _).mpr (Int64.le_of_lt h1)
    rw [if_pos h1, if_pos h1']
    by_cases h2 : v < -1000000
    · rw [if_pos h2, if_neg (fun q => absurd ((lg_cmp_ge _ _).mp q) (Int64.not_le.mpr h2))]
    · rw [if_neg h2, if_pos ((lg_cmp_ge _ _).mpr (Int64.not_lt.mp h2))]
  · rw [if_neg h1, if_neg (show ¬ (1000000 : Int64) < -1000000 by decide)]
    by_cases h3 : v = 1000000
    · rw [h3]; decide
    · have h4 : ¬ v ≤ 1000000 := fun q => by
        rw [Int64.le_iff_toInt_le, t2] at q
        rw [Int64.lt_iff_toInt_lt, t2] at h1
        have h5 : ¬ v.toInt = 1000000 := fun z => h3 (Int64.toInt_inj.mp (z.trans t2.symm))
        omega
      rw [if_neg (fun q => h4 ((lg_cmp_le _ _).mp q))]
theorem clmp_rtv (v : Int64) : (clmp 1 99 v).toInt32 = rtv v := by
  unfold clmp rtv
  have t1 : ((1 : Int64)).toInt = 1 := by decide
  have t2 : ((99 : Int64)).toInt = 99 := by decide
  by_cases h1 : v < 99
  · have h1' : lg_cmp v 99 ≤ 0 := (lg_cmp_le _ _).mpr (Int64.le_of_lt h1)
    rw [if_pos h1, if_pos h1']
    by_cases h2 : v < 1
    · rw [if_pos h2, if_neg (fun q => absurd ((lg_cmp_ge _ _).mp q) (Int64.not_le.mpr h2))]; rfl
    · rw [if_neg h2, if_pos ((lg_cmp_ge _ _).mpr (Int64.not_lt.mp h2))]
  · rw [if_neg h1, if_neg (show ¬ (99 : Int64) < 1 by decide)]
    by_cases h3 : v = 99
    · rw [h3]; decide
    · have h4 : ¬ v ≤ 99 := fun q => by
        rw [Int64.le_iff_toInt_le, t2] at q
        rw [Int64.lt_iff_toInt_lt, t2] at h1
        have h5 : ¬ v.toInt = 99 := fun z => h3 (Int64.toInt_inj.mp (z.trans t2.symm))
        omega
      have h5 : (1 : Int64) ≤ v := by
        rw [Int64.le_iff_toInt_le, t1]
        rw [Int64.lt_iff_toInt_lt, t2] at h1
        omega
      rw [if_pos ((lg_cmp_ge _ _).mpr h5), if_neg (fun q => h4 ((lg_cmp_le _ _).mp q))]; rfl
/-! the tree of an expression: its codes, its text (numbers of letters), its level -/
def ndC (kd x : Int32) (a b : Option Nat) : va_E := .inr (8, [.int kd, .int x, va_rf a, va_rf b])
def opc (kd : Nat) : Int32 := if kd = 2 then -5 else if kd = 3 then -6 else if kd = 4 then -7 else -8
def opt (kd : Nat) : List Nat := if kd = 2 then [43] else if kd = 3 then [32, 45, 32] else if kd = 4 then [42, 32] else [47]
def dec (x : Nat) : List Nat := if x < 10 then [48 + x] else if x < 100 then [48 + x / 10, 48 + x % 10] else if x < 1000 then [48 + x / 100, 48 + x / 10 % 10, 48 + x % 10] else [48 + x / 1000, 48 + x / 100 % 10, 48 + x / 10 % 10, 48 + x % 10]
def chs (s : String) : List Nat := s.toList.map Char.toNat
def vrs (x : Nat) : List Nat := if x = 0 then chs "legs" else if x = 1 then chs "caller" else if x = 2 then chs "referred" else chs "time"
def par' (lv ow : Nat) (tx : List Nat) : List Nat := if ow < lv then 40 :: (tx ++ [41]) else tx
def NDL (w : ZW) (T : LT) (t : Nat) (cs : List Int32) (tx : List Nat) (ow : Nat) : Prop := ∃ kd x, w.2 t = some (ndC (nI kd) (nI x) none none) ∧ T t = 0 ∧ ow = 3 ∧ ((kd = 0 ∧ x ≤ 9999 ∧ cs = [nI x] ∧ tx = dec x) ∨ (kd = 1 ∧ x < 4 ∧ cs = [-1 - nI x] ∧ tx = vrs x))
def ND (w : ZW) (T : LT) : Nat → Nat → List Int32 → List Nat → Nat → Prop
  | 0, t, cs, tx, ow => NDL w T t cs tx ow
  | d + 1, t, cs, tx, ow => NDL w T t cs tx ow ∨ ∃ (kd : Nat) (x : Int32) (a b : Nat) (ca : List Int32) (ta : List Nat) (oa : Nat) (cb : List Int32) (tb : List Nat) (ob : Nat), (2 ≤ kd ∧ kd ≤ 5) ∧ w.2 t = some (ndC (nI kd) x (some a) (some b)) ∧ T t = 0 ∧ ND w T d a ca ta oa ∧ ND w T d b cb tb ob ∧ cs = ca ++ (cb ++ [opc kd]) ∧ ow = (if kd < 4 then 1 else 2) ∧ tx = par' ow oa ta ++ (opt kd ++ par' (ow + 1) ob tb)
theorem NDL.fr {w w' : ZW} {T T' : LT} {t ow : Nat} {cs : List Int32} {tx : List Nat} (h : NDL w T t cs tx ow) (hk : Kq w T w' T' (fun z => z = 0)) : NDL w' T' t cs tx ow := by
  obtain ⟨kd, x, h1, h2, h3⟩ := h
  obtain ⟨k1, k2⟩ := hk _ _ h1 h2
  exact ⟨kd, x, k1, k2.trans h2, h3⟩
theorem ND.fr {w w' : ZW} {T T' : LT} (hk : Kq w T w' T' (fun z => z = 0)) : ∀ {d t ow : Nat} {cs : List Int32} {tx : List Nat}, ND w T d t cs tx ow → ND w' T' d t cs tx ow
  | 0, _, _, _, _, h => NDL.fr h hk
  | d + 1, _, _, _, _, h => by
    rcases h with h | ⟨kd, x, a, b, ca, ta, oa, cb, tb, ob, h0, h1, h2, h3, h4, h5⟩
    · exact Or.inl (h.fr hk)
    · obtain ⟨k1, k2⟩ := hk _ _ h1 h2
      exact Or.inr ⟨kd, x, a, b, ca, ta, oa, cb, tb, ob, h0, k1, k2.trans h2, ND.fr hk h3, ND.fr hk h4, h5⟩
/-- the values that an expression is reckoned with -/
def VR (Γ : ZG) (w : ZW) (a : Nat) (lg cl rf tm : Int32) : Prop := ∃ g, w.2 a = some (.inl (Γ.2.2.1 2, 4, .inr (.inl g))) ∧ (g 0 = lg.toInt64 ∧ g 1 = cl.toInt64 ∧ g 2 = rf.toInt64 ∧ g 3 = tm.toInt64) ∧ B6 lg.toInt64 ∧ B6 cl.toInt64 ∧ B6 rf.toInt64 ∧ B6 tm.toInt64
/-- what a tree is worth -/
def VN (l : Launch) (Γ : ZG) (w : ZW) (d t a : Nat) (lg cl rf tm : Int32) (cs : List Int32) : Prop := ∃ v, B6 v ∧ (∀ rest vs, evs lg cl rf tm (cs ++ rest) vs = evs lg cl rf tm rest (v :: vs)) ∧ Cm l Γ mX8_value (d + 1) [.ref t, .ref a] w (some (.long v)) w

theorem evv_0 {lg cl rf tm : Int32} : evv lg cl rf tm (-1 - nI 0) = lg := by
  rw [show -1 - nI 0 = -1 by decide]; unfold evv; rw [if_neg (by decide), if_pos rfl]
theorem evv_1 {lg cl rf tm : Int32} : evv lg cl rf tm (-1 - nI 1) = cl := by
  rw [show -1 - nI 1 = -2 by decide]; unfold evv; rw [if_neg (by decide), if_neg (by decide), if_pos rfl]
theorem evv_2 {lg cl rf tm : Int32} : evv lg cl rf tm (-1 - nI 2) = rf := by
  rw [show -1 - nI 2 = -3 by decide]; unfold evv; rw [if_neg (by decide), if_neg (by decide), if_neg (by decide), if_pos rfl]
theorem evv_3 {lg cl rf tm : Int32} : evv lg cl rf tm (-1 - nI 3) = tm := by
  rw [show -1 - nI 3 = -4 by decide]; unfold evv; rw [if_neg (by decide), if_neg (by decide), if_neg (by decide), if_neg (by decide)]
theorem vr_leaf {g : Nat → Int64} {x : Nat} {lg cl rf tm : Int32} (hx : x < 4) (v2 : g 0 = lg.toInt64) (v3 : g 1 = cl.toInt64) (v4 : g 2 = rf.toInt64) (v5 : g 3 = tm.toInt64) (b1 : B6 lg.toInt64) (b2 : B6 cl.toInt64) (b3 : B6 rf.toInt64) (b4 : B6 tm.toInt64) : g x = (evv lg cl rf tm (-1 - nI x)).toInt64 ∧ B6 (g x) ∧ ¬ (-1 - nI x) ≤ -5 := by
  rcases (show x = 0 ∨ x = 1 ∨ x = 2 ∨ x = 3 by omega) with rfl | rfl | rfl | rfl
  · rw [v2, evv_0]; exact ⟨rfl, b1, by decide⟩
  · rw [v3, evv_1]; exact ⟨rfl, b2, by decide⟩
  · rw [v4, evv_2]; exact ⟨rfl, b3, by decide⟩
  · rw [v5, evv_3]; exact ⟨rfl, b4, by decide⟩
theorem evs_one {lg cl rf tm : Int32} {rest : List Int32} {vs : List Int64} (c : Int32) : evs lg cl rf tm ([c] ++ rest) vs = evs lg cl rf tm rest (ev1 lg cl rf tm c vs) := rfl
theorem ev_leafN {lg cl rf tm : Int32} {x : Nat} (hx : x ≤ 9999) (rest : List Int32) (vs : List Int64) : evs lg cl rf tm ([nI x] ++ rest) vs = evs lg cl rf tm rest ((nI x).toInt64 :: vs) := by
  have h0 : (0 : Int32) ≤ nI x := nI_pos' (by omega)
  have h1 : evs lg cl rf tm ([nI x] ++ rest) vs = evs lg cl rf tm rest (ev1 lg cl rf tm (nI x) vs) := evs_one (nI x)
  have h2 : evv lg cl rf tm (nI x) = nI x := by unfold evv; rw [if_pos h0]
  rw [h1, ev1_n (fun q => absurd (Int32.le_trans h0 q) (by decide)), h2]
theorem ev_leafV {lg cl rf tm : Int32} {x : Nat} {z : Int64} (h : z = (evv lg cl rf tm (-1 - nI x)).toInt64) (h' : ¬ (-1 - nI x) ≤ -5) (rest : List Int32) (vs : List Int64) : evs lg cl rf tm ([-1 - nI x] ++ rest) vs = evs lg cl rf tm rest (z :: vs) := by
  have h1 : evs lg cl rf tm ([-1 - nI x] ++ rest) vs = evs lg cl rf tm rest (ev1 lg cl rf tm (-1 - nI x) vs) := evs_one (-1 - nI x)
  rw [h1, ev1_n h', ← h]

set_option maxRecDepth 100000 in
set_option maxHeartbeats 4000000 in
theorem vn_leaf {l : Launch} {Γ : ZG} {w : ZW} {T : LT} {d t a ow : Nat} {lg cl rf tm : Int32} {cs : List Int32} {tx : List Nat} (h : NDL w T t cs tx ow) (hv : VR Γ w a lg cl rf tm) : VN l Γ w d t a lg cl rf tm cs := by
  obtain ⟨kd, x, h1, h2, h3, h4⟩ := h
  obtain ⟨g, v1, ⟨v2, v3, v4, v5⟩, b1, b2, b3, b4⟩ := hv
  rcases h4 with ⟨rfl, hx, rfl, -⟩ | ⟨rfl, hx4, rfl, -⟩
  · refine ⟨(nI x).toInt64, B6_nI (by omega), ev_leafN hx, ?_⟩
    refine Cm.of (by decide) rfl (Nat.le_of_ble_eq_true rfl) ?_
    refine go_aload_n 1 dX8_value_0 rfl ?_
    refine go_get 4 dX8_value_1 fX8_16 h1 rfl ?_
    refine go_iconst 5 dX8_value_4 zc_2 ?_
    refine go_icmp_ge 30 8 dX8_value_5 (fun h5 => ?_) (fun h5 => ?_)
    · exact absurd h5 (by decide)
    · refine go_aload_n 9 dX8_value_8 rfl ?_
      refine go_get 12 dX8_value_9 fX8_16 h1 rfl ?_
      refine go_if_ne 23 15 dX8_value_12 (fun h12 => ?_) (fun h12 => ?_)
      · exact absurd h12 (by decide)
      · refine go_aload_n 16 dX8_value_15 rfl ?_
        refine go_get 19 dX8_value_16 fX8_20 h1 rfl ?_
        refine go_i2l 20 dX8_value_19 ?_
        refine go_goto 29 dX8_value_20 ?_
        exact go_lreturn dX8_value_29 rfl (by omega) (by omega) (⟨rfl, rfl⟩)
  · have he : g x = (evv lg cl rf tm (-1 - nI x)).toInt64 ∧ B6 (g x) ∧ ¬ (-1 - nI x) ≤ -5 := vr_leaf hx4 v2 v3 v4 v5 b1 b2 b3 b4
    refine ⟨g x, he.2.1, ev_leafV he.1 he.2.2, ?_⟩
    refine Cm.of (by decide) rfl (Nat.le_of_ble_eq_true rfl) ?_
    refine go_aload_n 1 dX8_value_0 rfl ?_
    refine go_get 4 dX8_value_1 fX8_16 h1 rfl ?_
    refine go_iconst 5 dX8_value_4 zc_2 ?_
    refine go_icmp_ge 30 8 dX8_value_5 (fun h5 => ?_) (fun h5 => ?_)
    · exact absurd h5 (by decide)
    · refine go_aload_n 9 dX8_value_8 rfl ?_
      refine go_get 12 dX8_value_9 fX8_16 h1 rfl ?_
      refine go_if_ne 23 15 dX8_value_12 (fun h12 => ?_) (fun h12 => ?_)
      · refine go_aload_n 24 dX8_value_23 rfl ?_
        refine go_aload_n 25 dX8_value_24 rfl ?_
        refine go_get 28 dX8_value_25 fX8_20 h1 rfl ?_
        refine go_lald 29 dX8_value_28 v1 (vp_in_nI hx4 (by decide)) ?_
        rw [nI_clamp (by omega)]
        exact go_lreturn dX8_value_29 rfl (by omega) (by omega) (⟨rfl, rfl⟩)
      · exact absurd h12 (by decide)

theorem op8_n {a b : Int64} (h : ¬ lg_cmp b 0 = 0) : opv (opc 5) a b = a / b := by
  show opv (-8) a b = _
  unfold opv
  rw [if_pos rfl, if_neg h]
theorem op8_z {a b : Int64} (h : lg_cmp b 0 = 0) : opv (opc 5) a b = 0 := by
  show opv (-8) a b = _
  unfold opv
  rw [if_pos rfl, if_pos h]
theorem opv_B6 {c : Int32} (hc : c = -5 ∨ c = -6 ∨ c = -7 ∨ c = -8) {a b : Int64} (ha : B6 a) (hb : B6 b) : B6 (opv c a b) := by
  have h := op_ok (c := c) (a := a.toInt32) (b := b.toInt32) hc (by rw [i32_64 ha]; exact ha)
  rw [i32_64 ha, i32_64 hb] at h
  exact h.2

set_option maxRecDepth 100000 in
set_option maxHeartbeats 4000000 in
theorem vn_inner {l : Launch} {Γ : ZG} {w : ZW} {d t a kd x1 x2 : Nat} {x : Int32} {lg cl rf tm : Int32} {ca cb : List Int32} (hk : 2 ≤ kd ∧ kd ≤ 5) (h1 : w.2 t = some (ndC (nI kd) x (some x1) (some x2))) {f1 f2 : List Value} (ha0 : w.2 x1 = some (.inr (8, f1))) (hb0 : w.2 x2 = some (.inr (8, f2))) (hA : VN l Γ w d x1 a lg cl rf tm ca) (hB : VN l Γ w d x2 a lg cl rf tm cb) : VN l Γ w (d + 1) t a lg cl rf tm (ca ++ (cb ++ [opc kd])) := by
  obtain ⟨v1, b1, e1, c1⟩ := hA
  obtain ⟨v2, b2, e2, c2⟩ := hB
  have hop : opc kd = -5 ∨ opc kd = -6 ∨ opc kd = -7 ∨ opc kd = -8 := by
    rcases (show kd = 2 ∨ kd = 3 ∨ kd = 4 ∨ kd = 5 by omega) with rfl | rfl | rfl | rfl
    · exact Or.inl rfl
    · exact Or.inr (Or.inl rfl)
    · exact Or.inr (Or.inr (Or.inl rfl))
    · exact Or.inr (Or.inr (Or.inr rfl))
  refine ⟨opv (opc kd) v1 v2, opv_B6 hop b1 b2, fun rest vs => ?_, ?_⟩
  · rw [List.append_assoc, e1, List.append_assoc, e2]
    show evs lg cl rf tm rest (ev1 lg cl rf tm (opc kd) (v2 :: v1 :: vs)) = _
    rw [ev1_o (by rcases hop with z | z | z | z <;> rw [z] <;> decide)]
  · refine Cm.of (by decide) rfl (Nat.le_of_ble_eq_true rfl) ?_
    rcases (show kd = 2 ∨ kd = 3 ∨ kd = 4 ∨ kd = 5 by omega) with rfl | rfl | rfl | rfl
    · refine go_aload_n 1 dX8_value_0 rfl ?_
      refine go_get 4 dX8_value_1 fX8_16 h1 rfl ?_
      refine go_iconst 5 dX8_value_4 zc_2 ?_
      refine go_icmp_ge 30 8 dX8_value_5 (fun h5 => ?_) (fun h5 => ?_)
      · refine go_aload_n 31 dX8_value_30 rfl ?_
        refine go_get 34 dX8_value_31 fX8_27 h1 rfl ?_
        refine go_aload_n 35 dX8_value_34 rfl ?_
        refine gcV1 (hdp := by omega) 38 dX8_value_35 vX8_72 ha0 rfl c1 ?_
        refine go_lstore_n 39 dX8_value_38 (by decide) ?_
        refine go_aload_n 40 dX8_value_39 rfl ?_
        refine go_get 43 dX8_value_40 fX8_31 h1 rfl ?_
        refine go_aload_n 44 dX8_value_43 rfl ?_
        refine gcV1 (hdp := by omega) 47 dX8_value_44 vX8_72 hb0 rfl c2 ?_
        refine go_lstore 49 dX8_value_47 (by decide) ?_
        refine go_aload_n 50 dX8_value_49 rfl ?_
        refine go_get 53 dX8_value_50 fX8_16 h1 rfl ?_
        refine go_iconst 54 dX8_value_53 zc_2 ?_
        refine go_icmp_ne 64 57 dX8_value_54 (fun h54 => ?_) (fun h54 => ?_)
        · exact absurd h54 (by decide)
        · refine go_lload_n 58 dX8_value_57 rfl ?_
          refine go_lload 60 dX8_value_58 rfl ?_
          refine go_ladd 61 dX8_value_60 ?_
          refine go_goto 109 dX8_value_61 ?_
          refine go_lstore 111 dX8_value_109 (by decide) ?_
          refine go_ldc2 114 dX8_value_111 clX8_76 ?_
          refine go_ldc2 117 dX8_value_114 clX8_78 ?_
          refine go_lload 119 dX8_value_117 rfl ?_
          refine go_minL 122 dX8_value_119 mlX8_80 (by omega) (by omega) (by omega) (by exact Nat.le_of_ble_eq_true rfl) ?_
          refine go_maxL 125 dX8_value_122 mlX8_86 (by omega) (by omega) (by omega) (by exact Nat.le_of_ble_eq_true rfl) ?_
          exact go_lreturn dX8_value_125 rfl (by omega) (by omega) (⟨congrArg (fun z => some (Value.long z)) (clmp_lim _), rfl⟩)
      · exact absurd h5 (by decide)
    · refine go_aload_n 1 dX8_value_0 rfl ?_
      refine go_get 4 dX8_value_1 fX8_16 h1 rfl ?_
      refine go_iconst 5 dX8_value_4 zc_2 ?_
      refine go_icmp_ge 30 8 dX8_value_5 (fun h5 => ?_) (fun h5 => ?_)
      · refine go_aload_n 31 dX8_value_30 rfl ?_
        refine go_get 34 dX8_value_31 fX8_27 h1 rfl ?_
        refine go_aload_n 35 dX8_value_34 rfl ?_
        refine gcV1 (hdp := by omega) 38 dX8_value_35 vX8_72 ha0 rfl c1 ?_
        refine go_lstore_n 39 dX8_value_38 (by decide) ?_
        refine go_aload_n 40 dX8_value_39 rfl ?_
        refine go_get 43 dX8_value_40 fX8_31 h1 rfl ?_
        refine go_aload_n 44 dX8_value_43 rfl ?_
        refine gcV1 (hdp := by omega) 47 dX8_value_44 vX8_72 hb0 rfl c2 ?_
        refine go_lstore 49 dX8_value_47 (by decide) ?_
        refine go_aload_n 50 dX8_value_49 rfl ?_
        refine go_get 53 dX8_value_50 fX8_16 h1 rfl ?_
        refine go_iconst 54 dX8_value_53 zc_2 ?_
        refine go_icmp_ne 64 57 dX8_value_54 (fun h54 => ?_) (fun h54 => ?_)
        · refine go_aload_n 65 dX8_value_64 rfl ?_
          refine go_get 68 dX8_value_65 fX8_16 h1 rfl ?_
          refine go_iconst 69 dX8_value_68 zc_3 ?_
          refine go_icmp_ne 79 72 dX8_value_69 (fun h69 => ?_) (fun h69 => ?_)
          · exact absurd h69 (by decide)
          · refine go_lload_n 73 dX8_value_72 rfl ?_
            refine go_lload 75 dX8_value_73 rfl ?_
            refine go_lsub 76 dX8_value_75 ?_
            refine go_goto 109 dX8_value_76 ?_
            refine go_lstore 111 dX8_value_109 (by decide) ?_
            refine go_ldc2 114 dX8_value_111 clX8_76 ?_
            refine go_ldc2 117 dX8_value_114 clX8_78 ?_
            refine go_lload 119 dX8_value_117 rfl ?_
            refine go_minL 122 dX8_value_119 mlX8_80 (by omega) (by omega) (by omega) (by exact Nat.le_of_ble_eq_true rfl) ?_
            refine go_maxL 125 dX8_value_122 mlX8_86 (by omega) (by omega) (by omega) (by exact Nat.le_of_ble_eq_true rfl) ?_
            exact go_lreturn dX8_value_125 rfl (by omega) (by omega) (⟨congrArg (fun z => some (Value.long z)) (clmp_lim _), rfl⟩)
        · exact absurd h54 (by decide)
      · exact absurd h5 (by decide)
    · refine go_aload_n 1 dX8_value_0 rfl ?_
      refine go_get 4 dX8_value_1 fX8_16 h1 rfl ?_
      refine go_iconst 5 dX8_value_4 zc_2 ?_
      refine go_icmp_ge 30 8 dX8_value_5 (fun h5 => ?_) (fun h5 => ?_)
      · refine go_aload_n 31 dX8_value_30 rfl ?_
        refine go_get 34 dX8_value_31 fX8_27 h1 rfl ?_
        refine go_aload_n 35 dX8_value_34 rfl ?_
        refine gcV1 (hdp := by omega) 38 dX8_value_35 vX8_72 ha0 rfl c1 ?_
        refine go_lstore_n 39 dX8_value_38 (by decide) ?_
        refine go_aload_n 40 dX8_value_39 rfl ?_
        refine go_get 43 dX8_value_40 fX8_31 h1 rfl ?_
        refine go_aload_n 44 dX8_value_43 rfl ?_
        refine gcV1 (hdp := by omega) 47 dX8_value_44 vX8_72 hb0 rfl c2 ?_
        refine go_lstore 49 dX8_value_47 (by decide) ?_
        refine go_aload_n 50 dX8_value_49 rfl ?_
        refine go_get 53 dX8_value_50 fX8_16 h1 rfl ?_
        refine go_iconst 54 dX8_value_53 zc_2 ?_
        refine go_icmp_ne 64 57 dX8_value_54 (fun h54 => ?_) (fun h54 => ?_)
        · refine go_aload_n 65 dX8_value_64 rfl ?_
          refine go_get 68 dX8_value_65 fX8_16 h1 rfl ?_
          refine go_iconst 69 dX8_value_68 zc_3 ?_
          refine go_icmp_ne 79 72 dX8_value_69 (fun h69 => ?_) (fun h69 => ?_)
          · refine go_aload_n 80 dX8_value_79 rfl ?_
            refine go_get 83 dX8_value_80 fX8_16 h1 rfl ?_
            refine go_iconst 84 dX8_value_83 zc_4 ?_
            refine go_icmp_ne 94 87 dX8_value_84 (fun h84 => ?_) (fun h84 => ?_)
            · exact absurd h84 (by decide)
            · refine go_lload_n 88 dX8_value_87 rfl ?_
              refine go_lload 90 dX8_value_88 rfl ?_
              refine go_lmul 91 dX8_value_90 ?_
              refine go_goto 109 dX8_value_91 ?_
              refine go_lstore 111 dX8_value_109 (by decide) ?_
              refine go_ldc2 114 dX8_value_111 clX8_76 ?_
              refine go_ldc2 117 dX8_value_114 clX8_78 ?_
              refine go_lload 119 dX8_value_117 rfl ?_
              refine go_minL 122 dX8_value_119 mlX8_80 (by omega) (by omega) (by omega) (by exact Nat.le_of_ble_eq_true rfl) ?_
              refine go_maxL 125 dX8_value_122 mlX8_86 (by omega) (by omega) (by omega) (by exact Nat.le_of_ble_eq_true rfl) ?_
              exact go_lreturn dX8_value_125 rfl (by omega) (by omega) (⟨congrArg (fun z => some (Value.long z)) (clmp_lim _), rfl⟩)
          · exact absurd h69 (by decide)
        · exact absurd h54 (by decide)
      · exact absurd h5 (by decide)
    · refine go_aload_n 1 dX8_value_0 rfl ?_
      refine go_get 4 dX8_value_1 fX8_16 h1 rfl ?_
      refine go_iconst 5 dX8_value_4 zc_2 ?_
      refine go_icmp_ge 30 8 dX8_value_5 (fun h5 => ?_) (fun h5 => ?_)
      · refine go_aload_n 31 dX8_value_30 rfl ?_
        refine go_get 34 dX8_value_31 fX8_27 h1 rfl ?_
        refine go_aload_n 35 dX8_value_34 rfl ?_
        refine gcV1 (hdp := by omega) 38 dX8_value_35 vX8_72 ha0 rfl c1 ?_
        refine go_lstore_n 39 dX8_value_38 (by decide) ?_
        refine go_aload_n 40 dX8_value_39 rfl ?_
        refine go_get 43 dX8_value_40 fX8_31 h1 rfl ?_
        refine go_aload_n 44 dX8_value_43 rfl ?_
        refine gcV1 (hdp := by omega) 47 dX8_value_44 vX8_72 hb0 rfl c2 ?_
        refine go_lstore 49 dX8_value_47 (by decide) ?_
        refine go_aload_n 50 dX8_value_49 rfl ?_
        refine go_get 53 dX8_value_50 fX8_16 h1 rfl ?_
        refine go_iconst 54 dX8_value_53 zc_2 ?_
        refine go_icmp_ne 64 57 dX8_value_54 (fun h54 => ?_) (fun h54 => ?_)
        · refine go_aload_n 65 dX8_value_64 rfl ?_
          refine go_get 68 dX8_value_65 fX8_16 h1 rfl ?_
          refine go_iconst 69 dX8_value_68 zc_3 ?_
          refine go_icmp_ne 79 72 dX8_value_69 (fun h69 => ?_) (fun h69 => ?_)
          · refine go_aload_n 80 dX8_value_79 rfl ?_
            refine go_get 83 dX8_value_80 fX8_16 h1 rfl ?_
            refine go_iconst 84 dX8_value_83 zc_4 ?_
            refine go_icmp_ne 94 87 dX8_value_84 (fun h84 => ?_) (fun h84 => ?_)
            · refine go_lload 96 dX8_value_94 rfl ?_
              refine go_lconst 97 dX8_value_96 zl_0 ?_
              refine go_lcmp 98 dX8_value_97 ?_
              refine go_if_ne 105 101 dX8_value_98 (fun h98 => ?_) (fun h98 => ?_)
              · refine go_lload_n 106 dX8_value_105 rfl ?_
                refine go_lload 108 dX8_value_106 rfl ?_
                refine go_ldiv 109 dX8_value_108 (fun q => h98 (by rw [q]; decide)) ?_
                refine go_lstore 111 dX8_value_109 (by decide) ?_
                refine go_ldc2 114 dX8_value_111 clX8_76 ?_
                refine go_ldc2 117 dX8_value_114 clX8_78 ?_
                refine go_lload 119 dX8_value_117 rfl ?_
                refine go_minL 122 dX8_value_119 mlX8_80 (by omega) (by omega) (by omega) (by exact Nat.le_of_ble_eq_true rfl) ?_
                refine go_maxL 125 dX8_value_122 mlX8_86 (by omega) (by omega) (by omega) (by exact Nat.le_of_ble_eq_true rfl) ?_
                exact go_lreturn dX8_value_125 rfl (by omega) (by omega) (⟨congrArg (fun z => some (Value.long z)) ((clmp_lim _).trans ((lim_id (div_B6 b1)).trans (op8_n h98).symm)), rfl⟩)
              · refine go_lconst 102 dX8_value_101 zl_0 ?_
                refine go_goto 109 dX8_value_102 ?_
                refine go_lstore 111 dX8_value_109 (by decide) ?_
                refine go_ldc2 114 dX8_value_111 clX8_76 ?_
                refine go_ldc2 117 dX8_value_114 clX8_78 ?_
                refine go_lload 119 dX8_value_117 rfl ?_
                refine go_minL 122 dX8_value_119 mlX8_80 (by omega) (by omega) (by omega) (by exact Nat.le_of_ble_eq_true rfl) ?_
                refine go_maxL 125 dX8_value_122 mlX8_86 (by omega) (by omega) (by omega) (by exact Nat.le_of_ble_eq_true rfl) ?_
                exact go_lreturn dX8_value_125 rfl (by omega) (by omega) (⟨congrArg (fun z => some (Value.long z)) ((clmp_lim 0).trans ((lim_id (by unfold B6; decide)).trans (op8_z h98).symm)), rfl⟩)
            · exact absurd h84 (by decide)
          · exact absurd h69 (by decide)
        · exact absurd h54 (by decide)
      · exact absurd h5 (by decide)

theorem nd_val {l : Launch} {Γ : ZG} {w : ZW} {T : LT} {a : Nat} {lg cl rf tm : Int32} (hv : VR Γ w a lg cl rf tm) : ∀ {d t ow : Nat} {cs : List Int32} {tx : List Nat}, ND w T d t cs tx ow → VN l Γ w d t a lg cl rf tm cs ∧ ∃ fs, w.2 t = some (.inr (8, fs))
  | 0, _, _, _, _, h => ⟨vn_leaf h hv, by obtain ⟨kd, x, h1, -⟩ := h; exact ⟨_, h1⟩⟩
  | d + 1, _, _, _, _, h => by
    rcases h with h | ⟨kd, x, x1, x2, ca, ta, oa, cb, tb, ob, h0, h1, h2, h3, h4, rfl, -⟩
    · exact ⟨vn_leaf h hv, by obtain ⟨kd, x, h1, -⟩ := h; exact ⟨_, h1⟩⟩
    · obtain ⟨a1, f1, a2⟩ := nd_val hv h3
      obtain ⟨b1, f2, b2⟩ := nd_val hv h4
      exact ⟨vn_inner h0 h1 a2 b2 a1 b1, _, h1⟩
/-- what the law's expression is worth, as the reference says it -/
theorem vn_ring {l : Launch} {Γ : ZG} {w : ZW} {d t a : Nat} {lg cl rf tm : Int32} {cs : List Int32} (hc : cs ≠ []) (h : VN l Γ w d t a lg cl rf tm cs) : ∃ v, Cm l Γ mX8_value (d + 1) [.ref t, .ref a] w (some (.long v)) w ∧ (clmp 1 99 v).toInt32 = ringV lg cl rf tm cs := by
  obtain ⟨v, h1, h2, h3⟩ := h
  refine ⟨v, h3, ?_⟩
  rw [clmp_rtv]
  unfold ringV
  rw [if_neg hc]
  have e := h2 [] []
  rw [List.append_nil] at e
  rw [e]
  rfl
theorem nd_ne {w : ZW} {T : LT} : ∀ {d t ow : Nat} {cs : List Int32} {tx : List Nat}, ND w T d t cs tx ow → cs ≠ []
  | 0, _, _, _, _, h => by
    obtain ⟨kd, x, h1, h2, h3, h4⟩ := h
    rcases h4 with ⟨-, -, rfl, -⟩ | ⟨-, -, rfl, -⟩ <;> simp
  | d + 1, _, _, _, _, h => by
    rcases h with h | ⟨kd, x, x1, x2, ca, ta, oa, cb, tb, ob, h0, h1, h2, h3, h4, rfl, -⟩
    · obtain ⟨kd, x, h1, h2, h3, h4⟩ := h
      rcases h4 with ⟨-, -, rfl, -⟩ | ⟨-, -, rfl, -⟩ <;> simp
    · simp

end LNode
