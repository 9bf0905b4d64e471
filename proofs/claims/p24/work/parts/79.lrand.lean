section LRand
def rnE (s : Int32) : va_E := .inr (9, [.int s])
theorem ushr_lt (x : Int32) : ∃ m, m < 65536 ∧ (x.toUInt32 >>> ((16 : Int32).toUInt32 &&& Int32.toUInt32 31)).toInt32 = nI m := by
  have h := pk_ushr x 16 16 (by decide)
  refine ⟨x.toBitVec.toNat / 2 ^ 16, by have := x.toBitVec.isLt; omega, ?_⟩
  apply Int32.toBitVec_inj.mp
  apply BitVec.eq_of_toNat_eq
  rw [h, pk_tn (by have := x.toBitVec.isLt; omega)]
theorem ct_X9_below {l : Launch} {Γ : ZG} {w : ZW} {a b : Nat} {s : Int32} (h : w.2 a = some (rnE s)) (hb : 0 < b) (hb2 : b ≤ 65536) : Ct l Γ mX9_below 1 0 0 [.ref a, .int (nI b)] w (fun v w' => ∃ j s', j < b ∧ v = some (.int (nI j)) ∧ w' = wset w a (rnE s')) zNo := by
  refine Ct.of (by decide) rfl (Nat.le_of_ble_eq_true rfl) ?_
  refine go_aload_n 1 dX9_below_0 rfl ?_
  refine go_ldc 3 dX9_below_1 ciX9_13 ?_
  refine go_aload_n 4 dX9_below_3 rfl ?_
  refine go_get 7 dX9_below_4 fX9_7 h rfl ?_
  refine go_imul 8 dX9_below_7 ?_
  refine go_sipush 11 dX9_below_8 zs_12345 ?_
  refine go_iadd 12 dX9_below_11 ?_
  refine go_put 15 dX9_below_12 pX9_7 h (show 0 < 1 by decide) rfl rfl ?_
  refine go_aload_n 16 dX9_below_15 rfl ?_
  refine go_get 19 dX9_below_16 fX9_7 wset_at rfl ?_
  refine go_bipush 21 dX9_below_19 zb_16 ?_
  refine go_iushr 22 dX9_below_21 ?_
  refine go_iload_n 23 dX9_below_22 rfl ?_
  refine go_irem 24 dX9_below_23 (nI_ne0 hb (by omega)) ?_
  obtain ⟨m, h1, h2⟩ := ushr_lt (1103515245 * s + 12345)
  refine go_ireturn dX9_below_24 rfl (by omega) (by omega) ⟨m % b, _, Nat.mod_lt _ hb, ?_, rfl⟩
  rw [h2, pk_rem (by omega) hb (by omega)]
section
variable {l : Launch} {Γ : ZG} {M M' : ZM} {dp mc ms d' mc' ms' : Nat} {Φ : Option Value → ZW → Prop} {Ψ : String → ZW → Prop} {k n : Nat} {w0 w w1 : ZW} {pc : Nat} {L : ZL} {st : List Value}
variable {T0 T T1 : LT} {a : Nat} {s s1 : Int32}
theorem Nc.b {c : va_E} {t a : Nat} (h : Nc w0 w T a c t) (hw : w0.1 = w1.1) : Nc w1 w T a c t := ⟨h.1, h.2.1, by rw [← hw]; exact h.2.2⟩
theorem bw_rn (b : BW (wset w0 a (rnE s)) T0 w T) : BW (wset w0 a (rnE s1)) T0 (wset w a (rnE s1)) T := ⟨b.1, fun q hq => by
  obtain ⟨b1, b2⟩ := b.2 q hq
  refine ⟨?_, b2⟩
  show (if q = a then _ else w.2 q) = if q = a then _ else w0.2 q
  by_cases hqa : q = a
  · rw [if_pos hqa, if_pos hqa]
  · rw [if_neg hqa, if_neg hqa, b1]
    exact if_neg hqa⟩
theorem bw_at (b : BW (wset w0 a (rnE s)) T0 w T) (ha : a < w0.1) : w.2 a = some (rnE s) := (b.2 a ha).1.trans wset_at
theorem bw_tr (b : BW (wset w0 a (rnE s)) T0 w T) (b2 : BW (wset w a (rnE s1)) T w1 T1) : BW (wset w0 a (rnE s1)) T0 w1 T1 := ⟨Nat.le_trans b.1 b2.1, fun q hq => by
  have hq' : q < w0.1 := hq
  have hw' : q < w.1 := Nat.lt_of_lt_of_le hq b.1
  obtain ⟨b3, b4⟩ := b.2 q hq
  obtain ⟨b5, b6⟩ := b2.2 q hw'
  refine ⟨b5.trans ?_, b6.trans b4⟩
  show (if q = a then _ else w.2 q) = if q = a then _ else w0.2 q
  by_cases hqa : q = a
  · rw [if_pos hqa, if_pos hqa]
  · rw [if_neg hqa, if_neg hqa, b3]
    exact if_neg hqa⟩
theorem bw_self (h : w.2 a = some (rnE s)) : BW (wset w a (rnE s)) T w T := ⟨Nat.le_refl _, fun q _ => ⟨by
  show w.2 q = if q = a then _ else w.2 q
  by_cases hqa : q = a
  · rw [if_pos hqa, hqa, h]
  · rw [if_neg hqa], rfl⟩⟩
theorem kq_rn (hw : WF w) (b2 : BW (wset w a (rnE s1)) T w1 T1) {t : Nat} (ht : T a = t) : Kq w T w1 T1 (fun z => z ≠ t) := fun q c h1 h2 => by
  obtain ⟨b5, b6⟩ := b2.2 q (hw q c h1)
  exact ⟨b5.trans ((if_neg (fun z => h2 (by rw [z]; exact ht))).trans h1), b6⟩
theorem gn_below {index b : Nat} (bw : BW (wset w0 a (rnE s)) T0 w T) (ha : a < w0.1) (hT : T0 a = 2) (pc' : Nat) (hd : decode M.2.1 pc = .ok (.invokevirtual index, 3)) (V : zV M.1.cls index mX9_below 1) (x : Int32) (hx : x = nI b) (hb : 0 < b) (hb2 : b ≤ 65536) (hdp : 2 ≤ dp) (h1 : k ≤ mc) (h2 : n ≤ ms) (hst : (st.map fun v => v.category).sum ≤ 8) (kk : ∀ w' j s', j < b → BW (wset w0 a (rnE s')) T0 w' T → Kq w T w' T (fun z => z ≠ 2) → Go l Γ M dp mc ms Φ Ψ k n w' pc' L (.int (nI j) :: st)) (hp : pc + 3 = pc' := by rfl) : Go l Γ M dp mc ms Φ Ψ k n w pc L (.int x :: .ref a :: st) := by
  subst hx
  have hat := bw_at bw ha
  refine go_callV pc' [.int (nI b)] hd V hat rfl (ct_X9_below hat hb hb2) hdp (by decide) h1 h2 hst ?_ hp
  rintro v w2 ⟨j, s', hj, rfl, rfl⟩
  exact kk _ j s' hj (bw_rn bw) (Kq.set ((bw.2 a ha).2.trans hT))
end
def mcN : Nat → Nat
  | 0 => 1
  | d + 1 => 1 + 2 * mcN d
theorem nd_leaf {w : ZW} {T : LT} {t ow : Nat} {cs : List Int32} {tx : List Nat} (h : NDL w T t cs tx ow) : ∀ {d : Nat}, ND w T d t cs tx ow
  | 0 => h
  | _ + 1 => Or.inl h
theorem nd_up {w : ZW} {T : LT} : ∀ {d t ow : Nat} {cs : List Int32} {tx : List Nat}, ND w T d t cs tx ow → ND w T (d + 1) t cs tx ow
  | 0, _, _, _, _, h => Or.inl h
  | d + 1, _, _, _, _, h => by
    rcases h with h | ⟨kd, x, a, b, ca, ta, oa, cb, tb, ob, h1, h2, h3, h4, h5, h6⟩
    · exact Or.inl h
    · exact Or.inr ⟨kd, x, a, b, ca, ta, oa, cb, tb, ob, h1, h2, h3, nd_up h4, nd_up h5, h6⟩
/-- behind a random expression -/
def PvN (w : ZW) (T : LT) (a d : Nat) : Option Value → ZW → Prop := fun v w' => ∃ t s T' cs tx ow, v = some (.ref t) ∧ BW (wset w a (rnE s)) T w' T' ∧ w.1 ≤ t ∧ ND w' T' d t cs tx ow

set_option maxRecDepth 100000 in
set_option maxHeartbeats 4000000 in
theorem nr_leaf {l : Launch} {Γ : ZG} {w0 : ZW} {T0 : LT} {a : Nat} (ha : a < w0.1) (hT : T0 a = 2) {d t kd x : Nat} {s : Int32} {w : ZW} {T : LT} {k n mc ms : Nat} (b0 : BW (wset w0 a (rnE s)) T0 w T) (n0 : Nc w0 w T t (.inr (8, [.int (nI kd), .int (nI x), .null, .null])) 5) (hkd : kd < 2) (hx0 : kd = 0 → x ≤ 9999) (hx1 : kd ≠ 0 → x < 4) (hk : k ≤ mc) (hn : n ≤ ms) : Go l Γ mX8_random (d + 2) mc ms (PvN w0 T0 a (d)) zNo k n w 70 [(0, .ref a), (1, .int (nI (d))), (2, .ref t)] [] := by
  have hL : ∃ cs tx, (kd = 0 ∧ x ≤ 9999 ∧ cs = [nI x] ∧ tx = dec x) ∨ (kd = 1 ∧ x < 4 ∧ cs = [-1 - nI x] ∧ tx = vrs x) := by
    rcases (show kd = 0 ∨ kd = 1 by omega) with h | h
    · exact ⟨_, _, Or.inl ⟨h, hx0 h, rfl, rfl⟩⟩
    · exact ⟨_, _, Or.inr ⟨h, hx1 (by omega), rfl, rfl⟩⟩
  obtain ⟨cs, tx, hL⟩ := hL
  refine go_aload_n 71 dX8_random_70 rfl ?_
  refine go_get 74 dX8_random_71 fX8_16 n0.1 rfl ?_
  refine go_iconst 75 dX8_random_74 zc_1 ?_
  refine go_icmp_le 100 78 dX8_random_75 (fun h75 => ?_) (fun h75 => ?_)
  · refine go_aload_n 101 dX8_random_100 rfl ?_
    exact go_aref dX8_random_101 rfl (by omega) (by omega) (⟨t, s, tset T t 0, cs, tx, 3, rfl, b0.tag n0.2.2, n0.2.2, nd_leaf (T := tset T t 0) ⟨kd, x, n0.1, (n0.tag (t' := 0)).2.1, rfl, hL⟩⟩)
  · exact absurd (nI_le (show kd ≤ 1 by omega) (by decide)) h75

set_option maxRecDepth 100000 in
set_option maxHeartbeats 4000000 in
theorem ct_X8_random {l : Launch} {Γ : ZG} : ∀ (d : Nat), d ≤ 100 → ∀ (w0 : ZW) (T0 : LT) (s0 : Int32) (a : Nat), w0.2 a = some (rnE s0) → a < w0.1 → T0 a = 2 → Ct l Γ mX8_random (d + 2) (mcN d) (4 * mcN d) [.ref a, .int (nI d)] w0 (PvN w0 T0 a d) zNo := by
  intro d
  induction d with
  | zero =>
    intro hd w0 T0 s0 a h0 ha hT
    have hmc : mcN 0 = 1 := rfl
    have K67 : ∀ (t : Nat) (w : ZW) (T : LT) (s : Int32) (kd x k n : Nat), BW (wset w0 a (rnE s)) T0 w T → Nc w0 w T t (.inr (8, [.int (nI kd), .int 0, .null, .null])) 5 → (kd = 0 → x ≤ 9999) → (kd ≠ 0 → x < 4) → kd < 2 → k ≤ 1 → n ≤ 4 → Go l Γ mX8_random (0 + 2) 1 4 (PvN w0 T0 a (0)) zNo k n w 67 [(0, .ref a), (1, .int (nI (0))), (2, .ref t)] [.int (nI x), .ref t] := by
      intro t w T s kd x k n b0 n0 hx0 hx1 hkd hk hn
      refine gn_put (n0.b (by exact rfl)) b0 70 dX8_random_67 pX8_20 (by exact Nat.le_of_ble_eq_true rfl) rfl rfl (fun w_67 b_67 nd_67 q_67 => ?_)
      exact go_locals _ rfl (nr_leaf ha hT b_67 nd_67 hkd hx0 hx1 hk hn)
    refine Ct.of (by decide) rfl (Nat.le_of_ble_eq_true rfl) ?_
    refine gn_new 5 (bw_self (T := T0) h0) 3 dX8_random_0 nX8_7 (by omega) (by omega) (fun w_0 T_0 nd b_0 nd_0 q_0 => ?_)
    refine go_dup 4 dX8_random_3 rfl ?_
    refine go_callI 7 [] dX8_random_4 vX8_9 ct_X8_init (by omega) (by decide) (by omega) (by omega) (by exact Nat.le_of_ble_eq_true rfl) ?_
    rintro _ _ ⟨rfl, rfl⟩
    refine go_astore_n 8 dX8_random_7 (by decide) ?_
    refine go_aload_n 9 dX8_random_8 rfl ?_
    refine go_iload_n 10 dX8_random_9 rfl ?_
    refine go_if_ne 21 13 dX8_random_10 (fun h10 => ?_) (fun h10 => ?_)
    · exact absurd nI_0 h10
    · refine go_aload_n 14 dX8_random_13 rfl ?_
      refine go_iconst 15 dX8_random_14 zc_2 ?_
      refine gn_below (b := 2) b_0 ha hT 18 dX8_random_15 vX8_10 _ rfl (by decide) (by decide) (by omega) (by omega) (by omega) (by exact Nat.le_of_ble_eq_true rfl) (fun w_15 kd s_15 hj_15 b_15 q_15 => ?_)
      have nd_15 := nd_0.go q_15 (by first | trivial | decide | omega)
      refine go_goto 27 dX8_random_18 ?_
      refine gn_put (nd_15.b (by exact rfl)) b_15 30 dX8_random_27 pX8_16 (by exact Nat.le_of_ble_eq_true rfl) rfl rfl (fun w_27 b_27 nd_27 q_27 => ?_)
      refine go_aload_n 31 dX8_random_30 rfl ?_
      refine go_aload_n 32 dX8_random_31 rfl ?_
      refine go_get 35 dX8_random_32 fX8_16 nd_27.1 rfl ?_
      refine go_if_ne 62 38 dX8_random_35 (fun h35 => ?_) (fun h35 => ?_)
      · refine go_aload_n 63 dX8_random_62 rfl ?_
        refine go_iconst 64 dX8_random_63 zc_4 ?_
        refine gn_below (b := 4) b_27 ha hT 67 dX8_random_64 vX8_10 _ rfl (by decide) (by decide) (by omega) (by omega) (by omega) (by exact Nat.le_of_ble_eq_true rfl) (fun w_64 x s_64 hj_64 b_64 q_64 => ?_)
        have nd_64 := nd_27.go q_64 (by first | trivial | decide | omega)
        exact go_locals _ rfl (K67 nd w_64 T_0 _ kd x _ _ b_64 nd_64 (fun z => absurd (show nI kd = 0 by rw [z]; rfl) h35) (fun _ => hj_64) hj_15 (by omega) (by omega))
      · refine go_aload_n 39 dX8_random_38 rfl ?_
        refine go_aload_n 40 dX8_random_39 rfl ?_
        refine go_bipush 42 dX8_random_40 zb_8 ?_
        refine gn_below (b := 8) b_27 ha hT 45 dX8_random_42 vX8_10 _ rfl (by decide) (by decide) (by omega) (by omega) (by omega) (by exact Nat.le_of_ble_eq_true rfl) (fun w_42 r8 s_42 hj_42 b_42 q_42 => ?_)
        have nd_42 := nd_27.go q_42 (by first | trivial | decide | omega)
        refine go_if_ne 54 48 dX8_random_45 (fun h45 => ?_) (fun h45 => ?_)
        · refine go_bipush 56 dX8_random_54 zb_20 ?_
          refine gn_below (b := 20) b_42 ha hT 59 dX8_random_56 vX8_10 _ rfl (by decide) (by decide) (by omega) (by omega) (by omega) (by exact Nat.le_of_ble_eq_true rfl) (fun w_56 x s_56 hj_56 b_56 q_56 => ?_)
          have nd_56 := nd_42.go q_56 (by first | trivial | decide | omega)
          refine go_goto 67 dX8_random_59 ?_
          exact go_locals _ rfl (K67 nd w_56 T_0 _ kd x _ _ b_56 nd_56 (fun _ => by omega) (fun z => absurd h35 (nI_ne0 (by omega) (by omega))) hj_15 (by omega) (by omega))
        · refine go_sipush 51 dX8_random_48 zs_10000 ?_
          refine go_goto 56 dX8_random_51 ?_
          refine gn_below (b := 10000) b_42 ha hT 59 dX8_random_56 vX8_10 _ rfl (by decide) (by decide) (by omega) (by omega) (by omega) (by exact Nat.le_of_ble_eq_true rfl) (fun w_56 x s_56 hj_56 b_56 q_56 => ?_)
          have nd_56 := nd_42.go q_56 (by first | trivial | decide | omega)
          refine go_goto 67 dX8_random_59 ?_
          exact go_locals _ rfl (K67 nd w_56 T_0 _ kd x _ _ b_56 nd_56 (fun _ => by omega) (fun z => absurd h35 (nI_ne0 (by omega) (by omega))) hj_15 (by omega) (by omega))
  | succ d ih =>
    intro hd w0 T0 s0 a h0 ha hT
    have ih := ih (by omega)
    have hmc : mcN (d + 1) = 1 + 2 * mcN d := rfl
    have K67 : ∀ (t : Nat) (w : ZW) (T : LT) (s : Int32) (kd x k n : Nat), BW (wset w0 a (rnE s)) T0 w T → Nc w0 w T t (.inr (8, [.int (nI kd), .int 0, .null, .null])) 5 → (kd = 0 → x ≤ 9999) → (kd ≠ 0 → x < 4) → kd < 6 → k ≤ 1 → n ≤ 4 → Go l Γ mX8_random (d + 1 + 2) (mcN (d + 1)) (4 * mcN (d + 1)) (PvN w0 T0 a (d + 1)) zNo k n w 67 [(0, .ref a), (1, .int (nI (d + 1))), (2, .ref t)] [.int (nI x), .ref t] := by
      intro t w T s kd x k n b0 n0 hx0 hx1 hkd hk hn
      refine gn_put (n0.b (by exact rfl)) b0 70 dX8_random_67 pX8_20 (by exact Nat.le_of_ble_eq_true rfl) rfl rfl (fun w_67 b_67 nd_67 q_67 => ?_)
      by_cases hk2 : kd < 2
      · exact go_locals _ rfl (nr_leaf ha hT b_67 nd_67 hk2 hx0 hx1 (by omega) (by omega))
      · refine go_locals [(0, .ref a), (1, .int (nI (d + 1))), (2, .ref t)] rfl ?_
        clear b0 n0
        have b0 := b_67
        have n0 := nd_67
        refine go_aload_n 71 dX8_random_70 rfl ?_
        refine go_get 74 dX8_random_71 fX8_16 n0.1 rfl ?_
        refine go_iconst 75 dX8_random_74 zc_1 ?_
        refine go_icmp_le 100 78 dX8_random_75 (fun h75 => ?_) (fun h75 => ?_)
        · exact absurd ((nI_leI (b := 1) (by omega) (by decide)).mp h75) (by omega)
        · refine go_aload_n 79 dX8_random_78 rfl ?_
          refine go_aload_n 80 dX8_random_79 rfl ?_
          refine go_iload_n 81 dX8_random_80 rfl ?_
          refine go_iconst 82 dX8_random_81 zc_1 ?_
          refine go_isub 83 dX8_random_82 ?_
          rw [show nI (d + 1) - 1 = nI d by rw [show (1 : Int32) = nI 1 from rfl, nI_sub (by omega), Nat.add_sub_cancel]]
          refine go_wf fun wf_83 => go_callS 86 [.ref a, .int (nI d)] dX8_random_83 vX8_23 rfl (ih _ _ _ a (bw_at b0 ha) (Nat.lt_of_lt_of_le ha b0.1) ((b0.2 a ha).2.trans hT)) (by omega) (by decide) (by omega) (by omega) (by exact Nat.le_of_ble_eq_true rfl) ?_
          rintro _ w_83 ⟨t1, s_83, T_83, cst1, txt1, owt1, rfl, b_83c, l_83, ndt1⟩
          have q_83 := kq_rn wf_83 b_83c ((b0.2 a ha).2.trans hT)
          have b_83 := bw_tr b0 b_83c
          have nd_83 := n0.go q_83 (by first | trivial | decide | omega)
          refine gn_put (nd_83.b (by exact rfl)) b_83 89 dX8_random_86 pX8_27 (by exact Nat.le_of_ble_eq_true rfl) rfl rfl (fun w_86 b_86 nd_86 q_86 => ?_)
          have ndt1_86 := ndt1.fr (q_86.mono (fun z hz => by omega))
          refine go_aload_n 90 dX8_random_89 rfl ?_
          refine go_aload_n 91 dX8_random_90 rfl ?_
          refine go_iload_n 92 dX8_random_91 rfl ?_
          refine go_iconst 93 dX8_random_92 zc_1 ?_
          refine go_isub 94 dX8_random_93 ?_
          rw [show nI (d + 1) - 1 = nI d by rw [show (1 : Int32) = nI 1 from rfl, nI_sub (by omega), Nat.add_sub_cancel]]
          refine go_wf fun wf_94 => go_callS 97 [.ref a, .int (nI d)] dX8_random_94 vX8_23 rfl (ih _ _ _ a (bw_at b_86 ha) (Nat.lt_of_lt_of_le ha b_86.1) ((b_86.2 a ha).2.trans hT)) (by omega) (by decide) (by omega) (by omega) (by exact Nat.le_of_ble_eq_true rfl) ?_
          rintro _ w_94 ⟨t2, s_94, T_94, cst2, txt2, owt2, rfl, b_94c, l_94, ndt2⟩
          have q_94 := kq_rn wf_94 b_94c ((b_86.2 a ha).2.trans hT)
          have b_94 := bw_tr b_86 b_94c
          have ndt1_94 := ndt1_86.fr (q_94.mono (fun z hz => by omega))
          have nd_94 := nd_86.go q_94 (by first | trivial | decide | omega)
          refine gn_put (nd_94.b (by exact rfl)) b_94 100 dX8_random_97 pX8_31 (by exact Nat.le_of_ble_eq_true rfl) rfl rfl (fun w_97 b_97 nd_97 q_97 => ?_)
          have ndt1_97 := ndt1_94.fr (q_97.mono (fun z hz => by omega))
          have ndt2_97 := ndt2.fr (q_97.mono (fun z hz => by omega))
          refine go_aload_n 101 dX8_random_100 rfl ?_
          exact go_aref dX8_random_101 rfl (by omega) (by omega) (⟨t, _, tset T_94 t 0, cst1 ++ (cst2 ++ [opc kd]), _, _, rfl, b_97.tag nd_97.2.2, nd_97.2.2, Or.inr ⟨kd, nI x, t1, t2, cst1, txt1, owt1, cst2, txt2, owt2, ⟨by omega, by omega⟩, nd_97.1, nd_97.tag.2.1, ndt1_97.fr ((Kq.tg nd_97.2.1).mono (fun z hz => by omega)), ndt2_97.fr ((Kq.tg nd_97.2.1).mono (fun z hz => by omega)), rfl, rfl, rfl⟩⟩)
    refine Ct.of (by decide) rfl (Nat.le_of_ble_eq_true rfl) ?_
    refine gn_new 5 (bw_self (T := T0) h0) 3 dX8_random_0 nX8_7 (by omega) (by omega) (fun w_0 T_0 nd b_0 nd_0 q_0 => ?_)
    refine go_dup 4 dX8_random_3 rfl ?_
    refine go_callI 7 [] dX8_random_4 vX8_9 ct_X8_init (by omega) (by decide) (by omega) (by omega) (by exact Nat.le_of_ble_eq_true rfl) ?_
    rintro _ _ ⟨rfl, rfl⟩
    refine go_astore_n 8 dX8_random_7 (by decide) ?_
    refine go_aload_n 9 dX8_random_8 rfl ?_
    refine go_iload_n 10 dX8_random_9 rfl ?_
    refine go_if_ne 21 13 dX8_random_10 (fun h10 => ?_) (fun h10 => ?_)
    · refine go_aload_n 22 dX8_random_21 rfl ?_
      refine go_bipush 24 dX8_random_22 zb_6 ?_
      refine gn_below (b := 6) b_0 ha hT 27 dX8_random_24 vX8_10 _ rfl (by decide) (by decide) (by omega) (by omega) (by omega) (by exact Nat.le_of_ble_eq_true rfl) (fun w_24 kd s_24 hj_24 b_24 q_24 => ?_)
      have nd_24 := nd_0.go q_24 (by first | trivial | decide | omega)
      refine gn_put (nd_24.b (by exact rfl)) b_24 30 dX8_random_27 pX8_16 (by exact Nat.le_of_ble_eq_true rfl) rfl rfl (fun w_27 b_27 nd_27 q_27 => ?_)
      refine go_aload_n 31 dX8_random_30 rfl ?_
      refine go_aload_n 32 dX8_random_31 rfl ?_
      refine go_get 35 dX8_random_32 fX8_16 nd_27.1 rfl ?_
      refine go_if_ne 62 38 dX8_random_35 (fun h35 => ?_) (fun h35 => ?_)
      · refine go_aload_n 63 dX8_random_62 rfl ?_
        refine go_iconst 64 dX8_random_63 zc_4 ?_
        refine gn_below (b := 4) b_27 ha hT 67 dX8_random_64 vX8_10 _ rfl (by decide) (by decide) (by omega) (by omega) (by omega) (by exact Nat.le_of_ble_eq_true rfl) (fun w_64 x s_64 hj_64 b_64 q_64 => ?_)
        have nd_64 := nd_27.go q_64 (by first | trivial | decide | omega)
        exact go_locals _ rfl (K67 nd w_64 T_0 _ kd x _ _ b_64 nd_64 (fun z => absurd (show nI kd = 0 by rw [z]; rfl) h35) (fun _ => hj_64) hj_24 (by omega) (by omega))
      · refine go_aload_n 39 dX8_random_38 rfl ?_
        refine go_aload_n 40 dX8_random_39 rfl ?_
        refine go_bipush 42 dX8_random_40 zb_8 ?_
        refine gn_below (b := 8) b_27 ha hT 45 dX8_random_42 vX8_10 _ rfl (by decide) (by decide) (by omega) (by omega) (by omega) (by exact Nat.le_of_ble_eq_true rfl) (fun w_42 r8 s_42 hj_42 b_42 q_42 => ?_)
        have nd_42 := nd_27.go q_42 (by first | trivial | decide | omega)
        refine go_if_ne 54 48 dX8_random_45 (fun h45 => ?_) (fun h45 => ?_)
        · refine go_bipush 56 dX8_random_54 zb_20 ?_
          refine gn_below (b := 20) b_42 ha hT 59 dX8_random_56 vX8_10 _ rfl (by decide) (by decide) (by omega) (by omega) (by omega) (by exact Nat.le_of_ble_eq_true rfl) (fun w_56 x s_56 hj_56 b_56 q_56 => ?_)
          have nd_56 := nd_42.go q_56 (by first | trivial | decide | omega)
          refine go_goto 67 dX8_random_59 ?_
          exact go_locals _ rfl (K67 nd w_56 T_0 _ kd x _ _ b_56 nd_56 (fun _ => by omega) (fun z => absurd h35 (nI_ne0 (by omega) (by omega))) hj_24 (by omega) (by omega))
        · refine go_sipush 51 dX8_random_48 zs_10000 ?_
          refine go_goto 56 dX8_random_51 ?_
          refine gn_below (b := 10000) b_42 ha hT 59 dX8_random_56 vX8_10 _ rfl (by decide) (by decide) (by omega) (by omega) (by omega) (by exact Nat.le_of_ble_eq_true rfl) (fun w_56 x s_56 hj_56 b_56 q_56 => ?_)
          have nd_56 := nd_42.go q_56 (by first | trivial | decide | omega)
          refine go_goto 67 dX8_random_59 ?_
          exact go_locals _ rfl (K67 nd w_56 T_0 _ kd x _ _ b_56 nd_56 (fun _ => by omega) (fun z => absurd h35 (nI_ne0 (by omega) (by omega))) hj_24 (by omega) (by omega))
    · exact absurd h10 (nI_ne0 (by omega) (by omega))

end LRand
