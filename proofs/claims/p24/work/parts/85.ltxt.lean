section LTxt

theorem nJ4_18 : zNew RJ4 18 11 4 [.null, .int 0, .int 0, .int 0] := ⟨_, _, tyJ0, rfl, uJ0_ok, tyJ0_ok, zGood.mem 1308 (by decide +kernel) rfl, zGood.mem 1309 (by decide +kernel) rfl, zGood.mem 58 (by decide +kernel) rfl, fun j hj => match j, hj with | 0, _ => rfl | 1, _ => rfl | 2, _ => rfl | 3, _ => rfl | j + 4, h => absurd h (by omega)⟩

theorem nX8_34 : zNew RX8 34 12 4 [.null, .int 0, .int 0, .int 0] := ⟨_, _, tyJ4, rfl, uJ4_ok, tyJ4_ok, zGood.mem 1155 (by decide +kernel) rfl, zGood.mem 1156 (by decide +kernel) rfl, zGood.mem 64 (by decide +kernel) rfl, fun j hj => match j, hj with | 0, _ => rfl | 1, _ => rfl | 2, _ => rfl | 3, _ => rfl | j + 4, h => absurd h (by omega)⟩

set_option maxRecDepth 100000 in
set_option maxHeartbeats 4000000 in
theorem ct_J0_initB {l : Launch} {Γ : ZG} {w : ZW} {r b a m n : Nat} {ml : Int32} {f : Nat → Int32} (hr : w.2 r = some (.inr (11, [.null, .int 0, .int 0, .int 0]))) (hb : w.2 b = some (.inr (12, [.ref a, .int 0, .int ml, .int (nI n)]))) (ha : w.2 a = some (b5 Γ m f)) (hf : sb_Fit f) (hm : m ≤ 200) (hn : n ≤ m) : Ct l Γ mJ0_init_db425 4 1 200 [.ref r, .ref b, .null] w (fun v w2 => v = none ∧ w2.1 = w.1 + 1 ∧ (∀ x, x < w.1 → x ≠ r → w2.2 x = w.2 x) ∧ w2.2 r = some (.inr (11, [.ref w.1, .int 0, .int 0, .int 0])) ∧ ∃ f2, w2.2 w.1 = some (b5 Γ n f2) ∧ ∀ j, j < n → f2 j = f j) zNo := by
  refine Ct.of (by decide) rfl (Nat.le_of_ble_eq_true rfl) (go_wf fun hw => ?_)
  have hrl := hw _ _ hr
  refine go_aload_n 1 dJ0_init_db425_0 rfl ?_
  refine go_objInit 4 dJ0_init_db425_1 oJ0_1 oInst oCode (by decide) (by exact Nat.le_of_ble_eq_true rfl) ?_
  refine go_aload_n 5 dJ0_init_db425_4 rfl ?_
  refine go_callH 8 [] dJ0_init_db425_5 hvJ0_552 hb (ct_J5_getValue hb) (by decide) (by decide) (by omega) (by omega) (by exact Nat.le_of_ble_eq_true rfl) ?_
  rintro _ w9 ⟨rfl, hw9⟩
  obtain rfl := hw9.symm
  refine go_astore_n 9 dJ0_init_db425_8 (by decide) ?_
  refine go_aload_n 10 dJ0_init_db425_9 rfl ?_
  refine go_callL 13 rfl dJ0_init_db425_10 hb (by decide) (by omega) (by omega) (by exact Nat.le_of_ble_eq_true rfl) ?_
  refine go_istore 15 dJ0_init_db425_13 (by decide) ?_
  refine go_aload_n 16 dJ0_init_db425_15 rfl ?_
  refine go_callH 19 [] dJ0_init_db425_16 hvJ0_1047 hb (ct_J5_isLatin1 hb) (by decide) (by decide) (by omega) (by omega) (by exact Nat.le_of_ble_eq_true rfl) ?_
  rintro _ w9 ⟨rfl, hw9⟩
  obtain rfl := hw9.symm
  refine go_if_eq 41 22 dJ0_init_db425_19 (fun h19 => ?_) (fun h19 => ?_)
  · exact absurd h19 (by decide)
  · refine go_aload_n 23 dJ0_init_db425_22 rfl ?_
    refine go_iconst 24 dJ0_init_db425_23 zc_0 ?_
    refine go_putF 27 dJ0_init_db425_24 qJ0_15 rfl hr (by exact (show 1 < 4 by decide)) rfl rfl ?_
    have ha2 : (wset w r (.inr (11, [.null, .int 0, .int 0, .int 0]))).2 a = some (b5 Γ m f) := (if_neg (fun z => by rw [z, hr] at ha; cases ha)).trans ha
    refine go_aload_n 28 dJ0_init_db425_27 rfl ?_
    refine go_aload_n 29 dJ0_init_db425_28 rfl ?_
    refine go_iconst 30 dJ0_init_db425_29 zc_0 ?_
    refine go_iload 32 dJ0_init_db425_30 rfl ?_
    refine go_callS 35 [.ref a, .int 0, .int (nI n)] dJ0_init_db425_32 vJ0_54 rfl (ct_J7_range ha2 hf hm hn) (by decide) (by decide) (by omega) (by omega) (by exact Nat.le_of_ble_eq_true rfl) ?_
    rintro _ w2 ⟨rfl, y1, y2, f2, y3, y4⟩
    have hr2 : w2.2 r = some (.inr (11, [.null, .int 0, .int 0, .int 0])) := (y2 r hrl).trans wset_at
    refine go_putF 38 dJ0_init_db425_35 qJ0_9 rfl hr2 (by exact (show 0 < 4 by decide)) rfl rfl ?_
    refine go_goto 97 dJ0_init_db425_38 ?_
    exact go_return dJ0_init_db425_97 rfl (by omega) (by omega) (⟨rfl, y1, fun x h1 h2 => (if_neg h2).trans ((y2 x h1).trans (if_neg h2)), wset_at, f2, (if_neg (show ¬ w.1 = r by omega)).trans y3, y4⟩)

set_option maxRecDepth 100000 in
set_option maxHeartbeats 4000000 in
theorem ct_J0_initA {l : Launch} {Γ : ZG} {w : ZW} {r b a m n : Nat} {ml : Int32} {f : Nat → Int32} (hr : w.2 r = some (.inr (11, [.null, .int 0, .int 0, .int 0]))) (hb : w.2 b = some (.inr (12, [.ref a, .int 0, .int ml, .int (nI n)]))) (ha : w.2 a = some (b5 Γ m f)) (hf : sb_Fit f) (hm : m ≤ 200) (hn : n ≤ m) : Ct l Γ mJ0_init_81219 5 1 200 [.ref r, .ref b] w (fun v w2 => v = none ∧ w2.1 = w.1 + 1 ∧ (∀ x, x < w.1 → x ≠ r → w2.2 x = w.2 x) ∧ w2.2 r = some (.inr (11, [.ref w.1, .int 0, .int 0, .int 0])) ∧ ∃ f2, w2.2 w.1 = some (b5 Γ n f2) ∧ ∀ j, j < n → f2 j = f j) zNo := by
  refine Ct.of (by decide) rfl (Nat.le_of_ble_eq_true rfl) ?_
  refine go_aload_n 1 dJ0_init_81219_0 rfl ?_
  refine go_aload_n 2 dJ0_init_81219_1 rfl ?_
  refine go_null 3 dJ0_init_81219_2 ?_
  refine go_callI 6 [.ref b, .null] dJ0_init_81219_3 vJ0_489 (ct_J0_initB hr hb ha hf hm hn) (by decide) (by decide) (by omega) (by omega) (by exact Nat.le_of_ble_eq_true rfl) ?_
  rintro _ w2 ⟨rfl, hq⟩
  exact go_return dJ0_init_81219_6 rfl (by omega) (by omega) ⟨rfl, hq⟩

/-- a string, constant or made since w0 -/
def StrT (Γ : ZG) (w0 w : ZW) (T : LT) (r : Nat) (tx : List Nat) : Prop := Asc tx ∧ ((∃ q ∈ zStr, r = Γ.2.2.2.1 q.1 q.2.1 ∧ tx = chs q.2.2) ∨ ∃ a f h z, Nc w0 w T r (.inr (11, [.ref a, .int 0, .int h, .int z])) 0 ∧ Nc w0 w T a (b5 Γ tx.length f) 0 ∧ BOf f tx)
theorem StrT.at {Γ : ZG} {w0 w : ZW} {T : LT} {r : Nat} {tx : List Nat} (h : StrT Γ w0 w T r tx) : StrAt Γ w r tx := by
  obtain ⟨h0, h | ⟨a, f, hh, z, g1, g2, g3⟩⟩ := h
  · exact ⟨h0, Or.inl h⟩
  · exact ⟨h0, Or.inr ⟨a, f, hh, z, g1.1, g2.1, g3⟩⟩
theorem StrT.go {Γ : ZG} {w0 w w1 : ZW} {T T1 : LT} {r : Nat} {tx : List Nat} {P : Nat → Prop} (h : StrT Γ w0 w T r tx) (k : Kq w T w1 T1 P) (h0 : P 0) : StrT Γ w0 w1 T1 r tx := by
  obtain ⟨hz, h | ⟨a, f, hh, z, g1, g2, g3⟩⟩ := h
  · exact ⟨hz, Or.inl h⟩
  · exact ⟨hz, Or.inr ⟨a, f, hh, z, g1.go k h0, g2.go k h0, g3⟩⟩
theorem SBn.go {Γ : ZG} {w0 w w1 : ZW} {T T1 : LT} {b : Nat} {tx : List Nat} {P : Nat → Prop} (h : SBn Γ w0 w T b tx) (k : Kq w T w1 T1 P) (h0 : P 8) : SBn Γ w0 w1 T1 b tx := by
  obtain ⟨hz, a, m, f, ml, g1, g2, g3⟩ := h
  exact ⟨hz, a, m, f, ml, g1.go k h0, g2.go k h0, g3⟩
def PvS (Γ : ZG) (w0 : ZW) (T0 : LT) (w : ZW) (T : LT) (tx : List Nat) : Option Value → ZW → Prop := fun v w2 => ∃ r T2, v = some (.ref r) ∧ BW w0 T0 w2 T2 ∧ StrT Γ w0 w2 T2 r tx ∧ Kq w T w2 T2 (fun z => z ≠ 7)

set_option maxRecDepth 100000 in
set_option maxHeartbeats 4000000 in
theorem ct_J4_toString {l : Launch} {Γ : ZG} {w : ZW} {w0 : ZW} {T0 T : LT} {b : Nat} {tx : List Nat} (bw : BW w0 T0 w T) (hs : SBn Γ w0 w T b tx) : Ct l Γ mJ4_toString_0e30d 6 2 204 [.ref b] w (PvS Γ w0 T0 w T tx) zNo := by
  obtain ⟨hs0, a, m, f, ml, hb, ha, hm1, hm, hf, hbo⟩ := hs
  refine Ct.of (by decide) rfl (Nat.le_of_ble_eq_true rfl) (go_wf fun hw => ?_)
  refine gn_new 7 bw 3 dJ4_toString_0e30d_0 nJ4_18 (by omega) (by omega) (fun w1 T1 r b1 r1 q1 => ?_)
  have hb1 := hb.go q1 trivial
  have ha1 := ha.go q1 trivial
  refine go_dup 4 dJ4_toString_0e30d_3 rfl ?_
  refine go_aload_n 5 dJ4_toString_0e30d_4 rfl (go_wf fun hw1 => ?_)
  refine go_callI 8 [.ref b] dJ4_toString_0e30d_5 vJ4_137 (ct_J0_initA r1.1 hb1.1 ha1.1 hf hm hm1) (by decide) (by decide) (by omega) (by omega) (by exact Nat.le_of_ble_eq_true rfl) ?_
  rintro _ w2 ⟨rfl, y1, y2, y3, f2, y4, y5⟩
  have hrl := hw1 _ _ r1.1
  have hl1 := b1.1
  refine go_aref dJ4_toString_0e30d_8 rfl (by omega) (by omega) ⟨r, tset (tset T1 w1.1 0) r 0, rfl, ⟨by omega, fun q hq => ?_⟩, ⟨hs0, Or.inr ⟨w1.1, f2, 0, 0, ⟨y3, if_pos rfl, r1.2.2⟩, ⟨y4, (if_neg (by omega)).trans (if_pos rfl), hl1⟩, fun j hj => (y5 j hj).trans (hbo j hj)⟩⟩, fun q c h1 h2 => ?_⟩
  · have := r1.2.2
    exact ⟨(y2 q (by omega) (by omega)).trans (b1.2 q hq).1, (if_neg (by omega)).trans ((if_neg (by omega)).trans (b1.2 q hq).2)⟩
  · obtain ⟨k1, k2⟩ := q1 q c h1 trivial
    have hq1 := hw1 q c k1
    have hq : q < w.1 := hw q c h1
    have hrw : q ≠ r := fun z => h2 (by rw [← k2, z]; exact r1.2.1)
    exact ⟨(y2 q hq1 hrw).trans k1, (if_neg hrw).trans ((if_neg (by omega)).trans k2)⟩

section
variable {l : Launch} {Γ : ZG} {M : ZM} {dp mc ms : Nat} {Φ : Option Value → ZW → Prop} {Ψ : String → ZW → Prop} {k n : Nat} {w0 w : ZW} {pc : Nat} {L : ZL} {st : List Value}
variable {T0 T : LT} {b r : Nat} {tx ty : List Nat}
theorem go_getVar (pc' : Nat) (hM : M.1.cls = RX8) (hd : decode M.2.1 pc = .ok (.getstatic 50, 3)) (kk : Go l Γ M dp mc ms Φ Ψ k n w pc' L (.ref (Γ.2.2.2.1 "VARIABLES" 0) :: st)) (hp : pc + 3 = pc' := by rfl) : Go l Γ M dp mc ms Φ Ψ k n w pc L st := by
  subst hp
  have hN : Cond.fieldLinkNest M.1.cls 50 "CallForksLaw" "VARIABLES" "[Ljava/lang/String;" "CallForksLaw" ∈ zNest := by rw [hM]; exact zNest.mem 1326 (by decide +kernel) rfl
  exact fun p e s m args below meth c C H locs ls hl hH hS => va_getsN C.1 C.2.1 C.stat.2.2.2.1.2.2.2.2.2.1 hS C.own (va_Nw.use rfl (C.stat.2.1 _ hN)) (fun _ h => h) hd (kk p e s m args below meth c C H locs ls hl hH hS)
theorem go_aaldV {i : Nat} (pc' : Nat) (hd : decode M.2.1 pc = .ok (.aaload, 1)) (hi : i < 4) (kk : Go l Γ M dp mc ms Φ Ψ k n w pc' L (.ref (Γ.2.2.2.1 "CallForksLaw" (zvIx i)) :: st)) (hp : pc + 1 = pc' := by rfl) : Go l Γ M dp mc ms Φ Ψ k n w pc L (.int (nI i) :: .ref (Γ.2.2.2.1 "VARIABLES" 0) :: st) := by
  subst hp
  exact fun p e s m args below meth c C H locs ls hl hH hS => vb_tq C.1 C.2.1 C.stat.2.2.2.1.2.2.2.2.2.2.1 hS (vp_in_nI hi (by decide)) (by rw [nI_clamp (by omega)]) hd (kk p e s m args below meth c C H locs ls hl hH hS)
/-- a new builder's constructor -/
theorem gn_sbI {index : Nat} (h : Nc w0 w T b (.inr (12, [.null, .int 0, .int 0, .int 0])) 8) (bw : BW w0 T0 w T) (pc' : Nat) (hd : decode M.2.1 pc = .ok (.invokespecial index, 3)) (V : zVi M.1.cls index mJ4_init_da8c8 0) (hdp : 3 ≤ dp) (h1 : k + 1 ≤ mc) (h2 : n + 16 ≤ ms) (hst : (st.map fun v => v.category).sum ≤ 8) (kk : ∀ w' T', BW w0 T0 w' T' → SBn Γ w0 w' T' b [] → Kq w T w' T' (fun z => z ≠ 8) → Go l Γ M dp mc ms Φ Ψ (k + 1) (n + 16) w' pc' L st) (hp : pc + 3 = pc' := by rfl) : Go l Γ M dp mc ms Φ Ψ k n w pc L (.ref b :: st) := by
  refine go_wf fun hw => go_callI (As := []) pc' hd V (ct_J4_initB h.1) hdp (by decide) h1 h2 hst ?_ hp
  rintro v w2 ⟨rfl, hb, rfl⟩
  have hT : tset T w.1 8 b = 8 := (if_neg (by omega)).trans h.2.1
  exact kk _ (tset T w.1 8) (bw.new.put h.2.2) ⟨(fun _ hc => absurd hc (List.not_mem_nil)), w.1, 16, fun _ => 0, 0, ⟨if_pos rfl, hT, h.2.2⟩, ⟨(if_neg (by omega)).trans (if_pos rfl), if_pos rfl, bw.1⟩, Nat.zero_le _, by decide, sb_fit0, fun _ hj => absurd hj (Nat.not_lt_zero _)⟩ ((Kq.new hw).trans (Kq.set hT))
theorem gn_sbS {index : Nat} (bw : BW w0 T0 w T) (hs : SBn Γ w0 w T b tx) (hr : StrAt Γ w r ty) (hlen : tx.length + ty.length ≤ 100) (pc' : Nat) (hd : decode M.2.1 pc = .ok (.invokevirtual index, 3)) (V : zV M.1.cls index mJ4_append_15ec4 1) (hdp : 7 ≤ dp) (h1 : k + 1 ≤ mc) (h2 : n + 200 ≤ ms) (hst : (st.map fun v => v.category).sum ≤ 8) (kk : ∀ w' T', BW w0 T0 w' T' → SBn Γ w0 w' T' b (tx ++ ty) → Kq w T w' T' (fun z => z ≠ 8) → Go l Γ M dp mc ms Φ Ψ (k + 1) (n + 200) w' pc' L (.ref b :: st)) (hp : pc + 3 = pc' := by rfl) : Go l Γ M dp mc ms Φ Ψ k n w pc L (.ref r :: .ref b :: st) := by
  refine go_callV pc' [.ref r] hd V hs.2.choose_spec.choose_spec.choose_spec.choose_spec.1.1 rfl (ct_J4_appendS bw hs hr hlen) hdp (by decide) h1 h2 hst ?_ hp
  rintro v w2 ⟨rfl, T2, h3, h4, h5⟩
  exact kk w2 T2 h3 h4 h5
theorem gn_sbN {index x : Nat} (bw : BW w0 T0 w T) (hs : SBn Γ w0 w T b tx) (hx : x ≤ 9999) (hlen : tx.length + (dec x).length ≤ 100) (pc' : Nat) (hd : decode M.2.1 pc = .ok (.invokevirtual index, 3)) (V : zV M.1.cls index mJ4_append_bf812 1) (hdp : 7 ≤ dp) (h1 : k + 1 ≤ mc) (h2 : n + 200 ≤ ms) (hst : (st.map fun v => v.category).sum ≤ 8) (kk : ∀ w' T', BW w0 T0 w' T' → SBn Γ w0 w' T' b (tx ++ dec x) → Kq w T w' T' (fun z => z ≠ 8) → Go l Γ M dp mc ms Φ Ψ (k + 1) (n + 200) w' pc' L (.ref b :: st)) (hp : pc + 3 = pc' := by rfl) : Go l Γ M dp mc ms Φ Ψ k n w pc L (.int (nI x) :: .ref b :: st) := by
  refine go_callV pc' [.int (nI x)] hd V hs.2.choose_spec.choose_spec.choose_spec.choose_spec.1.1 rfl (ct_J4_appendI bw hs hx hlen) hdp (by decide) h1 h2 hst ?_ hp
  rintro v w2 ⟨rfl, T2, h3, h4, h5⟩
  exact kk w2 T2 h3 h4 h5
theorem gn_sbT {index : Nat} (bw : BW w0 T0 w T) (hs : SBn Γ w0 w T b tx) (pc' : Nat) (hd : decode M.2.1 pc = .ok (.invokevirtual index, 3)) (V : zV M.1.cls index mJ4_toString_0e30d 0) (hdp : 7 ≤ dp) (h1 : k + 2 ≤ mc) (h2 : n + 204 ≤ ms) (hst : (st.map fun v => v.category).sum ≤ 8) (kk : ∀ w' T' r, BW w0 T0 w' T' → StrT Γ w0 w' T' r tx → Kq w T w' T' (fun z => z ≠ 7) → Go l Γ M dp mc ms Φ Ψ (k + 2) (n + 204) w' pc' L (.ref r :: st)) (hp : pc + 3 = pc' := by rfl) : Go l Γ M dp mc ms Φ Ψ k n w pc L (.ref b :: st) := by
  refine go_callV (As := []) pc' hd V hs.2.choose_spec.choose_spec.choose_spec.choose_spec.1.1 rfl (ct_J4_toString bw hs) hdp (by decide) h1 h2 hst ?_ hp
  rintro v w2 ⟨r, T2, rfl, h3, h4, h5⟩
  exact kk w2 T2 r h3 h4 h5
theorem BW.tr {w1 : ZW} {T1 : LT} (b1 : BW w0 T0 w T) (b2 : BW w T w1 T1) : BW w0 T0 w1 T1 := ⟨Nat.le_trans b1.1 b2.1, fun q hq => by
  have hq' := Nat.lt_of_lt_of_le hq b1.1
  exact ⟨(b2.2 q hq').1.trans (b1.2 q hq).1, (b2.2 q hq').2.trans (b1.2 q hq).2⟩⟩
theorem StrT.up {w1 : ZW} {T1 : LT} (h : StrT Γ w w1 T1 r tx) (hw : w0.1 ≤ w.1) : StrT Γ w0 w1 T1 r tx := by
  obtain ⟨hz, h | ⟨a, f, hh, z, g1, g2, g3⟩⟩ := h
  · exact ⟨hz, Or.inl h⟩
  · exact ⟨hz, Or.inr ⟨a, f, hh, z, ⟨g1.1, g1.2.1, Nat.le_trans hw g1.2.2⟩, ⟨g2.1, g2.2.1, Nat.le_trans hw g2.2.2⟩, g3⟩⟩
end
theorem str_c {Γ : ZG} {w0 w : ZW} {T : LT} (q : String × Nat × String) (h : q ∈ zStr) (ha : (chs q.2.2).all (· < 128) = true) : StrT Γ w0 w T (Γ.2.2.2.1 q.1 q.2.1) (chs q.2.2) := ⟨fun c hc => of_decide_eq_true (List.all_eq_true.mp ha c hc), Or.inl ⟨q, h, rfl, rfl⟩⟩
theorem str_v {Γ : ZG} {w0 w : ZW} {T : LT} {x : Nat} (hx : x < 4) : StrT Γ w0 w T (Γ.2.2.2.1 "CallForksLaw" (zvIx x)) (vrs x) := by
  rcases (show x = 0 ∨ x = 1 ∨ x = 2 ∨ x = 3 by omega) with rfl | rfl | rfl | rfl
  · exact str_c ("CallForksLaw", 294, "legs") (by decide +kernel) (by decide +kernel)
  · exact str_c ("CallForksLaw", 295, "caller") (by decide +kernel) (by decide +kernel)
  · exact str_c ("CallForksLaw", 296, "referred") (by decide +kernel) (by decide +kernel)
  · exact str_c ("CallForksLaw", 298, "time") (by decide +kernel) (by decide +kernel)
def txC : Nat → Nat
  | 0 => 6
  | d + 1 => 14 + 2 * txC d

set_option maxRecDepth 100000 in
set_option maxHeartbeats 4000000 in
theorem tx_leaf {l : Launch} {Γ : ZG} {w : ZW} {T : LT} {t ow lv dp mc ms : Nat} {cs : List Int32} {tx : List Nat} (hdp : 8 ≤ dp) (hmc : 6 ≤ mc) (hms : 1500 ≤ ms) (hlv : lv ≤ 3) (h : NDL w T t cs tx ow) : Ct l Γ mX8_text dp mc ms [.ref t, .int (nI lv)] w (PvS Γ w T w T (par' lv ow tx)) zNo := by
  obtain ⟨kd, x, h1, h2, rfl, h4⟩ := h
  refine Ct.of (by decide) rfl (Nat.le_of_ble_eq_true rfl) (go_wf fun hw => ?_)
  have htl := hw _ _ h1
  have hp : par' lv 3 tx = tx := if_neg (by omega)
  rw [hp]
  rcases h4 with ⟨rfl, hx, rfl, rfl⟩ | ⟨rfl, hx4, rfl, rfl⟩
  · have hdl : (dec x).length ≤ 4 := by rw [dec_len]; (repeat' split) <;> omega
    refine go_aload_n 1 dX8_text_0 rfl ?_
    refine go_get 4 dX8_text_1 fX8_16 (((BW.rf (w := w) (T := T)).2 t htl).1.trans h1) rfl ?_
    refine go_if_ne 30 7 dX8_text_4 (fun h4 => ?_) (fun h4 => ?_)
    · exact absurd h4 (by decide)
    · refine gn_new 8 (BW.rf (w := w) (T := T)) 10 dX8_text_7 nX8_34 (by omega) (by omega) (fun w_7 T_7 sb b_7 sb_7 q_7 => ?_)
      refine go_dup 11 dX8_text_10 rfl ?_
      refine gn_sbI sb_7 b_7 14 dX8_text_11 vX8_36 (by omega) (by omega) (by omega) (by exact Nat.le_of_ble_eq_true rfl) (fun w_11 T_11 b_11 sb_11 q_11 => ?_)
      refine go_ldcS 16 dX8_text_14 sX8_37 ?_
      refine gn_sbS b_11 sb_11 (str_c (w0 := w) (T := T) (RX8, 37, "") sX8_37 (by decide +kernel)).at (by simp [chs]) 19 dX8_text_16 vX8_39 (by omega) (by omega) (by omega) (by exact Nat.le_of_ble_eq_true rfl) (fun w_16 T_16 b_16 sb_16 q_16 => ?_)
      refine go_aload_n 20 dX8_text_19 rfl ?_
      refine go_get 23 dX8_text_20 fX8_20 ((b_16.2 t htl).1.trans h1) rfl ?_
      refine gn_sbN b_16 sb_16 hx (by simp [chs]; omega) 26 dX8_text_23 vX8_43 (by omega) (by omega) (by omega) (by exact Nat.le_of_ble_eq_true rfl) (fun w_23 T_23 b_23 sb_23 q_23 => ?_)
      refine gn_sbT b_23 sb_23 29 dX8_text_26 vX8_46 (by omega) (by omega) (by omega) (by exact Nat.le_of_ble_eq_true rfl) (fun w_26 T_26 r b_26 r_26 q_26 => ?_)
      have sb_26 := sb_23.go q_26 (by first | trivial | decide)
      exact go_aref dX8_text_29 rfl (by omega) (by omega) (⟨r, T_26, rfl, b_26, by have := r_26; simpa [chs] using this, Kq.old b_26 hw⟩)
  · refine go_aload_n 1 dX8_text_0 rfl ?_
    refine go_get 4 dX8_text_1 fX8_16 (((BW.rf (w := w) (T := T)).2 t htl).1.trans h1) rfl ?_
    refine go_if_ne 30 7 dX8_text_4 (fun h4 => ?_) (fun h4 => ?_)
    · refine go_aload_n 31 dX8_text_30 rfl ?_
      refine go_get 34 dX8_text_31 fX8_16 (((BW.rf (w := w) (T := T)).2 t htl).1.trans h1) rfl ?_
      refine go_iconst 35 dX8_text_34 zc_1 ?_
      refine go_icmp_ne 47 38 dX8_text_35 (fun h35 => ?_) (fun h35 => ?_)
      · exact absurd h35 (by decide)
      · refine go_getVar 41 rfl dX8_text_38 ?_
        refine go_aload_n 42 dX8_text_41 rfl ?_
        refine go_get 45 dX8_text_42 fX8_20 (((BW.rf (w := w) (T := T)).2 t htl).1.trans h1) rfl ?_
        refine go_aaldV 46 dX8_text_45 hx4 ?_
        exact go_aref dX8_text_46 rfl (by omega) (by omega) (⟨_, T, rfl, BW.rf, str_v hx4, Kq.rf⟩)
    · exact absurd h4 (by decide)

set_option maxRecDepth 100000 in
set_option maxHeartbeats 4000000 in
theorem tx_par {l : Launch} {Γ : ZG} {w0 w : ZW} {T0 T : LT} {r lv ow k n mc ms dp : Nat} {tx : List Nat} (hw0 : WF w0) (hdp : 8 ≤ dp) (b0 : BW w0 T0 w T) (r0 : StrT Γ w0 w T r tx) (hlv : lv ≤ 3) (how : ow ≤ 3) (hlen : (par' lv ow tx).length ≤ 100) (hk : k + 7 ≤ mc) (hn : n + 824 ≤ ms) : Go l Γ mX8_text dp mc ms (PvS Γ w0 T0 w0 T0 (par' lv ow tx)) zNo k n w 140 [(1, .int (nI lv)), (2, .int (nI ow)), (3, .ref r)] [] := by
  have hl2 : ow < lv → tx.length + 2 ≤ 100 := fun z => by
    unfold par' at hlen
    rw [if_pos z] at hlen
    simp at hlen
    omega
  refine go_iload_n 141 dX8_text_140 rfl ?_
  refine go_iload_n 142 dX8_text_141 rfl ?_
  refine go_icmp_ge 172 145 dX8_text_142 (fun h142 => ?_) (fun h142 => ?_)
  · refine go_aload_n 173 dX8_text_172 rfl ?_
    exact go_aref dX8_text_173 rfl (by omega) (by omega) (⟨r, T, rfl, b0, by rw [show par' lv ow tx = tx from if_neg (fun z => absurd h142 (fun y => absurd ((nI_leI (by omega) (by omega)).mp y) (by omega)))]; exact r0, Kq.old b0 hw0⟩)
  · have h9 : ow < lv := Nat.lt_of_not_le (fun z => h142 ((nI_leI (by omega) (by omega)).mpr z))
    have h10 := hl2 h9
    refine gn_new 8 b0 148 dX8_text_145 nX8_34 (by omega) (by omega) (fun w_145 T_145 sd b_145 sd_145 q_145 => ?_)
    have r_145 := r0.go q_145 (by first | trivial | decide)
    refine go_dup 149 dX8_text_148 rfl ?_
    refine gn_sbI sd_145 b_145 152 dX8_text_149 vX8_36 (by omega) (by omega) (by omega) (by exact Nat.le_of_ble_eq_true rfl) (fun w_149 T_149 b_149 sd_149 q_149 => ?_)
    have r_149 := r_145.go q_149 (by first | trivial | decide)
    refine go_ldcS 154 dX8_text_152 sX8_68 ?_
    refine gn_sbS b_149 sd_149 (str_c (w0 := w0) (T := T) (RX8, 68, "(") sX8_68 (by decide +kernel)).at (by simp [chs]) 157 dX8_text_154 vX8_39 (by omega) (by omega) (by omega) (by exact Nat.le_of_ble_eq_true rfl) (fun w_154 T_154 b_154 sd_154 q_154 => ?_)
    have r_154 := r_149.go q_154 (by first | trivial | decide)
    refine go_aload_n 158 dX8_text_157 rfl ?_
    refine gn_sbS b_154 sd_154 r_154.at (by simp [chs]; omega) 161 dX8_text_158 vX8_39 (by omega) (by omega) (by omega) (by exact Nat.le_of_ble_eq_true rfl) (fun w_158 T_158 b_158 sd_158 q_158 => ?_)
    have r_158 := r_154.go q_158 (by first | trivial | decide)
    refine go_ldcS 163 dX8_text_161 sX8_70 ?_
    refine gn_sbS b_158 sd_158 (str_c (w0 := w0) (T := T) (RX8, 70, ")") sX8_70 (by decide +kernel)).at (by simp [chs]; omega) 166 dX8_text_163 vX8_39 (by omega) (by omega) (by omega) (by exact Nat.le_of_ble_eq_true rfl) (fun w_163 T_163 b_163 sd_163 q_163 => ?_)
    have r_163 := r_158.go q_163 (by first | trivial | decide)
    refine gn_sbT b_163 sd_163 169 dX8_text_166 vX8_46 (by omega) (by omega) (by omega) (by exact Nat.le_of_ble_eq_true rfl) (fun w_166 T_166 r2 b_166 r2_166 q_166 => ?_)
    have r_166 := r_163.go q_166 (by first | trivial | decide)
    have sd_166 := sd_163.go q_166 (by first | trivial | decide)
    refine go_goto 173 dX8_text_169 ?_
    exact go_aref dX8_text_173 rfl (by omega) (by omega) (⟨r2, T_166, rfl, b_166, by rw [show par' lv ow tx = 40 :: (tx ++ [41]) from if_pos h9]; have := r2_166; simpa [chs] using this, Kq.old b_166 hw0⟩)

theorem nd_obj {w : ZW} {T : LT} : ∀ {d t ow : Nat} {cs : List Int32} {tx : List Nat}, ND w T d t cs tx ow → ∃ fs, w.2 t = some (.inr (8, fs))
  | 0, _, _, _, _, h => by obtain ⟨kd, x, h1, -⟩ := h; exact ⟨_, h1⟩
  | d + 1, _, _, _, _, h => by
    rcases h with h | ⟨kd, x, x1, x2, ca, ta, oa, cb, tb, ob, h0, h1, -⟩
    · obtain ⟨kd, x, h1, -⟩ := h; exact ⟨_, h1⟩
    · exact ⟨_, h1⟩

theorem par_len {lv ow : Nat} {tx : List Nat} : tx.length ≤ (par' lv ow tx).length := by
  unfold par'
  split
  · simp; omega
  · omega

set_option maxRecDepth 100000 in
set_option maxHeartbeats 4000000 in
theorem ct_X8_text {l : Launch} {Γ : ZG} : ∀ (d : Nat) (w : ZW) (T : LT) (t ow lv : Nat) (cs : List Int32) (tx : List Nat), lv ≤ 3 → ND w T d t cs tx ow → (par' lv ow tx).length ≤ 100 → Ct l Γ mX8_text (8 + d) (txC d) (250 * txC d) [.ref t, .int (nI lv)] w (PvS Γ w T w T (par' lv ow tx)) zNo := by
  intro d
  induction d with
  | zero => exact fun w T t ow lv cs tx hlv h _ => tx_leaf (by omega) (by decide) (by decide) hlv h
  | succ d ih' =>
    intro w T t ow lv cs tx hlv h hlen
    have hmc : txC (d + 1) = 14 + 2 * txC d := rfl
    rcases h with h | ⟨kd, x, x1, x2, ca, ta, oa, cb, tb, ob, h0, h1, -, hA, hB, -, rfl, rfl⟩
    · exact tx_leaf (by omega) (by omega) (by omega) hlv h
    have ih : ∀ (w : ZW) (T : LT) (t ow : Nat) (cs : List Int32) (tx : List Nat) (lv : Nat), lv ≤ 3 → ND w T d t cs tx ow → (par' lv ow tx).length ≤ 100 → Ct l Γ mX8_text (8 + d) (txC d) (250 * txC d) [.ref t, .int (nI lv)] w (PvS Γ w T w T (par' lv ow tx)) zNo := fun w T t ow cs tx lv a b c => ih' w T t ow lv cs tx a b c
    rcases (show kd = 2 ∨ kd = 3 ∨ kd = 4 ∨ kd = 5 by omega) with rfl | rfl | rfl | rfl
    · have ho : opt 2 = chs "+" := by decide +kernel
      simp only [ho, show (2 : Nat) < 4 from by decide, if_true] at hlen ⊢
      have hlen' : (par' 1 oa ta ++ (chs "+" ++ par' 2 ob tb)).length ≤ 100 := Nat.le_trans par_len hlen
      refine Ct.of (by decide) rfl (Nat.le_of_ble_eq_true rfl) (go_wf fun hw => ?_)
      have htl := hw _ _ h1
      refine go_aload_n 1 dX8_text_0 rfl ?_
      refine go_get 4 dX8_text_1 fX8_16 (((BW.rf (w := w) (T := T)).2 t htl).1.trans h1) rfl ?_
      refine go_if_ne 30 7 dX8_text_4 (fun h4 => ?_) (fun h4 => ?_)
      · refine go_aload_n 31 dX8_text_30 rfl ?_
        refine go_get 34 dX8_text_31 fX8_16 (((BW.rf (w := w) (T := T)).2 t htl).1.trans h1) rfl ?_
        refine go_iconst 35 dX8_text_34 zc_1 ?_
        refine go_icmp_ne 47 38 dX8_text_35 (fun h35 => ?_) (fun h35 => ?_)
        · refine go_aload_n 48 dX8_text_47 rfl ?_
          refine go_get 51 dX8_text_48 fX8_16 (((BW.rf (w := w) (T := T)).2 t htl).1.trans h1) rfl ?_
          refine go_iconst 52 dX8_text_51 zc_4 ?_
          refine go_icmp_ge 59 55 dX8_text_52 (fun h52 => ?_) (fun h52 => ?_)
          · exact absurd h52 (by decide)
          · refine go_iconst 56 dX8_text_55 zc_1 ?_
            refine go_goto 60 dX8_text_56 ?_
            refine go_istore_n 61 dX8_text_60 (by decide) ?_
            refine gn_new 8 (BW.rf (w := w) (T := T)) 64 dX8_text_61 nX8_34 (by omega) (by omega) (fun w_61 T_61 sb b_61 sb_61 q_61 => ?_)
            refine go_dup 65 dX8_text_64 rfl ?_
            refine gn_sbI sb_61 b_61 68 dX8_text_65 vX8_36 (by omega) (by omega) (by omega) (by exact Nat.le_of_ble_eq_true rfl) (fun w_65 T_65 b_65 sb_65 q_65 => ?_)
            refine go_aload_n 69 dX8_text_68 rfl ?_
            refine go_get 72 dX8_text_69 fX8_27 ((b_65.2 t htl).1.trans h1) rfl ?_
            refine go_iload_n 73 dX8_text_72 rfl ?_
            refine go_wf fun wf_73 => ?_
            have hc_73 := hA.fr ((Kq.old b_65 hw).mono (fun z hz => by omega))
            obtain ⟨fs_73, hf_73⟩ := nd_obj hc_73
            refine go_callV 76 [.int (nI 1)] dX8_text_73 vX8_56 hf_73 rfl (ih _ _ _ _ _ _ 1 (by omega) hc_73 (by simp at hlen' ⊢; omega)) (by omega) (by decide) (by omega) (by omega) (by exact Nat.le_of_ble_eq_true rfl) ?_
            rintro _ w_73 ⟨r1, T_73, rfl, c_73, r1_73', -⟩
            have q_73 := Kq.old (P := fun _ => True) c_73 wf_73
            have b_73 := b_65.tr c_73
            have r1_73 := r1_73'.up (w0 := w) b_65.1
            have sb_73 := sb_65.go q_73 trivial
            refine gn_sbS b_73 sb_73 r1_73.at (by simp at hlen' ⊢; omega) 79 dX8_text_76 vX8_39 (by omega) (by omega) (by omega) (by exact Nat.le_of_ble_eq_true rfl) (fun w_76 T_76 b_76 sb_76 q_76 => ?_)
            have r1_76 := r1_73.go q_76 (by first | trivial | decide)
            refine go_aload_n 80 dX8_text_79 rfl ?_
            refine go_get 83 dX8_text_80 fX8_16 ((b_76.2 t htl).1.trans h1) rfl ?_
            refine go_iconst 84 dX8_text_83 zc_2 ?_
            refine go_icmp_ne 92 87 dX8_text_84 (fun h84 => ?_) (fun h84 => ?_)
            · exact absurd h84 (by decide)
            · refine go_ldcS 89 dX8_text_87 sX8_60 ?_
              refine go_goto 120 dX8_text_89 ?_
              refine gn_sbS b_76 sb_76 (str_c (w0 := w) (T := T) (RX8, 60, "+") sX8_60 (by decide +kernel)).at (by simp [chs] at hlen' ⊢; omega) 123 dX8_text_120 vX8_39 (by omega) (by omega) (by omega) (by exact Nat.le_of_ble_eq_true rfl) (fun w_120 T_120 b_120 sb_120 q_120 => ?_)
              have r1_120 := r1_76.go q_120 (by first | trivial | decide)
              refine go_aload_n 124 dX8_text_123 rfl ?_
              refine go_get 127 dX8_text_124 fX8_31 ((b_120.2 t htl).1.trans h1) rfl ?_
              refine go_iload_n 128 dX8_text_127 rfl ?_
              refine go_iconst 129 dX8_text_128 zc_1 ?_
              refine go_iadd 130 dX8_text_129 ?_
              rw [show (1 : Int32) + 1 = nI 2 from by decide]
              refine go_wf fun wf_130 => ?_
              have hc_130 := hB.fr ((Kq.old b_120 hw).mono (fun z hz => by omega))
              obtain ⟨fs_130, hf_130⟩ := nd_obj hc_130
              refine go_callV 133 [.int (nI 2)] dX8_text_130 vX8_56 hf_130 rfl (ih _ _ _ _ _ _ 2 (by omega) hc_130 (by simp at hlen' ⊢; omega)) (by omega) (by decide) (by omega) (by omega) (by exact Nat.le_of_ble_eq_true rfl) ?_
              rintro _ w_130 ⟨r2, T_130, rfl, c_130, r2_130', -⟩
              have q_130 := Kq.old (P := fun _ => True) c_130 wf_130
              have b_130 := b_120.tr c_130
              have r2_130 := r2_130'.up (w0 := w) b_120.1
              have sb_130 := sb_120.go q_130 trivial
              have r1_130 := r1_120.go q_130 trivial
              refine gn_sbS b_130 sb_130 r2_130.at (by simp [chs] at hlen' ⊢; omega) 136 dX8_text_133 vX8_39 (by omega) (by omega) (by omega) (by exact Nat.le_of_ble_eq_true rfl) (fun w_133 T_133 b_133 sb_133 q_133 => ?_)
              have r1_133 := r1_130.go q_133 (by first | trivial | decide)
              have r2_133 := r2_130.go q_133 (by first | trivial | decide)
              refine gn_sbT b_133 sb_133 139 dX8_text_136 vX8_46 (by omega) (by omega) (by omega) (by exact Nat.le_of_ble_eq_true rfl) (fun w_136 T_136 r3 b_136 r3_136 q_136 => ?_)
              have sb_136 := sb_133.go q_136 (by first | trivial | decide)
              have r1_136 := r1_133.go q_136 (by first | trivial | decide)
              have r2_136 := r2_133.go q_136 (by first | trivial | decide)
              refine go_astore_n 140 dX8_text_139 (by decide) ?_
              exact go_locals _ rfl (tx_par hw (by omega) b_136 (by have := r3_136; simpa using this) hlv (by decide) hlen (by omega) (by omega))
        · exact absurd h35 (by decide)
      · exact absurd h4 (by decide)
    · have ho : opt 3 = chs " - " := by decide +kernel
      simp only [ho, show (3 : Nat) < 4 from by decide, if_true] at hlen ⊢
      have hlen' : (par' 1 oa ta ++ (chs " - " ++ par' 2 ob tb)).length ≤ 100 := Nat.le_trans par_len hlen
      refine Ct.of (by decide) rfl (Nat.le_of_ble_eq_true rfl) (go_wf fun hw => ?_)
      have htl := hw _ _ h1
      refine go_aload_n 1 dX8_text_0 rfl ?_
      refine go_get 4 dX8_text_1 fX8_16 (((BW.rf (w := w) (T := T)).2 t htl).1.trans h1) rfl ?_
      refine go_if_ne 30 7 dX8_text_4 (fun h4 => ?_) (fun h4 => ?_)
      · refine go_aload_n 31 dX8_text_30 rfl ?_
        refine go_get 34 dX8_text_31 fX8_16 (((BW.rf (w := w) (T := T)).2 t htl).1.trans h1) rfl ?_
        refine go_iconst 35 dX8_text_34 zc_1 ?_
        refine go_icmp_ne 47 38 dX8_text_35 (fun h35 => ?_) (fun h35 => ?_)
        · refine go_aload_n 48 dX8_text_47 rfl ?_
          refine go_get 51 dX8_text_48 fX8_16 (((BW.rf (w := w) (T := T)).2 t htl).1.trans h1) rfl ?_
          refine go_iconst 52 dX8_text_51 zc_4 ?_
          refine go_icmp_ge 59 55 dX8_text_52 (fun h52 => ?_) (fun h52 => ?_)
          · exact absurd h52 (by decide)
          · refine go_iconst 56 dX8_text_55 zc_1 ?_
            refine go_goto 60 dX8_text_56 ?_
            refine go_istore_n 61 dX8_text_60 (by decide) ?_
            refine gn_new 8 (BW.rf (w := w) (T := T)) 64 dX8_text_61 nX8_34 (by omega) (by omega) (fun w_61 T_61 sb b_61 sb_61 q_61 => ?_)
            refine go_dup 65 dX8_text_64 rfl ?_
            refine gn_sbI sb_61 b_61 68 dX8_text_65 vX8_36 (by omega) (by omega) (by omega) (by exact Nat.le_of_ble_eq_true rfl) (fun w_65 T_65 b_65 sb_65 q_65 => ?_)
            refine go_aload_n 69 dX8_text_68 rfl ?_
            refine go_get 72 dX8_text_69 fX8_27 ((b_65.2 t htl).1.trans h1) rfl ?_
            refine go_iload_n 73 dX8_text_72 rfl ?_
            refine go_wf fun wf_73 => ?_
            have hc_73 := hA.fr ((Kq.old b_65 hw).mono (fun z hz => by omega))
            obtain ⟨fs_73, hf_73⟩ := nd_obj hc_73
            refine go_callV 76 [.int (nI 1)] dX8_text_73 vX8_56 hf_73 rfl (ih _ _ _ _ _ _ 1 (by omega) hc_73 (by simp at hlen' ⊢; omega)) (by omega) (by decide) (by omega) (by omega) (by exact Nat.le_of_ble_eq_true rfl) ?_
            rintro _ w_73 ⟨r1, T_73, rfl, c_73, r1_73', -⟩
            have q_73 := Kq.old (P := fun _ => True) c_73 wf_73
            have b_73 := b_65.tr c_73
            have r1_73 := r1_73'.up (w0 := w) b_65.1
            have sb_73 := sb_65.go q_73 trivial
            refine gn_sbS b_73 sb_73 r1_73.at (by simp at hlen' ⊢; omega) 79 dX8_text_76 vX8_39 (by omega) (by omega) (by omega) (by exact Nat.le_of_ble_eq_true rfl) (fun w_76 T_76 b_76 sb_76 q_76 => ?_)
            have r1_76 := r1_73.go q_76 (by first | trivial | decide)
            refine go_aload_n 80 dX8_text_79 rfl ?_
            refine go_get 83 dX8_text_80 fX8_16 ((b_76.2 t htl).1.trans h1) rfl ?_
            refine go_iconst 84 dX8_text_83 zc_2 ?_
            refine go_icmp_ne 92 87 dX8_text_84 (fun h84 => ?_) (fun h84 => ?_)
            · refine go_aload_n 93 dX8_text_92 rfl ?_
              refine go_get 96 dX8_text_93 fX8_16 ((b_76.2 t htl).1.trans h1) rfl ?_
              refine go_iconst 97 dX8_text_96 zc_3 ?_
              refine go_icmp_ne 105 100 dX8_text_97 (fun h97 => ?_) (fun h97 => ?_)
              · exact absurd h97 (by decide)
              · refine go_ldcS 102 dX8_text_100 sX8_62 ?_
                refine go_goto 120 dX8_text_102 ?_
                refine gn_sbS b_76 sb_76 (str_c (w0 := w) (T := T) (RX8, 62, " - ") sX8_62 (by decide +kernel)).at (by simp [chs] at hlen' ⊢; omega) 123 dX8_text_120 vX8_39 (by omega) (by omega) (by omega) (by exact Nat.le_of_ble_eq_true rfl) (fun w_120 T_120 b_120 sb_120 q_120 => ?_)
                have r1_120 := r1_76.go q_120 (by first | trivial | decide)
                refine go_aload_n 124 dX8_text_123 rfl ?_
                refine go_get 127 dX8_text_124 fX8_31 ((b_120.2 t htl).1.trans h1) rfl ?_
                refine go_iload_n 128 dX8_text_127 rfl ?_
                refine go_iconst 129 dX8_text_128 zc_1 ?_
                refine go_iadd 130 dX8_text_129 ?_
                rw [show (1 : Int32) + 1 = nI 2 from by decide]
                refine go_wf fun wf_130 => ?_
                have hc_130 := hB.fr ((Kq.old b_120 hw).mono (fun z hz => by omega))
                obtain ⟨fs_130, hf_130⟩ := nd_obj hc_130
                refine go_callV 133 [.int (nI 2)] dX8_text_130 vX8_56 hf_130 rfl (ih _ _ _ _ _ _ 2 (by omega) hc_130 (by simp at hlen' ⊢; omega)) (by omega) (by decide) (by omega) (by omega) (by exact Nat.le_of_ble_eq_true rfl) ?_
                rintro _ w_130 ⟨r2, T_130, rfl, c_130, r2_130', -⟩
                have q_130 := Kq.old (P := fun _ => True) c_130 wf_130
                have b_130 := b_120.tr c_130
                have r2_130 := r2_130'.up (w0 := w) b_120.1
                have sb_130 := sb_120.go q_130 trivial
                have r1_130 := r1_120.go q_130 trivial
                refine gn_sbS b_130 sb_130 r2_130.at (by simp [chs] at hlen' ⊢; omega) 136 dX8_text_133 vX8_39 (by omega) (by omega) (by omega) (by exact Nat.le_of_ble_eq_true rfl) (fun w_133 T_133 b_133 sb_133 q_133 => ?_)
                have r1_133 := r1_130.go q_133 (by first | trivial | decide)
                have r2_133 := r2_130.go q_133 (by first | trivial | decide)
                refine gn_sbT b_133 sb_133 139 dX8_text_136 vX8_46 (by omega) (by omega) (by omega) (by exact Nat.le_of_ble_eq_true rfl) (fun w_136 T_136 r3 b_136 r3_136 q_136 => ?_)
                have sb_136 := sb_133.go q_136 (by first | trivial | decide)
                have r1_136 := r1_133.go q_136 (by first | trivial | decide)
                have r2_136 := r2_133.go q_136 (by first | trivial | decide)
                refine go_astore_n 140 dX8_text_139 (by decide) ?_
                exact go_locals _ rfl (tx_par hw (by omega) b_136 (by have := r3_136; simpa using this) hlv (by decide) hlen (by omega) (by omega))
            · exact absurd h84 (by decide)
        · exact absurd h35 (by decide)
      · exact absurd h4 (by decide)
    · have ho : opt 4 = chs "* " := by decide +kernel
      simp only [ho, show ¬ (4 : Nat) < 4 from by decide, if_false] at hlen ⊢
      have hlen' : (par' 2 oa ta ++ (chs "* " ++ par' 3 ob tb)).length ≤ 100 := Nat.le_trans par_len hlen
      refine Ct.of (by decide) rfl (Nat.le_of_ble_eq_true rfl) (go_wf fun hw => ?_)
      have htl := hw _ _ h1
      refine go_aload_n 1 dX8_text_0 rfl ?_
      refine go_get 4 dX8_text_1 fX8_16 (((BW.rf (w := w) (T := T)).2 t htl).1.trans h1) rfl ?_
      refine go_if_ne 30 7 dX8_text_4 (fun h4 => ?_) (fun h4 => ?_)
      · refine go_aload_n 31 dX8_text_30 rfl ?_
        refine go_get 34 dX8_text_31 fX8_16 (((BW.rf (w := w) (T := T)).2 t htl).1.trans h1) rfl ?_
        refine go_iconst 35 dX8_text_34 zc_1 ?_
        refine go_icmp_ne 47 38 dX8_text_35 (fun h35 => ?_) (fun h35 => ?_)
        · refine go_aload_n 48 dX8_text_47 rfl ?_
          refine go_get 51 dX8_text_48 fX8_16 (((BW.rf (w := w) (T := T)).2 t htl).1.trans h1) rfl ?_
          refine go_iconst 52 dX8_text_51 zc_4 ?_
          refine go_icmp_ge 59 55 dX8_text_52 (fun h52 => ?_) (fun h52 => ?_)
          · refine go_iconst 60 dX8_text_59 zc_2 ?_
            refine go_istore_n 61 dX8_text_60 (by decide) ?_
            refine gn_new 8 (BW.rf (w := w) (T := T)) 64 dX8_text_61 nX8_34 (by omega) (by omega) (fun w_61 T_61 sb b_61 sb_61 q_61 => ?_)
            refine go_dup 65 dX8_text_64 rfl ?_
            refine gn_sbI sb_61 b_61 68 dX8_text_65 vX8_36 (by omega) (by omega) (by omega) (by exact Nat.le_of_ble_eq_true rfl) (fun w_65 T_65 b_65 sb_65 q_65 => ?_)
            refine go_aload_n 69 dX8_text_68 rfl ?_
            refine go_get 72 dX8_text_69 fX8_27 ((b_65.2 t htl).1.trans h1) rfl ?_
            refine go_iload_n 73 dX8_text_72 rfl ?_
            refine go_wf fun wf_73 => ?_
            have hc_73 := hA.fr ((Kq.old b_65 hw).mono (fun z hz => by omega))
            obtain ⟨fs_73, hf_73⟩ := nd_obj hc_73
            refine go_callV 76 [.int (nI 2)] dX8_text_73 vX8_56 hf_73 rfl (ih _ _ _ _ _ _ 2 (by omega) hc_73 (by simp at hlen' ⊢; omega)) (by omega) (by decide) (by omega) (by omega) (by exact Nat.le_of_ble_eq_true rfl) ?_
            rintro _ w_73 ⟨r1, T_73, rfl, c_73, r1_73', -⟩
            have q_73 := Kq.old (P := fun _ => True) c_73 wf_73
            have b_73 := b_65.tr c_73
            have r1_73 := r1_73'.up (w0 := w) b_65.1
            have sb_73 := sb_65.go q_73 trivial
            refine gn_sbS b_73 sb_73 r1_73.at (by simp at hlen' ⊢; omega) 79 dX8_text_76 vX8_39 (by omega) (by omega) (by omega) (by exact Nat.le_of_ble_eq_true rfl) (fun w_76 T_76 b_76 sb_76 q_76 => ?_)
            have r1_76 := r1_73.go q_76 (by first | trivial | decide)
            refine go_aload_n 80 dX8_text_79 rfl ?_
            refine go_get 83 dX8_text_80 fX8_16 ((b_76.2 t htl).1.trans h1) rfl ?_
            refine go_iconst 84 dX8_text_83 zc_2 ?_
            refine go_icmp_ne 92 87 dX8_text_84 (fun h84 => ?_) (fun h84 => ?_)
            · refine go_aload_n 93 dX8_text_92 rfl ?_
              refine go_get 96 dX8_text_93 fX8_16 ((b_76.2 t htl).1.trans h1) rfl ?_
              refine go_iconst 97 dX8_text_96 zc_3 ?_
              refine go_icmp_ne 105 100 dX8_text_97 (fun h97 => ?_) (fun h97 => ?_)
              · refine go_aload_n 106 dX8_text_105 rfl ?_
                refine go_get 109 dX8_text_106 fX8_16 ((b_76.2 t htl).1.trans h1) rfl ?_
                refine go_iconst 110 dX8_text_109 zc_4 ?_
                refine go_icmp_ne 118 113 dX8_text_110 (fun h110 => ?_) (fun h110 => ?_)
                · exact absurd h110 (by decide)
                · refine go_ldcS 115 dX8_text_113 sX8_64 ?_
                  refine go_goto 120 dX8_text_115 ?_
                  refine gn_sbS b_76 sb_76 (str_c (w0 := w) (T := T) (RX8, 64, "* ") sX8_64 (by decide +kernel)).at (by simp [chs] at hlen' ⊢; omega) 123 dX8_text_120 vX8_39 (by omega) (by omega) (by omega) (by exact Nat.le_of_ble_eq_true rfl) (fun w_120 T_120 b_120 sb_120 q_120 => ?_)
                  have r1_120 := r1_76.go q_120 (by first | trivial | decide)
                  refine go_aload_n 124 dX8_text_123 rfl ?_
                  refine go_get 127 dX8_text_124 fX8_31 ((b_120.2 t htl).1.trans h1) rfl ?_
                  refine go_iload_n 128 dX8_text_127 rfl ?_
                  refine go_iconst 129 dX8_text_128 zc_1 ?_
                  refine go_iadd 130 dX8_text_129 ?_
                  rw [show (2 : Int32) + 1 = nI 3 from by decide]
                  refine go_wf fun wf_130 => ?_
                  have hc_130 := hB.fr ((Kq.old b_120 hw).mono (fun z hz => by omega))
                  obtain ⟨fs_130, hf_130⟩ := nd_obj hc_130
                  refine go_callV 133 [.int (nI 3)] dX8_text_130 vX8_56 hf_130 rfl (ih _ _ _ _ _ _ 3 (by omega) hc_130 (by simp at hlen' ⊢; omega)) (by omega) (by decide) (by omega) (by omega) (by exact Nat.le_of_ble_eq_true rfl) ?_
                  rintro _ w_130 ⟨r2, T_130, rfl, c_130, r2_130', -⟩
                  have q_130 := Kq.old (P := fun _ => True) c_130 wf_130
                  have b_130 := b_120.tr c_130
                  have r2_130 := r2_130'.up (w0 := w) b_120.1
                  have sb_130 := sb_120.go q_130 trivial
                  have r1_130 := r1_120.go q_130 trivial
                  refine gn_sbS b_130 sb_130 r2_130.at (by simp [chs] at hlen' ⊢; omega) 136 dX8_text_133 vX8_39 (by omega) (by omega) (by omega) (by exact Nat.le_of_ble_eq_true rfl) (fun w_133 T_133 b_133 sb_133 q_133 => ?_)
                  have r1_133 := r1_130.go q_133 (by first | trivial | decide)
                  have r2_133 := r2_130.go q_133 (by first | trivial | decide)
                  refine gn_sbT b_133 sb_133 139 dX8_text_136 vX8_46 (by omega) (by omega) (by omega) (by exact Nat.le_of_ble_eq_true rfl) (fun w_136 T_136 r3 b_136 r3_136 q_136 => ?_)
                  have sb_136 := sb_133.go q_136 (by first | trivial | decide)
                  have r1_136 := r1_133.go q_136 (by first | trivial | decide)
                  have r2_136 := r2_133.go q_136 (by first | trivial | decide)
                  refine go_astore_n 140 dX8_text_139 (by decide) ?_
                  exact go_locals _ rfl (tx_par hw (by omega) b_136 (by have := r3_136; simpa using this) hlv (by decide) hlen (by omega) (by omega))
              · exact absurd h97 (by decide)
            · exact absurd h84 (by decide)
          · exact absurd h52 (by decide)
        · exact absurd h35 (by decide)
      · exact absurd h4 (by decide)
    · have ho : opt 5 = chs "/" := by decide +kernel
      simp only [ho, show ¬ (5 : Nat) < 4 from by decide, if_false] at hlen ⊢
      have hlen' : (par' 2 oa ta ++ (chs "/" ++ par' 3 ob tb)).length ≤ 100 := Nat.le_trans par_len hlen
      refine Ct.of (by decide) rfl (Nat.le_of_ble_eq_true rfl) (go_wf fun hw => ?_)
      have htl := hw _ _ h1
      refine go_aload_n 1 dX8_text_0 rfl ?_
      refine go_get 4 dX8_text_1 fX8_16 (((BW.rf (w := w) (T := T)).2 t htl).1.trans h1) rfl ?_
      refine go_if_ne 30 7 dX8_text_4 (fun h4 => ?_) (fun h4 => ?_)
      · refine go_aload_n 31 dX8_text_30 rfl ?_
        refine go_get 34 dX8_text_31 fX8_16 (((BW.rf (w := w) (T := T)).2 t htl).1.trans h1) rfl ?_
        refine go_iconst 35 dX8_text_34 zc_1 ?_
        refine go_icmp_ne 47 38 dX8_text_35 (fun h35 => ?_) (fun h35 => ?_)
        · refine go_aload_n 48 dX8_text_47 rfl ?_
          refine go_get 51 dX8_text_48 fX8_16 (((BW.rf (w := w) (T := T)).2 t htl).1.trans h1) rfl ?_
          refine go_iconst 52 dX8_text_51 zc_4 ?_
          refine go_icmp_ge 59 55 dX8_text_52 (fun h52 => ?_) (fun h52 => ?_)
          · refine go_iconst 60 dX8_text_59 zc_2 ?_
            refine go_istore_n 61 dX8_text_60 (by decide) ?_
            refine gn_new 8 (BW.rf (w := w) (T := T)) 64 dX8_text_61 nX8_34 (by omega) (by omega) (fun w_61 T_61 sb b_61 sb_61 q_61 => ?_)
            refine go_dup 65 dX8_text_64 rfl ?_
            refine gn_sbI sb_61 b_61 68 dX8_text_65 vX8_36 (by omega) (by omega) (by omega) (by exact Nat.le_of_ble_eq_true rfl) (fun w_65 T_65 b_65 sb_65 q_65 => ?_)
            refine go_aload_n 69 dX8_text_68 rfl ?_
            refine go_get 72 dX8_text_69 fX8_27 ((b_65.2 t htl).1.trans h1) rfl ?_
            refine go_iload_n 73 dX8_text_72 rfl ?_
            refine go_wf fun wf_73 => ?_
            have hc_73 := hA.fr ((Kq.old b_65 hw).mono (fun z hz => by omega))
            obtain ⟨fs_73, hf_73⟩ := nd_obj hc_73
            refine go_callV 76 [.int (nI 2)] dX8_text_73 vX8_56 hf_73 rfl (ih _ _ _ _ _ _ 2 (by omega) hc_73 (by simp at hlen' ⊢; omega)) (by omega) (by decide) (by omega) (by omega) (by exact Nat.le_of_ble_eq_true rfl) ?_
            rintro _ w_73 ⟨r1, T_73, rfl, c_73, r1_73', -⟩
            have q_73 := Kq.old (P := fun _ => True) c_73 wf_73
            have b_73 := b_65.tr c_73
            have r1_73 := r1_73'.up (w0 := w) b_65.1
            have sb_73 := sb_65.go q_73 trivial
            refine gn_sbS b_73 sb_73 r1_73.at (by simp at hlen' ⊢; omega) 79 dX8_text_76 vX8_39 (by omega) (by omega) (by omega) (by exact Nat.le_of_ble_eq_true rfl) (fun w_76 T_76 b_76 sb_76 q_76 => ?_)
            have r1_76 := r1_73.go q_76 (by first | trivial | decide)
            refine go_aload_n 80 dX8_text_79 rfl ?_
            refine go_get 83 dX8_text_80 fX8_16 ((b_76.2 t htl).1.trans h1) rfl ?_
            refine go_iconst 84 dX8_text_83 zc_2 ?_
            refine go_icmp_ne 92 87 dX8_text_84 (fun h84 => ?_) (fun h84 => ?_)
            · refine go_aload_n 93 dX8_text_92 rfl ?_
              refine go_get 96 dX8_text_93 fX8_16 ((b_76.2 t htl).1.trans h1) rfl ?_
              refine go_iconst 97 dX8_text_96 zc_3 ?_
              refine go_icmp_ne 105 100 dX8_text_97 (fun h97 => ?_) (fun h97 => ?_)
              · refine go_aload_n 106 dX8_text_105 rfl ?_
                refine go_get 109 dX8_text_106 fX8_16 ((b_76.2 t htl).1.trans h1) rfl ?_
                refine go_iconst 110 dX8_text_109 zc_4 ?_
                refine go_icmp_ne 118 113 dX8_text_110 (fun h110 => ?_) (fun h110 => ?_)
                · refine go_ldcS 120 dX8_text_118 sX8_66 ?_
                  refine gn_sbS b_76 sb_76 (str_c (w0 := w) (T := T) (RX8, 66, "/") sX8_66 (by decide +kernel)).at (by simp [chs] at hlen' ⊢; omega) 123 dX8_text_120 vX8_39 (by omega) (by omega) (by omega) (by exact Nat.le_of_ble_eq_true rfl) (fun w_120 T_120 b_120 sb_120 q_120 => ?_)
                  have r1_120 := r1_76.go q_120 (by first | trivial | decide)
                  refine go_aload_n 124 dX8_text_123 rfl ?_
                  refine go_get 127 dX8_text_124 fX8_31 ((b_120.2 t htl).1.trans h1) rfl ?_
                  refine go_iload_n 128 dX8_text_127 rfl ?_
                  refine go_iconst 129 dX8_text_128 zc_1 ?_
                  refine go_iadd 130 dX8_text_129 ?_
                  rw [show (2 : Int32) + 1 = nI 3 from by decide]
                  refine go_wf fun wf_130 => ?_
                  have hc_130 := hB.fr ((Kq.old b_120 hw).mono (fun z hz => by omega))
                  obtain ⟨fs_130, hf_130⟩ := nd_obj hc_130
                  refine go_callV 133 [.int (nI 3)] dX8_text_130 vX8_56 hf_130 rfl (ih _ _ _ _ _ _ 3 (by omega) hc_130 (by simp at hlen' ⊢; omega)) (by omega) (by decide) (by omega) (by omega) (by exact Nat.le_of_ble_eq_true rfl) ?_
                  rintro _ w_130 ⟨r2, T_130, rfl, c_130, r2_130', -⟩
                  have q_130 := Kq.old (P := fun _ => True) c_130 wf_130
                  have b_130 := b_120.tr c_130
                  have r2_130 := r2_130'.up (w0 := w) b_120.1
                  have sb_130 := sb_120.go q_130 trivial
                  have r1_130 := r1_120.go q_130 trivial
                  refine gn_sbS b_130 sb_130 r2_130.at (by simp [chs] at hlen' ⊢; omega) 136 dX8_text_133 vX8_39 (by omega) (by omega) (by omega) (by exact Nat.le_of_ble_eq_true rfl) (fun w_133 T_133 b_133 sb_133 q_133 => ?_)
                  have r1_133 := r1_130.go q_133 (by first | trivial | decide)
                  have r2_133 := r2_130.go q_133 (by first | trivial | decide)
                  refine gn_sbT b_133 sb_133 139 dX8_text_136 vX8_46 (by omega) (by omega) (by omega) (by exact Nat.le_of_ble_eq_true rfl) (fun w_136 T_136 r3 b_136 r3_136 q_136 => ?_)
                  have sb_136 := sb_133.go q_136 (by first | trivial | decide)
                  have r1_136 := r1_133.go q_136 (by first | trivial | decide)
                  have r2_136 := r2_133.go q_136 (by first | trivial | decide)
                  refine go_astore_n 140 dX8_text_139 (by decide) ?_
                  exact go_locals _ rfl (tx_par hw (by omega) b_136 (by have := r3_136; simpa using this) hlv (by decide) hlen (by omega) (by omega))
                · exact absurd h110 (by decide)
              · exact absurd h97 (by decide)
            · exact absurd h84 (by decide)
          · exact absurd h52 (by decide)
        · exact absurd h35 (by decide)
      · exact absurd h4 (by decide)

end LTxt
