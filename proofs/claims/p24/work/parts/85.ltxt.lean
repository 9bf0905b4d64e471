section LTxt

theorem nJ4_18 : zNew RJ4 18 11 4 [.null, .int 0, .int 0, .int 0] := ⟨_, _, tyJ0, rfl, uJ0_ok, tyJ0_ok, zGood.mem 1308 (by decide +kernel) rfl, zGood.mem 1309 (by decide +kernel) rfl, zGood.mem 58 (by decide +kernel) rfl, fun j hj => match j, hj with | 0, _ => rfl | 1, _ => rfl | 2, _ => rfl | 3, _ => rfl | j + 4, h => absurd h (by omega)⟩

theorem nX8_34 : zNew RX8 34 12 4 [.null, .int 0, .int 0, .int 0] := ⟨_, _, tyJ4, rfl, uJ4_ok, tyJ4_ok, zGood.mem 1155 (by decide +kernel) rfl, zGood.mem 1156 (by decide +kernel) rfl, zGood.mem 64 (by decide +kernel) rfl, fun j hj => match j, hj with | 0, _ => rfl | 1, _ => rfl | 2, _ => rfl | 3, _ => rfl | j + 4, h => absurd h (by omega)⟩

set_option maxRecDepth 100000 in
set_option maxHeartbeats 4000000 in
theorem ct_J0_initB {l : Launch} {Γ : ZG} {w : ZW} {r b a m n : Nat} {ml : Int32} {f : Nat → Int32} (hr : w.2 r = some (.inr (11, [.null, .int 0, .int 0, .int 0]))) (hb : w.2 b = some (.inr (12, [.ref a, .int 0, .int ml, .int (nI n)]))) (ha : w.2 a = some (b5 Γ m f)) (hf : sb_Fit f) (hm : m ≤ 200) (hn : n ≤ m) : Ct l Γ mJ0_init_db425 4 1 200 [.ref r, .ref b, .null] w (fun v w2 => v = none ∧ w2.1 = w.1 + 1 ∧ (∀ x, x < w.1 → x ≠ r → w2.2 x = w.2 x) ∧ w2.2 r = some (.inr (11, [.ref w.1, .int 0, .int 0, .int 0])) ∧ ∃ f2, w2.2 w.1 = some (b5 Γ n f2) ∧ ∀ j, j < n → f2 j = f j) zNo := by
  refine Ct.of (by decide) rfl (Nat.le_of_ble_eq_true rfl) (go_wf fun hw => ?_)
  have hrl := hw _ _ hr
  refine go_aload_n 1 dJ0_init_db425_0 rfl ?_
  refine go_objInit 4 dJ0_init_db425_1 oJ0_1 oInst oCode (by decide) (by exact Nat.le_of_ble_eq_true rfl) ?_
  refine go_aload_n 5 dJ0_init_db425_4 rfl ?_
  refine go_callH 8 [] dJ0_init_db425_5 hvJ0_552 hb (ct_J5_getValue hb) (by decide) (by decide) (by omega) (by omega) (by exact Nat.le_of_ble_eq_true rfl) ?_
  rintro _ w9 ⟨rfl, hw9⟩
  obtain rfl := hw9.symm
  refine go_astore_n 9 dJ0_init_db425_8 (by decide) ?_
  refine go_aload_n 10 dJ0_init_db425_9 rfl ?_
  refine go_callL 13 rfl dJ0_init_db425_10 hb (by decide) (by omega) (by omega) (by exact Nat.le_of_ble_eq_true rfl) ?_
  refine go_istore 15 dJ0_init_db425_13 (by decide) ?_
  refine go_aload_n 16 dJ0_init_db425_15 rfl ?_
  refine go_callH 19 [] dJ0_init_db425_16 hvJ0_1047 hb (ct_J5_isLatin1 hb) (by decide) (by decide) (by omega) (by omega) (by exact Nat.le_of_ble_eq_true rfl) ?_
  rintro _ w9 ⟨rfl, hw9⟩
  obtain rfl := hw9.symm
  refine go_if_eq 41 22 dJ0_init_db425_19 (fun h19 => ?_) (fun h19 => ?_)
  · exact absurd h19 (by decide)
  · refine go_aload_n 23 dJ0_init_db425_22 rfl ?_
    refine go_iconst 24 dJ0_init_db425_23 zc_0 ?_
    refine go_putF 27 dJ0_init_db425_24 qJ0_15 rfl hr (by exact (show 1 < 4 by decide)) rfl rfl ?_
    have ha2 : (wset w r (.inr (11, [.null, .int 0, .int 0, .int 0]))).2 a = some (b5 Γ m f) := (if_neg (fun z => by rw [z, hr] at ha; cases ha)).trans ha
    refine go_aload_n 28 dJ0_init_db425_27 rfl ?_
    refine go_aload_n 29 dJ0_init_db425_28 rfl ?_
    refine go_iconst 30 dJ0_init_db425_29 zc_0 ?_
    refine go_iload 32 dJ0_init_db425_30 rfl ?_
    refine go_callS 35 [.ref a, .int 0, .int (nI n)] dJ0_init_db425_32 vJ0_54 rfl (ct_J7_range ha2 hf hm hn) (by decide) (by decide) (by omega) (by omega) (by exact Nat.le_of_ble_eq_true rfl) ?_
    rintro _ w2 ⟨rfl, y1, y2, f2, y3, y4⟩
    have hr2 : w2.2 r = some (.inr (11, [.null, .int 0, .int 0, .int 0])) := (y2 r hrl).trans wset_at
    refine go_putF 38 dJ0_init_db425_35 qJ0_9 rfl hr2 (by exact (show 0 < 4 by decide)) rfl rfl ?_
    refine go_goto 97 dJ0_init_db425_38 ?_
    exact go_return dJ0_init_db425_97 rfl (by omega) (by omega) (⟨rfl, y1, fun x h1 h2 => (if_neg h2).trans ((y2 x h1).trans (if_neg h2)), wset_at, f2, (if_neg (show ¬ w.1 = r by omega)).trans y3, y4⟩)

set_option maxRecDepth 100000 in
set_option maxHeartbeats 4000000 in
theorem ct_J0_initA {l : Launch} {Γ : ZG} {w : ZW} {r b a m n : Nat} {ml : Int32} {f : Nat → Int32} (hr : w.2 r = some (.inr (11, [.null, .int 0, .int 0, .int 0]))) (hb : w.2 b = some (.inr (12, [.ref a, .int 0, .int ml, .int (nI n)]))) (ha : w.2 a = some (b5 Γ m f)) (hf : sb_Fit f) (hm : m ≤ 200) (hn : n ≤ m) : Ct l Γ mJ0_init_81219 5 1 200 [.ref r, .ref b] w (fun v w2 => v = none ∧ w2.1 = w.1 + 1 ∧ (∀ x, x < w.1 → x ≠ r → w2.2 x = w.2 x) ∧ w2.2 r = some (.inr (11, [.ref w.1, .int 0, .int 0, .int 0])) ∧ ∃ f2, w2.2 w.1 = some (b5 Γ n f2) ∧ ∀ j, j < n → f2 j = f j) zNo := by
  refine Ct.of (by decide) rfl (Nat.le_of_ble_eq_true rfl) ?_
  refine go_aload_n 1 dJ0_init_81219_0 rfl ?_
  refine go_aload_n 2 dJ0_init_81219_1 rfl ?_
  refine go_null 3 dJ0_init_81219_2 ?_
  refine go_callI 6 [.ref b, .null] dJ0_init_81219_3 vJ0_489 (ct_J0_initB hr hb ha hf hm hn) (by decide) (by decide) (by omega) (by omega) (by exact Nat.le_of_ble_eq_true rfl) ?_
  rintro _ w2 ⟨rfl, hq⟩
  exact go_return dJ0_init_81219_6 rfl (by omega) (by omega) ⟨rfl, hq⟩

/-- a string, constant or made since w0 -/
def StrT (Γ : ZG) (w0 w : ZW) (T : LT) (r : Nat) (tx : List Nat) : Prop := Asc tx ∧ ((∃ q ∈ zStr, r = Γ.2.2.2.1 q.1 q.2.1 ∧ tx = chs q.2.2) ∨ ∃ a f h z, Nc w0 w T r (.inr (11, [.ref a, .int 0, .int h, .int z])) 0 ∧ Nc w0 w T a (b5 Γ tx.length f) 0 ∧ BOf f tx)
theorem StrT.at {Γ : ZG} {w0 w : ZW} {T : LT} {r : Nat} {tx : List Nat} (h : StrT Γ w0 w T r tx) : StrAt Γ w r tx := by
  obtain ⟨h0, h | ⟨a, f, hh, z, g1, g2, g3⟩⟩ := h
  · exact ⟨h0, Or.inl h⟩
  · exact ⟨h0, Or.inr ⟨a, f, hh, z, g1.1, g2.1, g3⟩⟩
theorem StrT.go {Γ : ZG} {w0 w w1 : ZW} {T T1 : LT} {r : Nat} {tx : List Nat} {P : Nat → Prop} (h : StrT Γ w0 w T r tx) (k : Kq w T w1 T1 P) (h0 : P 0) : StrT Γ w0 w1 T1 r tx := by
  obtain ⟨hz, h | ⟨a, f, hh, z, g1, g2, g3⟩⟩ := h
  · exact ⟨hz, Or.inl h⟩
  · exact ⟨hz, Or.inr ⟨a, f, hh, z, g1.go k h0, g2.go k h0, g3⟩⟩
theorem SBn.go {Γ : ZG} {w0 w w1 : ZW} {T T1 : LT} {b : Nat} {tx : List Nat} {P : Nat → Prop} (h : SBn Γ w0 w T b tx) (k : Kq w T w1 T1 P) (h0 : P 8) : SBn Γ w0 w1 T1 b tx := by
  obtain ⟨hz, a, m, f, ml, g1, g2, g3⟩ := h
  exact ⟨hz, a, m, f, ml, g1.go k h0, g2.go k h0, g3⟩
def PvS (Γ : ZG) (w0 : ZW) (T0 : LT) (w : ZW) (T : LT) (tx : List Nat) : Option Value → ZW → Prop := fun v w2 => ∃ r T2, v = some (.ref r) ∧ BW w0 T0 w2 T2 ∧ StrT Γ w0 w2 T2 r tx ∧ Kq w T w2 T2 (fun z => z ≠ 7)

set_option maxRecDepth 100000 in
set_option maxHeartbeats 4000000 in
theorem ct_J4_toString {l : Launch} {Γ : ZG} {w : ZW} {w0 : ZW} {T0 T : LT} {b : Nat} {tx : List Nat} (bw : BW w0 T0 w T) (hs : SBn Γ w0 w T b tx) : Ct l Γ mJ4_toString_0e30d 6 2 204 [.ref b] w (PvS Γ w0 T0 w T tx) zNo := by
  obtain ⟨hs0, a, m, f, ml, hb, ha, hm1, hm, hf, hbo⟩ := hs
  refine Ct.of (by decide) rfl (Nat.le_of_ble_eq_true rfl) (go_wf fun hw => ?_)
  refine gn_new 7 bw 3 dJ4_toString_0e30d_0 nJ4_18 (by omega) (by omega) (fun w1 T1 r b1 r1 q1 => ?_)
  have hb1 := hb.go q1 trivial
  have ha1 := ha.go q1 trivial
  refine go_dup 4 dJ4_toString_0e30d_3 rfl ?_
  refine go_aload_n 5 dJ4_toString_0e30d_4 rfl (go_wf fun hw1 => ?_)
  refine go_callI 8 [.ref b] dJ4_toString_0e30d_5 vJ4_137 (ct_J0_initA r1.1 hb1.1 ha1.1 hf hm hm1) (by decide) (by decide) (by omega) (by omega) (by exact Nat.le_of_ble_eq_true rfl) ?_
  rintro _ w2 ⟨rfl, y1, y2, y3, f2, y4, y5⟩
  have hrl := hw1 _ _ r1.1
  have hl1 := b1.1
  refine go_aref dJ4_toString_0e30d_8 rfl (by omega) (by omega) ⟨r, tset (tset T1 w1.1 0) r 0, rfl, ⟨by omega, fun q hq => ?_⟩, ⟨hs0, Or.inr ⟨w1.1, f2, 0, 0, ⟨y3, if_pos rfl, r1.2.2⟩, ⟨y4, (if_neg (by omega)).trans (if_pos rfl), hl1⟩, fun j hj => (y5 j hj).trans (hbo j hj)⟩⟩, fun q c h1 h2 => ?_⟩
  · have := r1.2.2
    exact ⟨(y2 q (by omega) (by omega)).trans (b1.2 q hq).1, (if_neg (by omega)).trans ((if_neg (by omega)).trans (b1.2 q hq).2)⟩
  · obtain ⟨k1, k2⟩ := q1 q c h1 trivial
    have hq1 := hw1 q c k1
    have hq : q < w.1 := hw q c h1
    have hrw : q ≠ r := fun z => h2 (by rw [← k2, z]; exact r1.2.1)
    exact ⟨(y2 q hq1 hrw).trans k1, (if_neg hrw).trans ((if_neg (by omega)).trans k2)⟩

section
variable {l : Launch} {Γ : ZG} {M : ZM} {dp mc ms : Nat} {Φ : Option Value → ZW → Prop} {Ψ : String → ZW → Prop} {k n : Nat} {w0 w : ZW} {pc : Nat} {L : ZL} {st : List Value}
variable {T0 T : LT} {b r : Nat} {tx ty : List Nat}
theorem go_getVar (pc' : Nat) (hM : M.1.cls = RX8) (hd : decode M.2.1 pc = .ok (.getstatic 50, 3)) (kk : Go l Γ M dp mc ms Φ Ψ k n w pc' L (.ref (Γ.2.2.2.1 "VARIABLES" 0) :: st)) (hp : pc + 3 = pc' := by rfl) : Go l Γ M dp mc ms Φ Ψ k n w pc L st := by
  subst hp
  have hN : Cond.fieldLinkNest M.1.cls 50 "CallForksLaw" "VARIABLES" "[Ljava/lang/String;" "CallForksLaw" ∈ zNest := by rw [hM]; exact zNest.mem 1326 (by decide +kernel) rfl
  exact fun p e s m args below meth c C H locs ls hl hH hS => va_getsN C.1 C.2.1 C.stat.2.2.2.1.2.2.2.2.2.1 hS C.own (va_Nw.use rfl (C.stat.2.1 _ hN)) (fun _ h => h) hd (kk p e s m args below meth c C H locs ls hl hH hS)
theorem go_aaldV {i : Nat} (pc' : Nat) (hd : decode M.2.1 pc = .ok (.aaload, 1)) (hi : i < 4) (kk : Go l Γ M dp mc ms Φ Ψ k n w pc' L (.ref (Γ.2.2.2.1 "CallForksLaw" (zvIx i)) :: st)) (hp : pc + 1 = pc' := by rfl) : Go l Γ M dp mc ms Φ Ψ k n w pc L (.int (nI i) :: .ref (Γ.2.2.2.1 "VARIABLES" 0) :: st) := by
  subst hp
  exact fun p e s m args below meth c C H locs ls hl hH hS => vb_tq C.1 C.2.1 C.stat.2.2.2.1.2.2.2.2.2.2.1 hS (vp_in_nI hi (by decide)) (by rw [nI_clamp (by omega)]) hd (kk p e s m args below meth c C H locs ls hl hH hS)
/-- a new builder's constructor -/
theorem gn_sbI {index : Nat} (h : Nc w0 w T b (.inr (12, [.null, .int 0, .int 0, .int 0])) 8) (bw : BW w0 T0 w T) (pc' : Nat) (hd : decode M.2.1 pc = .ok (.invokespecial index, 3)) (V : zVi M.1.cls index mJ4_init_da8c8 0) (hdp : 3 ≤ dp) (h1 : k + 1 ≤ mc) (h2 : n + 16 ≤ ms) (hst : (st.map fun v => v.category).sum ≤ 8) (kk : ∀ w' T', BW w0 T0 w' T' → SBn Γ w0 w' T' b [] → Kq w T w' T' (fun z => z ≠ 8) → Go l Γ M dp mc ms Φ Ψ (k + 1) (n + 16) w' pc' L st) (hp : pc + 3 = pc' := by rfl) : Go l Γ M dp mc ms Φ Ψ k n w pc L (.ref b :: st) := by
  refine go_wf fun hw => go_callI (As := []) pc' hd V (ct_J4_initB h.1) hdp (by decide) h1 h2 hst ?_ hp
  rintro v w2 ⟨rfl, hb, rfl⟩
  have hT : tset T w.1 8 b = 8 := (if_neg (by omega)).trans h.2.1
  exact kk _ (tset T w.1 8) (bw.new.put h.2.2) ⟨(fun _ hc => absurd hc (List.not_mem_nil)), w.1, 16, fun _ => 0, 0, ⟨if_pos rfl, hT, h.2.2⟩, ⟨(if_neg (by omega)).trans (if_pos rfl), if_pos rfl, bw.1⟩, Nat.zero_le _, by decide, sb_fit0, fun _ hj => absurd hj (Nat.not_lt_zero _)⟩ ((Kq.new hw).trans (Kq.set hT))
theorem gn_sbS {index : Nat} (bw : BW w0 T0 w T) (hs : SBn Γ w0 w T b tx) (hr : StrAt Γ w r ty) (hlen : tx.length + ty.length ≤ 100) (pc' : Nat) (hd : decode M.2.1 pc = .ok (.invokevirtual index, 3)) (V : zV M.1.cls index mJ4_append_15ec4 1) (hdp : 7 ≤ dp) (h1 : k + 1 ≤ mc) (h2 : n + 200 ≤ ms) (hst : (st.map fun v => v.category).sum ≤ 8) (kk : ∀ w' T', BW w0 T0 w' T' → SBn Γ w0 w' T' b (tx ++ ty) → Kq w T w' T' (fun z => z ≠ 8) → Go l Γ M dp mc ms Φ Ψ (k + 1) (n + 200) w' pc' L (.ref b :: st)) (hp : pc + 3 = pc' := by rfl) : Go l Γ M dp mc ms Φ Ψ k n w pc L (.ref r :: .ref b :: st) := by
  refine go_callV pc' [.ref r] hd V hs.2.choose_spec.choose_spec.choose_spec.choose_spec.1.1 rfl (ct_J4_appendS bw hs hr hlen) hdp (by decide) h1 h2 hst ?_ hp
  rintro v w2 ⟨rfl, T2, h3, h4, h5⟩
  exact kk w2 T2 h3 h4 h5
theorem gn_sbN {index x : Nat} (bw : BW w0 T0 w T) (hs : SBn Γ w0 w T b tx) (hx : x ≤ 9999) (hlen : tx.length + (dec x).length ≤ 100) (pc' : Nat) (hd : decode M.2.1 pc = .ok (.invokevirtual index, 3)) (V : zV M.1.cls index mJ4_append_bf812 1) (hdp : 7 ≤ dp) (h1 : k + 1 ≤ mc) (h2 : n + 200 ≤ ms) (hst : (st.map fun v => v.category).sum ≤ 8) (kk : ∀ w' T', BW w0 T0 w' T' → SBn Γ w0 w' T' b (tx ++ dec x) → Kq w T w' T' (fun z => z ≠ 8) → Go l Γ M dp mc ms Φ Ψ (k + 1) (n + 200) w' pc' L (.ref b :: st)) (hp : pc + 3 = pc' := by rfl) : Go l Γ M dp mc ms Φ Ψ k n w pc L (.int (nI x) :: .ref b :: st) := by
  refine go_callV pc' [.int (nI x)] hd V hs.2.choose_spec.choose_spec.choose_spec.choose_spec.1.1 rfl (ct_J4_appendI bw hs hx hlen) hdp (by decide) h1 h2 hst ?_ hp
  rintro v w2 ⟨rfl, T2, h3, h4, h5⟩
  exact kk w2 T2 h3 h4 h5
theorem gn_sbT {index : Nat} (bw : BW w0 T0 w T) (hs : SBn Γ w0 w T b tx) (pc' : Nat) (hd : decode M.2.1 pc = .ok (.invokevirtual index, 3)) (V : zV M.1.cls index mJ4_toString_0e30d 0) (hdp : 7 ≤ dp) (h1 : k + 2 ≤ mc) (h2 : n + 204 ≤ ms) (hst : (st.map fun v => v.category).sum ≤ 8) (kk : ∀ w' T' r, BW w0 T0 w' T' → StrT Γ w0 w' T' r tx → Kq w T w' T' (fun z => z ≠ 7) → Go l Γ M dp mc ms Φ Ψ (k + 2) (n + 204) w' pc' L (.ref r :: st)) (hp : pc + 3 = pc' := by rfl) : Go l Γ M dp mc ms Φ Ψ k n w pc L (.ref b :: st) := by
  refine go_callV (As := []) pc' hd V hs.2.choose_spec.choose_spec.choose_spec.choose_spec.1.1 rfl (ct_J4_toString bw hs) hdp (by decide) h1 h2 hst ?_ hp
  rintro v w2 ⟨r, T2, rfl, h3, h4, h5⟩
  exact kk w2 T2 r h3 h4 h5
theorem BW.tr {w1 : ZW} {T1 : LT} (b1 : BW w0 T0 w T) (b2 : BW w T w1 T1) : BW w0 T0 w1 T1 := ⟨Nat.le_trans b1.1 b2.1, fun q hq => by
  have hq' := Nat.lt_of_lt_of_le hq b1.1
  exact ⟨(b2.2 q hq').1.trans (b1.2 q hq).1, (b2.2 q hq').2.trans (b1.2 q hq).2⟩⟩
theorem StrT.up {w1 : ZW} {T1 : LT} (h : StrT Γ w w1 T1 r tx) (hw : w0.1 ≤ w.1) : StrT Γ w0 w1 T1 r tx := by
  obtain ⟨hz, h | ⟨a, f, hh, z, g1, g2, g3⟩⟩ := h
  · exact ⟨hz, Or.inl h⟩
  · exact ⟨hz, Or.inr ⟨a, f, hh, z, ⟨g1.1, g1.2.1, Nat.le_trans hw g1.2.2⟩, ⟨g2.1, g2.2.1, Nat.le_trans hw g2.2.2⟩, g3⟩⟩
end
theorem str_c {Γ : ZG} {w0 w : ZW} {T : LT} (q : String × Nat × String) (h : q ∈ zStr) (ha : (chs q.2.2).all (· < 128) = true) : StrT Γ w0 w T (Γ.2.2.2.1 q.1 q.2.1) (chs q.2.2) := ⟨fun c hc => of_decide_eq_true (List.all_eq_true.mp ha c hc), Or.inl ⟨q, h, rfl, rfl⟩⟩
theorem str_v {Γ : ZG} {w0 w : ZW} {T : LT} {x : Nat} (hx : x < 4) : StrT Γ w0 w T (Γ.2.2.2.1 "CallForksLaw" (zvIx x)) (vrs x) := by
  rcases (show x = 0 ∨ x = 1 ∨ x = 2 ∨ x = 3 by omega) with rfl | rfl | rfl | rfl
  · exact str_c ("CallForksLaw", 294, "legs") (by decide +kernel) (by decide +kernel)
  · exact str_c ("CallForksLaw", 295, "caller") (by decide +kernel) (by decide +kernel)
  · exact str_c ("CallForksLaw", 296, "referred") (by decide +kernel) (by decide +kernel)
  · exact str_c ("CallForksLaw", 298, "time") (by decide +kernel) (by decide +kernel)
def txC : Nat → Nat
  | 0 => 6
  | d + 1 => 14 + 2 * txC d

set_option maxRecDepth 100000 in
set_option maxHeartbeats 4000000 in
theorem tx_leaf {l : Launch} {Γ : ZG} {w : ZW} {T : LT} {t ow lv dp mc ms : Nat} {cs : List Int32} {tx : List Nat} (hdp : 8 ≤ dp) (hmc : 6 ≤ mc) (hms : 1500 ≤ ms) (hlv : lv ≤ 3) (h : NDL w T t cs tx ow) : Ct l Γ mX8_text dp mc ms [.ref t, .int (nI lv)] w (PvS Γ w T w T (par' lv ow tx)) zNo := by
  obtain ⟨kd, x, h1, h2, rfl, h4⟩ := h
  refine Ct.of (by decide) rfl (Nat.le_of_ble_eq_true rfl) (go_wf fun hw => ?_)
  have htl := hw _ _ h1
  have hp : par' lv 3 tx = tx := if_neg (by omega)
  rw [hp]
  rcases h4 with ⟨rfl, hx, rfl, rfl⟩ | ⟨rfl, hx4, rfl, rfl⟩
  · have hdl : (dec x).length ≤ 4 := by rw [dec_len]; (repeat' split) <;> omega
    refine go_aload_n 1 dX8_text_0 rfl ?_
    refine go_get 4 dX8_text_1 fX8_16 (((BW.rf (w := w) (T := T)).2 t htl).1.trans h1) rfl ?_
    refine go_if_ne 30 7 dX8_text_4 (fun h4 => ?_) (fun h4 => ?_)
    · exact absurd h4 (by decide)
    · refine gn_new 8 (BW.rf (w := w) (T := T)) 10 dX8_text_7 nX8_34 (by omega) (by omega) (fun w_7 T_7 sb b_7 sb_7 q_7 => ?_)
      refine go_dup 11 dX8_text_10 rfl ?_
      refine gn_sbI sb_7 b_7 14 dX8_text_11 vX8_36 (by omega) (by omega) (by omega) (by exact Nat.le_of_ble_eq_true rfl) (fun w_11 T_11 b_11 sb_11 q_11 => ?_)
      refine go_ldcS 16 dX8_text_14 sX8_37 ?_
      refine gn_sbS b_11 sb_11 (str_c (w0 := w) (T := T) (RX8, 37, "") sX8_37 (by decide +kernel)).at (by simp [chs]) 19 dX8_text_16 vX8_39 (by omega) (by omega) (by omega) (by exact Nat.le_of_ble_eq_true rfl) (fun w_16 T_16 b_16 sb_16 q_16 => ?_)
      refine go_aload_n 20 dX8_text_19 rfl ?_
      refine go_get 23 dX8_text_20 fX8_20 ((b_16.2 t htl).1.trans h1) rfl ?_
      refine gn_sbN b_16 sb_16 hx (by simp [chs]; omega) 26 dX8_text_23 vX8_43 (by omega) (by omega) (by omega) (by exact Nat.le_of_ble_eq_true rfl) (fun w_23 T_23 b_23 sb_23 q_23 => ?_)
      refine gn_sbT b_23 sb_23 29 dX8_text_26 vX8_46 (by omega) (by omega) (by omega) (by exact Nat.le_of_ble_eq_true rfl) (fun w_26 T_26 r b_26 r_26 q_26 => ?_)
      have sb_26 := sb_23.go q_26 (by first | trivial | decide)
      exact go_aref dX8_text_29 rfl (by omega) (by omega) (⟨r, T_26, rfl, b_26, by have := r_26; simpa [chs] using this, Kq.old b_26 hw⟩)
  · refine go_aload_n 1 dX8_text_0 rfl ?_
    refine go_get 4 dX8_text_1 fX8_16 (((BW.rf (w := w) (T := T)).2 t htl).1.trans h1) rfl ?_
    refine go_if_ne 30 7 dX8_text_4 (fun h4 => ?_) (fun h4 => ?_)
    · refine go_aload_n 31 dX8_text_30 rfl ?_
      refine go_get 34 dX8_text_31 fX8_16 (((BW.rf (w := w) (T := T)).2 t htl).1.trans h1) rfl ?_
      refine go_iconst 35 dX8_text_34 zc_1 ?_
      refine go_icmp_ne 47 38 dX8_text_35 (fun h35 => ?_) (fun h35 => ?_)
      · exact absurd h35 (by decide)
      · refine go_getVar 41 rfl dX8_text_38 ?_
        refine go_aload_n 42 dX8_text_41 rfl ?_
        refine go_get 45 dX8_text_42 fX8_20 (((BW.rf (w := w) (T := T)).2 t htl).1.trans h1) rfl ?_
        refine go_aaldV 46 dX8_text_45 hx4 ?_
        exact go_aref dX8_text_46 rfl (by omega) (by omega) (⟨_, T, rfl, BW.rf, str_v hx4, Kq.rf⟩)
    · exact absurd h4 (by decide)

end LTxt
