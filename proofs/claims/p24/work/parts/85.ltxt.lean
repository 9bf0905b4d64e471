section LTxt

theorem nJ4_18 : zNew RJ4 18 11 4 [.null, .int 0, .int 0, .int 0] := ⟨_, _, tyJ0, rfl, uJ0_ok, tyJ0_ok, zGood.mem 1308 (by decide +kernel) rfl, zGood.mem 1309 (by decide +kernel) rfl, zGood.mem 58 (by decide +kernel) rfl, fun j hj => match j, hj with | 0, _ => rfl | 1, _ => rfl | 2, _ => rfl | 3, _ => rfl | j + 4, h => absurd h (by omega)⟩

theorem nX8_34 : zNew RX8 34 12 4 [.null, .int 0, .int 0, .int 0] := ⟨_, _, tyJ4, rfl, uJ4_ok, tyJ4_ok, zGood.mem 1155 (by decide +kernel) rfl, zGood.mem 1156 (by decide +kernel) rfl, zGood.mem 64 (by decide +kernel) rfl, fun j hj => match j, hj with | 0, _ => rfl | 1, _ => rfl | 2, _ => rfl | 3, _ => rfl | j + 4, h => absurd h (by omega)⟩

set_option maxRecDepth 100000 in
set_option maxHeartbeats 4000000 in
theorem ct_J0_initB {l : Launch} {Γ : ZG} {w : ZW} {r b a m n : Nat} {ml : Int32} {f : Nat → Int32} (hr : w.2 r = some (.inr (11, [.null, .int 0, .int 0, .int 0]))) (hb : w.2 b = some (.inr (12, [.ref a, .int 0, .int ml, .int (nI n)]))) (ha : w.2 a = some (b5 Γ m f)) (hf : sb_Fit f) (hm : m ≤ 200) (hn : n ≤ m) : Ct l Γ mJ0_init_db425 4 1 200 [.ref r, .ref b, .null] w (fun v w2 => v = none ∧ w2.1 = w.1 + 1 ∧ (∀ x, x < w.1 → x ≠ r → w2.2 x = w.2 x) ∧ w2.2 r = some (.inr (11, [.ref w.1, .int 0, .int 0, .int 0])) ∧ ∃ f2, w2.2 w.1 = some (b5 Γ n f2) ∧ ∀ j, j < n → f2 j = f j) zNo := by
  refine Ct.of (by decide) rfl (Nat.le_of_ble_eq_true rfl) (go_wf fun hw => ?_)
  have hrl := hw _ _ hr
  refine go_aload_n 1 dJ0_init_db425_0 rfl ?_
  refine go_objInit 4 dJ0_init_db425_1 oJ0_1 oInst oCode (by decide) (by exact Nat.le_of_ble_eq_true rfl) ?_
  refine go_aload_n 5 dJ0_init_db425_4 rfl ?_
  refine go_callH 8 [] dJ0_init_db425_5 hvJ0_552 hb (ct_J5_getValue hb) (by decide) (by decide) (by omega) (by omega) (by exact Nat.le_of_ble_eq_true rfl) ?_
  rintro _ w9 ⟨rfl, hw9⟩
  obtain rfl := hw9.symm
  refine go_astore_n 9 dJ0_init_db425_8 (by decide) ?_
  refine go_aload_n 10 dJ0_init_db425_9 rfl ?_
  refine go_callL 13 rfl dJ0_init_db425_10 hb (by decide) (by omega) (by omega) (by exact Nat.le_of_ble_eq_true rfl) ?_
  refine go_istore 15 dJ0_init_db425_13 (by decide) ?_
  refine go_aload_n 16 dJ0_init_db425_15 rfl ?_
  refine go_callH 19 [] dJ0_init_db425_16 hvJ0_1047 hb (ct_J5_isLatin1 hb) (by decide) (by decide) (by omega) (by omega) (by exact Nat.le_of_ble_eq_true rfl) ?_
  rintro _ w9 ⟨rfl, hw9⟩
  obtain rfl := hw9.symm
  refine go_if_eq 41 22 dJ0_init_db425_19 (fun h19 => ?_) (fun h19 => ?_)
  · exact absurd h19 (by decide)
  · refine go_aload_n 23 dJ0_init_db425_22 rfl ?_
    refine go_iconst 24 dJ0_init_db425_23 zc_0 ?_
    refine go_putF 27 dJ0_init_db425_24 qJ0_15 rfl hr (by exact (show 1 < 4 by decide)) rfl rfl ?_
    have ha2 : (wset w r (.inr (11, [.null, .int 0, .int 0, .int 0]))).2 a = some (b5 Γ m f) := (if_neg (fun z => by rw [z, hr] at ha; cases ha)).trans ha
    refine go_aload_n 28 dJ0_init_db425_27 rfl ?_
    refine go_aload_n 29 dJ0_init_db425_28 rfl ?_
    refine go_iconst 30 dJ0_init_db425_29 zc_0 ?_
    refine go_iload 32 dJ0_init_db425_30 rfl ?_
    refine go_callS 35 [.ref a, .int 0, .int (nI n)] dJ0_init_db425_32 vJ0_54 rfl (ct_J7_range ha2 hf hm hn) (by decide) (by decide) (by omega) (by omega) (by exact Nat.le_of_ble_eq_true rfl) ?_
    rintro _ w2 ⟨rfl, y1, y2, f2, y3, y4⟩
    have hr2 : w2.2 r = some (.inr (11, [.null, .int 0, .int 0, .int 0])) := (y2 r hrl).trans wset_at
    refine go_putF 38 dJ0_init_db425_35 qJ0_9 rfl hr2 (by exact (show 0 < 4 by decide)) rfl rfl ?_
    refine go_goto 97 dJ0_init_db425_38 ?_
    exact go_return dJ0_init_db425_97 rfl (by omega) (by omega) (⟨rfl, y1, fun x h1 h2 => (if_neg h2).trans ((y2 x h1).trans (if_neg h2)), wset_at, f2, (if_neg (show ¬ w.1 = r by omega)).trans y3, y4⟩)

set_option maxRecDepth 100000 in
set_option maxHeartbeats 4000000 in
theorem ct_J0_initA {l : Launch} {Γ : ZG} {w : ZW} {r b a m n : Nat} {ml : Int32} {f : Nat → Int32} (hr : w.2 r = some (.inr (11, [.null, .int 0, .int 0, .int 0]))) (hb : w.2 b = some (.inr (12, [.ref a, .int 0, .int ml, .int (nI n)]))) (ha : w.2 a = some (b5 Γ m f)) (hf : sb_Fit f) (hm : m ≤ 200) (hn : n ≤ m) : Ct l Γ mJ0_init_81219 5 1 200 [.ref r, .ref b] w (fun v w2 => v = none ∧ w2.1 = w.1 + 1 ∧ (∀ x, x < w.1 → x ≠ r → w2.2 x = w.2 x) ∧ w2.2 r = some (.inr (11, [.ref w.1, .int 0, .int 0, .int 0])) ∧ ∃ f2, w2.2 w.1 = some (b5 Γ n f2) ∧ ∀ j, j < n → f2 j = f j) zNo := by
  refine Ct.of (by decide) rfl (Nat.le_of_ble_eq_true rfl) ?_
  refine go_aload_n 1 dJ0_init_81219_0 rfl ?_
  refine go_aload_n 2 dJ0_init_81219_1 rfl ?_
  refine go_null 3 dJ0_init_81219_2 ?_
  refine go_callI 6 [.ref b, .null] dJ0_init_81219_3 vJ0_489 (ct_J0_initB hr hb ha hf hm hn) (by decide) (by decide) (by omega) (by omega) (by exact Nat.le_of_ble_eq_true rfl) ?_
  rintro _ w2 ⟨rfl, hq⟩
  exact go_return dJ0_init_81219_6 rfl (by omega) (by omega) ⟨rfl, hq⟩

/-- a string, constant or made since w0 -/
def StrT (Γ : ZG) (w0 w : ZW) (T : LT) (r : Nat) (tx : List Nat) : Prop := Asc tx ∧ ((∃ q ∈ zStr, r = Γ.2.2.2.1 q.1 q.2.1 ∧ tx = chs q.2.2) ∨ ∃ a f h z, Nc w0 w T r (.inr (11, [.ref a, .int 0, .int h, .int z])) 0 ∧ Nc w0 w T a (b5 Γ tx.length f) 0 ∧ BOf f tx)
theorem StrT.at {Γ : ZG} {w0 w : ZW} {T : LT} {r : Nat} {tx : List Nat} (h : StrT Γ w0 w T r tx) : StrAt Γ w r tx := by
  obtain ⟨h0, h | ⟨a, f, hh, z, g1, g2, g3⟩⟩ := h
  · exact ⟨h0, Or.inl h⟩
  · exact ⟨h0, Or.inr ⟨a, f, hh, z, g1.1, g2.1, g3⟩⟩
theorem StrT.go {Γ : ZG} {w0 w w1 : ZW} {T T1 : LT} {r : Nat} {tx : List Nat} {P : Nat → Prop} (h : StrT Γ w0 w T r tx) (k : Kq w T w1 T1 P) (h0 : P 0) : StrT Γ w0 w1 T1 r tx := by
  obtain ⟨hz, h | ⟨a, f, hh, z, g1, g2, g3⟩⟩ := h
  · exact ⟨hz, Or.inl h⟩
  · exact ⟨hz, Or.inr ⟨a, f, hh, z, g1.go k h0, g2.go k h0, g3⟩⟩
theorem SBn.go {Γ : ZG} {w0 w w1 : ZW} {T T1 : LT} {b : Nat} {tx : List Nat} {P : Nat → Prop} (h : SBn Γ w0 w T b tx) (k : Kq w T w1 T1 P) (h0 : P 8) : SBn Γ w0 w1 T1 b tx := by
  obtain ⟨hz, a, m, f, ml, g1, g2, g3⟩ := h
  exact ⟨hz, a, m, f, ml, g1.go k h0, g2.go k h0, g3⟩
def PvS (Γ : ZG) (w0 : ZW) (T0 : LT) (w : ZW) (T : LT) (tx : List Nat) : Option Value → ZW → Prop := fun v w2 => ∃ r T2, v = some (.ref r) ∧ BW w0 T0 w2 T2 ∧ StrT Γ w0 w2 T2 r tx ∧ Kq w T w2 T2 (fun z => z ≠ 7)

set_option maxRecDepth 100000 in
set_option maxHeartbeats 4000000 in
theorem ct_J4_toString {l : Launch} {Γ : ZG} {w : ZW} {w0 : ZW} {T0 T : LT} {b : Nat} {tx : List Nat} (bw : BW w0 T0 w T) (hs : SBn Γ w0 w T b tx) : Ct l Γ mJ4_toString_0e30d 6 2 204 [.ref b] w (PvS Γ w0 T0 w T tx) zNo := by
  obtain ⟨hs0, a, m, f, ml, hb, ha, hm1, hm, hf, hbo⟩ := hs
  refine Ct.of (by decide) rfl (Nat.le_of_ble_eq_true rfl) (go_wf fun hw => ?_)
  refine gn_new 7 bw 3 dJ4_toString_0e30d_0 nJ4_18 (by omega) (by omega) (fun w1 T1 r b1 r1 q1 => ?_)
  have hb1 := hb.go q1 trivial
  have ha1 := ha.go q1 trivial
  refine go_dup 4 dJ4_toString_0e30d_3 rfl ?_
  refine go_aload_n 5 dJ4_toString_0e30d_4 rfl (go_wf fun hw1 => ?_)
  refine go_callI 8 [.ref b] dJ4_toString_0e30d_5 vJ4_137 (ct_J0_initA r1.1 hb1.1 ha1.1 hf hm hm1) (by decide) (by decide) (by omega) (by omega) (by exact Nat.le_of_ble_eq_true rfl) ?_
  rintro _ w2 ⟨rfl, y1, y2, y3, f2, y4, y5⟩
  have hrl := hw1 _ _ r1.1
  have hl1 := b1.1
  refine go_aref dJ4_toString_0e30d_8 rfl (by omega) (by omega) ⟨r, tset (tset T1 w1.1 0) r 0, rfl, ⟨by omega, fun q hq => ?_⟩, ⟨hs0, Or.inr ⟨w1.1, f2, 0, 0, ⟨y3, if_pos rfl, r1.2.2⟩, ⟨y4, (if_neg (by omega)).trans (if_pos rfl), hl1⟩, fun j hj => (y5 j hj).trans (hbo j hj)⟩⟩, fun q c h1 h2 => ?_⟩
  · have := r1.2.2
    exact ⟨(y2 q (by omega) (by omega)).trans (b1.2 q hq).1, (if_neg (by omega)).trans ((if_neg (by omega)).trans (b1.2 q hq).2)⟩
  · obtain ⟨k1, k2⟩ := q1 q c h1 trivial
    have hq1 := hw1 q c k1
    have hq : q < w.1 := hw q c h1
    have hrw : q ≠ r := fun z => h2 (by rw [← k2, z]; exact r1.2.1)
    exact ⟨(y2 q hq1 hrw).trans k1, (if_neg hrw).trans ((if_neg (by omega)).trans k2)⟩

end LTxt
