section LSbt

/-- behind an append: the builder's two cells -/
theorem sb_fin {Γ : ZG} {w0 w w2 : ZW} {T0 T : LT} {a a' b m m' : Nat} {f f' f3 : Nat → Int32} {ml : Int32} {tx ty : List Nat} (bw : BW w0 T0 w T) (hw : WF w) (hs0 : Asc tx) (hty : Asc ty) (hb : Nc w0 w T b (.inr (12, [.ref a, .int 0, .int ml, .int (nI tx.length)])) 8) (ha : Nc w0 w T a (b5 Γ m f) 8) (hbo : BOf f tx) (hm : tx.length ≤ m) (z1 : w.1 ≤ w2.1) (z2 : ∀ x, x < w.1 → x ≠ b → w2.2 x = w.2 x) (hb2 : w2.2 b = some (.inr (12, [.ref a', .int 0, .int ml, .int (nI tx.length)]))) (ha2 : w2.2 a' = some (b5 Γ m' f')) (z3 : tx.length + ty.length ≤ m') (z5 : m' ≤ 200) (z7 : ∀ j, j < m → f' j = f j) (z8 : a' = a ∨ w.1 ≤ a') (h3 : sb_Fit f3) (h4 : ∀ j, j < tx.length → f3 j = f' j) (h5 : ∀ j, j < ty.length → f3 (tx.length + j) = nI (ty.getD j 0)) : ∃ T2, BW w0 T0 (wset (wset w2 a' (b5 Γ m' f3)) b (.inr (12, [.ref a', .int 0, .int ml, .int (nI (tx.length + ty.length))]))) T2 ∧ SBn Γ w0 (wset (wset w2 a' (b5 Γ m' f3)) b (.inr (12, [.ref a', .int 0, .int ml, .int (nI (tx.length + ty.length))]))) T2 b (tx ++ ty) ∧ Kq w T (wset (wset w2 a' (b5 Γ m' f3)) b (.inr (12, [.ref a', .int 0, .int ml, .int (nI (tx.length + ty.length))]))) T2 (fun z => z ≠ 8) := by
  have hne := sb_ne hb2 ha2
  have hbl := hw _ _ hb.1
  refine ⟨(fun q => if w.1 ≤ q then 8 else T q), ⟨Nat.le_trans bw.1 z1, fun q hq => ?_⟩, ⟨asc_app hs0 hty, a', m', f3, ml, ⟨?_, ?_, hb.2.2⟩, ⟨?_, ?_, ?_⟩, ?_, z5, h3, ?_⟩, fun q c h1 h2 => ?_⟩
  · have hqb : q ≠ b := fun z => by have := hb.2.2; omega
    have hqa : q ≠ a' := fun z => by have := ha.2.2; have := bw.1; rcases z8 with y | y <;> omega
    have hqw : q < w.1 := Nat.lt_of_lt_of_le hq bw.1
    exact ⟨(if_neg hqb).trans ((if_neg hqa).trans ((z2 q hqw hqb).trans (bw.2 q hq).1)), (if_neg (by omega)).trans (bw.2 q hq).2⟩
  · rw [List.length_append, wset_at]
  · exact (if_neg (by omega)).trans hb.2.1
  · exact (if_neg hne).trans wset_at
  · rcases z8 with y | y
    · rw [y]; exact (if_neg (by have := hw _ _ ha.1; omega)).trans ha.2.1
    · exact if_pos y
  · rcases z8 with y | y
    · rw [y]; exact ha.2.2
    · exact Nat.le_trans bw.1 y
  · rw [List.length_append]; exact z3
  · exact bof_app (f := f) hbo (fun j hj => (h4 j hj).trans (z7 j (by omega))) h5
  · have hq := hw q c h1
    have hqb : q ≠ b := fun z => h2 (by rw [z]; exact hb.2.1)
    have hqa : q ≠ a' := fun z => by
      rcases z8 with y | y
      · exact h2 (by rw [z, y]; exact ha.2.1)
      · omega
    exact ⟨(if_neg hqb).trans ((if_neg hqa).trans ((z2 q hq hqb).trans h1)), if_neg (by omega)⟩
theorem dec_asc {x : Nat} (hx : x ≤ 9999) : Asc (dec x) := fun c hc => by
  unfold dec at hc
  split at hc
  · simp at hc; omega
  · split at hc
    · simp at hc; omega
    · split at hc <;> (simp at hc; omega)
theorem ct_J5_isLatin1 {l : Launch} {Γ : ZG} {w : ZW} {b a : Nat} {ml c : Int32} (hb : w.2 b = some (.inr (12, [.ref a, .int 0, .int ml, .int c]))) : Cm l Γ mJ5_isLatin1_aae02 1 [.ref b] w (some (.int 1)) w := by
  refine Cm.of (by decide) rfl (Nat.le_of_ble_eq_true rfl) ?_
  refine go_getCS 3 dJ5_isLatin1_aae02_0 gJ5_18 ?_
  refine go_if_eq 17 6 dJ5_isLatin1_aae02_3 (fun h => absurd h (by decide)) (fun _ => ?_)
  refine go_aload_n 7 dJ5_isLatin1_aae02_6 rfl ?_
  refine go_get 10 dJ5_isLatin1_aae02_7 fJ5_22 hb rfl ?_
  refine go_if_ne 17 13 dJ5_isLatin1_aae02_10 (fun h => absurd rfl h) (fun _ => ?_)
  refine go_iconst 14 dJ5_isLatin1_aae02_13 zc_1 ?_
  refine go_goto 18 dJ5_isLatin1_aae02_14 ?_
  exact go_nreturn dJ5_isLatin1_aae02_18 rfl (by omega) (by omega) rfl ⟨rfl, rfl⟩

set_option maxRecDepth 100000 in
set_option maxHeartbeats 4000000 in
theorem ct_J5_appendI {l : Launch} {Γ : ZG} {w : ZW} {w0 : ZW} {T0 T : LT} {b x : Nat} {tx : List Nat} (bw : BW w0 T0 w T) (hs : SBn Γ w0 w T b tx) (hx : x ≤ 9999) (hlen : tx.length + (dec x).length ≤ 100) : Ct l Γ mJ5_append_c97b9 5 1 200 [.ref b, .int (nI x)] w (fun v w2 => v = some (.ref b) ∧ ∃ T2, BW w0 T0 w2 T2 ∧ SBn Γ w0 w2 T2 b (tx ++ dec x) ∧ Kq w T w2 T2 (fun z => z ≠ 8)) zNo := by
  refine Ct.of (by decide) rfl (Nat.le_of_ble_eq_true rfl) (go_wf fun hw => ?_)
  obtain ⟨hs0, a, m, f, ml, hb, ha, hm1, hm, hf, hbo⟩ := hs
  refine go_aload_n 1 dJ5_append_c97b9_0 rfl ?_
  refine go_get 4 dJ5_append_c97b9_1 fJ5_79 hb.1 rfl ?_
  refine go_istore_n 5 dJ5_append_c97b9_4 (by decide) ?_
  refine go_iload_n 6 dJ5_append_c97b9_5 rfl ?_
  refine go_iload_n 7 dJ5_append_c97b9_6 rfl ?_
  refine gcS1 10 dJ5_append_c97b9_7 vJ5_245 (ct_J6_stringSize hx) ?_
  refine go_iadd 11 dJ5_append_c97b9_10 ?_
  rw [nI_add]
  refine go_istore_n 12 dJ5_append_c97b9_11 (by decide) ?_
  refine go_aload_n 13 dJ5_append_c97b9_12 rfl ?_
  refine go_iload_n 14 dJ5_append_c97b9_13 rfl ?_
  refine go_callP 17 [.int (nI (tx.length + (dec x).length))] dJ5_append_c97b9_14 pvJ5_100 hb.1 (ct_J5_ensure hb.1 ha.1 hf hm (by omega)) (by decide) (by decide) (by omega) (by omega) (by exact Nat.le_of_ble_eq_true rfl) ?_
  rintro _ w2 ⟨rfl, z1, z2, a', m', f', hb2, ha2, z3, z4, z5, z6, z7, z8⟩
  refine go_aload_n 18 dJ5_append_c97b9_17 rfl ?_
  refine go_callH 21 [] dJ5_append_c97b9_18 hvJ5_83 hb2 (ct_J5_isLatin1 hb2) (by decide) (by decide) (by omega) (by omega) (by exact Nat.le_of_ble_eq_true rfl) ?_
  rintro _ w9 ⟨rfl, hw9⟩
  obtain rfl := hw9.symm
  refine go_if_eq 37 24 dJ5_append_c97b9_21 (fun h21 => ?_) (fun h21 => ?_)
  · exact absurd h21 (by decide)
  · refine go_iload_n 25 dJ5_append_c97b9_24 rfl ?_
    refine go_iload_n 26 dJ5_append_c97b9_25 rfl ?_
    refine go_aload_n 27 dJ5_append_c97b9_26 rfl ?_
    refine go_get 30 dJ5_append_c97b9_27 fJ5_15 hb2 rfl ?_
    refine go_callS 33 [.int (nI x), .int (nI (tx.length + (dec x).length)), .ref a'] dJ5_append_c97b9_30 vJ5_248 rfl (ct_J6_getChars ha2 z5 hx z3 (by omega)) (by decide) (by decide) (by omega) (by omega) (by exact Nat.le_of_ble_eq_true rfl) ?_
    rintro _ w3 ⟨⟨z, rfl⟩, rfl⟩
    have hne := sb_ne hb2 ha2
    have hb3 : (wset w2 a' (b5 Γ m' (putN f' (tx.length + (dec x).length) x))).2 b = some (.inr (12, [.ref a', .int 0, .int ml, .int (nI tx.length)])) := (if_neg (fun z => hne z.symm)).trans hb2
    refine go_pop 34 dJ5_append_c97b9_33 rfl ?_
    refine go_goto 48 dJ5_append_c97b9_34 ?_
    refine go_aload_n 49 dJ5_append_c97b9_48 rfl ?_
    refine go_iload_n 50 dJ5_append_c97b9_49 rfl ?_
    refine go_put 53 dJ5_append_c97b9_50 pJ5_79 hb3 (by exact (show 3 < 4 by decide)) rfl rfl ?_
    refine go_aload_n 54 dJ5_append_c97b9_53 rfl ?_
    exact go_aref dJ5_append_c97b9_54 rfl (by omega) (by omega) (⟨rfl, sb_fin bw hw hs0 (dec_asc hx) hb ha hbo hm1 z1 z2 hb2 ha2 z3 z5 z7 z8 (fit_putN z6 hx) (fun j hj => putN_lo hx (by omega) (by omega)) (fun j hj => by have := putN_hi (f := f') (q := tx.length + (dec x).length) hx (by omega) hj; rw [Nat.add_sub_cancel] at this; exact this)⟩)

set_option maxRecDepth 100000 in
set_option maxHeartbeats 4000000 in
theorem ct_J4_appendI {l : Launch} {Γ : ZG} {w : ZW} {w0 : ZW} {T0 T : LT} {b x : Nat} {tx : List Nat} (bw : BW w0 T0 w T) (hs : SBn Γ w0 w T b tx) (hx : x ≤ 9999) (hlen : tx.length + (dec x).length ≤ 100) : Ct l Γ mJ4_append_bf812 6 1 200 [.ref b, .int (nI x)] w (fun v w2 => v = some (.ref b) ∧ ∃ T2, BW w0 T0 w2 T2 ∧ SBn Γ w0 w2 T2 b (tx ++ dec x) ∧ Kq w T w2 T2 (fun z => z ≠ 8)) zNo := by
  refine Ct.of (by decide) rfl (Nat.le_of_ble_eq_true rfl) ?_
  have hbc := hs.2.choose_spec.choose_spec.choose_spec.choose_spec.1.1
  refine go_aload_n 1 dJ4_append_bf812_0 rfl ?_
  refine go_iload_n 2 dJ4_append_bf812_1 rfl ?_
  refine go_callU 5 [.int (nI x)] dJ4_append_bf812_2 uvJ4_53 hbc (ct_J5_appendI bw hs hx hlen) (by decide) (by decide) (by omega) (by omega) (by exact Nat.le_of_ble_eq_true rfl) ?_
  rintro _ w2 ⟨rfl, hq⟩
  refine go_pop 6 dJ4_append_bf812_5 rfl ?_
  refine go_aload_n 7 dJ4_append_bf812_6 rfl ?_
  exact go_aref dJ4_append_bf812_7 rfl (by omega) (by omega) (⟨rfl, hq⟩)

end LSbt
