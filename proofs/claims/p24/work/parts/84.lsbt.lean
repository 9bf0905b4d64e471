section LSbt

/-- behind an append: the builder's two cells -/
theorem sb_fin {Γ : ZG} {w0 w w2 : ZW} {T0 T : LT} {a a' b m m' : Nat} {f f' f3 : Nat → Int32} {ml : Int32} {tx ty : List Nat} (bw : BW w0 T0 w T) (hw : WF w) (hs0 : Asc tx) (hty : Asc ty) (hb : Nc w0 w T b (.inr (12, [.ref a, .int 0, .int ml, .int (nI tx.length)])) 8) (ha : Nc w0 w T a (b5 Γ m f) 8) (hbo : BOf f tx) (hm : tx.length ≤ m) (z1 : w.1 ≤ w2.1) (z2 : ∀ x, x < w.1 → x ≠ b → w2.2 x = w.2 x) (hb2 : w2.2 b = some (.inr (12, [.ref a', .int 0, .int ml, .int (nI tx.length)]))) (ha2 : w2.2 a' = some (b5 Γ m' f')) (z3 : tx.length + ty.length ≤ m') (z5 : m' ≤ 200) (z7 : ∀ j, j < m → f' j = f j) (z8 : a' = a ∨ w.1 ≤ a') (h3 : sb_Fit f3) (h4 : ∀ j, j < tx.length → f3 j = f' j) (h5 : ∀ j, j < ty.length → f3 (tx.length + j) = nI (ty.getD j 0)) : ∃ T2, BW w0 T0 (wset (wset w2 a' (b5 Γ m' f3)) b (.inr (12, [.ref a', .int 0, .int ml, .int (nI (tx.length + ty.length))]))) T2 ∧ SBn Γ w0 (wset (wset w2 a' (b5 Γ m' f3)) b (.inr (12, [.ref a', .int 0, .int ml, .int (nI (tx.length + ty.length))]))) T2 b (tx ++ ty) ∧ Kq w T (wset (wset w2 a' (b5 Γ m' f3)) b (.inr (12, [.ref a', .int 0, .int ml, .int (nI (tx.length + ty.length))]))) T2 (fun z => z ≠ 8) := by
  have hne := sb_ne hb2 ha2
  have hbl := hw _ _ hb.1
  refine ⟨(fun q => if w.1 ≤ q then 8 else T q), ⟨Nat.le_trans bw.1 z1, fun q hq => ?_⟩, ⟨asc_app hs0 hty, a', m', f3, ml, ⟨?_, ?_, hb.2.2⟩, ⟨?_, ?_, ?_⟩, ?_, z5, h3, ?_⟩, fun q c h1 h2 => ?_⟩
  · have hqb : q ≠ b := fun z => by have := hb.2.2; omega
    have hqa : q ≠ a' := fun z => by have := ha.2.2; have := bw.1; rcases z8 with y | y <;> omega
    have hqw : q < w.1 := Nat.lt_of_lt_of_le hq bw.1
    exact ⟨(if_neg hqb).trans ((if_neg hqa).trans ((z2 q hqw hqb).trans (bw.2 q hq).1)), (if_neg (by omega)).trans (bw.2 q hq).2⟩
  · rw [List.length_append, wset_at]
  · exact (if_neg (by omega)).trans hb.2.1
  · exact (if_neg hne).trans wset_at
  · rcases z8 with y | y
    · rw [y]; exact (if_neg (by have := hw _ _ ha.1; omega)).trans ha.2.1
    · exact if_pos y
  · rcases z8 with y | y
    · rw [y]; exact ha.2.2
    · exact Nat.le_trans bw.1 y
  · rw [List.length_append]; exact z3
  · exact bof_app (f := f) hbo (fun j hj => (h4 j hj).trans (z7 j (by omega))) h5
  · have hq := hw q c h1
    have hqb : q ≠ b := fun z => h2 (by rw [z]; exact hb.2.1)
    have hqa : q ≠ a' := fun z => by
      rcases z8 with y | y
      · exact h2 (by rw [z, y]; exact ha.2.1)
      · omega
    exact ⟨(if_neg hqb).trans ((if_neg hqa).trans ((z2 q hq hqb).trans h1)), if_neg (by omega)⟩
theorem dec_asc {x : Nat} (hx : x ≤ 9999) : Asc (dec x) := fun c hc => by
  unfold dec at hc
  split at hc
  · simp at hc; omega
  · split at hc
    · simp at hc; omega
    · split at hc <;> (simp at hc; omega)
theorem ct_J5_isLatin1 {l : Launch} {Γ : ZG} {w : ZW} {b a : Nat} {ml c : Int32} (hb : w.2 b = some (.inr (12, [.ref a, .int 0, .int ml, .int c]))) : Cm l Γ mJ5_isLatin1_aae02 1 [.ref b] w (some (.int 1)) w := by
  refine Cm.of (by decide) rfl (Nat.le_of_ble_eq_true rfl) ?_
  refine go_getCS 3 dJ5_isLatin1_aae02_0 gJ5_18 ?_
  refine go_if_eq 17 6 dJ5_isLatin1_aae02_3 (fun h => absurd h (by decide)) (fun _ => ?_)
  refine go_aload_n 7 dJ5_isLatin1_aae02_6 rfl ?_
  refine go_get 10 dJ5_isLatin1_aae02_7 fJ5_22 hb rfl ?_
  refine go_if_ne 17 13 dJ5_isLatin1_aae02_10 (fun h => absurd rfl h) (fun _ => ?_)
  refine go_iconst 14 dJ5_isLatin1_aae02_13 zc_1 ?_
  refine go_goto 18 dJ5_isLatin1_aae02_14 ?_
  exact go_nreturn dJ5_isLatin1_aae02_18 rfl (by omega) (by omega) rfl ⟨rfl, rfl⟩

set_option maxRecDepth 100000 in
set_option maxHeartbeats 4000000 in
theorem ct_J5_appendI {l : Launch} {Γ : ZG} {w : ZW} {w0 : ZW} {T0 T : LT} {b x : Nat} {tx : List Nat} (bw : BW w0 T0 w T) (hs : SBn Γ w0 w T b tx) (hx : x ≤ 9999) (hlen : tx.length + (dec x).length ≤ 100) : Ct l Γ mJ5_append_c97b9 5 1 200 [.ref b, .int (nI x)] w (fun v w2 => v = some (.ref b) ∧ ∃ T2, BW w0 T0 w2 T2 ∧ SBn Γ w0 w2 T2 b (tx ++ dec x) ∧ Kq w T w2 T2 (fun z => z ≠ 8)) zNo := by
  refine Ct.of (by decide) rfl (Nat.le_of_ble_eq_true rfl) (go_wf fun hw => ?_)
  obtain ⟨hs0, a, m, f, ml, hb, ha, hm1, hm, hf, hbo⟩ := hs
  refine go_aload_n 1 dJ5_append_c97b9_0 rfl ?_
  refine go_get 4 dJ5_append_c97b9_1 fJ5_79 hb.1 rfl ?_
  refine go_istore_n 5 dJ5_append_c97b9_4 (by decide) ?_
  refine go_iload_n 6 dJ5_append_c97b9_5 rfl ?_
  refine go_iload_n 7 dJ5_append_c97b9_6 rfl ?_
  refine gcS1 10 dJ5_append_c97b9_7 vJ5_245 (ct_J6_stringSize hx) ?_
  refine go_iadd 11 dJ5_append_c97b9_10 ?_
  rw [nI_add]
  refine go_istore_n 12 dJ5_append_c97b9_11 (by decide) ?_
  refine go_aload_n 13 dJ5_append_c97b9_12 rfl ?_
  refine go_iload_n 14 dJ5_append_c97b9_13 rfl ?_
  refine go_callP 17 [.int (nI (tx.length + (dec x).length))] dJ5_append_c97b9_14 pvJ5_100 hb.1 (ct_J5_ensure hb.1 ha.1 hf hm (by omega)) (by decide) (by decide) (by omega) (by omega) (by exact Nat.le_of_ble_eq_true rfl) ?_
  rintro _ w2 ⟨rfl, z1, z2, a', m', f', hb2, ha2, z3, z4, z5, z6, z7, z8⟩
  refine go_aload_n 18 dJ5_append_c97b9_17 rfl ?_
  refine go_callH 21 [] dJ5_append_c97b9_18 hvJ5_83 hb2 (ct_J5_isLatin1 hb2) (by decide) (by decide) (by omega) (by omega) (by exact Nat.le_of_ble_eq_true rfl) ?_
  rintro _ w9 ⟨rfl, hw9⟩
  obtain rfl := hw9.symm
  refine go_if_eq 37 24 dJ5_append_c97b9_21 (fun h21 => ?_) (fun h21 => ?_)
  · exact absurd h21 (by decide)
  · refine go_iload_n 25 dJ5_append_c97b9_24 rfl ?_
    refine go_iload_n 26 dJ5_append_c97b9_25 rfl ?_
    refine go_aload_n 27 dJ5_append_c97b9_26 rfl ?_
    refine go_get 30 dJ5_append_c97b9_27 fJ5_15 hb2 rfl ?_
    refine go_callS 33 [.int (nI x), .int (nI (tx.length + (dec x).length)), .ref a'] dJ5_append_c97b9_30 vJ5_248 rfl (ct_J6_getChars ha2 z5 hx z3 (by omega)) (by decide) (by decide) (by omega) (by omega) (by exact Nat.le_of_ble_eq_true rfl) ?_
    rintro _ w3 ⟨⟨z, rfl⟩, rfl⟩
    have hne := sb_ne hb2 ha2
    have hb3 : (wset w2 a' (b5 Γ m' (putN f' (tx.length + (dec x).length) x))).2 b = some (.inr (12, [.ref a', .int 0, .int ml, .int (nI tx.length)])) := (if_neg (fun z => hne z.symm)).trans hb2
    refine go_pop 34 dJ5_append_c97b9_33 rfl ?_
    refine go_goto 48 dJ5_append_c97b9_34 ?_
    refine go_aload_n 49 dJ5_append_c97b9_48 rfl ?_
    refine go_iload_n 50 dJ5_append_c97b9_49 rfl ?_
    refine go_put 53 dJ5_append_c97b9_50 pJ5_79 hb3 (by exact (show 3 < 4 by decide)) rfl rfl ?_
    refine go_aload_n 54 dJ5_append_c97b9_53 rfl ?_
    exact go_aref dJ5_append_c97b9_54 rfl (by omega) (by omega) (⟨rfl, sb_fin bw hw hs0 (dec_asc hx) hb ha hbo hm1 z1 z2 hb2 ha2 z3 z5 z7 z8 (fit_putN z6 hx) (fun j hj => putN_lo hx (by omega) (by omega)) (fun j hj => by have := putN_hi (f := f') (q := tx.length + (dec x).length) hx (by omega) hj; rw [Nat.add_sub_cancel] at this; exact this)⟩)

set_option maxRecDepth 100000 in
set_option maxHeartbeats 4000000 in
theorem ct_J4_appendI {l : Launch} {Γ : ZG} {w : ZW} {w0 : ZW} {T0 T : LT} {b x : Nat} {tx : List Nat} (bw : BW w0 T0 w T) (hs : SBn Γ w0 w T b tx) (hx : x ≤ 9999) (hlen : tx.length + (dec x).length ≤ 100) : Ct l Γ mJ4_append_bf812 6 1 200 [.ref b, .int (nI x)] w (fun v w2 => v = some (.ref b) ∧ ∃ T2, BW w0 T0 w2 T2 ∧ SBn Γ w0 w2 T2 b (tx ++ dec x) ∧ Kq w T w2 T2 (fun z => z ≠ 8)) zNo := by
  refine Ct.of (by decide) rfl (Nat.le_of_ble_eq_true rfl) ?_
  have hbc := hs.2.choose_spec.choose_spec.choose_spec.choose_spec.1.1
  refine go_aload_n 1 dJ4_append_bf812_0 rfl ?_
  refine go_iload_n 2 dJ4_append_bf812_1 rfl ?_
  refine go_callU 5 [.int (nI x)] dJ4_append_bf812_2 uvJ4_53 hbc (ct_J5_appendI bw hs hx hlen) (by decide) (by decide) (by omega) (by omega) (by exact Nat.le_of_ble_eq_true rfl) ?_
  rintro _ w2 ⟨rfl, hq⟩
  refine go_pop 6 dJ4_append_bf812_5 rfl ?_
  refine go_aload_n 7 dJ4_append_bf812_6 rfl ?_
  exact go_aref dJ4_append_bf812_7 rfl (by omega) (by omega) (⟨rfl, hq⟩)

theorem ct_J5_initB {l : Launch} {Γ : ZG} {w : ZW} {b : Nat} (h : w.2 b = some (.inr (12, [.null, .int 0, .int 0, .int 0]))) : Ct l Γ mJ5_init_d00df 1 1 16 [.ref b, .int 16] w (fun v w2 => v = none ∧ b < w.1 ∧ w2 = wset (wnew w (b5 Γ 16 (fun _ => 0))) b (.inr (12, [.ref w.1, .int 0, .int 0, .int 0]))) zNo := by
  refine Ct.of (by decide) rfl (Nat.le_of_ble_eq_true rfl) (go_wf fun hw => ?_)
  have hb := hw _ _ h
  refine go_aload_n 1 dJ5_init_d00df_0 rfl ?_
  refine go_objInit 4 dJ5_init_d00df_1 oJ5_3 oInst oCode (by decide) (by exact Nat.le_of_ble_eq_true rfl) ?_
  refine go_getCS 7 dJ5_init_d00df_4 gJ5_18 ?_
  refine go_if_eq 25 10 dJ5_init_d00df_7 (fun h => absurd h (by decide)) (fun _ => ?_)
  refine go_aload_n 11 dJ5_init_d00df_10 rfl ?_
  refine go_iload_n 12 dJ5_init_d00df_11 rfl ?_
  refine go_newarray_b (N := 16) 14 dJ5_init_d00df_12 rfl (by decide) (by decide) (by decide) ac_byte ?_
  refine go_put 17 dJ5_init_d00df_14 pJ5_15 ((wnew_lt hb).trans h) (by exact (show 0 < 4 by decide)) rfl rfl ?_
  refine go_aload_n 18 dJ5_init_d00df_17 rfl ?_
  refine go_iconst 19 dJ5_init_d00df_18 zc_0 ?_
  refine go_put 22 dJ5_init_d00df_19 pJ5_22 wset_at (by exact (show 1 < 4 by decide)) rfl rfl ?_
  rw [wset_wset]
  refine go_goto 38 dJ5_init_d00df_22 ?_
  exact go_return dJ5_init_d00df_38 rfl (by omega) (by omega) ⟨rfl, hb, rfl⟩
theorem ct_J4_initB {l : Launch} {Γ : ZG} {w : ZW} {b : Nat} (h : w.2 b = some (.inr (12, [.null, .int 0, .int 0, .int 0]))) : Ct l Γ mJ4_init_da8c8 2 1 16 [.ref b] w (fun v w2 => v = none ∧ b < w.1 ∧ w2 = wset (wnew w (b5 Γ 16 (fun _ => 0))) b (.inr (12, [.ref w.1, .int 0, .int 0, .int 0]))) zNo := by
  refine Ct.of (by decide) rfl (Nat.le_of_ble_eq_true rfl) ?_
  refine go_aload_n 1 dJ4_init_da8c8_0 rfl ?_
  refine go_bipush 3 dJ4_init_da8c8_1 zb_16 ?_
  refine go_callI 6 [.int 16] dJ4_init_da8c8_3 vJ4_1 (ct_J5_initB h) (by decide) (by decide) (by omega) (by omega) (by exact Nat.le_of_ble_eq_true rfl) ?_
  rintro _ w2 ⟨rfl, hq⟩
  exact go_return dJ4_init_da8c8_6 rfl (by omega) (by omega) ⟨rfl, hq⟩
theorem ct_J5_length {l : Launch} {Γ : ZG} {w : ZW} {b a : Nat} {ml c : Int32} (hb : w.2 b = some (.inr (12, [.ref a, .int 0, .int ml, .int c]))) : Cm l Γ mJ5_length_8abf5 1 [.ref b] w (some (.int c)) w := by
  refine Cm.of (by decide) rfl (Nat.le_of_ble_eq_true rfl) ?_
  refine go_aload_n 1 dJ5_length_8abf5_0 rfl ?_
  refine go_get 4 dJ5_length_8abf5_1 fJ5_79 hb rfl ?_
  exact go_ireturn dJ5_length_8abf5_4 rfl (by omega) (by omega) ⟨rfl, rfl⟩
theorem ct_J4_length {l : Launch} {Γ : ZG} {w : ZW} {b a : Nat} {ml c : Int32} (hb : w.2 b = some (.inr (12, [.ref a, .int 0, .int ml, .int c]))) : Cm l Γ mJ4_length_8abf5 2 [.ref b] w (some (.int c)) w := by
  refine Cm.of (by decide) rfl (Nat.le_of_ble_eq_true rfl) ?_
  refine go_aload_n 1 dJ4_length_8abf5_0 rfl ?_
  refine go_callU 4 [] dJ4_length_8abf5_1 uvJ4_343 hb (ct_J5_length hb) (by decide) (by decide) (by omega) (by omega) (by exact Nat.le_of_ble_eq_true rfl) ?_
  rintro _ w2 ⟨rfl, rfl⟩
  exact go_ireturn dJ4_length_8abf5_4 rfl (by omega) (by omega) ⟨rfl, rfl⟩
theorem ct_J5_getValue {l : Launch} {Γ : ZG} {w : ZW} {b a : Nat} {ml c : Int32} (hb : w.2 b = some (.inr (12, [.ref a, .int 0, .int ml, .int c]))) : Cm l Γ mJ5_getValue_6d5f1 1 [.ref b] w (some (.ref a)) w := by
  refine Cm.of (by decide) rfl (Nat.le_of_ble_eq_true rfl) ?_
  refine go_aload_n 1 dJ5_getValue_6d5f1_0 rfl ?_
  refine go_get 4 dJ5_getValue_6d5f1_1 fJ5_15 hb rfl ?_
  exact go_aref dJ5_getValue_6d5f1_4 rfl (by omega) (by omega) ⟨rfl, rfl⟩

theorem go_callL {l : Launch} {Γ : ZG} {M : ZM} {dp mc ms : Nat} {Φ : Option Value → ZW → Prop} {Ψ : String → ZW → Prop} {k n : Nat} {w : ZW} {pc : Nat} {L : ZL} {st : List Value} {b a : Nat} {ml c : Int32} (pc' : Nat) (hM : M.1.cls = RJ0) (hd : decode M.2.1 pc = .ok (.invokevirtual 549, 3)) (hb : w.2 b = some (.inr (12, [.ref a, .int 0, .int ml, .int c]))) (hdp : 3 ≤ dp) (h1 : k ≤ mc) (h2 : n ≤ ms) (hst : (st.map fun v => v.category).sum ≤ 8) (kk : Go l Γ M dp mc ms Φ Ψ k n w pc' L (.int c :: st)) (hp : pc + 3 = pc' := by rfl) : Go l Γ M dp mc ms Φ Ψ k n w pc L (.ref b :: st) := by
  subst hp
  intro p e s m args below meth cc C H locs ls hl hH hS
  have hct := ct_J4_length (l := l) (Γ := Γ) hb
  have hrec := zrecv C hH hb (show (vwCl[12]?).map (fun q => q.1) = some RJ4 from rfl)
  obtain ⟨v4, v5, v6, v7⟩ := kJ4_length_8abf5
  have c1 : Cond.methodLink M.1.cls 549 mJ5_length_8abf5.1 ∈ zGood := by rw [hM]; exact zGood.mem 1322 (by decide +kernel) rfl
  have c2 : Cond.sameMethod mJ5_length_8abf5.1.cls "java/lang/AbstractStringBuilder" mJ5_length_8abf5.1.name mJ5_length_8abf5.1.desc ∈ zGood := zGood.mem 1324 (by decide +kernel) rfl
  have c3 : Cond.instanceMethod ⟨"java/lang/AbstractStringBuilder", mJ5_length_8abf5.1.name, mJ5_length_8abf5.1.desc⟩ ∈ zGood := zGood.mem 1323 (by decide +kernel) rfl
  have c4 : Cond.selects RJ4 mJ5_length_8abf5.1 mJ4_length_8abf5.1 ∈ zGood := zGood.mem 1325 (by decide +kernel) rfl
  have c5 : Cond.instanceMethod mJ4_length_8abf5.1 ∈ zGood := zGood.mem 1326 (by decide +kernel) rfl
  have hT : GoodIn (zwA M) (va_wsO M.1.cls 549 RJ4 "java/lang/AbstractStringBuilder" mJ5_length_8abf5.1 mJ4_length_8abf5.1 (zwA mJ4_length_8abf5)) := zwA.sub (fun x hx => by
    rcases List.mem_append.mp hx with h | h
    · simp only [List.mem_cons, List.not_mem_nil, or_false] at h
      rcases h with rfl | rfl | rfl | rfl | rfl | rfl <;> assumption
    · exact zwA.of v4 x h)
  have h0 : Cond.code ⟨"java/lang/AbstractStringBuilder", mJ5_length_8abf5.1.name, mJ5_length_8abf5.1.desc⟩ mJ5_length_8abf5.2.1 mJ5_length_8abf5.2.2.1 mJ5_length_8abf5.2.2.2.1 ∈ zwA M := List.mem_cons_of_mem _ kJ5_length_8abf5.1
  refine zrun C hl hS (va_runU (C := RJ4) (owner := "java/lang/AbstractStringBuilder") (x := mJ5_length_8abf5.1) (As := []) ⟨C.1, C.2.1, C.2.2.1, C.own, C.2.2.2.2.1⟩ (zMet (hct C.2.2.2.2.2.2.2.2.2.2.2)) (va_cwO 0 C.2.2.2.2.1 hT (zwA.eq rfl) rfl rfl h0 ⟨by decide, by decide, by decide +kernel⟩ (zroom hdp (by decide))) ⟨zPc.blind, hrec, zpre C hH hS⟩ rfl rfl hl.1 rfl (by show 2 * 0 + _ ≤ 8; omega) hd ⟨h1, h2⟩) ?_
  rintro v w2 ⟨rfl, rfl⟩
  exact kk

theorem bcLink : Cond.methodLink RJ7 310 ⟨"[B", "clone", "()Ljava/lang/Object;"⟩ ∈ zGood := zGood.mem 1219 (by decide +kernel) rfl

theorem bcSame : Cond.sameMethod "[B" "java/lang/Object" "clone" "()Ljava/lang/Object;" ∈ zGood := zGood.mem 1220 (by decide +kernel) rfl

theorem bcSel : Cond.selects "[B" ⟨"[B", "clone", "()Ljava/lang/Object;"⟩ ⟨"java/lang/Object", "clone", "()Ljava/lang/Object;"⟩ ∈ zGood := zGood.mem 1221 (by decide +kernel) rfl

theorem bcCast : Cond.castable "[B" "java/lang/Cloneable" ∈ zNest := zNest.mem 1179 (by decide +kernel) rfl

theorem bcCl : Cond.classLink RJ7 311 "[B" ∈ zGood := zGood.mem 1223 (by decide +kernel) rfl

section
variable {l : Launch} {Γ : ZG} {M : ZM} {dp mc ms : Nat} {Φ : Option Value → ZW → Prop} {Ψ : String → ZW → Prop} {k n : Nat} {w0 w : ZW} {pc : Nat} {L : ZL} {st : List Value}
theorem go_cloneB {a N : Nat} {f : Nat → Int32} (pc' : Nat) (hd : decode M.2.1 pc = .ok (.invokevirtual 310, 3)) (hM : M.1.cls = RJ7) (hw : w.2 a = some (b5 Γ N f)) (hf : sb_Fit f) (hdp : 1 ≤ dp) (hc1 : k + 1 ≤ mc) (hs1 : n + N ≤ ms) (hst : (st.map fun v => v.category).sum ≤ 8) (kk : Go l Γ M dp mc ms Φ Ψ (k + 1) (n + N) (wnew w (b5 Γ N f)) pc' L (.ref w.1 :: st)) (hp : pc + 3 = pc' := by rfl) : Go l Γ M dp mc ms Φ Ψ k n w pc L (.ref a :: st) := by
  subst hp
  intro p e s m args below meth c C H locs ls hl hH hS
  obtain ⟨-, hat⟩ := hH.2.2 a _ hw
  have hat : H[a]? = some (vp_cell (Γ.2.2.1 1) (N, .inl f)) := hat
  obtain ⟨hAr, hNm⟩ := C.arr 1 rfl
  have hNm : s.vm.findClass "[B" = some (Γ.2.2.1 1) := hNm
  obtain ⟨c0, t0, f1, f2, f3⟩ := Cond.castable_spec (va_Nw.use (A := args) rfl (C.stat.2.1 _ bcCast))
  cases hNm.symm.trans f1
  have hsz : (vp_cell (Γ.2.2.1 1) (N, .inl f)).slots.size = N := arrV_size _ _ _
  have hown : s.vm.findClass RJ7 = some m.cls := by rw [← hM]; exact C.own
  intro T hT X
  obtain ⟨-, kA, hkA, comp, hkind⟩ := State.isArrayOf_alike X.warmed.alike (hAr 0 (fun _ => .null))
  obtain ⟨-, kS, hkS, compS, hkindS⟩ := hAr 0 (fun _ => .null)
  obtain ⟨vm', X', hx⟩ := X.cloneArray C.1 hown (C.good bcLink) (C.good bcSame) (C.good icNat) (C.good icInst) (C.good bcSel) (a := a) (cell := vp_cell (Γ.2.2.1 1) (N, .inl f)) (by rw [hT]; exact hat) (fun _ z => by cases z) (fun z => by cases z) hNm f2 f3
    (fun i v hv => by
      have hv : (arrV (Γ.2.2.1 1) N (fun j => .int (f j))).slots[i]? = some v := hv
      have hk' : T.vm.classes[Γ.2.2.1 1]? = some kA := hkA
      by_cases hi : i < N
      · rw [arrV_read _ _ hi] at hv
        cases hv
        show State.fitsSlot T (Γ.2.2.1 1) _ i (.int (f i)) = true
        have := hf i
        simpa [State.fitsSlot, State.slotType?, hk', hkind] using this
      · rw [Array.getElem?_eq_none (by rw [arrV_size]; omega)] at hv
        cases hv)
    (g := F0 m pc ls (.ref a :: st)) rfl (hl.1.trans C.2.2.1.symm) rfl (by rw [C.2.1]; exact hd) hdp (by show 2 * 0 + _ + 14 ≤ 64 * dp; omega) hc1 (by rw [hsz]; exact hs1) (hloader := Vm.clonesLoader_of_array hkS hkindS)
  have hTs : T.heap.size = w.1 := by rw [hT]; exact hH.1
  rw [hsz] at X'
  generalize hH1 : H.push (vp_cell (Γ.2.2.1 1) (N, .inl f)) = H1
  have z1 : H1.size = H.size + 1 := by rw [← hH1, Array.size_push]
  have e1 : H1[H.size]? = some (vp_cell (Γ.2.2.1 1) (N, .inl f)) := by rw [← hH1, Array.getElem?_push_size]
  have o1 : ∀ q : Nat, q < H.size → H1[q]? = H[q]? := fun q hq => by rw [← hH1, Array.getElem?_push, if_neg (Nat.ne_of_lt hq)]
  obtain ⟨t, b1, b2⟩ := kk p e s m args below meth c C H1 locs ls hl (hH.push e1 z1 o1) ⟨Nat.le_trans hS.1 (by omega), fun x g1 g2 => (o1 x (Nat.lt_of_lt_of_le g1 hS.1)).trans (hS.2.1 x g1 g2), hS.2.2⟩ ((T.setVm vm').pushCell (vp_cell (Γ.2.2.1 1) (N, .inl f))) (by rw [← hH1, ← hT]; rfl) X'
  refine ⟨t, hx t ?_, b2⟩
  rw [hTs]
  exact b1
theorem go_castB {a N : Nat} {f : Nat → Int32} (pc' : Nat) (hd : decode M.2.1 pc = .ok (.checkcast 311, 3)) (hM : M.1.cls = RJ7) (hw : w.2 a = some (b5 Γ N f)) (kk : Go l Γ M dp mc ms Φ Ψ k n w pc' L (.ref a :: st)) (hp : pc + 3 = pc' := by rfl) : Go l Γ M dp mc ms Φ Ψ k n w pc L (.ref a :: st) := by
  subst hp
  exact fun p e s m args below meth c C H locs ls hl hH hS => va_castA C.1 C.2.1 C.own (C.good (by rw [hM]; exact bcCl)) (zH.one hH hw) 0 rfl (C.arr 1 rfl).2 hd (kk p e s m args below meth c C H locs ls hl hH hS)
end
theorem mnN {n m : Nat} (h : n ≤ m) (hm : m < 2 ^ 31) : (if nI n < nI m then nI n else nI m) = nI n := by
  by_cases hz : n < m
  · rw [if_pos ((nI_ltI (by omega) hm).mpr hz)]
  · rw [if_neg (fun z => hz ((nI_ltI (by omega) hm).mp z)), show m = n by omega]
theorem ct_J7_checkLength {l : Launch} {Γ : ZG} {w : ZW} {n : Nat} (hn : n < 2 ^ 31) : Cm l Γ mJ7_checkLength_df160 1 [.int 0, .int (nI n)] w none w := by
  refine Cm.of (by decide) rfl (Nat.le_of_ble_eq_true rfl) ?_
  refine go_iload_n 1 dJ7_checkLength_df160_0 rfl ?_
  refine go_iload_n 2 dJ7_checkLength_df160_1 rfl ?_
  refine go_icmp_ge 37 5 dJ7_checkLength_df160_2 (fun _ => ?_) (fun h => absurd (nI_pos' hn) h)
  exact go_return dJ7_checkLength_df160_37 rfl (by omega) (by omega) ⟨rfl, rfl⟩
/-- a row of bytes that begins as another -/
def NewB (Γ : ZG) (w w2 : ZW) (n : Nat) (f : Nat → Int32) : Prop := w2.1 = w.1 + 1 ∧ (∀ x, x < w.1 → w2.2 x = w.2 x) ∧ ∃ f2, w2.2 w.1 = some (b5 Γ n f2) ∧ ∀ j, j < n → f2 j = f j

set_option maxRecDepth 100000 in
set_option maxHeartbeats 4000000 in
theorem ct_J7_rangeByte {l : Launch} {Γ : ZG} {w : ZW} {a m n : Nat} {f : Nat → Int32} (ha : w.2 a = some (b5 Γ m f)) (hf : sb_Fit f) (hm : m ≤ 200) (hn : n ≤ m) : Ct l Γ mJ7_copyOfRangeByte_39247 2 1 200 [.ref a, .int 0, .int (nI n)] w (fun v w2 => v = some (.ref w.1) ∧ NewB Γ w w2 n f) zNo := by
  refine Ct.of (by decide) rfl (Nat.le_of_ble_eq_true rfl) (go_wf fun hw => ?_)
  have hal := hw _ _ ha
  refine go_iload_n 1 dJ7_copyOfRangeByte_39247_0 rfl ?_
  refine go_iload_n 2 dJ7_copyOfRangeByte_39247_1 rfl ?_
  refine gcS2v 5 dJ7_copyOfRangeByte_39247_2 vJ7_343 (ct_J7_checkLength (by omega)) ?_
  refine go_iload_n 6 dJ7_copyOfRangeByte_39247_5 rfl ?_
  refine go_iload_n 7 dJ7_copyOfRangeByte_39247_6 rfl ?_
  refine go_isub 8 dJ7_copyOfRangeByte_39247_7 ?_
  refine go_istore_n 9 dJ7_copyOfRangeByte_39247_8 (by decide) ?_
  refine go_iload_n 10 dJ7_copyOfRangeByte_39247_9 rfl ?_
  refine go_newarray_b (N := n) 12 dJ7_copyOfRangeByte_39247_10 (by rw [Int32.sub_zero]) (by omega) (by omega) (by omega) ac_byte ?_
  refine go_astore 14 dJ7_copyOfRangeByte_39247_12 (by decide) ?_
  refine go_aload_n 15 dJ7_copyOfRangeByte_39247_14 rfl ?_
  refine go_iload_n 16 dJ7_copyOfRangeByte_39247_15 rfl ?_
  refine go_aload 18 dJ7_copyOfRangeByte_39247_16 rfl ?_
  refine go_iconst 19 dJ7_copyOfRangeByte_39247_18 zc_0 ?_
  refine go_aload_n 20 dJ7_copyOfRangeByte_39247_19 rfl ?_
  refine go_lenB 21 dJ7_copyOfRangeByte_39247_20 (Or.inl ((wnew_lt hal).trans ha)) ?_
  refine go_iload_n 22 dJ7_copyOfRangeByte_39247_21 rfl ?_
  refine go_isub 23 dJ7_copyOfRangeByte_39247_22 ?_
  refine go_iload_n 24 dJ7_copyOfRangeByte_39247_23 rfl ?_
  refine go_min 27 dJ7_copyOfRangeByte_39247_24 gmJ7_304 (by decide) (by omega) (by omega) (by exact Nat.le_of_ble_eq_true rfl) ?_
  rw [Int32.sub_zero, Int32.sub_zero, mnN hn (by omega)]
  refine go_copyB (sp := 0) (dq := 0) 30 dJ7_copyOfRangeByte_39247_27 acLink (Or.inl ((wnew_lt hal).trans ha)) wnew_at' (by omega) (by omega) (fun i _ => hf _) (by omega) (by omega) (by decide) (by exact Nat.le_of_ble_eq_true rfl) ?_
  refine go_aload 32 dJ7_copyOfRangeByte_39247_30 rfl ?_
  exact go_aref dJ7_copyOfRangeByte_39247_32 rfl (by omega) (by omega) (⟨rfl, rfl, fun x hx => (if_neg (by omega)).trans (wnew_lt hx), _, wset_at, fun j hj => cpy0 hj⟩)

set_option maxRecDepth 100000 in
set_option maxHeartbeats 4000000 in
theorem ct_J7_range {l : Launch} {Γ : ZG} {w : ZW} {a m n : Nat} {f : Nat → Int32} (ha : w.2 a = some (b5 Γ m f)) (hf : sb_Fit f) (hm : m ≤ 200) (hn : n ≤ m) : Ct l Γ mJ7_copyOfRange_39247 3 1 200 [.ref a, .int 0, .int (nI n)] w (fun v w2 => v = some (.ref w.1) ∧ NewB Γ w w2 n f) zNo := by
  refine Ct.of (by decide) rfl (Nat.le_of_ble_eq_true rfl) ?_
  refine go_iload_n 1 dJ7_copyOfRange_39247_0 rfl ?_
  refine go_if_ne 10 4 dJ7_copyOfRange_39247_1 (fun h1 => ?_) (fun h1 => ?_)
  · exact absurd h1 (by decide)
  · refine go_iload_n 5 dJ7_copyOfRange_39247_4 rfl ?_
    refine go_aload_n 6 dJ7_copyOfRange_39247_5 rfl ?_
    refine go_lenB 7 dJ7_copyOfRange_39247_6 (Or.inl ha) ?_
    refine go_icmp_eq 17 10 dJ7_copyOfRange_39247_7 (fun h7 => ?_) (fun h7 => ?_)
    · refine go_aload_n 18 dJ7_copyOfRange_39247_17 rfl ?_
      refine go_cloneB 21 dJ7_copyOfRange_39247_18 rfl ha hf (by decide) (by omega) (by omega) (by exact Nat.le_of_ble_eq_true rfl) ?_
      refine go_castB 24 dJ7_copyOfRange_39247_21 rfl wnew_at' ?_
      exact go_aref dJ7_copyOfRange_39247_24 rfl (by omega) (by omega) (⟨rfl, rfl, fun x hx => wnew_lt hx, f, by rw [show n = m from (nI_eq (by omega) (by omega)).mp h7]; exact wnew_at', fun _ _ => rfl⟩)
    · refine go_aload_n 11 dJ7_copyOfRange_39247_10 rfl ?_
      refine go_iload_n 12 dJ7_copyOfRange_39247_11 rfl ?_
      refine go_iload_n 13 dJ7_copyOfRange_39247_12 rfl ?_
      refine go_callS 16 [.ref a, .int 0, .int (nI n)] dJ7_copyOfRange_39247_13 vJ7_339 rfl (ct_J7_rangeByte ha hf hm hn) (by decide) (by decide) (by omega) (by omega) (by exact Nat.le_of_ble_eq_true rfl) ?_
      rintro _ w2 ⟨rfl, hq⟩
      exact go_aref dJ7_copyOfRange_39247_16 rfl (by omega) (by omega) (⟨rfl, hq⟩)

end LSbt
