section LSb

theorem gJ5_18 : Cond.fieldLink RJ5 18 "java/lang/String" "COMPACT_STRINGS" "Z" ∈ zGood := zGood.mem 1164 (by decide +kernel) rfl

theorem gJ6_83 : Cond.fieldLink RJ6 83 "java/lang/Integer" "DigitOnes" "[B" ∈ zGood := zGood.mem 1292 (by decide +kernel) rfl

theorem gJ6_87 : Cond.fieldLink RJ6 87 "java/lang/Integer" "DigitTens" "[B" ∈ zGood := zGood.mem 1294 (by decide +kernel) rfl

theorem acJ0_212 : Cond.methodLink RJ0 212 arraycopyName ∈ zGood := zGood.mem 1277 (by decide +kernel) rfl

theorem pvJ5_100 : zVp RJ5 100 mJ5_ensureCapacityInternal_d00df 1 := ⟨zGood.mem 1197 (by decide +kernel) rfl, zGood.mem 1199 (by decide +kernel) rfl, zNest.mem 1155 (by decide +kernel) rfl, rfl, kJ5_ensureCapacityInternal_d00df, by decide +kernel, rfl⟩

theorem pvJ5_104 : zVp RJ5 104 mJ5_newCapacity_0f7a4 1 := ⟨zGood.mem 1201 (by decide +kernel) rfl, zGood.mem 1203 (by decide +kernel) rfl, zNest.mem 1159 (by decide +kernel) rfl, rfl, kJ5_newCapacity_0f7a4, by decide +kernel, rfl⟩

theorem pvJ5_208 : zVp RJ5 208 mJ5_putStringAt_47b60 2 := ⟨zGood.mem 1245 (by decide +kernel) rfl, zGood.mem 1247 (by decide +kernel) rfl, zNest.mem 1203 (by decide +kernel) rfl, rfl, kJ5_putStringAt_47b60, by decide +kernel, rfl⟩

theorem pvJ5_397 : zVp RJ5 397 mJ5_inflateIfNeededFor_a7421 1 := ⟨zGood.mem 1249 (by decide +kernel) rfl, zGood.mem 1251 (by decide +kernel) rfl, zNest.mem 1207 (by decide +kernel) rfl, rfl, kJ5_inflateIfNeededFor_a7421, by decide +kernel, rfl⟩

theorem maxIStat : Cond.static Lib.Math.max.name ∈ zGood := zGood.mem 1209 (by decide +kernel) rfl

theorem maxICode : Cond.code Lib.Math.max.name Lib.Math.max.code 2 (some .int) ∈ zGood := zGood.mem 1210 (by decide +kernel) rfl

theorem gmJ8_194 : Cond.methodLink RJ8 194 Lib.Math.max.name ∈ zGood := zGood.mem 1208 (by decide +kernel) rfl

theorem go_maxI {l : Launch} {Γ : ZG} {M : ZM} {dp mc ms : Nat} {Φ : Option Value → ZW → Prop} {Ψ : String → ZW → Prop} {k n : Nat} {w : ZW} {pc : Nat} {L : ZL} {st : List Value} {index : Nat} {x y : Int32} (pc' : Nat) (hd : decode M.2.1 pc = .ok (.invokestatic index, 3)) (hlk : Cond.methodLink M.1.cls index Lib.Math.max.name ∈ zGood) (hdp : 1 ≤ dp) (hk : k ≤ mc) (hn : n ≤ ms) (hst : (st.map fun v => v.category).sum ≤ 8) (kk : Go l Γ M dp mc ms Φ Ψ k n w pc' L (.int (if x < y then y else x) :: st)) (hp : pc + 3 = pc' := by rfl) : Go l Γ M dp mc ms Φ Ψ k n w pc L (.int y :: .int x :: st) := by
  subst hp
  intro p e s m args below meth c C H locs ls hl hH hS
  exact va_mmax C.1 C.2.1 (by rw [C.2.2.1]; exact hl.1.symm) C.own (C.good hlk) (C.good maxIStat) (C.good minIni) (C.good maxICode) hdp (by show _ + 13 ≤ 64 * dp; omega) hk hn hd (kk p e s m args below meth c C H locs ls hl hH hS)

theorem mxN {a b : Nat} (ha : a < 2 ^ 31) (hb : b < 2 ^ 31) : (if nI a < nI b then nI b else nI a) = nI (if a < b then b else a) := by
  by_cases h : a < b
  · rw [if_pos h, if_pos ((nI_ltI ha hb).mpr h)]
  · rw [if_neg h, if_neg (fun z => h ((nI_ltI ha hb).mp z))]
def nwL (m q : Nat) : Nat := m + (if q - m < m + 2 then m + 2 else q - m)

set_option maxRecDepth 100000 in
set_option maxHeartbeats 4000000 in
theorem ct_J8_newLength {l : Launch} {Γ : ZG} {w : ZW} {m q : Nat} (hm : m < 1000000) (hq : q < 1000000) : Cm l Γ mJ8_newLength_cabcc 2 [.int (nI m), .int (nI (q - m)), .int (nI (m + 2))] w (some (.int (nI (nwL m q)))) w := by
  refine Cm.of (by decide) rfl (Nat.le_of_ble_eq_true rfl) ?_
  have hb : nwL m q < 3000003 := by unfold nwL; split <;> omega
  refine go_iload_n 1 dJ8_newLength_cabcc_0 rfl ?_
  refine go_iload_n 2 dJ8_newLength_cabcc_1 rfl ?_
  refine go_iload_n 3 dJ8_newLength_cabcc_2 rfl ?_
  refine go_maxI 6 dJ8_newLength_cabcc_3 gmJ8_194 (by decide) (by omega) (by omega) (by exact Nat.le_of_ble_eq_true rfl) ?_
  rw [show (if nI (q - m) < nI (m + 2) then nI (m + 2) else nI (q - m)) = nI (if q - m < m + 2 then m + 2 else q - m) from mxN (by omega) (by omega)]
  refine go_iadd 7 dJ8_newLength_cabcc_6 ?_
  rw [nI_add, show m + (if q - m < m + 2 then m + 2 else q - m) = nwL m q from rfl]
  refine go_istore_n 8 dJ8_newLength_cabcc_7 (by decide) ?_
  refine go_iconst 9 dJ8_newLength_cabcc_8 zc_0 ?_
  refine go_iload_n 10 dJ8_newLength_cabcc_9 rfl ?_
  refine go_icmp_ge 21 13 dJ8_newLength_cabcc_10 (fun h10 => ?_) (fun h10 => ?_)
  · exact absurd h10 (nI_nle (by unfold nwL; split <;> omega) (by omega))
  · refine go_iload_n 14 dJ8_newLength_cabcc_13 rfl ?_
    refine go_ldc 16 dJ8_newLength_cabcc_14 ciJ8_200 ?_
    refine go_icmp_gt 21 19 dJ8_newLength_cabcc_16 (fun h16 => ?_) (fun h16 => ?_)
    · exact absurd h16 (nI_nlt (a := 2147483639) (b := nwL m q) (by omega) (by decide))
    · refine go_iload_n 20 dJ8_newLength_cabcc_19 rfl ?_
      exact go_ireturn dJ8_newLength_cabcc_20 rfl (by omega) (by omega) (⟨rfl, rfl⟩)

set_option maxRecDepth 100000 in
set_option maxHeartbeats 4000000 in
theorem ct_J5_newCapacity {l : Launch} {Γ : ZG} {w : ZW} {b a m q : Nat} {ml c : Int32} {f : Nat → Int32} (hb : w.2 b = some (.inr (12, [.ref a, .int 0, .int ml, .int c]))) (ha : w.2 a = some (b5 Γ m f)) (hmq : m ≤ q) (hq : q < 1000000) : Cm l Γ mJ5_newCapacity_0f7a4 3 [.ref b, .int (nI q)] w (some (.int (nI (nwL m q)))) w := by
  refine Cm.of (by decide) rfl (Nat.le_of_ble_eq_true rfl) ?_
  have hb9 : nwL m q < 3000003 := by unfold nwL; split <;> omega
  refine go_aload_n 1 dJ5_newCapacity_0f7a4_0 rfl ?_
  refine go_get 4 dJ5_newCapacity_0f7a4_1 fJ5_15 hb rfl ?_
  refine go_lenB 5 dJ5_newCapacity_0f7a4_4 (Or.inl ha) ?_
  refine go_istore_n 6 dJ5_newCapacity_0f7a4_5 (by decide) ?_
  refine go_iload_n 7 dJ5_newCapacity_0f7a4_6 rfl ?_
  refine go_aload_n 8 dJ5_newCapacity_0f7a4_7 rfl ?_
  refine go_get 11 dJ5_newCapacity_0f7a4_8 fJ5_22 hb rfl ?_
  refine go_ishl 12 dJ5_newCapacity_0f7a4_11 ?_
  rw [sb_shl0]
  refine go_istore_n 13 dJ5_newCapacity_0f7a4_12 (by decide) ?_
  refine go_iload_n 14 dJ5_newCapacity_0f7a4_13 rfl ?_
  refine go_iload_n 15 dJ5_newCapacity_0f7a4_14 rfl ?_
  refine go_isub 16 dJ5_newCapacity_0f7a4_15 ?_
  rw [nI_sub hmq]
  refine go_istore 18 dJ5_newCapacity_0f7a4_16 (by decide) ?_
  refine go_iload_n 19 dJ5_newCapacity_0f7a4_18 rfl ?_
  refine go_iload 21 dJ5_newCapacity_0f7a4_19 rfl ?_
  refine go_iload_n 22 dJ5_newCapacity_0f7a4_21 rfl ?_
  refine go_iconst 23 dJ5_newCapacity_0f7a4_22 zc_2 ?_
  refine go_aload_n 24 dJ5_newCapacity_0f7a4_23 rfl ?_
  refine go_get 27 dJ5_newCapacity_0f7a4_24 fJ5_22 hb rfl ?_
  refine go_ishl 28 dJ5_newCapacity_0f7a4_27 ?_
  rw [sb_shl0]
  refine go_iadd 29 dJ5_newCapacity_0f7a4_28 ?_
  rw [show (2 : Int32) = nI 2 from rfl, nI_add]
  refine gcS3 32 dJ5_newCapacity_0f7a4_29 vJ5_114 (ct_J8_newLength (by omega) (by omega)) ?_
  refine go_istore 34 dJ5_newCapacity_0f7a4_32 (by decide) ?_
  refine go_iload 36 dJ5_newCapacity_0f7a4_34 rfl ?_
  refine go_ldc 38 dJ5_newCapacity_0f7a4_36 ciJ5_39 ?_
  refine go_icmp_ne 51 41 dJ5_newCapacity_0f7a4_38 (fun h38 => ?_) (fun h38 => ?_)
  · refine go_iload 53 dJ5_newCapacity_0f7a4_51 rfl ?_
    refine go_aload_n 54 dJ5_newCapacity_0f7a4_53 rfl ?_
    refine go_get 57 dJ5_newCapacity_0f7a4_54 fJ5_22 hb rfl ?_
    refine go_ishr 58 dJ5_newCapacity_0f7a4_57 ?_
    rw [sb_shr0]
    exact go_ireturn dJ5_newCapacity_0f7a4_58 rfl (by omega) (by omega) (⟨rfl, rfl⟩)
  · exact absurd ((nI_eq (b := 2147483647) (by omega) (by decide)).mp h38) (by omega)

set_option maxRecDepth 100000 in
set_option maxHeartbeats 4000000 in
theorem ct_copyOfB {l : Launch} {Γ : ZG} {w : ZW} {a m q : Nat} {f : Nat → Int32} (ha : w.2 a = some (b5 Γ m f)) (hf : sb_Fit f) (hmq : m < q) (hq : q ≤ 65536) : Ct l Γ mJ7_copyOf_9075b 2 1 q [.ref a, .int (nI q)] w (fun v w2 => v = some (.ref w.1) ∧ w2 = wset (wnew w (b5 Γ q (fun _ => 0))) w.1 (b5 Γ q (va_cpy f (fun _ => 0) 0 0 m))) zNo := by
  refine Ct.of (by decide) rfl (Nat.le_of_ble_eq_true rfl) (go_wf fun hw => ?_)
  have hal := hw _ _ ha
  refine go_iload_n 1 dJ7_copyOf_9075b_0 rfl ?_
  refine go_aload_n 2 dJ7_copyOf_9075b_1 rfl ?_
  refine go_lenB 3 dJ7_copyOf_9075b_2 (Or.inl ha) ?_
  refine go_icmp_ne 14 6 dJ7_copyOf_9075b_3 (fun h3 => ?_) (fun h3 => ?_)
  · refine go_iload_n 15 dJ7_copyOf_9075b_14 rfl ?_
    refine go_newarray_b (N := q) 17 dJ7_copyOf_9075b_15 rfl (by omega) (by omega) (by omega) ac_byte ?_
    refine go_astore_n 18 dJ7_copyOf_9075b_17 (by decide) ?_
    refine go_aload_n 19 dJ7_copyOf_9075b_18 rfl ?_
    refine go_iconst 20 dJ7_copyOf_9075b_19 zc_0 ?_
    refine go_aload_n 21 dJ7_copyOf_9075b_20 rfl ?_
    refine go_iconst 22 dJ7_copyOf_9075b_21 zc_0 ?_
    refine go_aload_n 23 dJ7_copyOf_9075b_22 rfl ?_
    refine go_lenB 24 dJ7_copyOf_9075b_23 (Or.inl ((wnew_lt hal).trans ha)) ?_
    refine go_iload_n 25 dJ7_copyOf_9075b_24 rfl ?_
    refine go_min 28 dJ7_copyOf_9075b_25 gmJ7_304 (by decide) (by omega) (by omega) (by exact Nat.le_of_ble_eq_true rfl) ?_
    rw [if_neg (nI_nlt (show m ≤ q by omega) (by omega))]
    refine go_copyB (sp := 0) (dq := 0) 31 dJ7_copyOf_9075b_28 acLink (Or.inl ((wnew_lt hal).trans ha)) wnew_at' (by omega) (by omega) (fun i _ => hf _) (by omega) (by omega) (by decide) (by exact Nat.le_of_ble_eq_true rfl) ?_
    refine go_aload_n 32 dJ7_copyOf_9075b_31 rfl ?_
    exact go_aref dJ7_copyOf_9075b_32 rfl (by omega) (by omega) (⟨rfl, rfl⟩)
  · exact absurd h3 (fun z => by have := (nI_eq (by omega) (by omega)).mp z; omega)

theorem cpy0 {f g : Nat → Int32} {m j : Nat} (h : j < m) : va_cpy f g 0 0 m j = f j := by
  unfold va_cpy
  rw [if_pos ⟨Nat.zero_le _, by omega⟩, Nat.zero_add, Nat.sub_zero]

set_option maxRecDepth 100000 in
set_option maxHeartbeats 4000000 in
theorem ct_J5_ensure {l : Launch} {Γ : ZG} {w : ZW} {b a m q : Nat} {ml c : Int32} {f : Nat → Int32} (hb : w.2 b = some (.inr (12, [.ref a, .int 0, .int ml, .int c]))) (ha : w.2 a = some (b5 Γ m f)) (hf : sb_Fit f) (hm : m ≤ 200) (hq : q ≤ 100) : Ct l Γ mJ5_ensureCapacityInternal_d00df 4 1 200 [.ref b, .int (nI q)] w (fun v w2 => v = none ∧ w.1 ≤ w2.1 ∧ (∀ x, x < w.1 → x ≠ b → w2.2 x = w.2 x) ∧ ∃ (a' m' : Nat) (f' : Nat → Int32), w2.2 b = some (.inr (12, [.ref a', .int 0, .int ml, .int c])) ∧ w2.2 a' = some (b5 Γ m' f') ∧ q ≤ m' ∧ m ≤ m' ∧ m' ≤ 200 ∧ sb_Fit f' ∧ (∀ j, j < m → f' j = f j) ∧ (a' = a ∨ w.1 ≤ a')) zNo := by
  refine Ct.of (by decide) rfl (Nat.le_of_ble_eq_true rfl) (go_wf fun hw => ?_)
  have hbl := hw _ _ hb
  have hal := hw _ _ ha
  have hnm : m < q → q ≤ nwL m q ∧ m < nwL m q ∧ nwL m q ≤ 200 := fun z => by unfold nwL; split <;> omega
  refine go_aload_n 1 dJ5_ensureCapacityInternal_d00df_0 rfl ?_
  refine go_get 4 dJ5_ensureCapacityInternal_d00df_1 fJ5_15 hb rfl ?_
  refine go_lenB 5 dJ5_ensureCapacityInternal_d00df_4 (Or.inl ha) ?_
  refine go_aload_n 6 dJ5_ensureCapacityInternal_d00df_5 rfl ?_
  refine go_get 9 dJ5_ensureCapacityInternal_d00df_6 fJ5_22 hb rfl ?_
  refine go_ishr 10 dJ5_ensureCapacityInternal_d00df_9 ?_
  rw [sb_shr0]
  refine go_istore_n 11 dJ5_ensureCapacityInternal_d00df_10 (by decide) ?_
  refine go_iload_n 12 dJ5_ensureCapacityInternal_d00df_11 rfl ?_
  refine go_iload_n 13 dJ5_ensureCapacityInternal_d00df_12 rfl ?_
  refine go_isub 14 dJ5_ensureCapacityInternal_d00df_13 ?_
  refine go_if_le 38 17 dJ5_ensureCapacityInternal_d00df_14 (fun h14 => ?_) (fun h14 => ?_)
  · exact go_return dJ5_ensureCapacityInternal_d00df_38 rfl (by omega) (by omega) (⟨rfl, Nat.le_refl _, fun _ _ _ => rfl, a, m, f, hb, ha, Nat.le_of_not_lt fun z => absurd h14 (by rw [nI_sub (by omega)]; exact nI_nle (by omega) (by omega)), Nat.le_refl _, hm, hf, fun _ _ => rfl, Or.inl rfl⟩)
  · have hmq : m < q := Nat.lt_of_not_le fun z => h14 (by rw [Int32.le_iff_toInt_le, pk_sub_toInt (by omega) (by omega), Int32.toInt_zero]; omega)
    refine go_aload_n 18 dJ5_ensureCapacityInternal_d00df_17 rfl ?_
    refine go_aload_n 19 dJ5_ensureCapacityInternal_d00df_18 rfl ?_
    refine go_get 22 dJ5_ensureCapacityInternal_d00df_19 fJ5_15 hb rfl ?_
    refine go_aload_n 23 dJ5_ensureCapacityInternal_d00df_22 rfl ?_
    refine go_iload_n 24 dJ5_ensureCapacityInternal_d00df_23 rfl ?_
    refine go_callP 27 [.int (nI q)] dJ5_ensureCapacityInternal_d00df_24 pvJ5_104 hb (ct_J5_newCapacity hb ha (by omega) (by omega)) (by decide) (by decide) (by omega) (by omega) (by exact Nat.le_of_ble_eq_true rfl) ?_
    rintro _ w9 ⟨rfl, hw9⟩
    obtain rfl := hw9.symm
    refine go_aload_n 28 dJ5_ensureCapacityInternal_d00df_27 rfl ?_
    refine go_get 31 dJ5_ensureCapacityInternal_d00df_28 fJ5_22 hb rfl ?_
    refine go_ishl 32 dJ5_ensureCapacityInternal_d00df_31 ?_
    rw [sb_shl0]
    refine go_callS 35 [.ref a, .int (nI (nwL m q))] dJ5_ensureCapacityInternal_d00df_32 vJ5_108 rfl (ct_copyOfB ha hf (by omega) (by omega)) (by decide) (by decide) (by omega) (by omega) (by exact Nat.le_of_ble_eq_true rfl) ?_
    rintro _ w9 ⟨rfl, hw9⟩
    obtain rfl := hw9.symm
    have hb2 : (wset (wnew w (b5 Γ (nwL m q) (fun _ => 0))) w.1 (b5 Γ (nwL m q) (va_cpy f (fun _ => 0) 0 0 m))).2 b = some (.inr (12, [.ref a, .int 0, .int ml, .int c])) := (if_neg (by omega)).trans ((wnew_lt hbl).trans hb)
    refine go_put 38 dJ5_ensureCapacityInternal_d00df_35 pJ5_15 hb2 (by exact (show 0 < 4 by decide)) rfl rfl ?_
    exact go_return dJ5_ensureCapacityInternal_d00df_38 rfl (by omega) (by omega) (⟨rfl, Nat.le_succ _, fun x h1 h2 => (if_neg h2).trans ((if_neg (by omega)).trans (wnew_lt h1)), w.1, nwL m q, va_cpy f (fun _ => 0) 0 0 m, wset_at, (if_neg (by omega)).trans wset_at, (hnm hmq).1, by have := hnm hmq; omega, (hnm hmq).2.2, sb_fitC hf sb_fit0, fun j hj => cpy0 hj, Or.inr (Nat.le_refl _)⟩)

set_option maxRecDepth 100000 in
set_option maxHeartbeats 4000000 in
theorem ct_str_coder {l : Launch} {Γ : ZG} {w : ZW} {r : Nat} {tx : List Nat} (hr : StrAt Γ w r tx) : Cm l Γ mJ0_coder_7d493 1 [.ref r] w (some (.int 0)) w := by
  refine Cm.of (by decide) rfl (Nat.le_of_ble_eq_true rfl) ?_
  refine go_getCS 3 dJ0_coder_7d493_0 gJ0_38 ?_
  refine go_if_eq 13 6 dJ0_coder_7d493_3 (fun h => absurd h (by decide)) (fun _ => ?_)
  refine go_aload_n 7 dJ0_coder_7d493_6 rfl ?_
  refine go_getStrC 10 dJ0_coder_7d493_7 hr gJ0_15 fJ0_15 ?_
  refine go_goto 14 dJ0_coder_7d493_10 ?_
  exact go_nreturn dJ0_coder_7d493_14 rfl (by omega) (by omega) rfl ⟨rfl, rfl⟩

set_option maxRecDepth 100000 in
set_option maxHeartbeats 4000000 in
theorem ct_str_length {l : Launch} {Γ : ZG} {w : ZW} {r : Nat} {tx : List Nat} (hr : StrAt Γ w r tx) : Cm l Γ mJ0_length_8abf5 2 [.ref r] w (some (.int (nI tx.length))) w := by
  refine Cm.of (by decide) rfl (Nat.le_of_ble_eq_true rfl) ?_
  refine go_aload_n 1 dJ0_length_8abf5_0 rfl ?_
  refine go_getStrV 4 dJ0_length_8abf5_1 hr gJ0_9 fJ0_9 (fun a f hs hb => ?_)
  refine go_lenB 5 dJ0_length_8abf5_4 hs ?_
  refine go_aload_n 6 dJ0_length_8abf5_5 rfl ?_
  refine go_callStr 9 [] dJ0_length_8abf5_6 vJ0_335 hr rfl (ct_str_coder hr) (by decide) (by decide) (by omega) (by omega) (by exact Nat.le_of_ble_eq_true rfl) ?_
  rintro _ w9 ⟨rfl, hw9⟩
  obtain rfl := hw9.symm
  refine go_ishr 10 dJ0_length_8abf5_9 ?_
  rw [sb_shr0]
  exact go_ireturn dJ0_length_8abf5_10 rfl (by omega) (by omega) ⟨rfl, rfl⟩

theorem asc_get {tx : List Nat} {i : Nat} (hi : i < tx.length) : tx.getD i 0 ∈ tx := by
  rw [List.getD_eq_getElem?_getD, List.getElem?_eq_getElem hi]
  exact List.getElem_mem hi

set_option maxRecDepth 100000 in
set_option maxHeartbeats 4000000 in
theorem ct_str_getBytes {l : Launch} {Γ : ZG} {w : ZW} {r : Nat} {tx : List Nat} (hr : StrAt Γ w r tx) {d dq N1 : Nat} {g : Nat → Int32} (hd1 : w.2 d = some (b5 Γ N1 g)) (hfit : dq + tx.length ≤ N1) (hN1 : N1 < 2 ^ 31) : Ct l Γ mJ0_getBytes_840e7 2 0 0 [.ref r, .ref d, .int (nI dq), .int 0] w (fun v w2 => v = none ∧ ∃ f, BOf f tx ∧ w2 = wset w d (b5 Γ N1 (va_cpy f g 0 dq tx.length))) zNo := by
  refine Ct.of (by decide) rfl (Nat.le_of_ble_eq_true rfl) ?_
  refine go_aload_n 1 dJ0_getBytes_840e7_0 rfl ?_
  refine go_callStr 4 [] dJ0_getBytes_840e7_1 vJ0_335 hr rfl (ct_str_coder hr) (by decide) (by decide) (by omega) (by omega) (by exact Nat.le_of_ble_eq_true rfl) ?_
  rintro _ w9 ⟨rfl, hw9⟩
  obtain rfl := hw9.symm
  refine go_iload_n 5 dJ0_getBytes_840e7_4 rfl ?_
  refine go_icmp_ne 28 8 dJ0_getBytes_840e7_5 (fun h5 => ?_) (fun h5 => ?_)
  · exact absurd h5 (by decide)
  · refine go_aload_n 9 dJ0_getBytes_840e7_8 rfl ?_
    refine go_getStrV 12 dJ0_getBytes_840e7_9 hr gJ0_9 fJ0_9 (fun a_ f_ hs_ hb_ => ?_)
    refine go_iconst 13 dJ0_getBytes_840e7_12 zc_0 ?_
    refine go_aload_n 14 dJ0_getBytes_840e7_13 rfl ?_
    refine go_iload_n 15 dJ0_getBytes_840e7_14 rfl ?_
    refine go_iload_n 16 dJ0_getBytes_840e7_15 rfl ?_
    refine go_ishl 17 dJ0_getBytes_840e7_16 ?_
    rw [sb_shl0]
    refine go_aload_n 18 dJ0_getBytes_840e7_17 rfl ?_
    refine go_getStrV 21 dJ0_getBytes_840e7_18 hr gJ0_9 fJ0_9 (fun a2_ f2_ hs2_ hb2_ => ?_)
    refine go_lenB 22 dJ0_getBytes_840e7_21 hs2_ ?_
    refine go_copyB (sp := 0) (dq := dq) 25 dJ0_getBytes_840e7_22 acJ0_212 hs_ hd1 (by omega) hfit (fun i hi => by rw [Nat.zero_add, hb_ i hi]; exact fit_asc (hr.1 _ (asc_get hi))) (by omega) (by omega) (by decide) (by exact Nat.le_of_ble_eq_true rfl) ?_
    refine go_goto 43 dJ0_getBytes_840e7_25 ?_
    exact go_return dJ0_getBytes_840e7_43 rfl (by omega) (by omega) (⟨rfl, f_, hb_, rfl⟩)

/-- a builder, made since w0, that holds a text; its two cells are tagged 8 -/
def SBn (Γ : ZG) (w0 w : ZW) (T : LT) (b : Nat) (tx : List Nat) : Prop := Asc tx ∧ ∃ a m f ml, Nc w0 w T b (.inr (12, [.ref a, .int 0, .int ml, .int (nI tx.length)])) 8 ∧ Nc w0 w T a (b5 Γ m f) 8 ∧ tx.length ≤ m ∧ m ≤ 200 ∧ sb_Fit f ∧ BOf f tx
theorem asc_app {s t : List Nat} (h : Asc s) (h2 : Asc t) : Asc (s ++ t) := fun c hc => by
  rcases List.mem_append.mp hc with z | z
  · exact h c z
  · exact h2 c z
theorem bof_app {s t : List Nat} {f f' : Nat → Int32} (h : BOf f s) (h2 : ∀ j, j < s.length → f' j = f j) (h3 : ∀ j, j < t.length → f' (s.length + j) = nI (t.getD j 0)) : BOf f' (s ++ t) := fun j hj => by
  rw [List.length_append] at hj
  rw [List.getD_eq_getElem?_getD]
  by_cases hs : j < s.length
  · rw [h2 j hs, h j hs, List.getElem?_append_left hs, List.getD_eq_getElem?_getD]
  · rw [List.getElem?_append_right (by omega), ← List.getD_eq_getElem?_getD]
    have := h3 (j - s.length) (by omega)
    rw [← this]
    congr 1
    omega
theorem sb_ne {Γ : ZG} {w : ZW} {b a N : Nat} {c : Nat × List Value} {f : Nat → Int32} (h1 : w.2 b = some (.inr c)) (h2 : w.2 a = some (b5 Γ N f)) : a ≠ b := fun z => by rw [z, h1] at h2; cases h2
theorem fitC2 {f g : Nat → Int32} {q n : Nat} (hf : ∀ i, i < n → fits .byte (.int (f i)) = true) (hg : sb_Fit g) : sb_Fit (va_cpy f g 0 q n) := fun j => by
  unfold va_cpy
  by_cases h : q ≤ j ∧ j < q + n
  · rw [if_pos h, Nat.zero_add]; exact hf _ (by omega)
  · rw [if_neg h]; exact hg j

set_option maxRecDepth 100000 in
set_option maxHeartbeats 4000000 in
theorem ct_J5_inflate {l : Launch} {Γ : ZG} {w : ZW} {b a : Nat} {ml c : Int32} (hb : w.2 b = some (.inr (12, [.ref a, .int 0, .int ml, .int c]))) {r : Nat} {tx : List Nat} (hr : StrAt Γ w r tx) : Cm l Γ mJ5_inflateIfNeededFor_a7421 2 [.ref b, .ref r] w none w := by
  refine Cm.of (by decide) rfl (Nat.le_of_ble_eq_true rfl) ?_
  refine go_getCS 3 dJ5_inflateIfNeededFor_a7421_0 gJ5_18 ?_
  refine go_if_eq 21 6 dJ5_inflateIfNeededFor_a7421_3 (fun h3 => ?_) (fun h3 => ?_)
  · exact absurd h3 (by decide)
  · refine go_aload_n 7 dJ5_inflateIfNeededFor_a7421_6 rfl ?_
    refine go_get 10 dJ5_inflateIfNeededFor_a7421_7 fJ5_22 hb rfl ?_
    refine go_aload_n 11 dJ5_inflateIfNeededFor_a7421_10 rfl ?_
    refine go_callStr 14 [] dJ5_inflateIfNeededFor_a7421_11 vJ5_40 hr rfl (ct_str_coder hr) (by decide) (by decide) (by omega) (by omega) (by exact Nat.le_of_ble_eq_true rfl) ?_
    rintro _ w9 ⟨rfl, hw9⟩
    obtain rfl := hw9.symm
    refine go_icmp_eq 21 17 dJ5_inflateIfNeededFor_a7421_14 (fun h14 => ?_) (fun h14 => ?_)
    · exact go_return dJ5_inflateIfNeededFor_a7421_21 rfl (by omega) (by omega) (⟨rfl, rfl⟩)
    · exact absurd h14 (by decide)

set_option maxRecDepth 100000 in
set_option maxHeartbeats 4000000 in
theorem ct_J5_putStringAt {l : Launch} {Γ : ZG} {w : ZW} {b a m q : Nat} {ml c : Int32} {f : Nat → Int32} (hb : w.2 b = some (.inr (12, [.ref a, .int 0, .int ml, .int c]))) (ha : w.2 a = some (b5 Γ m f)) (hm : m ≤ 200) {r : Nat} {tx : List Nat} (hr : StrAt Γ w r tx) (hfit : q + tx.length ≤ m) : Ct l Γ mJ5_putStringAt_47b60 3 0 0 [.ref b, .int (nI q), .ref r] w (fun v w2 => v = none ∧ ∃ f9, BOf f9 tx ∧ w2 = wset w a (b5 Γ m (va_cpy f9 f 0 q tx.length))) zNo := by
  refine Ct.of (by decide) rfl (Nat.le_of_ble_eq_true rfl) ?_
  refine go_aload_n 1 dJ5_putStringAt_47b60_0 rfl ?_
  refine go_aload_n 2 dJ5_putStringAt_47b60_1 rfl ?_
  refine go_callP 5 [.ref r] dJ5_putStringAt_47b60_2 pvJ5_397 hb (ct_J5_inflate hb hr) (by decide) (by decide) (by omega) (by omega) (by exact Nat.le_of_ble_eq_true rfl) ?_
  rintro _ w9 ⟨rfl, hw9⟩
  obtain rfl := hw9.symm
  refine go_aload_n 6 dJ5_putStringAt_47b60_5 rfl ?_
  refine go_aload_n 7 dJ5_putStringAt_47b60_6 rfl ?_
  refine go_get 10 dJ5_putStringAt_47b60_7 fJ5_15 hb rfl ?_
  refine go_iload_n 11 dJ5_putStringAt_47b60_10 rfl ?_
  refine go_aload_n 12 dJ5_putStringAt_47b60_11 rfl ?_
  refine go_get 15 dJ5_putStringAt_47b60_12 fJ5_22 hb rfl ?_
  refine go_callStr 18 [.ref a, .int (nI q), .int 0] dJ5_putStringAt_47b60_15 vJ5_399 hr rfl (ct_str_getBytes hr ha hfit (by omega)) (by decide) (by decide) (by omega) (by omega) (by exact Nat.le_of_ble_eq_true rfl) ?_
  rintro _ w2 ⟨rfl, f9, hb9, rfl⟩
  exact go_return dJ5_putStringAt_47b60_18 rfl (by omega) (by omega) (⟨rfl, f9, hb9, rfl⟩)

theorem StrAt.ens {Γ : ZG} {w w2 : ZW} {r b : Nat} {ty : List Nat} {c : Nat × List Value} (h : StrAt Γ w r ty) (hb : w.2 b = some (.inr c)) (hbl : c.1 = 12) (hk : ∀ x, x < w.1 → x ≠ b → w2.2 x = w.2 x) (hw : WF w) : StrAt Γ w2 r ty := by
  obtain ⟨h0, h | ⟨a, f, hh, z, g1, g2, g3⟩⟩ := h
  · exact ⟨h0, Or.inl h⟩
  · refine ⟨h0, Or.inr ⟨a, f, hh, z, (hk r (hw _ _ g1) (fun q => ?_)).trans g1, (hk a (hw _ _ g2) (sb_ne hb g2)).trans g2, g3⟩⟩
    rw [q, hb] at g1
    cases g1
    cases hbl
theorem StrAt.fr {Γ : ZG} {w w2 : ZW} {T T2 : LT} {r : Nat} {ty : List Nat} {P : Nat → Prop} (h : StrAt Γ w r ty) (hk : Kq w T w2 T2 P) (hT : ∀ c, w.2 r = some c → P (T r)) (hT2 : ∀ a f h z, w.2 r = some (.inr (11, [.ref a, .int 0, .int h, .int z])) → w.2 a = some (b5 Γ ty.length f) → P (T a)) : StrAt Γ w2 r ty := by
  obtain ⟨h0, h | ⟨a, f, hh, z, g1, g2, g3⟩⟩ := h
  · exact ⟨h0, Or.inl h⟩
  · exact ⟨h0, Or.inr ⟨a, f, hh, z, (hk _ _ g1 (hT _ g1)).1, (hk _ _ g2 (hT2 _ _ _ _ g1 g2)).1, g3⟩⟩

set_option maxRecDepth 100000 in
set_option maxHeartbeats 4000000 in
theorem ct_J5_appendS {l : Launch} {Γ : ZG} {w : ZW} {w0 : ZW} {T0 T : LT} {b r : Nat} {tx ty : List Nat} (bw : BW w0 T0 w T) (hs : SBn Γ w0 w T b tx) (hr : StrAt Γ w r ty) (hlen : tx.length + ty.length ≤ 100) : Ct l Γ mJ5_append_cf1ce 5 1 200 [.ref b, .ref r] w (fun v w2 => v = some (.ref b) ∧ ∃ T2, BW w0 T0 w2 T2 ∧ SBn Γ w0 w2 T2 b (tx ++ ty) ∧ Kq w T w2 T2 (fun z => z ≠ 8)) zNo := by
  refine Ct.of (by decide) rfl (Nat.le_of_ble_eq_true rfl) (go_wf fun hw => ?_)
  obtain ⟨hs0, a, m, f, ml, hb, ha, hm1, hm, hf, hbo⟩ := hs
  have hbl : ((12, [.ref a, .int 0, .int ml, .int (nI tx.length)]) : Nat × List Value).1 = 12 := rfl
  have hbl0 := hw _ _ hb.1
  refine go_aload_n 1 dJ5_append_cf1ce_0 rfl ?_
  refine go_ifnonnull 9 dJ5_append_cf1ce_1 ?_
  refine go_aload_n 10 dJ5_append_cf1ce_9 rfl ?_
  refine go_callStr 13 [] dJ5_append_cf1ce_10 vJ5_32 hr rfl (ct_str_length hr) (by decide) (by decide) (by omega) (by omega) (by exact Nat.le_of_ble_eq_true rfl) ?_
  rintro _ w9 ⟨rfl, hw9⟩
  obtain rfl := hw9.symm
  refine go_istore_n 14 dJ5_append_cf1ce_13 (by decide) ?_
  refine go_aload_n 15 dJ5_append_cf1ce_14 rfl ?_
  refine go_aload_n 16 dJ5_append_cf1ce_15 rfl ?_
  refine go_get 19 dJ5_append_cf1ce_16 fJ5_79 hb.1 rfl ?_
  refine go_iload_n 20 dJ5_append_cf1ce_19 rfl ?_
  refine go_iadd 21 dJ5_append_cf1ce_20 ?_
  rw [nI_add]
  refine go_callP 24 [.int (nI (tx.length + ty.length))] dJ5_append_cf1ce_21 pvJ5_100 hb.1 (ct_J5_ensure hb.1 ha.1 hf hm (by omega)) (by decide) (by decide) (by omega) (by omega) (by exact Nat.le_of_ble_eq_true rfl) ?_
  rintro _ w2 ⟨rfl, z1, z2, a', m', f', hb2, ha2, z3, z4, z5, z6, z7, z8⟩
  have hr2 : StrAt Γ w2 r ty := hr.ens hb.1 hbl z2 hw
  refine go_aload_n 25 dJ5_append_cf1ce_24 rfl ?_
  refine go_aload_n 26 dJ5_append_cf1ce_25 rfl ?_
  refine go_get 29 dJ5_append_cf1ce_26 fJ5_79 hb2 rfl ?_
  refine go_aload_n 30 dJ5_append_cf1ce_29 rfl ?_
  refine go_callP 33 [.int (nI tx.length), .ref r] dJ5_append_cf1ce_30 pvJ5_208 hb2 (ct_J5_putStringAt hb2 ha2 z5 hr2 (by omega)) (by decide) (by decide) (by omega) (by omega) (by exact Nat.le_of_ble_eq_true rfl) ?_
  rintro _ w3 ⟨rfl, f9, hb9, rfl⟩
  have hne := sb_ne hb2 ha2
  have hb3 : (wset w2 a' (b5 Γ m' (va_cpy f9 f' 0 tx.length ty.length))).2 b = some (.inr (12, [.ref a', .int 0, .int ml, .int (nI tx.length)])) := (if_neg (fun z => hne z.symm)).trans hb2
  refine go_aload_n 34 dJ5_append_cf1ce_33 rfl ?_
  refine go_dup 35 dJ5_append_cf1ce_34 rfl ?_
  refine go_get 38 dJ5_append_cf1ce_35 fJ5_79 hb3 rfl ?_
  refine go_iload_n 39 dJ5_append_cf1ce_38 rfl ?_
  refine go_iadd 40 dJ5_append_cf1ce_39 ?_
  rw [nI_add]
  refine go_put 43 dJ5_append_cf1ce_40 pJ5_79 hb3 (by exact (show 3 < 4 by decide)) rfl rfl ?_
  refine go_aload_n 44 dJ5_append_cf1ce_43 rfl ?_
  exact go_aref dJ5_append_cf1ce_44 rfl (by omega) (by omega) (by
    have hw2 : w.1 ≤ w2.1 := z1
    have hba : b < w.1 := hbl0
    refine ⟨rfl, (fun q => if w.1 ≤ q then 8 else T q), ⟨Nat.le_trans bw.1 z1, fun q hq => ?_⟩, ⟨asc_app hs0 hr.1, a', m', va_cpy f9 f' 0 tx.length ty.length, ml, ⟨?_, ?_, hb.2.2⟩, ⟨?_, ?_, ?_⟩, ?_, z5, ?_, ?_⟩, fun q c h1 h2 => ?_⟩
    · have hqb : q ≠ b := fun z => by have := hb.2.2; omega
      have hqa : q ≠ a' := fun z => by have := ha.2.2; have := bw.1; rcases z8 with y | y <;> omega
      have hqw : q < w.1 := Nat.lt_of_lt_of_le hq bw.1
      exact ⟨(if_neg hqb).trans ((if_neg hqa).trans ((z2 q hqw hqb).trans (bw.2 q hq).1)), (if_neg (by omega)).trans (bw.2 q hq).2⟩
    · rw [List.length_append, wset_at]
      rfl
    · exact (if_neg (by omega)).trans hb.2.1
    · exact (if_neg hne).trans wset_at
    · rcases z8 with y | y
      · rw [y]; exact (if_neg (by have := hw _ _ ha.1; omega)).trans ha.2.1
      · exact if_pos y
    · rcases z8 with y | y
      · rw [y]; exact ha.2.2
      · exact Nat.le_trans bw.1 y
    · rw [List.length_append]; exact z3
    · exact fitC2 (fun i hi => by rw [hb9 i hi]; exact fit_asc (hr.1 _ (asc_get hi))) z6
    · refine bof_app (f := f) hbo (fun j hj => ?_) (fun j hj => ?_)
      · unfold va_cpy
        rw [if_neg (by omega)]
        exact z7 j (by omega)
      · unfold va_cpy
        rw [if_pos (by omega), Nat.zero_add, Nat.add_sub_cancel_left]
        exact hb9 j hj
    · have hq := hw q c h1
      have hqb : q ≠ b := fun z => h2 (by rw [z]; exact hb.2.1)
      have hqa : q ≠ a' := fun z => by
        rcases z8 with y | y
        · exact h2 (by rw [z, y]; exact ha.2.1)
        · omega
      exact ⟨(if_neg hqb).trans ((if_neg hqa).trans ((z2 q hq hqb).trans h1)), if_neg (by omega)⟩)

theorem uvJ4_29 : zVu RJ4 29 mJ5_append_cf1ce 1 := ⟨zGood.mem 1190 (by decide +kernel) rfl, zGood.mem 1191 (by decide +kernel) rfl, rfl, rfl, by decide, kJ5_append_cf1ce, by decide +kernel, rfl⟩

theorem uvJ4_53 : zVu RJ4 53 mJ5_append_c97b9 1 := ⟨zGood.mem 1283 (by decide +kernel) rfl, zGood.mem 1284 (by decide +kernel) rfl, rfl, rfl, by decide, kJ5_append_c97b9, by decide +kernel, rfl⟩

theorem uvJ4_343 : zVu RJ4 343 mJ5_length_8abf5 0 := ⟨zGood.mem 1328 (by decide +kernel) rfl, zGood.mem 1323 (by decide +kernel) rfl, rfl, rfl, by decide, kJ5_length_8abf5, by decide +kernel, rfl⟩

theorem hvJ5_83 : zVh RJ5 83 mJ5_isLatin1_aae02 0 := ⟨zGood.mem 1224 (by decide +kernel) rfl, zGood.mem 1225 (by decide +kernel) rfl, zGood.mem 1226 (by decide +kernel) rfl, zGood.mem 1227 (by decide +kernel) rfl, kJ5_isLatin1_aae02, by decide +kernel, rfl⟩

theorem hvJ0_552 : zVh RJ0 552 mJ5_getValue_6d5f1 0 := ⟨zGood.mem 1317 (by decide +kernel) rfl, zGood.mem 1318 (by decide +kernel) rfl, zGood.mem 1319 (by decide +kernel) rfl, zGood.mem 1320 (by decide +kernel) rfl, kJ5_getValue_6d5f1, by decide +kernel, rfl⟩

theorem hvJ0_1047 : zVh RJ0 1047 mJ5_isLatin1_aae02 0 := ⟨zGood.mem 1330 (by decide +kernel) rfl, zGood.mem 1225 (by decide +kernel) rfl, zGood.mem 1226 (by decide +kernel) rfl, zGood.mem 1227 (by decide +kernel) rfl, kJ5_isLatin1_aae02, by decide +kernel, rfl⟩

set_option maxRecDepth 100000 in
set_option maxHeartbeats 4000000 in
theorem ct_J4_appendS {l : Launch} {Γ : ZG} {w : ZW} {w0 : ZW} {T0 T : LT} {b r : Nat} {tx ty : List Nat} (bw : BW w0 T0 w T) (hs : SBn Γ w0 w T b tx) (hr : StrAt Γ w r ty) (hlen : tx.length + ty.length ≤ 100) : Ct l Γ mJ4_append_15ec4 6 1 200 [.ref b, .ref r] w (fun v w2 => v = some (.ref b) ∧ ∃ T2, BW w0 T0 w2 T2 ∧ SBn Γ w0 w2 T2 b (tx ++ ty) ∧ Kq w T w2 T2 (fun z => z ≠ 8)) zNo := by
  refine Ct.of (by decide) rfl (Nat.le_of_ble_eq_true rfl) ?_
  have hbc := hs.2.choose_spec.choose_spec.choose_spec.choose_spec.1.1
  refine go_aload_n 1 dJ4_append_15ec4_0 rfl ?_
  refine go_aload_n 2 dJ4_append_15ec4_1 rfl ?_
  refine go_callU 5 [.ref r] dJ4_append_15ec4_2 uvJ4_29 hbc (ct_J5_appendS bw hs hr hlen) (by decide) (by decide) (by omega) (by omega) (by exact Nat.le_of_ble_eq_true rfl) ?_
  rintro _ w2 ⟨rfl, hq⟩
  refine go_pop 6 dJ4_append_15ec4_5 rfl ?_
  refine go_aload_n 7 dJ4_append_15ec4_6 rfl ?_
  exact go_aref dJ4_append_15ec4_7 rfl (by omega) (by omega) (⟨rfl, hq⟩)

theorem ng_le {x c : Nat} (hx : x ≤ 100000) (hc : c ≤ 100000) : -nI x ≤ -nI c ↔ c ≤ x := by
  have e : ∀ y, y ≤ 100000 → (-nI y).toInt = -(y : Int) := fun y hy => by
    rw [← Int32.zero_sub, show (0 : Int32) = nI 0 from rfl, pk_sub_toInt (by omega) (by omega)]
    omega
  rw [Int32.le_iff_toInt_le, e x hx, e c hc]
  omega
theorem dec_len {x : Nat} : (dec x).length = if x < 10 then 1 else if x < 100 then 2 else if x < 1000 then 3 else 4 := by
  unfold dec
  split
  · rfl
  · split
    · rfl
    · split <;> rfl

set_option maxRecDepth 100000 in
set_option maxHeartbeats 4000000 in
theorem ct_J6_stringSize {l : Launch} {Γ : ZG} {w : ZW} {x : Nat} (hx : x ≤ 9999) : Cm l Γ mJ6_stringSize_0f7a4 1 [.int (nI x)] w (some (.int (nI (dec x).length))) w := by
  refine Cm.of (by decide) rfl (Nat.le_of_ble_eq_true rfl) ?_
  refine go_iconst 1 dJ6_stringSize_0f7a4_0 zc_1 ?_
  refine go_istore_n 2 dJ6_stringSize_0f7a4_1 (by decide) ?_
  refine go_iload_n 3 dJ6_stringSize_0f7a4_2 rfl ?_
  refine go_if_lt 11 6 dJ6_stringSize_0f7a4_3 (fun h => absurd h (nI_pos (by omega))) (fun _ => ?_)
  refine go_iconst 7 dJ6_stringSize_0f7a4_6 zc_0 ?_
  refine go_istore_n 8 dJ6_stringSize_0f7a4_7 (by decide) ?_
  refine go_iload_n 9 dJ6_stringSize_0f7a4_8 rfl ?_
  refine go_ineg 10 dJ6_stringSize_0f7a4_9 ?_
  refine go_istore_n 11 dJ6_stringSize_0f7a4_10 (by decide) ?_
  refine go_bipush 13 dJ6_stringSize_0f7a4_11 zb_m10 ?_
  refine go_istore_n 14 dJ6_stringSize_0f7a4_13 (by decide) ?_
  refine go_iconst 15 dJ6_stringSize_0f7a4_14 zc_1 ?_
  refine go_istore_n 16 dJ6_stringSize_0f7a4_15 (by decide) ?_
  refine go_iload_n 17 dJ6_stringSize_0f7a4_16 rfl ?_
  refine go_bipush 19 dJ6_stringSize_0f7a4_17 zb_10 ?_
  refine go_icmp_ge 42 22 dJ6_stringSize_0f7a4_19 (fun h => absurd h (by decide)) (fun _ => ?_)
  refine go_iload_n 23 dJ6_stringSize_0f7a4_22 rfl ?_
  refine go_iload_n 24 dJ6_stringSize_0f7a4_23 rfl ?_
  refine go_icmp_le 31 27 dJ6_stringSize_0f7a4_24 (fun h1 => ?_) (fun h1 => ?_)
  · have g1 : 10 ≤ x := (ng_le (c := 10) (by omega) (by decide)).mp h1
    refine go_bipush 33 dJ6_stringSize_0f7a4_31 zb_10 ?_
    refine go_iload_n 34 dJ6_stringSize_0f7a4_33 rfl ?_
    refine go_imul 35 dJ6_stringSize_0f7a4_34 ?_
    rw [show (10 : Int32) * -10 = -100 from by decide]
    refine go_istore_n 36 dJ6_stringSize_0f7a4_35 (by decide) ?_
    refine go_iinc 39 dJ6_stringSize_0f7a4_36 rfl (by decide) zc_1 ?_
    refine go_goto 16 dJ6_stringSize_0f7a4_39 ?_
    refine go_iload_n 17 dJ6_stringSize_0f7a4_16 rfl ?_
    refine go_bipush 19 dJ6_stringSize_0f7a4_17 zb_10 ?_
    refine go_icmp_ge 42 22 dJ6_stringSize_0f7a4_19 (fun h => absurd h (by decide)) (fun _ => ?_)
    refine go_iload_n 23 dJ6_stringSize_0f7a4_22 rfl ?_
    refine go_iload_n 24 dJ6_stringSize_0f7a4_23 rfl ?_
    refine go_icmp_le 31 27 dJ6_stringSize_0f7a4_24 (fun h2 => ?_) (fun h2 => ?_)
    · have g2 : 100 ≤ x := (ng_le (c := 100) (by omega) (by decide)).mp h2
      refine go_bipush 33 dJ6_stringSize_0f7a4_31 zb_10 ?_
      refine go_iload_n 34 dJ6_stringSize_0f7a4_33 rfl ?_
      refine go_imul 35 dJ6_stringSize_0f7a4_34 ?_
      rw [show (10 : Int32) * -100 = -1000 from by decide]
      refine go_istore_n 36 dJ6_stringSize_0f7a4_35 (by decide) ?_
      refine go_iinc 39 dJ6_stringSize_0f7a4_36 rfl (by decide) zc_1 ?_
      refine go_goto 16 dJ6_stringSize_0f7a4_39 ?_
      refine go_iload_n 17 dJ6_stringSize_0f7a4_16 rfl ?_
      refine go_bipush 19 dJ6_stringSize_0f7a4_17 zb_10 ?_
      refine go_icmp_ge 42 22 dJ6_stringSize_0f7a4_19 (fun h => absurd h (by decide)) (fun _ => ?_)
      refine go_iload_n 23 dJ6_stringSize_0f7a4_22 rfl ?_
      refine go_iload_n 24 dJ6_stringSize_0f7a4_23 rfl ?_
      refine go_icmp_le 31 27 dJ6_stringSize_0f7a4_24 (fun h3 => ?_) (fun h3 => ?_)
      · have g3 : 1000 ≤ x := (ng_le (c := 1000) (by omega) (by decide)).mp h3
        refine go_bipush 33 dJ6_stringSize_0f7a4_31 zb_10 ?_
        refine go_iload_n 34 dJ6_stringSize_0f7a4_33 rfl ?_
        refine go_imul 35 dJ6_stringSize_0f7a4_34 ?_
        rw [show (10 : Int32) * -1000 = -10000 from by decide]
        refine go_istore_n 36 dJ6_stringSize_0f7a4_35 (by decide) ?_
        refine go_iinc 39 dJ6_stringSize_0f7a4_36 rfl (by decide) zc_1 ?_
        refine go_goto 16 dJ6_stringSize_0f7a4_39 ?_
        refine go_iload_n 17 dJ6_stringSize_0f7a4_16 rfl ?_
        refine go_bipush 19 dJ6_stringSize_0f7a4_17 zb_10 ?_
        refine go_icmp_ge 42 22 dJ6_stringSize_0f7a4_19 (fun h => absurd h (by decide)) (fun _ => ?_)
        refine go_iload_n 23 dJ6_stringSize_0f7a4_22 rfl ?_
        refine go_iload_n 24 dJ6_stringSize_0f7a4_23 rfl ?_
        refine go_icmp_le 31 27 dJ6_stringSize_0f7a4_24 (fun h4 => ?_) (fun h4 => ?_)
        · exact absurd ((ng_le (c := 10000) (by omega) (by decide)).mp h4) (by omega)
        · have g4 : x < 10000 := Nat.lt_of_not_le fun z => h4 ((ng_le (c := 10000) (by omega) (by decide)).mpr z)
          refine go_iload_n 28 dJ6_stringSize_0f7a4_27 rfl ?_
          refine go_iload_n 29 dJ6_stringSize_0f7a4_28 rfl ?_
          refine go_iadd 30 dJ6_stringSize_0f7a4_29 ?_
          exact go_ireturn dJ6_stringSize_0f7a4_30 rfl (by omega) (by omega) ⟨by rw [dec_len]; simp only [show ¬ x < 10 from by omega, show ¬ x < 100 from by omega, show ¬ x < 1000 from by omega, if_true, if_false]; decide, rfl⟩
      · have g3 : x < 1000 := Nat.lt_of_not_le fun z => h3 ((ng_le (c := 1000) (by omega) (by decide)).mpr z)
        refine go_iload_n 28 dJ6_stringSize_0f7a4_27 rfl ?_
        refine go_iload_n 29 dJ6_stringSize_0f7a4_28 rfl ?_
        refine go_iadd 30 dJ6_stringSize_0f7a4_29 ?_
        exact go_ireturn dJ6_stringSize_0f7a4_30 rfl (by omega) (by omega) ⟨by rw [dec_len]; simp only [show ¬ x < 10 from by omega, show ¬ x < 100 from by omega, show x < 1000 from by omega, if_true, if_false]; decide, rfl⟩
    · have g2 : x < 100 := Nat.lt_of_not_le fun z => h2 ((ng_le (c := 100) (by omega) (by decide)).mpr z)
      refine go_iload_n 28 dJ6_stringSize_0f7a4_27 rfl ?_
      refine go_iload_n 29 dJ6_stringSize_0f7a4_28 rfl ?_
      refine go_iadd 30 dJ6_stringSize_0f7a4_29 ?_
      exact go_ireturn dJ6_stringSize_0f7a4_30 rfl (by omega) (by omega) ⟨by rw [dec_len]; simp only [show ¬ x < 10 from by omega, show x < 100 from by omega, if_true, if_false]; decide, rfl⟩
  · have g1 : x < 10 := Nat.lt_of_not_le fun z => h1 ((ng_le (c := 10) (by omega) (by decide)).mpr z)
    refine go_iload_n 28 dJ6_stringSize_0f7a4_27 rfl ?_
    refine go_iload_n 29 dJ6_stringSize_0f7a4_28 rfl ?_
    refine go_iadd 30 dJ6_stringSize_0f7a4_29 ?_
    exact go_ireturn dJ6_stringSize_0f7a4_30 rfl (by omega) (by omega) ⟨by rw [dec_len]; simp only [show x < 10 from by omega, if_true, if_false]; decide, rfl⟩

end LSb
