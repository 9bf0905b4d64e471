section Strs
/-! String constants: their length and their signs, by the JDK's own methods -/
variable {l : Launch} {Γ : ZG} {M M' : ZM} {dp mc ms d' : Nat} {Φ Φ' : Option Value → ZW → Prop} {Ψ : String → ZW → Prop} {k n : Nat} {w : ZW} {pc : Nat} {L : ZL} {st : List Value}
theorem zStr_len : ∀ q ∈ zStr, q.2.2.length < 600 := by decide +kernel
theorem go_callVS {index : Nat} {q : String × Nat × String} (pc' : Nat) (As : List Value) (hd : decode M.2.1 pc = .ok (.invokevirtual index, 3)) (V : zV M.1.cls index M' As.length) (hq : q ∈ zStr) (hc : M'.1.cls = "java/lang/String") (hct : Ct l Γ M' d' 0 0 (.ref (Γ.2.2.2.1 q.1 q.2.1) :: As) w Φ' zNo) (hdp : d' + 1 ≤ dp) (hL : M'.2.2.1 ≤ 40) (h1 : k ≤ mc) (h2 : n ≤ ms) (hst : (st.map fun v => v.category).sum ≤ 8)
    (kk : ∀ (v : Option Value) (w' : ZW), Φ' v w' → Go l Γ M dp mc ms Φ Ψ k n w' pc' L (v.toList ++ st)) (hp : pc + 3 = pc' := by rfl) : Go l Γ M dp mc ms Φ Ψ k n w pc L (As.reverse ++ .ref (Γ.2.2.2.1 q.1 q.2.1) :: st) := by
  subst hp
  intro p e s m args below meth c C H locs ls hl hH hS
  obtain ⟨v1, v2, v3, ⟨v4, v5, v6, v7⟩, v8, v9⟩ := V
  have hT : GoodIn (zwA M) (wsV M.1.cls index M'.1.cls M'.1 (zwA M')) := zwA.sub (fun x hx => by
    rcases List.mem_append.mp hx with h | h
    · simp only [List.mem_cons, List.not_mem_nil, or_false] at h
      rcases h with rfl | rfl | rfl | rfl <;> assumption
    · exact zwA.of v4 x h)
  have hr : ∃ cell : Cell, H[Γ.2.2.2.1 q.1 q.2.1]? = some cell ∧ cell.vm.isStatics = false ∧ s.vm.findClass M'.1.cls = some cell.cls := by
    obtain ⟨cell, g1, g2, g3, -⟩ := (C.stat.2.2.2.2.2.1 _ hq).2.1.kept hS.2.1
    rw [hc]
    exact ⟨cell, g1, g2, g3⟩
  exact zrun C hl hS (va_runV (C := M'.1.cls) (As := As) ⟨C.1, C.2.1, C.2.2.1, C.own, C.2.2.2.2.1⟩ (zMet (hct C.2.2.2.2.2.2.2.2.2.2.2)) (cwV As.length C.2.2.2.2.1 hT (zwA.eq v9) rfl rfl ⟨rfl, v6, v7, v8⟩ (zroom hdp hL)) ⟨zPc.blind, hr, zpre C hH hS⟩ rfl rfl hl.1 rfl (by show 2 * 0 + _ ≤ 8; omega) hd ⟨h1, h2⟩) kk
theorem gcVS0 {index : Nat} {q : String × Nat × String} {r : Value} {w' : ZW} (pc' : Nat) (hd : decode M.2.1 pc = .ok (.invokevirtual index, 3)) (V : zV M.1.cls index M' 0) (hq : q ∈ zStr) (hct : Cm l Γ M' d' [.ref (Γ.2.2.2.1 q.1 q.2.1)] w (some r) w') (kk : Go l Γ M dp mc ms Φ Ψ k n w' pc' L (r :: st)) (hc : M'.1.cls = "java/lang/String" := by rfl) (hdp : d' + 1 ≤ dp := by decide) (hL : M'.2.2.1 ≤ 40 := by decide) (h1 : k ≤ mc := by omega) (h2 : n ≤ ms := by omega) (hst : (st.map fun v => v.category).sum ≤ 8 := by exact Nat.le_of_ble_eq_true rfl) (hp : pc + 3 = pc' := by rfl) : Go l Γ M dp mc ms Φ Ψ k n w pc L (.ref (Γ.2.2.2.1 q.1 q.2.1) :: st) := by
  refine go_callVS (As := []) pc' hd V hq hc hct hdp hL h1 h2 hst ?_ hp
  intro v w2 h
  obtain ⟨rfl, rfl⟩ := h
  exact kk
theorem gcVS1 {index : Nat} {q : String × Nat × String} {x1 r : Value} {w' : ZW} (pc' : Nat) (hd : decode M.2.1 pc = .ok (.invokevirtual index, 3)) (V : zV M.1.cls index M' 1) (hq : q ∈ zStr) (hct : Cm l Γ M' d' [.ref (Γ.2.2.2.1 q.1 q.2.1), x1] w (some r) w') (kk : Go l Γ M dp mc ms Φ Ψ k n w' pc' L (r :: st)) (hc : M'.1.cls = "java/lang/String" := by rfl) (hdp : d' + 1 ≤ dp := by decide) (hL : M'.2.2.1 ≤ 40 := by decide) (h1 : k ≤ mc := by omega) (h2 : n ≤ ms := by omega) (hst : (st.map fun v => v.category).sum ≤ 8 := by exact Nat.le_of_ble_eq_true rfl) (hp : pc + 3 = pc' := by rfl) : Go l Γ M dp mc ms Φ Ψ k n w pc L (x1 :: .ref (Γ.2.2.2.1 q.1 q.2.1) :: st) := by
  refine go_callVS (As := [x1]) pc' hd V hq hc hct hdp hL h1 h2 hst ?_ hp
  intro v w2 h
  obtain ⟨rfl, rfl⟩ := h
  exact kk
theorem go_getSV {index : Nat} {q : String × Nat × String} (pc' : Nat) (hd : decode M.2.1 pc = .ok (.getfield index, 3)) (hq : q ∈ zStr) (hl9 : Cond.fieldLink M.1.cls index "java/lang/String" "value" "[B" ∈ zGood) (kk : Go l Γ M dp mc ms Φ Ψ k n w pc' L (.ref (Γ.2.2.2.1 q.1 (q.2.1 + 100000)) :: st)) (hp : pc + 3 = pc' := by rfl) : Go l Γ M dp mc ms Φ Ψ k n w pc L (.ref (Γ.2.2.2.1 q.1 q.2.1) :: st) := by
  subst hp
  exact fun p e s m args below meth c C H locs ls hl hH hS => vk_getf C.1 C.2.1 (C.stat.2.2.2.2.2.1 _ hq).2.2.2.1 hS C.own (C.good hl9) (fun _ h => h) hd (kk p e s m args below meth c C H locs ls hl hH hS)
theorem go_getSC {index : Nat} {q : String × Nat × String} (pc' : Nat) (hd : decode M.2.1 pc = .ok (.getfield index, 3)) (hq : q ∈ zStr) (hl9 : Cond.fieldLink M.1.cls index "java/lang/String" "coder" "B" ∈ zGood) (kk : Go l Γ M dp mc ms Φ Ψ k n w pc' L (.int 0 :: st)) (hp : pc + 3 = pc' := by rfl) : Go l Γ M dp mc ms Φ Ψ k n w pc L (.ref (Γ.2.2.2.1 q.1 q.2.1) :: st) := by
  subst hp
  exact fun p e s m args below meth c C H locs ls hl hH hS => vk_getf C.1 C.2.1 (C.stat.2.2.2.2.2.1 _ hq).2.2.1 hS C.own (C.good hl9) (fun _ h => h) hd (kk p e s m args below meth c C H locs ls hl hH hS)
theorem go_getCS {index : Nat} (pc' : Nat) (hd : decode M.2.1 pc = .ok (.getstatic index, 3)) (hl9 : Cond.fieldLink M.1.cls index "java/lang/String" "COMPACT_STRINGS" "Z" ∈ zGood) (kk : Go l Γ M dp mc ms Φ Ψ k n w pc' L (.int 1 :: st)) (hp : pc + 3 = pc' := by rfl) : Go l Γ M dp mc ms Φ Ψ k n w pc L st := by
  subst hp
  exact fun p e s m args below meth c C H locs ls hl hH hS => va_gets C.1 C.2.1 C.stat.2.2.2.2.1.2.2.1 hS C.own (C.good hl9) (fun _ h => h) hd (kk p e s m args below meth c C H locs ls hl hH hS)
theorem go_getSF {index : Nat} (pc' : Nat) (hd : decode M.2.1 pc = .ok (.getstatic index, 3)) (hl9 : Cond.fieldLink M.1.cls index "jdk/internal/util/Preconditions" "SIOOBE_FORMATTER" "Ljava/util/function/BiFunction;" ∈ zGood) (kk : ∀ v : Value, (v = .null ∨ ∃ t, v = .ref t) → Go l Γ M dp mc ms Φ Ψ k n w pc' L (v :: st)) (hp : pc + 3 = pc' := by rfl) : Go l Γ M dp mc ms Φ Ψ k n w pc L st := by
  subst hp
  intro p e s m args below meth c C H locs ls hl hH hS
  rcases C.stat.2.2.2.2.1.2.2.2 with h | ⟨t, h⟩
  · exact va_gets C.1 C.2.1 h hS C.own (C.good hl9) (fun _ h => h) hd (kk _ (Or.inl rfl) p e s m args below meth c C H locs ls hl hH hS)
  · exact va_gets C.1 C.2.1 h hS C.own (C.good hl9) (fun _ h => h) hd (kk _ (Or.inr ⟨t, rfl⟩) p e s m args below meth c C H locs ls hl hH hS)
theorem go_lenS {q : String × Nat × String} (pc' : Nat) (hd : decode M.2.1 pc = .ok (.arraylength, 1)) (hq : q ∈ zStr) (kk : Go l Γ M dp mc ms Φ Ψ k n w pc' L (.int (nI q.2.2.length) :: st)) (hp : pc + 1 = pc' := by rfl) : Go l Γ M dp mc ms Φ Ψ k n w pc L (.ref (Γ.2.2.2.1 q.1 (q.2.1 + 100000)) :: st) := by
  subst hp
  exact fun p e s m args below meth c C H locs ls hl hH hS => va_tlen C.1 C.2.1 (C.stat.2.2.2.2.2.1 _ hq).2.2.2.2 hS rfl hd (kk p e s m args below meth c C H locs ls hl hH hS)
theorem go_baldS {q : String × Nat × String} {i : Nat} (pc' : Nat) (hd : decode M.2.1 pc = .ok (.baload, 1)) (hq : q ∈ zStr) (hi : i < q.2.2.length) (hz : i < 2 ^ 31) (kk : Go l Γ M dp mc ms Φ Ψ k n w pc' L (.int (zch q.2.2 i) :: st)) (hp : pc + 1 = pc' := by rfl) : Go l Γ M dp mc ms Φ Ψ k n w pc L (.int (nI i) :: .ref (Γ.2.2.2.1 q.1 (q.2.1 + 100000)) :: st) := by
  subst hp
  exact fun p e s m args below meth c C H locs ls hl hH hS => va_tb C.1 C.2.1 (C.stat.2.2.2.2.2.1 _ hq).2.2.2.2 hS (vp_in_nI hi (Nat.lt_of_lt_of_le (zStr_len _ hq) (by decide))) (by rw [nI_clamp hz]) hd (kk p e s m args below meth c C H locs ls hl hH hS)
theorem go_nreturn {v : Int32} {ty : FieldType} (hd : decode M.2.1 pc = .ok (.ireturn, 1)) (hr : M.2.2.2.1 = some ty) (h1 : k ≤ mc) (h2 : n ≤ ms) (hn : narrow ty (.int v) = .int v) (hv : Φ (some (.int v)) w) : Go l Γ M dp mc ms Φ Ψ k n w pc L [.int v] := by
  intro p e s m args below meth c C H locs ls hl hH hS
  have hlocks : meth.locks = false := C.2.2.2.2.2.2.1
  exact vx_ret (W.widen h1 h2 (W.zret C.1 C.2.1 (C.2.2.2.1.trans hr) hn (fun t ht _ => zEnd C.big hH hS hv ht) hS.2.2 hd))
theorem gJ0_38 : Cond.fieldLink RJ0 38 "java/lang/String" "COMPACT_STRINGS" "Z" ∈ zGood := zGood.mem 634 (by decide +kernel) rfl
theorem gJ0_9 : Cond.fieldLink RJ0 9 "java/lang/String" "value" "[B" ∈ zGood := zGood.mem 1358 (by decide +kernel) rfl
theorem gJ0_15 : Cond.fieldLink RJ0 15 "java/lang/String" "coder" "B" ∈ zGood := zGood.mem 1359 (by decide +kernel) rfl
theorem gJ0_1053 : Cond.fieldLink RJ0 1053 "jdk/internal/util/Preconditions" "SIOOBE_FORMATTER" "Ljava/util/function/BiFunction;" ∈ zGood := zGood.mem 650 (by decide +kernel) rfl
theorem ct_J0_coder {q : String × Nat × String} (hq : q ∈ zStr) : Cm l Γ mJ0_coder_7d493 1 [.ref (Γ.2.2.2.1 q.1 q.2.1)] w (some (.int 0)) w := by
  refine Cm.of (by decide) rfl (Nat.le_of_ble_eq_true rfl) ?_
  refine go_getCS 3 dJ0_coder_7d493_0 gJ0_38 ?_
  refine go_if_eq 13 6 dJ0_coder_7d493_3 (fun h => absurd h (by decide)) (fun _ => ?_)
  refine go_aload_n 7 dJ0_coder_7d493_6 rfl ?_
  refine go_getSC 10 dJ0_coder_7d493_7 hq gJ0_15 ?_
  refine go_goto 14 dJ0_coder_7d493_10 ?_
  exact go_nreturn dJ0_coder_7d493_14 rfl (by omega) (by omega) rfl ⟨rfl, rfl⟩
theorem ct_J0_isLatin1 {q : String × Nat × String} (hq : q ∈ zStr) : Cm l Γ mJ0_isLatin1_aae02 1 [.ref (Γ.2.2.2.1 q.1 q.2.1)] w (some (.int 1)) w := by
  refine Cm.of (by decide) rfl (Nat.le_of_ble_eq_true rfl) ?_
  refine go_getCS 3 dJ0_isLatin1_aae02_0 gJ0_38 ?_
  refine go_if_eq 17 6 dJ0_isLatin1_aae02_3 (fun h => absurd h (by decide)) (fun _ => ?_)
  refine go_aload_n 7 dJ0_isLatin1_aae02_6 rfl ?_
  refine go_getSC 10 dJ0_isLatin1_aae02_7 hq gJ0_15 ?_
  refine go_if_ne 17 13 dJ0_isLatin1_aae02_10 (fun h => absurd rfl h) (fun _ => ?_)
  refine go_iconst 14 dJ0_isLatin1_aae02_13 zc_1 ?_
  refine go_goto 18 dJ0_isLatin1_aae02_14 ?_
  exact go_nreturn dJ0_isLatin1_aae02_18 rfl (by omega) (by omega) rfl ⟨rfl, rfl⟩
theorem zStr_shr : ∀ q ∈ zStr, nI q.2.2.length >>> ((0 : Int32) &&& 31) = nI q.2.2.length := by decide +kernel
theorem zStr_ch : ∀ q ∈ zStr, ∀ i, i < q.2.2.length → ((zch q.2.2 i &&& 255).toUInt32 % 65536).toInt32 = zch q.2.2 i ∧ (zch q.2.2 i).toUInt32.toUInt16.toUInt32.toInt32 = zch q.2.2 i := by decide +kernel
theorem ct_J0_length {q : String × Nat × String} (hq : q ∈ zStr) : Cm l Γ mJ0_length_8abf5 2 [.ref (Γ.2.2.2.1 q.1 q.2.1)] w (some (.int (nI q.2.2.length))) w := by
  refine Cm.of (by decide) rfl (Nat.le_of_ble_eq_true rfl) ?_
  refine go_aload_n 1 dJ0_length_8abf5_0 rfl ?_
  refine go_getSV 4 dJ0_length_8abf5_1 hq gJ0_9 ?_
  refine go_lenS 5 dJ0_length_8abf5_4 hq ?_
  refine go_aload_n 6 dJ0_length_8abf5_5 rfl ?_
  refine gcVS0 9 dJ0_length_8abf5_6 vJ0_335 hq (ct_J0_coder hq) ?_
  refine go_ishr 10 dJ0_length_8abf5_9 ?_
  exact go_ireturn dJ0_length_8abf5_10 rfl (by omega) (by omega) ⟨by rw [zStr_shr q hq], rfl⟩
theorem ct_J3_checkIndex {i N : Nat} (hi : i < N) (hN : N < 2 ^ 31) {v : Value} (hv : v = .null ∨ ∃ t, v = .ref t) : Cm l Γ mJ3_checkIndex_8e157 1 [.int (nI i), .int (nI N), v] w (some (.int (nI i))) w := by
  rcases hv with rfl | ⟨t, rfl⟩
  all_goals
    refine Cm.of (by decide) rfl (Nat.le_of_ble_eq_true rfl) ?_
    refine go_iload_n 1 dJ3_checkIndex_8e157_0 rfl ?_
    refine go_if_lt 9 4 dJ3_checkIndex_8e157_1 (fun h => absurd h (nI_pos (by omega))) (fun _ => ?_)
    refine go_iload_n 5 dJ3_checkIndex_8e157_4 rfl ?_
    refine go_iload_n 6 dJ3_checkIndex_8e157_5 rfl ?_
    refine go_icmp_lt 16 9 dJ3_checkIndex_8e157_6 (fun _ => ?_) (fun h => absurd (nI_lt hi hN) h)
    refine go_iload_n 17 dJ3_checkIndex_8e157_16 rfl ?_
    exact go_ireturn dJ3_checkIndex_8e157_17 rfl (by omega) (by omega) ⟨rfl, rfl⟩
theorem ct_J0_checkIndex {i N : Nat} (hi : i < N) (hN : N < 2 ^ 31) : Cm l Γ mJ0_checkIndex_df160 2 [.int (nI i), .int (nI N)] w none w := by
  refine Cm.of (by decide) rfl (Nat.le_of_ble_eq_true rfl) ?_
  refine go_iload_n 1 dJ0_checkIndex_df160_0 rfl ?_
  refine go_iload_n 2 dJ0_checkIndex_df160_1 rfl ?_
  refine go_getSF 5 dJ0_checkIndex_df160_2 gJ0_1053 (fun v hv => ?_)
  refine gcS3 8 dJ0_checkIndex_df160_5 vJ0_1059 (ct_J3_checkIndex hi hN hv) ?_
  refine go_pop 9 dJ0_checkIndex_df160_8 rfl ?_
  exact go_return dJ0_checkIndex_df160_9 rfl (by omega) (by omega) ⟨rfl, rfl⟩
theorem ct_J1_charAt {q : String × Nat × String} (hq : q ∈ zStr) {i : Nat} (hi : i < q.2.2.length) : Cm l Γ mJ1_charAt_3b067 3 [.ref (Γ.2.2.2.1 q.1 (q.2.1 + 100000)), .int (nI i)] w (some (.int (zch q.2.2 i))) w := by
  have hz := Nat.lt_of_lt_of_le (zStr_len _ hq) (show 600 ≤ 2 ^ 31 by decide)
  obtain ⟨c1, c2⟩ := zStr_ch q hq i hi
  refine Cm.of (by decide) rfl (Nat.le_of_ble_eq_true rfl) ?_
  refine go_iload_n 1 dJ1_charAt_3b067_0 rfl ?_
  refine go_aload_n 2 dJ1_charAt_3b067_1 rfl ?_
  refine go_lenS 3 dJ1_charAt_3b067_2 hq ?_
  refine gcS2v 6 dJ1_charAt_3b067_3 vJ1_9 (ct_J0_checkIndex hi hz) ?_
  refine go_aload_n 7 dJ1_charAt_3b067_6 rfl ?_
  refine go_iload_n 8 dJ1_charAt_3b067_7 rfl ?_
  refine go_baldS 9 dJ1_charAt_3b067_8 hq hi (by omega) ?_
  refine go_sipush 12 dJ1_charAt_3b067_9 zs_255 ?_
  refine go_iand 13 dJ1_charAt_3b067_12 ?_
  refine go_i2c 14 dJ1_charAt_3b067_13 ?_
  rw [c1]
  exact go_nreturn dJ1_charAt_3b067_14 rfl (by omega) (by omega) (congrArg Value.int c2) ⟨rfl, rfl⟩
theorem ct_J0_charAt {q : String × Nat × String} (hq : q ∈ zStr) {i : Nat} (hi : i < q.2.2.length) : Cm l Γ mJ0_charAt_5068e 4 [.ref (Γ.2.2.2.1 q.1 q.2.1), .int (nI i)] w (some (.int (zch q.2.2 i))) w := by
  obtain ⟨c1, c2⟩ := zStr_ch q hq i hi
  refine Cm.of (by decide) rfl (Nat.le_of_ble_eq_true rfl) ?_
  refine go_aload_n 1 dJ0_charAt_5068e_0 rfl ?_
  refine gcVS0 4 dJ0_charAt_5068e_1 vJ0_492 hq (ct_J0_isLatin1 hq) ?_
  refine go_if_eq 16 7 dJ0_charAt_5068e_4 (fun h => absurd h (by decide)) (fun _ => ?_)
  refine go_aload_n 8 dJ0_charAt_5068e_7 rfl ?_
  refine go_getSV 11 dJ0_charAt_5068e_8 hq gJ0_9 ?_
  refine go_iload_n 12 dJ0_charAt_5068e_11 rfl ?_
  refine gcS2 15 dJ0_charAt_5068e_12 vJ0_495 (ct_J1_charAt hq hi) ?_
  exact go_nreturn dJ0_charAt_5068e_15 rfl (by omega) (by omega) (congrArg Value.int c2) ⟨rfl, rfl⟩
end Strs
