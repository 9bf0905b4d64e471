section LZs
set_option maxRecDepth 100000 in
set_option maxHeartbeats 4000000 in
theorem zS_start {s : State} {b L : Nat} {xs : Nat → Int32} (hts : ∀ w ∈ lw_tbl, w.before #[Value.ref b] s = true) (hgv : (Jvm.Cond.and given_1 narrow_1).before #[Value.ref b] s = true) (hX : va_X b L xs s s.heap) (hbl : b < s.heap.size) : ∃ Γ : ZG, Γ.1 = s.heap.size ∧ Γ.2.2.2.2.1 = b ∧ Γ.2.2.2.2.2.1 = L ∧ zS Γ s s.heap := by
  have hfl := flat_of_before _ hgv
  have hA : ∀ a : Nat, a < s.heap.size → ¬ (fun q : Nat => s.heap.size ≤ q) a := fun a h => Nat.not_le.mpr h
  obtain ⟨c0, i0, k0⟩ := u_known (C := RX0) (T := TX0) (N := 9) (n := 9) hts (fun w hw => (List.mem_filter.mp (uX0_ok w hw)).1) (hts _ (lw_g 83 (by decide +kernel)))
  obtain ⟨c1, i1, k1⟩ := u_known (C := RX1) (T := TX1) (N := 3) (n := 3) hts (fun w hw => (List.mem_filter.mp (uX1_ok w hw)).1) (hts _ (lw_g 158 (by decide +kernel)))
  obtain ⟨c2, i2, k2⟩ := u_known (C := RX2) (T := TX2) (N := 3) (n := 3) hts (fun w hw => (List.mem_filter.mp (uX2_ok w hw)).1) (hts _ (lw_g 740 (by decide +kernel)))
  obtain ⟨c3, i3, k3⟩ := u_known (C := RX3) (T := TX3) (N := 15) (n := 15) hts (fun w hw => (List.mem_filter.mp (uX3_ok w hw)).1) (hts _ (lw_g 177 (by decide +kernel)))
  obtain ⟨c4, i4, k4⟩ := u_known (C := RX4) (T := TX4) (N := 3) (n := 3) hts (fun w hw => (List.mem_filter.mp (uX4_ok w hw)).1) (hts _ (lw_g 89 (by decide +kernel)))
  obtain ⟨c5, i5, k5⟩ := u_known (C := RX5) (T := TX5) (N := 5) (n := 5) hts (fun w hw => (List.mem_filter.mp (uX5_ok w hw)).1) (hts _ (lw_g 75 (by decide +kernel)))
  obtain ⟨c6, i6, k6⟩ := u_known (C := RX6) (T := TX6) (N := 9) (n := 9) hts (fun w hw => (List.mem_filter.mp (uX6_ok w hw)).1) (hts _ (lw_g 275 (by decide +kernel)))
  obtain ⟨c7, i7, k7⟩ := u_known (C := RX7) (T := TX7) (N := 8) (n := 8) hts (fun w hw => (List.mem_filter.mp (uX7_ok w hw)).1) (hts _ (lw_g 362 (by decide +kernel)))
  obtain ⟨c8, i8, k8⟩ := u_known (C := RX8) (T := TX8) (N := 4) (n := 4) hts (fun w hw => (List.mem_filter.mp (uX8_ok w hw)).1) (hts _ (lw_g 1130 (by decide +kernel)))
  obtain ⟨c9, i9, k9⟩ := u_known (C := RX9) (T := TX9) (N := 1) (n := 1) hts (fun w hw => (List.mem_filter.mp (uX9_ok w hw)).1) (hts _ (lw_g 498 (by decide +kernel)))
  obtain ⟨c10, i10, k10⟩ := u_known (C := RX10) (T := TX10) (N := 6) (n := 6) hts (fun w hw => (List.mem_filter.mp (uX10_ok w hw)).1) (hts _ (lw_g 335 (by decide +kernel)))
  obtain ⟨c11, i11, k11⟩ := u_known (C := RJ0) (T := TJ0) (N := 4) (n := 4) hts (fun w hw => (List.mem_filter.mp (uJ0_ok w hw)).1) (hts _ (lw_g 1309 (by decide +kernel)))
  obtain ⟨c12, i12, k12⟩ := u_known (C := RJ4) (T := TJ4) (N := 4) (n := 4) hts (fun w hw => (List.mem_filter.mp (uJ4_ok w hw)).1) (hts _ (lw_g 1156 (by decide +kernel)))
  obtain ⟨a0, p0, q0⟩ := arr_p (t := .int) (hts _ (lw_g 107 (by decide +kernel)))
  obtain ⟨a1, p1, q1⟩ := arr_p (t := .byte) (hts _ (lw_g 233 (by decide +kernel)))
  obtain ⟨a2, p2, q2⟩ := arr_p (t := .long) (hts _ (lw_g 466 (by decide +kernel)))
  obtain ⟨a3, p3, q3⟩ := arr_o (n := RX0) (hts _ (lw_g 164 (by decide +kernel)))
  obtain ⟨a4, p4, q4⟩ := arr_a (t := .int) (hts _ (lw_g 281 (by decide +kernel)))
  obtain ⟨a5, p5, q5⟩ := arr_p (t := .boolean) (hts _ (lw_g 483 (by decide +kernel)))
  obtain ⟨a6, p6, q6⟩ := arr_o (n := RX6) (hts _ (lw_g 1453 (by decide +kernel)))
  obtain ⟨a7, p7, q7⟩ := arr_o (n := RX7) (hts _ (lw_g 285 (by decide +kernel)))
  obtain ⟨a8, p8, q8⟩ := arr_o (n := RX10) (hts _ (lw_g 283 (by decide +kernel)))
  have hF : ∀ (own : String) (k : Nat), ∃ av : Nat × Nat, ∀ tx, (own, k, tx) ∈ zStr → zR s (fun q : Nat => s.heap.size ≤ q) (own, k, tx) av.1 av.2 := by
    intro own k
    by_cases h : ∃ tx, (own, k, tx) ∈ zStr
    · obtain ⟨tx, htx⟩ := h
      obtain ⟨a, v, hr⟩ := zR_of hts hgv hA _ htx
      refine ⟨(a, v), fun tx' h' => ?_⟩
      have hu := of_decide_eq_true (List.all_eq_true.mp (List.all_eq_true.mp zStr_u _ htx) _ h')
      have e : tx = tx' := by
        rcases hu with z | z | z
        · exact absurd rfl z
        · exact absurd rfl z
        · exact z
      subst e
      exact hr
    · exact ⟨(0, 0), fun tx h' => absurd ⟨tx, h'⟩ h⟩
  have hO : ∃ t9 : Nat, (Term.static "java/lang/Integer" "DigitOnes" "[B").eval #[Value.ref b] s none [] s = some (.ref t9) ∧ va_T .byte t9 100 (fun j => .int (nI (48 + j % 10))) (fun q : Nat => s.heap.size ≤ q) s s.heap :=
    va_Tof (by decide) (hfl _ (by decide +kernel)) (va_eqt (hfl _ (by decide +kernel))) (fun j hj => va_eqt (fl_in hfl zOnes_w _ (List.mem_map.mpr ⟨j, List.mem_range.mpr hj, rfl⟩))) hA
  have hN : ∃ t9 : Nat, (Term.static "java/lang/Integer" "DigitTens" "[B").eval #[Value.ref b] s none [] s = some (.ref t9) ∧ va_T .byte t9 100 (fun j => .int (nI (48 + j / 10))) (fun q : Nat => s.heap.size ≤ q) s s.heap :=
    va_Tof (by decide) (hfl _ (by decide +kernel)) (va_eqt (hfl _ (by decide +kernel))) (fun j hj => va_eqt (fl_in hfl zTens_w _ (List.mem_map.mpr ⟨j, List.mem_range.mpr hj, rfl⟩))) hA
  have hW : ∀ j, j < 4 → (Term.string "CallForksLaw" (zvIx j)).eval #[Value.ref b] s none [] s = some (.ref (Classical.choose (hF "CallForksLaw" (zvIx j))).1) := fun j hj => by
    have h1 := List.all_eq_true.mp zVar_s j (List.mem_range.mpr hj)
    obtain ⟨⟨o, k, tx⟩, hq, h2⟩ := List.any_eq_true.mp h1
    obtain ⟨e1, e2⟩ := of_decide_eq_true h2
    replace e1 : o = "CallForksLaw" := e1
    replace e2 : k = zvIx j := e2
    rw [e1, e2] at hq
    exact (Classical.choose_spec (hF "CallForksLaw" (zvIx j)) tx hq).1.2
  have hV : ∃ t9 : Nat, (Term.static "CallForksLaw" "VARIABLES" "[Ljava/lang/String;").eval #[Value.ref b] s none [] s = some (.ref t9) ∧ va_T (.object "java/lang/String") t9 4 (fun j => .ref (Classical.choose (hF "CallForksLaw" (zvIx j))).1) (fun q : Nat => s.heap.size ≤ q) s s.heap :=
    va_Tof (by decide) (hfl _ (by decide +kernel)) (va_eqt (hfl _ (by decide +kernel))) (fun j hj => va_eqr (fl_in hfl zVar_w _ (List.mem_map.mpr ⟨j, List.mem_range.mpr hj, rfl⟩)) (hW j hj)) hA
  obtain ⟨tO, hO1, hO2⟩ := hO
  obtain ⟨tT, hT1, hT2⟩ := hN
  obtain ⟨tV, hV1, hV2⟩ := hV
  have hvx : ∀ j, zvIx j < 100000 := fun j => by
    unfold zvIx
    split
    · decide
    split
    · decide
    split
    · decide
    · decide
  refine ⟨(s.heap.size, (fun c => if c = 0 then c0 else if c = 1 then c1 else if c = 2 then c2 else if c = 3 then c3 else if c = 4 then c4 else if c = 5 then c5 else if c = 6 then c6 else if c = 7 then c7 else if c = 8 then c8 else if c = 9 then c9 else if c = 10 then c10 else if c = 11 then c11 else c12, fun c => if c = 0 then i0 else if c = 1 then i1 else if c = 2 then i2 else if c = 3 then i3 else if c = 4 then i4 else if c = 5 then i5 else if c = 6 then i6 else if c = 7 then i7 else if c = 8 then i8 else if c = 9 then i9 else if c = 10 then i10 else if c = 11 then i11 else i12), fun j => if j = 0 then a0 else if j = 1 then a1 else if j = 2 then a2 else if j = 3 then a3 else if j = 4 then a4 else if j = 5 then a5 else if j = 6 then a6 else if j = 7 then a7 else a8, fun own j => if own = "VARIABLES" then tV else if own = "DigitOnes" then tO else if own = "DigitTens" then tT else if j < 100000 then (Classical.choose (hF own j)).1 else (Classical.choose (hF own (j - 100000))).2, b, L, xs), rfl, rfl, rfl, ⟨fun c q hq => ?_, fun k q hq => ?_⟩, fun w hw => ?_, fun q hq => ?_, ⟨by exact hts (Cond.arrayOver (.object RX0)) (lw_g 164 (by decide +kernel)), by exact hts (Cond.arrayOver (.array .int)) (lw_g 281 (by decide +kernel)), by exact hts (Cond.arrayOver (.object RX6)) (lw_g 1453 (by decide +kernel)), by exact hts (Cond.arrayOver (.object RX7)) (lw_g 285 (by decide +kernel)), by exact hts (Cond.arrayOver (.object RX10)) (lw_g 283 (by decide +kernel)), ?_⟩, ⟨vx_Zqof (hts _ (by decide +kernel)) (hts _ (by decide +kernel)) (hfl _ (by decide +kernel)) hA, vx_Zqof (hts _ (by decide +kernel)) (hts _ (by decide +kernel)) (hfl _ (by decide +kernel)) hA, va_Zof (hts _ (by decide +kernel)) (hts _ (by decide +kernel)) (va_eqi (hfl _ (by decide +kernel))) hA, va_Zqof (hts _ (by decide +kernel)) (hts _ (by decide +kernel)) (hfl _ (by decide +kernel)) hA⟩, fun q hq => ?_, hX, hbl⟩
  · match c, hq with
    | 0, hq => cases hq; exact k0
    | 1, hq => cases hq; exact k1
    | 2, hq => cases hq; exact k2
    | 3, hq => cases hq; exact k3
    | 4, hq => cases hq; exact k4
    | 5, hq => cases hq; exact k5
    | 6, hq => cases hq; exact k6
    | 7, hq => cases hq; exact k7
    | 8, hq => cases hq; exact k8
    | 9, hq => cases hq; exact k9
    | 10, hq => cases hq; exact k10
    | 11, hq => cases hq; exact k11
    | 12, hq => cases hq; exact k12
    | c + 13, hq => simp [vwCl] at hq
  · match k, hq with
    | 0, hq => cases hq; exact ⟨p0, q0⟩
    | 1, hq => cases hq; exact ⟨p1, q1⟩
    | 2, hq => cases hq; exact ⟨p2, q2⟩
    | 3, hq => cases hq; exact ⟨p3, q3⟩
    | 4, hq => cases hq; exact ⟨p4, q4⟩
    | 5, hq => cases hq; exact ⟨p5, q5⟩
    | 6, hq => cases hq; exact ⟨p6, q6⟩
    | 7, hq => cases hq; exact ⟨p7, q7⟩
    | 8, hq => cases hq; exact ⟨p8, q8⟩
    | k + 9, hq => simp [zt] at hq
  · exact va_Nw.of (List.all_eq_true.mp zNest_tb w hw) (hts w (List.mem_append_right _ (List.mem_filter.mp hw).1))
  · exact va_Nc.of (fl_in hfl zNcs_w _ (List.mem_map.mpr ⟨q, hq, rfl⟩))
  · refine ⟨va_Zof (hts _ (by decide +kernel)) (hts _ (by decide +kernel)) hV1 hA, ?_, va_Zof (hts _ (by decide +kernel)) (hts _ (by decide +kernel)) hO1 hA, hO2, va_Zof (hts _ (by decide +kernel)) (hts _ (by decide +kernel)) hT1 hA, hT2⟩
    have e : (fun j => Value.ref (if "CallForksLaw" = "VARIABLES" then tV else if "CallForksLaw" = "DigitOnes" then tO else if "CallForksLaw" = "DigitTens" then tT else if zvIx j < 100000 then (Classical.choose (hF "CallForksLaw" (zvIx j))).1 else (Classical.choose (hF "CallForksLaw" (zvIx j - 100000))).2)) = fun j => Value.ref (Classical.choose (hF "CallForksLaw" (zvIx j))).1 := funext fun j => by
      rw [if_neg (by decide), if_neg (by decide), if_neg (by decide), if_pos (hvx j)]
    show va_T (.object "java/lang/String") tV 4 (fun j => Value.ref (if "CallForksLaw" = "VARIABLES" then tV else if "CallForksLaw" = "DigitOnes" then tO else if "CallForksLaw" = "DigitTens" then tT else if zvIx j < 100000 then (Classical.choose (hF "CallForksLaw" (zvIx j))).1 else (Classical.choose (hF "CallForksLaw" (zvIx j - 100000))).2)) _ s s.heap
    rw [e]
    exact hV2
  · obtain ⟨own, k, tx⟩ := q
    have hr := List.all_eq_true.mp zStr_r _ hq
    have ho := of_decide_eq_true (List.all_eq_true.mp zStr_o _ hq)
    simp only [Bool.and_eq_true, decide_eq_true_eq] at hr
    have h1 : k < 100000 := hr.1.2
    obtain ⟨r1, r2, r3, r4, r5⟩ := Classical.choose_spec (hF own k) tx hq
    dsimp only
    rw [if_neg ho.1, if_neg ho.2.1, if_neg ho.2.2, if_pos h1, if_neg ho.1, if_neg ho.2.1, if_neg ho.2.2, if_neg (show ¬ k + 100000 < 100000 by omega), Nat.add_sub_cancel]
    exact ⟨r1, r2, r3, r4, r5⟩
end LZs
