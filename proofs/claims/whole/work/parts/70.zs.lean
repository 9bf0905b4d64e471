section ZSat
set_option maxRecDepth 100000 in
set_option maxHeartbeats 4000000 in
theorem zS_start {s : State} {b L : Nat} {xs : Nat → Int32} (hts : ∀ w ∈ lw_tbl, w.before #[Value.ref b] s = true) (hgv : (Jvm.Cond.and given_1 narrow_1).before #[Value.ref b] s = true) (hX : va_X b L xs s s.heap) (hbl : b < s.heap.size) : ∃ Γ : ZG, Γ.1 = s.heap.size ∧ Γ.2.2.2.2.1 = b ∧ Γ.2.2.2.2.2.1 = L ∧ zS Γ s s.heap := by
  have hfl := flat_of_before _ hgv
  have hA : ∀ a : Nat, a < s.heap.size → ¬ (fun q : Nat => s.heap.size ≤ q) a := fun a h => Nat.not_le.mpr h
  obtain ⟨c0, i0, k0⟩ := u_known (C := RX0) (T := TX0) (N := 9) (n := 9) hts (mem_r [182, 184, 186, 188, 190, 192, 194, 196, 198] (by decide +kernel)) (hts _ (lw_g 127 (by decide +kernel)))
  obtain ⟨c1, i1, k1⟩ := u_known (C := RX1) (T := TX1) (N := 3) (n := 3) hts (mem_r [213, 215, 217] (by decide +kernel)) (hts _ (lw_g 202 (by decide +kernel)))
  obtain ⟨c2, i2, k2⟩ := u_known (C := RX2) (T := TX2) (N := 3) (n := 3) hts (mem_r [672, 674, 676] (by decide +kernel)) (hts _ (lw_g 650 (by decide +kernel)))
  obtain ⟨c3, i3, k3⟩ := u_known (C := RX3) (T := TX3) (N := 15) (n := 15) hts (mem_r [246, 248, 250, 252, 254, 256, 258, 260, 262, 264, 266, 268, 270, 272, 274] (by decide +kernel)) (hts _ (lw_g 221 (by decide +kernel)))
  obtain ⟨c4, i4, k4⟩ := u_known (C := RX4) (T := TX4) (N := 3) (n := 3) hts (mem_r [144, 146, 148] (by decide +kernel)) (hts _ (lw_g 133 (by decide +kernel)))
  obtain ⟨c5, i5, k5⟩ := u_known (C := RX5) (T := TX5) (N := 5) (n := 5) hts (mem_r [283, 285, 287, 289, 291] (by decide +kernel)) (hts _ (lw_g 119 (by decide +kernel)))
  obtain ⟨c6, i6, k6⟩ := u_known (C := RX6) (T := TX6) (N := 17) (n := 17) hts (mem_r [984, 986, 988, 990, 992, 994, 996, 998, 1000, 1002, 1004, 1006, 1008, 1010, 1012, 1014, 1016] (by decide +kernel)) (hts _ (lw_g 957 (by decide +kernel)))
  obtain ⟨a0, p0, q0⟩ := arr_p (t := .int) (hts _ (lw_g 151 (by decide +kernel)))
  obtain ⟨a1, p1, q1⟩ := arr_p (t := .byte) (hts _ (lw_g 277 (by decide +kernel)))
  obtain ⟨a2, p2, q2⟩ := arr_p (t := .long) (hts _ (lw_g 1019 (by decide +kernel)))
  obtain ⟨a3, p3, q3⟩ := arr_o (n := RX0) (hts _ (lw_g 208 (by decide +kernel)))
  obtain ⟨a4, p4, q4⟩ := arr_a (t := .int) (hts _ (lw_g 963 (by decide +kernel)))
  have hF : ∀ (own : String) (k : Nat), ∃ av : Nat × Nat, ∀ tx, (own, k, tx) ∈ zStr → zR s (fun q : Nat => s.heap.size ≤ q) (own, k, tx) av.1 av.2 := by
    intro own k
    by_cases h : ∃ tx, (own, k, tx) ∈ zStr
    · obtain ⟨tx, htx⟩ := h
      obtain ⟨a, v, hr⟩ := zR_of hts hgv hA _ htx
      refine ⟨(a, v), fun tx' h' => ?_⟩
      have hu := of_decide_eq_true (List.all_eq_true.mp (List.all_eq_true.mp zStr_u _ htx) _ h')
      have e : tx = tx' := by
        rcases hu with z | z | z
        · exact absurd rfl z
        · exact absurd rfl z
        · exact z
      subst e
      exact hr
    · exact ⟨(0, 0), fun tx h' => absurd ⟨tx, h'⟩ h⟩
  refine ⟨(s.heap.size, (fun c => if c = 0 then c0 else if c = 1 then c1 else if c = 2 then c2 else if c = 3 then c3 else if c = 4 then c4 else if c = 5 then c5 else c6, fun c => if c = 0 then i0 else if c = 1 then i1 else if c = 2 then i2 else if c = 3 then i3 else if c = 4 then i4 else if c = 5 then i5 else i6), fun j => if j = 0 then a0 else if j = 1 then a1 else if j = 2 then a2 else if j = 3 then a3 else a4, fun own j => if j < 100000 then (Classical.choose (hF own j)).1 else (Classical.choose (hF own (j - 100000))).2, b, L, xs), rfl, rfl, rfl, ⟨fun c q hq => ?_, fun k q hq => ?_⟩, fun w hw => ?_, fun q hq => ?_, ⟨by exact hts (Cond.arrayOver (.object RX0)) (lw_g 208 (by decide +kernel)), by exact hts (Cond.arrayOver (.array .int)) (lw_g 963 (by decide +kernel))⟩, ⟨vx_Zqof (hts _ (by decide +kernel)) (hts _ (by decide +kernel)) (hfl _ (by decide +kernel)) hA, vx_Zqof (hts _ (by decide +kernel)) (hts _ (by decide +kernel)) (hfl _ (by decide +kernel)) hA, va_Zof (hts _ (by decide +kernel)) (hts _ (by decide +kernel)) (va_eqi (hfl _ (by decide +kernel))) hA, va_Zqof (hts _ (by decide +kernel)) (hts _ (by decide +kernel)) (hfl _ (by decide +kernel)) hA⟩, fun q hq => ?_, hX, hbl⟩
  · match c, hq with
    | 0, hq => cases hq; exact k0
    | 1, hq => cases hq; exact k1
    | 2, hq => cases hq; exact k2
    | 3, hq => cases hq; exact k3
    | 4, hq => cases hq; exact k4
    | 5, hq => cases hq; exact k5
    | 6, hq => cases hq; exact k6
    | c + 7, hq => simp [vwCl] at hq
  · match k, hq with
    | 0, hq => cases hq; exact ⟨p0, q0⟩
    | 1, hq => cases hq; exact ⟨p1, q1⟩
    | 2, hq => cases hq; exact ⟨p2, q2⟩
    | 3, hq => cases hq; exact ⟨p3, q3⟩
    | 4, hq => cases hq; exact ⟨p4, q4⟩
    | k + 5, hq => simp [zt] at hq
  · exact va_Nw.of (List.all_eq_true.mp zNest_tb w hw) (hts w (List.mem_append_right _ (List.mem_filter.mp hw).1))
  · exact va_Nc.of (hfl _ (List.mem_of_mem_drop (i := 11) (List.mem_of_mem_take (i := 40) (by rw [zNcs_w]; exact List.mem_map.mpr ⟨q, hq, rfl⟩))))
  · obtain ⟨own, k, tx⟩ := q
    have hr := List.all_eq_true.mp zStr_r _ hq
    simp only [Bool.and_eq_true, decide_eq_true_eq] at hr
    have h1 : k < 100000 := hr.1.2
    obtain ⟨r1, r2, r3, r4, r5⟩ := Classical.choose_spec (hF own k) tx hq
    dsimp only
    rw [if_pos h1, if_neg (show ¬ k + 100000 < 100000 by omega), Nat.add_sub_cancel]
    exact ⟨r1, r2, r3, r4, r5⟩
end ZSat
