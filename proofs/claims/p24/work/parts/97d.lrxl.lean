section LRxl
section
variable {l : Launch} {Γ : ZG} {w0 : ZW} {T0 : LT} {x a b : Nat} {e pa r1 r2 r3 : Nat}
theorem getD_l : ∀ {ps : List (Nat × Nat × Nat)} {y : Nat × Nat × Nat} {p : Nat}, p < ps.length → (ps ++ [y]).getD p (0, 0, 0) = ps.getD p (0, 0, 0)
  | [], y, p, h => absurd h (Nat.not_lt_zero _)
  | q :: ps, y, 0, _ => rfl
  | q :: ps, y, p + 1, h => getD_l (ps := ps) (p := p) (by simp at h; omega)
theorem getD_e : ∀ {ps : List (Nat × Nat × Nat)} {y : Nat × Nat × Nat}, (ps ++ [y]).getD ps.length (0, 0, 0) = y
  | [], y => rfl
  | q :: ps, y => getD_e (ps := ps)
/-- one party's row -/
theorem lp_rex {N : Nat} (hR : Rx w0 T0 x a b) (hN : N ≤ 8) : ∀ (m i : Nat) (w : ZW) (T : LT) (C : CS) (f : Nat → Int32) (s : Int32) (P : Nat → Nat) (ps : List (Nat × Nat × Nat)) (k n : Nat), i + m = N → ps.length = i → PsOK ps → BW (bsW Γ w0 x a b C f s) T0 w T → Nc w0 w T e (.inr (6, xFl none none pa r1 r2 r3 none)) 14 → RXo Γ w0 w T pa r1 r2 r3 N P ps → WK C f (ltx ps none none none) → Hx C → k ≤ 8 + i → n ≤ 50 + 3 * i → Go l Γ mL_randomExchange 36 100 18000 (PvRX Γ w0 x a) zNo k n w 31 [(0, .ref x), (1, .ref b), (2, .ref a), (3, .ref e), (4, .int (nI i))] [] := by
  intro m
  induction m with
  | zero =>
    intro i w T C f s P ps k n hi hpl hps b_0 e_0 o_0 hW hH hk hn
    obtain rfl : i = N := by omega
    subst hpl
    refine go_iload 33 dL_randomExchange_31 rfl ?_
    refine go_aload_n 34 dL_randomExchange_33 rfl ?_
    refine go_get 37 dL_randomExchange_34 fL_122 e_0.1 rfl ?_
    refine go_alen (t0 := 4) 38 dL_randomExchange_37 (o_0.1.choose_spec.1).1 rfl rfl ?_
    refine go_icmp_ge 125 41 dL_randomExchange_38 (fun h => ?_) (fun h => absurd (Int32.le_refl _) h)
    exact go_locals _ rfl (rx_125 hR hps hN b_0 e_0 o_0 hW hH (by omega) (by omega))
  | succ m ih =>
    intro i w T C f s P ps k n hi hpl hps b_0 e_0 o_0 hW hH hk hn
    subst hpl
    have hi8 : ps.length < N := by omega
    have hll := ltx_len (ps := ps) (wv := none) (pa := none) (rg := none) (d := 2) (ow := 0) (by omega) (Nat.le_refl 2) (fun z hz => by cases hz)
    refine go_iload 33 dL_randomExchange_31 rfl ?_
    refine go_aload_n 34 dL_randomExchange_33 rfl ?_
    refine go_get 37 dL_randomExchange_34 fL_122 e_0.1 rfl ?_
    refine go_alen (t0 := 4) 38 dL_randomExchange_37 (o_0.1.choose_spec.1).1 rfl rfl ?_
    refine go_icmp_ge 125 41 dL_randomExchange_38 (fun h => absurd ((nI_leI (a := N) (by omega) (by omega)).mp h) (by omega)) (fun h => ?_)
    refine go_aload_n 42 dL_randomExchange_41 rfl ?_
    refine go_get 45 dL_randomExchange_42 fL_122 e_0.1 rfl ?_
    refine go_iload 47 dL_randomExchange_45 rfl ?_
    refine go_iconst 48 dL_randomExchange_47 zc_3 ?_
    refine gn_newi 3 (13 + 5 * ps.length) b_0 50 dL_randomExchange_48 rfl (by decide) (by omega) (by omega) (fun w_1 T_1 c b_1 c_1 q_1 => ?_)
    have e_1 := e_0.go q_1 trivial
    have o_1 := o_0.go q_1 (fun z hz => trivial)
    refine go_dup 51 dL_randomExchange_50 rfl ?_
    refine go_iconst 52 dL_randomExchange_51 zc_0 ?_
    refine go_aload_n 53 dL_randomExchange_52 rfl ?_
    refine go_aload_n 54 dL_randomExchange_53 rfl ?_
    refine go_iconst 55 dL_randomExchange_54 zc_4 ?_
    refine gx_below (B := 4) hR b_1 58 dL_randomExchange_55 _ rfl (by decide) (by decide) (by omega) (by omega) (by exact Nat.le_of_ble_eq_true rfl) (fun w_2 j2 s_2 hj2 b_2 q_2 => ?_)
    have e_2 := e_1.go q_2 (by decide)
    have c_2 := c_1.go q_2 (by omega)
    have o_2 := o_1.go q_2 (fun z hz => by omega)
    clear e_1 o_1 c_1 b_1 e_0 o_0
    have K94 : ∀ (w_4 : ZW) (s_4 : Int32) (y0 y1 : Nat), y0 ≤ 99 → y1 ≤ 99 → BW (bsW Γ w0 x a b C f s_4) T0 w_4 T_1 → Nc w0 w_4 T_1 e (.inr (6, xFl none none pa r1 r2 r3 none)) 14 → Nc w0 w_4 T_1 c (i5 Γ 3 (upd (upd (fun _ => 0) 0 (nI y0)) 1 (nI y1))) (13 + 5 * ps.length) → RXo Γ w0 w_4 T_1 pa r1 r2 r3 N P ps → Go l Γ mL_randomExchange 36 100 18000 (PvRX Γ w0 x a) zNo (k + 1) (n + 3) w_4 94 [(0, .ref x), (1, .ref b), (2, .ref a), (3, .ref e), (4, .int (nI ps.length))] [.ref c, .int (nI ps.length), .ref pa] := by
      intro w_4 s_4 y0 y1 hy0 hy1 b_4 e_4 c_4 o_4
      refine go_dup 95 dL_randomExchange_94 rfl ?_
      refine go_iconst 96 dL_randomExchange_95 zc_2 ?_
      refine go_aload_n 97 dL_randomExchange_96 rfl ?_
      refine go_sipush 100 dL_randomExchange_97 zs_1000 ?_
      refine gx_below (B := 1000) hR b_4 103 dL_randomExchange_100 _ rfl (by decide) (by decide) (by omega) (by omega) (by exact Nat.le_of_ble_eq_true rfl) (fun w_5 y2 s_5 hy2 b_5 q_5 => ?_)
      have e_5 := e_4.go q_5 (by decide)
      have c_5 := c_4.go q_5 (by omega)
      have o_5 := o_4.go q_5 (fun z hz => by omega)
      refine gn_iast 2 (c_5.b (by exact rfl)) b_5 rfl (by decide) (by decide) 104 dL_randomExchange_103 (fun w_6 b_6 c_6 q_6 => ?_)
      replace c_6 := c_6.b (w1 := w0) (by exact rfl)
      have e_6 := e_5.go q_6 (by omega)
      obtain ⟨⟨g, g5, g6⟩, rw5, r5, r6, r7⟩ := o_5
      have rw6 : ∀ p, p < ps.length → ∃ g, Nc w0 w_6 T_1 (P p) (i5 Γ 3 g) (13 + 5 * p) ∧ g 0 = nI (ps.getD p (0, 0, 0)).1 ∧ g 1 = nI (ps.getD p (0, 0, 0)).2.1 ∧ g 2 = nI (ps.getD p (0, 0, 0)).2.2 := fun p hp => by
        obtain ⟨g', h1, h2⟩ := rw5 p hp
        exact ⟨g', h1.go q_6 (by omega), h2⟩
      refine gn_astA (i := ps.length) ((g5.go q_6 (by omega)).b (by exact rfl)) b_6 c_6.1 rfl hi8 (by omega) 105 dL_randomExchange_104 (fun w_7 b_7 g_7 q_7 => ?_)
      replace g_7 := g_7.b (w1 := w0) (by exact rfl)
      have e_7 := e_6.go q_7 (by decide)
      have c_7 := c_6.go q_7 (by omega)
      have o_7 : RXo Γ w0 w_7 T_1 pa r1 r2 r3 N (fun p => if p = ps.length then c else P p) (ps ++ [(y0, y1, y2)]) := by
        have hl : (ps ++ [(y0, y1, y2)]).length = ps.length + 1 := by simp
        refine ⟨⟨_, g_7, fun p hp => ?_⟩, fun p hp => ?_, (r5.go q_6 (by omega)).go q_7 (by decide), (r6.go q_6 (by omega)).go q_7 (by decide), (r7.go q_6 (by omega)).go q_7 (by decide)⟩
        · rw [hl] at hp
          show (if p = ps.length then some c else g p) = some (if p = ps.length then c else P p)
          by_cases hpe : p = ps.length
          · rw [if_pos hpe, if_pos hpe]
          · rw [if_neg hpe, if_neg hpe]
            exact g6 p (by omega)
        · rw [hl] at hp
          by_cases hpe : p = ps.length
          · subst hpe
            refine ⟨upd (upd (upd (fun _ => 0) 0 (nI y0)) 1 (nI y1)) 2 (nI y2), ?_, ?_, ?_, ?_⟩
            · show Nc w0 w_7 T_1 (if ps.length = ps.length then c else P ps.length) _ _
              rw [if_pos rfl]
              exact c_7
            · rw [getD_e]
              exact (if_neg (by decide)).trans ((if_neg (by decide)).trans (if_pos rfl))
            · rw [getD_e]
              exact (if_neg (by decide)).trans (if_pos rfl)
            · rw [getD_e]
              exact if_pos rfl
          · obtain ⟨g', h1, h2⟩ := rw6 p (by omega)
            refine ⟨g', ?_, ?_⟩
            · show Nc w0 w_7 T_1 (if p = ps.length then c else P p) _ _
              rw [if_neg hpe]
              exact h1.go q_7 (by omega)
            · rw [getD_l (by omega)]
              exact h2
      refine go_aload_n 106 dL_randomExchange_105 rfl ?_
      refine go_aload_n 107 dL_randomExchange_106 rfl ?_
      refine go_ldcS 109 dL_randomExchange_107 sL_126 ?_
      refine go_aload_n 110 dL_randomExchange_109 rfl ?_
      refine go_get 113 dL_randomExchange_110 fL_122 e_7.1 rfl ?_
      refine go_iload 115 dL_randomExchange_113 rfl ?_
      refine go_aaldA 116 dL_randomExchange_115 g_7.1 (vp_in_nI hi8 (by omega)) ?_
      rw [nI_clamp (by omega), show va_up g ps.length (some c) ps.length = some c from if_pos rfl]
      refine gx_nums (ns := [y0, y1, y2]) (m := 3) hR b_7 hW 119 dL_randomExchange_116 sL_126 (by decide +kernel) c_7.1 c_7.2.1 (by omega) (by omega) rfl (fun j hj => ?_) (fun c hc => ?_) (by decide) (by rw [show (chs "party").length = 5 by decide +kernel]; omega) (ltx_zp (y := (y0, y1, y2))) (by omega) (by omega) (by exact Nat.le_of_ble_eq_true rfl) (fun w_8 R_8 f_8 b_8 q_8 W_8 => ?_)
      · rcases (show j = 0 ∨ j = 1 ∨ j = 2 by omega) with rfl | rfl | rfl
        · exact (if_neg (by decide)).trans ((if_neg (by decide)).trans (if_pos rfl))
        · exact (if_neg (by decide)).trans (if_pos rfl)
        · exact if_pos rfl
      · simp only [List.mem_cons, List.not_mem_nil, or_false] at hc
        omega
      have e_8 := e_7.go q_8 ⟨by decide, by decide⟩
      have o_8 := o_7.go q_8 (fun z hz => by omega)
      refine go_iinc 122 dL_randomExchange_119 rfl (by decide) (show Int32.ofInt 1 = nI 1 from rfl) ?_
      refine go_goto 31 dL_randomExchange_122 ?_
      rw [nI_add]
      have h9 := ih (ps.length + 1) w_8 T_1 (cR C R_8) f_8 s_5 _ (ps ++ [(y0, y1, y2)]) (k + 1) (n + 3) (by omega) (by simp) (fun z hz => by
        rcases List.mem_append.mp hz with hz | hz
        · exact hps z hz
        · rw [List.mem_singleton.mp hz]
          exact ⟨hy0, hy1, by show y2 ≤ 999; omega⟩) b_8 e_8 o_8 W_8 hH (by omega) (by omega)
      exact go_locals _ rfl h9
    have K90 : ∀ (B : Nat) (w_3 : ZW) (s_3 : Int32) (y0 : Nat), 0 < B → B ≤ 60 → y0 ≤ 99 → BW (bsW Γ w0 x a b C f s_3) T0 w_3 T_1 → Nc w0 w_3 T_1 e (.inr (6, xFl none none pa r1 r2 r3 none)) 14 → Nc w0 w_3 T_1 c (i5 Γ 3 (upd (fun _ => 0) 0 (nI y0))) (13 + 5 * ps.length) → RXo Γ w0 w_3 T_1 pa r1 r2 r3 N P ps → Go l Γ mL_randomExchange 36 100 18000 (PvRX Γ w0 x a) zNo (k + 1) (n + 3) w_3 90 [(0, .ref x), (1, .ref b), (2, .ref a), (3, .ref e), (4, .int (nI ps.length))] [.int (nI B), .ref a, .int 1, .ref c, .ref c, .int (nI ps.length), .ref pa] := by
      intro B w_3 s_3 y0 hB0 hB hy0 b_3 e_3 c_3 o_3
      refine gx_below (B := B) hR b_3 93 dL_randomExchange_90 _ rfl hB0 (by omega) (by omega) (by omega) (by exact Nat.le_of_ble_eq_true rfl) (fun w_4 y1 s_4 hy1 b_4 q_4 => ?_)
      have e_4 := e_3.go q_4 (by decide)
      have c_4 := c_3.go q_4 (by omega)
      have o_4 := o_3.go q_4 (fun z hz => by omega)
      refine gn_iast 1 (c_4.b (by exact rfl)) b_4 rfl (by decide) (by decide) 94 dL_randomExchange_93 (fun w_5 b_5 c_5 q_5 => ?_)
      replace c_5 := c_5.b (w1 := w0) (by exact rfl)
      have e_5 := e_4.go q_5 (by omega)
      obtain ⟨⟨g, g5, g6⟩, rw5, r5, r6, r7⟩ := o_4
      exact K94 w_5 s_4 y0 y1 hy0 (by omega) b_5 e_5 c_5 ⟨⟨g, g5.go q_5 (by omega), g6⟩, fun p hp => by
        obtain ⟨g', h1, h2⟩ := rw5 p hp
        exact ⟨g', h1.go q_5 (by omega), h2⟩, r5.go q_5 (by omega), r6.go q_5 (by omega), r7.go q_5 (by omega)⟩
    have K68 : ∀ (B : Nat), 0 < B → B ≤ 60 → Go l Γ mL_randomExchange 36 100 18000 (PvRX Γ w0 x a) zNo (k + 1) (n + 3) w_2 68 [(0, .ref x), (1, .ref b), (2, .ref a), (3, .ref e), (4, .int (nI ps.length))] [.int (nI B), .ref a, .int 0, .ref c, .ref c, .int (nI ps.length), .ref pa] := by
      intro B hB0 hB
      refine gx_below (B := B) hR b_2 71 dL_randomExchange_68 _ rfl hB0 (by omega) (by omega) (by omega) (by exact Nat.le_of_ble_eq_true rfl) (fun w_4 y0 s_4 hy0 b_4 q_4 => ?_)
      have e_4 := e_2.go q_4 (by decide)
      have c_4 := c_2.go q_4 (by omega)
      have o_4 := o_2.go q_4 (fun z hz => by omega)
      refine gn_iast 0 (c_4.b (by exact rfl)) b_4 rfl (by decide) (by decide) 72 dL_randomExchange_71 (fun w_5 b_5 c_5 q_5 => ?_)
      replace c_5 := c_5.b (w1 := w0) (by exact rfl)
      have e_5 := e_4.go q_5 (by omega)
      obtain ⟨⟨g, g5, g6⟩, rw5, r5, r6, r7⟩ := o_4
      have o_5 : RXo Γ w0 w_5 T_1 pa r1 r2 r3 N P ps := ⟨⟨g, g5.go q_5 (by omega), g6⟩, fun p hp => by
        obtain ⟨g', h1, h2⟩ := rw5 p hp
        exact ⟨g', h1.go q_5 (by omega), h2⟩, r5.go q_5 (by omega), r6.go q_5 (by omega), r7.go q_5 (by omega)⟩
      refine go_dup 73 dL_randomExchange_72 rfl ?_
      refine go_iconst 74 dL_randomExchange_73 zc_1 ?_
      refine go_aload_n 75 dL_randomExchange_74 rfl ?_
      refine go_aload_n 76 dL_randomExchange_75 rfl ?_
      refine go_iconst 77 dL_randomExchange_76 zc_4 ?_
      refine gx_below (B := 4) hR b_5 80 dL_randomExchange_77 _ rfl (by decide) (by decide) (by omega) (by omega) (by exact Nat.le_of_ble_eq_true rfl) (fun w_6 j6 s_6 hj6 b_6 q_6 => ?_)
      have e_6 := e_5.go q_6 (by decide)
      have c_6 := c_5.go q_6 (by omega)
      have o_6 := o_5.go q_6 (fun z hz => by omega)
      refine go_if_ne 88 83 dL_randomExchange_80 (fun h80 => ?_) (fun h80 => ?_)
      · refine go_bipush 90 dL_randomExchange_88 zb_6 ?_
        exact K90 6 w_6 s_6 y0 (by decide) (by decide) (by omega) b_6 e_6 c_6 o_6
      · refine go_bipush 85 dL_randomExchange_83 zb_30 ?_
        refine go_goto 90 dL_randomExchange_85 ?_
        exact K90 30 w_6 s_6 y0 (by decide) (by decide) (by omega) b_6 e_6 c_6 o_6
    refine go_if_ne 66 61 dL_randomExchange_58 (fun h58 => ?_) (fun h58 => ?_)
    · refine go_bipush 68 dL_randomExchange_66 zb_8 ?_
      exact K68 8 (by decide) (by decide)
    · refine go_bipush 63 dL_randomExchange_61 zb_60 ?_
      refine go_goto 68 dL_randomExchange_63 ?_
      exact K68 60 (by decide) (by decide)
/-- the random exchange -/
theorem ct_L_randomExchange {C : CS} {f : Nat → Int32} {s : Int32} (hR : Rx w0 T0 x a b) (hin : InW Γ w0 x C b f) (hrn : w0.2 a = some (rnE s)) (hz : Z0 f) (h1 : C.2.1.1 1 = 0) (hH : Hx C) : Ct l Γ mL_randomExchange 36 100 18000 [.ref x, .ref b, .ref a] w0 (PvRX Γ w0 x a) zNo := by
  have b_0 : BW (bsW Γ w0 x a b C f s) T0 w0 T0 := by
    rw [bs_0 hR hin hrn]
    exact BW.rf
  refine Ct.of (by decide) rfl (Nat.le_of_ble_eq_true rfl) ?_
  refine gn_new 14 b_0 3 dL_randomExchange_0 nL_110 (by omega) (by omega) (fun w_1 T_1 e b_1 e_1 q_1 => ?_)
  refine go_dup 4 dL_randomExchange_3 rfl ?_
  refine gn_iniX e_1 b_1 7 dL_randomExchange_4 (Or.inr vnL_112) (by decide) (by omega) (by omega) (by exact Nat.le_of_ble_eq_true rfl) (fun w_2 T_2 r b_2 e_2 r0_2 r1_2 r2_2 r3_2 q_2 => ?_)
  refine go_astore_n 8 dL_randomExchange_7 (by decide) ?_
  refine go_aload_n 9 dL_randomExchange_8 rfl ?_
  refine go_aload_n 10 dL_randomExchange_9 rfl ?_
  refine go_ldcS 12 dL_randomExchange_10 sL_113 ?_
  refine gx_lit (ty := chs "exchange;") hR b_2 (hz.wk h1) 15 dL_randomExchange_12 sL_113 rfl (by decide +kernel) (by decide +kernel) (show [] ++ chs "exchange;" = ltx [] none none none by rw [ltx_z0]; rfl) (by omega) (by omega) (by exact Nat.le_of_ble_eq_true rfl) (fun w_3 R_3 f_3 b_3 q_3 W_3 => ?_)
  have e_3 := e_2.go q_3 ⟨by decide, by decide⟩
  have r1_3 := (r1_2.go q_3 ⟨by decide, by decide⟩)
  have r2_3 := (r2_2.go q_3 ⟨by decide, by decide⟩)
  have r3_3 := (r3_2.go q_3 ⟨by decide, by decide⟩)
  refine go_aload_n 16 dL_randomExchange_15 rfl ?_
  refine go_aload_n 17 dL_randomExchange_16 rfl ?_
  refine go_bipush 19 dL_randomExchange_17 zb_9 ?_
  refine gx_below (B := 9) hR b_3 22 dL_randomExchange_19 _ rfl (by decide) (by decide) (by omega) (by omega) (by exact Nat.le_of_ble_eq_true rfl) (fun w_4 N s_4 hN b_4 q_4 => ?_)
  have e_4 := e_3.go q_4 (by decide)
  have r1_4 := r1_3.go q_4 (by decide)
  have r2_4 := r2_3.go q_4 (by decide)
  have r3_4 := r3_3.go q_4 (by decide)
  refine gn_anewA 6 b_4 25 dL_randomExchange_22 al_L_120 rfl (by omega) (by omega) (by omega) (fun w_5 T_5 pa b_5 pa_5 q_5 => ?_)
  have e_5 := e_4.go q_5 trivial
  have r1_5 := r1_4.go q_5 trivial
  have r2_5 := r2_4.go q_5 trivial
  have r3_5 := r3_4.go q_5 trivial
  refine gn_put (e_5.b (by exact rfl)) b_5 28 dL_randomExchange_25 pL_122 (by exact Nat.le_of_ble_eq_true rfl) rfl rfl (fun w_6 b_6 e_6 q_6 => ?_)
  have pa_6 := pa_5.go q_6 (by decide)
  have r1_6 := r1_5.go q_6 (by decide)
  have r2_6 := r2_5.go q_6 (by decide)
  have r3_6 := r3_5.go q_6 (by decide)
  have ne1 : r + 1 ≠ e := fun h => by
    have h2 := r1_6.2.1
    rw [h, e_6.2.1] at h2
    exact absurd h2 (by decide)
  have ne2 : r + 2 ≠ e := fun h => by
    have h2 := r2_6.2.1
    rw [h, e_6.2.1] at h2
    exact absurd h2 (by decide)
  have ne3 : r + 3 ≠ e := fun h => by
    have h2 := r3_6.2.1
    rw [h, e_6.2.1] at h2
    exact absurd h2 (by decide)
  have np1 : r + 1 ≠ pa := fun h => by
    have h2 := r1_6.2.1
    rw [h, pa_6.2.1] at h2
    exact absurd h2 (by decide)
  have np2 : r + 2 ≠ pa := fun h => by
    have h2 := r2_6.2.1
    rw [h, pa_6.2.1] at h2
    exact absurd h2 (by decide)
  have np3 : r + 3 ≠ pa := fun h => by
    have h2 := r3_6.2.1
    rw [h, pa_6.2.1] at h2
    exact absurd h2 (by decide)
  have tg : ∀ {q t : Nat}, T_5 q = t → q ≠ r + 1 → q ≠ r + 2 → q ≠ r + 3 → tset (tset (tset T_5 (r + 1) 0) (r + 2) 0) (r + 3) 19 q = t := fun h h1 h2 h3 => ((if_neg h3).trans ((if_neg h2).trans (if_neg h1))).trans h
  refine go_iconst 29 dL_randomExchange_28 zc_0 ?_
  refine go_istore 31 dL_randomExchange_29 (by decide) ?_
  have h9 := lp_rex (l := l) (e := e) (pa := pa) (r1 := r + 1) (r2 := r + 2) (r3 := r + 3) hR (show N ≤ 8 by omega) N 0 w_6 (tset (tset (tset T_5 (r + 1) 0) (r + 2) 0) (r + 3) 19) (cR C R_3) f_3 s_4 (fun _ => 0) [] (0 + 1 + 4 + 1) (0 + 9 + 7 + N) (by omega) rfl (fun z hz => nomatch hz) (((b_6.tag r1_6.2.2).tag r2_6.2.2).tag r3_6.2.2) ⟨e_6.1, tg e_6.2.1 ne1.symm ne2.symm ne3.symm, e_6.2.2⟩ ⟨⟨_, ⟨pa_6.1, tg pa_6.2.1 np1.symm np2.symm np3.symm, pa_6.2.2⟩, fun p hp => absurd hp (Nat.not_lt_zero _)⟩, fun p hp => absurd hp (Nat.not_lt_zero _), ⟨r1_6.1, (if_neg (by omega)).trans ((if_neg (by omega)).trans (if_pos rfl)), r1_6.2.2⟩, ⟨r2_6.1, (if_neg (by omega)).trans (if_pos rfl), r2_6.2.2⟩, ⟨r3_6.1, if_pos rfl, r3_6.2.2⟩⟩ W_3 hH (by omega) (by omega)
  exact go_locals _ rfl h9
end
end LRxl
