section LStM
/-! a number of the script, and all -/
set_option maxRecDepth 100000 in
set_option maxHeartbeats 4000000 in
theorem st_19 {l : Launch} {Γ : ZG} {Φ : Option Value → ZW → Prop} {w : ZW} {ii k n KB NB : Nat} (hL : Γ.2.2.2.2.2.1 ≤ 260) (hii : ii < Γ.2.2.2.2.2.1) (hKB : KB ≤ 1036902) (hNB : NB ≤ 5990994) (kk : ∀ (w : ZW) (k n : Nat), k ≤ KB → n ≤ NB → Go l Γ mLaw 1312 1036902 5990994 Φ zNo k n w 4 [(0, .ref Γ.2.2.2.2.1), (1, .int 1), (2, .int (nI (ii + 1)))] []) (hk : k + 130000 ≤ KB) (hn : n + 2360000 ≤ NB) : Go l Γ mLaw 1312 1036902 5990994 Φ zNo k n w 19 [(0, .ref Γ.2.2.2.2.1), (1, .int 1), (2, .int (nI ii))] [] := by
  refine go_wf fun hw0 => ?_
  refine go_new 22 dL_law_19 nL_14 (by omega) (by omega) ?_
  rw [wnew_LW0]
  refine go_dup 23 dL_law_22 rfl ?_
  refine go_callI 26 [] dL_law_23 vL_221 (bk_X5 w w.1) (by decide) (by decide) (by omega) (by omega) (by exact Nat.le_of_ble_eq_true rfl) ?_
  rintro _ _ ⟨rfl, rfl⟩
  rw [LW_C]
  have cl1 : Cl Γ (wC Γ (w.1 + 105, w.2) w.1 C00) (fun q => if w.1 ≤ q then 1 else 0) w.1 C00 := ⟨fun j hj => wC_at j hj, fun j _ => if_pos (by omega), Nat.le_refl _⟩
  generalize (fun q => if w.1 ≤ q then 1 else 0 : LT) = T1 at cl1
  generalize wC Γ (w.1 + 105, w.2) w.1 C00 = w1 at cl1 ⊢
  generalize w.1 = x at cl1 ⊢
  refine go_astore_n 27 dL_law_26 (by decide) ?_
  refine go_bipush 29 dL_law_27 zb_8 ?_
  refine gn_newi 8 2 (BW.rf (w := w1) (T := T1)) 31 dL_law_29 rfl (by decide) (by omega) (by omega) (fun w2 T2 b b_2 p_2 q_2 => ?_)
  refine go_astore 33 dL_law_31 (by decide) ?_
  refine gn_new 2 b_2 36 dL_law_33 nL_116 (by omega) (by omega) (fun w3 T3 a b_3 a_3 q_3 => ?_)
  have p_3 := p_2.go q_3 trivial
  refine go_dup 37 dL_law_36 rfl ?_
  refine go_aload_n 38 dL_law_37 rfl ?_
  refine go_iload_n 39 dL_law_38 rfl ?_
  refine go_sld 40 dL_law_39 (vp_in_nI hii (by omega)) ?_
  refine go_callI 43 [.int (Γ.2.2.2.2.2.2 (nI ii).toNatClampNeg)] dL_law_40 vL_222 (ct_X9_init a_3.1) (by decide) (by decide) (by omega) (by omega) (by exact Nat.le_of_ble_eq_true rfl) ?_
  rintro _ _ ⟨rfl, rfl⟩
  generalize hs : Γ.2.2.2.2.2.2 (nI ii).toNatClampNeg = s
  have q_4 : Kq w3 T3 (wset w3 a (.inr (9, [.int s]))) T3 (fun z => z ≠ 2) := Kq.set a_3.2.1
  have hab : a ≠ b := fun z => by
    have e := a_3.1
    rw [z, p_3.1] at e
    cases e
  have p_4 : Nc w1 (wset w3 a (.inr (9, [.int s]))) T3 b (i5 Γ 8 (fun _ => 0)) 2 := ⟨(if_neg (fun z => hab z.symm)).trans p_3.1, p_3.2⟩
  have a_4 : Nc w1 (wset w3 a (.inr (9, [.int s]))) T3 a (rnE s) 2 := ⟨wset_at, a_3.2⟩
  have b_4 : BW w1 T1 (wset w3 a (.inr (9, [.int s]))) T3 := b_3.put a_3.2.2
  generalize wset w3 a (.inr (9, [.int s])) = w4 at q_4 p_4 a_4 b_4 ⊢
  refine go_astore 45 dL_law_43 (by decide) ?_
  refine go_aload_n 46 dL_law_45 rfl ?_
  refine gn_new 14 b_4 49 dL_law_46 nL_110 (by omega) (by omega) (fun w5 T5 e0 b_5 e_5 q_5 => ?_)
  have p_5 := p_4.go q_5 trivial
  have a_5 := a_4.go q_5 trivial
  refine go_dup 50 dL_law_49 rfl ?_
  refine gn_iniX e_5 b_5 53 dL_law_50 (Or.inr vnL_112) (by decide) (by omega) (by omega) (by exact Nat.le_of_ble_eq_true rfl) (fun w6 T6 r b_6 e_6 r0 r1 r2 r3 q_6 => ?_)
  have p_6 := p_5.go q_6 (by decide)
  have a_6 := a_5.go q_6 (by decide)
  have hX := us_LX e_6 r0 r1 r2 r3
  have cl6 : Cl Γ w6 T6 x C00 := ⟨fun j hj => (b_6.2 (x + j) (Nat.lt_of_lt_of_le (Nat.add_lt_add_left hj x) cl1.2.2)).1.trans (cl1.1 j hj), fun j hj => (b_6.2 (x + j) (Nat.lt_of_lt_of_le (Nat.add_lt_add_left hj x) cl1.2.2)).2.trans (cl1.2.1 j hj), Nat.le_trans cl1.2.2 b_6.1⟩
  have cl6' : Cl Γ w6 (fun q => if T6 q = 1 then 1 else 0) x C00 := ⟨cl6.1, fun j hj => if_pos (cl6.2.1 j hj), cl6.2.2⟩
  refine go_callS 56 [.ref x, .ref e0] dL_law_53 vL_225 rfl (ct_L_agrees cl6' (us_CR.1 : CR usual none (fun _ => (0, 0)) (C00.1 0) usual) us_CR.2 us_x.1 hX) (by decide) (by decide) (by omega) (by omega) (by exact Nat.le_of_ble_eq_true rfl) ?_
  rintro _ w7 ⟨rfl, e7, l7⟩
  have cl7 := cl6.bp e7 l7
  have k7 : Kq w6 T6 w7 T6 (fun _ => True) := Kq.bp e7
  refine go_if_eq 136 59 dL_law_56 (fun z => absurd z (by decide)) (fun _ => ?_)
  refine go_aload_n 60 dL_law_59 rfl ?_
  refine gcV0 63 dL_law_60 vL_229 cl7.x5 rfl (cl7.cm ct_X5_errorOffset) ?_
  refine go_iconst 64 dL_law_63 zc_m1 ?_
  refine go_icmp_ne 136 67 dL_law_64 (fun z => absurd rfl z) (fun _ => ?_)
  refine go_aload_n 68 dL_law_67 rfl ?_
  refine gcV0 71 dL_law_68 vL_232 cl7.x5 rfl (cl7.cm (ct_X5_undo_0 rfl)) ?_
  refine go_iconst 72 dL_law_71 zc_m1 ?_
  refine go_icmp_ne 136 75 dL_law_72 (fun z => absurd rfl z) (fun _ => ?_)
  refine go_aload_n 76 dL_law_75 rfl ?_
  refine go_sipush 79 dL_law_76 zs_201 ?_
  refine gw_X 82 [.ref x, .int 201] dL_law_79 vL_235 rfl (ct_L_pass_1 (cl7.th (ct_X5_pass_r (fun z => absurd z.2 (by decide)))) (by decide) cl7.x5) (by decide) (by exact Nat.le_of_ble_eq_true rfl) (by omega) (by omega) (by omega) (fun w8 e8 l8 => ?_)
  have cl8 := cl7.bp e8 l8
  have k8 : Kq w6 T6 w8 T6 (fun _ => True) := k7.trans (Kq.bp e8)
  refine go_ldc 84 dL_law_82 ciL_42 ?_
  refine go_icmp_ne 136 87 dL_law_84 (fun z => absurd rfl z) (fun _ => ?_)
  refine go_aload_n 88 dL_law_87 rfl ?_
  refine go_bipush 90 dL_law_88 zb_7 ?_
  have rg8 : Rg Γ w8 T6 x none [] := ⟨rfl, fun r hr => by cases hr⟩
  have hU : CR usual none (fun _ => (0, 0)) (C00.1 0) usual := us_CR.1
  have hG0 := us_CR.2
  obtain ⟨n1, n2, n3, n4⟩ := us_n
  have it := itr_sec 7 0 usual hG0 us_x.1 us_x.2 (by omega)
  have itL := itr_nL 7 0 usual hG0 (by omega)
  refine go_callSW 93 [.ref x, .int (nI 7)] dL_law_90 vL_235 rfl (co_pass (i := 0) (u := 0) (N := 7) cl8 rg8 hU hG0 ⟨rfl, by decide, rfl, by decide⟩ ⟨by decide, by decide⟩ (by omega)) (by decide) (by decide) (by omega) (by omega) (by exact Nat.le_of_ble_eq_true rfl) ?_
  rintro _ w9 ⟨rfl, E9, z9, cl9, -, k9, hC9⟩
  rw [n1, n2, n3] at cl9
  rw [cnt_0 (itL.trans n3)]
  refine go_if_ne 136 96 dL_law_93 (fun z => absurd rfl z) (fun _ => ?_)
  refine go_aload_n 97 dL_law_96 rfl ?_
  have hC9' : CR (itr (fun _ D => secD D) 0 7 usual) none (fun _ => (0, 0)) ((cE (puC C00 0 0 0 0 0) 0 E9).1 0) (itr (fun _ D => secD D) 0 7 usual) := hC9
  refine gcV0 100 dL_law_97 vL_166 cl9.x5 rfl (cl9.cm (ct_X5_time hC9')) ?_
  rw [show (itr (fun _ D => secD D) 0 7 usual) 0 = 7 by rw [it.1.jt.1.1, it.2.2.2.1, n4]; rfl]
  refine go_bipush 102 dL_law_100 zb_7 ?_
  refine go_icmp_ne 136 105 dL_law_102 (fun z => absurd rfl z) (fun _ => ?_)
  refine go_aload_n 106 dL_law_105 rfl ?_
  have h20 : CR usual none (fun _ => (0, 0)) ((cE (puC C00 0 0 0 0 0) 0 E9).1 (2 + slt 1)) usual := by
    show CR usual none (fun _ => (0, 0)) (if 2 + slt 1 = 0 then E9 else if 2 + slt 1 = 2 + 0 then cpE (C00.1 (2 + 0)) (C00.1 0) 0 0 0 else C00.1 (2 + slt 1)) usual
    rw [if_neg (by decide), if_pos (by decide)]
    have hc := hU.cpy (C00.1 (2 + 0))
    rw [n1, n2, n3] at hc
    exact hc
  have hu := ct_X5_undo (l := l) (Γ := Γ) (w := w9) (x := x) (C := cE (puC C00 0 0 0 0 0) 0 E9) (i := 1) (u := 0) rfl (by decide) rfl (by decide) h20.rb
  rw [cl9.self] at hu
  rw [n1, n2, n3] at hu
  refine gcV0 109 dL_law_106 vL_232 cl9.x5 rfl hu ?_
  have cl10 : Cl Γ (wC Γ w9 x (poC (cE (puC C00 0 0 0 0 0) 0 E9) 1 0 0 0 0)) T6 x (poC (cE (puC C00 0 0 0 0 0) 0 E9) 1 0 0 0 0) := cl9.wc rfl
  have k10 : Kq w6 T6 (wC Γ w9 x (poC (cE (puC C00 0 0 0 0 0) 0 E9) 1 0 0 0 0)) T6 (fun z => z ≠ 1) := (k8.mono (fun _ _ => trivial)).trans (k9.trans (cl9.kq Kq.rf))
  have hC10 : CR usual none (fun _ => (0, 0)) ((poC (cE (puC C00 0 0 0 0 0) 0 E9) 1 0 0 0 0).1 0) usual := by
    show CR usual none (fun _ => (0, 0)) (if 0 = 0 then cpE ((cE (puC C00 0 0 0 0 0) 0 E9).1 0) ((cE (puC C00 0 0 0 0 0) 0 E9).1 (2 + slt 1)) 0 0 0 else (cE (puC C00 0 0 0 0 0) 0 E9).1 0) usual
    rw [if_pos rfl]
    have hc := h20.cpy ((cE (puC C00 0 0 0 0 0) 0 E9).1 0)
    rw [n1, n2, n3] at hc
    exact hc
  have h101 : (poC (cE (puC C00 0 0 0 0 0) 0 E9) 1 0 0 0 0).2.1.1 1 = 0 := rfl
  have hH10 : Hx (poC (cE (puC C00 0 0 0 0 0) 0 E9) 1 0 0 0 0) := ⟨usual, none, fun _ => (0, 0), 0, 0, hC10, rfl, by decide, rfl, by decide⟩
  generalize poC (cE (puC C00 0 0 0 0 0) 0 E9) 1 0 0 0 0 = C2 at cl10 k10 hC10 h101 hH10 ⊢
  generalize wC Γ w9 x C2 = w10 at cl10 k10 ⊢
  refine go_if_ne 136 112 dL_law_109 (fun z => absurd nI_0 z) (fun _ => ?_)
  refine go_aload_n 113 dL_law_112 rfl ?_
  refine go_iconst 114 dL_law_113 zc_0 ?_
  refine gw_X 117 [.ref x, .int (nI 0)] dL_law_114 vL_237 rfl (ct_L_hangUp_1 (cl10.th (ct_X5_hangUp_1 hC10 (hC10.oP (k := 0) (by omega) (by decide)))) (by decide) cl10.x5) (by decide) (by exact Nat.le_of_ble_eq_true rfl) (by omega) (by omega) (by omega) (fun w11 e11 l11 => ?_)
  have cl11 := cl10.bp e11 l11
  have k11 : Kq w6 T6 w11 T6 (fun z => z ≠ 1) := k10.trans (Kq.bp e11)
  refine go_ldc 119 dL_law_117 ciL_52 ?_
  refine go_icmp_ne 136 122 dL_law_119 (fun z => absurd rfl z) (fun _ => ?_)
  refine go_aload_n 123 dL_law_122 rfl ?_
  refine go_iconst 124 dL_law_123 zc_0 ?_
  refine gw_X 127 [.ref x, .int (nI 0)] dL_law_124 vL_239 rfl (ct_L_settlesIn_1 (cl11.th (ct_X5_settlesIn_1 hC10 (hC10.oC (k := 0) (by omega) (by decide)))) (by decide) cl11.x5) (by decide) (by exact Nat.le_of_ble_eq_true rfl) (by omega) (by omega) (by omega) (fun w12 e12 l12 => ?_)
  have cl12 := cl11.bp e12 l12
  have k12 : Kq w6 T6 w12 T6 (fun z => z ≠ 1) := k11.trans (Kq.bp e12)
  have p_12 := p_6.go k12 (by decide)
  have a_12 := a_6.go k12 (by decide)
  refine go_ldc 129 dL_law_127 ciL_52 ?_
  refine go_icmp_ne 136 132 dL_law_129 (fun z => absurd rfl z) (fun _ => ?_)
  refine go_iconst 133 dL_law_132 zc_1 ?_
  refine go_goto 137 dL_law_133 ?_
  refine go_istore_n 138 dL_law_137 (by decide) ?_
  refine go_aload_n 139 dL_law_138 rfl ?_
  refine go_aload 141 dL_law_139 rfl ?_
  refine go_aload 143 dL_law_141 rfl ?_
  refine go_wf fun hw12 => ?_
  have hR : Rx w12 T6 x a b := ⟨⟨cl12.2.2, hw12 _ _ p_12.1, hw12 _ _ a_12.1⟩, cl12.out (by rw [p_12.2.1]; decide), cl12.out (by rw [a_12.2.1]; decide), hab, cl12.2.1, p_12.2.1, a_12.2.1⟩
  refine go_callS 146 [.ref x, .ref b, .ref a] dL_law_143 vL_241 rfl (ct_L_randomExchange (f := fun _ => 0) hR ⟨cl12.1, p_12.1⟩ a_12.1 ⟨rfl, fun k hk j hj => cby_0 j hj⟩ h101 hH10) (by decide) (by decide) (by omega) (by omega) (by exact Nat.le_of_ble_eq_true rfl) ?_
  rintro _ w13 ⟨e, T13, C, D, i, u, rfl, hB, hP, htm, hh, hu1, l13⟩
  refine go_astore 148 dL_law_146 (by decide) ?_
  refine go_aload 150 dL_law_148 rfl ?_
  refine go_ifnonnull 155 dL_law_150 ?_
  refine go_iload_n 156 dL_law_155 rfl ?_
  refine go_if_eq 172 159 dL_law_156 (fun z => absurd z (by decide)) (fun _ => ?_)
  refine go_aload_n 160 dL_law_159 rfl ?_
  refine go_aload 162 dL_law_160 rfl ?_
  obtain ⟨s9, g, cs, sg, A, V, tm, cl, rn, rg, h, tr, hC, hG, hJ, hW, hz⟩ := id hB
  refine go_callS 165 [.ref x, .ref e] dL_law_162 vL_225 rfl (ct_L_agrees cl hC hG hJ h) (by decide) (by decide) (by omega) (by omega) (by exact Nat.le_of_ble_eq_true rfl) ?_
  rintro _ w14 ⟨rfl, e14, l14⟩
  have hB14 := hB.go (Kq.bp e14) l14
  refine go_if_eq 172 168 dL_law_165 (fun z => absurd z (by decide)) (fun _ => ?_)
  refine go_iconst 169 dL_law_168 zc_1 ?_
  refine go_goto 173 dL_law_169 ?_
  refine go_istore_n 174 dL_law_173 (by decide) ?_
  refine go_bipush 176 dL_law_174 zb_9 ?_
  refine go_wf fun hw14 => ?_
  refine go_anew6 (N := 9) 179 dL_law_176 al_L_110 rfl (by decide) (by omega) (by omega) ?_
  have k15 : Kq w14 T13 (wnew w14 (q5 Γ 6 9 (fun _ => none))) (tset T13 w14.1 3) (fun _ => True) := Kq.new hw14
  have hB15 := hB14.go k15 (Nat.le_succ _)
  have hb15 : Hb Γ (wnew w14 (q5 Γ 6 9 (fun _ => none))) (tset T13 w14.1 3) w14.1 C i u 0 := ⟨hh, Or.inr (Nat.zero_le _), fun _ => none, if_pos rfl, if_pos rfl, fun j _ => Or.inl rfl, fun j _ h9 => absurd h9 (Nat.not_lt_zero _)⟩
  refine go_astore 181 dL_law_179 (by decide) ?_
  refine go_iconst 182 dL_law_181 zc_0 ?_
  refine go_istore 184 dL_law_182 (by decide) ?_
  refine go_iconst 185 dL_law_184 zc_0 ?_
  refine go_istore 187 dL_law_185 (by decide) ?_
  refine go_locals [(0, .ref Γ.2.2.2.2.1), (1, .int 1), (2, .int (nI ii)), (3, .ref x), (5, .ref a), (6, .ref e), (7, .ref w14.1), (8, .int (nI 0)), (9, .int (nI 0))] rfl (lp_steps (KB := KB - 1100) (NB := NB - 7000) (by omega) (by omega) (fun w T C D i u dn k n hB hH hd hk hn => ?_) 45 0 rfl _ _ C D i u 0 _ _ hB15 hP (by omega) hb15 (Nat.le_refl _) (by omega) (by omega))
  refine go_iconst 1159 dL_law_1158 zc_0 ?_
  refine go_istore 1161 dL_law_1159 (by decide) ?_
  obtain ⟨s9, g, cs, sg, A, V, tm, cl, rn, rg, h, tr, hC, hG, hJ, hW, hz⟩ := id hB
  refine go_locals [(0, .ref Γ.2.2.2.2.1), (1, .int 1), (2, .int (nI ii)), (3, .ref x), (7, .ref w14.1), (8, .int (nI dn)), (9, .int (nI 0))] rfl (lp_undo (KB := KB - 50) (NB := NB - 500) hd (by omega) (by omega) (fun w T C k n cl hC hz hk hn => ?_) 8 0 rfl w T C i u k n cl ⟨D, g, sg, hC⟩ hz hH.hu (by omega) (by omega))
  obtain ⟨D, g, sg, hC⟩ := hC
  exact st_1210 hKB hNB kk cl hC hz (by omega) (by omega)
set_option maxRecDepth 100000 in
set_option maxHeartbeats 4000000 in
theorem lp_law {l : Launch} {Γ : ZG} {Φ : Option Value → ZW → Prop} (hL : Γ.2.2.2.2.2.1 ≤ 260) (hΦ : ∀ w, Φ (some (.int 1)) w) : ∀ (f ii : Nat), ii + f = 2 → ∀ (w : ZW) (k n : Nat), k + 130000 * f ≤ 1036902 → n + 2360000 * f ≤ 5990994 → Go l Γ mLaw 1312 1036902 5990994 Φ zNo k n w 4 [(0, .ref Γ.2.2.2.2.1), (1, .int 1), (2, .int (nI ii))] [] := by
  have hret : ∀ (ii : Nat) (w : ZW) (k n : Nat), k ≤ 1036902 → n ≤ 5990994 → Go l Γ mLaw 1312 1036902 5990994 Φ zNo k n w 1282 [(0, .ref Γ.2.2.2.2.1), (1, .int 1), (2, .int (nI ii))] [] := by
    intro ii w k n hk hn
    refine go_iload_n 1283 dL_law_1282 rfl ?_
    exact go_zreturn dL_law_1283 rfl hk hn (Or.inr rfl) (hΦ _)
  intro f
  induction f with
  | zero =>
    intro ii hi w k n hk hn
    obtain rfl : ii = 2 := by omega
    refine go_iload_n 5 dL_law_4 rfl ?_
    refine go_aload_n 6 dL_law_5 rfl ?_
    refine go_slen 7 dL_law_6 ?_
    refine go_icmp_ge 1282 10 dL_law_7 (fun _ => hret 2 w k n (by omega) (by omega)) (fun _ => ?_)
    refine go_iload_n 11 dL_law_10 rfl ?_
    refine go_iconst 12 dL_law_11 zc_2 ?_
    exact go_icmp_ge 1282 15 dL_law_12 (fun _ => hret 2 w k n (by omega) (by omega)) (fun z => absurd (show (2 : Int32) ≤ nI 2 by decide) z)
  | succ f ih =>
    intro ii hi w k n hk hn
    refine go_iload_n 5 dL_law_4 rfl ?_
    refine go_aload_n 6 dL_law_5 rfl ?_
    refine go_slen 7 dL_law_6 ?_
    by_cases hii : ii < Γ.2.2.2.2.2.1
    · refine go_icmp_ge 1282 10 dL_law_7 (fun z => absurd ((nI_leI (a := Γ.2.2.2.2.2.1) (b := ii) (by omega) (by omega)).mp z) (by omega)) (fun _ => ?_)
      refine go_iload_n 11 dL_law_10 rfl ?_
      refine go_iconst 12 dL_law_11 zc_2 ?_
      refine go_icmp_ge 1282 15 dL_law_12 (fun z => absurd ((nI_leI (a := 2) (b := ii) (by decide) (by omega)).mp z) (by omega)) (fun _ => ?_)
      refine go_iload_n 16 dL_law_15 rfl ?_
      refine go_if_eq 1282 19 dL_law_16 (fun z => absurd z (by decide)) (fun _ => ?_)
      obtain ⟨KB, eK⟩ : ∃ q, q = k + 130000 := ⟨_, rfl⟩
      obtain ⟨NB, eN⟩ : ∃ q, q = n + 2360000 := ⟨_, rfl⟩
      have h1 : KB ≤ 1036902 := by omega
      have h2 : NB ≤ 5990994 := by omega
      exact st_19 (KB := KB) (NB := NB) hL hii h1 h2 (fun w' k' n' hk' hn' => ih (ii + 1) (by omega) w' k' n' (by omega) (by omega)) (Nat.le_of_eq eK.symm) (Nat.le_of_eq eN.symm)
    · refine go_icmp_ge 1282 10 dL_law_7 (fun _ => hret ii w k n (by omega) (by omega)) (fun z => absurd ((nI_leI (a := Γ.2.2.2.2.2.1) (b := ii) (by omega) (by omega)).mpr (by omega)) z)
set_option maxRecDepth 100000 in
set_option maxHeartbeats 4000000 in
/-- the law, from its entry -/
theorem go_law {l : Launch} {Γ : ZG} {Φ : Option Value → ZW → Prop} {w : ZW} (hL : Γ.2.2.2.2.2.1 ≤ 260) (hΦ : ∀ w, Φ (some (.int 1)) w) : Go l Γ mLaw 1312 1036902 5990994 Φ zNo 0 0 w 0 [(0, .ref Γ.2.2.2.2.1)] [] := by
  refine go_iconst 1 dL_law_0 zc_1 ?_
  refine go_istore_n 2 dL_law_1 (by decide) ?_
  refine go_iconst 3 dL_law_2 zc_0 ?_
  refine go_istore_n 4 dL_law_3 (by decide) ?_
  exact go_locals _ rfl (lp_law hL hΦ 2 0 rfl w 0 0 (by decide) (by decide))
end LStM
