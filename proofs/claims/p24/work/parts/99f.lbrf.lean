section LBrF
/-! the law's steps: time passes -/
set_option maxRecDepth 100000 in
set_option maxHeartbeats 4000000 in
theorem lp_secs {l : Launch} {Γ : ZG} {Φ : Option Value → ZW → Prop} {w0 : ZW} {T0 : LT} {x a e bf y ii dn nn p N : Nat} {ip : Int32} {D DF : ZD} {A : LA} {sg : ZSg} {tm : Option Nat} {KB NB : Nat} (hN : N < 30) (hKB : KB ≤ 1036902) (hNB : NB ≤ 5990994)
    (kk : ∀ (w : ZW) (T : LT) (V : LA) (k n : Nat), FR w0 T0 w T → LX Γ w T 1 sg A V tm e DF → GI sg DF → k ≤ KB → n ≤ NB → Go l Γ mLaw 1312 1036902 5990994 Φ zNo k n w 1061 [(0, .ref Γ.2.2.2.2.1), (1, .int 1), (2, .int (nI ii)), (3, .ref x), (5, .ref a), (6, .ref e), (7, .ref bf), (8, .int (nI dn)), (9, .int (nI nn)), (10, .ref y), (11, .int 1), (12, .int (-2000000097)), (13, .int (nI (nP D))), (14, .int (nI p)), (15, .int ip), (23, .int (nI N))] []) : ∀ (f j : Nat) (w : ZW) (T : LT) (V : LA) (D' : ZD) (k n : Nat), j + f = N → FR w0 T0 w T → LX Γ w T 1 sg A V tm e D' → GI sg D' → tmN D' + f ≤ 10000 → itr (fun _ D => secD D) j f D' = DF → k + pot D' + 80 * f ≤ KB → n + 20 * pot D' + 1600 * f ≤ NB → Go l Γ mLaw 1312 1036902 5990994 Φ zNo k n w 1043 [(0, .ref Γ.2.2.2.2.1), (1, .int 1), (2, .int (nI ii)), (3, .ref x), (5, .ref a), (6, .ref e), (7, .ref bf), (8, .int (nI dn)), (9, .int (nI nn)), (10, .ref y), (11, .int 1), (12, .int (-2000000097)), (13, .int (nI (nP D))), (14, .int (nI p)), (15, .int ip), (23, .int (nI N)), (24, .int (nI (j)))] [] := by
  intro f
  induction f with
  | zero =>
    intro j w T V D' k n hj fr h hG ht hD hk hn
    obtain rfl : j = N := by omega
    obtain rfl : D' = DF := hD
    refine go_iload 1045 dL_law_1043 rfl ?_
    refine go_iload 1047 dL_law_1045 rfl ?_
    refine go_icmp_ge 1061 1050 dL_law_1047 (fun _ => ?_) (fun z => absurd (Int32.le_refl _) z)
    exact go_locals _ rfl (kk w T V k n fr h hG (by omega) (by omega))
  | succ f ih =>
    intro j w T V D' k n hj fr h hG ht hD hk hn
    have ix := hG.iv.1
    have h40 := ix.2.2.1.2
    have hps := pot_sec hG (by omega)
    have hg := hG.sec (by omega)
    refine go_iload 1045 dL_law_1043 rfl ?_
    refine go_iload 1047 dL_law_1045 rfl ?_
    refine go_icmp_ge 1061 1050 dL_law_1047 (fun z => absurd ((nI_leI (by omega) (by omega)).mp z) (by omega)) (fun _ => ?_)
    refine go_aload 1052 dL_law_1050 rfl ?_
    refine go_callV 1055 [] dL_law_1052 vL_291 h.x.1 rfl (cl_second h hG (by omega) (mc := 2 * nL D' + pot D' - pot (secD D')) (by omega)) (by decide) (by decide) (by omega) (by omega) (by exact Nat.le_of_ble_eq_true rfl) ?_
    rintro _ w1 ⟨rfl, T1, V1, f1, h1⟩
    refine go_iinc 1058 dL_law_1055 rfl (by decide) (show Int32.ofInt 1 = nI 1 from rfl) ?_
    refine go_goto 1043 dL_law_1058 ?_
    rw [nI_add]
    exact go_locals _ rfl (ih (j + 1) w1 T1 V1 (secD D') _ _ (by omega) (fr.trans f1) h1 hg.1 (by rw [hg.2]; omega) hD (by omega) (by omega))
set_option maxRecDepth 100000 in
set_option maxHeartbeats 4000000 in
theorem br_pass9 {l : Launch} {Γ : ZG} {Φ : Option Value → ZW → Prop} {w : ZW} {T : LT} {x a e bf y : Nat} {C : CS} {D : ZD} {i u dn nn p ii k n kM nM : Nat} {ip : Int32} {N : Nat} (hN : N < 30) (hB : Bo Γ w T x a e C D) (hH : Hb Γ w T bf C i u dn) (hF : Fy Γ w T (C.1 0) D y) (hP : nP D ≤ 8) (ht : tmN D ≤ 30 * nn) (hnn : nn ≤ 45) (hp : p ≤ 8) (hip : (ip = 1 ∧ p < nP D) ∨ (ip = 0 ∧ nP D ≤ p)) (hk : k + 2560 ≤ kM) (hn : n + 49000 ≤ nM) (hkM : kM ≤ 1036902) (hnM : nM ≤ 5990994) (KK : ∀ (w : ZW) (T : LT) (c : Int32) (k n : Nat), Aft Γ w T x a e bf y C D i u dn nn c → k ≤ kM → n ≤ nM → Go l Γ mLaw 1312 1036902 5990994 Φ zNo k n w 1092 [(0, .ref Γ.2.2.2.2.1), (1, .int 1), (2, .int (nI ii)), (3, .ref x), (5, .ref a), (6, .ref e), (7, .ref bf), (8, .int (nI dn)), (9, .int (nI nn)), (10, .ref y), (11, .int c)] []) : Go l Γ mLaw 1312 1036902 5990994 Φ zNo k n w 1028 [(0, .ref Γ.2.2.2.2.1), (1, .int 1), (2, .int (nI ii)), (3, .ref x), (5, .ref a), (6, .ref e), (7, .ref bf), (8, .int (nI dn)), (9, .int (nI nn)), (10, .ref y), (12, .int (-2000000097)), (13, .int (nI (nP D))), (14, .int (nI p)), (15, .int ip), (23, .int (nI N))] [] := by
  obtain ⟨s, g, cs, sg, A, V, tm, cl, rn, rg, h, tr, hC, hG, hJ, hW, hz⟩ := id hB
  have h10 := hC.P10
  have ix := hG.iv.1
  have hpt := pot_120 ix
  by_cases hN0 : N = 0
  · subst hN0
    refine go_iload 1030 dL_law_1028 rfl ?_
    refine go_if_le 1037 1033 dL_law_1030 (fun _ => ?_) (fun z => absurd (show nI 0 ≤ 0 by decide) z)
    refine go_iconst 1038 dL_law_1037 zc_0 ?_
    refine go_istore 1040 dL_law_1038 (by decide) ?_
    refine go_iconst 1041 dL_law_1040 zc_0 ?_
    refine go_istore 1043 dL_law_1041 (by decide) ?_
    refine go_iload 1045 dL_law_1043 rfl ?_
    refine go_iload 1047 dL_law_1045 rfl ?_
    refine go_icmp_ge 1061 1050 dL_law_1047 (fun _ => ?_) (fun z => absurd (show nI 0 ≤ 0 by decide) z)
    refine go_aload_n 1062 dL_law_1061 rfl ?_
    refine go_iload 1064 dL_law_1062 rfl ?_
    refine gw_X 1067 [.ref x, .int (nI 0)] dL_law_1064 vL_235 rfl (ct_L_pass_1 (cl.th (ct_X5_pass_r (fun z => absurd z.1 (by decide)))) (by decide) cl.x5) (by decide) (by exact Nat.le_of_ble_eq_true rfl) (by omega) (by omega) (by omega) (fun w2 e2 l2 => ?_)
    have af : Aft Γ w2 T x a e bf y C D i u dn nn 0 := aft_0 hB hH hP ht e2 l2
    refine go_iload 1069 dL_law_1067 rfl ?_
    refine go_if_eq 1081 1072 dL_law_1069 (fun _ => ?_) (fun z => absurd rfl z)
    refine go_ldc 1083 dL_law_1081 ciL_42 ?_
    refine go_icmp_ne 1090 1086 dL_law_1083 (fun z => absurd rfl z) (fun _ => ?_)
    refine go_iconst 1087 dL_law_1086 zc_1 ?_
    refine go_goto 1091 dL_law_1087 ?_
    refine go_istore_n 1092 dL_law_1091 (by decide) ?_
    exact go_locals _ rfl (KK w2 T 0 _ _ af (by omega) (by omega))
  · refine go_wf fun hw => ?_
    refine go_iload 1030 dL_law_1028 rfl ?_
    refine go_if_le 1037 1033 dL_law_1030 (fun z => absurd ((nI_leI (b := 0) (by omega) (by decide)).mp z) (by omega)) (fun _ => ?_)
    refine go_iconst 1034 dL_law_1033 zc_1 ?_
    refine go_goto 1038 dL_law_1034 ?_
    refine go_istore 1040 dL_law_1038 (by decide) ?_
    refine go_iconst 1041 dL_law_1040 zc_0 ?_
    refine go_istore 1043 dL_law_1041 (by decide) ?_
    have it := itr_sec N 0 D hG hJ hW (by omega)
    refine go_locals [(0, .ref Γ.2.2.2.2.1), (1, .int 1), (2, .int (nI ii)), (3, .ref x), (5, .ref a), (6, .ref e), (7, .ref bf), (8, .int (nI dn)), (9, .int (nI nn)), (10, .ref y), (11, .int 1), (12, .int (-2000000097)), (13, .int (nI (nP D))), (14, .int (nI p)), (15, .int ip), (23, .int (nI N)), (24, .int (nI (0)))] rfl (lp_secs (l := l) (w0 := w) (T0 := T) (D := D) (N := N) (KB := kM) (NB := nM) (DF := itr (fun _ D => secD D) 0 N D) (by omega) hkM hnM (fun w1 T1 V1 k1 n1 f1 h1 hG1 hk1 hn1 => ?_) N 0 w T V D k n (Nat.zero_add _) FR.rf h hG (by omega) rfl (by omega) (by omega))
    have kq := f1.kq hw
    have cl1 := cl.go kq (by decide) f1.1
    have rn1 := rn.go kq (by decide)
    have rg1 := rg.go kq (by decide) f1.1
    have tr1 := tr.go kq (by decide)
    have hH1 := hH.go kq (by decide) (by decide)
    have hF1 := hF.go kq (by decide)
    refine go_aload_n 1062 dL_law_1061 rfl ?_
    refine go_iload 1064 dL_law_1062 rfl ?_
    refine go_callSW 1067 [.ref x, .int (nI N)] dL_law_1064 vL_235 rfl (co_pass cl1 rg1 hC hG hH.1 ⟨by omega, by omega⟩ (by omega)) (by decide) (by decide) (by omega) (by omega) (by exact Nat.le_of_ble_eq_true rfl) ?_
    intro v2 w2 q2
    obtain ⟨rfl, af⟩ := aft_1 (nn := nn) rn1 tr1 h1 hH1 hF1 it.1 it.2.1 it.2.2.1 hz (by rw [it.2.2.2.2]; exact hP) (by rw [it.2.2.2.1]; omega) q2
    obtain ⟨-, E2, -, -, -, k2, -⟩ := q2
    have h2 := lx_n1 h1 k2
    refine go_iload 1069 dL_law_1067 rfl ?_
    refine go_if_eq 1081 1072 dL_law_1069 (fun z => absurd z (by decide)) (fun _ => ?_)
    refine go_aload 1074 dL_law_1072 rfl ?_
    refine go_iconst 1075 dL_law_1074 zc_1 ?_
    refine gcV1 1078 dL_law_1075 vL_181 h2.x.1 rfl (cl_count h2 hG1.iv.1 (p := 1)) ?_
    refine go_goto 1083 dL_law_1078 ?_
    refine go_icmp_ne 1090 1086 dL_law_1083 (fun z => absurd rfl z) (fun _ => ?_)
    refine go_iconst 1087 dL_law_1086 zc_1 ?_
    refine go_goto 1091 dL_law_1087 ?_
    refine go_istore_n 1092 dL_law_1091 (by decide) ?_
    exact go_locals _ rfl (KK w2 T1 1 _ _ af (by omega) (by omega))
set_option maxRecDepth 100000 in
set_option maxHeartbeats 4000000 in
theorem br_pass {l : Launch} {Γ : ZG} {Φ : Option Value → ZW → Prop} {w : ZW} {T : LT} {x a e bf y : Nat} {C : CS} {D : ZD} {i u dn nn p ii k n kM nM : Nat} {ip : Int32} (hB : Bo Γ w T x a e C D) (hH : Hb Γ w T bf C i u dn) (hF : Fy Γ w T (C.1 0) D y) (hP : nP D ≤ 8) (ht : tmN D ≤ 30 * nn) (hnn : nn ≤ 45) (hp : p ≤ 8) (hip : (ip = 1 ∧ p < nP D) ∨ (ip = 0 ∧ nP D ≤ p)) (hk : k + 2560 ≤ kM) (hn : n + 49000 ≤ nM) (hkM : kM ≤ 1036902) (hnM : nM ≤ 5990994) (KK : ∀ (w : ZW) (T : LT) (c : Int32) (k n : Nat), Aft Γ w T x a e bf y C D i u dn nn c → k ≤ kM → n ≤ nM → Go l Γ mLaw 1312 1036902 5990994 Φ zNo k n w 1092 [(0, .ref Γ.2.2.2.2.1), (1, .int 1), (2, .int (nI ii)), (3, .ref x), (5, .ref a), (6, .ref e), (7, .ref bf), (8, .int (nI dn)), (9, .int (nI nn)), (10, .ref y), (11, .int c)] []) : Go l Γ mLaw 1312 1036902 5990994 Φ zNo k n w 1006 [(0, .ref Γ.2.2.2.2.1), (1, .int 1), (2, .int (nI ii)), (3, .ref x), (5, .ref a), (6, .ref e), (7, .ref bf), (8, .int (nI dn)), (9, .int (nI nn)), (10, .ref y), (12, .int (-2000000097)), (13, .int (nI (nP D))), (14, .int (nI p)), (15, .int ip)] [] := by
  refine go_aload 1008 dL_law_1006 rfl ?_
  refine go_aload 1010 dL_law_1008 rfl ?_
  refine go_iconst 1011 dL_law_1010 zc_4 ?_
  refine gb_below (B := 4) hB 1014 dL_law_1011 _ rfl (by decide) (by decide) (by omega) (by omega) (by exact Nat.le_of_ble_eq_true rfl) (fun w1 j1 hj1 hB1 kq1 el1 => ?_)
  have hH1 := hH.go kq1 (by decide) (by decide)
  have hF1 := hF.go kq1 (by decide)
  have K1023 : ∀ B, 0 < B → B ≤ 30 → Go l Γ mLaw 1312 1036902 5990994 Φ zNo k n w1 1023 [(0, .ref Γ.2.2.2.2.1), (1, .int 1), (2, .int (nI ii)), (3, .ref x), (5, .ref a), (6, .ref e), (7, .ref bf), (8, .int (nI dn)), (9, .int (nI nn)), (10, .ref y), (12, .int (-2000000097)), (13, .int (nI (nP D))), (14, .int (nI p)), (15, .int ip)] [.int (nI B), .ref a] := by
    intro B hB0 hB9
    refine gb_below (B := B) hB1 1026 dL_law_1023 _ rfl hB0 (by omega) (by omega) (by omega) (by exact Nat.le_of_ble_eq_true rfl) (fun w2 v hv hB2 kq2 el2 => ?_)
    have hH2 := hH1.go kq2 (by decide) (by decide)
    have hF2 := hF1.go kq2 (by decide)
    refine go_istore 1028 dL_law_1026 (by decide) ?_
    exact go_locals _ rfl (br_pass9 (N := v) (by omega) hB2 hH2 hF2 hP ht hnn hp hip (by omega) (by omega) hkM hnM KK)
  refine go_if_ne 1022 1017 dL_law_1014 (fun z => ?_) (fun z => ?_)
  · refine go_iconst 1023 dL_law_1022 zc_4 ?_
    exact K1023 4 (by decide) (by decide)
  · refine go_bipush 1019 dL_law_1017 zb_30 ?_
    refine go_goto 1023 dL_law_1019 ?_
    exact K1023 30 (by decide) (by decide)
end LBrF
