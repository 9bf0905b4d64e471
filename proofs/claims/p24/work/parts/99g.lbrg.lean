section LBrG
/-! the law's steps: transfers -/
set_option maxRecDepth 100000 in
set_option maxHeartbeats 4000000 in
theorem br_tr9 {l : Launch} {Γ : ZG} {Φ : Option Value → ZW → Prop} {w : ZW} {T : LT} {x a e bf y : Nat} {C : CS} {D : ZD} {i u dn nn p ii k n kM nM : Nat} {ip : Int32} {t : Nat} (ht8 : t ≤ nP D) (hB : Bo Γ w T x a e C D) (hH : Hb Γ w T bf C i u dn) (hF : Fy Γ w T (C.1 0) D y) (hP : nP D ≤ 8) (ht : tmN D ≤ 30 * nn) (hnn : nn ≤ 45) (hp : p ≤ 8) (hip : (ip = 1 ∧ p < nP D) ∨ (ip = 0 ∧ nP D ≤ p)) (hk : k + 2560 ≤ kM) (hn : n + 49000 ≤ nM) (hkM : kM ≤ 1036902) (hnM : nM ≤ 5990994) (KK : ∀ (w : ZW) (T : LT) (c : Int32) (k n : Nat), Aft Γ w T x a e bf y C D i u dn nn c → k ≤ kM → n ≤ nM → Go l Γ mLaw 1312 1036902 5990994 Φ zNo k n w 1092 [(0, .ref Γ.2.2.2.2.1), (1, .int 1), (2, .int (nI ii)), (3, .ref x), (5, .ref a), (6, .ref e), (7, .ref bf), (8, .int (nI dn)), (9, .int (nI nn)), (10, .ref y), (11, .int c)] []) : Go l Γ mLaw 1312 1036902 5990994 Φ zNo k n w 511 [(0, .ref Γ.2.2.2.2.1), (1, .int 1), (2, .int (nI ii)), (3, .ref x), (5, .ref a), (6, .ref e), (7, .ref bf), (8, .int (nI dn)), (9, .int (nI nn)), (10, .ref y), (12, .int (-2000000097)), (13, .int (nI (nP D))), (14, .int (nI p)), (15, .int ip), (18, .int (nI t))] [] := by
  obtain ⟨s, g, cs, sg, A, V, tm, cl, rn, rg, h, tr, hC, hG, hJ, hW, hz⟩ := id hB
  have h10 := hC.P10
  have ix := hG.iv.1
  have hpt := pot_120 ix
  rcases hip with ⟨rfl, hp9⟩ | ⟨rfl, hp9⟩
  · by_cases ht9 : t < nP D
    · by_cases h4 : legW D (nI p) 1 = -1
      · refine go_iconst 512 dL_law_511 zc_0 ?_
        refine go_istore 514 dL_law_512 (by decide) ?_
        refine go_iload 516 dL_law_514 rfl ?_
        refine go_if_eq 677 519 dL_law_516 (fun z => absurd z (by decide)) (fun _ => ?_)
        refine go_iload 521 dL_law_519 rfl ?_
        refine go_iload 523 dL_law_521 rfl ?_
        refine go_icmp_ge 677 526 dL_law_523 (fun z => absurd ((nI_leI (a := nP D) (b := t) (by omega) (by omega)).mp z) (by omega)) (fun _ => ?_)
        refine go_aload 528 dL_law_526 rfl ?_
        refine go_iload 530 dL_law_528 rfl ?_
        refine go_iconst 531 dL_law_530 zc_1 ?_
        refine gcV2 534 dL_law_531 vL_259 h.x.1 rfl (cl_with h ix (p := nI p) (s := 1)) ?_
        rw [show lgO A (legW D (nI p) 1) = none from if_pos h4]
        refine go_astoreQ (r := none) 536 dL_law_534 (by decide) ?_
        refine go_aloadQ (r := none) 538 dL_law_536 rfl ?_
        refine go_ifnullQ (r := none) 563 541 dL_law_538 (fun _ => ?_) (fun z hz9 => absurd hz9 (by simp))
        refine go_iconst 564 dL_law_563 zc_1 ?_
        refine go_goto 568 dL_law_564 ?_
        refine go_istore 570 dL_law_568 (by decide) ?_
        refine go_iload 572 dL_law_570 rfl ?_
        refine go_if_eq 580 575 dL_law_572 (fun z => absurd z (by decide)) (fun _ => ?_)
        refine go_ldc 577 dL_law_575 ciL_85 ?_
        refine go_goto 582 dL_law_577 ?_
        refine go_istore 584 dL_law_582 (by decide) ?_
        refine go_iload 586 dL_law_584 rfl ?_
        refine go_if_ne 616 589 dL_law_586 (fun _ => ?_) (fun z => absurd z (by decide))
        refine go_iconst 617 dL_law_616 zc_0 ?_
        refine go_istore 619 dL_law_617 (by decide) ?_
        refine go_iload 621 dL_law_619 rfl ?_
        refine go_if_eq 677 624 dL_law_621 (fun _ => ?_) (fun z => absurd rfl z)
        refine go_aload_n 678 dL_law_677 rfl ?_
        refine go_iload 680 dL_law_678 rfl ?_
        refine go_iload 682 dL_law_680 rfl ?_
        refine gw_X 685 [.ref x, .int (nI p), .int (nI t)] dL_law_682 vL_278 rfl (ct_L_transfer_2 (cl.th (ct_X5_transfer_2 hC (hC.iP hp9) (hC.iP ht9) (Or.inl h4))) (by decide) cl.x5) (by decide) (by exact Nat.le_of_ble_eq_true rfl) (by omega) (by omega) (by omega) (fun w2 e2 l2 => ?_)
        have af : Aft Γ w2 T x a e bf y C D i u dn nn 0 := aft_0 hB hH hP ht e2 l2
        refine go_iload 687 dL_law_685 rfl ?_
        refine go_icmp_ne 694 690 dL_law_687 (fun z => absurd rfl z) (fun _ => ?_)
        refine go_iconst 691 dL_law_690 zc_1 ?_
        refine go_goto 695 dL_law_691 ?_
        refine go_istore_n 696 dL_law_695 (by decide) ?_
        refine go_goto 1092 dL_law_696 ?_
        exact go_locals _ rfl (KK w2 T 0 _ _ af (by omega) (by omega))
      · obtain ⟨hk1, hkL, hk3, hk4⟩ := leg_ok ix.2.2.1.2 h4
        generalize hK : tN (legW D (nI p) 1) = K at hk1 hkL hk3 hk4
        have i40 := ix.2.2.1.2
        have i20 := ix.2.1.2
        have hoC := (ix.2.2.2 K hkL).2
        have hv : lgO A (legW D (nI p) 1) = some (A 0 K) := by rw [hk1]; exact lgO_i (by omega)
        refine go_iconst 512 dL_law_511 zc_0 ?_
        refine go_istore 514 dL_law_512 (by decide) ?_
        refine go_iload 516 dL_law_514 rfl ?_
        refine go_if_eq 677 519 dL_law_516 (fun z => absurd z (by decide)) (fun _ => ?_)
        refine go_iload 521 dL_law_519 rfl ?_
        refine go_iload 523 dL_law_521 rfl ?_
        refine go_icmp_ge 677 526 dL_law_523 (fun z => absurd ((nI_leI (a := nP D) (b := t) (by omega) (by omega)).mp z) (by omega)) (fun _ => ?_)
        refine go_aload 528 dL_law_526 rfl ?_
        refine go_iload 530 dL_law_528 rfl ?_
        refine go_iconst 531 dL_law_530 zc_1 ?_
        refine gcV2 534 dL_law_531 vL_259 h.x.1 rfl (cl_with h ix (p := nI p) (s := 1)) ?_
        rw [hv]
        refine go_astoreQ (r := some (A 0 K)) 536 dL_law_534 (by decide) ?_
        refine go_aloadQ (r := some (A 0 K)) 538 dL_law_536 rfl ?_
        refine go_ifnullQ (r := some (A 0 K)) 563 541 dL_law_538 (fun hz9 => absurd hz9 (by simp)) (fun z hz9 => ?_)
        refine go_aload 543 dL_law_541 rfl ?_
        refine gl_x h 546 dL_law_543 fL_173 rfl ?_
        refine gl_nC h 547 dL_law_546 ?_
        refine go_bipush 549 dL_law_547 zb_20 ?_
        by_cases hc20 : nC D = 20
        · refine go_icmp_eq 563 552 dL_law_549 (fun _ => ?_) (fun z => absurd (show nI (nC D) = 20 by rw [hc20]; rfl) z)
          refine go_iconst 564 dL_law_563 zc_1 ?_
          refine go_goto 568 dL_law_564 ?_
          refine go_istore 570 dL_law_568 (by decide) ?_
          refine go_iload 572 dL_law_570 rfl ?_
          refine go_if_eq 580 575 dL_law_572 (fun z => absurd z (by decide)) (fun _ => ?_)
          refine go_ldc 577 dL_law_575 ciL_85 ?_
          refine go_goto 582 dL_law_577 ?_
          refine go_istore 584 dL_law_582 (by decide) ?_
          refine go_iload 586 dL_law_584 rfl ?_
          refine go_if_ne 616 589 dL_law_586 (fun _ => ?_) (fun z => absurd z (by decide))
          refine go_iconst 617 dL_law_616 zc_0 ?_
          refine go_istore 619 dL_law_617 (by decide) ?_
          refine go_iload 621 dL_law_619 rfl ?_
          refine go_if_eq 677 624 dL_law_621 (fun _ => ?_) (fun z => absurd rfl z)
          refine go_aload_n 678 dL_law_677 rfl ?_
          refine go_iload 680 dL_law_678 rfl ?_
          refine go_iload 682 dL_law_680 rfl ?_
          refine gw_X 685 [.ref x, .int (nI p), .int (nI t)] dL_law_682 vL_278 rfl (ct_L_transfer_2 (cl.th (ct_X5_transfer_2 hC (hC.iP hp9) (hC.iP ht9) (Or.inr (by omega)))) (by decide) cl.x5) (by decide) (by exact Nat.le_of_ble_eq_true rfl) (by omega) (by omega) (by omega) (fun w2 e2 l2 => ?_)
          have af : Aft Γ w2 T x a e bf y C D i u dn nn 0 := aft_0 hB hH hP ht e2 l2
          refine go_iload 687 dL_law_685 rfl ?_
          refine go_icmp_ne 694 690 dL_law_687 (fun z => absurd rfl z) (fun _ => ?_)
          refine go_iconst 691 dL_law_690 zc_1 ?_
          refine go_goto 695 dL_law_691 ?_
          refine go_istore_n 696 dL_law_695 (by decide) ?_
          refine go_goto 1092 dL_law_696 ?_
          exact go_locals _ rfl (KK w2 T 0 _ _ af (by omega) (by omega))
        · refine go_icmp_eq 563 552 dL_law_549 (fun z => absurd ((nI_eq (b := 20) (by omega) (by decide)).mp z) hc20) (fun _ => ?_)
          refine go_aload 554 dL_law_552 rfl ?_
          refine gl_x h 557 dL_law_554 fL_177 rfl ?_
          refine gl_nL h 558 dL_law_557 ?_
          refine go_bipush 560 dL_law_558 zb_40 ?_
          by_cases hc40 : nL D = 40
          · refine go_icmp_ne 567 563 dL_law_560 (fun z => absurd (show nI (nL D) = 40 by rw [hc40]; rfl) z) (fun _ => ?_)
            refine go_iconst 564 dL_law_563 zc_1 ?_
            refine go_goto 568 dL_law_564 ?_
            refine go_istore 570 dL_law_568 (by decide) ?_
            refine go_iload 572 dL_law_570 rfl ?_
            refine go_if_eq 580 575 dL_law_572 (fun z => absurd z (by decide)) (fun _ => ?_)
            refine go_ldc 577 dL_law_575 ciL_85 ?_
            refine go_goto 582 dL_law_577 ?_
            refine go_istore 584 dL_law_582 (by decide) ?_
            refine go_iload 586 dL_law_584 rfl ?_
            refine go_if_ne 616 589 dL_law_586 (fun _ => ?_) (fun z => absurd z (by decide))
            refine go_iconst 617 dL_law_616 zc_0 ?_
            refine go_istore 619 dL_law_617 (by decide) ?_
            refine go_iload 621 dL_law_619 rfl ?_
            refine go_if_eq 677 624 dL_law_621 (fun _ => ?_) (fun z => absurd rfl z)
            refine go_aload_n 678 dL_law_677 rfl ?_
            refine go_iload 680 dL_law_678 rfl ?_
            refine go_iload 682 dL_law_680 rfl ?_
            refine gw_X 685 [.ref x, .int (nI p), .int (nI t)] dL_law_682 vL_278 rfl (ct_L_transfer_2 (cl.th (ct_X5_transfer_2 hC (hC.iP hp9) (hC.iP ht9) (Or.inr (by omega)))) (by decide) cl.x5) (by decide) (by exact Nat.le_of_ble_eq_true rfl) (by omega) (by omega) (by omega) (fun w2 e2 l2 => ?_)
            have af : Aft Γ w2 T x a e bf y C D i u dn nn 0 := aft_0 hB hH hP ht e2 l2
            refine go_iload 687 dL_law_685 rfl ?_
            refine go_icmp_ne 694 690 dL_law_687 (fun z => absurd rfl z) (fun _ => ?_)
            refine go_iconst 691 dL_law_690 zc_1 ?_
            refine go_goto 695 dL_law_691 ?_
            refine go_istore_n 696 dL_law_695 (by decide) ?_
            refine go_goto 1092 dL_law_696 ?_
            exact go_locals _ rfl (KK w2 T 0 _ _ af (by omega) (by omega))
          · refine go_icmp_ne 567 563 dL_law_560 (fun _ => ?_) (fun z => absurd ((nI_eq (b := 40) (by omega) (by decide)).mp z) hc40)
            refine go_iconst 568 dL_law_567 zc_0 ?_
            refine go_istore 570 dL_law_568 (by decide) ?_
            refine go_iload 572 dL_law_570 rfl ?_
            refine go_if_eq 580 575 dL_law_572 (fun _ => ?_) (fun z => absurd rfl z)
            refine go_ldc 582 dL_law_580 ciL_42 ?_
            refine go_istore 584 dL_law_582 (by decide) ?_
            refine go_iload 586 dL_law_584 rfl ?_
            refine go_if_ne 616 589 dL_law_586 (fun z => absurd rfl z) (fun _ => ?_)
            refine go_aload 591 dL_law_589 rfl ?_
            refine gl_l h hkL 594 dL_law_591 fL_263 rfl ?_
            refine go_iload 596 dL_law_594 rfl ?_
            by_cases hce : dL D K 1 = nI t
            · refine go_icmp_eq 616 599 dL_law_596 (fun _ => ?_) (fun z => absurd hce z)
              refine go_iconst 617 dL_law_616 zc_0 ?_
              refine go_istore 619 dL_law_617 (by decide) ?_
              refine go_iload 621 dL_law_619 rfl ?_
              refine go_if_eq 677 624 dL_law_621 (fun _ => ?_) (fun z => absurd rfl z)
              refine go_aload_n 678 dL_law_677 rfl ?_
              refine go_iload 680 dL_law_678 rfl ?_
              refine go_iload 682 dL_law_680 rfl ?_
              refine gw_X 685 [.ref x, .int (nI p), .int (nI t)] dL_law_682 vL_278 rfl (ct_L_transfer_3 (cl.th (ct_X5_transfer_3 hC (hC.iP hp9) (hC.iP ht9) h4 (by omega) (by rw [hK]; exact Or.inr hce))) (by decide) cl.x5) (by decide) (by exact Nat.le_of_ble_eq_true rfl) (by omega) (by omega) (by omega) (fun w2 e2 l2 => ?_)
              have af : Aft Γ w2 T x a e bf y C D i u dn nn 0 := aft_0 hB hH hP ht e2 l2
              refine go_iload 687 dL_law_685 rfl ?_
              refine go_icmp_ne 694 690 dL_law_687 (fun z => absurd rfl z) (fun _ => ?_)
              refine go_iconst 691 dL_law_690 zc_1 ?_
              refine go_goto 695 dL_law_691 ?_
              refine go_istore_n 696 dL_law_695 (by decide) ?_
              refine go_goto 1092 dL_law_696 ?_
              exact go_locals _ rfl (KK w2 T 0 _ _ af (by omega) (by omega))
            · refine go_icmp_eq 616 599 dL_law_596 (fun z => absurd z hce) (fun _ => ?_)
              refine go_aload 601 dL_law_599 rfl ?_
              refine gl_l h hkL 604 dL_law_601 fL_266 rfl ?_
              refine gl_t h hoC 607 dL_law_604 fL_269 rfl ?_
              refine go_iload 609 dL_law_607 rfl ?_
              by_cases hca : clr D K = nI t
              · refine go_icmp_eq 616 612 dL_law_609 (fun _ => ?_) (fun z => absurd hca z)
                refine go_iconst 617 dL_law_616 zc_0 ?_
                refine go_istore 619 dL_law_617 (by decide) ?_
                refine go_iload 621 dL_law_619 rfl ?_
                refine go_if_eq 677 624 dL_law_621 (fun _ => ?_) (fun z => absurd rfl z)
                refine go_aload_n 678 dL_law_677 rfl ?_
                refine go_iload 680 dL_law_678 rfl ?_
                refine go_iload 682 dL_law_680 rfl ?_
                refine gw_X 685 [.ref x, .int (nI p), .int (nI t)] dL_law_682 vL_278 rfl (ct_L_transfer_3 (cl.th (ct_X5_transfer_3 hC (hC.iP hp9) (hC.iP ht9) h4 (by omega) (by rw [hK]; exact Or.inl hca))) (by decide) cl.x5) (by decide) (by exact Nat.le_of_ble_eq_true rfl) (by omega) (by omega) (by omega) (fun w2 e2 l2 => ?_)
                have af : Aft Γ w2 T x a e bf y C D i u dn nn 0 := aft_0 hB hH hP ht e2 l2
                refine go_iload 687 dL_law_685 rfl ?_
                refine go_icmp_ne 694 690 dL_law_687 (fun z => absurd rfl z) (fun _ => ?_)
                refine go_iconst 691 dL_law_690 zc_1 ?_
                refine go_goto 695 dL_law_691 ?_
                refine go_istore_n 696 dL_law_695 (by decide) ?_
                refine go_goto 1092 dL_law_696 ?_
                exact go_locals _ rfl (KK w2 T 0 _ _ af (by omega) (by omega))
              · refine go_icmp_eq 616 612 dL_law_609 (fun z => absurd z hca) (fun _ => ?_)
                obtain ⟨q, hq, hqP⟩ : ∃ q, (if clr D K = nI p then dL D K 1 else clr D K) = nI q ∧ q < nP D := by
                  have c2 := hC.ce hkL
                  have c1 := hC.ca hoC
                  split
                  · exact ⟨_, c2⟩
                  · exact ⟨_, c1⟩
                have hqt : q ≠ t := fun z => by
                  rw [z] at hq
                  split at hq
                  · exact hce hq
                  · exact hca hq
                have pb := pow_bits t (by omega)
                have sh := sh_pow t (by omega)
                have hsm : Same D (dropD (setL D K 2 2) K) := (sm_setL (by decide) (by decide)).trans sm_drop
                have hG1 := hold_GI hG (k := K)
                have hJ1 := jx_hold hJ ix hk3
                have d3 : dL D K 3 = 0 := hJ.2 K hkL (by rw [hk3]; decide)
                have nP1 := sm_nP hsm
                have nC1 := sm_nC hsm
                have nL1 := sm_nL hsm
                have tk : tN (nI K) = K := nI_clamp (by omega)
                have hb : ∀ j, j < 10 → bitOf (nI (2 ^ t)) j = 1 → j < nP (dropD (setL D K 2 2) K) := fun j hj z => by rw [pb.2 j hj z, nP1]; exact ht9
                have hL1 : nL (dropD (setL D K 2 2) K) + bN (nI (2 ^ t)) 0 10 ≤ 40 := by rw [pb.1, nL1]; omega
                have hr1 : nI K = -1 ∨ (nI K = nI (tN (nI K)) ∧ tN (nI K) < nL (dropD (setL D K 2 2) K)) := Or.inr ⟨by rw [tk], by rw [tk, nL1]; exact hkL⟩
                have hrv : rvB (dropD (setL D K 2 2) K) (2 ^ t) q 1 cs = ringV (nI (bN (nI (2 ^ t)) 0 10)) (nI q) (if nI K = -1 then 0 else 1) ((dropD (setL D K 2 2) K) 0) cs := by
                  rw [if_neg (nI_nm1 (by omega))]
                  rfl
                have hvo : RvOK (rvB (dropD (setL D K 2 2) K) (2 ^ t) q 1 cs) := ringV_ok
                have jb := jx_beg hG1 hJ1 (q := q) (x := nI (2 ^ t)) (rv := rvB (dropD (setL D K 2 2) K) (2 ^ t) q 1 cs) (ref := nI K) (by rw [nC1]; omega) (by rw [nP1]; exact hqP) hr1 hvo hb hL1
                have gb := begD_GI hG1 (q := q) (x := nI (2 ^ t)) (rv := rvB (dropD (setL D K 2 2) K) (2 ^ t) q 1 cs) (ref := nI K) (by rw [nC1]; omega) (by rw [nP1]; exact hqP) hr1 hvo hb hL1
                have nPb := nP_lo (jb.2 4 (by decide))
                have tmb := tm_lo (jb.2 0 (by decide))
                refine go_iconst 613 dL_law_612 zc_1 ?_
                refine go_goto 617 dL_law_613 ?_
                refine go_istore 619 dL_law_617 (by decide) ?_
                refine go_iload 621 dL_law_619 rfl ?_
                refine go_if_eq 677 624 dL_law_621 (fun z => absurd z (by decide)) (fun _ => ?_)
                refine go_aload 626 dL_law_624 rfl ?_
                refine gl_l h hkL 629 dL_law_626 fL_266 rfl ?_
                refine gl_t h hoC 632 dL_law_629 fL_269 rfl ?_
                refine go_iload 634 dL_law_632 rfl ?_
                have K653 : Go l Γ mLaw 1312 1036902 5990994 Φ zNo k n w 653 [(0, .ref Γ.2.2.2.2.1), (1, .int 1), (2, .int (nI ii)), (3, .ref x), (5, .ref a), (6, .ref e), (7, .ref bf), (8, .int (nI dn)), (9, .int (nI nn)), (10, .ref y), (11, .int 1), (12, .int (-2000000098)), (13, .int (nI (nP D))), (14, .int (nI p)), (15, .int 1), (18, .int (nI t)), (19, .ref (A 0 K))] [.int (nI q)] := by
                  refine go_istore 655 dL_law_653 (by decide) ?_
                  refine go_aload 657 dL_law_655 rfl ?_
                  refine go_iconst 658 dL_law_657 zc_2 ?_
                  refine go_iconst 659 dL_law_658 zc_0 ?_
                  refine go_wf fun hw => go_callV 662 [.int 2, .int 0] dL_law_659 vL_274 (h.l hkL).1.1 rfl (cl_close h ix hkL) (by decide) (by decide) (by omega) (by omega) (by exact Nat.le_of_ble_eq_true rfl) ?_
                  rintro _ w1 ⟨rfl, T1, V1, f1, h1⟩
                  rw [hold_eq d3] at h1
                  have kq := f1.kq hw
                  have cl1 := cl.go kq (by decide) f1.1
                  have rn1 := rn.go kq (by decide)
                  have rg1 := rg.go kq (by decide) f1.1
                  have tr1 := tr.go kq (by decide)
                  have hH1 := hH.go kq (by decide) (by decide)
                  have hF1 := hF.go kq (by decide)
                  refine go_aload 664 dL_law_662 rfl ?_
                  refine go_iload 666 dL_law_664 rfl ?_
                  refine go_iconst 667 dL_law_666 zc_1 ?_
                  refine go_iload 669 dL_law_667 rfl ?_
                  refine go_ishl 670 dL_law_669 ?_
                  refine go_aload 672 dL_law_670 rfl ?_
                  rw [sh.1]
                  refine go_wf fun hw1 => ?_
                  have hct := cl_begins (l := l) h1 hw1 hG1 hJ1 tr1 (q := q) (x := nI (2 ^ t)) (ref := nI K) (by rw [nC1]; omega) (by rw [nP1]; exact hqP) hb (fun z => hqt (pb.2 q (by omega) z)) hL1 hr1 hvo hrv
                  rw [lgO_i (by omega)] at hct
                  replace hct : Ct l Γ mX6_begins 4 40 210 [.ref e, .int (nI q), .int (nI (2 ^ t)), .ref (A 0 K)] w1 (PvB Γ w1 T1 (sgN sg (dropD (setL D K 2 2) K) (bN (nI (2 ^ t)) 0 10)) tm e (.int (begN (dropD (setL D K 2 2) K) (nI q) (nI (2 ^ t)) (rvB (dropD (setL D K 2 2) K) (2 ^ t) q 1 cs) (nI K))) (begD (dropD (setL D K 2 2) K) (nI q) (nI (2 ^ t)) (rvB (dropD (setL D K 2 2) K) (2 ^ t) q 1 cs) (nI K))) zNo := hct
                  refine go_callV 675 [.int (nI q), .int (nI (2 ^ t)), .ref (A 0 K)] dL_law_672 vL_253 h1.x.1 rfl hct (by decide) (by decide) (by omega) (by omega) (by exact Nat.le_of_ble_eq_true rfl) ?_
                  rintro _ w2 ⟨rfl, T2, A2', V2', f2, h2⟩
                  have kq2 := f2.kq hw1
                  have cl2 := cl1.go kq2 (by decide) f2.1
                  have rn2 := rn1.go kq2 (by decide)
                  have rg2 := rg1.go kq2 (by decide) f2.1
                  have tr2 := tr1.go kq2 (by decide)
                  have hH2 := hH1.go kq2 (by decide) (by decide)
                  have hF2 := hF1.go kq2 (by decide)
                  refine go_istore 677 dL_law_675 (by decide) ?_
                  refine go_aload_n 678 dL_law_677 rfl ?_
                  refine go_iload 680 dL_law_678 rfl ?_
                  refine go_iload 682 dL_law_680 rfl ?_
                  refine go_callSW 685 [.ref x, .int (nI p), .int (nI t)] dL_law_682 vL_278 rfl (co_transfer cl2 rg2 hC hG hH.1 hp9 ht9 hk1 hkL (by omega) (fun z => z.elim hca hce) ⟨hq, hqP⟩) (by decide) (by decide) (by omega) (by omega) (by exact Nat.le_of_ble_eq_true rfl) ?_
                  intro v2 w3 q2
                  obtain ⟨rfl, af⟩ := aft_1 (nn := nn) rn2 tr2 h2 hH2 hF2 gb jb.1 ((hW.sm hsm).lo (jb.2 1 (by decide)) (jb.2 2 (by decide))) hz (by rw [nPb, nP1]; exact hP) (by rw [tmb, tm_same hsm]; omega) q2
                  refine go_iload 687 dL_law_685 rfl ?_
                  refine go_icmp_ne 694 690 dL_law_687 (fun z => absurd rfl z) (fun _ => ?_)
                  refine go_iconst 691 dL_law_690 zc_1 ?_
                  refine go_goto 695 dL_law_691 ?_
                  refine go_istore_n 696 dL_law_695 (by decide) ?_
                  refine go_goto 1092 dL_law_696 ?_
                  exact go_locals _ rfl (KK w3 T2 1 _ _ af (by omega) (by omega))
                by_cases hcp : clr D K = nI p
                · rw [if_pos hcp] at hq
                  refine go_icmp_ne 645 637 dL_law_634 (fun z => absurd hcp z) (fun _ => ?_)
                  refine go_aload 639 dL_law_637 rfl ?_
                  refine gl_l h hkL 642 dL_law_639 fL_263 rfl ?_
                  refine go_goto 653 dL_law_642 ?_
                  rw [hq]
                  exact go_locals _ rfl K653
                · rw [if_neg hcp] at hq
                  refine go_icmp_ne 645 637 dL_law_634 (fun _ => ?_) (fun z => absurd z hcp)
                  refine go_aload 647 dL_law_645 rfl ?_
                  refine gl_l h hkL 650 dL_law_647 fL_266 rfl ?_
                  refine gl_t h hoC 653 dL_law_650 fL_269 rfl ?_
                  rw [show dC D (ofN D K) 0 = nI q from hq]
                  exact go_locals _ rfl K653
    · refine go_iconst 512 dL_law_511 zc_0 ?_
      refine go_istore 514 dL_law_512 (by decide) ?_
      refine go_iload 516 dL_law_514 rfl ?_
      refine go_if_eq 677 519 dL_law_516 (fun z => absurd z (by decide)) (fun _ => ?_)
      refine go_iload 521 dL_law_519 rfl ?_
      refine go_iload 523 dL_law_521 rfl ?_
      refine go_icmp_ge 677 526 dL_law_523 (fun _ => ?_) (fun z => absurd ((nI_leI (a := nP D) (b := t) (by omega) (by omega)).mpr (by omega)) z)
      refine go_aload_n 678 dL_law_677 rfl ?_
      refine go_iload 680 dL_law_678 rfl ?_
      refine go_iload 682 dL_law_680 rfl ?_
      refine gw_X 685 [.ref x, .int (nI p), .int (nI t)] dL_law_682 vL_278 rfl (ct_L_transfer_1 (cl.th (ct_X5_transfer_1b hC (hC.iP hp9) (hC.oP (by omega) (by omega)))) (by decide) cl.x5) (by decide) (by exact Nat.le_of_ble_eq_true rfl) (by omega) (by omega) (by omega) (fun w2 e2 l2 => ?_)
      have af : Aft Γ w2 T x a e bf y C D i u dn nn 0 := aft_0 hB hH hP ht e2 l2
      refine go_iload 687 dL_law_685 rfl ?_
      refine go_icmp_ne 694 690 dL_law_687 (fun z => absurd rfl z) (fun _ => ?_)
      refine go_iconst 691 dL_law_690 zc_1 ?_
      refine go_goto 695 dL_law_691 ?_
      refine go_istore_n 696 dL_law_695 (by decide) ?_
      refine go_goto 1092 dL_law_696 ?_
      exact go_locals _ rfl (KK w2 T 0 _ _ af (by omega) (by omega))
  · refine go_iconst 512 dL_law_511 zc_0 ?_
    refine go_istore 514 dL_law_512 (by decide) ?_
    refine go_iload 516 dL_law_514 rfl ?_
    refine go_if_eq 677 519 dL_law_516 (fun _ => ?_) (fun z => absurd rfl z)
    refine go_aload_n 678 dL_law_677 rfl ?_
    refine go_iload 680 dL_law_678 rfl ?_
    refine go_iload 682 dL_law_680 rfl ?_
    refine gw_X 685 [.ref x, .int (nI p), .int (nI t)] dL_law_682 vL_278 rfl (ct_L_transfer_1 (cl.th (ct_X5_transfer_1 hC (hC.oP hp9 (by omega)))) (by decide) cl.x5) (by decide) (by exact Nat.le_of_ble_eq_true rfl) (by omega) (by omega) (by omega) (fun w2 e2 l2 => ?_)
    have af : Aft Γ w2 T x a e bf y C D i u dn nn 0 := aft_0 hB hH hP ht e2 l2
    refine go_iload 687 dL_law_685 rfl ?_
    refine go_icmp_ne 694 690 dL_law_687 (fun z => absurd rfl z) (fun _ => ?_)
    refine go_iconst 691 dL_law_690 zc_1 ?_
    refine go_goto 695 dL_law_691 ?_
    refine go_istore_n 696 dL_law_695 (by decide) ?_
    refine go_goto 1092 dL_law_696 ?_
    exact go_locals _ rfl (KK w2 T 0 _ _ af (by omega) (by omega))
set_option maxRecDepth 100000 in
set_option maxHeartbeats 4000000 in
theorem br_tr {l : Launch} {Γ : ZG} {Φ : Option Value → ZW → Prop} {w : ZW} {T : LT} {x a e bf y : Nat} {C : CS} {D : ZD} {i u dn nn p ii k n kM nM : Nat} {ip : Int32} (hB : Bo Γ w T x a e C D) (hH : Hb Γ w T bf C i u dn) (hF : Fy Γ w T (C.1 0) D y) (hP : nP D ≤ 8) (ht : tmN D ≤ 30 * nn) (hnn : nn ≤ 45) (hp : p ≤ 8) (hip : (ip = 1 ∧ p < nP D) ∨ (ip = 0 ∧ nP D ≤ p)) (hk : k + 2560 ≤ kM) (hn : n + 49000 ≤ nM) (hkM : kM ≤ 1036902) (hnM : nM ≤ 5990994) (KK : ∀ (w : ZW) (T : LT) (c : Int32) (k n : Nat), Aft Γ w T x a e bf y C D i u dn nn c → k ≤ kM → n ≤ nM → Go l Γ mLaw 1312 1036902 5990994 Φ zNo k n w 1092 [(0, .ref Γ.2.2.2.2.1), (1, .int 1), (2, .int (nI ii)), (3, .ref x), (5, .ref a), (6, .ref e), (7, .ref bf), (8, .int (nI dn)), (9, .int (nI nn)), (10, .ref y), (11, .int c)] []) : Go l Γ mLaw 1312 1036902 5990994 Φ zNo k n w 500 [(0, .ref Γ.2.2.2.2.1), (1, .int 1), (2, .int (nI ii)), (3, .ref x), (5, .ref a), (6, .ref e), (7, .ref bf), (8, .int (nI dn)), (9, .int (nI nn)), (10, .ref y), (12, .int (-2000000097)), (13, .int (nI (nP D))), (14, .int (nI p)), (15, .int ip)] [] := by
  refine go_aload 502 dL_law_500 rfl ?_
  refine go_iload 504 dL_law_502 rfl ?_
  refine go_iconst 505 dL_law_504 zc_1 ?_
  refine go_iadd 506 dL_law_505 ?_
  rw [show nI (nP D) + 1 = nI (nP D + 1) from nI_add _ 1]
  refine gb_below (B := nP D + 1) hB 509 dL_law_506 _ rfl (by omega) (by omega) (by omega) (by omega) (by exact Nat.le_of_ble_eq_true rfl) (fun w1 t9 ht9 hB1 kq1 el1 => ?_)
  have hH1 := hH.go kq1 (by decide) (by decide)
  have hF1 := hF.go kq1 (by decide)
  refine go_istore 511 dL_law_509 (by decide) ?_
  exact go_locals _ rfl (br_tr9 (t := t9) (by omega) hB1 hH1 hF1 hP ht hnn hp hip (by omega) (by omega) hkM hnM KK)
end LBrG
