section LBrE
/-! the law's steps: offers, a party's numbers -/
set_option maxRecDepth 100000 in
set_option maxHeartbeats 4000000 in
theorem br_off9 {l : Launch} {Γ : ZG} {Φ : Option Value → ZW → Prop} {w : ZW} {T : LT} {x a e bf y : Nat} {C : CS} {D : ZD} {i u dn nn p ii k n kM nM : Nat} {ip : Int32} {v : Nat} (hv : v ≤ 1099) (hB : Bo Γ w T x a e C D) (hH : Hb Γ w T bf C i u dn) (hF : Fy Γ w T (C.1 0) D y) (hP : nP D ≤ 8) (ht : tmN D ≤ 30 * nn) (hnn : nn ≤ 45) (hp : p ≤ 8) (hip : (ip = 1 ∧ p < nP D) ∨ (ip = 0 ∧ nP D ≤ p)) (hk : k + 2560 ≤ kM) (hn : n + 49000 ≤ nM) (hkM : kM ≤ 1036902) (hnM : nM ≤ 5990994) (KK : ∀ (w : ZW) (T : LT) (c : Int32) (k n : Nat), Aft Γ w T x a e bf y C D i u dn nn c → k ≤ kM → n ≤ nM → Go l Γ mLaw 1312 1036902 5990994 Φ zNo k n w 1092 [(0, .ref Γ.2.2.2.2.1), (1, .int 1), (2, .int (nI ii)), (3, .ref x), (5, .ref a), (6, .ref e), (7, .ref bf), (8, .int (nI dn)), (9, .int (nI nn)), (10, .ref y), (11, .int c)] []) : Go l Γ mLaw 1312 1036902 5990994 Φ zNo k n w 763 [(0, .ref Γ.2.2.2.2.1), (1, .int 1), (2, .int (nI ii)), (3, .ref x), (5, .ref a), (6, .ref e), (7, .ref bf), (8, .int (nI dn)), (9, .int (nI nn)), (10, .ref y), (12, .int (-2000000097)), (13, .int (nI (nP D))), (14, .int (nI p)), (15, .int ip), (19, .int (nI v))] [] := by
  obtain ⟨s, g, cs, sg, A, V, tm, cl, rn, rg, h, tr, hC, hG, hJ, hW, hz⟩ := id hB
  have h10 := hC.P10
  have ix := hG.iv.1
  have hpt := pot_120 ix
  rcases hip with ⟨rfl, hp9⟩ | ⟨rfl, hp9⟩
  · by_cases hv9 : 1000 ≤ v
    · refine go_iload 765 dL_law_763 rfl ?_
      refine go_if_eq 791 768 dL_law_765 (fun z => absurd z (by decide)) (fun _ => ?_)
      refine go_iload 770 dL_law_768 rfl ?_
      refine go_sipush 773 dL_law_770 zs_1000 ?_
      refine go_icmp_ge 791 776 dL_law_773 (fun _ => ?_) (fun z => absurd ((nI_leI (a := 1000) (b := v) (by omega) (by omega)).mpr (by omega)) z)
      refine go_iconst 792 dL_law_791 zc_0 ?_
      refine go_istore 794 dL_law_792 (by decide) ?_
      refine go_iload 796 dL_law_794 rfl ?_
      refine go_if_eq 833 799 dL_law_796 (fun z => absurd z (by decide)) (fun _ => ?_)
      refine go_iload 801 dL_law_799 rfl ?_
      refine go_sipush 804 dL_law_801 zs_999 ?_
      refine go_icmp_le 812 807 dL_law_804 (fun z => absurd z (fun z => absurd ((nI_leI (a := v) (b := 999) (by omega) (by omega)).mp z) (by omega))) (fun _ => ?_)
      refine go_ldc 809 dL_law_807 ciL_42 ?_
      refine go_goto 831 dL_law_809 ?_
      refine go_istore 833 dL_law_831 (by decide) ?_
      refine go_aload_n 834 dL_law_833 rfl ?_
      refine go_iload 836 dL_law_834 rfl ?_
      refine go_iload 838 dL_law_836 rfl ?_
      refine gw_X 841 [.ref x, .int (nI p), .int (nI v)] dL_law_838 vL_286 rfl (ct_L_offer_2 (cl.th (ct_X5_offer_2 hC (hC.iP hp9) (fun z => absurd ((nI_leI (a := v) (b := 999) (by omega) (by decide)).mp z.2) (by omega)))) (by decide) cl.x5) (by decide) (by exact Nat.le_of_ble_eq_true rfl) (by omega) (by omega) (by omega) (fun w2 e2 l2 => ?_)
      have af : Aft Γ w2 T x a e bf y C D i u dn nn 0 := aft_0 hB hH hP ht e2 l2
      refine go_iload 843 dL_law_841 rfl ?_
      refine go_icmp_ne 850 846 dL_law_843 (fun z => absurd rfl z) (fun _ => ?_)
      refine go_iconst 847 dL_law_846 zc_1 ?_
      refine go_goto 851 dL_law_847 ?_
      refine go_istore_n 852 dL_law_851 (by decide) ?_
      refine go_goto 1092 dL_law_852 ?_
      exact go_locals _ rfl (KK w2 T 0 _ _ af (by omega) (by omega))
    · by_cases h4 : legW D (nI p) 1 = -1
      · refine go_iload 765 dL_law_763 rfl ?_
        refine go_if_eq 791 768 dL_law_765 (fun z => absurd z (by decide)) (fun _ => ?_)
        refine go_iload 770 dL_law_768 rfl ?_
        refine go_sipush 773 dL_law_770 zs_1000 ?_
        refine go_icmp_ge 791 776 dL_law_773 (fun z => absurd z (fun z => absurd ((nI_leI (a := 1000) (b := v) (by omega) (by omega)).mp z) (by omega))) (fun _ => ?_)
        refine go_aload 778 dL_law_776 rfl ?_
        refine go_iload 780 dL_law_778 rfl ?_
        refine go_iconst 781 dL_law_780 zc_1 ?_
        refine gcV2 784 dL_law_781 vL_259 h.x.1 rfl (cl_with h ix (p := nI p) (s := 1)) ?_
        refine go_ifnullQ 791 787 dL_law_784 (fun _ => ?_) (fun z hz9 => absurd h4 (lgO_s hz9))
        refine go_iconst 792 dL_law_791 zc_0 ?_
        refine go_istore 794 dL_law_792 (by decide) ?_
        refine go_iload 796 dL_law_794 rfl ?_
        refine go_if_eq 833 799 dL_law_796 (fun z => absurd z (by decide)) (fun _ => ?_)
        refine go_iload 801 dL_law_799 rfl ?_
        refine go_sipush 804 dL_law_801 zs_999 ?_
        refine go_icmp_le 812 807 dL_law_804 (fun _ => ?_) (fun z => absurd ((nI_leI (a := v) (b := 999) (by omega) (by omega)).mpr (by omega)) z)
        refine go_iload 814 dL_law_812 rfl ?_
        refine go_if_eq 829 817 dL_law_814 (fun _ => ?_) (fun z => absurd rfl z)
        refine go_ldc 831 dL_law_829 ciL_85 ?_
        refine go_istore 833 dL_law_831 (by decide) ?_
        refine go_aload_n 834 dL_law_833 rfl ?_
        refine go_iload 836 dL_law_834 rfl ?_
        refine go_iload 838 dL_law_836 rfl ?_
        refine gw_X 841 [.ref x, .int (nI p), .int (nI v)] dL_law_838 vL_286 rfl (ct_L_offer_3 (cl.th (ct_X5_offer_3 hC (hC.iP hp9) (sml (m := 999) (by omega) (by decide)) h4)) (by decide) cl.x5) (by decide) (by exact Nat.le_of_ble_eq_true rfl) (by omega) (by omega) (by omega) (fun w2 e2 l2 => ?_)
        have af : Aft Γ w2 T x a e bf y C D i u dn nn 0 := aft_0 hB hH hP ht e2 l2
        refine go_iload 843 dL_law_841 rfl ?_
        refine go_icmp_ne 850 846 dL_law_843 (fun z => absurd rfl z) (fun _ => ?_)
        refine go_iconst 847 dL_law_846 zc_1 ?_
        refine go_goto 851 dL_law_847 ?_
        refine go_istore_n 852 dL_law_851 (by decide) ?_
        refine go_goto 1092 dL_law_852 ?_
        exact go_locals _ rfl (KK w2 T 0 _ _ af (by omega) (by omega))
      · refine go_iload 765 dL_law_763 rfl ?_
        refine go_if_eq 791 768 dL_law_765 (fun z => absurd z (by decide)) (fun _ => ?_)
        refine go_iload 770 dL_law_768 rfl ?_
        refine go_sipush 773 dL_law_770 zs_1000 ?_
        refine go_icmp_ge 791 776 dL_law_773 (fun z => absurd z (fun z => absurd ((nI_leI (a := 1000) (b := v) (by omega) (by omega)).mp z) (by omega))) (fun _ => ?_)
        refine go_aload 778 dL_law_776 rfl ?_
        refine go_iload 780 dL_law_778 rfl ?_
        refine go_iconst 781 dL_law_780 zc_1 ?_
        refine gcV2 784 dL_law_781 vL_259 h.x.1 rfl (cl_with h ix (p := nI p) (s := 1)) ?_
        refine go_ifnullQ 791 787 dL_law_784 (fun hz9 => absurd (lgO_n hz9) h4) (fun z hz9 => ?_)
        refine go_iconst 788 dL_law_787 zc_1 ?_
        refine go_goto 792 dL_law_788 ?_
        refine go_istore 794 dL_law_792 (by decide) ?_
        refine go_iload 796 dL_law_794 rfl ?_
        refine go_if_eq 833 799 dL_law_796 (fun z => absurd z (by decide)) (fun _ => ?_)
        refine go_iload 801 dL_law_799 rfl ?_
        refine go_sipush 804 dL_law_801 zs_999 ?_
        refine go_icmp_le 812 807 dL_law_804 (fun _ => ?_) (fun z => absurd ((nI_leI (a := v) (b := 999) (by omega) (by omega)).mpr (by omega)) z)
        refine go_iload 814 dL_law_812 rfl ?_
        refine go_if_eq 829 817 dL_law_814 (fun z => absurd z (by decide)) (fun _ => ?_)
        refine go_aload 819 dL_law_817 rfl ?_
        refine go_iload 821 dL_law_819 rfl ?_
        refine go_iload 823 dL_law_821 rfl ?_
        refine go_wf fun hw => go_callV 826 [.int (nI p), .int (nI v)] dL_law_823 vL_283 h.x.1 rfl (cl_offers h hG.iv hW ⟨hG.jt.1.1, by omega⟩ (v := nI v) h4) (by decide) (by decide) (by omega) (by omega) (by exact Nat.le_of_ble_eq_true rfl) ?_
        rintro _ w1 ⟨rfl, T1, V1, f1, h1⟩
        have kq := f1.kq hw
        have cl1 := cl.go kq (by decide) f1.1
        have rn1 := rn.go kq (by decide)
        have rg1 := rg.go kq (by decide) f1.1
        have tr1 := tr.go kq (by decide)
        have hH1 := hH.go kq (by decide) (by decide)
        have hF1 := hF.go kq (by decide)
        refine go_goto 831 dL_law_826 ?_
        refine go_istore 833 dL_law_831 (by decide) ?_
        refine go_aload_n 834 dL_law_833 rfl ?_
        refine go_iload 836 dL_law_834 rfl ?_
        refine go_iload 838 dL_law_836 rfl ?_
        refine go_callSW 841 [.ref x, .int (nI p), .int (nI v)] dL_law_838 vL_286 rfl (co_offer cl1 rg1 hC hG hH.1 hp9 (by omega) h4) (by decide) (by decide) (by omega) (by omega) (by exact Nat.le_of_ble_eq_true rfl) ?_
        intro v2 w2 q2
        obtain ⟨rfl, af⟩ := aft_1 (nn := nn) rn1 tr1 h1 hH1 hF1 (hG.same off_sm (jo_mkO hG.jo off_sm (leg_ok ix.2.2.1.2 h4).2.2.1 sdN_lt)) (jx_off hJ ix) (hW.sm off_sm) hz (by rw [sm_nP off_sm]; exact hP) (by rw [tm_same off_sm]; omega) q2
        refine go_iload 843 dL_law_841 rfl ?_
        refine go_icmp_ne 850 846 dL_law_843 (fun z => absurd rfl z) (fun _ => ?_)
        refine go_iconst 847 dL_law_846 zc_1 ?_
        refine go_goto 851 dL_law_847 ?_
        refine go_istore_n 852 dL_law_851 (by decide) ?_
        refine go_goto 1092 dL_law_852 ?_
        exact go_locals _ rfl (KK w2 T1 1 _ _ af (by omega) (by omega))
  · refine go_iload 765 dL_law_763 rfl ?_
    refine go_if_eq 791 768 dL_law_765 (fun _ => ?_) (fun z => absurd rfl z)
    refine go_iconst 792 dL_law_791 zc_0 ?_
    refine go_istore 794 dL_law_792 (by decide) ?_
    refine go_iload 796 dL_law_794 rfl ?_
    refine go_if_eq 833 799 dL_law_796 (fun _ => ?_) (fun z => absurd rfl z)
    refine go_aload_n 834 dL_law_833 rfl ?_
    refine go_iload 836 dL_law_834 rfl ?_
    refine go_iload 838 dL_law_836 rfl ?_
    refine gw_X 841 [.ref x, .int (nI p), .int (nI v)] dL_law_838 vL_286 rfl (ct_L_offer_1 (cl.th (ct_X5_offer_1 hC (hC.oP hp9 (by omega)))) (by decide) cl.x5) (by decide) (by exact Nat.le_of_ble_eq_true rfl) (by omega) (by omega) (by omega) (fun w2 e2 l2 => ?_)
    have af : Aft Γ w2 T x a e bf y C D i u dn nn 0 := aft_0 hB hH hP ht e2 l2
    refine go_iload 843 dL_law_841 rfl ?_
    refine go_icmp_ne 850 846 dL_law_843 (fun z => absurd rfl z) (fun _ => ?_)
    refine go_iconst 847 dL_law_846 zc_1 ?_
    refine go_goto 851 dL_law_847 ?_
    refine go_istore_n 852 dL_law_851 (by decide) ?_
    refine go_goto 1092 dL_law_852 ?_
    exact go_locals _ rfl (KK w2 T 0 _ _ af (by omega) (by omega))
set_option maxRecDepth 100000 in
set_option maxHeartbeats 4000000 in
theorem br_off {l : Launch} {Γ : ZG} {Φ : Option Value → ZW → Prop} {w : ZW} {T : LT} {x a e bf y : Nat} {C : CS} {D : ZD} {i u dn nn p ii k n kM nM : Nat} {ip : Int32} (hB : Bo Γ w T x a e C D) (hH : Hb Γ w T bf C i u dn) (hF : Fy Γ w T (C.1 0) D y) (hP : nP D ≤ 8) (ht : tmN D ≤ 30 * nn) (hnn : nn ≤ 45) (hp : p ≤ 8) (hip : (ip = 1 ∧ p < nP D) ∨ (ip = 0 ∧ nP D ≤ p)) (hk : k + 2560 ≤ kM) (hn : n + 49000 ≤ nM) (hkM : kM ≤ 1036902) (hnM : nM ≤ 5990994) (KK : ∀ (w : ZW) (T : LT) (c : Int32) (k n : Nat), Aft Γ w T x a e bf y C D i u dn nn c → k ≤ kM → n ≤ nM → Go l Γ mLaw 1312 1036902 5990994 Φ zNo k n w 1092 [(0, .ref Γ.2.2.2.2.1), (1, .int 1), (2, .int (nI ii)), (3, .ref x), (5, .ref a), (6, .ref e), (7, .ref bf), (8, .int (nI dn)), (9, .int (nI nn)), (10, .ref y), (11, .int c)] []) : Go l Γ mLaw 1312 1036902 5990994 Φ zNo k n w 737 [(0, .ref Γ.2.2.2.2.1), (1, .int 1), (2, .int (nI ii)), (3, .ref x), (5, .ref a), (6, .ref e), (7, .ref bf), (8, .int (nI dn)), (9, .int (nI nn)), (10, .ref y), (12, .int (-2000000097)), (13, .int (nI (nP D))), (14, .int (nI p)), (15, .int ip)] [] := by
  refine go_aload 739 dL_law_737 rfl ?_
  refine go_aload 741 dL_law_739 rfl ?_
  refine go_bipush 743 dL_law_741 zb_9 ?_
  refine gb_below (B := 9) hB 746 dL_law_743 _ rfl (by decide) (by decide) (by omega) (by omega) (by exact Nat.le_of_ble_eq_true rfl) (fun w1 j1 hj1 hB1 kq1 el1 => ?_)
  have hH1 := hH.go kq1 (by decide) (by decide)
  have hF1 := hF.go kq1 (by decide)
  have K758 : ∀ B, 0 < B → B ≤ 1100 → Go l Γ mLaw 1312 1036902 5990994 Φ zNo k n w1 758 [(0, .ref Γ.2.2.2.2.1), (1, .int 1), (2, .int (nI ii)), (3, .ref x), (5, .ref a), (6, .ref e), (7, .ref bf), (8, .int (nI dn)), (9, .int (nI nn)), (10, .ref y), (12, .int (-2000000097)), (13, .int (nI (nP D))), (14, .int (nI p)), (15, .int ip)] [.int (nI B), .ref a] := by
    intro B hB0 hB9
    refine gb_below (B := B) hB1 761 dL_law_758 _ rfl hB0 (by omega) (by omega) (by omega) (by exact Nat.le_of_ble_eq_true rfl) (fun w2 v hv hB2 kq2 el2 => ?_)
    have hH2 := hH1.go kq2 (by decide) (by decide)
    have hF2 := hF1.go kq2 (by decide)
    refine go_istore 763 dL_law_761 (by decide) ?_
    exact go_locals _ rfl (br_off9 (v := v) (by omega) hB2 hH2 hF2 hP ht hnn hp hip (by omega) (by omega) hkM hnM KK)
  refine go_if_ne 755 749 dL_law_746 (fun z => ?_) (fun z => ?_)
  · refine go_sipush 758 dL_law_755 zs_1000 ?_
    exact K758 1000 (by decide) (by decide)
  · refine go_sipush 752 dL_law_749 zs_1100 ?_
    refine go_goto 758 dL_law_752 ?_
    exact K758 1100 (by decide) (by decide)
theorem stp_no {j v : Nat} (hj : j < 3) (hv : v ≤ 1002) (h : ¬ (j < 3 ∧ v ≤ (if j = 2 then 999 else 99))) : ¬ (0 ≤ nI v ∧ nI v ≤ (if nI j = 2 then 999 else 99)) := by
  rintro ⟨-, z⟩
  refine h ⟨hj, ?_⟩
  by_cases hj2 : j = 2
  · rw [if_pos hj2]
    rw [if_pos (show nI j = 2 by rw [hj2]; rfl)] at z
    exact (nI_leI (b := 999) (by omega) (by decide)).mp z
  · rw [if_neg hj2]
    rw [if_neg (show ¬ nI j = 2 from fun z => hj2 ((nI_eq (b := 2) (by omega) (by decide)).mp z))] at z
    exact (nI_leI (b := 99) (by omega) (by decide)).mp z
set_option maxRecDepth 100000 in
set_option maxHeartbeats 4000000 in
theorem br_set9 {l : Launch} {Γ : ZG} {Φ : Option Value → ZW → Prop} {w : ZW} {T : LT} {x a e bf y : Nat} {C : CS} {D : ZD} {i u dn nn p ii k n kM nM : Nat} {ip : Int32} {j v : Nat} {ir : Int32} (hj : j < 4) (hv : v ≤ 1002) (hir : (ir = 1 ∧ j < 3 ∧ v ≤ (if j = 2 then 999 else 99)) ∨ (ir = 0 ∧ ¬ (j < 3 ∧ v ≤ (if j = 2 then 999 else 99)))) (hB : Bo Γ w T x a e C D) (hH : Hb Γ w T bf C i u dn) (hF : Fy Γ w T (C.1 0) D y) (hP : nP D ≤ 8) (ht : tmN D ≤ 30 * nn) (hnn : nn ≤ 45) (hp : p ≤ 8) (hip : (ip = 1 ∧ p < nP D) ∨ (ip = 0 ∧ nP D ≤ p)) (hk : k + 2560 ≤ kM) (hn : n + 49000 ≤ nM) (hkM : kM ≤ 1036902) (hnM : nM ≤ 5990994) (KK : ∀ (w : ZW) (T : LT) (c : Int32) (k n : Nat), Aft Γ w T x a e bf y C D i u dn nn c → k ≤ kM → n ≤ nM → Go l Γ mLaw 1312 1036902 5990994 Φ zNo k n w 1092 [(0, .ref Γ.2.2.2.2.1), (1, .int 1), (2, .int (nI ii)), (3, .ref x), (5, .ref a), (6, .ref e), (7, .ref bf), (8, .int (nI dn)), (9, .int (nI nn)), (10, .ref y), (11, .int c)] []) : Go l Γ mLaw 1312 1036902 5990994 Φ zNo k n w 919 [(0, .ref Γ.2.2.2.2.1), (1, .int 1), (2, .int (nI ii)), (3, .ref x), (5, .ref a), (6, .ref e), (7, .ref bf), (8, .int (nI dn)), (9, .int (nI nn)), (10, .ref y), (12, .int (-2000000097)), (13, .int (nI (nP D))), (14, .int (nI p)), (15, .int ip), (20, .int (nI j)), (21, .int (nI v)), (22, .int ir)] [] := by
  obtain ⟨s, g, cs, sg, A, V, tm, cl, rn, rg, h, tr, hC, hG, hJ, hW, hz⟩ := id hB
  have h10 := hC.P10
  have ix := hG.iv.1
  have hpt := pot_120 ix
  rcases hip with ⟨rfl, hp9⟩ | ⟨rfl, hp9⟩
  · rcases hir with ⟨rfl, hir⟩ | ⟨rfl, hir⟩
    · obtain ⟨f, f1, f2, f3⟩ := h.p.2 p hp9
      have h1 : LX Γ (wset w (A 3 p) (i5 Γ 3 (upd f j (nI v)))) T 1 sg A V tm e (setP D p j (nI v)) := h.par ix hp9 hir.1 f1
      have kq := Kq.set (w := w) (c := i5 Γ 3 (upd f j (nI v))) f2
      refine go_iload 921 dL_law_919 rfl ?_
      refine go_if_eq 933 924 dL_law_921 (fun z => absurd z (by decide)) (fun _ => ?_)
      refine go_iload 926 dL_law_924 rfl ?_
      refine go_if_eq 933 929 dL_law_926 (fun z => absurd z (by decide)) (fun _ => ?_)
      refine go_iconst 930 dL_law_929 zc_1 ?_
      refine go_goto 934 dL_law_930 ?_
      refine go_istore 936 dL_law_934 (by decide) ?_
      refine go_iload 938 dL_law_936 rfl ?_
      refine go_if_eq 964 941 dL_law_938 (fun z => absurd z (by decide)) (fun _ => ?_)
      refine go_iload 943 dL_law_941 rfl ?_
      refine go_if_eq 960 946 dL_law_943 (fun z => absurd z (by decide)) (fun _ => ?_)
      refine go_aload 948 dL_law_946 rfl ?_
      refine gl_x h 951 dL_law_948 fL_122 rfl ?_
      refine go_iload 953 dL_law_951 rfl ?_
      refine gl_pa h ix rfl hp9 954 dL_law_953 ?_
      refine go_iload 956 dL_law_954 rfl ?_
      refine gl_pi h hp9 rfl hir.1 957 dL_law_956 ?_
      refine go_goto 962 dL_law_957 ?_
      refine go_istore 964 dL_law_962 (by decide) ?_
      refine go_iload 966 dL_law_964 rfl ?_
      refine go_if_eq 982 969 dL_law_966 (fun z => absurd z (by decide)) (fun _ => ?_)
      refine go_aload 971 dL_law_969 rfl ?_
      refine gl_x h 974 dL_law_971 fL_122 rfl ?_
      refine go_iload 976 dL_law_974 rfl ?_
      refine gl_pa h ix rfl hp9 977 dL_law_976 ?_
      refine go_iload 979 dL_law_977 rfl ?_
      refine go_iload 981 dL_law_979 rfl ?_
      refine go_iast 982 dL_law_981 f1 (vp_in_nI hir.1 (by decide)) ?_
      rw [nI_clamp (by omega)]
      have cl1 := cl.go kq (by omega) (Nat.le_refl _)
      have rn1 := rn.go kq (by omega)
      have rg1 := rg.go kq (by omega) (Nat.le_refl _)
      have tr1 := tr.go kq (by omega)
      have hH1 := hH.go kq (by omega) (by omega)
      have hF1 := hF.go kq (by omega)
      refine go_aload_n 983 dL_law_982 rfl ?_
      refine go_iload 985 dL_law_983 rfl ?_
      refine go_iload 987 dL_law_985 rfl ?_
      refine go_iload 989 dL_law_987 rfl ?_
      refine go_callSW 992 [.ref x, .int (nI p), .int (nI j), .int (nI v)] dL_law_989 vL_288 rfl (co_setParty cl1 rg1 hC hH.1 hp9 hir.1 hir.2) (by decide) (by decide) (by omega) (by omega) (by exact Nat.le_of_ble_eq_true rfl) ?_
      intro v2 w2 q2
      obtain ⟨rfl, af⟩ := aft_1 (nn := nn) rn1 tr1 h1 hH1 hF1 (sp_GI (by omega) hir.1 ((nI_leI (a := 0) (by decide) (by omega)).mpr (Nat.zero_le _)) hG) (jx_sp (by omega) hir.1 hJ) (hW.lo (sp_lo (by decide)) (sp_lo (by decide))) hz (by rw [sp_n.1]; exact hP) (by rw [sp_n.2.2.2]; omega) q2
      refine go_iload 994 dL_law_992 rfl ?_
      refine go_icmp_ne 1001 997 dL_law_994 (fun z => absurd rfl z) (fun _ => ?_)
      refine go_iconst 998 dL_law_997 zc_1 ?_
      refine go_goto 1002 dL_law_998 ?_
      refine go_istore_n 1003 dL_law_1002 (by decide) ?_
      refine go_goto 1092 dL_law_1003 ?_
      exact go_locals _ rfl (KK w2 T 1 _ _ af (by omega) (by omega))
    · refine go_iload 921 dL_law_919 rfl ?_
      refine go_if_eq 933 924 dL_law_921 (fun z => absurd z (by decide)) (fun _ => ?_)
      refine go_iload 926 dL_law_924 rfl ?_
      refine go_if_eq 933 929 dL_law_926 (fun _ => ?_) (fun z => absurd rfl z)
      refine go_iconst 934 dL_law_933 zc_0 ?_
      refine go_istore 936 dL_law_934 (by decide) ?_
      refine go_iload 938 dL_law_936 rfl ?_
      refine go_if_eq 964 941 dL_law_938 (fun z => absurd z (by decide)) (fun _ => ?_)
      refine go_iload 943 dL_law_941 rfl ?_
      refine go_if_eq 960 946 dL_law_943 (fun _ => ?_) (fun z => absurd rfl z)
      refine go_ldc 962 dL_law_960 ciL_42 ?_
      refine go_istore 964 dL_law_962 (by decide) ?_
      refine go_iload 966 dL_law_964 rfl ?_
      refine go_if_eq 982 969 dL_law_966 (fun _ => ?_) (fun z => absurd rfl z)
      refine go_aload_n 983 dL_law_982 rfl ?_
      refine go_iload 985 dL_law_983 rfl ?_
      refine go_iload 987 dL_law_985 rfl ?_
      refine go_iload 989 dL_law_987 rfl ?_
      by_cases hj3 : j < 3
      · refine gw_X 992 [.ref x, .int (nI p), .int (nI j), .int (nI v)] dL_law_989 vL_288 rfl (ct_L_setParty_2 (cl.th (ct_X5_setParty_3 hC (hC.iP hp9) (sml (m := 2) (by omega) (by decide)) (stp_no hj3 (by omega) hir))) (by decide) cl.x5) (by decide) (by exact Nat.le_of_ble_eq_true rfl) (by omega) (by omega) (by omega) (fun w2 e2 l2 => ?_)
        have af : Aft Γ w2 T x a e bf y C D i u dn nn 0 := aft_0 hB hH hP ht e2 l2
        refine go_iload 994 dL_law_992 rfl ?_
        refine go_icmp_ne 1001 997 dL_law_994 (fun z => absurd rfl z) (fun _ => ?_)
        refine go_iconst 998 dL_law_997 zc_1 ?_
        refine go_goto 1002 dL_law_998 ?_
        refine go_istore_n 1003 dL_law_1002 (by decide) ?_
        refine go_goto 1092 dL_law_1003 ?_
        exact go_locals _ rfl (KK w2 T 0 _ _ af (by omega) (by omega))
      · refine gw_X 992 [.ref x, .int (nI p), .int (nI j), .int (nI v)] dL_law_989 vL_288 rfl (ct_L_setParty_2 (cl.th (ct_X5_setParty_2 hC (hC.iP hp9) (fun z => absurd ((nI_leI (a := j) (b := 2) (by omega) (by decide)).mp z.2) (by omega)))) (by decide) cl.x5) (by decide) (by exact Nat.le_of_ble_eq_true rfl) (by omega) (by omega) (by omega) (fun w2 e2 l2 => ?_)
        have af : Aft Γ w2 T x a e bf y C D i u dn nn 0 := aft_0 hB hH hP ht e2 l2
        refine go_iload 994 dL_law_992 rfl ?_
        refine go_icmp_ne 1001 997 dL_law_994 (fun z => absurd rfl z) (fun _ => ?_)
        refine go_iconst 998 dL_law_997 zc_1 ?_
        refine go_goto 1002 dL_law_998 ?_
        refine go_istore_n 1003 dL_law_1002 (by decide) ?_
        refine go_goto 1092 dL_law_1003 ?_
        exact go_locals _ rfl (KK w2 T 0 _ _ af (by omega) (by omega))
  · refine go_iload 921 dL_law_919 rfl ?_
    refine go_if_eq 933 924 dL_law_921 (fun _ => ?_) (fun z => absurd rfl z)
    refine go_iconst 934 dL_law_933 zc_0 ?_
    refine go_istore 936 dL_law_934 (by decide) ?_
    refine go_iload 938 dL_law_936 rfl ?_
    refine go_if_eq 964 941 dL_law_938 (fun _ => ?_) (fun z => absurd rfl z)
    refine go_iload 966 dL_law_964 rfl ?_
    refine go_if_eq 982 969 dL_law_966 (fun _ => ?_) (fun z => absurd rfl z)
    refine go_aload_n 983 dL_law_982 rfl ?_
    refine go_iload 985 dL_law_983 rfl ?_
    refine go_iload 987 dL_law_985 rfl ?_
    refine go_iload 989 dL_law_987 rfl ?_
    refine gw_X 992 [.ref x, .int (nI p), .int (nI j), .int (nI v)] dL_law_989 vL_288 rfl (ct_L_setParty_1 (cl.th (ct_X5_setParty_1 hC (hC.oP hp9 (by omega)))) (by decide) cl.x5) (by decide) (by exact Nat.le_of_ble_eq_true rfl) (by omega) (by omega) (by omega) (fun w2 e2 l2 => ?_)
    have af : Aft Γ w2 T x a e bf y C D i u dn nn 0 := aft_0 hB hH hP ht e2 l2
    refine go_iload 994 dL_law_992 rfl ?_
    refine go_icmp_ne 1001 997 dL_law_994 (fun z => absurd rfl z) (fun _ => ?_)
    refine go_iconst 998 dL_law_997 zc_1 ?_
    refine go_goto 1002 dL_law_998 ?_
    refine go_istore_n 1003 dL_law_1002 (by decide) ?_
    refine go_goto 1092 dL_law_1003 ?_
    exact go_locals _ rfl (KK w2 T 0 _ _ af (by omega) (by omega))
set_option maxRecDepth 100000 in
set_option maxHeartbeats 4000000 in
theorem br_set {l : Launch} {Γ : ZG} {Φ : Option Value → ZW → Prop} {w : ZW} {T : LT} {x a e bf y : Nat} {C : CS} {D : ZD} {i u dn nn p ii k n kM nM : Nat} {ip : Int32} (hB : Bo Γ w T x a e C D) (hH : Hb Γ w T bf C i u dn) (hF : Fy Γ w T (C.1 0) D y) (hP : nP D ≤ 8) (ht : tmN D ≤ 30 * nn) (hnn : nn ≤ 45) (hp : p ≤ 8) (hip : (ip = 1 ∧ p < nP D) ∨ (ip = 0 ∧ nP D ≤ p)) (hk : k + 2560 ≤ kM) (hn : n + 49000 ≤ nM) (hkM : kM ≤ 1036902) (hnM : nM ≤ 5990994) (KK : ∀ (w : ZW) (T : LT) (c : Int32) (k n : Nat), Aft Γ w T x a e bf y C D i u dn nn c → k ≤ kM → n ≤ nM → Go l Γ mLaw 1312 1036902 5990994 Φ zNo k n w 1092 [(0, .ref Γ.2.2.2.2.1), (1, .int 1), (2, .int (nI ii)), (3, .ref x), (5, .ref a), (6, .ref e), (7, .ref bf), (8, .int (nI dn)), (9, .int (nI nn)), (10, .ref y), (11, .int c)] []) : Go l Γ mLaw 1312 1036902 5990994 Φ zNo k n w 855 [(0, .ref Γ.2.2.2.2.1), (1, .int 1), (2, .int (nI ii)), (3, .ref x), (5, .ref a), (6, .ref e), (7, .ref bf), (8, .int (nI dn)), (9, .int (nI nn)), (10, .ref y), (12, .int (-2000000097)), (13, .int (nI (nP D))), (14, .int (nI p)), (15, .int ip)] [] := by
  refine go_aload 857 dL_law_855 rfl ?_
  refine go_iconst 858 dL_law_857 zc_4 ?_
  refine gb_below (B := 4) hB 861 dL_law_858 _ rfl (by decide) (by decide) (by omega) (by omega) (by exact Nat.le_of_ble_eq_true rfl) (fun w1 j hj hB1 kq1 el1 => ?_)
  have hH1 := hH.go kq1 (by decide) (by decide)
  have hF1 := hF.go kq1 (by decide)
  refine go_istore 863 dL_law_861 (by decide) ?_
  refine go_aload 865 dL_law_863 rfl ?_
  refine go_aload 867 dL_law_865 rfl ?_
  refine go_iconst 868 dL_law_867 zc_4 ?_
  refine gb_below (B := 4) hB1 871 dL_law_868 _ rfl (by decide) (by decide) (by omega) (by omega) (by exact Nat.le_of_ble_eq_true rfl) (fun w2 j2 hj2 hB2 kq2 el2 => ?_)
  have hH2 := hH1.go kq2 (by decide) (by decide)
  have hF2 := hF1.go kq2 (by decide)
  have K882 : ∀ B, 0 < B → B ≤ 1003 → Go l Γ mLaw 1312 1036902 5990994 Φ zNo k n w2 882 [(0, .ref Γ.2.2.2.2.1), (1, .int 1), (2, .int (nI ii)), (3, .ref x), (5, .ref a), (6, .ref e), (7, .ref bf), (8, .int (nI dn)), (9, .int (nI nn)), (10, .ref y), (12, .int (-2000000097)), (13, .int (nI (nP D))), (14, .int (nI p)), (15, .int ip), (20, .int (nI j))] [.int (nI B), .ref a] := by
    intro B hB0 hB9
    refine gb_below (B := B) hB2 885 dL_law_882 _ rfl hB0 (by omega) (by omega) (by omega) (by exact Nat.le_of_ble_eq_true rfl) (fun w3 v hv hB3 kq3 el3 => ?_)
    have hH3 := hH2.go kq3 (by decide) (by decide)
    have hF3 := hF2.go kq3 (by decide)
    refine go_istore 887 dL_law_885 (by decide) ?_
    refine go_iload 889 dL_law_887 rfl ?_
    refine go_iconst 890 dL_law_889 zc_3 ?_
    by_cases hj3 : j < 3
    · refine go_icmp_ge 916 893 dL_law_890 (fun z => absurd ((nI_leI (a := 3) (b := j) (by decide) (by omega)).mp z) (by omega)) (fun _ => ?_)
      refine go_iload 895 dL_law_893 rfl ?_
      refine go_iload 897 dL_law_895 rfl ?_
      refine go_iconst 898 dL_law_897 zc_2 ?_
      by_cases hj2 : j = 2
      · refine go_icmp_ne 907 901 dL_law_898 (fun z => absurd ((nI_eq (a := j) (b := 2) (by omega) (by decide)).mpr hj2) z) (fun _ => ?_)
        refine go_sipush 904 dL_law_901 zs_999 ?_
        refine go_goto 909 dL_law_904 ?_
        by_cases hv9 : v ≤ 999
        · refine go_icmp_gt 916 912 dL_law_909 (fun z => absurd ((nI_ltI (a := 999) (b := v) (by decide) (by omega)).mp z) (by omega)) (fun _ => ?_)
          refine go_iconst 913 dL_law_912 zc_1 ?_
          refine go_goto 917 dL_law_913 ?_
          refine go_istore 919 dL_law_917 (by decide) ?_
          exact go_locals _ rfl (br_set9 (j := j) (v := v) hj (by omega) (Or.inl ⟨rfl, hj3, by rw [if_pos hj2]; exact hv9⟩) hB3 hH3 hF3 hP ht hnn hp hip (by omega) (by omega) hkM hnM KK)
        · refine go_icmp_gt 916 912 dL_law_909 (fun _ => ?_) (fun z => absurd ((nI_ltI (a := 999) (b := v) (by decide) (by omega)).mpr (by omega)) z)
          refine go_iconst 917 dL_law_916 zc_0 ?_
          refine go_istore 919 dL_law_917 (by decide) ?_
          exact go_locals _ rfl (br_set9 (j := j) (v := v) hj (by omega) (Or.inr ⟨rfl, fun z => hv9 (by rw [if_pos hj2] at z; exact z.2)⟩) hB3 hH3 hF3 hP ht hnn hp hip (by omega) (by omega) hkM hnM KK)
      · refine go_icmp_ne 907 901 dL_law_898 (fun _ => ?_) (fun z => absurd ((nI_eq (a := j) (b := 2) (by omega) (by decide)).mp z) hj2)
        refine go_bipush 909 dL_law_907 zb_99 ?_
        by_cases hv9 : v ≤ 99
        · refine go_icmp_gt 916 912 dL_law_909 (fun z => absurd ((nI_ltI (a := 99) (b := v) (by decide) (by omega)).mp z) (by omega)) (fun _ => ?_)
          refine go_iconst 913 dL_law_912 zc_1 ?_
          refine go_goto 917 dL_law_913 ?_
          refine go_istore 919 dL_law_917 (by decide) ?_
          exact go_locals _ rfl (br_set9 (j := j) (v := v) hj (by omega) (Or.inl ⟨rfl, hj3, by rw [if_neg hj2]; exact hv9⟩) hB3 hH3 hF3 hP ht hnn hp hip (by omega) (by omega) hkM hnM KK)
        · refine go_icmp_gt 916 912 dL_law_909 (fun _ => ?_) (fun z => absurd ((nI_ltI (a := 99) (b := v) (by decide) (by omega)).mpr (by omega)) z)
          refine go_iconst 917 dL_law_916 zc_0 ?_
          refine go_istore 919 dL_law_917 (by decide) ?_
          exact go_locals _ rfl (br_set9 (j := j) (v := v) hj (by omega) (Or.inr ⟨rfl, fun z => hv9 (by rw [if_neg hj2] at z; exact z.2)⟩) hB3 hH3 hF3 hP ht hnn hp hip (by omega) (by omega) hkM hnM KK)
    · refine go_icmp_ge 916 893 dL_law_890 (fun _ => ?_) (fun z => absurd ((nI_leI (a := 3) (b := j) (by decide) (by omega)).mpr (by omega)) z)
      refine go_iconst 917 dL_law_916 zc_0 ?_
      refine go_istore 919 dL_law_917 (by decide) ?_
      exact go_locals _ rfl (br_set9 (j := j) (v := v) hj (by omega) (Or.inr ⟨rfl, fun z => hj3 z.1⟩) hB3 hH3 hF3 hP ht hnn hp hip (by omega) (by omega) hkM hnM KK)
  refine go_if_ne 880 874 dL_law_871 (fun z => ?_) (fun z => ?_)
  · refine go_bipush 882 dL_law_880 zb_9 ?_
    exact go_locals _ rfl (K882 9 (by decide) (by decide))
  · refine go_sipush 877 dL_law_874 zs_1003 ?_
    refine go_goto 882 dL_law_877 ?_
    exact go_locals _ rfl (K882 1003 (by decide) (by decide))
end LBrE
