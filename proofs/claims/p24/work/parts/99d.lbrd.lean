section LBrD
/-! the law's steps: hanging up -/
theorem gb_below {l : Launch} {Γ : ZG} {Φ : Option Value → ZW → Prop} {w : ZW} {T : LT} {x a e : Nat} {C : CS} {D : ZD} {k n pc B : Nat} {L : ZL} {st : List Value} (hB : Bo Γ w T x a e C D) (pc' : Nat) (hd : decode mLaw.2.1 pc = .ok (.invokevirtual 115, 3)) (z : Int32) (hz : z = nI B) (hB0 : 0 < B) (hB2 : B ≤ 65536) (h1 : k ≤ 1036902) (h2 : n ≤ 5990994) (hst : (st.map fun v => v.category).sum ≤ 8) (kk : ∀ w' j, j < B → Bo Γ w' T x a e C D → Kq w T w' T (fun z => z ≠ 2) → w'.1 = w.1 → Go l Γ mLaw 1312 1036902 5990994 Φ zNo k n w' pc' L (.int (nI j) :: st)) (hp : pc + 3 = pc' := by rfl) : Go l Γ mLaw 1312 1036902 5990994 Φ zNo k n w pc L (.int z :: .ref a :: st) := by
  subst hz
  obtain ⟨s, g, cs, sg, A, V, tm, cl, rn, rg, h, tr, hC, hG, hJ, hW, hz⟩ := hB
  refine go_callV pc' [.int (nI B)] hd vL_115 rn.1 rfl (ct_X9_below rn.1 hB0 hB2) (by decide) (by decide) h1 h2 hst ?_ hp
  rintro v w2 ⟨j, s', hj, rfl, rfl⟩
  have kq : Kq w T (wset w a (rnE s')) T (fun z => z ≠ 2) := Kq.set rn.2
  exact kk _ j hj ⟨s', g, cs, sg, A, V, tm, cl.go kq (by decide) (Nat.le_refl _), ⟨wset_at, rn.2⟩, rg.go kq (by decide) (Nat.le_refl _), lx_n2 h kq, tr.go kq (by decide), hC, hG, hJ, hW, hz⟩ kq rfl
set_option maxRecDepth 100000 in
set_option maxHeartbeats 4000000 in
theorem br_hang {l : Launch} {Γ : ZG} {Φ : Option Value → ZW → Prop} {w : ZW} {T : LT} {x a e bf y : Nat} {C : CS} {D : ZD} {i u dn nn p ii k n kM nM : Nat} {ip : Int32} (hB : Bo Γ w T x a e C D) (hH : Hb Γ w T bf C i u dn) (hF : Fy Γ w T (C.1 0) D y) (hP : nP D ≤ 8) (ht : tmN D ≤ 30 * nn) (hnn : nn ≤ 45) (hp : p ≤ 8) (hip : (ip = 1 ∧ p < nP D) ∨ (ip = 0 ∧ nP D ≤ p)) (hk : k + 2560 ≤ kM) (hn : n + 49000 ≤ nM) (hkM : kM ≤ 1036902) (hnM : nM ≤ 5990994) (KK : ∀ (w : ZW) (T : LT) (c : Int32) (k n : Nat), Aft Γ w T x a e bf y C D i u dn nn c → k ≤ kM → n ≤ nM → Go l Γ mLaw 1312 1036902 5990994 Φ zNo k n w 1092 [(0, .ref Γ.2.2.2.2.1), (1, .int 1), (2, .int (nI ii)), (3, .ref x), (5, .ref a), (6, .ref e), (7, .ref bf), (8, .int (nI dn)), (9, .int (nI nn)), (10, .ref y), (11, .int c)] []) : Go l Γ mLaw 1312 1036902 5990994 Φ zNo k n w 699 [(0, .ref Γ.2.2.2.2.1), (1, .int 1), (2, .int (nI ii)), (3, .ref x), (5, .ref a), (6, .ref e), (7, .ref bf), (8, .int (nI dn)), (9, .int (nI nn)), (10, .ref y), (12, .int (-2000000097)), (13, .int (nI (nP D))), (14, .int (nI p)), (15, .int ip)] [] := by
  obtain ⟨s, g, cs, sg, A, V, tm, cl, rn, rg, h, tr, hC, hG, hJ, hW, hz⟩ := id hB
  have h10 := hC.P10
  have ix := hG.iv.1
  have hpt := pot_120 ix
  rcases hip with ⟨rfl, hp9⟩ | ⟨rfl, hp9⟩
  · refine go_iload 701 dL_law_699 rfl ?_
    refine go_istore 703 dL_law_701 (by decide) ?_
    refine go_iload 705 dL_law_703 rfl ?_
    refine go_if_eq 717 708 dL_law_705 (fun z => absurd z (by decide)) (fun _ => ?_)
    refine go_aload 710 dL_law_708 rfl ?_
    refine go_iload 712 dL_law_710 rfl ?_
    refine go_wf fun hw => go_callV 715 [.int (nI p)] dL_law_712 vL_280 h.x.1 rfl (cl_hangsUp h hG.iv hG.1 (p := nI p) (mc := 1 + pot D) (Nat.le_refl _)) (by decide) (by decide) (by omega) (by omega) (by exact Nat.le_of_ble_eq_true rfl) ?_
    rintro _ w1 ⟨rfl, T1, V1, f1, h1⟩
    have kq := f1.kq hw
    have cl1 := cl.go kq (by decide) f1.1
    have rn1 := rn.go kq (by decide)
    have rg1 := rg.go kq (by decide) f1.1
    have tr1 := tr.go kq (by decide)
    have hH1 := hH.go kq (by decide) (by decide)
    have hF1 := hF.go kq (by decide)
    refine go_istore 717 dL_law_715 (by decide) ?_
    refine go_aload_n 718 dL_law_717 rfl ?_
    refine go_iload 720 dL_law_718 rfl ?_
    refine go_callSW 723 [.ref x, .int (nI p)] dL_law_720 vL_237 rfl (co_hangUp cl1 rg1 hC hG hH.1 hp9) (by decide) (by decide) (by omega) (by omega) (by exact Nat.le_of_ble_eq_true rfl) ?_
    intro v2 w2 q2
    obtain ⟨rfl, af⟩ := aft_1 (nn := nn) rn1 tr1 h1 hH1 hF1 (hG.same hup_sm (jo_hup hG.jo)) (jx_hup hJ hG.iv) (hW.sm hup_sm) hz (by rw [sm_nP hup_sm]; exact hP) (by rw [tm_same hup_sm]; omega) q2
    refine go_iload 725 dL_law_723 rfl ?_
    refine go_icmp_ne 732 728 dL_law_725 (fun z => absurd rfl z) (fun _ => ?_)
    refine go_iconst 729 dL_law_728 zc_1 ?_
    refine go_goto 733 dL_law_729 ?_
    refine go_istore_n 734 dL_law_733 (by decide) ?_
    refine go_goto 1092 dL_law_734 ?_
    exact go_locals _ rfl (KK w2 T1 1 _ _ af (by omega) (by omega))
  · refine go_iload 701 dL_law_699 rfl ?_
    refine go_istore 703 dL_law_701 (by decide) ?_
    refine go_iload 705 dL_law_703 rfl ?_
    refine go_if_eq 717 708 dL_law_705 (fun _ => ?_) (fun z => absurd rfl z)
    refine go_aload_n 718 dL_law_717 rfl ?_
    refine go_iload 720 dL_law_718 rfl ?_
    refine gw_X 723 [.ref x, .int (nI p)] dL_law_720 vL_237 rfl (ct_L_hangUp_1 (cl.th (ct_X5_hangUp_1 hC (hC.oP hp9 (by omega)))) (by decide) cl.x5) (by decide) (by exact Nat.le_of_ble_eq_true rfl) (by omega) (by omega) (by omega) (fun w2 e2 l2 => ?_)
    have af : Aft Γ w2 T x a e bf y C D i u dn nn 0 := aft_0 hB hH hP ht e2 l2
    refine go_iload 725 dL_law_723 rfl ?_
    refine go_icmp_ne 732 728 dL_law_725 (fun z => absurd rfl z) (fun _ => ?_)
    refine go_iconst 729 dL_law_728 zc_1 ?_
    refine go_goto 733 dL_law_729 ?_
    refine go_istore_n 734 dL_law_733 (by decide) ?_
    refine go_goto 1092 dL_law_734 ?_
    exact go_locals _ rfl (KK w2 T 0 _ _ af (by omega) (by omega))
end LBrD
