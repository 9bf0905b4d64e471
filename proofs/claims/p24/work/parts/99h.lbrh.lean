section LBrH
/-! the law's steps: dials -/
def clb (v p : Nat) : Nat := if v / 2 ^ p % 2 = 1 then v - 2 ^ p else v
theorem clb_eq : ∀ p, p < 8 → ∀ v, v < 256 → nI v &&& (((1 : Int32) <<< (nI p &&& 31)) ^^^ (-1)) = nI (clb v p) := by decide +kernel
theorem clb_le {v p : Nat} : clb v p ≤ v := by
  unfold clb
  split
  · exact Nat.sub_le _ _
  · exact Nat.le_refl _
theorem bits_lt : ∀ n, n < 9 → ∀ v, v < 2 ^ n → ∀ j, j < 10 → bitOf (nI v) j = 1 → j < n := by decide +kernel
theorem pow_8 : ∀ n, n < 9 → 0 < 2 ^ n ∧ 2 ^ n ≤ 256 := by decide
set_option maxRecDepth 100000 in
set_option maxHeartbeats 4000000 in
theorem br_dial9 {l : Launch} {Γ : ZG} {Φ : Option Value → ZW → Prop} {w : ZW} {T : LT} {x a e bf y : Nat} {C : CS} {D : ZD} {i u dn nn p ii k n kM nM : Nat} {ip : Int32} {v : Nat} (hv : v < 2 ^ nP D) (hB : Bo Γ w T x a e C D) (hH : Hb Γ w T bf C i u dn) (hF : Fy Γ w T (C.1 0) D y) (hP : nP D ≤ 8) (ht : tmN D ≤ 30 * nn) (hnn : nn ≤ 45) (hp : p ≤ 8) (hip : (ip = 1 ∧ p < nP D) ∨ (ip = 0 ∧ nP D ≤ p)) (hk : k + 2560 ≤ kM) (hn : n + 49000 ≤ nM) (hkM : kM ≤ 1036902) (hnM : nM ≤ 5990994) (KK : ∀ (w : ZW) (T : LT) (c : Int32) (k n : Nat), Aft Γ w T x a e bf y C D i u dn nn c → k ≤ kM → n ≤ nM → Go l Γ mLaw 1312 1036902 5990994 Φ zNo k n w 1092 [(0, .ref Γ.2.2.2.2.1), (1, .int 1), (2, .int (nI ii)), (3, .ref x), (5, .ref a), (6, .ref e), (7, .ref bf), (8, .int (nI dn)), (9, .int (nI nn)), (10, .ref y), (11, .int c)] []) : Go l Γ mLaw 1312 1036902 5990994 Φ zNo k n w 379 [(0, .ref Γ.2.2.2.2.1), (1, .int 1), (2, .int (nI ii)), (3, .ref x), (5, .ref a), (6, .ref e), (7, .ref bf), (8, .int (nI dn)), (9, .int (nI nn)), (10, .ref y), (12, .int (-2000000097)), (13, .int (nI (nP D))), (14, .int (nI p)), (15, .int ip), (16, .int (nI v)), (17, .int (nI (bN (nI v) 0 10)))] [] := by
  obtain ⟨s, g, cs, sg, A, V, tm, cl, rn, rg, h, tr, hC, hG, hJ, hW, hz⟩ := id hB
  have h10 := hC.P10
  have ix := hG.iv.1
  have hpt := pot_120 ix
  have i40 := ix.2.2.1.2
  have i20 := ix.2.1.2
  have hbn := bN_le (x := nI v) 10 0
  have hp8 := pow_8 (nP D) (by omega)
  rcases hip with ⟨rfl, hp9⟩ | ⟨rfl, hp9⟩
  · refine go_iconst 380 dL_law_379 zc_0 ?_
    refine go_istore 382 dL_law_380 (by decide) ?_
    refine go_iload 384 dL_law_382 rfl ?_
    refine go_if_eq 478 387 dL_law_384 (fun z => absurd z (by decide)) (fun _ => ?_)
    refine go_iload 389 dL_law_387 rfl ?_
    by_cases hv0 : v = 0
    · refine go_if_eq 403 392 dL_law_389 (fun _ => ?_) (fun z => absurd (show nI v = 0 by rw [hv0]; rfl) z)
      refine go_ldc 405 dL_law_403 ciL_42 ?_
      refine go_goto 410 dL_law_405 ?_
      refine go_istore 412 dL_law_410 (by decide) ?_
      refine go_iload 414 dL_law_412 rfl ?_
      refine go_ldc 416 dL_law_414 ciL_85 ?_
      refine go_icmp_ne 458 419 dL_law_416 (fun _ => ?_) (fun z => absurd z (by decide))
      refine go_iconst 459 dL_law_458 zc_0 ?_
      refine go_istore 461 dL_law_459 (by decide) ?_
      refine go_iload 463 dL_law_461 rfl ?_
      refine go_if_eq 478 466 dL_law_463 (fun _ => ?_) (fun z => absurd rfl z)
      refine go_aload_n 479 dL_law_478 rfl ?_
      refine go_iload 481 dL_law_479 rfl ?_
      refine go_iload 483 dL_law_481 rfl ?_
      refine gw_X 486 [.ref x, .int (nI p), .int (nI v)] dL_law_483 vL_257 rfl (ct_L_dial_2 (cl.th (ct_X5_dial_2 hC (hC.iP hp9) (Or.inl (by rw [hv0]; decide)))) (by decide) cl.x5) (by decide) (by exact Nat.le_of_ble_eq_true rfl) (by omega) (by omega) (by omega) (fun w2 e2 l2 => ?_)
      have af : Aft Γ w2 T x a e bf y C D i u dn nn 0 := aft_0 hB hH hP ht e2 l2
      refine go_iload 488 dL_law_486 rfl ?_
      refine go_icmp_ne 495 491 dL_law_488 (fun z => absurd rfl z) (fun _ => ?_)
      refine go_iconst 492 dL_law_491 zc_1 ?_
      refine go_goto 496 dL_law_492 ?_
      refine go_istore_n 497 dL_law_496 (by decide) ?_
      refine go_goto 1092 dL_law_497 ?_
      exact go_locals _ rfl (KK w2 T 0 _ _ af (by omega) (by omega))
    · refine go_if_eq 403 392 dL_law_389 (fun z => absurd z (nI_ne0 (by omega) (by omega))) (fun _ => ?_)
      refine go_iload 394 dL_law_392 rfl ?_
      refine go_iload 396 dL_law_394 rfl ?_
      refine go_ishr 397 dL_law_396 ?_
      refine go_iconst 398 dL_law_397 zc_1 ?_
      refine go_iand 399 dL_law_398 ?_
      refine go_iconst 400 dL_law_399 zc_1 ?_
      by_cases hb1 : bitOf (nI v) p = 1
      · refine go_icmp_ne 408 403 dL_law_400 (fun z => absurd hb1 z) (fun _ => ?_)
        refine go_ldc 405 dL_law_403 ciL_42 ?_
        refine go_goto 410 dL_law_405 ?_
        refine go_istore 412 dL_law_410 (by decide) ?_
        refine go_iload 414 dL_law_412 rfl ?_
        refine go_ldc 416 dL_law_414 ciL_85 ?_
        refine go_icmp_ne 458 419 dL_law_416 (fun _ => ?_) (fun z => absurd z (by decide))
        refine go_iconst 459 dL_law_458 zc_0 ?_
        refine go_istore 461 dL_law_459 (by decide) ?_
        refine go_iload 463 dL_law_461 rfl ?_
        refine go_if_eq 478 466 dL_law_463 (fun _ => ?_) (fun z => absurd rfl z)
        refine go_aload_n 479 dL_law_478 rfl ?_
        refine go_iload 481 dL_law_479 rfl ?_
        refine go_iload 483 dL_law_481 rfl ?_
        refine gw_X 486 [.ref x, .int (nI p), .int (nI v)] dL_law_483 vL_257 rfl (ct_L_dial_2 (cl.th (ct_X5_dial_2 hC (hC.iP hp9) (Or.inr (Or.inr hb1)))) (by decide) cl.x5) (by decide) (by exact Nat.le_of_ble_eq_true rfl) (by omega) (by omega) (by omega) (fun w2 e2 l2 => ?_)
        have af : Aft Γ w2 T x a e bf y C D i u dn nn 0 := aft_0 hB hH hP ht e2 l2
        refine go_iload 488 dL_law_486 rfl ?_
        refine go_icmp_ne 495 491 dL_law_488 (fun z => absurd rfl z) (fun _ => ?_)
        refine go_iconst 492 dL_law_491 zc_1 ?_
        refine go_goto 496 dL_law_492 ?_
        refine go_istore_n 497 dL_law_496 (by decide) ?_
        refine go_goto 1092 dL_law_497 ?_
        exact go_locals _ rfl (KK w2 T 0 _ _ af (by omega) (by omega))
      · refine go_icmp_ne 408 403 dL_law_400 (fun _ => ?_) (fun z => absurd z hb1)
        have sp := sh_pow (nP D) (by omega)
        have h2 : ¬ (nI v ≤ 0 ∨ (1 : Int32) <<< (D 4 &&& 31) ≤ nI v ∨ (nI v >>> (nI p &&& 31)) &&& 1 = 1) := by
          rintro (z | z | z)
          · exact absurd ((nI_leI (b := 0) (by omega) (by decide)).mp z) (by omega)
          · rw [hC.D4, sp.1] at z
            exact absurd ((nI_leI (by omega) (by omega)).mp z) (by omega)
          · exact hb1 z
        refine go_ldc 410 dL_law_408 ciL_85 ?_
        refine go_istore 412 dL_law_410 (by decide) ?_
        refine go_iload 414 dL_law_412 rfl ?_
        refine go_ldc 416 dL_law_414 ciL_85 ?_
        refine go_icmp_ne 458 419 dL_law_416 (fun z => absurd rfl z) (fun _ => ?_)
        refine go_aload 421 dL_law_419 rfl ?_
        refine go_iload 423 dL_law_421 rfl ?_
        refine gcV1 426 dL_law_423 vL_249 h.x.1 rfl (cl_isEngaged h ix hG.1) ?_
        by_cases he : eng D (nI p)
        · rw [zb_t he]
          refine go_if_ne 458 429 dL_law_426 (fun _ => ?_) (fun z => absurd z (by decide))
          refine go_iconst 459 dL_law_458 zc_0 ?_
          refine go_istore 461 dL_law_459 (by decide) ?_
          refine go_iload 463 dL_law_461 rfl ?_
          refine go_if_eq 478 466 dL_law_463 (fun _ => ?_) (fun z => absurd rfl z)
          refine go_aload_n 479 dL_law_478 rfl ?_
          refine go_iload 481 dL_law_479 rfl ?_
          refine go_iload 483 dL_law_481 rfl ?_
          refine gw_X 486 [.ref x, .int (nI p), .int (nI v)] dL_law_483 vL_257 rfl (ct_L_dial_3 (cl.th (ct_X5_dial_3 hC hG (hC.iP hp9) rfl rfl (by omega) h2 (Or.inl he))) (by decide) cl.x5) (by decide) (by exact Nat.le_of_ble_eq_true rfl) (by omega) (by omega) (by omega) (fun w2 e2 l2 => ?_)
          have af : Aft Γ w2 T x a e bf y C D i u dn nn 0 := aft_0 hB hH hP ht e2 l2
          refine go_iload 488 dL_law_486 rfl ?_
          refine go_icmp_ne 495 491 dL_law_488 (fun z => absurd rfl z) (fun _ => ?_)
          refine go_iconst 492 dL_law_491 zc_1 ?_
          refine go_goto 496 dL_law_492 ?_
          refine go_istore_n 497 dL_law_496 (by decide) ?_
          refine go_goto 1092 dL_law_497 ?_
          exact go_locals _ rfl (KK w2 T 0 _ _ af (by omega) (by omega))
        · rw [zb_f he]
          refine go_if_ne 458 429 dL_law_426 (fun z => absurd rfl z) (fun _ => ?_)
          refine go_aload 431 dL_law_429 rfl ?_
          refine gl_x h 434 dL_law_431 fL_173 rfl ?_
          refine gl_nC h 435 dL_law_434 ?_
          refine go_bipush 437 dL_law_435 zb_20 ?_
          by_cases hc20 : nC D < 20
          · refine go_icmp_ge 458 440 dL_law_437 (fun z => absurd ((nI_leI (a := 20) (b := nC D) (by decide) (by omega)).mp z) (by omega)) (fun _ => ?_)
            refine go_aload 442 dL_law_440 rfl ?_
            refine gl_x h 445 dL_law_442 fL_177 rfl ?_
            refine gl_nL h 446 dL_law_445 ?_
            refine go_iload 448 dL_law_446 rfl ?_
            refine go_iadd 449 dL_law_448 ?_
            rw [nI_add]
            refine go_bipush 451 dL_law_449 zb_40 ?_
            by_cases hc40 : nL D + bN (nI v) 0 10 ≤ 40
            · refine go_icmp_gt 458 454 dL_law_451 (fun z => absurd ((nI_ltI (a := 40) (b := nL D + bN (nI v) 0 10) (by decide) (by omega)).mp z) (by omega)) (fun _ => ?_)
              have hb : ∀ j, j < 10 → bitOf (nI v) j = 1 → j < nP D := bits_lt (nP D) (by omega) v hv
              have hrv : rvB D v p 0 cs = ringV (nI (bN (nI v) 0 10)) (nI p) (if (-1 : Int32) = -1 then 0 else 1) (D 0) cs := by
                rw [if_pos rfl]
                rfl
              have hvo : RvOK (rvB D v p 0 cs) := ringV_ok
              have jb := jx_beg hG hJ (q := p) (x := nI v) (rv := rvB D v p 0 cs) (ref := -1) hc20 hp9 (Or.inl rfl) hvo hb hc40
              have gb := begD_GI hG (q := p) (x := nI v) (rv := rvB D v p 0 cs) (ref := -1) hc20 hp9 (Or.inl rfl) hvo hb hc40
              refine go_iconst 455 dL_law_454 zc_1 ?_
              refine go_goto 459 dL_law_455 ?_
              refine go_istore 461 dL_law_459 (by decide) ?_
              refine go_iload 463 dL_law_461 rfl ?_
              refine go_if_eq 478 466 dL_law_463 (fun z => absurd z (by decide)) (fun _ => ?_)
              refine go_aload 468 dL_law_466 rfl ?_
              refine go_iload 470 dL_law_468 rfl ?_
              refine go_iload 472 dL_law_470 rfl ?_
              refine go_null 473 dL_law_472 ?_
              refine go_wf fun hw => ?_
              have hct : Ct l Γ mX6_begins 4 40 210 [.ref e, .int (nI p), .int (nI v), .null] w (PvB Γ w T (sgN sg D (bN (nI v) 0 10)) tm e (.int (begN D (nI p) (nI v) (rvB D v p 0 cs) (-1))) (begD D (nI p) (nI v) (rvB D v p 0 cs) (-1))) zNo := cl_begins h hw hG hJ tr (q := p) (x := nI v) (ref := -1) hc20 hp9 hb hb1 hc40 (Or.inl rfl) hvo hrv
              refine go_callV 476 [.int (nI p), .int (nI v), .null] dL_law_473 vL_253 h.x.1 rfl hct (by decide) (by decide) (by omega) (by omega) (by exact Nat.le_of_ble_eq_true rfl) ?_
              rintro _ w1 ⟨rfl, T1, A1, V1, f1, h1⟩
              have kq := f1.kq hw
              have cl1 := cl.go kq (by decide) f1.1
              have rn1 := rn.go kq (by decide)
              have rg1 := rg.go kq (by decide) f1.1
              have tr1 := tr.go kq (by decide)
              have hH1 := hH.go kq (by decide) (by decide)
              have hF1 := hF.go kq (by decide)
              refine go_istore 478 dL_law_476 (by decide) ?_
              refine go_aload_n 479 dL_law_478 rfl ?_
              refine go_iload 481 dL_law_479 rfl ?_
              refine go_iload 483 dL_law_481 rfl ?_
              refine go_callSW 486 [.ref x, .int (nI p), .int (nI v)] dL_law_483 vL_257 rfl (co_dial cl1 rg1 hC hG hH.1 hp9 (by omega) h2 he ⟨hc20, hc40⟩ hb) (by decide) (by decide) (by omega) (by omega) (by exact Nat.le_of_ble_eq_true rfl) ?_
              intro v2 w2 q2
              obtain ⟨rfl, af⟩ := aft_1 (nn := nn) rn1 tr1 h1 hH1 hF1 gb jb.1 (hW.lo (jb.2 1 (by decide)) (jb.2 2 (by decide))) hz (by rw [nP_lo (jb.2 4 (by decide))]; exact hP) (by rw [tm_lo (jb.2 0 (by decide))]; omega) q2
              refine go_iload 488 dL_law_486 rfl ?_
              refine go_icmp_ne 495 491 dL_law_488 (fun z => absurd rfl z) (fun _ => ?_)
              refine go_iconst 492 dL_law_491 zc_1 ?_
              refine go_goto 496 dL_law_492 ?_
              refine go_istore_n 497 dL_law_496 (by decide) ?_
              refine go_goto 1092 dL_law_497 ?_
              exact go_locals _ rfl (KK w2 T1 1 _ _ af (by omega) (by omega))
            · refine go_icmp_gt 458 454 dL_law_451 (fun _ => ?_) (fun z => absurd ((nI_ltI (a := 40) (b := nL D + bN (nI v) 0 10) (by decide) (by omega)).mpr (by omega)) z)
              refine go_iconst 459 dL_law_458 zc_0 ?_
              refine go_istore 461 dL_law_459 (by decide) ?_
              refine go_iload 463 dL_law_461 rfl ?_
              refine go_if_eq 478 466 dL_law_463 (fun _ => ?_) (fun z => absurd rfl z)
              refine go_aload_n 479 dL_law_478 rfl ?_
              refine go_iload 481 dL_law_479 rfl ?_
              refine go_iload 483 dL_law_481 rfl ?_
              refine gw_X 486 [.ref x, .int (nI p), .int (nI v)] dL_law_483 vL_257 rfl (ct_L_dial_3 (cl.th (ct_X5_dial_3 hC hG (hC.iP hp9) rfl rfl (by omega) h2 (Or.inr (fun z => hc40 z.2)))) (by decide) cl.x5) (by decide) (by exact Nat.le_of_ble_eq_true rfl) (by omega) (by omega) (by omega) (fun w2 e2 l2 => ?_)
              have af : Aft Γ w2 T x a e bf y C D i u dn nn 0 := aft_0 hB hH hP ht e2 l2
              refine go_iload 488 dL_law_486 rfl ?_
              refine go_icmp_ne 495 491 dL_law_488 (fun z => absurd rfl z) (fun _ => ?_)
              refine go_iconst 492 dL_law_491 zc_1 ?_
              refine go_goto 496 dL_law_492 ?_
              refine go_istore_n 497 dL_law_496 (by decide) ?_
              refine go_goto 1092 dL_law_497 ?_
              exact go_locals _ rfl (KK w2 T 0 _ _ af (by omega) (by omega))
          · refine go_icmp_ge 458 440 dL_law_437 (fun _ => ?_) (fun z => absurd ((nI_leI (a := 20) (b := nC D) (by decide) (by omega)).mpr (by omega)) z)
            refine go_iconst 459 dL_law_458 zc_0 ?_
            refine go_istore 461 dL_law_459 (by decide) ?_
            refine go_iload 463 dL_law_461 rfl ?_
            refine go_if_eq 478 466 dL_law_463 (fun _ => ?_) (fun z => absurd rfl z)
            refine go_aload_n 479 dL_law_478 rfl ?_
            refine go_iload 481 dL_law_479 rfl ?_
            refine go_iload 483 dL_law_481 rfl ?_
            refine gw_X 486 [.ref x, .int (nI p), .int (nI v)] dL_law_483 vL_257 rfl (ct_L_dial_3 (cl.th (ct_X5_dial_3 hC hG (hC.iP hp9) rfl rfl (by omega) h2 (Or.inr (fun z => hc20 z.1)))) (by decide) cl.x5) (by decide) (by exact Nat.le_of_ble_eq_true rfl) (by omega) (by omega) (by omega) (fun w2 e2 l2 => ?_)
            have af : Aft Γ w2 T x a e bf y C D i u dn nn 0 := aft_0 hB hH hP ht e2 l2
            refine go_iload 488 dL_law_486 rfl ?_
            refine go_icmp_ne 495 491 dL_law_488 (fun z => absurd rfl z) (fun _ => ?_)
            refine go_iconst 492 dL_law_491 zc_1 ?_
            refine go_goto 496 dL_law_492 ?_
            refine go_istore_n 497 dL_law_496 (by decide) ?_
            refine go_goto 1092 dL_law_497 ?_
            exact go_locals _ rfl (KK w2 T 0 _ _ af (by omega) (by omega))
  · refine go_iconst 380 dL_law_379 zc_0 ?_
    refine go_istore 382 dL_law_380 (by decide) ?_
    refine go_iload 384 dL_law_382 rfl ?_
    refine go_if_eq 478 387 dL_law_384 (fun _ => ?_) (fun z => absurd rfl z)
    refine go_aload_n 479 dL_law_478 rfl ?_
    refine go_iload 481 dL_law_479 rfl ?_
    refine go_iload 483 dL_law_481 rfl ?_
    refine gw_X 486 [.ref x, .int (nI p), .int (nI v)] dL_law_483 vL_257 rfl (ct_L_dial_1 (cl.th (ct_X5_dial_1 hC (hC.oP hp9 (by omega)))) (by decide) cl.x5) (by decide) (by exact Nat.le_of_ble_eq_true rfl) (by omega) (by omega) (by omega) (fun w2 e2 l2 => ?_)
    have af : Aft Γ w2 T x a e bf y C D i u dn nn 0 := aft_0 hB hH hP ht e2 l2
    refine go_iload 488 dL_law_486 rfl ?_
    refine go_icmp_ne 495 491 dL_law_488 (fun z => absurd rfl z) (fun _ => ?_)
    refine go_iconst 492 dL_law_491 zc_1 ?_
    refine go_goto 496 dL_law_492 ?_
    refine go_istore_n 497 dL_law_496 (by decide) ?_
    refine go_goto 1092 dL_law_497 ?_
    exact go_locals _ rfl (KK w2 T 0 _ _ af (by omega) (by omega))
set_option maxRecDepth 100000 in
set_option maxHeartbeats 4000000 in
theorem lp_bits {l : Launch} {Γ : ZG} {Φ : Option Value → ZW → Prop} {w : ZW} {x a e bf y : Nat} {D : ZD} {dn nn p ii k n : Nat} {ip : Int32} {v : Nat} {F : Int32} (hk : k ≤ 1036902) (hn : n ≤ 5990994) (kk : Go l Γ mLaw 1312 1036902 5990994 Φ zNo k n w 379 [(0, .ref Γ.2.2.2.2.1), (1, .int 1), (2, .int (nI ii)), (3, .ref x), (5, .ref a), (6, .ref e), (7, .ref bf), (8, .int (nI dn)), (9, .int (nI nn)), (10, .ref y), (12, .int (-2000000097)), (13, .int (nI (nP D))), (14, .int (nI p)), (15, .int ip), (16, .int (nI v)), (17, .int F)] []) : ∀ (f j : Nat) (c : Int32), j + f = 10 → bcnt (nI v) j f c = F → Go l Γ mLaw 1312 1036902 5990994 Φ zNo k n w 354 [(0, .ref Γ.2.2.2.2.1), (1, .int 1), (2, .int (nI ii)), (3, .ref x), (5, .ref a), (6, .ref e), (7, .ref bf), (8, .int (nI dn)), (9, .int (nI nn)), (10, .ref y), (12, .int (-2000000097)), (13, .int (nI (nP D))), (14, .int (nI p)), (15, .int ip), (16, .int (nI v)), (17, .int c), (18, .int (nI j))] [] := by
  intro f
  induction f with
  | zero =>
    intro j c hj hF9
    obtain rfl : j = 10 := by omega
    obtain rfl : c = F := hF9
    refine go_iload 356 dL_law_354 rfl ?_
    refine go_bipush 358 dL_law_356 zb_10 ?_
    refine go_icmp_ge 379 361 dL_law_358 (fun _ => ?_) (fun z => absurd (show (10 : Int32) ≤ nI 10 by decide) z)
    exact go_locals _ rfl kk
  | succ f ih =>
    intro j c hj hF9
    refine go_iload 356 dL_law_354 rfl ?_
    refine go_bipush 358 dL_law_356 zb_10 ?_
    refine go_icmp_ge 379 361 dL_law_358 (fun z => absurd ((nI_leI (a := 10) (by decide) (by omega)).mp z) (by omega)) (fun _ => ?_)
    refine go_iload 363 dL_law_361 rfl ?_
    refine go_iload 365 dL_law_363 rfl ?_
    refine go_iload 367 dL_law_365 rfl ?_
    refine go_ishr 368 dL_law_367 ?_
    refine go_iconst 369 dL_law_368 zc_1 ?_
    refine go_iand 370 dL_law_369 ?_
    refine go_iadd 371 dL_law_370 ?_
    refine go_istore 373 dL_law_371 (by decide) ?_
    refine go_iinc 376 dL_law_373 rfl (by decide) (show Int32.ofInt 1 = nI 1 from rfl) ?_
    refine go_goto 354 dL_law_376 ?_
    rw [nI_add]
    exact go_locals _ rfl (ih (j + 1) (c + bitOf (nI v) j) (by omega) hF9)
set_option maxRecDepth 100000 in
set_option maxHeartbeats 4000000 in
theorem br_dial8 {l : Launch} {Γ : ZG} {Φ : Option Value → ZW → Prop} {w : ZW} {T : LT} {x a e bf y : Nat} {C : CS} {D : ZD} {i u dn nn p ii k n kM nM : Nat} {ip : Int32} {v : Nat} (hv : v < 2 ^ nP D) (hB : Bo Γ w T x a e C D) (hH : Hb Γ w T bf C i u dn) (hF : Fy Γ w T (C.1 0) D y) (hP : nP D ≤ 8) (ht : tmN D ≤ 30 * nn) (hnn : nn ≤ 45) (hp : p ≤ 8) (hip : (ip = 1 ∧ p < nP D) ∨ (ip = 0 ∧ nP D ≤ p)) (hk : k + 2560 ≤ kM) (hn : n + 49000 ≤ nM) (hkM : kM ≤ 1036902) (hnM : nM ≤ 5990994) (KK : ∀ (w : ZW) (T : LT) (c : Int32) (k n : Nat), Aft Γ w T x a e bf y C D i u dn nn c → k ≤ kM → n ≤ nM → Go l Γ mLaw 1312 1036902 5990994 Φ zNo k n w 1092 [(0, .ref Γ.2.2.2.2.1), (1, .int 1), (2, .int (nI ii)), (3, .ref x), (5, .ref a), (6, .ref e), (7, .ref bf), (8, .int (nI dn)), (9, .int (nI nn)), (10, .ref y), (11, .int c)] []) : Go l Γ mLaw 1312 1036902 5990994 Φ zNo k n w 348 [(0, .ref Γ.2.2.2.2.1), (1, .int 1), (2, .int (nI ii)), (3, .ref x), (5, .ref a), (6, .ref e), (7, .ref bf), (8, .int (nI dn)), (9, .int (nI nn)), (10, .ref y), (12, .int (-2000000097)), (13, .int (nI (nP D))), (14, .int (nI p)), (15, .int ip), (16, .int (nI v))] [] := by
  refine go_iconst 349 dL_law_348 zc_0 ?_
  refine go_istore 351 dL_law_349 (by decide) ?_
  refine go_iconst 352 dL_law_351 zc_0 ?_
  refine go_istore 354 dL_law_352 (by decide) ?_
  have h9 := br_dial9 (l := l) (Φ := Φ) (k := k) (n := n) hv hB hH hF hP ht hnn hp hip hk hn hkM hnM KK
  exact go_locals _ rfl (lp_bits (F := nI (bN (nI v) 0 10)) (D := D) (by omega) (by omega) h9 10 0 0 rfl ((bcnt_eq 10 0 0).trans (by rw [Nat.zero_add])))
set_option maxRecDepth 100000 in
set_option maxHeartbeats 4000000 in
theorem br_dial {l : Launch} {Γ : ZG} {Φ : Option Value → ZW → Prop} {w : ZW} {T : LT} {x a e bf y : Nat} {C : CS} {D : ZD} {i u dn nn p ii k n kM nM : Nat} {ip : Int32} (hB : Bo Γ w T x a e C D) (hH : Hb Γ w T bf C i u dn) (hF : Fy Γ w T (C.1 0) D y) (hP : nP D ≤ 8) (ht : tmN D ≤ 30 * nn) (hnn : nn ≤ 45) (hp : p ≤ 8) (hip : (ip = 1 ∧ p < nP D) ∨ (ip = 0 ∧ nP D ≤ p)) (hk : k + 2560 ≤ kM) (hn : n + 49000 ≤ nM) (hkM : kM ≤ 1036902) (hnM : nM ≤ 5990994) (KK : ∀ (w : ZW) (T : LT) (c : Int32) (k n : Nat), Aft Γ w T x a e bf y C D i u dn nn c → k ≤ kM → n ≤ nM → Go l Γ mLaw 1312 1036902 5990994 Φ zNo k n w 1092 [(0, .ref Γ.2.2.2.2.1), (1, .int 1), (2, .int (nI ii)), (3, .ref x), (5, .ref a), (6, .ref e), (7, .ref bf), (8, .int (nI dn)), (9, .int (nI nn)), (10, .ref y), (11, .int c)] []) : Go l Γ mLaw 1312 1036902 5990994 Φ zNo k n w 312 [(0, .ref Γ.2.2.2.2.1), (1, .int 1), (2, .int (nI ii)), (3, .ref x), (5, .ref a), (6, .ref e), (7, .ref bf), (8, .int (nI dn)), (9, .int (nI nn)), (10, .ref y), (12, .int (-2000000097)), (13, .int (nI (nP D))), (14, .int (nI p)), (15, .int ip)] [] := by
  have sp := sh_pow (nP D) (by omega)
  have hp8 := pow_8 (nP D) (by omega)
  refine go_aload 314 dL_law_312 rfl ?_
  refine go_iconst 315 dL_law_314 zc_1 ?_
  refine go_iload 317 dL_law_315 rfl ?_
  refine go_ishl 318 dL_law_317 ?_
  rw [sp.1]
  refine gb_below (B := 2 ^ nP D) hB 321 dL_law_318 _ rfl hp8.1 (by omega) (by omega) (by omega) (by exact Nat.le_of_ble_eq_true rfl) (fun w1 v hv hB1 kq1 el1 => ?_)
  have hH1 := hH.go kq1 (by decide) (by decide)
  have hF1 := hF.go kq1 (by decide)
  refine go_istore 323 dL_law_321 (by decide) ?_
  refine go_aload 325 dL_law_323 rfl ?_
  refine go_iconst 326 dL_law_325 zc_2 ?_
  refine gb_below (B := 2) hB1 329 dL_law_326 _ rfl (by decide) (by decide) (by omega) (by omega) (by exact Nat.le_of_ble_eq_true rfl) (fun w2 j2 hj2 hB2 kq2 el2 => ?_)
  have hH2 := hH1.go kq2 (by decide) (by decide)
  have hF2 := hF1.go kq2 (by decide)
  have K348 : ∀ z, z < 2 ^ nP D → Go l Γ mLaw 1312 1036902 5990994 Φ zNo k n w2 348 [(0, .ref Γ.2.2.2.2.1), (1, .int 1), (2, .int (nI ii)), (3, .ref x), (5, .ref a), (6, .ref e), (7, .ref bf), (8, .int (nI dn)), (9, .int (nI nn)), (10, .ref y), (12, .int (-2000000097)), (13, .int (nI (nP D))), (14, .int (nI p)), (15, .int ip), (16, .int (nI z))] [] := fun z hz9 => br_dial8 hz9 hB2 hH2 hF2 hP ht hnn hp hip (by omega) (by omega) hkM hnM KK
  refine go_if_ne 348 332 dL_law_329 (fun _ => ?_) (fun _ => ?_)
  · exact go_locals _ rfl (K348 v hv)
  · refine go_iload 334 dL_law_332 rfl ?_
    rcases id hip with ⟨e1, hp9⟩ | ⟨e1, hp9⟩
    · refine go_if_eq 348 337 dL_law_334 (fun z => absurd z (by rw [e1]; decide)) (fun _ => ?_)
      refine go_iload 339 dL_law_337 rfl ?_
      refine go_iconst 340 dL_law_339 zc_1 ?_
      refine go_iload 342 dL_law_340 rfl ?_
      refine go_ishl 343 dL_law_342 ?_
      refine go_iconst 344 dL_law_343 zc_m1 ?_
      refine go_ixor 345 dL_law_344 ?_
      refine go_iand 346 dL_law_345 ?_
      rw [clb_eq p (by omega) v (by omega)]
      refine go_istore 348 dL_law_346 (by decide) ?_
      exact go_locals _ rfl (K348 (clb v p) (Nat.lt_of_le_of_lt clb_le hv))
    · refine go_if_eq 348 337 dL_law_334 (fun _ => ?_) (fun z => absurd e1 z)
      exact go_locals _ rfl (K348 v hv)
end LBrH
