section LCopyR

def RBn (Γ : ZG) (w0 w : ZW) (T : LT) (sg : ZSg) (AA V : LA) (D : ZD) (tm : Option Nat) (x pa ca la ta : Nat) (g7 : Nat → Int32) (i : Nat) (fc fl : Nat → Option Nat) : Prop := Nc w0 w T x (.inr (6, [.int (D 0), .int (D 1), .int (D 2), .int (D 3), .ref pa, .ref ca, .ref la, .ref ta, va_rf tm])) 14 ∧ Nc w0 w T ca (q5 Γ 8 (nC D) fc) 24 ∧ Nc w0 w T la (q5 Γ 7 (nL D) fl) 29 ∧ CLf Γ w0 w T AA V D (nL D) fl ∧ Nc w0 w T ta (i5 Γ 7 g7) 0 ∧ CPp Γ w0 w T AA D (nP D) pa ∧ ∀ c, c < nC D → fc c = some (AA 1 c) ∧ (c < i → CFl Γ w0 w T sg AA D c) ∧ (i < c → CBk Γ w0 w T sg AA D c)
theorem RBn.go {Γ : ZG} {w0 w w1 : ZW} {T T1 : LT} {sg : ZSg} {AA V : LA} {D : ZD} {tm : Option Nat} {x pa ca la ta : Nat} {g7 : Nat → Int32} {i : Nat} {fc fl : Nat → Option Nat} {t : Nat} (h : RBn Γ w0 w T sg AA V D tm x pa ca la ta g7 i fc fl) (k : Kq w T w1 T1 (fun z => z ≠ t)) (ht : t = 11 + 5 * i ∨ t = 13 + 5 * i) : RBn Γ w0 w1 T1 sg AA V D tm x pa ca la ta g7 i fc fl := by
  obtain ⟨h1, h2, h3, h4, h5, h6, h7⟩ := h
  refine ⟨h1.go k (by omega), h2.go k (by omega), h3.go k (by omega), h4.go k (fun c hc => ⟨by omega, by omega⟩), h5.go k (by omega), h6.go k ⟨by omega, by omega⟩ (fun _ _ => rfl), fun c hc => ?_⟩
  obtain ⟨g1, g2, g3⟩ := h7 c hc
  exact ⟨g1, fun z => (g2 z).go k ⟨by omega, by omega⟩, fun z => (g3 z).go k ⟨by omega, by omega⟩ ⟨rfl, rfl⟩⟩

set_option maxRecDepth 100000 in
set_option maxHeartbeats 4000000 in
theorem lpI_copy {l : Launch} {Γ : ZG} {w0 : ZW} {T0 : LT} {sg : ZSg} {A V : LA} {tm : Option Nat} {e : Nat} {D : ZD} (h0 : LX Γ w0 T0 1 sg A V tm e D) (hw : WF w0) (hI : Ix D) (hs : SegD sg D) {x pa ca la ta i : Nat} {g7 : Nat → Int32} {AA : LA} {fc fl : Nat → Option Nat} {T : LT} {k n : Nat} (hi : i < nC D) (hk9 : k ≤ 140) (hn9 : n ≤ 1500) {Φ : Option Value → ZW → Prop} (kk : ∀ (w : ZW) (g : Nat → Option Nat), BW w0 T0 w T → RBn Γ w0 w T sg AA V D tm x pa ca la ta g7 i fc fl → Nc w0 w T (AA 1 i) (.inr (10, [.int (dC D i 0), .int (dC D i 1), .int (dC D i 2), .null, .null, .ref (AA 4 i)])) (11 + 5 * i) → Nc w0 w T (AA 4 i) (q5 Γ 7 ((sg i).2 - (sg i).1) g) (13 + 5 * i) → (∀ j, j < ((sg i).2 - (sg i).1) → g j = some (AA 0 ((sg i).1 + j))) → Go l Γ mX6_copy 2 140 1500 Φ zNo k n w 451 [(0, .ref e), (1, .ref x), (2, .int (nI i))] []) : ∀ (f9 j : Nat) (w : ZW) (g : Nat → Option Nat), j + f9 = ((sg i).2 - (sg i).1) → BW w0 T0 w T → RBn Γ w0 w T sg AA V D tm x pa ca la ta g7 i fc fl → Nc w0 w T (AA 1 i) (.inr (10, [.int (dC D i 0), .int (dC D i 1), .int (dC D i 2), .null, .null, .ref (AA 4 i)])) (11 + 5 * i) → Nc w0 w T (AA 4 i) (q5 Γ 7 ((sg i).2 - (sg i).1) g) (13 + 5 * i) → (∀ j9, j9 < j → g j9 = some (AA 0 ((sg i).1 + j9))) → Go l Γ mX6_copy 2 140 1500 Φ zNo k n w 400 [(0, .ref e), (1, .ref x), (2, .int (nI i)), (3, .int (nI j))] [] := by
  have h20 := hI.2.1.2
  have h40 := hI.2.2.1.2
  obtain ⟨s1, s2, s3⟩ := hs i hi
  have h40s : (sg i).2 ≤ 40 := by omega
  intro f9
  induction f9 with
  | zero =>
    intro j w g hj9 b0 R0 t0 rw0 hg
    refine go_iload_n 401 dX6_copy_400 rfl ?_
    refine go_aload_n 402 dX6_copy_401 rfl ?_
    refine gl_x (b0.lx hw h0) 405 dX6_copy_402 fX6_27 rfl ?_
    refine go_iload_n 406 dX6_copy_405 rfl ?_
    refine gl_ca (b0.lx hw h0) hI rfl hi 407 dX6_copy_406 ?_
    refine gl_t (b0.lx hw h0) hi 410 dX6_copy_407 fX6_62 rfl ?_
    refine gl_nS (b0.lx hw h0) hi 411 dX6_copy_410 ?_
    refine go_icmp_ge 451 414 dX6_copy_411 (fun h411 => ?_) (fun h411 => ?_)
    · exact go_locals _ rfl (kk w g b0 R0 t0 rw0 (fun j9 h9 => hg j9 (by omega)))
    · exact (lpE (a := nI ((sg i).2 - (sg i).1)) (N := (sg i).2 - (sg i).1) rfl (by omega) h411).elim
  | succ f9 ih =>
    intro j w g hj9 b0 R0 t0 rw0 hg
    have hj : j < (sg i).2 - (sg i).1 := by omega
    have hk : (sg i).1 + j < nL D := by omega
    refine go_iload_n 401 dX6_copy_400 rfl ?_
    refine go_aload_n 402 dX6_copy_401 rfl ?_
    refine gl_x (b0.lx hw h0) 405 dX6_copy_402 fX6_27 rfl ?_
    refine go_iload_n 406 dX6_copy_405 rfl ?_
    refine gl_ca (b0.lx hw h0) hI rfl hi 407 dX6_copy_406 ?_
    refine gl_t (b0.lx hw h0) hi 410 dX6_copy_407 fX6_62 rfl ?_
    refine gl_nS (b0.lx hw h0) hi 411 dX6_copy_410 ?_
    refine go_icmp_ge 451 414 dX6_copy_411 (fun h411 => ?_) (fun h411 => ?_)
    · exact (lpG (a := nI ((sg i).2 - (sg i).1)) (N := (sg i).2 - (sg i).1) rfl (by omega) (by omega) h411).elim
    · refine go_aload_n 415 dX6_copy_414 rfl ?_
      refine go_get 418 dX6_copy_415 fX6_27 R0.1.1 rfl ?_
      refine go_iload_n 419 dX6_copy_418 rfl ?_
      refine go_aald8 420 dX6_copy_419 R0.2.1.1 (vp_in_nI hi (by omega)) ?_
      rw [nI_clamp (by omega), (R0.2.2.2.2.2.2 i hi).1, show va_rf (some (AA 1 i)) = .ref (AA 1 i) from rfl]
      refine go_get 423 dX6_copy_420 fX6_62 t0.1 rfl ?_
      refine go_iload_n 424 dX6_copy_423 rfl ?_
      refine go_aload_n 425 dX6_copy_424 rfl ?_
      refine go_get 428 dX6_copy_425 fX6_33 R0.1.1 rfl ?_
      refine go_aload_n 429 dX6_copy_428 rfl ?_
      refine go_aload_n 430 dX6_copy_429 rfl ?_
      refine gl_x (b0.lx hw h0) 433 dX6_copy_430 fX6_27 rfl ?_
      refine go_iload_n 434 dX6_copy_433 rfl ?_
      refine gl_ca (b0.lx hw h0) hI rfl hi 435 dX6_copy_434 ?_
      refine gl_t (b0.lx hw h0) hi 438 dX6_copy_435 fX6_62 rfl ?_
      refine go_iload_n 439 dX6_copy_438 rfl ?_
      refine gl_tl (b0.lx hw h0) hi rfl hj h40s 440 dX6_copy_439 ?_
      refine gcV1 443 dX6_copy_440 vX6_93 (b0.lx hw h0).x.1 rfl (cl_index (b0.lx hw h0) hI (K := (sg i).1 + j) hk) ?_
      refine go_aald7 444 dX6_copy_443 R0.2.2.1.1 (vp_in_nI hk (by omega)) ?_
      rw [nI_clamp (by have := hk; omega), (R0.2.2.2.1 _ hk).1, show va_rf (some (AA 0 ((sg i).1 + j))) = .ref (AA 0 ((sg i).1 + j)) from rfl]
      refine gn_ast7 (i := j) rw0 b0 (R0.2.2.2.1 _ hk).2.1.1 rfl hj (by omega) 445 dX6_copy_444 (fun w_444 b_444 rw_444 q_444 => ?_)
      have R_444 := R0.go q_444 (by omega)
      have t_444 := t0.go q_444 (by first | trivial | decide | omega)
      refine go_iinc 448 dX6_copy_445 rfl (by decide) zc_1 ?_
      refine go_goto 400 dX6_copy_448 ?_
      rw [nI_1]
      refine go_locals _ rfl (ih (j + 1) w_444 _ (by omega) b_444 R_444 t_444 rw_444 (fun j9 h9 => ?_))
      unfold va_up
      by_cases hjj : j9 = j
      · rw [if_pos hjj, hjj]
      · rw [if_neg hjj]; exact hg j9 (by omega)

set_option maxRecDepth 100000 in
set_option maxHeartbeats 4000000 in
theorem lpR_copy {l : Launch} {Γ : ZG} {w0 : ZW} {T0 : LT} {sg : ZSg} {A V : LA} {tm : Option Nat} {e : Nat} {D : ZD} (h0 : LX Γ w0 T0 1 sg A V tm e D) (hw : WF w0) (hI : Ix D) (hV : Iv D) (hJ : JX D) (hs : SegD sg D) {x pa ca la ta : Nat} {g7 : Nat → Int32} {AA : LA} {T : LT} {Φ : Option Value → ZW → Prop} (kk : ∀ (w : ZW) (k n : Nat), BW w0 T0 w T → Nc w0 w T x (.inr (6, [.int (D 0), .int (D 1), .int (D 2), .int (D 3), .ref pa, .ref ca, .ref la, .ref ta, va_rf tm])) 14 → Nc w0 w T ta (i5 Γ 7 g7) 0 → CPp Γ w0 w T AA D (nP D) pa → CPc Γ w0 w T sg AA D (nC D) (nC D) ca → CPl Γ w0 w T AA V D (nL D) la → k ≤ 140 → n ≤ 1500 → Go l Γ mX6_copy 2 140 1500 Φ zNo k n w 543 [(0, .ref e), (1, .ref x)] []) : ∀ (f9 i : Nat) (w : ZW) (k n : Nat), i + f9 = nC D → BW w0 T0 w T → Nc w0 w T x (.inr (6, [.int (D 0), .int (D 1), .int (D 2), .int (D 3), .ref pa, .ref ca, .ref la, .ref ta, va_rf tm])) 14 → Nc w0 w T ta (i5 Γ 7 g7) 0 → CPp Γ w0 w T AA D (nP D) pa → CPc Γ w0 w T sg AA D (nC D) i ca → CPl Γ w0 w T AA V D (nL D) la → k ≤ 140 → n ≤ 1500 → Go l Γ mX6_copy 2 140 1500 Φ zNo k n w 389 [(0, .ref e), (1, .ref x), (2, .int (nI i))] [] := by
  have h20 := hI.2.1.2
  have h40 := hI.2.2.1.2
  intro f9
  induction f9 with
  | zero =>
    intro i w k n hi9 b0 x0 ta0 P0 C0 L0 hk9 hn9
    have hi9 : i = nC D := hi9
    subst hi9
    refine go_iload_n 390 dX6_copy_389 rfl ?_
    refine go_aload_n 391 dX6_copy_390 rfl ?_
    refine gl_x (b0.lx hw h0) 394 dX6_copy_391 fX6_27 rfl ?_
    refine gl_nC (b0.lx hw h0) 395 dX6_copy_394 ?_
    refine go_icmp_ge 543 398 dX6_copy_395 (fun h395 => ?_) (fun h395 => ?_)
    · exact go_locals _ rfl (kk w k n b0 x0 ta0 P0 C0 L0 hk9 hn9)
    · exact (lpE (a := nI (nC D)) (N := nC D) rfl (by omega) h395).elim
  | succ f9 ih =>
    intro i w k n hi9 b0 x0 ta0 P0 C0 L0 hk9 hn9
    have hi : i < nC D := by omega
    obtain ⟨fc, c1, c2⟩ := C0
    have c2 : CCf Γ w0 w T sg AA D (nC D) i fc := c2
    obtain ⟨fl, l1, l2⟩ := L0
    have l2 : CLf Γ w0 w T AA V D (nL D) fl := l2
    obtain ⟨bk1, bk2⟩ := (c2 i hi).2.2 (Nat.le_refl _)
    have R0 : RBn Γ w0 w T sg AA V D tm x pa ca la ta g7 i fc fl := ⟨x0, c1, l1, l2, ta0, P0, fun c hc => ⟨(c2 c hc).1, (c2 c hc).2.1, fun z => (c2 c hc).2.2 (by omega)⟩⟩
    have KB : ∀ (w : ZW) (g : Nat → Option Nat), BW w0 T0 w T → RBn Γ w0 w T sg AA V D tm x pa ca la ta g7 i fc fl → Nc w0 w T (AA 1 i) (.inr (10, [.int (dC D i 0), .int (dC D i 1), .int (dC D i 2), .null, .null, .ref (AA 4 i)])) (11 + 5 * i) → Nc w0 w T (AA 4 i) (q5 Γ 7 ((sg i).2 - (sg i).1) g) (13 + 5 * i) → (∀ j, j < ((sg i).2 - (sg i).1) → g j = some (AA 0 ((sg i).1 + j))) → Go l Γ mX6_copy 2 140 1500 Φ zNo k n w 451 [(0, .ref e), (1, .ref x), (2, .int (nI i))] [] := by
      intro w g b0 R0 t0 rw0 hg
      have K537 : ∀ (w : ZW), BW w0 T0 w T → RBn Γ w0 w T sg AA V D tm x pa ca la ta g7 i fc fl → Nc w0 w T (AA 1 i) (.inr (10, [.int (dC D i 0), .int (dC D i 1), .int (dC D i 2), va_rf (lgO AA (dC D i 3)), va_rf (lgO AA (dC D i 4)), .ref (AA 4 i)])) (11 + 5 * i) → Nc w0 w T (AA 4 i) (q5 Γ 7 ((sg i).2 - (sg i).1) g) (13 + 5 * i) → Go l Γ mX6_copy 2 140 1500 Φ zNo k n w 537 [(0, .ref e), (1, .ref x), (2, .int (nI i))] [] := by
        intro w b0 R0 t0 rw0
        refine go_iinc 540 dX6_copy_537 rfl (by decide) zc_1 ?_
        refine go_goto 389 dX6_copy_540 ?_
        rw [nI_1]
        obtain ⟨r1, r2, r3, r4, r5, r6, r7⟩ := R0
        refine go_locals _ rfl (ih (i + 1) w k n (by omega) b0 r1 r5 r6 ⟨fc, r2, fun c hc => ⟨(r7 c hc).1, fun z => ?_, fun z => (r7 c hc).2.2 (by omega)⟩⟩ ⟨fl, r3, r4⟩ hk9 hn9)
        by_cases hci : c = i
        · rw [hci]
          exact ⟨t0, g, rw0, hg⟩
        · exact (r7 c hc).2.1 (by omega)
      have K534 : ∀ (w : ZW), BW w0 T0 w T → RBn Γ w0 w T sg AA V D tm x pa ca la ta g7 i fc fl → Nc w0 w T (AA 1 i) (.inr (10, [.int (dC D i 0), .int (dC D i 1), .int (dC D i 2), va_rf (lgO AA (dC D i 3)), .null, .ref (AA 4 i)])) (11 + 5 * i) → Nc w0 w T (AA 4 i) (q5 Γ 7 ((sg i).2 - (sg i).1) g) (13 + 5 * i) → Go l Γ mX6_copy 2 140 1500 Φ zNo k n w 534 [(0, .ref e), (1, .ref x), (2, .int (nI i))] [va_rf (lgO AA (dC D i 4)), .ref (AA 1 i)] := by
        intro w b0 R0 t0 rw0
        refine gn_put t0 b0 537 dX6_copy_534 pX6_101 (by exact Nat.le_of_ble_eq_true rfl) (by cases lgO AA (dC D i 4) <;> rfl) (by cases lgO AA (dC D i 4) <;> rfl) (fun w_534 b_534 t_534 q_534 => ?_)
        have R_534 := R0.go q_534 (Or.inl rfl)
        have rw_534 := rw0.go q_534 (by omega)
        exact K537 w_534 b_534 R_534 t_534 rw_534
      have K494 : ∀ (w : ZW), BW w0 T0 w T → RBn Γ w0 w T sg AA V D tm x pa ca la ta g7 i fc fl → Nc w0 w T (AA 1 i) (.inr (10, [.int (dC D i 0), .int (dC D i 1), .int (dC D i 2), va_rf (lgO AA (dC D i 3)), .null, .ref (AA 4 i)])) (11 + 5 * i) → Nc w0 w T (AA 4 i) (q5 Γ 7 ((sg i).2 - (sg i).1) g) (13 + 5 * i) → Go l Γ mX6_copy 2 140 1500 Φ zNo k n w 494 [(0, .ref e), (1, .ref x), (2, .int (nI i))] [] := by
        intro w b0 R0 t0 rw0
        refine go_aload_n 495 dX6_copy_494 rfl ?_
        refine go_get 498 dX6_copy_495 fX6_27 R0.1.1 rfl ?_
        refine go_iload_n 499 dX6_copy_498 rfl ?_
        refine go_aald8 500 dX6_copy_499 R0.2.1.1 (vp_in_nI hi (by omega)) ?_
        rw [nI_clamp (by omega), (R0.2.2.2.2.2.2 i hi).1, show va_rf (some (AA 1 i)) = .ref (AA 1 i) from rfl]
        refine go_aload_n 501 dX6_copy_500 rfl ?_
        refine gl_x (b0.lx hw h0) 504 dX6_copy_501 fX6_27 rfl ?_
        refine go_iload_n 505 dX6_copy_504 rfl ?_
        refine gl_ca (b0.lx hw h0) hI rfl hi 506 dX6_copy_505 ?_
        refine gl_t (b0.lx hw h0) hi 509 dX6_copy_506 fX6_101 rfl ?_
        refine go_ifnonnullQ 516 512 dX6_copy_509 (fun x509 n509 => ?_) (fun n509 => ?_)
        · have o509 := lgO_s n509
          refine go_aload_n 517 dX6_copy_516 rfl ?_
          refine go_get 520 dX6_copy_517 fX6_33 R0.1.1 rfl ?_
          refine go_aload_n 521 dX6_copy_520 rfl ?_
          refine go_aload_n 522 dX6_copy_521 rfl ?_
          refine gl_x (b0.lx hw h0) 525 dX6_copy_522 fX6_27 rfl ?_
          refine go_iload_n 526 dX6_copy_525 rfl ?_
          refine gl_ca (b0.lx hw h0) hI rfl hi 527 dX6_copy_526 ?_
          refine gl_t (b0.lx hw h0) hi 530 dX6_copy_527 fX6_101 (tFs4 o509) ?_
          refine gcV1 533 dX6_copy_530 vX6_93 (b0.lx hw h0).x.1 rfl (cl_index (b0.lx hw h0) hI (K := tN (dC D i 4)) (((hJ.1 i hi).resolve_left o509).2)) ?_
          refine go_aald7 534 dX6_copy_533 R0.2.2.1.1 (vp_in_nI (((hJ.1 i hi).resolve_left o509).2) (by omega)) ?_
          rw [nI_clamp (by have := (((hJ.1 i hi).resolve_left o509).2); omega), (R0.2.2.2.1 _ (((hJ.1 i hi).resolve_left o509).2)).1, show va_rf (some (AA 0 (tN (dC D i 4)))) = .ref (AA 0 (tN (dC D i 4))) from rfl]
          have hz : va_rf (lgO AA (dC D i 4)) = .ref (AA 0 (tN (dC D i 4))) := by rw [lgO_e o509]; rfl
          have K9 := K534 w b0 R0 t0 rw0
          rw [hz] at K9
          exact go_locals _ rfl K9
        · have o509 := lgO_n n509
          refine go_null 513 dX6_copy_512 ?_
          refine go_goto 534 dX6_copy_513 ?_
          have hz : va_rf (lgO AA (dC D i 4)) = .null := by rw [o509]; rfl
          have K9 := K534 w b0 R0 t0 rw0
          rw [hz] at K9
          exact go_locals _ rfl K9
      have K491 : ∀ (w : ZW), BW w0 T0 w T → RBn Γ w0 w T sg AA V D tm x pa ca la ta g7 i fc fl → Nc w0 w T (AA 1 i) (.inr (10, [.int (dC D i 0), .int (dC D i 1), .int (dC D i 2), .null, .null, .ref (AA 4 i)])) (11 + 5 * i) → Nc w0 w T (AA 4 i) (q5 Γ 7 ((sg i).2 - (sg i).1) g) (13 + 5 * i) → Go l Γ mX6_copy 2 140 1500 Φ zNo k n w 491 [(0, .ref e), (1, .ref x), (2, .int (nI i))] [va_rf (lgO AA (dC D i 3)), .ref (AA 1 i)] := by
        intro w b0 R0 t0 rw0
        refine gn_put t0 b0 494 dX6_copy_491 pX6_97 (by exact Nat.le_of_ble_eq_true rfl) (by cases lgO AA (dC D i 3) <;> rfl) (by cases lgO AA (dC D i 3) <;> rfl) (fun w_491 b_491 t_491 q_491 => ?_)
        have R_491 := R0.go q_491 (Or.inl rfl)
        have rw_491 := rw0.go q_491 (by omega)
        exact K494 w_491 b_491 R_491 t_491 rw_491
      refine go_aload_n 452 dX6_copy_451 rfl ?_
      refine go_get 455 dX6_copy_452 fX6_27 R0.1.1 rfl ?_
      refine go_iload_n 456 dX6_copy_455 rfl ?_
      refine go_aald8 457 dX6_copy_456 R0.2.1.1 (vp_in_nI hi (by omega)) ?_
      rw [nI_clamp (by omega), (R0.2.2.2.2.2.2 i hi).1, show va_rf (some (AA 1 i)) = .ref (AA 1 i) from rfl]
      refine go_aload_n 458 dX6_copy_457 rfl ?_
      refine gl_x (b0.lx hw h0) 461 dX6_copy_458 fX6_27 rfl ?_
      refine go_iload_n 462 dX6_copy_461 rfl ?_
      refine gl_ca (b0.lx hw h0) hI rfl hi 463 dX6_copy_462 ?_
      refine gl_t (b0.lx hw h0) hi 466 dX6_copy_463 fX6_97 rfl ?_
      refine go_ifnonnullQ 473 469 dX6_copy_466 (fun x466 n466 => ?_) (fun n466 => ?_)
      · have o466 := lgO_s n466
        refine go_aload_n 474 dX6_copy_473 rfl ?_
        refine go_get 477 dX6_copy_474 fX6_33 R0.1.1 rfl ?_
        refine go_aload_n 478 dX6_copy_477 rfl ?_
        refine go_aload_n 479 dX6_copy_478 rfl ?_
        refine gl_x (b0.lx hw h0) 482 dX6_copy_479 fX6_27 rfl ?_
        refine go_iload_n 483 dX6_copy_482 rfl ?_
        refine gl_ca (b0.lx hw h0) hI rfl hi 484 dX6_copy_483 ?_
        refine gl_t (b0.lx hw h0) hi 487 dX6_copy_484 fX6_97 (tFs3 o466) ?_
        refine gcV1 490 dX6_copy_487 vX6_93 (b0.lx hw h0).x.1 rfl (cl_index (b0.lx hw h0) hI (K := tN (dC D i 3)) (rfK hV hi o466)) ?_
        refine go_aald7 491 dX6_copy_490 R0.2.2.1.1 (vp_in_nI (rfK hV hi o466) (by omega)) ?_
        rw [nI_clamp (by have := (rfK hV hi o466); omega), (R0.2.2.2.1 _ (rfK hV hi o466)).1, show va_rf (some (AA 0 (tN (dC D i 3)))) = .ref (AA 0 (tN (dC D i 3))) from rfl]
        have hz : va_rf (lgO AA (dC D i 3)) = .ref (AA 0 (tN (dC D i 3))) := by rw [lgO_e o466]; rfl
        have K9 := K491 w b0 R0 t0 rw0
        rw [hz] at K9
        exact go_locals _ rfl K9
      · have o466 := lgO_n n466
        refine go_null 470 dX6_copy_469 ?_
        refine go_goto 491 dX6_copy_470 ?_
        have hz : va_rf (lgO AA (dC D i 3)) = .null := by rw [o466]; rfl
        have K9 := K491 w b0 R0 t0 rw0
        rw [hz] at K9
        exact go_locals _ rfl K9
    refine go_iload_n 390 dX6_copy_389 rfl ?_
    refine go_aload_n 391 dX6_copy_390 rfl ?_
    refine gl_x (b0.lx hw h0) 394 dX6_copy_391 fX6_27 rfl ?_
    refine gl_nC (b0.lx hw h0) 395 dX6_copy_394 ?_
    refine go_icmp_ge 543 398 dX6_copy_395 (fun h395 => ?_) (fun h395 => ?_)
    · exact (lpG (a := nI (nC D)) (N := nC D) rfl (by omega) (by omega) h395).elim
    · refine go_iconst 399 dX6_copy_398 zc_0 ?_
      refine go_istore_n 400 dX6_copy_399 (by decide) ?_
      exact go_locals _ rfl (lpI_copy h0 hw hI hs hi hk9 hn9 KB _ 0 w _ (Nat.zero_add _) b0 R0 bk1 bk2 (fun _ z => absurd z (Nat.not_lt_zero _)))

/-- behind a copy: it is new, and never changes -/
def PvXc (Γ : ZG) (w0 : ZW) (T0 : LT) (sg : ZSg) (V : LA) (tm : Option Nat) (D : ZD) : Option Value → ZW → Prop := fun v w => ∃ x T A' V', v = some (.ref x) ∧ BW w0 T0 w T ∧ w0.1 ≤ x ∧ LX Γ w T 0 sg A' V' tm x D

set_option maxRecDepth 100000 in
set_option maxHeartbeats 4000000 in
theorem cl_copy {l : Launch} {Γ : ZG} {w0 : ZW} {T0 : LT} {sg : ZSg} {A V : LA} {tm : Option Nat} {e : Nat} {D : ZD} (h0 : LX Γ w0 T0 1 sg A V tm e D) (hw : WF w0) (hV : Iv D) (hJ : JX D) (hs : SegD sg D) : Ct l Γ mX6_copy 2 140 1500 [.ref e] w0 (PvXc Γ w0 T0 sg V tm D) zNo := by
  have hI := hV.1
  have h10 := hI.1.2
  have h20 := hI.2.1.2
  have h40 := hI.2.2.1.2
  have K543 : ∀ (x pa ca la ta : Nat) (g7 : Nat → Int32) (AA : LA) (T : LT), (∀ j, j < 7 → g7 j = D (9 + j)) → ∀ (w : ZW) (k n : Nat), BW w0 T0 w T → Nc w0 w T x (.inr (6, [.int (D 0), .int (D 1), .int (D 2), .int (D 3), .ref pa, .ref ca, .ref la, .ref ta, va_rf tm])) 14 → Nc w0 w T ta (i5 Γ 7 g7) 0 → CPp Γ w0 w T AA D (nP D) pa → CPc Γ w0 w T sg AA D (nC D) (nC D) ca → CPl Γ w0 w T AA V D (nL D) la → k ≤ 140 → n ≤ 1500 → Go l Γ mX6_copy 2 140 1500 (PvXc Γ w0 T0 sg V tm D) zNo k n w 543 [(0, .ref e), (1, .ref x)] [] := by
    intro x pa ca la ta g7 AA T hg w k n b0 x0 ta0 P0 C0 L0 hk hn
    obtain ⟨z1, z2⟩ := cp_lx h0 hw hI b0 x0 P0 ta0 hg C0 L0
    refine go_aload_n 544 dX6_copy_543 rfl ?_
    exact go_aref dX6_copy_544 rfl hk hn ⟨x, TZ w0 T, _, _, rfl, z1, x0.2.2, z2⟩
  have K387 : ∀ (x pa ca la ta : Nat) (g7 : Nat → Int32), (∀ j, j < 7 → g7 j = D (9 + j)) → ∀ (w : ZW) (T : LT) (k n : Nat) (AA : LA), BW w0 T0 w T → Nc w0 w T x (.inr (6, [.int (D 0), .int (D 1), .int (D 2), .int (D 3), .ref pa, .ref ca, .ref la, .ref ta, va_rf tm])) 14 → Nc w0 w T ta (i5 Γ 7 g7) 0 → CPp Γ w0 w T AA D (nP D) pa → CPc Γ w0 w T sg AA D (nC D) 0 ca → CPl Γ w0 w T AA V D (nL D) la → k ≤ 140 → n ≤ 1450 → Go l Γ mX6_copy 2 140 1500 (PvXc Γ w0 T0 sg V tm D) zNo k n w 387 [(0, .ref e), (1, .ref x)] [] := by
    intro x pa ca la ta g7 hg w T k n AA b0 x0 ta0 P0 C0 L0 hk hn
    refine go_iconst 388 dX6_copy_387 zc_0 ?_
    refine go_istore_n 389 dX6_copy_388 (by decide) ?_
    exact go_locals _ rfl (lpR_copy h0 hw hI hV hJ hs (K543 x pa ca la ta g7 AA T hg) (nC D) 0 w k n (Nat.zero_add _) b0 x0 ta0 P0 C0 L0 (by omega) (by omega))
  have K221 : ∀ (x pa ca la ta : Nat) (g7 : Nat → Int32), (∀ j, j < 7 → g7 j = D (9 + j)) → ∀ (w : ZW) (T : LT) (k n : Nat) (AA : LA), BW w0 T0 w T → Nc w0 w T x (.inr (6, [.int (D 0), .int (D 1), .int (D 2), .int (D 3), .ref pa, .ref ca, .ref la, .ref ta, va_rf tm])) 14 → Nc w0 w T ta (i5 Γ 7 g7) 0 → CPp Γ w0 w T AA D (nP D) pa → Nc w0 w T la (q5 Γ 7 (nL D) (fun _ => none)) 29 → CPc Γ w0 w T sg AA D (nC D) 0 ca → k ≤ 60 → n ≤ 1050 → Go l Γ mX6_copy 2 140 1500 (PvXc Γ w0 T0 sg V tm D) zNo k n w 221 [(0, .ref e), (1, .ref x)] [] := by
    intro x pa ca la ta g7 hg w T k n AA b0 x0 ta0 P0 la0 C0 hk hn
    refine go_iconst 222 dX6_copy_221 zc_0 ?_
    refine go_istore_n 223 dX6_copy_222 (by decide) ?_
    exact go_locals _ rfl (lpL_copy h0 hw hI (K387 x pa ca la ta g7 hg) (nL D) 0 w T k n AA (Nat.zero_add _) b0 x0 ta0 P0 C0 ⟨_, la0, fun _ z => absurd z (Nat.not_lt_zero _)⟩ (by omega) (by omega))
  have K109 : ∀ (x pa r r2 ta : Nat) (g7 : Nat → Int32), (∀ j, j < 7 → g7 j = D (9 + j)) → ∀ (w : ZW) (T : LT) (k n : Nat) (AA : LA), BW w0 T0 w T → Nc w0 w T x (.inr (6, [.int (D 0), .int (D 1), .int (D 2), .int (D 3), .ref pa, .ref r, .ref r2, .ref ta, va_rf tm])) 14 → Nc w0 w T ta (i5 Γ 7 g7) 0 → CPp Γ w0 w T AA D (nP D) pa → k ≤ 18 → n ≤ 70 → Go l Γ mX6_copy 2 140 1500 (PvXc Γ w0 T0 sg V tm D) zNo k n w 109 [(0, .ref e), (1, .ref x)] [] := by
    intro x pa r r2 ta g7 hg w T k n AA b0 x0 ta0 P0 hk hn
    refine go_aload_n 110 dX6_copy_109 rfl ?_
    refine go_aload_n 111 dX6_copy_110 rfl ?_
    refine gl_x (b0.lx hw h0) 114 dX6_copy_111 fX6_27 rfl ?_
    refine gl_nC (b0.lx hw h0) 115 dX6_copy_114 ?_
    refine gn_anew8 24 b0 118 dX6_copy_115 al_X6_25 rfl (by omega) (by omega) (by omega) (fun w_115 T_115 ca b_115 ca_115 q_115 => ?_)
    have x_115 := x0.go q_115 (by first | trivial | decide | omega)
    have P_115 := P0.go q_115 (by first | exact ⟨trivial, trivial⟩ | exact ⟨by omega, by omega⟩) (fun _ _ => rfl)
    have ta_115 := ta0.go q_115 (by first | trivial | decide | omega)
    refine gn_put x_115 b_115 121 dX6_copy_118 pX6_27 (by exact Nat.le_of_ble_eq_true rfl) rfl rfl (fun w_118 b_118 x_118 q_118 => ?_)
    have P_118 := P_115.go q_118 (by first | exact ⟨trivial, trivial⟩ | exact ⟨by omega, by omega⟩) (fun _ _ => rfl)
    have ta_118 := ta_115.go q_118 (by first | trivial | decide | omega)
    have ca_118 := ca_115.go q_118 (by first | trivial | decide | omega)
    refine go_aload_n 122 dX6_copy_121 rfl ?_
    refine go_aload_n 123 dX6_copy_122 rfl ?_
    refine gl_x (b_118.lx hw h0) 126 dX6_copy_123 fX6_33 rfl ?_
    refine gl_nL (b_118.lx hw h0) 127 dX6_copy_126 ?_
    refine gn_anew7 29 b_118 130 dX6_copy_127 al_X6_31 rfl (by omega) (by omega) (by omega) (fun w_127 T_127 la b_127 la_127 q_127 => ?_)
    have x_127 := x_118.go q_127 (by first | trivial | decide | omega)
    have P_127 := P_118.go q_127 (by first | exact ⟨trivial, trivial⟩ | exact ⟨by omega, by omega⟩) (fun _ _ => rfl)
    have ta_127 := ta_118.go q_127 (by first | trivial | decide | omega)
    have ca_127 := ca_118.go q_127 (by first | trivial | decide | omega)
    refine gn_put x_127 b_127 133 dX6_copy_130 pX6_33 (by exact Nat.le_of_ble_eq_true rfl) rfl rfl (fun w_130 b_130 x_130 q_130 => ?_)
    have P_130 := P_127.go q_130 (by first | exact ⟨trivial, trivial⟩ | exact ⟨by omega, by omega⟩) (fun _ _ => rfl)
    have ta_130 := ta_127.go q_130 (by first | trivial | decide | omega)
    have ca_130 := ca_127.go q_130 (by first | trivial | decide | omega)
    have la_130 := la_127.go q_130 (by first | trivial | decide | omega)
    refine go_iconst 134 dX6_copy_133 zc_0 ?_
    refine go_istore_n 135 dX6_copy_134 (by decide) ?_
    exact go_locals _ rfl (lpC_copy h0 hw hI hs (K221 x pa ca la ta g7 hg) (nC D) 0 w_130 T_127 _ _ AA (Nat.zero_add _) b_130 x_130 ta_130 P_130 la_130 ⟨_, ca_130, fun _ z => absurd z (Nat.not_lt_zero _)⟩ (by omega) (by omega))
  refine Ct.of (by decide) rfl (Nat.le_of_ble_eq_true rfl) ?_
  refine gn_new 14 (BW.rf (T := T0)) 3 dX6_copy_0 nX6_8 (by omega) (by omega) (fun w_0 T_0 x b_0 x_0 q_0 => ?_)
  refine go_dup 4 dX6_copy_3 rfl ?_
  refine gn_iniX x_0 b_0 7 dX6_copy_4 (Or.inl vX6_40) (by decide) (by omega) (by omega) (by exact Nat.le_of_ble_eq_true rfl) (fun w_4 T_4 r b_4 x_4 _ _ _ _ q_4 => ?_)
  refine go_astore_n 8 dX6_copy_7 (by decide) ?_
  refine go_aload_n 9 dX6_copy_8 rfl ?_
  refine go_aload_n 10 dX6_copy_9 rfl ?_
  refine gl_x (b_4.lx hw h0) 13 dX6_copy_10 fX6_41 rfl ?_
  refine gn_put x_4 b_4 16 dX6_copy_13 pX6_41 (by exact Nat.le_of_ble_eq_true rfl) rfl rfl (fun w_13 b_13 x_13 q_13 => ?_)
  refine go_aload_n 17 dX6_copy_16 rfl ?_
  refine go_aload_n 18 dX6_copy_17 rfl ?_
  refine gl_x (b_13.lx hw h0) 21 dX6_copy_18 fX6_7 rfl ?_
  refine gn_put x_13 b_13 24 dX6_copy_21 pX6_7 (by exact Nat.le_of_ble_eq_true rfl) rfl rfl (fun w_21 b_21 x_21 q_21 => ?_)
  refine go_aload_n 25 dX6_copy_24 rfl ?_
  refine go_aload_n 26 dX6_copy_25 rfl ?_
  refine gl_x (b_21.lx hw h0) 29 dX6_copy_26 fX6_13 rfl ?_
  refine gn_put x_21 b_21 32 dX6_copy_29 pX6_13 (by exact Nat.le_of_ble_eq_true rfl) rfl rfl (fun w_29 b_29 x_29 q_29 => ?_)
  refine go_aload_n 33 dX6_copy_32 rfl ?_
  refine go_aload_n 34 dX6_copy_33 rfl ?_
  refine gl_x (b_29.lx hw h0) 37 dX6_copy_34 fX6_16 rfl ?_
  refine gn_put x_29 b_29 40 dX6_copy_37 pX6_16 (by exact Nat.le_of_ble_eq_true rfl) rfl rfl (fun w_37 b_37 x_37 q_37 => ?_)
  refine go_aload_n 41 dX6_copy_40 rfl ?_
  refine go_aload_n 42 dX6_copy_41 rfl ?_
  refine gl_x (b_37.lx hw h0) 45 dX6_copy_42 fX6_44 rfl ?_
  refine gn_put x_37 b_37 48 dX6_copy_45 pX6_44 (by exact Nat.le_of_ble_eq_true rfl) (by cases tm <;> rfl) (by cases tm <;> rfl) (fun w_45 b_45 x_45 q_45 => ?_)
  refine go_aload_n 49 dX6_copy_48 rfl ?_
  refine go_aload_n 50 dX6_copy_49 rfl ?_
  refine gl_x (b_45.lx hw h0) 53 dX6_copy_50 fX6_37 rfl ?_
  obtain ⟨g9, g91, g92, g93⟩ := (b_45.lx hw h0).t
  refine gn_clone 0 b_45 g91 56 59 dX6_copy_53 dX6_copy_56 rfl (by decide) (by omega) (by omega) (by exact Nat.le_of_ble_eq_true rfl) (fun w_53 T_53 ta b_53 ta_53 q_53 => ?_)
  have x_53 := x_45.go q_53 (by first | trivial | decide | omega)
  refine gn_put x_53 b_53 62 dX6_copy_59 pX6_37 (by exact Nat.le_of_ble_eq_true rfl) rfl rfl (fun w_59 b_59 x_59 q_59 => ?_)
  have ta_59 := ta_53.go q_59 (by first | trivial | decide | omega)
  refine go_aload_n 63 dX6_copy_62 rfl ?_
  refine go_aload_n 64 dX6_copy_63 rfl ?_
  refine gl_x (b_59.lx hw h0) 67 dX6_copy_64 fX6_21 rfl ?_
  refine gl_nP (b_59.lx hw h0) 68 dX6_copy_67 ?_
  refine gn_anewA 19 b_59 71 dX6_copy_68 al_X6_19 rfl (by omega) (by omega) (by omega) (fun w_68 T_68 pa b_68 pa_68 q_68 => ?_)
  have x_68 := x_59.go q_68 (by first | trivial | decide | omega)
  have ta_68 := ta_59.go q_68 (by first | trivial | decide | omega)
  refine gn_put x_68 b_68 74 dX6_copy_71 pX6_21 (by exact Nat.le_of_ble_eq_true rfl) rfl rfl (fun w_71 b_71 x_71 q_71 => ?_)
  have ta_71 := ta_68.go q_71 (by first | trivial | decide | omega)
  have pa_71 := pa_68.go q_71 (by first | trivial | decide | omega)
  refine go_iconst 75 dX6_copy_74 zc_0 ?_
  refine go_istore_n 76 dX6_copy_75 (by decide) ?_
  exact go_locals _ rfl (lpP_copy h0 hw hI (K109 x pa _ _ ta g9 g93) (nP D) 0 w_71 T_68 _ _ (fun _ _ => 0) (Nat.zero_add _) b_71 x_71 ta_71 ⟨_, pa_71, fun _ z => absurd z (Nat.not_lt_zero _)⟩ (by omega) (by omega))

end LCopyR
