section LCopyR

def RBn (Γ : ZG) (w0 w : ZW) (T : LT) (sg : ZSg) (AA V : LA) (D : ZD) (tm : Option Nat) (x pa ca la ta : Nat) (g7 : Nat → Int32) (i : Nat) (fc fl : Nat → Option Nat) : Prop := Nc w0 w T x (.inr (6, [.int (D 0), .int (D 1), .int (D 2), .int (D 3), .ref pa, .ref ca, .ref la, .ref ta, va_rf tm])) 14 ∧ Nc w0 w T ca (q5 Γ 8 (nC D) fc) 24 ∧ Nc w0 w T la (q5 Γ 7 (nL D) fl) 29 ∧ CLf Γ w0 w T AA V D (nL D) fl ∧ Nc w0 w T ta (i5 Γ 7 g7) 0 ∧ CPp Γ w0 w T AA D (nP D) pa ∧ ∀ c, c < nC D → fc c = some (AA 1 c) ∧ (c < i → CFl Γ w0 w T sg AA D c) ∧ (i < c → CBk Γ w0 w T sg AA D c)
theorem RBn.go {Γ : ZG} {w0 w w1 : ZW} {T T1 : LT} {sg : ZSg} {AA V : LA} {D : ZD} {tm : Option Nat} {x pa ca la ta : Nat} {g7 : Nat → Int32} {i : Nat} {fc fl : Nat → Option Nat} {t : Nat} (h : RBn Γ w0 w T sg AA V D tm x pa ca la ta g7 i fc fl) (k : Kq w T w1 T1 (fun z => z ≠ t)) (ht : t = 11 + 5 * i ∨ t = 13 + 5 * i) : RBn Γ w0 w1 T1 sg AA V D tm x pa ca la ta g7 i fc fl := by
  obtain ⟨h1, h2, h3, h4, h5, h6, h7⟩ := h
  refine ⟨h1.go k (by omega), h2.go k (by omega), h3.go k (by omega), h4.go k (fun c hc => ⟨by omega, by omega⟩), h5.go k (by omega), h6.go k ⟨by omega, by omega⟩ (fun _ _ => rfl), fun c hc => ?_⟩
  obtain ⟨g1, g2, g3⟩ := h7 c hc
  exact ⟨g1, fun z => (g2 z).go k ⟨by omega, by omega⟩, fun z => (g3 z).go k ⟨by omega, by omega⟩ ⟨rfl, rfl⟩⟩

set_option maxRecDepth 100000 in
set_option maxHeartbeats 4000000 in
theorem lpI_copy {l : Launch} {Γ : ZG} {w0 : ZW} {T0 : LT} {sg : ZSg} {A V : LA} {tm : Option Nat} {e : Nat} {D : ZD} (h0 : LX Γ w0 T0 1 sg A V tm e D) (hw : WF w0) (hI : Ix D) (hs : SegD sg D) {x pa ca la ta i : Nat} {g7 : Nat → Int32} {AA : LA} {fc fl : Nat → Option Nat} {T : LT} {k n : Nat} (hi : i < nC D) (hk9 : k ≤ 140) (hn9 : n ≤ 1500) {Φ : Option Value → ZW → Prop} (kk : ∀ (w : ZW) (g : Nat → Option Nat), BW w0 T0 w T → RBn Γ w0 w T sg AA V D tm x pa ca la ta g7 i fc fl → Nc w0 w T (AA 1 i) (.inr (10, [.int (dC D i 0), .int (dC D i 1), .int (dC D i 2), .null, .null, .ref (AA 4 i)])) (11 + 5 * i) → Nc w0 w T (AA 4 i) (q5 Γ 7 ((sg i).2 - (sg i).1) g) (13 + 5 * i) → (∀ j, j < ((sg i).2 - (sg i).1) → g j = some (AA 0 ((sg i).1 + j))) → Go l Γ mX6_copy 2 140 1500 Φ zNo k n w 451 [(0, .ref e), (1, .ref x), (2, .int (nI i))] []) : ∀ (f9 j : Nat) (w : ZW) (g : Nat → Option Nat), j + f9 = ((sg i).2 - (sg i).1) → BW w0 T0 w T → RBn Γ w0 w T sg AA V D tm x pa ca la ta g7 i fc fl → Nc w0 w T (AA 1 i) (.inr (10, [.int (dC D i 0), .int (dC D i 1), .int (dC D i 2), .null, .null, .ref (AA 4 i)])) (11 + 5 * i) → Nc w0 w T (AA 4 i) (q5 Γ 7 ((sg i).2 - (sg i).1) g) (13 + 5 * i) → (∀ j9, j9 < j → g j9 = some (AA 0 ((sg i).1 + j9))) → Go l Γ mX6_copy 2 140 1500 Φ zNo k n w 400 [(0, .ref e), (1, .ref x), (2, .int (nI i)), (3, .int (nI j))] [] := by
  have h20 := hI.2.1.2
  have h40 := hI.2.2.1.2
  obtain ⟨s1, s2, s3⟩ := hs i hi
  have h40s : (sg i).2 ≤ 40 := by omega
  intro f9
  induction f9 with
  | zero =>
    intro j w g hj9 b0 R0 t0 rw0 hg
    refine go_iload_n 401 dX6_copy_400 rfl ?_
    refine go_aload_n 402 dX6_copy_401 rfl ?_
    refine gl_x (b0.lx hw h0) 405 dX6_copy_402 fX6_27 rfl ?_
    refine go_iload_n 406 dX6_copy_405 rfl ?_
    refine gl_ca (b0.lx hw h0) hI rfl hi 407 dX6_copy_406 ?_
    refine gl_t (b0.lx hw h0) hi 410 dX6_copy_407 fX6_62 rfl ?_
    refine gl_nS (b0.lx hw h0) hi 411 dX6_copy_410 ?_
    refine go_icmp_ge 451 414 dX6_copy_411 (fun h411 => ?_) (fun h411 => ?_)
    · exact go_locals _ rfl (kk w g b0 R0 t0 rw0 (fun j9 h9 => hg j9 (by omega)))
    · exact (lpE (a := nI ((sg i).2 - (sg i).1)) (N := (sg i).2 - (sg i).1) rfl (by omega) h411).elim
  | succ f9 ih =>
    intro j w g hj9 b0 R0 t0 rw0 hg
    have hj : j < (sg i).2 - (sg i).1 := by omega
    have hk : (sg i).1 + j < nL D := by omega
    refine go_iload_n 401 dX6_copy_400 rfl ?_
    refine go_aload_n 402 dX6_copy_401 rfl ?_
    refine gl_x (b0.lx hw h0) 405 dX6_copy_402 fX6_27 rfl ?_
    refine go_iload_n 406 dX6_copy_405 rfl ?_
    refine gl_ca (b0.lx hw h0) hI rfl hi 407 dX6_copy_406 ?_
    refine gl_t (b0.lx hw h0) hi 410 dX6_copy_407 fX6_62 rfl ?_
    refine gl_nS (b0.lx hw h0) hi 411 dX6_copy_410 ?_
    refine go_icmp_ge 451 414 dX6_copy_411 (fun h411 => ?_) (fun h411 => ?_)
    · exact (lpG (a := nI ((sg i).2 - (sg i).1)) (N := (sg i).2 - (sg i).1) rfl (by omega) (by omega) h411).elim
    · refine go_aload_n 415 dX6_copy_414 rfl ?_
      refine go_get 418 dX6_copy_415 fX6_27 R0.1.1 rfl ?_
      refine go_iload_n 419 dX6_copy_418 rfl ?_
      refine go_aald8 420 dX6_copy_419 R0.2.1.1 (vp_in_nI hi (by omega)) ?_
      rw [nI_clamp (by omega), (R0.2.2.2.2.2.2 i hi).1, show va_rf (some (AA 1 i)) = .ref (AA 1 i) from rfl]
      refine go_get 423 dX6_copy_420 fX6_62 t0.1 rfl ?_
      refine go_iload_n 424 dX6_copy_423 rfl ?_
      refine go_aload_n 425 dX6_copy_424 rfl ?_
      refine go_get 428 dX6_copy_425 fX6_33 R0.1.1 rfl ?_
      refine go_aload_n 429 dX6_copy_428 rfl ?_
      refine go_aload_n 430 dX6_copy_429 rfl ?_
      refine gl_x (b0.lx hw h0) 433 dX6_copy_430 fX6_27 rfl ?_
      refine go_iload_n 434 dX6_copy_433 rfl ?_
      refine gl_ca (b0.lx hw h0) hI rfl hi 435 dX6_copy_434 ?_
      refine gl_t (b0.lx hw h0) hi 438 dX6_copy_435 fX6_62 rfl ?_
      refine go_iload_n 439 dX6_copy_438 rfl ?_
      refine gl_tl (b0.lx hw h0) hi rfl hj h40s 440 dX6_copy_439 ?_
      refine gcV1 443 dX6_copy_440 vX6_93 (b0.lx hw h0).x.1 rfl (cl_index (b0.lx hw h0) hI (K := (sg i).1 + j) hk) ?_
      refine go_aald7 444 dX6_copy_443 R0.2.2.1.1 (vp_in_nI hk (by omega)) ?_
      rw [nI_clamp (by have := hk; omega), (R0.2.2.2.1 _ hk).1, show va_rf (some (AA 0 ((sg i).1 + j))) = .ref (AA 0 ((sg i).1 + j)) from rfl]
      refine gn_ast7 (i := j) rw0 b0 (R0.2.2.2.1 _ hk).2.1.1 rfl hj (by omega) 445 dX6_copy_444 (fun w_444 b_444 rw_444 q_444 => ?_)
      have R_444 := R0.go q_444 (by omega)
      have t_444 := t0.go q_444 (by first | trivial | decide | omega)
      refine go_iinc 448 dX6_copy_445 rfl (by decide) zc_1 ?_
      refine go_goto 400 dX6_copy_448 ?_
      rw [nI_1]
      refine go_locals _ rfl (ih (j + 1) w_444 _ (by omega) b_444 R_444 t_444 rw_444 (fun j9 h9 => ?_))
      unfold va_up
      by_cases hjj : j9 = j
      · rw [if_pos hjj, hjj]
      · rw [if_neg hjj]; exact hg j9 (by omega)

end LCopyR
