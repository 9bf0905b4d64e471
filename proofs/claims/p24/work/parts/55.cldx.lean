section CLdx
/-! load -/
theorem wC_res {Γ : ZG} {w : ZW} {x : Nat} {C : CS} (j : Nat) (hj : j < 9) : (wC Γ w x C).2 (x + 93 + 2 + j) = some (ecell Γ (x + 93 + 2) C.2.1.2.2.1 j) := by
  have h := wC_rat (Γ := Γ) (w := w) (x := x) (C := C) (2 + j) (by omega)
  rw [show x + 93 + 2 + j = x + 93 + (2 + j) by omega, h]
  unfold rcl
  rw [if_neg (by omega), if_neg (by omega), if_pos (by omega), show 2 + j - 2 = j by omega]
theorem NewR_C {Γ : ZG} {w w' : ZW} {x : Nat} {C : CS} {g : Option Nat} {cs : List Int32} (hx : x + 105 ≤ w.1) (h : NewR Γ (wC Γ w x C) w' g cs) : ∃ w0, w' = wC Γ w0 x C ∧ NewR Γ w w0 g cs := by
  rcases h with ⟨h1, h2, h3⟩ | ⟨h1, h2, h3, h4, f, h5, h6⟩
  · exact ⟨w, h2, Or.inl ⟨h1, rfl, h3⟩⟩
  · exact ⟨rgN Γ w cs.length f, h5.trans (rgN_C hx), Or.inr ⟨h1, h2, h3, h4, f, rfl, h6⟩⟩
/-- an exchange newly read -/
theorem qi_nC {s : QS} (h : QInv s) : nC s.2.1 = 0 ∧ nL s.2.1 = 0 ∧ tmN s.2.1 = 0 := by
  unfold nC nL tmN
  rw [h.2.1 5 (Or.inr (Or.inl rfl)), h.2.1 6 (Or.inr (Or.inr (Or.inl rfl))), h.2.1 0 (Or.inl rfl)]
  exact ⟨rfl, rfl, rfl⟩
theorem qi_Iv {s : QS} (h : QInv s) : Iv s.2.1 := by
  obtain ⟨n1, n2, -⟩ := qi_nC h
  refine ⟨⟨h.1, ⟨?_, by omega⟩, ⟨?_, by omega⟩, fun k hk => by omega⟩, fun c hc => by omega, fun k hk => by omega, fun c hc => by omega⟩
  · rw [n1]; exact h.2.1 5 (Or.inr (Or.inl rfl))
  · rw [n2]; exact h.2.1 6 (Or.inr (Or.inr (Or.inl rfl)))
theorem qi_CR {s : QS} (h : QInv s) {E : ES} (hE : RelE E s.2.1) (sg : ZSg) : CR s.2.1 E.2.2.2 sg E s.2.1 :=
  ⟨hE, qi_Iv h, sm_rf, rfl, fun c hc => by have := (qi_nC h).1; omega⟩
theorem XCr {l : Launch} {Γ : ZG} {w : ZW} {x n0 n1 n2 : Nat} {C : CS} (hR : RB C.2.1.2.2.1 n0 n1 n2) : Cm l Γ mX0_copyFrom 2 [.ref (x + 1), .ref (x + 93 + 2)] (wC Γ w x C) none (wC Γ w x (cE C 0 (cpE (C.1 0) C.2.1.2.2.1 n0 n1 n2))) := by
  have c := cx_X0_copyFrom (l := l) (Γ := Γ) (w := wC Γ w x C) (e := x + 1) (f := x + 93 + 2) (E := C.1 0) (F := C.2.1.2.2.1) wC_res (by omega) hR
  rw [xc_s0, xc_E0] at c
  exact c
/-- the class's object read anew -/
def C2l (C : CS) (R' : RS) : CS := cO (cR C R') (R'.1 14)
def C3l (C : CS) (R' : RS) (i u a b c : Nat) : CS := puC (C2l C R') i u a b c
def LdC (Γ : ZG) (w : ZW) (x : Nat) (C : CS) (i u a b c : Nat) (pr : PR QS) : Option Value → ZW → Prop := fun v w2 => match pr with
  | .inl e => v = some (.int e.1) ∧ e.1 ≠ 0 ∧ ∃ R', w2 = wC Γ w x (C2l C R') ∧ R'.2.1 = C.2.1.2.1 ∧ R'.1 1 = 0 ∧ R'.1 14 = nI e.2
  | .inr s => v = some (.int (s.2.1 4)) ∧ ∃ R' w0 g, w2 = wC Γ w0 x (cE (C3l C R' i u a b c) 0 (cpE ((C3l C R' i u a b c).1 0) R'.2.2.1 (nP s.2.1) 0 0)) ∧ R'.2.1 = C.2.1.2.1 ∧ R'.1 1 = 0 ∧ R'.1 14 = -1 ∧ RelE R'.2.2.1 s.2.1 ∧ R'.2.2.1.2.2.2 = g ∧ NewR Γ w w0 g s.2.2.2 ∧ QInv s
set_option maxRecDepth 100000 in
set_option maxHeartbeats 4000000 in
theorem ct_X5_load_1 {l : Launch} {Γ : ZG} {w : ZW} {x : Nat} {C : CS} {y0 : Int32} (h1 : ¬ (0 ≤ y0 ∧ y0 ≤ C.2.1.1 1)) : Ct l Γ mX5_load 7 1 6 [.ref x, .int y0] (wC Γ w x C) zNv (ThP "java/lang/IllegalArgumentException" (wC Γ w x C)) := by
  refine Ct.of (by decide) rfl (Nat.le_of_ble_eq_true rfl) ?_
  refine go_iload_n 1 dX5_load_0 rfl ?_
  refine go_iconst 2 dX5_load_1 zc_0 ?_
  refine go_aload_n 3 dX5_load_2 rfl ?_
  refine go_get 6 dX5_load_3 fX5_29 wC_at0 rfl ?_
  refine go_get 9 dX5_load_6 fX5_45 xc_rd rfl ?_
  exact gt_S3 12 dX5_load_9 vX5_48 (ct_X5_requireRange_n (by exact h1)) (fun w' a b => ⟨rfl, a, b⟩)
set_option maxRecDepth 100000 in
set_option maxHeartbeats 4000000 in
theorem ct_X5_load {l : Launch} {Γ : ZG} {w : ZW} {x : Nat} {C : CS} {D : ZD} {g : Option Nat} {sg : ZSg} (h : CR D g sg (C.1 0) D) {i u : Nat} (hn : C.2.2.1 = nI i) (hi : i < 8) (hu : C.2.2.2.1 = nI u) (hu8 : u ≤ 8) {y0 : Int32} {n : Nat} {B : ZB} (hx : y0 = nI n) (h1 : 0 ≤ y0 ∧ y0 ≤ C.2.1.1 1) (hB : BB C.2.1.2.1 n = B) (hT : TB B n) (hx9 : x + 105 ≤ w.1) : Ct l Γ mX5_load 25 3 614 [.ref x, .int y0] (wC Γ w x C) (LdC Γ w x C i u (nP D) (nC D) (nL D) (prs B)) zNo := by
  have hrd : Ct l Γ mX3_readSetup 24 3 614 [.ref (x + 93), .int (nI n)] (wC Γ w x C) (RdP Γ (wC Γ w x C) (x + 93) C.2.1.2.1 (prs B)) zNo := by
    have c := cx_X3_readSetup (l := l) (Γ := Γ) (w := wC Γ w x C) (r := x + 93) (R := C.2.1) hB hT (by show x + 93 + 12 ≤ w.1; omega)
    rw [wC_Rs] at c
    exact c
  refine Ct.of (by decide) rfl (Nat.le_of_ble_eq_true rfl) ?_
  refine go_iload_n 1 dX5_load_0 rfl ?_
  refine go_iconst 2 dX5_load_1 zc_0 ?_
  refine go_aload_n 3 dX5_load_2 rfl ?_
  refine go_get 6 dX5_load_3 fX5_29 wC_at0 rfl ?_
  refine go_get 9 dX5_load_6 fX5_45 xc_rd rfl ?_
  refine gcS3v 12 dX5_load_9 vX5_48 (ct_X5_requireRange_y (by exact h1)) ?_
  refine go_aload_n 13 dX5_load_12 rfl ?_
  refine go_get 16 dX5_load_13 fX5_29 wC_at0 rfl ?_
  refine go_iload_n 17 dX5_load_16 rfl ?_
  rw [hx]
  refine go_callV 20 [.int (nI n)] dX5_load_17 vX5_52 xc_rd rfl hrd (by decide) (by decide) (by omega) (by omega) (Nat.le_of_ble_eq_true rfl) ?_
  intro v9 w9 q9
  cases hpr : prs B with
  | inl e =>
    rw [hpr] at q9
    obtain ⟨rfl, he, R9, rfl, hT9, hb9, ho9⟩ := q9
    rw [wC_R]
    refine go_istore_n 21 dX5_load_20 (by decide) ?_
    refine go_aload_n 22 dX5_load_21 rfl ?_
    refine go_aload_n 23 dX5_load_22 rfl ?_
    refine go_get 26 dX5_load_23 fX5_29 wC_at0 rfl ?_
    refine go_get 29 dX5_load_26 fX5_56 xc_rd rfl ?_
    refine xc_putO 32 dX5_load_29 pX5_33 ?_
    refine go_iload_n 33 dX5_load_32 rfl ?_
    refine go_if_eq 38 36 dX5_load_33 (fun h33 => ?_) (fun h33 => ?_)
    · exact absurd (by first | exact h33 | exact Classical.not_not.mp h33) he
    · refine go_iload_n 37 dX5_load_36 rfl ?_
      exact go_ireturn dX5_load_37 rfl (by omega) (by omega) (⟨rfl, he, R9, rfl, hT9, hb9, ho9⟩)
  | inr s =>
    rw [hpr] at q9
    obtain ⟨rfl, R9, w8, g9, rfl, hT9, hb9, ho9, hE9, rfl, hN9, hQ9⟩ := q9
    obtain ⟨w0, rfl, hN0⟩ := NewR_C hx9 hN9
    rw [wC_R]
    have hC9 := qi_CR hQ9 hE9 sg
    have hRB : RB R9.2.2.1 (nP s.2.1) 0 0 := by
      have := hC9.rb
      rw [(qi_nC hQ9).1, (qi_nC hQ9).2.1] at this
      exact this
    have hs4 : s.2.1 4 = nI (nP s.2.1) := hQ9.1.1
    have hn9 : CR s.2.1 R9.2.2.1.2.2.2 sg ((cE (C3l C R9 i u (nP D) (nC D) (nL D)) 0 (cpE ((C3l C R9 i u (nP D) (nC D) (nL D)).1 0) R9.2.2.1 (nP s.2.1) 0 0)).1 0) s.2.1 := by
      have c := hC9.cpy ((C3l C R9 i u (nP D) (nC D) (nL D)).1 0)
      rw [(qi_nC hQ9).1, (qi_nC hQ9).2.1] at c
      exact c
    refine go_istore_n 21 dX5_load_20 (by decide) ?_
    refine go_aload_n 22 dX5_load_21 rfl ?_
    refine go_aload_n 23 dX5_load_22 rfl ?_
    refine go_get 26 dX5_load_23 fX5_29 wC_at0 rfl ?_
    refine go_get 29 dX5_load_26 fX5_56 xc_rd rfl ?_
    refine xc_putO 32 dX5_load_29 pX5_33 ?_
    refine go_iload_n 33 dX5_load_32 rfl ?_
    refine go_if_eq 38 36 dX5_load_33 (fun h33 => ?_) (fun h33 => ?_)
    · refine go_aload_n 39 dX5_load_38 rfl ?_
      refine go_get 42 dX5_load_39 fX5_22 wC_at0 rfl ?_
      refine go_aload_n 43 dX5_load_42 rfl ?_
      refine go_get 46 dX5_load_43 fX5_10 wC_at0 rfl ?_
      refine gcV1v 49 dX5_load_46 vX5_59 wC_at19 rfl (ct_X1_push hn hi hu hu8 h.rb) ?_
      refine go_aload_n 50 dX5_load_49 rfl ?_
      refine go_get 53 dX5_load_50 fX5_10 wC_at0 rfl ?_
      refine go_aload_n 54 dX5_load_53 rfl ?_
      refine go_get 57 dX5_load_54 fX5_29 wC_at0 rfl ?_
      refine go_get 60 dX5_load_57 fX5_63 xc_rd rfl ?_
      refine gcV1v 63 dX5_load_60 vX5_66 xc_now rfl (XCr (C := C3l C R9 i u (nP D) (nC D) (nL D)) hRB) ?_
      refine go_aload_n 64 dX5_load_63 rfl ?_
      refine go_get 67 dX5_load_64 fX5_10 wC_at0 rfl ?_
      refine go_get 70 dX5_load_67 fX5_69 xc_now rfl ?_
      refine go_get 73 dX5_load_70 fX5_73 (xwP hn9) rfl ?_
      exact go_ireturn dX5_load_73 rfl (by omega) (by omega) (⟨by rw [hs4], R9, w0, _, rfl, hT9, hb9, ho9, hE9, rfl, hN0, hQ9⟩)
    · exact absurd rfl h33
end CLdx
