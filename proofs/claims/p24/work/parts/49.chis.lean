section CHis
/-! the class's object: 105 cells from x on *)-/
/-- its exchanges (0 now, 1 future, 2.. those saved), its reader, next, undoable, the latest error's offset -/
abbrev CS : Type := (Nat → ES) × RS × Int32 × Int32 × Int32
def eo (m : Nat) : Nat := if m = 0 then 1 else if m = 1 then 10 else 21 + 9 * (m - 2)
def savF (x : Nat) : Nat → Option Nat := fun i => if i < 8 then some (x + (21 + 9 * i)) else none
def ccl (Γ : ZG) (x : Nat) (C : CS) (j : Nat) : va_E :=
  if j = 0 then .inr (5, [.ref (x + 1), .ref (x + 10), .ref (x + 19), .ref (x + 93), .int C.2.2.2.2])
  else if j < 10 then ecell Γ (x + 1) (C.1 0) (j - 1)
  else if j < 19 then ecell Γ (x + 10) (C.1 1) (j - 10)
  else if j = 19 then .inr (1, [.ref (x + 20), .int C.2.2.1, .int C.2.2.2.1])
  else if j = 20 then .inl (Γ.2.2.1 3, 8, .inr (.inr (.inr (.inr (savF x)))))
  else if j < 93 then ecell Γ (x + (21 + 9 * ((j - 21) / 9))) (C.1 (2 + (j - 21) / 9)) ((j - 21) % 9)
  else rcl Γ (x + 93) C.2.1 (j - 93)
def wC (Γ : ZG) (w : ZW) (x : Nat) (C : CS) : ZW := (w.1, fun q => if x ≤ q ∧ q < x + 105 then some (ccl Γ x C (q - x)) else w.2 q)
def cE (C : CS) (m : Nat) (E : ES) : CS := (fun i => if i = m then E else C.1 i, C.2)
def cR (C : CS) (R : RS) : CS := (C.1, R, C.2.2)
def cN (C : CS) (v : Int32) : CS := (C.1, C.2.1, v, C.2.2.2)
def cU (C : CS) (v : Int32) : CS := (C.1, C.2.1, C.2.2.1, v, C.2.2.2.2)
def cO (C : CS) (v : Int32) : CS := (C.1, C.2.1, C.2.2.1, C.2.2.2.1, v)
section
variable {Γ : ZG} {w : ZW} {x : Nat} {C C' : CS}
theorem wC_at (j : Nat) (hj : j < 105) : (wC Γ w x C).2 (x + j) = some (ccl Γ x C j) := by
  show (if x ≤ x + j ∧ x + j < x + 105 then some (ccl Γ x C (x + j - x)) else w.2 (x + j)) = _
  rw [if_pos ⟨by omega, by omega⟩, show x + j - x = j by omega]
theorem wC_at0 : (wC Γ w x C).2 x = some (.inr (5, [.ref (x + 1), .ref (x + 10), .ref (x + 19), .ref (x + 93), .int C.2.2.2.2])) := wC_at 0 (by decide)
theorem wC_at19 : (wC Γ w x C).2 (x + 19) = some (.inr (1, [.ref (x + 20), .int C.2.2.1, .int C.2.2.2.1])) := wC_at 19 (by decide)
theorem wC_at20 : (wC Γ w x C).2 (x + 20) = some (.inl (Γ.2.2.1 3, 8, .inr (.inr (.inr (.inr (savF x)))))) := wC_at 20 (by decide)
theorem wC_out {q : Nat} (h : q < x ∨ x + 105 ≤ q) : (wC Γ w x C).2 q = w.2 q := if_neg (by omega)
theorem wC_set {y : Nat} {c : va_E} (hy : y < 105) (he : ccl Γ x C' y = c) (ho : ∀ j, j < 105 → j ≠ y → ccl Γ x C' j = ccl Γ x C j) : wset (wC Γ w x C) (x + y) c = wC Γ w x C' := by
  refine Prod.ext rfl (funext fun q => ?_)
  show (if q = x + y then some c else if x ≤ q ∧ q < x + 105 then some (ccl Γ x C (q - x)) else w.2 q) = if x ≤ q ∧ q < x + 105 then some (ccl Γ x C' (q - x)) else w.2 q
  by_cases hq : q = x + y
  · rw [if_pos hq, if_pos ⟨by omega, by omega⟩, show q - x = y by omega, he]
  · rw [if_neg hq]
    by_cases hr : x ≤ q ∧ q < x + 105
    · rw [if_pos hr, if_pos hr, ho (q - x) (by omega) (by omega)]
    · rw [if_neg hr, if_neg hr]
theorem wC_19 {a b : Int32} : wset (wC Γ w x C) (x + 19) (.inr (1, [.ref (x + 20), .int a, .int b])) = wC Γ w x (cU (cN C a) b) := by
  refine wC_set (by decide) rfl (fun j hj hne => ?_)
  unfold ccl
  by_cases h0 : j = 0
  · rw [if_pos h0, if_pos h0]; rfl
  · rw [if_neg h0, if_neg h0, if_neg hne, if_neg hne]; rfl
theorem wC_0 {a : Int32} : wset (wC Γ w x C) x (.inr (5, [.ref (x + 1), .ref (x + 10), .ref (x + 19), .ref (x + 93), .int a])) = wC Γ w x (cO C a) := by
  refine wC_set (y := 0) (by decide) rfl (fun j hj hne => ?_)
  unfold ccl
  rw [if_neg hne, if_neg hne]; rfl
theorem ccl_eq {j : Nat} (ht : C'.2 = C.2) (h0 : 1 ≤ j → j < 10 → C'.1 0 = C.1 0) (h1 : 10 ≤ j → j < 19 → C'.1 1 = C.1 1) (h2 : 21 ≤ j → j < 93 → C'.1 (2 + (j - 21) / 9) = C.1 (2 + (j - 21) / 9)) : ccl Γ x C' j = ccl Γ x C j := by
  unfold ccl
  rw [ht]
  by_cases z0 : j = 0
  · rw [if_pos z0, if_pos z0]
  · rw [if_neg z0, if_neg z0]
    by_cases z1 : j < 10
    · rw [if_pos z1, if_pos z1, h0 (by omega) z1]
    · rw [if_neg z1, if_neg z1]
      by_cases z2 : j < 19
      · rw [if_pos z2, if_pos z2, h1 (by omega) z2]
      · rw [if_neg z2, if_neg z2]
        by_cases z3 : j = 19
        · rw [if_pos z3, if_pos z3]
        · rw [if_neg z3, if_neg z3]
          by_cases z4 : j = 20
          · rw [if_pos z4, if_pos z4]
          · rw [if_neg z4, if_neg z4]
            by_cases z5 : j < 93
            · rw [if_pos z5, if_pos z5, h2 (by omega) z5]
            · rw [if_neg z5, if_neg z5]
theorem ccl_E {m j : Nat} {E : ES} (hm : m < 10) (hj : eo m ≤ j ∧ j < eo m + 9) : ccl Γ x (cE C m E) j = ecell Γ (x + eo m) E (j - eo m) := by
  have hE : (cE C m E).1 m = E := if_pos rfl
  unfold eo at hj ⊢
  unfold ccl
  by_cases z0 : m = 0
  · subst z0
    rw [if_pos rfl] at hj ⊢
    rw [if_neg (by omega), if_pos (by omega), hE]
  · rw [if_neg z0] at hj ⊢
    by_cases z1 : m = 1
    · subst z1
      rw [if_pos rfl] at hj ⊢
      rw [if_neg (by omega), if_neg (by omega), if_pos (by omega), hE]
    · rw [if_neg z1] at hj ⊢
      have hd : (j - 21) / 9 = m - 2 := by omega
      rw [if_neg (by omega), if_neg (by omega), if_neg (by omega), if_neg (by omega), if_neg (by omega), if_pos (by omega), hd, show 2 + (m - 2) = m by omega, show (j - 21) % 9 = j - (21 + 9 * (m - 2)) by omega, hE]
theorem eo_lt {m : Nat} (hm : m < 10) : 1 ≤ eo m ∧ eo m + 9 ≤ 93 := by
  unfold eo
  split
  · omega
  · split <;> omega
/-- one of the exchanges, seen apart -/
theorem wC_E {m : Nat} {E : ES} (hm : m < 10) : wE Γ (wC Γ w x C) (x + eo m) E = wC Γ w x (cE C m E) := by
  have he := eo_lt hm
  refine Prod.ext rfl (funext fun q => ?_)
  show (if x + eo m ≤ q ∧ q < x + eo m + 9 then some (ecell Γ (x + eo m) E (q - (x + eo m))) else if x ≤ q ∧ q < x + 105 then some (ccl Γ x C (q - x)) else w.2 q) = if x ≤ q ∧ q < x + 105 then some (ccl Γ x (cE C m E) (q - x)) else w.2 q
  by_cases h : x + eo m ≤ q ∧ q < x + eo m + 9
  · rw [if_pos h, if_pos (by omega), ccl_E hm (by omega), show q - x - eo m = q - (x + eo m) by omega]
  · rw [if_neg h]
    by_cases g : x ≤ q ∧ q < x + 105
    · rw [if_pos g, if_pos g, ccl_eq (C' := cE C m E) (C := C) rfl]
      · intro _ _
        refine if_neg (fun z => h ?_)
        subst z
        rw [show eo 0 = 1 from rfl]
        omega
      · intro _ _
        refine if_neg (fun z => h ?_)
        subst z
        rw [show eo 1 = 10 from rfl]
        omega
      · intro _ _
        refine if_neg (fun z => h ?_)
        have : eo m = 21 + 9 * (m - 2) := by
          unfold eo
          rw [if_neg (by omega), if_neg (by omega)]
        omega
    · rw [if_neg g, if_neg g]
theorem cE_self {m : Nat} : cE C m (C.1 m) = C := by
  refine Prod.ext (funext fun i => ?_) rfl
  show (if i = m then C.1 m else C.1 i) = C.1 i
  by_cases h : i = m
  · rw [if_pos h, h]
  · rw [if_neg h]
theorem wC_Es {m : Nat} (hm : m < 10) : wE Γ (wC Γ w x C) (x + eo m) (C.1 m) = wC Γ w x C := by rw [wC_E hm, cE_self]
theorem wC_ex {m : Nat} (hm : m < 10) (j : Nat) (hj : j < 9) : (wC Γ w x C).2 (x + eo m + j) = some (ecell Γ (x + eo m) (C.1 m) j) := by
  rw [← wC_Es hm]
  exact wE_at j hj
/-- the reader, seen apart -/
theorem wC_R {R : RS} : wZ Γ (wC Γ w x C) (x + 93) R = wC Γ w x (cR C R) := by
  refine Prod.ext rfl (funext fun q => ?_)
  show (if x + 93 ≤ q ∧ q < x + 93 + 12 then some (rcl Γ (x + 93) R (q - (x + 93))) else if x ≤ q ∧ q < x + 105 then some (ccl Γ x C (q - x)) else w.2 q) = if x ≤ q ∧ q < x + 105 then some (ccl Γ x (cR C R) (q - x)) else w.2 q
  by_cases h : x + 93 ≤ q ∧ q < x + 93 + 12
  · rw [if_pos h, if_pos (by omega)]
    unfold ccl
    rw [if_neg (by omega), if_neg (by omega), if_neg (by omega), if_neg (by omega), if_neg (by omega), if_neg (by omega), show q - x - 93 = q - (x + 93) by omega]
    rfl
  · rw [if_neg h]
    by_cases g : x ≤ q ∧ q < x + 105
    · rw [if_pos g, if_pos g]
      unfold ccl
      by_cases h0 : q - x = 0
      · rw [if_pos h0, if_pos h0]; rfl
      · rw [if_neg h0, if_neg h0]
        by_cases h1 : q - x < 10
        · rw [if_pos h1, if_pos h1]; rfl
        · rw [if_neg h1, if_neg h1]
          by_cases h2 : q - x < 19
          · rw [if_pos h2, if_pos h2]; rfl
          · rw [if_neg h2, if_neg h2]
            by_cases h3 : q - x = 19
            · rw [if_pos h3, if_pos h3]; rfl
            · rw [if_neg h3, if_neg h3]
              by_cases h4 : q - x = 20
              · rw [if_pos h4, if_pos h4]
              · rw [if_neg h4, if_neg h4, if_pos (show q - x < 93 by omega), if_pos (show q - x < 93 by omega)]; rfl
    · rw [if_neg g, if_neg g]
theorem wC_Rs : wZ Γ (wC Γ w x C) (x + 93) C.2.1 = wC Γ w x C := wC_R
theorem wC_rat (j : Nat) (hj : j < 12) : (wC Γ w x C).2 (x + 93 + j) = some (rcl Γ (x + 93) C.2.1 j) := by
  rw [← wC_Rs]
  exact wZ_at j hj
/-- rings lie elsewhere -/
theorem wC_g {g : Option Nat} {h : Int32} {v : ZD} (hg : gAway g x 105) : gW Γ (wC Γ w x C) g h v = wC Γ (gW Γ w g h v) x C := by
  cases g with
  | none => rfl
  | some r =>
    have hr := hg r rfl
    refine Prod.ext rfl (funext fun q => ?_)
    show (if q = r then _ else if q = r + 2 then _ else if x ≤ q ∧ q < x + 105 then _ else w.2 q) = if x ≤ q ∧ q < x + 105 then _ else if q = r then _ else if q = r + 2 then _ else w.2 q
    by_cases hq : x ≤ q ∧ q < x + 105
    · rw [if_neg (by omega), if_neg (by omega), if_pos hq, if_pos hq]
    · rw [if_neg hq, if_neg hq]
theorem RG.out {g : Option Nat} {cs : List Int32} (h : RG Γ w g cs) (hg : gAway g x 105) : RG Γ (wC Γ w x C) g cs := by
  cases g with
  | none => exact h
  | some r =>
    obtain ⟨h1, h2, h3, a, b, f, g0, g1, g2, g3⟩ := h
    have hr := hg r rfl
    exact ⟨h1, h2, h3, a, b, f, (wC_out (by omega)).trans g0, (wC_out (by omega)).trans g1, (wC_out (by omega)).trans g2, g3⟩
theorem rgN_C {K : Nat} {f : ZD} (hx : x + 105 ≤ w.1) : rgN Γ (wC Γ w x C) K f = wC Γ (rgN Γ w K f) x C := by
  refine Prod.ext rfl (funext fun q => ?_)
  show (if q = w.1 then _ else if q = w.1 + 1 then _ else if q = w.1 + 2 then _ else if x ≤ q ∧ q < x + 105 then _ else w.2 q) = if x ≤ q ∧ q < x + 105 then _ else if q = w.1 then _ else if q = w.1 + 1 then _ else if q = w.1 + 2 then _ else w.2 q
  by_cases hq : x ≤ q ∧ q < x + 105
  · rw [if_neg (by omega), if_neg (by omega), if_neg (by omega), if_pos hq, if_pos hq]
  · rw [if_neg hq, if_neg hq]
    rfl
end
theorem eo0 : eo 0 = 1 := rfl
theorem eo1 : eo 1 = 10 := rfl
theorem eo2 {i : Nat} : eo (2 + i) = 21 + 9 * i := by
  unfold eo
  rw [if_neg (by omega), if_neg (by omega), show 2 + i - 2 = i by omega]
section
variable {l : Launch} {Γ : ZG} {M : ZM} {dp mc ms : Nat} {Φ : Option Value → ZW → Prop} {Ψ : String → ZW → Prop} {k n : Nat} {w : ZW} {pc x : Nat} {L : ZL} {st : List Value} {C : CS}
theorem xh_putN {index : Nat} {v : Int32} (pc' : Nat) (hd : decode M.2.1 pc = .ok (.putfield index, 3)) (F : zFp M.1.cls index 1 1 .int) (kk : Go l Γ M dp mc ms Φ Ψ k n (wC Γ w x (cN C v)) pc' L st) (hp : pc + 3 = pc' := by rfl) : Go l Γ M dp mc ms Φ Ψ k n (wC Γ w x C) pc L (.int v :: .ref (x + 19) :: st) := by
  refine go_put pc' hd F wC_at19 (Nat.le_of_ble_eq_true rfl) rfl rfl ?_ hp
  have e : wset (wC Γ w x C) (x + 19) (.inr (1, ([.ref (x + 20), .int C.2.2.1, .int C.2.2.2.1] : List Value).set 1 (.int v))) = wC Γ w x (cN C v) := wC_19
  rw [e]
  exact kk
theorem xh_putU {index : Nat} {v : Int32} (pc' : Nat) (hd : decode M.2.1 pc = .ok (.putfield index, 3)) (F : zFp M.1.cls index 1 2 .int) (kk : Go l Γ M dp mc ms Φ Ψ k n (wC Γ w x (cU C v)) pc' L st) (hp : pc + 3 = pc' := by rfl) : Go l Γ M dp mc ms Φ Ψ k n (wC Γ w x C) pc L (.int v :: .ref (x + 19) :: st) := by
  refine go_put pc' hd F wC_at19 (Nat.le_of_ble_eq_true rfl) rfl rfl ?_ hp
  have e : wset (wC Γ w x C) (x + 19) (.inr (1, ([.ref (x + 20), .int C.2.2.1, .int C.2.2.2.1] : List Value).set 2 (.int v))) = wC Γ w x (cU C v) := wC_19
  rw [e]
  exact kk
theorem xh_ald {i : Int32} (m pc' : Nat) (hd : decode M.2.1 pc = .ok (.aaload, 1)) (hi : i = nI m) (hm : m < 8) (kk : Go l Γ M dp mc ms Φ Ψ k n (wC Γ w x C) pc' L (.ref (x + (21 + 9 * m)) :: st)) (hp : pc + 1 = pc' := by rfl) : Go l Γ M dp mc ms Φ Ψ k n (wC Γ w x C) pc L (.int i :: .ref (x + 20) :: st) := by
  subst hi
  refine go_aald pc' hd wC_at20 (vp_in_nI hm (by decide)) ?_ hp
  rw [nI_clamp (by omega), show savF x m = some (x + (21 + 9 * m)) from if_pos hm]
  exact kk
end
/-- what push and popInto do -/
def puC (C : CS) (i u n0 n1 n2 : Nat) : CS := cU (cN (cE C (2 + i) (cpE (C.1 (2 + i)) (C.1 0) n0 n1 n2)) (nI (if i + 1 = 8 then 0 else i + 1))) (nI (if u + 1 < 8 then u + 1 else 8))
def slt (i : Nat) : Nat := if i = 0 then 7 else i - 1
def poC (C : CS) (i u n0 n1 n2 : Nat) : CS := cU (cN (cE C 0 (cpE (C.1 0) (C.1 (2 + slt i)) n0 n1 n2)) (nI (slt i))) (nI u)
theorem wset_eq {f : Nat → Option va_E} {a b : Nat} {c : Option va_E} (h : f a = c) (e : b = a) : f b = c := by rw [e]; exact h
set_option maxRecDepth 100000 in
set_option maxHeartbeats 4000000 in
theorem ct_X1_push {l : Launch} {Γ : ZG} {w : ZW} {x : Nat} {C : CS} {i u n0 n1 n2 : Nat} (hn : C.2.2.1 = nI i) (hi : i < 8) (hu : C.2.2.2.1 = nI u) (hu8 : u ≤ 8) (hR : RB (C.1 0) n0 n1 n2) : Cm l Γ mX1_push 3 [.ref (x + 19), .ref (x + 1)] (wC Γ w x C) none (wC Γ w x (puC C i u n0 n1 n2)) := by
  have hcp : Cm l Γ mX0_copyFrom 2 [.ref (x + (21 + 9 * i)), .ref (x + 1)] (wC Γ w x C) none (wC Γ w x (cE C (2 + i) (cpE (C.1 (2 + i)) (C.1 0) n0 n1 n2))) := by
    have c := cx_X0_copyFrom (l := l) (Γ := Γ) (w := wC Γ w x C) (e := x + eo (2 + i)) (f := x + 1) (E := C.1 (2 + i)) (F := C.1 0) (wC_ex (m := 0) (by decide)) (by rw [eo2]; omega) hR
    rw [wC_Es (by omega), wC_E (by omega), eo2] at c
    exact c
  refine Cm.of (by decide) rfl (Nat.le_of_ble_eq_true rfl) ?_
  refine go_aload_n 1 dX1_push_0 rfl ?_
  refine go_get 4 dX1_push_1 fX1_18 wC_at19 rfl ?_
  refine go_if_lt 31 7 dX1_push_4 (fun h4 => ?_) (fun h4 => ?_)
  · exact absurd h4 (by rw [hn]; exact nI_pos (by omega))
  · refine go_aload_n 8 dX1_push_7 rfl ?_
    refine go_get 11 dX1_push_8 fX1_18 wC_at19 rfl ?_
    refine go_aload_n 12 dX1_push_11 rfl ?_
    refine go_get 15 dX1_push_12 fX1_11 wC_at19 rfl ?_
    refine go_alen (t0 := 3) (v := 8) 16 dX1_push_15 wC_at20 rfl rfl ?_
    refine go_icmp_ge 31 19 dX1_push_16 (fun h16 => ?_) (fun h16 => ?_)
    · exact absurd h16 (by rw [hn]; exact nI_ge (b := 8) hi (by decide))
    · refine go_aload_n 20 dX1_push_19 rfl ?_
      refine go_get 23 dX1_push_20 fX1_11 wC_at19 rfl ?_
      refine go_aload_n 24 dX1_push_23 rfl ?_
      refine go_get 27 dX1_push_24 fX1_18 wC_at19 rfl ?_
      refine xh_ald (i) 28 dX1_push_27 hn hi ?_
      refine go_ifnonnull 32 dX1_push_28 ?_
      refine go_aload_n 33 dX1_push_32 rfl ?_
      refine go_get 36 dX1_push_33 fX1_11 wC_at19 rfl ?_
      refine go_aload_n 37 dX1_push_36 rfl ?_
      refine go_get 40 dX1_push_37 fX1_18 wC_at19 rfl ?_
      refine xh_ald (i) 41 dX1_push_40 hn hi ?_
      refine go_aload_n 42 dX1_push_41 rfl ?_
      refine gcV1v 45 dX1_push_42 vX1_22 (wset_eq (wC_ex (m := 2 + i) (by omega) 0 (by decide)) (by rw [eo2, Nat.add_zero])) rfl (hcp) ?_
      have e1 : (if nI u + 1 < 8 then nI u + 1 else (8 : Int32)) = nI (if u + 1 < 8 then u + 1 else 8) := by
        rw [nI_1]
        by_cases z : u + 1 < 8
        · rw [if_pos (show nI (u + 1) < 8 from nI_lt (b := 8) z (by decide)), if_pos z]
        · rw [if_neg (show ¬ nI (u + 1) < 8 from nI_nlt (b := 8) (by omega) (by omega)), if_neg z]; rfl
      have e2 : (if (8 : Int32) < nI u + 1 then (8 : Int32) else nI u + 1) = nI (if u + 1 < 8 then u + 1 else 8) := by
        rw [nI_1]
        by_cases z : u + 1 < 8
        · rw [if_neg (show ¬ (8 : Int32) < nI (u + 1) from nI_nlt (a := 8) (by omega) (by omega)), if_pos z]
        · rw [if_neg z]
          by_cases z2 : u = 8
          · subst z2; rfl
          · rw [show u = 7 by omega]; rfl
      refine go_aload_n 46 dX1_push_45 rfl ?_
      refine go_aload_n 47 dX1_push_46 rfl ?_
      refine go_get 50 dX1_push_47 fX1_18 wC_at19 rfl ?_
      refine go_iconst 51 dX1_push_50 zc_1 ?_
      refine go_iadd 52 dX1_push_51 ?_
      refine go_aload_n 53 dX1_push_52 rfl ?_
      refine go_get 56 dX1_push_53 fX1_11 wC_at19 rfl ?_
      refine go_alen (t0 := 3) (v := 8) 57 dX1_push_56 wC_at20 rfl rfl ?_
      have key : ∀ v9, v9 = nI (if i + 1 = 8 then 0 else i + 1) → Go l Γ mX1_push 3 0 0 (fun v w2 => v = none ∧ w2 = wC Γ w x (puC C i u n0 n1 n2)) zNo 0 0 (wC Γ w x (cE C (2 + i) (cpE (C.1 (2 + i)) (C.1 0) n0 n1 n2))) 70 [(0, .ref (x + 19))] [.int v9, .ref (x + 19)] := by
        intro v9 h9
        subst h9
        refine xh_putN 73 dX1_push_70 pX1_18 ?_
        refine go_aload_n 74 dX1_push_73 rfl ?_
        refine go_aload_n 75 dX1_push_74 rfl ?_
        refine go_get 78 dX1_push_75 fX1_26 wC_at19 rfl ?_
        refine go_iconst 79 dX1_push_78 zc_1 ?_
        refine go_iadd 80 dX1_push_79 ?_
        refine go_aload_n 81 dX1_push_80 rfl ?_
        refine go_get 84 dX1_push_81 fX1_11 wC_at19 rfl ?_
        refine go_alen (t0 := 3) (v := 8) 85 dX1_push_84 wC_at20 rfl rfl ?_
        refine go_min 88 dX1_push_85 gmX1_29 (by decide) (by omega) (by omega) (by exact Nat.le_of_ble_eq_true rfl) ?_
        rw [show (cN (cE C (2 + i) (cpE (C.1 (2 + i)) (C.1 0) n0 n1 n2)) (nI (if i + 1 = 8 then 0 else i + 1))).2.2.2.1 = nI u from hu, e2]
        refine xh_putU 91 dX1_push_88 pX1_26 ?_
        exact go_return dX1_push_91 rfl (by omega) (by omega) ⟨rfl, rfl⟩
      refine go_icmp_ne 64 60 dX1_push_57 (fun h57 => ?_) (fun h57 => ?_)
      · refine go_aload_n 65 dX1_push_64 rfl ?_
        refine go_get 68 dX1_push_65 fX1_18 wC_at19 rfl ?_
        refine go_iconst 69 dX1_push_68 zc_1 ?_
        refine go_iadd 70 dX1_push_69 ?_
        refine go_locals [(0, .ref (x + 19))] rfl (key _ ?_)
        have h57 : ¬ C.2.2.1 + 1 = 8 := h57
        show C.2.2.1 + 1 = _
        rw [hn, nI_1] at h57 ⊢
        rw [if_neg (fun z => h57 (by rw [z]; rfl))]
      · refine go_iconst 61 dX1_push_60 zc_0 ?_
        refine go_goto 70 dX1_push_61 ?_
        refine go_locals [(0, .ref (x + 19))] rfl (key _ ?_)
        have h57 : C.2.2.1 + 1 = 8 := by first | exact h57 | exact Classical.not_not.mp h57
        rw [hn, nI_1] at h57
        rw [if_pos ((nI_eq (a := i + 1) (b := 8) (by omega) (by decide)).mp h57)]
        rfl
set_option maxRecDepth 100000 in
set_option maxHeartbeats 4000000 in
theorem ct_X1_popInto {l : Launch} {Γ : ZG} {w : ZW} {x : Nat} {C : CS} {i u n0 n1 n2 : Nat} (hn : C.2.2.1 = nI i) (hi : i < 8) (hu : C.2.2.2.1 = nI (u + 1)) (hu8 : u < 8) (hR : RB (C.1 (2 + slt i)) n0 n1 n2) : Cm l Γ mX1_popInto 3 [.ref (x + 19), .ref (x + 1)] (wC Γ w x C) (some (.int (nI u))) (wC Γ w x (poC C i u n0 n1 n2)) := by
  have hs8 : slt i < 8 := by unfold slt; split <;> omega
  have hcp : Cm l Γ mX0_copyFrom 2 [.ref (x + 1), .ref (x + (21 + 9 * slt i))] (wC Γ w x C) none (wC Γ w x (cE C 0 (cpE (C.1 0) (C.1 (2 + slt i)) n0 n1 n2))) := by
    have c := cx_X0_copyFrom (l := l) (Γ := Γ) (w := wC Γ w x C) (e := x + eo 0) (f := x + eo (2 + slt i)) (E := C.1 0) (F := C.1 (2 + slt i)) (wC_ex (m := 2 + slt i) (by omega)) (by rw [eo2, eo0]; omega) hR
    rw [wC_Es (by decide), wC_E (by decide), eo2, eo0] at c
    exact c
  refine Cm.of (by decide) rfl (Nat.le_of_ble_eq_true rfl) ?_
  refine go_aload_n 1 dX1_popInto_0 rfl ?_
  refine go_get 4 dX1_popInto_1 fX1_26 wC_at19 rfl ?_
  refine go_if_ne 9 7 dX1_popInto_4 (fun h4 => ?_) (fun h4 => ?_)
  · have key : ∀ v9, v9 = nI (slt i) → Go l Γ mX1_popInto 3 0 0 (fun v w2 => v = some (.int (nI u)) ∧ w2 = wC Γ w x (poC C i u n0 n1 n2)) zNo 0 0 (wC Γ w x C) 32 [(0, .ref (x + 19)), (1, .ref (x + 1))] [.int v9] := by
      intro v9 h9
      subst h9
      refine go_istore_n 33 dX1_popInto_32 (by decide) ?_
      refine go_iload_n 34 dX1_popInto_33 rfl ?_
      refine go_if_lt 55 37 dX1_popInto_34 (fun h34 => absurd h34 (nI_pos (by omega))) (fun h34 => ?_)
      refine go_iload_n 38 dX1_popInto_37 rfl ?_
      refine go_aload_n 39 dX1_popInto_38 rfl ?_
      refine go_get 42 dX1_popInto_39 fX1_11 wC_at19 rfl ?_
      refine go_alen (t0 := 3) (v := 8) 43 dX1_popInto_42 wC_at20 rfl rfl ?_
      refine go_icmp_ge 55 46 dX1_popInto_43 (fun h43 => absurd h43 (nI_ge (b := 8) hs8 (by decide))) (fun h43 => ?_)
      refine go_aload_n 47 dX1_popInto_46 rfl ?_
      refine go_get 50 dX1_popInto_47 fX1_11 wC_at19 rfl ?_
      refine go_iload_n 51 dX1_popInto_50 rfl ?_
      refine xh_ald (slt i) 52 dX1_popInto_51 rfl hs8 ?_
      refine go_ifnonnull 57 dX1_popInto_52 ?_
      refine go_aload_n 58 dX1_popInto_57 rfl ?_
      refine go_aload_n 59 dX1_popInto_58 rfl ?_
      refine go_get 62 dX1_popInto_59 fX1_11 wC_at19 rfl ?_
      refine go_iload_n 63 dX1_popInto_62 rfl ?_
      refine xh_ald (slt i) 64 dX1_popInto_63 rfl hs8 ?_
      refine gcV1v 67 dX1_popInto_64 vX1_22 (wset_eq (wC_ex (m := 0) (by decide) 0 (by decide)) rfl) rfl hcp ?_
      refine go_aload_n 68 dX1_popInto_67 rfl ?_
      refine go_iload_n 69 dX1_popInto_68 rfl ?_
      refine xh_putN 72 dX1_popInto_69 pX1_18 ?_
      refine go_aload_n 73 dX1_popInto_72 rfl ?_
      refine go_dup 74 dX1_popInto_73 rfl ?_
      refine go_get 77 dX1_popInto_74 fX1_26 wC_at19 rfl ?_
      refine go_iconst 78 dX1_popInto_77 zc_1 ?_
      refine go_isub 79 dX1_popInto_78 ?_
      rw [show (cN (cE C 0 (cpE (C.1 0) (C.1 (2 + slt i)) n0 n1 n2)) (nI (slt i))).2.2.2.1 = nI (u + 1) from hu, nI_pred]
      refine xh_putU 82 dX1_popInto_79 pX1_26 ?_
      refine go_aload_n 83 dX1_popInto_82 rfl ?_
      refine go_get 86 dX1_popInto_83 fX1_26 wC_at19 rfl ?_
      exact go_ireturn dX1_popInto_86 rfl (by omega) (by omega) ⟨rfl, rfl⟩
    refine go_aload_n 10 dX1_popInto_9 rfl ?_
    refine go_get 13 dX1_popInto_10 fX1_18 wC_at19 rfl ?_
    refine go_if_ne 26 16 dX1_popInto_13 (fun h13 => ?_) (fun h13 => ?_)
    · refine go_aload_n 27 dX1_popInto_26 rfl ?_
      refine go_get 30 dX1_popInto_27 fX1_18 wC_at19 rfl ?_
      refine go_iconst 31 dX1_popInto_30 zc_1 ?_
      refine go_isub 32 dX1_popInto_31 ?_
      refine go_locals [(0, .ref (x + 19)), (1, .ref (x + 1))] rfl (key _ ?_)
      have h13 : ¬ C.2.2.1 = 0 := h13
      show C.2.2.1 - 1 = _
      rw [hn] at h13 ⊢
      have hi0 : i ≠ 0 := fun z => h13 (by rw [z]; rfl)
      rw [show nI i - 1 = nI (i - 1) by
        have := nI_pred (i - 1)
        rw [show i - 1 + 1 = i by omega] at this
        exact this]
      unfold slt
      rw [if_neg hi0]
    · refine go_aload_n 17 dX1_popInto_16 rfl ?_
      refine go_get 20 dX1_popInto_17 fX1_11 wC_at19 rfl ?_
      refine go_alen (t0 := 3) (v := 8) 21 dX1_popInto_20 wC_at20 rfl rfl ?_
      refine go_iconst 22 dX1_popInto_21 zc_1 ?_
      refine go_isub 23 dX1_popInto_22 ?_
      refine go_goto 32 dX1_popInto_23 ?_
      refine go_locals [(0, .ref (x + 19)), (1, .ref (x + 1))] rfl (key _ ?_)
      have h13 : C.2.2.1 = 0 := by first | exact h13 | exact Classical.not_not.mp h13
      rw [hn] at h13
      have hi0 : i = 0 := (nI_eq (b := 0) (by omega) (by decide)).mp h13
      subst hi0
      rfl
  · exact absurd (by first | exact h4 | exact Classical.not_not.mp h4) (by rw [hu]; exact nI_ne0 (by omega) (by omega))
set_option maxRecDepth 100000 in
set_option maxHeartbeats 4000000 in
theorem ct_X1_pop0 {l : Launch} {Γ : ZG} {w : ZW} {x : Nat} {C : CS} (hu : C.2.2.2.1 = 0) : Cm l Γ mX1_popInto 3 [.ref (x + 19), .ref (x + 1)] (wC Γ w x C) (some (.int (-1))) (wC Γ w x C) := by
  refine Cm.of (by decide) rfl (Nat.le_of_ble_eq_true rfl) ?_
  refine go_aload_n 1 dX1_popInto_0 rfl ?_
  refine go_get 4 dX1_popInto_1 fX1_26 wC_at19 rfl ?_
  refine go_if_ne 9 7 dX1_popInto_4 (fun h4 => absurd hu h4) (fun h4 => ?_)
  refine go_iconst 8 dX1_popInto_7 zc_m1 ?_
  exact go_ireturn dX1_popInto_8 rfl (by omega) (by omega) ⟨rfl, rfl⟩
end CHis
