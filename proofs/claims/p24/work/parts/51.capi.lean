section CApi
/-! the class's methods: what the world of the class's object gives -/
theorem le_pred {y : Int32} {n : Nat} (hn : n ≤ 1000) : y ≤ nI n - 1 ↔ y < nI n := by
  rw [Int32.le_iff_toInt_le, Int32.lt_iff_toInt_lt]
  have e : (nI n - 1).toInt = (n : Int) - 1 := by
    cases n with
    | zero => rfl
    | succ m => rw [nI_pred, nI_toInt (by omega)]; omega
  rw [e, nI_toInt (by omega)]
  omega
theorem inN {y : Int32} {n : Nat} (hn : n ≤ 1000) (h : 0 ≤ y ∧ y ≤ nI n - 1) : ∃ k, y = nI k ∧ k < n := by
  have h2 := (le_pred hn).mp h.2
  rw [Int32.lt_iff_toInt_lt, nI_toInt (by omega)] at h2
  have h1 : (0 : Int32).toInt ≤ y.toInt := Int32.le_iff_toInt_le.mp h.1
  have h1 : 0 ≤ y.toInt := h1
  refine ⟨y.toInt.toNat, ?_, by omega⟩
  exact Int32.toInt_inj.mp (by rw [nI_toInt (by omega)]; omega)
theorem inC {y : Int32} {n : Nat} (hn : n ≤ 1000) (h : 0 ≤ y ∧ y ≤ nI n) : ∃ k, y = nI k ∧ k ≤ n := by
  have h2 := Int32.le_iff_toInt_le.mp h.2
  rw [nI_toInt (by omega)] at h2
  have h1 : (0 : Int32).toInt ≤ y.toInt := Int32.le_iff_toInt_le.mp h.1
  have h1 : 0 ≤ y.toInt := h1
  refine ⟨y.toInt.toNat, ?_, by omega⟩
  exact Int32.toInt_inj.mp (by rw [nI_toInt (by omega)]; omega)
theorem zbv0 {p : Prop} (h : zb p = 0) : (0 : Int32) = zb p := h.symm
theorem zbv1 {p : Prop} (h : ¬ zb p = 0) : (1 : Int32) = zb p := by
  by_cases q : p
  · rw [zb_t q]
  · exact absurd (zb_f q) h
def ThP (cls : String) (w : ZW) : String → ZW → Prop := fun E w' => E = cls ∧ w'.2 = w.2 ∧ w.1 ≤ w'.1
def PvC (Γ : ZG) (w : ZW) (x : Nat) (C : CS) (m : Nat) (r : Option Value) (P : ES → Prop) : Option Value → ZW → Prop := fun v w2 => v = r ∧ ∃ E', w2 = wC Γ w x (cE C m E') ∧ P E'
def PvD (Γ : ZG) (w : ZW) (x : Nat) (C : CS) (g : Option Nat) (r : Option Value) (P : ES → Prop) : Option Value → ZW → Prop := fun v w2 => v = r ∧ ∃ h z E', w2 = wC Γ (gW Γ w g h z) x (cE C 0 E') ∧ P E'
section
variable {l : Launch} {Γ : ZG} {w : ZW} {x : Nat} {C : CS} {D D0 : ZD} {g : Option Nat} {sg : ZSg} {M : ZM} {d a b : Nat} {as : List Value} {r : Option Value} {E : ES} {P : ES → Prop}
theorem xc_now : (wC Γ w x C).2 (x + 1) = some (.inr (0, efs (x + 1) (C.1 0))) := wC_ex (m := 0) (by decide) 0 (by decide)
theorem xc_fut : (wC Γ w x C).2 (x + 10) = some (.inr (0, efs (x + 10) (C.1 1))) := wC_ex (m := 1) (by decide) 0 (by decide)
theorem xc_rd : (wC Γ w x C).2 (x + 93) = some (.inr (3, rfs (x + 93) C.2.1.1)) := wC_rat 0 (by decide)
theorem xc_E0 : wE Γ (wC Γ w x C) (x + 1) E = wC Γ w x (cE C 0 E) := wC_E (m := 0) (by decide)
theorem xc_E1 : wE Γ (wC Γ w x C) (x + 10) E = wC Γ w x (cE C 1 E) := wC_E (m := 1) (by decide)
theorem xc_s0 : wE Γ (wC Γ w x C) (x + 1) (C.1 0) = wC Γ w x C := wC_Es (m := 0) (by decide)
theorem xc_s1 : wE Γ (wC Γ w x C) (x + 10) (C.1 1) = wC Γ w x C := wC_Es (m := 1) (by decide)
theorem XCm0 (c : Cm l Γ M d as (wE Γ (wC Γ w x C) (x + 1) (C.1 0)) r (wE Γ (wC Γ w x C) (x + 1) (C.1 0))) : Cm l Γ M d as (wC Γ w x C) r (wC Γ w x C) := by rw [xc_s0] at c; exact c
theorem XCm1 (c : Cm l Γ M d as (wE Γ (wC Γ w x C) (x + 10) (C.1 1)) r (wE Γ (wC Γ w x C) (x + 10) (C.1 1))) : Cm l Γ M d as (wC Γ w x C) r (wC Γ w x C) := by rw [xc_s1] at c; exact c
theorem XPt0 (c : Ct l Γ M d a b as (wE Γ (wC Γ w x C) (x + 1) (C.1 0)) (PvE Γ (wC Γ w x C) (x + 1) r P) zNo) : Ct l Γ M d a b as (wC Γ w x C) (PvC Γ w x C 0 r P) zNo := by
  rw [xc_s0] at c
  exact Ct.mono (fun v w2 q => ⟨q.1, by obtain ⟨E', e1, e2⟩ := q.2; exact ⟨E', e1.trans xc_E0, e2⟩⟩) (fun _ _ q => q) c
theorem XPt1 (c : Ct l Γ M d a b as (wE Γ (wC Γ w x C) (x + 10) (C.1 1)) (PvE Γ (wC Γ w x C) (x + 10) r P) zNo) : Ct l Γ M d a b as (wC Γ w x C) (PvC Γ w x C 1 r P) zNo := by
  rw [xc_s1] at c
  exact Ct.mono (fun v w2 q => ⟨q.1, by obtain ⟨E', e1, e2⟩ := q.2; exact ⟨E', e1.trans xc_E1, e2⟩⟩) (fun _ _ q => q) c
theorem XPg0 (hA : gAway g x 105) (c : Ct l Γ M d a b as (wE Γ (wC Γ w x C) (x + 1) (C.1 0)) (PvG Γ (wC Γ w x C) (x + 1) g r P) zNo) : Ct l Γ M d a b as (wC Γ w x C) (PvD Γ w x C g r P) zNo := by
  rw [xc_s0] at c
  exact Ct.mono (fun v w2 q => ⟨q.1, by obtain ⟨h, z, E', e1, e2⟩ := q.2; exact ⟨h, z, E', e1.trans (by rw [wC_g hA]; exact xc_E0), e2⟩⟩) (fun _ _ q => q) c
theorem xwP (h : CR D0 g sg (C.1 0) D) : (wC Γ w x C).2 (x + 1 + 1) = some (.inr (4, [.ref (x + 1 + 2), .int (nI 3), .int (nI (nP D0))])) := by
  have c := h.tP (Γ := Γ) (w := wC Γ w x C) (e := x + 1)
  rw [xc_s0] at c
  exact c
theorem xwC (h : CR D0 g sg (C.1 0) D) : (wC Γ w x C).2 (x + 1 + 3) = some (.inr (4, [.ref (x + 1 + 4), .int (nI 8), .int (nI (nC D0))])) := by
  have c := h.tC (Γ := Γ) (w := wC Γ w x C) (e := x + 1)
  rw [xc_s0] at c
  exact c
theorem xwL (h : CR D0 g sg (C.1 0) D) : (wC Γ w x C).2 (x + 1 + 5) = some (.inr (4, [.ref (x + 1 + 6), .int (nI 13), .int (nI (nL D0))])) := by
  have c := h.tL (Γ := Γ) (w := wC Γ w x C) (e := x + 1)
  rw [xc_s0] at c
  exact c
theorem xwT (h : CR D0 g sg (C.1 0) D) : (wC Γ w x C).2 (x + 1 + 7) = some (.inr (4, [.ref (x + 1 + 8), .int (nI 7), .int (nI 1)])) := by
  have c := h.tT (Γ := Γ) (w := wC Γ w x C) (e := x + 1)
  rw [xc_s0] at c
  exact c
theorem ywC (h : CR D0 g sg (C.1 1) D) : (wC Γ w x C).2 (x + 10 + 3) = some (.inr (4, [.ref (x + 10 + 4), .int (nI 8), .int (nI (nC D0))])) := by
  have c := h.tC (Γ := Γ) (w := wC Γ w x C) (e := x + 10)
  rw [xc_s1] at c
  exact c
theorem CR.inP {y : Int32} (h : CR D0 g sg E D) : (0 ≤ y ∧ y ≤ D 4 - 1) ↔ (0 ≤ y ∧ y < nI (nP D0)) := by rw [h.D4, le_pred (by have := h.P10; omega)]
theorem CR.inC {y : Int32} (h : CR D0 g sg E D) : (0 ≤ y ∧ y ≤ D 5 - 1) ↔ (0 ≤ y ∧ y < nI (nC D0)) := by rw [h.D5, le_pred (by have := h.C20; omega)]
theorem CR.inL {y : Int32} (h : CR D0 g sg E D) : (0 ≤ y ∧ y ≤ D 6 - 1) ↔ (0 ≤ y ∧ y < nI (nL D0)) := by rw [h.D6, le_pred (by have := h.L40; omega)]
theorem CR.kP {y : Int32} (h : CR D0 g sg E D) (i : 0 ≤ y ∧ y ≤ D 4 - 1) : ∃ k, y = nI k ∧ k < nP D0 := inN (by have := h.P10; omega) (by rw [← h.D4]; exact i)
theorem CR.kC {y : Int32} (h : CR D0 g sg E D) (i : 0 ≤ y ∧ y ≤ D 5 - 1) : ∃ k, y = nI k ∧ k < nC D0 := inN (by have := h.C20; omega) (by rw [← h.D5]; exact i)
theorem CR.kL {y : Int32} (h : CR D0 g sg E D) (i : 0 ≤ y ∧ y ≤ D 6 - 1) : ∃ k, y = nI k ∧ k < nL D0 := inN (by have := h.L40; omega) (by rw [← h.D6]; exact i)
end
section
variable {l : Launch} {Γ : ZG} {M M' : ZM} {dp d' mc ms mc' ms' : Nat} {Φ : Option Value → ZW → Prop} {Ψ Ψ' : String → ZW → Prop} {k n : Nat} {w : ZW} {pc x : Nat} {L : ZL} {st : List Value} {C : CS} {E : String}
/-- a call that throws -/
theorem gt_V {index b ci : Nat} {fs : List Value} (pc' : Nat) (As : List Value) (hd : decode M.2.1 pc = .ok (.invokevirtual index, 3)) (V : zV M.1.cls index M' As.length) (hw : w.2 b = some (.inr (ci, fs))) (hc : (vwCl[ci]?).map (fun q => q.1) = some M'.1.cls) (hct : Ct l Γ M' d' mc' ms' (.ref b :: As) w zNv (ThP E w)) (hx : ∀ w', w'.2 = w.2 → w.1 ≤ w'.1 → Ψ E w') (hdp : d' + 1 ≤ dp := by decide) (hL : M'.2.2.1 ≤ 40 := by decide) (h1 : k + mc' ≤ mc := by decide) (h2 : n + ms' ≤ ms := by decide) (hst : (st.map fun v => v.category).sum ≤ 8 := by exact Nat.le_of_ble_eq_true rfl) (hh : M.2.2.2.2 = [] := by rfl) : Go l Γ M dp mc ms Φ Ψ k n w pc L (As.reverse ++ .ref b :: st) :=
  go_callVX (pc + 3) As hd V hw hc hct hdp hL h1 h2 hst hh (fun E' w' q => by obtain ⟨rfl, q1, q2⟩ := q; exact hx w' q1 q2) (fun v w' q => q.elim) rfl
theorem gt_V1 {index b ci : Nat} {fs : List Value} {a : Value} (pc' : Nat) (hd : decode M.2.1 pc = .ok (.invokevirtual index, 3)) (V : zV M.1.cls index M' 1) (hw : w.2 b = some (.inr (ci, fs))) (hc : (vwCl[ci]?).map (fun q => q.1) = some M'.1.cls) (hct : Ct l Γ M' d' mc' ms' [.ref b, a] w zNv (ThP E w)) (hx : ∀ w', w'.2 = w.2 → w.1 ≤ w'.1 → Ψ E w') (hdp : d' + 1 ≤ dp := by decide) (hL : M'.2.2.1 ≤ 40 := by decide) (h1 : k + mc' ≤ mc := by decide) (h2 : n + ms' ≤ ms := by decide) (hst : (st.map fun v => v.category).sum ≤ 8 := by exact Nat.le_of_ble_eq_true rfl) (hh : M.2.2.2.2 = [] := by rfl) : Go l Γ M dp mc ms Φ Ψ k n w pc L (a :: .ref b :: st) :=
  gt_V pc' [a] hd V hw hc hct hx hdp hL h1 h2 hst hh
theorem gt_S3 {index : Nat} {a b c : Value} (pc' : Nat) (hd : decode M.2.1 pc = .ok (.invokestatic index, 3)) (V : zVs M.1.cls index M' 3) (hct : Ct l Γ M' d' mc' ms' [a, b, c] w zNv (ThP E w)) (hx : ∀ w', w'.2 = w.2 → w.1 ≤ w'.1 → Ψ E w') (hh' : M'.2.2.2.2 = [] := by rfl) (hdp : d' + 1 ≤ dp := by decide) (hL : M'.2.2.1 ≤ 40 := by decide) (h1 : k + mc' ≤ mc := by decide) (h2 : n + ms' ≤ ms := by decide) (hst : (st.map fun v => v.category).sum ≤ 8 := by exact Nat.le_of_ble_eq_true rfl) (hh : M.2.2.2.2 = [] := by rfl) : Go l Γ M dp mc ms Φ Ψ k n w pc L (c :: b :: a :: st) :=
  go_callSX (pc + 3) [a, b, c] hd V hh' hct hdp hL h1 h2 hst hh (fun E' w' q => by obtain ⟨rfl, q1, q2⟩ := q; exact hx w' q1 q2) (fun v w' q => q.elim) rfl
theorem xc_putO {index : Nat} {v : Int32} (pc' : Nat) (hd : decode M.2.1 pc = .ok (.putfield index, 3)) (F : zFp M.1.cls index 5 4 .int) (kk : Go l Γ M dp mc ms Φ Ψ k n (wC Γ w x (cO C v)) pc' L st) (hp : pc + 3 = pc' := by rfl) : Go l Γ M dp mc ms Φ Ψ k n (wC Γ w x C) pc L (.int v :: .ref x :: st) := by
  refine go_put pc' hd F wC_at0 (Nat.le_of_ble_eq_true rfl) rfl rfl ?_ hp
  have e : wset (wC Γ w x C) x (.inr (5, ([.ref (x + 1), .ref (x + 10), .ref (x + 19), .ref (x + 93), .int C.2.2.2.2] : List Value).set 4 (.int v))) = wC Γ w x (cO C v) := wC_0
  rw [e]
  exact kk
end
set_option maxRecDepth 100000 in
set_option maxHeartbeats 4000000 in
theorem ct_X5_requireParty_y {l : Launch} {Γ : ZG} {w : ZW} {x : Nat} {C : CS} {D : ZD} {g : Option Nat} {sg : ZSg} (h : CR D g sg (C.1 0) D) {y0 : Int32} (h1 : 0 ≤ y0 ∧ y0 ≤ D 4 - 1) : Cm l Γ mX5_requireParty 2 [.ref x, .int y0] (wC Γ w x C) (none) (wC Γ w x C) := by
  refine Cm.of (by decide) rfl (Nat.le_of_ble_eq_true rfl) ?_
  refine go_aload_n 1 dX5_requireParty_0 rfl ?_
  refine go_get 4 dX5_requireParty_1 fX5_10 wC_at0 rfl ?_
  refine go_get 7 dX5_requireParty_4 fX5_69 xc_now rfl ?_
  refine go_iload_n 8 dX5_requireParty_7 rfl ?_
  refine gcV1 11 dX5_requireParty_8 vX5_210 (xwP h) rfl (ct_X4_has (xwP h)) ?_
  rw [zb_t (h.inP.mp h1)]
  refine go_if_ne 24 14 dX5_requireParty_11 (fun h11 => ?_) (fun h11 => ?_)
  · exact go_return dX5_requireParty_24 rfl (by omega) (by omega) (⟨rfl, rfl⟩)
  · exact absurd h11 (by decide)
set_option maxRecDepth 100000 in
set_option maxHeartbeats 4000000 in
theorem ct_X5_requireParty_n {l : Launch} {Γ : ZG} {w : ZW} {x : Nat} {C : CS} {D : ZD} {g : Option Nat} {sg : ZSg} (h : CR D g sg (C.1 0) D) {y0 : Int32} (h1 : ¬ (0 ≤ y0 ∧ y0 ≤ D 4 - 1)) : Ct l Γ mX5_requireParty 6 1 6 [.ref x, .int y0] (wC Γ w x C) zNv (ThP "java/lang/IndexOutOfBoundsException" (wC Γ w x C)) := by
  refine Ct.of (by decide) rfl (Nat.le_of_ble_eq_true rfl) ?_
  refine go_aload_n 1 dX5_requireParty_0 rfl ?_
  refine go_get 4 dX5_requireParty_1 fX5_10 wC_at0 rfl ?_
  refine go_get 7 dX5_requireParty_4 fX5_69 xc_now rfl ?_
  refine go_iload_n 8 dX5_requireParty_7 rfl ?_
  refine gcV1 11 dX5_requireParty_8 vX5_210 (xwP h) rfl (ct_X4_has (xwP h)) ?_
  rw [zb_f (fun q => h1 (h.inP.mpr q))]
  refine go_if_ne 24 14 dX5_requireParty_11 (fun h11 => ?_) (fun h11 => ?_)
  · exact absurd h11 (by decide)
  · exact go_throw (thX "no such party" 215 (by decide +kernel)) dX5_requireParty_14 dX5_requireParty_17 dX5_requireParty_18 dX5_requireParty_20 dX5_requireParty_23 rfl (by decide) (by decide) (by decide) (Nat.le_of_ble_eq_true rfl) (fun w' a b => ⟨rfl, a, b⟩)
set_option maxRecDepth 100000 in
set_option maxHeartbeats 4000000 in
theorem ct_X5_requireCall_y {l : Launch} {Γ : ZG} {w : ZW} {x : Nat} {C : CS} {D : ZD} {g : Option Nat} {sg : ZSg} (h : CR D g sg (C.1 0) D) {y0 : Int32} (h1 : 0 ≤ y0 ∧ y0 ≤ D 5 - 1) : Cm l Γ mX5_requireCall 2 [.ref x, .int y0] (wC Γ w x C) (none) (wC Γ w x C) := by
  refine Cm.of (by decide) rfl (Nat.le_of_ble_eq_true rfl) ?_
  refine go_aload_n 1 dX5_requireCall_0 rfl ?_
  refine go_get 4 dX5_requireCall_1 fX5_10 wC_at0 rfl ?_
  refine go_get 7 dX5_requireCall_4 fX5_81 xc_now rfl ?_
  refine go_iload_n 8 dX5_requireCall_7 rfl ?_
  refine gcV1 11 dX5_requireCall_8 vX5_210 (xwC h) rfl (ct_X4_has (xwC h)) ?_
  rw [zb_t (h.inC.mp h1)]
  refine go_if_ne 24 14 dX5_requireCall_11 (fun h11 => ?_) (fun h11 => ?_)
  · exact go_return dX5_requireCall_24 rfl (by omega) (by omega) (⟨rfl, rfl⟩)
  · exact absurd h11 (by decide)
set_option maxRecDepth 100000 in
set_option maxHeartbeats 4000000 in
theorem ct_X5_requireCall_n {l : Launch} {Γ : ZG} {w : ZW} {x : Nat} {C : CS} {D : ZD} {g : Option Nat} {sg : ZSg} (h : CR D g sg (C.1 0) D) {y0 : Int32} (h1 : ¬ (0 ≤ y0 ∧ y0 ≤ D 5 - 1)) : Ct l Γ mX5_requireCall 6 1 6 [.ref x, .int y0] (wC Γ w x C) zNv (ThP "java/lang/IndexOutOfBoundsException" (wC Γ w x C)) := by
  refine Ct.of (by decide) rfl (Nat.le_of_ble_eq_true rfl) ?_
  refine go_aload_n 1 dX5_requireCall_0 rfl ?_
  refine go_get 4 dX5_requireCall_1 fX5_10 wC_at0 rfl ?_
  refine go_get 7 dX5_requireCall_4 fX5_81 xc_now rfl ?_
  refine go_iload_n 8 dX5_requireCall_7 rfl ?_
  refine gcV1 11 dX5_requireCall_8 vX5_210 (xwC h) rfl (ct_X4_has (xwC h)) ?_
  rw [zb_f (fun q => h1 (h.inC.mpr q))]
  refine go_if_ne 24 14 dX5_requireCall_11 (fun h11 => ?_) (fun h11 => ?_)
  · exact absurd h11 (by decide)
  · exact go_throw (thX "no such call" 218 (by decide +kernel)) dX5_requireCall_14 dX5_requireCall_17 dX5_requireCall_18 dX5_requireCall_20 dX5_requireCall_23 rfl (by decide) (by decide) (by decide) (Nat.le_of_ble_eq_true rfl) (fun w' a b => ⟨rfl, a, b⟩)
set_option maxRecDepth 100000 in
set_option maxHeartbeats 4000000 in
theorem ct_X5_requireLeg_y {l : Launch} {Γ : ZG} {w : ZW} {x : Nat} {C : CS} {D : ZD} {g : Option Nat} {sg : ZSg} (h : CR D g sg (C.1 0) D) {y0 : Int32} (h1 : 0 ≤ y0 ∧ y0 ≤ D 6 - 1) : Cm l Γ mX5_requireLeg 2 [.ref x, .int y0] (wC Γ w x C) (none) (wC Γ w x C) := by
  refine Cm.of (by decide) rfl (Nat.le_of_ble_eq_true rfl) ?_
  refine go_aload_n 1 dX5_requireLeg_0 rfl ?_
  refine go_get 4 dX5_requireLeg_1 fX5_10 wC_at0 rfl ?_
  refine go_get 7 dX5_requireLeg_4 fX5_84 xc_now rfl ?_
  refine go_iload_n 8 dX5_requireLeg_7 rfl ?_
  refine gcV1 11 dX5_requireLeg_8 vX5_210 (xwL h) rfl (ct_X4_has (xwL h)) ?_
  rw [zb_t (h.inL.mp h1)]
  refine go_if_ne 24 14 dX5_requireLeg_11 (fun h11 => ?_) (fun h11 => ?_)
  · exact go_return dX5_requireLeg_24 rfl (by omega) (by omega) (⟨rfl, rfl⟩)
  · exact absurd h11 (by decide)
set_option maxRecDepth 100000 in
set_option maxHeartbeats 4000000 in
theorem ct_X5_requireLeg_n {l : Launch} {Γ : ZG} {w : ZW} {x : Nat} {C : CS} {D : ZD} {g : Option Nat} {sg : ZSg} (h : CR D g sg (C.1 0) D) {y0 : Int32} (h1 : ¬ (0 ≤ y0 ∧ y0 ≤ D 6 - 1)) : Ct l Γ mX5_requireLeg 6 1 6 [.ref x, .int y0] (wC Γ w x C) zNv (ThP "java/lang/IndexOutOfBoundsException" (wC Γ w x C)) := by
  refine Ct.of (by decide) rfl (Nat.le_of_ble_eq_true rfl) ?_
  refine go_aload_n 1 dX5_requireLeg_0 rfl ?_
  refine go_get 4 dX5_requireLeg_1 fX5_10 wC_at0 rfl ?_
  refine go_get 7 dX5_requireLeg_4 fX5_84 xc_now rfl ?_
  refine go_iload_n 8 dX5_requireLeg_7 rfl ?_
  refine gcV1 11 dX5_requireLeg_8 vX5_210 (xwL h) rfl (ct_X4_has (xwL h)) ?_
  rw [zb_f (fun q => h1 (h.inL.mpr q))]
  refine go_if_ne 24 14 dX5_requireLeg_11 (fun h11 => ?_) (fun h11 => ?_)
  · exact absurd h11 (by decide)
  · exact go_throw (thX "no such leg" 220 (by decide +kernel)) dX5_requireLeg_14 dX5_requireLeg_17 dX5_requireLeg_18 dX5_requireLeg_20 dX5_requireLeg_23 rfl (by decide) (by decide) (by decide) (Nat.le_of_ble_eq_true rfl) (fun w' a b => ⟨rfl, a, b⟩)
set_option maxRecDepth 100000 in
set_option maxHeartbeats 4000000 in
theorem ct_X5_requireRange_y {l : Launch} {Γ : ZG} {w : ZW} {v a b : Int32} (h1 : a ≤ v ∧ v ≤ b) : Cm l Γ mX5_requireRange 1 [.int v, .int a, .int b] w none w := by
  refine Cm.of (by decide) rfl (Nat.le_of_ble_eq_true rfl) ?_
  refine go_iload_n 1 dX5_requireRange_0 rfl ?_
  refine go_iload_n 2 dX5_requireRange_1 rfl ?_
  refine go_icmp_lt 10 5 dX5_requireRange_2 (fun h2 => ?_) (fun h2 => ?_)
  · exact absurd h2 (Int32.not_lt.mpr h1.1)
  · refine go_iload_n 6 dX5_requireRange_5 rfl ?_
    refine go_iload_n 7 dX5_requireRange_6 rfl ?_
    refine go_icmp_le 20 10 dX5_requireRange_7 (fun h7 => ?_) (fun h7 => ?_)
    · exact go_return dX5_requireRange_20 rfl (by omega) (by omega) (⟨rfl, rfl⟩)
    · exact absurd h1.2 h7
set_option maxRecDepth 100000 in
set_option maxHeartbeats 4000000 in
theorem ct_X5_requireRange_n {l : Launch} {Γ : ZG} {w : ZW} {v a b : Int32} (h1 : ¬ (a ≤ v ∧ v ≤ b)) : Ct l Γ mX5_requireRange 6 1 6 [.int v, .int a, .int b] w zNv (ThP "java/lang/IllegalArgumentException" w) := by
  refine Ct.of (by decide) rfl (Nat.le_of_ble_eq_true rfl) ?_
  refine go_iload_n 1 dX5_requireRange_0 rfl ?_
  refine go_iload_n 2 dX5_requireRange_1 rfl ?_
  refine go_icmp_lt 10 5 dX5_requireRange_2 (fun h2 => ?_) (fun h2 => ?_)
  · exact go_throw (thI "a number is out of range" 222 (by decide +kernel)) dX5_requireRange_10 dX5_requireRange_13 dX5_requireRange_14 dX5_requireRange_16 dX5_requireRange_19 rfl (by decide) (by decide) (by decide) (Nat.le_of_ble_eq_true rfl) (fun w' a b => ⟨rfl, a, b⟩)
  · refine go_iload_n 6 dX5_requireRange_5 rfl ?_
    refine go_iload_n 7 dX5_requireRange_6 rfl ?_
    refine go_icmp_le 20 10 dX5_requireRange_7 (fun h7 => ?_) (fun h7 => ?_)
    · exact absurd ⟨Int32.not_lt.mp h2, h7⟩ h1
    · exact go_throw (thI "a number is out of range" 222 (by decide +kernel)) dX5_requireRange_10 dX5_requireRange_13 dX5_requireRange_14 dX5_requireRange_16 dX5_requireRange_19 rfl (by decide) (by decide) (by decide) (Nat.le_of_ble_eq_true rfl) (fun w' a b => ⟨rfl, a, b⟩)
set_option maxRecDepth 100000 in
set_option maxHeartbeats 4000000 in
theorem ct_X5_time {l : Launch} {Γ : ZG} {w : ZW} {x : Nat} {C : CS} {D : ZD} {g : Option Nat} {sg : ZSg} (h : CR D g sg (C.1 0) D) : Cm l Γ mX5_time 1 [.ref x] (wC Γ w x C) (some (.int (D 0))) (wC Γ w x C) := by
  refine Cm.of (by decide) rfl (Nat.le_of_ble_eq_true rfl) ?_
  refine go_aload_n 1 dX5_time_0 rfl ?_
  refine go_get 4 dX5_time_1 fX5_10 wC_at0 rfl ?_
  refine go_get 7 dX5_time_4 fX5_78 xc_now rfl ?_
  exact go_ireturn dX5_time_7 rfl (by omega) (by omega) (⟨by rw [← h.1.2.1.1], rfl⟩)
set_option maxRecDepth 100000 in
set_option maxHeartbeats 4000000 in
theorem ct_X5_errorOffset {l : Launch} {Γ : ZG} {w : ZW} {x : Nat} {C : CS} : Cm l Γ mX5_errorOffset 1 [.ref x] (wC Γ w x C) (some (.int C.2.2.2.2)) (wC Γ w x C) := by
  refine Cm.of (by decide) rfl (Nat.le_of_ble_eq_true rfl) ?_
  refine go_aload_n 1 dX5_errorOffset_0 rfl ?_
  refine go_get 4 dX5_errorOffset_1 fX5_33 wC_at0 rfl ?_
  exact go_ireturn dX5_errorOffset_4 rfl (by omega) (by omega) (⟨rfl, rfl⟩)
set_option maxRecDepth 100000 in
set_option maxHeartbeats 4000000 in
theorem ct_X5_count_0 {l : Launch} {Γ : ZG} {w : ZW} {x : Nat} {C : CS} {D : ZD} {g : Option Nat} {sg : ZSg} (h : CR D g sg (C.1 0) D) {y0 : Int32} (hy : y0 = 0) : Cm l Γ mX5_count 3 [.ref x, .int y0] (wC Γ w x C) (some (.int (D 4))) (wC Γ w x C) := by
  subst hy
  refine Cm.of (by decide) rfl (Nat.le_of_ble_eq_true rfl) ?_
  refine go_iload_n 1 dX5_count_0 rfl ?_
  refine go_tableIn 48 dX5_count_1 (by decide) (by decide) rfl rfl ?_
  refine go_aload_n 49 dX5_count_48 rfl ?_
  refine go_get 52 dX5_count_49 fX5_10 wC_at0 rfl ?_
  refine go_get 55 dX5_count_52 fX5_69 xc_now rfl ?_
  refine go_get 58 dX5_count_55 fX5_73 (xwP h) rfl ?_
  exact go_ireturn dX5_count_58 rfl (by omega) (by omega) (⟨by rw [h.D4], rfl⟩)
set_option maxRecDepth 100000 in
set_option maxHeartbeats 4000000 in
theorem ct_X5_count_1 {l : Launch} {Γ : ZG} {w : ZW} {x : Nat} {C : CS} {D : ZD} {g : Option Nat} {sg : ZSg} (h : CR D g sg (C.1 0) D) {y0 : Int32} (hy : y0 = 1) : Cm l Γ mX5_count 3 [.ref x, .int y0] (wC Γ w x C) (some (.int (D 5))) (wC Γ w x C) := by
  subst hy
  refine Cm.of (by decide) rfl (Nat.le_of_ble_eq_true rfl) ?_
  refine go_iload_n 1 dX5_count_0 rfl ?_
  refine go_tableIn 59 dX5_count_1 (by decide) (by decide) rfl rfl ?_
  refine go_aload_n 60 dX5_count_59 rfl ?_
  refine go_get 63 dX5_count_60 fX5_10 wC_at0 rfl ?_
  refine go_get 66 dX5_count_63 fX5_81 xc_now rfl ?_
  refine go_get 69 dX5_count_66 fX5_73 (xwC h) rfl ?_
  exact go_ireturn dX5_count_69 rfl (by omega) (by omega) (⟨by rw [h.D5], rfl⟩)
set_option maxRecDepth 100000 in
set_option maxHeartbeats 4000000 in
theorem ct_X5_count_2 {l : Launch} {Γ : ZG} {w : ZW} {x : Nat} {C : CS} {D : ZD} {g : Option Nat} {sg : ZSg} (h : CR D g sg (C.1 0) D) {y0 : Int32} (hy : y0 = 2) : Cm l Γ mX5_count 3 [.ref x, .int y0] (wC Γ w x C) (some (.int (D 6))) (wC Γ w x C) := by
  subst hy
  refine Cm.of (by decide) rfl (Nat.le_of_ble_eq_true rfl) ?_
  refine go_iload_n 1 dX5_count_0 rfl ?_
  refine go_tableIn 70 dX5_count_1 (by decide) (by decide) rfl rfl ?_
  refine go_aload_n 71 dX5_count_70 rfl ?_
  refine go_get 74 dX5_count_71 fX5_10 wC_at0 rfl ?_
  refine go_get 77 dX5_count_74 fX5_84 xc_now rfl ?_
  refine go_get 80 dX5_count_77 fX5_73 (xwL h) rfl ?_
  exact go_ireturn dX5_count_80 rfl (by omega) (by omega) (⟨by rw [h.D6], rfl⟩)
set_option maxRecDepth 100000 in
set_option maxHeartbeats 4000000 in
theorem ct_X5_count_3 {l : Launch} {Γ : ZG} {w : ZW} {x : Nat} {C : CS} {D : ZD} {g : Option Nat} {sg : ZSg} (h : CR D g sg (C.1 0) D) {y0 : Int32} (hy : y0 = 3) : Cm l Γ mX5_count 3 [.ref x, .int y0] (wC Γ w x C) (some (.int (cntSt D 1))) (wC Γ w x C) := by
  subst hy
  refine Cm.of (by decide) rfl (Nat.le_of_ble_eq_true rfl) ?_
  refine go_iload_n 1 dX5_count_0 rfl ?_
  refine go_tableIn 81 dX5_count_1 (by decide) (by decide) rfl rfl ?_
  refine go_aload_n 82 dX5_count_81 rfl ?_
  refine go_get 85 dX5_count_82 fX5_10 wC_at0 rfl ?_
  refine go_iconst 86 dX5_count_85 zc_1 ?_
  refine gcV1 89 dX5_count_86 vX5_87 xc_now rfl (XCm0 (cx_X0_legsInState h)) ?_
  exact go_ireturn dX5_count_89 rfl (by omega) (by omega) (⟨rfl, rfl⟩)
set_option maxRecDepth 100000 in
set_option maxHeartbeats 4000000 in
theorem ct_X5_count_4 {l : Launch} {Γ : ZG} {w : ZW} {x : Nat} {C : CS} {D : ZD} {g : Option Nat} {sg : ZSg} (h : CR D g sg (C.1 0) D) {y0 : Int32} (hy : y0 = 4) : Cm l Γ mX5_count 3 [.ref x, .int y0] (wC Γ w x C) (some (.int (cntSt D 0))) (wC Γ w x C) := by
  subst hy
  refine Cm.of (by decide) rfl (Nat.le_of_ble_eq_true rfl) ?_
  refine go_iload_n 1 dX5_count_0 rfl ?_
  refine go_tableIn 90 dX5_count_1 (by decide) (by decide) rfl rfl ?_
  refine go_aload_n 91 dX5_count_90 rfl ?_
  refine go_get 94 dX5_count_91 fX5_10 wC_at0 rfl ?_
  refine go_iconst 95 dX5_count_94 zc_0 ?_
  refine gcV1 98 dX5_count_95 vX5_87 xc_now rfl (XCm0 (cx_X0_legsInState h)) ?_
  exact go_ireturn dX5_count_98 rfl (by omega) (by omega) (⟨rfl, rfl⟩)
set_option maxRecDepth 100000 in
set_option maxHeartbeats 4000000 in
theorem ct_X5_count_5 {l : Launch} {Γ : ZG} {w : ZW} {x : Nat} {C : CS} {D : ZD} {g : Option Nat} {sg : ZSg} (h : CR D g sg (C.1 0) D) {y0 : Int32} (hy : y0 = 5) : Cm l Γ mX5_count 3 [.ref x, .int y0] (wC Γ w x C) (some (.int (D 1))) (wC Γ w x C) := by
  subst hy
  refine Cm.of (by decide) rfl (Nat.le_of_ble_eq_true rfl) ?_
  refine go_iload_n 1 dX5_count_0 rfl ?_
  refine go_tableIn 99 dX5_count_1 (by decide) (by decide) rfl rfl ?_
  refine go_aload_n 100 dX5_count_99 rfl ?_
  refine go_get 103 dX5_count_100 fX5_10 wC_at0 rfl ?_
  refine go_get 106 dX5_count_103 fX5_90 xc_now rfl ?_
  exact go_ireturn dX5_count_106 rfl (by omega) (by omega) (⟨by rw [← h.1.2.1.2.1], rfl⟩)
set_option maxRecDepth 100000 in
set_option maxHeartbeats 4000000 in
theorem ct_X5_count_6 {l : Launch} {Γ : ZG} {w : ZW} {x : Nat} {C : CS} {D : ZD} {g : Option Nat} {sg : ZSg} (h : CR D g sg (C.1 0) D) {y0 : Int32} (hy : y0 = 6) : Cm l Γ mX5_count 3 [.ref x, .int y0] (wC Γ w x C) (some (.int (D 2))) (wC Γ w x C) := by
  subst hy
  refine Cm.of (by decide) rfl (Nat.le_of_ble_eq_true rfl) ?_
  refine go_iload_n 1 dX5_count_0 rfl ?_
  refine go_tableIn 107 dX5_count_1 (by decide) (by decide) rfl rfl ?_
  refine go_aload_n 108 dX5_count_107 rfl ?_
  refine go_get 111 dX5_count_108 fX5_10 wC_at0 rfl ?_
  refine go_get 114 dX5_count_111 fX5_93 xc_now rfl ?_
  exact go_ireturn dX5_count_114 rfl (by omega) (by omega) (⟨by rw [← h.1.2.1.2.2.1], rfl⟩)
set_option maxRecDepth 100000 in
set_option maxHeartbeats 4000000 in
theorem ct_X5_count_7 {l : Launch} {Γ : ZG} {w : ZW} {x : Nat} {C : CS} {D : ZD} {g : Option Nat} {sg : ZSg} (h : CR D g sg (C.1 0) D) {y0 : Int32} (hy : y0 = 7) : Cm l Γ mX5_count 3 [.ref x, .int y0] (wC Γ w x C) (some (.int (D 3))) (wC Γ w x C) := by
  subst hy
  refine Cm.of (by decide) rfl (Nat.le_of_ble_eq_true rfl) ?_
  refine go_iload_n 1 dX5_count_0 rfl ?_
  refine go_tableIn 115 dX5_count_1 (by decide) (by decide) rfl rfl ?_
  refine go_aload_n 116 dX5_count_115 rfl ?_
  refine go_get 119 dX5_count_116 fX5_10 wC_at0 rfl ?_
  refine go_get 122 dX5_count_119 fX5_96 xc_now rfl ?_
  exact go_ireturn dX5_count_122 rfl (by omega) (by omega) (⟨by rw [← h.1.2.1.2.2.2], rfl⟩)
set_option maxRecDepth 100000 in
set_option maxHeartbeats 4000000 in
theorem ct_X5_count_x {l : Launch} {Γ : ZG} {w : ZW} {x : Nat} {C : CS} {y0 : Int32} (hy : ¬ (0 ≤ y0 ∧ y0 ≤ 7)) : Ct l Γ mX5_count 6 1 6 [.ref x, .int y0] (wC Γ w x C) zNv (ThP "java/lang/IllegalArgumentException" (wC Γ w x C)) := by
  refine Ct.of (by decide) rfl (Nat.le_of_ble_eq_true rfl) ?_
  refine go_iload_n 1 dX5_count_0 rfl ?_
  refine go_tableOut 123 dX5_count_1 (by
    rw [Int32.le_iff_toInt_le, Int32.le_iff_toInt_le] at hy
    have e0 : (0 : Int32).toInt = 0 := rfl
    have e7 : (7 : Int32).toInt = 7 := rfl
    omega) rfl ?_
  exact go_throw (thI "what is out of range" 101 (by decide +kernel)) dX5_count_123 dX5_count_126 dX5_count_127 dX5_count_129 dX5_count_132 rfl (by decide) (by decide) (by decide) (Nat.le_of_ble_eq_true rfl) (fun w' a b => ⟨rfl, a, b⟩)
set_option maxRecDepth 100000 in
set_option maxHeartbeats 4000000 in
theorem ct_X5_party_1 {l : Launch} {Γ : ZG} {w : ZW} {x : Nat} {C : CS} {D : ZD} {g : Option Nat} {sg : ZSg} (h : CR D g sg (C.1 0) D) {y0 y1 : Int32} (h1 : ¬ (0 ≤ y0 ∧ y0 ≤ D 4 - 1)) : Ct l Γ mX5_party 7 1 6 [.ref x, .int y0, .int y1] (wC Γ w x C) zNv (ThP "java/lang/IndexOutOfBoundsException" (wC Γ w x C)) := by
  refine Ct.of (by decide) rfl (Nat.le_of_ble_eq_true rfl) ?_
  refine go_aload_n 1 dX5_party_0 rfl ?_
  refine go_iload_n 2 dX5_party_1 rfl ?_
  exact gt_V1 5 dX5_party_2 vX5_106 wC_at0 rfl (ct_X5_requireParty_n h h1) (fun w' a b => ⟨rfl, a, b⟩)
set_option maxRecDepth 100000 in
set_option maxHeartbeats 4000000 in
theorem ct_X5_party_2 {l : Launch} {Γ : ZG} {w : ZW} {x : Nat} {C : CS} {D : ZD} {g : Option Nat} {sg : ZSg} (h : CR D g sg (C.1 0) D) {y0 y1 : Int32} (h1 : 0 ≤ y0 ∧ y0 ≤ D 4 - 1) (h2 : ¬ (0 ≤ y1 ∧ y1 ≤ 5)) : Ct l Γ mX5_party 7 1 6 [.ref x, .int y0, .int y1] (wC Γ w x C) zNv (ThP "java/lang/IllegalArgumentException" (wC Γ w x C)) := by
  refine Ct.of (by decide) rfl (Nat.le_of_ble_eq_true rfl) ?_
  refine go_aload_n 1 dX5_party_0 rfl ?_
  refine go_iload_n 2 dX5_party_1 rfl ?_
  refine gcV1v 5 dX5_party_2 vX5_106 wC_at0 rfl (ct_X5_requireParty_y h h1) ?_
  refine go_iload_n 6 dX5_party_5 rfl ?_
  refine go_iconst 7 dX5_party_6 zc_0 ?_
  refine go_iconst 8 dX5_party_7 zc_5 ?_
  exact gt_S3 11 dX5_party_8 vX5_48 (ct_X5_requireRange_n (by exact h2)) (fun w' a b => ⟨rfl, a, b⟩)
set_option maxRecDepth 100000 in
set_option maxHeartbeats 4000000 in
theorem ct_X5_party_c0 {l : Launch} {Γ : ZG} {w : ZW} {x : Nat} {C : CS} {D : ZD} {g : Option Nat} {sg : ZSg} (h : CR D g sg (C.1 0) D) {y0 y1 : Int32} {k : Nat} (hx : y0 = nI k) (hk : k < nP D) (hy : y1 = 0) (h1 : 0 ≤ y0 ∧ y0 ≤ D 4 - 1) : Cm l Γ mX5_party 5 [.ref x, .int y0, .int y1] (wC Γ w x C) (some (.int (dP D k 0))) (wC Γ w x C) := by
  subst hy
  refine Cm.of (by decide) rfl (Nat.le_of_ble_eq_true rfl) ?_
  refine go_aload_n 1 dX5_party_0 rfl ?_
  refine go_iload_n 2 dX5_party_1 rfl ?_
  refine gcV1v 5 dX5_party_2 vX5_106 wC_at0 rfl (ct_X5_requireParty_y h h1) ?_
  refine go_iload_n 6 dX5_party_5 rfl ?_
  refine go_iconst 7 dX5_party_6 zc_0 ?_
  refine go_iconst 8 dX5_party_7 zc_5 ?_
  refine gcS3v 11 dX5_party_8 vX5_48 (ct_X5_requireRange_y (by exact ⟨by decide, by decide⟩)) ?_
  refine go_iload_n 12 dX5_party_11 rfl ?_
  refine go_tableOut 76 dX5_party_12 (by decide) rfl ?_
  refine go_aload_n 77 dX5_party_76 rfl ?_
  refine go_get 80 dX5_party_77 fX5_10 wC_at0 rfl ?_
  refine go_get 83 dX5_party_80 fX5_69 xc_now rfl ?_
  refine go_iload_n 84 dX5_party_83 rfl ?_
  refine go_iload_n 85 dX5_party_84 rfl ?_
  refine gcV2 88 dX5_party_85 vX5_119 (xwP h) rfl (XCm0 (cg_P (j := 0) h hx rfl hk (by decide))) ?_
  exact go_ireturn dX5_party_88 rfl (by omega) (by omega) (⟨rfl, rfl⟩)
set_option maxRecDepth 100000 in
set_option maxHeartbeats 4000000 in
theorem ct_X5_party_c1 {l : Launch} {Γ : ZG} {w : ZW} {x : Nat} {C : CS} {D : ZD} {g : Option Nat} {sg : ZSg} (h : CR D g sg (C.1 0) D) {y0 y1 : Int32} {k : Nat} (hx : y0 = nI k) (hk : k < nP D) (hy : y1 = 1) (h1 : 0 ≤ y0 ∧ y0 ≤ D 4 - 1) : Cm l Γ mX5_party 5 [.ref x, .int y0, .int y1] (wC Γ w x C) (some (.int (dP D k 1))) (wC Γ w x C) := by
  subst hy
  refine Cm.of (by decide) rfl (Nat.le_of_ble_eq_true rfl) ?_
  refine go_aload_n 1 dX5_party_0 rfl ?_
  refine go_iload_n 2 dX5_party_1 rfl ?_
  refine gcV1v 5 dX5_party_2 vX5_106 wC_at0 rfl (ct_X5_requireParty_y h h1) ?_
  refine go_iload_n 6 dX5_party_5 rfl ?_
  refine go_iconst 7 dX5_party_6 zc_0 ?_
  refine go_iconst 8 dX5_party_7 zc_5 ?_
  refine gcS3v 11 dX5_party_8 vX5_48 (ct_X5_requireRange_y (by exact ⟨by decide, by decide⟩)) ?_
  refine go_iload_n 12 dX5_party_11 rfl ?_
  refine go_tableOut 76 dX5_party_12 (by decide) rfl ?_
  refine go_aload_n 77 dX5_party_76 rfl ?_
  refine go_get 80 dX5_party_77 fX5_10 wC_at0 rfl ?_
  refine go_get 83 dX5_party_80 fX5_69 xc_now rfl ?_
  refine go_iload_n 84 dX5_party_83 rfl ?_
  refine go_iload_n 85 dX5_party_84 rfl ?_
  refine gcV2 88 dX5_party_85 vX5_119 (xwP h) rfl (XCm0 (cg_P (j := 1) h hx rfl hk (by decide))) ?_
  exact go_ireturn dX5_party_88 rfl (by omega) (by omega) (⟨rfl, rfl⟩)
set_option maxRecDepth 100000 in
set_option maxHeartbeats 4000000 in
theorem ct_X5_party_c2 {l : Launch} {Γ : ZG} {w : ZW} {x : Nat} {C : CS} {D : ZD} {g : Option Nat} {sg : ZSg} (h : CR D g sg (C.1 0) D) {y0 y1 : Int32} {k : Nat} (hx : y0 = nI k) (hk : k < nP D) (hy : y1 = 2) (h1 : 0 ≤ y0 ∧ y0 ≤ D 4 - 1) : Cm l Γ mX5_party 5 [.ref x, .int y0, .int y1] (wC Γ w x C) (some (.int (dP D k 2))) (wC Γ w x C) := by
  subst hy
  refine Cm.of (by decide) rfl (Nat.le_of_ble_eq_true rfl) ?_
  refine go_aload_n 1 dX5_party_0 rfl ?_
  refine go_iload_n 2 dX5_party_1 rfl ?_
  refine gcV1v 5 dX5_party_2 vX5_106 wC_at0 rfl (ct_X5_requireParty_y h h1) ?_
  refine go_iload_n 6 dX5_party_5 rfl ?_
  refine go_iconst 7 dX5_party_6 zc_0 ?_
  refine go_iconst 8 dX5_party_7 zc_5 ?_
  refine gcS3v 11 dX5_party_8 vX5_48 (ct_X5_requireRange_y (by exact ⟨by decide, by decide⟩)) ?_
  refine go_iload_n 12 dX5_party_11 rfl ?_
  refine go_tableOut 76 dX5_party_12 (by decide) rfl ?_
  refine go_aload_n 77 dX5_party_76 rfl ?_
  refine go_get 80 dX5_party_77 fX5_10 wC_at0 rfl ?_
  refine go_get 83 dX5_party_80 fX5_69 xc_now rfl ?_
  refine go_iload_n 84 dX5_party_83 rfl ?_
  refine go_iload_n 85 dX5_party_84 rfl ?_
  refine gcV2 88 dX5_party_85 vX5_119 (xwP h) rfl (XCm0 (cg_P (j := 2) h hx rfl hk (by decide))) ?_
  exact go_ireturn dX5_party_88 rfl (by omega) (by omega) (⟨rfl, rfl⟩)
set_option maxRecDepth 100000 in
set_option maxHeartbeats 4000000 in
theorem ct_X5_party_c3 {l : Launch} {Γ : ZG} {w : ZW} {x : Nat} {C : CS} {D : ZD} {g : Option Nat} {sg : ZSg} (h : CR D g sg (C.1 0) D) (hG : GI sg D) {y0 y1 : Int32} (hy : y1 = 3) (h1 : 0 ≤ y0 ∧ y0 ≤ D 4 - 1) : Cm l Γ mX5_party 5 [.ref x, .int y0, .int y1] (wC Γ w x C) (some (.int (zb (eng D y0)))) (wC Γ w x C) := by
  subst hy
  refine Cm.of (by decide) rfl (Nat.le_of_ble_eq_true rfl) ?_
  refine go_aload_n 1 dX5_party_0 rfl ?_
  refine go_iload_n 2 dX5_party_1 rfl ?_
  refine gcV1v 5 dX5_party_2 vX5_106 wC_at0 rfl (ct_X5_requireParty_y h h1) ?_
  refine go_iload_n 6 dX5_party_5 rfl ?_
  refine go_iconst 7 dX5_party_6 zc_0 ?_
  refine go_iconst 8 dX5_party_7 zc_5 ?_
  refine gcS3v 11 dX5_party_8 vX5_48 (ct_X5_requireRange_y (by exact ⟨by decide, by decide⟩)) ?_
  refine go_iload_n 12 dX5_party_11 rfl ?_
  refine go_tableIn 40 dX5_party_12 (by decide) (by decide) rfl rfl ?_
  refine go_aload_n 41 dX5_party_40 rfl ?_
  refine go_get 44 dX5_party_41 fX5_10 wC_at0 rfl ?_
  refine go_iload_n 45 dX5_party_44 rfl ?_
  refine gcV1 48 dX5_party_45 vX5_109 xc_now rfl (XCm0 (cx_X0_isEngaged h hG.jo.st)) ?_
  refine go_if_eq 55 51 dX5_party_48 (fun h48 => ?_) (fun h48 => ?_)
  · refine go_iconst 56 dX5_party_55 zc_0 ?_
    exact go_ireturn dX5_party_56 rfl (by omega) (by omega) (⟨congrArg (fun v => some (Value.int v)) (zbv0 (by first | exact h48 | exact Classical.not_not.mp h48)), rfl⟩)
  · refine go_iconst 52 dX5_party_51 zc_1 ?_
    refine go_goto 56 dX5_party_52 ?_
    exact go_ireturn dX5_party_56 rfl (by omega) (by omega) (⟨congrArg (fun v => some (Value.int v)) (zbv1 h48), rfl⟩)
set_option maxRecDepth 100000 in
set_option maxHeartbeats 4000000 in
theorem ct_X5_party_c4 {l : Launch} {Γ : ZG} {w : ZW} {x : Nat} {C : CS} {D : ZD} {g : Option Nat} {sg : ZSg} (h : CR D g sg (C.1 0) D) {y0 y1 : Int32} (hy : y1 = 4) (h1 : 0 ≤ y0 ∧ y0 ≤ D 4 - 1) : Cm l Γ mX5_party 5 [.ref x, .int y0, .int y1] (wC Γ w x C) (some (.int (legW D y0 1))) (wC Γ w x C) := by
  subst hy
  refine Cm.of (by decide) rfl (Nat.le_of_ble_eq_true rfl) ?_
  refine go_aload_n 1 dX5_party_0 rfl ?_
  refine go_iload_n 2 dX5_party_1 rfl ?_
  refine gcV1v 5 dX5_party_2 vX5_106 wC_at0 rfl (ct_X5_requireParty_y h h1) ?_
  refine go_iload_n 6 dX5_party_5 rfl ?_
  refine go_iconst 7 dX5_party_6 zc_0 ?_
  refine go_iconst 8 dX5_party_7 zc_5 ?_
  refine gcS3v 11 dX5_party_8 vX5_48 (ct_X5_requireRange_y (by exact ⟨by decide, by decide⟩)) ?_
  refine go_iload_n 12 dX5_party_11 rfl ?_
  refine go_tableIn 57 dX5_party_12 (by decide) (by decide) rfl rfl ?_
  refine go_aload_n 58 dX5_party_57 rfl ?_
  refine go_get 61 dX5_party_58 fX5_10 wC_at0 rfl ?_
  refine go_iload_n 62 dX5_party_61 rfl ?_
  refine go_iconst 63 dX5_party_62 zc_1 ?_
  refine gcV2 66 dX5_party_63 vX5_112 xc_now rfl (XCm0 (cx_X0_legOf h)) ?_
  exact go_ireturn dX5_party_66 rfl (by omega) (by omega) (⟨rfl, rfl⟩)
set_option maxRecDepth 100000 in
set_option maxHeartbeats 4000000 in
theorem ct_X5_party_c5 {l : Launch} {Γ : ZG} {w : ZW} {x : Nat} {C : CS} {D : ZD} {g : Option Nat} {sg : ZSg} (h : CR D g sg (C.1 0) D) {y0 y1 : Int32} (hy : y1 = 5) (h1 : 0 ≤ y0 ∧ y0 ≤ D 4 - 1) : Cm l Γ mX5_party 5 [.ref x, .int y0, .int y1] (wC Γ w x C) (some (.int (rung D y0))) (wC Γ w x C) := by
  subst hy
  refine Cm.of (by decide) rfl (Nat.le_of_ble_eq_true rfl) ?_
  refine go_aload_n 1 dX5_party_0 rfl ?_
  refine go_iload_n 2 dX5_party_1 rfl ?_
  refine gcV1v 5 dX5_party_2 vX5_106 wC_at0 rfl (ct_X5_requireParty_y h h1) ?_
  refine go_iload_n 6 dX5_party_5 rfl ?_
  refine go_iconst 7 dX5_party_6 zc_0 ?_
  refine go_iconst 8 dX5_party_7 zc_5 ?_
  refine gcS3v 11 dX5_party_8 vX5_48 (ct_X5_requireRange_y (by exact ⟨by decide, by decide⟩)) ?_
  refine go_iload_n 12 dX5_party_11 rfl ?_
  refine go_tableIn 67 dX5_party_12 (by decide) (by decide) rfl rfl ?_
  refine go_aload_n 68 dX5_party_67 rfl ?_
  refine go_get 71 dX5_party_68 fX5_10 wC_at0 rfl ?_
  refine go_iload_n 72 dX5_party_71 rfl ?_
  refine gcV1 75 dX5_party_72 vX5_116 xc_now rfl (XCm0 (cx_X0_legsRingingAt h)) ?_
  exact go_ireturn dX5_party_75 rfl (by omega) (by omega) (⟨rfl, rfl⟩)
theorem ct_X5_party {l : Launch} {Γ : ZG} {w : ZW} {x : Nat} {C : CS} {D : ZD} {g : Option Nat} {sg : ZSg} (h : CR D g sg (C.1 0) D) (hG : GI sg D) {y0 y1 : Int32} {k j : Nat} (hx : y0 = nI k) (hk : k < nP D) (hy : y1 = nI j) (hj : j < 6) (h1 : 0 ≤ y0 ∧ y0 ≤ D 4 - 1) : Cm l Γ mX5_party 5 [.ref x, .int y0, .int y1] (wC Γ w x C) (some (.int (tellP D k j))) (wC Γ w x C) := by
  rcases (show j = 0 ∨ j = 1 ∨ j = 2 ∨ j = 3 ∨ j = 4 ∨ j = 5 by omega) with rfl | rfl | rfl | rfl | rfl | rfl
  · exact ct_X5_party_c0 h hx hk hy h1
  · exact ct_X5_party_c1 h hx hk hy h1
  · exact ct_X5_party_c2 h hx hk hy h1
  · rw [hx] at h1 ⊢; exact ct_X5_party_c3 h hG hy h1
  · rw [hx] at h1 ⊢; exact ct_X5_party_c4 h hy h1
  · rw [hx] at h1 ⊢; exact ct_X5_party_c5 h hy h1
set_option maxRecDepth 100000 in
set_option maxHeartbeats 4000000 in
theorem ct_X5_call_1 {l : Launch} {Γ : ZG} {w : ZW} {x : Nat} {C : CS} {D : ZD} {g : Option Nat} {sg : ZSg} (h : CR D g sg (C.1 0) D) {y0 y1 : Int32} (h1 : ¬ (0 ≤ y0 ∧ y0 ≤ D 5 - 1)) : Ct l Γ mX5_call 7 1 6 [.ref x, .int y0, .int y1] (wC Γ w x C) zNv (ThP "java/lang/IndexOutOfBoundsException" (wC Γ w x C)) := by
  refine Ct.of (by decide) rfl (Nat.le_of_ble_eq_true rfl) ?_
  refine go_aload_n 1 dX5_call_0 rfl ?_
  refine go_iload_n 2 dX5_call_1 rfl ?_
  exact gt_V1 5 dX5_call_2 vX5_122 wC_at0 rfl (ct_X5_requireCall_n h h1) (fun w' a b => ⟨rfl, a, b⟩)
set_option maxRecDepth 100000 in
set_option maxHeartbeats 4000000 in
theorem ct_X5_call_2 {l : Launch} {Γ : ZG} {w : ZW} {x : Nat} {C : CS} {D : ZD} {g : Option Nat} {sg : ZSg} (h : CR D g sg (C.1 0) D) {y0 y1 : Int32} (h1 : 0 ≤ y0 ∧ y0 ≤ D 5 - 1) (h2 : ¬ (0 ≤ y1 ∧ y1 ≤ 5)) : Ct l Γ mX5_call 7 1 6 [.ref x, .int y0, .int y1] (wC Γ w x C) zNv (ThP "java/lang/IllegalArgumentException" (wC Γ w x C)) := by
  refine Ct.of (by decide) rfl (Nat.le_of_ble_eq_true rfl) ?_
  refine go_aload_n 1 dX5_call_0 rfl ?_
  refine go_iload_n 2 dX5_call_1 rfl ?_
  refine gcV1v 5 dX5_call_2 vX5_122 wC_at0 rfl (ct_X5_requireCall_y h h1) ?_
  refine go_iload_n 6 dX5_call_5 rfl ?_
  refine go_iconst 7 dX5_call_6 zc_0 ?_
  refine go_iconst 8 dX5_call_7 zc_5 ?_
  exact gt_S3 11 dX5_call_8 vX5_48 (ct_X5_requireRange_n (by exact h2)) (fun w' a b => ⟨rfl, a, b⟩)
set_option maxRecDepth 100000 in
set_option maxHeartbeats 4000000 in
theorem ct_X5_call_c0 {l : Launch} {Γ : ZG} {w : ZW} {x : Nat} {C : CS} {D : ZD} {g : Option Nat} {sg : ZSg} (h : CR D g sg (C.1 0) D) {y0 y1 : Int32} {k : Nat} (hx : y0 = nI k) (hk : k < nC D) (hy : y1 = 0) (h1 : 0 ≤ y0 ∧ y0 ≤ D 5 - 1) : Cm l Γ mX5_call 4 [.ref x, .int y0, .int y1] (wC Γ w x C) (some (.int (dC D k 0))) (wC Γ w x C) := by
  subst hy
  refine Cm.of (by decide) rfl (Nat.le_of_ble_eq_true rfl) ?_
  refine go_aload_n 1 dX5_call_0 rfl ?_
  refine go_iload_n 2 dX5_call_1 rfl ?_
  refine gcV1v 5 dX5_call_2 vX5_122 wC_at0 rfl (ct_X5_requireCall_y h h1) ?_
  refine go_iload_n 6 dX5_call_5 rfl ?_
  refine go_iconst 7 dX5_call_6 zc_0 ?_
  refine go_iconst 8 dX5_call_7 zc_5 ?_
  refine gcS3v 11 dX5_call_8 vX5_48 (ct_X5_requireRange_y (by exact ⟨by decide, by decide⟩)) ?_
  refine go_iload_n 12 dX5_call_11 rfl ?_
  refine go_iconst 13 dX5_call_12 zc_4 ?_
  refine go_icmp_ne 33 16 dX5_call_13 (fun h13 => ?_) (fun h13 => ?_)
  · refine go_aload_n 34 dX5_call_33 rfl ?_
    refine go_get 37 dX5_call_34 fX5_10 wC_at0 rfl ?_
    refine go_get 40 dX5_call_37 fX5_81 xc_now rfl ?_
    refine go_iload_n 41 dX5_call_40 rfl ?_
    refine go_iload_n 42 dX5_call_41 rfl ?_
    refine gcV2 45 dX5_call_42 vX5_119 (xwC h) rfl (XCm0 (cg_C (j := 0) h hx rfl hk (by decide))) ?_
    exact go_ireturn dX5_call_45 rfl (by omega) (by omega) (⟨rfl, rfl⟩)
  · exact absurd h13 (by decide)
set_option maxRecDepth 100000 in
set_option maxHeartbeats 4000000 in
theorem ct_X5_call_c1 {l : Launch} {Γ : ZG} {w : ZW} {x : Nat} {C : CS} {D : ZD} {g : Option Nat} {sg : ZSg} (h : CR D g sg (C.1 0) D) {y0 y1 : Int32} {k : Nat} (hx : y0 = nI k) (hk : k < nC D) (hy : y1 = 1) (h1 : 0 ≤ y0 ∧ y0 ≤ D 5 - 1) : Cm l Γ mX5_call 4 [.ref x, .int y0, .int y1] (wC Γ w x C) (some (.int (dC D k 1))) (wC Γ w x C) := by
  subst hy
  refine Cm.of (by decide) rfl (Nat.le_of_ble_eq_true rfl) ?_
  refine go_aload_n 1 dX5_call_0 rfl ?_
  refine go_iload_n 2 dX5_call_1 rfl ?_
  refine gcV1v 5 dX5_call_2 vX5_122 wC_at0 rfl (ct_X5_requireCall_y h h1) ?_
  refine go_iload_n 6 dX5_call_5 rfl ?_
  refine go_iconst 7 dX5_call_6 zc_0 ?_
  refine go_iconst 8 dX5_call_7 zc_5 ?_
  refine gcS3v 11 dX5_call_8 vX5_48 (ct_X5_requireRange_y (by exact ⟨by decide, by decide⟩)) ?_
  refine go_iload_n 12 dX5_call_11 rfl ?_
  refine go_iconst 13 dX5_call_12 zc_4 ?_
  refine go_icmp_ne 33 16 dX5_call_13 (fun h13 => ?_) (fun h13 => ?_)
  · refine go_aload_n 34 dX5_call_33 rfl ?_
    refine go_get 37 dX5_call_34 fX5_10 wC_at0 rfl ?_
    refine go_get 40 dX5_call_37 fX5_81 xc_now rfl ?_
    refine go_iload_n 41 dX5_call_40 rfl ?_
    refine go_iload_n 42 dX5_call_41 rfl ?_
    refine gcV2 45 dX5_call_42 vX5_119 (xwC h) rfl (XCm0 (cg_C (j := 1) h hx rfl hk (by decide))) ?_
    exact go_ireturn dX5_call_45 rfl (by omega) (by omega) (⟨rfl, rfl⟩)
  · exact absurd h13 (by decide)
set_option maxRecDepth 100000 in
set_option maxHeartbeats 4000000 in
theorem ct_X5_call_c2 {l : Launch} {Γ : ZG} {w : ZW} {x : Nat} {C : CS} {D : ZD} {g : Option Nat} {sg : ZSg} (h : CR D g sg (C.1 0) D) {y0 y1 : Int32} {k : Nat} (hx : y0 = nI k) (hk : k < nC D) (hy : y1 = 2) (h1 : 0 ≤ y0 ∧ y0 ≤ D 5 - 1) : Cm l Γ mX5_call 4 [.ref x, .int y0, .int y1] (wC Γ w x C) (some (.int (dC D k 2))) (wC Γ w x C) := by
  subst hy
  refine Cm.of (by decide) rfl (Nat.le_of_ble_eq_true rfl) ?_
  refine go_aload_n 1 dX5_call_0 rfl ?_
  refine go_iload_n 2 dX5_call_1 rfl ?_
  refine gcV1v 5 dX5_call_2 vX5_122 wC_at0 rfl (ct_X5_requireCall_y h h1) ?_
  refine go_iload_n 6 dX5_call_5 rfl ?_
  refine go_iconst 7 dX5_call_6 zc_0 ?_
  refine go_iconst 8 dX5_call_7 zc_5 ?_
  refine gcS3v 11 dX5_call_8 vX5_48 (ct_X5_requireRange_y (by exact ⟨by decide, by decide⟩)) ?_
  refine go_iload_n 12 dX5_call_11 rfl ?_
  refine go_iconst 13 dX5_call_12 zc_4 ?_
  refine go_icmp_ne 33 16 dX5_call_13 (fun h13 => ?_) (fun h13 => ?_)
  · refine go_aload_n 34 dX5_call_33 rfl ?_
    refine go_get 37 dX5_call_34 fX5_10 wC_at0 rfl ?_
    refine go_get 40 dX5_call_37 fX5_81 xc_now rfl ?_
    refine go_iload_n 41 dX5_call_40 rfl ?_
    refine go_iload_n 42 dX5_call_41 rfl ?_
    refine gcV2 45 dX5_call_42 vX5_119 (xwC h) rfl (XCm0 (cg_C (j := 2) h hx rfl hk (by decide))) ?_
    exact go_ireturn dX5_call_45 rfl (by omega) (by omega) (⟨rfl, rfl⟩)
  · exact absurd h13 (by decide)
set_option maxRecDepth 100000 in
set_option maxHeartbeats 4000000 in
theorem ct_X5_call_c3 {l : Launch} {Γ : ZG} {w : ZW} {x : Nat} {C : CS} {D : ZD} {g : Option Nat} {sg : ZSg} (h : CR D g sg (C.1 0) D) {y0 y1 : Int32} {k : Nat} (hx : y0 = nI k) (hk : k < nC D) (hy : y1 = 3) (h1 : 0 ≤ y0 ∧ y0 ≤ D 5 - 1) : Cm l Γ mX5_call 4 [.ref x, .int y0, .int y1] (wC Γ w x C) (some (.int (dC D k 3))) (wC Γ w x C) := by
  subst hy
  refine Cm.of (by decide) rfl (Nat.le_of_ble_eq_true rfl) ?_
  refine go_aload_n 1 dX5_call_0 rfl ?_
  refine go_iload_n 2 dX5_call_1 rfl ?_
  refine gcV1v 5 dX5_call_2 vX5_122 wC_at0 rfl (ct_X5_requireCall_y h h1) ?_
  refine go_iload_n 6 dX5_call_5 rfl ?_
  refine go_iconst 7 dX5_call_6 zc_0 ?_
  refine go_iconst 8 dX5_call_7 zc_5 ?_
  refine gcS3v 11 dX5_call_8 vX5_48 (ct_X5_requireRange_y (by exact ⟨by decide, by decide⟩)) ?_
  refine go_iload_n 12 dX5_call_11 rfl ?_
  refine go_iconst 13 dX5_call_12 zc_4 ?_
  refine go_icmp_ne 33 16 dX5_call_13 (fun h13 => ?_) (fun h13 => ?_)
  · refine go_aload_n 34 dX5_call_33 rfl ?_
    refine go_get 37 dX5_call_34 fX5_10 wC_at0 rfl ?_
    refine go_get 40 dX5_call_37 fX5_81 xc_now rfl ?_
    refine go_iload_n 41 dX5_call_40 rfl ?_
    refine go_iload_n 42 dX5_call_41 rfl ?_
    refine gcV2 45 dX5_call_42 vX5_119 (xwC h) rfl (XCm0 (cg_C (j := 3) h hx rfl hk (by decide))) ?_
    exact go_ireturn dX5_call_45 rfl (by omega) (by omega) (⟨rfl, rfl⟩)
  · exact absurd h13 (by decide)
set_option maxRecDepth 100000 in
set_option maxHeartbeats 4000000 in
theorem ct_X5_call_c5 {l : Launch} {Γ : ZG} {w : ZW} {x : Nat} {C : CS} {D : ZD} {g : Option Nat} {sg : ZSg} (h : CR D g sg (C.1 0) D) {y0 y1 : Int32} {k : Nat} (hx : y0 = nI k) (hk : k < nC D) (hy : y1 = 5) (h1 : 0 ≤ y0 ∧ y0 ≤ D 5 - 1) : Cm l Γ mX5_call 4 [.ref x, .int y0, .int y1] (wC Γ w x C) (some (.int (dC D k 4))) (wC Γ w x C) := by
  subst hy
  refine Cm.of (by decide) rfl (Nat.le_of_ble_eq_true rfl) ?_
  refine go_aload_n 1 dX5_call_0 rfl ?_
  refine go_iload_n 2 dX5_call_1 rfl ?_
  refine gcV1v 5 dX5_call_2 vX5_122 wC_at0 rfl (ct_X5_requireCall_y h h1) ?_
  refine go_iload_n 6 dX5_call_5 rfl ?_
  refine go_iconst 7 dX5_call_6 zc_0 ?_
  refine go_iconst 8 dX5_call_7 zc_5 ?_
  refine gcS3v 11 dX5_call_8 vX5_48 (ct_X5_requireRange_y (by exact ⟨by decide, by decide⟩)) ?_
  refine go_iload_n 12 dX5_call_11 rfl ?_
  refine go_iconst 13 dX5_call_12 zc_4 ?_
  refine go_icmp_ne 33 16 dX5_call_13 (fun h13 => ?_) (fun h13 => ?_)
  · refine go_aload_n 34 dX5_call_33 rfl ?_
    refine go_get 37 dX5_call_34 fX5_10 wC_at0 rfl ?_
    refine go_get 40 dX5_call_37 fX5_81 xc_now rfl ?_
    refine go_iload_n 41 dX5_call_40 rfl ?_
    refine go_iload_n 42 dX5_call_41 rfl ?_
    refine gcV2 45 dX5_call_42 vX5_119 (xwC h) rfl (XCm0 (cg_C5 h hx rfl hk)) ?_
    exact go_ireturn dX5_call_45 rfl (by omega) (by omega) (⟨rfl, rfl⟩)
  · exact absurd h13 (by decide)
set_option maxRecDepth 100000 in
set_option maxHeartbeats 4000000 in
theorem ct_X5_call_c4 {l : Launch} {Γ : ZG} {w : ZW} {x : Nat} {C : CS} {D : ZD} {g : Option Nat} {sg : ZSg} (h : CR D g sg (C.1 0) D) (hG : GI sg D) {y0 y1 : Int32} {k : Nat} (hx : y0 = nI k) (hk : k < nC D) (hy : y1 = 4) (h1 : 0 ≤ y0 ∧ y0 ≤ D 5 - 1) : Cm l Γ mX5_call 4 [.ref x, .int y0, .int y1] (wC Γ w x C) (some (.int (zb (rngs D (nI k))))) (wC Γ w x C) := by
  subst hy
  refine Cm.of (by decide) rfl (Nat.le_of_ble_eq_true rfl) ?_
  refine go_aload_n 1 dX5_call_0 rfl ?_
  refine go_iload_n 2 dX5_call_1 rfl ?_
  refine gcV1v 5 dX5_call_2 vX5_122 wC_at0 rfl (ct_X5_requireCall_y h h1) ?_
  refine go_iload_n 6 dX5_call_5 rfl ?_
  refine go_iconst 7 dX5_call_6 zc_0 ?_
  refine go_iconst 8 dX5_call_7 zc_5 ?_
  refine gcS3v 11 dX5_call_8 vX5_48 (ct_X5_requireRange_y (by exact ⟨by decide, by decide⟩)) ?_
  refine go_iload_n 12 dX5_call_11 rfl ?_
  refine go_iconst 13 dX5_call_12 zc_4 ?_
  refine go_icmp_ne 33 16 dX5_call_13 (fun h13 => ?_) (fun h13 => ?_)
  · exact absurd rfl h13
  · refine go_aload_n 17 dX5_call_16 rfl ?_
    refine go_get 20 dX5_call_17 fX5_10 wC_at0 rfl ?_
    refine go_iload_n 21 dX5_call_20 rfl ?_
    refine gcV1 24 dX5_call_21 vX5_125 xc_now rfl (XCm0 (cx_X0_rings h hG.seg hx hk)) ?_
    refine go_if_eq 31 27 dX5_call_24 (fun h24 => ?_) (fun h24 => ?_)
    · refine go_iconst 32 dX5_call_31 zc_0 ?_
      exact go_ireturn dX5_call_32 rfl (by omega) (by omega) (⟨congrArg (fun v => some (Value.int v)) (zbv0 (by first | exact h24 | exact Classical.not_not.mp h24)), rfl⟩)
    · refine go_iconst 28 dX5_call_27 zc_1 ?_
      refine go_goto 32 dX5_call_28 ?_
      exact go_ireturn dX5_call_32 rfl (by omega) (by omega) (⟨congrArg (fun v => some (Value.int v)) (zbv1 h24), rfl⟩)
theorem ct_X5_call {l : Launch} {Γ : ZG} {w : ZW} {x : Nat} {C : CS} {D : ZD} {g : Option Nat} {sg : ZSg} (h : CR D g sg (C.1 0) D) (hG : GI sg D) {y0 y1 : Int32} {k j : Nat} (hx : y0 = nI k) (hk : k < nC D) (hy : y1 = nI j) (hj : j < 6) (h1 : 0 ≤ y0 ∧ y0 ≤ D 5 - 1) : Cm l Γ mX5_call 4 [.ref x, .int y0, .int y1] (wC Γ w x C) (some (.int (tellC D k j))) (wC Γ w x C) := by
  rcases (show j = 0 ∨ j = 1 ∨ j = 2 ∨ j = 3 ∨ j = 4 ∨ j = 5 by omega) with rfl | rfl | rfl | rfl | rfl | rfl
  · exact ct_X5_call_c0 h hx hk hy h1
  · exact ct_X5_call_c1 h hx hk hy h1
  · exact ct_X5_call_c2 h hx hk hy h1
  · exact ct_X5_call_c3 h hx hk hy h1
  · exact ct_X5_call_c4 h hG hx hk hy h1
  · exact ct_X5_call_c5 h hx hk hy h1
set_option maxRecDepth 100000 in
set_option maxHeartbeats 4000000 in
theorem ct_X5_leg_1 {l : Launch} {Γ : ZG} {w : ZW} {x : Nat} {C : CS} {D : ZD} {g : Option Nat} {sg : ZSg} (h : CR D g sg (C.1 0) D) {y0 y1 : Int32} (h1 : ¬ (0 ≤ y0 ∧ y0 ≤ D 6 - 1)) : Ct l Γ mX5_leg 7 1 6 [.ref x, .int y0, .int y1] (wC Γ w x C) zNv (ThP "java/lang/IndexOutOfBoundsException" (wC Γ w x C)) := by
  refine Ct.of (by decide) rfl (Nat.le_of_ble_eq_true rfl) ?_
  refine go_aload_n 1 dX5_leg_0 rfl ?_
  refine go_iload_n 2 dX5_leg_1 rfl ?_
  exact gt_V1 5 dX5_leg_2 vX5_128 wC_at0 rfl (ct_X5_requireLeg_n h h1) (fun w' a b => ⟨rfl, a, b⟩)
set_option maxRecDepth 100000 in
set_option maxHeartbeats 4000000 in
theorem ct_X5_leg_2 {l : Launch} {Γ : ZG} {w : ZW} {x : Nat} {C : CS} {D : ZD} {g : Option Nat} {sg : ZSg} (h : CR D g sg (C.1 0) D) {y0 y1 : Int32} (h1 : 0 ≤ y0 ∧ y0 ≤ D 6 - 1) (h2 : ¬ (0 ≤ y1 ∧ y1 ≤ 5)) : Ct l Γ mX5_leg 7 1 6 [.ref x, .int y0, .int y1] (wC Γ w x C) zNv (ThP "java/lang/IllegalArgumentException" (wC Γ w x C)) := by
  refine Ct.of (by decide) rfl (Nat.le_of_ble_eq_true rfl) ?_
  refine go_aload_n 1 dX5_leg_0 rfl ?_
  refine go_iload_n 2 dX5_leg_1 rfl ?_
  refine gcV1v 5 dX5_leg_2 vX5_128 wC_at0 rfl (ct_X5_requireLeg_y h h1) ?_
  refine go_iload_n 6 dX5_leg_5 rfl ?_
  refine go_iconst 7 dX5_leg_6 zc_0 ?_
  refine go_iconst 8 dX5_leg_7 zc_5 ?_
  exact gt_S3 11 dX5_leg_8 vX5_48 (ct_X5_requireRange_n (by exact h2)) (fun w' a b => ⟨rfl, a, b⟩)
set_option maxRecDepth 100000 in
set_option maxHeartbeats 4000000 in
theorem ct_X5_leg {l : Launch} {Γ : ZG} {w : ZW} {x : Nat} {C : CS} {D : ZD} {g : Option Nat} {sg : ZSg} (h : CR D g sg (C.1 0) D) {y0 y1 : Int32} {k j : Nat} (hx : y0 = nI k) (hk : k < nL D) (hy : y1 = nI j) (hj : j < 6) (h1 : 0 ≤ y0 ∧ y0 ≤ D 6 - 1) (h2 : 0 ≤ y1 ∧ y1 ≤ 5) : Cm l Γ mX5_leg 3 [.ref x, .int y0, .int y1] (wC Γ w x C) (some (.int (dL D k j))) (wC Γ w x C) := by
  refine Cm.of (by decide) rfl (Nat.le_of_ble_eq_true rfl) ?_
  refine go_aload_n 1 dX5_leg_0 rfl ?_
  refine go_iload_n 2 dX5_leg_1 rfl ?_
  refine gcV1v 5 dX5_leg_2 vX5_128 wC_at0 rfl (ct_X5_requireLeg_y h h1) ?_
  refine go_iload_n 6 dX5_leg_5 rfl ?_
  refine go_iconst 7 dX5_leg_6 zc_0 ?_
  refine go_iconst 8 dX5_leg_7 zc_5 ?_
  refine gcS3v 11 dX5_leg_8 vX5_48 (ct_X5_requireRange_y (by exact h2)) ?_
  refine go_aload_n 12 dX5_leg_11 rfl ?_
  refine go_get 15 dX5_leg_12 fX5_10 wC_at0 rfl ?_
  refine go_get 18 dX5_leg_15 fX5_84 xc_now rfl ?_
  refine go_iload_n 19 dX5_leg_18 rfl ?_
  refine go_iload_n 20 dX5_leg_19 rfl ?_
  refine gcV2 23 dX5_leg_20 vX5_119 (xwL h) rfl (XCm0 (cg_L h hx hy hk (by omega))) ?_
  exact go_ireturn dX5_leg_23 rfl (by omega) (by omega) (⟨rfl, rfl⟩)
set_option maxRecDepth 100000 in
set_option maxHeartbeats 4000000 in
theorem ct_X5_repetition_1 {l : Launch} {Γ : ZG} {w : ZW} {x : Nat} {C : CS} {D : ZD} {g : Option Nat} {sg : ZSg} (h : CR D g sg (C.1 0) D) {y0 y1 : Int32} (h1 : ¬ (0 ≤ y0 ∧ y0 ≤ D 6 - 1)) : Ct l Γ mX5_repetition 7 1 6 [.ref x, .int y0, .int y1] (wC Γ w x C) zNv (ThP "java/lang/IndexOutOfBoundsException" (wC Γ w x C)) := by
  refine Ct.of (by decide) rfl (Nat.le_of_ble_eq_true rfl) ?_
  refine go_aload_n 1 dX5_repetition_0 rfl ?_
  refine go_iload_n 2 dX5_repetition_1 rfl ?_
  exact gt_V1 5 dX5_repetition_2 vX5_128 wC_at0 rfl (ct_X5_requireLeg_n h h1) (fun w' a b => ⟨rfl, a, b⟩)
set_option maxRecDepth 100000 in
set_option maxHeartbeats 4000000 in
theorem ct_X5_repetition_2 {l : Launch} {Γ : ZG} {w : ZW} {x : Nat} {C : CS} {D : ZD} {g : Option Nat} {sg : ZSg} (h : CR D g sg (C.1 0) D) {y0 y1 : Int32} (h1 : 0 ≤ y0 ∧ y0 ≤ D 6 - 1) (h2 : ¬ (0 ≤ y1 ∧ y1 ≤ 1)) : Ct l Γ mX5_repetition 7 1 6 [.ref x, .int y0, .int y1] (wC Γ w x C) zNv (ThP "java/lang/IllegalArgumentException" (wC Γ w x C)) := by
  refine Ct.of (by decide) rfl (Nat.le_of_ble_eq_true rfl) ?_
  refine go_aload_n 1 dX5_repetition_0 rfl ?_
  refine go_iload_n 2 dX5_repetition_1 rfl ?_
  refine gcV1v 5 dX5_repetition_2 vX5_128 wC_at0 rfl (ct_X5_requireLeg_y h h1) ?_
  refine go_iload_n 6 dX5_repetition_5 rfl ?_
  refine go_iconst 7 dX5_repetition_6 zc_0 ?_
  refine go_iconst 8 dX5_repetition_7 zc_1 ?_
  exact gt_S3 11 dX5_repetition_8 vX5_48 (ct_X5_requireRange_n (by exact h2)) (fun w' a b => ⟨rfl, a, b⟩)
set_option maxRecDepth 100000 in
set_option maxHeartbeats 4000000 in
theorem ct_X5_repetition {l : Launch} {Γ : ZG} {w : ZW} {x : Nat} {C : CS} {D : ZD} {g : Option Nat} {sg : ZSg} (h : CR D g sg (C.1 0) D) {y0 y1 : Int32} {k j : Nat} (hx : y0 = nI k) (hk : k < nL D) (hy : y1 = nI j) (hj : j < 2) (h1 : 0 ≤ y0 ∧ y0 ≤ D 6 - 1) (h2 : 0 ≤ y1 ∧ y1 ≤ 1) : Cm l Γ mX5_repetition 3 [.ref x, .int y0, .int y1] (wC Γ w x C) (some (.int (dL D k (9 + j)))) (wC Γ w x C) := by
  refine Cm.of (by decide) rfl (Nat.le_of_ble_eq_true rfl) ?_
  refine go_aload_n 1 dX5_repetition_0 rfl ?_
  refine go_iload_n 2 dX5_repetition_1 rfl ?_
  refine gcV1v 5 dX5_repetition_2 vX5_128 wC_at0 rfl (ct_X5_requireLeg_y h h1) ?_
  refine go_iload_n 6 dX5_repetition_5 rfl ?_
  refine go_iconst 7 dX5_repetition_6 zc_0 ?_
  refine go_iconst 8 dX5_repetition_7 zc_1 ?_
  refine gcS3v 11 dX5_repetition_8 vX5_48 (ct_X5_requireRange_y (by exact h2)) ?_
  refine go_aload_n 12 dX5_repetition_11 rfl ?_
  refine go_get 15 dX5_repetition_12 fX5_10 wC_at0 rfl ?_
  refine go_get 18 dX5_repetition_15 fX5_84 xc_now rfl ?_
  refine go_iload_n 19 dX5_repetition_18 rfl ?_
  refine go_bipush 21 dX5_repetition_19 zb_9 ?_
  refine go_iload_n 22 dX5_repetition_21 rfl ?_
  refine go_iadd 23 dX5_repetition_22 ?_
  refine gcV2 26 dX5_repetition_23 vX5_119 (xwL h) rfl (XCm0 (cg_L h hx (by rw [hy]; exact nI_add 9 _) hk (by omega))) ?_
  exact go_ireturn dX5_repetition_26 rfl (by omega) (by omega) (⟨rfl, rfl⟩)
set_option maxRecDepth 100000 in
set_option maxHeartbeats 4000000 in
theorem ct_X5_total_x {l : Launch} {Γ : ZG} {w : ZW} {x : Nat} {C : CS} {y0 : Int32} (h2 : ¬ (0 ≤ y0 ∧ y0 ≤ 6)) : Ct l Γ mX5_total 7 1 6 [.ref x, .int y0] (wC Γ w x C) zNv (ThP "java/lang/IllegalArgumentException" (wC Γ w x C)) := by
  refine Ct.of (by decide) rfl (Nat.le_of_ble_eq_true rfl) ?_
  refine go_iload_n 1 dX5_total_0 rfl ?_
  refine go_iconst 2 dX5_total_1 zc_0 ?_
  refine go_bipush 4 dX5_total_2 zb_6 ?_
  exact gt_S3 7 dX5_total_4 vX5_48 (ct_X5_requireRange_n (by exact h2)) (fun w' a b => ⟨rfl, a, b⟩)
set_option maxRecDepth 100000 in
set_option maxHeartbeats 4000000 in
theorem ct_X5_total {l : Launch} {Γ : ZG} {w : ZW} {x : Nat} {C : CS} {D : ZD} {g : Option Nat} {sg : ZSg} (h : CR D g sg (C.1 0) D) {y0 : Int32} {j : Nat} (hy : y0 = nI j) (hj : j < 7) (h2 : 0 ≤ y0 ∧ y0 ≤ 6) : Cm l Γ mX5_total 2 [.ref x, .int y0] (wC Γ w x C) (some (.int (D (9 + j)))) (wC Γ w x C) := by
  refine Cm.of (by decide) rfl (Nat.le_of_ble_eq_true rfl) ?_
  refine go_iload_n 1 dX5_total_0 rfl ?_
  refine go_iconst 2 dX5_total_1 zc_0 ?_
  refine go_bipush 4 dX5_total_2 zb_6 ?_
  refine gcS3v 7 dX5_total_4 vX5_48 (ct_X5_requireRange_y (by exact h2)) ?_
  refine go_aload_n 8 dX5_total_7 rfl ?_
  refine go_get 11 dX5_total_8 fX5_10 wC_at0 rfl ?_
  refine go_get 14 dX5_total_11 fX5_136 xc_now rfl ?_
  refine go_iconst 15 dX5_total_14 zc_0 ?_
  refine go_iload_n 16 dX5_total_15 rfl ?_
  refine gcV2 19 dX5_total_16 vX5_119 (xwT h) rfl (XCm0 (cg_T h hy hj)) ?_
  exact go_ireturn dX5_total_19 rfl (by omega) (by omega) (⟨rfl, rfl⟩)
set_option maxRecDepth 100000 in
set_option maxHeartbeats 4000000 in
theorem ct_X5_pending_1 {l : Launch} {Γ : ZG} {w : ZW} {x : Nat} {C : CS} {D : ZD} {g : Option Nat} {sg : ZSg} (h : CR D g sg (C.1 0) D) {y0 y1 : Int32} (h1 : ¬ (0 ≤ y0 ∧ y0 ≤ D 6 - 1)) : Ct l Γ mX5_pending 7 1 6 [.ref x, .int y0, .int y1] (wC Γ w x C) zNv (ThP "java/lang/IndexOutOfBoundsException" (wC Γ w x C)) := by
  refine Ct.of (by decide) rfl (Nat.le_of_ble_eq_true rfl) ?_
  refine go_aload_n 1 dX5_pending_0 rfl ?_
  refine go_iload_n 2 dX5_pending_1 rfl ?_
  exact gt_V1 5 dX5_pending_2 vX5_128 wC_at0 rfl (ct_X5_requireLeg_n h h1) (fun w' a b => ⟨rfl, a, b⟩)
set_option maxRecDepth 100000 in
set_option maxHeartbeats 4000000 in
theorem ct_X5_pending_3 {l : Launch} {Γ : ZG} {w : ZW} {x : Nat} {C : CS} {D : ZD} {g : Option Nat} {sg : ZSg} (h : CR D g sg (C.1 0) D) {y0 y1 : Int32} {k : Nat} (hx : y0 = nI k) (hk : k < nL D) (h1 : 0 ≤ y0 ∧ y0 ≤ D 6 - 1) (h3 : ¬ dL D k 6 = -1) (h2 : ¬ (0 ≤ y1 ∧ y1 ≤ 2)) : Ct l Γ mX5_pending 7 1 6 [.ref x, .int y0, .int y1] (wC Γ w x C) zNv (ThP "java/lang/IllegalArgumentException" (wC Γ w x C)) := by
  refine Ct.of (by decide) rfl (Nat.le_of_ble_eq_true rfl) ?_
  refine go_aload_n 1 dX5_pending_0 rfl ?_
  refine go_iload_n 2 dX5_pending_1 rfl ?_
  refine gcV1v 5 dX5_pending_2 vX5_128 wC_at0 rfl (ct_X5_requireLeg_y h h1) ?_
  refine go_aload_n 6 dX5_pending_5 rfl ?_
  refine go_get 9 dX5_pending_6 fX5_10 wC_at0 rfl ?_
  refine go_get 12 dX5_pending_9 fX5_84 xc_now rfl ?_
  refine go_iload_n 13 dX5_pending_12 rfl ?_
  refine go_bipush 15 dX5_pending_13 zb_6 ?_
  refine gcV2 18 dX5_pending_15 vX5_119 (xwL h) rfl (XCm0 (cg_L (j := 6) h hx rfl hk (by decide))) ?_
  refine go_iconst 19 dX5_pending_18 zc_m1 ?_
  refine go_icmp_ne 32 22 dX5_pending_19 (fun h19 => ?_) (fun h19 => ?_)
  · refine go_iload_n 33 dX5_pending_32 rfl ?_
    refine go_iconst 34 dX5_pending_33 zc_0 ?_
    refine go_iconst 35 dX5_pending_34 zc_2 ?_
    exact gt_S3 38 dX5_pending_35 vX5_48 (ct_X5_requireRange_n (by exact h2)) (fun w' a b => ⟨rfl, a, b⟩)
  · exact absurd (by first | exact h19 | exact Classical.not_not.mp h19) h3
set_option maxRecDepth 100000 in
set_option maxHeartbeats 4000000 in
theorem ct_X5_pending {l : Launch} {Γ : ZG} {w : ZW} {x : Nat} {C : CS} {D : ZD} {g : Option Nat} {sg : ZSg} (h : CR D g sg (C.1 0) D) {y0 y1 : Int32} {k j : Nat} (hx : y0 = nI k) (hk : k < nL D) (hy : y1 = nI j) (hj : j < 3) (h1 : 0 ≤ y0 ∧ y0 ≤ D 6 - 1) (h3 : ¬ dL D k 6 = -1) (h2 : 0 ≤ y1 ∧ y1 ≤ 2) : Cm l Γ mX5_pending 3 [.ref x, .int y0, .int y1] (wC Γ w x C) (some (.int (dL D k (6 + j)))) (wC Γ w x C) := by
  refine Cm.of (by decide) rfl (Nat.le_of_ble_eq_true rfl) ?_
  refine go_aload_n 1 dX5_pending_0 rfl ?_
  refine go_iload_n 2 dX5_pending_1 rfl ?_
  refine gcV1v 5 dX5_pending_2 vX5_128 wC_at0 rfl (ct_X5_requireLeg_y h h1) ?_
  refine go_aload_n 6 dX5_pending_5 rfl ?_
  refine go_get 9 dX5_pending_6 fX5_10 wC_at0 rfl ?_
  refine go_get 12 dX5_pending_9 fX5_84 xc_now rfl ?_
  refine go_iload_n 13 dX5_pending_12 rfl ?_
  refine go_bipush 15 dX5_pending_13 zb_6 ?_
  refine gcV2 18 dX5_pending_15 vX5_119 (xwL h) rfl (XCm0 (cg_L (j := 6) h hx rfl hk (by decide))) ?_
  refine go_iconst 19 dX5_pending_18 zc_m1 ?_
  refine go_icmp_ne 32 22 dX5_pending_19 (fun h19 => ?_) (fun h19 => ?_)
  · refine go_iload_n 33 dX5_pending_32 rfl ?_
    refine go_iconst 34 dX5_pending_33 zc_0 ?_
    refine go_iconst 35 dX5_pending_34 zc_2 ?_
    refine gcS3v 38 dX5_pending_35 vX5_48 (ct_X5_requireRange_y (by exact h2)) ?_
    refine go_aload_n 39 dX5_pending_38 rfl ?_
    refine go_get 42 dX5_pending_39 fX5_10 wC_at0 rfl ?_
    refine go_get 45 dX5_pending_42 fX5_84 xc_now rfl ?_
    refine go_iload_n 46 dX5_pending_45 rfl ?_
    refine go_bipush 48 dX5_pending_46 zb_6 ?_
    refine go_iload_n 49 dX5_pending_48 rfl ?_
    refine go_iadd 50 dX5_pending_49 ?_
    refine gcV2 53 dX5_pending_50 vX5_119 (xwL h) rfl (XCm0 (cg_L h hx (by rw [hy]; exact nI_add 6 _) hk (by omega))) ?_
    exact go_ireturn dX5_pending_53 rfl (by omega) (by omega) (⟨rfl, rfl⟩)
  · exact absurd (by first | exact h19 | exact Classical.not_not.mp h19) h3
end CApi
