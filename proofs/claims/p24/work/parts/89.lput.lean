section LPut
def bu (Γ : ZG) (f : Nat → Int32) : va_E := .inl (Γ.2.2.1 0, 8, .inl f)
def wWr (Γ : ZG) (w : ZW) (x : Nat) (C : CS) (b : Nat) (f : Nat → Int32) : ZW := wC Γ (wset w b (bu Γ f)) x C
section
variable {l : Launch} {Γ : ZG} {M M' : ZM} {dp mc ms d' mc' ms' : Nat} {Φ : Option Value → ZW → Prop} {Ψ : String → ZW → Prop} {k n : Nat} {w : ZW} {pc : Nat} {L : ZL} {st : List Value} {x b j : Nat} {C : CS} {f g : Nat → Int32}
theorem wr_b (hb : b < x ∨ x + 105 ≤ b) : (wWr Γ w x C b f).2 b = some (bu Γ f) := by
  unfold wWr
  rw [wC_out hb]
  exact wset_at
theorem wr_set (hb : b < x ∨ x + 105 ≤ b) : wset (wWr Γ w x C b f) b (bu Γ g) = wWr Γ w x C b g := by
  refine Prod.ext rfl (funext fun q => ?_)
  show (if q = b then some (bu Γ g) else if x ≤ q ∧ q < x + 105 then some (ccl Γ x C (q - x)) else if q = b then some (bu Γ f) else w.2 q) = if x ≤ q ∧ q < x + 105 then some (ccl Γ x C (q - x)) else if q = b then some (bu Γ g) else w.2 q
  by_cases hq : q = b
  · rw [if_pos hq, if_neg (by omega), if_pos hq]
  · rw [if_neg hq]
    by_cases hr : x ≤ q ∧ q < x + 105
    · rw [if_pos hr, if_pos hr]
    · rw [if_neg hr, if_neg hr, if_neg hq, if_neg hq]
theorem go_bld {i : Int32} (hb : b < x ∨ x + 105 ≤ b) (hi : i = nI j) (hj : j < 8) (pc' : Nat) (hd : decode M.2.1 pc = .ok (.iaload, 1)) (kk : Go l Γ M dp mc ms Φ Ψ k n (wWr Γ w x C b f) pc' L (.int (f j) :: st)) (hp : pc + 1 = pc' := by rfl) : Go l Γ M dp mc ms Φ Ψ k n (wWr Γ w x C b f) pc L (.int i :: .ref b :: st) := by
  refine go_iald pc' hd (wr_b hb) (by rw [hi]; exact vp_in_nI hj (by decide)) ?_ hp
  rw [hi, nI_clamp (by omega)]
  exact kk
theorem go_bst {i v : Int32} (hb : b < x ∨ x + 105 ≤ b) (hi : i = nI j) (hj : j < 8) (pc' : Nat) (hd : decode M.2.1 pc = .ok (.iastore, 1)) (kk : Go l Γ M dp mc ms Φ Ψ k n (wWr Γ w x C b (upd f j v)) pc' L st) (hp : pc + 1 = pc' := by rfl) : Go l Γ M dp mc ms Φ Ψ k n (wWr Γ w x C b f) pc L (.int v :: .int i :: .ref b :: st) := by
  refine go_iast pc' hd (wr_b hb) (by rw [hi]; exact vp_in_nI hj (by decide)) ?_ hp
  rw [hi, nI_clamp (by omega)]
  have e := wr_set (Γ := Γ) (w := w) (C := C) (f := f) (g := upd f j v) hb
  unfold bu at e
  rw [e]
  exact kk
end
def zqF (f : Nat → Int32) (i : Nat) : Nat → Int32 := fun j => if 1 ≤ j ∧ j < i then 0 else f j
theorem zqF_1 {f : Nat → Int32} : zqF f 1 = f := funext fun j => if_neg (by omega)
theorem zqF_s {f : Nat → Int32} {i : Nat} (hi : 1 ≤ i) : upd (zqF f i) i 0 = zqF f (i + 1) := by
  funext j
  show (if j = i then 0 else if 1 ≤ j ∧ j < i then 0 else f j) = if 1 ≤ j ∧ j < i + 1 then 0 else f j
  by_cases h : j = i
  · rw [if_pos h, if_pos (by omega)]
  · rw [if_neg h]
    by_cases h2 : 1 ≤ j ∧ j < i
    · rw [if_pos h2, if_pos (by omega)]
    · rw [if_neg h2, if_neg (by omega)]
theorem lp_L_flush {l : Launch} {Γ : ZG} {w : ZW} {x b : Nat} {C : CS} {f : Nat → Int32} {k n : Nat} (hb : b < x ∨ x + 105 ≤ b) (hk : k ≤ 0) (hn : n ≤ 0) : ∀ (m i : Nat), i + m = 6 → 1 ≤ i → Go l Γ mL_flush 3 0 0 (fun v w' => v = none ∧ w' = wWr Γ w x C b (zqF f 6)) zNo k n (wWr Γ w x C b (zqF f i)) 22 [(0, .ref x), (1, .ref b), (2, .int (nI i))] [] := by
  intro m
  induction m with
  | zero =>
    intro i hi h1
    obtain rfl : i = 6 := by omega
    refine go_iload_n 23 dL_flush_22 rfl ?_
    refine go_bipush 25 dL_flush_23 zb_6 ?_
    refine go_icmp_ge 38 28 dL_flush_25 (fun h => ?_) (fun h => ?_)
    · exact go_return dL_flush_38 rfl (by omega) (by omega) ⟨rfl, rfl⟩
    · exact absurd (show (6 : Int32) ≤ nI 6 by decide) h
  | succ m ih =>
    intro i hi h1
    refine go_iload_n 23 dL_flush_22 rfl ?_
    refine go_bipush 25 dL_flush_23 zb_6 ?_
    refine go_icmp_ge 38 28 dL_flush_25 (fun h => ?_) (fun h => ?_)
    · exact absurd ((nI_leI (a := 6) (by omega) (by omega)).mp h) (by omega)
    · refine go_aload_n 29 dL_flush_28 rfl ?_
      refine go_iload_n 30 dL_flush_29 rfl ?_
      refine go_iconst 31 dL_flush_30 zc_0 ?_
      refine go_bst hb rfl (by omega) 32 dL_flush_31 ?_
      rw [zqF_s h1]
      refine go_iinc 35 dL_flush_32 rfl (by decide) (show Int32.ofInt 1 = nI 1 from rfl) ?_
      refine go_goto 22 dL_flush_35 ?_
      rw [nI_add]
      exact go_locals _ rfl (ih (i + 1) (by omega) (by omega))
theorem ct_L_flush {l : Launch} {Γ : ZG} {w : ZW} {x b B0 : Nat} {C : CS} {f : Nat → Int32} (hb : b < x ∨ x + 105 ≤ b) (h1 : C.2.1.1 1 = nI B0) (h2 : B0 + 20 ≤ 600) : Cm l Γ mL_flush 3 [.ref x, .ref b] (wWr Γ w x C b f) none (wWr Γ w x (cR C (apR C.2.1 B0 (f 1) (f 2) (f 3) (f 4) (f 5))) b (zqF f 6)) := by
  refine Cm.of (by decide) rfl (Nat.le_of_ble_eq_true rfl) ?_
  refine go_aload_n 1 dL_flush_0 rfl ?_
  refine go_aload_n 2 dL_flush_1 rfl ?_
  refine go_iconst 3 dL_flush_2 zc_1 ?_
  refine go_bld (j := 1) hb rfl (by decide) 4 dL_flush_3 ?_
  refine go_aload_n 5 dL_flush_4 rfl ?_
  refine go_iconst 6 dL_flush_5 zc_2 ?_
  refine go_bld (j := 2) hb rfl (by decide) 7 dL_flush_6 ?_
  refine go_aload_n 8 dL_flush_7 rfl ?_
  refine go_iconst 9 dL_flush_8 zc_3 ?_
  refine go_bld (j := 3) hb rfl (by decide) 10 dL_flush_9 ?_
  refine go_aload_n 11 dL_flush_10 rfl ?_
  refine go_iconst 12 dL_flush_11 zc_4 ?_
  refine go_bld (j := 4) hb rfl (by decide) 13 dL_flush_12 ?_
  refine go_aload_n 14 dL_flush_13 rfl ?_
  refine go_iconst 15 dL_flush_14 zc_5 ?_
  refine go_bld (j := 5) hb rfl (by decide) 16 dL_flush_15 ?_
  refine go_callV 19 [.int (f 1), .int (f 2), .int (f 3), .int (f 4), .int (f 5)] dL_flush_16 vL_13 wC_at0 rfl (ct_X5_append h1 h2) (by decide) (by decide) (by omega) (by omega) (by exact Nat.le_of_ble_eq_true rfl) ?_
  rintro _ _ ⟨rfl, rfl⟩
  refine go_pop 20 dL_flush_19 rfl ?_
  refine go_iconst 21 dL_flush_20 zc_1 ?_
  refine go_istore_n 22 dL_flush_21 (by decide) ?_
  refine go_locals [(0, .ref x), (1, .ref b), (2, .int (nI 1))] rfl ?_
  have h := lp_L_flush (l := l) (Γ := Γ) (w := w) (C := cR C (apR C.2.1 B0 (f 1) (f 2) (f 3) (f 4) (f 5))) (f := f) hb (Nat.le_refl 0) (Nat.le_refl 0) 5 1 rfl (Nat.le_refl 1)
  rw [zqF_1] at h
  exact h
/-- the text tx is written: partly with the class, partly in the buffer -/
def WK (C : CS) (f : Nat → Int32) (tx : List Nat) : Prop := ∃ B0, WJ f C.2.1.2.1 B0 tx ∧ tx.length < B0 + 20 ∧ C.2.1.1 1 = nI B0
def PW (Γ : ZG) (w : ZW) (x : Nat) (C : CS) (b : Nat) (tx : List Nat) (v : Option Value) (w' : ZW) : Prop := v = none ∧ ∃ R f, w' = wWr Γ w x (cR C R) b f ∧ WK (cR C R) f tx
theorem ct_L_put {l : Launch} {Γ : ZG} {w : ZW} {x b c : Nat} {C : CS} {f : Nat → Int32} {tx : List Nat} (hb : b < x ∨ x + 105 ≤ b) (h : WK C f tx) (hc : c < 128) (hl : tx.length ≤ 500) : Ct l Γ mL_put 4 0 0 [.ref x, .ref b, .int (nI c)] (wWr Γ w x C b f) (PW Γ w x C b (tx ++ [c])) zNo := by
  obtain ⟨B0, hJ, hlt, hC⟩ := h
  have h20 := hJ.2.1
  refine Ct.of (by decide) rfl (Nat.le_of_ble_eq_true rfl) ?_
  have r20 : nI tx.length - nI tx.length / 20 * 20 = nI (tx.length % 20) := pk_rem (d := 20) (by omega) (by decide) (by decide)
  have r4 : nI tx.length - nI tx.length / 4 * 4 = nI (tx.length % 4) := pk_rem (d := 4) (by omega) (by decide) (by decide)
  have d4 : nI (tx.length % 20) / 4 = nI (tx.length % 20 / 4) := pk_div (d := 4) (by omega) (by decide) (by decide)
  have s20 : nI (tx.length + 1) - nI (tx.length + 1) / 20 * 20 = nI ((tx.length + 1) % 20) := pk_rem (d := 20) (by omega) (by decide) (by decide)
  refine go_aload_n 1 dL_put_0 rfl ?_
  refine go_iconst 2 dL_put_1 zc_1 ?_
  refine go_aload_n 3 dL_put_2 rfl ?_
  refine go_iconst 4 dL_put_3 zc_0 ?_
  refine go_bld (j := 0) hb rfl (by decide) 5 dL_put_4 ?_
  rw [hJ.1]
  refine go_bipush 7 dL_put_5 zb_20 ?_
  refine go_irem 8 dL_put_7 (by decide) ?_
  rw [r20]
  refine go_iconst 9 dL_put_8 zc_4 ?_
  refine go_idiv 10 dL_put_9 (by decide) ?_
  rw [d4]
  refine go_iadd 11 dL_put_10 ?_
  rw [show (1 : Int32) + nI (tx.length % 20 / 4) = nI (1 + tx.length % 20 / 4) from nI_add 1 _]
  refine go_dup2 12 dL_put_11 rfl rfl ?_
  refine go_bld (j := 1 + tx.length % 20 / 4) hb rfl (by omega) 13 dL_put_12 ?_
  refine go_iload_n 14 dL_put_13 rfl ?_
  refine go_bipush 16 dL_put_14 zb_24 ?_
  refine go_bipush 18 dL_put_16 zb_8 ?_
  refine go_aload_n 19 dL_put_18 rfl ?_
  refine go_iconst 20 dL_put_19 zc_0 ?_
  refine go_bld (j := 0) hb rfl (by decide) 21 dL_put_20 ?_
  rw [hJ.1]
  refine go_iconst 22 dL_put_21 zc_4 ?_
  refine go_irem 23 dL_put_22 (by decide) ?_
  rw [r4]
  refine go_imul 24 dL_put_23 ?_
  refine go_isub 25 dL_put_24 ?_
  refine go_ishl 26 dL_put_25 ?_
  refine go_ior 27 dL_put_26 ?_
  refine go_bst (j := 1 + tx.length % 20 / 4) hb rfl (by omega) 28 dL_put_27 ?_
  refine go_aload_n 29 dL_put_28 rfl ?_
  refine go_iconst 30 dL_put_29 zc_0 ?_
  refine go_dup2 31 dL_put_30 rfl rfl ?_
  refine go_bld (j := 0) hb rfl (by decide) 32 dL_put_31 ?_
  rw [show ∀ v, upd f (1 + tx.length % 20 / 4) v 0 = nI tx.length from fun v => (if_neg (by omega)).trans hJ.1]
  refine go_iconst 33 dL_put_32 zc_1 ?_
  refine go_iadd 34 dL_put_33 ?_
  rw [show nI tx.length + (1 : Int32) = nI (tx.length + 1) from nI_add _ 1]
  refine go_bst (j := 0) hb rfl (by decide) 35 dL_put_34 ?_
  refine go_w (w' := wWr Γ w x C b (putF f tx.length c)) rfl ?_
  have hP := hJ.put hlt hc
  have hl' : (tx ++ [c]).length = tx.length + 1 := by simp
  have hp0 : putF f tx.length c 0 = nI (tx.length + 1) := by rw [hP.1, hl']
  refine go_aload_n 36 dL_put_35 rfl ?_
  refine go_iconst 37 dL_put_36 zc_0 ?_
  refine go_bld (j := 0) hb rfl (by decide) 38 dL_put_37 ?_
  rw [hp0]
  refine go_bipush 40 dL_put_38 zb_20 ?_
  refine go_irem 41 dL_put_40 (by decide) ?_
  rw [s20]
  refine go_if_ne 49 44 dL_put_41 (fun h41 => ?_) (fun h41 => ?_)
  · have h9 : (tx.length + 1) % 20 ≠ 0 := fun z => h41 (by rw [z]; rfl)
    exact go_return dL_put_49 rfl (by omega) (by omega) ⟨rfl, C.2.1, _, rfl, B0, hP, by omega, hC⟩
  · have h9 : (tx.length + 1) % 20 = 0 := by
      have := congrArg Int32.toNatClampNeg h41
      rw [nI_clamp (by omega)] at this
      exact this
    refine go_aload_n 45 dL_put_44 rfl ?_
    refine go_aload_n 46 dL_put_45 rfl ?_
    refine gcS2v 49 dL_put_46 vL_7 (ct_L_flush hb hC (by omega)) ?_
    refine go_return dL_put_49 rfl (by omega) (by omega) ⟨rfl, _, _, rfl, B0 + 20, ?_, by omega, rfl⟩
    exact hP.flush (by omega) (if_neg (by omega)) (fun k hk => if_pos (by omega))
end LPut
