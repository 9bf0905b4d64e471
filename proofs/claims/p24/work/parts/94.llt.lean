section LLt
theorem ldc_int {Γ : ZG} {w : ZW} {x i u a b c : Nat} {C : CS} {p : PR QS} {v : Option Value} {w2 : ZW} (h : LdC Γ w x C i u a b c p v w2) : ∃ r, v = some (.int r) := by
  cases p with
  | inl e => exact ⟨_, h.1⟩
  | inr s => exact ⟨_, h.1⟩
/-- an empty buffer -/
def Z0 (f : Nat → Int32) : Prop := f 0 = 0 ∧ ∀ k, k < 5 → ∀ j, j < 4 → cby (f (1 + k)) (24 - 8 * nI j) &&& 255 = 0
theorem Z0.wk {f : Nat → Int32} {C : CS} (h : Z0 f) (h1 : C.2.1.1 1 = 0) : WK C f [] := by
  refine ⟨0, ⟨h.1, ⟨by decide, by decide, by decide⟩, fun i hi => absurd hi (Nat.not_lt_zero _), fun k hk j hj => ?_⟩, by decide, h1⟩
  rw [h.2 k hk j hj, if_neg (show ¬ 0 + (4 * k + j) < ([] : List Nat).length from Nat.not_lt_zero _)]
theorem cby_0 : ∀ j, j < 4 → cby 0 (24 - 8 * nI j) &&& 255 = 0 := by decide +kernel
/-- behind the loading of a written text -/
def PLd (Γ : ZG) (w : ZW) (x : Nat) (C : CS) (b i u : Nat) (D : ZD) (tx : List Nat) (v : Option Value) (w' : ZW) : Prop := ∃ R f2, Z0 f2 ∧ (∀ i, i < tx.length → R.2.1 i &&& 255 = nI (tx.getD i 0)) ∧ LdC Γ (wset w b (bu Γ f2)) x (cR C R) i u (nP D) (nC D) (nL D) (prs (BB R.2.1 tx.length)) v w'
theorem ct_L_loadText {l : Launch} {Γ : ZG} {w : ZW} {x b i u : Nat} {C : CS} {f : Nat → Int32} {tx : List Nat} {D : ZD} {g : Option Nat} {sg : ZSg} (hb : b < x ∨ x + 105 ≤ b) (hW : WK C f tx) (hl : tx.length ≤ 500) (ha : Asc tx) (h : CR D g sg (C.1 0) D) (hn : C.2.2.1 = nI i) (hi : i < 8) (hu : C.2.2.2.1 = nI u) (hu8 : u ≤ 8) (hx9 : x + 105 ≤ w.1) : Ct l Γ mL_loadText 33 3 614 [.ref x, .ref b] (wWr Γ w x C b f) (PLd Γ w x C b i u D tx) zNo := by
  obtain ⟨B0, hJ, hlt, hC⟩ := hW
  have h20 := hJ.2.1
  have r20 : nI tx.length - nI tx.length / 20 * 20 = nI (tx.length % 20) := pk_rem (d := 20) (by omega) (by decide) (by decide)
  have fin : ∀ (R : RS) (f2 : Nat → Int32) (B1 : Nat), (∀ i, i < tx.length → R.2.1 i &&& 255 = nI (tx.getD i 0)) → R.1 1 = nI B1 → tx.length ≤ B1 → B1 ≤ 600 → (∀ k, k < 5 → ∀ j, j < 4 → cby (f2 (1 + k)) (24 - 8 * nI j) &&& 255 = 0) → Go l Γ mL_loadText 33 3 614 (PLd Γ w x C b i u D tx) zNo 0 0 (wWr Γ w x (cR C R) b f2) 16 [(0, .ref x), (1, .ref b), (2, .int (nI tx.length))] [] := by
    intro R f2 B1 hR hB1 hle h6 hz
    refine go_aload_n 17 dL_loadText_16 rfl ?_
    refine go_iconst 18 dL_loadText_17 zc_0 ?_
    refine go_iconst 19 dL_loadText_18 zc_0 ?_
    refine go_bst (j := 0) hb rfl (by decide) 20 dL_loadText_19 ?_
    refine go_aload_n 21 dL_loadText_20 rfl ?_
    refine go_iload_n 22 dL_loadText_21 rfl ?_
    have hc := ct_X5_load (l := l) (Γ := Γ) (w := wset w b (bu Γ (upd f2 0 0))) (x := x) (C := cR C R) (y0 := nI tx.length) (n := tx.length) (B := BB R.2.1 tx.length) h hn hi hu hu8 rfl ⟨(nI_leI (a := 0) (by omega) (by omega)).mpr (Nat.zero_le _), by rw [show (cR C R).2.1.1 1 = nI B1 from hB1]; exact (nI_leI (by omega) (by omega)).mpr hle⟩ rfl (tb_bb (by omega) ha hR) hx9
    refine go_callSW 25 [.ref x, .int (nI tx.length)] dL_loadText_22 vL_19 rfl (ct_L_load_0 hc (by decide) wC_at0 (fun v w2 q => ldc_int q)) (by decide) (by decide) (by omega) (by omega) (by exact Nat.le_of_ble_eq_true rfl) ?_
    intro v9 w9 q9
    obtain ⟨r, rfl⟩ := ldc_int q9
    exact go_ireturn dL_loadText_25 rfl (by omega) (by omega) ⟨R, _, ⟨if_pos rfl, fun k hk j hj => by rw [upd, if_neg (by omega)]; exact hz k hk j hj⟩, hR, q9⟩
  refine Ct.of (by decide) rfl (Nat.le_of_ble_eq_true rfl) ?_
  refine go_aload_n 1 dL_loadText_0 rfl ?_
  refine go_iconst 2 dL_loadText_1 zc_0 ?_
  refine go_bld (j := 0) hb rfl (by decide) 3 dL_loadText_2 ?_
  rw [hJ.1]
  refine go_istore_n 4 dL_loadText_3 (by decide) ?_
  refine go_iload_n 5 dL_loadText_4 rfl ?_
  refine go_bipush 7 dL_loadText_5 zb_20 ?_
  refine go_irem 8 dL_loadText_7 (by decide) ?_
  rw [r20]
  refine go_if_le 16 11 dL_loadText_8 (fun h8 => ?_) (fun h8 => ?_)
  · have h9 : tx.length = B0 := by
      have := (nI_leI (b := 0) (by omega) (by omega)).mp h8
      omega
    refine go_locals _ rfl (fin C.2.1 f B0 (fun i hi => hJ.2.2.1 i (by omega)) hC (by omega) (by omega) (fun k hk j hj => ?_))
    rw [hJ.2.2.2 k hk j hj, if_neg (by omega)]
  · refine go_aload_n 12 dL_loadText_11 rfl ?_
    refine go_aload_n 13 dL_loadText_12 rfl ?_
    refine gcS2v 16 dL_loadText_13 vL_7 (ct_L_flush hb hC (by omega)) ?_
    refine go_locals _ rfl (fin (apR C.2.1 B0 (f 1) (f 2) (f 3) (f 4) (f 5)) (zqF f 6) (B0 + 20) hJ.all rfl (by omega) (by omega) (fun k hk j hj => ?_))
    rw [show zqF f 6 (1 + k) = 0 from if_pos (by omega)]
    exact cby_0 j hj
end LLt
