section LWns
def nmt (ns : List Nat) : List Nat := ns.flatMap fun n => 32 :: dec n
theorem nmt_c {s : List Nat} {c : Nat} : nmt (s ++ [c]) = nmt s ++ ([32] ++ dec c) := by
  unfold nmt
  simp
theorem nmt_len : ∀ (ns : List Nat), (nmt ns).length ≤ 5 * ns.length
  | [] => Nat.le_refl _
  | a :: ns => by
    have h1 := dec_pos (x := a)
    have h2 := nmt_len ns
    have e : (nmt (a :: ns)).length = (dec a).length + 1 + (nmt ns).length := by
      unfold nmt
      simp
      omega
    rw [e, List.length_cons]
    omega
theorem cst_at {Γ : ZG} {w : ZW} {i : Nat} {t : String} (h : (RL, i, t) ∈ zStr) (ha : (chs t).all (· < 128) = true) : StrAt Γ w (Γ.2.2.2.1 RL i) (chs t) :=
  (str_c (w0 := w) (T := fun _ => 0) (RL, i, t) h ha).at
theorem lp_nums {l : Launch} {Γ : ZG} {w : ZW} {x b r a : Nat} {C : CS} {tx ns : List Nat} {g : Nat → Int32} (hb : b < x ∨ x + 105 ≤ b) (ha : ∀ C f, (wWr Γ w x C b f).2 a = some (.inl (Γ.2.2.1 0, ns.length, .inl g))) (hg : ∀ j, j < ns.length → g j = nI (ns.getD j 0)) (hns : ∀ c ∈ ns, c ≤ 9999) (hl9 : ns.length ≤ 20) (hl : tx.length + 5 * ns.length ≤ 400) : ∀ (t s : List Nat) (R : RS) (f : Nat → Int32), ns = s ++ t → WK (cR C R) f (tx ++ nmt s) → Go l Γ mL_writeNumbers 6 0 0 (PW Γ w x C b (tx ++ (nmt ns ++ [59]))) zNo 0 0 (wWr Γ w x (cR C R) b f) 17 [(0, .ref x), (1, .ref b), (2, .ref r), (3, .ref a), (4, .ref a), (5, .int (nI ns.length)), (6, .int (nI s.length))] [] := by
  intro t
  induction t with
  | nil =>
    intro s R f hs hW
    rw [List.append_nil] at hs
    subst hs
    have hn := nmt_len ns
    refine go_iload 19 dL_writeNumbers_17 rfl ?_
    refine go_iload 21 dL_writeNumbers_19 rfl ?_
    refine go_icmp_ge 51 24 dL_writeNumbers_21 (fun h => ?_) (fun h => absurd (Int32.le_refl _) h)
    refine go_aload_n 52 dL_writeNumbers_51 rfl ?_
    refine go_aload_n 53 dL_writeNumbers_52 rfl ?_
    refine go_ldcS 55 dL_writeNumbers_53 sL_108 ?_
    refine go_callS 58 [.ref x, .ref b, .ref (Γ.2.2.2.1 RL 108)] dL_writeNumbers_55 vL_99 rfl (ct_L_write (ty := chs ";") hb hW (fun C f => cst_at sL_108 (by decide +kernel)) (by simp [chs]; omega)) (by decide) (by decide) (by omega) (by omega) (by exact Nat.le_of_ble_eq_true rfl) ?_
    rintro _ _ ⟨rfl, R2, f2, rfl, hW2⟩
    rw [List.append_assoc] at hW2
    exact go_return dL_writeNumbers_58 rfl (by omega) (by omega) ⟨rfl, R2, f2, rfl, hW2⟩
  | cons c t ih =>
    intro s R f hs hW
    have hlen : ns.length = s.length + (t.length + 1) := by rw [hs]; simp
    have hgs : g s.length = nI c := by rw [hg _ (by omega), hs, getD_mid]
    have hc : c ≤ 9999 := hns c (by rw [hs]; exact List.mem_append_right _ (List.mem_cons_self ..))
    have hn := nmt_len s
    refine go_iload 19 dL_writeNumbers_17 rfl ?_
    refine go_iload 21 dL_writeNumbers_19 rfl ?_
    refine go_icmp_ge 51 24 dL_writeNumbers_21 (fun h => absurd ((nI_leI (by omega) (by omega)).mp h) (by omega)) (fun h => ?_)
    refine go_aload 26 dL_writeNumbers_24 rfl ?_
    refine go_iload 28 dL_writeNumbers_26 rfl ?_
    refine go_iald 29 dL_writeNumbers_28 (ha _ _) (vp_in_nI (by omega) (by omega)) ?_
    rw [nI_clamp (by omega), hgs]
    refine go_istore 31 dL_writeNumbers_29 (by decide) ?_
    refine go_aload_n 32 dL_writeNumbers_31 rfl ?_
    refine go_aload_n 33 dL_writeNumbers_32 rfl ?_
    refine go_ldcS 35 dL_writeNumbers_33 sL_103 ?_
    refine go_callS 38 [.ref x, .ref b, .ref (Γ.2.2.2.1 RL 103)] dL_writeNumbers_35 vL_99 rfl (ct_L_write (ty := chs " ") hb hW (fun C f => cst_at sL_103 (by decide +kernel)) (by simp [chs]; omega)) (by decide) (by decide) (by omega) (by omega) (by exact Nat.le_of_ble_eq_true rfl) ?_
    rintro _ _ ⟨rfl, R2, f2, rfl, hW2⟩
    refine go_aload_n 39 dL_writeNumbers_38 rfl ?_
    refine go_aload_n 40 dL_writeNumbers_39 rfl ?_
    refine go_iload 42 dL_writeNumbers_40 rfl ?_
    refine go_callS 45 [.ref x, .ref b, .int (nI c)] dL_writeNumbers_42 vL_105 rfl (ct_L_writeNumber hb hW2 hc (by simp [chs]; omega)) (by decide) (by decide) (by omega) (by omega) (by exact Nat.le_of_ble_eq_true rfl) ?_
    rintro _ _ ⟨rfl, R3, f3, rfl, hW3⟩
    refine go_iinc 48 dL_writeNumbers_45 rfl (by decide) (show Int32.ofInt 1 = nI 1 from rfl) ?_
    refine go_goto 17 dL_writeNumbers_48 ?_
    rw [nI_add]
    have h9 := ih (s ++ [c]) R3 f3 (by rw [hs]; simp) (by
      rw [nmt_c, ← List.append_assoc, ← List.append_assoc]
      exact hW3)
    rw [show (s ++ [c]).length = s.length + 1 by simp] at h9
    exact go_locals _ rfl h9
theorem ct_L_writeNumbers {l : Launch} {Γ : ZG} {w : ZW} {x b r a : Nat} {C : CS} {f : Nat → Int32} {tx ty ns : List Nat} {g : Nat → Int32} (hb : b < x ∨ x + 105 ≤ b) (hW : WK C f tx) (hr : ∀ C f, StrAt Γ (wWr Γ w x C b f) r ty) (ha : ∀ C f, (wWr Γ w x C b f).2 a = some (.inl (Γ.2.2.1 0, ns.length, .inl g))) (hg : ∀ j, j < ns.length → g j = nI (ns.getD j 0)) (hns : ∀ c ∈ ns, c ≤ 9999) (hl9 : ns.length ≤ 20) (hl : tx.length + ty.length + 5 * ns.length ≤ 400) : Ct l Γ mL_writeNumbers 6 0 0 [.ref x, .ref b, .ref r, .ref a] (wWr Γ w x C b f) (PW Γ w x C b (tx ++ (ty ++ (nmt ns ++ [59])))) zNo := by
  refine Ct.of (by decide) rfl (Nat.le_of_ble_eq_true rfl) ?_
  refine go_aload_n 1 dL_writeNumbers_0 rfl ?_
  refine go_aload_n 2 dL_writeNumbers_1 rfl ?_
  refine go_aload_n 3 dL_writeNumbers_2 rfl ?_
  refine go_callS 6 [.ref x, .ref b, .ref r] dL_writeNumbers_3 vL_99 rfl (ct_L_write hb hW hr (by omega)) (by decide) (by decide) (by omega) (by omega) (by exact Nat.le_of_ble_eq_true rfl) ?_
  rintro _ _ ⟨rfl, R2, f2, rfl, hW2⟩
  refine go_aload_n 7 dL_writeNumbers_6 rfl ?_
  refine go_astore 9 dL_writeNumbers_7 (by decide) ?_
  refine go_aload 11 dL_writeNumbers_9 rfl ?_
  refine go_alen (t0 := 0) 12 dL_writeNumbers_11 (ha _ _) rfl rfl ?_
  refine go_istore 14 dL_writeNumbers_12 (by decide) ?_
  refine go_iconst 15 dL_writeNumbers_14 zc_0 ?_
  refine go_istore 17 dL_writeNumbers_15 (by decide) ?_
  have h9 := lp_nums (l := l) (C := C) (r := r) (tx := tx ++ ty) hb ha hg hns hl9 (by simp; omega) ns [] R2 f2 rfl (by rw [show nmt [] = [] from rfl, List.append_nil]; exact hW2)
  rw [List.append_assoc] at h9
  exact go_locals _ rfl h9
end LWns
