section LWrt
theorem ct_str_isLatin1 {l : Launch} {Γ : ZG} {w : ZW} {r : Nat} {tx : List Nat} (hr : StrAt Γ w r tx) : Cm l Γ mJ0_isLatin1_aae02 1 [.ref r] w (some (.int 1)) w := by
  refine Cm.of (by decide) rfl (Nat.le_of_ble_eq_true rfl) ?_
  refine go_getCS 3 dJ0_isLatin1_aae02_0 gJ0_38 ?_
  refine go_if_eq 17 6 dJ0_isLatin1_aae02_3 (fun h => absurd h (by decide)) (fun _ => ?_)
  refine go_aload_n 7 dJ0_isLatin1_aae02_6 rfl ?_
  refine go_getStrC 10 dJ0_isLatin1_aae02_7 hr gJ0_15 fJ0_15 ?_
  refine go_if_ne 17 13 dJ0_isLatin1_aae02_10 (fun h => absurd rfl h) (fun _ => ?_)
  refine go_iconst 14 dJ0_isLatin1_aae02_13 zc_1 ?_
  refine go_goto 18 dJ0_isLatin1_aae02_14 ?_
  exact go_nreturn dJ0_isLatin1_aae02_18 rfl (by omega) (by omega) rfl ⟨rfl, rfl⟩
theorem ch128 : ∀ a, a < 128 → ((nI a &&& 255).toUInt32 % 65536).toInt32 = nI a ∧ (nI a).toUInt32.toUInt16.toUInt32.toInt32 = nI a := by decide +kernel
theorem ct_J1_charAtB {l : Launch} {Γ : ZG} {w : ZW} {a i : Nat} {f : Nat → Int32} {tx : List Nat} (hs : SrcB Γ w a tx.length f) (hb : BOf f tx) (ha : Asc tx) (hi : i < tx.length) (hN : tx.length < 2 ^ 31) : Cm l Γ mJ1_charAt_3b067 3 [.ref a, .int (nI i)] w (some (.int (nI (tx.getD i 0)))) w := by
  obtain ⟨c1, c2⟩ := ch128 _ (ha _ (getD_mem tx i hi))
  refine Cm.of (by decide) rfl (Nat.le_of_ble_eq_true rfl) ?_
  refine go_iload_n 1 dJ1_charAt_3b067_0 rfl ?_
  refine go_aload_n 2 dJ1_charAt_3b067_1 rfl ?_
  refine go_lenB 3 dJ1_charAt_3b067_2 hs ?_
  refine gcS2v 6 dJ1_charAt_3b067_3 vJ1_9 (ct_J0_checkIndex hi hN) ?_
  refine go_aload_n 7 dJ1_charAt_3b067_6 rfl ?_
  refine go_iload_n 8 dJ1_charAt_3b067_7 rfl ?_
  refine go_baldB 9 dJ1_charAt_3b067_8 hs hi (by omega) ?_
  rw [hb i hi]
  refine go_sipush 12 dJ1_charAt_3b067_9 zs_255 ?_
  refine go_iand 13 dJ1_charAt_3b067_12 ?_
  refine go_i2c 14 dJ1_charAt_3b067_13 ?_
  rw [c1]
  exact go_nreturn dJ1_charAt_3b067_14 rfl (by omega) (by omega) (congrArg Value.int c2) ⟨rfl, rfl⟩
theorem ct_str_charAt {l : Launch} {Γ : ZG} {w : ZW} {r i : Nat} {tx : List Nat} (hr : StrAt Γ w r tx) (hi : i < tx.length) (hN : tx.length < 2 ^ 31) : Cm l Γ mJ0_charAt_5068e 4 [.ref r, .int (nI i)] w (some (.int (nI (tx.getD i 0)))) w := by
  obtain ⟨c1, c2⟩ := ch128 _ (hr.1 _ (getD_mem tx i hi))
  refine Cm.of (by decide) rfl (Nat.le_of_ble_eq_true rfl) ?_
  refine go_aload_n 1 dJ0_charAt_5068e_0 rfl ?_
  refine go_callStr 4 [] dJ0_charAt_5068e_1 vJ0_492 hr rfl (ct_str_isLatin1 hr) (by decide) (by decide) (by omega) (by omega) (by exact Nat.le_of_ble_eq_true rfl) ?_
  rintro _ w9 ⟨rfl, hw9⟩
  obtain rfl := hw9.symm
  refine go_if_eq 16 7 dJ0_charAt_5068e_4 (fun h => absurd h (by decide)) (fun _ => ?_)
  refine go_aload_n 8 dJ0_charAt_5068e_7 rfl ?_
  refine go_getStrV 11 dJ0_charAt_5068e_8 hr gJ0_9 fJ0_9 (fun a f hs hb => ?_)
  refine go_iload_n 12 dJ0_charAt_5068e_11 rfl ?_
  refine gcS2 15 dJ0_charAt_5068e_12 vJ0_495 (ct_J1_charAtB hs hb hr.1 hi hN) ?_
  exact go_nreturn dJ0_charAt_5068e_15 rfl (by omega) (by omega) (congrArg Value.int c2) ⟨rfl, rfl⟩
theorem getD_mid : ∀ {s t : List Nat} {c : Nat}, (s ++ c :: t).getD s.length 0 = c
  | [], t, c => rfl
  | a :: s, t, c => getD_mid (s := s)
theorem lp_L_write {l : Launch} {Γ : ZG} {w : ZW} {x b r : Nat} {C : CS} {tx ty : List Nat} (hb : b < x ∨ x + 105 ≤ b) (hr : ∀ C f, StrAt Γ (wWr Γ w x C b f) r ty) (hl : tx.length + ty.length ≤ 500) : ∀ (t s : List Nat) (R : RS) (f : Nat → Int32), ty = s ++ t → WK (cR C R) f (tx ++ s) → Go l Γ mL_write 5 0 0 (PW Γ w x C b (tx ++ ty)) zNo 0 0 (wWr Γ w x (cR C R) b f) 2 [(0, .ref x), (1, .ref b), (2, .ref r), (3, .int (nI s.length))] [] := by
  intro t
  induction t with
  | nil =>
    intro s R f hs hW
    rw [List.append_nil] at hs
    subst hs
    refine go_iload_n 3 dL_write_2 rfl ?_
    refine go_aload_n 4 dL_write_3 rfl ?_
    refine go_callStr 7 [] dL_write_4 vL_23 (hr _ _) rfl (ct_str_length (hr _ _)) (by decide) (by decide) (by omega) (by omega) (by exact Nat.le_of_ble_eq_true rfl) ?_
    rintro _ w9 ⟨rfl, hw9⟩
    obtain rfl := hw9.symm
    refine go_icmp_ge 26 10 dL_write_7 (fun h => ?_) (fun h => ?_)
    · exact go_return dL_write_26 rfl (by omega) (by omega) ⟨rfl, R, f, rfl, hW⟩
    · exact absurd (Int32.le_refl _) h
  | cons c t ih =>
    intro s R f hs hW
    have hlen : ty.length = s.length + (t.length + 1) := by rw [hs]; simp
    have hg : ty.getD s.length 0 = c := by rw [hs]; exact getD_mid
    have hc : c < 128 := by
      have := (hr C f).1 c (by rw [hs]; exact List.mem_append_right _ (List.mem_cons_self ..))
      exact this
    refine go_iload_n 3 dL_write_2 rfl ?_
    refine go_aload_n 4 dL_write_3 rfl ?_
    refine go_callStr 7 [] dL_write_4 vL_23 (hr _ _) rfl (ct_str_length (hr _ _)) (by decide) (by decide) (by omega) (by omega) (by exact Nat.le_of_ble_eq_true rfl) ?_
    rintro _ w9 ⟨rfl, hw9⟩
    obtain rfl := hw9.symm
    refine go_icmp_ge 26 10 dL_write_7 (fun h => ?_) (fun h => ?_)
    · exact absurd ((nI_leI (by omega) (by omega)).mp h) (by omega)
    · refine go_aload_n 11 dL_write_10 rfl ?_
      refine go_aload_n 12 dL_write_11 rfl ?_
      refine go_aload_n 13 dL_write_12 rfl ?_
      refine go_iload_n 14 dL_write_13 rfl ?_
      refine go_callStr 17 [.int (nI s.length)] dL_write_14 vL_29 (hr _ _) rfl (ct_str_charAt (i := s.length) (hr _ _) (by omega) (by omega)) (by decide) (by decide) (by omega) (by omega) (by exact Nat.le_of_ble_eq_true rfl) ?_
      rintro _ w9 ⟨rfl, hw9⟩
      obtain rfl := hw9.symm
      rw [hg]
      refine go_callS 20 [.ref x, .ref b, .int (nI c)] dL_write_17 vL_33 rfl (ct_L_put hb hW hc (by simp; omega)) (by decide) (by decide) (by omega) (by omega) (by exact Nat.le_of_ble_eq_true rfl) ?_
      rintro _ _ ⟨rfl, R2, f2, rfl, hW2⟩
      refine go_iinc 23 dL_write_20 rfl (by decide) (show Int32.ofInt 1 = nI 1 from rfl) ?_
      refine go_goto 2 dL_write_23 ?_
      rw [nI_add]
      have h9 := ih (s ++ [c]) R2 f2 (by rw [hs]; simp) (by rw [← List.append_assoc]; exact hW2)
      rw [show (s ++ [c]).length = s.length + 1 by simp] at h9
      exact go_locals _ rfl h9
theorem ct_L_write {l : Launch} {Γ : ZG} {w : ZW} {x b r : Nat} {C : CS} {f : Nat → Int32} {tx ty : List Nat} (hb : b < x ∨ x + 105 ≤ b) (hW : WK C f tx) (hr : ∀ C f, StrAt Γ (wWr Γ w x C b f) r ty) (hl : tx.length + ty.length ≤ 500) : Ct l Γ mL_write 5 0 0 [.ref x, .ref b, .ref r] (wWr Γ w x C b f) (PW Γ w x C b (tx ++ ty)) zNo := by
  refine Ct.of (by decide) rfl (Nat.le_of_ble_eq_true rfl) ?_
  refine go_iconst 1 dL_write_0 zc_0 ?_
  refine go_istore_n 2 dL_write_1 (by decide) ?_
  exact go_locals _ rfl (lp_L_write (C := C) hb hr hl ty [] C.2.1 f rfl (by rw [List.append_nil]; exact hW))
end LWrt
