section CTable
set_option maxRecDepth 100000 in
set_option maxHeartbeats 4000000 in
theorem ct_X4_get {l : Launch} {Γ : ZG} {w : ZW} {t a N C R : Nat} {f : ZD} (hw : w.2 t = some (.inr (4, [.ref a, .int (nI C), .int (nI R)]))) (ha : w.2 a = some (.inl (Γ.2.2.1 0, N, .inl f))) {r c : Nat} {x y : Int32} (hx : x = nI r) (hy : y = nI c) (hr : r < R) (hc : c < C) (hN : R * C ≤ N) (hNb : N ≤ 520) (hRb : R ≤ 520) (hCb : C ≤ 520) : Cm l Γ mX4_get 1 [.ref t, .int x, .int y] w (some (.int (f (r * C + c)))) w := by
  subst hx
  subst hy
  have hm : r * C + c < N := by
    have h9 : (r + 1) * C ≤ R * C := Nat.mul_le_mul_right C hr
    rw [Nat.succ_mul] at h9
    omega
  refine Cm.of (by decide) rfl (Nat.le_of_ble_eq_true rfl) ?_
  refine go_iload_n 1 dX4_get_0 rfl ?_
  refine go_aload_n 2 dX4_get_1 rfl ?_
  refine go_get 5 dX4_get_2 fX4_15 hw rfl ?_
  refine go_imul 6 dX4_get_5 ?_
  refine go_iload_n 7 dX4_get_6 rfl ?_
  refine go_iadd 8 dX4_get_7 ?_
  rw [pk_mul, nI_add]
  refine go_istore_n 9 dX4_get_8 (by decide) ?_
  refine go_iload_n 10 dX4_get_9 rfl ?_
  refine go_if_lt 46 13 dX4_get_10 (fun h10 => ?_) (fun h10 => ?_)
  · exact absurd h10 (nI_pos (by omega))
  · refine go_iload_n 14 dX4_get_13 rfl ?_
    refine go_aload_n 15 dX4_get_14 rfl ?_
    refine go_get 18 dX4_get_15 fX4_19 hw rfl ?_
    refine go_icmp_ge 46 21 dX4_get_18 (fun h18 => ?_) (fun h18 => ?_)
    · exact absurd h18 (nI_ge hr (by omega))
    · refine go_iload_n 22 dX4_get_21 rfl ?_
      refine go_if_lt 46 25 dX4_get_22 (fun h22 => ?_) (fun h22 => ?_)
      · exact absurd h22 (nI_pos (by omega))
      · refine go_iload_n 26 dX4_get_25 rfl ?_
        refine go_aload_n 27 dX4_get_26 rfl ?_
        refine go_get 30 dX4_get_27 fX4_15 hw rfl ?_
        refine go_icmp_ge 46 33 dX4_get_30 (fun h30 => ?_) (fun h30 => ?_)
        · exact absurd h30 (nI_ge hc (by omega))
        · refine go_iload_n 34 dX4_get_33 rfl ?_
          refine go_if_lt 46 37 dX4_get_34 (fun h34 => ?_) (fun h34 => ?_)
          · exact absurd h34 (nI_pos (by omega))
          · refine go_iload_n 38 dX4_get_37 rfl ?_
            refine go_aload_n 39 dX4_get_38 rfl ?_
            refine go_get 42 dX4_get_39 fX4_9 hw rfl ?_
            refine go_alen (t0 := 0) (v := nI N) 43 dX4_get_42 ha rfl rfl ?_
            refine go_icmp_lt 48 46 dX4_get_43 (fun h43 => ?_) (fun h43 => ?_)
            · refine go_aload_n 49 dX4_get_48 rfl ?_
              refine go_get 52 dX4_get_49 fX4_9 hw rfl ?_
              refine go_iload_n 53 dX4_get_52 rfl ?_
              refine go_iald 54 dX4_get_53 ha (vp_in_nI hm (by omega)) ?_
              rw [nI_clamp (by omega)]
              exact go_ireturn dX4_get_54 rfl (by omega) (by omega) (⟨rfl, rfl⟩)
            · exact absurd (nI_lt hm (by omega)) h43
set_option maxRecDepth 100000 in
set_option maxHeartbeats 4000000 in
theorem ct_X4_set {l : Launch} {Γ : ZG} {w : ZW} {t a N C R : Nat} {f : ZD} (hw : w.2 t = some (.inr (4, [.ref a, .int (nI C), .int (nI R)]))) (ha : w.2 a = some (.inl (Γ.2.2.1 0, N, .inl f))) {r c : Nat} {x y v : Int32} (hx : x = nI r) (hy : y = nI c) (hr : r < R) (hc : c < C) (hN : R * C ≤ N) (hNb : N ≤ 520) (hRb : R ≤ 520) (hCb : C ≤ 520) : Cm l Γ mX4_set 1 [.ref t, .int x, .int y, .int v] w none (wset w a (.inl (Γ.2.2.1 0, N, .inl (upd f (r * C + c) v)))) := by
  subst hx
  subst hy
  have hm : r * C + c < N := by
    have h9 : (r + 1) * C ≤ R * C := Nat.mul_le_mul_right C hr
    rw [Nat.succ_mul] at h9
    omega
  refine Cm.of (by decide) rfl (Nat.le_of_ble_eq_true rfl) ?_
  refine go_iload_n 1 dX4_set_0 rfl ?_
  refine go_aload_n 2 dX4_set_1 rfl ?_
  refine go_get 5 dX4_set_2 fX4_15 hw rfl ?_
  refine go_imul 6 dX4_set_5 ?_
  refine go_iload_n 7 dX4_set_6 rfl ?_
  refine go_iadd 8 dX4_set_7 ?_
  rw [pk_mul, nI_add]
  refine go_istore 10 dX4_set_8 (by decide) ?_
  refine go_iload_n 11 dX4_set_10 rfl ?_
  refine go_if_lt 49 14 dX4_set_11 (fun h11 => ?_) (fun h11 => ?_)
  · exact absurd h11 (nI_pos (by omega))
  · refine go_iload_n 15 dX4_set_14 rfl ?_
    refine go_aload_n 16 dX4_set_15 rfl ?_
    refine go_get 19 dX4_set_16 fX4_19 hw rfl ?_
    refine go_icmp_ge 49 22 dX4_set_19 (fun h19 => ?_) (fun h19 => ?_)
    · exact absurd h19 (nI_ge hr (by omega))
    · refine go_iload_n 23 dX4_set_22 rfl ?_
      refine go_if_lt 49 26 dX4_set_23 (fun h23 => ?_) (fun h23 => ?_)
      · exact absurd h23 (nI_pos (by omega))
      · refine go_iload_n 27 dX4_set_26 rfl ?_
        refine go_aload_n 28 dX4_set_27 rfl ?_
        refine go_get 31 dX4_set_28 fX4_15 hw rfl ?_
        refine go_icmp_ge 49 34 dX4_set_31 (fun h31 => ?_) (fun h31 => ?_)
        · exact absurd h31 (nI_ge hc (by omega))
        · refine go_iload 36 dX4_set_34 rfl ?_
          refine go_if_lt 49 39 dX4_set_36 (fun h36 => ?_) (fun h36 => ?_)
          · exact absurd h36 (nI_pos (by omega))
          · refine go_iload 41 dX4_set_39 rfl ?_
            refine go_aload_n 42 dX4_set_41 rfl ?_
            refine go_get 45 dX4_set_42 fX4_9 hw rfl ?_
            refine go_alen (t0 := 0) (v := nI N) 46 dX4_set_45 ha rfl rfl ?_
            refine go_icmp_lt 50 49 dX4_set_46 (fun h46 => ?_) (fun h46 => ?_)
            · refine go_aload_n 51 dX4_set_50 rfl ?_
              refine go_get 54 dX4_set_51 fX4_9 hw rfl ?_
              refine go_iload 56 dX4_set_54 rfl ?_
              refine go_iload_n 57 dX4_set_56 rfl ?_
              refine go_iast 58 dX4_set_57 ha (vp_in_nI hm (by omega)) ?_
              rw [nI_clamp (by omega)]
              exact go_return dX4_set_58 rfl (by omega) (by omega) (⟨rfl, rfl⟩)
            · exact absurd (nI_lt hm (by omega)) h46
set_option maxRecDepth 100000 in
set_option maxHeartbeats 4000000 in
theorem ct_X4_has {l : Launch} {Γ : ZG} {w : ZW} {t a : Nat} {C R x : Int32} (hw : w.2 t = some (.inr (4, [.ref a, .int C, .int R]))) : Cm l Γ mX4_has 1 [.ref t, .int x] w (some (.int (zb (0 ≤ x ∧ x < R)))) w := by
  refine Cm.of (by decide) rfl (Nat.le_of_ble_eq_true rfl) ?_
  refine go_iload_n 1 dX4_has_0 rfl ?_
  refine go_if_lt 16 4 dX4_has_1 (fun h1 => ?_) (fun h1 => ?_)
  · refine go_iconst 17 dX4_has_16 zc_0 ?_
    exact go_zreturn dX4_has_17 rfl (by omega) (by omega) (Or.inl rfl) (⟨by rw [zb_f (fun q => by first | exact absurd q.1 (Int32.not_le.mpr h1) | exact absurd q.2 (Int32.not_lt.mpr h9))], rfl⟩)
  · refine go_iload_n 5 dX4_has_4 rfl ?_
    refine go_aload_n 6 dX4_has_5 rfl ?_
    refine go_get 9 dX4_has_6 fX4_19 hw rfl ?_
    refine go_icmp_ge 16 12 dX4_has_9 (fun h9 => ?_) (fun h9 => ?_)
    · refine go_iconst 17 dX4_has_16 zc_0 ?_
      exact go_zreturn dX4_has_17 rfl (by omega) (by omega) (Or.inl rfl) (⟨by rw [zb_f (fun q => by first | exact absurd q.1 (Int32.not_le.mpr h1) | exact absurd q.2 (Int32.not_lt.mpr h9))], rfl⟩)
    · refine go_iconst 13 dX4_has_12 zc_1 ?_
      refine go_goto 17 dX4_has_13 ?_
      exact go_zreturn dX4_has_17 rfl (by omega) (by omega) (Or.inr rfl) (⟨by rw [zb_t ⟨Int32.not_lt.mp h1, Int32.not_le.mp h9⟩], rfl⟩)
set_option maxRecDepth 100000 in
set_option maxHeartbeats 4000000 in
theorem ct_X4_clear {l : Launch} {Γ : ZG} {w : ZW} {t a : Nat} {C R : Int32} (hw : w.2 t = some (.inr (4, [.ref a, .int C, .int R]))) : Cm l Γ mX4_clear 1 [.ref t] w none (wset w t (.inr (4, [.ref a, .int C, .int 0]))) := by
  refine Cm.of (by decide) rfl (Nat.le_of_ble_eq_true rfl) ?_
  refine go_aload_n 1 dX4_clear_0 rfl ?_
  refine go_iconst 2 dX4_clear_1 zc_0 ?_
  refine go_put 5 dX4_clear_2 pX4_19 hw (Nat.le_of_ble_eq_true rfl) rfl rfl ?_
  exact go_return dX4_clear_5 rfl (by omega) (by omega) (⟨rfl, rfl⟩)
set_option maxRecDepth 100000 in
set_option maxHeartbeats 4000000 in
theorem lp_X4_addRow {l : Launch} {Γ : ZG} {w : ZW} {t a N C R : Nat} (hta : t ≠ a) (hN : (R + 1) * C ≤ N) (hNb : N ≤ 520) (hRb : R + 1 ≤ 520) (hCb : C ≤ 520) : ∀ (n c : Nat) (g : ZD), c + n = C → Go l Γ mX4_addRow 2 0 0 (fun v w2 => v = some (.int (nI R)) ∧ w2 = (wset (wset w t (.inr (4, [.ref a, .int (nI C), .int (nI (R + 1))]))) a (.inl (Γ.2.2.1 0, N, .inl (itr (fun c g => upd g (R * C + c) 0) c n g))))) zNo 0 0 (wset (wset w t (.inr (4, [.ref a, .int (nI C), .int (nI (R + 1))]))) a (.inl (Γ.2.2.1 0, N, .inl g))) 35 [(0, .ref t), (1, .int (nI R)), (2, .int (nI c))] [] := by
  intro n
  induction n with
  | zero =>
    intro c g hif
    refine go_iload_n 36 dX4_addRow_35 rfl ?_
    refine go_aload_n 37 dX4_addRow_36 rfl ?_
    refine go_get 40 dX4_addRow_37 fX4_15 ((wset_ne hta).trans wset_at) rfl ?_
    refine go_icmp_ge 56 43 dX4_addRow_40 (fun h40 => ?_) (fun h40 => ?_)
    · refine go_iload_n 57 dX4_addRow_56 rfl ?_
      exact go_ireturn dX4_addRow_57 rfl (by omega) (by omega) (⟨rfl, rfl⟩)
    · exact (lpE (a := nI C) (N := C) rfl (by omega) h40).elim
  | succ n ih =>
    intro c g hif
    refine go_iload_n 36 dX4_addRow_35 rfl ?_
    refine go_aload_n 37 dX4_addRow_36 rfl ?_
    refine go_get 40 dX4_addRow_37 fX4_15 ((wset_ne hta).trans wset_at) rfl ?_
    refine go_icmp_ge 56 43 dX4_addRow_40 (fun h40 => ?_) (fun h40 => ?_)
    · exact (lpG (a := nI C) (N := C) rfl (by omega) (by omega) h40).elim
    · refine go_aload_n 44 dX4_addRow_43 rfl ?_
      refine go_iload_n 45 dX4_addRow_44 rfl ?_
      refine go_iload_n 46 dX4_addRow_45 rfl ?_
      refine go_iconst 47 dX4_addRow_46 zc_0 ?_
      refine gcV3v 50 dX4_addRow_47 vX4_22 ((wset_ne hta).trans wset_at) rfl (ct_X4_set (R := R + 1) ((wset_ne hta).trans wset_at) wset_at rfl rfl (by omega) (by omega) hN hNb hRb hCb) ?_
      rw [wset_wset]
      refine go_iinc 53 dX4_addRow_50 rfl (by decide) zc_1 ?_
      refine go_goto 35 dX4_addRow_53 ?_
      rw [nI_1]
      exact go_locals _ rfl (ih (c + 1) _ (by omega))
set_option maxRecDepth 100000 in
set_option maxHeartbeats 4000000 in
theorem ct_X4_addRow {l : Launch} {Γ : ZG} {w : ZW} {t a N C R : Nat} {f : ZD} (hw : w.2 t = some (.inr (4, [.ref a, .int (nI C), .int (nI R)]))) (ha : w.2 a = some (.inl (Γ.2.2.1 0, N, .inl f))) (hta : t ≠ a) (hN : (R + 1) * C ≤ N) (hNb : N ≤ 520) (hRb : R + 1 ≤ 520) (hCb : C ≤ 520) : Cm l Γ mX4_addRow 2 [.ref t] w (some (.int (nI R))) (wset (wset w t (.inr (4, [.ref a, .int (nI C), .int (nI (R + 1))]))) a (.inl (Γ.2.2.1 0, N, .inl (itr (fun c g => upd g (R * C + c) 0) 0 C f)))) := by
  refine Cm.of (by decide) rfl (Nat.le_of_ble_eq_true rfl) ?_
  refine go_aload_n 1 dX4_addRow_0 rfl ?_
  refine go_get 4 dX4_addRow_1 fX4_19 hw rfl ?_
  refine go_istore_n 5 dX4_addRow_4 (by decide) ?_
  refine go_iload_n 6 dX4_addRow_5 rfl ?_
  refine go_iconst 7 dX4_addRow_6 zc_1 ?_
  refine go_iadd 8 dX4_addRow_7 ?_
  refine go_aload_n 9 dX4_addRow_8 rfl ?_
  refine go_get 12 dX4_addRow_9 fX4_15 hw rfl ?_
  rw [nI_1]
  refine go_imul 13 dX4_addRow_12 ?_
  rw [pk_mul]
  refine go_aload_n 14 dX4_addRow_13 rfl ?_
  refine go_get 17 dX4_addRow_14 fX4_9 hw rfl ?_
  refine go_alen (t0 := 0) (v := nI N) 18 dX4_addRow_17 ha rfl rfl ?_
  refine go_icmp_le 23 21 dX4_addRow_18 (fun h18 => ?_) (fun h18 => ?_)
  · refine go_aload_n 24 dX4_addRow_23 rfl ?_
    refine go_dup 25 dX4_addRow_24 rfl ?_
    refine go_get 28 dX4_addRow_25 fX4_19 hw rfl ?_
    refine go_iconst 29 dX4_addRow_28 zc_1 ?_
    refine go_iadd 30 dX4_addRow_29 ?_
    refine go_put 33 dX4_addRow_30 pX4_19 hw (Nat.le_of_ble_eq_true rfl) rfl rfl ?_
    rw [nI_1]
    refine go_conv (g := f) ((wset_ne (Ne.symm hta)).trans ha) (fun _ _ => rfl) ?_
    refine go_iconst 34 dX4_addRow_33 zc_0 ?_
    refine go_istore_n 35 dX4_addRow_34 (by decide) ?_
    exact go_locals _ rfl (lp_X4_addRow hta hN hNb hRb hCb C 0 f (by omega))
  · exact absurd (nI_le hN (by omega)) h18
set_option maxRecDepth 100000 in
set_option maxHeartbeats 4000000 in
theorem lp_X4_copyFrom {l : Launch} {Γ : ZG} {w : ZW} {t a u b N C R : Nat} {R0 : Int32} {f g : ZD} (hw : w.2 t = some (.inr (4, [.ref a, .int (nI C), .int R0]))) (ha : w.2 a = some (.inl (Γ.2.2.1 0, N, .inl f))) (hu : w.2 u = some (.inr (4, [.ref b, .int (nI C), .int (nI R)]))) (hb : w.2 b = some (.inl (Γ.2.2.1 0, N, .inl g))) (hta : t ≠ a) (htu : t ≠ u) (htb : t ≠ b) (hau : a ≠ u) (hab : a ≠ b) (hN : R * C ≤ N) (hNb : N ≤ 520) (hRb : R ≤ 520) (hCb : C ≤ 520) : ∀ (n i : Nat), i + n = R * C → Go l Γ mX4_copyFrom 1 0 0 (fun v w2 => v = none ∧ w2 = (wset (wset w t (.inr (4, [.ref a, .int (nI C), .int (nI R)]))) a (.inl (Γ.2.2.1 0, N, .inl (cpi g f (R * C)))))) zNo 0 0 (wset (wset w t (.inr (4, [.ref a, .int (nI C), .int (nI R)]))) a (.inl (Γ.2.2.1 0, N, .inl (cpi g f i)))) 10 [(0, .ref t), (1, .ref u), (2, .int (nI i))] [] := by
  intro n
  induction n with
  | zero =>
    intro i hif
    refine go_iload_n 11 dX4_copyFrom_10 rfl ?_
    refine go_aload_n 12 dX4_copyFrom_11 rfl ?_
    refine go_get 15 dX4_copyFrom_12 fX4_9 ((wset_ne hta).trans wset_at) rfl ?_
    refine go_alen (t0 := 0) (v := nI N) 16 dX4_copyFrom_15 wset_at rfl rfl ?_
    refine go_icmp_ge 59 19 dX4_copyFrom_16 (fun h16 => ?_) (fun h16 => ?_)
    · exact go_return dX4_copyFrom_59 rfl (by omega) (by omega) (⟨rfl, by rw [show i = R * C by omega]⟩)
    · refine go_iload_n 20 dX4_copyFrom_19 rfl ?_
      refine go_aload_n 21 dX4_copyFrom_20 rfl ?_
      refine go_get 24 dX4_copyFrom_21 fX4_9 ((wset_ne (Ne.symm hau)).trans ((wset_ne (Ne.symm htu)).trans hu)) rfl ?_
      refine go_alen (t0 := 0) (v := nI N) 25 dX4_copyFrom_24 ((wset_ne (Ne.symm hab)).trans ((wset_ne (Ne.symm htb)).trans hb)) rfl rfl ?_
      refine go_icmp_ge 59 28 dX4_copyFrom_25 (fun h25 => ?_) (fun h25 => ?_)
      · exact go_return dX4_copyFrom_59 rfl (by omega) (by omega) (⟨rfl, by rw [show i = R * C by omega]⟩)
      · refine go_iload_n 29 dX4_copyFrom_28 rfl ?_
        refine go_aload_n 30 dX4_copyFrom_29 rfl ?_
        refine go_get 33 dX4_copyFrom_30 fX4_19 ((wset_ne hta).trans wset_at) rfl ?_
        refine go_aload_n 34 dX4_copyFrom_33 rfl ?_
        refine go_get 37 dX4_copyFrom_34 fX4_15 ((wset_ne hta).trans wset_at) rfl ?_
        refine go_imul 38 dX4_copyFrom_37 ?_
        rw [pk_mul]
        refine go_icmp_ge 59 41 dX4_copyFrom_38 (fun h38 => ?_) (fun h38 => ?_)
        · exact go_return dX4_copyFrom_59 rfl (by omega) (by omega) (⟨rfl, by rw [show i = R * C by omega]⟩)
        · exact absurd (show nI (R * C) ≤ nI i from nI_le (by omega) (by omega)) h38
  | succ n ih =>
    intro i hif
    refine go_iload_n 11 dX4_copyFrom_10 rfl ?_
    refine go_aload_n 12 dX4_copyFrom_11 rfl ?_
    refine go_get 15 dX4_copyFrom_12 fX4_9 ((wset_ne hta).trans wset_at) rfl ?_
    refine go_alen (t0 := 0) (v := nI N) 16 dX4_copyFrom_15 wset_at rfl rfl ?_
    refine go_icmp_ge 59 19 dX4_copyFrom_16 (fun h16 => ?_) (fun h16 => ?_)
    · exact absurd h16 (nI_ge (by omega) (by omega))
    · refine go_iload_n 20 dX4_copyFrom_19 rfl ?_
      refine go_aload_n 21 dX4_copyFrom_20 rfl ?_
      refine go_get 24 dX4_copyFrom_21 fX4_9 ((wset_ne (Ne.symm hau)).trans ((wset_ne (Ne.symm htu)).trans hu)) rfl ?_
      refine go_alen (t0 := 0) (v := nI N) 25 dX4_copyFrom_24 ((wset_ne (Ne.symm hab)).trans ((wset_ne (Ne.symm htb)).trans hb)) rfl rfl ?_
      refine go_icmp_ge 59 28 dX4_copyFrom_25 (fun h25 => ?_) (fun h25 => ?_)
      · exact absurd h25 (nI_ge (by omega) (by omega))
      · refine go_iload_n 29 dX4_copyFrom_28 rfl ?_
        refine go_aload_n 30 dX4_copyFrom_29 rfl ?_
        refine go_get 33 dX4_copyFrom_30 fX4_19 ((wset_ne hta).trans wset_at) rfl ?_
        refine go_aload_n 34 dX4_copyFrom_33 rfl ?_
        refine go_get 37 dX4_copyFrom_34 fX4_15 ((wset_ne hta).trans wset_at) rfl ?_
        refine go_imul 38 dX4_copyFrom_37 ?_
        rw [pk_mul]
        refine go_icmp_ge 59 41 dX4_copyFrom_38 (fun h38 => ?_) (fun h38 => ?_)
        · exact absurd h38 (nI_ge (by omega) (by omega))
        · refine go_aload_n 42 dX4_copyFrom_41 rfl ?_
          refine go_get 45 dX4_copyFrom_42 fX4_9 ((wset_ne hta).trans wset_at) rfl ?_
          refine go_iload_n 46 dX4_copyFrom_45 rfl ?_
          refine go_aload_n 47 dX4_copyFrom_46 rfl ?_
          refine go_get 50 dX4_copyFrom_47 fX4_9 ((wset_ne (Ne.symm hau)).trans ((wset_ne (Ne.symm htu)).trans hu)) rfl ?_
          refine go_iload_n 51 dX4_copyFrom_50 rfl ?_
          refine go_iald 52 dX4_copyFrom_51 ((wset_ne (Ne.symm hab)).trans ((wset_ne (Ne.symm htb)).trans hb)) (vp_in_nI (n := i) (by omega) (by omega)) ?_
          rw [nI_clamp (by omega)]
          refine go_iast 53 dX4_copyFrom_52 wset_at (vp_in_nI (n := i) (by omega) (by omega)) ?_
          rw [nI_clamp (by omega), wset_wset, cpi_s]
          refine go_iinc 56 dX4_copyFrom_53 rfl (by decide) zc_1 ?_
          refine go_goto 10 dX4_copyFrom_56 ?_
          rw [nI_1]
          exact go_locals _ rfl (ih (i + 1) (by omega))
set_option maxRecDepth 100000 in
set_option maxHeartbeats 4000000 in
theorem ct_X4_copyFrom {l : Launch} {Γ : ZG} {w : ZW} {t a u b N C R : Nat} {R0 : Int32} {f g : ZD} (hw : w.2 t = some (.inr (4, [.ref a, .int (nI C), .int R0]))) (ha : w.2 a = some (.inl (Γ.2.2.1 0, N, .inl f))) (hu : w.2 u = some (.inr (4, [.ref b, .int (nI C), .int (nI R)]))) (hb : w.2 b = some (.inl (Γ.2.2.1 0, N, .inl g))) (hta : t ≠ a) (htu : t ≠ u) (htb : t ≠ b) (hau : a ≠ u) (hab : a ≠ b) (hN : R * C ≤ N) (hNb : N ≤ 520) (hRb : R ≤ 520) (hCb : C ≤ 520) : Cm l Γ mX4_copyFrom 1 [.ref t, .ref u] w none (wset (wset w t (.inr (4, [.ref a, .int (nI C), .int (nI R)]))) a (.inl (Γ.2.2.1 0, N, .inl (cpi g f (R * C))))) := by
  refine Cm.of (by decide) rfl (Nat.le_of_ble_eq_true rfl) ?_
  refine go_aload_n 1 dX4_copyFrom_0 rfl ?_
  refine go_aload_n 2 dX4_copyFrom_1 rfl ?_
  refine go_get 5 dX4_copyFrom_2 fX4_19 hu rfl ?_
  refine go_put 8 dX4_copyFrom_5 pX4_19 hw (Nat.le_of_ble_eq_true rfl) rfl rfl ?_
  refine go_iconst 9 dX4_copyFrom_8 zc_0 ?_
  refine go_istore_n 10 dX4_copyFrom_9 (by decide) ?_
  refine go_conv (g := cpi g f 0) ((wset_ne (Ne.symm hta)).trans ha) (fun j hj => (if_neg (by omega)).symm) ?_
  exact go_locals _ rfl (lp_X4_copyFrom hw ha hu hb hta htu htb hau hab hN hNb hRb hCb (R * C) 0 (by omega))
end CTable
