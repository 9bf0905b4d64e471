section LInit

theorem nX6_25 : zNew RX6 25 10 6 [.int 0, .int 0, .int 0, .null, .null, .null] := ⟨_, _, tyX10, rfl, uX10_ok, tyX10_ok, zGood.mem 282 (by decide +kernel) rfl, zGood.mem 335 (by decide +kernel) rfl, zGood.mem 71 (by decide +kernel) rfl, fun j hj => match j, hj with | 0, _ => rfl | 1, _ => rfl | 2, _ => rfl | 3, _ => rfl | 4, _ => rfl | 5, _ => rfl | j + 6, h => absurd h (by omega)⟩

theorem nX6_31 : zNew RX6 31 7 8 [.null, .int 0, .int 0, .int 0, .int 0, .int 0, .null, .null] := ⟨_, _, tyX7, rfl, uX7_ok, tyX7_ok, zGood.mem 284 (by decide +kernel) rfl, zGood.mem 362 (by decide +kernel) rfl, zGood.mem 72 (by decide +kernel) rfl, fun j hj => match j, hj with | 0, _ => rfl | 1, _ => rfl | 2, _ => rfl | 3, _ => rfl | 4, _ => rfl | 5, _ => rfl | 6, _ => rfl | 7, _ => rfl | j + 8, h => absurd h (by omega)⟩

theorem nX6_8 : zNew RX6 8 6 9 [.int 0, .int 0, .int 0, .int 0, .null, .null, .null, .null, .null] := ⟨_, _, tyX6, rfl, uX6_ok, tyX6_ok, zGood.mem 327 (by decide +kernel) rfl, zGood.mem 275 (by decide +kernel) rfl, zGood.mem 50 (by decide +kernel) rfl, fun j hj => match j, hj with | 0, _ => rfl | 1, _ => rfl | 2, _ => rfl | 3, _ => rfl | 4, _ => rfl | 5, _ => rfl | 6, _ => rfl | 7, _ => rfl | 8, _ => rfl | j + 9, h => absurd h (by omega)⟩

theorem nL_110 : zNew RL 110 6 9 [.int 0, .int 0, .int 0, .int 0, .null, .null, .null, .null, .null] := ⟨_, _, tyX6, rfl, uX6_ok, tyX6_ok, zGood.mem 274 (by decide +kernel) rfl, zGood.mem 275 (by decide +kernel) rfl, zGood.mem 50 (by decide +kernel) rfl, fun j hj => match j, hj with | 0, _ => rfl | 1, _ => rfl | 2, _ => rfl | 3, _ => rfl | 4, _ => rfl | 5, _ => rfl | 6, _ => rfl | 7, _ => rfl | 8, _ => rfl | j + 9, h => absurd h (by omega)⟩

theorem nL_116 : zNew RL 116 9 1 [.int 0] := ⟨_, _, tyX9, rfl, uX9_ok, tyX9_ok, zGood.mem 497 (by decide +kernel) rfl, zGood.mem 498 (by decide +kernel) rfl, zGood.mem 49 (by decide +kernel) rfl, fun j hj => match j, hj with | 0, _ => rfl | j + 1, h => absurd h (by omega)⟩

theorem nX8_7 : zNew RX8 7 8 4 [.int 0, .int 0, .null, .null] := ⟨_, _, tyX8, rfl, uX8_ok, tyX8_ok, zGood.mem 1129 (by decide +kernel) rfl, zGood.mem 1130 (by decide +kernel) rfl, zGood.mem 62 (by decide +kernel) rfl, fun j hj => match j, hj with | 0, _ => rfl | 1, _ => rfl | 2, _ => rfl | 3, _ => rfl | j + 4, h => absurd h (by omega)⟩

/-- a new leg, before and behind its constructor -/
def z7 : List Value := [.null, .int 0, .int 0, .int 0, .int 0, .int 0, .null, .null]
def z10 : List Value := [.int 0, .int 0, .int 0, .null, .null, .null]
def z6 : List Value := [.int 0, .int 0, .int 0, .int 0, .null, .null, .null, .null, .null]
theorem ct_X10_init {l : Launch} {Γ : ZG} {w : ZW} {a : Nat} : Cm l Γ mX10_init 1 [.ref a] w none w := by
  refine Cm.of (by decide) rfl (Nat.le_of_ble_eq_true rfl) ?_
  refine go_aload_n 1 dX10_init_0 rfl ?_
  refine go_objInit 4 dX10_init_1 oX10_1 oInst oCode (by decide) (by exact Nat.le_of_ble_eq_true rfl) ?_
  exact go_return dX10_init_4 rfl (by omega) (by omega) ⟨rfl, rfl⟩
theorem ct_X8_init {l : Launch} {Γ : ZG} {w : ZW} {a : Nat} : Cm l Γ mX8_init 1 [.ref a] w none w := by
  refine Cm.of (by decide) rfl (Nat.le_of_ble_eq_true rfl) ?_
  refine go_aload_n 1 dX8_init_0 rfl ?_
  refine go_objInit 4 dX8_init_1 oX8_1 oInst oCode (by decide) (by exact Nat.le_of_ble_eq_true rfl) ?_
  exact go_return dX8_init_4 rfl (by omega) (by omega) ⟨rfl, rfl⟩
theorem ct_X9_init {l : Launch} {Γ : ZG} {w : ZW} {a : Nat} {s : Int32} (h : w.2 a = some (.inr (9, [.int 0]))) : Cm l Γ mX9_init 1 [.ref a, .int s] w none (wset w a (.inr (9, [.int s]))) := by
  refine Cm.of (by decide) rfl (Nat.le_of_ble_eq_true rfl) ?_
  refine go_aload_n 1 dX9_init_0 rfl ?_
  refine go_objInit 4 dX9_init_1 oX9_1 oInst oCode (by decide) (by exact Nat.le_of_ble_eq_true rfl) ?_
  refine go_aload_n 5 dX9_init_4 rfl ?_
  refine go_iload_n 6 dX9_init_5 rfl ?_
  refine go_put 9 dX9_init_6 pX9_7 h (show 0 < 1 by decide) rfl rfl ?_
  exact go_return dX9_init_9 rfl (by omega) (by omega) ⟨rfl, rfl⟩
/-- behind something that made cells and changed one: what is there -/
theorem wnew_at' {w : ZW} {c : va_E} : (wnew w c).2 w.1 = some c := if_pos rfl
theorem wnew_lt {w : ZW} {c : va_E} {q : Nat} (h : q < w.1) : (wnew w c).2 q = w.2 q := if_neg (by omega)
theorem wn_ws {w : ZW} {a : Nat} {c c' : va_E} (h : a < w.1) : (wnew (wset w a c) c').2 a = some c := (wnew_lt (w := wset w a c) h).trans wset_at
theorem ct_X7_init {l : Launch} {Γ : ZG} {w : ZW} {a : Nat} (h : w.2 a = some (.inr (7, z7))) : Ct l Γ mX7_init 1 1 2 [.ref a] w (fun v w' => v = none ∧ a < w.1 ∧ w' = wset (wnew w (q5 Γ 4 2 (fun _ => none))) a (.inr (7, z7.set 7 (.ref w.1)))) zNo := by
  refine Ct.of (by decide) rfl (Nat.le_of_ble_eq_true rfl) (go_wf fun hw => ?_)
  refine go_aload_n 1 dX7_init_0 rfl ?_
  refine go_objInit 4 dX7_init_1 oX7_1 oInst oCode (by decide) (by exact Nat.le_of_ble_eq_true rfl) ?_
  refine go_aload_n 5 dX7_init_4 rfl ?_
  refine go_iconst 6 dX7_init_5 zc_2 ?_
  refine go_anewA 9 dX7_init_6 al_X7_7 (N := 2) rfl (by decide) (by decide) (by decide) ?_
  refine go_put 12 dX7_init_9 pX7_9 ((wnew_lt (hw _ _ h)).trans h) (show 7 < 8 by decide) rfl rfl ?_
  exact go_return dX7_init_12 rfl (by omega) (by omega) ⟨rfl, hw _ _ h, rfl⟩
/-- a leg that no exchange holds yet is closed -/
theorem ct_X7_close {l : Launch} {Γ : ZG} {w : ZW} {a : Nat} {v0 v1 : Value} {i2 i3 i4 i5 s r : Int32} {v6 v7 : Value} (h : w.2 a = some (.inr (7, [v0, v1, .int i2, .int i3, .int i4, .int i5, v6, v7]))) : Ct l Γ mX7_close 1 1 2 [.ref a, .int s, .int r] w (fun v w' => v = none ∧ a < w.1 ∧ w'.1 = w.1 + 1 ∧ (∀ q, q ≠ a → q < w.1 → w'.2 q = w.2 q) ∧ w'.2 w.1 = some (q5 Γ 4 2 (fun _ => none)) ∧ w'.2 a = some (.inr (7, [v0, v1, .int s, .int r, .int i4, .int i5, .null, .ref w.1]))) zNo := by
  refine Ct.of (by decide) rfl (Nat.le_of_ble_eq_true rfl) (go_wf fun hw => ?_)
  have ha := hw _ _ h
  refine go_aload_n 1 dX7_close_0 rfl ?_
  refine go_iload_n 2 dX7_close_1 rfl ?_
  refine go_put 5 dX7_close_2 pX7_15 h (show 2 < 8 by decide) rfl rfl ?_
  refine go_aload_n 6 dX7_close_5 rfl ?_
  refine go_iload_n 7 dX7_close_6 rfl ?_
  refine go_put 10 dX7_close_7 pX7_19 wset_at (show 3 < 8 by decide) rfl rfl ?_
  refine go_aload_n 11 dX7_close_10 rfl ?_
  refine go_null 12 dX7_close_11 ?_
  refine go_put 15 dX7_close_12 pX7_22 wset_at (show 6 < 8 by decide) rfl rfl ?_
  refine go_aload_n 16 dX7_close_15 rfl ?_
  refine go_iconst 17 dX7_close_16 zc_2 ?_
  refine go_anewA 20 dX7_close_17 al_X7_7 (N := 2) rfl (by decide) (by decide) (by decide) ?_
  refine go_put 23 dX7_close_20 pX7_9 (by exact wn_ws (by exact ha)) (by exact (show 7 < 8 by decide)) rfl rfl ?_
  refine go_return dX7_close_23 rfl (by omega) (by omega) ⟨rfl, ha, rfl, fun q h1 h2 => ?_, ?_, wset_at⟩
  · show (if q = a then _ else if q = w.1 then _ else if q = a then _ else if q = a then _ else if q = a then _ else w.2 q) = _
    rw [if_neg h1, if_neg (by omega), if_neg h1, if_neg h1, if_neg h1]
  · show (if w.1 = a then _ else if w.1 = w.1 then _ else _) = _
    rw [if_neg (by omega), if_pos rfl]; rfl
theorem ct_X6_init {l : Launch} {Γ : ZG} {w : ZW} {a : Nat} (h : w.2 a = some (.inr (6, z6))) : Ct l Γ mX6_init 1 4 7 [.ref a] w (fun v w' => v = none ∧ a < w.1 ∧ w'.1 = w.1 + 4 ∧ (∀ q, q ≠ a → q < w.1 → w'.2 q = w.2 q) ∧ w'.2 a = some (.inr (6, [.int 0, .int 3, .int 5, .int 20, .ref w.1, .ref (w.1 + 1), .ref (w.1 + 2), .ref (w.1 + 3), .null])) ∧ w'.2 w.1 = some (q5 Γ 4 0 (fun _ => none)) ∧ w'.2 (w.1 + 1) = some (q5 Γ 8 0 (fun _ => none)) ∧ w'.2 (w.1 + 2) = some (q5 Γ 7 0 (fun _ => none)) ∧ w'.2 (w.1 + 3) = some (i5 Γ 7 (fun _ => 0))) zNo := by
  refine Ct.of (by decide) rfl (Nat.le_of_ble_eq_true rfl) (go_wf fun hw => ?_)
  have ha := hw _ _ h
  refine go_aload_n 1 dX6_init_0 rfl ?_
  refine go_objInit 4 dX6_init_1 oX6_1 oInst oCode (by decide) (by exact Nat.le_of_ble_eq_true rfl) ?_
  refine go_aload_n 5 dX6_init_4 rfl ?_
  refine go_iconst 6 dX6_init_5 zc_3 ?_
  refine go_put 9 dX6_init_6 pX6_7 h (show 1 < 9 by decide) rfl rfl ?_
  refine go_aload_n 10 dX6_init_9 rfl ?_
  refine go_iconst 11 dX6_init_10 zc_5 ?_
  refine go_put 14 dX6_init_11 pX6_13 wset_at (show 2 < 9 by decide) rfl rfl ?_
  refine go_aload_n 15 dX6_init_14 rfl ?_
  refine go_bipush 17 dX6_init_15 zb_20 ?_
  refine go_put 20 dX6_init_17 pX6_16 wset_at (show 3 < 9 by decide) rfl rfl ?_
  refine go_aload_n 21 dX6_init_20 rfl ?_
  refine go_iconst 22 dX6_init_21 zc_0 ?_
  refine go_anewA 25 dX6_init_22 al_X6_19 (N := 0) rfl (by decide) (by decide) (by decide) ?_
  refine go_put 28 dX6_init_25 pX6_21 (by exact wn_ws (by exact ha)) (by exact (show 4 < 9 by decide)) rfl rfl ?_
  refine go_aload_n 29 dX6_init_28 rfl ?_
  refine go_iconst 30 dX6_init_29 zc_0 ?_
  refine go_anew8 33 dX6_init_30 al_X6_25 (N := 0) rfl (by decide) (by decide) (by decide) ?_
  refine go_put 36 dX6_init_33 pX6_27 (by exact wn_ws (by show a < w.1 + 1; omega)) (by exact (show 5 < 9 by decide)) rfl rfl ?_
  refine go_aload_n 37 dX6_init_36 rfl ?_
  refine go_iconst 38 dX6_init_37 zc_0 ?_
  refine go_anew7 41 dX6_init_38 al_X6_31 (N := 0) rfl (by decide) (by decide) (by decide) ?_
  refine go_put 44 dX6_init_41 pX6_33 (by exact wn_ws (by show a < w.1 + 1 + 1; omega)) (by exact (show 6 < 9 by decide)) rfl rfl ?_
  refine go_aload_n 45 dX6_init_44 rfl ?_
  refine go_bipush 47 dX6_init_45 zb_7 ?_
  refine go_newarray_i 49 dX6_init_47 (N := 7) rfl (by decide) (by decide) (by decide) ac_int ?_
  refine go_put 52 dX6_init_49 pX6_37 (by exact wn_ws (by show a < w.1 + 1 + 1 + 1; omega)) (by exact (show 7 < 9 by decide)) rfl rfl ?_
  refine go_return dX6_init_52 rfl (by omega) (by omega) ⟨rfl, ha, rfl, fun q h1 h2 => ?_, wset_at, ?_, ?_, ?_, ?_⟩
  · simp only [wset, wnew, h1, if_false, if_neg (show ¬ q = w.1 by omega), if_neg (show ¬ q = w.1 + 1 by omega), if_neg (show ¬ q = w.1 + 1 + 1 by omega), if_neg (show ¬ q = w.1 + 1 + 1 + 1 by omega)]
  · simp only [wset, wnew, if_neg (show ¬ w.1 = a by omega), if_neg (show ¬ w.1 = w.1 + 1 by omega), if_neg (show ¬ w.1 = w.1 + 1 + 1 by omega), if_neg (show ¬ w.1 = w.1 + 1 + 1 + 1 by omega), if_true]; rfl
  · simp only [wset, wnew, if_neg (show ¬ w.1 + 1 = a by omega), if_neg (show ¬ w.1 + 1 = w.1 + 1 + 1 by omega), if_neg (show ¬ w.1 + 1 = w.1 + 1 + 1 + 1 by omega), if_true]; rfl
  · simp only [wset, wnew, if_neg (show ¬ w.1 + 2 = a by omega), if_neg (show ¬ w.1 + 2 = w.1 + 1 + 1 + 1 by omega), if_pos (show w.1 + 2 = w.1 + 1 + 1 by omega)]; rfl
  · simp only [wset, wnew, if_neg (show ¬ w.1 + 3 = a by omega), if_pos (show w.1 + 3 = w.1 + 1 + 1 + 1 by omega)]; rfl

end LInit
