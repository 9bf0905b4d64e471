section Begin
/-! the two objects as they are made *-/
def C00 : CS := (fun _ => E00, (fun _ => 0, z0, E00, z0), 0, 0, -1)
set_option maxRecDepth 100000 in
theorem cf_20 {Γ : ZG} {x : Nat} : (cfL Γ x)[20]? = some (ccl Γ x C00 20) := by
  show some (svA Γ (x + 19) 8) = some (.inl (Γ.2.2.1 3, 8, .inr (.inr (.inr (.inr (savF x))))))
  unfold svA svF
  refine congrArg (fun z => some (Sum.inl (Γ.2.2.1 3, 8, Sum.inr (Sum.inr (Sum.inr (Sum.inr z)))))) (funext fun i => ?_)
  unfold savF
  by_cases h : i < 8
  · rw [if_pos h, if_pos h]
    exact congrArg some (by omega)
  · rw [if_neg h, if_neg h]
set_option maxRecDepth 100000 in
theorem md_5 {Γ : ZG} {o : Nat} : (mdL Γ o)[5]? = mcell Γ o (ma MS0 1 usual) 5 := by
  show (some (.inl (Γ.2.2.1 4, 8, .inr (.inr (.inr (.inr (fun i => if i < 8 then some (o + 5 + 1 + i) else none)))))) : Option va_E) = some (.inl (Γ.2.2.1 4, 8, .inr (.inr (.inr (.inr (fun i => if i < 8 then some (o + (6 + i)) else none))))))
  refine congrArg (fun z => some (Sum.inl (Γ.2.2.1 4, 8, Sum.inr (Sum.inr (Sum.inr (Sum.inr z)))))) (funext fun i => ?_)
  by_cases h : i < 8
  · rw [if_pos h, if_pos h]
    exact congrArg some (by omega)
  · rw [if_neg h, if_neg h]
set_option maxRecDepth 100000 in
theorem cf_at (Γ : ZG) (x : Nat) : ∀ j, j < 105 → (cfL Γ x)[j]? = some (ccl Γ x C00 j)
  | 0, _ => rfl
  | 1, _ => rfl
  | 2, _ => rfl
  | 3, _ => rfl
  | 4, _ => rfl
  | 5, _ => rfl
  | 6, _ => rfl
  | 7, _ => rfl
  | 8, _ => rfl
  | 9, _ => rfl
  | 10, _ => rfl
  | 11, _ => rfl
  | 12, _ => rfl
  | 13, _ => rfl
  | 14, _ => rfl
  | 15, _ => rfl
  | 16, _ => rfl
  | 17, _ => rfl
  | 18, _ => rfl
  | 19, _ => rfl
  | 20, _ => cf_20
  | 21, _ => rfl
  | 22, _ => rfl
  | 23, _ => rfl
  | 24, _ => rfl
  | 25, _ => rfl
  | 26, _ => rfl
  | 27, _ => rfl
  | 28, _ => rfl
  | 29, _ => rfl
  | 30, _ => rfl
  | 31, _ => rfl
  | 32, _ => rfl
  | 33, _ => rfl
  | 34, _ => rfl
  | 35, _ => rfl
  | 36, _ => rfl
  | 37, _ => rfl
  | 38, _ => rfl
  | 39, _ => rfl
  | 40, _ => rfl
  | 41, _ => rfl
  | 42, _ => rfl
  | 43, _ => rfl
  | 44, _ => rfl
  | 45, _ => rfl
  | 46, _ => rfl
  | 47, _ => rfl
  | 48, _ => rfl
  | 49, _ => rfl
  | 50, _ => rfl
  | 51, _ => rfl
  | 52, _ => rfl
  | 53, _ => rfl
  | 54, _ => rfl
  | 55, _ => rfl
  | 56, _ => rfl
  | 57, _ => rfl
  | 58, _ => rfl
  | 59, _ => rfl
  | 60, _ => rfl
  | 61, _ => rfl
  | 62, _ => rfl
  | 63, _ => rfl
  | 64, _ => rfl
  | 65, _ => rfl
  | 66, _ => rfl
  | 67, _ => rfl
  | 68, _ => rfl
  | 69, _ => rfl
  | 70, _ => rfl
  | 71, _ => rfl
  | 72, _ => rfl
  | 73, _ => rfl
  | 74, _ => rfl
  | 75, _ => rfl
  | 76, _ => rfl
  | 77, _ => rfl
  | 78, _ => rfl
  | 79, _ => rfl
  | 80, _ => rfl
  | 81, _ => rfl
  | 82, _ => rfl
  | 83, _ => rfl
  | 84, _ => rfl
  | 85, _ => rfl
  | 86, _ => rfl
  | 87, _ => rfl
  | 88, _ => rfl
  | 89, _ => rfl
  | 90, _ => rfl
  | 91, _ => rfl
  | 92, _ => rfl
  | 93, _ => rfl
  | 94, _ => rfl
  | 95, _ => rfl
  | 96, _ => rfl
  | 97, _ => rfl
  | 98, _ => rfl
  | 99, _ => rfl
  | 100, _ => rfl
  | 101, _ => rfl
  | 102, _ => rfl
  | 103, _ => rfl
  | 104, _ => rfl
  | n + 105, h => absurd h (by omega)
set_option maxRecDepth 100000 in
theorem md_at (Γ : ZG) (o : Nat) : ∀ j, j < 15 → (mdL Γ o)[j]? = mcell Γ o (ma MS0 1 usual) j
  | 0, _ => rfl
  | 1, _ => rfl
  | 2, _ => rfl
  | 3, _ => rfl
  | 4, _ => rfl
  | 5, _ => md_5
  | 6, _ => rfl
  | 7, _ => rfl
  | 8, _ => rfl
  | 9, _ => rfl
  | 10, _ => rfl
  | 11, _ => rfl
  | 12, _ => rfl
  | 13, _ => rfl
  | 14, _ => rfl
  | n + 15, h => absurd h (by omega)
section
variable {Γ : ZG} {w0 b : ZW} {x o p : Nat} {C : CS} {S : MS} {D : ZD}
theorem LW_C : LW w0 x (cfL Γ x) = wC Γ (x + 105, w0.2) x C00 := by
  refine Prod.ext rfl (funext fun q => ?_)
  show (if x ≤ q ∧ q < x + 105 then (cfL Γ x)[q - x]? else w0.2 q) = if x ≤ q ∧ q < x + 105 then some (ccl Γ x C00 (q - x)) else w0.2 q
  by_cases h : x ≤ q ∧ q < x + 105
  · rw [if_pos h, if_pos h, cf_at Γ x (q - x) (by omega)]
  · rw [if_neg h, if_neg h]
theorem LW_M : LW w0 o (mdL Γ o) = wD Γ (o + 15, w0.2) o MS0 usual := by
  refine Prod.ext rfl (funext fun q => ?_)
  show (if o ≤ q ∧ q < o + 15 then (mdL Γ o)[q - o]? else w0.2 q) = if o ≤ q ∧ q < o + 15 then mcell Γ o (ma MS0 1 usual) (q - o) else w0.2 q
  by_cases h : o ≤ q ∧ q < o + 15
  · rw [if_pos h, if_pos h, md_at Γ o (q - o) (by omega)]
  · rw [if_neg h, if_neg h]
theorem LW_CM (ho : o = x + 105) : LW (LW w0 x (cfL Γ x)) o (mdL Γ o) = WL Γ (o + 15, w0.2) x C00 o MS0 usual := by
  rw [LW_M, LW_C, WL_sw (by omega)]
  rfl
theorem WL_new {c : va_E} (hx : x + 105 ≤ o) (hb : b.1 = p) (hp : o + 15 ≤ p) : wnew (WL Γ b x C o S D) c = WL Γ (p + 1, fun q => if q = p then some c else b.2 q) x C o S D := by
  subst hb
  refine Prod.ext rfl (funext fun q => ?_)
  show (if q = b.1 then some c else if x ≤ q ∧ q < x + 105 then some (ccl Γ x C (q - x)) else if o ≤ q ∧ q < o + 15 then mcell Γ o (ma S 1 D) (q - o) else b.2 q) = if x ≤ q ∧ q < x + 105 then some (ccl Γ x C (q - x)) else if o ≤ q ∧ q < o + 15 then mcell Γ o (ma S 1 D) (q - o) else if q = b.1 then some c else b.2 q
  by_cases h1 : q = b.1
  · rw [if_pos h1, if_neg (by omega), if_neg (by omega), if_pos h1]
  · rw [if_neg h1, if_neg h1]
theorem wnew_LW0 {z : va_E} : wnew w0 z = LW w0 w0.1 [z] := by
  refine Prod.ext rfl (funext fun q => ?_)
  show (if q = w0.1 then some z else w0.2 q) = if w0.1 ≤ q ∧ q < w0.1 + 1 then [z][q - w0.1]? else w0.2 q
  by_cases h : q = w0.1
  · subst h
    rw [if_pos rfl, if_pos ⟨Nat.le_refl _, Nat.lt_succ_self _⟩, Nat.sub_self]
    rfl
  · rw [if_neg h, if_neg (by omega)]
theorem us_n : nP usual = 0 ∧ nC usual = 0 ∧ nL usual = 0 ∧ tmN usual = 0 := ⟨rfl, rfl, rfl, rfl⟩
theorem us_CR : CR usual none (fun _ => (0, 0)) E00 usual ∧ GI (fun _ => (0, 0)) usual := by
  obtain ⟨n1, n2, n3, n4⟩ := us_n
  have hI : Iv usual := ⟨⟨⟨rfl, by omega⟩, ⟨rfl, by omega⟩, ⟨rfl, by omega⟩, fun k hk => by omega⟩, fun c hc => by omega, fun k hk => by omega, fun c hc => by omega⟩
  refine ⟨⟨⟨⟨rfl, rfl, rfl, rfl⟩, ⟨rfl, rfl, rfl, rfl⟩, fun q i hq hi => by omega, fun q i hq hi => by omega, fun q hq => by omega, fun k i hk hi => by omega, fun i hi => ?_⟩, hI, sm_rf, rfl, fun q hq => by omega⟩, ⟨fun c hc => by omega, ⟨fun c hc => by omega, rfl⟩, hI, fun k k' h1 h2 => by omega, fun k hk => by omega, fun q i hq hi => by omega, ⟨rfl, by omega⟩, fun c hc => by omega⟩⟩
  have e : E00.1 3 i = 0 := zrow_i (g := z0) (b := 0) (C := 7) (by omega)
  rw [e]
  exact ((if_neg (by omega)).trans ((if_neg (by omega)).trans (if_neg (by omega)))).symm
theorem LI0 (hx : x + 105 ≤ o) (hp : o + 15 ≤ p) (h1 : b.1 = p + 1) (hb : ∃ f, b.2 p = some (lcell Γ f)) : LI Γ (p + 1) b x C00 o MS0 usual p :=
  ⟨⟨hx, hp, Nat.le_refl _, Nat.le_of_eq h1.symm⟩, hb, ⟨none, fun _ => (0, 0), [], us_CR.1, us_CR.2, ⟨rfl, Nat.zero_le _, fun j hj => absurd hj (Nat.not_lt_zero _), Or.inl rfl⟩, rfl, (fun r hr => by cases hr), (by rw [us_n.2.2.2]; exact Nat.zero_le _)⟩, ⟨0, 0, rfl, by decide, rfl, by decide, rfl, fun j hj => absurd hj (Nat.not_lt_zero _)⟩, ⟨0, rfl, rfl, Nat.zero_le _, fun k hk => absurd hk (Nat.not_lt_zero _)⟩, rfl⟩
end
set_option maxRecDepth 100000 in
set_option maxHeartbeats 4000000 in
/-- the law, from its entry -/
theorem go_law {l : Launch} {Γ : ZG} {w0 : ZW} (hL : Γ.2.2.2.2.2.1 ≤ 3072) {Φ : Option Value → ZW → Prop} (hΦ : ∀ w, Φ (some (.int 1)) w) : Go l Γ mLaw 1312 601024 7293034 Φ zNo 0 0 w0 0 [(0, .ref Γ.2.2.2.2.1)] [] := by
  refine go_new 3 dL_law_0 nL_8 (by decide) (by decide) ?_
  rw [wnew_LW0]
  refine go_dup 4 dL_law_3 rfl ?_
  refine go_callI 7 [] dL_law_4 vL_68 (bk_X5 w0 w0.1) (by decide) (by decide) (by decide) (by decide) (Nat.le_of_ble_eq_true rfl) ?_
  intro v w2 q
  obtain ⟨rfl, rfl⟩ := q
  refine go_astore_n 8 dL_law_7 (by decide) ?_
  refine go_new 11 dL_law_8 nL_69 (by decide) (by decide) ?_
  rw [wnew_LW0]
  refine go_dup 12 dL_law_11 rfl ?_
  refine go_callI 15 [] dL_law_12 vL_71 (bk_X6 _ _) (by decide) (by decide) (by decide) (by decide) (Nat.le_of_ble_eq_true rfl) ?_
  intro v w2 q
  obtain ⟨rfl, rfl⟩ := q
  refine go_astore_n 16 dL_law_15 (by decide) ?_
  have ho : (LW w0 w0.1 (cfL Γ w0.1)).1 = w0.1 + 105 := rfl
  rw [LW_CM ho]
  rw [ho]
  refine go_iconst 17 dL_law_16 zc_1 ?_
  refine go_newarray_l (N := 1) 19 dL_law_17 rfl (by decide) (by decide) (by decide) (zGood.mem 1019 (by decide +kernel) rfl) ?_
  rw [WL_new (p := w0.1 + 105 + 15) (Nat.le_refl _) rfl (Nat.le_refl _)]
  refine go_astore_n 20 dL_law_19 (by decide) ?_
  refine go_iconst 21 dL_law_20 zc_0 ?_
  refine go_istore 23 dL_law_21 (by decide) ?_
  have hl := lp_law (l := l) (P := w0.1 + 105 + 15 + 1) (x := w0.1) (o := w0.1 + 105) (p := w0.1 + 105 + 15) hL hΦ 513 0 _ _ _ _ (121) (29301) (LI0 (Γ := Γ) (b := (w0.1 + 105 + 15 + 1, fun q => if q = w0.1 + 105 + 15 then some (.inl (Γ.2.2.1 2, 1, .inr (.inl (fun _ => 0)))) else w0.2 q)) (Nat.le_refl _) (Nat.le_refl _) rfl ⟨fun _ => 0, if_pos rfl⟩) (by decide) (by decide) (by decide)
  exact go_locals _ rfl hl
end Begin
