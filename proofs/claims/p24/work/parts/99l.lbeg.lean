section LBeg
/-! the class's object as it is made -/
def C00 : CS := (fun _ => E00, (fun _ => 0, z0, E00, z0), 0, 0, -1)

set_option maxRecDepth 100000 in
theorem cf_20 {Γ : ZG} {x : Nat} : (cfL Γ x)[20]? = some (ccl Γ x C00 20) := by
  show some (svA Γ (x + 19) 8) = some (.inl (Γ.2.2.1 3, 8, .inr (.inr (.inr (.inr (savF x))))))
  unfold svA svF
  refine congrArg (fun z => some (Sum.inl (Γ.2.2.1 3, 8, Sum.inr (Sum.inr (Sum.inr (Sum.inr z)))))) (funext fun i => ?_)
  unfold savF
  by_cases h : i < 8
  · rw [if_pos h, if_pos h]
    exact congrArg some (by omega)
  · rw [if_neg h, if_neg h]

set_option maxRecDepth 100000 in
theorem cf_at (Γ : ZG) (x : Nat) : ∀ j, j < 105 → (cfL Γ x)[j]? = some (ccl Γ x C00 j)
  | 0, _ => rfl
  | 1, _ => rfl
  | 2, _ => rfl
  | 3, _ => rfl
  | 4, _ => rfl
  | 5, _ => rfl
  | 6, _ => rfl
  | 7, _ => rfl
  | 8, _ => rfl
  | 9, _ => rfl
  | 10, _ => rfl
  | 11, _ => rfl
  | 12, _ => rfl
  | 13, _ => rfl
  | 14, _ => rfl
  | 15, _ => rfl
  | 16, _ => rfl
  | 17, _ => rfl
  | 18, _ => rfl
  | 19, _ => rfl
  | 20, _ => cf_20
  | 21, _ => rfl
  | 22, _ => rfl
  | 23, _ => rfl
  | 24, _ => rfl
  | 25, _ => rfl
  | 26, _ => rfl
  | 27, _ => rfl
  | 28, _ => rfl
  | 29, _ => rfl
  | 30, _ => rfl
  | 31, _ => rfl
  | 32, _ => rfl
  | 33, _ => rfl
  | 34, _ => rfl
  | 35, _ => rfl
  | 36, _ => rfl
  | 37, _ => rfl
  | 38, _ => rfl
  | 39, _ => rfl
  | 40, _ => rfl
  | 41, _ => rfl
  | 42, _ => rfl
  | 43, _ => rfl
  | 44, _ => rfl
  | 45, _ => rfl
  | 46, _ => rfl
  | 47, _ => rfl
  | 48, _ => rfl
  | 49, _ => rfl
  | 50, _ => rfl
  | 51, _ => rfl
  | 52, _ => rfl
  | 53, _ => rfl
  | 54, _ => rfl
  | 55, _ => rfl
  | 56, _ => rfl
  | 57, _ => rfl
  | 58, _ => rfl
  | 59, _ => rfl
  | 60, _ => rfl
  | 61, _ => rfl
  | 62, _ => rfl
  | 63, _ => rfl
  | 64, _ => rfl
  | 65, _ => rfl
  | 66, _ => rfl
  | 67, _ => rfl
  | 68, _ => rfl
  | 69, _ => rfl
  | 70, _ => rfl
  | 71, _ => rfl
  | 72, _ => rfl
  | 73, _ => rfl
  | 74, _ => rfl
  | 75, _ => rfl
  | 76, _ => rfl
  | 77, _ => rfl
  | 78, _ => rfl
  | 79, _ => rfl
  | 80, _ => rfl
  | 81, _ => rfl
  | 82, _ => rfl
  | 83, _ => rfl
  | 84, _ => rfl
  | 85, _ => rfl
  | 86, _ => rfl
  | 87, _ => rfl
  | 88, _ => rfl
  | 89, _ => rfl
  | 90, _ => rfl
  | 91, _ => rfl
  | 92, _ => rfl
  | 93, _ => rfl
  | 94, _ => rfl
  | 95, _ => rfl
  | 96, _ => rfl
  | 97, _ => rfl
  | 98, _ => rfl
  | 99, _ => rfl
  | 100, _ => rfl
  | 101, _ => rfl
  | 102, _ => rfl
  | 103, _ => rfl
  | 104, _ => rfl
  | n + 105, h => absurd h (by omega)

section
variable {Γ : ZG} {w0 : ZW} {x : Nat}
theorem LW_C : LW w0 x (cfL Γ x) = wC Γ (x + 105, w0.2) x C00 := by
  refine Prod.ext rfl (funext fun q => ?_)
  show (if x ≤ q ∧ q < x + 105 then (cfL Γ x)[q - x]? else w0.2 q) = if x ≤ q ∧ q < x + 105 then some (ccl Γ x C00 (q - x)) else w0.2 q
  by_cases h : x ≤ q ∧ q < x + 105
  · rw [if_pos h, if_pos h, cf_at Γ x (q - x) (by omega)]
  · rw [if_neg h, if_neg h]

theorem wnew_LW0 {z : va_E} : wnew w0 z = LW w0 w0.1 [z] := by
  refine Prod.ext rfl (funext fun q => ?_)
  show (if q = w0.1 then some z else w0.2 q) = if w0.1 ≤ q ∧ q < w0.1 + 1 then [z][q - w0.1]? else w0.2 q
  by_cases h : q = w0.1
  · subst h
    rw [if_pos rfl, if_pos ⟨Nat.le_refl _, Nat.lt_succ_self _⟩, Nat.sub_self]
    rfl
  · rw [if_neg h, if_neg (by omega)]
end

theorem us_n : nP usual = 0 ∧ nC usual = 0 ∧ nL usual = 0 ∧ tmN usual = 0 := ⟨rfl, rfl, rfl, rfl⟩
theorem us_CR : CR usual none (fun _ => (0, 0)) E00 usual ∧ GI (fun _ => (0, 0)) usual := by
  obtain ⟨n1, n2, n3, n4⟩ := us_n
  have hI : Iv usual := ⟨⟨⟨rfl, by omega⟩, ⟨rfl, by omega⟩, ⟨rfl, by omega⟩, fun k hk => by omega⟩, fun c hc => by omega, fun k hk => by omega, fun c hc => by omega⟩
  refine ⟨⟨⟨⟨rfl, rfl, rfl, rfl⟩, ⟨rfl, rfl, rfl, rfl⟩, fun q i hq hi => by omega, fun q i hq hi => by omega, fun q hq => by omega, fun k i hk hi => by omega, fun i hi => ?_⟩, hI, sm_rf, rfl, fun q hq => by omega⟩, ⟨fun c hc => by omega, ⟨fun c hc => by omega, rfl⟩, hI, fun k k' h1 h2 => by omega, fun k hk => by omega, fun q i hq hi => by omega, ⟨rfl, by omega⟩, fun c hc => by omega⟩⟩
  have e : E00.1 3 i = 0 := zrow_i (g := z0) (b := 0) (C := 7) (by omega)
  rw [e]
  exact ((if_neg (by omega)).trans ((if_neg (by omega)).trans (if_neg (by omega)))).symm

theorem nL_14 : zNew RL 14 5 5 [.null, .null, .null, .null, .int 0] := ⟨_, _, tyX5, rfl, uX5_ok, tyX5_ok, zGood.mem 74 (by decide +kernel) rfl, zGood.mem 75 (by decide +kernel) rfl, zGood.mem 44 (by decide +kernel) rfl, fun j hj => match j, hj with | 0, _ => rfl | 1, _ => rfl | 2, _ => rfl | 3, _ => rfl | 4, _ => rfl | j + 5, h => absurd h (by omega)⟩
theorem us_x : JX usual ∧ JW usual := ⟨⟨fun c hc => by rw [us_n.2.1] at hc; omega, fun k hk => by rw [us_n.2.2.1] at hk; omega⟩, ⟨3, 5, rfl, by decide, rfl, by decide⟩⟩
theorem itr_nL : ∀ (N j : Nat) (D : ZD) {sg : ZSg}, GI sg D → tmN D + N ≤ 20000 → nL (itr (fun _ D => secD D) j N D) = nL D
  | 0, _, _, _, _, _ => rfl
  | N + 1, j, D, sg, h, ht => by
    have g := h.sec (by omega)
    exact (itr_nL N (j + 1) (secD D) g.1 (by rw [g.2]; omega)).trans (sec_n3 h (by omega)).2.1
theorem cnt_0 {D : ZD} {s : Int32} (h : nL D = 0) : cntSt D s = 0 := by
  unfold cntSt
  rw [h]
  rfl
/-- the law's first exchange, at tags of its own -/
theorem us_LX {Γ : ZG} {w0 w : ZW} {T : LT} {e r : Nat} (h1 : Nc w0 w T e (.inr (6, [.int 0, .int 3, .int 5, .int 20, .ref r, .ref (r + 1), .ref (r + 2), .ref (r + 3), .null])) 14) (h2 : Nc w0 w T r (q5 Γ 4 0 (fun _ => none)) 5) (h3 : Nc w0 w T (r + 1) (q5 Γ 8 0 (fun _ => none)) 5) (h4 : Nc w0 w T (r + 2) (q5 Γ 7 0 (fun _ => none)) 5) (h5 : Nc w0 w T (r + 3) (i5 Γ 7 (fun _ => 0)) 5) : LX Γ w (fun q => if T q = 1 then 1 else 0) 0 (fun _ => (0, 0)) (AXr r (r + 1) (r + 2) (r + 3) (fun _ => 0)) (fun _ _ => 0) none e usual := by
  obtain ⟨n1, n2, n3, n4⟩ := us_n
  have t0 : ∀ {q t : Nat}, T q = t → t ≠ 1 → (if T q = 1 then 1 else 0) = 0 := fun {q t} a b => if_neg (fun z => b (a.symm.trans z))
  refine ⟨⟨h1.1, (t0 h1.2.1 (by decide)).trans (Nat.zero_mul _).symm⟩, ⟨⟨fun _ => none, ?_, t0 h2.2.1 (by decide), fun p hp => by omega⟩, fun p hp => by omega⟩, ⟨⟨fun _ => none, ?_, t0 h3.2.1 (by decide), fun c hc => by omega⟩, ⟨fun _ => none, ?_, t0 h4.2.1 (by decide), fun c hc => by omega⟩⟩, ⟨fun _ => 0, h5.1, (t0 h5.2.1 (by decide)).trans (Nat.zero_mul _).symm, fun j hj => ?_⟩, fun c hc => by omega, fun c hc => by omega, ⟨fun c c' hc => by omega, fun c c' hc => by omega⟩⟩
  · rw [n1]; exact h2.1
  · rw [n2]; exact h3.1
  · rw [n3]; exact h4.1
  · show (0 : Int32) = usual (9 + j)
    exact ((if_neg (by omega)).trans ((if_neg (by omega)).trans (if_neg (by omega)))).symm
end LBeg
