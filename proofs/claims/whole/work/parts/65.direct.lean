section Direct
/-! the calls that throw nothing, on both objects -/
def OpD (l : Launch) (Γ : ZG) (P : Nat) (b : ZW) (x : Nat) (C : CS) (o : Nat) (S : MS) (D : ZD) (p : Nat) (M5 Mx : ZM) (as : List Value) (r : Value) : Prop :=
  ∃ d5 d6 C' S' D', d5 ≤ 30 ∧ d6 ≤ 30 ∧ Cm l Γ M5 d5 (.ref x :: as) (WL Γ b x C o S D) (some r) (WL Γ b x C' o S D) ∧ Cm l Γ Mx d6 (.ref o :: as) (WL Γ b x C' o S D) (some r) (WL Γ b x C' o S' D') ∧ LI Γ P b x C' o S' D' p
section
variable {l : Launch} {Γ : ZG} {P : Nat} {b : ZW} {x : Nat} {C C' : CS} {o : Nat} {S S' : MS} {D D' : ZD} {p : Nat} {Mx : ZM} {as : List Value} {d : Nat} {r : Value}
theorem mdlM (hx : x + 105 ≤ o) (cm : Cm l Γ Mx d as (wD Γ (wC Γ b x C) o S D) (some r) (wD Γ (wC Γ b x C) o S' D')) : Cm l Γ Mx d as (WL Γ b x C o S D) (some r) (WL Γ b x C o S' D') := by
  rw [WL_sw hx, WL_sw hx]
  exact cm
theorem apB_o {T : ZD} {n k : Nat} {v : Int32} (h : k < n ∨ n + 4 ≤ k) : apB T n v k = T k := by
  unfold apB
  exact ((if_neg (by omega)).trans (if_neg (by omega))).trans ((if_neg (by omega)).trans (if_neg (by omega)))
theorem apB_at {T : ZD} {n k : Nat} {v : Int32} (h1 : n ≤ k) (h2 : k < n + 4) : apB T n v k &&& 255 = byt v ((k - n) % 4) := by
  rcases (show k = n ∨ k = n + 1 ∨ k = n + 2 ∨ k = n + 3 by omega) with e | e | e | e <;> subst e
  · have e : apB T k v k = cby v 24 := by
      unfold apB
      exact ((if_neg (by omega)).trans (if_neg (by omega))).trans ((if_neg (by omega)).trans (if_pos rfl))
    rw [e, show (k - k) % 4 = 0 by omega]
    unfold cby byt
    rw [byte255]
    rfl
  · have e : apB T n v (n + 1) = cby v 16 := by
      unfold apB
      exact ((if_neg (by omega)).trans (if_neg (by omega))).trans (if_pos rfl)
    rw [e, show (n + 1 - n) % 4 = 1 by omega]
    unfold cby byt
    rw [byte255]
    rfl
  · have e : apB T n v (n + 2) = cby v 8 := by
      unfold apB
      exact (if_neg (by omega)).trans (if_pos rfl)
    rw [e, show (n + 2 - n) % 4 = 2 by omega]
    unfold cby byt
    rw [byte255]
    rfl
  · have e : apB T n v (n + 3) = cby v 0 := by
      unfold apB
      exact if_pos rfl
    rw [e, show (n + 3 - n) % 4 = 3 by omega]
    unfold cby byt
    rw [byte255]
    rfl
theorem apR_T {R : RS} {n : Nat} {v0 v1 v2 v3 v4 : Int32} : (apR R n v0 v1 v2 v3 v4).2.1 = apB (apB (apB (apB (apB R.2.1 n v0) (n + 4) v1) (n + 4 + 4) v2) (n + 4 + 4 + 4) v3) (n + 4 + 4 + 4 + 4) v4 := rfl
theorem ap_eq {T T' : ZD} {R : RS} {n : Nat} {v0 v1 v2 v3 v4 : Int32} (hT : ∀ k, k < n → T k = R.2.1 k &&& 255) : ∀ k, k < n + 20 → apT T n v0 v1 v2 v3 v4 20 k = (apR R n v0 v1 v2 v3 v4).2.1 k &&& 255 := by
  intro k hk
  rw [apR_T]
  by_cases h : n ≤ k
  · have e : apT T n v0 v1 v2 v3 v4 20 k = byt (wS v0 v1 v2 v3 v4 (k - n)) ((k - n) % 4) := if_pos ⟨h, hk⟩
    rw [e]
    unfold wS
    by_cases c0 : k - n < 4
    · rw [if_pos c0, apB_o (by omega), apB_o (by omega), apB_o (by omega), apB_o (by omega), apB_at h (by omega)]
    · rw [if_neg c0]
      by_cases c1 : k - n < 8
      · rw [if_pos c1, apB_o (by omega), apB_o (by omega), apB_o (by omega), apB_at (by omega) (by omega), show (k - n) % 4 = (k - (n + 4)) % 4 by omega]
      · rw [if_neg c1]
        by_cases c2 : k - n < 12
        · rw [if_pos c2, apB_o (by omega), apB_o (by omega), apB_at (by omega) (by omega), show (k - n) % 4 = (k - (n + 4 + 4)) % 4 by omega]
        · rw [if_neg c2]
          by_cases c3 : k - n < 16
          · rw [if_pos c3, apB_o (by omega), apB_at (by omega) (by omega), show (k - n) % 4 = (k - (n + 4 + 4 + 4)) % 4 by omega]
          · rw [if_neg c3, apB_at (by omega) (by omega), show (k - n) % 4 = (k - (n + 4 + 4 + 4 + 4)) % 4 by omega]
  · have e : apT T n v0 v1 v2 v3 v4 20 k = T k := if_neg (by omega)
    rw [e, apB_o (by omega), apB_o (by omega), apB_o (by omega), apB_o (by omega), apB_o (by omega)]
    exact hT k (by omega)
theorem od_append (h : LI Γ P b x C o S D p) {y0 y1 y2 y3 y4 : Int32} : ∃ r, OpD l Γ P b x C o S D p mX5_append mX6_append [.int y0, .int y1, .int y2, .int y3, .int y4] (.int r) := by
  obtain ⟨h1, h2, h3, ⟨i, u, h4⟩, ⟨n, t1, t2, t3, t4⟩, h5⟩ := id h
  by_cases c : n + 20 ≤ 600
  · refine ⟨nI (n + 20), 2, 1, _, _, D, by decide, by decide, ct_X5_append t2 c, mdlM h1.1 (ct_X6_append t1 c), h1, h2, h3, ⟨i, u, (h4.oc rfl rfl rfl).ms rfl (fun j => if_neg (by omega))⟩, ⟨n + 20, rfl, rfl, c, fun k hk => ?_⟩, h5⟩
    exact ap_eq (T' := S.2.1 0) t4 k hk
  · exact ⟨-1, 2, 1, C, mf S 0 0, D, by decide, by decide, ct_X5_append_1 t2 (by omega) t3, mdlM h1.1 (ct_X6_append_1 t1 t3 c), h.sm Sm.mf⟩
theorem od_error (h : LI Γ P b x C o S D p) : ∃ r, OpD l Γ P b x C o S D p mX5_errorOffset mX6_errorOffset [] (.int r) := by
  refine ⟨C.2.2.2.2, 1, 1, C, mf S 0 0, D, by decide, by decide, ct_X5_errorOffset, mdlM h.1.1 ?_, h.sm Sm.mf⟩
  rw [h.2.2.2.2.2]
  exact ct_X6_errorOffset
theorem od_time (h : LI Γ P b x C o S D p) : ∃ r, OpD l Γ P b x C o S D p mX5_time mX6_time [] (.int r) := by
  obtain ⟨g, sg, cs, hC, hG, -⟩ := h.2.2.1
  exact ⟨D 0, 1, 1, C, mf S 0 0, D, by decide, by decide, ct_X5_time hC, mdlM h.1.1 ct_X6_time, h.sm Sm.mf⟩
theorem od_check (h : LI Γ P b x C o S D p) : ∃ r, OpD l Γ P b x C o S D p mX5_checksum mX6_checksum [] (.long r) := by
  obtain ⟨g, sg, cs, hC, hG, -⟩ := h.2.2.1
  exact ⟨chk D, 7, 8, C, mf S 0 0, D, by decide, by decide, ct_X5_checksum hC hG, mdlM h.1.1 (ct_X6_checksum hG.iv), h.sm Sm.mf⟩
theorem od_undo (h : LI Γ P b x C o S D p) : ∃ r, OpD l Γ P b x C o S D p mX5_undo mX6_undo [] (.int r) := by
  obtain ⟨h1, h2, h3, ⟨i, u, h4⟩, h5, h6⟩ := id h
  cases u with
  | zero => exact ⟨-1, 4, 2, C, mf S 0 0, D, by decide, by decide, ct_X5_undo_0 h4.2.2.1, mdlM h1.1 (ct_X6_undo_0 h4.2.2.2.2.1), h.sm Sm.mf⟩
  | succ u =>
    obtain ⟨p1, p2⟩ := h4.pop
    obtain ⟨hn, hi, hu, hu8, hU, -⟩ := id h4
    obtain ⟨g, sg, cs, hC, -⟩ := id p1
    refine ⟨nI u, 4, 2, _, _, _, by decide, by decide, ct_X5_undo hn hi hu (by omega) hC.rb, mdlM h1.1 (ct_X6_undo hU (by omega)), h1, h2, ?_, ⟨_, u, (p2 _ _ _).ms rfl (fun j => rfl)⟩, h5, h6⟩
    exact p1.cpy (C.1 0)
end
end Direct
