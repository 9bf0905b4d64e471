section LWr
/-! the law's writer: twenty bytes in five words, then flushed; pure -/
theorem gb_shl : ∀ c, c < 128 → ∀ i, i < 4 → ∀ j, j < 4 → cby (nI c <<< ((24 - 8 * nI i) &&& 31)) (24 - 8 * nI j) &&& 255 = if i = j then nI c else 0 := by decide +kernel
theorem gb_or {u v s : Int32} : cby (u ||| v) s &&& 255 = (cby u s &&& 255) ||| (cby v s &&& 255) := by
  unfold cby
  apply Int32.toBitVec_inj.mp
  simp
  apply BitVec.eq_of_getLsbD_eq
  intro i hi
  simp only [BitVec.sshiftRight_or_distrib, BitVec.signExtend_or, BitVec.getLsbD_or, BitVec.getLsbD_and, Bool.and_or_distrib_right]
theorem apB_in {T : ZD} {b : Nat} {x : Int32} {j : Nat} (hj : j < 4) : apB T b x (b + j) = cby x (24 - 8 * nI j) := by
  rcases (show j = 0 ∨ j = 1 ∨ j = 2 ∨ j = 3 by omega) with rfl | rfl | rfl | rfl
  · unfold apB upd
    simp
    rfl
  · unfold apB upd
    simp
    rfl
  · unfold apB upd
    simp
    rfl
  · unfold apB upd
    simp
    rfl
theorem apB_out {T : ZD} {b : Nat} {x : Int32} {i : Nat} (h : i < b ∨ b + 4 ≤ i) : apB T b x i = T i := by
  unfold apB upd
  rw [if_neg (by omega), if_neg (by omega), if_neg (by omega), if_neg (by omega)]
def apF (T : ZD) (b : Nat) (f : Nat → Int32) : ZD := apB (apB (apB (apB (apB T b (f 1)) (b + 4) (f 2)) (b + 4 + 4) (f 3)) (b + 4 + 4 + 4) (f 4)) (b + 4 + 4 + 4 + 4) (f 5)
theorem apF_old {T : ZD} {b i : Nat} {f : Nat → Int32} (h : i < b) : apF T b f i = T i := by
  unfold apF
  rw [apB_out (by omega), apB_out (by omega), apB_out (by omega), apB_out (by omega), apB_out (by omega)]
theorem apF_new {T : ZD} {b k j : Nat} {f : Nat → Int32} (hk : k < 5) (hj : j < 4) : apF T b f (b + (4 * k + j)) = cby (f (1 + k)) (24 - 8 * nI j) := by
  unfold apF
  rcases (show k = 0 ∨ k = 1 ∨ k = 2 ∨ k = 3 ∨ k = 4 by omega) with rfl | rfl | rfl | rfl | rfl
  · rw [apB_out (by omega), apB_out (by omega), apB_out (by omega), apB_out (by omega), show b + (4 * 0 + j) = b + j by omega, apB_in hj]
  · rw [apB_out (by omega), apB_out (by omega), apB_out (by omega), show b + (4 * 1 + j) = b + 4 + j by omega, apB_in hj]
  · rw [apB_out (by omega), apB_out (by omega), show b + (4 * 2 + j) = b + 4 + 4 + j by omega, apB_in hj]
  · rw [apB_out (by omega), show b + (4 * 3 + j) = b + 4 + 4 + 4 + j by omega, apB_in hj]
  · rw [show b + (4 * 4 + j) = b + 4 + 4 + 4 + 4 + j by omega, apB_in hj]
/-- B0 bytes are with the class, the rest of tx in the buffer -/
def WJ (f : Nat → Int32) (T : ZD) (B0 : Nat) (tx : List Nat) : Prop := f 0 = nI tx.length ∧ (B0 % 20 = 0 ∧ B0 ≤ tx.length ∧ tx.length ≤ B0 + 20) ∧ (∀ i, i < B0 → T i &&& 255 = nI (tx.getD i 0)) ∧ ∀ k, k < 5 → ∀ j, j < 4 → cby (f (1 + k)) (24 - 8 * nI j) &&& 255 = if B0 + (4 * k + j) < tx.length then nI (tx.getD (B0 + (4 * k + j)) 0) else 0
theorem getD_app_l : ∀ {tx : List Nat} {i c : Nat}, i < tx.length → (tx ++ [c]).getD i 0 = tx.getD i 0
  | [], i, c, h => absurd h (Nat.not_lt_zero _)
  | a :: tx, 0, c, h => rfl
  | a :: tx, i + 1, c, h => getD_app_l (tx := tx) (i := i) (by simp at h; omega)
theorem getD_app_e : ∀ {tx : List Nat} {c : Nat}, (tx ++ [c]).getD tx.length 0 = c
  | [], c => rfl
  | a :: tx, c => getD_app_e (tx := tx)
def putF (f : Nat → Int32) (n c : Nat) : Nat → Int32 := upd (upd f (1 + n % 20 / 4) (f (1 + n % 20 / 4) ||| (nI c <<< ((24 - 8 * nI (n % 4)) &&& 31)))) 0 (nI (n + 1))
theorem WJ.put {f : Nat → Int32} {T : ZD} {B0 c : Nat} {tx : List Nat} (h : WJ f T B0 tx) (hn : tx.length < B0 + 20) (hc : c < 128) : WJ (putF f tx.length c) T B0 (tx ++ [c]) := by
  obtain ⟨h1, ⟨h2, h3, h4⟩, h5, h6⟩ := h
  have hl : (tx ++ [c]).length = tx.length + 1 := by simp
  refine ⟨by rw [hl]; unfold putF; rw [upd, if_pos rfl], by rw [hl]; exact ⟨h2, by omega, by omega⟩, fun i hi => ?_, fun k hk j hj => ?_⟩
  · rw [getD_app_l (by omega)]; exact h5 i hi
  · rw [hl]
    have hr : tx.length % 20 = tx.length - B0 := by omega
    have e0 : putF f tx.length c (1 + k) = if k = tx.length % 20 / 4 then f (1 + k) ||| (nI c <<< ((24 - 8 * nI (tx.length % 4)) &&& 31)) else f (1 + k) := by
      unfold putF upd
      rw [if_neg (by omega)]
      by_cases hq : k = tx.length % 20 / 4
      · rw [if_pos (by omega), if_pos hq, hq]
      · rw [if_neg (by omega), if_neg hq]
    rw [e0]
    by_cases hq : k = tx.length % 20 / 4
    · rw [if_pos hq, gb_or, h6 k hk j hj, gb_shl c hc _ (by omega) j hj]
      by_cases hj2 : tx.length % 4 = j
      · have : B0 + (4 * k + j) = tx.length := by omega
        rw [if_pos hj2, if_neg (by omega), if_pos (by omega), this, getD_app_e]
        simp
      · rw [if_neg hj2]
        by_cases hlt : B0 + (4 * k + j) < tx.length
        · rw [if_pos hlt, if_pos (by omega), getD_app_l hlt]; simp
        · rw [if_neg hlt, if_neg (by omega)]; simp
    · rw [if_neg hq, h6 k hk j hj]
      by_cases hlt : B0 + (4 * k + j) < tx.length
      · rw [if_pos hlt, if_pos (by omega), getD_app_l hlt]
      · rw [if_neg hlt, if_neg (by omega)]
theorem WJ.all {f : Nat → Int32} {T : ZD} {B0 : Nat} {tx : List Nat} (h : WJ f T B0 tx) : ∀ i, i < tx.length → apF T B0 f i &&& 255 = nI (tx.getD i 0) := by
  obtain ⟨h1, ⟨h2, h3, h4⟩, h5, h6⟩ := h
  intro i hi
  by_cases hb : i < B0
  · rw [apF_old hb]; exact h5 i hb
  · have e : i = B0 + (4 * ((i - B0) / 4) + (i - B0) % 4) := by omega
    rw [e, apF_new (by omega) (by omega), h6 _ (by omega) _ (by omega), if_pos (by omega)]
theorem WJ.flush {f f2 : Nat → Int32} {T : ZD} {B0 : Nat} {tx : List Nat} (h : WJ f T B0 tx) (hn : tx.length = B0 + 20) (h0 : f2 0 = f 0) (hz : ∀ k, k < 5 → f2 (1 + k) = 0) : WJ f2 (apF T B0 f) (B0 + 20) tx := by
  refine ⟨h0.trans h.1, ⟨by have := h.2.1.1; omega, by omega, by omega⟩, fun i hi => h.all i (by omega), fun k hk j hj => ?_⟩
  rw [hz k hk, if_neg (by omega)]
  exact (show ∀ j, j < 4 → cby 0 (24 - 8 * nI j) &&& 255 = 0 by decide +kernel) j hj
theorem wj_nil {f : Nat → Int32} {T : ZD} (h0 : f 0 = 0) (hz : ∀ k, k < 5 → f (1 + k) = 0) : WJ f T 0 [] := by
  refine ⟨h0, ⟨by decide, by decide, by decide⟩, fun i hi => absurd hi (Nat.not_lt_zero _), fun k hk j hj => ?_⟩
  rw [hz k hk, if_neg (show ¬ 0 + (4 * k + j) < ([] : List Nat).length from Nat.not_lt_zero _)]
  exact (show ∀ j, j < 4 → cby 0 (24 - 8 * nI j) &&& 255 = 0 by decide +kernel) j hj
/-- what was written is what is read -/
theorem tx_bb {T : ZD} {n : Nat} : ∀ (tx : List Nat) (p : Nat), n = p + tx.length → (∀ i, i < tx.length → T (p + i) &&& 255 = nI (tx.getD i 0)) → Tx (BB T n) p tx
  | [], p, _, _ => trivial
  | a :: tx, p, hn, h => by
    simp only [List.length_cons] at hn h
    refine ⟨(if_pos (by omega)).trans (h 0 (by omega)), tx_bb tx (p + 1) (by omega) (fun i hi => ?_)⟩
    have := h (i + 1) (by omega)
    rw [show p + 1 + i = p + (i + 1) by omega]
    exact this
theorem tb_bb {T : ZD} {tx : List Nat} (hl : tx.length ≤ 600) (ha : Asc tx) (h : ∀ i, i < tx.length → T i &&& 255 = nI (tx.getD i 0)) : TB (BB T tx.length) tx.length := by
  refine ⟨hl, fun k hk => if_neg (by omega), fun k hk => ?_⟩
  rw [show BB T tx.length k = T k &&& 255 from if_pos hk, h k hk]
  have := ha _ (getD_mem tx k hk)
  exact (show ∀ a, a < 128 → (0 : Int32) ≤ nI a by decide +kernel) _ this
end LWr
