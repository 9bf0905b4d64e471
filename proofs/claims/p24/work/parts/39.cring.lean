section CRing
/-- a ring rule's object and its stack, in a world *)-/
def rW (Γ : ZG) (w : ZW) (r : Nat) (h : Int32) (v : ZD) : ZW := (w.1, fun q => if q = r then some (.inr (2, [.ref (r + 1), .ref (r + 2), .int h])) else if q = r + 2 then some (.inl (Γ.2.2.1 0, 11, .inl v)) else w.2 q)
section
variable {Γ : ZG} {w : ZW} {r : Nat} {h h' : Int32} {v v' : ZD}
theorem rW_at0 : (rW Γ w r h v).2 r = some (.inr (2, [.ref (r + 1), .ref (r + 2), .int h])) := if_pos rfl
theorem rW_at1 : (rW Γ w r h v).2 (r + 1) = w.2 (r + 1) := (if_neg (by omega)).trans (if_neg (by omega))
theorem rW_at2 : (rW Γ w r h v).2 (r + 2) = some (.inl (Γ.2.2.1 0, 11, .inl v)) := (if_neg (by omega)).trans (if_pos rfl)
theorem rW_o {q : Nat} (h1 : q ≠ r) (h2 : q ≠ r + 2) : (rW Γ w r h v).2 q = w.2 q := (if_neg h1).trans (if_neg h2)
theorem rW_h : wset (rW Γ w r h v) r (.inr (2, [.ref (r + 1), .ref (r + 2), .int h'])) = rW Γ w r h' v := by
  refine Prod.ext rfl (funext fun q => ?_)
  show (if q = r then _ else if q = r then _ else if q = r + 2 then _ else w.2 q) = if q = r then _ else if q = r + 2 then _ else w.2 q
  by_cases e : q = r
  · rw [if_pos e, if_pos e]
  · rw [if_neg e, if_neg e, if_neg e]
theorem rW_v : wset (rW Γ w r h v) (r + 2) (.inl (Γ.2.2.1 0, 11, .inl v')) = rW Γ w r h v' := by
  refine Prod.ext rfl (funext fun q => ?_)
  show (if q = r + 2 then _ else if q = r then _ else if q = r + 2 then _ else w.2 q) = if q = r then _ else if q = r + 2 then _ else w.2 q
  by_cases e : q = r
  · rw [if_neg (by omega), if_pos e, if_pos e]
  · rw [if_neg e, if_neg e]
    by_cases e2 : q = r + 2
    · rw [if_pos e2, if_pos e2]
    · rw [if_neg e2, if_neg e2, if_neg e2]
theorem rW_self (h0 : w.2 r = some (.inr (2, [.ref (r + 1), .ref (r + 2), .int h]))) (h2 : w.2 (r + 2) = some (.inl (Γ.2.2.1 0, 11, .inl v))) : rW Γ w r h v = w := by
  refine Prod.ext rfl (funext fun q => ?_)
  show (if q = r then _ else if q = r + 2 then _ else w.2 q) = w.2 q
  by_cases e : q = r
  · rw [if_pos e, e, h0]
  · rw [if_neg e]
    by_cases e2 : q = r + 2
    · rw [if_pos e2, e2, h2]
    · rw [if_neg e2]
theorem rW_rW : rW Γ (rW Γ w r h v) r h' v' = rW Γ w r h' v' := by
  refine Prod.ext rfl (funext fun q => ?_)
  show (if q = r then _ else if q = r + 2 then _ else if q = r then _ else if q = r + 2 then _ else w.2 q) = if q = r then _ else if q = r + 2 then _ else w.2 q
  by_cases e : q = r
  · simp only [if_pos e]
  · simp only [if_neg e]
    by_cases e2 : q = r + 2
    · simp only [if_pos e2]
    · simp only [if_neg e2]
theorem rW_wE {e : Nat} {E : ES} (hr : r + 3 ≤ e ∨ e + 9 ≤ r) : rW Γ (wE Γ w e E) r h v = wE Γ (rW Γ w r h v) e E := by
  refine Prod.ext rfl (funext fun q => ?_)
  show (if q = r then _ else if q = r + 2 then _ else if e ≤ q ∧ q < e + 9 then _ else w.2 q) = if e ≤ q ∧ q < e + 9 then _ else if q = r then _ else if q = r + 2 then _ else w.2 q
  by_cases hq : e ≤ q ∧ q < e + 9
  · rw [if_neg (by omega), if_neg (by omega), if_pos hq, if_pos hq]
  · rw [if_neg hq, if_neg hq]
end
/-- limit, as the class computes it -/
def limI (x : Int64) (a b : Int32) : Int32 := if 0 ≤ lg_cmp x a.toInt64 then (if lg_cmp x b.toInt64 ≤ 0 then x.toInt32 else b) else a
def B6 (b : Int64) : Prop := -1000000 ≤ b.toInt ∧ b.toInt ≤ 1000000
theorem i64_bmod {z : Int} (h : -1000000 ≤ z ∧ z ≤ 1000000) : z.bmod (2 ^ 64) = z := by
  unfold Int.bmod
  simp only
  split <;> omega
theorem i32_bmod {z : Int} (h : -1000000 ≤ z ∧ z ≤ 1000000) : z.bmod (2 ^ 32) = z := by
  unfold Int.bmod
  simp only
  split <;> omega
theorem i32_64 {x : Int64} (h : B6 x) : x.toInt32.toInt64 = x := by
  apply Int64.toInt_inj.mp
  rw [Int32.toInt_toInt64, Int64.toInt_toInt32]
  exact i32_bmod h
theorem limI_lim (x : Int64) : (limI x (-1000000) 1000000).toInt64 = lim x ∧ B6 (lim x) := by
  unfold limI lim
  have e1 : ((-1000000 : Int32)).toInt64 = (-1000000 : Int64) := by decide
  have e2 : ((1000000 : Int32)).toInt64 = (1000000 : Int64) := by decide
  rw [e1, e2]
  have t1 : ((-1000000 : Int64)).toInt = -1000000 := by decide
  have t2 : ((1000000 : Int64)).toInt = 1000000 := by decide
  by_cases h1 : 0 ≤ lg_cmp x (-1000000)
  · rw [if_pos h1]
    by_cases h2 : lg_cmp x 1000000 ≤ 0
    · have b : B6 x := by
        have a1 := Int64.le_iff_toInt_le.mp ((lg_cmp_ge _ _).mp h1)
        have a2 := Int64.le_iff_toInt_le.mp ((lg_cmp_le _ _).mp h2)
        rw [t1] at a1
        rw [t2] at a2
        exact ⟨a1, a2⟩
      rw [if_pos h2, if_pos h2, if_pos h1]
      exact ⟨i32_64 b, b⟩
    · rw [if_neg h2, if_neg h2]
      exact ⟨e2, by unfold B6; rw [t2]; decide⟩
  · rw [if_neg h1]
    by_cases h2 : lg_cmp x 1000000 ≤ 0
    · rw [if_pos h2, if_neg h1]
      exact ⟨e1, by unfold B6; rw [t1]; decide⟩
    · exfalso
      have a1 : ¬ (-1000000 : Int64) ≤ x := fun q => h1 ((lg_cmp_ge _ _).mpr q)
      have a2 : ¬ x ≤ 1000000 := fun q => h2 ((lg_cmp_le _ _).mpr q)
      rw [Int64.le_iff_toInt_le] at a1 a2
      rw [t1] at a1
      rw [t2] at a2
      omega
theorem lim_id {x : Int64} (h : B6 x) : lim x = x := by
  unfold lim
  have t1 : ((-1000000 : Int64)).toInt = -1000000 := by decide
  have t2 : ((1000000 : Int64)).toInt = 1000000 := by decide
  rw [if_pos ((lg_cmp_le _ _).mpr (Int64.le_iff_toInt_le.mpr (by rw [t2]; exact h.2))), if_pos ((lg_cmp_ge _ _).mpr (Int64.le_iff_toInt_le.mpr (by rw [t1]; exact h.1)))]
theorem div_B6 {a b : Int64} (h : B6 a) : B6 (a / b) := by
  have h1 : (a.toInt.tdiv b.toInt).natAbs ≤ a.toInt.natAbs := by
    rw [Int.natAbs_tdiv]
    exact Nat.div_le_self _ _
  have h2 : -1000000 ≤ a.toInt.tdiv b.toInt ∧ a.toInt.tdiv b.toInt ≤ 1000000 := by
    obtain ⟨q1, q2⟩ := h
    omega
  unfold B6
  rw [Int64.toInt_div, i64_bmod h2]
  exact h2
/-- an operation, as the class computes it -/
def rawO (c : Int32) (a b : Int64) : Int64 := if c = -5 then a + b else if c = -6 then a - b else if c = -7 then a * b else if lg_cmp b 0 = 0 then 0 else a / b
def opI (c : Int32) (a b : Int32) : Int32 := limI (rawO c a.toInt64 b.toInt64) (-1000000) 1000000
theorem op_ok {c a b : Int32} (hc : c = -5 ∨ c = -6 ∨ c = -7 ∨ c = -8) (ha : B6 a.toInt64) : (opI c a b).toInt64 = opv c a.toInt64 b.toInt64 ∧ B6 (opv c a.toInt64 b.toInt64) := by
  have h := limI_lim (rawO c a.toInt64 b.toInt64)
  have e : lim (rawO c a.toInt64 b.toInt64) = opv c a.toInt64 b.toInt64 := by
    unfold rawO opv
    rcases hc with rfl | rfl | rfl | rfl
    · rw [if_pos rfl, if_neg (by decide), if_pos rfl]
    · rw [if_neg (by decide), if_pos rfl, if_neg (by decide), if_neg (by decide), if_pos rfl]
    · rw [if_neg (by decide), if_neg (by decide), if_pos rfl, if_neg (by decide), if_neg (by decide), if_neg (by decide)]
    · rw [if_neg (by decide), if_neg (by decide), if_neg (by decide), if_pos rfl]
      split
      · exact lim_id (by unfold B6; decide)
      · exact lim_id (div_B6 ha)
  unfold opI
  rw [← e]
  exact h
def stkI (v : ZD) : List Int64 → Prop
  | [] => True
  | b :: r => (v r.length).toInt64 = b ∧ B6 b ∧ stkI v r
theorem stkI_up {v : ZD} {m : Nat} {x : Int32} : ∀ {vs : List Int64}, vs.length ≤ m → stkI v vs → stkI (upd v m x) vs
  | [], _, _ => trivial
  | b :: r, hm, h => by
    have hm : r.length + 1 ≤ m := hm
    refine ⟨?_, h.2.1, stkI_up (by omega) h.2.2⟩
    rw [pk_un (by omega)]
    exact h.1
theorem stkI_push {v : ZD} {x : Int32} {vs : List Int64} (h : stkI v vs) (hb : B6 x.toInt64) : stkI (upd v vs.length x) (x.toInt64 :: vs) := ⟨by rw [pk_us], hb, stkI_up (Nat.le_refl _) h⟩
theorem B6_nI {n : Nat} (h : n ≤ 1000000) : B6 (nI n).toInt64 := by
  unfold B6
  rw [Int32.toInt_toInt64, nI_toInt (by omega)]
  omega
section
variable {l : Launch} {Γ : ZG} {M M' : ZM} {dp mc ms d' : Nat} {Φ : Option Value → ZW → Prop} {Ψ : String → ZW → Prop} {k n : Nat} {w w' : ZW} {pc : Nat} {L : ZL} {st : List Value} {r : Nat} {h : Int32} {v : ZD}
theorem gcSN3 {index : Nat} {x1 x2 x3 : Value} {r : Value} (pc' : Nat) (hd : decode M.2.1 pc = .ok (.invokestatic index, 3)) (V : zVn M.1.cls index M' 3) (hct : Cm l Γ M' d' [x1, x2, x3] w (some r) w') (kk : Go l Γ M dp mc ms Φ Ψ k n w' pc' L (r :: st)) (hh : M'.2.2.2.2 = [] := by rfl) (hdp : d' + 1 ≤ dp := by decide) (hL : M'.2.2.1 ≤ 40 := by decide) (hk : k ≤ mc := by omega) (hn : n ≤ ms := by omega) (hst : (st.map fun v => v.category).sum ≤ 8 := by exact Nat.le_of_ble_eq_true rfl) (hp : pc + 3 = pc' := by rfl) : Go l Γ M dp mc ms Φ Ψ k n w pc L (x3 :: x2 :: x1 :: st) := by
  refine go_callSN (As := [x1, x2, x3]) pc' hd V hh hct hdp hL hk hn hst ?_ hp
  intro v w2 h
  obtain ⟨rfl, rfl⟩ := h
  exact kk
theorem xr_put {index : Nat} {x : Int32} (pc' : Nat) (hd : decode M.2.1 pc = .ok (.putfield index, 3)) (F : zFp M.1.cls index 2 2 .int) (kk : Go l Γ M dp mc ms Φ Ψ k n (rW Γ w r x v) pc' L st) (hp : pc + 3 = pc' := by rfl) : Go l Γ M dp mc ms Φ Ψ k n (rW Γ w r h v) pc L (.int x :: .ref r :: st) := by
  refine go_put pc' hd F rW_at0 (Nat.le_of_ble_eq_true rfl) rfl rfl ?_ hp
  have e9 : wset (rW Γ w r h v) r (.inr (2, ([.ref (r + 1), .ref (r + 2), .int h] : List Value).set 2 (.int x))) = rW Γ w r x v := rW_h
  rw [e9]
  exact kk
theorem xr_iald {i : Int32} (pc' m : Nat) (hd : decode M.2.1 pc = .ok (.iaload, 1)) (hi : i = nI m) (hm : m < 11) (kk : Go l Γ M dp mc ms Φ Ψ k n (rW Γ w r h v) pc' L (.int (v m) :: st)) (hp : pc + 1 = pc' := by rfl) : Go l Γ M dp mc ms Φ Ψ k n (rW Γ w r h v) pc L (.int i :: .ref (r + 2) :: st) := by
  subst hi
  refine go_iald pc' hd rW_at2 (vp_in_nI hm (by decide)) ?_ hp
  rw [nI_clamp (by omega)]
  exact kk
theorem xr_iast {i x : Int32} (pc' m : Nat) (hd : decode M.2.1 pc = .ok (.iastore, 1)) (hi : i = nI m) (hm : m < 11) (kk : Go l Γ M dp mc ms Φ Ψ k n (rW Γ w r h (upd v m x)) pc' L st) (hp : pc + 1 = pc' := by rfl) : Go l Γ M dp mc ms Φ Ψ k n (rW Γ w r h v) pc L (.int x :: .int i :: .ref (r + 2) :: st) := by
  subst hi
  refine go_iast pc' hd rW_at2 (vp_in_nI hm (by decide)) ?_ hp
  rw [nI_clamp (by omega), rW_v]
  exact kk
end
set_option maxRecDepth 100000 in
set_option maxHeartbeats 4000000 in
theorem ct_X2_push {l : Launch} {Γ : ZG} {w : ZW} {r : Nat} {v : ZD} {m : Nat} {x : Int32} (hm : m < 11) : Cm l Γ mX2_push 1 [.ref r, .int x] (rW Γ w r (nI m) v) none (rW Γ w r (nI (m + 1)) (upd v m x)) := by
  refine Cm.of (by decide) rfl (Nat.le_of_ble_eq_true rfl) ?_
  refine go_aload_n 1 dX2_push_0 rfl ?_
  refine go_get 4 dX2_push_1 fX2_18 rW_at0 rfl ?_
  refine go_if_lt 39 7 dX2_push_4 (fun h4 => ?_) (fun h4 => ?_)
  · exact absurd h4 (nI_pos (by omega))
  · refine go_aload_n 8 dX2_push_7 rfl ?_
    refine go_get 11 dX2_push_8 fX2_18 rW_at0 rfl ?_
    refine go_aload_n 12 dX2_push_11 rfl ?_
    refine go_get 15 dX2_push_12 fX2_11 rW_at0 rfl ?_
    refine go_alen (t0 := 0) (v := 11) 16 dX2_push_15 rW_at2 rfl rfl ?_
    refine go_icmp_ge 39 19 dX2_push_16 (fun h16 => ?_) (fun h16 => ?_)
    · exact absurd h16 (nI_ge (b := 11) hm (by decide))
    · refine go_aload_n 20 dX2_push_19 rfl ?_
      refine go_get 23 dX2_push_20 fX2_11 rW_at0 rfl ?_
      refine go_aload_n 24 dX2_push_23 rfl ?_
      refine go_get 27 dX2_push_24 fX2_18 rW_at0 rfl ?_
      refine go_iload_n 28 dX2_push_27 rfl ?_
      refine xr_iast 29 (m) dX2_push_28 rfl hm ?_
      refine go_aload_n 30 dX2_push_29 rfl ?_
      refine go_dup 31 dX2_push_30 rfl ?_
      refine go_get 34 dX2_push_31 fX2_18 rW_at0 rfl ?_
      refine go_iconst 35 dX2_push_34 zc_1 ?_
      refine go_iadd 36 dX2_push_35 ?_
      rw [nI_1]
      refine xr_put 39 dX2_push_36 pX2_18 ?_
      exact go_return dX2_push_39 rfl (by omega) (by omega) (⟨rfl, rfl⟩)
set_option maxRecDepth 100000 in
set_option maxHeartbeats 4000000 in
theorem ct_X2_pop {l : Launch} {Γ : ZG} {w : ZW} {r : Nat} {v : ZD} {m : Nat} (hm : m < 11) : Cm l Γ mX2_pop 1 [.ref r] (rW Γ w r (nI (m + 1)) v) (some (.int (v m))) (rW Γ w r (nI m) v) := by
  refine Cm.of (by decide) rfl (Nat.le_of_ble_eq_true rfl) ?_
  refine go_aload_n 1 dX2_pop_0 rfl ?_
  refine go_get 4 dX2_pop_1 fX2_18 rW_at0 rfl ?_
  refine go_if_le 19 7 dX2_pop_4 (fun h4 => ?_) (fun h4 => ?_)
  · exact absurd h4 (nI_nle (by omega) (by omega))
  · refine go_aload_n 8 dX2_pop_7 rfl ?_
    refine go_get 11 dX2_pop_8 fX2_18 rW_at0 rfl ?_
    refine go_aload_n 12 dX2_pop_11 rfl ?_
    refine go_get 15 dX2_pop_12 fX2_11 rW_at0 rfl ?_
    refine go_alen (t0 := 0) (v := 11) 16 dX2_pop_15 rW_at2 rfl rfl ?_
    refine go_icmp_le 21 19 dX2_pop_16 (fun h16 => ?_) (fun h16 => ?_)
    · refine go_aload_n 22 dX2_pop_21 rfl ?_
      refine go_dup 23 dX2_pop_22 rfl ?_
      refine go_get 26 dX2_pop_23 fX2_18 rW_at0 rfl ?_
      refine go_iconst 27 dX2_pop_26 zc_1 ?_
      refine go_isub 28 dX2_pop_27 ?_
      rw [nI_pred]
      refine xr_put 31 dX2_pop_28 pX2_18 ?_
      refine go_aload_n 32 dX2_pop_31 rfl ?_
      refine go_get 35 dX2_pop_32 fX2_11 rW_at0 rfl ?_
      refine go_aload_n 36 dX2_pop_35 rfl ?_
      refine go_get 39 dX2_pop_36 fX2_18 rW_at0 rfl ?_
      refine xr_iald 40 (m) dX2_pop_39 rfl hm ?_
      exact go_ireturn dX2_pop_40 rfl (by omega) (by omega) (⟨rfl, rfl⟩)
    · exact absurd (nI_le (b := 11) (show m + 1 ≤ 11 by omega) (by decide)) h16
set_option maxRecDepth 100000 in
set_option maxHeartbeats 4000000 in
theorem ct_X5_limit {l : Launch} {Γ : ZG} {w : ZW} {x : Int64} {a b : Int32} : Cm l Γ mX5_limit 1 [.long x, .int a, .int b] w (some (.int (limI x a b))) w := by
  refine Cm.of (by decide) rfl (Nat.le_of_ble_eq_true rfl) ?_
  refine go_lload_n 1 dX5_limit_0 rfl ?_
  refine go_iload_n 2 dX5_limit_1 rfl ?_
  refine go_i2l 3 dX5_limit_2 ?_
  refine go_lcmp 4 dX5_limit_3 ?_
  refine go_if_ge 9 7 dX5_limit_4 (fun h4 => ?_) (fun h4 => ?_)
  · refine go_lload_n 10 dX5_limit_9 rfl ?_
    refine go_iload_n 11 dX5_limit_10 rfl ?_
    refine go_i2l 12 dX5_limit_11 ?_
    refine go_lcmp 13 dX5_limit_12 ?_
    refine go_if_le 20 16 dX5_limit_13 (fun h13 => ?_) (fun h13 => ?_)
    · refine go_lload_n 21 dX5_limit_20 rfl ?_
      refine go_l2i 22 dX5_limit_21 ?_
      exact go_ireturn dX5_limit_22 rfl (by omega) (by omega) (⟨by unfold limI; first | (rw [if_pos h4, if_pos h13]) | (rw [if_pos h4, if_neg h13]) | (rw [if_neg h4]), rfl⟩)
    · refine go_iload_n 17 dX5_limit_16 rfl ?_
      refine go_goto 22 dX5_limit_17 ?_
      exact go_ireturn dX5_limit_22 rfl (by omega) (by omega) (⟨by unfold limI; first | (rw [if_pos h4, if_pos h13]) | (rw [if_pos h4, if_neg h13]) | (rw [if_neg h4]), rfl⟩)
  · refine go_iload_n 8 dX5_limit_7 rfl ?_
    exact go_ireturn dX5_limit_8 rfl (by omega) (by omega) (⟨by unfold limI; first | (rw [if_pos h4, if_pos h13]) | (rw [if_pos h4, if_neg h13]) | (rw [if_neg h4]), rfl⟩)
set_option maxRecDepth 100000 in
set_option maxHeartbeats 4000000 in
theorem ct_X2_operate {l : Launch} {Γ : ZG} {w : ZW} {r : Nat} {v : ZD} {m : Nat} {c : Int32} (hm : m + 1 < 11) : Cm l Γ mX2_operate 2 [.ref r, .int c] (rW Γ w r (nI (m + 2)) v) none (rW Γ w r (nI (m + 1)) (upd v m (opI c (v m) (v (m + 1))))) := by
  refine Cm.of (by decide) rfl (Nat.le_of_ble_eq_true rfl) ?_
  refine go_aload_n 1 dX2_operate_0 rfl ?_
  refine gcV0 4 dX2_operate_1 vX2_29 rW_at0 rfl (ct_X2_pop (m := m + 1) hm) ?_
  refine go_i2l 5 dX2_operate_4 ?_
  refine go_lstore_n 6 dX2_operate_5 (by decide) ?_
  refine go_aload_n 7 dX2_operate_6 rfl ?_
  refine gcV0 10 dX2_operate_7 vX2_29 rW_at0 rfl (ct_X2_pop (m := m) (by omega)) ?_
  refine go_i2l 11 dX2_operate_10 ?_
  refine go_lstore 13 dX2_operate_11 (by decide) ?_
  refine go_iload_n 14 dX2_operate_13 rfl ?_
  refine go_bipush 16 dX2_operate_14 zb_m5 ?_
  refine go_icmp_ne 28 19 dX2_operate_16 (fun h16 => ?_) (fun h16 => ?_)
  · refine go_iload_n 29 dX2_operate_28 rfl ?_
    refine go_bipush 31 dX2_operate_29 zb_m6 ?_
    refine go_icmp_ne 43 34 dX2_operate_31 (fun h31 => ?_) (fun h31 => ?_)
    · refine go_iload_n 44 dX2_operate_43 rfl ?_
      refine go_bipush 46 dX2_operate_44 zb_m7 ?_
      refine go_icmp_ne 58 49 dX2_operate_46 (fun h46 => ?_) (fun h46 => ?_)
      · refine go_lload_n 59 dX2_operate_58 rfl ?_
        refine go_lconst 60 dX2_operate_59 zl_0 ?_
        refine go_lcmp 61 dX2_operate_60 ?_
        refine go_if_ne 68 64 dX2_operate_61 (fun h61 => ?_) (fun h61 => ?_)
        · refine go_lload 70 dX2_operate_68 rfl ?_
          refine go_lload_n 71 dX2_operate_70 rfl ?_
          refine go_ldiv 72 dX2_operate_71 (fun q => h61 (by rw [q]; exact (lg_cmp_eq _ _).mpr rfl)) ?_
          refine go_lstore 74 dX2_operate_72 (by decide) ?_
          refine go_aload_n 75 dX2_operate_74 rfl ?_
          refine go_lload 77 dX2_operate_75 rfl ?_
          refine go_ldc 79 dX2_operate_77 ciX2_33 ?_
          refine go_ldc 81 dX2_operate_79 ciX2_34 ?_
          refine gcSN3 84 dX2_operate_81 vnX2_35 (ct_X5_limit) ?_
          refine gcV1v 87 dX2_operate_84 vX2_22 rW_at0 rfl (ct_X2_push (m := m) (by omega)) ?_
          exact go_return dX2_operate_87 rfl (by omega) (by omega) (⟨rfl, by unfold opI rawO; first | (rw [if_pos (by first | exact h16 | exact Classical.not_not.mp h16)]) | (rw [if_neg h16, if_pos (by first | exact h31 | exact Classical.not_not.mp h31)]) | (rw [if_neg h16, if_neg h31, if_pos (by first | exact h46 | exact Classical.not_not.mp h46)]) | (rw [if_neg h16, if_neg h31, if_neg h46, if_pos (by first | exact h61 | exact Classical.not_not.mp h61)]) | (rw [if_neg h16, if_neg h31, if_neg h46, if_neg h61])⟩)
        · refine go_lconst 65 dX2_operate_64 zl_0 ?_
          refine go_goto 72 dX2_operate_65 ?_
          refine go_lstore 74 dX2_operate_72 (by decide) ?_
          refine go_aload_n 75 dX2_operate_74 rfl ?_
          refine go_lload 77 dX2_operate_75 rfl ?_
          refine go_ldc 79 dX2_operate_77 ciX2_33 ?_
          refine go_ldc 81 dX2_operate_79 ciX2_34 ?_
          refine gcSN3 84 dX2_operate_81 vnX2_35 (ct_X5_limit) ?_
          refine gcV1v 87 dX2_operate_84 vX2_22 rW_at0 rfl (ct_X2_push (m := m) (by omega)) ?_
          exact go_return dX2_operate_87 rfl (by omega) (by omega) (⟨rfl, by unfold opI rawO; first | (rw [if_pos (by first | exact h16 | exact Classical.not_not.mp h16)]) | (rw [if_neg h16, if_pos (by first | exact h31 | exact Classical.not_not.mp h31)]) | (rw [if_neg h16, if_neg h31, if_pos (by first | exact h46 | exact Classical.not_not.mp h46)]) | (rw [if_neg h16, if_neg h31, if_neg h46, if_pos (by first | exact h61 | exact Classical.not_not.mp h61)]) | (rw [if_neg h16, if_neg h31, if_neg h46, if_neg h61])⟩)
      · refine go_lload 51 dX2_operate_49 rfl ?_
        refine go_lload_n 52 dX2_operate_51 rfl ?_
        refine go_lmul 53 dX2_operate_52 ?_
        refine go_lstore 55 dX2_operate_53 (by decide) ?_
        refine go_goto 74 dX2_operate_55 ?_
        refine go_aload_n 75 dX2_operate_74 rfl ?_
        refine go_lload 77 dX2_operate_75 rfl ?_
        refine go_ldc 79 dX2_operate_77 ciX2_33 ?_
        refine go_ldc 81 dX2_operate_79 ciX2_34 ?_
        refine gcSN3 84 dX2_operate_81 vnX2_35 (ct_X5_limit) ?_
        refine gcV1v 87 dX2_operate_84 vX2_22 rW_at0 rfl (ct_X2_push (m := m) (by omega)) ?_
        exact go_return dX2_operate_87 rfl (by omega) (by omega) (⟨rfl, by unfold opI rawO; first | (rw [if_pos (by first | exact h16 | exact Classical.not_not.mp h16)]) | (rw [if_neg h16, if_pos (by first | exact h31 | exact Classical.not_not.mp h31)]) | (rw [if_neg h16, if_neg h31, if_pos (by first | exact h46 | exact Classical.not_not.mp h46)]) | (rw [if_neg h16, if_neg h31, if_neg h46, if_pos (by first | exact h61 | exact Classical.not_not.mp h61)]) | (rw [if_neg h16, if_neg h31, if_neg h46, if_neg h61])⟩)
    · refine go_lload 36 dX2_operate_34 rfl ?_
      refine go_lload_n 37 dX2_operate_36 rfl ?_
      refine go_lsub 38 dX2_operate_37 ?_
      refine go_lstore 40 dX2_operate_38 (by decide) ?_
      refine go_goto 74 dX2_operate_40 ?_
      refine go_aload_n 75 dX2_operate_74 rfl ?_
      refine go_lload 77 dX2_operate_75 rfl ?_
      refine go_ldc 79 dX2_operate_77 ciX2_33 ?_
      refine go_ldc 81 dX2_operate_79 ciX2_34 ?_
      refine gcSN3 84 dX2_operate_81 vnX2_35 (ct_X5_limit) ?_
      refine gcV1v 87 dX2_operate_84 vX2_22 rW_at0 rfl (ct_X2_push (m := m) (by omega)) ?_
      exact go_return dX2_operate_87 rfl (by omega) (by omega) (⟨rfl, by unfold opI rawO; first | (rw [if_pos (by first | exact h16 | exact Classical.not_not.mp h16)]) | (rw [if_neg h16, if_pos (by first | exact h31 | exact Classical.not_not.mp h31)]) | (rw [if_neg h16, if_neg h31, if_pos (by first | exact h46 | exact Classical.not_not.mp h46)]) | (rw [if_neg h16, if_neg h31, if_neg h46, if_pos (by first | exact h61 | exact Classical.not_not.mp h61)]) | (rw [if_neg h16, if_neg h31, if_neg h46, if_neg h61])⟩)
  · refine go_lload 21 dX2_operate_19 rfl ?_
    refine go_lload_n 22 dX2_operate_21 rfl ?_
    refine go_ladd 23 dX2_operate_22 ?_
    refine go_lstore 25 dX2_operate_23 (by decide) ?_
    refine go_goto 74 dX2_operate_25 ?_
    refine go_aload_n 75 dX2_operate_74 rfl ?_
    refine go_lload 77 dX2_operate_75 rfl ?_
    refine go_ldc 79 dX2_operate_77 ciX2_33 ?_
    refine go_ldc 81 dX2_operate_79 ciX2_34 ?_
    refine gcSN3 84 dX2_operate_81 vnX2_35 (ct_X5_limit) ?_
    refine gcV1v 87 dX2_operate_84 vX2_22 rW_at0 rfl (ct_X2_push (m := m) (by omega)) ?_
    exact go_return dX2_operate_87 rfl (by omega) (by omega) (⟨rfl, by unfold opI rawO; first | (rw [if_pos (by first | exact h16 | exact Classical.not_not.mp h16)]) | (rw [if_neg h16, if_pos (by first | exact h31 | exact Classical.not_not.mp h31)]) | (rw [if_neg h16, if_neg h31, if_pos (by first | exact h46 | exact Classical.not_not.mp h46)]) | (rw [if_neg h16, if_neg h31, if_neg h46, if_pos (by first | exact h61 | exact Classical.not_not.mp h61)]) | (rw [if_neg h16, if_neg h31, if_neg h46, if_neg h61])⟩)
theorem ev1_n {lg cl rf tm c : Int32} {vs : List Int64} (h : ¬ c ≤ -5) : ev1 lg cl rf tm c vs = (evv lg cl rf tm c).toInt64 :: vs := if_neg h
theorem ev1_o {lg cl rf tm c : Int32} {a b : Int64} {r : List Int64} (h : c ≤ -5) : ev1 lg cl rf tm c (b :: a :: r) = opv c a b :: r := if_pos h
theorem okc_op {c : Int32} (h : okc c) (ho : isop c) : c = -5 ∨ c = -6 ∨ c = -7 ∨ c = -8 := by
  unfold okc isop at *
  rcases h with ⟨h1, -⟩ | rfl | rfl | rfl | rfl | h
  · exact absurd (Int32.le_trans h1 ho) (by decide)
  · exact absurd ho (by decide)
  · exact absurd ho (by decide)
  · exact absurd ho (by decide)
  · exact absurd ho (by decide)
  · exact h
theorem okc_le5 {c : Int32} (h : c = -5 ∨ c = -6 ∨ c = -7 ∨ c = -8) : c ≤ -5 := by rcases h with rfl | rfl | rfl | rfl <;> decide
theorem okc_val {c : Int32} (h : okc c) (ho : ¬ isop c) : (∃ j, j ≤ 9999 ∧ c = nI j) ∨ c = -1 ∨ c = -2 ∨ c = -3 ∨ c = -4 := by
  unfold okc isop at *
  rcases h with ⟨h1, h2⟩ | rfl | rfl | rfl | rfl | rfl | rfl | rfl | rfl
  · exact Or.inl (nI_of2 (M := 9999) (n := 9999) (by decide) (Int32.not_lt.mpr h1) h2)
  · exact Or.inr (Or.inl rfl)
  · exact Or.inr (Or.inr (Or.inl rfl))
  · exact Or.inr (Or.inr (Or.inr (Or.inl rfl)))
  · exact Or.inr (Or.inr (Or.inr (Or.inr rfl)))
  · exact absurd (by decide) ho
  · exact absurd (by decide) ho
  · exact absurd (by decide) ho
  · exact absurd (by decide) ho
set_option maxRecDepth 100000 in
set_option maxHeartbeats 4000000 in
theorem lp_X2_valueFor {l : Launch} {Γ : ZG} {w : ZW} {r N : Nat} {f : ZD} {lg cl rf tm : Int32} {R : Int64} (hc : w.2 (r + 1) = some (.inl (Γ.2.2.1 0, N, .inl f))) (hN : N ≤ 1000) (blg : B6 lg.toInt64) (bcl : B6 cl.toInt64) (brf : B6 rf.toInt64) (btm : B6 tm.toInt64) : ∀ (cs : List Int32) (i : Nat) (v : ZD) (vs : List Int64), (∀ j, j < cs.length → f (i + j) = cs.getD j 0) → i + cs.length = N → stkI v vs → wfd cs vs.length → vs.length ≤ 11 → (evs lg cl rf tm cs vs).getD 0 0 = R → Go l Γ mX2_valueFor 3 0 0 (fun u w2 => ∃ x h v', u = some (.int x) ∧ x.toInt64 = R ∧ w2 = rW Γ w r h v') zNo 0 0 (rW Γ w r (nI vs.length) v) 8 [(0, .ref r), (1, .int lg), (2, .int cl), (3, .int rf), (4, .int tm), (5, .int (nI i))] [] := by
  intro cs
  induction cs with
  | nil =>
    intro i v vs hf hif hs hw hl11 he
    refine go_iload 10 dX2_valueFor_8 rfl ?_
    refine go_aload_n 11 dX2_valueFor_10 rfl ?_
    refine go_get 14 dX2_valueFor_11 fX2_15 rW_at0 rfl ?_
    refine go_alen (t0 := 0) (v := nI N) 15 dX2_valueFor_14 (rW_at1.trans hc) rfl rfl ?_
    refine go_icmp_ge 130 18 dX2_valueFor_15 (fun h15 => ?_) (fun h15 => ?_)
    · obtain ⟨b, rfl⟩ : ∃ b, vs = [b] := by
        cases vs with
        | nil => cases hw
        | cons b t => cases t with
          | nil => exact ⟨b, rfl⟩
          | cons _ _ => cases hw
      change Go l Γ mX2_valueFor 3 0 0 _ zNo 0 0 (rW Γ w r (nI (0 + 1)) v) 130 _ []
      refine go_aload_n 131 dX2_valueFor_130 rfl ?_
      refine gcV0 134 dX2_valueFor_131 vX2_29 rW_at0 rfl (ct_X2_pop (m := 0) (by decide)) ?_
      exact go_ireturn dX2_valueFor_134 rfl (by omega) (by omega) (⟨_, _, _, rfl, hs.1.trans he, rfl⟩)
    · exact (lpE (a := nI N) (N := N) rfl (by simpa using hif) h15).elim
  | cons c cs ih =>
    intro i v vs hf hif hs hw hl11 he
    have hif2 : i + (cs.length + 1) = N := hif
    have hf2 : ∀ j, j < cs.length → f (i + 1 + j) = cs.getD j 0 := fun j hj => by
      have := hf (j + 1) (by simp; omega)
      rw [show i + 1 + j = i + (j + 1) by omega, this]
      simp
    refine go_iload 10 dX2_valueFor_8 rfl ?_
    refine go_aload_n 11 dX2_valueFor_10 rfl ?_
    refine go_get 14 dX2_valueFor_11 fX2_15 rW_at0 rfl ?_
    refine go_alen (t0 := 0) (v := nI N) 15 dX2_valueFor_14 (rW_at1.trans hc) rfl rfl ?_
    refine go_icmp_ge 130 18 dX2_valueFor_15 (fun h15 => ?_) (fun h15 => ?_)
    · exact (lpG (a := nI N) (N := N) rfl (by omega) (by simp at hif; omega) h15).elim
    · refine go_aload_n 19 dX2_valueFor_18 rfl ?_
      refine go_get 22 dX2_valueFor_19 fX2_15 rW_at0 rfl ?_
      refine go_iload 24 dX2_valueFor_22 rfl ?_
      refine go_iald 25 dX2_valueFor_24 (rW_at1.trans hc) (vp_in_nI (by omega) (by omega)) ?_
      rw [nI_clamp (by omega)]
      rw [show f i = c from by have := hf 0 (by simp); simpa using this]
      refine go_istore 27 dX2_valueFor_25 (by decide) ?_
      refine go_iload 29 dX2_valueFor_27 rfl ?_
      rcases hw with ⟨hok, ⟨ho, h2v, hw2⟩ | ⟨ho, hlt, hw2⟩⟩
      · have hc4 : c = -5 ∨ c = -6 ∨ c = -7 ∨ c = -8 := okc_op hok ho
        obtain ⟨b, a, t, rfl⟩ : ∃ b a t, vs = b :: a :: t := by
          cases vs with
          | nil => exact absurd h2v (by simp)
          | cons b t => cases t with
            | nil => exact absurd h2v (by simp)
            | cons a t => exact ⟨b, a, t, rfl⟩
        have g109 : Go l Γ mX2_valueFor 3 0 0 (fun u w2 => ∃ x h v', u = some (.int x) ∧ x.toInt64 = R ∧ w2 = rW Γ w r h v') zNo 0 0 (rW Γ w r (nI (b :: a :: t).length) v) 109 [(6, .int c), (0, .ref r), (1, .int lg), (2, .int cl), (3, .int rf), (4, .int tm), (5, .int (nI i))] [] := by
          change Go l Γ mX2_valueFor 3 0 0 _ zNo 0 0 (rW Γ w r (nI (t.length + 2)) v) 109 _ []
          refine go_aload_n 110 dX2_valueFor_109 rfl ?_
          refine go_iload 112 dX2_valueFor_110 rfl ?_
          refine gcV1v 115 dX2_valueFor_112 vX2_26 rW_at0 rfl (ct_X2_operate (m := t.length) (by simp at hl11; omega)) ?_
          refine go_goto 124 dX2_valueFor_115 ?_
          refine go_iinc 127 dX2_valueFor_124 rfl (by decide) zc_1 ?_
          refine go_goto 8 dX2_valueFor_127 ?_
          rw [nI_1]
          have hop := op_ok hc4 (b := v (t.length + 1)) (a := v t.length) (by rw [hs.2.2.1]; exact hs.2.2.2.1)
          rw [hs.2.2.1, show (v (t.length + 1)).toInt64 = b from hs.1] at hop
          exact go_locals [(0, .ref r), (1, .int lg), (2, .int cl), (3, .int rf), (4, .int tm), (5, .int (nI (i + 1)))] rfl (ih (i + 1) _ (opv c a b :: t) hf2 (by simp at hif; omega) ⟨by rw [pk_us]; exact hop.1, hop.2, stkI_up (Nat.le_refl _) hs.2.2.2.2⟩ hw2 (by simp at hl11 ⊢; omega) (by rw [← he, evs_cons, ev1_o (okc_le5 hc4)]))
        rcases hc4 with rfl | rfl | rfl | rfl
        · exact go_tableIn 109 dX2_valueFor_29 (by decide) (by decide) rfl (by decide) g109
        · exact go_tableIn 109 dX2_valueFor_29 (by decide) (by decide) rfl (by decide) g109
        · exact go_tableIn 109 dX2_valueFor_29 (by decide) (by decide) rfl (by decide) g109
        · exact go_tableIn 109 dX2_valueFor_29 (by decide) (by decide) rfl (by decide) g109
      · have hc5 : ¬ c ≤ -5 := ho
        rcases okc_val hok ho with ⟨j, hj, rfl⟩ | rfl | rfl | rfl | rfl
        · refine go_tableOut 118 dX2_valueFor_29 (Or.inr (by rw [nI_toInt (by omega)]; omega)) (by decide) ?_
          refine go_aload_n 119 dX2_valueFor_118 rfl ?_
          refine go_iload 121 dX2_valueFor_119 rfl ?_
          refine gcV1v 124 dX2_valueFor_121 vX2_22 rW_at0 rfl (ct_X2_push (m := vs.length) hlt) ?_
          refine go_iinc 127 dX2_valueFor_124 rfl (by decide) zc_1 ?_
          refine go_goto 8 dX2_valueFor_127 ?_
          rw [nI_1]
          exact go_locals [(0, .ref r), (1, .int lg), (2, .int cl), (3, .int rf), (4, .int tm), (5, .int (nI (i + 1)))] rfl (ih (i + 1) _ ((nI j).toInt64 :: vs) hf2 (by simp at hif; omega) (stkI_push hs (B6_nI (by omega))) hw2 (Nat.succ_le_of_lt hlt) (by rw [← he, evs_cons, ev1_n hc5]; unfold evv; rw [if_pos (nI_pos' (by omega))]))
        · refine go_tableIn 76 dX2_valueFor_29 (by decide) (by decide) rfl (by decide) ?_
          refine go_aload_n 77 dX2_valueFor_76 rfl ?_
          refine go_iload_n 78 dX2_valueFor_77 rfl ?_
          refine gcV1v 81 dX2_valueFor_78 vX2_22 rW_at0 rfl (ct_X2_push (m := vs.length) hlt) ?_
          refine go_goto 124 dX2_valueFor_81 ?_
          refine go_iinc 127 dX2_valueFor_124 rfl (by decide) zc_1 ?_
          refine go_goto 8 dX2_valueFor_127 ?_
          rw [nI_1]
          exact go_locals [(0, .ref r), (1, .int lg), (2, .int cl), (3, .int rf), (4, .int tm), (5, .int (nI (i + 1)))] rfl (ih (i + 1) _ (lg.toInt64 :: vs) hf2 (by simp at hif; omega) (stkI_push hs blg) hw2 (Nat.succ_le_of_lt hlt) (by rw [← he, evs_cons, ev1_n hc5]; unfold evv; rw [if_neg (by decide), if_pos rfl]))
        · refine go_tableIn 84 dX2_valueFor_29 (by decide) (by decide) rfl (by decide) ?_
          refine go_aload_n 85 dX2_valueFor_84 rfl ?_
          refine go_iload_n 86 dX2_valueFor_85 rfl ?_
          refine gcV1v 89 dX2_valueFor_86 vX2_22 rW_at0 rfl (ct_X2_push (m := vs.length) hlt) ?_
          refine go_goto 124 dX2_valueFor_89 ?_
          refine go_iinc 127 dX2_valueFor_124 rfl (by decide) zc_1 ?_
          refine go_goto 8 dX2_valueFor_127 ?_
          rw [nI_1]
          exact go_locals [(0, .ref r), (1, .int lg), (2, .int cl), (3, .int rf), (4, .int tm), (5, .int (nI (i + 1)))] rfl (ih (i + 1) _ (cl.toInt64 :: vs) hf2 (by simp at hif; omega) (stkI_push hs bcl) hw2 (Nat.succ_le_of_lt hlt) (by rw [← he, evs_cons, ev1_n hc5]; unfold evv; rw [if_neg (by decide), if_neg (by decide), if_pos rfl]))
        · refine go_tableIn 92 dX2_valueFor_29 (by decide) (by decide) rfl (by decide) ?_
          refine go_aload_n 93 dX2_valueFor_92 rfl ?_
          refine go_iload_n 94 dX2_valueFor_93 rfl ?_
          refine gcV1v 97 dX2_valueFor_94 vX2_22 rW_at0 rfl (ct_X2_push (m := vs.length) hlt) ?_
          refine go_goto 124 dX2_valueFor_97 ?_
          refine go_iinc 127 dX2_valueFor_124 rfl (by decide) zc_1 ?_
          refine go_goto 8 dX2_valueFor_127 ?_
          rw [nI_1]
          exact go_locals [(0, .ref r), (1, .int lg), (2, .int cl), (3, .int rf), (4, .int tm), (5, .int (nI (i + 1)))] rfl (ih (i + 1) _ (rf.toInt64 :: vs) hf2 (by simp at hif; omega) (stkI_push hs brf) hw2 (Nat.succ_le_of_lt hlt) (by rw [← he, evs_cons, ev1_n hc5]; unfold evv; rw [if_neg (by decide), if_neg (by decide), if_neg (by decide), if_pos rfl]))
        · refine go_tableIn 100 dX2_valueFor_29 (by decide) (by decide) rfl (by decide) ?_
          refine go_aload_n 101 dX2_valueFor_100 rfl ?_
          refine go_iload 103 dX2_valueFor_101 rfl ?_
          refine gcV1v 106 dX2_valueFor_103 vX2_22 rW_at0 rfl (ct_X2_push (m := vs.length) hlt) ?_
          refine go_goto 124 dX2_valueFor_106 ?_
          refine go_iinc 127 dX2_valueFor_124 rfl (by decide) zc_1 ?_
          refine go_goto 8 dX2_valueFor_127 ?_
          rw [nI_1]
          exact go_locals [(0, .ref r), (1, .int lg), (2, .int cl), (3, .int rf), (4, .int tm), (5, .int (nI (i + 1)))] rfl (ih (i + 1) _ (tm.toInt64 :: vs) hf2 (by simp at hif; omega) (stkI_push hs btm) hw2 (Nat.succ_le_of_lt hlt) (by rw [← he, evs_cons, ev1_n hc5]; unfold evv; rw [if_neg (by decide), if_neg (by decide), if_neg (by decide), if_neg (by decide)]))
set_option maxRecDepth 100000 in
set_option maxHeartbeats 4000000 in
theorem ct_X2_valueFor {l : Launch} {Γ : ZG} {w : ZW} {r N : Nat} {h0 : Int32} {v f : ZD} {lg cl rf tm : Int32} {cs : List Int32} (hc : w.2 (r + 1) = some (.inl (Γ.2.2.1 0, N, .inl f))) (hN : N ≤ 1000) (hL : cs.length = N) (hf : ∀ j, j < cs.length → f j = cs.getD j 0) (hw : wfd cs 0) (blg : B6 lg.toInt64) (bcl : B6 cl.toInt64) (brf : B6 rf.toInt64) (btm : B6 tm.toInt64) : Ct l Γ mX2_valueFor 3 0 0 [.ref r, .int lg, .int cl, .int rf, .int tm] (rW Γ w r h0 v) (fun u w2 => ∃ x h v', u = some (.int x) ∧ x.toInt64 = (evs lg cl rf tm cs []).getD 0 0 ∧ w2 = rW Γ w r h v') zNo := by
  refine Ct.of (by decide) rfl (Nat.le_of_ble_eq_true rfl) ?_
  refine go_aload_n 1 dX2_valueFor_0 rfl ?_
  refine go_iconst 2 dX2_valueFor_1 zc_0 ?_
  refine xr_put 5 dX2_valueFor_2 pX2_18 ?_
  refine go_iconst 6 dX2_valueFor_5 zc_0 ?_
  refine go_istore 8 dX2_valueFor_6 (by decide) ?_
  exact go_locals _ rfl (lp_X2_valueFor hc hN blg bcl brf btm cs 0 v [] (fun j hj => by rw [Nat.zero_add]; exact hf j hj) (by rw [Nat.zero_add]; exact hL) trivial hw (by decide) rfl)
/-- the ring rule of an exchange holds these codes; none without codes -/
def RG (Γ : ZG) (w : ZW) (g : Option Nat) (cs : List Int32) : Prop := match g with
  | none => cs = []
  | some r => cs ≠ [] ∧ wfd cs 0 ∧ cs.length ≤ 1000 ∧ ∃ h v f, w.2 r = some (.inr (2, [.ref (r + 1), .ref (r + 2), .int h])) ∧ w.2 (r + 1) = some (.inl (Γ.2.2.1 0, cs.length, .inl f)) ∧ w.2 (r + 2) = some (.inl (Γ.2.2.1 0, 11, .inl v)) ∧ ∀ j, j < cs.length → f j = cs.getD j 0
/-- the world behind a use of that rule -/
def gW (Γ : ZG) (w : ZW) (g : Option Nat) (h : Int32) (v : ZD) : ZW := match g with
  | none => w
  | some r => rW Γ w r h v
def gAway (g : Option Nat) (e n : Nat) : Prop := ∀ r, g = some r → r + 3 ≤ e ∨ e + n ≤ r
theorem rtv_lim {x : Int32} {b : Int64} (h : x.toInt64 = b) : limI x.toInt64 1 99 = rtv b := by
  rw [h]
  rfl
set_option maxRecDepth 100000 in
set_option maxHeartbeats 4000000 in
theorem cx_X0_ringTime {g : Option Nat} {E : ES} {l : Launch} {Γ : ZG} {w : ZW} {e : Nat} {cs : List Int32} (hg : E.2.2.2 = g) {tm : Int32} (ht : E.2.2.1 5 = tm) (hR : RG Γ w g cs) (hA : gAway g e 9) {lg cl rf : Int32} (blg : B6 lg.toInt64) (bcl : B6 cl.toInt64) (brf : B6 rf.toInt64) (btm : B6 tm.toInt64) : Ct l Γ mX0_ringTime 4 0 0 [.ref e, .int lg, .int cl, .int rf] (wE Γ w e E) (fun u w2 => u = some (.int (ringV lg cl rf tm cs)) ∧ ∃ h v, w2 = wE Γ (gW Γ w g h v) e E) zNo := by
  refine Ct.of (by decide) rfl (Nat.le_of_ble_eq_true rfl) ?_
  refine go_aload_n 1 dX0_ringTime_0 rfl ?_
  refine go_get 4 dX0_ringTime_1 fX0_46 wE_at0 (show (efs e E)[4]? = some (va_rf E.2.2.2) from rfl) ?_
  rw [hg]
  cases g with
  | none =>
    have hcs : cs = [] := hR
    subst hcs
    refine go_ifnonnullN 7 dX0_ringTime_4 ?_
    refine go_bipush 9 dX0_ringTime_7 zb_30 ?_
    exact go_ireturn dX0_ringTime_9 rfl (by omega) (by omega) ⟨rfl, 0, fun _ => 0, rfl⟩
  | some r =>
    obtain ⟨hne, hw, hl9, hh, vv, f, h0, h1, h2, hf⟩ := hR
    have hr := hA r rfl
    have e0 : wE Γ w e E = rW Γ (wE Γ w e E) r hh vv := (rW_self ((wE_out (by omega)).trans h0) ((wE_out (by omega)).trans h2)).symm
    refine go_ifnonnull 10 dX0_ringTime_4 ?_
    refine go_aload_n 11 dX0_ringTime_10 rfl ?_
    refine go_get 14 dX0_ringTime_11 fX0_46 wE_at0 (show (efs e E)[4]? = some (va_rf E.2.2.2) from rfl) ?_
    rw [hg]
    refine go_iload_n 15 dX0_ringTime_14 rfl ?_
    refine go_iload_n 16 dX0_ringTime_15 rfl ?_
    refine go_iload_n 17 dX0_ringTime_16 rfl ?_
    refine go_aload_n 18 dX0_ringTime_17 rfl ?_
    refine xe_get 21 dX0_ringTime_18 fX0_50 (show (efs e E)[5]? = some (.int tm) from by rw [← ht]; rfl) ?_
    refine go_callV (As := [.int lg, .int cl, .int rf, .int tm]) 24 dX0_ringTime_21 vX0_151 (wE_out (by omega) |>.trans h0) rfl (by rw [e0]; exact ct_X2_valueFor (w := wE Γ w e E) ((wE_out (by omega)).trans h1) hl9 rfl hf hw blg bcl brf btm) (by decide) (by decide) (by omega) (by omega) (by exact Nat.le_of_ble_eq_true rfl) (fun u w2 hu => ?_)
    obtain ⟨x, h9, v9, rfl, hx, rfl⟩ := hu
    refine go_i2l 25 dX0_ringTime_24 ?_
    refine go_iconst 26 dX0_ringTime_25 zc_1 ?_
    refine go_bipush 28 dX0_ringTime_26 zb_99 ?_
    refine gcSN3 31 dX0_ringTime_28 vnX0_157 ct_X5_limit ?_
    exact go_ireturn dX0_ringTime_31 rfl (by omega) (by omega) (⟨by rw [rtv_lim hx]; unfold ringV; rw [if_neg hne], h9, v9, rW_wE (hA r rfl)⟩)
end CRing
