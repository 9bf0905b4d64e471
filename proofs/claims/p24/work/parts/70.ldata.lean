section LData
/-- the numbers of a leg just made -/
theorem mk_n {D : ZD} {c ce : Int32} : (dL (mkD D c ce) (nL D) 2 = if zb (eng D ce) = 1 then 3 else 0) ∧ (dL (mkD D c ce) (nL D) 3 = if zb (eng D ce) = 1 then 1 else 0) ∧ dL (mkD D c ce) (nL D) 4 = 0 ∧ dL (mkD D c ce) (nL D) 5 = 0 ∧ dL (mkD D c ce) (nL D) 6 = -1 ∧ dL (mkD D c ce) (nL D) 9 = -1 ∧ dL (mkD D c ce) (nL D) 10 = -1 := by
  have e3 : ∀ {X : ZD} {k : Nat} {r : Int32}, dL (endD X k r) k 3 = r := fun {X k r} => by unfold endD dropD; rw [dL_setLn (by omega), dL_setLn (by omega), dL_setLn (by omega), dL_setL]
  have eo : ∀ {X : ZD} {k j : Nat} {r : Int32}, (j = 4 ∨ j = 5) → dL (endD X k r) k j = dL X k j := fun {X k j r} h => by unfold endD dropD; rw [dL_setLn (by omega), dL_setLn (by omega), dL_setLn (by omega), dL_setLn (by omega), dL_setLn (by omega)]
  rw [mkD_3]
  by_cases h : eng D ce
  · rw [if_pos h, zb_t h, if_pos rfl, if_pos rfl]
    refine ⟨end_2, e3, (eo (Or.inl rfl)).trans ((drop_2 (by decide)).trans ((mk3_row (by decide)).trans rfl)), (eo (Or.inr rfl)).trans ((drop_2 (by decide)).trans ((mk3_row (by decide)).trans rfl)), end_6, end_9, end_10⟩
  · rw [if_neg h, zb_f h, if_neg (by decide), if_neg (by decide)]
    exact ⟨(drop_2 (by decide)).trans ((mk3_row (by decide)).trans rfl), (drop_2 (by decide)).trans ((mk3_row (by decide)).trans rfl), (drop_2 (by decide)).trans ((mk3_row (by decide)).trans rfl), (drop_2 (by decide)).trans ((mk3_row (by decide)).trans rfl), drop_v.1, drop_v.2.1, drop_v.2.2⟩
/-- while legs are put on: what was stays -/
def OD (C D' : ZD) (n : Nat) : Prop := ∀ i, i ≠ 6 → i < 146 + 13 * n → D' i = C i
theorem OD.rf {C : ZD} {n : Nat} : OD C C n := fun _ _ _ => rfl
theorem OD.mk {C D' : ZD} {n : Nat} {c ce : Int32} (h : OD C D' n) (hn : n ≤ nL D') (hL : nL D' < 40) : OD C (mkD D' c ce) n := fun i h6 hi => ((mk_what hL).1 i h6 (by omega)).trans (h i h6 hi)
/-- new legs neither talk nor are held -/
def NS (D D' : ZD) : Prop := ∀ k, nL D ≤ k → k < nL D' → dL D' k 2 = 0 ∨ dL D' k 2 = 3
theorem NS.mk {D D' : ZD} {c ce : Int32} (h : NS D D') (hn : nL D ≤ nL D') (hL : nL D' < 40) (h1 : nL (mkD D' c ce) = nL D' + 1) : NS D (mkD D' c ce) := fun k h2 h3 => by
  by_cases hk : k = nL D'
  · rw [hk, mk_n.1]
    split
    · exact Or.inr rfl
    · exact Or.inl rfl
  · rw [show dL (mkD D' c ce) k 2 = dL D' k 2 from (mk_what hL).1 _ (by omega) (by omega)]
    exact h k h2 (by omega)
/-- so who is engaged is engaged as before, but for the caller -/
theorem eng_beg {D D' : ZD} {q j : Nat} {rv ref p : Int32} (hI : Ix D) (hC : nC D < 20) (hb : GB D (nC D) j D') (hc : nC D' = nC D + 1) (ho : OD (newC D (nI q) rv ref) D' (nL D)) (hs : NS D D') (hp : p ≠ nI q) : eng D' p ↔ eng D p := by
  have w := newC_what (p := nI q) (rv := rv) (ref := ref) hC
  have h20 := hI.2.1.2
  have h40 := hI.2.2.1.2
  have h40' := hb.1.1.2.2.1.2
  have hm := hb.2.2.2.2.2.2.2.1
  have ob := hb.2.2.2.2.2.2.2.2.1
  have nb := hb.2.2.2.2.2.2.2.2.2
  have l : ∀ k i, k < nL D → i < 13 → dL D' k i = dL D k i := fun k i hk hi => (ho _ (by omega) (by omega)).trans (w.1 _ (by omega) (by omega))
  have cc : ∀ c i, c < nC D → i < 5 → dC D' c i = dC D c i := fun c i hk hi => (ho _ (by omega) (by omega)).trans (w.1 _ (by omega) (by omega))
  have c0 : dC D' (nC D) 0 = nI q := (ho _ (by omega) (by omega)).trans w.2.2.1
  have il : ∀ k, k < nL D → (inLeg D' p k ↔ inLeg D p k) := fun k hk => by
    unfold inLeg clr
    rw [(ob k hk).1, cc _ 0 (ob k hk).2 (by decide), l k 1 hk (by decide)]
  have lw : ∀ s, (s = 1 ∨ s = 2) → (legW D' p s ≠ -1 ↔ legW D p s ≠ -1) := fun s hs' => by
    unfold legW
    rw [zfind_ne (by omega), zfind_ne (by omega)]
    constructor
    · rintro ⟨k, h1, h2, h3⟩
      by_cases hk : k < nL D
      · exact ⟨k, hk, by rw [← l k 2 hk (by decide)]; exact h2, (il k hk).mp h3⟩
      · rcases hs k (by omega) h1 with z | z <;> rcases hs' with rfl | rfl <;> (rw [z] at h2; exact absurd h2 (by decide))
    · rintro ⟨k, hk, h2, h3⟩
      exact ⟨k, by omega, by rw [l k 2 hk (by decide)]; exact h2, (il k hk).mpr h3⟩
  have rg : rngOf D' p ≠ -1 ↔ rngOf D p ≠ -1 := by
    unfold rngOf
    rw [zfind_ne (by omega), zfind_ne (by omega)]
    have key : ∀ c, c < nC D → (rngs D' (nI c) ↔ rngs D (nI c)) := fun c hc' => by
      rw [rngs_iff, rngs_iff]
      constructor
      · rintro ⟨k, h1, h2, h3⟩
        by_cases hk : k < nL D
        · exact ⟨k, hk, by rw [← l k 0 hk (by decide)]; exact h2, by rw [← l k 2 hk (by decide)]; exact h3⟩
        · have e1 := (nb k (by omega) h1).1
          have e2 := (hb.1.1.2.2.2 k h1).1
          rw [e1] at e2
          rw [e2] at h2
          have := (nI_eq (by omega) (by omega)).mp h2
          omega
      · rintro ⟨k, hk, h2, h3⟩
        exact ⟨k, by omega, by rw [l k 0 hk (by decide)]; exact h2, by rw [l k 2 hk (by decide)]; exact h3⟩
    constructor
    · rintro ⟨c, h1, h2, h3⟩
      by_cases hk : c < nC D
      · exact ⟨c, hk, by rw [← cc c 0 hk (by decide)]; exact h2, (key c hk).mp h3⟩
      · rw [show c = nC D by omega, c0] at h2
        exact absurd h2.symm hp
    · rintro ⟨c, hk, h2, h3⟩
      exact ⟨c, by omega, by rw [cc c 0 hk (by decide)]; exact h2, (key c hk).mpr h3⟩
  unfold eng
  rw [lw 1 (Or.inl rfl), lw 2 (Or.inr rfl), rg]
/-- a leg held: as the class does it -/
theorem hold_eq {D : ZD} {k : Nat} (h : dL D k 3 = 0) : dropD (setL (setL D k 2 2) k 3 0) k = dropD (setL D k 2 2) k := by
  have e : setL (setL D k 2 2) k 3 0 = setL D k 2 2 := by
    funext i
    show (if i = 146 + 13 * k + 3 then 0 else setL D k 2 2 i) = _
    by_cases hi : i = 146 + 13 * k + 3
    · rw [if_pos hi, hi]
      exact ((dL_setLn (D := D) (k := k) (j := 2) (k' := k) (j' := 3) (v := 2) (by omega)).trans h).symm
    · rw [if_neg hi]
  rw [e]
end LData
