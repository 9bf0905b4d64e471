section LStI
/-! behind a step -/
def shF (f : Nat → Option Nat) (j : Nat) : Nat → Option Nat := fun m => if j < m ∧ m ≤ 8 then f (m - 1) else f m
theorem shF_8 {f : Nat → Option Nat} : shF f 8 = f := funext fun m => if_neg (by omega)
theorem shF_s {f : Nat → Option Nat} {j : Nat} (hj : j < 8) : va_up (shF f (j + 1)) (j + 1) (f j) = shF f j := by
  funext m
  show (if m = j + 1 then f j else if j + 1 < m ∧ m ≤ 8 then f (m - 1) else f m) = if j < m ∧ m ≤ 8 then f (m - 1) else f m
  by_cases h : m = j + 1
  · rw [if_pos h, if_pos (by omega), h]
    rfl
  · rw [if_neg h]
    by_cases h2 : j + 1 < m ∧ m ≤ 8
    · rw [if_pos h2, if_pos (by omega)]
    · rw [if_neg h2, if_neg (by omega)]
theorem shF_at {f : Nat → Option Nat} {j : Nat} : shF f (j + 1) j = f j := if_neg (by omega)
set_option maxRecDepth 100000 in
set_option maxHeartbeats 4000000 in
theorem lp_shift {l : Launch} {Γ : ZG} {Φ : Option Value → ZW → Prop} {w : ZW} {T : LT} {x a e bf y dn nn ii k n : Nat} {f : Nat → Option Nat} (hw : w.2 bf = some (q5 Γ 6 9 f)) (hT : T bf = 3) (h3 : ∀ j, j < 9 → f j = none ∨ ∃ y fs, f j = some y ∧ w.2 y = some (.inr (6, fs)) ∧ T y = 0) (kk : Go l Γ mLaw 1312 1036902 5990994 Φ zNo k n (wset w bf (q5 Γ 6 9 (shF f 0))) 1124 [(0, .ref Γ.2.2.2.2.1), (1, .int 1), (2, .int (nI ii)), (3, .ref x), (5, .ref a), (6, .ref e), (7, .ref bf), (8, .int (nI dn)), (9, .int (nI nn)), (10, .ref y), (11, .int 1)] []) : ∀ (j : Nat), j ≤ 8 → Go l Γ mLaw 1312 1036902 5990994 Φ zNo k n (wset w bf (q5 Γ 6 9 (shF f j))) 1101 [(0, .ref Γ.2.2.2.2.1), (1, .int 1), (2, .int (nI ii)), (3, .ref x), (5, .ref a), (6, .ref e), (7, .ref bf), (8, .int (nI dn)), (9, .int (nI nn)), (10, .ref y), (11, .int 1), (16, .int (nI j))] [] := by
  intro j
  induction j with
  | zero =>
    intro hj
    refine go_iload 1103 dL_law_1101 rfl ?_
    refine go_if_le 1124 1106 dL_law_1103 (fun _ => ?_) (fun z => absurd (show nI 0 ≤ 0 by decide) z)
    exact go_locals _ rfl kk
  | succ j ih =>
    intro hj
    refine go_iload 1103 dL_law_1101 rfl ?_
    refine go_if_le 1124 1106 dL_law_1103 (fun z => absurd ((nI_leI (b := 0) (by omega) (by decide)).mp z) (by omega)) (fun _ => ?_)
    refine go_aload 1108 dL_law_1106 rfl ?_
    refine go_iload 1110 dL_law_1108 rfl ?_
    refine go_aload 1112 dL_law_1110 rfl ?_
    refine go_iload 1114 dL_law_1112 rfl ?_
    refine go_iconst 1115 dL_law_1114 zc_1 ?_
    refine go_isub 1116 dL_law_1115 ?_
    rw [show nI (j + 1) - 1 = nI j by rw [show (1 : Int32) = nI 1 from rfl, nI_sub (by omega), Nat.add_sub_cancel]]
    refine go_aald6 1117 dL_law_1116 wset_at (vp_in_nI (by omega) (by decide)) ?_
    rw [nI_clamp (by omega), shF_at]
    have K : Go l Γ mLaw 1312 1036902 5990994 Φ zNo k n (wset w bf (q5 Γ 6 9 (shF f j))) 1118 [(0, .ref Γ.2.2.2.2.1), (1, .int 1), (2, .int (nI ii)), (3, .ref x), (5, .ref a), (6, .ref e), (7, .ref bf), (8, .int (nI dn)), (9, .int (nI nn)), (10, .ref y), (11, .int 1), (16, .int (nI (j + 1)))] [] := by
      refine go_iinc 1121 dL_law_1118 rfl (by decide) (show Int32.ofInt (-1) = -1 from rfl) ?_
      refine go_goto 1101 dL_law_1121 ?_
      rw [nI_dec (by omega), Nat.add_sub_cancel]
      exact go_locals _ rfl (ih (by omega))
    rcases h3 j (by omega) with h0 | ⟨y', fs, h0, h1, h2⟩
    · rw [h0]
      refine go_aast6N 1118 dL_law_1117 wset_at (vp_in_nI (by omega) (by decide)) ?_
      rw [nI_clamp (by omega), wset_wset, ← h0, shF_s (by omega)]
      exact K
    · rw [h0]
      refine go_aast6 (b := y') 1118 dL_law_1117 wset_at ((if_neg (fun z => by rw [z, hT] at h2; exact absurd h2 (by decide))).trans h1) (vp_in_nI (by omega) (by decide)) ?_
      rw [nI_clamp (by omega), wset_wset, ← h0, shF_s (by omega)]
      exact K
theorem hb_push {Γ : ZG} {w : ZW} {T : LT} {bf y i u dn : Nat} {C : CS} {D : ZD} {E' : ES} {f : Nat → Option Nat} (a1 : Hc C i u) (a2 : 8 ≤ u ∨ dn ≤ u) (f2 : T bf = 3) (f3 : ∀ j, j < 9 → f j = none ∨ ∃ y fs, f j = some y ∧ w.2 y = some (.inr (6, fs)) ∧ T y = 0) (f4 : ∀ j, j < 8 → j < dn → ∃ y, f j = some y ∧ Fz Γ w T (C.1 (2 + (i + 7 - j) % 8)) y) (hF : Fy Γ w T (C.1 0) D y) : Hb Γ (wset w bf (q5 Γ 6 9 (va_up (shF f 0) 0 (some y)))) T bf (cE (puC C i u (nP D) (nC D) (nL D)) 0 E') (if i + 1 = 8 then 0 else i + 1) (if u + 1 < 8 then u + 1 else 8) (dn + 1) := by
  have kq : Kq w T (wset w bf (q5 Γ 6 9 (va_up (shF f 0) 0 (some y)))) T (fun z => z ≠ 3) := Kq.set f2
  obtain ⟨h1, h2, h3, h4⟩ := a1
  have hy : ∃ fs, w.2 y = some (.inr (6, fs)) ∧ T y = 0 := by
    obtain ⟨g, sg, A, V, tm, -, -, -, hX⟩ := hF
    exact ⟨_, hX.x.1, hX.x.2.trans (Nat.zero_mul _)⟩
  have he : ∀ m, (cE (puC C i u (nP D) (nC D) (nL D)) 0 E').1 (2 + m) = if m = i then cpE (C.1 (2 + i)) (C.1 0) (nP D) (nC D) (nL D) else C.1 (2 + m) := fun m => by
    show (if 2 + m = 0 then E' else if 2 + m = 2 + i then cpE (C.1 (2 + i)) (C.1 0) (nP D) (nC D) (nL D) else C.1 (2 + m)) = _
    rw [if_neg (by omega)]
    by_cases hm : m = i
    · rw [if_pos (by omega), if_pos hm]
    · rw [if_neg (by omega), if_neg hm]
  refine ⟨⟨rfl, by split <;> omega, rfl, by split <;> omega⟩, by split <;> omega, _, wset_at, f2, fun j hj => ?_, fun j hj hd => ?_⟩
  · show (if j = 0 then some y else shF f 0 j) = none ∨ _
    by_cases hj0 : j = 0
    · rw [if_pos hj0]
      obtain ⟨fs, e1, e2⟩ := hy
      exact Or.inr ⟨y, fs, by show (if j = 0 then some y else shF f 0 j) = some y; rw [if_pos hj0], (kq _ _ e1 (by rw [e2]; decide)).1, e2⟩
    · rw [if_neg hj0]
      have e : shF f 0 j = f (j - 1) := if_pos (by omega)
      rw [e]
      rcases f3 (j - 1) (by omega) with h0 | ⟨y', fs, e1, e2, e3⟩
      · exact Or.inl h0
      · exact Or.inr ⟨y', fs, by show (if j = 0 then some y else shF f 0 j) = some y'; rw [if_neg hj0, e, e1], (kq _ _ e2 (by rw [e3]; decide)).1, e3⟩
  · by_cases hj0 : j = 0
    · subst hj0
      refine ⟨y, if_pos rfl, ?_⟩
      rw [he, if_pos (by split <;> omega)]
      obtain ⟨g, sg, A, V, tm, c1, c2, c3, c4⟩ := hF
      exact ⟨D, g, sg, A, V, tm, c1.cpy _, c2, c3, lx_fz c4 kq (by decide)⟩
    · obtain ⟨y', e1, e2⟩ := f4 (j - 1) (by omega) (by omega)
      refine ⟨y', ?_, ?_⟩
      · show (if j = 0 then some y else shF f 0 j) = some y'
        rw [if_neg hj0, show shF f 0 j = f (j - 1) from if_pos (by omega), e1]
      · rw [he, if_neg (by split <;> omega), show ((if i + 1 = 8 then 0 else i + 1) + 7 - j) % 8 = (i + 7 - (j - 1)) % 8 by split <;> omega]
        exact e2.go kq (by decide)
set_option maxRecDepth 100000 in
set_option maxHeartbeats 4000000 in
theorem st_1133 {l : Launch} {Γ : ZG} {Φ : Option Value → ZW → Prop} {x a e bf dn nn ii kM nM : Nat} {w : ZW} {T : LT} {C : CS} {D : ZD} {i u k n : Nat} (hkM : kM + 130 ≤ 1036902) (hnM : nM + 800 ≤ 5990994) (KN : ∀ (w : ZW) (T : LT) (C : CS) (D : ZD) (i u dn k n : Nat), Bo Γ w T x a e C D → nP D ≤ 8 → tmN D ≤ 30 * nn + 30 → Hb Γ w T bf C i u dn → dn ≤ nn + 1 → k ≤ kM + 130 → n ≤ nM + 800 → Go l Γ mLaw 1312 1036902 5990994 Φ zNo k n w 187 [(0, .ref Γ.2.2.2.2.1), (1, .int 1), (2, .int (nI ii)), (3, .ref x), (5, .ref a), (6, .ref e), (7, .ref bf), (8, .int (nI dn)), (9, .int (nI (nn + 1)))] []) (hB : Bo Γ w T x a e C D) (hP : nP D ≤ 8) (ht : tmN D ≤ 30 * nn + 30) (hH : Hb Γ w T bf C i u dn) (hd : dn ≤ nn + 1) (hk : k ≤ kM) (hn : n ≤ nM) : Go l Γ mLaw 1312 1036902 5990994 Φ zNo k n w 1133 [(0, .ref Γ.2.2.2.2.1), (1, .int 1), (2, .int (nI ii)), (3, .ref x), (5, .ref a), (6, .ref e), (7, .ref bf), (8, .int (nI dn)), (9, .int (nI nn))] [] := by
  obtain ⟨s, g, cs, sg, A, V, tm, cl, rn, rg, h, tr, hC, hG, hJ, hW, hz⟩ := id hB
  refine go_iload_n 1134 dL_law_1133 rfl ?_
  refine go_if_eq 1150 1137 dL_law_1134 (fun z => absurd z (by decide)) (fun _ => ?_)
  refine go_aload_n 1138 dL_law_1137 rfl ?_
  refine go_aload 1140 dL_law_1138 rfl ?_
  refine go_callS 1143 [.ref x, .ref e] dL_law_1140 vL_225 rfl (ct_L_agrees cl hC hG hJ h) (by decide) (by decide) (by omega) (by omega) (by exact Nat.le_of_ble_eq_true rfl) ?_
  rintro v w2 ⟨rfl, e2, l2⟩
  refine go_if_eq 1150 1146 dL_law_1143 (fun z => absurd z (by decide)) (fun _ => ?_)
  refine go_iconst 1147 dL_law_1146 zc_1 ?_
  refine go_goto 1151 dL_law_1147 ?_
  refine go_istore_n 1152 dL_law_1151 (by decide) ?_
  refine go_iinc 1155 dL_law_1152 rfl (by decide) (show Int32.ofInt 1 = nI 1 from rfl) ?_
  refine go_goto 187 dL_law_1155 ?_
  rw [nI_add]
  exact go_locals _ rfl (KN w2 T C D i u dn _ _ (hB.go (Kq.bp e2) l2) hP ht (hH.go (Kq.bp (P := fun _ => True) e2) trivial trivial) hd (by omega) (by omega))
set_option maxRecDepth 100000 in
set_option maxHeartbeats 4000000 in
theorem st_1092 {l : Launch} {Γ : ZG} {Φ : Option Value → ZW → Prop} {x a e bf y dn nn ii kM nM : Nat} {w : ZW} {T : LT} {C : CS} {D : ZD} {i u k n : Nat} {c : Int32} (hkM : kM + 130 ≤ 1036902) (hnM : nM + 800 ≤ 5990994) (KN : ∀ (w : ZW) (T : LT) (C : CS) (D : ZD) (i u dn k n : Nat), Bo Γ w T x a e C D → nP D ≤ 8 → tmN D ≤ 30 * nn + 30 → Hb Γ w T bf C i u dn → dn ≤ nn + 1 → k ≤ kM + 130 → n ≤ nM + 800 → Go l Γ mLaw 1312 1036902 5990994 Φ zNo k n w 187 [(0, .ref Γ.2.2.2.2.1), (1, .int 1), (2, .int (nI ii)), (3, .ref x), (5, .ref a), (6, .ref e), (7, .ref bf), (8, .int (nI dn)), (9, .int (nI (nn + 1)))] []) (hd : dn ≤ nn) (hA : Aft Γ w T x a e bf y C D i u dn nn c) (hk : k ≤ kM) (hn : n ≤ nM) : Go l Γ mLaw 1312 1036902 5990994 Φ zNo k n w 1092 [(0, .ref Γ.2.2.2.2.1), (1, .int 1), (2, .int (nI ii)), (3, .ref x), (5, .ref a), (6, .ref e), (7, .ref bf), (8, .int (nI dn)), (9, .int (nI nn)), (10, .ref y), (11, .int c)] [] := by
  obtain ⟨hH, ⟨rfl, hB, hP, ht⟩ | ⟨rfl, hF, E', D', hB, hP, ht⟩⟩ := hA
  · refine go_iload 1094 dL_law_1092 rfl ?_
    refine go_if_eq 1133 1097 dL_law_1094 (fun _ => ?_) (fun z => absurd rfl z)
    exact go_locals _ rfl (st_1133 hkM hnM KN hB hP (by omega) hH (by omega) hk hn)
  · obtain ⟨a1, a2, f, f1, f2, f3, f4⟩ := hH
    have hP9 := hb_push (D := D) (E' := E') a1 a2 f2 f3 f4 hF
    have kq : Kq w T (wset w bf (q5 Γ 6 9 (va_up (shF f 0) 0 (some y)))) T (fun z => z ≠ 3) := Kq.set f2
    have hB9 : Bo Γ (wset w bf (q5 Γ 6 9 (va_up (shF f 0) 0 (some y)))) T x a e (cE (puC C i u (nP D) (nC D) (nL D)) 0 E') D' := by
      obtain ⟨s, g, cs, sg, A, V, tm, h1, h2, h3, h4, h5, h6⟩ := hB
      exact ⟨s, g, cs, sg, A, V, tm, h1.go kq (by decide) (Nat.le_refl _), h2.go kq (by decide), h3.go kq (by decide) (Nat.le_refl _), h4.fr (kq.mono (fun z hz => by omega)), h5.go kq (by decide), h6⟩
    have hy : ∃ fs, w.2 y = some (.inr (6, fs)) ∧ T y = 0 := by
      obtain ⟨g, sg, A, V, tm, -, -, -, hX⟩ := hF
      exact ⟨_, hX.x.1, hX.x.2.trans (Nat.zero_mul _)⟩
    obtain ⟨fs, hy1, hy2⟩ := hy
    refine go_iload 1094 dL_law_1092 rfl ?_
    refine go_if_eq 1133 1097 dL_law_1094 (fun z => absurd z (by decide)) (fun _ => ?_)
    refine go_bipush 1099 dL_law_1097 zb_8 ?_
    refine go_istore 1101 dL_law_1099 (by decide) ?_
    have e8 : w = wset w bf (q5 Γ 6 9 (shF f 8)) := by
      rw [shF_8]
      refine Prod.ext rfl (funext fun q => ?_)
      show w.2 q = if q = bf then _ else w.2 q
      by_cases hq : q = bf
      · rw [if_pos hq, hq, f1]
      · rw [if_neg hq]
    refine go_w e8 ?_
    refine go_locals [(0, .ref Γ.2.2.2.2.1), (1, .int 1), (2, .int (nI ii)), (3, .ref x), (5, .ref a), (6, .ref e), (7, .ref bf), (8, .int (nI dn)), (9, .int (nI nn)), (10, .ref y), (11, .int 1), (16, .int (nI 8))] rfl (lp_shift (a := a) (e := e) (y := y) (dn := dn) (nn := nn) (ii := ii) f1 f2 f3 ?_ 8 (Nat.le_refl _))
    refine go_aload 1126 dL_law_1124 rfl ?_
    refine go_iconst 1127 dL_law_1126 zc_0 ?_
    refine go_aload 1129 dL_law_1127 rfl ?_
    refine go_aast6 (b := y) 1130 dL_law_1129 wset_at ((if_neg (fun z => by rw [z, f2] at hy2; exact absurd hy2 (by decide))).trans hy1) (by exact vp_in_nI (n := 0) (N := 9) (by decide) (by decide)) ?_
    rw [wset_wset]
    refine go_iinc 1133 dL_law_1130 rfl (by decide) (show Int32.ofInt 1 = nI 1 from rfl) ?_
    rw [nI_add]
    exact go_locals _ rfl (st_1133 (dn := dn + 1) hkM hnM KN hB9 hP (by omega) hP9 (by omega) hk hn)
end LStI
