section CExR
theorem exs_f0 {P : Nat → Prop} {i : Nat} : zb (exs P i 0) = 0 := zb_f (fun q => q)
theorem exs_t {P : Nat → Prop} {i f : Nat} (h : P i) : zb (exs P i (f + 1)) = 1 := zb_t (Or.inl h)
theorem rngs_seg {D0 D : ZD} {g : Option Nat} {sg : ZSg} {E : ES} (h : CR D0 g sg E D) (hs : SegD sg D0) {c : Nat} (hc : c < nC D0) : rngs D (nI c) ↔ exs (fun k => dL D k 2 = 0) (sg c).1 ((sg c).2 - (sg c).1) := by
  obtain ⟨s1, s2, s3⟩ := hs c hc
  have h20 := h.C20
  unfold rngs
  rw [exs_iff, exs_iff, h.eqL]
  constructor
  · rintro ⟨k, -, h1, h2, h3⟩
    have ho := h.of (k := k) (by omega)
    have e1 : ofN D k = c := (nI_eq (by omega) (by omega)).mp (ho.1.symm.trans h2)
    rw [sm_ofN h.2.2.1] at e1
    have := (s3 k (by omega)).mp e1
    exact ⟨k, by omega, by omega, h3⟩
  · rintro ⟨k, h1, h2, h3⟩
    have hk : k < nL D0 := by omega
    have ho := h.of hk
    have e1 := (s3 k hk).mpr ⟨h1, by omega⟩
    rw [← sm_ofN h.2.2.1] at e1
    exact ⟨k, by omega, by omega, by rw [ho.1, e1], h3⟩
def engP (D : ZD) (p : Int32) (k : Nat) : Prop := (¬ dL D k 2 = 3 ∧ clr D k = p) ∨ ((dL D k 2 = 1 ∨ dL D k 2 = 2) ∧ dL D k 1 = p)
def StI (D : ZD) : Prop := ∀ k, k < nL D → dL D k 2 = 0 ∨ dL D k 2 = 1 ∨ dL D k 2 = 2 ∨ dL D k 2 = 3
theorem zfind_ne {P : Nat → Prop} {n : Nat} (hn : n < 2 ^ 31) : zfind P 0 n ≠ -1 ↔ ∃ k, k < n ∧ P k := by
  constructor
  · intro q
    have := zfind_ok hn q
    exact ⟨_, this.2.1, this.2.2⟩
  · rintro ⟨k, h1, h2⟩ q
    rcases zfind_spec (P := P) n 0 with ⟨-, h3⟩ | ⟨j, -, h3, -, h4, -⟩
    · exact h3 k (by omega) (by omega) h2
    · rw [h4] at q
      exact nI_nm1 (by omega) q
theorem eng_iff {D : ZD} (hI : Iv D) (hS : StI D) {p : Int32} : eng D p ↔ exs (engP D p) 0 (nL D) := by
  have h40 := hI.1.2.2.1.2
  have h20 := hI.1.2.1.2
  unfold eng legW rngOf
  rw [zfind_ne (by omega), zfind_ne (by omega), zfind_ne (by omega), exs_iff]
  constructor
  · rintro (⟨k, h1, h2, h3⟩ | ⟨k, h1, h2, h3⟩ | ⟨c, h1, h2, h3⟩)
    · refine ⟨k, by omega, by omega, ?_⟩
      rcases h3 with h3 | h3
      · exact Or.inl ⟨by rw [h2]; decide, h3⟩
      · exact Or.inr ⟨Or.inl h2, h3⟩
    · refine ⟨k, by omega, by omega, ?_⟩
      rcases h3 with h3 | h3
      · exact Or.inl ⟨by rw [h2]; decide, h3⟩
      · exact Or.inr ⟨Or.inr h2, h3⟩
    · obtain ⟨k, -, h4, h5, h6⟩ := (exs_iff _ _).mp h3
      have h7 := hI.1.2.2.2 k (by omega)
      have e1 : ofN D k = c := (nI_eq (by omega) (by omega)).mp (h7.1.symm.trans h5)
      exact ⟨k, by omega, by omega, Or.inl ⟨by rw [h6]; decide, by unfold clr; rw [e1]; exact h2⟩⟩
  · rintro ⟨k, -, h1, h2⟩
    have hk : k < nL D := by omega
    have h7 := hI.1.2.2.2 k hk
    rcases h2 with ⟨h3, h4⟩ | ⟨h3, h4⟩
    · rcases hS k hk with e | e | e | e
      · exact Or.inr (Or.inr ⟨ofN D k, h7.2, h4, (exs_iff _ _).mpr ⟨k, by omega, by omega, h7.1, e⟩⟩)
      · exact Or.inl ⟨k, hk, e, Or.inl h4⟩
      · exact Or.inr (Or.inl ⟨k, hk, e, Or.inl h4⟩)
      · exact absurd e h3
    · rcases h3 with e | e
      · exact Or.inl ⟨k, hk, e, Or.inr h4⟩
      · exact Or.inr (Or.inl ⟨k, hk, e, Or.inr h4⟩)
theorem zc_s1 {P : Nat → Prop} {i f : Nat} {a : Int32} (h : P i) : zcnt P i (f + 1) a = zcnt P (i + 1) f (a + 1) := by rw [zcnt, zb_t h]
theorem zc_s0 {P : Nat → Prop} {i f : Nat} {a : Int32} (h : ¬ P i) : zcnt P i (f + 1) a = zcnt P (i + 1) f a := by rw [zcnt, zb_f h, Int32.add_zero]
set_option maxRecDepth 100000 in
set_option maxHeartbeats 4000000 in
theorem cx_X0_callerOf {D0 D : ZD} {g : Option Nat} {sg : ZSg} {E : ES} {l : Launch} {Γ : ZG} {w : ZW} {e : Nat} (h : CR D0 g sg E D) {k : Nat} {x : Int32} (hx : x = nI k) (hk : k < nL D0) : Cm l Γ mX0_callerOf 2 [.ref e, .int x] (wE Γ w e E) (some (.int (clr D k))) (wE Γ w e E) := by
  refine Cm.of (by decide) rfl (Nat.le_of_ble_eq_true rfl) ?_
  refine go_aload_n 1 dX0_callerOf_0 rfl ?_
  refine xe_get 4 dX0_callerOf_1 fX0_20 rfl ?_
  refine go_aload_n 5 dX0_callerOf_4 rfl ?_
  refine xe_get 8 dX0_callerOf_5 fX0_23 rfl ?_
  refine go_iload_n 9 dX0_callerOf_8 rfl ?_
  refine go_iconst 10 dX0_callerOf_9 zc_0 ?_
  refine gcV2 13 dX0_callerOf_10 vX0_64 h.tL rfl (cg_L (k := k) (j := 0) h hx rfl hk (by decide)) ?_
  refine go_iconst 14 dX0_callerOf_13 zc_0 ?_
  refine gcV2 17 dX0_callerOf_14 vX0_64 h.tC rfl (cg_C (k := ofN D k) (j := 0) h (h.of hk).1 rfl (h.of hk).2 (by decide)) ?_
  exact go_ireturn dX0_callerOf_17 rfl (by omega) (by omega) (⟨rfl, rfl⟩)
set_option maxRecDepth 100000 in
set_option maxHeartbeats 4000000 in
theorem cx_X0_isIn {D0 D : ZD} {g : Option Nat} {sg : ZSg} {E : ES} {l : Launch} {Γ : ZG} {w : ZW} {e : Nat} (h : CR D0 g sg E D) {k : Nat} {x : Int32} (hx : x = nI k) (hk : k < nL D0) {y : Int32} : Cm l Γ mX0_isIn 3 [.ref e, .int x, .int y] (wE Γ w e E) (some (.int (zb (inLeg D y k)))) (wE Γ w e E) := by
  refine Cm.of (by decide) rfl (Nat.le_of_ble_eq_true rfl) ?_
  refine go_aload_n 1 dX0_isIn_0 rfl ?_
  refine go_iload_n 2 dX0_isIn_1 rfl ?_
  refine gcV1 5 dX0_isIn_2 vX0_72 wE_at0 rfl (cx_X0_callerOf h hx hk) ?_
  refine go_iload_n 6 dX0_isIn_5 rfl ?_
  refine go_icmp_eq 22 9 dX0_isIn_6 (fun h6 => ?_) (fun h6 => ?_)
  · refine go_iconst 23 dX0_isIn_22 zc_1 ?_
    refine go_goto 27 dX0_isIn_23 ?_
    exact go_zreturn dX0_isIn_27 rfl (by omega) (by omega) (Or.inr rfl) (⟨by rw [zb_t (by first | exact Or.inl (by first | exact h6 | exact Classical.not_not.mp h6) | exact Or.inr (by first | exact h19 | exact Classical.not_not.mp h19))], rfl⟩)
  · refine go_aload_n 10 dX0_isIn_9 rfl ?_
    refine xe_get 13 dX0_isIn_10 fX0_23 rfl ?_
    refine go_iload_n 14 dX0_isIn_13 rfl ?_
    refine go_iconst 15 dX0_isIn_14 zc_1 ?_
    refine gcV2 18 dX0_isIn_15 vX0_64 h.tL rfl (cg_L (k := k) (j := 1) h hx rfl hk (by decide)) ?_
    refine go_iload_n 19 dX0_isIn_18 rfl ?_
    refine go_icmp_ne 26 22 dX0_isIn_19 (fun h19 => ?_) (fun h19 => ?_)
    · refine go_iconst 27 dX0_isIn_26 zc_0 ?_
      exact go_zreturn dX0_isIn_27 rfl (by omega) (by omega) (Or.inl rfl) (⟨by rw [zb_f (fun q => q.elim h6 h19)], rfl⟩)
    · refine go_iconst 23 dX0_isIn_22 zc_1 ?_
      refine go_goto 27 dX0_isIn_23 ?_
      exact go_zreturn dX0_isIn_27 rfl (by omega) (by omega) (Or.inr rfl) (⟨by rw [zb_t (by first | exact Or.inl (by first | exact h6 | exact Classical.not_not.mp h6) | exact Or.inr (by first | exact h19 | exact Classical.not_not.mp h19))], rfl⟩)
set_option maxRecDepth 100000 in
set_option maxHeartbeats 4000000 in
theorem cx_X0_sideOf {D0 D : ZD} {g : Option Nat} {sg : ZSg} {E : ES} {l : Launch} {Γ : ZG} {w : ZW} {e : Nat} (h : CR D0 g sg E D) {k : Nat} {x : Int32} (hx : x = nI k) (hk : k < nL D0) {y : Int32} : Cm l Γ mX0_sideOf 3 [.ref e, .int x, .int y] (wE Γ w e E) (some (.int (nI (sdN D k y)))) (wE Γ w e E) := by
  refine Cm.of (by decide) rfl (Nat.le_of_ble_eq_true rfl) ?_
  refine go_aload_n 1 dX0_sideOf_0 rfl ?_
  refine go_iload_n 2 dX0_sideOf_1 rfl ?_
  refine gcV1 5 dX0_sideOf_2 vX0_72 wE_at0 rfl (cx_X0_callerOf h hx hk) ?_
  refine go_iload_n 6 dX0_sideOf_5 rfl ?_
  refine go_icmp_ne 13 9 dX0_sideOf_6 (fun h6 => ?_) (fun h6 => ?_)
  · refine go_iconst 14 dX0_sideOf_13 zc_1 ?_
    exact go_ireturn dX0_sideOf_14 rfl (by omega) (by omega) (⟨by unfold sdN; rw [if_neg h6]; rfl, rfl⟩)
  · refine go_iconst 10 dX0_sideOf_9 zc_0 ?_
    refine go_goto 14 dX0_sideOf_10 ?_
    exact go_ireturn dX0_sideOf_14 rfl (by omega) (by omega) (⟨by unfold sdN; rw [if_pos (by first | exact h6 | exact Classical.not_not.mp h6)]; rfl, rfl⟩)
set_option maxRecDepth 100000 in
set_option maxHeartbeats 4000000 in
theorem cx_X0_partyOn {D0 D : ZD} {g : Option Nat} {sg : ZSg} {E : ES} {l : Launch} {Γ : ZG} {w : ZW} {e : Nat} (h : CR D0 g sg E D) {k : Nat} {x : Int32} (hx : x = nI k) (hk : k < nL D0) {y : Int32} : Cm l Γ mX0_partyOn 3 [.ref e, .int x, .int y] (wE Γ w e E) (some (.int (if y = 0 then clr D k else dL D k 1))) (wE Γ w e E) := by
  refine Cm.of (by decide) rfl (Nat.le_of_ble_eq_true rfl) ?_
  refine go_iload_n 1 dX0_partyOn_0 rfl ?_
  refine go_if_ne 12 4 dX0_partyOn_1 (fun h1 => ?_) (fun h1 => ?_)
  · refine go_aload_n 13 dX0_partyOn_12 rfl ?_
    refine xe_get 16 dX0_partyOn_13 fX0_23 rfl ?_
    refine go_iload_n 17 dX0_partyOn_16 rfl ?_
    refine go_iconst 18 dX0_partyOn_17 zc_1 ?_
    refine gcV2 21 dX0_partyOn_18 vX0_64 h.tL rfl (cg_L (k := k) (j := 1) h hx rfl hk (by decide)) ?_
    exact go_ireturn dX0_partyOn_21 rfl (by omega) (by omega) (⟨by first | rw [if_pos (by first | exact h1 | exact Classical.not_not.mp h1)] | rw [if_neg h1], rfl⟩)
  · refine go_aload_n 5 dX0_partyOn_4 rfl ?_
    refine go_iload_n 6 dX0_partyOn_5 rfl ?_
    refine gcV1 9 dX0_partyOn_6 vX0_72 wE_at0 rfl (cx_X0_callerOf h hx hk) ?_
    refine go_goto 21 dX0_partyOn_9 ?_
    exact go_ireturn dX0_partyOn_21 rfl (by omega) (by omega) (⟨by first | rw [if_pos (by first | exact h1 | exact Classical.not_not.mp h1)] | rw [if_neg h1], rfl⟩)
set_option maxRecDepth 100000 in
set_option maxHeartbeats 4000000 in
theorem cx_X0_ringsAt {D0 D : ZD} {g : Option Nat} {sg : ZSg} {E : ES} {l : Launch} {Γ : ZG} {w : ZW} {e : Nat} (h : CR D0 g sg E D) {k : Nat} {x : Int32} (hx : x = nI k) (hk : k < nL D0) {y : Int32} : Cm l Γ mX0_ringsAt 2 [.ref e, .int x, .int y] (wE Γ w e E) (some (.int (zb (dL D k 2 = 0 ∧ dL D k 1 = y)))) (wE Γ w e E) := by
  refine Cm.of (by decide) rfl (Nat.le_of_ble_eq_true rfl) ?_
  refine go_aload_n 1 dX0_ringsAt_0 rfl ?_
  refine xe_get 4 dX0_ringsAt_1 fX0_23 rfl ?_
  refine go_iload_n 5 dX0_ringsAt_4 rfl ?_
  refine go_iconst 6 dX0_ringsAt_5 zc_2 ?_
  refine gcV2 9 dX0_ringsAt_6 vX0_64 h.tL rfl (cg_L (k := k) (j := 2) h hx rfl hk (by decide)) ?_
  refine go_if_ne 29 12 dX0_ringsAt_9 (fun h9 => ?_) (fun h9 => ?_)
  · refine go_iconst 30 dX0_ringsAt_29 zc_0 ?_
    exact go_zreturn dX0_ringsAt_30 rfl (by omega) (by omega) (Or.inl rfl) (⟨by rw [zb_f (fun q => by first | exact h9 q.1 | exact h22 q.2)], rfl⟩)
  · refine go_aload_n 13 dX0_ringsAt_12 rfl ?_
    refine xe_get 16 dX0_ringsAt_13 fX0_23 rfl ?_
    refine go_iload_n 17 dX0_ringsAt_16 rfl ?_
    refine go_iconst 18 dX0_ringsAt_17 zc_1 ?_
    refine gcV2 21 dX0_ringsAt_18 vX0_64 h.tL rfl (cg_L (k := k) (j := 1) h hx rfl hk (by decide)) ?_
    refine go_iload_n 22 dX0_ringsAt_21 rfl ?_
    refine go_icmp_ne 29 25 dX0_ringsAt_22 (fun h22 => ?_) (fun h22 => ?_)
    · refine go_iconst 30 dX0_ringsAt_29 zc_0 ?_
      exact go_zreturn dX0_ringsAt_30 rfl (by omega) (by omega) (Or.inl rfl) (⟨by rw [zb_f (fun q => by first | exact h9 q.1 | exact h22 q.2)], rfl⟩)
    · refine go_iconst 26 dX0_ringsAt_25 zc_1 ?_
      refine go_goto 30 dX0_ringsAt_26 ?_
      exact go_zreturn dX0_ringsAt_30 rfl (by omega) (by omega) (Or.inr rfl) (⟨by rw [zb_t ⟨(by first | exact h9 | exact Classical.not_not.mp h9), (by first | exact h22 | exact Classical.not_not.mp h22)⟩], rfl⟩)
set_option maxRecDepth 100000 in
set_option maxHeartbeats 4000000 in
theorem lp_X0_legOf {D0 D : ZD} {g : Option Nat} {sg : ZSg} {E : ES} {l : Launch} {Γ : ZG} {w : ZW} {e : Nat} (h : CR D0 g sg E D) {x y : Int32}  : ∀ (f i : Nat), i + f = nL D0 → Go l Γ mX0_legOf 4 0 0 (fun v w2 => v = some (.int (zfind (fun k => dL D k 2 = y ∧ inLeg D x k) i f)) ∧ w2 = wE Γ w e E) zNo 0 0 (wE Γ w e E) 2 [(0, .ref e), (1, .int x), (2, .int y), (3, .int (nI i))] [] := by
  have h40 := h.L40
  have h20 := h.C20
  intro f
  induction f with
  | zero =>
    intro i hif
    refine go_iload_n 3 dX0_legOf_2 rfl ?_
    refine go_aload_n 4 dX0_legOf_3 rfl ?_
    refine xe_get 7 dX0_legOf_4 fX0_23 rfl ?_
    refine xe_rL 10 h dX0_legOf_7 fX0_61 ?_
    refine go_icmp_ge 43 13 dX0_legOf_10 (fun h10 => ?_) (fun h10 => ?_)
    · refine go_iconst 44 dX0_legOf_43 zc_m1 ?_
      exact go_ireturn dX0_legOf_44 rfl (by omega) (by omega) (⟨rfl, rfl⟩)
    · exact (lpE (a := nI (nL D0)) (N := nL D0) rfl (by omega) h10).elim
  | succ f ih =>
    intro i hif
    refine go_iload_n 3 dX0_legOf_2 rfl ?_
    refine go_aload_n 4 dX0_legOf_3 rfl ?_
    refine xe_get 7 dX0_legOf_4 fX0_23 rfl ?_
    refine xe_rL 10 h dX0_legOf_7 fX0_61 ?_
    refine go_icmp_ge 43 13 dX0_legOf_10 (fun h10 => ?_) (fun h10 => ?_)
    · exact (lpG (a := nI (nL D0)) (N := nL D0) rfl (by omega) (by omega) h10).elim
    · refine go_aload_n 14 dX0_legOf_13 rfl ?_
      refine xe_get 17 dX0_legOf_14 fX0_23 rfl ?_
      refine go_iload_n 18 dX0_legOf_17 rfl ?_
      refine go_iconst 19 dX0_legOf_18 zc_2 ?_
      refine gcV2 22 dX0_legOf_19 vX0_64 h.tL rfl (cg_L (k := i) (j := 2) h rfl rfl (by omega) (by decide)) ?_
      refine go_iload_n 23 dX0_legOf_22 rfl ?_
      refine go_icmp_ne 37 26 dX0_legOf_23 (fun h23 => ?_) (fun h23 => ?_)
      · refine go_iinc 40 dX0_legOf_37 rfl (by decide) zc_1 ?_
        refine go_goto 2 dX0_legOf_40 ?_
        rw [nI_1, zfind_f (fun q => by first | exact h23 q.1 | exact zb_0 (by first | exact h32 | exact Classical.not_not.mp h32) q.2)]
        exact go_locals _ rfl (ih (i + 1) (by omega))
      · refine go_aload_n 27 dX0_legOf_26 rfl ?_
        refine go_iload_n 28 dX0_legOf_27 rfl ?_
        refine go_iload_n 29 dX0_legOf_28 rfl ?_
        refine gcV2 32 dX0_legOf_29 vX0_76 wE_at0 rfl (cx_X0_isIn h (k := i) rfl (by omega)) ?_
        refine go_if_eq 37 35 dX0_legOf_32 (fun h32 => ?_) (fun h32 => ?_)
        · refine go_iinc 40 dX0_legOf_37 rfl (by decide) zc_1 ?_
          refine go_goto 2 dX0_legOf_40 ?_
          rw [nI_1, zfind_f (fun q => by first | exact h23 q.1 | exact zb_0 (by first | exact h32 | exact Classical.not_not.mp h32) q.2)]
          exact go_locals _ rfl (ih (i + 1) (by omega))
        · refine go_iload_n 36 dX0_legOf_35 rfl ?_
          exact go_ireturn dX0_legOf_36 rfl (by omega) (by omega) (⟨by rw [zfind_t ⟨(by first | exact h23 | exact Classical.not_not.mp h23), zb_1 h32⟩], rfl⟩)
set_option maxRecDepth 100000 in
set_option maxHeartbeats 4000000 in
theorem cx_X0_legOf {D0 D : ZD} {g : Option Nat} {sg : ZSg} {E : ES} {l : Launch} {Γ : ZG} {w : ZW} {e : Nat} (h : CR D0 g sg E D) {x y : Int32} : Cm l Γ mX0_legOf 4 [.ref e, .int x, .int y] (wE Γ w e E) (some (.int (legW D x y))) (wE Γ w e E) := by
  refine Cm.of (by decide) rfl (Nat.le_of_ble_eq_true rfl) ?_
  refine go_iconst 1 dX0_legOf_0 zc_0 ?_
  refine go_istore_n 2 dX0_legOf_1 (by decide) ?_
  have q := lp_X0_legOf (l := l) (Γ := Γ) (w := w) (e := e) h (x := x) (y := y) (nL D0) 0 (by omega)
  unfold legW
  rw [h.eqL]
  exact go_locals _ rfl q
set_option maxRecDepth 100000 in
set_option maxHeartbeats 4000000 in
theorem lp_X0_legsInState {D0 D : ZD} {g : Option Nat} {sg : ZSg} {E : ES} {l : Launch} {Γ : ZG} {w : ZW} {e : Nat} (h : CR D0 g sg E D) {x : Int32}  : ∀ (f i : Nat) (a : Int32), i + f = nL D0 → Go l Γ mX0_legsInState 2 0 0 (fun v w2 => v = some (.int (zcnt (fun k => dL D k 2 = x) i f a)) ∧ w2 = wE Γ w e E) zNo 0 0 (wE Γ w e E) 4 [(0, .ref e), (1, .int x), (2, .int a), (3, .int (nI i))] [] := by
  have h40 := h.L40
  have h20 := h.C20
  intro f
  induction f with
  | zero =>
    intro i a hif
    refine go_iload_n 5 dX0_legsInState_4 rfl ?_
    refine go_aload_n 6 dX0_legsInState_5 rfl ?_
    refine xe_get 9 dX0_legsInState_6 fX0_23 rfl ?_
    refine xe_rL 12 h dX0_legsInState_9 fX0_61 ?_
    refine go_icmp_ge 37 15 dX0_legsInState_12 (fun h12 => ?_) (fun h12 => ?_)
    · refine go_iload_n 38 dX0_legsInState_37 rfl ?_
      exact go_ireturn dX0_legsInState_38 rfl (by omega) (by omega) (⟨rfl, rfl⟩)
    · exact (lpE (a := nI (nL D0)) (N := nL D0) rfl (by omega) h12).elim
  | succ f ih =>
    intro i a hif
    refine go_iload_n 5 dX0_legsInState_4 rfl ?_
    refine go_aload_n 6 dX0_legsInState_5 rfl ?_
    refine xe_get 9 dX0_legsInState_6 fX0_23 rfl ?_
    refine xe_rL 12 h dX0_legsInState_9 fX0_61 ?_
    refine go_icmp_ge 37 15 dX0_legsInState_12 (fun h12 => ?_) (fun h12 => ?_)
    · exact (lpG (a := nI (nL D0)) (N := nL D0) rfl (by omega) (by omega) h12).elim
    · refine go_aload_n 16 dX0_legsInState_15 rfl ?_
      refine xe_get 19 dX0_legsInState_16 fX0_23 rfl ?_
      refine go_iload_n 20 dX0_legsInState_19 rfl ?_
      refine go_iconst 21 dX0_legsInState_20 zc_2 ?_
      refine gcV2 24 dX0_legsInState_21 vX0_64 h.tL rfl (cg_L (k := i) (j := 2) h rfl rfl (by omega) (by decide)) ?_
      refine go_iload_n 25 dX0_legsInState_24 rfl ?_
      refine go_icmp_ne 31 28 dX0_legsInState_25 (fun h25 => ?_) (fun h25 => ?_)
      · refine go_iinc 34 dX0_legsInState_31 rfl (by decide) zc_1 ?_
        refine go_goto 4 dX0_legsInState_34 ?_
        rw [nI_1]
        first
          | rw [zc_s1 (show (fun k => dL D k 2 = x) i from (by first | exact h25 | exact Classical.not_not.mp h25))]; exact go_locals _ rfl (ih (i + 1) (a + 1) (by omega))
          | rw [zc_s0 (show ¬ (fun k => dL D k 2 = x) i from h25)]; exact go_locals _ rfl (ih (i + 1) a (by omega))
      · refine go_iinc 31 dX0_legsInState_28 rfl (by decide) zc_1 ?_
        refine go_iinc 34 dX0_legsInState_31 rfl (by decide) zc_1 ?_
        refine go_goto 4 dX0_legsInState_34 ?_
        rw [nI_1]
        first
          | rw [zc_s1 (show (fun k => dL D k 2 = x) i from (by first | exact h25 | exact Classical.not_not.mp h25))]; exact go_locals _ rfl (ih (i + 1) (a + 1) (by omega))
          | rw [zc_s0 (show ¬ (fun k => dL D k 2 = x) i from h25)]; exact go_locals _ rfl (ih (i + 1) a (by omega))
set_option maxRecDepth 100000 in
set_option maxHeartbeats 4000000 in
theorem cx_X0_legsInState {D0 D : ZD} {g : Option Nat} {sg : ZSg} {E : ES} {l : Launch} {Γ : ZG} {w : ZW} {e : Nat} (h : CR D0 g sg E D) {x : Int32} : Cm l Γ mX0_legsInState 2 [.ref e, .int x] (wE Γ w e E) (some (.int (cntSt D x))) (wE Γ w e E) := by
  refine Cm.of (by decide) rfl (Nat.le_of_ble_eq_true rfl) ?_
  refine go_iconst 1 dX0_legsInState_0 zc_0 ?_
  refine go_istore_n 2 dX0_legsInState_1 (by decide) ?_
  refine go_iconst 3 dX0_legsInState_2 zc_0 ?_
  refine go_istore_n 4 dX0_legsInState_3 (by decide) ?_
  have q := lp_X0_legsInState (l := l) (Γ := Γ) (w := w) (e := e) h (x := x) (nL D0) 0 0 (by omega)
  unfold cntSt
  rw [h.eqL]
  exact go_locals _ rfl q
set_option maxRecDepth 100000 in
set_option maxHeartbeats 4000000 in
theorem lp_X0_legsRingingAt {D0 D : ZD} {g : Option Nat} {sg : ZSg} {E : ES} {l : Launch} {Γ : ZG} {w : ZW} {e : Nat} (h : CR D0 g sg E D) {x : Int32}  : ∀ (f i : Nat) (a : Int32), i + f = nL D0 → Go l Γ mX0_legsRingingAt 3 0 0 (fun v w2 => v = some (.int (zcnt (fun k => dL D k 2 = 0 ∧ dL D k 1 = x) i f a)) ∧ w2 = wE Γ w e E) zNo 0 0 (wE Γ w e E) 4 [(0, .ref e), (1, .int x), (2, .int a), (3, .int (nI i))] [] := by
  have h40 := h.L40
  have h20 := h.C20
  intro f
  induction f with
  | zero =>
    intro i a hif
    refine go_iload_n 5 dX0_legsRingingAt_4 rfl ?_
    refine go_aload_n 6 dX0_legsRingingAt_5 rfl ?_
    refine xe_get 9 dX0_legsRingingAt_6 fX0_23 rfl ?_
    refine xe_rL 12 h dX0_legsRingingAt_9 fX0_61 ?_
    refine go_icmp_ge 33 15 dX0_legsRingingAt_12 (fun h12 => ?_) (fun h12 => ?_)
    · refine go_iload_n 34 dX0_legsRingingAt_33 rfl ?_
      exact go_ireturn dX0_legsRingingAt_34 rfl (by omega) (by omega) (⟨rfl, rfl⟩)
    · exact (lpE (a := nI (nL D0)) (N := nL D0) rfl (by omega) h12).elim
  | succ f ih =>
    intro i a hif
    refine go_iload_n 5 dX0_legsRingingAt_4 rfl ?_
    refine go_aload_n 6 dX0_legsRingingAt_5 rfl ?_
    refine xe_get 9 dX0_legsRingingAt_6 fX0_23 rfl ?_
    refine xe_rL 12 h dX0_legsRingingAt_9 fX0_61 ?_
    refine go_icmp_ge 33 15 dX0_legsRingingAt_12 (fun h12 => ?_) (fun h12 => ?_)
    · exact (lpG (a := nI (nL D0)) (N := nL D0) rfl (by omega) (by omega) h12).elim
    · refine go_aload_n 16 dX0_legsRingingAt_15 rfl ?_
      refine go_iload_n 17 dX0_legsRingingAt_16 rfl ?_
      refine go_iload_n 18 dX0_legsRingingAt_17 rfl ?_
      refine gcV2 21 dX0_legsRingingAt_18 vX0_68 wE_at0 rfl (cx_X0_ringsAt h (k := i) rfl (by omega)) ?_
      refine go_if_eq 27 24 dX0_legsRingingAt_21 (fun h21 => ?_) (fun h21 => ?_)
      · refine go_iinc 30 dX0_legsRingingAt_27 rfl (by decide) zc_1 ?_
        refine go_goto 4 dX0_legsRingingAt_30 ?_
        rw [nI_1]
        first
          | rw [zc_s1 (show (fun k => dL D k 2 = 0 ∧ dL D k 1 = x) i from zb_1 h21)]; exact go_locals _ rfl (ih (i + 1) (a + 1) (by omega))
          | rw [zc_s0 (show ¬ (fun k => dL D k 2 = 0 ∧ dL D k 1 = x) i from zb_0 (by first | exact h21 | exact Classical.not_not.mp h21))]; exact go_locals _ rfl (ih (i + 1) a (by omega))
      · refine go_iinc 27 dX0_legsRingingAt_24 rfl (by decide) zc_1 ?_
        refine go_iinc 30 dX0_legsRingingAt_27 rfl (by decide) zc_1 ?_
        refine go_goto 4 dX0_legsRingingAt_30 ?_
        rw [nI_1]
        first
          | rw [zc_s1 (show (fun k => dL D k 2 = 0 ∧ dL D k 1 = x) i from zb_1 h21)]; exact go_locals _ rfl (ih (i + 1) (a + 1) (by omega))
          | rw [zc_s0 (show ¬ (fun k => dL D k 2 = 0 ∧ dL D k 1 = x) i from zb_0 (by first | exact h21 | exact Classical.not_not.mp h21))]; exact go_locals _ rfl (ih (i + 1) a (by omega))
set_option maxRecDepth 100000 in
set_option maxHeartbeats 4000000 in
theorem cx_X0_legsRingingAt {D0 D : ZD} {g : Option Nat} {sg : ZSg} {E : ES} {l : Launch} {Γ : ZG} {w : ZW} {e : Nat} (h : CR D0 g sg E D) {x : Int32} : Cm l Γ mX0_legsRingingAt 3 [.ref e, .int x] (wE Γ w e E) (some (.int (rung D x))) (wE Γ w e E) := by
  refine Cm.of (by decide) rfl (Nat.le_of_ble_eq_true rfl) ?_
  refine go_iconst 1 dX0_legsRingingAt_0 zc_0 ?_
  refine go_istore_n 2 dX0_legsRingingAt_1 (by decide) ?_
  refine go_iconst 3 dX0_legsRingingAt_2 zc_0 ?_
  refine go_istore_n 4 dX0_legsRingingAt_3 (by decide) ?_
  have q := lp_X0_legsRingingAt (l := l) (Γ := Γ) (w := w) (e := e) h (x := x) (nL D0) 0 0 (by omega)
  unfold rung
  rw [h.eqL]
  exact go_locals _ rfl q
set_option maxRecDepth 100000 in
set_option maxHeartbeats 4000000 in
theorem lp_X0_rings {D0 D : ZD} {g : Option Nat} {sg : ZSg} {E : ES} {l : Launch} {Γ : ZG} {w : ZW} {e : Nat} (h : CR D0 g sg E D) (hs : SegD sg D0) {c : Nat} {x : Int32} (hx : x = nI c) (hc : c < nC D0)  : ∀ (f i : Nat), i + f = (sg c).2 → Go l Γ mX0_rings 2 0 0 (fun v w2 => v = some (.int (zb (exs (fun k => dL D k 2 = 0) i f))) ∧ w2 = wE Γ w e E) zNo 0 0 (wE Γ w e E) 11 [(0, .ref e), (1, .int x), (2, .int (nI i))] [] := by
  have h40 := h.L40
  have h20 := h.C20
  obtain ⟨s1, s2, -⟩ := hs c hc
  intro f
  induction f with
  | zero =>
    intro i hif
    refine go_iload_n 12 dX0_rings_11 rfl ?_
    refine go_aload_n 13 dX0_rings_12 rfl ?_
    refine xe_get 16 dX0_rings_13 fX0_20 rfl ?_
    refine go_iload_n 17 dX0_rings_16 rfl ?_
    refine go_bipush 19 dX0_rings_17 zb_7 ?_
    refine gcV2 22 dX0_rings_19 vX0_64 h.tC rfl (cg_C7 (k := c) h hx hc) ?_
    refine go_icmp_ge 45 25 dX0_rings_22 (fun h22 => ?_) (fun h22 => ?_)
    · refine go_iconst 46 dX0_rings_45 zc_0 ?_
      exact go_zreturn dX0_rings_46 rfl (by omega) (by omega) (Or.inl rfl) (⟨by rw [exs_f0], rfl⟩)
    · exact (lpE (a := nI ((sg c).2)) (N := (sg c).2) rfl (by omega) h22).elim
  | succ f ih =>
    intro i hif
    refine go_iload_n 12 dX0_rings_11 rfl ?_
    refine go_aload_n 13 dX0_rings_12 rfl ?_
    refine xe_get 16 dX0_rings_13 fX0_20 rfl ?_
    refine go_iload_n 17 dX0_rings_16 rfl ?_
    refine go_bipush 19 dX0_rings_17 zb_7 ?_
    refine gcV2 22 dX0_rings_19 vX0_64 h.tC rfl (cg_C7 (k := c) h hx hc) ?_
    refine go_icmp_ge 45 25 dX0_rings_22 (fun h22 => ?_) (fun h22 => ?_)
    · exact (lpG (a := nI ((sg c).2)) (N := (sg c).2) rfl (by omega) (by omega) h22).elim
    · refine go_aload_n 26 dX0_rings_25 rfl ?_
      refine xe_get 29 dX0_rings_26 fX0_23 rfl ?_
      refine go_iload_n 30 dX0_rings_29 rfl ?_
      refine go_iconst 31 dX0_rings_30 zc_2 ?_
      refine gcV2 34 dX0_rings_31 vX0_64 h.tL rfl (cg_L (k := i) (j := 2) h rfl rfl (by omega) (by decide)) ?_
      refine go_if_ne 39 37 dX0_rings_34 (fun h34 => ?_) (fun h34 => ?_)
      · refine go_iinc 42 dX0_rings_39 rfl (by decide) zc_1 ?_
        refine go_goto 11 dX0_rings_42 ?_
        rw [nI_1, exs_f (P := fun k => dL D k 2 = 0) h34]
        exact go_locals _ rfl (ih (i + 1) (by omega))
      · refine go_iconst 38 dX0_rings_37 zc_1 ?_
        exact go_zreturn dX0_rings_38 rfl (by omega) (by omega) (Or.inr rfl) (⟨by rw [exs_t (P := fun k => dL D k 2 = 0) (by first | exact h34 | exact Classical.not_not.mp h34)], rfl⟩)
set_option maxRecDepth 100000 in
set_option maxHeartbeats 4000000 in
theorem cx_X0_rings {D0 D : ZD} {g : Option Nat} {sg : ZSg} {E : ES} {l : Launch} {Γ : ZG} {w : ZW} {e : Nat} (h : CR D0 g sg E D) (hs : SegD sg D0) {c : Nat} {x : Int32} (hx : x = nI c) (hc : c < nC D0) : Cm l Γ mX0_rings 2 [.ref e, .int x] (wE Γ w e E) (some (.int (zb (rngs D (nI c))))) (wE Γ w e E) := by
  refine Cm.of (by decide) rfl (Nat.le_of_ble_eq_true rfl) ?_
  refine go_aload_n 1 dX0_rings_0 rfl ?_
  refine xe_get 4 dX0_rings_1 fX0_20 rfl ?_
  refine go_iload_n 5 dX0_rings_4 rfl ?_
  refine go_bipush 7 dX0_rings_5 zb_6 ?_
  refine gcV2 10 dX0_rings_7 vX0_64 h.tC rfl (cg_C6 (k := c) h hx hc) ?_
  refine go_istore_n 11 dX0_rings_10 (by decide) ?_
  obtain ⟨s1, s2, -⟩ := hs c hc
  have q := lp_X0_rings (l := l) (Γ := Γ) (w := w) (e := e) h hs hx hc ((sg c).2 - (sg c).1) (sg c).1 (by omega)
  rw [zb_congr (rngs_seg h hs hc)]
  exact go_locals _ rfl q
set_option maxRecDepth 100000 in
set_option maxHeartbeats 4000000 in
theorem lp_X0_ringingCallOf {D0 D : ZD} {g : Option Nat} {sg : ZSg} {E : ES} {l : Launch} {Γ : ZG} {w : ZW} {e : Nat} (h : CR D0 g sg E D) (hs : SegD sg D0) {x : Int32}  : ∀ (f i : Nat), i + f = nC D0 → Go l Γ mX0_ringingCallOf 3 0 0 (fun v w2 => v = some (.int (zfind (fun c => dC D c 0 = x ∧ rngs D (nI c)) i f)) ∧ w2 = wE Γ w e E) zNo 0 0 (wE Γ w e E) 2 [(0, .ref e), (1, .int x), (2, .int (nI i))] [] := by
  have h40 := h.L40
  have h20 := h.C20
  intro f
  induction f with
  | zero =>
    intro i hif
    refine go_iload_n 3 dX0_ringingCallOf_2 rfl ?_
    refine go_aload_n 4 dX0_ringingCallOf_3 rfl ?_
    refine xe_get 7 dX0_ringingCallOf_4 fX0_20 rfl ?_
    refine xe_rC 10 h dX0_ringingCallOf_7 fX0_61 ?_
    refine go_icmp_ge 42 13 dX0_ringingCallOf_10 (fun h10 => ?_) (fun h10 => ?_)
    · refine go_iconst 43 dX0_ringingCallOf_42 zc_m1 ?_
      exact go_ireturn dX0_ringingCallOf_43 rfl (by omega) (by omega) (⟨rfl, rfl⟩)
    · exact (lpE (a := nI (nC D0)) (N := nC D0) rfl (by omega) h10).elim
  | succ f ih =>
    intro i hif
    refine go_iload_n 3 dX0_ringingCallOf_2 rfl ?_
    refine go_aload_n 4 dX0_ringingCallOf_3 rfl ?_
    refine xe_get 7 dX0_ringingCallOf_4 fX0_20 rfl ?_
    refine xe_rC 10 h dX0_ringingCallOf_7 fX0_61 ?_
    refine go_icmp_ge 42 13 dX0_ringingCallOf_10 (fun h10 => ?_) (fun h10 => ?_)
    · exact (lpG (a := nI (nC D0)) (N := nC D0) rfl (by omega) (by omega) h10).elim
    · refine go_aload_n 14 dX0_ringingCallOf_13 rfl ?_
      refine xe_get 17 dX0_ringingCallOf_14 fX0_20 rfl ?_
      refine go_iload_n 18 dX0_ringingCallOf_17 rfl ?_
      refine go_iconst 19 dX0_ringingCallOf_18 zc_0 ?_
      refine gcV2 22 dX0_ringingCallOf_19 vX0_64 h.tC rfl (cg_C (k := i) (j := 0) h rfl rfl (by omega) (by decide)) ?_
      refine go_iload_n 23 dX0_ringingCallOf_22 rfl ?_
      refine go_icmp_ne 36 26 dX0_ringingCallOf_23 (fun h23 => ?_) (fun h23 => ?_)
      · refine go_iinc 39 dX0_ringingCallOf_36 rfl (by decide) zc_1 ?_
        refine go_goto 2 dX0_ringingCallOf_39 ?_
        rw [nI_1, zfind_f (fun q => by first | exact h23 q.1 | exact zb_0 (by first | exact h31 | exact Classical.not_not.mp h31) q.2)]
        exact go_locals _ rfl (ih (i + 1) (by omega))
      · refine go_aload_n 27 dX0_ringingCallOf_26 rfl ?_
        refine go_iload_n 28 dX0_ringingCallOf_27 rfl ?_
        refine gcV1 31 dX0_ringingCallOf_28 vX0_148 wE_at0 rfl (cx_X0_rings h hs (c := i) rfl (by omega)) ?_
        refine go_if_eq 36 34 dX0_ringingCallOf_31 (fun h31 => ?_) (fun h31 => ?_)
        · refine go_iinc 39 dX0_ringingCallOf_36 rfl (by decide) zc_1 ?_
          refine go_goto 2 dX0_ringingCallOf_39 ?_
          rw [nI_1, zfind_f (fun q => by first | exact h23 q.1 | exact zb_0 (by first | exact h31 | exact Classical.not_not.mp h31) q.2)]
          exact go_locals _ rfl (ih (i + 1) (by omega))
        · refine go_iload_n 35 dX0_ringingCallOf_34 rfl ?_
          exact go_ireturn dX0_ringingCallOf_35 rfl (by omega) (by omega) (⟨by rw [zfind_t ⟨(by first | exact h23 | exact Classical.not_not.mp h23), zb_1 h31⟩], rfl⟩)
set_option maxRecDepth 100000 in
set_option maxHeartbeats 4000000 in
theorem cx_X0_ringingCallOf {D0 D : ZD} {g : Option Nat} {sg : ZSg} {E : ES} {l : Launch} {Γ : ZG} {w : ZW} {e : Nat} (h : CR D0 g sg E D) (hs : SegD sg D0) {x : Int32} : Cm l Γ mX0_ringingCallOf 3 [.ref e, .int x] (wE Γ w e E) (some (.int (rngOf D x))) (wE Γ w e E) := by
  refine Cm.of (by decide) rfl (Nat.le_of_ble_eq_true rfl) ?_
  refine go_iconst 1 dX0_ringingCallOf_0 zc_0 ?_
  refine go_istore_n 2 dX0_ringingCallOf_1 (by decide) ?_
  have q := lp_X0_ringingCallOf (l := l) (Γ := Γ) (w := w) (e := e) h hs (x := x) (nC D0) 0 (by omega)
  unfold rngOf
  rw [h.eqC]
  exact go_locals _ rfl q
set_option maxRecDepth 100000 in
set_option maxHeartbeats 4000000 in
theorem lp_X0_isEngaged {D0 D : ZD} {g : Option Nat} {sg : ZSg} {E : ES} {l : Launch} {Γ : ZG} {w : ZW} {e : Nat} (h : CR D0 g sg E D) {x : Int32}  : ∀ (f i : Nat), i + f = nL D0 → Go l Γ mX0_isEngaged 3 0 0 (fun v w2 => v = some (.int (zb (exs (engP D x) i f))) ∧ w2 = wE Γ w e E) zNo 0 0 (wE Γ w e E) 2 [(0, .ref e), (1, .int x), (2, .int (nI i))] [] := by
  have h40 := h.L40
  have h20 := h.C20
  intro f
  induction f with
  | zero =>
    intro i hif
    refine go_iload_n 3 dX0_isEngaged_2 rfl ?_
    refine go_aload_n 4 dX0_isEngaged_3 rfl ?_
    refine xe_get 7 dX0_isEngaged_4 fX0_23 rfl ?_
    refine xe_rL 10 h dX0_isEngaged_7 fX0_61 ?_
    refine go_icmp_ge 70 13 dX0_isEngaged_10 (fun h10 => ?_) (fun h10 => ?_)
    · refine go_iconst 71 dX0_isEngaged_70 zc_0 ?_
      exact go_zreturn dX0_isEngaged_71 rfl (by omega) (by omega) (Or.inl rfl) (⟨by rw [exs_f0], rfl⟩)
    · exact (lpE (a := nI (nL D0)) (N := nL D0) rfl (by omega) h10).elim
  | succ f ih =>
    intro i hif
    refine go_iload_n 3 dX0_isEngaged_2 rfl ?_
    refine go_aload_n 4 dX0_isEngaged_3 rfl ?_
    refine xe_get 7 dX0_isEngaged_4 fX0_23 rfl ?_
    refine xe_rL 10 h dX0_isEngaged_7 fX0_61 ?_
    refine go_icmp_ge 70 13 dX0_isEngaged_10 (fun h10 => ?_) (fun h10 => ?_)
    · exact (lpG (a := nI (nL D0)) (N := nL D0) rfl (by omega) (by omega) h10).elim
    · refine go_aload_n 14 dX0_isEngaged_13 rfl ?_
      refine xe_get 17 dX0_isEngaged_14 fX0_23 rfl ?_
      refine go_iload_n 18 dX0_isEngaged_17 rfl ?_
      refine go_iconst 19 dX0_isEngaged_18 zc_2 ?_
      refine gcV2 22 dX0_isEngaged_19 vX0_64 h.tL rfl (cg_L (k := i) (j := 2) h rfl rfl (by omega) (by decide)) ?_
      refine go_istore_n 23 dX0_isEngaged_22 (by decide) ?_
      refine go_iload_n 24 dX0_isEngaged_23 rfl ?_
      refine go_iconst 25 dX0_isEngaged_24 zc_3 ?_
      refine go_icmp_eq 39 28 dX0_isEngaged_25 (fun h25 => ?_) (fun h25 => ?_)
      · refine go_iload_n 40 dX0_isEngaged_39 rfl ?_
        refine go_iconst 41 dX0_isEngaged_40 zc_1 ?_
        refine go_icmp_eq 49 44 dX0_isEngaged_41 (fun h41 => ?_) (fun h41 => ?_)
        · refine go_aload_n 50 dX0_isEngaged_49 rfl ?_
          refine xe_get 53 dX0_isEngaged_50 fX0_23 rfl ?_
          refine go_iload_n 54 dX0_isEngaged_53 rfl ?_
          refine go_iconst 55 dX0_isEngaged_54 zc_1 ?_
          refine gcV2 58 dX0_isEngaged_55 vX0_64 h.tL rfl (cg_L (k := i) (j := 1) h rfl rfl (by omega) (by decide)) ?_
          refine go_iload_n 59 dX0_isEngaged_58 rfl ?_
          refine go_icmp_ne 64 62 dX0_isEngaged_59 (fun h59 => ?_) (fun h59 => ?_)
          · refine go_iinc 67 dX0_isEngaged_64 rfl (by decide) zc_1 ?_
            refine go_goto 2 dX0_isEngaged_67 ?_
            rw [nI_1, exs_f (P := engP D x) (fun q => q.elim (fun z => by first | exact z.1 (by first | exact h25 | exact Classical.not_not.mp h25) | exact h34 z.2) (fun z => by first | exact h59 z.2 | exact z.1.elim (fun y => by first | exact h41 y | exact absurd (y.symm.trans (by first | exact h25 | exact Classical.not_not.mp h25)) (by decide)) (fun y => by first | exact h46 y | exact absurd (y.symm.trans (by first | exact h25 | exact Classical.not_not.mp h25)) (by decide))))]
            exact go_locals [(0, .ref e), (1, .int x), (2, .int (nI (i + 1)))] rfl (ih (i + 1) (by omega))
          · refine go_iconst 63 dX0_isEngaged_62 zc_1 ?_
            exact go_zreturn dX0_isEngaged_63 rfl (by omega) (by omega) (Or.inr rfl) (⟨by rw [exs_t (P := engP D x) (by first | exact Or.inl ⟨h25, (by first | exact h34 | exact Classical.not_not.mp h34)⟩ | exact Or.inr ⟨by first | exact Or.inl (by first | exact h41 | exact Classical.not_not.mp h41) | exact Or.inr (by first | exact h46 | exact Classical.not_not.mp h46), (by first | exact h59 | exact Classical.not_not.mp h59)⟩)], rfl⟩)
        · refine go_iload_n 45 dX0_isEngaged_44 rfl ?_
          refine go_iconst 46 dX0_isEngaged_45 zc_2 ?_
          refine go_icmp_ne 64 49 dX0_isEngaged_46 (fun h46 => ?_) (fun h46 => ?_)
          · refine go_iinc 67 dX0_isEngaged_64 rfl (by decide) zc_1 ?_
            refine go_goto 2 dX0_isEngaged_67 ?_
            rw [nI_1, exs_f (P := engP D x) (fun q => q.elim (fun z => by first | exact z.1 (by first | exact h25 | exact Classical.not_not.mp h25) | exact h34 z.2) (fun z => by first | exact h59 z.2 | exact z.1.elim (fun y => by first | exact h41 y | exact absurd (y.symm.trans (by first | exact h25 | exact Classical.not_not.mp h25)) (by decide)) (fun y => by first | exact h46 y | exact absurd (y.symm.trans (by first | exact h25 | exact Classical.not_not.mp h25)) (by decide))))]
            exact go_locals [(0, .ref e), (1, .int x), (2, .int (nI (i + 1)))] rfl (ih (i + 1) (by omega))
          · refine go_aload_n 50 dX0_isEngaged_49 rfl ?_
            refine xe_get 53 dX0_isEngaged_50 fX0_23 rfl ?_
            refine go_iload_n 54 dX0_isEngaged_53 rfl ?_
            refine go_iconst 55 dX0_isEngaged_54 zc_1 ?_
            refine gcV2 58 dX0_isEngaged_55 vX0_64 h.tL rfl (cg_L (k := i) (j := 1) h rfl rfl (by omega) (by decide)) ?_
            refine go_iload_n 59 dX0_isEngaged_58 rfl ?_
            refine go_icmp_ne 64 62 dX0_isEngaged_59 (fun h59 => ?_) (fun h59 => ?_)
            · refine go_iinc 67 dX0_isEngaged_64 rfl (by decide) zc_1 ?_
              refine go_goto 2 dX0_isEngaged_67 ?_
              rw [nI_1, exs_f (P := engP D x) (fun q => q.elim (fun z => by first | exact z.1 (by first | exact h25 | exact Classical.not_not.mp h25) | exact h34 z.2) (fun z => by first | exact h59 z.2 | exact z.1.elim (fun y => by first | exact h41 y | exact absurd (y.symm.trans (by first | exact h25 | exact Classical.not_not.mp h25)) (by decide)) (fun y => by first | exact h46 y | exact absurd (y.symm.trans (by first | exact h25 | exact Classical.not_not.mp h25)) (by decide))))]
              exact go_locals [(0, .ref e), (1, .int x), (2, .int (nI (i + 1)))] rfl (ih (i + 1) (by omega))
            · refine go_iconst 63 dX0_isEngaged_62 zc_1 ?_
              exact go_zreturn dX0_isEngaged_63 rfl (by omega) (by omega) (Or.inr rfl) (⟨by rw [exs_t (P := engP D x) (by first | exact Or.inl ⟨h25, (by first | exact h34 | exact Classical.not_not.mp h34)⟩ | exact Or.inr ⟨by first | exact Or.inl (by first | exact h41 | exact Classical.not_not.mp h41) | exact Or.inr (by first | exact h46 | exact Classical.not_not.mp h46), (by first | exact h59 | exact Classical.not_not.mp h59)⟩)], rfl⟩)
      · refine go_aload_n 29 dX0_isEngaged_28 rfl ?_
        refine go_iload_n 30 dX0_isEngaged_29 rfl ?_
        refine gcV1 33 dX0_isEngaged_30 vX0_72 wE_at0 rfl (cx_X0_callerOf h (k := i) rfl (by omega)) ?_
        refine go_iload_n 34 dX0_isEngaged_33 rfl ?_
        refine go_icmp_ne 39 37 dX0_isEngaged_34 (fun h34 => ?_) (fun h34 => ?_)
        · refine go_iload_n 40 dX0_isEngaged_39 rfl ?_
          refine go_iconst 41 dX0_isEngaged_40 zc_1 ?_
          refine go_icmp_eq 49 44 dX0_isEngaged_41 (fun h41 => ?_) (fun h41 => ?_)
          · refine go_aload_n 50 dX0_isEngaged_49 rfl ?_
            refine xe_get 53 dX0_isEngaged_50 fX0_23 rfl ?_
            refine go_iload_n 54 dX0_isEngaged_53 rfl ?_
            refine go_iconst 55 dX0_isEngaged_54 zc_1 ?_
            refine gcV2 58 dX0_isEngaged_55 vX0_64 h.tL rfl (cg_L (k := i) (j := 1) h rfl rfl (by omega) (by decide)) ?_
            refine go_iload_n 59 dX0_isEngaged_58 rfl ?_
            refine go_icmp_ne 64 62 dX0_isEngaged_59 (fun h59 => ?_) (fun h59 => ?_)
            · refine go_iinc 67 dX0_isEngaged_64 rfl (by decide) zc_1 ?_
              refine go_goto 2 dX0_isEngaged_67 ?_
              rw [nI_1, exs_f (P := engP D x) (fun q => q.elim (fun z => by first | exact z.1 (by first | exact h25 | exact Classical.not_not.mp h25) | exact h34 z.2) (fun z => by first | exact h59 z.2 | exact z.1.elim (fun y => by first | exact h41 y | exact absurd (y.symm.trans (by first | exact h25 | exact Classical.not_not.mp h25)) (by decide)) (fun y => by first | exact h46 y | exact absurd (y.symm.trans (by first | exact h25 | exact Classical.not_not.mp h25)) (by decide))))]
              exact go_locals [(0, .ref e), (1, .int x), (2, .int (nI (i + 1)))] rfl (ih (i + 1) (by omega))
            · refine go_iconst 63 dX0_isEngaged_62 zc_1 ?_
              exact go_zreturn dX0_isEngaged_63 rfl (by omega) (by omega) (Or.inr rfl) (⟨by rw [exs_t (P := engP D x) (by first | exact Or.inl ⟨h25, (by first | exact h34 | exact Classical.not_not.mp h34)⟩ | exact Or.inr ⟨by first | exact Or.inl (by first | exact h41 | exact Classical.not_not.mp h41) | exact Or.inr (by first | exact h46 | exact Classical.not_not.mp h46), (by first | exact h59 | exact Classical.not_not.mp h59)⟩)], rfl⟩)
          · refine go_iload_n 45 dX0_isEngaged_44 rfl ?_
            refine go_iconst 46 dX0_isEngaged_45 zc_2 ?_
            refine go_icmp_ne 64 49 dX0_isEngaged_46 (fun h46 => ?_) (fun h46 => ?_)
            · refine go_iinc 67 dX0_isEngaged_64 rfl (by decide) zc_1 ?_
              refine go_goto 2 dX0_isEngaged_67 ?_
              rw [nI_1, exs_f (P := engP D x) (fun q => q.elim (fun z => by first | exact z.1 (by first | exact h25 | exact Classical.not_not.mp h25) | exact h34 z.2) (fun z => by first | exact h59 z.2 | exact z.1.elim (fun y => by first | exact h41 y | exact absurd (y.symm.trans (by first | exact h25 | exact Classical.not_not.mp h25)) (by decide)) (fun y => by first | exact h46 y | exact absurd (y.symm.trans (by first | exact h25 | exact Classical.not_not.mp h25)) (by decide))))]
              exact go_locals [(0, .ref e), (1, .int x), (2, .int (nI (i + 1)))] rfl (ih (i + 1) (by omega))
            · refine go_aload_n 50 dX0_isEngaged_49 rfl ?_
              refine xe_get 53 dX0_isEngaged_50 fX0_23 rfl ?_
              refine go_iload_n 54 dX0_isEngaged_53 rfl ?_
              refine go_iconst 55 dX0_isEngaged_54 zc_1 ?_
              refine gcV2 58 dX0_isEngaged_55 vX0_64 h.tL rfl (cg_L (k := i) (j := 1) h rfl rfl (by omega) (by decide)) ?_
              refine go_iload_n 59 dX0_isEngaged_58 rfl ?_
              refine go_icmp_ne 64 62 dX0_isEngaged_59 (fun h59 => ?_) (fun h59 => ?_)
              · refine go_iinc 67 dX0_isEngaged_64 rfl (by decide) zc_1 ?_
                refine go_goto 2 dX0_isEngaged_67 ?_
                rw [nI_1, exs_f (P := engP D x) (fun q => q.elim (fun z => by first | exact z.1 (by first | exact h25 | exact Classical.not_not.mp h25) | exact h34 z.2) (fun z => by first | exact h59 z.2 | exact z.1.elim (fun y => by first | exact h41 y | exact absurd (y.symm.trans (by first | exact h25 | exact Classical.not_not.mp h25)) (by decide)) (fun y => by first | exact h46 y | exact absurd (y.symm.trans (by first | exact h25 | exact Classical.not_not.mp h25)) (by decide))))]
                exact go_locals [(0, .ref e), (1, .int x), (2, .int (nI (i + 1)))] rfl (ih (i + 1) (by omega))
              · refine go_iconst 63 dX0_isEngaged_62 zc_1 ?_
                exact go_zreturn dX0_isEngaged_63 rfl (by omega) (by omega) (Or.inr rfl) (⟨by rw [exs_t (P := engP D x) (by first | exact Or.inl ⟨h25, (by first | exact h34 | exact Classical.not_not.mp h34)⟩ | exact Or.inr ⟨by first | exact Or.inl (by first | exact h41 | exact Classical.not_not.mp h41) | exact Or.inr (by first | exact h46 | exact Classical.not_not.mp h46), (by first | exact h59 | exact Classical.not_not.mp h59)⟩)], rfl⟩)
        · refine go_iconst 38 dX0_isEngaged_37 zc_1 ?_
          exact go_zreturn dX0_isEngaged_38 rfl (by omega) (by omega) (Or.inr rfl) (⟨by rw [exs_t (P := engP D x) (by first | exact Or.inl ⟨h25, (by first | exact h34 | exact Classical.not_not.mp h34)⟩ | exact Or.inr ⟨by first | exact Or.inl (by first | exact h41 | exact Classical.not_not.mp h41) | exact Or.inr (by first | exact h46 | exact Classical.not_not.mp h46), (by first | exact h59 | exact Classical.not_not.mp h59)⟩)], rfl⟩)
set_option maxRecDepth 100000 in
set_option maxHeartbeats 4000000 in
theorem cx_X0_isEngaged {D0 D : ZD} {g : Option Nat} {sg : ZSg} {E : ES} {l : Launch} {Γ : ZG} {w : ZW} {e : Nat} (h : CR D0 g sg E D) (hS : StI D) {x : Int32} : Cm l Γ mX0_isEngaged 3 [.ref e, .int x] (wE Γ w e E) (some (.int (zb (eng D x)))) (wE Γ w e E) := by
  refine Cm.of (by decide) rfl (Nat.le_of_ble_eq_true rfl) ?_
  refine go_iconst 1 dX0_isEngaged_0 zc_0 ?_
  refine go_istore_n 2 dX0_isEngaged_1 (by decide) ?_
  have q := lp_X0_isEngaged (l := l) (Γ := Γ) (w := w) (e := e) h (x := x) (nL D0) 0 (by omega)
  rw [zb_congr (eng_iff h.2.1 hS), h.eqL]
  exact go_locals _ rfl q
set_option maxRecDepth 100000 in
set_option maxHeartbeats 4000000 in
theorem cx_X0_hasRoomFor {D0 D : ZD} {g : Option Nat} {sg : ZSg} {E : ES} {l : Launch} {Γ : ZG} {w : ZW} {e : Nat} (h : CR D0 g sg E D) {y : Nat} (hy : y ≤ 100) : Cm l Γ mX0_hasRoomFor 1 [.ref e, .int (nI y)] (wE Γ w e E) (some (.int (zb (nC D0 < 20 ∧ nL D0 + y ≤ 40)))) (wE Γ w e E) := by
  have h40 := h.L40
  have h20 := h.C20
  refine Cm.of (by decide) rfl (Nat.le_of_ble_eq_true rfl) ?_
  refine go_aload_n 1 dX0_hasRoomFor_0 rfl ?_
  refine xe_get 4 dX0_hasRoomFor_1 fX0_20 rfl ?_
  refine xe_rC 7 h dX0_hasRoomFor_4 fX0_61 ?_
  refine go_bipush 9 dX0_hasRoomFor_7 zb_20 ?_
  refine go_icmp_ge 30 12 dX0_hasRoomFor_9 (fun h9 => ?_) (fun h9 => ?_)
  · refine go_iconst 31 dX0_hasRoomFor_30 zc_0 ?_
    exact go_zreturn dX0_hasRoomFor_31 rfl (by omega) (by omega) (Or.inl rfl) (⟨by rw [zb_f (fun q => by first | exact nI_ge (b := 20) q.1 (by decide) h9 | exact Int32.not_le.mpr h23 (nI_le (b := 40) q.2 (by decide)))], rfl⟩)
  · refine go_aload_n 13 dX0_hasRoomFor_12 rfl ?_
    refine xe_get 16 dX0_hasRoomFor_13 fX0_23 rfl ?_
    refine xe_rL 19 h dX0_hasRoomFor_16 fX0_61 ?_
    refine go_iload_n 20 dX0_hasRoomFor_19 rfl ?_
    refine go_iadd 21 dX0_hasRoomFor_20 ?_
    refine go_bipush 23 dX0_hasRoomFor_21 zb_40 ?_
    rw [nI_add]
    refine go_icmp_gt 30 26 dX0_hasRoomFor_23 (fun h23 => ?_) (fun h23 => ?_)
    · refine go_iconst 31 dX0_hasRoomFor_30 zc_0 ?_
      exact go_zreturn dX0_hasRoomFor_31 rfl (by omega) (by omega) (Or.inl rfl) (⟨by rw [zb_f (fun q => by first | exact nI_ge (b := 20) q.1 (by decide) h9 | exact Int32.not_le.mpr h23 (nI_le (b := 40) q.2 (by decide)))], rfl⟩)
    · refine go_iconst 27 dX0_hasRoomFor_26 zc_1 ?_
      refine go_goto 31 dX0_hasRoomFor_27 ?_
      exact go_zreturn dX0_hasRoomFor_31 rfl (by omega) (by omega) (Or.inr rfl) (⟨by rw [zb_t ⟨Nat.lt_of_not_le fun q => h9 (nI_le (a := 20) q (by omega)), (nI_leI (b := 40) (by omega) (by decide)).mp (Int32.not_lt.mp h23)⟩], rfl⟩)
end CExR
