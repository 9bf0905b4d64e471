section LRead
/-! the law's own exchange: what it tells -/
theorem ofO_n {V : LA} {D : ZD} {k : Nat} (h : ofO V D k = none) : dL D k 6 = -1 := Classical.byContradiction fun q => by unfold ofO at h; rw [if_neg q] at h; cases h
theorem ofO_s {V : LA} {D : ZD} {k x : Nat} (h : ofO V D k = some x) : dL D k 6 ≠ -1 := fun q => by unfold ofO at h; rw [if_pos q] at h; cases h
theorem rpO_n {V : LA} {D : ZD} {k s : Nat} (h : rpO V D k s = none) : dL D k (9 + s) = -1 := Classical.byContradiction fun q => by unfold rpO at h; rw [if_neg q] at h; cases h
theorem rpO_s {V : LA} {D : ZD} {k s x : Nat} (h : rpO V D k s = some x) : dL D k (9 + s) ≠ -1 := fun q => by unfold rpO at h; rw [if_pos q] at h; cases h
theorem lgO_n {A : LA} {v : Int32} (h : lgO A v = none) : v = -1 := Classical.byContradiction fun q => by unfold lgO at h; rw [if_neg q] at h; cases h
theorem lgO_s {A : LA} {v : Int32} {x : Nat} (h : lgO A v = some x) : v ≠ -1 := fun q => by unfold lgO at h; rw [if_pos q] at h; cases h
theorem lgO_e {A : LA} {v : Int32} (h : v ≠ -1) : lgO A v = some (A 0 (tN v)) := if_neg h
theorem tkO_n {A : LA} {v : Int32} (h : tkO A v = none) : v = -1 := Classical.byContradiction fun q => by unfold tkO at h; rw [if_neg q] at h; cases h
theorem tkO_s {A : LA} {v : Int32} {x : Nat} (h : tkO A v = some x) : v ≠ -1 := fun q => by unfold tkO at h; rw [if_pos q] at h; cases h
theorem tkO_e {A : LA} {v : Int32} (h : v ≠ -1) : tkO A v = some (A 1 (tN v)) := if_neg h
theorem ofO_lv {V : LA} {D : ZD} {k i : Nat} {L : ZL} (h : dL D k 6 ≠ -1) (hl : lget L i = some (va_rf (ofO V D k))) : lget L i = some (.ref (V 5 k)) := hl.trans (by unfold ofO; rw [if_neg h]; rfl)
theorem rpO_lv {V : LA} {D : ZD} {k s i : Nat} {L : ZL} (h : dL D k (9 + s) ≠ -1) (hl : lget L i = some (va_rf (rpO V D k s))) : lget L i = some (.ref (V (6 + s) k)) := hl.trans (by unfold rpO; rw [if_neg h]; rfl)
theorem lgO_lv {A : LA} {v : Int32} {i : Nat} {L : ZL} (h : v ≠ -1) (hl : lget L i = some (va_rf (lgO A v))) : lget L i = some (.ref (A 0 (tN v))) := hl.trans (by rw [lgO_e h]; rfl)
theorem tkO_lv {A : LA} {v : Int32} {i : Nat} {L : ZL} (h : v ≠ -1) (hl : lget L i = some (va_rf (tkO A v))) : lget L i = some (.ref (A 1 (tN v))) := hl.trans (by rw [tkO_e h]; rfl)
theorem lFs6 {A V : LA} {D : ZD} {k : Nat} (h : dL D k 6 ≠ -1) : (lFs A V D k)[6]? = some (.ref (V 5 k)) := by
  show some (va_rf (ofO V D k)) = _
  unfold ofO; rw [if_neg h]; rfl
theorem tFs3 {A : LA} {D : ZD} {c : Nat} (h : dC D c 3 ≠ -1) : (tFs A D c)[3]? = some (.ref (A 0 (tN (dC D c 3)))) := by
  show some (va_rf (lgO A (dC D c 3))) = _
  rw [lgO_e h]; rfl
theorem tFs4 {A : LA} {D : ZD} {c : Nat} (h : dC D c 4 ≠ -1) : (tFs A D c)[4]? = some (.ref (A 0 (tN (dC D c 4)))) := by
  show some (va_rf (lgO A (dC D c 4))) = _
  rw [lgO_e h]; rfl
theorem rg_0 {a : Int32} (ha : a = 0 ∨ a = 1) {P : Nat → Prop} {i : Nat} : some (Value.int a) = some (Value.int (zb (a = 1 ∨ exs P i 0))) := by
  rcases ha with rfl | rfl
  · rw [zb_f (fun q => q.elim (fun z => absurd z (by decide)) id)]
  · rw [zb_t (Or.inl rfl)]
theorem lgO_i {A : LA} {i : Nat} (h : i < 2 ^ 31) : lgO A (nI i) = some (A 0 i) := by rw [lgO_e (nI_nm1 h)]; unfold tN; rw [nI_clamp h]
theorem tkO_i {A : LA} {i : Nat} (h : i < 2 ^ 31) : tkO A (nI i) = some (A 1 i) := by rw [tkO_e (nI_nm1 h)]; unfold tN; rw [nI_clamp h]
theorem rngs_sg {D : ZD} {sg : ZSg} (hs : SegD sg D) (hI : Ix D) {c : Nat} (hc : c < nC D) : rngs D (nI c) ↔ exs (fun k => dL D k 2 = 0) (sg c).1 ((sg c).2 - (sg c).1) := by
  obtain ⟨h1, h2, h3⟩ := hs c hc
  have h20 := hI.2.1.2
  unfold rngs
  rw [exs_iff, exs_iff]
  constructor
  · rintro ⟨k, -, g2, g3, g4⟩
    have hk : k < nL D := by omega
    have ho := hI.2.2.2 k hk
    rw [ho.1] at g3
    have := (h3 k hk).mp ((nI_eq (by omega) (by omega)).mp g3)
    exact ⟨k, this.1, by omega, g4⟩
  · rintro ⟨k, g1, g2, g3⟩
    have hk : k < nL D := by omega
    refine ⟨k, Nat.zero_le _, by omega, ?_, g3⟩
    rw [(hI.2.2.2 k hk).1, (h3 k hk).mpr ⟨g1, by omega⟩]

set_option maxRecDepth 100000 in
set_option maxHeartbeats 4000000 in
theorem lpl_rings {l : Launch} {Γ : ZG} {w : ZW} {T : LT} {m : Nat} {sg : ZSg} {A V : LA} {tm : Option Nat} {e : Nat} {D : ZD} (h : LX Γ w T m sg A V tm e D) (hI : Ix D) (hs : SegD sg D) {c : Nat} (hc : c < nC D) : ∀ (f i : Nat) (a : Int32), (a = 0 ∨ a = 1) → i + f = (sg c).2 - (sg c).1 → Go l Γ mX10_rings 1 0 0 (fun v w2 => v = some (.int (zb (a = 1 ∨ exs (fun k => dL D k 2 = 0) ((sg c).1 + i) f))) ∧ w2 = w) zNo 0 0 w 13 [(0, .ref (A 1 c)), (1, .int a), (2, .ref (A 4 c)), (3, .int (nI ((sg c).2 - (sg c).1))), (4, .int (nI i))] [] := by
  have hsc := hs c hc
  have h40 := hI.2.2.1.2
  intro f
  induction f with
  | zero =>
    intro i a ha hi
    refine go_iload 15 dX10_rings_13 rfl ?_
    refine go_iload_n 16 dX10_rings_15 rfl ?_
    refine go_icmp_ge 47 19 dX10_rings_16 (fun h16 => ?_) (fun h16 => ?_)
    · refine go_iload_n 48 dX10_rings_47 rfl ?_
      exact go_zreturn dX10_rings_48 rfl (by omega) (by omega) ha (⟨rg_0 ha, rfl⟩)
    · exact (lpE rfl (by omega) h16).elim
  | succ f ih =>
    intro i a ha hi
    refine go_iload 15 dX10_rings_13 rfl ?_
    refine go_iload_n 16 dX10_rings_15 rfl ?_
    refine go_icmp_ge 47 19 dX10_rings_16 (fun h16 => ?_) (fun h16 => ?_)
    · exact (lpG rfl (by omega) (by omega) h16).elim
    · refine go_aload_n 20 dX10_rings_19 rfl ?_
      refine go_iload 22 dX10_rings_20 rfl ?_
      refine gl_tl h hc rfl (show i < (sg c).2 - (sg c).1 by omega) (by omega) 23 dX10_rings_22 ?_
      refine go_astore 25 dX10_rings_23 (by decide) ?_
      refine go_iload_n 26 dX10_rings_25 rfl ?_
      refine go_aload 28 dX10_rings_26 rfl ?_
      refine gl_l h (show (sg c).1 + i < nL D by omega) 31 dX10_rings_28 fX10_13 rfl ?_
      refine go_if_ne 38 34 dX10_rings_31 (fun h31 => ?_) (fun h31 => ?_)
      · refine go_iconst 39 dX10_rings_38 zc_0 ?_
        refine go_ior 40 dX10_rings_39 ?_
        refine go_istore_n 41 dX10_rings_40 (by decide) ?_
        refine go_iinc 44 dX10_rings_41 rfl (by decide) zc_1 ?_
        refine go_goto 13 dX10_rings_44 ?_
        rw [nI_1]
        exact go_locals _ (by rcases ha with rfl | rfl <;> rfl) (go_mono (fun v w2 q => ⟨q.1.trans (congrArg (fun z => some (Value.int z)) (zb_congr ⟨fun z => z.elim Or.inl (fun z => Or.inr (Or.inr z)), fun z => z.elim Or.inl (fun z => z.elim (fun z => absurd z h31) Or.inr)⟩)), q.2⟩) (fun _ _ q => q) (ih (i + 1) a ha (by omega)))
      · refine go_iconst 35 dX10_rings_34 zc_1 ?_
        refine go_goto 39 dX10_rings_35 ?_
        refine go_ior 40 dX10_rings_39 ?_
        refine go_istore_n 41 dX10_rings_40 (by decide) ?_
        refine go_iinc 44 dX10_rings_41 rfl (by decide) zc_1 ?_
        refine go_goto 13 dX10_rings_44 ?_
        rw [nI_1]
        rcases ha with rfl | rfl
        · exact go_locals _ rfl (go_mono (fun v w2 q => ⟨q.1.trans (congrArg (fun z => some (Value.int z)) (zb_congr ⟨fun _ => Or.inr (Or.inl h31), fun _ => Or.inl rfl⟩)), q.2⟩) (fun _ _ q => q) (ih (i + 1) 1 (Or.inr rfl) (by omega)))
        · exact go_locals _ rfl (go_mono (fun v w2 q => ⟨q.1.trans (congrArg (fun z => some (Value.int z)) (zb_congr ⟨fun _ => Or.inl rfl, fun _ => Or.inl rfl⟩)), q.2⟩) (fun _ _ q => q) (ih (i + 1) 1 (Or.inr rfl) (by omega)))

set_option maxRecDepth 100000 in
set_option maxHeartbeats 4000000 in
theorem cl_rings {l : Launch} {Γ : ZG} {w : ZW} {T : LT} {m : Nat} {sg : ZSg} {A V : LA} {tm : Option Nat} {e : Nat} {D : ZD} (h : LX Γ w T m sg A V tm e D) (hI : Ix D) (hs : SegD sg D) {c : Nat} (hc : c < nC D) : Cm l Γ mX10_rings 1 [.ref (A 1 c)] w (some (.int (zb (rngs D (nI c))))) w := by
  rw [zb_congr (rngs_sg hs hI hc)]
  refine Cm.of (by decide) rfl (Nat.le_of_ble_eq_true rfl) ?_
  refine go_iconst 1 dX10_rings_0 zc_0 ?_
  refine go_istore_n 2 dX10_rings_1 (by decide) ?_
  refine go_aload_n 3 dX10_rings_2 rfl ?_
  refine gl_t h hc 6 dX10_rings_3 fX10_7 rfl ?_
  refine go_astore_n 7 dX10_rings_6 (by decide) ?_
  refine go_aload_n 8 dX10_rings_7 rfl ?_
  refine gl_nS h hc 9 dX10_rings_8 ?_
  refine go_istore_n 10 dX10_rings_9 (by decide) ?_
  refine go_iconst 11 dX10_rings_10 zc_0 ?_
  refine go_istore 13 dX10_rings_11 (by decide) ?_
  exact go_locals _ rfl (go_mono (fun v w2 q => ⟨q.1.trans (congrArg (fun z => some (Value.int z)) (zb_congr ⟨fun z => z.elim (fun z => absurd z (by decide)) id, Or.inr⟩)), q.2⟩) (fun _ _ q => q) (lpl_rings h hI hs hc _ 0 0 (Or.inl rfl) (Nat.zero_add _)))

set_option maxRecDepth 100000 in
set_option maxHeartbeats 4000000 in
theorem lpl_with {l : Launch} {Γ : ZG} {w : ZW} {T : LT} {m : Nat} {sg : ZSg} {A V : LA} {tm : Option Nat} {e : Nat} {D : ZD} (h : LX Γ w T m sg A V tm e D) (hI : Ix D) {p s : Int32} : ∀ (f i : Nat), i + f = nL D → Go l Γ mX6_with 1 0 0 (fun v w2 => v = some (va_rf (lgO A (zfind (fun k => dL D k 2 = s ∧ inLeg D p k) i f))) ∧ w2 = w) zNo 0 0 w 12 [(0, .ref e), (1, .int p), (2, .int s), (3, .ref (A 8 2)), (4, .int (nI (nL D))), (5, .int (nI i))] [] := by
  have h40 := hI.2.2.1.2
  intro f
  induction f with
  | zero =>
    intro i hi
    refine go_iload 14 dX6_with_12 rfl ?_
    refine go_iload 16 dX6_with_14 rfl ?_
    refine go_icmp_ge 64 19 dX6_with_16 (fun h16 => ?_) (fun h16 => ?_)
    · refine go_null 65 dX6_with_64 ?_
      exact go_arefQ (r := none) dX6_with_65 rfl (by omega) (by omega) (⟨rfl, rfl⟩)
    · exact (lpE rfl (by omega) h16).elim
  | succ f ih =>
    intro i hi
    have hb : i < 2 ^ 31 := by omega
    refine go_iload 14 dX6_with_12 rfl ?_
    refine go_iload 16 dX6_with_14 rfl ?_
    refine go_icmp_ge 64 19 dX6_with_16 (fun h16 => ?_) (fun h16 => ?_)
    · exact (lpG rfl (by have := hI.2.2.1.2; omega) (by omega) h16).elim
    · refine go_aload_n 20 dX6_with_19 rfl ?_
      refine go_iload 22 dX6_with_20 rfl ?_
      refine gl_la h hI rfl (show i < nL D by omega) 23 dX6_with_22 ?_
      refine go_astore 25 dX6_with_23 (by decide) ?_
      refine go_aload 27 dX6_with_25 rfl ?_
      refine gl_l h (show i < nL D by omega) 30 dX6_with_27 fX6_75 rfl ?_
      refine go_iload_n 31 dX6_with_30 rfl ?_
      refine go_icmp_ne 58 34 dX6_with_31 (fun h31 => ?_) (fun h31 => ?_)
      · refine go_iinc 61 dX6_with_58 rfl (by decide) zc_1 ?_
        refine go_goto 12 dX6_with_61 ?_
        rw [zfind_f (fun q => h31 q.1), nI_1]
        exact go_locals _ rfl (ih (i + 1) (by omega))
      · refine go_aload 36 dX6_with_34 rfl ?_
        refine gl_l h (show i < nL D by omega) 39 dX6_with_36 fX6_64 rfl ?_
        refine gl_t h (hI.2.2.2 i (show i < nL D by omega)).2 42 dX6_with_39 fX6_53 rfl ?_
        refine go_iload_n 43 dX6_with_42 rfl ?_
        refine go_icmp_eq 55 46 dX6_with_43 (fun h43 => ?_) (fun h43 => ?_)
        · refine go_aload 57 dX6_with_55 rfl ?_
          exact go_aref dX6_with_57 rfl (by omega) (by omega) (⟨by rw [zfind_t ⟨h31, Or.inl h43⟩, lgO_i hb]; rfl, rfl⟩)
        · refine go_aload 48 dX6_with_46 rfl ?_
          refine gl_l h (show i < nL D by omega) 51 dX6_with_48 fX6_72 rfl ?_
          refine go_iload_n 52 dX6_with_51 rfl ?_
          refine go_icmp_ne 58 55 dX6_with_52 (fun h52 => ?_) (fun h52 => ?_)
          · refine go_iinc 61 dX6_with_58 rfl (by decide) zc_1 ?_
            refine go_goto 12 dX6_with_61 ?_
            rw [zfind_f (fun q => q.2.elim (fun z => h43 z) (fun z => h52 z)), nI_1]
            exact go_locals _ rfl (ih (i + 1) (by omega))
          · refine go_aload 57 dX6_with_55 rfl ?_
            exact go_aref dX6_with_57 rfl (by omega) (by omega) (⟨by rw [zfind_t ⟨h31, Or.inr (h52)⟩, lgO_i hb]; rfl, rfl⟩)

set_option maxRecDepth 100000 in
set_option maxHeartbeats 4000000 in
theorem cl_with {l : Launch} {Γ : ZG} {w : ZW} {T : LT} {m : Nat} {sg : ZSg} {A V : LA} {tm : Option Nat} {e : Nat} {D : ZD} (h : LX Γ w T m sg A V tm e D) (hI : Ix D) {p s : Int32} : Cm l Γ mX6_with 1 [.ref e, .int p, .int s] w (some (va_rf (lgO A (legW D p s)))) w := by
  refine Cm.of (by decide) rfl (Nat.le_of_ble_eq_true rfl) ?_
  refine go_aload_n 1 dX6_with_0 rfl ?_
  refine gl_x h 4 dX6_with_1 fX6_33 rfl ?_
  refine go_astore_n 5 dX6_with_4 (by decide) ?_
  refine go_aload_n 6 dX6_with_5 rfl ?_
  refine gl_nL h 7 dX6_with_6 ?_
  refine go_istore 9 dX6_with_7 (by decide) ?_
  refine go_iconst 10 dX6_with_9 zc_0 ?_
  refine go_istore 12 dX6_with_10 (by decide) ?_
  exact go_locals _ rfl (lpl_with h hI (nL D) 0 (Nat.zero_add _))

set_option maxRecDepth 100000 in
set_option maxHeartbeats 4000000 in
theorem lpl_calling {l : Launch} {Γ : ZG} {w : ZW} {T : LT} {m : Nat} {sg : ZSg} {A V : LA} {tm : Option Nat} {e : Nat} {D : ZD} (h : LX Γ w T m sg A V tm e D) (hI : Ix D) (hs : SegD sg D) {p : Int32} : ∀ (f i : Nat), i + f = nC D → Go l Γ mX6_calling 2 0 0 (fun v w2 => v = some (va_rf (tkO A (zfind (fun c => dC D c 0 = p ∧ rngs D (nI c)) i f))) ∧ w2 = w) zNo 0 0 w 11 [(0, .ref e), (1, .int p), (2, .ref (A 8 1)), (3, .int (nI (nC D))), (4, .int (nI i))] [] := by
  have h40 := hI.2.1.2
  intro f
  induction f with
  | zero =>
    intro i hi
    refine go_iload 13 dX6_calling_11 rfl ?_
    refine go_iload_n 14 dX6_calling_13 rfl ?_
    refine go_icmp_ge 49 17 dX6_calling_14 (fun h14 => ?_) (fun h14 => ?_)
    · refine go_null 50 dX6_calling_49 ?_
      exact go_arefQ (r := none) dX6_calling_50 rfl (by omega) (by omega) (⟨rfl, rfl⟩)
    · exact (lpE rfl (by omega) h14).elim
  | succ f ih =>
    intro i hi
    have hb : i < 2 ^ 31 := by omega
    refine go_iload 13 dX6_calling_11 rfl ?_
    refine go_iload_n 14 dX6_calling_13 rfl ?_
    refine go_icmp_ge 49 17 dX6_calling_14 (fun h14 => ?_) (fun h14 => ?_)
    · exact (lpG rfl (by omega) (by omega) h14).elim
    · refine go_aload_n 18 dX6_calling_17 rfl ?_
      refine go_iload 20 dX6_calling_18 rfl ?_
      refine gl_ca h hI rfl (show i < nC D by omega) 21 dX6_calling_20 ?_
      refine go_astore 23 dX6_calling_21 (by decide) ?_
      refine go_aload 25 dX6_calling_23 rfl ?_
      refine gl_t h (show i < nC D by omega) 28 dX6_calling_25 fX6_53 rfl ?_
      refine go_iload_n 29 dX6_calling_28 rfl ?_
      refine go_icmp_ne 43 32 dX6_calling_29 (fun h29 => ?_) (fun h29 => ?_)
      · refine go_iinc 46 dX6_calling_43 rfl (by decide) zc_1 ?_
        refine go_goto 11 dX6_calling_46 ?_
        rw [zfind_f (fun q => h29 q.1), nI_1]
        exact go_locals _ rfl (ih (i + 1) (by omega))
      · refine go_aload 34 dX6_calling_32 rfl ?_
        refine gcV0 37 dX6_calling_34 vX6_104 (h.c (show i < nC D by omega)).1 rfl (cl_rings h hI hs (show i < nC D by omega)) ?_
        refine go_if_eq 43 40 dX6_calling_37 (fun h37 => ?_) (fun h37 => ?_)
        · refine go_iinc 46 dX6_calling_43 rfl (by decide) zc_1 ?_
          refine go_goto 11 dX6_calling_46 ?_
          rw [zfind_f (fun q => zb_0 h37 q.2), nI_1]
          exact go_locals _ rfl (ih (i + 1) (by omega))
        · refine go_aload 42 dX6_calling_40 rfl ?_
          exact go_aref dX6_calling_42 rfl (by omega) (by omega) (⟨by rw [zfind_t ⟨h29, zb_1 h37⟩, tkO_i hb]; rfl, rfl⟩)

set_option maxRecDepth 100000 in
set_option maxHeartbeats 4000000 in
theorem cl_calling {l : Launch} {Γ : ZG} {w : ZW} {T : LT} {m : Nat} {sg : ZSg} {A V : LA} {tm : Option Nat} {e : Nat} {D : ZD} (h : LX Γ w T m sg A V tm e D) (hI : Ix D) (hs : SegD sg D) {p : Int32} : Cm l Γ mX6_calling 2 [.ref e, .int p] w (some (va_rf (tkO A (rngOf D p)))) w := by
  refine Cm.of (by decide) rfl (Nat.le_of_ble_eq_true rfl) ?_
  refine go_aload_n 1 dX6_calling_0 rfl ?_
  refine gl_x h 4 dX6_calling_1 fX6_27 rfl ?_
  refine go_astore_n 5 dX6_calling_4 (by decide) ?_
  refine go_aload_n 6 dX6_calling_5 rfl ?_
  refine gl_nC h 7 dX6_calling_6 ?_
  refine go_istore_n 8 dX6_calling_7 (by decide) ?_
  refine go_iconst 9 dX6_calling_8 zc_0 ?_
  refine go_istore 11 dX6_calling_9 (by decide) ?_
  exact go_locals _ rfl (lpl_calling h hI hs (nC D) 0 (Nat.zero_add _))

set_option maxRecDepth 100000 in
set_option maxHeartbeats 4000000 in
theorem cl_isEngaged {l : Launch} {Γ : ZG} {w : ZW} {T : LT} {m : Nat} {sg : ZSg} {A V : LA} {tm : Option Nat} {e : Nat} {D : ZD} (h : LX Γ w T m sg A V tm e D) (hI : Ix D) (hs : SegD sg D) {p : Int32} : Cm l Γ mX6_isEngaged 3 [.ref e, .int p] w (some (.int (zb (eng D p)))) w := by
  refine Cm.of (by decide) rfl (Nat.le_of_ble_eq_true rfl) ?_
  refine go_aload_n 1 dX6_isEngaged_0 rfl ?_
  refine go_iload_n 2 dX6_isEngaged_1 rfl ?_
  refine go_iconst 3 dX6_isEngaged_2 zc_1 ?_
  refine gcV2 6 dX6_isEngaged_3 vX6_108 h.x.1 rfl (cl_with h hI) ?_
  refine go_ifnonnullQ 26 9 dX6_isEngaged_6 (fun x6 n6 => ?_) (fun n6 => ?_)
  · have o6 := n6
    refine go_iconst 27 dX6_isEngaged_26 zc_1 ?_
    refine go_goto 31 dX6_isEngaged_27 ?_
    exact go_zreturn dX6_isEngaged_31 rfl (by omega) (by omega) (Or.inr rfl) (⟨by rw [zb_t (p := eng D p) (Or.inl (lgO_s n6))], rfl⟩)
  · have o6 := n6
    refine go_aload_n 10 dX6_isEngaged_9 rfl ?_
    refine go_iload_n 11 dX6_isEngaged_10 rfl ?_
    refine go_iconst 12 dX6_isEngaged_11 zc_2 ?_
    refine gcV2 15 dX6_isEngaged_12 vX6_108 h.x.1 rfl (cl_with h hI) ?_
    refine go_ifnonnullQ 26 18 dX6_isEngaged_15 (fun x15 n15 => ?_) (fun n15 => ?_)
    · have o15 := n15
      refine go_iconst 27 dX6_isEngaged_26 zc_1 ?_
      refine go_goto 31 dX6_isEngaged_27 ?_
      exact go_zreturn dX6_isEngaged_31 rfl (by omega) (by omega) (Or.inr rfl) (⟨by rw [zb_t (p := eng D p) (Or.inr (Or.inl (lgO_s n15)))], rfl⟩)
    · have o15 := n15
      refine go_aload_n 19 dX6_isEngaged_18 rfl ?_
      refine go_iload_n 20 dX6_isEngaged_19 rfl ?_
      refine gcV1 23 dX6_isEngaged_20 vX6_112 h.x.1 rfl (cl_calling h hI hs) ?_
      refine go_ifnullQ 30 26 dX6_isEngaged_23 (fun n23 => ?_) (fun x23 n23 => ?_)
      · have o23 := n23
        refine go_iconst 31 dX6_isEngaged_30 zc_0 ?_
        exact go_zreturn dX6_isEngaged_31 rfl (by omega) (by omega) (Or.inl rfl) (⟨by rw [zb_f (p := eng D p) (fun q => q.elim (fun z => z (lgO_n n6)) (fun q => q.elim (fun z => z (lgO_n n15)) (fun z => z (tkO_n n23))))], rfl⟩)
      · have o23 := n23
        refine go_iconst 27 dX6_isEngaged_26 zc_1 ?_
        refine go_goto 31 dX6_isEngaged_27 ?_
        exact go_zreturn dX6_isEngaged_31 rfl (by omega) (by omega) (Or.inr rfl) (⟨by rw [zb_t (p := eng D p) (Or.inr (Or.inr (tkO_s n23)))], rfl⟩)

set_option maxRecDepth 100000 in
set_option maxHeartbeats 4000000 in
theorem lpl_count {l : Launch} {Γ : ZG} {w : ZW} {T : LT} {m : Nat} {sg : ZSg} {A V : LA} {tm : Option Nat} {e : Nat} {D : ZD} (h : LX Γ w T m sg A V tm e D) (hI : Ix D) {p : Int32} : ∀ (f i : Nat) (a : Int32), i + f = nL D → Go l Γ mX6_count 1 0 0 (fun v w2 => v = some (.int (zcnt (fun k => dL D k 2 = p) i f a)) ∧ w2 = w) zNo 0 0 w 14 [(0, .ref e), (1, .int p), (2, .int a), (3, .ref (A 8 2)), (4, .int (nI (nL D))), (5, .int (nI i))] [] := by
  have h40 := hI.2.2.1.2
  intro f
  induction f with
  | zero =>
    intro i a hi
    refine go_iload 16 dX6_count_14 rfl ?_
    refine go_iload 18 dX6_count_16 rfl ?_
    refine go_icmp_ge 45 21 dX6_count_18 (fun h18 => ?_) (fun h18 => ?_)
    · refine go_iload_n 46 dX6_count_45 rfl ?_
      exact go_ireturn dX6_count_46 rfl (by omega) (by omega) (⟨rfl, rfl⟩)
    · exact (lpE rfl (by omega) h18).elim
  | succ f ih =>
    intro i a hi
    refine go_iload 16 dX6_count_14 rfl ?_
    refine go_iload 18 dX6_count_16 rfl ?_
    refine go_icmp_ge 45 21 dX6_count_18 (fun h18 => ?_) (fun h18 => ?_)
    · exact (lpG rfl (by have := hI.2.2.1.2; omega) (by omega) h18).elim
    · refine go_aload_n 22 dX6_count_21 rfl ?_
      refine go_iload 24 dX6_count_22 rfl ?_
      refine gl_la h hI rfl (show i < nL D by omega) 25 dX6_count_24 ?_
      refine go_astore 27 dX6_count_25 (by decide) ?_
      refine go_aload 29 dX6_count_27 rfl ?_
      refine gl_l h (show i < nL D by omega) 32 dX6_count_29 fX6_75 rfl ?_
      refine go_iload_n 33 dX6_count_32 rfl ?_
      refine go_icmp_ne 39 36 dX6_count_33 (fun h33 => ?_) (fun h33 => ?_)
      · refine go_iinc 42 dX6_count_39 rfl (by decide) zc_1 ?_
        refine go_goto 14 dX6_count_42 ?_
        rw [nI_1]
        exact go_locals _ rfl (go_mono (fun v w2 q => ⟨q.1.trans (congrArg (fun z => some (Value.int z)) (by rw [zcnt, zb_f h33, Int32.add_zero])), q.2⟩) (fun _ _ q => q) (ih (i + 1) _ (by omega)))
      · refine go_iinc 39 dX6_count_36 rfl (by decide) zc_1 ?_
        refine go_iinc 42 dX6_count_39 rfl (by decide) zc_1 ?_
        refine go_goto 14 dX6_count_42 ?_
        rw [nI_1]
        exact go_locals _ rfl (go_mono (fun v w2 q => ⟨q.1.trans (congrArg (fun z => some (Value.int z)) (by rw [zcnt, zb_t (h33)])), q.2⟩) (fun _ _ q => q) (ih (i + 1) _ (by omega)))

set_option maxRecDepth 100000 in
set_option maxHeartbeats 4000000 in
theorem cl_count {l : Launch} {Γ : ZG} {w : ZW} {T : LT} {m : Nat} {sg : ZSg} {A V : LA} {tm : Option Nat} {e : Nat} {D : ZD} (h : LX Γ w T m sg A V tm e D) (hI : Ix D) {p : Int32} : Cm l Γ mX6_count 1 [.ref e, .int p] w (some (.int (cntSt D p))) w := by
  refine Cm.of (by decide) rfl (Nat.le_of_ble_eq_true rfl) ?_
  refine go_iconst 1 dX6_count_0 zc_0 ?_
  refine go_istore_n 2 dX6_count_1 (by decide) ?_
  refine go_aload_n 3 dX6_count_2 rfl ?_
  refine gl_x h 6 dX6_count_3 fX6_33 rfl ?_
  refine go_astore_n 7 dX6_count_6 (by decide) ?_
  refine go_aload_n 8 dX6_count_7 rfl ?_
  refine gl_nL h 9 dX6_count_8 ?_
  refine go_istore 11 dX6_count_9 (by decide) ?_
  refine go_iconst 12 dX6_count_11 zc_0 ?_
  refine go_istore 14 dX6_count_12 (by decide) ?_
  exact go_locals _ rfl (lpl_count h hI (nL D) 0 0 (Nat.zero_add _))

set_option maxRecDepth 100000 in
set_option maxHeartbeats 4000000 in
theorem lpl_rung {l : Launch} {Γ : ZG} {w : ZW} {T : LT} {m : Nat} {sg : ZSg} {A V : LA} {tm : Option Nat} {e : Nat} {D : ZD} (h : LX Γ w T m sg A V tm e D) (hI : Ix D) {p : Int32} : ∀ (f i : Nat) (a : Int32), i + f = nL D → Go l Γ mX6_rung 1 0 0 (fun v w2 => v = some (.int (zcnt (fun k => dL D k 2 = 0 ∧ dL D k 1 = p) i f a)) ∧ w2 = w) zNo 0 0 w 14 [(0, .ref e), (1, .int p), (2, .int a), (3, .ref (A 8 2)), (4, .int (nI (nL D))), (5, .int (nI i))] [] := by
  have h40 := hI.2.2.1.2
  intro f
  induction f with
  | zero =>
    intro i a hi
    refine go_iload 16 dX6_rung_14 rfl ?_
    refine go_iload 18 dX6_rung_16 rfl ?_
    refine go_icmp_ge 53 21 dX6_rung_18 (fun h18 => ?_) (fun h18 => ?_)
    · refine go_iload_n 54 dX6_rung_53 rfl ?_
      exact go_ireturn dX6_rung_54 rfl (by omega) (by omega) (⟨rfl, rfl⟩)
    · exact (lpE rfl (by omega) h18).elim
  | succ f ih =>
    intro i a hi
    refine go_iload 16 dX6_rung_14 rfl ?_
    refine go_iload 18 dX6_rung_16 rfl ?_
    refine go_icmp_ge 53 21 dX6_rung_18 (fun h18 => ?_) (fun h18 => ?_)
    · exact (lpG rfl (by have := hI.2.2.1.2; omega) (by omega) h18).elim
    · refine go_aload_n 22 dX6_rung_21 rfl ?_
      refine go_iload 24 dX6_rung_22 rfl ?_
      refine gl_la h hI rfl (show i < nL D by omega) 25 dX6_rung_24 ?_
      refine go_astore 27 dX6_rung_25 (by decide) ?_
      refine go_aload 29 dX6_rung_27 rfl ?_
      refine gl_l h (show i < nL D by omega) 32 dX6_rung_29 fX6_75 rfl ?_
      refine go_if_ne 47 35 dX6_rung_32 (fun h32 => ?_) (fun h32 => ?_)
      · refine go_iinc 50 dX6_rung_47 rfl (by decide) zc_1 ?_
        refine go_goto 14 dX6_rung_50 ?_
        rw [nI_1]
        exact go_locals _ rfl (go_mono (fun v w2 q => ⟨q.1.trans (congrArg (fun z => some (Value.int z)) (by rw [zcnt, zb_f (fun q => h32 q.1), Int32.add_zero])), q.2⟩) (fun _ _ q => q) (ih (i + 1) _ (by omega)))
      · refine go_aload 37 dX6_rung_35 rfl ?_
        refine gl_l h (show i < nL D by omega) 40 dX6_rung_37 fX6_72 rfl ?_
        refine go_iload_n 41 dX6_rung_40 rfl ?_
        refine go_icmp_ne 47 44 dX6_rung_41 (fun h41 => ?_) (fun h41 => ?_)
        · refine go_iinc 50 dX6_rung_47 rfl (by decide) zc_1 ?_
          refine go_goto 14 dX6_rung_50 ?_
          rw [nI_1]
          exact go_locals _ rfl (go_mono (fun v w2 q => ⟨q.1.trans (congrArg (fun z => some (Value.int z)) (by rw [zcnt, zb_f (fun q => h41 q.2), Int32.add_zero])), q.2⟩) (fun _ _ q => q) (ih (i + 1) _ (by omega)))
        · refine go_iinc 47 dX6_rung_44 rfl (by decide) zc_1 ?_
          refine go_iinc 50 dX6_rung_47 rfl (by decide) zc_1 ?_
          refine go_goto 14 dX6_rung_50 ?_
          rw [nI_1]
          exact go_locals _ rfl (go_mono (fun v w2 q => ⟨q.1.trans (congrArg (fun z => some (Value.int z)) (by rw [zcnt, zb_t ⟨h32, h41⟩])), q.2⟩) (fun _ _ q => q) (ih (i + 1) _ (by omega)))

set_option maxRecDepth 100000 in
set_option maxHeartbeats 4000000 in
theorem cl_rung {l : Launch} {Γ : ZG} {w : ZW} {T : LT} {m : Nat} {sg : ZSg} {A V : LA} {tm : Option Nat} {e : Nat} {D : ZD} (h : LX Γ w T m sg A V tm e D) (hI : Ix D) {p : Int32} : Cm l Γ mX6_rung 1 [.ref e, .int p] w (some (.int (rung D p))) w := by
  refine Cm.of (by decide) rfl (Nat.le_of_ble_eq_true rfl) ?_
  refine go_iconst 1 dX6_rung_0 zc_0 ?_
  refine go_istore_n 2 dX6_rung_1 (by decide) ?_
  refine go_aload_n 3 dX6_rung_2 rfl ?_
  refine gl_x h 6 dX6_rung_3 fX6_33 rfl ?_
  refine go_astore_n 7 dX6_rung_6 (by decide) ?_
  refine go_aload_n 8 dX6_rung_7 rfl ?_
  refine gl_nL h 9 dX6_rung_8 ?_
  refine go_istore 11 dX6_rung_9 (by decide) ?_
  refine go_iconst 12 dX6_rung_11 zc_0 ?_
  refine go_istore 14 dX6_rung_12 (by decide) ?_
  exact go_locals _ rfl (lpl_rung h hI (nL D) 0 0 (Nat.zero_add _))

set_option maxRecDepth 100000 in
set_option maxHeartbeats 4000000 in
theorem lpl_place {l : Launch} {Γ : ZG} {w : ZW} {T : LT} {m : Nat} {sg : ZSg} {A V : LA} {tm : Option Nat} {e : Nat} {D : ZD} (h : LX Γ w T m sg A V tm e D) (hI : Ix D) {K : Nat} (hK : K < nC D) : ∀ (f i : Nat), i ≤ K → i + f = nC D → Go l Γ mX6_place 1 0 0 (fun v w2 => v = some (.int (nI K)) ∧ w2 = w) zNo 0 0 w 2 [(0, .ref e), (1, .ref (A 1 K)), (2, .int (nI i))] [] := by
  have h40 := hI.2.2.1.2
  have h20 := hI.2.1.2
  intro f
  induction f with
  | zero =>
    intro i hiK hi
    omega
  | succ f ih =>
    intro i hiK hi
    refine go_iload_n 3 dX6_place_2 rfl ?_
    refine go_aload_n 4 dX6_place_3 rfl ?_
    refine gl_x h 7 dX6_place_4 fX6_27 rfl ?_
    refine gl_nC h 8 dX6_place_7 ?_
    refine go_icmp_ge 29 11 dX6_place_8 (fun h8 => ?_) (fun h8 => ?_)
    · exact (lpG rfl (by omega) (by omega) h8).elim
    · refine go_aload_n 12 dX6_place_11 rfl ?_
      refine gl_x h 15 dX6_place_12 fX6_27 rfl ?_
      refine go_iload_n 16 dX6_place_15 rfl ?_
      refine gl_ca h hI rfl (show i < nC D by omega) 17 dX6_place_16 ?_
      refine go_aload_n 18 dX6_place_17 rfl ?_
      refine go_acmp_ne 23 21 dX6_place_18 (fun h18 => ?_) (fun h18 => ?_)
      · refine go_iinc 26 dX6_place_23 rfl (by decide) zc_1 ?_
        refine go_goto 2 dX6_place_26 ?_
        rw [nI_1]
        exact go_locals _ rfl (ih (i + 1) (Nat.lt_of_le_of_ne hiK (fun z => h18 (by rw [z]))) (by omega))
      · refine go_iload_n 22 dX6_place_21 rfl ?_
        exact go_ireturn dX6_place_22 rfl (by omega) (by omega) (⟨by rw [h.i.2 i K (show i < nC D by omega) hK h18], rfl⟩)

set_option maxRecDepth 100000 in
set_option maxHeartbeats 4000000 in
theorem cl_place {l : Launch} {Γ : ZG} {w : ZW} {T : LT} {m : Nat} {sg : ZSg} {A V : LA} {tm : Option Nat} {e : Nat} {D : ZD} (h : LX Γ w T m sg A V tm e D) (hI : Ix D) {K : Nat} (hK : K < nC D) : Cm l Γ mX6_place 1 [.ref e, .ref (A 1 K)] w (some (.int (nI K))) w := by
  refine Cm.of (by decide) rfl (Nat.le_of_ble_eq_true rfl) ?_
  refine go_iconst 1 dX6_place_0 zc_0 ?_
  refine go_istore_n 2 dX6_place_1 (by decide) ?_
  exact go_locals _ rfl (lpl_place h hI hK _ 0 (Nat.zero_le _) (Nat.zero_add _))

set_option maxRecDepth 100000 in
set_option maxHeartbeats 4000000 in
theorem lpl_index {l : Launch} {Γ : ZG} {w : ZW} {T : LT} {m : Nat} {sg : ZSg} {A V : LA} {tm : Option Nat} {e : Nat} {D : ZD} (h : LX Γ w T m sg A V tm e D) (hI : Ix D) {K : Nat} (hK : K < nL D) : ∀ (f i : Nat), i ≤ K → i + f = nL D → Go l Γ mX6_index 1 0 0 (fun v w2 => v = some (.int (nI K)) ∧ w2 = w) zNo 0 0 w 2 [(0, .ref e), (1, .ref (A 0 K)), (2, .int (nI i))] [] := by
  have h40 := hI.2.2.1.2
  have h20 := hI.2.1.2
  intro f
  induction f with
  | zero =>
    intro i hiK hi
    omega
  | succ f ih =>
    intro i hiK hi
    refine go_iload_n 3 dX6_index_2 rfl ?_
    refine go_aload_n 4 dX6_index_3 rfl ?_
    refine gl_x h 7 dX6_index_4 fX6_33 rfl ?_
    refine gl_nL h 8 dX6_index_7 ?_
    refine go_icmp_ge 29 11 dX6_index_8 (fun h8 => ?_) (fun h8 => ?_)
    · exact (lpG rfl (by omega) (by omega) h8).elim
    · refine go_aload_n 12 dX6_index_11 rfl ?_
      refine gl_x h 15 dX6_index_12 fX6_33 rfl ?_
      refine go_iload_n 16 dX6_index_15 rfl ?_
      refine gl_la h hI rfl (show i < nL D by omega) 17 dX6_index_16 ?_
      refine go_aload_n 18 dX6_index_17 rfl ?_
      refine go_acmp_ne 23 21 dX6_index_18 (fun h18 => ?_) (fun h18 => ?_)
      · refine go_iinc 26 dX6_index_23 rfl (by decide) zc_1 ?_
        refine go_goto 2 dX6_index_26 ?_
        rw [nI_1]
        exact go_locals _ rfl (ih (i + 1) (Nat.lt_of_le_of_ne hiK (fun z => h18 (by rw [z]))) (by omega))
      · refine go_iload_n 22 dX6_index_21 rfl ?_
        exact go_ireturn dX6_index_22 rfl (by omega) (by omega) (⟨by rw [h.i.1 i K (show i < nL D by omega) hK h18], rfl⟩)

set_option maxRecDepth 100000 in
set_option maxHeartbeats 4000000 in
theorem cl_index {l : Launch} {Γ : ZG} {w : ZW} {T : LT} {m : Nat} {sg : ZSg} {A V : LA} {tm : Option Nat} {e : Nat} {D : ZD} (h : LX Γ w T m sg A V tm e D) (hI : Ix D) {K : Nat} (hK : K < nL D) : Cm l Γ mX6_index 1 [.ref e, .ref (A 0 K)] w (some (.int (nI K))) w := by
  refine Cm.of (by decide) rfl (Nat.le_of_ble_eq_true rfl) ?_
  refine go_iconst 1 dX6_index_0 zc_0 ?_
  refine go_istore_n 2 dX6_index_1 (by decide) ?_
  exact go_locals _ rfl (lpl_index h hI hK _ 0 (Nat.zero_le _) (Nat.zero_add _))

end LRead
