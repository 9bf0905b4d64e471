section CDl
/-! what the class does to the row is what the reference does -/
theorem itr_add {σ : Type} {g : Nat → σ → σ} : ∀ (a b i : Nat) (s : σ), itr g i (a + b) s = itr g (i + a) b (itr g i a s)
  | 0, b, i, s => by rw [Nat.zero_add]; rfl
  | a + 1, b, i, s => by
    rw [show a + 1 + b = (a + b) + 1 by omega]
    show itr g (i + 1) (a + b) (g i s) = itr g (i + (a + 1)) b (itr g (i + 1) a (g i s))
    rw [itr_add a b (i + 1) (g i s), show i + 1 + a = i + (a + 1) by omega]
theorem itr_cong {σ : Type} {g g' : Nat → σ → σ} (I : σ → Prop) : ∀ (f i : Nat) (s : σ), I s → (∀ k s', i ≤ k → k < i + f → I s' → g k s' = g' k s' ∧ I (g k s')) → itr g i f s = itr g' i f s
  | 0, _, _, _, _ => rfl
  | f + 1, i, s, h, hg => by
    have h1 := hg i s (Nat.le_refl _) (by omega) h
    show itr g (i + 1) f (g i s) = itr g' (i + 1) f (g' i s)
    rw [itr_cong I f (i + 1) (g i s) h1.2 (fun k s' a b => hg k s' (by omega) (by omega)), h1.1]
theorem itr_id {σ : Type} {g : Nat → σ → σ} (I : σ → Prop) : ∀ (f i : Nat) (s : σ), I s → (∀ k s', i ≤ k → k < i + f → I s' → g k s' = s') → itr g i f s = s
  | 0, _, _, _, _ => rfl
  | f + 1, i, s, h, hg => by
    have h1 := hg i s (Nat.le_refl _) (by omega) h
    show itr g (i + 1) f (g i s) = s
    rw [h1]
    exact itr_id I f (i + 1) s h (fun k s' a b => hg k s' (by omega) (by omega))
theorem itr_inv {σ : Type} {g : Nat → σ → σ} (I : σ → Prop) : ∀ (f i : Nat) (s : σ), I s → (∀ k s', i ≤ k → k < i + f → I s' → I (g k s')) → I (itr g i f s)
  | 0, _, _, h, _ => h
  | f + 1, i, s, h, hg => itr_inv I f (i + 1) (g i s) (hg i s (Nat.le_refl _) (by omega) h) (fun k s' a b => hg k s' (by omega) (by omega))
theorem end_o {D : ZD} {k k' j : Nat} {r : Int32} (h : k' ≠ k) (hj : j < 13) : dL (endD D k r) k' j = dL D k' j := row_end _ (by omega)
theorem end_2 {D : ZD} {k : Nat} {r : Int32} : dL (endD D k r) k 2 = 3 := by unfold endD dropD; rw [dL_setLn (by omega), dL_setLn (by omega), dL_setLn (by omega), dL_setLn (by omega), dL_setL]
theorem end_6 {D : ZD} {k : Nat} {r : Int32} : dL (endD D k r) k 6 = -1 := by unfold endD dropD; rw [dL_setLn (by omega), dL_setLn (by omega), dL_setL]
theorem end_9 {D : ZD} {k : Nat} {r : Int32} : dL (endD D k r) k 9 = -1 := by unfold endD dropD; rw [dL_setLn (by omega), dL_setL]
theorem end_10 {D : ZD} {k : Nat} {r : Int32} : dL (endD D k r) k 10 = -1 := by unfold endD dropD; rw [dL_setL]
theorem end_01 {D : ZD} {k k' j : Nat} {r : Int32} (hj : j < 2) : dL (endD D k r) k' j = dL D k' j := (sm_end_ (D := D)).L hj
theorem sm_er {r : Int32} {k : Nat} {D : ZD} : Same D (erS r k D) := by
  unfold erS
  split
  · exact sm_end_
  · exact sm_rf
theorem ea_no {c but r : Int32} {k : Nat} {X : ZD} (h : ¬ dL X k 0 = c) : eaStep c but r k X = X := by
  unfold eaStep
  by_cases hb : nI k = but
  · rw [if_pos hb]
  · rw [if_neg hb, if_neg h]
/-- the range of a call's legs, or all legs -/
theorem er_eq {D0 D : ZD} {sg : ZSg} (hs : SegD sg D0) (hI : Ix D0) (hD : Same D0 D) {c : Nat} (hc : c < nC D0) {but r : Int32} (hb : (∀ k, k < nL D0 → nI k ≠ but) ∨ ∃ kb, but = nI kb ∧ kb < nL D0 ∧ dL D kb 2 ≠ 0) : itr (erS r) (sg c).1 ((sg c).2 - (sg c).1) D = endAllD D (nI c) but r := by
  obtain ⟨s1, s2, s3⟩ := hs c hc
  have h40 := hI.2.2.1.2
  have h20 := hI.2.1.2
  have hof : ∀ k D', k < nL D0 → Same D0 D' → (dL D' k 0 = nI c ↔ (sg c).1 ≤ k ∧ k < (sg c).2) := fun k D' hk hs' => by
    have h1 := hI.2.2.2 k hk
    rw [hs'.L (by decide), ← s3 k hk, h1.1]
    exact nI_eq (by omega) (by omega)
  unfold endAllD
  rw [sm_nL hD, show nL D0 = (sg c).1 + (((sg c).2 - (sg c).1) + (nL D0 - (sg c).2)) by omega, itr_add, itr_add, Nat.zero_add, show (sg c).1 + ((sg c).2 - (sg c).1) = (sg c).2 by omega]
  rw [itr_id (g := eaStep (nI c) but r) (fun X => Same D0 X) (sg c).1 0 D hD (fun k X h1 h2 hX => ea_no (fun q => by have := (hof k X (by omega) hX).mp q; omega))]
  have hmid : Same D0 (itr (eaStep (nI c) but r) (sg c).1 ((sg c).2 - (sg c).1) D) := itr_inv (fun X => Same D0 X) _ _ _ hD (fun k X _ _ hX => hX.trans sm_eaStep)
  rw [itr_id (g := eaStep (nI c) but r) (fun X => Same D0 X) (nL D0 - (sg c).2) (sg c).2 _ hmid (fun k X h1 h2 hX => ea_no (fun q => by have := (hof k X (by omega) hX).mp q; omega))]
  refine itr_cong (fun X => Same D0 X ∧ ∀ kb, but = nI kb → kb < nL D0 → dL X kb 2 ≠ 0) _ _ _ ⟨hD, fun kb e hk => ?_⟩ (fun k X h1 h2 hX => ?_)
  · rcases hb with hb | ⟨kb', e', h3, h4⟩
    · exact absurd e.symm (hb kb hk)
    · have : kb = kb' := (nI_eq (by omega) (by omega)).mp (e.symm.trans e')
      rw [this]; exact h4
  · have hk : k < nL D0 := by omega
    have e0 := (hof k X hk hX.1).mpr ⟨h1, by omega⟩
    refine ⟨?_, hX.1.trans sm_er, fun kb e hkb => ?_⟩
    · unfold eaStep erS
      by_cases hkb : nI k = but
      · rw [if_pos hkb, if_neg (hX.2 k hkb.symm hk)]
      · rw [if_neg hkb, if_pos e0]
    · unfold erS
      by_cases hz : dL X k 2 = 0
      · rw [if_pos hz]
        have hne : kb ≠ k := fun q => hX.2 kb e hkb (by rw [q]; exact hz)
        rw [end_o hne (by decide)]
        exact hX.2 kb e hkb
      · rw [if_neg hz]
        exact hX.2 kb e hkb
/-! calls that fail as their leg to a party ends -/
def KP (p : Int32) (D : ZD) (k : Nat) : Prop := dL D k 2 = 0 ∧ dL D k 1 = p
noncomputable def enS (p r : Int32) (k : Nat) (D : ZD) : ZD := @ite _ (KP p D k) (Classical.propDecidable _) (endD D k r) D
noncomputable def flS (D0 : ZD) (p : Int32) (k : Nat) (X : ZD) : ZD := @ite _ (KP p D0 k ∧ ¬ rngs X (dL D0 k 0)) (Classical.propDecidable _) (failD X (ofN D0 k)) X
theorem sm_en {p r : Int32} {k : Nat} {D : ZD} : Same D (enS p r k D) := by
  unfold enS
  split
  · exact sm_end_
  · exact sm_rf
theorem tally_L {D : ZD} {t k j : Nat} (ht : t < 7) : dL (tally D t) k j = dL D k j := if_neg (by omega)
theorem fail_2 {X : ZD} {c k : Nat} : (dL (failD X c) k 2 = 0 ↔ dL X k 2 = 0) := by
  unfold failD takeB
  split
  · rw [tally_L (by decide)]
  · split
    · rename_i h1 h2
      by_cases hk : k = rf (tally X 5) c
      · subst hk
        rw [dL_setL]
        rw [tally_L (by decide)] at h2
        rw [h2]
        decide
      · rw [dL_setLn (by omega), tally_L (by decide)]
    · rw [tally_L (by decide)]
theorem fail_o {X : ZD} {c k j : Nat} (hj : j < 13) (h2 : j ≠ 2) : dL (failD X c) k j = dL X k j := by
  unfold failD takeB
  split
  · rw [tally_L (by decide)]
  · split
    · by_cases hk : 13 * k + j = 13 * rf (tally X 5) c + 2
      · omega
      · rw [dL_setLn hk, tally_L (by decide)]
    · rw [tally_L (by decide)]
theorem KP_fail {p : Int32} {X : ZD} {c k : Nat} : KP p (failD X c) k ↔ KP p X k := by
  unfold KP
  rw [fail_2, fail_o (by decide) (by decide)]
theorem rngs_iff {D : ZD} {v : Int32} : rngs D v ↔ ∃ k, k < nL D ∧ dL D k 0 = v ∧ dL D k 2 = 0 := by
  unfold rngs
  rw [exs_iff]
  exact ⟨fun ⟨k, _, h2, h3⟩ => ⟨k, by omega, h3⟩, fun ⟨k, h1, h2⟩ => ⟨k, by omega, by omega, h2⟩⟩
theorem rngs_fail {X : ZD} {c : Nat} {v : Int32} : rngs (failD X c) v ↔ rngs X v := by
  rw [rngs_iff, rngs_iff, sm_nL (sm_fail (D := X))]
  refine ⟨fun ⟨k, a, b, d⟩ => ⟨k, a, ?_, fail_2.mp d⟩, fun ⟨k, a, b, d⟩ => ⟨k, a, ?_, fail_2.mpr d⟩⟩
  · rw [← fail_o (c := c) (by decide) (by decide)]; exact b
  · rw [fail_o (by decide) (by decide)]; exact b
theorem rngs_en {p r : Int32} {X : ZD} {k : Nat} {v : Int32} (h : ¬ (KP p X k ∧ dL X k 0 = v)) : rngs (enS p r k X) v ↔ rngs X v := by
  unfold enS
  by_cases hk : KP p X k
  · rw [if_pos hk, rngs_iff, rngs_iff, sm_nL (sm_end_ (D := X))]
    refine ⟨fun ⟨j, a, b, d⟩ => ?_, fun ⟨j, a, b, d⟩ => ?_⟩
    · have hne : j ≠ k := fun q => by rw [q, end_2] at d; exact absurd d (by decide)
      rw [end_o hne (by decide)] at d
      rw [end_01 (by decide)] at b
      exact ⟨j, a, b, d⟩
    · have hne : j ≠ k := fun q => h ⟨hk, by rw [← q]; exact b⟩
      exact ⟨j, a, by rw [end_01 (by decide)]; exact b, by rw [end_o hne (by decide)]; exact d⟩
  · rw [if_neg hk]
theorem upd_comm {f : ZD} {i j : Nat} {a b : Int32} (h : i ≠ j) : upd (upd f i a) j b = upd (upd f j b) i a := by
  funext q
  show (if q = j then b else if q = i then a else f q) = if q = i then a else if q = j then b else f q
  by_cases h1 : q = j
  · rw [if_pos h1, if_neg (by omega), if_pos h1]
  · rw [if_neg h1, if_neg h1]
theorem end_upd {D : ZD} {k i : Nat} {r v : Int32} (h : i < 146 + 13 * k ∨ 159 + 13 * k ≤ i) : endD (upd D i v) k r = upd (endD D k r) i v := by
  unfold endD dropD setL
  rw [upd_comm (f := D) (by omega), upd_comm (f := upd D _ _) (i := i) (by omega), upd_comm (i := i) (by omega), upd_comm (i := i) (by omega), upd_comm (i := i) (by omega)]
theorem end_tally {D : ZD} {k t : Nat} {r : Int32} (ht : t < 7) : endD (tally D t) k r = tally (endD D k r) t := by
  unfold tally
  rw [end_upd (by omega), show endD D k r (9 + t) = D (9 + t) from row_end _ (by omega)]
theorem end_fail {X : ZD} {c k : Nat} {r : Int32} (hc : c < 20) (h0 : dL X k 2 = 0) : endD (failD X c) k r = failD (endD X k r) c := by
  have e3 : dC (tally (endD X k r) 5) c 3 = dC (tally X 5) c 3 := by
    rw [← end_tally (by decide)]
    exact (sm_end_ (D := tally X 5)).C hc (by decide)
  have erf : rf (tally (endD X k r) 5) c = rf (tally X 5) c := by unfold rf; rw [e3]
  unfold failD takeB
  rw [e3, erf]
  by_cases h1 : dC (tally X 5) c 3 = -1
  · rw [if_pos h1, if_pos h1, end_tally (by decide)]
  · rw [if_neg h1, if_neg h1]
    by_cases hk : rf (tally X 5) c = k
    · rw [hk, tally_L (by decide), tally_L (by decide), h0, end_2, if_neg (by decide), if_neg (by decide), end_tally (by decide)]
    · rw [tally_L (by decide), tally_L (by decide), end_o hk (by decide)]
      by_cases h2 : dL X (rf (tally X 5) c) 2 = 2
      · rw [if_pos h2, if_pos h2, ← end_tally (by decide)]
        exact end_upd (by omega)
      · rw [if_neg h2, if_neg h2, end_tally (by decide)]
theorem en_fail {p r : Int32} {X : ZD} {c k : Nat} (hc : c < 20) : enS p r k (failD X c) = failD (enS p r k X) c := by
  unfold enS
  by_cases h : KP p X k
  · rw [if_pos h, if_pos (KP_fail.mpr h), end_fail hc h.1]
  · rw [if_neg h, if_neg (fun q => h (KP_fail.mp q))]
theorem ens_fail {p r : Int32} {c : Nat} (hc : c < 20) : ∀ (f i : Nat) (X : ZD), itr (enS p r) i f (failD X c) = failD (itr (enS p r) i f X) c
  | 0, _, _ => rfl
  | f + 1, i, X => by
    show itr (enS p r) (i + 1) f (enS p r i (failD X c)) = failD (itr (enS p r) (i + 1) f (enS p r i X)) c
    rw [en_fail hc, ens_fail hc f (i + 1)]
theorem KP_en {p r : Int32} {X : ZD} {i k : Nat} (h : k ≠ i) : KP p (enS p r i X) k ↔ KP p X k := by
  unfold enS
  split
  · unfold KP
    rw [end_o h (by decide), end_o h (by decide)]
  · exact Iff.rfl
/-- a call has one leg to a callee at most -/
def JS (D : ZD) : Prop := ∀ k k', k < k' → k' < nL D → ofN D k = ofN D k' → ceN D k ≠ ceN D k'
theorem JS.same {D D' : ZD} (h : JS D) (s : Same D D') : JS D' := fun k k' a b e => by
  rw [sm_ofN s, sm_ofN s] at e
  rw [sm_ceN s, sm_ceN s]
  exact h k k' a (by rw [← sm_nL s]; exact b) e
theorem at_fl {D0 : ZD} (hI : Iv D0) (hJ : JS D0) {p r : Int32} : ∀ (f i : Nat) (D : ZD) (a : Int32), i + f = nL D0 → Same D0 D → (itr (atS p r) i f (D, a)).1 = itr (flS D p) i f (itr (enS p r) i f D)
  | 0, _, _, _, _, _ => rfl
  | f + 1, i, D, a, hif, hD => by
    have h20 := hI.1.2.1.2
    have h40 := hI.1.2.2.1.2
    have hID := hI.same hD
    have hnL := sm_nL hD
    have hof := hID.1.2.2.2 i (by rw [hnL]; omega)
    have hc20 : ofN D i < 20 := by have := hID.1.2.1.2; omega
    show (itr (atS p r) (i + 1) f (atS p r i (D, a))).1 = itr (flS D p) (i + 1) f (flS D p i (itr (enS p r) (i + 1) f (enS p r i D)))
    by_cases hk : KP p D i
    · have e1 : enS p r i D = endD D i r := if_pos hk
      have hD1 : Same D0 (endD D i r) := hD.trans sm_end_
      have eof : ofN (endD D i r) i = ofN D i := sm_ofN sm_end_ i
      have e0 : dL (endD D i r) i 0 = dL D i 0 := end_01 (by decide)
      -- the legs behind i
      have key : ∀ X, (∀ k, i < k → k < nL D0 → (KP p X k ↔ KP p D k)) → Same D0 X → itr (flS X p) (i + 1) f = itr (flS D p) (i + 1) f := fun X hX hsX => by
        funext Y
        refine itr_cong (fun _ => True) _ _ _ trivial (fun k s h1 h2 _ => ⟨?_, trivial⟩)
        unfold flS
        rw [propext (hX k (by omega) (by omega)), show dL X k 0 = dL D k 0 from (hsX.L (by decide)).trans (hD.L (by decide)).symm, show ofN X k = ofN D k from (sm_ofN hsX k).trans (sm_ofN hD k).symm]
      have hK1 : ∀ k, i < k → k < nL D0 → (KP p (endD D i r) k ↔ KP p D k) := fun k h1 h2 => by
        rw [← e1]; exact KP_en (by omega)
      have hr : rngs (itr (enS p r) (i + 1) f (endD D i r)) (dL D i 0) ↔ rngs (endD D i r) (dL D i 0) := by
        have gen : ∀ (f' i' : Nat) (X : ZD), i < i' → i' + f' = nL D0 → Same D0 X → (∀ k, i' ≤ k → k < nL D0 → (KP p X k ↔ KP p D k)) → (rngs (itr (enS p r) i' f' X) (dL D i 0) ↔ rngs X (dL D i 0)) := by
          intro f'
          induction f' with
          | zero => intro i' X _ _ _ _; exact Iff.rfl
          | succ f' ih =>
            intro i' X h1 h2 h3 h4
            show rngs (itr (enS p r) (i' + 1) f' (enS p r i' X)) (dL D i 0) ↔ _
            rw [ih (i' + 1) (enS p r i' X) (by omega) (by omega) (h3.trans sm_en) (fun k a b => (KP_en (by omega)).trans (h4 k (by omega) b))]
            refine rngs_en (fun q => ?_)
            have hkD := (h4 i' (Nat.le_refl _) (by omega)).mp q.1
            have q2 : dL D i' 0 = dL D i 0 := (hD.L (by decide)).trans ((h3.L (by decide)).symm.trans q.2)
            have eo : ofN D i = ofN D i' := by unfold ofN; rw [q2]
            have ec : ceN D i = ceN D i' := by unfold ceN; rw [hk.2, hkD.2]
            exact (hJ.same hD) i i' h1 (by rw [hnL]; omega) eo ec
        exact gen f (i + 1) (endD D i r) (by omega) (by omega) hD1 (fun k a b => hK1 k (by omega) b)
      rw [e1]
      by_cases hg : rngs (endD D i r) (dL D i 0)
      · have ea : atS p r i (D, a) = (endD D i r, a + 1) := (if_pos hk).trans (congrArg (fun z => (z, a + 1)) (if_pos (by rw [e0]; exact hg)))
        rw [ea, show flS D p i (itr (enS p r) (i + 1) f (endD D i r)) = itr (enS p r) (i + 1) f (endD D i r) from if_neg (fun q => q.2 (hr.mpr hg)), at_fl hI hJ f (i + 1) (endD D i r) (a + 1) (by omega) hD1, key _ hK1 hD1]
      · have ea : atS p r i (D, a) = (failD (endD D i r) (ofN D i), a + 1) := (if_pos hk).trans (congrArg (fun z => (z, a + 1)) ((if_neg (by rw [e0]; exact hg)).trans (by rw [eof])))
        have hD2 : Same D0 (failD (endD D i r) (ofN D i)) := hD1.trans sm_fail
        rw [ea, show flS D p i (itr (enS p r) (i + 1) f (endD D i r)) = failD (itr (enS p r) (i + 1) f (endD D i r)) (ofN D i) from if_pos ⟨hk, fun q => hg (hr.mp q)⟩, at_fl hI hJ f (i + 1) _ (a + 1) (by omega) hD2, ens_fail hc20, key _ (fun k h1 h2 => KP_fail.trans (hK1 k h1 h2)) hD2]
    · rw [show atS p r i (D, a) = (D, a) from if_neg hk, show enS p r i D = D from if_neg hk, show flS D p i (itr (enS p r) (i + 1) f D) = itr (enS p r) (i + 1) f D from if_neg (fun q => hk q.1)]
      exact at_fl hI hJ f (i + 1) D a (by omega) hD
/-! the calls touched -/
def sE (sg : ZSg) : Nat → Nat
  | 0 => 0
  | c + 1 => (sg c).2
def Ctg (sg : ZSg) (D0 : ZD) : Prop := (∀ c, c < nC D0 → (sg c).1 = sE sg c) ∧ sE sg (nC D0) = nL D0
def tbit (t : Int64) (c : Nat) : Prop := lg_cmp ((t >>> ((nI c).toInt64 &&& 63)) &&& 1) 1 = 0
theorem tbit_0 : ∀ c, c < 20 → ¬ tbit 0 c := by unfold tbit; decide +kernel
theorem sh_nat : ∀ c, c < 20 → (((nI c).toInt64 &&& 63).toBitVec.smod 64).toNat = c := by decide +kernel
theorem tbit_lsb {t : Int64} {c : Nat} (hc : c < 20) : tbit t c ↔ t.toBitVec.getLsbD c = true := by
  unfold tbit
  rw [lg_cmp_eq, ← Int64.toBitVec_inj]
  have e : ((t >>> ((nI c).toInt64 &&& 63)) &&& 1).toBitVec = (t.toBitVec.sshiftRight c) &&& 1#64 := by
    rw [Int64.toBitVec_and, Int64.toBitVec_shiftRight, BitVec.sshiftRight', sh_nat c hc]
    rfl
  rw [e]
  have h1 : (t.toBitVec.sshiftRight c).getLsbD 0 = t.toBitVec.getLsbD c := by
    rw [BitVec.getLsbD_sshiftRight]
    simp
    omega
  constructor
  · intro q
    have := congrArg (fun z : BitVec 64 => z.getLsbD 0) q
    simp only [BitVec.getLsbD_and, h1] at this
    simpa using this
  · intro q
    apply BitVec.eq_of_getLsbD_eq
    intro i hi
    rw [BitVec.getLsbD_and]
    by_cases h0 : i = 0
    · subst h0
      rw [h1, q]
      rfl
    · have : (1#64).getLsbD i = false := by
        rw [BitVec.getLsbD_one]
        simp [h0]
      rw [this, Bool.and_false]
      exact this.symm
theorem tbit_or {t : Int64} {c m : Nat} (hc : c < 20) (hm : m < 20) : tbit (t ||| ((1 : Int64) <<< ((nI m).toInt64 &&& 63))) c ↔ tbit t c ∨ c = m := by
  rw [tbit_lsb hc, tbit_lsb hc, Int64.toBitVec_or, BitVec.getLsbD_or]
  have e : ((1 : Int64) <<< ((nI m).toInt64 &&& 63)).toBitVec.getLsbD c = decide (c = m) := by
    have : ∀ m, m < 20 → ∀ c, c < 20 → ((1 : Int64) <<< ((nI m).toInt64 &&& 63)).toBitVec.getLsbD c = decide (c = m) := by decide +kernel
    exact this m hm c hc
  rw [e]
  simp
theorem et_fst {p r : Int32} {k : Nat} {x : ZD × Int64} : (etStep p r k x).1 = enS p r k x.1 := by
  unfold etStep enS KP
  by_cases h1 : dL x.1 k 1 = p
  · rw [if_pos h1]
    by_cases h2 : dL x.1 k 2 = 0
    · rw [if_pos h2, if_pos ⟨h2, h1⟩]
    · rw [if_neg h2, if_neg (fun q => h2 q.1)]
  · rw [if_neg h1, if_neg (fun q => h1 q.2)]
theorem et_itr {p r : Int32} : ∀ (f i : Nat) (x : ZD × Int64), (itr (etStep p r) i f x).1 = itr (enS p r) i f x.1
  | 0, _, _ => rfl
  | f + 1, i, x => by
    show (itr (etStep p r) (i + 1) f (etStep p r i x)).1 = itr (enS p r) (i + 1) f (enS p r i x.1)
    rw [et_itr f (i + 1), et_fst]
theorem et_bit {D0 : ZD} (hI : Iv D0) {p r : Int32} {c : Nat} (hc : c < 20) : ∀ (f i : Nat) (x : ZD × Int64), i + f = nL D0 → Same D0 x.1 → (tbit (itr (etStep p r) i f x).2 c ↔ tbit x.2 c ∨ ∃ k, i ≤ k ∧ k < i + f ∧ KP p x.1 k ∧ ofN x.1 k = c)
  | 0, i, x, _, _ => ⟨Or.inl, fun q => q.elim id (fun ⟨k, a, b, _⟩ => by omega)⟩
  | f + 1, i, x, hif, hD => by
    have h20 := hI.1.2.1.2
    have hof := (hI.same hD).1.2.2.2 i (by rw [sm_nL hD]; omega)
    have hc20 : ofN x.1 i < 20 := by have := (hI.same hD).1.2.1.2; omega
    show tbit (itr (etStep p r) (i + 1) f (etStep p r i x)).2 c ↔ _
    have hD1 : Same D0 (etStep p r i x).1 := hD.trans sm_etStep
    rw [et_bit hI hc f (i + 1) _ (by omega) hD1]
    have hK : ∀ k, i < k → (KP p (etStep p r i x).1 k ↔ KP p x.1 k) := fun k h => by rw [et_fst]; exact KP_en (by omega)
    have hO : ∀ k, ofN (etStep p r i x).1 k = ofN x.1 k := fun k => sm_ofN sm_etStep k
    have hb : tbit (etStep p r i x).2 c ↔ tbit x.2 c ∨ (KP p x.1 i ∧ ofN x.1 i = c) := by
      unfold etStep
      by_cases h1 : dL x.1 i 1 = p
      · rw [if_pos h1]
        by_cases h2 : dL x.1 i 2 = 0
        · rw [if_pos h2]
          show tbit (x.2 ||| ((1 : Int64) <<< ((dL (endD x.1 i r) i 0).toInt64 &&& 63))) c ↔ _
          rw [end_01 (by decide), hof.1, tbit_or hc hc20]
          exact or_congr Iff.rfl ⟨fun q => ⟨⟨h2, h1⟩, q.symm⟩, fun q => q.2.symm⟩
        · rw [if_neg h2]
          exact ⟨Or.inl, fun q => q.elim id (fun z => absurd z.1.1 h2)⟩
      · rw [if_neg h1]
        exact ⟨Or.inl, fun q => q.elim id (fun z => absurd z.1.2 h1)⟩
    rw [hb]
    constructor
    · rintro ((q | q) | ⟨k, a, b, d, e⟩)
      · exact Or.inl q
      · exact Or.inr ⟨i, Nat.le_refl _, by omega, q⟩
      · exact Or.inr ⟨k, by omega, by omega, (hK k (by omega)).mp d, (hO k).symm.trans e⟩
    · rintro (q | ⟨k, a, b, d, e⟩)
      · exact Or.inl (Or.inl q)
      · rcases Nat.eq_or_lt_of_le a with g | g
        · subst g; exact Or.inl (Or.inr ⟨d, e⟩)
        · exact Or.inr ⟨k, by omega, by omega, (hK k g).mpr d, (hO k).trans e⟩
theorem itr_last {σ : Type} {g : Nat → σ → σ} (f i : Nat) (s : σ) : itr g i (f + 1) s = g (i + f) (itr g i f s) := by
  rw [itr_add f 1 i s]; rfl
theorem fl_ft {D0 D : ZD} {sg : ZSg} (hs : SegD sg D0) (hg : Ctg sg D0) (hI : Iv D0) (hJ : JS D0) (hD : Same D0 D) {p : Int32} {t : Int64} (ht : ∀ c, c < 20 → (tbit t c ↔ ∃ k, k < nL D0 ∧ KP p D k ∧ ofN D k = c)) {X : ZD} (hX : Same D0 X) : ∀ m, m ≤ nC D0 → itr (ftStep t) 0 m X = itr (flS D p) 0 (sE sg m) X := by
  intro m
  induction m with
  | zero =>
    intro _
    have e1 : itr (ftStep t) 0 0 X = X := rfl
    have e2 : itr (flS D p) 0 (sE sg 0) X = X := rfl
    rw [e1, e2]
  | succ m ih =>
    intro hm
    have h20 := hI.1.2.1.2
    have h40 := hI.1.2.2.1.2
    obtain ⟨s1, s2, s3⟩ := hs m (by omega)
    have hc := hg.1 m (by omega)
    have s3' : ∀ k, k < nL D0 → (ofN D k = m ↔ (sg m).1 ≤ k ∧ k < (sg m).2) := fun k hk => by rw [sm_ofN hD k]; exact s3 k hk
    have h0 : ∀ k, k < nL D0 → dL D k 0 = nI (ofN D k) ∧ ofN D k < nC D0 := fun k hk => by
      have := (hI.same hD).1.2.2.2 k (by rw [sm_nL hD]; exact hk)
      rw [sm_nC hD] at this
      exact this
    rw [itr_last, Nat.zero_add, ih (by omega)]
    show ftStep t m (itr (flS D p) 0 (sE sg m) X) = itr (flS D p) 0 (sg m).2 X
    rw [show (sg m).2 = sE sg m + ((sg m).2 - (sg m).1) by omega, itr_add, Nat.zero_add]
    generalize hY : itr (flS D p) 0 (sE sg m) X = Y
    by_cases hex : ∃ k, (sg m).1 ≤ k ∧ k < (sg m).2 ∧ KP p D k
    · obtain ⟨j, j1, j2, j3⟩ := hex
      have jo : ofN D j = m := (s3' j (by omega)).mpr ⟨j1, j2⟩
      have hb : tbit t m := (ht m (by omega)).mpr ⟨j, by omega, j3, jo⟩
      have huniq : ∀ k, (sg m).1 ≤ k → k < (sg m).2 → k ≠ j → ¬ KP p D k := fun k k1 k2 hne hk => by
        have ko : ofN D k = m := (s3' k (by omega)).mpr ⟨k1, k2⟩
        have ec : ceN D k = ceN D j := by unfold ceN; rw [hk.2, j3.2]
        rcases Nat.lt_or_gt_of_ne hne with g | g
        · exact (hJ.same hD) k j g (by rw [sm_nL hD]; omega) (by rw [ko, jo]) ec
        · exact (hJ.same hD) j k g (by rw [sm_nL hD]; omega) (by rw [ko, jo]) ec.symm
      rw [show (sg m).2 - (sg m).1 = (j - (sg m).1) + (1 + ((sg m).2 - (j + 1))) by omega, itr_add, itr_add, ← hc]
      rw [itr_id (g := flS D p) (fun _ => True) (j - (sg m).1) (sg m).1 Y trivial (fun k s a b _ => if_neg (fun q => huniq k a (by omega) (by omega) q.1))]
      rw [show (sg m).1 + (j - (sg m).1) = j by omega]
      rw [itr_id (g := flS D p) (fun _ => True) ((sg m).2 - (j + 1)) (j + 1) _ trivial (fun k s a b _ => if_neg (fun q => huniq k (by omega) (by omega) (by omega) q.1))]
      show ftStep t m Y = flS D p j Y
      unfold ftStep flS
      rw [(h0 j (by omega)).1, jo]
      by_cases hr : rngs Y (nI m)
      · rw [if_neg (fun q => q.2 hr), if_neg (fun q => q.2 hr)]
      · rw [if_pos ⟨hb, hr⟩, if_pos ⟨j3, hr⟩]
    · rw [itr_id (g := flS D p) (fun _ => True) _ _ Y trivial (fun k s a b _ => if_neg (fun q => hex ⟨k, by omega, by omega, q.1⟩))]
      refine if_neg (fun q => ?_)
      obtain ⟨k, k1, k2, k3⟩ := (ht m (by omega)).mp q.1
      have := (s3' k k1).mp k3
      exact hex ⟨k, this.1, this.2, k2⟩
/-- ringing legs to a party end: the class's way, and the reference's -/
theorem at_eq {D0 D : ZD} {sg : ZSg} (hs : SegD sg D0) (hg : Ctg sg D0) (hI : Iv D0) (hJ : JS D0) (hD : Same D0 D) {p r : Int32} {a : Int32} : (itr (atS p r) 0 (nL D) (D, a)).1 = endToD D p r := by
  have hnL := sm_nL hD
  have hnC := sm_nC hD
  rw [hnL, at_fl hI hJ (nL D0) 0 D a (by omega) hD]
  unfold endToD
  rw [hnL, hnC, et_itr]
  have hb : ∀ c, c < 20 → (tbit (itr (etStep p r) 0 (nL D0) (D, 0)).2 c ↔ ∃ k, k < nL D0 ∧ KP p D k ∧ ofN D k = c) := fun c hc => by
    rw [et_bit hI hc (nL D0) 0 (D, 0) (by omega) hD]
    constructor
    · rintro (q | ⟨k, -, b, d⟩)
      · exact absurd q (tbit_0 c hc)
      · exact ⟨k, by omega, d⟩
    · rintro ⟨k, b, d⟩
      exact Or.inr ⟨k, by omega, by omega, d⟩
  have := fl_ft hs hg hI hJ hD hb (X := itr (enS p r) 0 (nL D0) D) (itr_inv (fun X => Same D0 X) _ _ _ hD (fun k X _ _ hX => hX.trans sm_en)) (nC D0) (Nat.le_refl _)
  rw [this, hg.2]
theorem at_snd {p r : Int32} : ∀ (f i : Nat) (D : ZD) (a : Int32), (itr (atS p r) i f (D, a)).2 = zcnt (KP p D) i f a
  | 0, _, _, _ => rfl
  | f + 1, i, D, a => by
    show (itr (atS p r) (i + 1) f (atS p r i (D, a))).2 = zcnt (KP p D) (i + 1) f (a + zb (KP p D i))
    by_cases hk : KP p D i
    · rw [zb_t hk]
      by_cases hg : rngs (endD D i r) (dL (endD D i r) i 0)
      · rw [show atS p r i (D, a) = (endD D i r, a + 1) from (if_pos hk).trans (congrArg (fun z => (z, a + 1)) (if_pos hg)), at_snd f (i + 1)]
        exact zcnt_congr f (i + 1) _ (fun j h1 h2 => by unfold KP; rw [end_o (by omega) (by decide), end_o (by omega) (by decide)])
      · rw [show atS p r i (D, a) = (failD (endD D i r) (ofN (endD D i r) i), a + 1) from (if_pos hk).trans (congrArg (fun z => (z, a + 1)) (if_neg hg)), at_snd f (i + 1)]
        exact zcnt_congr f (i + 1) _ (fun j h1 h2 => KP_fail.trans (by unfold KP; rw [end_o (by omega) (by decide), end_o (by omega) (by decide)]))
    · rw [zb_f hk, Int32.add_zero, show atS p r i (D, a) = (D, a) from if_neg hk]
      exact at_snd f (i + 1) D a
theorem zcnt_nI {P : Nat → Prop} : ∀ (f i a : Nat), ∃ m, m ≤ f ∧ zcnt P i f (nI a) = nI (a + m) ∧ (m = 0 → ∀ k, i ≤ k → k < i + f → ¬ P k)
  | 0, i, a => ⟨0, Nat.le_refl _, rfl, fun _ k h1 h2 => by omega⟩
  | f + 1, i, a => by
    by_cases h : P i
    · obtain ⟨m, h1, h2, h3⟩ := zcnt_nI (P := P) f (i + 1) (a + 1)
      refine ⟨m + 1, by omega, ?_, fun z => by omega⟩
      rw [zc_s1 h, nI_1, h2]
      congr 1; omega
    · obtain ⟨m, h1, h2, h3⟩ := zcnt_nI (P := P) f (i + 1) a
      refine ⟨m, by omega, by rw [zc_s0 h, h2], fun z k k1 k2 => ?_⟩
      rcases Nat.eq_or_lt_of_le k1 with e | g
      · rw [← e]; exact h
      · exact h3 z k g (by omega)
theorem at_0 {p r : Int32} {D : ZD} {f i : Nat} {a : Int32} (h : ∀ k, i ≤ k → k < i + f → ¬ KP p D k) : (itr (atS p r) i f (D, a)).1 = D := by
  have : itr (atS p r) i f (D, a) = (D, a) := itr_id (fun s => s.1 = D) f i (D, a) rfl (fun k s h1 h2 hs => if_neg (fun q => h k h1 h2 (by rw [← hs]; exact q)))
  rw [this]
end CDl
