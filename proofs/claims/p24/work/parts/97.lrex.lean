section LRex
/-! the random exchange -/
/-- the base: class, buffer and random numbers as they are now -/
def bsW (Γ : ZG) (w0 : ZW) (x a b : Nat) (C : CS) (f : Nat → Int32) (s : Int32) : ZW := wset (wWr Γ w0 x C b f) a (rnE s)
/-- class, buffer and random numbers lie below w0, tagged -/
def Rx (w0 : ZW) (T0 : LT) (x a b : Nat) : Prop := (x + 105 ≤ w0.1 ∧ b < w0.1 ∧ a < w0.1) ∧ (b < x ∨ x + 105 ≤ b) ∧ (a < x ∨ x + 105 ≤ a) ∧ a ≠ b ∧ (∀ j, j < 105 → T0 (x + j) = 1) ∧ T0 b = 2 ∧ T0 a = 2
section
variable {l : Launch} {Γ : ZG} {M' : ZM} {d' : Nat} {Φ : Option Value → ZW → Prop} {Ψ : String → ZW → Prop} {k n : Nat} {w0 w : ZW} {T0 T : LT} {pc x a b : Nat} {L : ZL} {st : List Value} {C : CS} {f : Nat → Int32} {s : Int32} {tx : List Nat}
theorem bs_tag (hR : Rx w0 T0 x a b) (bw : BW (bsW Γ w0 x a b C f s) T0 w T) : (∀ j, j < 105 → T (x + j) = 1) ∧ T b = 2 ∧ T a = 2 :=
  ⟨fun j hj => (bw.2 (x + j) (Nat.lt_of_lt_of_le (Nat.add_lt_add_left hj x) hR.1.1)).2.trans (hR.2.2.2.2.1 j hj), (bw.2 b hR.1.2.1).2.trans hR.2.2.2.2.2.1, (bw.2 a hR.1.2.2).2.trans hR.2.2.2.2.2.2⟩
theorem bs_wr (hR : Rx w0 T0 x a b) : bsW Γ w0 x a b C f s = wWr Γ (wset w0 a (rnE s)) x C b f := (wr_set2 hR.2.2.1 hR.2.2.2.1).symm
theorem bs_in (hR : Rx w0 T0 x a b) (bw : BW (bsW Γ w0 x a b C f s) T0 w T) : InW Γ w x C b f := by
  rw [bs_wr hR] at bw
  exact bw_inw (w0 := wset w0 a (rnE s)) hR.1.1 hR.1.2.1 hR.2.1 bw
theorem bs_rn (hR : Rx w0 T0 x a b) (bw : BW (bsW Γ w0 x a b C f s) T0 w T) : w.2 a = some (rnE s) := bw_at (w0 := wWr Γ w0 x C b f) bw hR.1.2.2
theorem bs_0 (hR : Rx w0 T0 x a b) (h : InW Γ w0 x C b f) (h2 : w0.2 a = some (rnE s)) : bsW Γ w0 x a b C f s = w0 := by
  unfold bsW
  rw [h.self]
  refine Prod.ext rfl (funext fun q => ?_)
  show (if q = a then some (rnE s) else w0.2 q) = w0.2 q
  by_cases hq : q = a
  · rw [if_pos hq, hq, h2]
  · rw [if_neg hq]
/-- a call of a writer -/
theorem gx_wr {index : Nat} (hR : Rx w0 T0 x a b) (bw : BW (bsW Γ w0 x a b C f s) T0 w T) (pc' : Nat) (As : List Value) (hd : decode mL_randomExchange.2.1 pc = .ok (.invokestatic index, 3)) (V : zVs RL index M' As.length) (hh : M'.2.2.2.2 = []) (hct : Ct l Γ M' d' 0 0 As (wWr Γ w x C b f) (PW Γ w x C b tx) zNo) (hdp : d' + 1 ≤ 36) (hL : M'.2.2.1 ≤ 40) (h1 : k ≤ 100) (h2 : n ≤ 18000) (hst : (st.map fun v => v.category).sum ≤ 8) (kk : ∀ w' R f', BW (bsW Γ w0 x a b (cR C R) f' s) T0 w' T → Kq w T w' T (fun z => z ≠ 1 ∧ z ≠ 2) → WK (cR C R) f' tx → Go l Γ mL_randomExchange 36 100 18000 Φ Ψ k n w' pc' L st) (hp : pc + 3 = pc' := by rfl) : Go l Γ mL_randomExchange 36 100 18000 Φ Ψ k n w pc L (As.reverse ++ st) := by
  have ht := bs_tag hR bw
  rw [bs_wr hR] at bw
  exact gn_wr (w0 := wset w0 a (rnE s)) bw hR.1.1 hR.1.2.1 hR.2.1 ht.1 ht.2.1 pc' As hd V hh hct hdp hL h1 h2 hst (fun w' R f' b1 q1 w1 => kk w' R f' (by rw [bs_wr hR]; exact b1) q1 w1) hp
/-- a word is written -/
theorem gx_lit {i : Nat} {t : String} {ty tz : List Nat} (hR : Rx w0 T0 x a b) (bw : BW (bsW Γ w0 x a b C f s) T0 w T) (hW : WK C f tx) (pc' : Nat) (hd : decode mL_randomExchange.2.1 pc = .ok (.invokestatic 99, 3)) (hs : (RL, i, t) ∈ zStr) (hty : ty = chs t) (ha : (chs t).all (· < 128) = true) (hl : tx.length + ty.length ≤ 500) (htz : tx ++ ty = tz) (h1 : k ≤ 100) (h2 : n ≤ 18000) (hst : (st.map fun v => v.category).sum ≤ 8) (kk : ∀ w' R f', BW (bsW Γ w0 x a b (cR C R) f' s) T0 w' T → Kq w T w' T (fun z => z ≠ 1 ∧ z ≠ 2) → WK (cR C R) f' tz → Go l Γ mL_randomExchange 36 100 18000 Φ Ψ k n w' pc' L st) (hp : pc + 3 = pc' := by rfl) : Go l Γ mL_randomExchange 36 100 18000 Φ Ψ k n w pc L (.ref (Γ.2.2.2.1 RL i) :: .ref b :: .ref x :: st) := by
  subst hty
  subst htz
  exact gx_wr hR bw pc' [.ref x, .ref b, .ref (Γ.2.2.2.1 RL i)] hd vL_99 rfl (ct_L_write (ty := chs t) hR.2.1 hW (fun C f => cst_at hs ha) hl) (by decide) (by decide) h1 h2 hst kk hp
/-- a text is written -/
theorem gx_txt {r : Nat} {ty tz : List Nat} {w1 : ZW} (hR : Rx w0 T0 x a b) (bw : BW (bsW Γ w0 x a b C f s) T0 w T) (hW : WK C f tx) (pc' : Nat) (hd : decode mL_randomExchange.2.1 pc = .ok (.invokestatic 99, 3)) (hs : StrT Γ w1 w T r ty) (hl : tx.length + ty.length ≤ 500) (htz : tx ++ ty = tz) (h1 : k ≤ 100) (h2 : n ≤ 18000) (hst : (st.map fun v => v.category).sum ≤ 8) (kk : ∀ w' R f', BW (bsW Γ w0 x a b (cR C R) f' s) T0 w' T → Kq w T w' T (fun z => z ≠ 1 ∧ z ≠ 2) → WK (cR C R) f' tz → Go l Γ mL_randomExchange 36 100 18000 Φ Ψ k n w' pc' L st) (hp : pc + 3 = pc' := by rfl) : Go l Γ mL_randomExchange 36 100 18000 Φ Ψ k n w pc L (.ref r :: .ref b :: .ref x :: st) := by
  subst htz
  have ht := bs_tag hR bw
  exact gx_wr hR bw pc' [.ref x, .ref b, .ref r] hd vL_99 rfl (ct_L_write (ty := ty) hR.2.1 hW (fun C f => hs.wr ht.1 ht.2.1) hl) (by decide) (by decide) h1 h2 hst kk hp
/-- numbers are written -/
theorem gx_nums {i q t9 : Nat} {t : String} {ns tz : List Nat} {g : Nat → Int32} {m : Nat} (hR : Rx w0 T0 x a b) (bw : BW (bsW Γ w0 x a b C f s) T0 w T) (hW : WK C f tx) (pc' : Nat) (hd : decode mL_randomExchange.2.1 pc = .ok (.invokestatic 127, 3)) (hs : (RL, i, t) ∈ zStr) (ha : (chs t).all (· < 128) = true) (hc : w.2 q = some (i5 Γ m g)) (ht9 : T q = t9) (h91 : t9 ≠ 1) (h92 : t9 ≠ 2) (hm : ns.length = m) (hg : ∀ j, j < m → g j = nI (ns.getD j 0)) (hns : ∀ c ∈ ns, c ≤ 9999) (hm3 : m ≤ 3) (hl : tx.length + (chs t).length ≤ 380) (htz : tx ++ (chs t ++ (nmt ns ++ [59])) = tz) (h1 : k ≤ 100) (h2 : n ≤ 18000) (hst : (st.map fun v => v.category).sum ≤ 8) (kk : ∀ w' R f', BW (bsW Γ w0 x a b (cR C R) f' s) T0 w' T → Kq w T w' T (fun z => z ≠ 1 ∧ z ≠ 2) → WK (cR C R) f' tz → Go l Γ mL_randomExchange 36 100 18000 Φ Ψ k n w' pc' L st) (hp : pc + 3 = pc' := by rfl) : Go l Γ mL_randomExchange 36 100 18000 Φ Ψ k n w pc L (.ref q :: .ref (Γ.2.2.2.1 RL i) :: .ref b :: .ref x :: st) := by
  subst htz
  subst hm
  have ht := bs_tag hR bw
  exact gx_wr hR bw pc' [.ref x, .ref b, .ref (Γ.2.2.2.1 RL i), .ref q] hd vL_127 rfl (ct_L_writeNumbers (ty := chs t) hR.2.1 hW (fun C f => cst_at hs ha) (fun C f => (wr_tag ht.1 ht.2.1 ht9 h91 h92).trans hc) hg hns (by omega) (by omega)) (by decide) (by decide) h1 h2 hst kk hp
/-- a random number -/
theorem gx_below {B : Nat} (hR : Rx w0 T0 x a b) (bw : BW (bsW Γ w0 x a b C f s) T0 w T) (pc' : Nat) (hd : decode mL_randomExchange.2.1 pc = .ok (.invokevirtual 115, 3)) (y : Int32) (hy : y = nI B) (hB : 0 < B) (hB2 : B ≤ 65536) (h1 : k ≤ 100) (h2 : n ≤ 18000) (hst : (st.map fun v => v.category).sum ≤ 8) (kk : ∀ w' j s', j < B → BW (bsW Γ w0 x a b C f s') T0 w' T → Kq w T w' T (fun z => z ≠ 2) → Go l Γ mL_randomExchange 36 100 18000 Φ Ψ k n w' pc' L (.int (nI j) :: st)) (hp : pc + 3 = pc' := by rfl) : Go l Γ mL_randomExchange 36 100 18000 Φ Ψ k n w pc L (.int y :: .ref a :: st) :=
  gn_below (w0 := wWr Γ w0 x C b f) bw hR.1.2.2 hR.2.2.2.2.2.2 pc' hd vL_115 y hy hB hB2 (by decide) h1 h2 hst kk hp
end
/-! what the text's parts add up to -/
theorem ltx_z0 : ltx [] none none none = chs "exchange;" := by
  unfold ltx
  simp [ptxs, wxx, axx, rxx]
theorem ltx_zp {ps : List (Nat × Nat × Nat)} {y : Nat × Nat × Nat} : ltx ps none none none ++ (chs "party" ++ (nmt [y.1, y.2.1, y.2.2] ++ [59])) = ltx (ps ++ [y]) none none none := by
  rw [← ptx_w]
  unfold ltx
  rw [ptxs_c]
  simp [wxx, axx, rxx]
theorem ltx_zw {ps : List (Nat × Nat × Nat)} {u v : Nat} : ltx ps none none none ++ (chs "wait" ++ (nmt [u, v] ++ [59])) = ltx ps (some (u, v)) none none := by
  rw [← wtx_w]
  unfold ltx
  simp [wxx, axx, rxx]
theorem ltx_za {ps : List (Nat × Nat × Nat)} {wv : Option (Nat × Nat)} {v : Nat} : ltx ps wv none none ++ (chs "patience" ++ (nmt [v] ++ [59])) = ltx ps wv (some v) none := by
  rw [← atx_w]
  unfold ltx
  simp [axx, rxx]
theorem ltx_zr {ps : List (Nat × Nat × Nat)} {wv : Option (Nat × Nat)} {pt : Option Nat} {cs : List Int32} {tt : List Nat} : ((ltx ps wv pt none ++ chs "ring ") ++ tt) ++ chs " ;" = ltx ps wv pt (some (cs, tt)) := by
  have e : rxx (some (cs, tt)) = chs "ring " ++ (tt ++ chs " ;") := rtx_w
  unfold ltx
  rw [e]
  simp [rxx]
/-! the loaded numbers -/
theorem fold_P : ∀ (ps : List (Nat × Nat × Nat)) (G : ZD) (k : Nat), G 4 = nI k → k + ps.length ≤ 10 → (∀ i, i < 16 → i ≠ 4 → ps.foldl addL G i = G i) ∧ (∀ p j, p < k → j < 3 → dP (ps.foldl addL G) p j = dP G p j) ∧ ∀ p, p < ps.length → dP (ps.foldl addL G) (k + p) 0 = nI (ps.getD p (0, 0, 0)).1 ∧ dP (ps.foldl addL G) (k + p) 1 = nI (ps.getD p (0, 0, 0)).2.1 ∧ dP (ps.foldl addL G) (k + p) 2 = nI (ps.getD p (0, 0, 0)).2.2
  | [], G, k, h, hk => ⟨fun _ _ _ => rfl, fun _ _ _ _ => rfl, fun p hp => absurd hp (Nat.not_lt_zero _)⟩
  | y :: ps, G, k, h, hk => by
    simp only [List.length_cons] at hk
    obtain ⟨h1, h2, h3⟩ := fold_P ps (addL G y) (k + 1) (addL_4 h) (by omega)
    have hn : nP G = k := by
      unfold nP
      rw [h]
      exact nI_clamp (by omega)
    have hlo : ∀ i, i ≠ 4 → (i < 16 + 3 * k ∨ 16 + 3 * k + 3 ≤ i) → addL G y i = G i := fun i hi h4 => by
      unfold addL addP upd
      rw [hn, if_neg hi, if_neg (by omega), if_neg (by omega), if_neg (by omega)]
    have e0 : dP (addL G y) k 0 = nI y.1 := by
      unfold dP addL addP upd
      rw [hn, if_neg (by omega), if_neg (by omega), if_neg (by omega), if_pos (by omega)]
    have e1 : dP (addL G y) k 1 = nI y.2.1 := by
      unfold dP addL addP upd
      rw [hn, if_neg (by omega), if_neg (by omega), if_pos (by omega)]
    have e2 : dP (addL G y) k 2 = nI y.2.2 := by
      unfold dP addL addP upd
      rw [hn, if_neg (by omega), if_pos (by omega)]
    refine ⟨fun i hi h4 => ?_, fun p j hp hj => ?_, fun p hp => ?_⟩
    · show ps.foldl addL (addL G y) i = G i
      rw [h1 i hi h4]
      exact hlo i h4 (Or.inl (by omega))
    · show dP (ps.foldl addL (addL G y)) p j = dP G p j
      rw [h2 p j (by omega) hj]
      exact hlo _ (by omega) (Or.inl (by omega))
    · show dP (ps.foldl addL (addL G y)) (k + p) 0 = _ ∧ dP (ps.foldl addL (addL G y)) (k + p) 1 = _ ∧ dP (ps.foldl addL (addL G y)) (k + p) 2 = _
      cases p with
      | zero =>
        rw [Nat.add_zero, h2 k 0 (by omega) (by decide), h2 k 1 (by omega) (by decide), h2 k 2 (by omega) (by decide)]
        exact ⟨e0, e1, e2⟩
      | succ p =>
        have h9 := h3 p (by simp only [List.length_cons] at hp; omega)
        rw [show k + (p + 1) = k + 1 + p by omega]
        exact h9
def E4 (wv : Option (Nat × Nat)) (pt : Option Nat) : ZD := azz (wzz usual wv) pt
theorem lgd_P {ps : List (Nat × Nat × Nat)} {wv : Option (Nat × Nat)} {pt : Option Nat} {rg : Option (List Int32 × List Nat)} {i : Nat} (h : 8 ≤ i ∨ i = 0 ∨ i = 4 ∨ i = 5 ∨ i = 6) : lgd ps wv pt rg i = ps.foldl addL usual i := by
  have a : ∀ G, wzz G wv i = G i := fun G => by
    cases wv with
    | none => rfl
    | some z => exact (if_neg (by omega)).trans (if_neg (by omega))
  have c : ∀ G, azz G pt i = G i := fun G => by
    cases pt with
    | none => rfl
    | some z => exact if_neg (by omega)
  have d : ∀ G, rzz G rg i = G i := fun G => by
    cases rg with
    | none => rfl
    | some z => exact if_neg (by omega)
  unfold lgd
  rw [d, c, a]
theorem lgd_lo {ps : List (Nat × Nat × Nat)} {wv : Option (Nat × Nat)} {pt : Option Nat} {rg : Option (List Int32 × List Nat)} (hn : ps.length ≤ 10) {i : Nat} (h : i < 4) : lgd ps wv pt rg i = E4 wv pt i := by
  have f := (fold_P ps usual 0 (by decide) (by omega)).1 i (by omega) (by omega)
  have d : ∀ G, rzz G rg i = G i := fun G => by
    cases rg with
    | none => rfl
    | some z => exact if_neg (by omega)
  have a : wzz (ps.foldl addL usual) wv i = wzz usual wv i := by
    cases wv with
    | none => exact f
    | some z =>
      show (if i = 2 then _ else if i = 1 then _ else ps.foldl addL usual i) = if i = 2 then _ else if i = 1 then _ else usual i
      rw [f]
  unfold lgd E4
  rw [d]
  cases pt with
  | none => exact a
  | some z =>
    show (if i = 3 then _ else wzz (ps.foldl addL usual) wv i) = if i = 3 then _ else wzz usual wv i
    rw [a]
theorem lgd_dP {ps : List (Nat × Nat × Nat)} {wv : Option (Nat × Nat)} {pt : Option Nat} {rg : Option (List Int32 × List Nat)} (hn : ps.length ≤ 10) {p : Nat} (hp : p < ps.length) : dP (lgd ps wv pt rg) p 0 = nI (ps.getD p (0, 0, 0)).1 ∧ dP (lgd ps wv pt rg) p 1 = nI (ps.getD p (0, 0, 0)).2.1 ∧ dP (lgd ps wv pt rg) p 2 = nI (ps.getD p (0, 0, 0)).2.2 := by
  have f := (fold_P ps usual 0 (by decide) (by omega)).2.2 p hp
  rw [Nat.zero_add] at f
  have e : ∀ j, dP (lgd ps wv pt rg) p j = dP (ps.foldl addL usual) p j := fun j => lgd_P (Or.inl (by omega))
  rw [e, e, e]
  exact f
theorem qi_GI {s : QS} (h : QInv s) : GI (fun _ => (0, 0)) s.2.1 ∧ JX s.2.1 ∧ tmN s.2.1 = 0 := by
  obtain ⟨n1, n2, n3⟩ := qi_nC h
  have h0 : s.2.1 0 = 0 := h.2.1 0 (Or.inl rfl)
  refine ⟨⟨fun c hc => by omega, ⟨fun c hc => by omega, ?_⟩, qi_Iv h, fun k k' _ hk => by omega, fun k hk => by omega, h.2.2.1, ⟨⟨by rw [n3]; exact h0, by omega⟩, fun c hc => by omega⟩⟩, ⟨fun c hc => by omega, fun k hk => by omega⟩, n3⟩
  rw [n1, n2]
  rfl
/-- a part of the row of the random exchange's own cells -/
def xFl (wv : Option (Nat × Nat)) (pt : Option Nat) (pa r1 r2 r3 : Nat) (tm : Option Nat) : List Value := [.int (E4 wv pt 0), .int (E4 wv pt 1), .int (E4 wv pt 2), .int (E4 wv pt 3), .ref pa, .ref r1, .ref r2, .ref r3, va_rf tm]
def RXo (Γ : ZG) (w0 w : ZW) (T : LT) (pa r1 r2 r3 N : Nat) (P : Nat → Nat) (ps : List (Nat × Nat × Nat)) : Prop :=
  (∃ g, Nc w0 w T pa (q5 Γ 4 N g) 6 ∧ ∀ p, p < ps.length → g p = some (P p)) ∧
  (∀ p, p < ps.length → ∃ g, Nc w0 w T (P p) (i5 Γ 3 g) (13 + 5 * p) ∧ g 0 = nI (ps.getD p (0, 0, 0)).1 ∧ g 1 = nI (ps.getD p (0, 0, 0)).2.1 ∧ g 2 = nI (ps.getD p (0, 0, 0)).2.2) ∧
  Nc w0 w T r1 (q5 Γ 8 0 (fun _ => none)) 0 ∧ Nc w0 w T r2 (q5 Γ 7 0 (fun _ => none)) 0 ∧ Nc w0 w T r3 (i5 Γ 7 (fun _ => 0)) 19
theorem RXo.go {Γ : ZG} {w0 w w1 : ZW} {T T1 : LT} {pa r1 r2 r3 N : Nat} {P : Nat → Nat} {ps : List (Nat × Nat × Nat)} {Q : Nat → Prop} (h : RXo Γ w0 w T pa r1 r2 r3 N P ps) (k : Kq w T w1 T1 Q) (h0 : ∀ z, z = 0 ∨ z = 6 ∨ (13 ≤ z ∧ z ≠ 14) → Q z) : RXo Γ w0 w1 T1 pa r1 r2 r3 N P ps := by
  obtain ⟨⟨g, g1, g2⟩, h2, h3, h4, h5⟩ := h
  refine ⟨⟨g, g1.go k (h0 6 (Or.inr (Or.inl rfl))), g2⟩, fun p hp => ?_, h3.go k (h0 0 (Or.inl rfl)), h4.go k (h0 0 (Or.inl rfl)), h5.go k (h0 19 (Or.inr (Or.inr ⟨by decide, by decide⟩)))⟩
  obtain ⟨g', e1, e2⟩ := h2 p hp
  exact ⟨g', e1.go k (h0 _ (Or.inr (Or.inr ⟨by omega, by omega⟩))), e2⟩
end LRex
