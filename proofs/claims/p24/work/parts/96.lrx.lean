section LRx
/-! towards the random exchange -/
def lenB : Nat → Nat
  | 0 => 8
  | d + 1 => 2 * (lenB d + 2) + 3
theorem lenB_8 : ∀ d, 8 ≤ lenB d
  | 0 => Nat.le_refl _
  | d + 1 => by
    have := lenB_8 d
    show 8 ≤ 2 * (lenB d + 2) + 3
    omega
theorem par_len2 {lv ow : Nat} {tx : List Nat} : (par' lv ow tx).length ≤ tx.length + 2 := by
  unfold par'
  split
  · simp
  · omega
theorem opt_len {kd : Nat} : (opt kd).length ≤ 3 := by
  unfold opt
  split
  · decide
  split
  · decide
  split
  · decide
  · decide
theorem vrs_len : ∀ x, x < 4 → (vrs x).length ≤ 8 := by decide +kernel
theorem pl_len {cs : List Int32} {tx : List Nat} {ow : Nat} (h : PLx cs tx ow) : tx.length ≤ 8 := by
  obtain ⟨-, x, ⟨-, -, rfl⟩ | ⟨hx, -, rfl⟩⟩ := h
  · have := dec_pos (x := x)
    omega
  · exact vrs_len x hx
theorem pt_len : ∀ {d : Nat} {cs : List Int32} {tx : List Nat} {ow : Nat}, PTx d cs tx ow → tx.length ≤ lenB d
  | 0, _, _, _, h => pl_len h
  | d + 1, _, _, _, h => by
    rcases h with h | ⟨kd, ca, ta, oa, cb, tb, ob, h0, h1, h2, -, rfl, rfl⟩
    · exact Nat.le_trans (pl_len h) (lenB_8 _)
    · have a1 := pt_len h1
      have a2 := pt_len h2
      have a3 := par_len2 (lv := if kd < 4 then 1 else 2) (ow := oa) (tx := ta)
      have a4 := par_len2 (lv := (if kd < 4 then 1 else 2) + 1) (ow := ob) (tx := tb)
      have a5 := opt_len (kd := kd)
      simp only [List.length_append]
      show _ ≤ 2 * (lenB d + 2) + 3
      omega
theorem asc_par {lv ow : Nat} {tx : List Nat} (h : Asc tx) : Asc (par' lv ow tx) := by
  unfold par'
  split
  · intro c hc
    rcases List.mem_cons.mp hc with rfl | hc
    · decide
    rcases List.mem_append.mp hc with hc | hc
    · exact h c hc
    · rw [List.mem_singleton.mp hc]; decide
  · exact h
theorem asc_opt {kd : Nat} : Asc (opt kd) := by
  unfold opt
  split
  · unfold Asc; decide
  split
  · unfold Asc; decide
  split
  · unfold Asc; decide
  · unfold Asc; decide
theorem asc_vrs : ∀ x, x < 4 → Asc (vrs x) := by unfold Asc; decide +kernel
theorem pl_asc {cs : List Int32} {tx : List Nat} {ow : Nat} (h : PLx cs tx ow) : Asc tx := by
  obtain ⟨-, x, ⟨hx, -, rfl⟩ | ⟨hx, -, rfl⟩⟩ := h
  · exact asc_dec hx
  · exact asc_vrs x hx
theorem pt_asc : ∀ {d : Nat} {cs : List Int32} {tx : List Nat} {ow : Nat}, PTx d cs tx ow → Asc tx
  | 0, _, _, _, h => pl_asc h
  | d + 1, _, _, _, h => by
    rcases h with h | ⟨kd, ca, ta, oa, cb, tb, ob, h0, h1, h2, -, rfl, rfl⟩
    · exact pl_asc h
    · exact asc_ap2 (asc_par (pt_asc h1)) (asc_ap2 asc_opt (asc_par (pt_asc h2)))
/-- the class's object and the buffer lie in w as they are -/
def InW (Γ : ZG) (w : ZW) (x : Nat) (C : CS) (b : Nat) (f : Nat → Int32) : Prop := (∀ j, j < 105 → w.2 (x + j) = some (ccl Γ x C j)) ∧ w.2 b = some (bu Γ f)
theorem InW.self {Γ : ZG} {w : ZW} {x b : Nat} {C : CS} {f : Nat → Int32} (h : InW Γ w x C b f) : wWr Γ w x C b f = w := by
  refine Prod.ext rfl (funext fun q => ?_)
  show (if x ≤ q ∧ q < x + 105 then some (ccl Γ x C (q - x)) else if q = b then some (bu Γ f) else w.2 q) = w.2 q
  by_cases hr : x ≤ q ∧ q < x + 105
  · have := h.1 (q - x) (by omega)
    rw [if_pos hr, ← this, show x + (q - x) = q by omega]
  · rw [if_neg hr]
    by_cases hq : q = b
    · rw [if_pos hq, hq, h.2]
    · rw [if_neg hq]
theorem InW.of {Γ : ZG} {w : ZW} {x b : Nat} {C : CS} {f : Nat → Int32} (hb : b < x ∨ x + 105 ≤ b) : InW Γ (wWr Γ w x C b f) x C b f :=
  ⟨fun j hj => wC_at j hj, wr_b hb⟩
theorem wr_out {Γ : ZG} {w : ZW} {x b q : Nat} {C : CS} {f : Nat → Int32} (h : q < x ∨ x + 105 ≤ q) (hq : q ≠ b) : (wWr Γ w x C b f).2 q = w.2 q := by
  unfold wWr
  rw [wC_out h]
  exact if_neg hq
/-- a cell by its tag: neither the class's nor the buffer -/
theorem wr_tag {Γ : ZG} {w : ZW} {T : LT} {x b q t : Nat} {C : CS} {f : Nat → Int32} (hx : ∀ j, j < 105 → T (x + j) = 1) (hb : T b = 2) (hq : T q = t) (h1 : t ≠ 1) (h2 : t ≠ 2) : (wWr Γ w x C b f).2 q = w.2 q := by
  refine wr_out ?_ (fun z => h2 (by rw [← hq, z, hb]))
  by_cases hr : x ≤ q ∧ q < x + 105
  · have := hx (q - x) (by omega)
    rw [show x + (q - x) = q by omega, hq] at this
    exact absurd this h1
  · omega
theorem StrT.wr {Γ : ZG} {w0 w : ZW} {T : LT} {x b r : Nat} {tx : List Nat} {C : CS} {f : Nat → Int32} (h : StrT Γ w0 w T r tx) (hx : ∀ j, j < 105 → T (x + j) = 1) (hb : T b = 2) : StrAt Γ (wWr Γ w x C b f) r tx := by
  rcases h with ⟨h1, h2 | ⟨a, f', h', z, h3, h4, h5⟩⟩
  · exact ⟨h1, Or.inl h2⟩
  · exact ⟨h1, Or.inr ⟨a, f', h', z, (wr_tag hx hb h3.2.1 (by decide) (by decide)).trans h3.1, (wr_tag hx hb h4.2.1 (by decide) (by decide)).trans h4.1, h5⟩⟩
theorem stt_len {w : String} {m : Nat} {ns : List Nat} (h : (chs w).length = m) : (chs w ++ (nmt ns ++ [59])).length ≤ m + 5 * ns.length + 1 := by
  have := nmt_len ns
  simp only [List.length_append, h, List.length_cons, List.length_nil]
  omega
theorem ptxs_len : ∀ (ps : List (Nat × Nat × Nat)), (ptxs ps).length ≤ 21 * ps.length
  | [] => Nat.le_refl _
  | x :: ps => by
    have h1 : (ptx x.1 x.2.1 x.2.2).length ≤ 21 := by
      rw [ptx_w]
      exact stt_len (m := 5) (by decide +kernel)
    have h2 := ptxs_len ps
    have h3 : (ptxs (x :: ps)).length = (ptx x.1 x.2.1 x.2.2).length + (ptxs ps).length := List.length_append
    rw [h3, List.length_cons]
    omega
theorem ltx_len {ps : List (Nat × Nat × Nat)} {wv : Option (Nat × Nat)} {pa : Option Nat} {rg : Option (List Int32 × List Nat)} {d ow : Nat} (hn : ps.length ≤ 8) (hd : d ≤ 2) (hrg : ∀ x, rg = some x → PTx d x.1 x.2 ow) : (ltx ps wv pa rg).length ≤ 300 := by
  have h1 := ptxs_len ps
  have h2 : (wxx wv).length ≤ 15 := by
    cases wv with
    | none => exact Nat.zero_le _
    | some x =>
      show (wtx x.1 x.2).length ≤ 15
      rw [wtx_w]
      exact stt_len (m := 4) (by decide +kernel)
  have h3 : (axx pa).length ≤ 14 := by
    cases pa with
    | none => exact Nat.zero_le _
    | some x =>
      show (atx x).length ≤ 14
      rw [atx_w]
      exact stt_len (m := 8) (by decide +kernel)
  have h4 : (rxx rg).length ≤ 60 := by
    cases rg with
    | none => exact Nat.zero_le _
    | some x =>
      have a := pt_len (hrg x rfl)
      have b : lenB d ≤ 53 := (show ∀ d, d ≤ 2 → lenB d ≤ 53 by decide) d hd
      show (rtx x.2).length ≤ 60
      rw [rtx_w]
      have l1 : (chs "ring ").length = 5 := by decide +kernel
      have l2 : (chs " ;").length = 2 := by decide +kernel
      simp only [List.length_append, l1, l2]
      omega
  have l0 : (chs "exchange;").length = 9 := by decide +kernel
  unfold ltx
  simp only [List.length_append, l0]
  omega
theorem InW.kq {Γ : ZG} {w w' : ZW} {T T' : LT} {P : Nat → Prop} {x b : Nat} {C : CS} {f : Nat → Int32} (h : InW Γ w x C b f) (hk : Kq w T w' T' P) (h1 : P 1) (h2 : P 2) (hx : ∀ j, j < 105 → T (x + j) = 1) (hb : T b = 2) : InW Γ w' x C b f ∧ (∀ j, j < 105 → T' (x + j) = 1) ∧ T' b = 2 :=
  ⟨⟨fun j hj => (hk _ _ (h.1 j hj) (by rw [hx j hj]; exact h1)).1, (hk _ _ h.2 (by rw [hb]; exact h2)).1⟩, fun j hj => (hk _ _ (h.1 j hj) (by rw [hx j hj]; exact h1)).2.trans (hx j hj), (hk _ _ h.2 (by rw [hb]; exact h2)).2.trans hb⟩
theorem asc_1 {c : Nat} (h : c < 128) : Asc [c] := fun d hd => by rw [List.mem_singleton.mp hd]; exact h
theorem asc_ptxs : ∀ {ps : List (Nat × Nat × Nat)}, PsOK ps → Asc (ptxs ps)
  | [], _ => fun c hc => nomatch hc
  | x :: ps, h => by
    obtain ⟨a, b, c⟩ := h x (List.mem_cons_self ..)
    refine asc_ap2 (s := ptx x.1 x.2.1 x.2.2) ?_ (asc_ptxs (ps := ps) (fun y hy => h y (List.mem_cons_of_mem _ hy)))
    rw [ptx_w]
    refine asc_ap2 (by unfold Asc; decide +kernel) (asc_ap2 (asc_nmt (fun d hd => ?_)) (asc_1 (by decide)))
    simp at hd
    omega
theorem asc_ltx {ps : List (Nat × Nat × Nat)} {wv : Option (Nat × Nat)} {pa : Option Nat} {rg : Option (List Int32 × List Nat)} {d ow : Nat} (hps : PsOK ps) (hwv : ∀ x, wv = some x → (1 ≤ x.1 ∧ x.1 ≤ 99) ∧ 1 ≤ x.2 ∧ x.2 ≤ 99) (hpa : ∀ x, pa = some x → 1 ≤ x ∧ x ≤ 99) (hrg : ∀ x, rg = some x → PTx d x.1 x.2 ow) : Asc (ltx ps wv pa rg) := by
  have h2 : Asc (wxx wv) := by
    cases wv with
    | none => exact fun c hc => nomatch hc
    | some x =>
      have := hwv x rfl
      show Asc (wtx x.1 x.2)
      rw [wtx_w]
      refine asc_ap2 (by unfold Asc; decide +kernel) (asc_ap2 (asc_nmt (fun d hd => ?_)) (asc_1 (by decide)))
      simp at hd
      omega
  have h3 : Asc (axx pa) := by
    cases pa with
    | none => exact fun c hc => nomatch hc
    | some x =>
      have := hpa x rfl
      show Asc (atx x)
      rw [atx_w]
      refine asc_ap2 (by unfold Asc; decide +kernel) (asc_ap2 (asc_nmt (fun d hd => ?_)) (asc_1 (by decide)))
      simp at hd
      omega
  have h4 : Asc (rxx rg) := by
    cases rg with
    | none => exact fun c hc => nomatch hc
    | some x =>
      show Asc (rtx x.2)
      rw [rtx_w]
      exact asc_ap2 (by unfold Asc; decide +kernel) (asc_ap2 (pt_asc (hrg x rfl)) (by unfold Asc; decide +kernel))
  exact asc_ap2 (by unfold Asc; decide +kernel) (asc_ap2 (asc_ptxs hps) (asc_ap2 h2 (asc_ap2 h3 h4)))
/-- the base world is a template: class, buffer as they are now -/
theorem bw_inw {Γ : ZG} {w0 w : ZW} {T0 T : LT} {x b : Nat} {C : CS} {f : Nat → Int32} (hx : x + 105 ≤ w0.1) (hb : b < w0.1) (hb2 : b < x ∨ x + 105 ≤ b) (bw : BW (wWr Γ w0 x C b f) T0 w T) : InW Γ w x C b f :=
  ⟨fun j hj => (bw.2 (x + j) (Nat.lt_of_lt_of_le (Nat.add_lt_add_left hj x) hx)).1.trans (wC_at j hj), (bw.2 b hb).1.trans (wr_b hb2)⟩
theorem bw_wr {Γ : ZG} {w0 w : ZW} {T0 T : LT} {x b : Nat} {C C' : CS} {f f' : Nat → Int32} (bw : BW (wWr Γ w0 x C b f) T0 w T) : BW (wWr Γ w0 x C' b f') T0 (wWr Γ w x C' b f') T := by
  refine ⟨bw.1, fun q hq => ⟨?_, (bw.2 q hq).2⟩⟩
  have h1 := (bw.2 q hq).1
  show (if x ≤ q ∧ q < x + 105 then some (ccl Γ x C' (q - x)) else if q = b then some (bu Γ f') else w.2 q) = (if x ≤ q ∧ q < x + 105 then some (ccl Γ x C' (q - x)) else if q = b then some (bu Γ f') else w0.2 q)
  replace h1 : w.2 q = (if x ≤ q ∧ q < x + 105 then some (ccl Γ x C (q - x)) else if q = b then some (bu Γ f) else w0.2 q) := h1
  by_cases hr : x ≤ q ∧ q < x + 105
  · rw [if_pos hr, if_pos hr]
  · rw [if_neg hr, if_neg hr]
    rw [if_neg hr] at h1
    by_cases hq : q = b
    · rw [if_pos hq, if_pos hq]
    · rw [if_neg hq, if_neg hq]
      rw [if_neg hq] at h1
      exact h1
theorem kq_wr {Γ : ZG} {w : ZW} {T : LT} {x b : Nat} {C : CS} {f : Nat → Int32} (hx : ∀ j, j < 105 → T (x + j) = 1) (hb : T b = 2) : Kq w T (wWr Γ w x C b f) T (fun z => z ≠ 1 ∧ z ≠ 2) :=
  fun q c h1 h2 => ⟨(wr_tag hx hb rfl h2.1 h2.2).trans h1, rfl⟩
section
variable {l : Launch} {Γ : ZG} {M M' : ZM} {dp mc ms d' : Nat} {Φ : Option Value → ZW → Prop} {Ψ : String → ZW → Prop} {k n : Nat} {w0 w : ZW} {T0 T : LT} {pc x b : Nat} {L : ZL} {st : List Value} {C : CS} {f : Nat → Int32} {tx : List Nat}
/-- a call of the writer, the base a template -/
theorem gn_wr {index : Nat} (bw : BW (wWr Γ w0 x C b f) T0 w T) (hx9 : x + 105 ≤ w0.1) (hb9 : b < w0.1) (hb : b < x ∨ x + 105 ≤ b) (hx : ∀ j, j < 105 → T (x + j) = 1) (hT : T b = 2) (pc' : Nat) (As : List Value) (hd : decode M.2.1 pc = .ok (.invokestatic index, 3)) (V : zVs M.1.cls index M' As.length) (hh : M'.2.2.2.2 = []) (hct : Ct l Γ M' d' 0 0 As (wWr Γ w x C b f) (PW Γ w x C b tx) zNo) (hdp : d' + 1 ≤ dp) (hL : M'.2.2.1 ≤ 40) (h1 : k ≤ mc) (h2 : n ≤ ms) (hst : (st.map fun v => v.category).sum ≤ 8) (kk : ∀ w' R f', BW (wWr Γ w0 x (cR C R) b f') T0 w' T → Kq w T w' T (fun z => z ≠ 1 ∧ z ≠ 2) → WK (cR C R) f' tx → Go l Γ M dp mc ms Φ Ψ k n w' pc' L st) (hp : pc + 3 = pc' := by rfl) : Go l Γ M dp mc ms Φ Ψ k n w pc L (As.reverse ++ st) := by
  have e := (bw_inw hx9 hb9 hb bw).self
  rw [e] at hct
  refine go_callS pc' As hd V hh hct hdp hL (by omega) (by omega) hst ?_ hp
  rintro _ _ ⟨rfl, R, f', rfl, hW⟩
  exact kk _ R f' (bw_wr bw) (kq_wr hx hT) hW
end
theorem wr_set2 {Γ : ZG} {w : ZW} {x b a : Nat} {C : CS} {f : Nat → Int32} {e : va_E} (ha : a < x ∨ x + 105 ≤ a) (hab : a ≠ b) : wWr Γ (wset w a e) x C b f = wset (wWr Γ w x C b f) a e := by
  refine Prod.ext rfl (funext fun q => ?_)
  show (if x ≤ q ∧ q < x + 105 then some (ccl Γ x C (q - x)) else if q = b then some (bu Γ f) else if q = a then some e else w.2 q) = if q = a then some e else if x ≤ q ∧ q < x + 105 then some (ccl Γ x C (q - x)) else if q = b then some (bu Γ f) else w.2 q
  by_cases hq : q = a
  · rw [if_neg (by omega), if_neg (by omega), if_pos hq, if_pos hq]
  · rw [if_neg hq, if_neg hq]
end LRx
