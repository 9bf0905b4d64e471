section HRules
/-! methods with handlers -/
theorem zwA.eqW {M : ZM} {h0 : Nat × Nat × Nat × Nat} {hh : List (Nat × Nat × Nat × Nat)} (h : M.2.2.2.2 = h0 :: hh) : zwA M = Cond.codeWith M.1 M.2.1 M.2.2.1 M.2.2.2.1 (h0 :: hh) :: zGood := by unfold zwA zcode; rw [h]
theorem Ct.ofH {l : Launch} {Γ : ZG} {M : ZM} {d mc ms : Nat} {as : List Value} {w : ZW} {Φ : Option Value → ZW → Prop} {Ψ : String → ZW → Prop} {h0 : Nat × Nat × Nat × Nat} {hh : List (Nat × Nat × Nat × Nat)} (hy : plainName M.1.cls = true) (hh9 : M.2.2.2.2 = h0 :: hh) (hn : (lg_sl as).length ≤ M.2.2.1)
    (h : Go l Γ M d mc ms Φ Ψ 0 0 w 0 (lv_args 0 as) []) : Ct l Γ M d mc ms as w Φ Ψ := by
  intro htr
  have hw := zwA.eqW hh9
  refine vx_ofWH (cc := M.2.1) (maxL := M.2.2.1) (ret := M.2.2.2.1) (hh := h0 :: hh) hy hw ?_
  intro p e s m args below meth c s₁ B hml hv
  obtain ⟨rfl, hS, hH⟩ := hv
  have h0' : Γ.1 ≤ s.heap.size := by rw [hH.1]; exact hH.2.1
  have hts : ∀ w ∈ zwA M, w.before as.toArray s = true := atoms_spec (ws := zwA M) B.pre
  have ht : c.exceptionTable.toList = tableOf M.2.2.2.2 := by
    rw [hh9]
    exact vx_table (x := M.1) B (hts _ (by rw [hw]; exact List.mem_cons_self))
  rw [lg_entry_eq]
  exact h p e s m as.toArray below meth c ⟨B.exec, B.bytes, hml, B.returns, hts, findClass_of_methodNamed B.named, B.notSynchronized, (name_of_methodNamed B.named B.method).1, hS, h0', ht, htr⟩ s.heap [] _ (lv_entry as hn) hH va_S.rf
section
variable {l : Launch} {Γ : ZG} {M M' : ZM} {dp d' mc ms mc' ms' : Nat} {Φ Φ' : Option Value → ZW → Prop} {Ψ Ψ' : String → ZW → Prop} {k n : Nat} {w : ZW} {pc : Nat} {L : ZL} {st : List Value}
theorem go_callSW {index : Nat} {h0 : Nat × Nat × Nat × Nat} {hh : List (Nat × Nat × Nat × Nat)} (pc' : Nat) (As : List Value) (hd : decode M.2.1 pc = .ok (.invokestatic index, 3)) (V : zVs M.1.cls index M' As.length) (hh' : M'.2.2.2.2 = h0 :: hh) (hct : Ct l Γ M' d' mc' ms' As w Φ' zNo) (hdp : d' + 1 ≤ dp) (hL : M'.2.2.1 ≤ 40) (h1 : k + mc' ≤ mc) (h2 : n + ms' ≤ ms) (hst : (st.map fun v => v.category).sum ≤ 8)
    (kk : ∀ (v : Option Value) (w' : ZW), Φ' v w' → Go l Γ M dp mc ms Φ Ψ (k + mc') (n + ms') w' pc' L (v.toList ++ st)) (hp : pc + 3 = pc' := by rfl) : Go l Γ M dp mc ms Φ Ψ k n w pc L (As.reverse ++ st) := by
  subst hp
  intro p e s m args below meth c C H locs ls hl hH hS
  obtain ⟨v1, v2, ⟨v4, v5, v6, v7⟩, v8⟩ := V
  exact zrun C hl hS (vx_runSW (As := As) ⟨C.1, C.2.1, C.2.2.1, C.own, C.2.2.2.2.1⟩ (zMet (hct C.2.2.2.2.2.2.2.2.2.2.2)) (vx_cwSW As.length C.2.2.2.2.1 (zwsS v1 v2 v4 v5) (zwA.eqW hh') rfl rfl ⟨v6, v7, v8⟩ (zroom hdp hL)) ⟨zPc.blind, zpre C hH hS⟩ rfl rfl hl.1 rfl (by show 2 * 0 + _ ≤ 8; omega) hd ⟨h1, h2⟩) kk
/-- a call whose exception is caught here -/
theorem go_callVH {index b ci : Nat} {fs : List Value} {E : String} (pc' : Nat) (As : List Value) (hd : decode M.2.1 pc = .ok (.invokevirtual index, 3)) (V : zV M.1.cls index M' As.length) (hw : w.2 b = some (.inr (ci, fs))) (hc : (vwCl[ci]?).map (fun q => q.1) = some M'.1.cls) (hct : Ct l Γ M' d' mc' ms' (.ref b :: As) w Φ' Ψ') (hdp : d' + 1 ≤ dp) (hL : M'.2.2.1 ≤ 40) (h1 : k + mc' ≤ mc) (h2 : n + ms' ≤ ms) (hst : (st.map fun v => v.category).sum ≤ 8)
    (pre : List (Nat × Nat × Nat × Nat)) (r : Nat × Nat × Nat × Nat) (suf : List (Nat × Nat × Nat × Nat)) (hT : M.2.2.2.2 = pre ++ r :: suf) (hx : ∀ (E' : String) (w' : ZW), Ψ' E' w' → E' = E)
    (hpre : ∀ z ∈ pre, z.2.2.2 ≠ 0 ∧ ∃ nm, Cond.classLink M.1.cls z.2.2.2 nm ∈ zGood ∧ (E, nm) ∈ zNcs) (hcov : (decide (r.1 ≤ pc) && decide (pc < r.2.1)) = true) (hr0 : r.2.2.2 ≠ 0) (hlink : Cond.classLink M.1.cls r.2.2.2 E ∈ zGood) (hcast : Cond.castable E E ∈ zNest)
    (kk : ∀ (v : Option Value) (w' : ZW), Φ' v w' → Go l Γ M dp mc ms Φ Ψ (k + mc') (n + ms') w' pc' L (v.toList ++ st)) (kx : ∀ (w' : ZW) (q : Nat), Ψ' E w' → Go l Γ M dp mc ms Φ Ψ (k + mc') (n + ms') w' r.2.2.1 L [.ref q]) (hp : pc + 3 = pc' := by rfl) : Go l Γ M dp mc ms Φ Ψ k n w pc L (As.reverse ++ .ref b :: st) := by
  subst hp
  intro p e s m args below meth c C H locs ls hl hH hS
  obtain ⟨v1, v2, v3, ⟨v4, v5, v6, v7⟩, v8, v9⟩ := V
  have hT' : GoodIn (zwA M) (wsV M.1.cls index M'.1.cls M'.1 (zwA M')) := zwA.sub (fun x hx => by
    rcases List.mem_append.mp hx with h | h
    · simp only [List.mem_cons, List.not_mem_nil, or_false] at h
      rcases h with rfl | rfl | rfl | rfl <;> assumption
    · exact zwA.of v4 x h)
  have zs := C.2.2.2.2.2.2.2.2.1
  refine zrunX C hl hS (vx_runV (C := M'.1.cls) (As := As) ⟨C.1, C.2.1, C.2.2.1, C.own, C.2.2.2.2.1⟩ (hct C.2.2.2.2.2.2.2.2.2.2.2) (cwV As.length C.2.2.2.2.1 hT' (zwA.eq v9) rfl rfl ⟨rfl, v6, v7, v8⟩ (zroom hdp hL)) ⟨zPc.blind, zrecv C hH hw hc, zpre C hH hS⟩ rfl rfl hl.1 rfl (by show 2 * 0 + _ ≤ 8; omega) hd ⟨h1, h2⟩) kk ?_
  intro E' w' H1 locs1 q ce hΨ hH1 hS1 g1 g2 g3
  have hE := hx E' w' hΨ
  subst hE
  refine vx_catch C.own (tableOf pre) ⟨r.1, r.2.1, r.2.2.1, r.2.2.2⟩ (tableOf suf) (by rw [C.2.2.2.2.2.2.2.2.2.2.1, hT]; unfold tableOf; rw [List.map_append]; rfl) (fun z hz => ?_) hcov hr0 (C.good hlink) (va_Nw.use rfl (zs.2.1 _ hcast)) g1 g2 g3 (kx w' q hΨ p e s m args below meth c C H1 locs1 ls hl hH1 hS1)
  obtain ⟨z0, hz0, rfl⟩ := List.mem_map.mp hz
  obtain ⟨q1, nm, q2, q3⟩ := hpre z0 hz0
  exact Or.inr ⟨q1, nm, C.good q2, zs.2.2.1 (E', nm) q3⟩
end
def lcell (Γ : ZG) (f : Nat → Int64) : va_E := .inl (Γ.2.2.1 2, 1, .inr (.inl f))
end HRules
