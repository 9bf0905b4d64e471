section XRules
variable {l : Launch} {Γ : ZG} {M M' : ZM} {dp mc ms d' mc' ms' : Nat} {Φ Φ' : Option Value → ZW → Prop} {Ψ Ψ' : String → ZW → Prop} {k n : Nat} {w w' : ZW} {pc : Nat} {L : ZL} {st : List Value}
theorem go_tableIn {dflt lo hi : Int} {offs : Array Int} {len : Nat} {x : Int32} {off : Int} (tgt : Nat) (hd : decode M.2.1 pc = .ok (.tableswitch dflt lo hi offs, len)) (h1 : ¬ x.toInt < lo) (h2 : ¬ hi < x.toInt) (ho : offs[(x.toInt - lo).toNat]? = some off) (ht : (pc : Int) + off = (tgt : Int)) (kk : Go l Γ M dp mc ms Φ Ψ k n w tgt L st) : Go l Γ M dp mc ms Φ Ψ k n w pc L (.int x :: st) :=
  fun p e s m args below meth c C H locs ls hl hH hS => lv_tableIn C.1 C.2.1 hd h1 h2 ho ht (kk p e s m args below meth c C H locs ls hl hH hS)
theorem go_tableOut {dflt lo hi : Int} {offs : Array Int} {len : Nat} {x : Int32} (tgt : Nat) (hd : decode M.2.1 pc = .ok (.tableswitch dflt lo hi offs, len)) (h : x.toInt < lo ∨ hi < x.toInt) (ht : (pc : Int) + dflt = (tgt : Int)) (kk : Go l Γ M dp mc ms Φ Ψ k n w tgt L st) : Go l Γ M dp mc ms Φ Ψ k n w pc L (.int x :: st) :=
  fun p e s m args below meth c C H locs ls hl hH hS => lv_tableOut C.1 C.2.1 hd h ht (kk p e s m args below meth c C H locs ls hl hH hS)
theorem go_areturn {a : Nat} {t : FieldType} (hd : decode M.2.1 pc = .ok (.areturn, 1)) (hr : M.2.2.2.1 = some (.array t)) (h1 : k ≤ mc) (h2 : n ≤ ms) (hv : Φ (some (.ref a)) w) : Go l Γ M dp mc ms Φ Ψ k n w pc L [.ref a] := by
  intro p e s m args below meth c C H locs ls hl hH hS
  have hlocks : meth.locks = false := C.2.2.2.2.2.2.1
  exact vx_ret (W.widen h1 h2 (W.aret C.1 C.2.1 (C.2.2.2.1.trans hr) (Or.inr ⟨t, rfl⟩) (Or.inr ⟨a, rfl⟩) (fun t ht _ => zEnd C.big hH hS hv ht) hS.2.2 hd))
/-- a static method of a nest mate that is private there -/
def zVn (own : String) (idx : Nat) (M : ZM) (n : Nat) : Prop := (∃ host : String, Cond.methodLinkNest own idx M.1 host ∈ zNest) ∧ Cond.static M.1 ∈ zGood ∧ zY M ∧ (parseMethodDescriptor M.1.desc).map (fun d => d.parameters.length) = some n
theorem go_callSN {index : Nat} (pc' : Nat) (As : List Value) (hd : decode M.2.1 pc = .ok (.invokestatic index, 3)) (V : zVn M.1.cls index M' As.length) (hh : M'.2.2.2.2 = []) (hct : Ct l Γ M' d' mc' ms' As w Φ' zNo) (hdp : d' + 1 ≤ dp) (hL : M'.2.2.1 ≤ 40) (h1 : k + mc' ≤ mc) (h2 : n + ms' ≤ ms) (hst : (st.map fun v => v.category).sum ≤ 8)
    (kk : ∀ (v : Option Value) (w' : ZW), Φ' v w' → Go l Γ M dp mc ms Φ Ψ (k + mc') (n + ms') w' pc' L (v.toList ++ st)) (hp : pc + 3 = pc' := by rfl) : Go l Γ M dp mc ms Φ Ψ k n w pc L (As.reverse ++ st) := by
  subst hp
  intro p e s m args below meth c C H locs ls hl hH hS
  obtain ⟨⟨host, v1⟩, v2, ⟨v4, v5, v6, v7⟩, v8⟩ := V
  exact zrun C hl hS (va_runSN (As := As) ⟨C.1, C.2.1, C.2.2.1, C.own, C.2.2.2.2.1⟩ (zMet (hct C.2.2.2.2.2.2.2.2.2.2.2)) ⟨va_cnB (host := host) As.length C.2.2.2.2.1 (zwA.sub (zwA.of v4)) (zwA.eq hh) rfl rfl (C.stat.2.1 _ v1) (C.good v5) ⟨v6, v7, v8⟩ (zroom hdp hL), C.good v2, trivial⟩ ⟨zPc.blind, zpre C hH hS⟩ rfl rfl hl.1 rfl (by show 2 * 0 + _ ≤ 8; omega) hd ⟨h1, h2⟩) kk
/-- a constructor of a nest mate that is private there -/
def zVin (own : String) (idx : Nat) (M : ZM) (n : Nat) : Prop := (∃ host : String, Cond.methodLinkNest own idx M.1 host ∈ zNest) ∧ Cond.instanceMethod M.1 ∈ zGood ∧ M.1.name = "<init>" ∧ zY M ∧ (parseMethodDescriptor M.1.desc).map (fun d => d.parameters.length) = some n ∧ M.2.2.2.2 = [] ∧ M.2.2.2.1 = none
theorem go_callIN {index b : Nat} (pc' : Nat) (As : List Value) (hd : decode M.2.1 pc = .ok (.invokespecial index, 3)) (V : zVin M.1.cls index M' As.length) (hct : Ct l Γ M' d' mc' ms' (.ref b :: As) w Φ' zNo) (hdp : d' + 1 ≤ dp) (hL : M'.2.2.1 ≤ 40) (h1 : k + mc' ≤ mc) (h2 : n + ms' ≤ ms) (hst : (st.map fun v => v.category).sum ≤ 8)
    (kk : ∀ (v : Option Value) (w' : ZW), Φ' v w' → Go l Γ M dp mc ms Φ Ψ (k + mc') (n + ms') w' pc' L (v.toList ++ st)) (hp : pc + 3 = pc' := by rfl) : Go l Γ M dp mc ms Φ Ψ k n w pc L (As.reverse ++ .ref b :: st) := by
  subst hp
  intro p e s m args below meth c C H locs ls hl hH hS
  obtain ⟨⟨host, v1⟩, v2, v3, ⟨v4, v5, v6, v7⟩, v8, v9, v10⟩ := V
  have hw9 : zwA M' = Cond.code M'.1 M'.2.1 M'.2.2.1 none :: zGood := by rw [zwA.eq v9, v10]
  exact zrun C hl hS (va_runIN (As := As) ⟨C.1, C.2.1, C.2.2.1, C.own, C.2.2.2.2.1⟩ (zMet (hct C.2.2.2.2.2.2.2.2.2.2.2)) ⟨va_cnB (host := host) As.length C.2.2.2.2.1 (zwA.sub (zwA.of v4)) hw9 rfl rfl (C.stat.2.1 _ v1) (C.good v5) ⟨v6, v7, v8⟩ (zroom hdp hL), v3, C.good v2⟩ ⟨zPc.blind, zpre C hH hS⟩ rfl rfl hl.1 rfl (by show 2 * 0 + _ ≤ 8; omega) hd ⟨h1, h2⟩) kk
theorem go_aast {a b N : Nat} {fs : List Value} {f : Nat → Option Nat} {i : Int32} (pc' : Nat) (hd : decode M.2.1 pc = .ok (.aastore, 1)) (hw : w.2 a = some (.inl (Γ.2.2.1 3, N, .inr (.inr (.inr (.inr f)))))) (hv : w.2 b = some (.inr (0, fs))) (hin : vp_in i N) (kk : Go l Γ M dp mc ms Φ Ψ k n (wset w a (.inl (Γ.2.2.1 3, N, .inr (.inr (.inr (.inr (va_up f i.toNatClampNeg (some b)))))))) pc' L st) (hp : pc + 1 = pc' := by rfl) : Go l Γ M dp mc ms Φ Ψ k n w pc L (.ref b :: .int i :: .ref a :: st) := by
  subst hp
  intro p e s m args below meth c C H locs ls hl hH hS
  obtain ⟨haG, hat⟩ := hH.2.2 a _ hw
  obtain ⟨-, r', hr', cellV, g1, g2, g3, -⟩ := hH.2.2 b _ hv
  have hlt : i.toNatClampNeg < N := Nat.not_le.mp fun q => hin (Or.inr q)
  have h0 : ¬ i < 0 := fun q => hin (Or.inl q)
  have hcls := (C.stat.1.1 0 r' hr').2
  obtain ⟨kA, comp, k1, k2, k3, -⟩ := (C.arr 3 rfl).2
  have hr0 : r'.1 = RX0 := by cases hr'; rfl
  have hcomp : comp = Γ.2.1.1 0 := Option.some.inj (k3.symm.trans (by rw [← hr0]; exact hcls.1))
  subst hcomp
  obtain ⟨kC, hkC, -⟩ := hcls.2
  refine W.aast C.1 C.2.1 hat (fun q h => by cases h) (fun h => by cases h) k1 k2 rfl hkC ⟨h0, by show _ < (arrV _ _ _).slots.size; rw [arrV_size]; exact hlt⟩ g1 (fun q h => by rw [g3] at h; cases h) (by rw [g2]; exact hkC) (by rw [g2]; exact va_assign hcls) rfl rfl hd fun H1 e1 z oq => ?_
  refine kk p e s m args below meth c C H1 _ ls hl (hH.set haG ?_ z oq) (hS.put z oq haG)
  show H1[a]? = some (vp_cell _ _)
  rw [e1]
  rw [vp_cell_q, vp_cell_q, arrV_store]
  congr 2
  funext q
  by_cases hq : q = i.toNatClampNeg
  · subst hq
    simp [updV, va_up, va_rf]
  · simp [updV, va_up, hq]
theorem go_anewX {index : Nat} {i : Int32} {N : Nat} (pc' : Nat) (hd : decode M.2.1 pc = .ok (.anewarray index, 3)) (hcl : Cond.classLink M.1.cls index RX0 ∈ zGood) (hi : i = nI N) (hN : N ≤ 65536) (hc1 : k + 1 ≤ mc) (hs1 : n + N ≤ ms) (kk : Go l Γ M dp mc ms Φ Ψ (k + 1) (n + N) (wnew w (.inl (Γ.2.2.1 3, N, .inr (.inr (.inr (.inr (fun _ => none))))))) pc' L (.ref w.1 :: st)) (hp : pc + 3 = pc' := by rfl) : Go l Γ M dp mc ms Φ Ψ k n w pc L (.int i :: st) := by
  subst hp
  intro p e s m args below meth c C H locs ls hl hH hS
  have hN2 : N < 2 ^ 31 := by omega
  have eN : i.toNatClampNeg = N := by rw [hi]; exact nI_clamp hN2
  refine W.anew C.1 C.2.1 C.own (C.good hcl) (va_AO.use C.stat.2.2.2.1.1) rfl hd rfl (by rw [hi]; exact nI_pos hN2) (by rw [eN]; omega) hc1 (by rw [eN]; exact hs1) fun cA kA comp f1 f2 f3 f4 => ?_
  obtain ⟨-, -, -, -, -, f5⟩ := (C.arr 3 rfl).2
  have hcA : cA = Γ.2.2.1 3 := Option.some.inj (f1.symm.trans f5)
  subst hcA
  rw [eN]
  generalize hH1 : H.push ({ cls := Γ.2.2.1 3, slots := Array.replicate N .null, vm := .none } : Cell) = H1
  have z1 : H1.size = H.size + 1 := by rw [← hH1, Array.size_push]
  have e1 : H1[H.size]? = some (arrV (Γ.2.2.1 3) N (fun _ => .null)) := by rw [← hH1, Array.getElem?_push_size, ← arrV_new]
  have o1 : ∀ q : Nat, q < H.size → H1[q]? = H[q]? := fun q hq => by rw [← hH1, Array.getElem?_push, if_neg (Nat.ne_of_lt hq)]
  refine W.eq (g2 := F0 m (pc + 3) ls (.ref w.1 :: st)) (by rw [← hH.1]) ?_
  exact kk p e s m args below meth c C H1 _ ls hl (hH.push (by show H1[H.size]? = some (vp_cell _ _); rw [vp_cell_q]; exact e1) z1 o1) ⟨Nat.le_trans hS.1 (by omega), fun x g1 g2 => (o1 x (Nat.lt_of_lt_of_le g1 hS.1)).trans (hS.2.1 x g1 g2), hS.2.2⟩
theorem acLink : Cond.methodLink RJ7 150 arraycopyName ∈ zGood := zGood.mem 747 (by decide +kernel) rfl
theorem acStat : Cond.static arraycopyName ∈ zGood := zGood.mem 748 (by decide +kernel) rfl
theorem acNat : Cond.native arraycopyName ∈ zGood := zGood.mem 749 (by decide +kernel) rfl
theorem acIni : Cond.initialized "java/lang/System" ∈ zGood := zGood.mem 67 (by decide +kernel) rfl
/-- the first K of an int[] copied to the start of another -/
theorem go_copy {a0 a N0 N1 : Nat} {f g : Nat → Int32} {K : Nat} (pc' : Nat) (hM : M.1.cls = RJ7) (hd : decode M.2.1 pc = .ok (.invokestatic 150, 3)) (h0 : w.2 a0 = some (.inl (Γ.2.2.1 0, N0, .inl f))) (h1 : w.2 a = some (.inl (Γ.2.2.1 0, N1, .inl g))) (hK0 : K ≤ N0) (hK1 : K ≤ N1) (hK : K < 2 ^ 31) (hdp : 2 ≤ dp) (hst : (st.map fun v => v.category).sum ≤ 8) (kk : Go l Γ M dp mc ms Φ Ψ k n (wset w a (.inl (Γ.2.2.1 0, N1, .inl (va_cpy f g 0 0 K)))) pc' L st) (hp : pc + 3 = pc' := by rfl) : Go l Γ M dp mc ms Φ Ψ k n w pc L (.int (nI K) :: .int 0 :: .ref a :: .int 0 :: .ref a0 :: st) := by
  subst hp
  intro p e s m args below meth c C H locs ls hl hH hS
  obtain ⟨haG, hc1⟩ := hH.2.2 a _ h1
  obtain ⟨-, hc0⟩ := hH.2.2 a0 _ h0
  have hc0 : H[a0]? = some (vp_cell (Γ.2.2.1 0) (N0, .inl f)) := hc0
  have hc1 : H[a]? = some (vp_cell (Γ.2.2.1 0) (N1, .inl g)) := hc1
  have eK : (nI K).toNatClampNeg = K := nI_clamp hK
  have tK : (nI K).toInt = (K : Int) := nI_toInt hK
  have t0 : (0 : Int32).toNatClampNeg = 0 := rfl
  intro T hT X
  obtain ⟨-, k0, hk0, cm0, hkk0⟩ := (C.arr 0 rfl).1 N0 (fun j => .int (f j))
  obtain ⟨-, k1, hk1, cm1, hkk1⟩ := (C.arr 0 rfl).1 N1 (fun j => .int (g j))
  have hnf : nativeFrameWords "java/lang/System" "arraycopy" 5 + 11 ≤ 100 := by decide +kernel
  obtain ⟨vm', X', step⟩ := X.arraycopy C.1 C.own (C.good (by rw [hM]; exact acLink)) (C.good acNat) (C.good acStat) (C.good acIni) (src := a0) (dst := a) (cs := vp_cell (Γ.2.2.1 0) (N0, .inl f)) (cd := vp_cell (Γ.2.2.1 0) (N1, .inl g)) (srcPos := 0) (destPos := 0) (n := nI K) (by rw [hT]; exact hc0) (by rw [hT]; exact hc1)
    (fun _ h => by cases h) (fun _ h => by cases h) (fun h => by cases h) (fun h => by cases h) hk0 hk1 hkk0 hkk1 (by simp [refKind]) (by decide) (by decide) (nI_pos hK)
    (by rw [tK]; show ¬ (0 : Int) + _ > ((arrV (Γ.2.2.1 0) N0 (fun j => .int (f j))).slots.size : Int); rw [arrV_size]; omega)
    (by rw [tK]; show ¬ (0 : Int) + _ > ((arrV (Γ.2.2.1 0) N1 (fun j => .int (g j))).slots.size : Int); rw [arrV_size]; omega)
    (fun vm₁ _ i hi => by
      rw [eK] at hi
      have e : (vp_cell (Γ.2.2.1 0) (N0, .inl f)).slots.getD ((0 : Int32).toNatClampNeg + i) .null = .int (f ((0 : Int32).toNatClampNeg + i)) := by
        show (arrV (Γ.2.2.1 0) N0 (fun j => .int (f j))).slots.getD _ _ = _
        rw [Array.getD_eq_getD_getElem?, arrV_read _ _ (by rw [t0]; omega)]
        rfl
      refine ⟨?_, ?_⟩
      · rw [e]
        rfl
      · rw [e]
        exact trivial)
    (g := F0 m pc ls (.int (nI K) :: .int 0 :: .ref a :: .int 0 :: .ref a0 :: st)) rfl (by rw [C.2.2.1]; exact hl.1) (rest := st) rfl (by rw [C.2.1]; exact hd) (by show 1 ≤ dp; omega) (by show 2 * 0 + _ + _ ≤ 64 * dp; omega)
  have e1 : copied (vp_cell (Γ.2.2.1 0) (N0, .inl f)) (vp_cell (Γ.2.2.1 0) (N1, .inl g)) 0 0 (nI K) = vp_cell (Γ.2.2.1 0) (N1, .inl (va_cpy f g (0 : Int32).toNatClampNeg (0 : Int32).toNatClampNeg (nI K).toNatClampNeg)) := va_copied (fun z => .int z) _ _ f g (by rw [eK, t0]; omega)
  rw [eK, t0] at e1
  rw [e1] at X' step
  have hl9 : a < H.size := (Array.getElem?_eq_some_iff.mp hc1).1
  have hheap : ((T.setVm vm').setCell a (vp_cell (Γ.2.2.1 0) (N1, .inl (va_cpy f g 0 0 K)))).heap = H.setIfInBounds a (vp_cell (Γ.2.2.1 0) (N1, .inl (va_cpy f g 0 0 K))) := by rw [← hT]; rfl
  have oq : ∀ q : Nat, q ≠ a → (H.setIfInBounds a (vp_cell (Γ.2.2.1 0) (N1, .inl (va_cpy f g 0 0 K))))[q]? = H[q]? := fun q hq => by simp [Array.getElem?_setIfInBounds, Ne.symm hq]
  obtain ⟨t, a1, b1⟩ := kk p e s m args below meth c C _ _ ls hl (hH.set (H1 := H.setIfInBounds a (vp_cell (Γ.2.2.1 0) (N1, .inl (va_cpy f g 0 0 K)))) haG (show (H.setIfInBounds a _)[a]? = some _ by simp [Array.getElem?_setIfInBounds, hl9]) (by simp) oq) ⟨by simp; exact hS.1, fun q g1 g2 => by
      rw [oq q (fun e => g2 (by rw [e]; exact haG))]
      exact hS.2.1 q g1 g2, fun q hq => by
      rcases List.mem_append.mp hq with h | h
      · exact hS.2.2 q h
      · obtain ⟨z, -, hz⟩ := List.mem_map.mp h
        rw [← hz]
        exact haG⟩ _ hheap X'
  exact ⟨t, step t a1, b1⟩
end XRules
