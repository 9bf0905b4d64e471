section LStr
def b5 (Γ : ZG) (N : Nat) (f : Nat → Int32) : va_E := .inl (Γ.2.2.1 1, N, .inl f)
/-- a row of bytes: one of the world's, or a constant's -/
def SrcB (Γ : ZG) (w : ZW) (a N : Nat) (f : Nat → Int32) : Prop := w.2 a = some (b5 Γ N f) ∨ ∃ q ∈ zStr, a = Γ.2.2.2.1 q.1 (q.2.1 + 100000) ∧ N = q.2.2.length ∧ f = zch q.2.2
section
variable {l : Launch} {Γ : ZG} {M M' : ZM} {dp mc ms d' : Nat} {Φ Φ' : Option Value → ZW → Prop} {Ψ : String → ZW → Prop} {k n : Nat} {w : ZW} {pc : Nat} {L : ZL} {st : List Value}
theorem SrcB.cell {p : Program} {s : State} {m : MethodId} {args : Array Value} {meth : Method} {c : Code} {H : Heap} {locs : List Loc} {a N : Nat} {f : Nat → Int32} (h : SrcB Γ w a N f) (C : zC l Γ M p s m args meth c) (hH : zH Γ w H) (hS : va_S (zA Γ) s.heap H locs) : ∃ cs : Cell, H[a]? = some cs ∧ s.isArrayOf cs .byte ∧ cs.vm ≠ .unknown ∧ N ≤ cs.slots.size ∧ ∀ j, j < N → cs.slots[j]? = some (.int (f j)) := by
  rcases h with h | ⟨q, hq, rfl, rfl, rfl⟩
  · obtain ⟨-, hc⟩ := hH.2.2 a _ h
    have hc : H[a]? = some (vp_cell (Γ.2.2.1 1) (N, .inl f)) := hc
    refine ⟨_, hc, (C.arr 1 rfl).1 N (fun j => .int (f j)), (fun z => by cases z), ?_, fun j hj => ?_⟩
    · show N ≤ (arrV (Γ.2.2.1 1) N (fun j => .int (f j))).slots.size
      rw [arrV_size]; exact Nat.le_refl _
    · show (arrV (Γ.2.2.1 1) N (fun j => .int (f j))).slots[j]? = _
      rw [arrV_read _ _ hj]
  · obtain ⟨cs, h1, h2, h3, h4, -, h5, -⟩ := (C.stat.2.2.2.2.2.1 _ hq).2.2.2.2.kept hS.2.1
    exact ⟨cs, h1, h2, h3, h4, h5⟩
theorem go_copyB {index a0 a N0 N1 sp dq K : Nat} {f g : Nat → Int32} (pc' : Nat) (hd : decode M.2.1 pc = .ok (.invokestatic index, 3)) (hl9 : Cond.methodLink M.1.cls index arraycopyName ∈ zGood) (h0 : SrcB Γ w a0 N0 f) (h1 : w.2 a = some (b5 Γ N1 g)) (hK0 : sp + K ≤ N0) (hK1 : dq + K ≤ N1) (hf : ∀ i, i < K → fits .byte (.int (f (sp + i))) = true) (hN0 : N0 < 2 ^ 31) (hN1 : N1 < 2 ^ 31) (hdp : 2 ≤ dp) (hst : (st.map fun v => v.category).sum ≤ 8) (kk : Go l Γ M dp mc ms Φ Ψ k n (wset w a (b5 Γ N1 (va_cpy f g sp dq K))) pc' L st) (hp : pc + 3 = pc' := by rfl) : Go l Γ M dp mc ms Φ Ψ k n w pc L (.int (nI K) :: .int (nI dq) :: .ref a :: .int (nI sp) :: .ref a0 :: st) := by
  subst hp
  intro p e s m args below meth c C H locs ls hl hH hS
  obtain ⟨cs, hc0, ⟨a1, k0, hk0, cm0, hkk0⟩, a3, a4, a5⟩ := h0.cell C hH hS
  obtain ⟨haG, hc1⟩ := hH.2.2 a _ h1
  have hc1 : H[a]? = some (vp_cell (Γ.2.2.1 1) (N1, .inl g)) := hc1
  have eK : (nI K).toNatClampNeg = K := nI_clamp (by omega)
  have eS : (nI sp).toNatClampNeg = sp := nI_clamp (by omega)
  have eD : (nI dq).toNatClampNeg = dq := nI_clamp (by omega)
  have tK : (nI K).toInt = (K : Int) := nI_toInt (by omega)
  have tS : (nI sp).toInt = (sp : Int) := nI_toInt (by omega)
  have tD : (nI dq).toInt = (dq : Int) := nI_toInt (by omega)
  intro T hT X
  obtain ⟨-, k1, hk1, cm1, hkk1⟩ := (C.arr 1 rfl).1 N1 (fun j => .int (g j))
  have hnf : nativeFrameWords "java/lang/System" "arraycopy" 5 + 11 ≤ 100 := by decide +kernel
  obtain ⟨vm', X', step⟩ := X.arraycopy C.1 C.own (C.good hl9) (C.good acNat) (C.good acStat) (C.good acIni) (src := a0) (dst := a) (cs := cs) (cd := vp_cell (Γ.2.2.1 1) (N1, .inl g)) (srcPos := nI sp) (destPos := nI dq) (n := nI K) (by rw [hT]; exact hc0) (by rw [hT]; exact hc1)
    a1 (fun _ h => by cases h) a3 (fun h => by cases h) hk0 hk1 hkk0 hkk1 (by simp [refKind]) (nI_pos (by omega)) (nI_pos (by omega)) (nI_pos (by omega))
    (by rw [tK, tS]; omega)
    (by rw [tK, tD]; show ¬ (dq : Int) + _ > ((arrV (Γ.2.2.1 1) N1 (fun j => .int (g j))).slots.size : Int); rw [arrV_size]; omega)
    (fun vm₁ _ i hi => by
      rw [eK] at hi
      have e9 : cs.slots.getD ((nI sp).toNatClampNeg + i) .null = .int (f (sp + i)) := by
        rw [Array.getD_eq_getD_getElem?, eS, a5 _ (by omega)]
        rfl
      rw [e9]
      exact ⟨hf i hi, trivial⟩)
    (g := F0 m pc ls (.int (nI K) :: .int (nI dq) :: .ref a :: .int (nI sp) :: .ref a0 :: st)) rfl (by rw [C.2.2.1]; exact hl.1) (rest := st) rfl (by rw [C.2.1]; exact hd) (by show 1 ≤ dp; omega) (by show 2 * 0 + _ + _ ≤ 64 * dp; omega)
  have e1 : copied cs (vp_cell (Γ.2.2.1 1) (N1, .inl g)) (nI sp) (nI dq) (nI K) = vp_cell (Γ.2.2.1 1) (N1, .inl (va_cpy f g (nI sp).toNatClampNeg (nI dq).toNatClampNeg (nI K).toNatClampNeg)) := va_copiedX (fun z => .int z) cs _ f g a5 (by rw [eK, eS]; omega)
  rw [eK, eS, eD] at e1
  rw [e1] at X' step
  have hl9 : a < H.size := (Array.getElem?_eq_some_iff.mp hc1).1
  generalize hZ : vp_cell (Γ.2.2.1 1) (N1, .inl (va_cpy f g sp dq K)) = Z at *
  have hheap : ((T.setVm vm').setCell a Z).heap = H.setIfInBounds a Z := by rw [← hT]; rfl
  have oq : ∀ q : Nat, q ≠ a → (H.setIfInBounds a Z)[q]? = H[q]? := fun q hq => by simp [Array.getElem?_setIfInBounds, Ne.symm hq]
  obtain ⟨t, b1, b2⟩ := kk p e s m args below meth c C _ _ ls hl (hH.set (H1 := H.setIfInBounds a Z) haG (show (H.setIfInBounds a Z)[a]? = some (vp_cell _ _) by rw [hZ]; simp [Array.getElem?_setIfInBounds, hl9]) (by simp) oq) ⟨by simp; exact hS.1, fun q g1 g2 => by
      rw [oq q (fun e => g2 (by rw [e]; exact haG))]
      exact hS.2.1 q g1 g2, fun q hq => by
      rcases List.mem_append.mp hq with h | h
      · exact hS.2.2 q h
      · obtain ⟨z, -, hz⟩ := List.mem_map.mp h
        rw [← hz]
        exact haG⟩ _ hheap X'
  exact ⟨t, step t b1, b2⟩
theorem go_ineg {x : Int32} (pc' : Nat) (hd : decode M.2.1 pc = .ok (.ineg, 1)) (kk : Go l Γ M dp mc ms Φ Ψ k n w pc' L (.int (-x) :: st)) (hp : pc + 1 = pc' := by rfl) : Go l Γ M dp mc ms Φ Ψ k n w pc L (.int x :: st) := by
  subst hp
  exact fun p e s m args below meth c C H locs ls hl hH hS => lv_ineg C.1 C.2.1 hd (kk p e s m args below meth c C H locs ls hl hH hS)
/-- a text as bytes -/
def BOf (f : Nat → Int32) (tx : List Nat) : Prop := ∀ j, j < tx.length → f j = nI (tx.getD j 0)
def Asc (tx : List Nat) : Prop := ∀ c ∈ tx, c < 128
/-- a string: a constant, or one made -/
def StrAt (Γ : ZG) (w : ZW) (r : Nat) (tx : List Nat) : Prop := Asc tx ∧ ((∃ q ∈ zStr, r = Γ.2.2.2.1 q.1 q.2.1 ∧ tx = chs q.2.2) ∨ ∃ a f h z, w.2 r = some (.inr (11, [.ref a, .int 0, .int h, .int z])) ∧ w.2 a = some (b5 Γ tx.length f) ∧ BOf f tx)
theorem fit_asc {c : Nat} (h : c < 128) : fits .byte (.int (nI c)) = true := by
  have : ∀ c, c < 128 → fits .byte (.int (nI c)) = true := by decide +kernel
  exact this c h
theorem chs_len {t : String} : (chs t).length = t.length := by
  unfold chs
  rw [List.length_map, String.length_toList]
theorem zch_chs {t : String} {j : Nat} : zch t j = nI ((chs t).getD j 0) := rfl
theorem go_callStr {index r : Nat} {tx : List Nat} (pc' : Nat) (As : List Value) (hd : decode M.2.1 pc = .ok (.invokevirtual index, 3)) (V : zV M.1.cls index M' As.length) (hr : StrAt Γ w r tx) (hc : M'.1.cls = "java/lang/String") (hct : Ct l Γ M' d' 0 0 (.ref r :: As) w Φ' zNo) (hdp : d' + 1 ≤ dp) (hL : M'.2.2.1 ≤ 40) (h1 : k ≤ mc) (h2 : n ≤ ms) (hst : (st.map fun v => v.category).sum ≤ 8)
    (kk : ∀ (v : Option Value) (w' : ZW), Φ' v w' → Go l Γ M dp mc ms Φ Ψ k n w' pc' L (v.toList ++ st)) (hp : pc + 3 = pc' := by rfl) : Go l Γ M dp mc ms Φ Ψ k n w pc L (As.reverse ++ .ref r :: st) := by
  rcases hr.2 with ⟨q, hq, rfl, -⟩ | ⟨a, f, h, z, g1, -⟩
  · exact go_callVS pc' As hd V hq hc hct hdp hL h1 h2 hst kk hp
  · exact go_callV pc' As hd V g1 (by rw [hc]; rfl) hct hdp hL h1 h2 hst kk hp
theorem go_getStrV {index r : Nat} {tx : List Nat} (pc' : Nat) (hd : decode M.2.1 pc = .ok (.getfield index, 3)) (hr : StrAt Γ w r tx) (hl9 : Cond.fieldLink M.1.cls index "java/lang/String" "value" "[B" ∈ zGood) (F : zF M.1.cls index 11 0) (kk : ∀ a f, SrcB Γ w a tx.length f → BOf f tx → Go l Γ M dp mc ms Φ Ψ k n w pc' L (.ref a :: st)) (hp : pc + 3 = pc' := by rfl) : Go l Γ M dp mc ms Φ Ψ k n w pc L (.ref r :: st) := by
  rcases hr.2 with ⟨q, hq, rfl, rfl⟩ | ⟨a, f, h, z, g1, g2, g3⟩
  · exact go_getSV pc' hd hq hl9 (kk _ (zch q.2.2) (Or.inr ⟨q, hq, rfl, chs_len, rfl⟩) (fun j _ => zch_chs)) hp
  · exact go_get pc' hd F g1 rfl (kk a f (Or.inl g2) g3) hp
theorem go_getStrC {index r : Nat} {tx : List Nat} (pc' : Nat) (hd : decode M.2.1 pc = .ok (.getfield index, 3)) (hr : StrAt Γ w r tx) (hl9 : Cond.fieldLink M.1.cls index "java/lang/String" "coder" "B" ∈ zGood) (F : zF M.1.cls index 11 1) (kk : Go l Γ M dp mc ms Φ Ψ k n w pc' L (.int 0 :: st)) (hp : pc + 3 = pc' := by rfl) : Go l Γ M dp mc ms Φ Ψ k n w pc L (.ref r :: st) := by
  rcases hr.2 with ⟨q, hq, rfl, rfl⟩ | ⟨a, f, h, z, g1, g2, g3⟩
  · exact go_getSC pc' hd hq hl9 kk hp
  · exact go_get pc' hd F g1 rfl kk hp
theorem go_lenB {a N : Nat} {f : Nat → Int32} (pc' : Nat) (hd : decode M.2.1 pc = .ok (.arraylength, 1)) (hs : SrcB Γ w a N f) (kk : Go l Γ M dp mc ms Φ Ψ k n w pc' L (.int (nI N) :: st)) (hp : pc + 1 = pc' := by rfl) : Go l Γ M dp mc ms Φ Ψ k n w pc L (.ref a :: st) := by
  rcases hs with h | ⟨q, hq, rfl, rfl, rfl⟩
  · exact go_alen (t0 := 1) pc' hd h rfl rfl kk hp
  · exact go_lenS pc' hd hq kk hp
theorem go_baldB {a N i : Nat} {f : Nat → Int32} (pc' : Nat) (hd : decode M.2.1 pc = .ok (.baload, 1)) (hs : SrcB Γ w a N f) (hi : i < N) (hN : N < 2 ^ 31) (kk : Go l Γ M dp mc ms Φ Ψ k n w pc' L (.int (f i) :: st)) (hp : pc + 1 = pc' := by rfl) : Go l Γ M dp mc ms Φ Ψ k n w pc L (.int (nI i) :: .ref a :: st) := by
  rcases hs with h | ⟨q, hq, rfl, rfl, rfl⟩
  · refine go_bald pc' hd h (vp_in_nI hi hN) ?_ hp
    rw [nI_clamp (by omega)]
    exact kk
  · exact go_baldS pc' hd hq hi (by omega) kk hp
end
end LStr
