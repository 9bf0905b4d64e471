section LSbr
def zVp (own : String) (idx : Nat) (M : ZM) (n : Nat) : Prop := Cond.methodLink own idx M.1 ∈ zGood ∧ Cond.instanceMethod M.1 ∈ zGood ∧ Cond.privateMethod M.1 ∈ zNest ∧ M.1.cls = "java/lang/AbstractStringBuilder" ∧ zY M ∧ (parseMethodDescriptor M.1.desc).map (fun d => d.parameters.length) = some n ∧ M.2.2.2.2 = []
def zVu (own : String) (idx : Nat) (M : ZM) (n : Nat) : Prop := Cond.methodLink own idx M.1 ∈ zGood ∧ Cond.instanceMethod M.1 ∈ zGood ∧ M.1.cls = "java/lang/AbstractStringBuilder" ∧ own = "java/lang/StringBuilder" ∧ M.1.name ≠ "<init>" ∧ zY M ∧ (parseMethodDescriptor M.1.desc).map (fun d => d.parameters.length) = some n ∧ M.2.2.2.2 = []
def zVh (own : String) (idx : Nat) (M : ZM) (n : Nat) : Prop := Cond.methodLink own idx M.1 ∈ zGood ∧ Cond.instanceMethod M.1 ∈ zGood ∧ Cond.sameMethod M.1.cls M.1.cls M.1.name M.1.desc ∈ zGood ∧ Cond.selects "java/lang/StringBuilder" M.1 M.1 ∈ zGood ∧ zY M ∧ (parseMethodDescriptor M.1.desc).map (fun d => d.parameters.length) = some n ∧ M.2.2.2.2 = []

theorem sbSame : Cond.sameMethod "java/lang/AbstractStringBuilder" "java/lang/AbstractStringBuilder" "isLatin1" "()Z" ∈ zGood := zGood.mem 1226 (by decide +kernel) rfl

theorem sbSup : Cond.superclass "java/lang/StringBuilder" "java/lang/AbstractStringBuilder" ∈ zGood := zGood.mem 1184 (by decide +kernel) rfl

theorem sb_same {s : State} {args : Array Value} {y : MethodName} {mk : MethodId} (hn : s.methodNamed? y = some mk) (hy : y.cls ≠ "java/lang/invoke/MethodHandle" ∧ y.cls ≠ "java/lang/invoke/VarHandle") {c : ClassId} {k : Class} (hc : s.vm.findClass y.cls = some c) (hk : s.vm.classes[c]? = some k) (hni : k.isInterface = false) : (Cond.sameMethod y.cls y.cls y.name y.desc).before args s = true := by
  have hf : s.methodFound? y.cls y.name y.desc = some mk := State.methodFound?_of_named hn hy
  have hn' : s.methodNamed? ⟨y.cls, y.name, y.desc⟩ = some mk := hn
  simp [Cond.before, Cond.holds, Cond.value, hc, hf, hn', hk, hni]
section
variable {l : Launch} {Γ : ZG} {M M' : ZM} {dp mc ms d' mc' ms' : Nat} {Φ Φ' : Option Value → ZW → Prop} {Ψ : String → ZW → Prop} {k n : Nat} {w : ZW} {pc : Nat} {L : ZL} {st : List Value}
theorem go_callP {index b : Nat} {fs : List Value} (pc' : Nat) (As : List Value) (hd : decode M.2.1 pc = .ok (.invokevirtual index, 3)) (V : zVp M.1.cls index M' As.length) (hw : w.2 b = some (.inr (12, fs))) (hct : Ct l Γ M' d' mc' ms' (.ref b :: As) w Φ' zNo) (hdp : d' + 1 ≤ dp) (hL : M'.2.2.1 ≤ 40) (h1 : k + mc' ≤ mc) (h2 : n + ms' ≤ ms) (hst : (st.map fun v => v.category).sum ≤ 8)
    (kk : ∀ (v : Option Value) (w' : ZW), Φ' v w' → Go l Γ M dp mc ms Φ Ψ (k + mc') (n + ms') w' pc' L (v.toList ++ st)) (hp : pc + 3 = pc' := by rfl) : Go l Γ M dp mc ms Φ Ψ k n w pc L (As.reverse ++ .ref b :: st) := by
  subst hp
  intro p e s m args below meth c C H locs ls hl hH hS
  obtain ⟨v1, v2, v3, v3', ⟨v4, v5, v6, v7⟩, v8, v9⟩ := V
  have hr := zroom (mc := mc) (ms := ms) (mc' := mc') (ms' := ms') hdp hL
  have hcode : Cond.code M'.1 M'.2.1 M'.2.2.1 M'.2.2.2.1 ∈ zwA M' := by rw [zwA.eq v9]; exact List.mem_cons_self
  have hcg : (Cond.code M'.1 M'.2.1 M'.2.2.1 M'.2.2.2.1).before args s = true := by
    have := zwA.of v4 _ hcode
    exact C.good this
  obtain ⟨cB, kB, q1, q2, q3⟩ := Cond.sameMethod_class (C.good sbSame)
  have q1 : s.vm.findClass M'.1.cls = some cB := by rw [v3']; exact q1
  have hpriv := Cond.privateMethod_at (C.stat.2.1 _ v3)
  have hsel : (Cond.selects M'.1.cls M'.1 M'.1).before args s = true := Jvm.Stand.selects_self_of_private q1 q2 q3 hpriv (C.good v2) ⟨v6, v7⟩
  have hK : Back l (zRm dp mc ms) p e below s args M'.1 3 8 (PreOf (zRm dp mc ms) mc' ms' (zPc Γ (.ref b :: As) w)) (PostOf (zQ Γ Φ') mc' ms' (zA Γ)) := back_of (bytes := M'.2.1) (maxL := M'.2.2.1) (ret := M'.2.2.2.1) (zMet (hct C.2.2.2.2.2.2.2.2.2.2.2)) zPc.blind rfl rfl hr.1 hr.2 (pay_in C.2.2.2.2.1 (zwA.sub (zwA.of v4))) hcode (fun a' U hW => word_at hW (Or.inl (by first | rfl | simp [Cond.onTables, Cond.keeps, Cond.steady])) (C.good v5))
  obtain ⟨cell, g1, g2, g3⟩ := zrecv C hH hw (show (vwCl[12]?).map (fun q => q.1) = some RJ4 from rfl)
  refine zrun C hl hS (a := (Value.ref b :: As).toArray) ?_ kk
  intro T hT X
  obtain ⟨v, vm₁, ⟨U', l2, c2, s2⟩, hW₁, X', ⟨g', mk, t, L9, e1, e2, hq, z1, hL9, z2, z3⟩, hx⟩ := X.privateBack C.1 C.own (C.good v1) (C.good v2) hsel hpriv hcg ⟨v6, v7⟩ hK (g := F0 m pc ls (As.reverse ++ .ref b :: st)) rfl (hl.1.trans C.2.2.1.symm) (Steps.refl _) (a := b) (cell := cell) (by rw [hT]; exact g1) (fun z hz => by rw [hz] at g2; cases g2) (argsL := As) (rest := st) (fun sig h => by rw [h] at v8; exact (Option.some.inj v8).symm) rfl (by show 2 * 0 + _ ≤ 8; omega) (by rw [C.2.1]; exact hd) (fun vm₁ hW₁ => ⟨h1, h2, zpre C hH hS (T.setVm vm₁) hT hW₁⟩)
  dsimp only [Pt.U, Pt.locs, Pt.cells, Pt.slots] at X' e1 e2 z1 z2 z3 hx
  subst z1; subst z2; subst z3
  exact ⟨v, (T.setVm vm₁).calling g' mk (Value.ref b :: As).toArray, t, U', L9, hT, X', hL9, e1, e2, hq, fun target h => hx.trans h⟩
/-- a method of the superclass, called on this -/
theorem go_callU {index b : Nat} {fs : List Value} (pc' : Nat) (As : List Value) (hd : decode M.2.1 pc = .ok (.invokespecial index, 3)) (V : zVu M.1.cls index M' As.length) (hw : w.2 b = some (.inr (12, fs))) (hct : Ct l Γ M' d' mc' ms' (.ref b :: As) w Φ' zNo) (hdp : d' + 1 ≤ dp) (hL : M'.2.2.1 ≤ 40) (h1 : k + mc' ≤ mc) (h2 : n + ms' ≤ ms) (hst : (st.map fun v => v.category).sum ≤ 8)
    (kk : ∀ (v : Option Value) (w' : ZW), Φ' v w' → Go l Γ M dp mc ms Φ Ψ (k + mc') (n + ms') w' pc' L (v.toList ++ st)) (hp : pc + 3 = pc' := by rfl) : Go l Γ M dp mc ms Φ Ψ k n w pc L (As.reverse ++ .ref b :: st) := by
  subst hp
  intro p e s m args below meth c C H locs ls hl hH hS
  obtain ⟨v1, v2, v3', v3o, v3i, ⟨v4, v5, v6, v7⟩, v8, v9⟩ := V
  have hr := zroom (mc := mc) (ms := ms) (mc' := mc') (ms' := ms') hdp hL
  have hcode : Cond.code M'.1 M'.2.1 M'.2.2.1 M'.2.2.2.1 ∈ zwA M' := by rw [zwA.eq v9]; exact List.mem_cons_self
  have hcg : (Cond.code M'.1 M'.2.1 M'.2.2.1 M'.2.2.2.1).before args s = true := C.good (zwA.of v4 _ hcode)
  obtain ⟨cB, kB, q1, q2, q3⟩ := Cond.sameMethod_class (C.good sbSame)
  have q1 : s.vm.findClass M'.1.cls = some cB := by rw [v3']; exact q1
  obtain ⟨mk, methM, hnamed, -, -, -⟩ := Cond.instanceMethod_spec (C.good v2)
  have hsame := sb_same (args := args) hnamed ⟨v6, v7⟩ q1 q2 q3
  have hsup : (Cond.superclass M.1.cls M'.1.cls).before args s = true := by rw [v3', v3o]; exact C.good sbSup
  have hrec := zrecv C hH hw (show (vwCl[12]?).map (fun q => q.1) = some RJ4 from rfl)
  exact zrun C hl hS (va_runSU (C := RJ4) (As := As) (C.stat.1.1 12 _ rfl).2 ⟨C.1, C.2.1, C.2.2.1, C.own, C.2.2.2.2.1⟩ (zMet (hct C.2.2.2.2.2.2.2.2.2.2.2)) ⟨⟨rfl, rfl, hr.1, hr.2, pay_in C.2.2.2.2.1 (zwA.sub (zwA.of v4)), hcode⟩, C.good v1, hsame, hsup, C.good v2, C.good v5, hcg, v3i, fun sig h => by rw [h] at v8; exact (Option.some.inj v8).symm⟩ ⟨zPc.blind, hrec, zpre C hH hS⟩ rfl rfl hl.1 rfl (by show 2 * 0 + _ ≤ 8; omega) hd ⟨h1, h2⟩) kk
/-- an inherited method -/
theorem go_callH {index b : Nat} {fs : List Value} (pc' : Nat) (As : List Value) (hd : decode M.2.1 pc = .ok (.invokevirtual index, 3)) (V : zVh M.1.cls index M' As.length) (hw : w.2 b = some (.inr (12, fs))) (hct : Ct l Γ M' d' mc' ms' (.ref b :: As) w Φ' zNo) (hdp : d' + 1 ≤ dp) (hL : M'.2.2.1 ≤ 40) (h1 : k + mc' ≤ mc) (h2 : n + ms' ≤ ms) (hst : (st.map fun v => v.category).sum ≤ 8)
    (kk : ∀ (v : Option Value) (w' : ZW), Φ' v w' → Go l Γ M dp mc ms Φ Ψ (k + mc') (n + ms') w' pc' L (v.toList ++ st)) (hp : pc + 3 = pc' := by rfl) : Go l Γ M dp mc ms Φ Ψ k n w pc L (As.reverse ++ .ref b :: st) := by
  subst hp
  intro p e s m args below meth c C H locs ls hl hH hS
  obtain ⟨v1, v2, v3, v3s, ⟨v4, v5, v6, v7⟩, v8, v9⟩ := V
  have hrec := zrecv C hH hw (show (vwCl[12]?).map (fun q => q.1) = some RJ4 from rfl)
  have hT : GoodIn (zwA M) (va_wsU M.1.cls index RJ4 M'.1.cls M'.1 M'.1 (zwA M')) := zwA.sub (fun x hx => by
    rcases List.mem_append.mp hx with h | h
    · simp only [List.mem_cons, List.not_mem_nil, or_false] at h
      rcases h with rfl | rfl | rfl | rfl | rfl <;> assumption
    · exact zwA.of v4 x h)
  exact zrun C hl hS (va_runU (C := RJ4) (owner := M'.1.cls) (x := M'.1) (As := As) ⟨C.1, C.2.1, C.2.2.1, C.own, C.2.2.2.2.1⟩ (zMet (hct C.2.2.2.2.2.2.2.2.2.2.2)) (va_cwU As.length C.2.2.2.2.1 hT (zwA.eq v9) rfl rfl rfl ⟨v6, v7, v8⟩ (zroom hdp hL)) ⟨zPc.blind, hrec, zpre C hH hS⟩ rfl rfl hl.1 rfl (by show 2 * 0 + _ ≤ 8; omega) hd ⟨h1, h2⟩) kk
end
end LSbr
