section GoCalls
variable {l : Launch} {Γ : ZG} {M M' : ZM} {dp mc ms d' mc' ms' : Nat} {Φ Φ' : Option Value → ZW → Prop} {Ψ Ψ' : String → ZW → Prop} {k n : Nat} {w : ZW} {pc : Nat} {L : ZL} {st : List Value}
def zY (M : ZM) : Prop := zcode M ∈ zGood ∧ Cond.initialized M.1.cls ∈ zGood ∧ M.1.cls ≠ "java/lang/invoke/MethodHandle" ∧ M.1.cls ≠ "java/lang/invoke/VarHandle"
def zV (own : String) (idx : Nat) (M : ZM) (n : Nat) : Prop := Cond.methodLink own idx M.1 ∈ zGood ∧ Cond.instanceMethod M.1 ∈ zGood ∧ Cond.selects M.1.cls M.1 M.1 ∈ zGood ∧ zY M ∧ (parseMethodDescriptor M.1.desc).map (fun d => d.parameters.length) = some n ∧ M.2.2.2.2 = []
def zVs (own : String) (idx : Nat) (M : ZM) (n : Nat) : Prop := Cond.methodLink own idx M.1 ∈ zGood ∧ Cond.static M.1 ∈ zGood ∧ zY M ∧ (parseMethodDescriptor M.1.desc).map (fun d => d.parameters.length) = some n
def zVi (own : String) (idx : Nat) (M : ZM) (n : Nat) : Prop := Cond.methodLink own idx M.1 ∈ zGood ∧ Cond.instanceMethod M.1 ∈ zGood ∧ M.1.name = "<init>" ∧ zY M ∧ (parseMethodDescriptor M.1.desc).map (fun d => d.parameters.length) = some n ∧ M.2.2.2.2 = [] ∧ M.2.2.2.1 = none
theorem zGood.good {w : Cond} (h : w ∈ zGood) : goodWord w = true := (List.mem_filter.mp h).2
theorem zwA.sub {ws : List Cond} (h : ∀ w ∈ ws, w ∈ zGood) : GoodIn (zwA M) ws := fun w hw => ⟨List.mem_cons_of_mem _ (h w hw), good_of_word (zGood.good (h w hw))⟩
theorem zwA.of (h : zcode M' ∈ zGood) : ∀ w ∈ zwA M', w ∈ zGood := by
  intro w hw
  rcases List.mem_cons.mp hw with rfl | hw
  · exact h
  · exact hw
theorem zwA.eq (h : M'.2.2.2.2 = []) : zwA M' = Cond.code M'.1 M'.2.1 M'.2.2.1 M'.2.2.2.1 :: zGood := by unfold zwA zcode; rw [h]
theorem zMet {l : Launch} {y : MethodName} {ws : List Cond} {rm : Room} {Pc : Array Value → State → Prop} {Qc : Array Value → State → Outcome → State → Prop} {mc ms : Nat} {free : Addr → Prop} (h : vx_Met l y ws rm Pc Qc (zX Γ zNo) mc ms free) : Met l y ws rm Pc Qc mc ms free := by
  intro p e ha hc hk s m args below hf happ hp hK
  obtain ⟨n, o, h1, h2, h3, h4⟩ := h p e ha hc hk s m args below hf happ hp hK
  refine ⟨n, o, h1, h2, h3, ?_⟩
  rcases h4 with h4 | ⟨q, -, E, ce, L, ⟨w', hf, -⟩, -⟩
  · exact h4
  · exact hf.elim
theorem zpre {p : Program} {s : State} {m : MethodId} {args : Array Value} {meth : Method} {c : Code} {H : Heap} {locs : List Loc} {as : List Value} (C : zC l Γ M p s m args meth c) (hH : zH Γ w H) (hS : va_S (zA Γ) s.heap H locs) : ∀ U : State, U.heap = H → s.WarmedH U.vm → zPc Γ as w as.toArray U := by
  intro U hU hW
  refine ⟨rfl, ?_, by rw [hU]; exact hH⟩
  rw [hU]
  exact zS.go hW C.stat C.big (fun q hq => hS.2.1 q (Nat.lt_of_lt_of_le hq C.big) (Nat.not_le.mpr hq))
theorem zafter {s st₀ t T' : State} {H : Heap} {locs L9 : List Loc} (h0 : st₀.heap = H) (hS : va_S (zA Γ) s.heap H locs) (hg : Γ.1 ≤ s.heap.size) (e1 : T'.heap = t.heap) (hz : st₀.heap.size ≤ t.heap.size) (hlow : ∀ q : Nat, q < Γ.1 → t.heap[q]? = st₀.heap[q]?) (hL : ∀ q ∈ L9, zA Γ q.base) : va_S (zA Γ) s.heap T'.heap (locs ++ L9) := by
  rw [h0] at hz hlow
  refine ⟨Nat.le_trans hS.1 (by rw [e1]; exact hz), fun q g1 g2 => ?_, fun q hq => ?_⟩
  · rw [e1, hlow q (Nat.lt_of_not_le g2)]
    exact hS.2.1 q g1 g2
  · rcases List.mem_append.mp hq with h | h
    · exact hS.2.2 q h
    · exact hL q h
theorem zrun {p : Program} {e : Env} {s : State} {m : MethodId} {args : Array Value} {below : List Frame} {meth : Method} {c : Code} {H : Heap} {locs : List Loc} {ls : Array Slot} {st0 : List Value} {a : Array Value} (C : zC l Γ M p s m args meth c) (hl : lv_has ls M.2.2.1 L) (hS : va_S (zA Γ) s.heap H locs)
    (hr : va_Run p l e (zRm dp mc ms) s m args below meth c H locs k n mc' ms' (F0 m pc ls st0) st (zQ Γ Φ' a) (zA Γ)) (kk : ∀ (v : Option Value) (w' : ZW), Φ' v w' → Go l Γ M dp mc ms Φ Ψ (k + mc') (n + ms') w' (pc + 3) L (v.toList ++ st)) :
    W p l e (zRm dp mc ms) s m args below meth c H locs k n (vx_MQ below (zQ Γ Φ) (zX Γ Ψ) args s mc ms (zA Γ)) (F0 m pc ls st0) := by
  intro T hT X
  obtain ⟨v, st₀, t, T', L9, h0, X', hL, e1, e2, ⟨v2, w', hv, hΦ, hH', hz, hlow⟩, stp⟩ := hr T hT X
  cases hv
  obtain ⟨t2, a1, b1⟩ := kk v w' hΦ p e s m args below meth c C T'.heap (locs ++ L9) ls hl (by rw [e1]; exact hH') (zafter h0 hS C.big e1 hz hlow hL) T' rfl X'
  exact ⟨t2, stp t2 a1, b1⟩
theorem zrunX {p : Program} {e : Env} {s : State} {m : MethodId} {args : Array Value} {below : List Frame} {meth : Method} {c : Code} {H : Heap} {locs : List Loc} {ls : Array Slot} {st0 : List Value} {a : Array Value} (C : zC l Γ M p s m args meth c) (hl : lv_has ls M.2.2.1 L) (hS : va_S (zA Γ) s.heap H locs)
    (hr : vx_Run p l e (zRm dp mc ms) s m args below meth c H locs k n mc' ms' (F0 m pc ls st0) st (zQ Γ Φ' a) (zX Γ Ψ') (zA Γ)) (kk : ∀ (v : Option Value) (w' : ZW), Φ' v w' → Go l Γ M dp mc ms Φ Ψ (k + mc') (n + ms') w' (pc + 3) L (v.toList ++ st))
    (kx : ∀ (E : String) (w' : ZW) (H1 : Heap) (locs1 : List Loc) (q : Nat) (ce : Cell), Ψ' E w' → zH Γ w' H1 → va_S (zA Γ) s.heap H1 locs1 → H1[q]? = some ce → ce.vm = .none → s.vm.findClass E = some ce.cls → vx_W p l e (zRm dp mc ms) s m args below meth c H1 locs1 (k + mc') (n + ms') (vx_MQ below (zQ Γ Φ) (zX Γ Ψ) args s mc ms (zA Γ)) (F0 m pc ls st) q) :
    W p l e (zRm dp mc ms) s m args below meth c H locs k n (vx_MQ below (zQ Γ Φ) (zX Γ Ψ) args s mc ms (zA Γ)) (F0 m pc ls st0) := by
  intro T hT X
  rcases hr T hT X with ⟨v, st₀, t, T', L9, h0, X', hL, e1, e2, ⟨v2, w', hv, hΦ, hH', hz, hlow⟩, stp⟩ | ⟨q, st₀, t, T', L9, E, ce, h0, X', hL, e1, e2, ⟨w', hΨ, hH', hz, hlow⟩, hce, hcv, hcl, stp⟩
  · cases hv
    obtain ⟨t2, a1, b1⟩ := kk v w' hΦ p e s m args below meth c C T'.heap (locs ++ L9) ls hl (by rw [e1]; exact hH') (zafter h0 hS C.big e1 hz hlow hL) T' rfl X'
    exact ⟨t2, stp t2 a1, b1⟩
  · obtain ⟨t2, a1, b1⟩ := kx E w' T'.heap (locs ++ L9) q ce hΨ (by rw [e1]; exact hH') (zafter h0 hS C.big e1 hz hlow hL) (by rw [e1]; exact hce) hcv hcl T' rfl X'
    exact ⟨t2, stp.trans a1, b1⟩
theorem zroom (hdp : d' + 1 ≤ dp) (hL : M'.2.2.1 ≤ 40) : (zRm d' mc' ms').frames + 1 ≤ (zRm dp mc ms).frames ∧ 8 + (M'.2.2.1 + 11) + (zRm d' mc' ms').locals ≤ (zRm dp mc ms).locals := by
  refine ⟨hdp, ?_⟩
  show 8 + (M'.2.2.1 + 11) + 64 * d' ≤ 64 * dp
  omega
theorem zrecv {p : Program} {s : State} {m : MethodId} {args : Array Value} {meth : Method} {c : Code} {H : Heap} {b ci : Nat} {fs : List Value} {cn : String} (C : zC l Γ M p s m args meth c) (hH : zH Γ w H) (hw : w.2 b = some (.inr (ci, fs))) (hc : (vwCl[ci]?).map (fun q => q.1) = some cn) : ∃ cell : Cell, H[b]? = some cell ∧ cell.vm.isStatics = false ∧ s.vm.findClass cn = some cell.cls := by
  cases hq : vwCl[ci]? with
  | none => rw [hq] at hc; cases hc
  | some q =>
    rw [hq] at hc
    cases hc
    exact va_recv C.stat.1 (zH.one hH hw) hq (q0 := 0) rfl
theorem go_callVX {index b ci : Nat} {fs : List Value} (pc' : Nat) (As : List Value) (hd : decode M.2.1 pc = .ok (.invokevirtual index, 3)) (V : zV M.1.cls index M' As.length) (hw : w.2 b = some (.inr (ci, fs))) (hc : (vwCl[ci]?).map (fun q => q.1) = some M'.1.cls) (hct : Ct l Γ M' d' mc' ms' (.ref b :: As) w Φ' Ψ') (hdp : d' + 1 ≤ dp) (hL : M'.2.2.1 ≤ 40) (h1 : k + mc' ≤ mc) (h2 : n + ms' ≤ ms) (hst : (st.map fun v => v.category).sum ≤ 8) (hh : M.2.2.2.2 = [])
    (hx : ∀ (E : String) (w' : ZW), Ψ' E w' → Ψ E w') (kk : ∀ (v : Option Value) (w' : ZW), Φ' v w' → Go l Γ M dp mc ms Φ Ψ (k + mc') (n + ms') w' pc' L (v.toList ++ st)) (hp : pc + 3 = pc' := by rfl) : Go l Γ M dp mc ms Φ Ψ k n w pc L (As.reverse ++ .ref b :: st) := by
  subst hp
  intro p e s m args below meth c C H locs ls hl hH hS
  obtain ⟨v1, v2, v3, ⟨v4, v5, v6, v7⟩, v8, v9⟩ := V
  have hT : GoodIn (zwA M) (wsV M.1.cls index M'.1.cls M'.1 (zwA M')) := zwA.sub (fun x hx => by
    rcases List.mem_append.mp hx with h | h
    · simp only [List.mem_cons, List.not_mem_nil, or_false] at h
      rcases h with rfl | rfl | rfl | rfl <;> assumption
    · exact zwA.of v4 x h)
  have hlocks : meth.locks = false := C.2.2.2.2.2.2.1
  refine zrunX C hl hS (vx_runV (C := M'.1.cls) (As := As) ⟨C.1, C.2.1, C.2.2.1, C.own, C.2.2.2.2.1⟩ (hct C.2.2.2.2.2.2.2.2.2.2.2) (cwV As.length C.2.2.2.2.1 hT (zwA.eq v9) rfl rfl ⟨rfl, v6, v7, v8⟩ (zroom hdp hL)) ⟨zPc.blind, zrecv C hH hw hc, zpre C hH hS⟩ rfl rfl hl.1 rfl (by show 2 * 0 + _ ≤ 8; omega) hd ⟨h1, h2⟩) kk ?_
  intro E w' H1 locs1 q ce hΨ hH1 hS1 g1 g2 g3
  refine vx_out (fun x hx9 => ?_) hlocks g1 g2 g3 (fun t ht _ => ⟨w', hx E w' hΨ, by rw [ht]; exact hH1, by rw [ht]; exact hS1.1, fun q hq => by rw [ht]; exact hS1.2.1 q (Nat.lt_of_lt_of_le hq C.big) (Nat.not_le.mpr hq)⟩) hS1.2.2 h1 h2
  rw [C.2.2.2.2.2.2.2.2.2.2.1, hh] at hx9
  cases hx9
theorem go_callV {index b ci : Nat} {fs : List Value} (pc' : Nat) (As : List Value) (hd : decode M.2.1 pc = .ok (.invokevirtual index, 3)) (V : zV M.1.cls index M' As.length) (hw : w.2 b = some (.inr (ci, fs))) (hc : (vwCl[ci]?).map (fun q => q.1) = some M'.1.cls) (hct : Ct l Γ M' d' mc' ms' (.ref b :: As) w Φ' zNo) (hdp : d' + 1 ≤ dp) (hL : M'.2.2.1 ≤ 40) (h1 : k + mc' ≤ mc) (h2 : n + ms' ≤ ms) (hst : (st.map fun v => v.category).sum ≤ 8)
    (kk : ∀ (v : Option Value) (w' : ZW), Φ' v w' → Go l Γ M dp mc ms Φ Ψ (k + mc') (n + ms') w' pc' L (v.toList ++ st)) (hp : pc + 3 = pc' := by rfl) : Go l Γ M dp mc ms Φ Ψ k n w pc L (As.reverse ++ .ref b :: st) := by
  subst hp
  intro p e s m args below meth c C H locs ls hl hH hS
  obtain ⟨v1, v2, v3, ⟨v4, v5, v6, v7⟩, v8, v9⟩ := V
  have hT : GoodIn (zwA M) (wsV M.1.cls index M'.1.cls M'.1 (zwA M')) := zwA.sub (fun x hx => by
    rcases List.mem_append.mp hx with h | h
    · simp only [List.mem_cons, List.not_mem_nil, or_false] at h
      rcases h with rfl | rfl | rfl | rfl <;> assumption
    · exact zwA.of v4 x h)
  exact zrun C hl hS (va_runV (C := M'.1.cls) (As := As) ⟨C.1, C.2.1, C.2.2.1, C.own, C.2.2.2.2.1⟩ (zMet (hct C.2.2.2.2.2.2.2.2.2.2.2)) (cwV As.length C.2.2.2.2.1 hT (zwA.eq v9) rfl rfl ⟨rfl, v6, v7, v8⟩ (zroom hdp hL)) ⟨zPc.blind, zrecv C hH hw hc, zpre C hH hS⟩ rfl rfl hl.1 rfl (by show 2 * 0 + _ ≤ 8; omega) hd ⟨h1, h2⟩) kk
theorem zwsS {own : String} {index : Nat} (v1 : Cond.methodLink own index M'.1 ∈ zGood) (v2 : Cond.static M'.1 ∈ zGood) (v4 : zcode M' ∈ zGood) (v5 : Cond.initialized M'.1.cls ∈ zGood) : GoodIn (zwA M) (va_wsS own index M'.1 (zwA M')) := zwA.sub (fun x hx => by
    rcases List.mem_append.mp hx with h | h
    · simp only [List.mem_cons, List.not_mem_nil, or_false] at h
      rcases h with rfl | rfl | rfl <;> assumption
    · exact zwA.of v4 x h)
theorem go_callS {index : Nat} (pc' : Nat) (As : List Value) (hd : decode M.2.1 pc = .ok (.invokestatic index, 3)) (V : zVs M.1.cls index M' As.length) (hh : M'.2.2.2.2 = []) (hct : Ct l Γ M' d' mc' ms' As w Φ' zNo) (hdp : d' + 1 ≤ dp) (hL : M'.2.2.1 ≤ 40) (h1 : k + mc' ≤ mc) (h2 : n + ms' ≤ ms) (hst : (st.map fun v => v.category).sum ≤ 8)
    (kk : ∀ (v : Option Value) (w' : ZW), Φ' v w' → Go l Γ M dp mc ms Φ Ψ (k + mc') (n + ms') w' pc' L (v.toList ++ st)) (hp : pc + 3 = pc' := by rfl) : Go l Γ M dp mc ms Φ Ψ k n w pc L (As.reverse ++ st) := by
  subst hp
  intro p e s m args below meth c C H locs ls hl hH hS
  obtain ⟨v1, v2, ⟨v4, v5, v6, v7⟩, v8⟩ := V
  exact zrun C hl hS (va_runS (As := As) ⟨C.1, C.2.1, C.2.2.1, C.own, C.2.2.2.2.1⟩ (zMet (hct C.2.2.2.2.2.2.2.2.2.2.2)) (va_cwS As.length C.2.2.2.2.1 (zwsS v1 v2 v4 v5) (zwA.eq hh) rfl rfl ⟨v6, v7, v8⟩ (zroom hdp hL)) ⟨zPc.blind, zpre C hH hS⟩ rfl rfl hl.1 rfl (by show 2 * 0 + _ ≤ 8; omega) hd ⟨h1, h2⟩) kk
theorem go_callSX {index : Nat} (pc' : Nat) (As : List Value) (hd : decode M.2.1 pc = .ok (.invokestatic index, 3)) (V : zVs M.1.cls index M' As.length) (hh' : M'.2.2.2.2 = []) (hct : Ct l Γ M' d' mc' ms' As w Φ' Ψ') (hdp : d' + 1 ≤ dp) (hL : M'.2.2.1 ≤ 40) (h1 : k + mc' ≤ mc) (h2 : n + ms' ≤ ms) (hst : (st.map fun v => v.category).sum ≤ 8) (hh : M.2.2.2.2 = [])
    (hx : ∀ (E : String) (w' : ZW), Ψ' E w' → Ψ E w') (kk : ∀ (v : Option Value) (w' : ZW), Φ' v w' → Go l Γ M dp mc ms Φ Ψ (k + mc') (n + ms') w' pc' L (v.toList ++ st)) (hp : pc + 3 = pc' := by rfl) : Go l Γ M dp mc ms Φ Ψ k n w pc L (As.reverse ++ st) := by
  subst hp
  intro p e s m args below meth c C H locs ls hl hH hS
  obtain ⟨v1, v2, ⟨v4, v5, v6, v7⟩, v8⟩ := V
  have hlocks : meth.locks = false := C.2.2.2.2.2.2.1
  refine zrunX C hl hS (vx_runS (As := As) ⟨C.1, C.2.1, C.2.2.1, C.own, C.2.2.2.2.1⟩ (hct C.2.2.2.2.2.2.2.2.2.2.2) (va_cwS As.length C.2.2.2.2.1 (zwsS v1 v2 v4 v5) (zwA.eq hh') rfl rfl ⟨v6, v7, v8⟩ (zroom hdp hL)) ⟨zPc.blind, zpre C hH hS⟩ rfl rfl hl.1 rfl (by show 2 * 0 + _ ≤ 8; omega) hd ⟨h1, h2⟩) kk ?_
  intro E w' H1 locs1 q ce hΨ hH1 hS1 g1 g2 g3
  refine vx_out (fun x hx9 => ?_) hlocks g1 g2 g3 (fun t ht _ => ⟨w', hx E w' hΨ, by rw [ht]; exact hH1, by rw [ht]; exact hS1.1, fun q hq => by rw [ht]; exact hS1.2.1 q (Nat.lt_of_lt_of_le hq C.big) (Nat.not_le.mpr hq)⟩) hS1.2.2 h1 h2
  rw [C.2.2.2.2.2.2.2.2.2.2.1, hh] at hx9
  cases hx9
theorem go_callI {index b : Nat} (pc' : Nat) (As : List Value) (hd : decode M.2.1 pc = .ok (.invokespecial index, 3)) (V : zVi M.1.cls index M' As.length) (hct : Ct l Γ M' d' mc' ms' (.ref b :: As) w Φ' zNo) (hdp : d' + 1 ≤ dp) (hL : M'.2.2.1 ≤ 40) (h1 : k + mc' ≤ mc) (h2 : n + ms' ≤ ms) (hst : (st.map fun v => v.category).sum ≤ 8)
    (kk : ∀ (v : Option Value) (w' : ZW), Φ' v w' → Go l Γ M dp mc ms Φ Ψ (k + mc') (n + ms') w' pc' L (v.toList ++ st)) (hp : pc + 3 = pc' := by rfl) : Go l Γ M dp mc ms Φ Ψ k n w pc L (As.reverse ++ .ref b :: st) := by
  subst hp
  intro p e s m args below meth c C H locs ls hl hH hS
  obtain ⟨v1, v2, v3, ⟨v4, v5, v6, v7⟩, v8, v9, v10⟩ := V
  have hw9 : zwA M' = Cond.code M'.1 M'.2.1 M'.2.2.1 none :: zGood := by rw [zwA.eq v9, v10]
  exact zrun C hl hS (va_runI (As := As) ⟨C.1, C.2.1, C.2.2.1, C.own, C.2.2.2.2.1⟩ (zMet (hct C.2.2.2.2.2.2.2.2.2.2.2)) (cwI As.length C.2.2.2.2.1 (zwA.sub (zwA.of v4)) hw9 rfl rfl (C.good v5) (C.good v1) (C.good v2) v3 ⟨v6, v7, v8⟩ (zroom hdp hL)) ⟨zPc.blind, zpre C hH hS⟩ rfl rfl hl.1 rfl (by show 2 * 0 + _ ≤ 8; omega) hd ⟨h1, h2⟩) kk
theorem go_objInit {index b : Nat} (pc' : Nat) (hd : decode M.2.1 pc = .ok (.invokespecial index, 3)) (hl1 : Cond.methodLink M.1.cls index objectInit ∈ zGood) (hl2 : Cond.instanceMethod objectInit ∈ zGood) (hl3 : Cond.code objectInit ⟨#[0xb1]⟩ 1 none ∈ zGood) (hdp : 1 ≤ dp) (hst : (st.map fun v => v.category).sum ≤ 8) (kk : Go l Γ M dp mc ms Φ Ψ k n w pc' L st) (hp : pc + 3 = pc' := by rfl) : Go l Γ M dp mc ms Φ Ψ k n w pc L (.ref b :: st) := by
  subst hp
  intro p e s m args below meth c C H locs ls hl hH hS
  refine W.objInit C.1 C.2.1 C.own (C.good hl1) (C.good hl2) (C.good hl3) rfl (by rw [C.2.2.1]; exact hl.1) rfl hd hdp (by show 2 * 0 + _ + 12 ≤ 64 * dp; omega) ?_
  exact kk p e s m args below meth c C H locs ls hl hH hS
end GoCalls
