section LClone

theorem icLink : Cond.methodLink RX6 48 ⟨"[I", "clone", "()Ljava/lang/Object;"⟩ ∈ zGood := zGood.mem 329 (by decide +kernel) rfl

theorem icSame : Cond.sameMethod "[I" "java/lang/Object" "clone" "()Ljava/lang/Object;" ∈ zGood := zGood.mem 330 (by decide +kernel) rfl

theorem icNat : Cond.native ⟨"java/lang/Object", "clone", "()Ljava/lang/Object;"⟩ ∈ zGood := zGood.mem 331 (by decide +kernel) rfl

theorem icInst : Cond.instanceMethod ⟨"java/lang/Object", "clone", "()Ljava/lang/Object;"⟩ ∈ zGood := zGood.mem 332 (by decide +kernel) rfl

theorem icSel : Cond.selects "[I" ⟨"[I", "clone", "()Ljava/lang/Object;"⟩ ⟨"java/lang/Object", "clone", "()Ljava/lang/Object;"⟩ ∈ zGood := zGood.mem 333 (by decide +kernel) rfl

theorem icCast : Cond.castable "[I" "java/lang/Cloneable" ∈ zNest := zNest.mem 291 (by decide +kernel) rfl

variable {l : Launch} {Γ : ZG} {M : ZM} {dp mc ms : Nat} {Φ : Option Value → ZW → Prop} {Ψ : String → ZW → Prop} {k n : Nat} {w0 w : ZW} {pc : Nat} {L : ZL} {st : List Value}
theorem go_clone {a N : Nat} {f : Nat → Int32} (pc' : Nat) (hd : decode M.2.1 pc = .ok (.invokevirtual 48, 3)) (hM : M.1.cls = RX6) (hw : w.2 a = some (i5 Γ N f)) (hdp : 1 ≤ dp) (hc1 : k + 1 ≤ mc) (hs1 : n + N ≤ ms) (hst : (st.map fun v => v.category).sum ≤ 8) (kk : Go l Γ M dp mc ms Φ Ψ (k + 1) (n + N) (wnew w (i5 Γ N f)) pc' L (.ref w.1 :: st)) (hp : pc + 3 = pc' := by rfl) : Go l Γ M dp mc ms Φ Ψ k n w pc L (.ref a :: st) := by
  subst hp
  intro p e s m args below meth c C H locs ls hl hH hS
  obtain ⟨-, hat⟩ := hH.2.2 a _ hw
  have hat : H[a]? = some (vp_cell (Γ.2.2.1 0) (N, .inl f)) := hat
  obtain ⟨hAr, hNm⟩ := C.arr 0 rfl
  have hNm : s.vm.findClass "[I" = some (Γ.2.2.1 0) := hNm
  obtain ⟨c0, t0, f1, f2, f3⟩ := Cond.castable_spec (va_Nw.use (A := args) rfl (C.stat.2.1 _ icCast))
  cases hNm.symm.trans f1
  have hsz : (vp_cell (Γ.2.2.1 0) (N, .inl f)).slots.size = N := arrV_size _ _ _
  have hown : s.vm.findClass RX6 = some m.cls := by rw [← hM]; exact C.own
  intro T hT X
  obtain ⟨-, kA, hkA, comp, hkind⟩ := State.isArrayOf_alike X.warmed.alike (hAr 0 (fun _ => .null))
  obtain ⟨-, kS, hkS, compS, hkindS⟩ := hAr 0 (fun _ => .null)
  obtain ⟨vm', X', hx⟩ := X.cloneArray C.1 hown (C.good icLink) (C.good icSame) (C.good icNat) (C.good icInst) (C.good icSel) (a := a) (cell := vp_cell (Γ.2.2.1 0) (N, .inl f)) (by rw [hT]; exact hat) (fun _ z => by cases z) (fun z => by cases z) hNm f2 f3
    (fun i v hv => by
      have hv : (arrV (Γ.2.2.1 0) N (fun j => .int (f j))).slots[i]? = some v := hv
      have hk' : T.vm.classes[Γ.2.2.1 0]? = some kA := hkA
      by_cases hi : i < N
      · rw [arrV_read _ _ hi] at hv
        cases hv
        show State.fitsSlot T (Γ.2.2.1 0) _ i (.int (f i)) = true
        simp [State.fitsSlot, State.slotType?, hk', hkind, fits]
      · rw [Array.getElem?_eq_none (by rw [arrV_size]; omega)] at hv
        cases hv)
    (g := F0 m pc ls (.ref a :: st)) rfl (hl.1.trans C.2.2.1.symm) rfl (by rw [C.2.1]; exact hd) hdp (by show 2 * 0 + _ + 14 ≤ 64 * dp; omega) hc1 (by rw [hsz]; exact hs1) (hloader := Vm.clonesLoader_of_array hkS hkindS)
  have hTs : T.heap.size = w.1 := by rw [hT]; exact hH.1
  rw [hsz] at X'
  generalize hH1 : H.push (vp_cell (Γ.2.2.1 0) (N, .inl f)) = H1
  have z1 : H1.size = H.size + 1 := by rw [← hH1, Array.size_push]
  have e1 : H1[H.size]? = some (vp_cell (Γ.2.2.1 0) (N, .inl f)) := by rw [← hH1, Array.getElem?_push_size]
  have o1 : ∀ q : Nat, q < H.size → H1[q]? = H[q]? := fun q hq => by rw [← hH1, Array.getElem?_push, if_neg (Nat.ne_of_lt hq)]
  obtain ⟨t, b1, b2⟩ := kk p e s m args below meth c C H1 locs ls hl (hH.push e1 z1 o1) ⟨Nat.le_trans hS.1 (by omega), fun x g1 g2 => (o1 x (Nat.lt_of_lt_of_le g1 hS.1)).trans (hS.2.1 x g1 g2), hS.2.2⟩ ((T.setVm vm').pushCell (vp_cell (Γ.2.2.1 0) (N, .inl f))) (by rw [← hH1, ← hT]; rfl) X'
  refine ⟨t, hx t ?_, b2⟩
  rw [hTs]
  exact b1
/-- the class of a row of numbers, asked -/
theorem go_castI {a N : Nat} {f : Nat → Int32} {index : Nat} (pc' : Nat) (hd : decode M.2.1 pc = .ok (.checkcast index, 3)) (hl9 : Cond.classLink M.1.cls index (FieldType.array .int).toString ∈ zGood) (hw : w.2 a = some (i5 Γ N f)) (kk : Go l Γ M dp mc ms Φ Ψ k n w pc' L (.ref a :: st)) (hp : pc + 3 = pc' := by rfl) : Go l Γ M dp mc ms Φ Ψ k n w pc L (.ref a :: st) := by
  subst hp
  exact fun p e s m args below meth c C H locs ls hl hH hS => va_castA C.1 C.2.1 C.own (C.good hl9) (zH.one hH hw) 0 rfl (C.arr 0 rfl).2 hd (kk p e s m args below meth c C H locs ls hl hH hS)
theorem gn_clone {T0 T : LT} {a N : Nat} {f : Nat → Int32} (t : Nat) (b : BW w0 T0 w T) (hw : w.2 a = some (i5 Γ N f)) (pc1 pc2 : Nat) (hd : decode M.2.1 pc = .ok (.invokevirtual 48, 3)) (hd2 : decode M.2.1 pc1 = .ok (.checkcast 19, 3)) (hM : M.1.cls = RX6) (hdp : 1 ≤ dp) (hc1 : k + 1 ≤ mc) (hs1 : n + N ≤ ms) (hst : (st.map fun v => v.category).sum ≤ 8) (kk : ∀ w' T' a', BW w0 T0 w' T' → Nc w0 w' T' a' (i5 Γ N f) t → Kq w T w' T' (fun _ => True) → Go l Γ M dp mc ms Φ Ψ (k + 1) (n + N) w' pc2 L (.ref a' :: st)) (hp : pc + 3 = pc1 := by rfl) (hp2 : pc1 + 3 = pc2 := by rfl) : Go l Γ M dp mc ms Φ Ψ k n w pc L (.ref a :: st) :=
  go_wf fun hwf => go_clone pc1 hd hM hw hdp hc1 hs1 hst (go_castI pc2 hd2 (by rw [hM]; exact al_X6_19) (wnew_at' (w := w)) (kk _ (tset T w.1 t) w.1 b.new ⟨if_pos rfl, if_pos rfl, b.1⟩ (Kq.new hwf)) hp2) hp
end LClone
