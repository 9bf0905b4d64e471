section CThr
/-! new exceptions thrown -/
def zTn : List String := ["java/lang/RuntimeException", "java/lang/Exception"]
/-- what 'throw new cls(text)' asks -/
def zTh (own cls text : String) (ik is ic : Nat) : Prop :=
  Bundle.fit cls = true ∧ Cond.classLink own ik cls ∈ zGood ∧ Cond.initialized cls ∈ zGood ∧ (own, is, text) ∈ zStr ∧
  (∀ w ∈ (vx_atS own ic cls zTn).filter goodWord, w ∈ zGood) ∧ (∀ w ∈ (vx_atS own ic cls zTn).filter (fun w => !goodWord w), w ∈ zNest ∧ w.onTables = true) ∧ (vx_atS own ic cls zTn).all vx_ot = true
theorem zTh_d {L : List Cond} (h : (L.filter goodWord).all (fun w => decide (w ∈ lw_tbl)) = true) : ∀ w ∈ L.filter goodWord, w ∈ zGood := by
  intro w hw
  exact List.mem_filter.mpr ⟨of_decide_eq_true (List.all_eq_true.mp h w hw), (List.mem_filter.mp hw).2⟩
theorem zTh_e {L : List Cond} (h : (L.filter (fun w => !goodWord w)).all (fun w => decide (w ∈ tables_1)) = true) (hh : (L.filter (fun w => !goodWord w)).all (fun w => zWm w && w.onTables) = true) : ∀ w ∈ L.filter (fun w => !goodWord w), w ∈ zNest ∧ w.onTables = true := by
  intro w hw
  have g := List.all_eq_true.mp hh w hw
  simp only [Bool.and_eq_true] at g
  exact ⟨List.mem_filter.mpr ⟨of_decide_eq_true (List.all_eq_true.mp h w hw), g.1⟩, g.2⟩
theorem zTh_g {L : List Cond} (ps : List Nat) (h : L.filter goodWord = ps.filterMap (fun i => lw_tbl[i]?)) : ∀ w ∈ L.filter goodWord, w ∈ zGood := by
  intro w hw
  have g : goodWord w = true := (List.mem_filter.mp hw).2
  rw [h] at hw
  obtain ⟨i, -, hi⟩ := List.mem_filterMap.mp hw
  exact zGood.mem i hi g
theorem zTh_n {L : List Cond} (ps : List Nat) (h : L.filter (fun w => !goodWord w) = ps.filterMap (fun i => tables_1[i]?)) (hh : (L.filter (fun w => !goodWord w)).all (fun w => zWm w && w.onTables) = true) : ∀ w ∈ L.filter (fun w => !goodWord w), w ∈ zNest ∧ w.onTables = true := by
  intro w hw
  have g := List.all_eq_true.mp hh w hw
  simp only [Bool.and_eq_true] at g
  rw [h] at hw
  obtain ⟨i, -, hi⟩ := List.mem_filterMap.mp hw
  exact ⟨zNest.mem i hi g.1, g.2⟩
section
variable {l : Launch} {Γ : ZG} {M : ZM} {dp mc ms : Nat} {Φ : Option Value → ZW → Prop} {Ψ : String → ZW → Prop} {k n : Nat} {w : ZW} {pc : Nat} {L : ZL} {st : List Value}
theorem go_throw {cls text : String} {ik is ic : Nat} (T : zTh M.1.cls cls text ik is ic) (d0 : decode M.2.1 pc = .ok (.new ik, 3)) (d3 : decode M.2.1 (pc + 3) = .ok (.dup, 1)) (d4 : decode M.2.1 (pc + 4) = .ok (.ldc is, 2)) (d6 : decode M.2.1 (pc + 6) = .ok (.invokespecial ic, 3)) (d9 : decode M.2.1 (pc + 9) = .ok (.athrow, 1))
    (hh : M.2.2.2.2 = []) (hdp : 6 ≤ dp) (h1 : k + 1 ≤ mc) (h2 : n + 6 ≤ ms) (hst : (st.map fun v => v.category).sum ≤ 8) (hx : ∀ w' : ZW, w'.2 = w.2 → w.1 ≤ w'.1 → Ψ cls w') : Go l Γ M dp mc ms Φ Ψ k n w pc L st := by
  intro p e s m args below meth c C H locs ls hl hH hS
  obtain ⟨t1, t2, t3, t4, t5, t6, t7⟩ := T
  have zs := C.2.2.2.2.2.2.2.2.1
  have hat : ∀ w ∈ vx_atS M.1.cls ic cls zTn, w.before args s = true := vx_hat (fun w hw => C.good (t5 w hw)) (fun w hw => hw) (fun w hw => va_Nw.use (t6 w hw).2 (zs.2.1 w (t6 w hw).1))
  refine vx_throwS (cc := M.2.1) (names := zTn) C.1 C.2.1 C.2.2.2.2.2.2.2.2.2.2.2 C.own t1 (by decide +kernel) (C.good t2) (C.good t3) (zs.2.2.2.2.2.1 _ t4).1 hat ?_ zs.2.2.2.2.1.1 zs.2.2.2.2.1.2.1 hS (by rw [C.2.2.1]; exact hl.1) d0 d3 d4 d6 d9 ?_ ?_ ?_ ?_ ?_ C.2.2.2.2.2.2.1 ?_ hS.2.2 h1 h2
  · intro w hw
    rcases List.mem_cons.mp hw with h | hw
    · rw [h]; rfl
    · rcases List.mem_cons.mp hw with h | hw
      · rw [h]; rfl
      · exact List.all_eq_true.mp t7 w hw
  · intro x hx9
    rw [C.2.2.2.2.2.2.2.2.2.2.1, hh] at hx9
    cases hx9
  · show 2 + 3 < dp
    omega
  · show _ + (13 * (2 + 1) + 43) ≤ 64 * dp
    omega
  · exact h1
  · exact h2
  · intro t _ g1 g2
    refine ⟨(t.heap.size, w.2), hx _ rfl (by rw [← hH.1]; exact g1), ⟨rfl, Nat.le_trans (by rw [hH.1]; exact hH.2.1) g1, fun a e ha => ⟨(hH.2.2 a e ha).1, (hH.2.2 a e ha).2.kept (g2 a (hH.2.2 a e ha).2.lt)⟩⟩, Nat.le_trans hS.1 g1, fun q hq => ?_⟩
    have hq' : q < s.heap.size := Nat.lt_of_lt_of_le hq C.big
    exact (g2 q (Nat.lt_of_lt_of_le hq' hS.1)).trans (hS.2.1 q hq' (Nat.not_le.mpr hq))
end
theorem thI (text : String) (is : Nat) (h : ("CallForks", is, text) ∈ zStr) : zTh "CallForks" "java/lang/IllegalArgumentException" text 99 is 103 :=
  ⟨by decide +kernel, zGood.mem 523 (by decide +kernel) rfl, zGood.mem 54 (by decide +kernel) rfl, h, zTh_d (by decide +kernel), zTh_e (by decide +kernel) (by decide +kernel), by decide +kernel⟩
theorem thX (text : String) (is : Nat) (h : ("CallForks", is, text) ∈ zStr) : zTh "CallForks" "java/lang/IndexOutOfBoundsException" text 213 is 217 :=
  ⟨by decide +kernel, zGood.mem 788 (by decide +kernel) rfl, zGood.mem 55 (by decide +kernel) rfl, h, zTh_d (by decide +kernel), zTh_e (by decide +kernel) (by decide +kernel), by decide +kernel⟩
theorem thS (text : String) (is : Nat) (h : ("CallForks", is, text) ∈ zStr) : zTh "CallForks" "java/lang/IllegalStateException" text 155 is 159 :=
  ⟨by decide +kernel, zGood.mem 967 (by decide +kernel) rfl, zGood.mem 73 (by decide +kernel) rfl, h, zTh_d (by decide +kernel), zTh_e (by decide +kernel) (by decide +kernel), by decide +kernel⟩
end CThr
