section LEnt
/-! what holds at the law's entry -/
theorem mem_r {L : List Cond} (ps : List Nat) (h : L = ps.filterMap (fun i => lw_tbl[i]?)) : ∀ w ∈ L, w ∈ lw_tbl := by
  intro w hw
  rw [h] at hw
  obtain ⟨i, -, hi⟩ := List.mem_filterMap.mp hw
  exact List.mem_of_getElem? hi
theorem lw_g (i : Nat) {w : Cond} (h : lw_tbl[i]? = some w) : w ∈ lw_tbl := List.mem_of_getElem? h
def zStrW (q : String × Nat × String) : List Cond :=
  Cond.exactly (.string q.1 q.2.1) "java/lang/String" :: Cond.eq (.field (.string q.1 q.2.1) "java/lang/String" "coder" "B") (.int 0) :: Cond.arrayOf (.field (.string q.1 q.2.1) "java/lang/String" "value" "[B") .byte :: Cond.eq (.length (.field (.string q.1 q.2.1) "java/lang/String" "value" "[B")) (.int (Int32.ofNat q.2.2.length)) ::
    (List.range q.2.2.length).map (fun j => Cond.eq (.elem (.field (.string q.1 q.2.1) "java/lang/String" "value" "[B") (.int (Int32.ofNat j))) (.int (zch q.2.2 j)))
theorem zStr_w : zStr.all (fun q => [356, 384, 396, 405, 413, 425, 433, 441, 451, 463, 471, 486, 509, 525, 555, 572, 602, 623, 648, 676, 710, 723, 733, 738, 743, 752, 765, 774, 778, 785, 790, 797, 803, 808, 813, 818, 824, 848, 857, 868, 881].any (fun i => decide (((flatC (Jvm.Cond.and given_1 narrow_1)).drop i).take (zStrW q).length = zStrW q))) = true := by decide +kernel
theorem zNcs_w : ((flatC (Jvm.Cond.and given_1 narrow_1)).drop 224).take 132 = zNcs.map (fun q => Cond.not (.castable q.1 q.2)) := by decide +kernel
theorem zStr_r : zStr.all (fun q => decide (Cond.stringRef q.1 q.2.1 q.2.2 ∈ lw_tbl) && decide (q.2.1 < 100000) && decide (q.2.2.length < 1000)) = true := by decide +kernel
theorem zStr_u : zStr.all (fun q => zStr.all (fun q' => decide (q.1 ≠ q'.1 ∨ q.2.1 ≠ q'.2.1 ∨ q.2.2 = q'.2.2))) = true := by decide +kernel
theorem zNest_tb : zNest.all (fun w => w.onTables) = true := by decide +kernel
def zR (s : State) (A : Nat → Prop) (q : String × Nat × String) (a v : Nat) : Prop :=
  vk_R q.1 q.2.1 q.2.2 a s ∧ va_O "java/lang/String" a A s s.heap ∧ va_OF "java/lang/String" "coder" "B" (.int 0) a A s s.heap ∧ va_OF "java/lang/String" "value" "[B" (.ref v) a A s s.heap ∧ va_T .byte v q.2.2.length (fun j => .int (zch q.2.2 j)) A s s.heap
theorem zch_g (tx : String) (j : Nat) : (((tx.toList.map Char.toNat).map nI).getD j 0) = zch tx j := by
  unfold zch
  simp only [List.getD_eq_getElem?_getD, List.getElem?_map]
  cases tx.toList[j]? <;> rfl
theorem zR_of {s : State} {b : Nat} {A : Nat → Prop} (hts : ∀ w ∈ lw_tbl, w.before #[Value.ref b] s = true) (hgv : (Jvm.Cond.and given_1 narrow_1).before #[Value.ref b] s = true) (hA : ∀ a : Nat, a < s.heap.size → ¬ A a) : ∀ q ∈ zStr, ∃ a v, zR s A q a v := by
  intro q hq
  have hfl := flat_of_before _ hgv
  obtain ⟨i0, -, hi0⟩ := List.any_eq_true.mp (List.all_eq_true.mp zStr_w q hq)
  have hi0 := of_decide_eq_true hi0
  have hw : ∀ w ∈ zStrW q, w.before #[Value.ref b] s = true := fun w hw => hfl w (List.mem_of_mem_drop (i := i0) (List.mem_of_mem_take (i := (zStrW q).length) (by rw [hi0]; exact hw)))
  have hr := List.all_eq_true.mp zStr_r q hq
  simp only [Bool.and_eq_true, decide_eq_true_eq] at hr
  obtain ⟨⟨r1, r2⟩, r3⟩ := hr
  obtain ⟨adK, adV, hS, hE⟩ := vk_Sof (args := #[Value.ref b]) (s := s) (N := 1) (tm := fun _ => .string q.1 q.2.1) (len := [q.2.2.length]) (byt := [(q.2.2.toList.map Char.toNat).map nI]) (A := A)
    (fun i hi => by rw [show i = 0 by omega]; show q.2.2.length < _; omega)
    (fun i hi => hw _ (by unfold zStrW; simp))
    (fun i hi => hw _ (by unfold zStrW; simp))
    (fun i hi => hw _ (by unfold zStrW; simp))
    (fun i hi => by rw [show i = 0 by omega]; exact hw _ (by unfold zStrW; simp))
    (fun i hi j hj => by
      rw [show i = 0 by omega] at hj ⊢
      refine hw _ ?_
      show Cond.eq _ (.int (((q.2.2.toList.map Char.toNat).map nI).getD j 0)) ∈ _
      rw [zch_g]
      unfold zStrW
      refine List.mem_cons_of_mem _ (List.mem_cons_of_mem _ (List.mem_cons_of_mem _ (List.mem_cons_of_mem _ (List.mem_map.mpr ⟨j, List.mem_range.mpr hj, rfl⟩)))))
    (fun i j hi hj hne => absurd (show i = j by omega) hne) hA
  obtain ⟨h1, h2, h3, h4⟩ := hS.1 0 (by decide)
  refine ⟨adK 0, adV 0, vk_R.of (hts _ r1) (hE 0 (by decide)), h1, h2, h3, ?_⟩
  have e : (fun j => Value.int (([(q.2.2.toList.map Char.toNat).map nI].getD 0 []).getD j 0)) = fun j => Value.int (zch q.2.2 j) := funext fun j => congrArg Value.int (zch_g q.2.2 j)
  rw [e] at h4
  exact h4
theorem arr_p {s : State} {args : Array Value} {t : FieldType} (h : (Cond.arrayClass t).before args s = true) : ∃ cA, ArrOfT s cA t ∧ s.vm.findClass ("[" ++ t.toString) = some cA := by
  obtain ⟨c, k, comp, h1, h2, h3⟩ := Cond.arrayClass_spec h
  exact ⟨c, fun n z => ⟨fun q hq => (by cases hq), k, h2, comp, h3⟩, h1⟩
theorem arr_o {s : State} {args : Array Value} {n : String} (h : (Cond.arrayOver (.object n)).before args s = true) : ∃ cA, ArrOfT s cA (.object n) ∧ va_RA s cA (.object n) := by
  obtain ⟨comp, c, k, h1, -, h3, h4, h5⟩ := Cond.arrayOver_spec h
  exact ⟨c, fun n z => ⟨fun q hq => (by cases hq), k, h3, comp, h4⟩, k, comp, h3, h4, h1, h5⟩
theorem arr_a {s : State} {args : Array Value} {t : FieldType} (h : (Cond.arrayOver (.array t)).before args s = true) : ∃ cA, ArrOfT s cA (.array t) ∧ s.vm.findClass ("[" ++ (FieldType.array t).toString) = some cA := by
  obtain ⟨comp, c, k, h1, h3, h4, h5⟩ := Cond.arrayOver_specA h
  exact ⟨c, fun n z => ⟨fun q hq => (by cases hq), k, h3, comp, h4⟩, h5⟩
theorem va_eqr {args : Array Value} {s : State} {t t' : Term} {a : Nat} (h : (Cond.eq t t').before args s = true) (hz : t'.eval args s none [] s = some (.ref a)) : t.eval args s none [] s = some (.ref a) := by
  cases hv : t.eval args s none [] s with
  | none => simp [Cond.before, Cond.holds, Cond.value, hv] at h
  | some w =>
    simp only [Cond.before, Cond.holds, Cond.value, hv, hz] at h
    cases w <;> simp_all
def zDigW (tm : Term) (f : Nat → Nat) : List Cond := (List.range 100).map (fun j => Cond.eq (.elem tm (.int (Int32.ofNat j))) (.int (nI (f j))))
def zVarW : List Cond := (List.range 4).map (fun j => Cond.eq (.elem (.static "CallForksLaw" "VARIABLES" "[Ljava/lang/String;") (.int (Int32.ofNat j))) (.string "CallForksLaw" (zvIx j)))
theorem zOnes_w : ((flatC (Jvm.Cond.and given_1 narrow_1)).drop 14).take 100 = zDigW (.static "java/lang/Integer" "DigitOnes" "[B") (fun j => 48 + j % 10) := by decide +kernel
theorem zTens_w : ((flatC (Jvm.Cond.and given_1 narrow_1)).drop 117).take 100 = zDigW (.static "java/lang/Integer" "DigitTens" "[B") (fun j => 48 + j / 10) := by decide +kernel
theorem zVar_w : ((flatC (Jvm.Cond.and given_1 narrow_1)).drop 220).take 4 = zVarW := by decide +kernel
theorem zVar_s : (List.range 4).all (fun j => zStr.any (fun q => decide (q.1 = "CallForksLaw" ∧ q.2.1 = zvIx j))) = true := by decide +kernel
theorem zStr_o : zStr.all (fun q => decide (q.1 ≠ "VARIABLES" ∧ q.1 ≠ "DigitOnes" ∧ q.1 ≠ "DigitTens")) = true := by decide +kernel
theorem fl_in {s : State} {b i n : Nat} {L : List Cond} (hfl : ∀ w ∈ flatC (Jvm.Cond.and given_1 narrow_1), w.before #[Value.ref b] s = true) (h : ((flatC (Jvm.Cond.and given_1 narrow_1)).drop i).take n = L) : ∀ w ∈ L, w.before #[Value.ref b] s = true := fun w hw => hfl w (List.mem_of_mem_drop (i := i) (List.mem_of_mem_take (i := n) (by rw [h]; exact hw)))
end LEnt
