section
def va_AOA (t : FieldType) (U : State) : Prop := (Cond.arrayOver (.array t)).before #[] U = true
theorem va_AOA.of {t : FieldType} {A : Array Value} {U : State} (h : (Cond.arrayOver (.array t)).before A U = true) : va_AOA t U := h
theorem va_AOA.use {t : FieldType} {A : Array Value} {U : State} (h : va_AOA t U) : (Cond.arrayOver (.array t)).before A U = true := h
/-! ===== BEGIN words of one list among another's, by their places ===== -/
theorem goodIn_r {big : List Cond} (ws : List Cond) (ps : List Nat) (hp : ws = ps.filterMap (fun i => big[i]?)) (h : ws.all goodWord = true) : GoodIn big ws := by
  intro w hw
  have h1 := List.all_eq_true.mp h w hw
  rw [hp] at hw
  obtain ⟨i, -, hi⟩ := List.mem_filterMap.mp hw
  have hm : w ∈ big := by first | exact List.mem_of_getElem? hi | exact List.getElem?_mem hi
  exact ⟨hm, good_of_word h1⟩
theorem goodIn_app {big a b : List Cond} (ha : GoodIn big a) (hb : GoodIn big b) : GoodIn big (a ++ b) := fun w h => (List.mem_append.mp h).elim (ha w) (hb w)
theorem goodIn_ca {big a b : List Cond} {c : Cond} (ha : GoodIn big (c :: a)) (hb : GoodIn big b) : GoodIn big (c :: (a ++ b)) := fun w h => (List.mem_cons.mp h).elim (fun e => ha w (List.mem_cons.mpr (Or.inl e))) (fun h => (List.mem_append.mp h).elim (fun h => ha w (List.mem_cons.mpr (Or.inr h))) (hb w))
theorem goodIn_sub {big ws : List Cond} (hm : ∀ w ∈ ws, w ∈ big) (h : ws.all goodWord = true) : GoodIn big ws := fun w hw => ⟨hm w hw, good_of_word (List.all_eq_true.mp h w hw)⟩
/-! ===== END ===== -/

/-! ===== BEGIN new T[n][m]: the outer array a place, the inner ones among the pooled ===== -/
/-- f, but v at every address of l -/
def vr_up {α : Type} (f : Nat → α) (l : List Nat) (v : α) : Nat → α := fun a => if a ∈ l then v else f a
theorem vr_up_in {α : Type} {f : Nat → α} {l : List Nat} {v : α} {a : Nat} (h : a ∈ l) : vr_up f l v a = v := if_pos h
theorem vr_up_ne {α : Type} {f : Nat → α} {l : List Nat} {v : α} {a : Nat} (h : a ∉ l) : vr_up f l v a = f a := if_neg h
theorem vr_rows {L l : List Nat} {f : Nat → va_E} {e : va_E} (h : ∀ a, a ∈ l → a ∉ L) : va_pl L f ++ l.map (fun a => (a, e)) = va_pl (L ++ l) (vr_up f l e) := by
  unfold va_pl
  rw [List.map_append]
  congr 1
  · apply List.map_congr_left
    intro a ha
    rw [vr_up_ne (fun q => h a q ha)]
  · apply List.map_congr_left
    intro a ha
    rw [vr_up_in ha]
theorem vr_lay {X rows : va_W} {x : Nat × va_E} {pl : va_W} {D : va_G} {cl : List vw_C} {H : Heap} (hP : va_P D cl (((X ++ pl) ++ [x]) ++ rows) H) : va_P D cl ((X ++ [x]) ++ (pl ++ rows)) H := by
  rw [List.append_assoc (X ++ pl)] at hP
  have h := va_P.swap hP
  rw [← List.append_assoc X] at h
  have h2 := va_P.swap h
  rw [List.append_assoc (X ++ [x])] at h2
  exact h2
theorem vr_layD {X rows : va_W} {x : Nat × va_E} {pl : va_W} {A : Nat → Prop} (hD : va_D A (((X ++ pl) ++ [x]) ++ rows)) : va_D A ((X ++ [x]) ++ (pl ++ rows)) := by
  rw [List.append_assoc (X ++ pl)] at hD
  have h := va_D.swap hD
  rw [← List.append_assoc X] at h
  have h2 := va_D.swap h
  rw [List.append_assoc (X ++ [x])] at h2
  exact h2
theorem vr_outer (c : ClassId) (N h0 : Nat) : ∀ i : Nat, Jvm.Free.Multi.outerC c N h0 i = arrV c N (fun j => va_rf (if j < i then some (h0 + 1 + j) else none))
  | 0 => by
    show ({ cls := c, slots := Array.replicate N .null, vm := .none } : Cell) = _
    rw [arrV_new]
    refine congrArg (arrV c N) (funext fun j => ?_)
    simp [va_rf]
  | i + 1 => by
    show (Jvm.Free.Multi.outerC c N h0 i).setSlot i (.ref (h0 + 1 + i)) = _
    rw [vr_outer c N h0 i, arrV_store]
    refine congrArg (arrV c N) (funext fun j => ?_)
    by_cases e : j = i
    · subst e
      simp [updV, va_rf]
    · by_cases h : j < i
      · simp [updV, e, h, Nat.lt_succ_of_lt h]
      · simp [updV, e, h, show ¬ j < i + 1 by omega]
section VGM
variable {p : Program} {l : Launch} {e : Env} {R : Room} {s : State} {m : MethodId} {args : Array Value} {below : List Frame} {meth : Method} {c : Code} {H : Heap} {locs : List Loc} {cells slots : Nat} {Q : State → Prop}
variable {cc : ByteArray} {pc : Nat} {ls : Array Slot} {rest : List Value} {D : va_G} {cl : List vw_C} {A : Nat → Prop} {a : Nat} {tys : List (ClassId × FieldType)} {ws : va_W} {H0 : Heap}
theorem va_mna {X : va_W} {L : List Nat} {f : Nat → va_E} {cc : ByteArray} (hexec : p.tables.exec = Jvm.exec) (hb : c.code = cc) {own : String} {index : Nat} {ty : FieldType} {cy : ClassId} (hown : s.vm.findClass own = some m.cls) (hclink : (Cond.classLink own index ("[" ++ (FieldType.array ty).toString)).before args s = true) (hover : va_AOA ty s) (harr : (Cond.arrayClass ty).before args s = true) (hcy : s.vm.findClass (FieldType.array ty).toString = some cy)
    (hK : va_K D cl tys s) (hP : va_P D cl (X ++ va_pl L f) H) (hD : va_D A (X ++ va_pl L f)) (hS : va_S A H0 H locs) (hA : ∀ q, H0.size ≤ q → A q) {n k : Int32} {N' K' : Nat} {z : vp_A} (hn : ¬ n < 0) (hk : ¬ k < 0) (hN : n.toNatClampNeg = N') (hM : k.toNatClampNeg = K')
    (hb1 : N' * 4 ≤ 536870912) (hb2 : K' * componentBytes ty ≤ 536870912) (hb3 : K' ≤ 536870912) (hdf : fits ty (defaultValue ty) = true) (hdd : (defaultValue ty).isDefault = true) (hcells : cells + (1 + N') ≤ R.cells) (hslots : slots + (N' + N' * K') ≤ R.slots) (hz : ∀ c : ClassId, Jvm.Free.Multi.innerC c K' (defaultValue ty) = vp_cell c z) (hdg : decode cc pc = .ok (.multianewarray index 2, 4))
    (kk : ∀ (q : Nat) (r : Nat → Nat) (cA : ClassId) (H1 : Heap), (∀ i j : Nat, i < N' → j < N' → r i = r j → i = j) → (∀ i : Nat, i < N' → r i ∉ L) → va_K D cl (tys ++ [(cA, .array ty)]) s →
      va_P D cl ((X ++ [(q, .inl (cA, N', .inr (.inr (.inr (.inr (fun i => if i < N' then some (r i) else none))))))]) ++ va_pl (L ++ (List.range N').map r) (vr_up f ((List.range N').map r) (.inl (cy, z)))) H1 → va_D A ((X ++ [(q, .inl (cA, N', .inr (.inr (.inr (.inr (fun i => if i < N' then some (r i) else none))))))]) ++ va_pl (L ++ (List.range N').map r) (vr_up f ((List.range N').map r) (.inl (cy, z)))) → va_S A H0 H1 locs →
      W p l e R s m args below meth c H1 locs (cells + 1 + N') (slots + N' + N' * K') Q (F0 m (pc + 4) ls (.ref q :: rest))) : W p l e R s m args below meth c H locs cells slots Q (F0 m pc ls (.int k :: .int n :: rest)) := by
  subst hN
  subst hM
  intro T hT Xs
  obtain ⟨vm₁, cA, comp, -, fA, fC, hO, -, X', step⟩ := Xs.multianewarray2F hexec hown hclink (va_AOA.use hover) harr (g := F0 m pc ls (.int k :: .int n :: rest)) rfl (by rw [hb]; exact hdg) rfl hn hk hb1 hb2 hb3 hdf hdd hcells hslots
  have ec : some cy = some comp := hcy.symm.trans fC
  cases ec
  generalize hF : Jvm.Free.Multi.fill (T.setVm vm₁) cA cy n.toNatClampNeg k.toNatClampNeg (defaultValue ty) n.toNatClampNeg = F at X' step
  have hTh : (T.setVm vm₁).heap = H := hT
  obtain ⟨f1, f2, -, -⟩ := Jvm.Free.Multi.fill_facts (T.setVm vm₁) cA cy n.toNatClampNeg k.toNatClampNeg (defaultValue ty) n.toNatClampNeg
  rw [hF, hTh] at f1 f2
  have hold : ∀ x : Nat, x < H.size → F.heap[x]? = H[x]? := fun x hx => by
    have := Jvm.Free.Multi.fill_old (T.setVm vm₁) cA cy n.toNatClampNeg k.toNatClampNeg (defaultValue ty) (a := x) (by rw [hTh]; exact hx) n.toNatClampNeg
    rw [hF, hTh] at this
    exact this
  have hrow : ∀ j : Nat, j < n.toNatClampNeg → F.heap[H.size + 1 + j]? = some (vp_cell cy z) := fun j hj => by
    have := Jvm.Free.Multi.fill_inner (T.setVm vm₁) cA cy n.toNatClampNeg k.toNatClampNeg (defaultValue ty) n.toNatClampNeg j hj
    rw [hF, hTh, hz] at this
    exact this
  have hout : Jvm.Free.Multi.outerC cA n.toNatClampNeg H.size n.toNatClampNeg = vp_cell cA (n.toNatClampNeg, .inr (.inr (.inr (.inr (fun i => if i < n.toNatClampNeg then some (H.size + 1 + i) else none))))) := by
    rw [vp_cell_q]
    exact vr_outer cA n.toNatClampNeg H.size n.toNatClampNeg
  rw [hout] at f2
  have hlt : ∀ a, a ∈ L → a < H.size := fun a ha => by
    obtain ⟨k9, hk9⟩ := va_pl_get (X := X) (f := f) ha
    exact (hP k9 _ hk9).lt
  have hnl : ∀ i : Nat, i < n.toNatClampNeg → H.size + 1 + i ∉ L := fun i _ h => by
    have := hlt _ h
    omega
  have hnm : ∀ a, a ∈ (List.range n.toNatClampNeg).map (fun i => H.size + 1 + i) → a ∉ L := fun a ha h => by
    obtain ⟨i, -, rfl⟩ := List.mem_map.mp ha
    have := hlt _ h
    omega
  have hP0 : va_P D cl (X ++ va_pl L f) F.heap := hP.kept (fun k9 x hx => hold x.1 ((hP k9 x hx).lt))
  have hP1 : va_P D cl ((X ++ va_pl L f) ++ [(H.size, .inl (cA, n.toNatClampNeg, .inr (.inr (.inr (.inr (fun i => if i < n.toNatClampNeg then some (H.size + 1 + i) else none))))))]) F.heap := hP0.app (fun k9 x hx => by
    have h0 : k9 < 1 := (List.getElem?_eq_some_iff.mp hx).1
    rw [show k9 = 0 by omega] at hx
    cases hx
    exact f2)
  have hP2 : va_P D cl (((X ++ va_pl L f) ++ [(H.size, .inl (cA, n.toNatClampNeg, .inr (.inr (.inr (.inr (fun i => if i < n.toNatClampNeg then some (H.size + 1 + i) else none))))))]) ++ ((List.range n.toNatClampNeg).map (fun i => H.size + 1 + i)).map (fun a => (a, .inl (cy, z)))) F.heap := hP1.app (fun k9 x hx => by
    obtain ⟨a, ha, rfl⟩ := List.mem_map.mp (List.mem_of_getElem? hx)
    obtain ⟨i, hi, rfl⟩ := List.mem_map.mp ha
    exact hrow i (List.mem_range.mp hi))
  have hD2 : va_D A (((X ++ va_pl L f) ++ [(H.size, .inl (cA, n.toNatClampNeg, .inr (.inr (.inr (.inr (fun i => if i < n.toNatClampNeg then some (H.size + 1 + i) else none))))))]) ++ ((List.range n.toNatClampNeg).map (fun i => H.size + 1 + i)).map (fun a => (a, .inl (cy, z)))) := by
    have hD1 := hD.push (e := .inl (cA, n.toNatClampNeg, .inr (.inr (.inr (.inr (fun i => if i < n.toNatClampNeg then some (H.size + 1 + i) else none)))))) hP rfl (hA _ hS.1)
    generalize hW1 : (X ++ va_pl L f) ++ [(H.size, .inl (cA, n.toNatClampNeg, .inr (.inr (.inr (.inr (fun i => if i < n.toNatClampNeg then some (H.size + 1 + i) else none))))))] = W1 at hD1 hP1 ⊢
    have hle : ∀ (k9 : Nat) (x : Nat × va_E), W1[k9]? = some x → x.1 ≤ H.size := fun k9 x hx => by
      rw [← hW1] at hx
      by_cases hl : k9 < (X ++ va_pl L f).length
      · rw [List.getElem?_append_left hl] at hx
        exact Nat.le_of_lt ((hP k9 x hx).lt)
      · rw [List.getElem?_append_right (by omega)] at hx
        have h0 : k9 - (X ++ va_pl L f).length < 1 := (List.getElem?_eq_some_iff.mp hx).1
        rw [show k9 - (X ++ va_pl L f).length = 0 by omega] at hx
        cases hx
        exact Nat.le_refl _
    have hr : ∀ (k9 : Nat) (x : Nat × va_E), (((List.range n.toNatClampNeg).map (fun i => H.size + 1 + i)).map (fun a => ((a, .inl (cy, z)) : Nat × va_E)))[k9]? = some x → x.1 = H.size + 1 + k9 := fun k9 x hx => by
      rw [List.getElem?_map, List.getElem?_map] at hx
      by_cases h9 : k9 < n.toNatClampNeg
      · rw [List.getElem?_range h9] at hx
        cases hx
        rfl
      · have hn0 : (List.range n.toNatClampNeg)[k9]? = none := List.getElem?_eq_none (by rw [List.length_range]; omega)
        rw [hn0] at hx
        cases hx
    refine ⟨fun i j x y hi hj hxy => ?_, fun k9 x hx => ?_⟩
    · by_cases h1 : i < W1.length <;> by_cases h2 : j < W1.length
      · rw [List.getElem?_append_left h1] at hi
        rw [List.getElem?_append_left h2] at hj
        exact hD1.1 i j x y hi hj hxy
      · rw [List.getElem?_append_left h1] at hi
        rw [List.getElem?_append_right (by omega)] at hj
        have := hle _ _ hi
        have := hr _ _ hj
        omega
      · rw [List.getElem?_append_right (by omega)] at hi
        rw [List.getElem?_append_left h2] at hj
        have := hle _ _ hj
        have := hr _ _ hi
        omega
      · rw [List.getElem?_append_right (by omega)] at hi hj
        have := hr _ _ hi
        have := hr _ _ hj
        omega
    · by_cases h1 : k9 < W1.length
      · rw [List.getElem?_append_left h1] at hx
        exact hD1.2 k9 x hx
      · rw [List.getElem?_append_right (by omega)] at hx
        have := hr _ _ hx
        exact hA _ (by have := hS.1; omega)
  have hAr : ArrOfT s cA (.array ty) := fun N9 z9 => by
    obtain ⟨-, k9, hk9, cm9, hkk9⟩ := (hO 0 0 0).1
    exact ⟨(fun q hq => by cases hq), k9, hk9, cm9, hkk9⟩
  have hK2 : va_K D cl (tys ++ [(cA, .array ty)]) s := ⟨hK.1, fun k9 x hx => by
    by_cases hl : k9 < tys.length
    · rw [List.getElem?_append_left hl] at hx
      exact hK.2 k9 x hx
    · rw [List.getElem?_append_right (by omega)] at hx
      have h0 : k9 - tys.length < 1 := (List.getElem?_eq_some_iff.mp hx).1
      rw [show k9 - tys.length = 0 by omega] at hx
      cases hx
      exact ⟨hAr, fA⟩⟩
  obtain ⟨t, a1, b1⟩ := kk H.size (fun i => H.size + 1 + i) cA F.heap (fun i j _ _ h => by have h9 : H.size + 1 + i = H.size + 1 + j := h; omega) hnl hK2 (by rw [← vr_rows hnm]; exact vr_lay hP2) (by rw [← vr_rows hnm]; exact vr_layD hD2) ⟨by rw [f1]; have := hS.1; omega, fun x h1 h2 => (hold x (Nat.lt_of_lt_of_le h1 hS.1)).trans (hS.2.1 x h1 h2), hS.2.2⟩ F rfl X'
  refine ⟨t, step t ?_, b1⟩
  have e : T.heap.size = H.size := by rw [hT]
  rw [e]
  exact a1
end VGM
/-! ===== END ===== -/

/-! ===== BEGIN exceptions that leave a method, and their catching by the caller (launches without stack traces) ===== -/
section VXA
/-! The laws vx_back, vx_callV, vx_callS, vx_callSW, vx_throw0, vx_throwS follow proofs of the library, with one case more: JvmDerived/Free/Laws.lean (Back.of_free), Shelf42/LK1.lean (callV, callS), Shelf/KitTraced.lean (throwNew0V, throwNewS). -/
/-- where a method has thrown q: the class by its name, the cell, what was written, the world -/
def vx_T (XC : String → State → State → Prop) (st : State) (q : Addr) (t : State) (mc ms : Nat) (free : Addr → Prop) : Prop :=
  ∃ (E : String) (ce : Cell) (L : List Loc), XC E st t ∧ t.heap[q]? = some ce ∧ ce.vm = .none ∧ st.vm.findClass E = some ce.cls ∧ st.WarmedH t.vm ∧ st.sameButNew ({ t with vm := st.vm } : State) L mc ms ∧ ∀ z ∈ L, free z.base
def vx_Q (Qc : Array Value → State → Outcome → State → Prop) (XC : String → State → State → Prop) (mc ms : Nat) (free : Addr → Prop) : Array Value → State → Outcome → State → Prop := fun a st o t =>
  (Qc a st o t ∧ ∃ L, FrameEnd st o t L mc ms ∧ ∀ q ∈ L, free q.base) ∨ ∃ q, o = .threw q ∧ vx_T XC st q t mc ms free
/-- a callee that returns or throws -/
def vx_Met (l : Launch) (y : MethodName) (ws : List Cond) (rm : Room) (Pc : Array Value → State → Prop) (Qc : Array Value → State → Outcome → State → Prop) (XC : String → State → State → Prop) (mc ms : Nat) (free : Addr → Prop) : Prop :=
  MetFree l y (headSpec ws rm) Pc (fun _ _ _ _ _ => True) (vx_Q Qc XC mc ms free)
def vx_Post (XC : String → State → State → Prop) (mc ms : Nat) (free : Addr → Prop) : Pt → Array Value → Addr → Pt → Prop := fun A a q B =>
  ∃ (g : JFrame) (mk : MethodId) (t : State) (L : List Loc) (E : String) (ce : Cell), B.U.heap = t.heap ∧ B.U.vm = t.vm ∧ XC E (A.U.calling g mk a) t ∧ t.heap[q]? = some ce ∧ ce.vm = .none ∧ A.U.vm.findClass E = some ce.cls ∧ B.locs = A.locs ++ L ∧ (∀ z ∈ L, free z.base) ∧ B.cells = A.cells + mc ∧ B.slots = A.slots + ms
def vx_Back (l : Launch) (R : Room) (p : Program) (e : Env) (below : List Frame) (s : State) (sargs : Array Value) (y : MethodName) (len W9 : Nat)
    (Pre : Pt → Array Value → Prop) (Post : Pt → Array Value → Option Value → Pt → Prop) (PostX : Pt → Array Value → Addr → Pt → Prop) : Prop :=
  ∀ (m : MethodId) (meth : Method) (c : Code) (A : Pt) (g : JFrame) (ig : Instr) (mk : MethodId) (a : Array Value),
    Stand p l e R s m sargs below meth c A.U A.locs A.cells A.slots → g.method = m → g.locals.size = c.maxLocals → decode c.code g.pc = .ok (ig, len) →
    2 * g.monitorRoom + (g.stack.map fun v => v.category).sum ≤ W9 → A.U.methodNamed? y = some mk → Pre A a →
    (∃ (v : Option Value) (B : Pt), Stand p l e R s m sargs below meth c B.U B.locs B.cells B.slots ∧ Post A a v B ∧
      Steps p.tables e below (doInvoke e (A.U.setTop g) [] mk a).1 (B.U.setTop { g with pc := g.pc + len, stack := v.toList ++ g.stack })) ∨
    (∃ (q : Addr) (B : Pt), Stand p l e R s m sargs below meth c B.U B.locs B.cells B.slots ∧ PostX A a q B ∧
      Steps p.tables e below (doInvoke e (A.U.setTop g) [] mk a).1 ((B.U.setTop g).pushFrame (.throwing q)))
section Payer
variable {l : Launch} {R : Room} {p : Program} {e : Env} {below : List Frame} {s : State} {sargs : Array Value} {y : MethodName} {len W9 : Nat}
theorem vx_back {ws : List Cond} {rm : Room} {Pc : Array Value → State → Prop} {Qc : Array Value → State → Outcome → State → Prop} {XC : String → State → State → Prop} {mc ms : Nat} {free : Addr → Prop} {bytes : ByteArray} {maxL : Nat} {ret : Option FieldType}
    (hM : vx_Met l y ws rm Pc Qc XC mc ms free) (hblind : FrameBlind Pc) (hrc : rm.cells = mc) (hrs : rm.slots = ms)
    (hframes : rm.frames + 1 ≤ R.frames) (hlocals : W9 + (maxL + 11) + rm.locals ≤ R.locals)
    (hws : ∀ w ∈ ws, ∀ a' U, s.WarmedH U.vm → w.before a' U = true) (hcode : Cond.code y bytes maxL ret ∈ ws) (hinit : ∀ a' U, s.WarmedH U.vm → (Cond.initialized y.cls).before a' U = true) :
    vx_Back l R p e below s sargs y len W9 (PreOf R mc ms Pc) (PostOf Qc mc ms free) (vx_Post XC mc ms free) := by
  intro m meth c A g ig mk a X hg hsize hdg hW hn hp
  have h1 : (headSpec ws rm).pre.before a A.U = true := atoms_intro fun w hw => hws w hw _ _ X.warmed
  have h2 : (Cond.code y bytes maxL ret).before a A.U = true := hws _ hcode _ _ X.warmed
  have h3 : (Cond.initialized y.cls).before a A.U = true := hinit _ _ X.warmed
  have h4 : A.cells + (headSpec ws rm).room.cells ≤ R.cells := by rw [show (headSpec ws rm).room.cells = mc from hrc]; exact hp.1
  have h5 : A.slots + (headSpec ws rm).room.slots ≤ R.slots := by rw [show (headSpec ws rm).room.slots = ms from hrs]; exact hp.2.1
  have hPc : Pc a (A.U.calling g mk a) := hblind _ _ _ _ hp.2.2
  obtain ⟨U, Ls, c0, s0⟩ := A
  dsimp only [Pt.U, Pt.locs, Pt.cells, Pt.slots] at h1 h2 h3 h4 h5 X hn hPc ⊢
  obtain ⟨methY, cY, hmY, hcY, -, hlY, -, -, -, -⟩ := Cond.code_spec hn h2
  obtain ⟨kY, hkY, -⟩ := className_of_methodNamed hn
  have hinitY : kY.init = .initialized := Cond.initialized_spec (findClass_of_methodNamed hn) hkY h3
  have h : At U g.method c below := by rw [hg]; exact X.here
  have hlocals9 : W9 + (maxL + 11) + (headSpec ws rm).room.locals ≤ R.locals := hlocals
  have happ : (headSpec ws rm).appliesLoose y e.platform (U.calling g mk a) = true :=
    Spec.appliesLoose_calling (g := g) h hdg hn hkY hinitY
      (X.room_calling (g := g) (R' := (headSpec ws rm).room) hsize hmY hcY hframes (by rw [hlY]; omega) h4 h5) h1
  obtain ⟨mid, hmid⟩ := h.above
  have hfr : (U.setTop g).frames = (.java g :: mid) ++ below := by rw [State.frames_setTop' g h.top, hmid]; rfl
  obtain ⟨o, s₂, hsteps, -, hend, hq⟩ := Steps.callFree hM p X.admits X.cas X.clock (acts := []) hfr happ hPc trivial
  have hq' : vx_Q Qc XC mc ms free a (U.calling g mk a) o s₂ := hq
  rw [State.frames_setTop' g h.top] at hend
  obtain ⟨g₀, hg0⟩ := Option.isSome_iff_exists.mp h.top
  obtain ⟨r, hr⟩ := State.topJava?_eq_some.mp hg0
  have hr' : (({ U with heap := s₂.heap, slotsUsed := s₂.slotsUsed } : State).setVm s₂.vm).frames = .java g₀ :: r := hr
  rcases hq' with ⟨hqc, L, hfe, hL⟩ | ⟨q, rfl, E, ce, L, hx, hce, hcv, hcl, hW₂, hsm, hL⟩
  · obtain ⟨⟨v, rfl⟩, hW₂, e2, q2, q3, q4, q5, q6⟩ := id hfe
    have e3 : s₂ = ({ (U.calling g mk a).setFrames s₂.frames with heap := s₂.heap, slotsUsed := s₂.slotsUsed } : State).setVm s₂.vm := by
      have : s₂ = ({ s₂ with vm := (U.calling g mk a).vm } : State).setVm s₂.vm := rfl
      rw [e2] at this
      exact this
    obtain ⟨c₂, i₂, len₂, hc₂, hd₂, hf₂⟩ := hend
    have hW' : U.WarmedH s₂.vm := hW₂
    have hcc : c₂ = c := by
      have h1 : s₂.code? g.method = U.code? g.method := by
        rw [State.code?_eq, State.code?_eq, hW'.alike.method?]
      exact Option.some.inj (hc₂.symm.trans (h1.trans h.code))
    subst hcc
    have hlen : len₂ = len := by rw [hdg] at hd₂; cases hd₂; rfl
    subst hlen
    have hs₂ : s₂ = (({ U with heap := s₂.heap, slotsUsed := s₂.slotsUsed } : State).setVm s₂.vm).setTop { g with pc := g.pc + len₂, stack := v.toList ++ g.stack } := by
      refine e3.trans ?_
      rw [hf₂, State.calling_eq h.top, State.setFrames_setFrames, State.setTop_of_frames _ hr', hr]
      rfl
    have hsame : U.sameButNew ({ U with heap := s₂.heap, slotsUsed := s₂.slotsUsed } : State) L mc ms := by
      refine ⟨?_, q2, q3, q4, q5, q6⟩
      obtain ⟨t, ht, -⟩ := State.frames_cons hr
      show ({ U with heap := s₂.heap, slotsUsed := s₂.slotsUsed } : State) = { U.setFrames U.frames with heap := s₂.heap, slotsUsed := s₂.slotsUsed }
      rw [State.setFrames_self ht]
    subst hg
    refine Or.inl ⟨v, ⟨(({ U with heap := s₂.heap, slotsUsed := s₂.slotsUsed } : State).setVm s₂.vm), Ls ++ L, c0 + mc, s0 + ms⟩,
      ⟨X.admits, X.cas, X.clock, X.frames, X.room, X.hears, X.method, X.code, (X.here.setHeapUsed s₂.heap s₂.slotsUsed).setVm hW'.alike, X.tail, State.WarmedH.trans X.warmed hW', X.limits, X.bytes, X.same.trans (hsame.setVm s.vm)⟩,
      ⟨g, mk, s₂, L, rfl, rfl, hqc, rfl, hL, rfl, rfl⟩, ?_⟩
    show Steps p.tables e below _ ((({ U with heap := s₂.heap, slotsUsed := s₂.slotsUsed } : State).setVm s₂.vm).setTop { g with pc := g.pc + len₂, stack := v.toList ++ g.stack })
    rw [← hs₂]
    exact hsteps
  · obtain ⟨e2, q2, q3, q4, q5, q6⟩ := id hsm
    have e3 : s₂ = ({ (U.calling g mk a).setFrames s₂.frames with heap := s₂.heap, slotsUsed := s₂.slotsUsed } : State).setVm s₂.vm := by
      have : s₂ = ({ s₂ with vm := (U.calling g mk a).vm } : State).setVm s₂.vm := rfl
      rw [e2] at this
      exact this
    have hf₂ : s₂.frames = .throwing q :: .java g :: U.frames.tail := hend
    have hW' : U.WarmedH s₂.vm := hW₂
    have hs₂ : s₂ = ((({ U with heap := s₂.heap, slotsUsed := s₂.slotsUsed } : State).setVm s₂.vm).setTop g).pushFrame (.throwing q) := by
      refine e3.trans ?_
      rw [hf₂, State.calling_eq h.top, State.setFrames_setFrames, State.pushFrame, State.frames_setTop _ hr', State.setTop_of_frames _ hr', State.setFrames_setFrames, hr]
      rfl
    have hsame : U.sameButNew ({ U with heap := s₂.heap, slotsUsed := s₂.slotsUsed } : State) L mc ms := by
      refine ⟨?_, q2, q3, q4, q5, q6⟩
      obtain ⟨t, ht, -⟩ := State.frames_cons hr
      show ({ U with heap := s₂.heap, slotsUsed := s₂.slotsUsed } : State) = { U.setFrames U.frames with heap := s₂.heap, slotsUsed := s₂.slotsUsed }
      rw [State.setFrames_self ht]
    subst hg
    refine Or.inr ⟨q, ⟨(({ U with heap := s₂.heap, slotsUsed := s₂.slotsUsed } : State).setVm s₂.vm), Ls ++ L, c0 + mc, s0 + ms⟩,
      ⟨X.admits, X.cas, X.clock, X.frames, X.room, X.hears, X.method, X.code, (X.here.setHeapUsed s₂.heap s₂.slotsUsed).setVm hW'.alike, X.tail, State.WarmedH.trans X.warmed hW', X.limits, X.bytes, X.same.trans (hsame.setVm s.vm)⟩,
      ⟨g, mk, s₂, L, E, ce, rfl, rfl, hx, hce, hcv, hcl, rfl, hL, rfl, rfl⟩, ?_⟩
    show Steps p.tables e below _ (((({ U with heap := s₂.heap, slotsUsed := s₂.slotsUsed } : State).setVm s₂.vm).setTop g).pushFrame (.throwing q))
    rw [← hs₂]
    exact hsteps
end Payer
section Calls
variable {p : Program} {l : Launch} {e : Env} {R : Room} {s : State} {m : MethodId} {args : Array Value} {below : List Frame} {meth : Method} {c : Code} {T : State} {locs : List Loc} {cells slots : Nat}
theorem vx_callV (X : Stand p l e R s m args below meth c T locs cells slots) (hexec : p.tables.exec = Jvm.exec) {own C : String} {index : Nat} {y : MethodName} {bytes : ByteArray} {maxL : Nat} {ret : Option FieldType}
    (hown : s.vm.findClass own = some m.cls) (hlink : (Cond.methodLink own index y).before args s = true) (hinst : (Cond.instanceMethod y).before args s = true) (hsel : (Cond.selects C y y).before args s = true)
    (hcode : (Cond.code y bytes maxL ret).before args s = true) (hy : y.cls ≠ "java/lang/invoke/MethodHandle" ∧ y.cls ≠ "java/lang/invoke/VarHandle")
    {W9 : Nat} {Pre : Pt → Array Value → Prop} {Post : Pt → Array Value → Option Value → Pt → Prop} {PostX : Pt → Array Value → Addr → Pt → Prop} (hK : vx_Back l R p e below s args y 3 W9 Pre Post PostX)
    {b : Addr} {cellB : Cell} (hcell : T.heap[b]? = some cellB) (hobj : cellB.vm.isStatics = false) (hcls : s.vm.findClass C = some cellB.cls)
    {g : JFrame} (hg : g.method = m) (hsize : g.locals.size = c.maxLocals) {argsL rest : List Value} (hlen : ∀ sig, parseMethodDescriptor y.desc = some sig → argsL.length = sig.parameters.length)
    (hstack : g.stack = argsL.reverse ++ .ref b :: rest) (hW : 2 * g.monitorRoom + (rest.map fun v => v.category).sum ≤ W9) (hdg : decode c.code g.pc = .ok (.invokevirtual index, 3))
    (hpre : ∀ vm₁, s.WarmedH vm₁ → Pre ⟨T.setVm vm₁, locs, cells, slots⟩ (Value.ref b :: argsL).toArray) :
    (∃ (v : Option Value) (vm₁ : Vm) (B : Pt), s.WarmedH vm₁ ∧ Stand p l e R s m args below meth c B.U B.locs B.cells B.slots ∧ Post ⟨T.setVm vm₁, locs, cells, slots⟩ (Value.ref b :: argsL).toArray v B ∧
      ∀ target, Steps p.tables e below (B.U.setTop { g with pc := g.pc + 3, stack := v.toList ++ rest }) target → Steps p.tables e below (T.setTop g) target) ∨
    (∃ (q : Addr) (vm₁ : Vm) (B : Pt), s.WarmedH vm₁ ∧ Stand p l e R s m args below meth c B.U B.locs B.cells B.slots ∧ PostX ⟨T.setVm vm₁, locs, cells, slots⟩ (Value.ref b :: argsL).toArray q B ∧
      Steps p.tables e below (T.setTop g) ((B.U.setTop { g with stack := rest }).pushFrame (.throwing q))) := by
  obtain ⟨mk, methM, hnamed, hmethM, hstM, habM⟩ := Cond.instanceMethod_spec hinst
  obtain ⟨methM', cM, hmethM', -, -, -, -, -, -, hsigM⟩ := Cond.code_spec hnamed hcode
  cases hmethM.symm.trans hmethM'
  obtain ⟨c2, r2, m2, q1, q2, q3, q4, kP, hkP, hkPi⟩ := Cond.selects_spec hsel
  cases hcls.symm.trans q1
  cases (State.methodFound?_of_named hnamed hy).symm.trans q2
  cases hnamed.symm.trans q3
  have hselP : selectMethod e.platform s.vm cellB.cls mk = .method mk := by rw [Launch.admits_selectMethod X.admits]; exact q4
  obtain ⟨vm₁, X₁, hstep₁⟩ := X.invokevirtual hexec hown hlink hnamed hmethM hstM hkP hkPi hy (a := b) (cell := cellB) hcell
    (fun z h => by rw [h] at hobj; cases hobj) hselP hmethM habM hkP hkPi (g := g) hg (argsL := argsL) (rest := rest) (hlen _ hsigM) hstack hdg
  rcases hK m meth c ⟨T.setVm vm₁, locs, cells, slots⟩ { g with stack := rest } (.invokevirtual index) mk (Value.ref b :: argsL).toArray X₁ hg hsize hdg hW (X₁.named hnamed) (hpre vm₁ X₁.warmed) with ⟨v, B, X', hpost, hsteps⟩ | ⟨q, B, X', hpost, hsteps⟩
  · exact Or.inl ⟨v, vm₁, B, X₁.warmed, X', hpost, fun target h => hstep₁ _ fun acts => by rw [doInvoke_state]; exact hsteps.trans h⟩
  · exact Or.inr ⟨q, vm₁, B, X₁.warmed, X', hpost, hstep₁ _ fun acts => by rw [doInvoke_state]; exact hsteps⟩
theorem vx_callS (X : Stand p l e R s m args below meth c T locs cells slots) (hexec : p.tables.exec = Jvm.exec) {own : String} {index : Nat} {y : MethodName} {bytes : ByteArray} {maxL : Nat} {ret : Option FieldType}
    (hown : s.vm.findClass own = some m.cls) (hlink : (Cond.methodLink own index y).before args s = true) (hstat : (Cond.static y).before args s = true) (hinit : (Cond.initialized y.cls).before args s = true)
    (hcode : (Cond.code y bytes maxL ret).before args s = true) (hy : y.cls ≠ "java/lang/invoke/MethodHandle" ∧ y.cls ≠ "java/lang/invoke/VarHandle")
    {W9 : Nat} {Pre : Pt → Array Value → Prop} {Post : Pt → Array Value → Option Value → Pt → Prop} {PostX : Pt → Array Value → Addr → Pt → Prop} (hK : vx_Back l R p e below s args y 3 W9 Pre Post PostX)
    {g : JFrame} (hg : g.method = m) (hsize : g.locals.size = c.maxLocals) {argsL rest : List Value} (hlen : ∀ sig, parseMethodDescriptor y.desc = some sig → argsL.length = sig.parameters.length)
    (hstack : g.stack = argsL.reverse ++ rest) (hW : 2 * g.monitorRoom + (rest.map fun v => v.category).sum ≤ W9) (hdg : decode c.code g.pc = .ok (.invokestatic index, 3))
    (hpre : ∀ vm₁, s.WarmedH vm₁ → Pre ⟨T.setVm vm₁, locs, cells, slots⟩ argsL.toArray) :
    (∃ (v : Option Value) (vm₁ : Vm) (B : Pt), s.WarmedH vm₁ ∧ Stand p l e R s m args below meth c B.U B.locs B.cells B.slots ∧ Post ⟨T.setVm vm₁, locs, cells, slots⟩ argsL.toArray v B ∧
      ∀ target, Steps p.tables e below (B.U.setTop { g with pc := g.pc + 3, stack := v.toList ++ rest }) target → Steps p.tables e below (T.setTop g) target) ∨
    (∃ (q : Addr) (vm₁ : Vm) (B : Pt), s.WarmedH vm₁ ∧ Stand p l e R s m args below meth c B.U B.locs B.cells B.slots ∧ PostX ⟨T.setVm vm₁, locs, cells, slots⟩ argsL.toArray q B ∧
      Steps p.tables e below (T.setTop g) ((B.U.setTop { g with stack := rest }).pushFrame (.throwing q))) := by
  obtain ⟨mk, hnamed⟩ := Cond.code_named hcode
  obtain ⟨methM, cM, hmethM, -, -, -, -, -, -, hsigM⟩ := Cond.code_spec hnamed hcode
  have hstatic : methM.isStatic = true := Cond.static_spec hnamed hmethM hstat
  obtain ⟨kP, hkP, -⟩ := className_of_methodNamed hnamed
  have hinitP : kP.init = .initialized := Cond.initialized_spec (findClass_of_methodNamed hnamed) hkP hinit
  obtain ⟨vm₁, X₁, hstep₁⟩ := X.invokestatic hexec hown hlink hnamed hmethM hstatic hkP hinitP hy (g := g) hg (argsL := argsL) (rest := rest) (hlen _ hsigM) hstack hdg
  rcases hK m meth c ⟨T.setVm vm₁, locs, cells, slots⟩ { g with stack := rest } (.invokestatic index) mk argsL.toArray X₁ hg hsize hdg hW (X₁.named hnamed) (hpre vm₁ X₁.warmed) with ⟨v, B, X', hpost, hsteps⟩ | ⟨q, B, X', hpost, hsteps⟩
  · exact Or.inl ⟨v, vm₁, B, X₁.warmed, X', hpost, fun target h => hstep₁ _ fun acts => by rw [doInvoke_state]; exact hsteps.trans h⟩
  · exact Or.inr ⟨q, vm₁, B, X₁.warmed, X', hpost, hstep₁ _ fun acts => by rw [doInvoke_state]; exact hsteps⟩
end Calls
theorem vx_cls {s : State} {T : State} {vm₁ : Vm} {E : String} {k : ClassId} (hW : s.WarmedH vm₁) (h : (T.setVm vm₁).vm.findClass E = some k) : s.vm.findClass E = some k := by
  have h1 : vm₁.findClass E = some k := h
  rw [hW.alike.findClass] at h1
  exact h1
/-- the method's frame g, with q thrown over it -/
def vx_W (p : Program) (l : Launch) (e : Env) (R : Room) (s : State) (m : MethodId) (args : Array Value) (below : List Frame) (meth : Method) (c : Code) (H : Heap) (locs : List Loc) (cells slots : Nat) (Q : State → Prop) (g : JFrame) (q : Addr) : Prop :=
  ∀ T : State, T.heap = H → Stand p l e R s m args below meth c T locs cells slots → ∃ t, Steps p.tables e below ((T.setTop g).pushFrame (.throwing q)) t ∧ Q t
def vx_Run (p : Program) (l : Launch) (e : Env) (R : Room) (s : State) (m : MethodId) (args : Array Value) (below : List Frame) (meth : Method) (c : Code) (H : Heap) (locs : List Loc) (cells slots mc ms : Nat) (g : JFrame) (rest : List Value) (Qa : State → Outcome → State → Prop) (XC : String → State → State → Prop) (free : Addr → Prop) : Prop :=
  ∀ T : State, T.heap = H → Stand p l e R s m args below meth c T locs cells slots →
    (∃ (v : Option Value) (st₀ t T' : State) (L : List Loc), st₀.heap = H ∧ Stand p l e R s m args below meth c T' (locs ++ L) (cells + mc) (slots + ms) ∧ (∀ q ∈ L, free q.base) ∧ T'.heap = t.heap ∧ T'.vm = t.vm ∧ Qa st₀ (.returned v) t ∧
      Goes p e below T g T' { g with pc := g.pc + 3, stack := v.toList ++ rest }) ∨
    (∃ (q : Addr) (st₀ t T' : State) (L : List Loc) (E : String) (ce : Cell), st₀.heap = H ∧ Stand p l e R s m args below meth c T' (locs ++ L) (cells + mc) (slots + ms) ∧ (∀ z ∈ L, free z.base) ∧ T'.heap = t.heap ∧ T'.vm = t.vm ∧ XC E st₀ t ∧ t.heap[q]? = some ce ∧ ce.vm = .none ∧ s.vm.findClass E = some ce.cls ∧
      Steps p.tables e below (T.setTop g) ((T'.setTop { g with stack := rest }).pushFrame (.throwing q)))
def vx_X {S : Type} (px : S → Prop) (B : String → S → State → Prop) (A : Nat → Prop) : String → State → State → Prop := fun E st t => ∃ u : S, px u ∧ B E u t ∧ va_F A st t
section Runs
variable {p : Program} {l : Launch} {e : Env} {R : Room} {s : State} {m : MethodId} {args : Array Value} {below : List Frame} {meth : Method} {c : Code} {H : Heap} {locs : List Loc} {cells slots : Nat}
variable {y : MethodName} {bytes cc : ByteArray} {maxL nL mc ms n index : Nat} {ret : Option FieldType} {ws : List Cond} {rm : Room} {Pc : Array Value → State → Prop} {Qc : Array Value → State → Outcome → State → Prop} {XC : String → State → State → Prop} {free : Addr → Prop} {Ts : List Cond} {own C : String} {b : Addr} {As rest : List Value} {g : JFrame}
theorem vx_callBack (cb : CallB R s args own index y bytes maxL ret ws rm mc ms n) (hM : vx_Met l y ws rm Pc Qc XC mc ms free) (hbl : FrameBlind Pc) : vx_Back l R p e below s args y 3 8 (PreOf R mc ms Pc) (PostOf Qc mc ms free) (vx_Post XC mc ms free) := by
  obtain ⟨hrc, hrs, hfr, hlo, hws, hcw, -, hini, -⟩ := cb
  exact vx_back (bytes := bytes) (maxL := maxL) (ret := ret) hM hbl hrc hrs hfr hlo hws hcw (fun a' U hW => word_at hW (Or.inl (by first | rfl | simp [Cond.onTables, Cond.keeps, Cond.steady])) hini)
theorem vx_runV (S : CallFix p m c cc nL s args Ts own) (hM : vx_Met l y ws rm Pc Qc XC mc ms free) (cw : CallW R s args own C index y bytes maxL ret ws rm mc ms n) (hp : PreV s H C b Pc As)
    (hg : g.method = m) (hn : As.length = n) (hsize : g.locals.size = nL) (hstack : g.stack = As.reverse ++ .ref b :: rest) (hW : 2 * g.monitorRoom + (rest.map fun v => v.category).sum ≤ 8) (hdg : decode cc g.pc = .ok (.invokevirtual index, 3)) (hf : cells + mc ≤ R.cells ∧ slots + ms ≤ R.slots) :
    vx_Run p l e R s m args below meth c H locs cells slots mc ms g rest (Qc (Value.ref b :: As).toArray) XC free := by
  have hK : vx_Back l R p e below s args y 3 8 (PreOf R mc ms Pc) (PostOf Qc mc ms free) (vx_Post XC mc ms free) := vx_callBack cw.1 hM hp.1
  obtain ⟨⟨-, -, -, -, -, -, hcode, -, hy, hlen, hl⟩, hin, hse⟩ := cw
  obtain ⟨hx, hb, hml, ho, -⟩ := S
  obtain ⟨-, ⟨cellB, hcB, hoB, hclB⟩, hPc⟩ := hp
  intro T hT X
  rcases vx_callV X hx (C := C) (bytes := bytes) (maxL := maxL) (ret := ret) ho hl hin hse hcode hy hK (by rw [hT]; exact hcB) hoB hclB hg (hsize.trans hml.symm) (argsL := As) (rest := rest) (fun sig h => hn.trans (hlen sig h)) hstack hW (by rw [hb]; exact hdg)
    (fun vm₁ hW₁ => ⟨hf.1, hf.2, hPc (T.setVm vm₁) hT hW₁⟩) with ⟨v, vm₁, ⟨U', l2, c2, s2⟩, hW₁, X', ⟨g', mk, t, L, e1, e2, hq, h1, hL, h2, h3⟩, st⟩ | ⟨q, vm₁, ⟨U', l2, c2, s2⟩, hW₁, X', ⟨g', mk, t, L, E, ce, e1, e2, hq, hce, hcv, hcl, h1, hL, h2, h3⟩, st⟩
  · dsimp only [Pt.U, Pt.locs, Pt.cells, Pt.slots] at X' e1 e2 h1 h2 h3 st
    subst h1; subst h2; subst h3
    exact Or.inl ⟨v, (T.setVm vm₁).calling g' mk (Value.ref b :: As).toArray, t, U', L, hT, X', hL, e1, e2, hq, st⟩
  · dsimp only [Pt.U, Pt.locs, Pt.cells, Pt.slots] at X' e1 e2 h1 h2 h3 st hcl
    subst h1; subst h2; subst h3
    exact Or.inr ⟨q, (T.setVm vm₁).calling g' mk (Value.ref b :: As).toArray, t, U', L, E, ce, hT, X', hL, e1, e2, hq, hce, hcv, vx_cls hW₁ hcl, st⟩
theorem vx_runS (S : CallFix p m c cc nL s args Ts own) (hM : vx_Met l y ws rm Pc Qc XC mc ms free) (cw : CallB R s args own index y bytes maxL ret ws rm mc ms n ∧ (Cond.static y).before args s = true) (hp : PreS s H Pc As)
    (hg : g.method = m) (hn : As.length = n) (hsize : g.locals.size = nL) (hstack : g.stack = As.reverse ++ rest) (hW : 2 * g.monitorRoom + (rest.map fun v => v.category).sum ≤ 8) (hdg : decode cc g.pc = .ok (.invokestatic index, 3)) (hf : cells + mc ≤ R.cells ∧ slots + ms ≤ R.slots) :
    vx_Run p l e R s m args below meth c H locs cells slots mc ms g rest (Qc As.toArray) XC free := by
  have hK : vx_Back l R p e below s args y 3 8 (PreOf R mc ms Pc) (PostOf Qc mc ms free) (vx_Post XC mc ms free) := vx_callBack cw.1 hM hp.1
  obtain ⟨⟨-, -, -, -, -, -, hcode, hini, hy, hlen, hl⟩, hstt⟩ := cw
  obtain ⟨hx, hb, hml, ho, -⟩ := S
  intro T hT X
  rcases vx_callS X hx (bytes := bytes) (maxL := maxL) (ret := ret) ho hl hstt hini hcode hy hK hg (hsize.trans hml.symm) (argsL := As) (rest := rest) (fun sig h => hn.trans (hlen sig h)) hstack hW (by rw [hb]; exact hdg)
    (fun vm₁ hW₁ => ⟨hf.1, hf.2, hp.2 (T.setVm vm₁) hT hW₁⟩) with ⟨v, vm₁, ⟨U', l2, c2, s2⟩, hW₁, X', ⟨g', mk, t, L, e1, e2, hq, h1, hL, h2, h3⟩, st⟩ | ⟨q, vm₁, ⟨U', l2, c2, s2⟩, hW₁, X', ⟨g', mk, t, L, E, ce, e1, e2, hq, hce, hcv, hcl, h1, hL, h2, h3⟩, st⟩
  · dsimp only [Pt.U, Pt.locs, Pt.cells, Pt.slots] at X' e1 e2 h1 h2 h3 st
    subst h1; subst h2; subst h3
    exact Or.inl ⟨v, (T.setVm vm₁).calling g' mk As.toArray, t, U', L, hT, X', hL, e1, e2, hq, st⟩
  · dsimp only [Pt.U, Pt.locs, Pt.cells, Pt.slots] at X' e1 e2 h1 h2 h3 st hcl
    subst h1; subst h2; subst h3
    exact Or.inr ⟨q, (T.setVm vm₁).calling g' mk As.toArray, t, U', L, E, ce, hT, X', hL, e1, e2, hq, hce, hcv, vx_cls hW₁ hcl, st⟩
end Runs
section Rows
variable {p : Program} {l : Launch} {e : Env} {R : Room} {s : State} {m : MethodId} {args : Array Value} {below : List Frame} {meth : Method} {c : Code} {H : Heap} {locs : List Loc} {cells slots : Nat} {Q : State → Prop}
variable {mc ms : Nat} {free : Addr → Prop} {A0 A1 : Nat → Prop} {H0 : Heap} {a : Array Value} {pc : Nat} {ls : Array Slot} {st0 rest : List Value}
theorem vx_keep {st₀ t T' : State} {L : List Loc} (h0 : st₀.heap = H) (e1 : T'.heap = t.heap) (hS : va_S A0 H0 H locs) (hA : ∀ q, q < H.size → A1 q → A0 q) (hf : ∀ q, free q → A0 q) (hL : ∀ q ∈ L, free q.base) (hF : va_F A1 st₀ t) :
    H.size ≤ T'.heap.size ∧ (∀ q : Nat, q < H.size → ¬ A1 q → T'.heap[q]? = H[q]?) ∧ va_S A0 H0 T'.heap (locs ++ L) := by
  obtain ⟨hz, hk⟩ := hF
  rw [h0] at hz hk
  exact ⟨by rw [e1]; exact hz, fun q h1 h2 => by rw [e1]; exact hk q h1 h2,
    ⟨Nat.le_trans hS.1 (by rw [e1]; exact hz), fun q h1 h2 => by rw [e1, hk q (Nat.lt_of_lt_of_le h1 hS.1) (fun z => h2 (hA q (Nat.lt_of_lt_of_le h1 hS.1) z))]; exact hS.2.1 q h1 h2, fun q hq => by
      rcases List.mem_append.mp hq with h | h
      · exact hS.2.2 q h
      · exact hf _ (hL q h)⟩⟩
theorem vx_calli {S SX : Type} {post : Int32 → S → Prop} {px : SX → Prop} {B : S → State → Prop} {BX : String → SX → State → Prop} {AX : Nat → Prop} (hr : vx_Run p l e R s m args below meth c H locs cells slots mc ms (F0 m pc ls st0) rest (va_Qi post B A1 a) (vx_X px BX AX) free) (hS : va_S A0 H0 H locs) (hA : ∀ q, q < H.size → A1 q → A0 q) (hf : ∀ q, free q → A0 q) (hAX : ∀ q, q < H.size → AX q → A0 q)
    (kx : ∀ (E : String) (ce : Cell) (q9 : Addr) (u : SX) (t : State) (H1 : Heap) (locs1 : List Loc), t.heap = H1 → s.vm.Alike t.vm → px u → BX E u t → H.size ≤ H1.size → (∀ q : Nat, q < H.size → ¬ AX q → H1[q]? = H[q]?) → va_S A0 H0 H1 locs1 → H1[q9]? = some ce → ce.vm = .none → s.vm.findClass E = some ce.cls → vx_W p l e R s m args below meth c H1 locs1 (cells + mc) (slots + ms) Q (F0 m pc ls rest) q9)
    (kk : ∀ (r : Int32) (u : S) (t : State) (H1 : Heap) (locs1 : List Loc), t.heap = H1 → s.vm.Alike t.vm → post r u → B u t → H.size ≤ H1.size → (∀ q : Nat, q < H.size → ¬ A1 q → H1[q]? = H[q]?) → va_S A0 H0 H1 locs1 → W p l e R s m args below meth c H1 locs1 (cells + mc) (slots + ms) Q (F0 m (pc + 3) ls (.int r :: rest))) : W p l e R s m args below meth c H locs cells slots Q (F0 m pc ls st0) := by
  intro T hT X
  rcases hr T hT X with ⟨v, st₀, t, T', L, h0, X', hL, e1, e2, ⟨⟨r, u, hv, hp, hb⟩, hF⟩, st⟩ | ⟨q, st₀, t, T', L, E, ce, h0, X', hL, e1, e2, ⟨u, hp, hb, hF⟩, hce, hcv, hcl, st⟩
  · cases hv
    obtain ⟨k1, k2, k3⟩ := vx_keep h0 e1 hS hA hf hL hF
    obtain ⟨t2, a1, b1⟩ := kk r u t T'.heap (locs ++ L) e1.symm (by rw [← e2]; exact X'.warmed.alike) hp hb k1 k2 k3 T' rfl X'
    exact ⟨t2, st t2 a1, b1⟩
  · obtain ⟨k1, k2, k3⟩ := vx_keep h0 e1 hS hAX hf hL hF
    obtain ⟨t2, a1, b1⟩ := kx E ce q u t T'.heap (locs ++ L) e1.symm (by rw [← e2]; exact X'.warmed.alike) hp hb k1 k2 k3 (by rw [e1]; exact hce) hcv hcl T' rfl X'
    exact ⟨t2, st.trans a1, b1⟩
theorem vx_calll {S SX : Type} {post : Int64 → S → Prop} {px : SX → Prop} {B : S → State → Prop} {BX : String → SX → State → Prop} {AX : Nat → Prop} (hr : vx_Run p l e R s m args below meth c H locs cells slots mc ms (F0 m pc ls st0) rest (va_Ql post B A1 a) (vx_X px BX AX) free) (hS : va_S A0 H0 H locs) (hA : ∀ q, q < H.size → A1 q → A0 q) (hf : ∀ q, free q → A0 q) (hAX : ∀ q, q < H.size → AX q → A0 q)
    (kx : ∀ (E : String) (ce : Cell) (q9 : Addr) (u : SX) (t : State) (H1 : Heap) (locs1 : List Loc), t.heap = H1 → s.vm.Alike t.vm → px u → BX E u t → H.size ≤ H1.size → (∀ q : Nat, q < H.size → ¬ AX q → H1[q]? = H[q]?) → va_S A0 H0 H1 locs1 → H1[q9]? = some ce → ce.vm = .none → s.vm.findClass E = some ce.cls → vx_W p l e R s m args below meth c H1 locs1 (cells + mc) (slots + ms) Q (F0 m pc ls rest) q9)
    (kk : ∀ (r : Int64) (u : S) (t : State) (H1 : Heap) (locs1 : List Loc), t.heap = H1 → s.vm.Alike t.vm → post r u → B u t → H.size ≤ H1.size → (∀ q : Nat, q < H.size → ¬ A1 q → H1[q]? = H[q]?) → va_S A0 H0 H1 locs1 → W p l e R s m args below meth c H1 locs1 (cells + mc) (slots + ms) Q (F0 m (pc + 3) ls (.long r :: rest))) : W p l e R s m args below meth c H locs cells slots Q (F0 m pc ls st0) := by
  intro T hT X
  rcases hr T hT X with ⟨v, st₀, t, T', L, h0, X', hL, e1, e2, ⟨⟨r, u, hv, hp, hb⟩, hF⟩, st⟩ | ⟨q, st₀, t, T', L, E, ce, h0, X', hL, e1, e2, ⟨u, hp, hb, hF⟩, hce, hcv, hcl, st⟩
  · cases hv
    obtain ⟨k1, k2, k3⟩ := vx_keep h0 e1 hS hA hf hL hF
    obtain ⟨t2, a1, b1⟩ := kk r u t T'.heap (locs ++ L) e1.symm (by rw [← e2]; exact X'.warmed.alike) hp hb k1 k2 k3 T' rfl X'
    exact ⟨t2, st t2 a1, b1⟩
  · obtain ⟨k1, k2, k3⟩ := vx_keep h0 e1 hS hAX hf hL hF
    obtain ⟨t2, a1, b1⟩ := kx E ce q u t T'.heap (locs ++ L) e1.symm (by rw [← e2]; exact X'.warmed.alike) hp hb k1 k2 k3 (by rw [e1]; exact hce) hcv hcl T' rfl X'
    exact ⟨t2, st.trans a1, b1⟩
theorem vx_callf {S SX : Type} {post : UInt32 → S → Prop} {px : SX → Prop} {B : S → State → Prop} {BX : String → SX → State → Prop} {AX : Nat → Prop} (hr : vx_Run p l e R s m args below meth c H locs cells slots mc ms (F0 m pc ls st0) rest (va_Qf post B A1 a) (vx_X px BX AX) free) (hS : va_S A0 H0 H locs) (hA : ∀ q, q < H.size → A1 q → A0 q) (hf : ∀ q, free q → A0 q) (hAX : ∀ q, q < H.size → AX q → A0 q)
    (kx : ∀ (E : String) (ce : Cell) (q9 : Addr) (u : SX) (t : State) (H1 : Heap) (locs1 : List Loc), t.heap = H1 → s.vm.Alike t.vm → px u → BX E u t → H.size ≤ H1.size → (∀ q : Nat, q < H.size → ¬ AX q → H1[q]? = H[q]?) → va_S A0 H0 H1 locs1 → H1[q9]? = some ce → ce.vm = .none → s.vm.findClass E = some ce.cls → vx_W p l e R s m args below meth c H1 locs1 (cells + mc) (slots + ms) Q (F0 m pc ls rest) q9)
    (kk : ∀ (r : UInt32) (u : S) (t : State) (H1 : Heap) (locs1 : List Loc), t.heap = H1 → s.vm.Alike t.vm → post r u → B u t → H.size ≤ H1.size → (∀ q : Nat, q < H.size → ¬ A1 q → H1[q]? = H[q]?) → va_S A0 H0 H1 locs1 → W p l e R s m args below meth c H1 locs1 (cells + mc) (slots + ms) Q (F0 m (pc + 3) ls (.float r :: rest))) : W p l e R s m args below meth c H locs cells slots Q (F0 m pc ls st0) := by
  intro T hT X
  rcases hr T hT X with ⟨v, st₀, t, T', L, h0, X', hL, e1, e2, ⟨⟨r, u, hv, hp, hb⟩, hF⟩, st⟩ | ⟨q, st₀, t, T', L, E, ce, h0, X', hL, e1, e2, ⟨u, hp, hb, hF⟩, hce, hcv, hcl, st⟩
  · cases hv
    obtain ⟨k1, k2, k3⟩ := vx_keep h0 e1 hS hA hf hL hF
    obtain ⟨t2, a1, b1⟩ := kk r u t T'.heap (locs ++ L) e1.symm (by rw [← e2]; exact X'.warmed.alike) hp hb k1 k2 k3 T' rfl X'
    exact ⟨t2, st t2 a1, b1⟩
  · obtain ⟨k1, k2, k3⟩ := vx_keep h0 e1 hS hAX hf hL hF
    obtain ⟨t2, a1, b1⟩ := kx E ce q u t T'.heap (locs ++ L) e1.symm (by rw [← e2]; exact X'.warmed.alike) hp hb k1 k2 k3 (by rw [e1]; exact hce) hcv hcl T' rfl X'
    exact ⟨t2, st.trans a1, b1⟩
theorem vx_calld {S SX : Type} {post : UInt64 → S → Prop} {px : SX → Prop} {B : S → State → Prop} {BX : String → SX → State → Prop} {AX : Nat → Prop} (hr : vx_Run p l e R s m args below meth c H locs cells slots mc ms (F0 m pc ls st0) rest (va_Qd post B A1 a) (vx_X px BX AX) free) (hS : va_S A0 H0 H locs) (hA : ∀ q, q < H.size → A1 q → A0 q) (hf : ∀ q, free q → A0 q) (hAX : ∀ q, q < H.size → AX q → A0 q)
    (kx : ∀ (E : String) (ce : Cell) (q9 : Addr) (u : SX) (t : State) (H1 : Heap) (locs1 : List Loc), t.heap = H1 → s.vm.Alike t.vm → px u → BX E u t → H.size ≤ H1.size → (∀ q : Nat, q < H.size → ¬ AX q → H1[q]? = H[q]?) → va_S A0 H0 H1 locs1 → H1[q9]? = some ce → ce.vm = .none → s.vm.findClass E = some ce.cls → vx_W p l e R s m args below meth c H1 locs1 (cells + mc) (slots + ms) Q (F0 m pc ls rest) q9)
    (kk : ∀ (r : UInt64) (u : S) (t : State) (H1 : Heap) (locs1 : List Loc), t.heap = H1 → s.vm.Alike t.vm → post r u → B u t → H.size ≤ H1.size → (∀ q : Nat, q < H.size → ¬ A1 q → H1[q]? = H[q]?) → va_S A0 H0 H1 locs1 → W p l e R s m args below meth c H1 locs1 (cells + mc) (slots + ms) Q (F0 m (pc + 3) ls (.double r :: rest))) : W p l e R s m args below meth c H locs cells slots Q (F0 m pc ls st0) := by
  intro T hT X
  rcases hr T hT X with ⟨v, st₀, t, T', L, h0, X', hL, e1, e2, ⟨⟨r, u, hv, hp, hb⟩, hF⟩, st⟩ | ⟨q, st₀, t, T', L, E, ce, h0, X', hL, e1, e2, ⟨u, hp, hb, hF⟩, hce, hcv, hcl, st⟩
  · cases hv
    obtain ⟨k1, k2, k3⟩ := vx_keep h0 e1 hS hA hf hL hF
    obtain ⟨t2, a1, b1⟩ := kk r u t T'.heap (locs ++ L) e1.symm (by rw [← e2]; exact X'.warmed.alike) hp hb k1 k2 k3 T' rfl X'
    exact ⟨t2, st t2 a1, b1⟩
  · obtain ⟨k1, k2, k3⟩ := vx_keep h0 e1 hS hAX hf hL hF
    obtain ⟨t2, a1, b1⟩ := kx E ce q u t T'.heap (locs ++ L) e1.symm (by rw [← e2]; exact X'.warmed.alike) hp hb k1 k2 k3 (by rw [e1]; exact hce) hcv hcl T' rfl X'
    exact ⟨t2, st.trans a1, b1⟩
theorem vx_callv {S SX : Type} {post : S → Prop} {px : SX → Prop} {B : S → State → Prop} {BX : String → SX → State → Prop} {AX : Nat → Prop} (hr : vx_Run p l e R s m args below meth c H locs cells slots mc ms (F0 m pc ls st0) rest (va_Qv post B A1 a) (vx_X px BX AX) free) (hS : va_S A0 H0 H locs) (hA : ∀ q, q < H.size → A1 q → A0 q) (hf : ∀ q, free q → A0 q) (hAX : ∀ q, q < H.size → AX q → A0 q)
    (kx : ∀ (E : String) (ce : Cell) (q9 : Addr) (u : SX) (t : State) (H1 : Heap) (locs1 : List Loc), t.heap = H1 → s.vm.Alike t.vm → px u → BX E u t → H.size ≤ H1.size → (∀ q : Nat, q < H.size → ¬ AX q → H1[q]? = H[q]?) → va_S A0 H0 H1 locs1 → H1[q9]? = some ce → ce.vm = .none → s.vm.findClass E = some ce.cls → vx_W p l e R s m args below meth c H1 locs1 (cells + mc) (slots + ms) Q (F0 m pc ls rest) q9)
    (kk : ∀ (u : S) (t : State) (H1 : Heap) (locs1 : List Loc), t.heap = H1 → s.vm.Alike t.vm → post u → B u t → H.size ≤ H1.size → (∀ q : Nat, q < H.size → ¬ A1 q → H1[q]? = H[q]?) → va_S A0 H0 H1 locs1 → W p l e R s m args below meth c H1 locs1 (cells + mc) (slots + ms) Q (F0 m (pc + 3) ls (rest))) : W p l e R s m args below meth c H locs cells slots Q (F0 m pc ls st0) := by
  intro T hT X
  rcases hr T hT X with ⟨v, st₀, t, T', L, h0, X', hL, e1, e2, ⟨⟨u, hv, hp, hb⟩, hF⟩, st⟩ | ⟨q, st₀, t, T', L, E, ce, h0, X', hL, e1, e2, ⟨u, hp, hb, hF⟩, hce, hcv, hcl, st⟩
  · cases hv
    obtain ⟨k1, k2, k3⟩ := vx_keep h0 e1 hS hA hf hL hF
    obtain ⟨t2, a1, b1⟩ := kk u t T'.heap (locs ++ L) e1.symm (by rw [← e2]; exact X'.warmed.alike) hp hb k1 k2 k3 T' rfl X'
    exact ⟨t2, st t2 a1, b1⟩
  · obtain ⟨k1, k2, k3⟩ := vx_keep h0 e1 hS hAX hf hL hF
    obtain ⟨t2, a1, b1⟩ := kx E ce q u t T'.heap (locs ++ L) e1.symm (by rw [← e2]; exact X'.warmed.alike) hp hb k1 k2 k3 (by rw [e1]; exact hce) hcv hcl T' rfl X'
    exact ⟨t2, st.trans a1, b1⟩
/-- caught by the row x of this method's table; the rows ahead don't take it -/
theorem vx_catch {own name : String} {E : String} {ce : Cell} {q : Addr} (hown : s.vm.findClass own = some m.cls) (pre : List ExceptionTableEntry) (x : ExceptionTableEntry) (suf : List ExceptionTableEntry) (hsplit : c.exceptionTable.toList = pre ++ x :: suf)
    (hpass : ∀ z ∈ pre, covers z pc = false ∨ (z.catchType ≠ 0 ∧ ∃ nm : String, (Cond.classLink own z.catchType nm).before args s = true ∧ va_Nc E nm s)) (hx : covers x pc = true) (h0 : x.catchType ≠ 0)
    (hlink : (Cond.classLink own x.catchType name).before args s = true) (hcast : (Cond.castable E name).before args s = true) (hcell : H[q]? = some ce) (hv : ce.vm = .none) (hcl : s.vm.findClass E = some ce.cls)
    (kk : W p l e R s m args below meth c H locs cells slots Q (F0 m x.handlerPc ls [.ref q])) : vx_W p l e R s m args below meth c H locs cells slots Q (F0 m pc ls rest) q := by
  intro T hT X
  have hpl : e.platform.magicAccessors = ({} : Platform).magicAccessors := by rw [X.admits.platform]
  obtain ⟨c3, c4, hc3, hc4, hasg⟩ := Cond.castable_spec hcast
  cases Option.some.inj (hc3.symm.trans hcl)
  obtain ⟨c5, hc5, hcl5⟩ := Cond.classLink_spec hown hlink e.platform hpl
  cases Option.some.inj (hc4.symm.trans hc5)
  obtain ⟨vm', X', st⟩ := X.thenCaughtThrough q (g := F0 m pc ls rest) rfl (Steps.refl _) (by rw [hT]; exact hcell) (by rw [hv]; rfl) (by obtain ⟨k9, h9, -⟩ := Vm.findClass_spec hcl; exact ⟨k9, h9⟩) pre x suf hsplit
    (fun z hz => by
      rcases hpass z hz with h | ⟨hz0, nm, hl1, hn1⟩
      · exact Or.inl h
      · obtain ⟨c6, hc6, hcl6⟩ := Cond.classLink_spec hown hl1 e.platform hpl
        obtain ⟨a8, b8, h1, h2, h3⟩ := hn1
        cases Option.some.inj (h1.symm.trans hcl)
        cases Option.some.inj (h2.symm.trans hc6)
        exact Or.inr ⟨hz0, _, hcl6, h3⟩) hx (Or.inr ⟨h0, c4, hcl5, hasg⟩)
  obtain ⟨t, a1, b1⟩ := kk (T.setVm vm') hT X'
  exact ⟨t, st.trans a1, b1⟩
end Rows
section Ends
variable {p : Program} {l : Launch} {e : Env} {R : Room} {s : State} {m : MethodId} {args : Array Value} {below : List Frame} {meth : Method} {c : Code} {H : Heap} {locs : List Loc} {cells slots : Nat} {Q : State → Prop}
variable {mc ms : Nat} {free : Addr → Prop} {A0 A1 : Nat → Prop} {H0 : Heap} {a : Array Value} {ls : Array Slot} {st0 rest : List Value}
variable {Qc : Array Value → State → Outcome → State → Prop} {XC : String → State → State → Prop}
/-- what a body that may throw owes at its end -/
def vx_MQ (below : List Frame) (Qc : Array Value → State → Outcome → State → Prop) (XC : String → State → State → Prop) (a : Array Value) (s : State) (mc ms : Nat) (free : Addr → Prop) : State → Prop := fun t =>
  ∃ o, t.status = .running ∧ Ended t below o ∧ vx_Q Qc XC mc ms free a s o t
theorem vx_ret {g : JFrame} {mc ms : Nat} (k : W p l e R s m args below meth c H locs cells slots (MQ below Qc args s mc ms free) g) : W p l e R s m args below meth c H locs cells slots (vx_MQ below Qc XC args s mc ms free) g := by
  intro T hT X
  obtain ⟨t, a1, o, b1, b2, b3, b4⟩ := k T hT X
  exact ⟨t, a1, o, b1, b2, Or.inl ⟨b3, b4⟩⟩
/-- not caught here: it goes on to the caller -/
theorem vx_widen {g : JFrame} {q : Addr} {k n : Nat} (h1 : cells ≤ k) (h2 : slots ≤ n) (kk : vx_W p l e R s m args below meth c H locs k n Q g q) : vx_W p l e R s m args below meth c H locs cells slots Q g q := fun T hT X => kk T hT (stand_widen X h1 h2)
theorem vx_out {pc : Nat} {E : String} {ce : Cell} {q : Addr} {mc ms : Nat} (hout : ∀ x ∈ c.exceptionTable.toList, covers x pc = false) (hlocks : meth.locks = false) (hcell : H[q]? = some ce) (hv : ce.vm = .none) (hcl : s.vm.findClass E = some ce.cls)
    (hx : ∀ t : State, t.heap = H → s.vm.Alike t.vm → XC E s t) (hf : ∀ z ∈ locs, free z.base) (hc : cells ≤ mc) (hs : slots ≤ ms) :
    vx_W p l e R s m args below meth c H locs cells slots (vx_MQ below Qc XC args s mc ms free) (F0 m pc ls rest) q := by
  intro T hT X
  obtain ⟨st1, hrun, hend, hW, hsm⟩ := X.leaveThrown q (g := F0 m pc ls rest) rfl rfl rfl hout hlocks
  have hcell9 : (T.setFrames (.throwing q :: below)).heap[q]? = some ce := by
    show T.heap[q]? = some ce
    rw [hT]; exact hcell
  exact ⟨_, st1, .threw q, hrun, hend, Or.inr ⟨q, rfl, E, ce, locs, hx _ hT hW.alike, hcell9, hv, hcl, hW, hsm.mono hc hs, hf⟩⟩
theorem vx_frame {U : State} {k n : Nat} (h : s.sameButNew ({ U with vm := s.vm } : State) locs k n) : s.heap.size ≤ U.heap.size ∧ ∀ q : Nat, q < s.heap.size → (∀ z ∈ locs, z.base ≠ q) → U.heap[q]? = s.heap[q]? := by
  obtain ⟨-, h2, -, -, -, h6⟩ := h
  refine ⟨h2, fun q hq hz => ?_⟩
  obtain ⟨c9, e1, e2, e3, e4⟩ := h6 q _ (Array.getElem?_eq_getElem hq)
  have hs : c9.slots = (s.heap[q]).slots := Array.ext_getElem? fun i => e4 i fun hm => hz _ hm rfl
  have h9 : c9 = s.heap[q] := by
    rw [hs] at e2
    exact e2
  have e5 : U.heap[q]? = some c9 := e1
  rw [e5, h9, Array.getElem?_eq_getElem hq]
/-- the words of a throw but the four that speak of the heap -/
def vx_no (w : Cond) : Bool := decide (w ≠ .isRef (.static Bundle.tN "UNASSIGNED_STACK" Bundle.steD)) && decide (w ≠ .isRef (.static Bundle.tN "SUPPRESSED_SENTINEL" Bundle.listD)) && decide (w ≠ .laysStatic Bundle.tN "UNASSIGNED_STACK" Bundle.steD) && decide (w ≠ .laysStatic Bundle.tN "SUPPRESSED_SENTINEL" Bundle.listD)
def vx_at0 (own : String) (ic : Nat) (X : String) (names : List String) : List Cond := (Bundle.ownAtoms0 own ic X names).filter vx_no
def vx_atS (own : String) (ic : Nat) (X : String) (names : List String) : List Cond := (Bundle.ownAtoms own ic X names).filter vx_no
/-- a word that the tables alone decide, or a good one -/
def vx_ot (w : Cond) : Bool := w.onTables || goodWord w
theorem vx_ot_at {args a' : Array Value} {s U : State} {w : Cond} (hW : s.WarmedH U.vm) (hvm : s.vm = U.vm) (hg : vx_ot w = true) (h : w.before args s = true) : w.before a' U = true := by
  simp only [vx_ot, Bool.or_eq_true] at hg
  rcases hg with hg | hg
  · exact va_tabs hg hvm h
  · exact word_at hW (good_of_word hg) h
/-- a list's words: the good ones out of the method's own list, the others by premises of their own -/
theorem vx_hat {args : Array Value} {s : State} {L B : List Cond} (h1 : ∀ w ∈ L.filter goodWord, w.before args s = true) (h2 : ∀ w ∈ L.filter (fun w => !goodWord w), w ∈ B) (h3 : ∀ w ∈ B, w.before args s = true) : ∀ w ∈ L, w.before args s = true := by
  intro w hw
  by_cases g : goodWord w = true
  · exact h1 w (List.mem_filter.mpr ⟨hw, g⟩)
  · refine h3 w (h2 w (List.mem_filter.mpr ⟨hw, ?_⟩))
    show (!goodWord w) = true
    cases hgw : goodWord w
    · rfl
    · exact absurd hgw g
theorem vx_c {args : Array Value} {s : State} {w : Cond} {B : List Cond} (h : w.before args s = true) (t : ∀ w ∈ B, w.before args s = true) : ∀ w' ∈ w :: B, w'.before args s = true := fun w' h' => (List.mem_cons.mp h').elim (fun e => by rw [e]; exact h) (t w')
theorem vx_n {args : Array Value} {s : State} : ∀ w ∈ ([] : List Cond), w.before args s = true := fun _ h => nomatch h
theorem vx_own {args : Array Value} {s : State} {L : List Cond} (h1 : ∀ w ∈ L.filter vx_no, w.before args s = true)
    (hU : (Cond.isRef (.static Bundle.tN "UNASSIGNED_STACK" Bundle.steD)).before args s = true) (hN : (Cond.isRef (.static Bundle.tN "SUPPRESSED_SENTINEL" Bundle.listD)).before args s = true)
    (lU : (Cond.laysStatic Bundle.tN "UNASSIGNED_STACK" Bundle.steD).before args s = true) (lN : (Cond.laysStatic Bundle.tN "SUPPRESSED_SENTINEL" Bundle.listD).before args s = true) : ∀ w ∈ L, w.before args s = true := by
  intro w hw
  by_cases e1 : w = .isRef (.static Bundle.tN "UNASSIGNED_STACK" Bundle.steD)
  · rw [e1]; exact hU
  · by_cases e2 : w = .isRef (.static Bundle.tN "SUPPRESSED_SENTINEL" Bundle.listD)
    · rw [e2]; exact hN
    · by_cases e3 : w = .laysStatic Bundle.tN "UNASSIGNED_STACK" Bundle.steD
      · rw [e3]; exact lU
      · by_cases e4 : w = .laysStatic Bundle.tN "SUPPRESSED_SENTINEL" Bundle.listD
        · rw [e4]; exact lN
        · exact h1 w (List.mem_filter.mpr ⟨hw, by unfold vx_no; rw [decide_eq_true e1, decide_eq_true e2, decide_eq_true e3, decide_eq_true e4]; rfl⟩)
/-- where a static field lies, its class's statics cell in H -/
def vx_L (C n d : String) (A : Nat → Prop) (U : State) (H : Heap) : Prop := ∃ (c : ClassId) (k : Class) (i : Nat) (f : Field) (a : Nat) (cell : Cell), U.vm.findClass C = some c ∧ U.fieldFound? C n d = some (c, k, i, f) ∧ f.isStatic = true ∧ k.statics = some a ∧ H[a]? = some cell ∧ cell.vm.isStatics = true ∧ cell.cls = c ∧ f.slot < cell.slots.size ∧ k.staticTypes[f.slot]? = some f.type ∧ ¬ A a
theorem vx_L.moved {C n d : String} {A : Nat → Prop} {u U : State} {H : Heap} (hvm : u.vm.Alike U.vm) (h : vx_L C n d A u H) : vx_L C n d A U H := by
  obtain ⟨c, k, i, f, a, cell, h1, h2, h3, h4, h5, h6, h7, h8, h9, h10⟩ := h
  obtain ⟨k', hi', he⟩ := State.fieldFound?_setVm hvm h2
  exact ⟨c, k', i, f, a, cell, by rw [hvm.findClass]; exact h1, hi', h3, by rw [he]; exact h4, h5, h6, h7, h8, by rw [he]; exact h9, h10⟩
theorem vx_L.kept {C n d : String} {A : Nat → Prop} {U : State} {H H1 : Heap} (h : vx_L C n d A U H) (hq : ∀ a : Nat, a < H.size → ¬ A a → H1[a]? = H[a]?) : vx_L C n d A U H1 := by
  obtain ⟨c, k, i, f, a, cell, h1, h2, h3, h4, h5, h6, h7, h8, h9, h10⟩ := h
  exact ⟨c, k, i, f, a, cell, h1, h2, h3, h4, by rw [hq a (Array.getElem?_eq_some_iff.mp h5).1 h10]; exact h5, h6, h7, h8, h9, h10⟩
theorem vx_L.narrow {C n d : String} {A B : Nat → Prop} {U : State} {H : Heap} (h : vx_L C n d A U H) (hAB : ∀ q, B q → A q) : vx_L C n d B U H := by
  obtain ⟨c, k, i, f, a, cell, h1, h2, h3, h4, h5, h6, h7, h8, h9, h10⟩ := h
  exact ⟨c, k, i, f, a, cell, h1, h2, h3, h4, h5, h6, h7, h8, h9, fun z => h10 (hAB _ z)⟩
theorem vx_L.word {C n d : String} {A : Nat → Prop} {s : State} {args : Array Value} (h : vx_L C n d A s s.heap) : (Cond.laysStatic C n d).before args s = true := by
  obtain ⟨c, k, i, f, a, cell, h1, h2, h3, h4, h5, h6, h7, h8, h9, -⟩ := h
  show (Cond.laysStatic C n d).holds args s none s [] = true
  exact Cond.laysStatic_of h1 h2 h3 h4 h5 h6 h7 h8 h9
/-- .. and what it holds: null or some reference -/
def vx_Zq (C n d : String) (A : Nat → Prop) (U : State) (H : Heap) : Prop := va_Zq C n d A U H ∧ vx_L C n d A U H
theorem vx_Zq.moved {C n d : String} {A : Nat → Prop} {u U : State} {H : Heap} (hvm : u.vm.Alike U.vm) (h : vx_Zq C n d A u H) : vx_Zq C n d A U H := ⟨va_Zq.moved hvm h.1, vx_L.moved hvm h.2⟩
theorem vx_Zq.kept {C n d : String} {A : Nat → Prop} {U : State} {H H1 : Heap} (h : vx_Zq C n d A U H) (hq : ∀ a : Nat, a < H.size → ¬ A a → H1[a]? = H[a]?) : vx_Zq C n d A U H1 := ⟨va_Zq.kept h.1 hq, vx_L.kept h.2 hq⟩
theorem vx_Zq.narrow {C n d : String} {A B : Nat → Prop} {U : State} {H : Heap} (h : vx_Zq C n d A U H) (hAB : ∀ q, B q → A q) : vx_Zq C n d B U H := ⟨va_Zq.narrow h.1 hAB, vx_L.narrow h.2 hAB⟩
theorem vx_Zqof {args : Array Value} {s : State} {C n d : String} {A : Nat → Prop} (hl : (Cond.laysStatic C n d).before args s = true) (hini : (Cond.initialized C).before args s = true) (h : (Cond.isRef (.static C n d)).before args s = true) (hA : ∀ a : Nat, a < s.heap.size → ¬ A a) : vx_Zq C n d A s s.heap := by
  refine ⟨va_Zqof hl hini h hA, ?_⟩
  obtain ⟨c, k, i, f, a, cell, h1, h2, h3, h4, h5, h6, h7, h8, h9⟩ := Cond.laysStatic_spec hl
  exact ⟨c, k, i, f, a, cell, h1, h2, h3, h4, h5, h6, h7, h8, h9, hA a (Array.getElem?_eq_some_iff.mp h5).1⟩
theorem vx_isRef {C n d : String} {v : Value} {A : Nat → Prop} {s : State} {args : Array Value} (h : va_Z C n d v A s s.heap) (hv : v.isRef = true) : (Cond.isRef (.static C n d)).before args s = true := by
  obtain ⟨cf, kf, fi, f, a, cell, h1, h2, h3, h4, h5, h6, h7, -⟩ := h
  have he : (Term.static C n d).eval args s none [] s = some v := by
    simp [Term.eval, State.fieldNamed?, h1, h2, h4, h5, h6, h7]
  simp only [Cond.before, Cond.holds, Cond.value, he]
  cases v <;> simp_all [Value.isRef]
theorem vx_isRefq {C n d : String} {A : Nat → Prop} {s : State} {args : Array Value} (h : va_Zq C n d A s s.heap) : (Cond.isRef (.static C n d)).before args s = true := by
  rcases h with h | ⟨t, h⟩
  · exact vx_isRef h rfl
  · exact vx_isRef h rfl
/-- the same frame, seen from here: as if the method were called anew in this heap -/
theorem vx_rebase {T : State} (X : Stand p l e R s m args below meth c T locs cells slots) {R' : Room} (hf : R'.frames ≤ R.frames) (hl : R'.locals ≤ R.locals) (hc : cells + R'.cells ≤ R.cells) (hs : slots + R'.slots ≤ R.slots) :
    Stand p l e R' ((T.setVm s.vm).setFrames (.invoking m args :: below)) m args below meth c T [] 0 0 := by
  have htop : (T.setVm s.vm).topJava?.isSome := X.here.top
  have hF : ((T.setVm s.vm).setFrames (.invoking m args :: below)).frames = .invoking m args :: below := State.frames_setFrames _ (State.cur_lt_of_top htop)
  obtain ⟨g₀, hg0⟩ := Option.isSome_iff_exists.mp htop
  obtain ⟨r, hr⟩ := State.topJava?_eq_some.mp hg0
  have hl9 : e.platform.stackLimits (T.setVm s.vm).me = e.platform.stackLimits s.me := X.limits
  have hb9 : (T.setVm s.vm).me.stackBytes = s.me.stackBytes := X.bytes
  refine ⟨X.admits, X.cas, X.clock, hF, ?_, X.hears, X.method, X.code, X.here, X.tail, X.warmed, ?_, ?_, ?_⟩
  · have h := X.room
    have hU : ((T.setVm s.vm).setFrames (.invoking m args :: below)).localsInUse = s.localsInUse := by
      rw [State.localsInUse_invoking hF (meth := meth) (c := c) X.method X.code, State.localsInUse_invoking X.frames X.method X.code]
    simp only [State.hasRoom, Bool.and_eq_true, decide_eq_true_eq] at h ⊢
    obtain ⟨⟨⟨⟨h1, h2, h3, h4, h5, h6⟩, h7⟩, h8⟩, h9⟩ := h
    rw [X.frames, List.length_cons] at h2 h3
    have q1 := X.heapSize
    have q2 := X.used
    simp only [hF, hU, List.length_cons, State.stackLimits_setFrames, State.stackBytes_setFrames, hl9, hb9]
    refine ⟨⟨⟨⟨by omega, by omega, by omega, by omega, by omega, h6⟩, ?_⟩, ?_⟩, X.book⟩
    · show T.heap.size + R'.cells ≤ e.platform.maxCells
      omega
    · show T.slotsUsed + R'.slots ≤ e.platform.maxSlots
      omega
  · rw [State.stackLimits_setFrames]; rfl
  · rw [State.stackBytes_setFrames]; rfl
  · refine ⟨?_, Nat.le_refl _, Nat.le_refl _, ?_, ?_, fun a c9 h9 => ⟨c9, h9, rfl, rfl, fun _ _ => rfl⟩⟩
    · obtain ⟨t, ht, -⟩ := State.frames_cons hr
      show T.setVm s.vm = { ((T.setVm s.vm).setFrames (.invoking m args :: below)).setFrames (T.setVm s.vm).frames with heap := T.heap, slotsUsed := T.slotsUsed }
      rw [State.setFrames_setFrames, State.setFrames_self ht]
      rfl
    · show T.slotsUsed = T.slotsUsed + ((T.heap.toList.drop T.heap.size).map (·.slots.size)).sum
      rw [List.drop_eq_nil_of_le (Nat.le_of_eq Array.length_toList)]
      rfl
    · show ((T.heap.toList.drop T.heap.size).map (·.slots.size)).sum ≤ 0
      rw [List.drop_eq_nil_of_le (Nat.le_of_eq Array.length_toList)]
      exact Nat.le_refl _
/-- 'throw new E()': new; dup; invokespecial; athrow -/
theorem vx_throw0 {cc : ByteArray} {pc : Nat} (hexec : p.tables.exec = Jvm.exec) (hb : c.code = cc) (hl : l.stackTraces = false) {own cls : String} {names : List String} {ik ic mc ms : Nat} {A : Nat → Prop}
    (hown : s.vm.findClass own = some m.cls) (hcls : Bundle.fit cls = true) (hnames : ∀ n ∈ names, Bundle.fit n = true)
    (hk : (Cond.classLink own ik cls).before args s = true) (hini : (Cond.initialized cls).before args s = true) (hat : ∀ w ∈ vx_at0 own ic cls names, w.before args s = true)
    (hgood : ∀ w ∈ Cond.classLink own ik cls :: Cond.initialized cls :: vx_at0 own ic cls names, vx_ot w = true)
    (hU : vx_Zq Bundle.tN "UNASSIGNED_STACK" Bundle.steD A s s.heap) (hN : vx_Zq Bundle.tN "SUPPRESSED_SENTINEL" Bundle.listD A s s.heap) (hS : va_S A s.heap H locs) (hsize : ls.size = c.maxLocals)
    (d0 : decode cc pc = .ok (.new ik, 3)) (d3 : decode cc (pc + 3) = .ok (.dup, 1)) (d4 : decode cc (pc + 4) = .ok (.invokespecial ic, 3)) (d7 : decode cc (pc + 7) = .ok (.athrow, 1))
    (hout : ∀ x ∈ c.exceptionTable.toList, covers x (pc + 7) = false)
    (hRframes : names.length + 3 < R.frames) (hRlocals : (rest.map fun v => v.category).sum + (13 * (names.length + 1) + 42) ≤ R.locals) (hRcells : cells + 1 ≤ R.cells) (hRslots : slots + 6 ≤ R.slots) (hlocks : meth.locks = false)
    (hx : ∀ t : State, s.vm.Alike t.vm → H.size ≤ t.heap.size → (∀ q : Nat, q < H.size → t.heap[q]? = H[q]?) → XC cls s t)
    (hf : ∀ z ∈ locs, free z.base) (hc : cells + 1 ≤ mc) (hs : slots + 6 ≤ ms) :
    W p l e R s m args below meth c H locs cells slots (vx_MQ below Qc XC args s mc ms free) (F0 m pc ls rest) := by
  intro T hT X
  have htr : e.platform.stackTraces = false := (show e.platform.stackTraces = l.stackTraces by rw [X.admits.platform]).trans hl
  have Y := vx_rebase X (R' := { frames := R.frames, locals := R.locals, cells := 1, slots := 6 }) (Nat.le_refl _) (Nat.le_refl _) hRcells hRslots
  obtain ⟨s', hA⟩ : ∃ z, z = (T.setVm s.vm).setFrames (.invoking m args :: below) := ⟨_, rfl⟩
  rw [← hA] at Y
  have hvm : s'.vm = s.vm := by rw [hA]; rfl
  have hhp : s'.heap = H := by rw [hA]; exact hT
  have hW0 : s.WarmedH s'.vm := by rw [hvm]; exact State.WarmedH.refl s
  have hat' : ∀ w ∈ vx_at0 own ic cls names, w.before args s' = true := fun w hw => vx_ot_at hW0 hvm.symm (hgood w (List.mem_cons_of_mem _ (List.mem_cons_of_mem _ hw))) (hat w hw)
  have hk' : (Cond.classLink own ik cls).before args s' = true := vx_ot_at hW0 hvm.symm (hgood _ List.mem_cons_self) hk
  have hini' : (Cond.initialized cls).before args s' = true := vx_ot_at hW0 hvm.symm (hgood _ (List.mem_cons_of_mem _ List.mem_cons_self)) hini
  have hU' : vx_Zq Bundle.tN "UNASSIGNED_STACK" Bundle.steD A s' s'.heap := by rw [hhp]; exact vx_Zq.moved hW0.alike (hU.kept hS.2.1)
  have hN' : vx_Zq Bundle.tN "SUPPRESSED_SENTINEL" Bundle.listD A s' s'.heap := by rw [hhp]; exact vx_Zq.moved hW0.alike (hN.kept hS.2.1)
  have h : ∀ w ∈ Bundle.ownAtoms0 own ic cls names, w.before args s' = true := vx_own hat' (vx_isRefq hU'.1) (vx_isRefq hN'.1) hU'.2.word hN'.2.word
  have hown' : s'.vm.findClass own = some m.cls := by rw [hvm]; exact hown
  have hins : (Cond.instantiable cls 6).before args s' = true := h _ (by simp [Bundle.ownAtoms0])
  obtain ⟨vm₁, cX, kX, hfX, hkX, -, -, X₁, st1⟩ := Y.newCold hexec (own := own) (C := cls) (index := ik) (n := 6) hown' hk' hins hini'
    (g := F0 m pc ls rest) rfl (by rw [hb]; exact d0) (Nat.le_refl _) (Nat.le_refl _)
  generalize hT1 : (T.setVm vm₁).pushCell { cls := cX, slots := kX.instanceTypes.map defaultValue, vm := .none } = T1 at X₁ st1
  have hcat : (Value.ref T.heap.size).category = 1 := rfl
  have hcellA : T1.heap[T.heap.size]? = some (freshCell cX kX) := by rw [← hT1]; exact State.heap_pushCell_size _ _
  have d3' : decode c.code (pc + 3) = .ok (.dup, 1) := by rw [hb]; exact d3
  obtain ⟨U, hsteps, hrun, hend, hW, hsame, ce, hce, hO⟩ := X₁.ctorThrow0 hexec htr (own := own) (cls := cls) (names := names) (ic := ic) hown' hcls hnames h (fun x hx => nomatch hx) hfX hkX hcellA (by rw [hhp, hT]; exact Nat.le_refl _)
    (g := { method := m, pc := pc + 4, locals := ls, stack := .ref T.heap.size :: .ref T.heap.size :: rest, locked := none }) rfl hsize rfl rfl (rest := rest) rfl
    (by rw [hb]; exact d4) (by rw [hb]; exact d7) hout hRframes (by simp only [List.map_cons, List.sum_cons, hcat]; omega) hlocks
  obtain ⟨f1, f2⟩ := vx_frame hsame
  rw [hhp] at f1 f2
  have hWs : s.WarmedH U.vm := State.WarmedH.trans hW0 hW
  have hcl : s.vm.findClass cls = some ce.cls := by
    have h9 := hO.cls
    rw [hvm] at h9
    exact h9
  have hall : s.sameButNew ({ U with vm := s.vm } : State) locs mc ms := by
    subst hA
    obtain ⟨e1, e2⟩ := hsame
    rw [State.setFrames_setFrames] at e1
    have h2 : (T.setVm s.vm).sameButNew ({ U with vm := s.vm } : State) [] (0 + 1) (0 + 6) := ⟨e1, e2⟩
    have h3 := X.same.trans h2
    rw [List.append_nil] at h3
    exact h3.mono hc hs
  refine ⟨U, ?_, .threw T.heap.size, hrun, hend, Or.inr ⟨T.heap.size, rfl, cls, ce, locs, hx U hWs.alike f1 (fun q hq => f2 q hq (fun z hz => nomatch hz)), hce, hO.vm, hcl, hWs, hall, hf⟩⟩
  refine st1 _ ?_
  show Steps p.tables e below (T1.setTop { method := m, pc := pc + 3, locals := ls, stack := .ref T.heap.size :: rest, locked := none }) _
  jvm_step X₁.here [X₁.here.top, hexec, d3', Value.category]
  exact hsteps
/-- 'throw new E("text")': new; dup; ldc; invokespecial; athrow -/
theorem vx_throwS {cc : ByteArray} {pc : Nat} (hexec : p.tables.exec = Jvm.exec) (hb : c.code = cc) (hl : l.stackTraces = false) {own cls text : String} {names : List String} {ik is ic mc ms sa : Nat} {A : Nat → Prop}
    (hown : s.vm.findClass own = some m.cls) (hcls : Bundle.fit cls = true) (hnames : ∀ n ∈ names, Bundle.fit n = true)
    (hk : (Cond.classLink own ik cls).before args s = true) (hini : (Cond.initialized cls).before args s = true) (hstr : vk_R own is text sa s) (hat : ∀ w ∈ vx_atS own ic cls names, w.before args s = true)
    (hgood : ∀ w ∈ Cond.classLink own ik cls :: Cond.initialized cls :: vx_atS own ic cls names, vx_ot w = true)
    (hU : vx_Zq Bundle.tN "UNASSIGNED_STACK" Bundle.steD A s s.heap) (hN : vx_Zq Bundle.tN "SUPPRESSED_SENTINEL" Bundle.listD A s s.heap) (hS : va_S A s.heap H locs) (hsize : ls.size = c.maxLocals)
    (d0 : decode cc pc = .ok (.new ik, 3)) (d3 : decode cc (pc + 3) = .ok (.dup, 1)) (d4 : decode cc (pc + 4) = .ok (.ldc is, 2)) (d6 : decode cc (pc + 6) = .ok (.invokespecial ic, 3)) (d9 : decode cc (pc + 9) = .ok (.athrow, 1))
    (hout : ∀ x ∈ c.exceptionTable.toList, covers x (pc + 9) = false)
    (hRframes : names.length + 3 < R.frames) (hRlocals : (rest.map fun v => v.category).sum + (13 * (names.length + 1) + 43) ≤ R.locals) (hRcells : cells + 1 ≤ R.cells) (hRslots : slots + 6 ≤ R.slots) (hlocks : meth.locks = false)
    (hx : ∀ t : State, s.vm.Alike t.vm → H.size ≤ t.heap.size → (∀ q : Nat, q < H.size → t.heap[q]? = H[q]?) → XC cls s t)
    (hf : ∀ z ∈ locs, free z.base) (hc : cells + 1 ≤ mc) (hs : slots + 6 ≤ ms) :
    W p l e R s m args below meth c H locs cells slots (vx_MQ below Qc XC args s mc ms free) (F0 m pc ls rest) := by
  intro T hT X
  have htr : e.platform.stackTraces = false := (show e.platform.stackTraces = l.stackTraces by rw [X.admits.platform]).trans hl
  have Y := vx_rebase X (R' := { frames := R.frames, locals := R.locals, cells := 1, slots := 6 }) (Nat.le_refl _) (Nat.le_refl _) hRcells hRslots
  obtain ⟨s', hA⟩ : ∃ z, z = (T.setVm s.vm).setFrames (.invoking m args :: below) := ⟨_, rfl⟩
  rw [← hA] at Y
  have hvm : s'.vm = s.vm := by rw [hA]; rfl
  have hhp : s'.heap = H := by rw [hA]; exact hT
  have hW0 : s.WarmedH s'.vm := by rw [hvm]; exact State.WarmedH.refl s
  have hat' : ∀ w ∈ vx_atS own ic cls names, w.before args s' = true := fun w hw => vx_ot_at hW0 hvm.symm (hgood w (List.mem_cons_of_mem _ (List.mem_cons_of_mem _ hw))) (hat w hw)
  have hk' : (Cond.classLink own ik cls).before args s' = true := vx_ot_at hW0 hvm.symm (hgood _ List.mem_cons_self) hk
  have hini' : (Cond.initialized cls).before args s' = true := vx_ot_at hW0 hvm.symm (hgood _ (List.mem_cons_of_mem _ List.mem_cons_self)) hini
  have hU' : vx_Zq Bundle.tN "UNASSIGNED_STACK" Bundle.steD A s' s'.heap := by rw [hhp]; exact vx_Zq.moved hW0.alike (hU.kept hS.2.1)
  have hN' : vx_Zq Bundle.tN "SUPPRESSED_SENTINEL" Bundle.listD A s' s'.heap := by rw [hhp]; exact vx_Zq.moved hW0.alike (hN.kept hS.2.1)
  have h : ∀ w ∈ Bundle.ownAtoms own ic cls names, w.before args s' = true := vx_own hat' (vx_isRefq hU'.1) (vx_isRefq hN'.1) hU'.2.word hN'.2.word
  have hown' : s'.vm.findClass own = some m.cls := by rw [hvm]; exact hown
  have hins : (Cond.instantiable cls 6).before args s' = true := h _ (by simp [Bundle.ownAtoms])
  obtain ⟨vm₁, cX, kX, hfX, hkX, -, -, X₁, st1⟩ := Y.newCold hexec (own := own) (C := cls) (index := ik) (n := 6) hown' hk' hins hini'
    (g := F0 m pc ls rest) rfl (by rw [hb]; exact d0) (Nat.le_refl _) (Nat.le_refl _)
  generalize hT1 : (T.setVm vm₁).pushCell { cls := cX, slots := kX.instanceTypes.map defaultValue, vm := .none } = T1 at X₁ st1
  have hcat : (Value.ref T.heap.size).category = 1 := rfl
  have hcellA : T1.heap[T.heap.size]? = some (freshCell cX kX) := by rw [← hT1]; exact State.heap_pushCell_size _ _
  have d3' : decode c.code (pc + 3) = .ok (.dup, 1) := by rw [hb]; exact d3
  have d4' : decode c.code (pc + 4) = .ok (.ldc is, 2) := by rw [hb]; exact d4
  have hstr' : vk_R own is text sa s' := vk_R.warm hW0 hstr
  obtain ⟨U, hsteps, hrun, hend, hW, hsame, ce, hce, hO⟩ := X₁.ctorThrowS hexec htr (own := own) (cls := cls) (names := names) (ic := ic) hown' hcls hnames h (fun x hx => nomatch hx) hfX hkX hcellA (by rw [hhp, hT]; exact Nat.le_refl _) (msg := .ref sa) rfl
    (g := { method := m, pc := pc + 6, locals := ls, stack := .ref sa :: .ref T.heap.size :: .ref T.heap.size :: rest, locked := none }) rfl hsize rfl rfl (rest := rest) rfl
    (by rw [hb]; exact d6) (by rw [hb]; exact d9) hout hRframes (by simp only [List.map_cons, List.sum_cons, hcat]; omega) hlocks
  obtain ⟨f1, f2⟩ := vx_frame hsame
  rw [hhp] at f1 f2
  have hWs : s.WarmedH U.vm := State.WarmedH.trans hW0 hW
  have hcl : s.vm.findClass cls = some ce.cls := by
    have h9 := hO.cls
    rw [hvm] at h9
    exact h9
  have hall : s.sameButNew ({ U with vm := s.vm } : State) locs mc ms := by
    subst hA
    obtain ⟨e1, e2⟩ := hsame
    rw [State.setFrames_setFrames] at e1
    have h2 : (T.setVm s.vm).sameButNew ({ U with vm := s.vm } : State) [] (0 + 1) (0 + 6) := ⟨e1, e2⟩
    have h3 := X.same.trans h2
    rw [List.append_nil] at h3
    exact h3.mono hc hs
  refine ⟨U, ?_, .threw T.heap.size, hrun, hend, Or.inr ⟨T.heap.size, rfl, cls, ce, locs, hx U hWs.alike f1 (fun q hq => f2 q hq (fun z hz => nomatch hz)), hce, hO.vm, hcl, hWs, hall, hf⟩⟩
  refine st1 _ ?_
  show Steps p.tables e below (T1.setTop { method := m, pc := pc + 3, locals := ls, stack := .ref T.heap.size :: rest, locked := none }) _
  jvm_step X₁.here [X₁.here.top, hexec, d3', Value.category]
  exact X₁.ldcString hexec (own := own) (text := text) (index := is) (a := sa) hown' hstr'.1 hstr'.2
    (g := { method := m, pc := pc + 4, locals := ls, stack := .ref T.heap.size :: .ref T.heap.size :: rest, locked := none }) rfl d4' _ hsteps
/-- 'throw new E("text")', the text by a wide index -/
theorem vx_throwSW {cc : ByteArray} {pc : Nat} (hexec : p.tables.exec = Jvm.exec) (hb : c.code = cc) (hl : l.stackTraces = false) {own cls text : String} {names : List String} {ik is ic mc ms sa : Nat} {A : Nat → Prop}
    (hown : s.vm.findClass own = some m.cls) (hcls : Bundle.fit cls = true) (hnames : ∀ n ∈ names, Bundle.fit n = true)
    (hk : (Cond.classLink own ik cls).before args s = true) (hini : (Cond.initialized cls).before args s = true) (hstr : vk_R own is text sa s) (hat : ∀ w ∈ vx_atS own ic cls names, w.before args s = true)
    (hgood : ∀ w ∈ Cond.classLink own ik cls :: Cond.initialized cls :: vx_atS own ic cls names, vx_ot w = true)
    (hU : vx_Zq Bundle.tN "UNASSIGNED_STACK" Bundle.steD A s s.heap) (hN : vx_Zq Bundle.tN "SUPPRESSED_SENTINEL" Bundle.listD A s s.heap) (hS : va_S A s.heap H locs) (hsize : ls.size = c.maxLocals)
    (d0 : decode cc pc = .ok (.new ik, 3)) (d3 : decode cc (pc + 3) = .ok (.dup, 1)) (d4 : decode cc (pc + 4) = .ok (.ldc_w is, 3)) (d7 : decode cc (pc + 7) = .ok (.invokespecial ic, 3)) (d10 : decode cc (pc + 10) = .ok (.athrow, 1))
    (hout : ∀ x ∈ c.exceptionTable.toList, covers x (pc + 10) = false)
    (hRframes : names.length + 3 < R.frames) (hRlocals : (rest.map fun v => v.category).sum + (13 * (names.length + 1) + 43) ≤ R.locals) (hRcells : cells + 1 ≤ R.cells) (hRslots : slots + 6 ≤ R.slots) (hlocks : meth.locks = false)
    (hx : ∀ t : State, s.vm.Alike t.vm → H.size ≤ t.heap.size → (∀ q : Nat, q < H.size → t.heap[q]? = H[q]?) → XC cls s t)
    (hf : ∀ z ∈ locs, free z.base) (hc : cells + 1 ≤ mc) (hs : slots + 6 ≤ ms) :
    W p l e R s m args below meth c H locs cells slots (vx_MQ below Qc XC args s mc ms free) (F0 m pc ls rest) := by
  intro T hT X
  have htr : e.platform.stackTraces = false := (show e.platform.stackTraces = l.stackTraces by rw [X.admits.platform]).trans hl
  have Y := vx_rebase X (R' := { frames := R.frames, locals := R.locals, cells := 1, slots := 6 }) (Nat.le_refl _) (Nat.le_refl _) hRcells hRslots
  obtain ⟨s', hA⟩ : ∃ z, z = (T.setVm s.vm).setFrames (.invoking m args :: below) := ⟨_, rfl⟩
  rw [← hA] at Y
  have hvm : s'.vm = s.vm := by rw [hA]; rfl
  have hhp : s'.heap = H := by rw [hA]; exact hT
  have hW0 : s.WarmedH s'.vm := by rw [hvm]; exact State.WarmedH.refl s
  have hat' : ∀ w ∈ vx_atS own ic cls names, w.before args s' = true := fun w hw => vx_ot_at hW0 hvm.symm (hgood w (List.mem_cons_of_mem _ (List.mem_cons_of_mem _ hw))) (hat w hw)
  have hk' : (Cond.classLink own ik cls).before args s' = true := vx_ot_at hW0 hvm.symm (hgood _ List.mem_cons_self) hk
  have hini' : (Cond.initialized cls).before args s' = true := vx_ot_at hW0 hvm.symm (hgood _ (List.mem_cons_of_mem _ List.mem_cons_self)) hini
  have hU' : vx_Zq Bundle.tN "UNASSIGNED_STACK" Bundle.steD A s' s'.heap := by rw [hhp]; exact vx_Zq.moved hW0.alike (hU.kept hS.2.1)
  have hN' : vx_Zq Bundle.tN "SUPPRESSED_SENTINEL" Bundle.listD A s' s'.heap := by rw [hhp]; exact vx_Zq.moved hW0.alike (hN.kept hS.2.1)
  have h : ∀ w ∈ Bundle.ownAtoms own ic cls names, w.before args s' = true := vx_own hat' (vx_isRefq hU'.1) (vx_isRefq hN'.1) hU'.2.word hN'.2.word
  have hown' : s'.vm.findClass own = some m.cls := by rw [hvm]; exact hown
  have hins : (Cond.instantiable cls 6).before args s' = true := h _ (by simp [Bundle.ownAtoms])
  obtain ⟨vm₁, cX, kX, hfX, hkX, -, -, X₁, st1⟩ := Y.newCold hexec (own := own) (C := cls) (index := ik) (n := 6) hown' hk' hins hini'
    (g := F0 m pc ls rest) rfl (by rw [hb]; exact d0) (Nat.le_refl _) (Nat.le_refl _)
  generalize hT1 : (T.setVm vm₁).pushCell { cls := cX, slots := kX.instanceTypes.map defaultValue, vm := .none } = T1 at X₁ st1
  have hcat : (Value.ref T.heap.size).category = 1 := rfl
  have hcellA : T1.heap[T.heap.size]? = some (freshCell cX kX) := by rw [← hT1]; exact State.heap_pushCell_size _ _
  have d3' : decode c.code (pc + 3) = .ok (.dup, 1) := by rw [hb]; exact d3
  have d4' : decode c.code (pc + 4) = .ok (.ldc_w is, 3) := by rw [hb]; exact d4
  have hstr' : vk_R own is text sa s' := vk_R.warm hW0 hstr
  obtain ⟨U, hsteps, hrun, hend, hW, hsame, ce, hce, hO⟩ := X₁.ctorThrowS hexec htr (own := own) (cls := cls) (names := names) (ic := ic) hown' hcls hnames h (fun x hx => nomatch hx) hfX hkX hcellA (by rw [hhp, hT]; exact Nat.le_refl _) (msg := .ref sa) rfl
    (g := { method := m, pc := pc + 7, locals := ls, stack := .ref sa :: .ref T.heap.size :: .ref T.heap.size :: rest, locked := none }) rfl hsize rfl rfl (rest := rest) rfl
    (by rw [hb]; exact d7) (by rw [hb]; exact d10) hout hRframes (by simp only [List.map_cons, List.sum_cons, hcat]; omega) hlocks
  obtain ⟨f1, f2⟩ := vx_frame hsame
  rw [hhp] at f1 f2
  have hWs : s.WarmedH U.vm := State.WarmedH.trans hW0 hW
  have hcl : s.vm.findClass cls = some ce.cls := by
    have h9 := hO.cls
    rw [hvm] at h9
    exact h9
  have hall : s.sameButNew ({ U with vm := s.vm } : State) locs mc ms := by
    subst hA
    obtain ⟨e1, e2⟩ := hsame
    rw [State.setFrames_setFrames] at e1
    have h2 : (T.setVm s.vm).sameButNew ({ U with vm := s.vm } : State) [] (0 + 1) (0 + 6) := ⟨e1, e2⟩
    have h3 := X.same.trans h2
    rw [List.append_nil] at h3
    exact h3.mono hc hs
  refine ⟨U, ?_, .threw T.heap.size, hrun, hend, Or.inr ⟨T.heap.size, rfl, cls, ce, locs, hx U hWs.alike f1 (fun q hq => f2 q hq (fun z hz => nomatch hz)), hce, hO.vm, hcl, hWs, hall, hf⟩⟩
  refine st1 _ ?_
  show Steps p.tables e below (T1.setTop { method := m, pc := pc + 3, locals := ls, stack := .ref T.heap.size :: rest, locked := none }) _
  jvm_step X₁.here [X₁.here.top, hexec, d3', Value.category]
  exact X₁.ldcStringW hexec (own := own) (text := text) (index := is) (a := sa) hown' hstr'.1 hstr'.2
    (g := { method := m, pc := pc + 4, locals := ls, stack := .ref T.heap.size :: .ref T.heap.size :: rest, locked := none }) rfl d4' _ hsteps
end Ends
section Bodies
variable {l : Launch}
theorem vx_ofW {y : MethodName} {ws ws' : List Cond} {rm : Room} {Pc : Array Value → State → Prop} {Qc : Array Value → State → Outcome → State → Prop} {XC : String → State → State → Prop} {mc ms : Nat} {free : Addr → Prop} {cc : ByteArray} {maxL : Nat} {ret : Option FieldType}
    (hy : plainName y.cls = true) (hw : ws = Cond.code y cc maxL ret :: ws')
    (body : ∀ p e s m args below meth c s₁, BodyLoose p l y (headSpec ws rm) cc maxL ret e s m args below meth c s₁ → c.maxLocals = maxL → (∀ x ∈ c.exceptionTable.toList, False) → Pc args s →
      W p l e (headSpec ws rm).room s m args below meth c s.heap [] 0 0 (vx_MQ below Qc XC args s mc ms free) (entryFrame m args maxL)) : vx_Met l y ws rm Pc Qc XC mc ms free := by
  refine MetFree.of_bodyS (code := cc) (maxLocals := maxL) (ret := ret) hy ?_ ?_
  · intro args s m h hn
    obtain ⟨meth, c, h1, h2, h3, h4, h5, h6, -, -⟩ := Cond.code_spec hn (atoms_spec (ws := ws) h _ (by rw [hw]; exact List.mem_cons_self))
    exact ⟨meth, c, h1, h2, h3, h4, h5, h6⟩
  · intro p e s m args below meth c s₁ B hml hP _
    have hh0 : s₁.heap = s.heap := by rw [B.state]; rfl
    have ht : ∀ x ∈ c.exceptionTable.toList, False := by
      obtain ⟨meth9, c9, h1, h2, -, -, -, -, h7, -⟩ := Cond.code_spec B.named (atoms_spec (ws := ws) B.pre _ (by rw [hw]; exact List.mem_cons_self))
      cases Option.some.inj (h1.symm.trans B.method)
      cases Option.some.inj (h2.symm.trans (Stand.of_body B).code)
      intro x hx
      rw [Array.isEmpty_iff.mp h7] at hx
      cases hx
    obtain ⟨t, a1, o, b1, b2, b3⟩ := body p e s m args below meth c s₁ B hml ht hP s₁ hh0 (Stand.of_body B)
    exact ⟨t, o, a1, b1, b2, b3⟩
/-- the table of a body with handlers -/
theorem vx_table {p : Program} {x y : MethodName} {S : Spec} {cc bytes : ByteArray} {maxL maxL' : Nat} {ret ret' : Option FieldType} {e : Env} {s s₁ : State} {m : MethodId} {args : Array Value} {below : List Frame} {meth : Method} {c : Code} {hh : List (Nat × Nat × Nat × Nat)}
    (B : BodyLoose p l y S cc maxL ret e s m args below meth c s₁) (h : (Cond.codeWith y bytes maxL' ret' hh).before args s = true) : c.exceptionTable.toList = tableOf hh := by
  obtain ⟨m9, meth9, c9, hn9, h1, h2, -, -, h6, -⟩ := Cond.codeWith_spec h
  cases Option.some.inj (hn9.symm.trans B.named)
  cases Option.some.inj (h1.symm.trans B.method)
  cases Option.some.inj (h2.symm.trans (Stand.of_body B).code)
  rw [← h6, table_eq]
end Bodies
end VXA
/-! ===== END ===== -/
/-! ===== BEGIN a static call of a method with an exception table ===== -/
section VXS
variable {p : Program} {l : Launch} {e : Env} {R : Room} {s : State} {m : MethodId} {args : Array Value} {below : List Frame} {meth : Method} {c : Code} {T : State} {H : Heap} {locs : List Loc} {cells slots : Nat}
abbrev vx_CSW (R : Room) (s : State) (args : Array Value) (own : String) (index : Nat) (y : MethodName) (bytes : ByteArray) (maxL : Nat) (ret : Option FieldType) (hh : List (Nat × Nat × Nat × Nat)) (ws : List Cond) (rm : Room) (mc ms n : Nat) : Prop :=
  (rm.cells = mc ∧ rm.slots = ms ∧ rm.frames + 1 ≤ R.frames ∧ 8 + (maxL + 11) + rm.locals ≤ R.locals ∧ (∀ w ∈ ws, ∀ (a' : Array Value) (U : State), s.WarmedH U.vm → w.before a' U = true) ∧ Cond.codeWith y bytes maxL ret hh ∈ ws) ∧
  (Cond.codeWith y bytes maxL ret hh).before args s = true ∧ (Cond.initialized y.cls).before args s = true ∧ (y.cls ≠ "java/lang/invoke/MethodHandle" ∧ y.cls ≠ "java/lang/invoke/VarHandle") ∧
  (∀ sig, parseMethodDescriptor y.desc = some sig → n = sig.parameters.length) ∧ (Cond.methodLink own index y).before args s = true ∧ (Cond.static y).before args s = true
theorem vx_cwSW {own : String} {index maxL mc ms : Nat} {y : MethodName} {bytes : ByteArray} {ret : Option FieldType} {hh : List (Nat × Nat × Nat × Nat)} {Ts ws ws' : List Cond} {rm : Room} (n : Nat) (ht : ∀ w ∈ Ts, w.before args s = true) (hT : GoodIn Ts (va_wsS own index y ws)) (hw : ws = Cond.codeWith y bytes maxL ret hh :: ws') (hrc : rm.cells = mc) (hrs : rm.slots = ms)
    (hd : y.cls ≠ "java/lang/invoke/MethodHandle" ∧ y.cls ≠ "java/lang/invoke/VarHandle" ∧ (parseMethodDescriptor y.desc).map (fun d => d.parameters.length) = some n) (hR : rm.frames + 1 ≤ R.frames ∧ 8 + (maxL + 11) + rm.locals ≤ R.locals) :
    vx_CSW R s args own index y bytes maxL ret hh ws rm mc ms n := by
  have ok : ∀ w ∈ va_wsS own index y ws, w.before args s = true := fun w h => ht w (hT w h).1
  have hG : GoodIn Ts ws := fun w h => hT w (by unfold va_wsS; exact List.mem_append_right _ h)
  have hc : Cond.codeWith y bytes maxL ret hh ∈ ws := by rw [hw]; exact List.mem_cons_self
  refine ⟨⟨hrc, hrs, hR.1, hR.2, pay_in ht hG, hc⟩, ht _ (hG _ hc).1, ok _ (by simp [va_wsS]), ⟨hd.1, hd.2.1⟩, fun sig h => ?_, ok _ (by simp [va_wsS]), ok _ (by simp [va_wsS])⟩
  have h2 := hd.2.2
  rw [h] at h2
  exact (Option.some.inj h2).symm
theorem vx_callSW (X : Stand p l e R s m args below meth c T locs cells slots) (hexec : p.tables.exec = Jvm.exec) {own : String} {index : Nat} {y : MethodName} {bytes : ByteArray} {maxL : Nat} {ret : Option FieldType} {hh : List (Nat × Nat × Nat × Nat)}
    (hown : s.vm.findClass own = some m.cls) (hlink : (Cond.methodLink own index y).before args s = true) (hstat : (Cond.static y).before args s = true) (hinit : (Cond.initialized y.cls).before args s = true)
    (hcode : (Cond.codeWith y bytes maxL ret hh).before args s = true) (hy : y.cls ≠ "java/lang/invoke/MethodHandle" ∧ y.cls ≠ "java/lang/invoke/VarHandle")
    {W9 : Nat} {Pre : Pt → Array Value → Prop} {Post : Pt → Array Value → Option Value → Pt → Prop} (hK : Back l R p e below s args y 3 W9 Pre Post)
    {g : JFrame} (hg : g.method = m) (hsize : g.locals.size = c.maxLocals) {argsL rest : List Value} (hlen : ∀ sig, parseMethodDescriptor y.desc = some sig → argsL.length = sig.parameters.length)
    (hstack : g.stack = argsL.reverse ++ rest) (hW : 2 * g.monitorRoom + (rest.map fun v => v.category).sum ≤ W9) (hdg : decode c.code g.pc = .ok (.invokestatic index, 3))
    (hpre : ∀ vm₁, s.WarmedH vm₁ → Pre ⟨T.setVm vm₁, locs, cells, slots⟩ argsL.toArray) :
    ∃ (v : Option Value) (vm₁ : Vm) (B : Pt), s.WarmedH vm₁ ∧ Stand p l e R s m args below meth c B.U B.locs B.cells B.slots ∧ Post ⟨T.setVm vm₁, locs, cells, slots⟩ argsL.toArray v B ∧
      ∀ target, Steps p.tables e below (B.U.setTop { g with pc := g.pc + 3, stack := v.toList ++ rest }) target → Steps p.tables e below (T.setTop g) target := by
  obtain ⟨mk, methM, cM, hnamed, hmethM, -, -, -, -, -, -, hsigM⟩ := Cond.codeWith_spec hcode
  have hstatic : methM.isStatic = true := Cond.static_spec hnamed hmethM hstat
  obtain ⟨kP, hkP, -⟩ := className_of_methodNamed hnamed
  have hinitP : kP.init = .initialized := Cond.initialized_spec (findClass_of_methodNamed hnamed) hkP hinit
  obtain ⟨vm₁, X₁, hstep₁⟩ := X.invokestatic hexec hown hlink hnamed hmethM hstatic hkP hinitP hy (g := g) hg (argsL := argsL) (rest := rest) (hlen _ hsigM) hstack hdg
  obtain ⟨v, B, X', hpost, hsteps⟩ := hK m meth c ⟨T.setVm vm₁, locs, cells, slots⟩ { g with stack := rest } (.invokestatic index) mk argsL.toArray X₁ hg hsize hdg hW (X₁.named hnamed) (hpre vm₁ X₁.warmed)
  exact ⟨v, vm₁, B, X₁.warmed, X', hpost, fun target h => hstep₁ _ fun acts => by rw [doInvoke_state]; exact hsteps.trans h⟩
theorem vx_runSW {y : MethodName} {bytes cc : ByteArray} {maxL nL mc ms n index : Nat} {ret : Option FieldType} {hh : List (Nat × Nat × Nat × Nat)} {ws : List Cond} {rm : Room} {Pc : Array Value → State → Prop} {Qc : Array Value → State → Outcome → State → Prop} {free : Addr → Prop} {Ts : List Cond} {own : String} {As rest : List Value} {g : JFrame}
    (S : CallFix p m c cc nL s args Ts own) (hM : Met l y ws rm Pc Qc mc ms free) (cw : vx_CSW R s args own index y bytes maxL ret hh ws rm mc ms n) (hp : PreS s H Pc As)
    (hg : g.method = m) (hn : As.length = n) (hsize : g.locals.size = nL) (hstack : g.stack = As.reverse ++ rest) (hW : 2 * g.monitorRoom + (rest.map fun v => v.category).sum ≤ 8) (hdg : decode cc g.pc = .ok (.invokestatic index, 3)) (hf : cells + mc ≤ R.cells ∧ slots + ms ≤ R.slots) :
    va_Run p l e R s m args below meth c H locs cells slots mc ms g rest (Qc As.toArray) (free) := by
  obtain ⟨⟨hrc, hrs, hfr, hlo, hws, hcw⟩, hcode, hini, hy, hlen, hl, hstt⟩ := cw
  have hK : Back l R p e below s args y 3 8 (PreOf R mc ms Pc) (PostOf Qc mc ms free) := va_backW (hh := hh) (bytes := bytes) (maxL := maxL) (ret := ret) hM hp.1 hrc hrs hfr hlo hws hcw (fun a' U hW => word_at hW (Or.inl (by first | rfl | simp [Cond.onTables, Cond.keeps, Cond.steady])) hini)
  obtain ⟨hx, hb, hml, ho, -⟩ := S
  intro T hT X
  obtain ⟨v, vm₁, ⟨U', l2, c2, s2⟩, hW₁, X', ⟨g', mk, t, L, e1, e2, hq, h1, hL, h2, h3⟩, st⟩ := vx_callSW X hx (hh := hh) (bytes := bytes) (maxL := maxL) (ret := ret) ho hl hstt hini hcode hy hK hg (hsize.trans hml.symm) (argsL := As) (rest := rest) (fun sig h => hn.trans (hlen sig h)) hstack hW (by rw [hb]; exact hdg)
    (fun vm₁ hW₁ => ⟨hf.1, hf.2, hp.2 (T.setVm vm₁) hT hW₁⟩)
  dsimp only [Pt.U, Pt.locs, Pt.cells, Pt.slots] at X' e1 e2 h1 h2 h3 st
  subst h1; subst h2; subst h3
  exact ⟨v, (T.setVm vm₁).calling g' mk As.toArray, t, U', L, hT, X', hL, e1, e2, hq, st⟩
/-- not caught here, past rows that name other classes: it goes on to the caller -/
theorem vx_outP {p : Program} {l : Launch} {e : Env} {R : Room} {s : State} {m : MethodId} {args : Array Value} {below : List Frame} {meth : Method} {c : Code} {H : Heap} {locs : List Loc} {cells slots : Nat} {free : Addr → Prop} {ls : Array Slot} {rest : List Value} {Qc : Array Value → State → Outcome → State → Prop} {XC : String → State → State → Prop}
    {pc : Nat} {own E : String} {ce : Cell} {q : Addr} {mc ms : Nat} (hown : s.vm.findClass own = some m.cls) (hlocks : meth.locks = false)
    (hpass : ∀ z ∈ c.exceptionTable.toList, covers z pc = false ∨ (z.catchType ≠ 0 ∧ ∃ nm : String, (Cond.classLink own z.catchType nm).before args s = true ∧ va_Nc E nm s)) (hcell : H[q]? = some ce) (hv : ce.vm = .none) (hcl : s.vm.findClass E = some ce.cls)
    (hx : ∀ t : State, t.heap = H → s.vm.Alike t.vm → XC E s t) (hf : ∀ z ∈ locs, free z.base) (hc : cells ≤ mc) (hs : slots ≤ ms) :
    vx_W p l e R s m args below meth c H locs cells slots (vx_MQ below Qc XC args s mc ms free) (F0 m pc ls rest) q := by
  intro T hT X
  have hpl : e.platform.magicAccessors = ({} : Platform).magicAccessors := by rw [X.admits.platform]
  obtain ⟨vm', hW', X', st⟩ := X.outThrough hlocks q (g := F0 m pc ls rest) rfl rfl rfl (cell := ce) (by rw [hT]; exact hcell) (by rw [hv]; rfl)
    (by obtain ⟨k9, h9, -⟩ := Vm.findClass_spec hcl; exact ⟨k9, h9⟩) (fun z hz => by
      rcases hpass z hz with h | ⟨hz0, nm, hl1, hn1⟩
      · exact Or.inl h
      · obtain ⟨c6, hc6, hcl6⟩ := Cond.classLink_spec hown hl1 e.platform hpl
        obtain ⟨a8, b8, h1, h2, h3⟩ := hn1
        cases Option.some.inj (h1.symm.trans hcl)
        cases Option.some.inj (h2.symm.trans hc6)
        exact Or.inr ⟨hz0, _, hcl6, h3⟩)
  obtain ⟨g₀, hfr⟩ := X'.frames_eq
  have hcell9 : ((T.setVm vm').setFrames (.throwing q :: below)).heap[q]? = some ce := by
    show T.heap[q]? = some ce
    rw [hT]; exact hcell
  have hend : Ended ((T.setVm vm').setFrames (.throwing q :: below)) below (.threw q) := State.frames_setFrames _ (State.cur_lt_of_frames hfr)
  refine ⟨(T.setVm vm').setFrames (.throwing q :: below), ?_, .threw q, X'.here.running, hend, Or.inr ⟨q, rfl, E, ce, locs, hx _ hT (X'.ends _).1.alike, hcell9, hv, hcl, (X'.ends _).1, (X'.ends _).2.mono hc hs, hf⟩⟩
  rw [X.pushThrowing_eq]
  exact st
/-- a thing of a world lies in the heap -/
theorem vx_lt {D : va_G} {cl : List vw_C} {ws : va_W} {H1 : Heap} (h : va_P D cl ws H1) {k : Nat} {q : Nat × va_E} (hk : ws[k]? = some q) : q.1 < H1.size := (h k q hk).lt
end VXS
/-! ===== END ===== -/
/-! ===== BEGIN methods with a table of their own: called by a name, returning or throwing ===== -/
section VXH
/-! vx_backW, vx_callVX, vx_callSX, vx_callVW, vx_runVW, vx_runVX, vx_runSX, vx_ofWH follow the same proofs as their sisters above (Free/Laws.lean, Shelf42/LK1.lean); vx_outP calls Shelf42/NT130.lean (outThrough). -/
section
variable {l : Launch} {R : Room} {p : Program} {e : Env} {below : List Frame} {s : State} {sargs : Array Value} {y : MethodName} {len W9 : Nat}
theorem vx_backW {ws : List Cond} {rm : Room} {Pc : Array Value → State → Prop} {Qc : Array Value → State → Outcome → State → Prop} {XC : String → State → State → Prop} {mc ms : Nat} {free : Addr → Prop} {bytes : ByteArray} {maxL : Nat} {ret : Option FieldType} {hh : List (Nat × Nat × Nat × Nat)}
    (hM : vx_Met l y ws rm Pc Qc XC mc ms free) (hblind : FrameBlind Pc) (hrc : rm.cells = mc) (hrs : rm.slots = ms)
    (hframes : rm.frames + 1 ≤ R.frames) (hlocals : W9 + (maxL + 11) + rm.locals ≤ R.locals)
    (hws : ∀ w ∈ ws, ∀ a' U, s.WarmedH U.vm → w.before a' U = true) (hcode : Cond.codeWith y bytes maxL ret hh ∈ ws) (hinit : ∀ a' U, s.WarmedH U.vm → (Cond.initialized y.cls).before a' U = true) :
    vx_Back l R p e below s sargs y len W9 (PreOf R mc ms Pc) (PostOf Qc mc ms free) (vx_Post XC mc ms free) := by
  intro m meth c A g ig mk a X hg hsize hdg hW hn hp
  have h1 : (headSpec ws rm).pre.before a A.U = true := atoms_intro fun w hw => hws w hw _ _ X.warmed
  have h2 : (Cond.codeWith y bytes maxL ret hh).before a A.U = true := hws _ hcode _ _ X.warmed
  have h3 : (Cond.initialized y.cls).before a A.U = true := hinit _ _ X.warmed
  have h4 : A.cells + (headSpec ws rm).room.cells ≤ R.cells := by rw [show (headSpec ws rm).room.cells = mc from hrc]; exact hp.1
  have h5 : A.slots + (headSpec ws rm).room.slots ≤ R.slots := by rw [show (headSpec ws rm).room.slots = ms from hrs]; exact hp.2.1
  have hPc : Pc a (A.U.calling g mk a) := hblind _ _ _ _ hp.2.2
  obtain ⟨U, Ls, c0, s0⟩ := A
  dsimp only [Pt.U, Pt.locs, Pt.cells, Pt.slots] at h1 h2 h3 h4 h5 X hn hPc ⊢
  obtain ⟨m9, methY, cY, hn9, hmY, hcY, -, hlY, -⟩ := Cond.codeWith_spec h2
  cases Option.some.inj (hn9.symm.trans hn)
  obtain ⟨kY, hkY, -⟩ := className_of_methodNamed hn
  have hinitY : kY.init = .initialized := Cond.initialized_spec (findClass_of_methodNamed hn) hkY h3
  have h : At U g.method c below := by rw [hg]; exact X.here
  have hlocals9 : W9 + (maxL + 11) + (headSpec ws rm).room.locals ≤ R.locals := hlocals
  have happ : (headSpec ws rm).appliesLoose y e.platform (U.calling g mk a) = true :=
    Spec.appliesLoose_calling (g := g) h hdg hn hkY hinitY
      (X.room_calling (g := g) (R' := (headSpec ws rm).room) hsize hmY hcY hframes (by rw [hlY]; omega) h4 h5) h1
  obtain ⟨mid, hmid⟩ := h.above
  have hfr : (U.setTop g).frames = (.java g :: mid) ++ below := by rw [State.frames_setTop' g h.top, hmid]; rfl
  obtain ⟨o, s₂, hsteps, -, hend, hq⟩ := Steps.callFree hM p X.admits X.cas X.clock (acts := []) hfr happ hPc trivial
  have hq' : vx_Q Qc XC mc ms free a (U.calling g mk a) o s₂ := hq
  rw [State.frames_setTop' g h.top] at hend
  obtain ⟨g₀, hg0⟩ := Option.isSome_iff_exists.mp h.top
  obtain ⟨r, hr⟩ := State.topJava?_eq_some.mp hg0
  have hr' : (({ U with heap := s₂.heap, slotsUsed := s₂.slotsUsed } : State).setVm s₂.vm).frames = .java g₀ :: r := hr
  rcases hq' with ⟨hqc, L, hfe, hL⟩ | ⟨q, rfl, E, ce, L, hx, hce, hcv, hcl, hW₂, hsm, hL⟩
  · obtain ⟨⟨v, rfl⟩, hW₂, e2, q2, q3, q4, q5, q6⟩ := id hfe
    have e3 : s₂ = ({ (U.calling g mk a).setFrames s₂.frames with heap := s₂.heap, slotsUsed := s₂.slotsUsed } : State).setVm s₂.vm := by
      have : s₂ = ({ s₂ with vm := (U.calling g mk a).vm } : State).setVm s₂.vm := rfl
      rw [e2] at this
      exact this
    obtain ⟨c₂, i₂, len₂, hc₂, hd₂, hf₂⟩ := hend
    have hW' : U.WarmedH s₂.vm := hW₂
    have hcc : c₂ = c := by
      have h1 : s₂.code? g.method = U.code? g.method := by
        rw [State.code?_eq, State.code?_eq, hW'.alike.method?]
      exact Option.some.inj (hc₂.symm.trans (h1.trans h.code))
    subst hcc
    have hlen : len₂ = len := by rw [hdg] at hd₂; cases hd₂; rfl
    subst hlen
    have hs₂ : s₂ = (({ U with heap := s₂.heap, slotsUsed := s₂.slotsUsed } : State).setVm s₂.vm).setTop { g with pc := g.pc + len₂, stack := v.toList ++ g.stack } := by
      refine e3.trans ?_
      rw [hf₂, State.calling_eq h.top, State.setFrames_setFrames, State.setTop_of_frames _ hr', hr]
      rfl
    have hsame : U.sameButNew ({ U with heap := s₂.heap, slotsUsed := s₂.slotsUsed } : State) L mc ms := by
      refine ⟨?_, q2, q3, q4, q5, q6⟩
      obtain ⟨t, ht, -⟩ := State.frames_cons hr
      show ({ U with heap := s₂.heap, slotsUsed := s₂.slotsUsed } : State) = { U.setFrames U.frames with heap := s₂.heap, slotsUsed := s₂.slotsUsed }
      rw [State.setFrames_self ht]
    subst hg
    refine Or.inl ⟨v, ⟨(({ U with heap := s₂.heap, slotsUsed := s₂.slotsUsed } : State).setVm s₂.vm), Ls ++ L, c0 + mc, s0 + ms⟩,
      ⟨X.admits, X.cas, X.clock, X.frames, X.room, X.hears, X.method, X.code, (X.here.setHeapUsed s₂.heap s₂.slotsUsed).setVm hW'.alike, X.tail, State.WarmedH.trans X.warmed hW', X.limits, X.bytes, X.same.trans (hsame.setVm s.vm)⟩,
      ⟨g, mk, s₂, L, rfl, rfl, hqc, rfl, hL, rfl, rfl⟩, ?_⟩
    show Steps p.tables e below _ ((({ U with heap := s₂.heap, slotsUsed := s₂.slotsUsed } : State).setVm s₂.vm).setTop { g with pc := g.pc + len₂, stack := v.toList ++ g.stack })
    rw [← hs₂]
    exact hsteps
  · obtain ⟨e2, q2, q3, q4, q5, q6⟩ := id hsm
    have e3 : s₂ = ({ (U.calling g mk a).setFrames s₂.frames with heap := s₂.heap, slotsUsed := s₂.slotsUsed } : State).setVm s₂.vm := by
      have : s₂ = ({ s₂ with vm := (U.calling g mk a).vm } : State).setVm s₂.vm := rfl
      rw [e2] at this
      exact this
    have hf₂ : s₂.frames = .throwing q :: .java g :: U.frames.tail := hend
    have hW' : U.WarmedH s₂.vm := hW₂
    have hs₂ : s₂ = ((({ U with heap := s₂.heap, slotsUsed := s₂.slotsUsed } : State).setVm s₂.vm).setTop g).pushFrame (.throwing q) := by
      refine e3.trans ?_
      rw [hf₂, State.calling_eq h.top, State.setFrames_setFrames, State.pushFrame, State.frames_setTop _ hr', State.setTop_of_frames _ hr', State.setFrames_setFrames, hr]
      rfl
    have hsame : U.sameButNew ({ U with heap := s₂.heap, slotsUsed := s₂.slotsUsed } : State) L mc ms := by
      refine ⟨?_, q2, q3, q4, q5, q6⟩
      obtain ⟨t, ht, -⟩ := State.frames_cons hr
      show ({ U with heap := s₂.heap, slotsUsed := s₂.slotsUsed } : State) = { U.setFrames U.frames with heap := s₂.heap, slotsUsed := s₂.slotsUsed }
      rw [State.setFrames_self ht]
    subst hg
    refine Or.inr ⟨q, ⟨(({ U with heap := s₂.heap, slotsUsed := s₂.slotsUsed } : State).setVm s₂.vm), Ls ++ L, c0 + mc, s0 + ms⟩,
      ⟨X.admits, X.cas, X.clock, X.frames, X.room, X.hears, X.method, X.code, (X.here.setHeapUsed s₂.heap s₂.slotsUsed).setVm hW'.alike, X.tail, State.WarmedH.trans X.warmed hW', X.limits, X.bytes, X.same.trans (hsame.setVm s.vm)⟩,
      ⟨g, mk, s₂, L, E, ce, rfl, rfl, hx, hce, hcv, hcl, rfl, hL, rfl, rfl⟩, ?_⟩
    show Steps p.tables e below _ (((({ U with heap := s₂.heap, slotsUsed := s₂.slotsUsed } : State).setVm s₂.vm).setTop g).pushFrame (.throwing q))
    rw [← hs₂]
    exact hsteps
end
variable {p : Program} {l : Launch} {e : Env} {R : Room} {s : State} {m : MethodId} {args : Array Value} {below : List Frame} {meth : Method} {c : Code} {T : State} {H : Heap} {locs : List Loc} {cells slots : Nat}
theorem vx_callVX (X : Stand p l e R s m args below meth c T locs cells slots) (hexec : p.tables.exec = Jvm.exec) {own C : String} {index : Nat} {y : MethodName} {bytes : ByteArray} {maxL : Nat} {ret : Option FieldType} {hh : List (Nat × Nat × Nat × Nat)}
    (hown : s.vm.findClass own = some m.cls) (hlink : (Cond.methodLink own index y).before args s = true) (hinst : (Cond.instanceMethod y).before args s = true) (hsel : (Cond.selects C y y).before args s = true)
    (hcode : (Cond.codeWith y bytes maxL ret hh).before args s = true) (hy : y.cls ≠ "java/lang/invoke/MethodHandle" ∧ y.cls ≠ "java/lang/invoke/VarHandle")
    {W9 : Nat} {Pre : Pt → Array Value → Prop} {Post : Pt → Array Value → Option Value → Pt → Prop} {PostX : Pt → Array Value → Addr → Pt → Prop} (hK : vx_Back l R p e below s args y 3 W9 Pre Post PostX)
    {b : Addr} {cellB : Cell} (hcell : T.heap[b]? = some cellB) (hobj : cellB.vm.isStatics = false) (hcls : s.vm.findClass C = some cellB.cls)
    {g : JFrame} (hg : g.method = m) (hsize : g.locals.size = c.maxLocals) {argsL rest : List Value} (hlen : ∀ sig, parseMethodDescriptor y.desc = some sig → argsL.length = sig.parameters.length)
    (hstack : g.stack = argsL.reverse ++ .ref b :: rest) (hW : 2 * g.monitorRoom + (rest.map fun v => v.category).sum ≤ W9) (hdg : decode c.code g.pc = .ok (.invokevirtual index, 3))
    (hpre : ∀ vm₁, s.WarmedH vm₁ → Pre ⟨T.setVm vm₁, locs, cells, slots⟩ (Value.ref b :: argsL).toArray) :
    (∃ (v : Option Value) (vm₁ : Vm) (B : Pt), s.WarmedH vm₁ ∧ Stand p l e R s m args below meth c B.U B.locs B.cells B.slots ∧ Post ⟨T.setVm vm₁, locs, cells, slots⟩ (Value.ref b :: argsL).toArray v B ∧
      ∀ target, Steps p.tables e below (B.U.setTop { g with pc := g.pc + 3, stack := v.toList ++ rest }) target → Steps p.tables e below (T.setTop g) target) ∨
    (∃ (q : Addr) (vm₁ : Vm) (B : Pt), s.WarmedH vm₁ ∧ Stand p l e R s m args below meth c B.U B.locs B.cells B.slots ∧ PostX ⟨T.setVm vm₁, locs, cells, slots⟩ (Value.ref b :: argsL).toArray q B ∧
      Steps p.tables e below (T.setTop g) ((B.U.setTop { g with stack := rest }).pushFrame (.throwing q))) := by
  obtain ⟨mk, methM, hnamed, hmethM, hstM, habM⟩ := Cond.instanceMethod_spec hinst
  obtain ⟨m8, methM', cM, hn8, hmethM', -, -, -, -, -, -, hsigM⟩ := Cond.codeWith_spec hcode
  cases Option.some.inj (hn8.symm.trans hnamed)
  cases hmethM.symm.trans hmethM'
  obtain ⟨c2, r2, m2, q1, q2, q3, q4, kP, hkP, hkPi⟩ := Cond.selects_spec hsel
  cases hcls.symm.trans q1
  cases (State.methodFound?_of_named hnamed hy).symm.trans q2
  cases hnamed.symm.trans q3
  have hselP : selectMethod e.platform s.vm cellB.cls mk = .method mk := by rw [Launch.admits_selectMethod X.admits]; exact q4
  obtain ⟨vm₁, X₁, hstep₁⟩ := X.invokevirtual hexec hown hlink hnamed hmethM hstM hkP hkPi hy (a := b) (cell := cellB) hcell
    (fun z h => by rw [h] at hobj; cases hobj) hselP hmethM habM hkP hkPi (g := g) hg (argsL := argsL) (rest := rest) (hlen _ hsigM) hstack hdg
  rcases hK m meth c ⟨T.setVm vm₁, locs, cells, slots⟩ { g with stack := rest } (.invokevirtual index) mk (Value.ref b :: argsL).toArray X₁ hg hsize hdg hW (X₁.named hnamed) (hpre vm₁ X₁.warmed) with ⟨v, B, X', hpost, hsteps⟩ | ⟨q, B, X', hpost, hsteps⟩
  · exact Or.inl ⟨v, vm₁, B, X₁.warmed, X', hpost, fun target h => hstep₁ _ fun acts => by rw [doInvoke_state]; exact hsteps.trans h⟩
  · exact Or.inr ⟨q, vm₁, B, X₁.warmed, X', hpost, hstep₁ _ fun acts => by rw [doInvoke_state]; exact hsteps⟩
theorem vx_callSX (X : Stand p l e R s m args below meth c T locs cells slots) (hexec : p.tables.exec = Jvm.exec) {own : String} {index : Nat} {y : MethodName} {bytes : ByteArray} {maxL : Nat} {ret : Option FieldType} {hh : List (Nat × Nat × Nat × Nat)}
    (hown : s.vm.findClass own = some m.cls) (hlink : (Cond.methodLink own index y).before args s = true) (hstat : (Cond.static y).before args s = true) (hinit : (Cond.initialized y.cls).before args s = true)
    (hcode : (Cond.codeWith y bytes maxL ret hh).before args s = true) (hy : y.cls ≠ "java/lang/invoke/MethodHandle" ∧ y.cls ≠ "java/lang/invoke/VarHandle")
    {W9 : Nat} {Pre : Pt → Array Value → Prop} {Post : Pt → Array Value → Option Value → Pt → Prop} {PostX : Pt → Array Value → Addr → Pt → Prop} (hK : vx_Back l R p e below s args y 3 W9 Pre Post PostX)
    {g : JFrame} (hg : g.method = m) (hsize : g.locals.size = c.maxLocals) {argsL rest : List Value} (hlen : ∀ sig, parseMethodDescriptor y.desc = some sig → argsL.length = sig.parameters.length)
    (hstack : g.stack = argsL.reverse ++ rest) (hW : 2 * g.monitorRoom + (rest.map fun v => v.category).sum ≤ W9) (hdg : decode c.code g.pc = .ok (.invokestatic index, 3))
    (hpre : ∀ vm₁, s.WarmedH vm₁ → Pre ⟨T.setVm vm₁, locs, cells, slots⟩ argsL.toArray) :
    (∃ (v : Option Value) (vm₁ : Vm) (B : Pt), s.WarmedH vm₁ ∧ Stand p l e R s m args below meth c B.U B.locs B.cells B.slots ∧ Post ⟨T.setVm vm₁, locs, cells, slots⟩ argsL.toArray v B ∧
      ∀ target, Steps p.tables e below (B.U.setTop { g with pc := g.pc + 3, stack := v.toList ++ rest }) target → Steps p.tables e below (T.setTop g) target) ∨
    (∃ (q : Addr) (vm₁ : Vm) (B : Pt), s.WarmedH vm₁ ∧ Stand p l e R s m args below meth c B.U B.locs B.cells B.slots ∧ PostX ⟨T.setVm vm₁, locs, cells, slots⟩ argsL.toArray q B ∧
      Steps p.tables e below (T.setTop g) ((B.U.setTop { g with stack := rest }).pushFrame (.throwing q))) := by
  obtain ⟨mk, methM, cM, hnamed, hmethM, -, -, -, -, -, -, hsigM⟩ := Cond.codeWith_spec hcode
  have hstatic : methM.isStatic = true := Cond.static_spec hnamed hmethM hstat
  obtain ⟨kP, hkP, -⟩ := className_of_methodNamed hnamed
  have hinitP : kP.init = .initialized := Cond.initialized_spec (findClass_of_methodNamed hnamed) hkP hinit
  obtain ⟨vm₁, X₁, hstep₁⟩ := X.invokestatic hexec hown hlink hnamed hmethM hstatic hkP hinitP hy (g := g) hg (argsL := argsL) (rest := rest) (hlen _ hsigM) hstack hdg
  rcases hK m meth c ⟨T.setVm vm₁, locs, cells, slots⟩ { g with stack := rest } (.invokestatic index) mk argsL.toArray X₁ hg hsize hdg hW (X₁.named hnamed) (hpre vm₁ X₁.warmed) with ⟨v, B, X', hpost, hsteps⟩ | ⟨q, B, X', hpost, hsteps⟩
  · exact Or.inl ⟨v, vm₁, B, X₁.warmed, X', hpost, fun target h => hstep₁ _ fun acts => by rw [doInvoke_state]; exact hsteps.trans h⟩
  · exact Or.inr ⟨q, vm₁, B, X₁.warmed, X', hpost, hstep₁ _ fun acts => by rw [doInvoke_state]; exact hsteps⟩
theorem vx_callVW (X : Stand p l e R s m args below meth c T locs cells slots) (hexec : p.tables.exec = Jvm.exec) {own C : String} {index : Nat} {y : MethodName} {bytes : ByteArray} {maxL : Nat} {ret : Option FieldType} {hh : List (Nat × Nat × Nat × Nat)}
    (hown : s.vm.findClass own = some m.cls) (hlink : (Cond.methodLink own index y).before args s = true) (hinst : (Cond.instanceMethod y).before args s = true) (hsel : (Cond.selects C y y).before args s = true)
    (hcode : (Cond.codeWith y bytes maxL ret hh).before args s = true) (hy : y.cls ≠ "java/lang/invoke/MethodHandle" ∧ y.cls ≠ "java/lang/invoke/VarHandle")
    {W9 : Nat} {Pre : Pt → Array Value → Prop} {Post : Pt → Array Value → Option Value → Pt → Prop} (hK : Back l R p e below s args y 3 W9 Pre Post)
    {b : Addr} {cellB : Cell} (hcell : T.heap[b]? = some cellB) (hobj : cellB.vm.isStatics = false) (hcls : s.vm.findClass C = some cellB.cls)
    {g : JFrame} (hg : g.method = m) (hsize : g.locals.size = c.maxLocals) {argsL rest : List Value} (hlen : ∀ sig, parseMethodDescriptor y.desc = some sig → argsL.length = sig.parameters.length)
    (hstack : g.stack = argsL.reverse ++ .ref b :: rest) (hW : 2 * g.monitorRoom + (rest.map fun v => v.category).sum ≤ W9) (hdg : decode c.code g.pc = .ok (.invokevirtual index, 3))
    (hpre : ∀ vm₁, s.WarmedH vm₁ → Pre ⟨T.setVm vm₁, locs, cells, slots⟩ (Value.ref b :: argsL).toArray) :
    ∃ (v : Option Value) (vm₁ : Vm) (B : Pt), s.WarmedH vm₁ ∧ Stand p l e R s m args below meth c B.U B.locs B.cells B.slots ∧ Post ⟨T.setVm vm₁, locs, cells, slots⟩ (Value.ref b :: argsL).toArray v B ∧
      ∀ target, Steps p.tables e below (B.U.setTop { g with pc := g.pc + 3, stack := v.toList ++ rest }) target → Steps p.tables e below (T.setTop g) target := by
  obtain ⟨mk, methM, hnamed, hmethM, hstM, habM⟩ := Cond.instanceMethod_spec hinst
  obtain ⟨m8, methM', cM, hn8, hmethM', -, -, -, -, -, -, hsigM⟩ := Cond.codeWith_spec hcode
  cases Option.some.inj (hn8.symm.trans hnamed)
  cases hmethM.symm.trans hmethM'
  obtain ⟨c2, r2, m2, q1, q2, q3, q4, kP, hkP, hkPi⟩ := Cond.selects_spec hsel
  cases hcls.symm.trans q1
  cases (State.methodFound?_of_named hnamed hy).symm.trans q2
  cases hnamed.symm.trans q3
  have hselP : selectMethod e.platform s.vm cellB.cls mk = .method mk := by rw [Launch.admits_selectMethod X.admits]; exact q4
  obtain ⟨vm₁, X₁, hstep₁⟩ := X.invokevirtual hexec hown hlink hnamed hmethM hstM hkP hkPi hy (a := b) (cell := cellB) hcell
    (fun z h => by rw [h] at hobj; cases hobj) hselP hmethM habM hkP hkPi (g := g) hg (argsL := argsL) (rest := rest) (hlen _ hsigM) hstack hdg
  obtain ⟨v, B, X', hpost, hsteps⟩ := hK m meth c ⟨T.setVm vm₁, locs, cells, slots⟩ { g with stack := rest } (.invokevirtual index) mk (Value.ref b :: argsL).toArray X₁ hg hsize hdg hW (X₁.named hnamed) (hpre vm₁ X₁.warmed)
  exact ⟨v, vm₁, B, X₁.warmed, X', hpost, fun target h => hstep₁ _ fun acts => by rw [doInvoke_state]; exact hsteps.trans h⟩
abbrev vx_CVW (R : Room) (s : State) (args : Array Value) (own C : String) (index : Nat) (y : MethodName) (bytes : ByteArray) (maxL : Nat) (ret : Option FieldType) (hh : List (Nat × Nat × Nat × Nat)) (ws : List Cond) (rm : Room) (mc ms n : Nat) : Prop :=
  (rm.cells = mc ∧ rm.slots = ms ∧ rm.frames + 1 ≤ R.frames ∧ 8 + (maxL + 11) + rm.locals ≤ R.locals ∧ (∀ w ∈ ws, ∀ (a' : Array Value) (U : State), s.WarmedH U.vm → w.before a' U = true) ∧ Cond.codeWith y bytes maxL ret hh ∈ ws) ∧
  (Cond.codeWith y bytes maxL ret hh).before args s = true ∧ (Cond.initialized y.cls).before args s = true ∧ (y.cls ≠ "java/lang/invoke/MethodHandle" ∧ y.cls ≠ "java/lang/invoke/VarHandle") ∧
  (∀ sig, parseMethodDescriptor y.desc = some sig → n = sig.parameters.length) ∧ (Cond.methodLink own index y).before args s = true ∧ (Cond.instanceMethod y).before args s = true ∧ (Cond.selects C y y).before args s = true
theorem vx_cwVW {own C : String} {index maxL mc ms : Nat} {y : MethodName} {bytes : ByteArray} {ret : Option FieldType} {hh : List (Nat × Nat × Nat × Nat)} {Ts ws ws' : List Cond} {rm : Room} (n : Nat) (ht : ∀ w ∈ Ts, w.before args s = true) (hT : GoodIn Ts (wsV own index C y ws)) (hw : ws = Cond.codeWith y bytes maxL ret hh :: ws') (hrc : rm.cells = mc) (hrs : rm.slots = ms)
    (hd : y.cls = C ∧ y.cls ≠ "java/lang/invoke/MethodHandle" ∧ y.cls ≠ "java/lang/invoke/VarHandle" ∧ (parseMethodDescriptor y.desc).map (fun d => d.parameters.length) = some n) (hR : rm.frames + 1 ≤ R.frames ∧ 8 + (maxL + 11) + rm.locals ≤ R.locals) :
    vx_CVW R s args own C index y bytes maxL ret hh ws rm mc ms n := by
  obtain ⟨hC, hd⟩ := hd
  subst hC
  have ok : ∀ w ∈ wsV own index y.cls y ws, w.before args s = true := fun w h => ht w (hT w h).1
  have hG : GoodIn Ts ws := fun w h => hT w (by unfold wsV; exact List.mem_append_right _ h)
  have hc : Cond.codeWith y bytes maxL ret hh ∈ ws := by rw [hw]; exact List.mem_cons_self
  refine ⟨⟨hrc, hrs, hR.1, hR.2, pay_in ht hG, hc⟩, ht _ (hG _ hc).1, ok _ (by simp [wsV]), ⟨hd.1, hd.2.1⟩, fun sig h => ?_, ok _ (by simp [wsV]), ok _ (by simp [wsV]), ok _ (by simp [wsV])⟩
  have h2 := hd.2.2
  rw [h] at h2
  exact (Option.some.inj h2).symm
theorem vx_runVW {y : MethodName} {bytes cc : ByteArray} {maxL nL mc ms n index : Nat} {ret : Option FieldType} {hh : List (Nat × Nat × Nat × Nat)} {ws : List Cond} {rm : Room} {Pc : Array Value → State → Prop} {Qc : Array Value → State → Outcome → State → Prop} {free : Addr → Prop} {Ts : List Cond} {own C : String} {b : Addr} {As rest : List Value} {g : JFrame}
    (S : CallFix p m c cc nL s args Ts own) (hM : Met l y ws rm Pc Qc mc ms free) (cw : vx_CVW R s args own C index y bytes maxL ret hh ws rm mc ms n) (hp : PreV s H C b Pc As)
    (hg : g.method = m) (hn : As.length = n) (hsize : g.locals.size = nL) (hstack : g.stack = As.reverse ++ .ref b :: rest) (hW : 2 * g.monitorRoom + (rest.map fun v => v.category).sum ≤ 8) (hdg : decode cc g.pc = .ok (.invokevirtual index, 3)) (hf : cells + mc ≤ R.cells ∧ slots + ms ≤ R.slots) :
    va_Run p l e R s m args below meth c H locs cells slots mc ms g rest (Qc (Value.ref b :: As).toArray) free := by
  obtain ⟨⟨hrc, hrs, hfr, hlo, hws, hcw⟩, hcode, hini, hy, hlen, hl, hin, hse⟩ := cw
  have hK : Back l R p e below s args y 3 8 (PreOf R mc ms Pc) (PostOf Qc mc ms free) := va_backW (hh := hh) (bytes := bytes) (maxL := maxL) (ret := ret) hM hp.1 hrc hrs hfr hlo hws hcw (fun a' U hW => word_at hW (Or.inl (by first | rfl | simp [Cond.onTables, Cond.keeps, Cond.steady])) hini)
  obtain ⟨hx, hb, hml, ho, -⟩ := S
  obtain ⟨-, ⟨cellB, hcB, hoB, hclB⟩, hPc⟩ := hp
  intro T hT X
  obtain ⟨v, vm₁, ⟨U', l2, c2, s2⟩, hW₁, X', ⟨g', mk, t, L, e1, e2, hq, h1, hL, h2, h3⟩, st⟩ := vx_callVW X hx (C := C) (hh := hh) (bytes := bytes) (maxL := maxL) (ret := ret) ho hl hin hse hcode hy hK (by rw [hT]; exact hcB) hoB hclB hg (hsize.trans hml.symm) (argsL := As) (rest := rest) (fun sig h => hn.trans (hlen sig h)) hstack hW (by rw [hb]; exact hdg)
    (fun vm₁ hW₁ => ⟨hf.1, hf.2, hPc (T.setVm vm₁) hT hW₁⟩)
  dsimp only [Pt.U, Pt.locs, Pt.cells, Pt.slots] at X' e1 e2 h1 h2 h3 st
  subst h1; subst h2; subst h3
  exact ⟨v, (T.setVm vm₁).calling g' mk (Value.ref b :: As).toArray, t, U', L, hT, X', hL, e1, e2, hq, st⟩
section
variable {y : MethodName} {bytes cc : ByteArray} {maxL nL mc ms n index : Nat} {ret : Option FieldType} {ws : List Cond} {rm : Room} {Pc : Array Value → State → Prop} {Qc : Array Value → State → Outcome → State → Prop} {XC : String → State → State → Prop} {free : Addr → Prop} {Ts : List Cond} {own C : String} {b : Addr} {As rest : List Value} {g : JFrame}
theorem vx_runVX {hh : List (Nat × Nat × Nat × Nat)} (S : CallFix p m c cc nL s args Ts own) (hM : vx_Met l y ws rm Pc Qc XC mc ms free) (cw : vx_CVW R s args own C index y bytes maxL ret hh ws rm mc ms n) (hp : PreV s H C b Pc As)
    (hg : g.method = m) (hn : As.length = n) (hsize : g.locals.size = nL) (hstack : g.stack = As.reverse ++ .ref b :: rest) (hW : 2 * g.monitorRoom + (rest.map fun v => v.category).sum ≤ 8) (hdg : decode cc g.pc = .ok (.invokevirtual index, 3)) (hf : cells + mc ≤ R.cells ∧ slots + ms ≤ R.slots) :
    vx_Run p l e R s m args below meth c H locs cells slots mc ms g rest (Qc (Value.ref b :: As).toArray) XC free := by
  obtain ⟨⟨hrc, hrs, hfr, hlo, hws, hcw⟩, hcode, hini, hy, hlen, hl, hin, hse⟩ := cw
  have hK : vx_Back l R p e below s args y 3 8 (PreOf R mc ms Pc) (PostOf Qc mc ms free) (vx_Post XC mc ms free) := vx_backW (hh := hh) (bytes := bytes) (maxL := maxL) (ret := ret) hM hp.1 hrc hrs hfr hlo hws hcw (fun a' U hW => word_at hW (Or.inl (by first | rfl | simp [Cond.onTables, Cond.keeps, Cond.steady])) hini)
  obtain ⟨hx, hb, hml, ho, -⟩ := S
  obtain ⟨-, ⟨cellB, hcB, hoB, hclB⟩, hPc⟩ := hp
  intro T hT X
  rcases vx_callVX X hx (C := C) (hh := hh) (bytes := bytes) (maxL := maxL) (ret := ret) ho hl hin hse hcode hy hK (by rw [hT]; exact hcB) hoB hclB hg (hsize.trans hml.symm) (argsL := As) (rest := rest) (fun sig h => hn.trans (hlen sig h)) hstack hW (by rw [hb]; exact hdg)
    (fun vm₁ hW₁ => ⟨hf.1, hf.2, hPc (T.setVm vm₁) hT hW₁⟩) with ⟨v, vm₁, ⟨U', l2, c2, s2⟩, hW₁, X', ⟨g', mk, t, L, e1, e2, hq, h1, hL, h2, h3⟩, st⟩ | ⟨q, vm₁, ⟨U', l2, c2, s2⟩, hW₁, X', ⟨g', mk, t, L, E, ce, e1, e2, hq, hce, hcv, hcl, h1, hL, h2, h3⟩, st⟩
  · dsimp only [Pt.U, Pt.locs, Pt.cells, Pt.slots] at X' e1 e2 h1 h2 h3 st
    subst h1; subst h2; subst h3
    exact Or.inl ⟨v, (T.setVm vm₁).calling g' mk (Value.ref b :: As).toArray, t, U', L, hT, X', hL, e1, e2, hq, st⟩
  · dsimp only [Pt.U, Pt.locs, Pt.cells, Pt.slots] at X' e1 e2 h1 h2 h3 st hcl
    subst h1; subst h2; subst h3
    exact Or.inr ⟨q, (T.setVm vm₁).calling g' mk (Value.ref b :: As).toArray, t, U', L, E, ce, hT, X', hL, e1, e2, hq, hce, hcv, vx_cls hW₁ hcl, st⟩
theorem vx_runSX {hh : List (Nat × Nat × Nat × Nat)} (S : CallFix p m c cc nL s args Ts own) (hM : vx_Met l y ws rm Pc Qc XC mc ms free) (cw : vx_CSW R s args own index y bytes maxL ret hh ws rm mc ms n) (hp : PreS s H Pc As)
    (hg : g.method = m) (hn : As.length = n) (hsize : g.locals.size = nL) (hstack : g.stack = As.reverse ++ rest) (hW : 2 * g.monitorRoom + (rest.map fun v => v.category).sum ≤ 8) (hdg : decode cc g.pc = .ok (.invokestatic index, 3)) (hf : cells + mc ≤ R.cells ∧ slots + ms ≤ R.slots) :
    vx_Run p l e R s m args below meth c H locs cells slots mc ms g rest (Qc As.toArray) XC free := by
  obtain ⟨⟨hrc, hrs, hfr, hlo, hws, hcw⟩, hcode, hini, hy, hlen, hl, hstt⟩ := cw
  have hK : vx_Back l R p e below s args y 3 8 (PreOf R mc ms Pc) (PostOf Qc mc ms free) (vx_Post XC mc ms free) := vx_backW (hh := hh) (bytes := bytes) (maxL := maxL) (ret := ret) hM hp.1 hrc hrs hfr hlo hws hcw (fun a' U hW => word_at hW (Or.inl (by first | rfl | simp [Cond.onTables, Cond.keeps, Cond.steady])) hini)
  obtain ⟨hx, hb, hml, ho, -⟩ := S
  intro T hT X
  rcases vx_callSX X hx (hh := hh) (bytes := bytes) (maxL := maxL) (ret := ret) ho hl hstt hini hcode hy hK hg (hsize.trans hml.symm) (argsL := As) (rest := rest) (fun sig h => hn.trans (hlen sig h)) hstack hW (by rw [hb]; exact hdg)
    (fun vm₁ hW₁ => ⟨hf.1, hf.2, hp.2 (T.setVm vm₁) hT hW₁⟩) with ⟨v, vm₁, ⟨U', l2, c2, s2⟩, hW₁, X', ⟨g', mk, t, L, e1, e2, hq, h1, hL, h2, h3⟩, st⟩ | ⟨q, vm₁, ⟨U', l2, c2, s2⟩, hW₁, X', ⟨g', mk, t, L, E, ce, e1, e2, hq, hce, hcv, hcl, h1, hL, h2, h3⟩, st⟩
  · dsimp only [Pt.U, Pt.locs, Pt.cells, Pt.slots] at X' e1 e2 h1 h2 h3 st
    subst h1; subst h2; subst h3
    exact Or.inl ⟨v, (T.setVm vm₁).calling g' mk As.toArray, t, U', L, hT, X', hL, e1, e2, hq, st⟩
  · dsimp only [Pt.U, Pt.locs, Pt.cells, Pt.slots] at X' e1 e2 h1 h2 h3 st hcl
    subst h1; subst h2; subst h3
    exact Or.inr ⟨q, (T.setVm vm₁).calling g' mk As.toArray, t, U', L, E, ce, hT, X', hL, e1, e2, hq, hce, hcv, vx_cls hW₁ hcl, st⟩
end
end VXH
theorem vx_ofWH {l : Launch} {y : MethodName} {ws ws' : List Cond} {rm : Room} {Pc : Array Value → State → Prop} {Qc : Array Value → State → Outcome → State → Prop} {XC : String → State → State → Prop} {mc ms : Nat} {free : Addr → Prop} {cc : ByteArray} {maxL : Nat} {ret : Option FieldType} {hh : List (Nat × Nat × Nat × Nat)}
    (hy : plainName y.cls = true) (hw : ws = Cond.codeWith y cc maxL ret hh :: ws')
    (body : ∀ p e s m args below meth c s₁, BodyLoose p l y (headSpec ws rm) cc maxL ret e s m args below meth c s₁ → c.maxLocals = maxL → Pc args s →
      W p l e (headSpec ws rm).room s m args below meth c s.heap [] 0 0 (vx_MQ below Qc XC args s mc ms free) (entryFrame m args maxL)) : vx_Met l y ws rm Pc Qc XC mc ms free := by
  refine MetFree.of_bodyS (code := cc) (maxLocals := maxL) (ret := ret) hy ?_ ?_
  · intro args s m h hn
    obtain ⟨m9, meth, c, hn9, h1, h2, h3, h4, -, h5, h6, -⟩ := Cond.codeWith_spec (atoms_spec (ws := ws) h _ (by rw [hw]; exact List.mem_cons_self))
    cases hn.symm.trans hn9
    exact ⟨meth, c, h1, h2, h3, h4, h5, h6⟩
  · intro p e s m args below meth c s₁ B hml hP _
    have hh0 : s₁.heap = s.heap := by rw [B.state]; rfl
    obtain ⟨t, a1, o, b1, b2, b3⟩ := body p e s m args below meth c s₁ B hml hP s₁ hh0 (Stand.of_body B)
    exact ⟨t, o, a1, b1, b2, b3⟩
/-! ===== END ===== -/

/-! ===== BEGIN printed: names, fields, word lists, decode rows ===== -/
end
section
-- ===== PART A: goes FIRST, ahead of the names: the tables' words, and 'selects' of the private methods out of them =====
/-- a private method of a class that the tables say can be made, by its rows of tables_1 -/
def lw_okq (q : MethodName × Nat) : Prop := (q.1.cls ≠ "java/lang/invoke/MethodHandle" ∧ q.1.cls ≠ "java/lang/invoke/VarHandle") ∧ Cond.instantiable q.1.cls q.2 ∈ tables_1 ∧ Cond.privateMethod q.1 ∈ tables_1 ∧ Cond.instanceMethod q.1 ∈ tables_1
theorem lw_p0 : lw_okq (⟨"CallForks", "requireParty", "(I)V"⟩, 5) := ⟨⟨by decide +kernel, by decide +kernel⟩, List.mem_of_getElem? (i := 24) (by decide +kernel), List.mem_of_getElem? (i := 245) (by decide +kernel), List.mem_of_getElem? (i := 246) (by decide +kernel)⟩
theorem lw_p1 : lw_okq (⟨"java/lang/Throwable", "fillInStackTrace", "(I)Ljava/lang/Throwable;"⟩, 6) := ⟨⟨by decide +kernel, by decide +kernel⟩, List.mem_of_getElem? (i := 292) (by decide +kernel), List.mem_of_getElem? (i := 290) (by decide +kernel), List.mem_of_getElem? (i := 291) (by decide +kernel)⟩
theorem lw_p2 : lw_okq (⟨"CallForks$Exchange", "callerOf", "(I)I"⟩, 9) := ⟨⟨by decide +kernel, by decide +kernel⟩, List.mem_of_getElem? (i := 32) (by decide +kernel), List.mem_of_getElem? (i := 348) (by decide +kernel), List.mem_of_getElem? (i := 349) (by decide +kernel)⟩
theorem lw_p3 : lw_okq (⟨"CallForks$Exchange", "ringsAt", "(II)Z"⟩, 9) := ⟨⟨by decide +kernel, by decide +kernel⟩, List.mem_of_getElem? (i := 32) (by decide +kernel), List.mem_of_getElem? (i := 364) (by decide +kernel), List.mem_of_getElem? (i := 365) (by decide +kernel)⟩
theorem lw_p4 : lw_okq (⟨"CallForks", "requireCall", "(I)V"⟩, 5) := ⟨⟨by decide +kernel, by decide +kernel⟩, List.mem_of_getElem? (i := 24) (by decide +kernel), List.mem_of_getElem? (i := 373) (by decide +kernel), List.mem_of_getElem? (i := 374) (by decide +kernel)⟩
theorem lw_p5 : lw_okq (⟨"CallForks", "requireLeg", "(I)V"⟩, 5) := ⟨⟨by decide +kernel, by decide +kernel⟩, List.mem_of_getElem? (i := 24) (by decide +kernel), List.mem_of_getElem? (i := 386) (by decide +kernel), List.mem_of_getElem? (i := 387) (by decide +kernel)⟩
theorem lw_p6 : lw_okq (⟨"CallForks$SetupReader", "nextToken", "()V"⟩, 15) := ⟨⟨by decide +kernel, by decide +kernel⟩, List.mem_of_getElem? (i := 126) (by decide +kernel), List.mem_of_getElem? (i := 419) (by decide +kernel), List.mem_of_getElem? (i := 420) (by decide +kernel)⟩
theorem lw_p7 : lw_okq (⟨"CallForks$SetupReader", "byteAt", "(I)I"⟩, 15) := ⟨⟨by decide +kernel, by decide +kernel⟩, List.mem_of_getElem? (i := 126) (by decide +kernel), List.mem_of_getElem? (i := 423) (by decide +kernel), List.mem_of_getElem? (i := 424) (by decide +kernel)⟩
theorem lw_p8 : lw_okq (⟨"CallForks$SetupReader", "atWord", "(Ljava/lang/String;)Z"⟩, 15) := ⟨⟨by decide +kernel, by decide +kernel⟩, List.mem_of_getElem? (i := 126) (by decide +kernel), List.mem_of_getElem? (i := 438) (by decide +kernel), List.mem_of_getElem? (i := 439) (by decide +kernel)⟩
theorem lw_p9 : lw_okq (⟨"CallForks$SetupReader", "fail", "(I)V"⟩, 15) := ⟨⟨by decide +kernel, by decide +kernel⟩, List.mem_of_getElem? (i := 126) (by decide +kernel), List.mem_of_getElem? (i := 490) (by decide +kernel), List.mem_of_getElem? (i := 491) (by decide +kernel)⟩
theorem lw_p10 : lw_okq (⟨"CallForks$SetupReader", "takeSign", "(C)V"⟩, 15) := ⟨⟨by decide +kernel, by decide +kernel⟩, List.mem_of_getElem? (i := 126) (by decide +kernel), List.mem_of_getElem? (i := 494) (by decide +kernel), List.mem_of_getElem? (i := 495) (by decide +kernel)⟩
theorem lw_p11 : lw_okq (⟨"CallForks$SetupReader", "atSign", "(C)Z"⟩, 15) := ⟨⟨by decide +kernel, by decide +kernel⟩, List.mem_of_getElem? (i := 126) (by decide +kernel), List.mem_of_getElem? (i := 498) (by decide +kernel), List.mem_of_getElem? (i := 499) (by decide +kernel)⟩
theorem lw_p12 : lw_okq (⟨"CallForks$SetupReader", "readStatement", "()V"⟩, 15) := ⟨⟨by decide +kernel, by decide +kernel⟩, List.mem_of_getElem? (i := 126) (by decide +kernel), List.mem_of_getElem? (i := 502) (by decide +kernel), List.mem_of_getElem? (i := 503) (by decide +kernel)⟩
theorem lw_p13 : lw_okq (⟨"CallForks$SetupReader", "readParty", "()V"⟩, 15) := ⟨⟨by decide +kernel, by decide +kernel⟩, List.mem_of_getElem? (i := 126) (by decide +kernel), List.mem_of_getElem? (i := 507) (by decide +kernel), List.mem_of_getElem? (i := 508) (by decide +kernel)⟩
theorem lw_p14 : lw_okq (⟨"CallForks$SetupReader", "takeNumber", "(II)I"⟩, 15) := ⟨⟨by decide +kernel, by decide +kernel⟩, List.mem_of_getElem? (i := 126) (by decide +kernel), List.mem_of_getElem? (i := 511) (by decide +kernel), List.mem_of_getElem? (i := 512) (by decide +kernel)⟩
theorem lw_p15 : lw_okq (⟨"CallForks$SetupReader", "numberInRange", "(II)I"⟩, 15) := ⟨⟨by decide +kernel, by decide +kernel⟩, List.mem_of_getElem? (i := 126) (by decide +kernel), List.mem_of_getElem? (i := 515) (by decide +kernel), List.mem_of_getElem? (i := 516) (by decide +kernel)⟩
def lw_privs_1 : List (MethodName × Nat) := [(⟨"CallForks", "requireParty", "(I)V"⟩, 5), (⟨"java/lang/Throwable", "fillInStackTrace", "(I)Ljava/lang/Throwable;"⟩, 6), (⟨"CallForks$Exchange", "callerOf", "(I)I"⟩, 9), (⟨"CallForks$Exchange", "ringsAt", "(II)Z"⟩, 9), (⟨"CallForks", "requireCall", "(I)V"⟩, 5), (⟨"CallForks", "requireLeg", "(I)V"⟩, 5), (⟨"CallForks$SetupReader", "nextToken", "()V"⟩, 15), (⟨"CallForks$SetupReader", "byteAt", "(I)I"⟩, 15), (⟨"CallForks$SetupReader", "atWord", "(Ljava/lang/String;)Z"⟩, 15), (⟨"CallForks$SetupReader", "fail", "(I)V"⟩, 15), (⟨"CallForks$SetupReader", "takeSign", "(C)V"⟩, 15), (⟨"CallForks$SetupReader", "atSign", "(C)Z"⟩, 15), (⟨"CallForks$SetupReader", "readStatement", "()V"⟩, 15), (⟨"CallForks$SetupReader", "readParty", "()V"⟩, 15), (⟨"CallForks$SetupReader", "takeNumber", "(II)I"⟩, 15), (⟨"CallForks$SetupReader", "numberInRange", "(II)I"⟩, 15)]
theorem lw_r1 : ∀ q ∈ lw_privs_1, lw_okq q := List.forall_mem_cons.mpr ⟨lw_p0, List.forall_mem_cons.mpr ⟨lw_p1, List.forall_mem_cons.mpr ⟨lw_p2, List.forall_mem_cons.mpr ⟨lw_p3, List.forall_mem_cons.mpr ⟨lw_p4, List.forall_mem_cons.mpr ⟨lw_p5, List.forall_mem_cons.mpr ⟨lw_p6, List.forall_mem_cons.mpr ⟨lw_p7, List.forall_mem_cons.mpr ⟨lw_p8, List.forall_mem_cons.mpr ⟨lw_p9, List.forall_mem_cons.mpr ⟨lw_p10, List.forall_mem_cons.mpr ⟨lw_p11, List.forall_mem_cons.mpr ⟨lw_p12, List.forall_mem_cons.mpr ⟨lw_p13, List.forall_mem_cons.mpr ⟨lw_p14, List.forall_mem_cons.mpr ⟨lw_p15, fun _ h => absurd h List.not_mem_nil⟩⟩⟩⟩⟩⟩⟩⟩⟩⟩⟩⟩⟩⟩⟩⟩
theorem lw_p16 : lw_okq (⟨"CallForks$SetupReader", "readWait", "()V"⟩, 15) := ⟨⟨by decide +kernel, by decide +kernel⟩, List.mem_of_getElem? (i := 126) (by decide +kernel), List.mem_of_getElem? (i := 525) (by decide +kernel), List.mem_of_getElem? (i := 526) (by decide +kernel)⟩
theorem lw_p17 : lw_okq (⟨"CallForks$SetupReader", "readPatience", "()V"⟩, 15) := ⟨⟨by decide +kernel, by decide +kernel⟩, List.mem_of_getElem? (i := 126) (by decide +kernel), List.mem_of_getElem? (i := 530) (by decide +kernel), List.mem_of_getElem? (i := 531) (by decide +kernel)⟩
theorem lw_p18 : lw_okq (⟨"CallForks$SetupReader", "readSum", "(I)V"⟩, 15) := ⟨⟨by decide +kernel, by decide +kernel⟩, List.mem_of_getElem? (i := 126) (by decide +kernel), List.mem_of_getElem? (i := 535) (by decide +kernel), List.mem_of_getElem? (i := 536) (by decide +kernel)⟩
theorem lw_p19 : lw_okq (⟨"CallForks$SetupReader", "readTerm", "(I)V"⟩, 15) := ⟨⟨by decide +kernel, by decide +kernel⟩, List.mem_of_getElem? (i := 126) (by decide +kernel), List.mem_of_getElem? (i := 539) (by decide +kernel), List.mem_of_getElem? (i := 540) (by decide +kernel)⟩
theorem lw_p20 : lw_okq (⟨"CallForks$SetupReader", "readFactor", "(I)V"⟩, 15) := ⟨⟨by decide +kernel, by decide +kernel⟩, List.mem_of_getElem? (i := 126) (by decide +kernel), List.mem_of_getElem? (i := 543) (by decide +kernel), List.mem_of_getElem? (i := 544) (by decide +kernel)⟩
theorem lw_p21 : lw_okq (⟨"CallForks$SetupReader", "addCode", "(I)V"⟩, 15) := ⟨⟨by decide +kernel, by decide +kernel⟩, List.mem_of_getElem? (i := 126) (by decide +kernel), List.mem_of_getElem? (i := 547) (by decide +kernel), List.mem_of_getElem? (i := 548) (by decide +kernel)⟩
theorem lw_p22 : lw_okq (⟨"CallForks", "playUntilSettled", "(I)I"⟩, 5) := ⟨⟨by decide +kernel, by decide +kernel⟩, List.mem_of_getElem? (i := 24) (by decide +kernel), List.mem_of_getElem? (i := 655) (by decide +kernel), List.mem_of_getElem? (i := 656) (by decide +kernel)⟩
theorem lw_p23 : lw_okq (⟨"CallForks$Exchange", "repeatOffer", "(II)V"⟩, 9) := ⟨⟨by decide +kernel, by decide +kernel⟩, List.mem_of_getElem? (i := 32) (by decide +kernel), List.mem_of_getElem? (i := 663) (by decide +kernel), List.mem_of_getElem? (i := 664) (by decide +kernel)⟩
theorem lw_p24 : lw_okq (⟨"CallForks$Exchange", "setOffer", "(III)V"⟩, 9) := ⟨⟨by decide +kernel, by decide +kernel⟩, List.mem_of_getElem? (i := 32) (by decide +kernel), List.mem_of_getElem? (i := 667) (by decide +kernel), List.mem_of_getElem? (i := 668) (by decide +kernel)⟩
theorem lw_p25 : lw_okq (⟨"CallForks$Exchange", "tally", "(I)V"⟩, 9) := ⟨⟨by decide +kernel, by decide +kernel⟩, List.mem_of_getElem? (i := 32) (by decide +kernel), List.mem_of_getElem? (i := 671) (by decide +kernel), List.mem_of_getElem? (i := 672) (by decide +kernel)⟩
theorem lw_p26 : lw_okq (⟨"CallForks$Exchange", "settleOffer", "(I)V"⟩, 9) := ⟨⟨by decide +kernel, by decide +kernel⟩, List.mem_of_getElem? (i := 32) (by decide +kernel), List.mem_of_getElem? (i := 675) (by decide +kernel), List.mem_of_getElem? (i := 676) (by decide +kernel)⟩
theorem lw_p27 : lw_okq (⟨"CallForks$Exchange", "partyOn", "(II)I"⟩, 9) := ⟨⟨by decide +kernel, by decide +kernel⟩, List.mem_of_getElem? (i := 32) (by decide +kernel), List.mem_of_getElem? (i := 679) (by decide +kernel), List.mem_of_getElem? (i := 680) (by decide +kernel)⟩
theorem lw_p28 : lw_okq (⟨"CallForks$Exchange", "isAnsweredNow", "(I)Z"⟩, 9) := ⟨⟨by decide +kernel, by decide +kernel⟩, List.mem_of_getElem? (i := 32) (by decide +kernel), List.mem_of_getElem? (i := 683) (by decide +kernel), List.mem_of_getElem? (i := 684) (by decide +kernel)⟩
theorem lw_p29 : lw_okq (⟨"CallForks$Exchange", "answer", "(I)V"⟩, 9) := ⟨⟨by decide +kernel, by decide +kernel⟩, List.mem_of_getElem? (i := 32) (by decide +kernel), List.mem_of_getElem? (i := 688) (by decide +kernel), List.mem_of_getElem? (i := 689) (by decide +kernel)⟩
theorem lw_p30 : lw_okq (⟨"CallForks$Exchange", "endRinging", "(II)V"⟩, 9) := ⟨⟨by decide +kernel, by decide +kernel⟩, List.mem_of_getElem? (i := 32) (by decide +kernel), List.mem_of_getElem? (i := 692) (by decide +kernel), List.mem_of_getElem? (i := 693) (by decide +kernel)⟩
theorem lw_p31 : lw_okq (⟨"CallForks$Exchange", "endLeg", "(II)V"⟩, 9) := ⟨⟨by decide +kernel, by decide +kernel⟩, List.mem_of_getElem? (i := 32) (by decide +kernel), List.mem_of_getElem? (i := 696) (by decide +kernel), List.mem_of_getElem? (i := 697) (by decide +kernel)⟩
def lw_privs_2 : List (MethodName × Nat) := [(⟨"CallForks$SetupReader", "readWait", "()V"⟩, 15), (⟨"CallForks$SetupReader", "readPatience", "()V"⟩, 15), (⟨"CallForks$SetupReader", "readSum", "(I)V"⟩, 15), (⟨"CallForks$SetupReader", "readTerm", "(I)V"⟩, 15), (⟨"CallForks$SetupReader", "readFactor", "(I)V"⟩, 15), (⟨"CallForks$SetupReader", "addCode", "(I)V"⟩, 15), (⟨"CallForks", "playUntilSettled", "(I)I"⟩, 5), (⟨"CallForks$Exchange", "repeatOffer", "(II)V"⟩, 9), (⟨"CallForks$Exchange", "setOffer", "(III)V"⟩, 9), (⟨"CallForks$Exchange", "tally", "(I)V"⟩, 9), (⟨"CallForks$Exchange", "settleOffer", "(I)V"⟩, 9), (⟨"CallForks$Exchange", "partyOn", "(II)I"⟩, 9), (⟨"CallForks$Exchange", "isAnsweredNow", "(I)Z"⟩, 9), (⟨"CallForks$Exchange", "answer", "(I)V"⟩, 9), (⟨"CallForks$Exchange", "endRinging", "(II)V"⟩, 9), (⟨"CallForks$Exchange", "endLeg", "(II)V"⟩, 9)]
theorem lw_r2 : ∀ q ∈ lw_privs_2, lw_okq q := List.forall_mem_cons.mpr ⟨lw_p16, List.forall_mem_cons.mpr ⟨lw_p17, List.forall_mem_cons.mpr ⟨lw_p18, List.forall_mem_cons.mpr ⟨lw_p19, List.forall_mem_cons.mpr ⟨lw_p20, List.forall_mem_cons.mpr ⟨lw_p21, List.forall_mem_cons.mpr ⟨lw_p22, List.forall_mem_cons.mpr ⟨lw_p23, List.forall_mem_cons.mpr ⟨lw_p24, List.forall_mem_cons.mpr ⟨lw_p25, List.forall_mem_cons.mpr ⟨lw_p26, List.forall_mem_cons.mpr ⟨lw_p27, List.forall_mem_cons.mpr ⟨lw_p28, List.forall_mem_cons.mpr ⟨lw_p29, List.forall_mem_cons.mpr ⟨lw_p30, List.forall_mem_cons.mpr ⟨lw_p31, fun _ h => absurd h List.not_mem_nil⟩⟩⟩⟩⟩⟩⟩⟩⟩⟩⟩⟩⟩⟩⟩⟩
theorem lw_p32 : lw_okq (⟨"CallForks$Exchange", "dropOffers", "(I)V"⟩, 9) := ⟨⟨by decide +kernel, by decide +kernel⟩, List.mem_of_getElem? (i := 32) (by decide +kernel), List.mem_of_getElem? (i := 700) (by decide +kernel), List.mem_of_getElem? (i := 701) (by decide +kernel)⟩
theorem lw_p33 : lw_okq (⟨"CallForks$Exchange", "endRingingAt", "(II)I"⟩, 9) := ⟨⟨by decide +kernel, by decide +kernel⟩, List.mem_of_getElem? (i := 32) (by decide +kernel), List.mem_of_getElem? (i := 704) (by decide +kernel), List.mem_of_getElem? (i := 705) (by decide +kernel)⟩
theorem lw_p34 : lw_okq (⟨"CallForks$Exchange", "failCall", "(I)V"⟩, 9) := ⟨⟨by decide +kernel, by decide +kernel⟩, List.mem_of_getElem? (i := 32) (by decide +kernel), List.mem_of_getElem? (i := 709) (by decide +kernel), List.mem_of_getElem? (i := 710) (by decide +kernel)⟩
theorem lw_p35 : lw_okq (⟨"CallForks$Exchange", "resumeReferrer", "(I)V"⟩, 9) := ⟨⟨by decide +kernel, by decide +kernel⟩, List.mem_of_getElem? (i := 32) (by decide +kernel), List.mem_of_getElem? (i := 713) (by decide +kernel), List.mem_of_getElem? (i := 714) (by decide +kernel)⟩
theorem lw_p36 : lw_okq (⟨"CallForks$Exchange", "ringTime", "(III)I"⟩, 9) := ⟨⟨by decide +kernel, by decide +kernel⟩, List.mem_of_getElem? (i := 32) (by decide +kernel), List.mem_of_getElem? (i := 772) (by decide +kernel), List.mem_of_getElem? (i := 773) (by decide +kernel)⟩
theorem lw_p37 : lw_okq (⟨"CallForks$RingRule", "push", "(I)V"⟩, 3) := ⟨⟨by decide +kernel, by decide +kernel⟩, List.mem_of_getElem? (i := 555) (by decide +kernel), List.mem_of_getElem? (i := 780) (by decide +kernel), List.mem_of_getElem? (i := 781) (by decide +kernel)⟩
theorem lw_p38 : lw_okq (⟨"CallForks$RingRule", "operate", "(I)V"⟩, 3) := ⟨⟨by decide +kernel, by decide +kernel⟩, List.mem_of_getElem? (i := 555) (by decide +kernel), List.mem_of_getElem? (i := 784) (by decide +kernel), List.mem_of_getElem? (i := 785) (by decide +kernel)⟩
theorem lw_p39 : lw_okq (⟨"CallForks$RingRule", "pop", "()I"⟩, 3) := ⟨⟨by decide +kernel, by decide +kernel⟩, List.mem_of_getElem? (i := 555) (by decide +kernel), List.mem_of_getElem? (i := 788) (by decide +kernel), List.mem_of_getElem? (i := 789) (by decide +kernel)⟩
theorem lw_p40 : lw_okq (⟨"CallForks$Exchange", "addLeg", "(II)I"⟩, 9) := ⟨⟨by decide +kernel, by decide +kernel⟩, List.mem_of_getElem? (i := 32) (by decide +kernel), List.mem_of_getElem? (i := 798) (by decide +kernel), List.mem_of_getElem? (i := 799) (by decide +kernel)⟩
theorem lw_p41 : lw_okq (⟨"CallForks$Exchange", "ringingCallOf", "(I)I"⟩, 9) := ⟨⟨by decide +kernel, by decide +kernel⟩, List.mem_of_getElem? (i := 32) (by decide +kernel), List.mem_of_getElem? (i := 833) (by decide +kernel), List.mem_of_getElem? (i := 834) (by decide +kernel)⟩
theorem lw_p42 : lw_okq (⟨"CallForks$Exchange", "planRepetition", "(III)V"⟩, 9) := ⟨⟨by decide +kernel, by decide +kernel⟩, List.mem_of_getElem? (i := 32) (by decide +kernel), List.mem_of_getElem? (i := 850) (by decide +kernel), List.mem_of_getElem? (i := 851) (by decide +kernel)⟩
theorem lw_p43 : lw_okq (⟨"CallForksModel", "fails", "(ZI)Z"⟩, 17) := ⟨⟨by decide +kernel, by decide +kernel⟩, List.mem_of_getElem? (i := 862) (by decide +kernel), List.mem_of_getElem? (i := 941) (by decide +kernel), List.mem_of_getElem? (i := 942) (by decide +kernel)⟩
theorem lw_p44 : lw_okq (⟨"CallForksModel", "takeWord", "(Ljava/lang/String;)Z"⟩, 17) := ⟨⟨by decide +kernel, by decide +kernel⟩, List.mem_of_getElem? (i := 862) (by decide +kernel), List.mem_of_getElem? (i := 946) (by decide +kernel), List.mem_of_getElem? (i := 947) (by decide +kernel)⟩
theorem lw_p45 : lw_okq (⟨"CallForksModel", "isGood", "()Z"⟩, 17) := ⟨⟨by decide +kernel, by decide +kernel⟩, List.mem_of_getElem? (i := 862) (by decide +kernel), List.mem_of_getElem? (i := 950) (by decide +kernel), List.mem_of_getElem? (i := 951) (by decide +kernel)⟩
theorem lw_p46 : lw_okq (⟨"CallForksModel", "next", "()I"⟩, 17) := ⟨⟨by decide +kernel, by decide +kernel⟩, List.mem_of_getElem? (i := 862) (by decide +kernel), List.mem_of_getElem? (i := 954) (by decide +kernel), List.mem_of_getElem? (i := 955) (by decide +kernel)⟩
theorem lw_p47 : lw_okq (⟨"CallForksModel", "byteAt", "(I)I"⟩, 17) := ⟨⟨by decide +kernel, by decide +kernel⟩, List.mem_of_getElem? (i := 862) (by decide +kernel), List.mem_of_getElem? (i := 958) (by decide +kernel), List.mem_of_getElem? (i := 959) (by decide +kernel)⟩
def lw_privs_3 : List (MethodName × Nat) := [(⟨"CallForks$Exchange", "dropOffers", "(I)V"⟩, 9), (⟨"CallForks$Exchange", "endRingingAt", "(II)I"⟩, 9), (⟨"CallForks$Exchange", "failCall", "(I)V"⟩, 9), (⟨"CallForks$Exchange", "resumeReferrer", "(I)V"⟩, 9), (⟨"CallForks$Exchange", "ringTime", "(III)I"⟩, 9), (⟨"CallForks$RingRule", "push", "(I)V"⟩, 3), (⟨"CallForks$RingRule", "operate", "(I)V"⟩, 3), (⟨"CallForks$RingRule", "pop", "()I"⟩, 3), (⟨"CallForks$Exchange", "addLeg", "(II)I"⟩, 9), (⟨"CallForks$Exchange", "ringingCallOf", "(I)I"⟩, 9), (⟨"CallForks$Exchange", "planRepetition", "(III)V"⟩, 9), (⟨"CallForksModel", "fails", "(ZI)Z"⟩, 17), (⟨"CallForksModel", "takeWord", "(Ljava/lang/String;)Z"⟩, 17), (⟨"CallForksModel", "isGood", "()Z"⟩, 17), (⟨"CallForksModel", "next", "()I"⟩, 17), (⟨"CallForksModel", "byteAt", "(I)I"⟩, 17)]
theorem lw_r3 : ∀ q ∈ lw_privs_3, lw_okq q := List.forall_mem_cons.mpr ⟨lw_p32, List.forall_mem_cons.mpr ⟨lw_p33, List.forall_mem_cons.mpr ⟨lw_p34, List.forall_mem_cons.mpr ⟨lw_p35, List.forall_mem_cons.mpr ⟨lw_p36, List.forall_mem_cons.mpr ⟨lw_p37, List.forall_mem_cons.mpr ⟨lw_p38, List.forall_mem_cons.mpr ⟨lw_p39, List.forall_mem_cons.mpr ⟨lw_p40, List.forall_mem_cons.mpr ⟨lw_p41, List.forall_mem_cons.mpr ⟨lw_p42, List.forall_mem_cons.mpr ⟨lw_p43, List.forall_mem_cons.mpr ⟨lw_p44, List.forall_mem_cons.mpr ⟨lw_p45, List.forall_mem_cons.mpr ⟨lw_p46, List.forall_mem_cons.mpr ⟨lw_p47, fun _ h => absurd h List.not_mem_nil⟩⟩⟩⟩⟩⟩⟩⟩⟩⟩⟩⟩⟩⟩⟩⟩
theorem lw_p48 : lw_okq (⟨"CallForksModel", "report", "(II)V"⟩, 17) := ⟨⟨by decide +kernel, by decide +kernel⟩, List.mem_of_getElem? (i := 862) (by decide +kernel), List.mem_of_getElem? (i := 964) (by decide +kernel), List.mem_of_getElem? (i := 965) (by decide +kernel)⟩
theorem lw_p49 : lw_okq (⟨"CallForksModel", "expect", "(I)V"⟩, 17) := ⟨⟨by decide +kernel, by decide +kernel⟩, List.mem_of_getElem? (i := 862) (by decide +kernel), List.mem_of_getElem? (i := 968) (by decide +kernel), List.mem_of_getElem? (i := 969) (by decide +kernel)⟩
theorem lw_p50 : lw_okq (⟨"CallForksModel", "statement", "()V"⟩, 17) := ⟨⟨by decide +kernel, by decide +kernel⟩, List.mem_of_getElem? (i := 862) (by decide +kernel), List.mem_of_getElem? (i := 972) (by decide +kernel), List.mem_of_getElem? (i := 973) (by decide +kernel)⟩
theorem lw_p51 : lw_okq (⟨"CallForksModel", "readParty", "(I)V"⟩, 17) := ⟨⟨by decide +kernel, by decide +kernel⟩, List.mem_of_getElem? (i := 862) (by decide +kernel), List.mem_of_getElem? (i := 977) (by decide +kernel), List.mem_of_getElem? (i := 978) (by decide +kernel)⟩
theorem lw_p52 : lw_okq (⟨"CallForksModel", "number", "(II)I"⟩, 17) := ⟨⟨by decide +kernel, by decide +kernel⟩, List.mem_of_getElem? (i := 862) (by decide +kernel), List.mem_of_getElem? (i := 981) (by decide +kernel), List.mem_of_getElem? (i := 982) (by decide +kernel)⟩
theorem lw_p53 : lw_okq (⟨"CallForksModel", "once", "(II)V"⟩, 17) := ⟨⟨by decide +kernel, by decide +kernel⟩, List.mem_of_getElem? (i := 862) (by decide +kernel), List.mem_of_getElem? (i := 993) (by decide +kernel), List.mem_of_getElem? (i := 994) (by decide +kernel)⟩
theorem lw_p54 : lw_okq (⟨"CallForksModel", "sum", "()V"⟩, 17) := ⟨⟨by decide +kernel, by decide +kernel⟩, List.mem_of_getElem? (i := 862) (by decide +kernel), List.mem_of_getElem? (i := 999) (by decide +kernel), List.mem_of_getElem? (i := 1000) (by decide +kernel)⟩
theorem lw_p55 : lw_okq (⟨"CallForksModel", "term", "()V"⟩, 17) := ⟨⟨by decide +kernel, by decide +kernel⟩, List.mem_of_getElem? (i := 862) (by decide +kernel), List.mem_of_getElem? (i := 1003) (by decide +kernel), List.mem_of_getElem? (i := 1004) (by decide +kernel)⟩
theorem lw_p56 : lw_okq (⟨"CallForksModel", "factor", "()V"⟩, 17) := ⟨⟨by decide +kernel, by decide +kernel⟩, List.mem_of_getElem? (i := 862) (by decide +kernel), List.mem_of_getElem? (i := 1007) (by decide +kernel), List.mem_of_getElem? (i := 1008) (by decide +kernel)⟩
theorem lw_p57 : lw_okq (⟨"CallForksModel", "emit", "(I)V"⟩, 17) := ⟨⟨by decide +kernel, by decide +kernel⟩, List.mem_of_getElem? (i := 862) (by decide +kernel), List.mem_of_getElem? (i := 1015) (by decide +kernel), List.mem_of_getElem? (i := 1016) (by decide +kernel)⟩
theorem lw_p58 : lw_okq (⟨"CallForksModel", "remember", "()V"⟩, 17) := ⟨⟨by decide +kernel, by decide +kernel⟩, List.mem_of_getElem? (i := 862) (by decide +kernel), List.mem_of_getElem? (i := 1019) (by decide +kernel), List.mem_of_getElem? (i := 1020) (by decide +kernel)⟩
theorem lw_p59 : lw_okq (⟨"CallForksModel", "noWhat", "(III)Z"⟩, 17) := ⟨⟨by decide +kernel, by decide +kernel⟩, List.mem_of_getElem? (i := 862) (by decide +kernel), List.mem_of_getElem? (i := 1038) (by decide +kernel), List.mem_of_getElem? (i := 1039) (by decide +kernel)⟩
theorem lw_p60 : lw_okq (⟨"CallForksModel", "countOf", "(I)I"⟩, 17) := ⟨⟨by decide +kernel, by decide +kernel⟩, List.mem_of_getElem? (i := 862) (by decide +kernel), List.mem_of_getElem? (i := 1042) (by decide +kernel), List.mem_of_getElem? (i := 1043) (by decide +kernel)⟩
theorem lw_p61 : lw_okq (⟨"CallForksModel", "is", "(II)Z"⟩, 17) := ⟨⟨by decide +kernel, by decide +kernel⟩, List.mem_of_getElem? (i := 862) (by decide +kernel), List.mem_of_getElem? (i := 1046) (by decide +kernel), List.mem_of_getElem? (i := 1047) (by decide +kernel)⟩
theorem lw_p62 : lw_okq (⟨"CallForksModel", "ofLeg", "(II)I"⟩, 17) := ⟨⟨by decide +kernel, by decide +kernel⟩, List.mem_of_getElem? (i := 862) (by decide +kernel), List.mem_of_getElem? (i := 1050) (by decide +kernel), List.mem_of_getElem? (i := 1051) (by decide +kernel)⟩
theorem lw_p63 : lw_okq (⟨"CallForksModel", "noParty", "(I)Z"⟩, 17) := ⟨⟨by decide +kernel, by decide +kernel⟩, List.mem_of_getElem? (i := 862) (by decide +kernel), List.mem_of_getElem? (i := 1061) (by decide +kernel), List.mem_of_getElem? (i := 1062) (by decide +kernel)⟩
def lw_privs_4 : List (MethodName × Nat) := [(⟨"CallForksModel", "report", "(II)V"⟩, 17), (⟨"CallForksModel", "expect", "(I)V"⟩, 17), (⟨"CallForksModel", "statement", "()V"⟩, 17), (⟨"CallForksModel", "readParty", "(I)V"⟩, 17), (⟨"CallForksModel", "number", "(II)I"⟩, 17), (⟨"CallForksModel", "once", "(II)V"⟩, 17), (⟨"CallForksModel", "sum", "()V"⟩, 17), (⟨"CallForksModel", "term", "()V"⟩, 17), (⟨"CallForksModel", "factor", "()V"⟩, 17), (⟨"CallForksModel", "emit", "(I)V"⟩, 17), (⟨"CallForksModel", "remember", "()V"⟩, 17), (⟨"CallForksModel", "noWhat", "(III)Z"⟩, 17), (⟨"CallForksModel", "countOf", "(I)I"⟩, 17), (⟨"CallForksModel", "is", "(II)Z"⟩, 17), (⟨"CallForksModel", "ofLeg", "(II)I"⟩, 17), (⟨"CallForksModel", "noParty", "(I)Z"⟩, 17)]
theorem lw_r4 : ∀ q ∈ lw_privs_4, lw_okq q := List.forall_mem_cons.mpr ⟨lw_p48, List.forall_mem_cons.mpr ⟨lw_p49, List.forall_mem_cons.mpr ⟨lw_p50, List.forall_mem_cons.mpr ⟨lw_p51, List.forall_mem_cons.mpr ⟨lw_p52, List.forall_mem_cons.mpr ⟨lw_p53, List.forall_mem_cons.mpr ⟨lw_p54, List.forall_mem_cons.mpr ⟨lw_p55, List.forall_mem_cons.mpr ⟨lw_p56, List.forall_mem_cons.mpr ⟨lw_p57, List.forall_mem_cons.mpr ⟨lw_p58, List.forall_mem_cons.mpr ⟨lw_p59, List.forall_mem_cons.mpr ⟨lw_p60, List.forall_mem_cons.mpr ⟨lw_p61, List.forall_mem_cons.mpr ⟨lw_p62, List.forall_mem_cons.mpr ⟨lw_p63, fun _ h => absurd h List.not_mem_nil⟩⟩⟩⟩⟩⟩⟩⟩⟩⟩⟩⟩⟩⟩⟩⟩
theorem lw_p64 : lw_okq (⟨"CallForksModel", "tellParty", "(II)I"⟩, 17) := ⟨⟨by decide +kernel, by decide +kernel⟩, List.mem_of_getElem? (i := 862) (by decide +kernel), List.mem_of_getElem? (i := 1065) (by decide +kernel), List.mem_of_getElem? (i := 1066) (by decide +kernel)⟩
theorem lw_p65 : lw_okq (⟨"CallForksModel", "ofParty", "(II)I"⟩, 17) := ⟨⟨by decide +kernel, by decide +kernel⟩, List.mem_of_getElem? (i := 862) (by decide +kernel), List.mem_of_getElem? (i := 1069) (by decide +kernel), List.mem_of_getElem? (i := 1070) (by decide +kernel)⟩
theorem lw_p66 : lw_okq (⟨"CallForksModel", "isEngaged", "(I)Z"⟩, 17) := ⟨⟨by decide +kernel, by decide +kernel⟩, List.mem_of_getElem? (i := 862) (by decide +kernel), List.mem_of_getElem? (i := 1073) (by decide +kernel), List.mem_of_getElem? (i := 1074) (by decide +kernel)⟩
theorem lw_p67 : lw_okq (⟨"CallForksModel", "legWith", "(II)I"⟩, 17) := ⟨⟨by decide +kernel, by decide +kernel⟩, List.mem_of_getElem? (i := 862) (by decide +kernel), List.mem_of_getElem? (i := 1077) (by decide +kernel), List.mem_of_getElem? (i := 1078) (by decide +kernel)⟩
theorem lw_p68 : lw_okq (⟨"CallForksModel", "isIn", "(II)Z"⟩, 17) := ⟨⟨by decide +kernel, by decide +kernel⟩, List.mem_of_getElem? (i := 862) (by decide +kernel), List.mem_of_getElem? (i := 1081) (by decide +kernel), List.mem_of_getElem? (i := 1082) (by decide +kernel)⟩
theorem lw_p69 : lw_okq (⟨"CallForksModel", "callerOf", "(I)I"⟩, 17) := ⟨⟨by decide +kernel, by decide +kernel⟩, List.mem_of_getElem? (i := 862) (by decide +kernel), List.mem_of_getElem? (i := 1085) (by decide +kernel), List.mem_of_getElem? (i := 1086) (by decide +kernel)⟩
theorem lw_p70 : lw_okq (⟨"CallForksModel", "ofCall", "(II)I"⟩, 17) := ⟨⟨by decide +kernel, by decide +kernel⟩, List.mem_of_getElem? (i := 862) (by decide +kernel), List.mem_of_getElem? (i := 1089) (by decide +kernel), List.mem_of_getElem? (i := 1090) (by decide +kernel)⟩
theorem lw_p71 : lw_okq (⟨"CallForksModel", "ringingOf", "(I)I"⟩, 17) := ⟨⟨by decide +kernel, by decide +kernel⟩, List.mem_of_getElem? (i := 862) (by decide +kernel), List.mem_of_getElem? (i := 1096) (by decide +kernel), List.mem_of_getElem? (i := 1097) (by decide +kernel)⟩
theorem lw_p72 : lw_okq (⟨"CallForksModel", "rings", "(I)Z"⟩, 17) := ⟨⟨by decide +kernel, by decide +kernel⟩, List.mem_of_getElem? (i := 862) (by decide +kernel), List.mem_of_getElem? (i := 1100) (by decide +kernel), List.mem_of_getElem? (i := 1101) (by decide +kernel)⟩
theorem lw_p73 : lw_okq (⟨"CallForksModel", "rungAt", "(I)I"⟩, 17) := ⟨⟨by decide +kernel, by decide +kernel⟩, List.mem_of_getElem? (i := 862) (by decide +kernel), List.mem_of_getElem? (i := 1104) (by decide +kernel), List.mem_of_getElem? (i := 1105) (by decide +kernel)⟩
theorem lw_p74 : lw_okq (⟨"CallForksModel", "noCall", "(I)Z"⟩, 17) := ⟨⟨by decide +kernel, by decide +kernel⟩, List.mem_of_getElem? (i := 862) (by decide +kernel), List.mem_of_getElem? (i := 1112) (by decide +kernel), List.mem_of_getElem? (i := 1113) (by decide +kernel)⟩
theorem lw_p75 : lw_okq (⟨"CallForksModel", "tellCall", "(II)I"⟩, 17) := ⟨⟨by decide +kernel, by decide +kernel⟩, List.mem_of_getElem? (i := 862) (by decide +kernel), List.mem_of_getElem? (i := 1116) (by decide +kernel), List.mem_of_getElem? (i := 1117) (by decide +kernel)⟩
theorem lw_p76 : lw_okq (⟨"CallForksModel", "noLeg", "(I)Z"⟩, 17) := ⟨⟨by decide +kernel, by decide +kernel⟩, List.mem_of_getElem? (i := 862) (by decide +kernel), List.mem_of_getElem? (i := 1124) (by decide +kernel), List.mem_of_getElem? (i := 1125) (by decide +kernel)⟩
theorem lw_p77 : lw_okq (⟨"CallForksModel", "settle", "(I)I"⟩, 17) := ⟨⟨by decide +kernel, by decide +kernel⟩, List.mem_of_getElem? (i := 862) (by decide +kernel), List.mem_of_getElem? (i := 1144) (by decide +kernel), List.mem_of_getElem? (i := 1145) (by decide +kernel)⟩
theorem lw_p78 : lw_okq (⟨"CallForksModel", "second", "()V"⟩, 17) := ⟨⟨by decide +kernel, by decide +kernel⟩, List.mem_of_getElem? (i := 862) (by decide +kernel), List.mem_of_getElem? (i := 1148) (by decide +kernel), List.mem_of_getElem? (i := 1149) (by decide +kernel)⟩
theorem lw_p79 : lw_okq (⟨"CallForksModel", "repeat", "(II)V"⟩, 17) := ⟨⟨by decide +kernel, by decide +kernel⟩, List.mem_of_getElem? (i := 862) (by decide +kernel), List.mem_of_getElem? (i := 1152) (by decide +kernel), List.mem_of_getElem? (i := 1153) (by decide +kernel)⟩
def lw_privs_5 : List (MethodName × Nat) := [(⟨"CallForksModel", "tellParty", "(II)I"⟩, 17), (⟨"CallForksModel", "ofParty", "(II)I"⟩, 17), (⟨"CallForksModel", "isEngaged", "(I)Z"⟩, 17), (⟨"CallForksModel", "legWith", "(II)I"⟩, 17), (⟨"CallForksModel", "isIn", "(II)Z"⟩, 17), (⟨"CallForksModel", "callerOf", "(I)I"⟩, 17), (⟨"CallForksModel", "ofCall", "(II)I"⟩, 17), (⟨"CallForksModel", "ringingOf", "(I)I"⟩, 17), (⟨"CallForksModel", "rings", "(I)Z"⟩, 17), (⟨"CallForksModel", "rungAt", "(I)I"⟩, 17), (⟨"CallForksModel", "noCall", "(I)Z"⟩, 17), (⟨"CallForksModel", "tellCall", "(II)I"⟩, 17), (⟨"CallForksModel", "noLeg", "(I)Z"⟩, 17), (⟨"CallForksModel", "settle", "(I)I"⟩, 17), (⟨"CallForksModel", "second", "()V"⟩, 17), (⟨"CallForksModel", "repeat", "(II)V"⟩, 17)]
theorem lw_r5 : ∀ q ∈ lw_privs_5, lw_okq q := List.forall_mem_cons.mpr ⟨lw_p64, List.forall_mem_cons.mpr ⟨lw_p65, List.forall_mem_cons.mpr ⟨lw_p66, List.forall_mem_cons.mpr ⟨lw_p67, List.forall_mem_cons.mpr ⟨lw_p68, List.forall_mem_cons.mpr ⟨lw_p69, List.forall_mem_cons.mpr ⟨lw_p70, List.forall_mem_cons.mpr ⟨lw_p71, List.forall_mem_cons.mpr ⟨lw_p72, List.forall_mem_cons.mpr ⟨lw_p73, List.forall_mem_cons.mpr ⟨lw_p74, List.forall_mem_cons.mpr ⟨lw_p75, List.forall_mem_cons.mpr ⟨lw_p76, List.forall_mem_cons.mpr ⟨lw_p77, List.forall_mem_cons.mpr ⟨lw_p78, List.forall_mem_cons.mpr ⟨lw_p79, fun _ h => absurd h List.not_mem_nil⟩⟩⟩⟩⟩⟩⟩⟩⟩⟩⟩⟩⟩⟩⟩⟩
theorem lw_p80 : lw_okq (⟨"CallForksModel", "adds", "(I)V"⟩, 17) := ⟨⟨by decide +kernel, by decide +kernel⟩, List.mem_of_getElem? (i := 862) (by decide +kernel), List.mem_of_getElem? (i := 1156) (by decide +kernel), List.mem_of_getElem? (i := 1157) (by decide +kernel)⟩
theorem lw_p81 : lw_okq (⟨"CallForksModel", "layOffer", "(III)V"⟩, 17) := ⟨⟨by decide +kernel, by decide +kernel⟩, List.mem_of_getElem? (i := 862) (by decide +kernel), List.mem_of_getElem? (i := 1160) (by decide +kernel), List.mem_of_getElem? (i := 1161) (by decide +kernel)⟩
theorem lw_p82 : lw_okq (⟨"CallForksModel", "reply", "(I)V"⟩, 17) := ⟨⟨by decide +kernel, by decide +kernel⟩, List.mem_of_getElem? (i := 862) (by decide +kernel), List.mem_of_getElem? (i := 1164) (by decide +kernel), List.mem_of_getElem? (i := 1165) (by decide +kernel)⟩
theorem lw_p83 : lw_okq (⟨"CallForksModel", "partyOn", "(II)I"⟩, 17) := ⟨⟨by decide +kernel, by decide +kernel⟩, List.mem_of_getElem? (i := 862) (by decide +kernel), List.mem_of_getElem? (i := 1168) (by decide +kernel), List.mem_of_getElem? (i := 1169) (by decide +kernel)⟩
theorem lw_p84 : lw_okq (⟨"CallForksModel", "mayAnswer", "(I)V"⟩, 17) := ⟨⟨by decide +kernel, by decide +kernel⟩, List.mem_of_getElem? (i := 862) (by decide +kernel), List.mem_of_getElem? (i := 1172) (by decide +kernel), List.mem_of_getElem? (i := 1173) (by decide +kernel)⟩
theorem lw_p85 : lw_okq (⟨"CallForksModel", "answer", "(I)V"⟩, 17) := ⟨⟨by decide +kernel, by decide +kernel⟩, List.mem_of_getElem? (i := 862) (by decide +kernel), List.mem_of_getElem? (i := 1176) (by decide +kernel), List.mem_of_getElem? (i := 1177) (by decide +kernel)⟩
theorem lw_p86 : lw_okq (⟨"CallForksModel", "endAll", "(III)V"⟩, 17) := ⟨⟨by decide +kernel, by decide +kernel⟩, List.mem_of_getElem? (i := 862) (by decide +kernel), List.mem_of_getElem? (i := 1180) (by decide +kernel), List.mem_of_getElem? (i := 1181) (by decide +kernel)⟩
theorem lw_p87 : lw_okq (⟨"CallForksModel", "end", "(II)V"⟩, 17) := ⟨⟨by decide +kernel, by decide +kernel⟩, List.mem_of_getElem? (i := 862) (by decide +kernel), List.mem_of_getElem? (i := 1184) (by decide +kernel), List.mem_of_getElem? (i := 1185) (by decide +kernel)⟩
theorem lw_p88 : lw_okq (⟨"CallForksModel", "withoutOffers", "(I)V"⟩, 17) := ⟨⟨by decide +kernel, by decide +kernel⟩, List.mem_of_getElem? (i := 862) (by decide +kernel), List.mem_of_getElem? (i := 1188) (by decide +kernel), List.mem_of_getElem? (i := 1189) (by decide +kernel)⟩
theorem lw_p89 : lw_okq (⟨"CallForksModel", "endAllTo", "(II)V"⟩, 17) := ⟨⟨by decide +kernel, by decide +kernel⟩, List.mem_of_getElem? (i := 862) (by decide +kernel), List.mem_of_getElem? (i := 1192) (by decide +kernel), List.mem_of_getElem? (i := 1193) (by decide +kernel)⟩
theorem lw_p90 : lw_okq (⟨"CallForksModel", "failCall", "(I)V"⟩, 17) := ⟨⟨by decide +kernel, by decide +kernel⟩, List.mem_of_getElem? (i := 862) (by decide +kernel), List.mem_of_getElem? (i := 1196) (by decide +kernel), List.mem_of_getElem? (i := 1197) (by decide +kernel)⟩
theorem lw_p91 : lw_okq (⟨"CallForksModel", "takeBack", "(I)V"⟩, 17) := ⟨⟨by decide +kernel, by decide +kernel⟩, List.mem_of_getElem? (i := 862) (by decide +kernel), List.mem_of_getElem? (i := 1200) (by decide +kernel), List.mem_of_getElem? (i := 1201) (by decide +kernel)⟩
theorem lw_p92 : lw_okq (⟨"CallForksModel", "beginCall", "(III)I"⟩, 17) := ⟨⟨by decide +kernel, by decide +kernel⟩, List.mem_of_getElem? (i := 862) (by decide +kernel), List.mem_of_getElem? (i := 1216) (by decide +kernel), List.mem_of_getElem? (i := 1217) (by decide +kernel)⟩
theorem lw_p93 : lw_okq (⟨"CallForksModel", "ringTime", "(III)I"⟩, 17) := ⟨⟨by decide +kernel, by decide +kernel⟩, List.mem_of_getElem? (i := 862) (by decide +kernel), List.mem_of_getElem? (i := 1220) (by decide +kernel), List.mem_of_getElem? (i := 1221) (by decide +kernel)⟩
theorem lw_p94 : lw_okq (⟨"CallForksModel", "makeLeg", "(II)V"⟩, 17) := ⟨⟨by decide +kernel, by decide +kernel⟩, List.mem_of_getElem? (i := 862) (by decide +kernel), List.mem_of_getElem? (i := 1234) (by decide +kernel), List.mem_of_getElem? (i := 1235) (by decide +kernel)⟩
def lw_privs_6 : List (MethodName × Nat) := [(⟨"CallForksModel", "adds", "(I)V"⟩, 17), (⟨"CallForksModel", "layOffer", "(III)V"⟩, 17), (⟨"CallForksModel", "reply", "(I)V"⟩, 17), (⟨"CallForksModel", "partyOn", "(II)I"⟩, 17), (⟨"CallForksModel", "mayAnswer", "(I)V"⟩, 17), (⟨"CallForksModel", "answer", "(I)V"⟩, 17), (⟨"CallForksModel", "endAll", "(III)V"⟩, 17), (⟨"CallForksModel", "end", "(II)V"⟩, 17), (⟨"CallForksModel", "withoutOffers", "(I)V"⟩, 17), (⟨"CallForksModel", "endAllTo", "(II)V"⟩, 17), (⟨"CallForksModel", "failCall", "(I)V"⟩, 17), (⟨"CallForksModel", "takeBack", "(I)V"⟩, 17), (⟨"CallForksModel", "beginCall", "(III)I"⟩, 17), (⟨"CallForksModel", "ringTime", "(III)I"⟩, 17), (⟨"CallForksModel", "makeLeg", "(II)V"⟩, 17)]
theorem lw_r6 : ∀ q ∈ lw_privs_6, lw_okq q := List.forall_mem_cons.mpr ⟨lw_p80, List.forall_mem_cons.mpr ⟨lw_p81, List.forall_mem_cons.mpr ⟨lw_p82, List.forall_mem_cons.mpr ⟨lw_p83, List.forall_mem_cons.mpr ⟨lw_p84, List.forall_mem_cons.mpr ⟨lw_p85, List.forall_mem_cons.mpr ⟨lw_p86, List.forall_mem_cons.mpr ⟨lw_p87, List.forall_mem_cons.mpr ⟨lw_p88, List.forall_mem_cons.mpr ⟨lw_p89, List.forall_mem_cons.mpr ⟨lw_p90, List.forall_mem_cons.mpr ⟨lw_p91, List.forall_mem_cons.mpr ⟨lw_p92, List.forall_mem_cons.mpr ⟨lw_p93, List.forall_mem_cons.mpr ⟨lw_p94, fun _ h => absurd h List.not_mem_nil⟩⟩⟩⟩⟩⟩⟩⟩⟩⟩⟩⟩⟩⟩⟩
def lw_privs : List (MethodName × Nat) := lw_privs_1 ++ (lw_privs_2 ++ (lw_privs_3 ++ (lw_privs_4 ++ (lw_privs_5 ++ (lw_privs_6)))))
def lw_tbl : List Cond := k2_sels lw_privs ++ tables_1
theorem lw_privs_ok : ∀ q ∈ lw_privs, lw_okq q := by
  show ∀ q ∈ lw_privs_1 ++ (lw_privs_2 ++ (lw_privs_3 ++ (lw_privs_4 ++ (lw_privs_5 ++ (lw_privs_6))))), lw_okq q
  exact List.forall_mem_append.mpr ⟨lw_r1, List.forall_mem_append.mpr ⟨lw_r2, List.forall_mem_append.mpr ⟨lw_r3, List.forall_mem_append.mpr ⟨lw_r4, List.forall_mem_append.mpr ⟨lw_r5, lw_r6⟩⟩⟩⟩⟩
def RX0 : String := "CallForks$Exchange"
def TX0 : u_T := fun k => match k with
  | 0 => ("CallForks$Exchange", "parties", "LCallForks$Table;", true)
  | 1 => ("CallForks$Exchange", "calls", "LCallForks$Table;", true)
  | 2 => ("CallForks$Exchange", "legs", "LCallForks$Table;", true)
  | 3 => ("CallForks$Exchange", "totals", "LCallForks$Table;", true)
  | 4 => ("CallForks$Exchange", "ring", "LCallForks$RingRule;", false)
  | 5 => ("CallForks$Exchange", "time", "I", false)
  | 6 => ("CallForks$Exchange", "callerWait", "I", false)
  | 7 => ("CallForks$Exchange", "calleeWait", "I", false)
  | _ => ("CallForks$Exchange", "patience", "I", false)
def tyX0 : Nat → FieldType := fun k => match k with
  | 0 => .object "CallForks$Table"
  | 1 => .object "CallForks$Table"
  | 2 => .object "CallForks$Table"
  | 3 => .object "CallForks$Table"
  | 4 => .object "CallForks$RingRule"
  | 5 => .int
  | 6 => .int
  | 7 => .int
  | _ => .int
abbrev wsX00 : List Cond := u_ws RX0 TX0 9
theorem nmX0 : ∀ a, a < 9 → ∀ b, b < 9 → a ≠ b → (TX0 a).2.1 ≠ (TX0 b).2.1 := by decide +kernel
theorem tyX0_ok : ∀ k, k < 9 → parseFieldDescriptor (TX0 k).2.2.1 = some (tyX0 k) := by decide +kernel
abbrev cX0_init : ByteArray := prog_2_method_1_code
def yX0_init : MethodName := ⟨RX0, "<init>", "()V"⟩
abbrev cX0_clear : ByteArray := prog_2_method_2_code
def yX0_clear : MethodName := ⟨RX0, "clear", "()V"⟩
abbrev cX0_copyFrom : ByteArray := prog_2_method_3_code
def yX0_copyFrom : MethodName := ⟨RX0, "copyFrom", "(LCallForks$Exchange;)V"⟩
abbrev cX0_addParty : ByteArray := prog_2_method_4_code
def yX0_addParty : MethodName := ⟨RX0, "addParty", "(III)V"⟩
abbrev cX0_legsInState : ByteArray := prog_2_method_5_code
def yX0_legsInState : MethodName := ⟨RX0, "legsInState", "(I)I"⟩
abbrev cX0_legsRingingAt : ByteArray := prog_2_method_6_code
def yX0_legsRingingAt : MethodName := ⟨RX0, "legsRingingAt", "(I)I"⟩
abbrev cX0_hasRoomFor : ByteArray := prog_2_method_7_code
def yX0_hasRoomFor : MethodName := ⟨RX0, "hasRoomFor", "(I)Z"⟩
abbrev cX0_isEngaged : ByteArray := prog_2_method_8_code
def yX0_isEngaged : MethodName := ⟨RX0, "isEngaged", "(I)Z"⟩
abbrev cX0_legOf : ByteArray := prog_2_method_9_code
def yX0_legOf : MethodName := ⟨RX0, "legOf", "(II)I"⟩
abbrev cX0_isIn : ByteArray := prog_2_method_10_code
def yX0_isIn : MethodName := ⟨RX0, "isIn", "(II)Z"⟩
abbrev cX0_sideOf : ByteArray := prog_2_method_11_code
def yX0_sideOf : MethodName := ⟨RX0, "sideOf", "(II)I"⟩
abbrev cX0_rings : ByteArray := prog_2_method_12_code
def yX0_rings : MethodName := ⟨RX0, "rings", "(I)Z"⟩
abbrev cX0_beginCall : ByteArray := prog_2_method_13_code
def yX0_beginCall : MethodName := ⟨RX0, "beginCall", "(III)I"⟩
abbrev cX0_referOtherParty : ByteArray := prog_2_method_14_code
def yX0_referOtherParty : MethodName := ⟨RX0, "referOtherParty", "(III)I"⟩
abbrev cX0_leave : ByteArray := prog_2_method_15_code
def yX0_leave : MethodName := ⟨RX0, "leave", "(I)I"⟩
abbrev cX0_makeOffer : ByteArray := prog_2_method_16_code
def yX0_makeOffer : MethodName := ⟨RX0, "makeOffer", "(III)I"⟩
abbrev cX0_passSecond : ByteArray := prog_2_method_17_code
def yX0_passSecond : MethodName := ⟨RX0, "passSecond", "()V"⟩
abbrev cX0_ringTime : ByteArray := prog_2_method_18_code
def yX0_ringTime : MethodName := ⟨RX0, "ringTime", "(III)I"⟩
abbrev cX0_callerOf : ByteArray := prog_2_method_19_code
def yX0_callerOf : MethodName := ⟨RX0, "callerOf", "(I)I"⟩
abbrev cX0_partyOn : ByteArray := prog_2_method_20_code
def yX0_partyOn : MethodName := ⟨RX0, "partyOn", "(II)I"⟩
abbrev cX0_ringsAt : ByteArray := prog_2_method_21_code
def yX0_ringsAt : MethodName := ⟨RX0, "ringsAt", "(II)Z"⟩
abbrev cX0_ringingCallOf : ByteArray := prog_2_method_22_code
def yX0_ringingCallOf : MethodName := ⟨RX0, "ringingCallOf", "(I)I"⟩
abbrev cX0_addLeg : ByteArray := prog_2_method_23_code
def yX0_addLeg : MethodName := ⟨RX0, "addLeg", "(II)I"⟩
abbrev cX0_endLeg : ByteArray := prog_2_method_24_code
def yX0_endLeg : MethodName := ⟨RX0, "endLeg", "(II)V"⟩
abbrev cX0_endRinging : ByteArray := prog_2_method_25_code
def yX0_endRinging : MethodName := ⟨RX0, "endRinging", "(II)V"⟩
abbrev cX0_endRingingAt : ByteArray := prog_2_method_26_code
def yX0_endRingingAt : MethodName := ⟨RX0, "endRingingAt", "(II)I"⟩
abbrev cX0_failCall : ByteArray := prog_2_method_27_code
def yX0_failCall : MethodName := ⟨RX0, "failCall", "(I)V"⟩
abbrev cX0_resumeReferrer : ByteArray := prog_2_method_28_code
def yX0_resumeReferrer : MethodName := ⟨RX0, "resumeReferrer", "(I)V"⟩
abbrev cX0_isAnsweredNow : ByteArray := prog_2_method_29_code
def yX0_isAnsweredNow : MethodName := ⟨RX0, "isAnsweredNow", "(I)Z"⟩
abbrev cX0_answer : ByteArray := prog_2_method_30_code
def yX0_answer : MethodName := ⟨RX0, "answer", "(I)V"⟩
abbrev cX0_setOffer : ByteArray := prog_2_method_31_code
def yX0_setOffer : MethodName := ⟨RX0, "setOffer", "(III)V"⟩
abbrev cX0_planRepetition : ByteArray := prog_2_method_32_code
def yX0_planRepetition : MethodName := ⟨RX0, "planRepetition", "(III)V"⟩
abbrev cX0_dropOffers : ByteArray := prog_2_method_33_code
def yX0_dropOffers : MethodName := ⟨RX0, "dropOffers", "(I)V"⟩
abbrev cX0_repeatOffer : ByteArray := prog_2_method_34_code
def yX0_repeatOffer : MethodName := ⟨RX0, "repeatOffer", "(II)V"⟩
abbrev cX0_settleOffer : ByteArray := prog_2_method_35_code
def yX0_settleOffer : MethodName := ⟨RX0, "settleOffer", "(I)V"⟩
abbrev cX0_tally : ByteArray := prog_2_method_36_code
def yX0_tally : MethodName := ⟨RX0, "tally", "(I)V"⟩
def RX1 : String := "CallForks$History"
def TX1 : u_T := fun k => match k with
  | 0 => ("CallForks$History", "saved", "[LCallForks$Exchange;", true)
  | 1 => ("CallForks$History", "next", "I", false)
  | _ => ("CallForks$History", "undoable", "I", false)
def tyX1 : Nat → FieldType := fun k => match k with
  | 0 => .array (.object "CallForks$Exchange")
  | 1 => .int
  | _ => .int
abbrev wsX10 : List Cond := u_ws RX1 TX1 3
theorem nmX1 : ∀ a, a < 3 → ∀ b, b < 3 → a ≠ b → (TX1 a).2.1 ≠ (TX1 b).2.1 := by decide +kernel
theorem tyX1_ok : ∀ k, k < 3 → parseFieldDescriptor (TX1 k).2.2.1 = some (tyX1 k) := by decide +kernel
abbrev cX1_init : ByteArray := prog_3_method_1_code
def yX1_init : MethodName := ⟨RX1, "<init>", "()V"⟩
abbrev cX1_push : ByteArray := prog_3_method_2_code
def yX1_push : MethodName := ⟨RX1, "push", "(LCallForks$Exchange;)V"⟩
abbrev cX1_popInto : ByteArray := prog_3_method_3_code
def yX1_popInto : MethodName := ⟨RX1, "popInto", "(LCallForks$Exchange;)I"⟩
def RX2 : String := "CallForks$RingRule"
def TX2 : u_T := fun k => match k with
  | 0 => ("CallForks$RingRule", "codes", "[I", true)
  | 1 => ("CallForks$RingRule", "values", "[I", true)
  | _ => ("CallForks$RingRule", "height", "I", false)
def tyX2 : Nat → FieldType := fun k => match k with
  | 0 => .array .int
  | 1 => .array .int
  | _ => .int
abbrev wsX20 : List Cond := u_ws RX2 TX2 3
theorem nmX2 : ∀ a, a < 3 → ∀ b, b < 3 → a ≠ b → (TX2 a).2.1 ≠ (TX2 b).2.1 := by decide +kernel
theorem tyX2_ok : ∀ k, k < 3 → parseFieldDescriptor (TX2 k).2.2.1 = some (tyX2 k) := by decide +kernel
abbrev cX2_init : ByteArray := prog_4_method_1_code
def yX2_init : MethodName := ⟨RX2, "<init>", "([I)V"⟩
abbrev cX2_valueFor : ByteArray := prog_4_method_2_code
def yX2_valueFor : MethodName := ⟨RX2, "valueFor", "(IIII)I"⟩
abbrev cX2_push : ByteArray := prog_4_method_3_code
def yX2_push : MethodName := ⟨RX2, "push", "(I)V"⟩
abbrev cX2_pop : ByteArray := prog_4_method_4_code
def yX2_pop : MethodName := ⟨RX2, "pop", "()I"⟩
abbrev cX2_operate : ByteArray := prog_4_method_5_code
def yX2_operate : MethodName := ⟨RX2, "operate", "(I)V"⟩
def RX3 : String := "CallForks$SetupReader"
def TX3 : u_T := fun k => match k with
  | 0 => ("CallForks$SetupReader", "text", "[B", true)
  | 1 => ("CallForks$SetupReader", "bytesAdded", "I", false)
  | 2 => ("CallForks$SetupReader", "setup", "LCallForks$Exchange;", true)
  | 3 => ("CallForks$SetupReader", "codes", "[I", true)
  | 4 => ("CallForks$SetupReader", "codeCount", "I", false)
  | 5 => ("CallForks$SetupReader", "length", "I", false)
  | 6 => ("CallForks$SetupReader", "position", "I", false)
  | 7 => ("CallForks$SetupReader", "token", "I", false)
  | 8 => ("CallForks$SetupReader", "tokenStart", "I", false)
  | 9 => ("CallForks$SetupReader", "tokenValue", "I", false)
  | 10 => ("CallForks$SetupReader", "waitSeen", "Z", false)
  | 11 => ("CallForks$SetupReader", "patienceSeen", "Z", false)
  | 12 => ("CallForks$SetupReader", "ringSeen", "Z", false)
  | 13 => ("CallForks$SetupReader", "error", "I", false)
  | _ => ("CallForks$SetupReader", "errorOffset", "I", false)
def tyX3 : Nat → FieldType := fun k => match k with
  | 0 => .array .byte
  | 1 => .int
  | 2 => .object "CallForks$Exchange"
  | 3 => .array .int
  | 4 => .int
  | 5 => .int
  | 6 => .int
  | 7 => .int
  | 8 => .int
  | 9 => .int
  | 10 => .boolean
  | 11 => .boolean
  | 12 => .boolean
  | 13 => .int
  | _ => .int
abbrev wsX30 : List Cond := u_ws RX3 TX3 15
theorem nmX3 : ∀ a, a < 15 → ∀ b, b < 15 → a ≠ b → (TX3 a).2.1 ≠ (TX3 b).2.1 := by decide +kernel
theorem tyX3_ok : ∀ k, k < 15 → parseFieldDescriptor (TX3 k).2.2.1 = some (tyX3 k) := by decide +kernel
abbrev cX3_init : ByteArray := prog_5_method_1_code
def yX3_init : MethodName := ⟨RX3, "<init>", "()V"⟩
abbrev cX3_hasRoomFor : ByteArray := prog_5_method_2_code
def yX3_hasRoomFor : MethodName := ⟨RX3, "hasRoomFor", "(I)Z"⟩
abbrev cX3_addWord : ByteArray := prog_5_method_3_code
def yX3_addWord : MethodName := ⟨RX3, "addWord", "(I)V"⟩
abbrev cX3_readSetup : ByteArray := prog_5_method_4_code
def yX3_readSetup : MethodName := ⟨RX3, "readSetup", "(I)I"⟩
abbrev cX3_readStatement : ByteArray := prog_5_method_5_code
def yX3_readStatement : MethodName := ⟨RX3, "readStatement", "()V"⟩
abbrev cX3_readParty : ByteArray := prog_5_method_6_code
def yX3_readParty : MethodName := ⟨RX3, "readParty", "()V"⟩
abbrev cX3_readWait : ByteArray := prog_5_method_7_code
def yX3_readWait : MethodName := ⟨RX3, "readWait", "()V"⟩
abbrev cX3_readPatience : ByteArray := prog_5_method_8_code
def yX3_readPatience : MethodName := ⟨RX3, "readPatience", "()V"⟩
abbrev cX3_readSum : ByteArray := prog_5_method_9_code
def yX3_readSum : MethodName := ⟨RX3, "readSum", "(I)V"⟩
abbrev cX3_readTerm : ByteArray := prog_5_method_10_code
def yX3_readTerm : MethodName := ⟨RX3, "readTerm", "(I)V"⟩
abbrev cX3_readFactor : ByteArray := prog_5_method_11_code
def yX3_readFactor : MethodName := ⟨RX3, "readFactor", "(I)V"⟩
abbrev cX3_addCode : ByteArray := prog_5_method_12_code
def yX3_addCode : MethodName := ⟨RX3, "addCode", "(I)V"⟩
abbrev cX3_fail : ByteArray := prog_5_method_13_code
def yX3_fail : MethodName := ⟨RX3, "fail", "(I)V"⟩
abbrev cX3_takeSign : ByteArray := prog_5_method_14_code
def yX3_takeSign : MethodName := ⟨RX3, "takeSign", "(C)V"⟩
abbrev cX3_takeNumber : ByteArray := prog_5_method_15_code
def yX3_takeNumber : MethodName := ⟨RX3, "takeNumber", "(II)I"⟩
abbrev cX3_numberInRange : ByteArray := prog_5_method_16_code
def yX3_numberInRange : MethodName := ⟨RX3, "numberInRange", "(II)I"⟩
abbrev cX3_atSign : ByteArray := prog_5_method_17_code
def yX3_atSign : MethodName := ⟨RX3, "atSign", "(C)Z"⟩
abbrev cX3_atWord : ByteArray := prog_5_method_18_code
def yX3_atWord : MethodName := ⟨RX3, "atWord", "(Ljava/lang/String;)Z"⟩
abbrev cX3_nextToken : ByteArray := prog_5_method_19_code
def yX3_nextToken : MethodName := ⟨RX3, "nextToken", "()V"⟩
abbrev cX3_byteAt : ByteArray := prog_5_method_20_code
def yX3_byteAt : MethodName := ⟨RX3, "byteAt", "(I)I"⟩
abbrev cX3_isDigit : ByteArray := prog_5_method_21_code
def yX3_isDigit : MethodName := ⟨RX3, "isDigit", "(I)Z"⟩
abbrev cX3_isLetter : ByteArray := prog_5_method_22_code
def yX3_isLetter : MethodName := ⟨RX3, "isLetter", "(I)Z"⟩
def RX4 : String := "CallForks$Table"
def TX4 : u_T := fun k => match k with
  | 0 => ("CallForks$Table", "cells", "[I", true)
  | 1 => ("CallForks$Table", "columns", "I", true)
  | _ => ("CallForks$Table", "rows", "I", false)
def tyX4 : Nat → FieldType := fun k => match k with
  | 0 => .array .int
  | 1 => .int
  | _ => .int
abbrev wsX40 : List Cond := u_ws RX4 TX4 3
theorem nmX4 : ∀ a, a < 3 → ∀ b, b < 3 → a ≠ b → (TX4 a).2.1 ≠ (TX4 b).2.1 := by decide +kernel
theorem tyX4_ok : ∀ k, k < 3 → parseFieldDescriptor (TX4 k).2.2.1 = some (tyX4 k) := by decide +kernel
abbrev cX4_init : ByteArray := prog_6_method_1_code
def yX4_init : MethodName := ⟨RX4, "<init>", "([II)V"⟩
abbrev cX4_has : ByteArray := prog_6_method_2_code
def yX4_has : MethodName := ⟨RX4, "has", "(I)Z"⟩
abbrev cX4_get : ByteArray := prog_6_method_3_code
def yX4_get : MethodName := ⟨RX4, "get", "(II)I"⟩
abbrev cX4_set : ByteArray := prog_6_method_4_code
def yX4_set : MethodName := ⟨RX4, "set", "(III)V"⟩
abbrev cX4_addRow : ByteArray := prog_6_method_5_code
def yX4_addRow : MethodName := ⟨RX4, "addRow", "()I"⟩
abbrev cX4_clear : ByteArray := prog_6_method_6_code
def yX4_clear : MethodName := ⟨RX4, "clear", "()V"⟩
abbrev cX4_copyFrom : ByteArray := prog_6_method_7_code
def yX4_copyFrom : MethodName := ⟨RX4, "copyFrom", "(LCallForks$Table;)V"⟩
def RX5 : String := "CallForks"
def TX5 : u_T := fun k => match k with
  | 0 => ("CallForks", "now", "LCallForks$Exchange;", true)
  | 1 => ("CallForks", "future", "LCallForks$Exchange;", true)
  | 2 => ("CallForks", "history", "LCallForks$History;", true)
  | 3 => ("CallForks", "reader", "LCallForks$SetupReader;", true)
  | _ => ("CallForks", "latestErrorOffset", "I", false)
def tyX5 : Nat → FieldType := fun k => match k with
  | 0 => .object "CallForks$Exchange"
  | 1 => .object "CallForks$Exchange"
  | 2 => .object "CallForks$History"
  | 3 => .object "CallForks$SetupReader"
  | _ => .int
abbrev wsX50 : List Cond := u_ws RX5 TX5 5
theorem nmX5 : ∀ a, a < 5 → ∀ b, b < 5 → a ≠ b → (TX5 a).2.1 ≠ (TX5 b).2.1 := by decide +kernel
theorem tyX5_ok : ∀ k, k < 5 → parseFieldDescriptor (TX5 k).2.2.1 = some (tyX5 k) := by decide +kernel
abbrev cX5_init : ByteArray := prog_1_method_1_code
def yX5_init : MethodName := ⟨RX5, "<init>", "()V"⟩
abbrev cX5_append : ByteArray := prog_1_method_2_code
def yX5_append : MethodName := ⟨RX5, "append", "(IIIII)I"⟩
abbrev cX5_load : ByteArray := prog_1_method_3_code
def yX5_load : MethodName := ⟨RX5, "load", "(I)I"⟩
abbrev cX5_errorOffset : ByteArray := prog_1_method_4_code
def yX5_errorOffset : MethodName := ⟨RX5, "errorOffset", "()I"⟩
abbrev cX5_time : ByteArray := prog_1_method_5_code
def yX5_time : MethodName := ⟨RX5, "time", "()I"⟩
abbrev cX5_count : ByteArray := prog_1_method_6_code
def yX5_count : MethodName := ⟨RX5, "count", "(I)I"⟩
abbrev cX5_party : ByteArray := prog_1_method_7_code
def yX5_party : MethodName := ⟨RX5, "party", "(II)I"⟩
abbrev cX5_call : ByteArray := prog_1_method_8_code
def yX5_call : MethodName := ⟨RX5, "call", "(II)I"⟩
abbrev cX5_leg : ByteArray := prog_1_method_9_code
def yX5_leg : MethodName := ⟨RX5, "leg", "(II)I"⟩
abbrev cX5_pending : ByteArray := prog_1_method_10_code
def yX5_pending : MethodName := ⟨RX5, "pending", "(II)I"⟩
abbrev cX5_repetition : ByteArray := prog_1_method_11_code
def yX5_repetition : MethodName := ⟨RX5, "repetition", "(II)I"⟩
abbrev cX5_total : ByteArray := prog_1_method_12_code
def yX5_total : MethodName := ⟨RX5, "total", "(I)I"⟩
abbrev cX5_settlesIn : ByteArray := prog_1_method_13_code
def yX5_settlesIn : MethodName := ⟨RX5, "settlesIn", "(I)I"⟩
abbrev cX5_answeredBy : ByteArray := prog_1_method_14_code
def yX5_answeredBy : MethodName := ⟨RX5, "answeredBy", "(I)I"⟩
abbrev cX5_pass : ByteArray := prog_1_method_15_code
def yX5_pass : MethodName := ⟨RX5, "pass", "(I)I"⟩
abbrev cX5_dial : ByteArray := prog_1_method_16_code
def yX5_dial : MethodName := ⟨RX5, "dial", "(II)I"⟩
abbrev cX5_transfer : ByteArray := prog_1_method_17_code
def yX5_transfer : MethodName := ⟨RX5, "transfer", "(II)I"⟩
abbrev cX5_hangUp : ByteArray := prog_1_method_18_code
def yX5_hangUp : MethodName := ⟨RX5, "hangUp", "(I)I"⟩
abbrev cX5_offer : ByteArray := prog_1_method_19_code
def yX5_offer : MethodName := ⟨RX5, "offer", "(II)I"⟩
abbrev cX5_setParty : ByteArray := prog_1_method_20_code
def yX5_setParty : MethodName := ⟨RX5, "setParty", "(III)I"⟩
abbrev cX5_undo : ByteArray := prog_1_method_21_code
def yX5_undo : MethodName := ⟨RX5, "undo", "()I"⟩
abbrev cX5_checksum : ByteArray := prog_1_method_22_code
def yX5_checksum : MethodName := ⟨RX5, "checksum", "()J"⟩
abbrev cX5_requireParty : ByteArray := prog_1_method_23_code
def yX5_requireParty : MethodName := ⟨RX5, "requireParty", "(I)V"⟩
abbrev cX5_requireCall : ByteArray := prog_1_method_24_code
def yX5_requireCall : MethodName := ⟨RX5, "requireCall", "(I)V"⟩
abbrev cX5_requireLeg : ByteArray := prog_1_method_25_code
def yX5_requireLeg : MethodName := ⟨RX5, "requireLeg", "(I)V"⟩
abbrev cX5_requireRange : ByteArray := prog_1_method_26_code
def yX5_requireRange : MethodName := ⟨RX5, "requireRange", "(III)V"⟩
abbrev cX5_playUntilSettled : ByteArray := prog_1_method_27_code
def yX5_playUntilSettled : MethodName := ⟨RX5, "playUntilSettled", "(I)I"⟩
abbrev cX5_limit : ByteArray := prog_1_method_28_code
def yX5_limit : MethodName := ⟨RX5, "limit", "(JII)I"⟩
def RX6 : String := "CallForksModel"
def TX6 : u_T := fun k => match k with
  | 0 => ("CallForksModel", "thrown", "I", false)
  | 1 => ("CallForksModel", "buffer", "[I", true)
  | 2 => ("CallForksModel", "bufferLength", "I", false)
  | 3 => ("CallForksModel", "textLength", "I", false)
  | 4 => ("CallForksModel", "position", "I", false)
  | 5 => ("CallForksModel", "error", "I", false)
  | 6 => ("CallForksModel", "errorAt", "I", false)
  | 7 => ("CallForksModel", "errorOffset", "I", false)
  | 8 => ("CallForksModel", "data", "[I", true)
  | 9 => ("CallForksModel", "draft", "[I", true)
  | 10 => ("CallForksModel", "tried", "[I", true)
  | 11 => ("CallForksModel", "history", "[[I", true)
  | 12 => ("CallForksModel", "undoDepth", "I", false)
  | 13 => ("CallForksModel", "numberStart", "I", false)
  | 14 => ("CallForksModel", "nesting", "I", false)
  | 15 => ("CallForksModel", "seen", "I", false)
  | _ => ("CallForksModel", "stack", "[J", true)
def tyX6 : Nat → FieldType := fun k => match k with
  | 0 => .int
  | 1 => .array .int
  | 2 => .int
  | 3 => .int
  | 4 => .int
  | 5 => .int
  | 6 => .int
  | 7 => .int
  | 8 => .array .int
  | 9 => .array .int
  | 10 => .array .int
  | 11 => .array (.array .int)
  | 12 => .int
  | 13 => .int
  | 14 => .int
  | 15 => .int
  | _ => .array .long
abbrev wsX60 : List Cond := u_ws RX6 TX6 17
theorem nmX6 : ∀ a, a < 17 → ∀ b, b < 17 → a ≠ b → (TX6 a).2.1 ≠ (TX6 b).2.1 := by decide +kernel
theorem tyX6_ok : ∀ k, k < 17 → parseFieldDescriptor (TX6 k).2.2.1 = some (tyX6 k) := by decide +kernel
abbrev cX6_init : ByteArray := prog_8_method_1_code
def yX6_init : MethodName := ⟨RX6, "<init>", "()V"⟩
abbrev cX6_thrown : ByteArray := prog_8_method_2_code
def yX6_thrown : MethodName := ⟨RX6, "thrown", "()I"⟩
abbrev cX6_fails : ByteArray := prog_8_method_3_code
def yX6_fails : MethodName := ⟨RX6, "fails", "(ZI)Z"⟩
abbrev cX6_in : ByteArray := prog_8_method_4_code
def yX6_in : MethodName := ⟨RX6, "in", "(III)Z"⟩
abbrev cX6_min : ByteArray := prog_8_method_5_code
def yX6_min : MethodName := ⟨RX6, "min", "(II)I"⟩
abbrev cX6_copy : ByteArray := prog_8_method_6_code
def yX6_copy : MethodName := ⟨RX6, "copy", "([I[I)V"⟩
abbrev cX6_layUsual : ByteArray := prog_8_method_7_code
def yX6_layUsual : MethodName := ⟨RX6, "layUsual", "([I)V"⟩
abbrev cX6_append : ByteArray := prog_8_method_8_code
def yX6_append : MethodName := ⟨RX6, "append", "(IIIII)I"⟩
abbrev cX6_byteAt : ByteArray := prog_8_method_9_code
def yX6_byteAt : MethodName := ⟨RX6, "byteAt", "(I)I"⟩
abbrev cX6_next : ByteArray := prog_8_method_10_code
def yX6_next : MethodName := ⟨RX6, "next", "()I"⟩
abbrev cX6_isGood : ByteArray := prog_8_method_11_code
def yX6_isGood : MethodName := ⟨RX6, "isGood", "()Z"⟩
abbrev cX6_report : ByteArray := prog_8_method_12_code
def yX6_report : MethodName := ⟨RX6, "report", "(II)V"⟩
abbrev cX6_isDigit : ByteArray := prog_8_method_13_code
def yX6_isDigit : MethodName := ⟨RX6, "isDigit", "(I)Z"⟩
abbrev cX6_takeWord : ByteArray := prog_8_method_14_code
def yX6_takeWord : MethodName := ⟨RX6, "takeWord", "(Ljava/lang/String;)Z"⟩
abbrev cX6_expect : ByteArray := prog_8_method_15_code
def yX6_expect : MethodName := ⟨RX6, "expect", "(I)V"⟩
abbrev cX6_number : ByteArray := prog_8_method_16_code
def yX6_number : MethodName := ⟨RX6, "number", "(II)I"⟩
abbrev cX6_emit : ByteArray := prog_8_method_17_code
def yX6_emit : MethodName := ⟨RX6, "emit", "(I)V"⟩
abbrev cX6_factor : ByteArray := prog_8_method_18_code
def yX6_factor : MethodName := ⟨RX6, "factor", "()V"⟩
abbrev cX6_term : ByteArray := prog_8_method_19_code
def yX6_term : MethodName := ⟨RX6, "term", "()V"⟩
abbrev cX6_sum : ByteArray := prog_8_method_20_code
def yX6_sum : MethodName := ⟨RX6, "sum", "()V"⟩
abbrev cX6_once : ByteArray := prog_8_method_21_code
def yX6_once : MethodName := ⟨RX6, "once", "(II)V"⟩
abbrev cX6_readParty : ByteArray := prog_8_method_22_code
def yX6_readParty : MethodName := ⟨RX6, "readParty", "(I)V"⟩
abbrev cX6_statement : ByteArray := prog_8_method_23_code
def yX6_statement : MethodName := ⟨RX6, "statement", "()V"⟩
abbrev cX6_load : ByteArray := prog_8_method_24_code
def yX6_load : MethodName := ⟨RX6, "load", "(I)I"⟩
abbrev cX6_errorOffset : ByteArray := prog_8_method_25_code
def yX6_errorOffset : MethodName := ⟨RX6, "errorOffset", "()I"⟩
abbrev cX6_ofParty : ByteArray := prog_8_method_26_code
def yX6_ofParty : MethodName := ⟨RX6, "ofParty", "(II)I"⟩
abbrev cX6_callAt : ByteArray := prog_8_method_27_code
def yX6_callAt : MethodName := ⟨RX6, "callAt", "(I)I"⟩
abbrev cX6_legAt : ByteArray := prog_8_method_28_code
def yX6_legAt : MethodName := ⟨RX6, "legAt", "(I)I"⟩
abbrev cX6_ofCall : ByteArray := prog_8_method_29_code
def yX6_ofCall : MethodName := ⟨RX6, "ofCall", "(II)I"⟩
abbrev cX6_ofLeg : ByteArray := prog_8_method_30_code
def yX6_ofLeg : MethodName := ⟨RX6, "ofLeg", "(II)I"⟩
abbrev cX6_is : ByteArray := prog_8_method_31_code
def yX6_is : MethodName := ⟨RX6, "is", "(II)Z"⟩
abbrev cX6_callerOf : ByteArray := prog_8_method_32_code
def yX6_callerOf : MethodName := ⟨RX6, "callerOf", "(I)I"⟩
abbrev cX6_isIn : ByteArray := prog_8_method_33_code
def yX6_isIn : MethodName := ⟨RX6, "isIn", "(II)Z"⟩
abbrev cX6_legWith : ByteArray := prog_8_method_34_code
def yX6_legWith : MethodName := ⟨RX6, "legWith", "(II)I"⟩
abbrev cX6_rings : ByteArray := prog_8_method_35_code
def yX6_rings : MethodName := ⟨RX6, "rings", "(I)Z"⟩
abbrev cX6_ringingOf : ByteArray := prog_8_method_36_code
def yX6_ringingOf : MethodName := ⟨RX6, "ringingOf", "(I)I"⟩
abbrev cX6_isEngaged : ByteArray := prog_8_method_37_code
def yX6_isEngaged : MethodName := ⟨RX6, "isEngaged", "(I)Z"⟩
abbrev cX6_countOf : ByteArray := prog_8_method_38_code
def yX6_countOf : MethodName := ⟨RX6, "countOf", "(I)I"⟩
abbrev cX6_rungAt : ByteArray := prog_8_method_39_code
def yX6_rungAt : MethodName := ⟨RX6, "rungAt", "(I)I"⟩
abbrev cX6_adds : ByteArray := prog_8_method_40_code
def yX6_adds : MethodName := ⟨RX6, "adds", "(I)V"⟩
abbrev cX6_withoutOffers : ByteArray := prog_8_method_41_code
def yX6_withoutOffers : MethodName := ⟨RX6, "withoutOffers", "(I)V"⟩
abbrev cX6_end : ByteArray := prog_8_method_42_code
def yX6_end : MethodName := ⟨RX6, "end", "(II)V"⟩
abbrev cX6_takeBack : ByteArray := prog_8_method_43_code
def yX6_takeBack : MethodName := ⟨RX6, "takeBack", "(I)V"⟩
abbrev cX6_failCall : ByteArray := prog_8_method_44_code
def yX6_failCall : MethodName := ⟨RX6, "failCall", "(I)V"⟩
abbrev cX6_endAll : ByteArray := prog_8_method_45_code
def yX6_endAll : MethodName := ⟨RX6, "endAll", "(III)V"⟩
abbrev cX6_endAllTo : ByteArray := prog_8_method_46_code
def yX6_endAllTo : MethodName := ⟨RX6, "endAllTo", "(II)V"⟩
abbrev cX6_answer : ByteArray := prog_8_method_47_code
def yX6_answer : MethodName := ⟨RX6, "answer", "(I)V"⟩
abbrev cX6_limited : ByteArray := prog_8_method_48_code
def yX6_limited : MethodName := ⟨RX6, "limited", "(J)J"⟩
abbrev cX6_operate : ByteArray := prog_8_method_49_code
def yX6_operate : MethodName := ⟨RX6, "operate", "(IJJ)J"⟩
abbrev cX6_ringTime : ByteArray := prog_8_method_50_code
def yX6_ringTime : MethodName := ⟨RX6, "ringTime", "(III)I"⟩
abbrev cX6_makeLeg : ByteArray := prog_8_method_51_code
def yX6_makeLeg : MethodName := ⟨RX6, "makeLeg", "(II)V"⟩
abbrev cX6_beginCall : ByteArray := prog_8_method_52_code
def yX6_beginCall : MethodName := ⟨RX6, "beginCall", "(III)I"⟩
abbrev cX6_partyOn : ByteArray := prog_8_method_53_code
def yX6_partyOn : MethodName := ⟨RX6, "partyOn", "(II)I"⟩
abbrev cX6_repeat : ByteArray := prog_8_method_54_code
def yX6_repeat : MethodName := ⟨RX6, "repeat", "(II)V"⟩
abbrev cX6_layOffer : ByteArray := prog_8_method_55_code
def yX6_layOffer : MethodName := ⟨RX6, "layOffer", "(III)V"⟩
abbrev cX6_reply : ByteArray := prog_8_method_56_code
def yX6_reply : MethodName := ⟨RX6, "reply", "(I)V"⟩
abbrev cX6_mayAnswer : ByteArray := prog_8_method_57_code
def yX6_mayAnswer : MethodName := ⟨RX6, "mayAnswer", "(I)V"⟩
abbrev cX6_second : ByteArray := prog_8_method_58_code
def yX6_second : MethodName := ⟨RX6, "second", "()V"⟩
abbrev cX6_noParty : ByteArray := prog_8_method_59_code
def yX6_noParty : MethodName := ⟨RX6, "noParty", "(I)Z"⟩
abbrev cX6_noCall : ByteArray := prog_8_method_60_code
def yX6_noCall : MethodName := ⟨RX6, "noCall", "(I)Z"⟩
abbrev cX6_noLeg : ByteArray := prog_8_method_61_code
def yX6_noLeg : MethodName := ⟨RX6, "noLeg", "(I)Z"⟩
abbrev cX6_noWhat : ByteArray := prog_8_method_62_code
def yX6_noWhat : MethodName := ⟨RX6, "noWhat", "(III)Z"⟩
abbrev cX6_time : ByteArray := prog_8_method_63_code
def yX6_time : MethodName := ⟨RX6, "time", "()I"⟩
abbrev cX6_count : ByteArray := prog_8_method_64_code
def yX6_count : MethodName := ⟨RX6, "count", "(I)I"⟩
abbrev cX6_tellParty : ByteArray := prog_8_method_65_code
def yX6_tellParty : MethodName := ⟨RX6, "tellParty", "(II)I"⟩
abbrev cX6_party : ByteArray := prog_8_method_66_code
def yX6_party : MethodName := ⟨RX6, "party", "(II)I"⟩
abbrev cX6_tellCall : ByteArray := prog_8_method_67_code
def yX6_tellCall : MethodName := ⟨RX6, "tellCall", "(II)I"⟩
abbrev cX6_call : ByteArray := prog_8_method_68_code
def yX6_call : MethodName := ⟨RX6, "call", "(II)I"⟩
abbrev cX6_leg : ByteArray := prog_8_method_69_code
def yX6_leg : MethodName := ⟨RX6, "leg", "(II)I"⟩
abbrev cX6_pending : ByteArray := prog_8_method_70_code
def yX6_pending : MethodName := ⟨RX6, "pending", "(II)I"⟩
abbrev cX6_repetition : ByteArray := prog_8_method_71_code
def yX6_repetition : MethodName := ⟨RX6, "repetition", "(II)I"⟩
abbrev cX6_total : ByteArray := prog_8_method_72_code
def yX6_total : MethodName := ⟨RX6, "total", "(I)I"⟩
abbrev cX6_settle : ByteArray := prog_8_method_73_code
def yX6_settle : MethodName := ⟨RX6, "settle", "(I)I"⟩
abbrev cX6_settlesIn : ByteArray := prog_8_method_74_code
def yX6_settlesIn : MethodName := ⟨RX6, "settlesIn", "(I)I"⟩
abbrev cX6_answeredBy : ByteArray := prog_8_method_75_code
def yX6_answeredBy : MethodName := ⟨RX6, "answeredBy", "(I)I"⟩
abbrev cX6_remember : ByteArray := prog_8_method_76_code
def yX6_remember : MethodName := ⟨RX6, "remember", "()V"⟩
abbrev cX6_pass : ByteArray := prog_8_method_77_code
def yX6_pass : MethodName := ⟨RX6, "pass", "(I)I"⟩
abbrev cX6_dial : ByteArray := prog_8_method_78_code
def yX6_dial : MethodName := ⟨RX6, "dial", "(II)I"⟩
abbrev cX6_transfer : ByteArray := prog_8_method_79_code
def yX6_transfer : MethodName := ⟨RX6, "transfer", "(II)I"⟩
abbrev cX6_hangUp : ByteArray := prog_8_method_80_code
def yX6_hangUp : MethodName := ⟨RX6, "hangUp", "(I)I"⟩
abbrev cX6_offer : ByteArray := prog_8_method_81_code
def yX6_offer : MethodName := ⟨RX6, "offer", "(II)I"⟩
abbrev cX6_setParty : ByteArray := prog_8_method_82_code
def yX6_setParty : MethodName := ⟨RX6, "setParty", "(III)I"⟩
abbrev cX6_undo : ByteArray := prog_8_method_83_code
def yX6_undo : MethodName := ⟨RX6, "undo", "()I"⟩
abbrev cX6_checksum : ByteArray := prog_8_method_84_code
def yX6_checksum : MethodName := ⟨RX6, "checksum", "()J"⟩
def RJx145de : String := "java/io/Serializable"
def TJx145de : u_T := fun k => match k with
  | _ => ("", "", "", false)
def tyJx145de : Nat → FieldType := fun k => match k with
  | _ => .int
abbrev wsJx145de0 : List Cond := u_ws RJx145de TJx145de 0
theorem nmJx145de : ∀ a, a < 0 → ∀ b, b < 0 → a ≠ b → (TJx145de a).2.1 ≠ (TJx145de b).2.1 := by decide +kernel
theorem tyJx145de_ok : ∀ k, k < 0 → parseFieldDescriptor (TJx145de k).2.2.1 = some (tyJx145de k) := by decide +kernel
def RJx9f9b0 : String := "java/lang/CharSequence"
def TJx9f9b0 : u_T := fun k => match k with
  | _ => ("", "", "", false)
def tyJx9f9b0 : Nat → FieldType := fun k => match k with
  | _ => .int
abbrev wsJx9f9b00 : List Cond := u_ws RJx9f9b0 TJx9f9b0 0
theorem nmJx9f9b0 : ∀ a, a < 0 → ∀ b, b < 0 → a ≠ b → (TJx9f9b0 a).2.1 ≠ (TJx9f9b0 b).2.1 := by decide +kernel
theorem tyJx9f9b0_ok : ∀ k, k < 0 → parseFieldDescriptor (TJx9f9b0 k).2.2.1 = some (tyJx9f9b0 k) := by decide +kernel
def RJx8e188 : String := "java/lang/Cloneable"
def TJx8e188 : u_T := fun k => match k with
  | _ => ("", "", "", false)
def tyJx8e188 : Nat → FieldType := fun k => match k with
  | _ => .int
abbrev wsJx8e1880 : List Cond := u_ws RJx8e188 TJx8e188 0
theorem nmJx8e188 : ∀ a, a < 0 → ∀ b, b < 0 → a ≠ b → (TJx8e188 a).2.1 ≠ (TJx8e188 b).2.1 := by decide +kernel
theorem tyJx8e188_ok : ∀ k, k < 0 → parseFieldDescriptor (TJx8e188 k).2.2.1 = some (tyJx8e188 k) := by decide +kernel
def RJxb160c : String := "java/lang/Comparable"
def TJxb160c : u_T := fun k => match k with
  | _ => ("", "", "", false)
def tyJxb160c : Nat → FieldType := fun k => match k with
  | _ => .int
abbrev wsJxb160c0 : List Cond := u_ws RJxb160c TJxb160c 0
theorem nmJxb160c : ∀ a, a < 0 → ∀ b, b < 0 → a ≠ b → (TJxb160c a).2.1 ≠ (TJxb160c b).2.1 := by decide +kernel
theorem tyJxb160c_ok : ∀ k, k < 0 → parseFieldDescriptor (TJxb160c k).2.2.1 = some (tyJxb160c k) := by decide +kernel
def RJ6 : String := "java/lang/Integer"
def TJ6 : u_T := fun k => match k with
  | _ => ("", "", "", false)
def tyJ6 : Nat → FieldType := fun k => match k with
  | _ => .int
abbrev wsJ60 : List Cond := u_ws RJ6 TJ6 0
theorem nmJ6 : ∀ a, a < 0 → ∀ b, b < 0 → a ≠ b → (TJ6 a).2.1 ≠ (TJ6 b).2.1 := by decide +kernel
theorem tyJ6_ok : ∀ k, k < 0 → parseFieldDescriptor (TJ6 k).2.2.1 = some (tyJ6 k) := by decide +kernel
abbrev cJ6_bitCount_0f7a4 : ByteArray := prog_17_method_49_code
def yJ6_bitCount_0f7a4 : MethodName := ⟨RJ6, "bitCount", "(I)I"⟩
def RJ9 : String := "java/lang/Math"
def TJ9 : u_T := fun k => match k with
  | _ => ("", "", "", false)
def tyJ9 : Nat → FieldType := fun k => match k with
  | _ => .int
abbrev wsJ90 : List Cond := u_ws RJ9 TJ9 0
theorem nmJ9 : ∀ a, a < 0 → ∀ b, b < 0 → a ≠ b → (TJ9 a).2.1 ≠ (TJ9 b).2.1 := by decide +kernel
theorem tyJ9_ok : ∀ k, k < 0 → parseFieldDescriptor (TJ9 k).2.2.1 = some (tyJ9 k) := by decide +kernel
abbrev cJ9_min_7cf53 : ByteArray := prog_18_method_69_code
def yJ9_min_7cf53 : MethodName := ⟨RJ9, "min", "(II)I"⟩
def RJ0 : String := "java/lang/String"
def TJ0 : u_T := fun k => match k with
  | _ => ("", "", "", false)
def tyJ0 : Nat → FieldType := fun k => match k with
  | _ => .int
abbrev wsJ00 : List Cond := u_ws RJ0 TJ0 0
theorem nmJ0 : ∀ a, a < 0 → ∀ b, b < 0 → a ≠ b → (TJ0 a).2.1 ≠ (TJ0 b).2.1 := by decide +kernel
theorem tyJ0_ok : ∀ k, k < 0 → parseFieldDescriptor (TJ0 k).2.2.1 = some (tyJ0 k) := by decide +kernel
abbrev cJ0_length_8abf5 : ByteArray := prog_20_method_54_code
def yJ0_length_8abf5 : MethodName := ⟨RJ0, "length", "()I"⟩
abbrev cJ0_charAt_5068e : ByteArray := prog_20_method_56_code
def yJ0_charAt_5068e : MethodName := ⟨RJ0, "charAt", "(I)C"⟩
abbrev cJ0_coder_7d493 : ByteArray := prog_20_method_152_code
def yJ0_coder_7d493 : MethodName := ⟨RJ0, "coder", "()B"⟩
abbrev cJ0_isLatin1_aae02 : ByteArray := prog_20_method_154_code
def yJ0_isLatin1_aae02 : MethodName := ⟨RJ0, "isLatin1", "()Z"⟩
abbrev cJ0_checkIndex_df160 : ByteArray := prog_20_method_155_code
def yJ0_checkIndex_df160 : MethodName := ⟨RJ0, "checkIndex", "(II)V"⟩
def RJ1 : String := "java/lang/StringLatin1"
def TJ1 : u_T := fun k => match k with
  | _ => ("", "", "", false)
def tyJ1 : Nat → FieldType := fun k => match k with
  | _ => .int
abbrev wsJ10 : List Cond := u_ws RJ1 TJ1 0
theorem nmJ1 : ∀ a, a < 0 → ∀ b, b < 0 → a ≠ b → (TJ1 a).2.1 ≠ (TJ1 b).2.1 := by decide +kernel
theorem tyJ1_ok : ∀ k, k < 0 → parseFieldDescriptor (TJ1 k).2.2.1 = some (tyJ1 k) := by decide +kernel
abbrev cJ1_charAt_3b067 : ByteArray := prog_21_method_2_code
def yJ1_charAt_3b067 : MethodName := ⟨RJ1, "charAt", "([BI)C"⟩
def RJ2 : String := "java/lang/StringUTF16"
def TJ2 : u_T := fun k => match k with
  | _ => ("", "", "", false)
def tyJ2 : Nat → FieldType := fun k => match k with
  | _ => .int
abbrev wsJ20 : List Cond := u_ws RJ2 TJ2 0
theorem nmJ2 : ∀ a, a < 0 → ∀ b, b < 0 → a ≠ b → (TJ2 a).2.1 ≠ (TJ2 b).2.1 := by decide +kernel
theorem tyJ2_ok : ∀ k, k < 0 → parseFieldDescriptor (TJ2 k).2.2.1 = some (tyJ2 k) := by decide +kernel
abbrev cJ2_getChar_3b067 : ByteArray := prog_22_method_5_code
def yJ2_getChar_3b067 : MethodName := ⟨RJ2, "getChar", "([BI)C"⟩
abbrev cJ2_length_9d52b : ByteArray := prog_22_method_6_code
def yJ2_length_9d52b : MethodName := ⟨RJ2, "length", "([B)I"⟩
abbrev cJ2_charAt_3b067 : ByteArray := prog_22_method_83_code
def yJ2_charAt_3b067 : MethodName := ⟨RJ2, "charAt", "([BI)C"⟩
abbrev cJ2_checkIndex_2214a : ByteArray := prog_22_method_91_code
def yJ2_checkIndex_2214a : MethodName := ⟨RJ2, "checkIndex", "(I[B)V"⟩
def RJ10 : String := "java/lang/System"
def TJ10 : u_T := fun k => match k with
  | _ => ("", "", "", false)
def tyJ10 : Nat → FieldType := fun k => match k with
  | _ => .int
abbrev wsJ100 : List Cond := u_ws RJ10 TJ10 0
theorem nmJ10 : ∀ a, a < 0 → ∀ b, b < 0 → a ≠ b → (TJ10 a).2.1 ≠ (TJ10 b).2.1 := by decide +kernel
theorem tyJ10_ok : ∀ k, k < 0 → parseFieldDescriptor (TJ10 k).2.2.1 = some (tyJ10 k) := by decide +kernel
def RJxfd54e : String := "java/lang/constant/Constable"
def TJxfd54e : u_T := fun k => match k with
  | _ => ("", "", "", false)
def tyJxfd54e : Nat → FieldType := fun k => match k with
  | _ => .int
abbrev wsJxfd54e0 : List Cond := u_ws RJxfd54e TJxfd54e 0
theorem nmJxfd54e : ∀ a, a < 0 → ∀ b, b < 0 → a ≠ b → (TJxfd54e a).2.1 ≠ (TJxfd54e b).2.1 := by decide +kernel
theorem tyJxfd54e_ok : ∀ k, k < 0 → parseFieldDescriptor (TJxfd54e k).2.2.1 = some (tyJxfd54e k) := by decide +kernel
def RJx3cf43 : String := "java/lang/constant/ConstantDesc"
def TJx3cf43 : u_T := fun k => match k with
  | _ => ("", "", "", false)
def tyJx3cf43 : Nat → FieldType := fun k => match k with
  | _ => .int
abbrev wsJx3cf430 : List Cond := u_ws RJx3cf43 TJx3cf43 0
theorem nmJx3cf43 : ∀ a, a < 0 → ∀ b, b < 0 → a ≠ b → (TJx3cf43 a).2.1 ≠ (TJx3cf43 b).2.1 := by decide +kernel
theorem tyJx3cf43_ok : ∀ k, k < 0 → parseFieldDescriptor (TJx3cf43 k).2.2.1 = some (tyJx3cf43 k) := by decide +kernel
def RJ7 : String := "java/util/Arrays"
def TJ7 : u_T := fun k => match k with
  | _ => ("", "", "", false)
def tyJ7 : Nat → FieldType := fun k => match k with
  | _ => .int
abbrev wsJ70 : List Cond := u_ws RJ7 TJ7 0
theorem nmJ7 : ∀ a, a < 0 → ∀ b, b < 0 → a ≠ b → (TJ7 a).2.1 ≠ (TJ7 b).2.1 := by decide +kernel
theorem tyJ7_ok : ∀ k, k < 0 → parseFieldDescriptor (TJ7 k).2.2.1 = some (tyJ7 k) := by decide +kernel
abbrev cJ7_copyOf_59c91 : ByteArray := prog_27_method_123_code
def yJ7_copyOf_59c91 : MethodName := ⟨RJ7, "copyOf", "([II)[I"⟩
def RJ3 : String := "jdk/internal/util/Preconditions"
def TJ3 : u_T := fun k => match k with
  | _ => ("", "", "", false)
def tyJ3 : Nat → FieldType := fun k => match k with
  | _ => .int
abbrev wsJ30 : List Cond := u_ws RJ3 TJ3 0
theorem nmJ3 : ∀ a, a < 0 → ∀ b, b < 0 → a ≠ b → (TJ3 a).2.1 ≠ (TJ3 b).2.1 := by decide +kernel
theorem tyJ3_ok : ∀ k, k < 0 → parseFieldDescriptor (TJ3 k).2.2.1 = some (tyJ3 k) := by decide +kernel
abbrev cJ3_checkIndex_8e157 : ByteArray := prog_29_method_11_code
def yJ3_checkIndex_8e157 : MethodName := ⟨RJ3, "checkIndex", "(IILjava/util/function/BiFunction;)I"⟩
def RL : String := "CallForksLaw"
abbrev cL_load : ByteArray := method_3_code
def yL_load : MethodName := ⟨RL, "load", "(LCallForks;I[J)I"⟩
abbrev cL_count : ByteArray := method_4_code
def yL_count : MethodName := ⟨RL, "count", "(LCallForks;I[J)I"⟩
abbrev cL_party : ByteArray := method_5_code
def yL_party : MethodName := ⟨RL, "party", "(LCallForks;II[J)I"⟩
abbrev cL_call : ByteArray := method_6_code
def yL_call : MethodName := ⟨RL, "call", "(LCallForks;II[J)I"⟩
abbrev cL_leg : ByteArray := method_7_code
def yL_leg : MethodName := ⟨RL, "leg", "(LCallForks;II[J)I"⟩
abbrev cL_pending : ByteArray := method_8_code
def yL_pending : MethodName := ⟨RL, "pending", "(LCallForks;II[J)I"⟩
abbrev cL_repetition : ByteArray := method_9_code
def yL_repetition : MethodName := ⟨RL, "repetition", "(LCallForks;II[J)I"⟩
abbrev cL_total : ByteArray := method_10_code
def yL_total : MethodName := ⟨RL, "total", "(LCallForks;I[J)I"⟩
abbrev cL_settlesIn : ByteArray := method_11_code
def yL_settlesIn : MethodName := ⟨RL, "settlesIn", "(LCallForks;I[J)I"⟩
abbrev cL_answeredBy : ByteArray := method_12_code
def yL_answeredBy : MethodName := ⟨RL, "answeredBy", "(LCallForks;I[J)I"⟩
abbrev cL_pass : ByteArray := method_13_code
def yL_pass : MethodName := ⟨RL, "pass", "(LCallForks;I[J)I"⟩
abbrev cL_dial : ByteArray := method_14_code
def yL_dial : MethodName := ⟨RL, "dial", "(LCallForks;II[J)I"⟩
abbrev cL_transfer : ByteArray := method_15_code
def yL_transfer : MethodName := ⟨RL, "transfer", "(LCallForks;II[J)I"⟩
abbrev cL_hangUp : ByteArray := method_16_code
def yL_hangUp : MethodName := ⟨RL, "hangUp", "(LCallForks;I[J)I"⟩
abbrev cL_offer : ByteArray := method_17_code
def yL_offer : MethodName := ⟨RL, "offer", "(LCallForks;II[J)I"⟩
abbrev cL_setParty : ByteArray := method_18_code
def yL_setParty : MethodName := ⟨RL, "setParty", "(LCallForks;III[J)I"⟩
abbrev cL_law : ByteArray := code
def yL_law : MethodName := ⟨RL, "law", "([I)Z"⟩
abbrev vwCl : List vw_C := [(RX0, TX0, 9), (RX1, TX1, 3), (RX2, TX2, 3), (RX3, TX3, 15), (RX4, TX4, 3), (RX5, TX5, 5), (RX6, TX6, 17)]
end
section
theorem dX0_init_0 : decode cX0_init 0 = .ok (.aload_n 0, 1) := by decide +kernel
theorem dX0_init_1 : decode cX0_init 1 = .ok (.invokespecial 3, 3) := by decide +kernel
theorem dX0_init_4 : decode cX0_init 4 = .ok (.aload_n 0, 1) := by decide +kernel
theorem dX0_init_5 : decode cX0_init 5 = .ok (.new 9, 3) := by decide +kernel
theorem dX0_init_8 : decode cX0_init 8 = .ok (.dup, 1) := by decide +kernel
theorem dX0_init_9 : decode cX0_init 9 = .ok (.bipush 30, 2) := by decide +kernel
theorem dX0_init_11 : decode cX0_init 11 = .ok (.newarray .int, 2) := by decide +kernel
theorem dX0_init_13 : decode cX0_init 13 = .ok (.iconst 3, 1) := by decide +kernel
theorem dX0_init_14 : decode cX0_init 14 = .ok (.invokespecial 11, 3) := by decide +kernel
theorem dX0_init_17 : decode cX0_init 17 = .ok (.putfield 14, 3) := by decide +kernel
theorem dX0_init_20 : decode cX0_init 20 = .ok (.aload_n 0, 1) := by decide +kernel
theorem dX0_init_21 : decode cX0_init 21 = .ok (.new 9, 3) := by decide +kernel
theorem dX0_init_24 : decode cX0_init 24 = .ok (.dup, 1) := by decide +kernel
theorem dX0_init_25 : decode cX0_init 25 = .ok (.sipush 160, 3) := by decide +kernel
theorem dX0_init_28 : decode cX0_init 28 = .ok (.newarray .int, 2) := by decide +kernel
theorem dX0_init_30 : decode cX0_init 30 = .ok (.bipush 8, 2) := by decide +kernel
theorem dX0_init_32 : decode cX0_init 32 = .ok (.invokespecial 11, 3) := by decide +kernel
theorem dX0_init_35 : decode cX0_init 35 = .ok (.putfield 20, 3) := by decide +kernel
theorem dX0_init_38 : decode cX0_init 38 = .ok (.aload_n 0, 1) := by decide +kernel
theorem dX0_init_39 : decode cX0_init 39 = .ok (.new 9, 3) := by decide +kernel
theorem dX0_init_42 : decode cX0_init 42 = .ok (.dup, 1) := by decide +kernel
theorem dX0_init_43 : decode cX0_init 43 = .ok (.sipush 520, 3) := by decide +kernel
theorem dX0_init_46 : decode cX0_init 46 = .ok (.newarray .int, 2) := by decide +kernel
theorem dX0_init_48 : decode cX0_init 48 = .ok (.bipush 13, 2) := by decide +kernel
theorem dX0_init_50 : decode cX0_init 50 = .ok (.invokespecial 11, 3) := by decide +kernel
theorem dX0_init_53 : decode cX0_init 53 = .ok (.putfield 23, 3) := by decide +kernel
theorem dX0_init_56 : decode cX0_init 56 = .ok (.aload_n 0, 1) := by decide +kernel
theorem dX0_init_57 : decode cX0_init 57 = .ok (.new 9, 3) := by decide +kernel
theorem dX0_init_60 : decode cX0_init 60 = .ok (.dup, 1) := by decide +kernel
theorem dX0_init_61 : decode cX0_init 61 = .ok (.bipush 7, 2) := by decide +kernel
theorem dX0_init_63 : decode cX0_init 63 = .ok (.newarray .int, 2) := by decide +kernel
theorem dX0_init_65 : decode cX0_init 65 = .ok (.bipush 7, 2) := by decide +kernel
theorem dX0_init_67 : decode cX0_init 67 = .ok (.invokespecial 11, 3) := by decide +kernel
theorem dX0_init_70 : decode cX0_init 70 = .ok (.putfield 26, 3) := by decide +kernel
theorem dX0_init_73 : decode cX0_init 73 = .ok (.aload_n 0, 1) := by decide +kernel
theorem dX0_init_74 : decode cX0_init 74 = .ok (.iconst 3, 1) := by decide +kernel
theorem dX0_init_75 : decode cX0_init 75 = .ok (.putfield 29, 3) := by decide +kernel
theorem dX0_init_78 : decode cX0_init 78 = .ok (.aload_n 0, 1) := by decide +kernel
theorem dX0_init_79 : decode cX0_init 79 = .ok (.iconst 5, 1) := by decide +kernel
theorem dX0_init_80 : decode cX0_init 80 = .ok (.putfield 33, 3) := by decide +kernel
theorem dX0_init_83 : decode cX0_init 83 = .ok (.aload_n 0, 1) := by decide +kernel
theorem dX0_init_84 : decode cX0_init 84 = .ok (.bipush 20, 2) := by decide +kernel
theorem dX0_init_86 : decode cX0_init 86 = .ok (.putfield 36, 3) := by decide +kernel
theorem dX0_init_89 : decode cX0_init 89 = .ok (.aload_n 0, 1) := by decide +kernel
theorem dX0_init_90 : decode cX0_init 90 = .ok (.getfield 26, 3) := by decide +kernel
theorem dX0_init_93 : decode cX0_init 93 = .ok (.invokevirtual 39, 3) := by decide +kernel
theorem dX0_init_96 : decode cX0_init 96 = .ok (.pop, 1) := by decide +kernel
theorem dX0_init_97 : decode cX0_init 97 = .ok (.return_, 1) := by decide +kernel
theorem dX0_clear_0 : decode cX0_clear 0 = .ok (.aload_n 0, 1) := by decide +kernel
theorem dX0_clear_1 : decode cX0_clear 1 = .ok (.getfield 14, 3) := by decide +kernel
theorem dX0_clear_4 : decode cX0_clear 4 = .ok (.invokevirtual 43, 3) := by decide +kernel
theorem dX0_clear_7 : decode cX0_clear 7 = .ok (.aload_n 0, 1) := by decide +kernel
theorem dX0_clear_8 : decode cX0_clear 8 = .ok (.getfield 20, 3) := by decide +kernel
theorem dX0_clear_11 : decode cX0_clear 11 = .ok (.invokevirtual 43, 3) := by decide +kernel
theorem dX0_clear_14 : decode cX0_clear 14 = .ok (.aload_n 0, 1) := by decide +kernel
theorem dX0_clear_15 : decode cX0_clear 15 = .ok (.getfield 23, 3) := by decide +kernel
theorem dX0_clear_18 : decode cX0_clear 18 = .ok (.invokevirtual 43, 3) := by decide +kernel
theorem dX0_clear_21 : decode cX0_clear 21 = .ok (.aload_n 0, 1) := by decide +kernel
theorem dX0_clear_22 : decode cX0_clear 22 = .ok (.getfield 26, 3) := by decide +kernel
theorem dX0_clear_25 : decode cX0_clear 25 = .ok (.invokevirtual 43, 3) := by decide +kernel
theorem dX0_clear_28 : decode cX0_clear 28 = .ok (.aload_n 0, 1) := by decide +kernel
theorem dX0_clear_29 : decode cX0_clear 29 = .ok (.getfield 26, 3) := by decide +kernel
theorem dX0_clear_32 : decode cX0_clear 32 = .ok (.invokevirtual 39, 3) := by decide +kernel
theorem dX0_clear_35 : decode cX0_clear 35 = .ok (.pop, 1) := by decide +kernel
theorem dX0_clear_36 : decode cX0_clear 36 = .ok (.aload_n 0, 1) := by decide +kernel
theorem dX0_clear_37 : decode cX0_clear 37 = .ok (.aconst_null, 1) := by decide +kernel
theorem dX0_clear_38 : decode cX0_clear 38 = .ok (.putfield 46, 3) := by decide +kernel
theorem dX0_clear_41 : decode cX0_clear 41 = .ok (.aload_n 0, 1) := by decide +kernel
theorem dX0_clear_42 : decode cX0_clear 42 = .ok (.iconst 0, 1) := by decide +kernel
theorem dX0_clear_43 : decode cX0_clear 43 = .ok (.putfield 50, 3) := by decide +kernel
theorem dX0_clear_46 : decode cX0_clear 46 = .ok (.aload_n 0, 1) := by decide +kernel
theorem dX0_clear_47 : decode cX0_clear 47 = .ok (.iconst 3, 1) := by decide +kernel
theorem dX0_clear_48 : decode cX0_clear 48 = .ok (.putfield 29, 3) := by decide +kernel
theorem dX0_clear_51 : decode cX0_clear 51 = .ok (.aload_n 0, 1) := by decide +kernel
theorem dX0_clear_52 : decode cX0_clear 52 = .ok (.iconst 5, 1) := by decide +kernel
theorem dX0_clear_53 : decode cX0_clear 53 = .ok (.putfield 33, 3) := by decide +kernel
theorem dX0_clear_56 : decode cX0_clear 56 = .ok (.aload_n 0, 1) := by decide +kernel
theorem dX0_clear_57 : decode cX0_clear 57 = .ok (.bipush 20, 2) := by decide +kernel
theorem dX0_clear_59 : decode cX0_clear 59 = .ok (.putfield 36, 3) := by decide +kernel
theorem dX0_clear_62 : decode cX0_clear 62 = .ok (.return_, 1) := by decide +kernel
theorem dX0_copyFrom_0 : decode cX0_copyFrom 0 = .ok (.aload_n 0, 1) := by decide +kernel
theorem dX0_copyFrom_1 : decode cX0_copyFrom 1 = .ok (.getfield 14, 3) := by decide +kernel
theorem dX0_copyFrom_4 : decode cX0_copyFrom 4 = .ok (.aload_n 1, 1) := by decide +kernel
theorem dX0_copyFrom_5 : decode cX0_copyFrom 5 = .ok (.getfield 14, 3) := by decide +kernel
theorem dX0_copyFrom_8 : decode cX0_copyFrom 8 = .ok (.invokevirtual 53, 3) := by decide +kernel
theorem dX0_copyFrom_11 : decode cX0_copyFrom 11 = .ok (.aload_n 0, 1) := by decide +kernel
theorem dX0_copyFrom_12 : decode cX0_copyFrom 12 = .ok (.getfield 20, 3) := by decide +kernel
theorem dX0_copyFrom_15 : decode cX0_copyFrom 15 = .ok (.aload_n 1, 1) := by decide +kernel
theorem dX0_copyFrom_16 : decode cX0_copyFrom 16 = .ok (.getfield 20, 3) := by decide +kernel
theorem dX0_copyFrom_19 : decode cX0_copyFrom 19 = .ok (.invokevirtual 53, 3) := by decide +kernel
theorem dX0_copyFrom_22 : decode cX0_copyFrom 22 = .ok (.aload_n 0, 1) := by decide +kernel
theorem dX0_copyFrom_23 : decode cX0_copyFrom 23 = .ok (.getfield 23, 3) := by decide +kernel
theorem dX0_copyFrom_26 : decode cX0_copyFrom 26 = .ok (.aload_n 1, 1) := by decide +kernel
theorem dX0_copyFrom_27 : decode cX0_copyFrom 27 = .ok (.getfield 23, 3) := by decide +kernel
theorem dX0_copyFrom_30 : decode cX0_copyFrom 30 = .ok (.invokevirtual 53, 3) := by decide +kernel
theorem dX0_copyFrom_33 : decode cX0_copyFrom 33 = .ok (.aload_n 0, 1) := by decide +kernel
theorem dX0_copyFrom_34 : decode cX0_copyFrom 34 = .ok (.getfield 26, 3) := by decide +kernel
theorem dX0_copyFrom_37 : decode cX0_copyFrom 37 = .ok (.aload_n 1, 1) := by decide +kernel
theorem dX0_copyFrom_38 : decode cX0_copyFrom 38 = .ok (.getfield 26, 3) := by decide +kernel
theorem dX0_copyFrom_41 : decode cX0_copyFrom 41 = .ok (.invokevirtual 53, 3) := by decide +kernel
theorem dX0_copyFrom_44 : decode cX0_copyFrom 44 = .ok (.aload_n 0, 1) := by decide +kernel
theorem dX0_copyFrom_45 : decode cX0_copyFrom 45 = .ok (.aload_n 1, 1) := by decide +kernel
theorem dX0_copyFrom_46 : decode cX0_copyFrom 46 = .ok (.getfield 46, 3) := by decide +kernel
theorem dX0_copyFrom_49 : decode cX0_copyFrom 49 = .ok (.putfield 46, 3) := by decide +kernel
theorem dX0_copyFrom_52 : decode cX0_copyFrom 52 = .ok (.aload_n 0, 1) := by decide +kernel
theorem dX0_copyFrom_53 : decode cX0_copyFrom 53 = .ok (.aload_n 1, 1) := by decide +kernel
theorem dX0_copyFrom_54 : decode cX0_copyFrom 54 = .ok (.getfield 50, 3) := by decide +kernel
theorem dX0_copyFrom_57 : decode cX0_copyFrom 57 = .ok (.putfield 50, 3) := by decide +kernel
theorem dX0_copyFrom_60 : decode cX0_copyFrom 60 = .ok (.aload_n 0, 1) := by decide +kernel
theorem dX0_copyFrom_61 : decode cX0_copyFrom 61 = .ok (.aload_n 1, 1) := by decide +kernel
theorem dX0_copyFrom_62 : decode cX0_copyFrom 62 = .ok (.getfield 29, 3) := by decide +kernel
theorem dX0_copyFrom_65 : decode cX0_copyFrom 65 = .ok (.putfield 29, 3) := by decide +kernel
theorem dX0_copyFrom_68 : decode cX0_copyFrom 68 = .ok (.aload_n 0, 1) := by decide +kernel
theorem dX0_copyFrom_69 : decode cX0_copyFrom 69 = .ok (.aload_n 1, 1) := by decide +kernel
theorem dX0_copyFrom_70 : decode cX0_copyFrom 70 = .ok (.getfield 33, 3) := by decide +kernel
theorem dX0_copyFrom_73 : decode cX0_copyFrom 73 = .ok (.putfield 33, 3) := by decide +kernel
theorem dX0_copyFrom_76 : decode cX0_copyFrom 76 = .ok (.aload_n 0, 1) := by decide +kernel
theorem dX0_copyFrom_77 : decode cX0_copyFrom 77 = .ok (.aload_n 1, 1) := by decide +kernel
theorem dX0_copyFrom_78 : decode cX0_copyFrom 78 = .ok (.getfield 36, 3) := by decide +kernel
theorem dX0_copyFrom_81 : decode cX0_copyFrom 81 = .ok (.putfield 36, 3) := by decide +kernel
theorem dX0_copyFrom_84 : decode cX0_copyFrom 84 = .ok (.return_, 1) := by decide +kernel
theorem dX0_addParty_0 : decode cX0_addParty 0 = .ok (.aload_n 0, 1) := by decide +kernel
theorem dX0_addParty_1 : decode cX0_addParty 1 = .ok (.getfield 14, 3) := by decide +kernel
theorem dX0_addParty_4 : decode cX0_addParty 4 = .ok (.invokevirtual 39, 3) := by decide +kernel
theorem dX0_addParty_7 : decode cX0_addParty 7 = .ok (.istore 4, 2) := by decide +kernel
theorem dX0_addParty_9 : decode cX0_addParty 9 = .ok (.aload_n 0, 1) := by decide +kernel
theorem dX0_addParty_10 : decode cX0_addParty 10 = .ok (.getfield 14, 3) := by decide +kernel
theorem dX0_addParty_13 : decode cX0_addParty 13 = .ok (.iload 4, 2) := by decide +kernel
theorem dX0_addParty_15 : decode cX0_addParty 15 = .ok (.iconst 0, 1) := by decide +kernel
theorem dX0_addParty_16 : decode cX0_addParty 16 = .ok (.iload_n 1, 1) := by decide +kernel
theorem dX0_addParty_17 : decode cX0_addParty 17 = .ok (.invokevirtual 57, 3) := by decide +kernel
theorem dX0_addParty_20 : decode cX0_addParty 20 = .ok (.aload_n 0, 1) := by decide +kernel
theorem dX0_addParty_21 : decode cX0_addParty 21 = .ok (.getfield 14, 3) := by decide +kernel
theorem dX0_addParty_24 : decode cX0_addParty 24 = .ok (.iload 4, 2) := by decide +kernel
theorem dX0_addParty_26 : decode cX0_addParty 26 = .ok (.iconst 1, 1) := by decide +kernel
theorem dX0_addParty_27 : decode cX0_addParty 27 = .ok (.iload_n 2, 1) := by decide +kernel
theorem dX0_addParty_28 : decode cX0_addParty 28 = .ok (.invokevirtual 57, 3) := by decide +kernel
theorem dX0_addParty_31 : decode cX0_addParty 31 = .ok (.aload_n 0, 1) := by decide +kernel
theorem dX0_addParty_32 : decode cX0_addParty 32 = .ok (.getfield 14, 3) := by decide +kernel
theorem dX0_addParty_35 : decode cX0_addParty 35 = .ok (.iload 4, 2) := by decide +kernel
theorem dX0_addParty_37 : decode cX0_addParty 37 = .ok (.iconst 2, 1) := by decide +kernel
theorem dX0_addParty_38 : decode cX0_addParty 38 = .ok (.iload_n 3, 1) := by decide +kernel
theorem dX0_addParty_39 : decode cX0_addParty 39 = .ok (.invokevirtual 57, 3) := by decide +kernel
theorem dX0_addParty_42 : decode cX0_addParty 42 = .ok (.return_, 1) := by decide +kernel
theorem dX0_legsInState_0 : decode cX0_legsInState 0 = .ok (.iconst 0, 1) := by decide +kernel
theorem dX0_legsInState_1 : decode cX0_legsInState 1 = .ok (.istore_n 2, 1) := by decide +kernel
theorem dX0_legsInState_2 : decode cX0_legsInState 2 = .ok (.iconst 0, 1) := by decide +kernel
theorem dX0_legsInState_3 : decode cX0_legsInState 3 = .ok (.istore_n 3, 1) := by decide +kernel
theorem dX0_legsInState_4 : decode cX0_legsInState 4 = .ok (.iload_n 3, 1) := by decide +kernel
theorem dX0_legsInState_5 : decode cX0_legsInState 5 = .ok (.aload_n 0, 1) := by decide +kernel
theorem dX0_legsInState_6 : decode cX0_legsInState 6 = .ok (.getfield 23, 3) := by decide +kernel
theorem dX0_legsInState_9 : decode cX0_legsInState 9 = .ok (.getfield 61, 3) := by decide +kernel
theorem dX0_legsInState_12 : decode cX0_legsInState 12 = .ok (.if_icmp .ge 25, 3) := by decide +kernel
theorem dX0_legsInState_15 : decode cX0_legsInState 15 = .ok (.aload_n 0, 1) := by decide +kernel
theorem dX0_legsInState_16 : decode cX0_legsInState 16 = .ok (.getfield 23, 3) := by decide +kernel
theorem dX0_legsInState_19 : decode cX0_legsInState 19 = .ok (.iload_n 3, 1) := by decide +kernel
theorem dX0_legsInState_20 : decode cX0_legsInState 20 = .ok (.iconst 2, 1) := by decide +kernel
theorem dX0_legsInState_21 : decode cX0_legsInState 21 = .ok (.invokevirtual 64, 3) := by decide +kernel
theorem dX0_legsInState_24 : decode cX0_legsInState 24 = .ok (.iload_n 1, 1) := by decide +kernel
theorem dX0_legsInState_25 : decode cX0_legsInState 25 = .ok (.if_icmp .ne 6, 3) := by decide +kernel
theorem dX0_legsInState_28 : decode cX0_legsInState 28 = .ok (.iinc 2 1, 3) := by decide +kernel
theorem dX0_legsInState_31 : decode cX0_legsInState 31 = .ok (.iinc 3 1, 3) := by decide +kernel
theorem dX0_legsInState_34 : decode cX0_legsInState 34 = .ok (.goto (-30), 3) := by decide +kernel
theorem dX0_legsInState_37 : decode cX0_legsInState 37 = .ok (.iload_n 2, 1) := by decide +kernel
theorem dX0_legsInState_38 : decode cX0_legsInState 38 = .ok (.ireturn, 1) := by decide +kernel
theorem dX0_legsRingingAt_0 : decode cX0_legsRingingAt 0 = .ok (.iconst 0, 1) := by decide +kernel
theorem dX0_legsRingingAt_1 : decode cX0_legsRingingAt 1 = .ok (.istore_n 2, 1) := by decide +kernel
theorem dX0_legsRingingAt_2 : decode cX0_legsRingingAt 2 = .ok (.iconst 0, 1) := by decide +kernel
theorem dX0_legsRingingAt_3 : decode cX0_legsRingingAt 3 = .ok (.istore_n 3, 1) := by decide +kernel
theorem dX0_legsRingingAt_4 : decode cX0_legsRingingAt 4 = .ok (.iload_n 3, 1) := by decide +kernel
theorem dX0_legsRingingAt_5 : decode cX0_legsRingingAt 5 = .ok (.aload_n 0, 1) := by decide +kernel
theorem dX0_legsRingingAt_6 : decode cX0_legsRingingAt 6 = .ok (.getfield 23, 3) := by decide +kernel
theorem dX0_legsRingingAt_9 : decode cX0_legsRingingAt 9 = .ok (.getfield 61, 3) := by decide +kernel
theorem dX0_legsRingingAt_12 : decode cX0_legsRingingAt 12 = .ok (.if_icmp .ge 21, 3) := by decide +kernel
theorem dX0_legsRingingAt_15 : decode cX0_legsRingingAt 15 = .ok (.aload_n 0, 1) := by decide +kernel
theorem dX0_legsRingingAt_16 : decode cX0_legsRingingAt 16 = .ok (.iload_n 3, 1) := by decide +kernel
theorem dX0_legsRingingAt_17 : decode cX0_legsRingingAt 17 = .ok (.iload_n 1, 1) := by decide +kernel
theorem dX0_legsRingingAt_18 : decode cX0_legsRingingAt 18 = .ok (.invokevirtual 68, 3) := by decide +kernel
theorem dX0_legsRingingAt_21 : decode cX0_legsRingingAt 21 = .ok (.ifCond .eq 6, 3) := by decide +kernel
theorem dX0_legsRingingAt_24 : decode cX0_legsRingingAt 24 = .ok (.iinc 2 1, 3) := by decide +kernel
theorem dX0_legsRingingAt_27 : decode cX0_legsRingingAt 27 = .ok (.iinc 3 1, 3) := by decide +kernel
theorem dX0_legsRingingAt_30 : decode cX0_legsRingingAt 30 = .ok (.goto (-26), 3) := by decide +kernel
theorem dX0_legsRingingAt_33 : decode cX0_legsRingingAt 33 = .ok (.iload_n 2, 1) := by decide +kernel
theorem dX0_legsRingingAt_34 : decode cX0_legsRingingAt 34 = .ok (.ireturn, 1) := by decide +kernel
theorem dX0_hasRoomFor_0 : decode cX0_hasRoomFor 0 = .ok (.aload_n 0, 1) := by decide +kernel
theorem dX0_hasRoomFor_1 : decode cX0_hasRoomFor 1 = .ok (.getfield 20, 3) := by decide +kernel
theorem dX0_hasRoomFor_4 : decode cX0_hasRoomFor 4 = .ok (.getfield 61, 3) := by decide +kernel
theorem dX0_hasRoomFor_7 : decode cX0_hasRoomFor 7 = .ok (.bipush 20, 2) := by decide +kernel
theorem dX0_hasRoomFor_9 : decode cX0_hasRoomFor 9 = .ok (.if_icmp .ge 21, 3) := by decide +kernel
theorem dX0_hasRoomFor_12 : decode cX0_hasRoomFor 12 = .ok (.aload_n 0, 1) := by decide +kernel
theorem dX0_hasRoomFor_13 : decode cX0_hasRoomFor 13 = .ok (.getfield 23, 3) := by decide +kernel
theorem dX0_hasRoomFor_16 : decode cX0_hasRoomFor 16 = .ok (.getfield 61, 3) := by decide +kernel
theorem dX0_hasRoomFor_19 : decode cX0_hasRoomFor 19 = .ok (.iload_n 1, 1) := by decide +kernel
theorem dX0_hasRoomFor_20 : decode cX0_hasRoomFor 20 = .ok (.iadd, 1) := by decide +kernel
theorem dX0_hasRoomFor_21 : decode cX0_hasRoomFor 21 = .ok (.bipush 40, 2) := by decide +kernel
theorem dX0_hasRoomFor_23 : decode cX0_hasRoomFor 23 = .ok (.if_icmp .gt 7, 3) := by decide +kernel
theorem dX0_hasRoomFor_26 : decode cX0_hasRoomFor 26 = .ok (.iconst 1, 1) := by decide +kernel
theorem dX0_hasRoomFor_27 : decode cX0_hasRoomFor 27 = .ok (.goto 4, 3) := by decide +kernel
theorem dX0_hasRoomFor_30 : decode cX0_hasRoomFor 30 = .ok (.iconst 0, 1) := by decide +kernel
theorem dX0_hasRoomFor_31 : decode cX0_hasRoomFor 31 = .ok (.ireturn, 1) := by decide +kernel
theorem dX0_isEngaged_0 : decode cX0_isEngaged 0 = .ok (.iconst 0, 1) := by decide +kernel
theorem dX0_isEngaged_1 : decode cX0_isEngaged 1 = .ok (.istore_n 2, 1) := by decide +kernel
theorem dX0_isEngaged_2 : decode cX0_isEngaged 2 = .ok (.iload_n 2, 1) := by decide +kernel
theorem dX0_isEngaged_3 : decode cX0_isEngaged 3 = .ok (.aload_n 0, 1) := by decide +kernel
theorem dX0_isEngaged_4 : decode cX0_isEngaged 4 = .ok (.getfield 23, 3) := by decide +kernel
theorem dX0_isEngaged_7 : decode cX0_isEngaged 7 = .ok (.getfield 61, 3) := by decide +kernel
theorem dX0_isEngaged_10 : decode cX0_isEngaged 10 = .ok (.if_icmp .ge 60, 3) := by decide +kernel
theorem dX0_isEngaged_13 : decode cX0_isEngaged 13 = .ok (.aload_n 0, 1) := by decide +kernel
theorem dX0_isEngaged_14 : decode cX0_isEngaged 14 = .ok (.getfield 23, 3) := by decide +kernel
theorem dX0_isEngaged_17 : decode cX0_isEngaged 17 = .ok (.iload_n 2, 1) := by decide +kernel
theorem dX0_isEngaged_18 : decode cX0_isEngaged 18 = .ok (.iconst 2, 1) := by decide +kernel
theorem dX0_isEngaged_19 : decode cX0_isEngaged 19 = .ok (.invokevirtual 64, 3) := by decide +kernel
theorem dX0_isEngaged_22 : decode cX0_isEngaged 22 = .ok (.istore_n 3, 1) := by decide +kernel
theorem dX0_isEngaged_23 : decode cX0_isEngaged 23 = .ok (.iload_n 3, 1) := by decide +kernel
theorem dX0_isEngaged_24 : decode cX0_isEngaged 24 = .ok (.iconst 3, 1) := by decide +kernel
theorem dX0_isEngaged_25 : decode cX0_isEngaged 25 = .ok (.if_icmp .eq 14, 3) := by decide +kernel
theorem dX0_isEngaged_28 : decode cX0_isEngaged 28 = .ok (.aload_n 0, 1) := by decide +kernel
theorem dX0_isEngaged_29 : decode cX0_isEngaged 29 = .ok (.iload_n 2, 1) := by decide +kernel
theorem dX0_isEngaged_30 : decode cX0_isEngaged 30 = .ok (.invokevirtual 72, 3) := by decide +kernel
theorem dX0_isEngaged_33 : decode cX0_isEngaged 33 = .ok (.iload_n 1, 1) := by decide +kernel
theorem dX0_isEngaged_34 : decode cX0_isEngaged 34 = .ok (.if_icmp .ne 5, 3) := by decide +kernel
theorem dX0_isEngaged_37 : decode cX0_isEngaged 37 = .ok (.iconst 1, 1) := by decide +kernel
theorem dX0_isEngaged_38 : decode cX0_isEngaged 38 = .ok (.ireturn, 1) := by decide +kernel
theorem dX0_isEngaged_39 : decode cX0_isEngaged 39 = .ok (.iload_n 3, 1) := by decide +kernel
theorem dX0_isEngaged_40 : decode cX0_isEngaged 40 = .ok (.iconst 1, 1) := by decide +kernel
theorem dX0_isEngaged_41 : decode cX0_isEngaged 41 = .ok (.if_icmp .eq 8, 3) := by decide +kernel
theorem dX0_isEngaged_44 : decode cX0_isEngaged 44 = .ok (.iload_n 3, 1) := by decide +kernel
theorem dX0_isEngaged_45 : decode cX0_isEngaged 45 = .ok (.iconst 2, 1) := by decide +kernel
theorem dX0_isEngaged_46 : decode cX0_isEngaged 46 = .ok (.if_icmp .ne 18, 3) := by decide +kernel
theorem dX0_isEngaged_49 : decode cX0_isEngaged 49 = .ok (.aload_n 0, 1) := by decide +kernel
theorem dX0_isEngaged_50 : decode cX0_isEngaged 50 = .ok (.getfield 23, 3) := by decide +kernel
theorem dX0_isEngaged_53 : decode cX0_isEngaged 53 = .ok (.iload_n 2, 1) := by decide +kernel
theorem dX0_isEngaged_54 : decode cX0_isEngaged 54 = .ok (.iconst 1, 1) := by decide +kernel
theorem dX0_isEngaged_55 : decode cX0_isEngaged 55 = .ok (.invokevirtual 64, 3) := by decide +kernel
theorem dX0_isEngaged_58 : decode cX0_isEngaged 58 = .ok (.iload_n 1, 1) := by decide +kernel
theorem dX0_isEngaged_59 : decode cX0_isEngaged 59 = .ok (.if_icmp .ne 5, 3) := by decide +kernel
theorem dX0_isEngaged_62 : decode cX0_isEngaged 62 = .ok (.iconst 1, 1) := by decide +kernel
theorem dX0_isEngaged_63 : decode cX0_isEngaged 63 = .ok (.ireturn, 1) := by decide +kernel
theorem dX0_isEngaged_64 : decode cX0_isEngaged 64 = .ok (.iinc 2 1, 3) := by decide +kernel
theorem dX0_isEngaged_67 : decode cX0_isEngaged 67 = .ok (.goto (-65), 3) := by decide +kernel
theorem dX0_isEngaged_70 : decode cX0_isEngaged 70 = .ok (.iconst 0, 1) := by decide +kernel
theorem dX0_isEngaged_71 : decode cX0_isEngaged 71 = .ok (.ireturn, 1) := by decide +kernel
theorem dX0_legOf_0 : decode cX0_legOf 0 = .ok (.iconst 0, 1) := by decide +kernel
theorem dX0_legOf_1 : decode cX0_legOf 1 = .ok (.istore_n 3, 1) := by decide +kernel
theorem dX0_legOf_2 : decode cX0_legOf 2 = .ok (.iload_n 3, 1) := by decide +kernel
theorem dX0_legOf_3 : decode cX0_legOf 3 = .ok (.aload_n 0, 1) := by decide +kernel
theorem dX0_legOf_4 : decode cX0_legOf 4 = .ok (.getfield 23, 3) := by decide +kernel
theorem dX0_legOf_7 : decode cX0_legOf 7 = .ok (.getfield 61, 3) := by decide +kernel
theorem dX0_legOf_10 : decode cX0_legOf 10 = .ok (.if_icmp .ge 33, 3) := by decide +kernel
theorem dX0_legOf_13 : decode cX0_legOf 13 = .ok (.aload_n 0, 1) := by decide +kernel
theorem dX0_legOf_14 : decode cX0_legOf 14 = .ok (.getfield 23, 3) := by decide +kernel
theorem dX0_legOf_17 : decode cX0_legOf 17 = .ok (.iload_n 3, 1) := by decide +kernel
theorem dX0_legOf_18 : decode cX0_legOf 18 = .ok (.iconst 2, 1) := by decide +kernel
theorem dX0_legOf_19 : decode cX0_legOf 19 = .ok (.invokevirtual 64, 3) := by decide +kernel
theorem dX0_legOf_22 : decode cX0_legOf 22 = .ok (.iload_n 2, 1) := by decide +kernel
theorem dX0_legOf_23 : decode cX0_legOf 23 = .ok (.if_icmp .ne 14, 3) := by decide +kernel
theorem dX0_legOf_26 : decode cX0_legOf 26 = .ok (.aload_n 0, 1) := by decide +kernel
theorem dX0_legOf_27 : decode cX0_legOf 27 = .ok (.iload_n 3, 1) := by decide +kernel
theorem dX0_legOf_28 : decode cX0_legOf 28 = .ok (.iload_n 1, 1) := by decide +kernel
theorem dX0_legOf_29 : decode cX0_legOf 29 = .ok (.invokevirtual 76, 3) := by decide +kernel
theorem dX0_legOf_32 : decode cX0_legOf 32 = .ok (.ifCond .eq 5, 3) := by decide +kernel
theorem dX0_legOf_35 : decode cX0_legOf 35 = .ok (.iload_n 3, 1) := by decide +kernel
theorem dX0_legOf_36 : decode cX0_legOf 36 = .ok (.ireturn, 1) := by decide +kernel
theorem dX0_legOf_37 : decode cX0_legOf 37 = .ok (.iinc 3 1, 3) := by decide +kernel
theorem dX0_legOf_40 : decode cX0_legOf 40 = .ok (.goto (-38), 3) := by decide +kernel
theorem dX0_legOf_43 : decode cX0_legOf 43 = .ok (.iconst (-1), 1) := by decide +kernel
theorem dX0_legOf_44 : decode cX0_legOf 44 = .ok (.ireturn, 1) := by decide +kernel
theorem dX0_isIn_0 : decode cX0_isIn 0 = .ok (.aload_n 0, 1) := by decide +kernel
theorem dX0_isIn_1 : decode cX0_isIn 1 = .ok (.iload_n 1, 1) := by decide +kernel
theorem dX0_isIn_2 : decode cX0_isIn 2 = .ok (.invokevirtual 72, 3) := by decide +kernel
theorem dX0_isIn_5 : decode cX0_isIn 5 = .ok (.iload_n 2, 1) := by decide +kernel
theorem dX0_isIn_6 : decode cX0_isIn 6 = .ok (.if_icmp .eq 16, 3) := by decide +kernel
theorem dX0_isIn_9 : decode cX0_isIn 9 = .ok (.aload_n 0, 1) := by decide +kernel
theorem dX0_isIn_10 : decode cX0_isIn 10 = .ok (.getfield 23, 3) := by decide +kernel
theorem dX0_isIn_13 : decode cX0_isIn 13 = .ok (.iload_n 1, 1) := by decide +kernel
theorem dX0_isIn_14 : decode cX0_isIn 14 = .ok (.iconst 1, 1) := by decide +kernel
theorem dX0_isIn_15 : decode cX0_isIn 15 = .ok (.invokevirtual 64, 3) := by decide +kernel
theorem dX0_isIn_18 : decode cX0_isIn 18 = .ok (.iload_n 2, 1) := by decide +kernel
theorem dX0_isIn_19 : decode cX0_isIn 19 = .ok (.if_icmp .ne 7, 3) := by decide +kernel
theorem dX0_isIn_22 : decode cX0_isIn 22 = .ok (.iconst 1, 1) := by decide +kernel
theorem dX0_isIn_23 : decode cX0_isIn 23 = .ok (.goto 4, 3) := by decide +kernel
theorem dX0_isIn_26 : decode cX0_isIn 26 = .ok (.iconst 0, 1) := by decide +kernel
theorem dX0_isIn_27 : decode cX0_isIn 27 = .ok (.ireturn, 1) := by decide +kernel
theorem dX0_sideOf_0 : decode cX0_sideOf 0 = .ok (.aload_n 0, 1) := by decide +kernel
theorem dX0_sideOf_1 : decode cX0_sideOf 1 = .ok (.iload_n 1, 1) := by decide +kernel
theorem dX0_sideOf_2 : decode cX0_sideOf 2 = .ok (.invokevirtual 72, 3) := by decide +kernel
theorem dX0_sideOf_5 : decode cX0_sideOf 5 = .ok (.iload_n 2, 1) := by decide +kernel
theorem dX0_sideOf_6 : decode cX0_sideOf 6 = .ok (.if_icmp .ne 7, 3) := by decide +kernel
theorem dX0_sideOf_9 : decode cX0_sideOf 9 = .ok (.iconst 0, 1) := by decide +kernel
theorem dX0_sideOf_10 : decode cX0_sideOf 10 = .ok (.goto 4, 3) := by decide +kernel
theorem dX0_sideOf_13 : decode cX0_sideOf 13 = .ok (.iconst 1, 1) := by decide +kernel
theorem dX0_sideOf_14 : decode cX0_sideOf 14 = .ok (.ireturn, 1) := by decide +kernel
theorem dX0_rings_0 : decode cX0_rings 0 = .ok (.aload_n 0, 1) := by decide +kernel
theorem dX0_rings_1 : decode cX0_rings 1 = .ok (.getfield 20, 3) := by decide +kernel
theorem dX0_rings_4 : decode cX0_rings 4 = .ok (.iload_n 1, 1) := by decide +kernel
theorem dX0_rings_5 : decode cX0_rings 5 = .ok (.bipush 6, 2) := by decide +kernel
theorem dX0_rings_7 : decode cX0_rings 7 = .ok (.invokevirtual 64, 3) := by decide +kernel
theorem dX0_rings_10 : decode cX0_rings 10 = .ok (.istore_n 2, 1) := by decide +kernel
theorem dX0_rings_11 : decode cX0_rings 11 = .ok (.iload_n 2, 1) := by decide +kernel
theorem dX0_rings_12 : decode cX0_rings 12 = .ok (.aload_n 0, 1) := by decide +kernel
theorem dX0_rings_13 : decode cX0_rings 13 = .ok (.getfield 20, 3) := by decide +kernel
theorem dX0_rings_16 : decode cX0_rings 16 = .ok (.iload_n 1, 1) := by decide +kernel
theorem dX0_rings_17 : decode cX0_rings 17 = .ok (.bipush 7, 2) := by decide +kernel
theorem dX0_rings_19 : decode cX0_rings 19 = .ok (.invokevirtual 64, 3) := by decide +kernel
theorem dX0_rings_22 : decode cX0_rings 22 = .ok (.if_icmp .ge 23, 3) := by decide +kernel
theorem dX0_rings_25 : decode cX0_rings 25 = .ok (.aload_n 0, 1) := by decide +kernel
theorem dX0_rings_26 : decode cX0_rings 26 = .ok (.getfield 23, 3) := by decide +kernel
theorem dX0_rings_29 : decode cX0_rings 29 = .ok (.iload_n 2, 1) := by decide +kernel
theorem dX0_rings_30 : decode cX0_rings 30 = .ok (.iconst 2, 1) := by decide +kernel
theorem dX0_rings_31 : decode cX0_rings 31 = .ok (.invokevirtual 64, 3) := by decide +kernel
theorem dX0_rings_34 : decode cX0_rings 34 = .ok (.ifCond .ne 5, 3) := by decide +kernel
theorem dX0_rings_37 : decode cX0_rings 37 = .ok (.iconst 1, 1) := by decide +kernel
theorem dX0_rings_38 : decode cX0_rings 38 = .ok (.ireturn, 1) := by decide +kernel
theorem dX0_rings_39 : decode cX0_rings 39 = .ok (.iinc 2 1, 3) := by decide +kernel
theorem dX0_rings_42 : decode cX0_rings 42 = .ok (.goto (-31), 3) := by decide +kernel
theorem dX0_rings_45 : decode cX0_rings 45 = .ok (.iconst 0, 1) := by decide +kernel
theorem dX0_rings_46 : decode cX0_rings 46 = .ok (.ireturn, 1) := by decide +kernel
theorem dX0_beginCall_0 : decode cX0_beginCall 0 = .ok (.aload_n 0, 1) := by decide +kernel
theorem dX0_beginCall_1 : decode cX0_beginCall 1 = .ok (.getfield 20, 3) := by decide +kernel
theorem dX0_beginCall_4 : decode cX0_beginCall 4 = .ok (.invokevirtual 39, 3) := by decide +kernel
theorem dX0_beginCall_7 : decode cX0_beginCall 7 = .ok (.istore 4, 2) := by decide +kernel
theorem dX0_beginCall_9 : decode cX0_beginCall 9 = .ok (.iload_n 2, 1) := by decide +kernel
theorem dX0_beginCall_10 : decode cX0_beginCall 10 = .ok (.invokestatic 79, 3) := by decide +kernel
theorem dX0_beginCall_13 : decode cX0_beginCall 13 = .ok (.istore 5, 2) := by decide +kernel
theorem dX0_beginCall_15 : decode cX0_beginCall 15 = .ok (.iload_n 3, 1) := by decide +kernel
theorem dX0_beginCall_16 : decode cX0_beginCall 16 = .ok (.iconst (-1), 1) := by decide +kernel
theorem dX0_beginCall_17 : decode cX0_beginCall 17 = .ok (.if_icmp .ne 7, 3) := by decide +kernel
theorem dX0_beginCall_20 : decode cX0_beginCall 20 = .ok (.iconst 0, 1) := by decide +kernel
theorem dX0_beginCall_21 : decode cX0_beginCall 21 = .ok (.goto 4, 3) := by decide +kernel
theorem dX0_beginCall_24 : decode cX0_beginCall 24 = .ok (.iconst 1, 1) := by decide +kernel
theorem dX0_beginCall_25 : decode cX0_beginCall 25 = .ok (.istore 6, 2) := by decide +kernel
theorem dX0_beginCall_27 : decode cX0_beginCall 27 = .ok (.aload_n 0, 1) := by decide +kernel
theorem dX0_beginCall_28 : decode cX0_beginCall 28 = .ok (.getfield 20, 3) := by decide +kernel
theorem dX0_beginCall_31 : decode cX0_beginCall 31 = .ok (.iload 4, 2) := by decide +kernel
theorem dX0_beginCall_33 : decode cX0_beginCall 33 = .ok (.iconst 0, 1) := by decide +kernel
theorem dX0_beginCall_34 : decode cX0_beginCall 34 = .ok (.iload_n 1, 1) := by decide +kernel
theorem dX0_beginCall_35 : decode cX0_beginCall 35 = .ok (.invokevirtual 57, 3) := by decide +kernel
theorem dX0_beginCall_38 : decode cX0_beginCall 38 = .ok (.aload_n 0, 1) := by decide +kernel
theorem dX0_beginCall_39 : decode cX0_beginCall 39 = .ok (.getfield 20, 3) := by decide +kernel
theorem dX0_beginCall_42 : decode cX0_beginCall 42 = .ok (.iload 4, 2) := by decide +kernel
theorem dX0_beginCall_44 : decode cX0_beginCall 44 = .ok (.iconst 1, 1) := by decide +kernel
theorem dX0_beginCall_45 : decode cX0_beginCall 45 = .ok (.aload_n 0, 1) := by decide +kernel
theorem dX0_beginCall_46 : decode cX0_beginCall 46 = .ok (.getfield 50, 3) := by decide +kernel
theorem dX0_beginCall_49 : decode cX0_beginCall 49 = .ok (.invokevirtual 57, 3) := by decide +kernel
theorem dX0_beginCall_52 : decode cX0_beginCall 52 = .ok (.aload_n 0, 1) := by decide +kernel
theorem dX0_beginCall_53 : decode cX0_beginCall 53 = .ok (.getfield 20, 3) := by decide +kernel
theorem dX0_beginCall_56 : decode cX0_beginCall 56 = .ok (.iload 4, 2) := by decide +kernel
theorem dX0_beginCall_58 : decode cX0_beginCall 58 = .ok (.iconst 2, 1) := by decide +kernel
theorem dX0_beginCall_59 : decode cX0_beginCall 59 = .ok (.aload_n 0, 1) := by decide +kernel
theorem dX0_beginCall_60 : decode cX0_beginCall 60 = .ok (.iload 5, 2) := by decide +kernel
theorem dX0_beginCall_62 : decode cX0_beginCall 62 = .ok (.iload_n 1, 1) := by decide +kernel
theorem dX0_beginCall_63 : decode cX0_beginCall 63 = .ok (.iload 6, 2) := by decide +kernel
theorem dX0_beginCall_65 : decode cX0_beginCall 65 = .ok (.invokevirtual 84, 3) := by decide +kernel
theorem dX0_beginCall_68 : decode cX0_beginCall 68 = .ok (.invokevirtual 57, 3) := by decide +kernel
theorem dX0_beginCall_71 : decode cX0_beginCall 71 = .ok (.aload_n 0, 1) := by decide +kernel
theorem dX0_beginCall_72 : decode cX0_beginCall 72 = .ok (.getfield 20, 3) := by decide +kernel
theorem dX0_beginCall_75 : decode cX0_beginCall 75 = .ok (.iload 4, 2) := by decide +kernel
theorem dX0_beginCall_77 : decode cX0_beginCall 77 = .ok (.iconst 3, 1) := by decide +kernel
theorem dX0_beginCall_78 : decode cX0_beginCall 78 = .ok (.iload_n 3, 1) := by decide +kernel
theorem dX0_beginCall_79 : decode cX0_beginCall 79 = .ok (.invokevirtual 57, 3) := by decide +kernel
theorem dX0_beginCall_82 : decode cX0_beginCall 82 = .ok (.aload_n 0, 1) := by decide +kernel
theorem dX0_beginCall_83 : decode cX0_beginCall 83 = .ok (.getfield 20, 3) := by decide +kernel
theorem dX0_beginCall_86 : decode cX0_beginCall 86 = .ok (.iload 4, 2) := by decide +kernel
theorem dX0_beginCall_88 : decode cX0_beginCall 88 = .ok (.iconst 5, 1) := by decide +kernel
theorem dX0_beginCall_89 : decode cX0_beginCall 89 = .ok (.iconst (-1), 1) := by decide +kernel
theorem dX0_beginCall_90 : decode cX0_beginCall 90 = .ok (.invokevirtual 57, 3) := by decide +kernel
theorem dX0_beginCall_93 : decode cX0_beginCall 93 = .ok (.aload_n 0, 1) := by decide +kernel
theorem dX0_beginCall_94 : decode cX0_beginCall 94 = .ok (.getfield 20, 3) := by decide +kernel
theorem dX0_beginCall_97 : decode cX0_beginCall 97 = .ok (.iload 4, 2) := by decide +kernel
theorem dX0_beginCall_99 : decode cX0_beginCall 99 = .ok (.bipush 6, 2) := by decide +kernel
theorem dX0_beginCall_101 : decode cX0_beginCall 101 = .ok (.aload_n 0, 1) := by decide +kernel
theorem dX0_beginCall_102 : decode cX0_beginCall 102 = .ok (.getfield 23, 3) := by decide +kernel
theorem dX0_beginCall_105 : decode cX0_beginCall 105 = .ok (.getfield 61, 3) := by decide +kernel
theorem dX0_beginCall_108 : decode cX0_beginCall 108 = .ok (.invokevirtual 57, 3) := by decide +kernel
theorem dX0_beginCall_111 : decode cX0_beginCall 111 = .ok (.aload_n 0, 1) := by decide +kernel
theorem dX0_beginCall_112 : decode cX0_beginCall 112 = .ok (.getfield 20, 3) := by decide +kernel
theorem dX0_beginCall_115 : decode cX0_beginCall 115 = .ok (.iload 4, 2) := by decide +kernel
theorem dX0_beginCall_117 : decode cX0_beginCall 117 = .ok (.bipush 7, 2) := by decide +kernel
theorem dX0_beginCall_119 : decode cX0_beginCall 119 = .ok (.aload_n 0, 1) := by decide +kernel
theorem dX0_beginCall_120 : decode cX0_beginCall 120 = .ok (.getfield 23, 3) := by decide +kernel
theorem dX0_beginCall_123 : decode cX0_beginCall 123 = .ok (.getfield 61, 3) := by decide +kernel
theorem dX0_beginCall_126 : decode cX0_beginCall 126 = .ok (.iload 5, 2) := by decide +kernel
theorem dX0_beginCall_128 : decode cX0_beginCall 128 = .ok (.iadd, 1) := by decide +kernel
theorem dX0_beginCall_129 : decode cX0_beginCall 129 = .ok (.invokevirtual 57, 3) := by decide +kernel
theorem dX0_beginCall_132 : decode cX0_beginCall 132 = .ok (.iconst 0, 1) := by decide +kernel
theorem dX0_beginCall_133 : decode cX0_beginCall 133 = .ok (.istore 7, 2) := by decide +kernel
theorem dX0_beginCall_135 : decode cX0_beginCall 135 = .ok (.iconst 0, 1) := by decide +kernel
theorem dX0_beginCall_136 : decode cX0_beginCall 136 = .ok (.istore 8, 2) := by decide +kernel
theorem dX0_beginCall_138 : decode cX0_beginCall 138 = .ok (.iload 8, 2) := by decide +kernel
theorem dX0_beginCall_140 : decode cX0_beginCall 140 = .ok (.aload_n 0, 1) := by decide +kernel
theorem dX0_beginCall_141 : decode cX0_beginCall 141 = .ok (.getfield 14, 3) := by decide +kernel
theorem dX0_beginCall_144 : decode cX0_beginCall 144 = .ok (.getfield 61, 3) := by decide +kernel
theorem dX0_beginCall_147 : decode cX0_beginCall 147 = .ok (.if_icmp .ge 31, 3) := by decide +kernel
theorem dX0_beginCall_150 : decode cX0_beginCall 150 = .ok (.iload_n 2, 1) := by decide +kernel
theorem dX0_beginCall_151 : decode cX0_beginCall 151 = .ok (.iload 8, 2) := by decide +kernel
theorem dX0_beginCall_153 : decode cX0_beginCall 153 = .ok (.ishr, 1) := by decide +kernel
theorem dX0_beginCall_154 : decode cX0_beginCall 154 = .ok (.iconst 1, 1) := by decide +kernel
theorem dX0_beginCall_155 : decode cX0_beginCall 155 = .ok (.iand, 1) := by decide +kernel
theorem dX0_beginCall_156 : decode cX0_beginCall 156 = .ok (.ifCond .eq 16, 3) := by decide +kernel
theorem dX0_beginCall_159 : decode cX0_beginCall 159 = .ok (.iload 7, 2) := by decide +kernel
theorem dX0_beginCall_161 : decode cX0_beginCall 161 = .ok (.aload_n 0, 1) := by decide +kernel
theorem dX0_beginCall_162 : decode cX0_beginCall 162 = .ok (.iload 4, 2) := by decide +kernel
theorem dX0_beginCall_164 : decode cX0_beginCall 164 = .ok (.iload 8, 2) := by decide +kernel
theorem dX0_beginCall_166 : decode cX0_beginCall 166 = .ok (.invokevirtual 88, 3) := by decide +kernel
theorem dX0_beginCall_169 : decode cX0_beginCall 169 = .ok (.iadd, 1) := by decide +kernel
theorem dX0_beginCall_170 : decode cX0_beginCall 170 = .ok (.istore 7, 2) := by decide +kernel
theorem dX0_beginCall_172 : decode cX0_beginCall 172 = .ok (.iinc 8 1, 3) := by decide +kernel
theorem dX0_beginCall_175 : decode cX0_beginCall 175 = .ok (.goto (-37), 3) := by decide +kernel
theorem dX0_beginCall_178 : decode cX0_beginCall 178 = .ok (.iload 7, 2) := by decide +kernel
theorem dX0_beginCall_180 : decode cX0_beginCall 180 = .ok (.ifCond .ne 9, 3) := by decide +kernel
theorem dX0_beginCall_183 : decode cX0_beginCall 183 = .ok (.aload_n 0, 1) := by decide +kernel
theorem dX0_beginCall_184 : decode cX0_beginCall 184 = .ok (.iload 4, 2) := by decide +kernel
theorem dX0_beginCall_186 : decode cX0_beginCall 186 = .ok (.invokevirtual 91, 3) := by decide +kernel
theorem dX0_beginCall_189 : decode cX0_beginCall 189 = .ok (.iload 7, 2) := by decide +kernel
theorem dX0_beginCall_191 : decode cX0_beginCall 191 = .ok (.ireturn, 1) := by decide +kernel
theorem dX0_referOtherParty_0 : decode cX0_referOtherParty 0 = .ok (.aload_n 0, 1) := by decide +kernel
theorem dX0_referOtherParty_1 : decode cX0_referOtherParty 1 = .ok (.iload_n 1, 1) := by decide +kernel
theorem dX0_referOtherParty_2 : decode cX0_referOtherParty 2 = .ok (.iconst 1, 1) := by decide +kernel
theorem dX0_referOtherParty_3 : decode cX0_referOtherParty 3 = .ok (.aload_n 0, 1) := by decide +kernel
theorem dX0_referOtherParty_4 : decode cX0_referOtherParty 4 = .ok (.iload_n 1, 1) := by decide +kernel
theorem dX0_referOtherParty_5 : decode cX0_referOtherParty 5 = .ok (.iload_n 2, 1) := by decide +kernel
theorem dX0_referOtherParty_6 : decode cX0_referOtherParty 6 = .ok (.invokevirtual 95, 3) := by decide +kernel
theorem dX0_referOtherParty_9 : decode cX0_referOtherParty 9 = .ok (.isub, 1) := by decide +kernel
theorem dX0_referOtherParty_10 : decode cX0_referOtherParty 10 = .ok (.invokevirtual 98, 3) := by decide +kernel
theorem dX0_referOtherParty_13 : decode cX0_referOtherParty 13 = .ok (.istore 4, 2) := by decide +kernel
theorem dX0_referOtherParty_15 : decode cX0_referOtherParty 15 = .ok (.aload_n 0, 1) := by decide +kernel
theorem dX0_referOtherParty_16 : decode cX0_referOtherParty 16 = .ok (.getfield 23, 3) := by decide +kernel
theorem dX0_referOtherParty_19 : decode cX0_referOtherParty 19 = .ok (.iload_n 1, 1) := by decide +kernel
theorem dX0_referOtherParty_20 : decode cX0_referOtherParty 20 = .ok (.iconst 2, 1) := by decide +kernel
theorem dX0_referOtherParty_21 : decode cX0_referOtherParty 21 = .ok (.iconst 2, 1) := by decide +kernel
theorem dX0_referOtherParty_22 : decode cX0_referOtherParty 22 = .ok (.invokevirtual 57, 3) := by decide +kernel
theorem dX0_referOtherParty_25 : decode cX0_referOtherParty 25 = .ok (.aload_n 0, 1) := by decide +kernel
theorem dX0_referOtherParty_26 : decode cX0_referOtherParty 26 = .ok (.iload_n 1, 1) := by decide +kernel
theorem dX0_referOtherParty_27 : decode cX0_referOtherParty 27 = .ok (.invokevirtual 101, 3) := by decide +kernel
theorem dX0_referOtherParty_30 : decode cX0_referOtherParty 30 = .ok (.aload_n 0, 1) := by decide +kernel
theorem dX0_referOtherParty_31 : decode cX0_referOtherParty 31 = .ok (.iload 4, 2) := by decide +kernel
theorem dX0_referOtherParty_33 : decode cX0_referOtherParty 33 = .ok (.iconst 1, 1) := by decide +kernel
theorem dX0_referOtherParty_34 : decode cX0_referOtherParty 34 = .ok (.iload_n 3, 1) := by decide +kernel
theorem dX0_referOtherParty_35 : decode cX0_referOtherParty 35 = .ok (.ishl, 1) := by decide +kernel
theorem dX0_referOtherParty_36 : decode cX0_referOtherParty 36 = .ok (.iload_n 1, 1) := by decide +kernel
theorem dX0_referOtherParty_37 : decode cX0_referOtherParty 37 = .ok (.invokevirtual 104, 3) := by decide +kernel
theorem dX0_referOtherParty_40 : decode cX0_referOtherParty 40 = .ok (.ireturn, 1) := by decide +kernel
theorem dX0_leave_0 : decode cX0_leave 0 = .ok (.aload_n 0, 1) := by decide +kernel
theorem dX0_leave_1 : decode cX0_leave 1 = .ok (.iload_n 1, 1) := by decide +kernel
theorem dX0_leave_2 : decode cX0_leave 2 = .ok (.iconst 1, 1) := by decide +kernel
theorem dX0_leave_3 : decode cX0_leave 3 = .ok (.invokevirtual 107, 3) := by decide +kernel
theorem dX0_leave_6 : decode cX0_leave 6 = .ok (.istore_n 2, 1) := by decide +kernel
theorem dX0_leave_7 : decode cX0_leave 7 = .ok (.iload_n 2, 1) := by decide +kernel
theorem dX0_leave_8 : decode cX0_leave 8 = .ok (.iconst (-1), 1) := by decide +kernel
theorem dX0_leave_9 : decode cX0_leave 9 = .ok (.if_icmp .eq 12, 3) := by decide +kernel
theorem dX0_leave_12 : decode cX0_leave 12 = .ok (.aload_n 0, 1) := by decide +kernel
theorem dX0_leave_13 : decode cX0_leave 13 = .ok (.iload_n 2, 1) := by decide +kernel
theorem dX0_leave_14 : decode cX0_leave 14 = .ok (.bipush 6, 2) := by decide +kernel
theorem dX0_leave_16 : decode cX0_leave 16 = .ok (.invokevirtual 110, 3) := by decide +kernel
theorem dX0_leave_19 : decode cX0_leave 19 = .ok (.iconst 1, 1) := by decide +kernel
theorem dX0_leave_20 : decode cX0_leave 20 = .ok (.ireturn, 1) := by decide +kernel
theorem dX0_leave_21 : decode cX0_leave 21 = .ok (.aload_n 0, 1) := by decide +kernel
theorem dX0_leave_22 : decode cX0_leave 22 = .ok (.iload_n 1, 1) := by decide +kernel
theorem dX0_leave_23 : decode cX0_leave 23 = .ok (.invokevirtual 114, 3) := by decide +kernel
theorem dX0_leave_26 : decode cX0_leave 26 = .ok (.istore_n 3, 1) := by decide +kernel
theorem dX0_leave_27 : decode cX0_leave 27 = .ok (.iload_n 3, 1) := by decide +kernel
theorem dX0_leave_28 : decode cX0_leave 28 = .ok (.iconst (-1), 1) := by decide +kernel
theorem dX0_leave_29 : decode cX0_leave 29 = .ok (.if_icmp .eq 16, 3) := by decide +kernel
theorem dX0_leave_32 : decode cX0_leave 32 = .ok (.aload_n 0, 1) := by decide +kernel
theorem dX0_leave_33 : decode cX0_leave 33 = .ok (.iload_n 3, 1) := by decide +kernel
theorem dX0_leave_34 : decode cX0_leave 34 = .ok (.iconst 4, 1) := by decide +kernel
theorem dX0_leave_35 : decode cX0_leave 35 = .ok (.invokevirtual 117, 3) := by decide +kernel
theorem dX0_leave_38 : decode cX0_leave 38 = .ok (.aload_n 0, 1) := by decide +kernel
theorem dX0_leave_39 : decode cX0_leave 39 = .ok (.iload_n 3, 1) := by decide +kernel
theorem dX0_leave_40 : decode cX0_leave 40 = .ok (.invokevirtual 120, 3) := by decide +kernel
theorem dX0_leave_43 : decode cX0_leave 43 = .ok (.iconst 2, 1) := by decide +kernel
theorem dX0_leave_44 : decode cX0_leave 44 = .ok (.ireturn, 1) := by decide +kernel
theorem dX0_leave_45 : decode cX0_leave 45 = .ok (.aload_n 0, 1) := by decide +kernel
theorem dX0_leave_46 : decode cX0_leave 46 = .ok (.iload_n 1, 1) := by decide +kernel
theorem dX0_leave_47 : decode cX0_leave 47 = .ok (.iconst 2, 1) := by decide +kernel
theorem dX0_leave_48 : decode cX0_leave 48 = .ok (.invokevirtual 107, 3) := by decide +kernel
theorem dX0_leave_51 : decode cX0_leave 51 = .ok (.istore 4, 2) := by decide +kernel
theorem dX0_leave_53 : decode cX0_leave 53 = .ok (.iload 4, 2) := by decide +kernel
theorem dX0_leave_55 : decode cX0_leave 55 = .ok (.iconst (-1), 1) := by decide +kernel
theorem dX0_leave_56 : decode cX0_leave 56 = .ok (.if_icmp .eq 13, 3) := by decide +kernel
theorem dX0_leave_59 : decode cX0_leave 59 = .ok (.aload_n 0, 1) := by decide +kernel
theorem dX0_leave_60 : decode cX0_leave 60 = .ok (.iload 4, 2) := by decide +kernel
theorem dX0_leave_62 : decode cX0_leave 62 = .ok (.bipush 6, 2) := by decide +kernel
theorem dX0_leave_64 : decode cX0_leave 64 = .ok (.invokevirtual 110, 3) := by decide +kernel
theorem dX0_leave_67 : decode cX0_leave 67 = .ok (.iconst 3, 1) := by decide +kernel
theorem dX0_leave_68 : decode cX0_leave 68 = .ok (.ireturn, 1) := by decide +kernel
theorem dX0_leave_69 : decode cX0_leave 69 = .ok (.aload_n 0, 1) := by decide +kernel
theorem dX0_leave_70 : decode cX0_leave 70 = .ok (.iload_n 1, 1) := by decide +kernel
theorem dX0_leave_71 : decode cX0_leave 71 = .ok (.iconst 5, 1) := by decide +kernel
theorem dX0_leave_72 : decode cX0_leave 72 = .ok (.invokevirtual 123, 3) := by decide +kernel
theorem dX0_leave_75 : decode cX0_leave 75 = .ok (.ifCond .le 7, 3) := by decide +kernel
theorem dX0_leave_78 : decode cX0_leave 78 = .ok (.iconst 4, 1) := by decide +kernel
theorem dX0_leave_79 : decode cX0_leave 79 = .ok (.goto 4, 3) := by decide +kernel
theorem dX0_leave_82 : decode cX0_leave 82 = .ok (.iconst 0, 1) := by decide +kernel
theorem dX0_leave_83 : decode cX0_leave 83 = .ok (.ireturn, 1) := by decide +kernel
theorem dX0_makeOffer_0 : decode cX0_makeOffer 0 = .ok (.aload_n 0, 1) := by decide +kernel
theorem dX0_makeOffer_1 : decode cX0_makeOffer 1 = .ok (.getfield 23, 3) := by decide +kernel
theorem dX0_makeOffer_4 : decode cX0_makeOffer 4 = .ok (.iload_n 1, 1) := by decide +kernel
theorem dX0_makeOffer_5 : decode cX0_makeOffer 5 = .ok (.bipush 6, 2) := by decide +kernel
theorem dX0_makeOffer_7 : decode cX0_makeOffer 7 = .ok (.invokevirtual 64, 3) := by decide +kernel
theorem dX0_makeOffer_10 : decode cX0_makeOffer 10 = .ok (.istore 4, 2) := by decide +kernel
theorem dX0_makeOffer_12 : decode cX0_makeOffer 12 = .ok (.iload 4, 2) := by decide +kernel
theorem dX0_makeOffer_14 : decode cX0_makeOffer 14 = .ok (.iload_n 2, 1) := by decide +kernel
theorem dX0_makeOffer_15 : decode cX0_makeOffer 15 = .ok (.if_icmp .ne 5, 3) := by decide +kernel
theorem dX0_makeOffer_18 : decode cX0_makeOffer 18 = .ok (.iconst 0, 1) := by decide +kernel
theorem dX0_makeOffer_19 : decode cX0_makeOffer 19 = .ok (.ireturn, 1) := by decide +kernel
theorem dX0_makeOffer_20 : decode cX0_makeOffer 20 = .ok (.iload 4, 2) := by decide +kernel
theorem dX0_makeOffer_22 : decode cX0_makeOffer 22 = .ok (.iconst (-1), 1) := by decide +kernel
theorem dX0_makeOffer_23 : decode cX0_makeOffer 23 = .ok (.if_icmp .ne 12, 3) := by decide +kernel
theorem dX0_makeOffer_26 : decode cX0_makeOffer 26 = .ok (.aload_n 0, 1) := by decide +kernel
theorem dX0_makeOffer_27 : decode cX0_makeOffer 27 = .ok (.iload_n 1, 1) := by decide +kernel
theorem dX0_makeOffer_28 : decode cX0_makeOffer 28 = .ok (.iload_n 2, 1) := by decide +kernel
theorem dX0_makeOffer_29 : decode cX0_makeOffer 29 = .ok (.iload_n 3, 1) := by decide +kernel
theorem dX0_makeOffer_30 : decode cX0_makeOffer 30 = .ok (.invokevirtual 126, 3) := by decide +kernel
theorem dX0_makeOffer_33 : decode cX0_makeOffer 33 = .ok (.iconst 1, 1) := by decide +kernel
theorem dX0_makeOffer_34 : decode cX0_makeOffer 34 = .ok (.ireturn, 1) := by decide +kernel
theorem dX0_makeOffer_35 : decode cX0_makeOffer 35 = .ok (.aload_n 0, 1) := by decide +kernel
theorem dX0_makeOffer_36 : decode cX0_makeOffer 36 = .ok (.iload_n 1, 1) := by decide +kernel
theorem dX0_makeOffer_37 : decode cX0_makeOffer 37 = .ok (.iload 4, 2) := by decide +kernel
theorem dX0_makeOffer_39 : decode cX0_makeOffer 39 = .ok (.aload_n 0, 1) := by decide +kernel
theorem dX0_makeOffer_40 : decode cX0_makeOffer 40 = .ok (.getfield 23, 3) := by decide +kernel
theorem dX0_makeOffer_43 : decode cX0_makeOffer 43 = .ok (.iload_n 1, 1) := by decide +kernel
theorem dX0_makeOffer_44 : decode cX0_makeOffer 44 = .ok (.bipush 7, 2) := by decide +kernel
theorem dX0_makeOffer_46 : decode cX0_makeOffer 46 = .ok (.invokevirtual 64, 3) := by decide +kernel
theorem dX0_makeOffer_49 : decode cX0_makeOffer 49 = .ok (.invokevirtual 129, 3) := by decide +kernel
theorem dX0_makeOffer_52 : decode cX0_makeOffer 52 = .ok (.aload_n 0, 1) := by decide +kernel
theorem dX0_makeOffer_53 : decode cX0_makeOffer 53 = .ok (.iload_n 1, 1) := by decide +kernel
theorem dX0_makeOffer_54 : decode cX0_makeOffer 54 = .ok (.iload_n 2, 1) := by decide +kernel
theorem dX0_makeOffer_55 : decode cX0_makeOffer 55 = .ok (.iload_n 3, 1) := by decide +kernel
theorem dX0_makeOffer_56 : decode cX0_makeOffer 56 = .ok (.invokevirtual 129, 3) := by decide +kernel
theorem dX0_makeOffer_59 : decode cX0_makeOffer 59 = .ok (.aload_n 0, 1) := by decide +kernel
theorem dX0_makeOffer_60 : decode cX0_makeOffer 60 = .ok (.getfield 23, 3) := by decide +kernel
theorem dX0_makeOffer_63 : decode cX0_makeOffer 63 = .ok (.iload_n 1, 1) := by decide +kernel
theorem dX0_makeOffer_64 : decode cX0_makeOffer 64 = .ok (.bipush 6, 2) := by decide +kernel
theorem dX0_makeOffer_66 : decode cX0_makeOffer 66 = .ok (.iconst (-1), 1) := by decide +kernel
theorem dX0_makeOffer_67 : decode cX0_makeOffer 67 = .ok (.invokevirtual 57, 3) := by decide +kernel
theorem dX0_makeOffer_70 : decode cX0_makeOffer 70 = .ok (.aload_n 0, 1) := by decide +kernel
theorem dX0_makeOffer_71 : decode cX0_makeOffer 71 = .ok (.iconst 2, 1) := by decide +kernel
theorem dX0_makeOffer_72 : decode cX0_makeOffer 72 = .ok (.invokevirtual 132, 3) := by decide +kernel
theorem dX0_makeOffer_75 : decode cX0_makeOffer 75 = .ok (.iconst (-1), 1) := by decide +kernel
theorem dX0_makeOffer_76 : decode cX0_makeOffer 76 = .ok (.ireturn, 1) := by decide +kernel
theorem dX0_passSecond_0 : decode cX0_passSecond 0 = .ok (.aload_n 0, 1) := by decide +kernel
theorem dX0_passSecond_1 : decode cX0_passSecond 1 = .ok (.dup, 1) := by decide +kernel
theorem dX0_passSecond_2 : decode cX0_passSecond 2 = .ok (.getfield 50, 3) := by decide +kernel
theorem dX0_passSecond_5 : decode cX0_passSecond 5 = .ok (.iconst 1, 1) := by decide +kernel
theorem dX0_passSecond_6 : decode cX0_passSecond 6 = .ok (.iadd, 1) := by decide +kernel
theorem dX0_passSecond_7 : decode cX0_passSecond 7 = .ok (.putfield 50, 3) := by decide +kernel
theorem dX0_passSecond_10 : decode cX0_passSecond 10 = .ok (.iconst 0, 1) := by decide +kernel
theorem dX0_passSecond_11 : decode cX0_passSecond 11 = .ok (.istore_n 1, 1) := by decide +kernel
theorem dX0_passSecond_12 : decode cX0_passSecond 12 = .ok (.iload_n 1, 1) := by decide +kernel
theorem dX0_passSecond_13 : decode cX0_passSecond 13 = .ok (.aload_n 0, 1) := by decide +kernel
theorem dX0_passSecond_14 : decode cX0_passSecond 14 = .ok (.getfield 23, 3) := by decide +kernel
theorem dX0_passSecond_17 : decode cX0_passSecond 17 = .ok (.getfield 61, 3) := by decide +kernel
theorem dX0_passSecond_20 : decode cX0_passSecond 20 = .ok (.if_icmp .ge 21, 3) := by decide +kernel
theorem dX0_passSecond_23 : decode cX0_passSecond 23 = .ok (.aload_n 0, 1) := by decide +kernel
theorem dX0_passSecond_24 : decode cX0_passSecond 24 = .ok (.iload_n 1, 1) := by decide +kernel
theorem dX0_passSecond_25 : decode cX0_passSecond 25 = .ok (.iconst 0, 1) := by decide +kernel
theorem dX0_passSecond_26 : decode cX0_passSecond 26 = .ok (.invokevirtual 135, 3) := by decide +kernel
theorem dX0_passSecond_29 : decode cX0_passSecond 29 = .ok (.aload_n 0, 1) := by decide +kernel
theorem dX0_passSecond_30 : decode cX0_passSecond 30 = .ok (.iload_n 1, 1) := by decide +kernel
theorem dX0_passSecond_31 : decode cX0_passSecond 31 = .ok (.iconst 1, 1) := by decide +kernel
theorem dX0_passSecond_32 : decode cX0_passSecond 32 = .ok (.invokevirtual 135, 3) := by decide +kernel
theorem dX0_passSecond_35 : decode cX0_passSecond 35 = .ok (.iinc 1 1, 3) := by decide +kernel
theorem dX0_passSecond_38 : decode cX0_passSecond 38 = .ok (.goto (-26), 3) := by decide +kernel
theorem dX0_passSecond_41 : decode cX0_passSecond 41 = .ok (.iconst 0, 1) := by decide +kernel
theorem dX0_passSecond_42 : decode cX0_passSecond 42 = .ok (.istore_n 1, 1) := by decide +kernel
theorem dX0_passSecond_43 : decode cX0_passSecond 43 = .ok (.iload_n 1, 1) := by decide +kernel
theorem dX0_passSecond_44 : decode cX0_passSecond 44 = .ok (.aload_n 0, 1) := by decide +kernel
theorem dX0_passSecond_45 : decode cX0_passSecond 45 = .ok (.getfield 23, 3) := by decide +kernel
theorem dX0_passSecond_48 : decode cX0_passSecond 48 = .ok (.getfield 61, 3) := by decide +kernel
theorem dX0_passSecond_51 : decode cX0_passSecond 51 = .ok (.if_icmp .ge 14, 3) := by decide +kernel
theorem dX0_passSecond_54 : decode cX0_passSecond 54 = .ok (.aload_n 0, 1) := by decide +kernel
theorem dX0_passSecond_55 : decode cX0_passSecond 55 = .ok (.iload_n 1, 1) := by decide +kernel
theorem dX0_passSecond_56 : decode cX0_passSecond 56 = .ok (.invokevirtual 138, 3) := by decide +kernel
theorem dX0_passSecond_59 : decode cX0_passSecond 59 = .ok (.iinc 1 1, 3) := by decide +kernel
theorem dX0_passSecond_62 : decode cX0_passSecond 62 = .ok (.goto (-19), 3) := by decide +kernel
theorem dX0_passSecond_65 : decode cX0_passSecond 65 = .ok (.iconst 0, 1) := by decide +kernel
theorem dX0_passSecond_66 : decode cX0_passSecond 66 = .ok (.istore_n 1, 1) := by decide +kernel
theorem dX0_passSecond_67 : decode cX0_passSecond 67 = .ok (.iload_n 1, 1) := by decide +kernel
theorem dX0_passSecond_68 : decode cX0_passSecond 68 = .ok (.aload_n 0, 1) := by decide +kernel
theorem dX0_passSecond_69 : decode cX0_passSecond 69 = .ok (.getfield 23, 3) := by decide +kernel
theorem dX0_passSecond_72 : decode cX0_passSecond 72 = .ok (.getfield 61, 3) := by decide +kernel
theorem dX0_passSecond_75 : decode cX0_passSecond 75 = .ok (.if_icmp .ge 22, 3) := by decide +kernel
theorem dX0_passSecond_78 : decode cX0_passSecond 78 = .ok (.aload_n 0, 1) := by decide +kernel
theorem dX0_passSecond_79 : decode cX0_passSecond 79 = .ok (.iload_n 1, 1) := by decide +kernel
theorem dX0_passSecond_80 : decode cX0_passSecond 80 = .ok (.invokevirtual 141, 3) := by decide +kernel
theorem dX0_passSecond_83 : decode cX0_passSecond 83 = .ok (.ifCond .eq 8, 3) := by decide +kernel
theorem dX0_passSecond_86 : decode cX0_passSecond 86 = .ok (.aload_n 0, 1) := by decide +kernel
theorem dX0_passSecond_87 : decode cX0_passSecond 87 = .ok (.iload_n 1, 1) := by decide +kernel
theorem dX0_passSecond_88 : decode cX0_passSecond 88 = .ok (.invokevirtual 145, 3) := by decide +kernel
theorem dX0_passSecond_91 : decode cX0_passSecond 91 = .ok (.iinc 1 1, 3) := by decide +kernel
theorem dX0_passSecond_94 : decode cX0_passSecond 94 = .ok (.goto (-27), 3) := by decide +kernel
theorem dX0_passSecond_97 : decode cX0_passSecond 97 = .ok (.iconst 0, 1) := by decide +kernel
theorem dX0_passSecond_98 : decode cX0_passSecond 98 = .ok (.istore_n 1, 1) := by decide +kernel
theorem dX0_passSecond_99 : decode cX0_passSecond 99 = .ok (.iload_n 1, 1) := by decide +kernel
theorem dX0_passSecond_100 : decode cX0_passSecond 100 = .ok (.aload_n 0, 1) := by decide +kernel
theorem dX0_passSecond_101 : decode cX0_passSecond 101 = .ok (.getfield 20, 3) := by decide +kernel
theorem dX0_passSecond_104 : decode cX0_passSecond 104 = .ok (.getfield 61, 3) := by decide +kernel
theorem dX0_passSecond_107 : decode cX0_passSecond 107 = .ok (.if_icmp .ge 54, 3) := by decide +kernel
theorem dX0_passSecond_110 : decode cX0_passSecond 110 = .ok (.aload_n 0, 1) := by decide +kernel
theorem dX0_passSecond_111 : decode cX0_passSecond 111 = .ok (.getfield 50, 3) := by decide +kernel
theorem dX0_passSecond_114 : decode cX0_passSecond 114 = .ok (.aload_n 0, 1) := by decide +kernel
theorem dX0_passSecond_115 : decode cX0_passSecond 115 = .ok (.getfield 20, 3) := by decide +kernel
theorem dX0_passSecond_118 : decode cX0_passSecond 118 = .ok (.iload_n 1, 1) := by decide +kernel
theorem dX0_passSecond_119 : decode cX0_passSecond 119 = .ok (.iconst 1, 1) := by decide +kernel
theorem dX0_passSecond_120 : decode cX0_passSecond 120 = .ok (.invokevirtual 64, 3) := by decide +kernel
theorem dX0_passSecond_123 : decode cX0_passSecond 123 = .ok (.isub, 1) := by decide +kernel
theorem dX0_passSecond_124 : decode cX0_passSecond 124 = .ok (.aload_n 0, 1) := by decide +kernel
theorem dX0_passSecond_125 : decode cX0_passSecond 125 = .ok (.getfield 20, 3) := by decide +kernel
theorem dX0_passSecond_128 : decode cX0_passSecond 128 = .ok (.iload_n 1, 1) := by decide +kernel
theorem dX0_passSecond_129 : decode cX0_passSecond 129 = .ok (.iconst 2, 1) := by decide +kernel
theorem dX0_passSecond_130 : decode cX0_passSecond 130 = .ok (.invokevirtual 64, 3) := by decide +kernel
theorem dX0_passSecond_133 : decode cX0_passSecond 133 = .ok (.if_icmp .lt 22, 3) := by decide +kernel
theorem dX0_passSecond_136 : decode cX0_passSecond 136 = .ok (.aload_n 0, 1) := by decide +kernel
theorem dX0_passSecond_137 : decode cX0_passSecond 137 = .ok (.iload_n 1, 1) := by decide +kernel
theorem dX0_passSecond_138 : decode cX0_passSecond 138 = .ok (.invokevirtual 148, 3) := by decide +kernel
theorem dX0_passSecond_141 : decode cX0_passSecond 141 = .ok (.ifCond .eq 14, 3) := by decide +kernel
theorem dX0_passSecond_144 : decode cX0_passSecond 144 = .ok (.aload_n 0, 1) := by decide +kernel
theorem dX0_passSecond_145 : decode cX0_passSecond 145 = .ok (.iload_n 1, 1) := by decide +kernel
theorem dX0_passSecond_146 : decode cX0_passSecond 146 = .ok (.iconst 3, 1) := by decide +kernel
theorem dX0_passSecond_147 : decode cX0_passSecond 147 = .ok (.invokevirtual 117, 3) := by decide +kernel
theorem dX0_passSecond_150 : decode cX0_passSecond 150 = .ok (.aload_n 0, 1) := by decide +kernel
theorem dX0_passSecond_151 : decode cX0_passSecond 151 = .ok (.iload_n 1, 1) := by decide +kernel
theorem dX0_passSecond_152 : decode cX0_passSecond 152 = .ok (.invokevirtual 91, 3) := by decide +kernel
theorem dX0_passSecond_155 : decode cX0_passSecond 155 = .ok (.iinc 1 1, 3) := by decide +kernel
theorem dX0_passSecond_158 : decode cX0_passSecond 158 = .ok (.goto (-59), 3) := by decide +kernel
theorem dX0_passSecond_161 : decode cX0_passSecond 161 = .ok (.return_, 1) := by decide +kernel
theorem dX0_ringTime_0 : decode cX0_ringTime 0 = .ok (.aload_n 0, 1) := by decide +kernel
theorem dX0_ringTime_1 : decode cX0_ringTime 1 = .ok (.getfield 46, 3) := by decide +kernel
theorem dX0_ringTime_4 : decode cX0_ringTime 4 = .ok (.ifnonnull 6, 3) := by decide +kernel
theorem dX0_ringTime_7 : decode cX0_ringTime 7 = .ok (.bipush 30, 2) := by decide +kernel
theorem dX0_ringTime_9 : decode cX0_ringTime 9 = .ok (.ireturn, 1) := by decide +kernel
theorem dX0_ringTime_10 : decode cX0_ringTime 10 = .ok (.aload_n 0, 1) := by decide +kernel
theorem dX0_ringTime_11 : decode cX0_ringTime 11 = .ok (.getfield 46, 3) := by decide +kernel
theorem dX0_ringTime_14 : decode cX0_ringTime 14 = .ok (.iload_n 1, 1) := by decide +kernel
theorem dX0_ringTime_15 : decode cX0_ringTime 15 = .ok (.iload_n 2, 1) := by decide +kernel
theorem dX0_ringTime_16 : decode cX0_ringTime 16 = .ok (.iload_n 3, 1) := by decide +kernel
theorem dX0_ringTime_17 : decode cX0_ringTime 17 = .ok (.aload_n 0, 1) := by decide +kernel
theorem dX0_ringTime_18 : decode cX0_ringTime 18 = .ok (.getfield 50, 3) := by decide +kernel
theorem dX0_ringTime_21 : decode cX0_ringTime 21 = .ok (.invokevirtual 151, 3) := by decide +kernel
theorem dX0_ringTime_24 : decode cX0_ringTime 24 = .ok (.i2l, 1) := by decide +kernel
theorem dX0_ringTime_25 : decode cX0_ringTime 25 = .ok (.iconst 1, 1) := by decide +kernel
theorem dX0_ringTime_26 : decode cX0_ringTime 26 = .ok (.bipush 99, 2) := by decide +kernel
theorem dX0_ringTime_28 : decode cX0_ringTime 28 = .ok (.invokestatic 157, 3) := by decide +kernel
theorem dX0_ringTime_31 : decode cX0_ringTime 31 = .ok (.ireturn, 1) := by decide +kernel
theorem dX0_callerOf_0 : decode cX0_callerOf 0 = .ok (.aload_n 0, 1) := by decide +kernel
theorem dX0_callerOf_1 : decode cX0_callerOf 1 = .ok (.getfield 20, 3) := by decide +kernel
theorem dX0_callerOf_4 : decode cX0_callerOf 4 = .ok (.aload_n 0, 1) := by decide +kernel
theorem dX0_callerOf_5 : decode cX0_callerOf 5 = .ok (.getfield 23, 3) := by decide +kernel
theorem dX0_callerOf_8 : decode cX0_callerOf 8 = .ok (.iload_n 1, 1) := by decide +kernel
theorem dX0_callerOf_9 : decode cX0_callerOf 9 = .ok (.iconst 0, 1) := by decide +kernel
theorem dX0_callerOf_10 : decode cX0_callerOf 10 = .ok (.invokevirtual 64, 3) := by decide +kernel
theorem dX0_callerOf_13 : decode cX0_callerOf 13 = .ok (.iconst 0, 1) := by decide +kernel
theorem dX0_callerOf_14 : decode cX0_callerOf 14 = .ok (.invokevirtual 64, 3) := by decide +kernel
theorem dX0_callerOf_17 : decode cX0_callerOf 17 = .ok (.ireturn, 1) := by decide +kernel
theorem dX0_partyOn_0 : decode cX0_partyOn 0 = .ok (.iload_n 2, 1) := by decide +kernel
theorem dX0_partyOn_1 : decode cX0_partyOn 1 = .ok (.ifCond .ne 11, 3) := by decide +kernel
theorem dX0_partyOn_4 : decode cX0_partyOn 4 = .ok (.aload_n 0, 1) := by decide +kernel
theorem dX0_partyOn_5 : decode cX0_partyOn 5 = .ok (.iload_n 1, 1) := by decide +kernel
theorem dX0_partyOn_6 : decode cX0_partyOn 6 = .ok (.invokevirtual 72, 3) := by decide +kernel
theorem dX0_partyOn_9 : decode cX0_partyOn 9 = .ok (.goto 12, 3) := by decide +kernel
theorem dX0_partyOn_12 : decode cX0_partyOn 12 = .ok (.aload_n 0, 1) := by decide +kernel
theorem dX0_partyOn_13 : decode cX0_partyOn 13 = .ok (.getfield 23, 3) := by decide +kernel
theorem dX0_partyOn_16 : decode cX0_partyOn 16 = .ok (.iload_n 1, 1) := by decide +kernel
theorem dX0_partyOn_17 : decode cX0_partyOn 17 = .ok (.iconst 1, 1) := by decide +kernel
theorem dX0_partyOn_18 : decode cX0_partyOn 18 = .ok (.invokevirtual 64, 3) := by decide +kernel
theorem dX0_partyOn_21 : decode cX0_partyOn 21 = .ok (.ireturn, 1) := by decide +kernel
theorem dX0_ringsAt_0 : decode cX0_ringsAt 0 = .ok (.aload_n 0, 1) := by decide +kernel
theorem dX0_ringsAt_1 : decode cX0_ringsAt 1 = .ok (.getfield 23, 3) := by decide +kernel
theorem dX0_ringsAt_4 : decode cX0_ringsAt 4 = .ok (.iload_n 1, 1) := by decide +kernel
theorem dX0_ringsAt_5 : decode cX0_ringsAt 5 = .ok (.iconst 2, 1) := by decide +kernel
theorem dX0_ringsAt_6 : decode cX0_ringsAt 6 = .ok (.invokevirtual 64, 3) := by decide +kernel
theorem dX0_ringsAt_9 : decode cX0_ringsAt 9 = .ok (.ifCond .ne 20, 3) := by decide +kernel
theorem dX0_ringsAt_12 : decode cX0_ringsAt 12 = .ok (.aload_n 0, 1) := by decide +kernel
theorem dX0_ringsAt_13 : decode cX0_ringsAt 13 = .ok (.getfield 23, 3) := by decide +kernel
theorem dX0_ringsAt_16 : decode cX0_ringsAt 16 = .ok (.iload_n 1, 1) := by decide +kernel
theorem dX0_ringsAt_17 : decode cX0_ringsAt 17 = .ok (.iconst 1, 1) := by decide +kernel
theorem dX0_ringsAt_18 : decode cX0_ringsAt 18 = .ok (.invokevirtual 64, 3) := by decide +kernel
theorem dX0_ringsAt_21 : decode cX0_ringsAt 21 = .ok (.iload_n 2, 1) := by decide +kernel
theorem dX0_ringsAt_22 : decode cX0_ringsAt 22 = .ok (.if_icmp .ne 7, 3) := by decide +kernel
theorem dX0_ringsAt_25 : decode cX0_ringsAt 25 = .ok (.iconst 1, 1) := by decide +kernel
theorem dX0_ringsAt_26 : decode cX0_ringsAt 26 = .ok (.goto 4, 3) := by decide +kernel
theorem dX0_ringsAt_29 : decode cX0_ringsAt 29 = .ok (.iconst 0, 1) := by decide +kernel
theorem dX0_ringsAt_30 : decode cX0_ringsAt 30 = .ok (.ireturn, 1) := by decide +kernel
theorem dX0_ringingCallOf_0 : decode cX0_ringingCallOf 0 = .ok (.iconst 0, 1) := by decide +kernel
theorem dX0_ringingCallOf_1 : decode cX0_ringingCallOf 1 = .ok (.istore_n 2, 1) := by decide +kernel
theorem dX0_ringingCallOf_2 : decode cX0_ringingCallOf 2 = .ok (.iload_n 2, 1) := by decide +kernel
theorem dX0_ringingCallOf_3 : decode cX0_ringingCallOf 3 = .ok (.aload_n 0, 1) := by decide +kernel
theorem dX0_ringingCallOf_4 : decode cX0_ringingCallOf 4 = .ok (.getfield 20, 3) := by decide +kernel
theorem dX0_ringingCallOf_7 : decode cX0_ringingCallOf 7 = .ok (.getfield 61, 3) := by decide +kernel
theorem dX0_ringingCallOf_10 : decode cX0_ringingCallOf 10 = .ok (.if_icmp .ge 32, 3) := by decide +kernel
theorem dX0_ringingCallOf_13 : decode cX0_ringingCallOf 13 = .ok (.aload_n 0, 1) := by decide +kernel
theorem dX0_ringingCallOf_14 : decode cX0_ringingCallOf 14 = .ok (.getfield 20, 3) := by decide +kernel
theorem dX0_ringingCallOf_17 : decode cX0_ringingCallOf 17 = .ok (.iload_n 2, 1) := by decide +kernel
theorem dX0_ringingCallOf_18 : decode cX0_ringingCallOf 18 = .ok (.iconst 0, 1) := by decide +kernel
theorem dX0_ringingCallOf_19 : decode cX0_ringingCallOf 19 = .ok (.invokevirtual 64, 3) := by decide +kernel
theorem dX0_ringingCallOf_22 : decode cX0_ringingCallOf 22 = .ok (.iload_n 1, 1) := by decide +kernel
theorem dX0_ringingCallOf_23 : decode cX0_ringingCallOf 23 = .ok (.if_icmp .ne 13, 3) := by decide +kernel
theorem dX0_ringingCallOf_26 : decode cX0_ringingCallOf 26 = .ok (.aload_n 0, 1) := by decide +kernel
theorem dX0_ringingCallOf_27 : decode cX0_ringingCallOf 27 = .ok (.iload_n 2, 1) := by decide +kernel
theorem dX0_ringingCallOf_28 : decode cX0_ringingCallOf 28 = .ok (.invokevirtual 148, 3) := by decide +kernel
theorem dX0_ringingCallOf_31 : decode cX0_ringingCallOf 31 = .ok (.ifCond .eq 5, 3) := by decide +kernel
theorem dX0_ringingCallOf_34 : decode cX0_ringingCallOf 34 = .ok (.iload_n 2, 1) := by decide +kernel
theorem dX0_ringingCallOf_35 : decode cX0_ringingCallOf 35 = .ok (.ireturn, 1) := by decide +kernel
theorem dX0_ringingCallOf_36 : decode cX0_ringingCallOf 36 = .ok (.iinc 2 1, 3) := by decide +kernel
theorem dX0_ringingCallOf_39 : decode cX0_ringingCallOf 39 = .ok (.goto (-37), 3) := by decide +kernel
theorem dX0_ringingCallOf_42 : decode cX0_ringingCallOf 42 = .ok (.iconst (-1), 1) := by decide +kernel
theorem dX0_ringingCallOf_43 : decode cX0_ringingCallOf 43 = .ok (.ireturn, 1) := by decide +kernel
theorem dX0_addLeg_0 : decode cX0_addLeg 0 = .ok (.aload_n 0, 1) := by decide +kernel
theorem dX0_addLeg_1 : decode cX0_addLeg 1 = .ok (.iload_n 2, 1) := by decide +kernel
theorem dX0_addLeg_2 : decode cX0_addLeg 2 = .ok (.invokevirtual 161, 3) := by decide +kernel
theorem dX0_addLeg_5 : decode cX0_addLeg 5 = .ok (.istore_n 3, 1) := by decide +kernel
theorem dX0_addLeg_6 : decode cX0_addLeg 6 = .ok (.aload_n 0, 1) := by decide +kernel
theorem dX0_addLeg_7 : decode cX0_addLeg 7 = .ok (.getfield 23, 3) := by decide +kernel
theorem dX0_addLeg_10 : decode cX0_addLeg 10 = .ok (.invokevirtual 39, 3) := by decide +kernel
theorem dX0_addLeg_13 : decode cX0_addLeg 13 = .ok (.istore 4, 2) := by decide +kernel
theorem dX0_addLeg_15 : decode cX0_addLeg 15 = .ok (.aload_n 0, 1) := by decide +kernel
theorem dX0_addLeg_16 : decode cX0_addLeg 16 = .ok (.getfield 23, 3) := by decide +kernel
theorem dX0_addLeg_19 : decode cX0_addLeg 19 = .ok (.iload 4, 2) := by decide +kernel
theorem dX0_addLeg_21 : decode cX0_addLeg 21 = .ok (.iconst 0, 1) := by decide +kernel
theorem dX0_addLeg_22 : decode cX0_addLeg 22 = .ok (.iload_n 1, 1) := by decide +kernel
theorem dX0_addLeg_23 : decode cX0_addLeg 23 = .ok (.invokevirtual 57, 3) := by decide +kernel
theorem dX0_addLeg_26 : decode cX0_addLeg 26 = .ok (.aload_n 0, 1) := by decide +kernel
theorem dX0_addLeg_27 : decode cX0_addLeg 27 = .ok (.getfield 23, 3) := by decide +kernel
theorem dX0_addLeg_30 : decode cX0_addLeg 30 = .ok (.iload 4, 2) := by decide +kernel
theorem dX0_addLeg_32 : decode cX0_addLeg 32 = .ok (.iconst 1, 1) := by decide +kernel
theorem dX0_addLeg_33 : decode cX0_addLeg 33 = .ok (.iload_n 2, 1) := by decide +kernel
theorem dX0_addLeg_34 : decode cX0_addLeg 34 = .ok (.invokevirtual 57, 3) := by decide +kernel
theorem dX0_addLeg_37 : decode cX0_addLeg 37 = .ok (.aload_n 0, 1) := by decide +kernel
theorem dX0_addLeg_38 : decode cX0_addLeg 38 = .ok (.getfield 23, 3) := by decide +kernel
theorem dX0_addLeg_41 : decode cX0_addLeg 41 = .ok (.iload 4, 2) := by decide +kernel
theorem dX0_addLeg_43 : decode cX0_addLeg 43 = .ok (.iconst 2, 1) := by decide +kernel
theorem dX0_addLeg_44 : decode cX0_addLeg 44 = .ok (.iconst 0, 1) := by decide +kernel
theorem dX0_addLeg_45 : decode cX0_addLeg 45 = .ok (.invokevirtual 57, 3) := by decide +kernel
theorem dX0_addLeg_48 : decode cX0_addLeg 48 = .ok (.aload_n 0, 1) := by decide +kernel
theorem dX0_addLeg_49 : decode cX0_addLeg 49 = .ok (.iload 4, 2) := by decide +kernel
theorem dX0_addLeg_51 : decode cX0_addLeg 51 = .ok (.invokevirtual 101, 3) := by decide +kernel
theorem dX0_addLeg_54 : decode cX0_addLeg 54 = .ok (.iload_n 3, 1) := by decide +kernel
theorem dX0_addLeg_55 : decode cX0_addLeg 55 = .ok (.ifCond .eq 10, 3) := by decide +kernel
theorem dX0_addLeg_58 : decode cX0_addLeg 58 = .ok (.aload_n 0, 1) := by decide +kernel
theorem dX0_addLeg_59 : decode cX0_addLeg 59 = .ok (.iload 4, 2) := by decide +kernel
theorem dX0_addLeg_61 : decode cX0_addLeg 61 = .ok (.iconst 1, 1) := by decide +kernel
theorem dX0_addLeg_62 : decode cX0_addLeg 62 = .ok (.invokevirtual 110, 3) := by decide +kernel
theorem dX0_addLeg_65 : decode cX0_addLeg 65 = .ok (.iload_n 3, 1) := by decide +kernel
theorem dX0_addLeg_66 : decode cX0_addLeg 66 = .ok (.ifCond .eq 7, 3) := by decide +kernel
theorem dX0_addLeg_69 : decode cX0_addLeg 69 = .ok (.iconst 0, 1) := by decide +kernel
theorem dX0_addLeg_70 : decode cX0_addLeg 70 = .ok (.goto 4, 3) := by decide +kernel
theorem dX0_addLeg_73 : decode cX0_addLeg 73 = .ok (.iconst 1, 1) := by decide +kernel
theorem dX0_addLeg_74 : decode cX0_addLeg 74 = .ok (.ireturn, 1) := by decide +kernel
theorem dX0_endLeg_0 : decode cX0_endLeg 0 = .ok (.aload_n 0, 1) := by decide +kernel
theorem dX0_endLeg_1 : decode cX0_endLeg 1 = .ok (.getfield 23, 3) := by decide +kernel
theorem dX0_endLeg_4 : decode cX0_endLeg 4 = .ok (.iload_n 1, 1) := by decide +kernel
theorem dX0_endLeg_5 : decode cX0_endLeg 5 = .ok (.iconst 2, 1) := by decide +kernel
theorem dX0_endLeg_6 : decode cX0_endLeg 6 = .ok (.iconst 3, 1) := by decide +kernel
theorem dX0_endLeg_7 : decode cX0_endLeg 7 = .ok (.invokevirtual 57, 3) := by decide +kernel
theorem dX0_endLeg_10 : decode cX0_endLeg 10 = .ok (.aload_n 0, 1) := by decide +kernel
theorem dX0_endLeg_11 : decode cX0_endLeg 11 = .ok (.getfield 23, 3) := by decide +kernel
theorem dX0_endLeg_14 : decode cX0_endLeg 14 = .ok (.iload_n 1, 1) := by decide +kernel
theorem dX0_endLeg_15 : decode cX0_endLeg 15 = .ok (.iconst 3, 1) := by decide +kernel
theorem dX0_endLeg_16 : decode cX0_endLeg 16 = .ok (.iload_n 2, 1) := by decide +kernel
theorem dX0_endLeg_17 : decode cX0_endLeg 17 = .ok (.invokevirtual 57, 3) := by decide +kernel
theorem dX0_endLeg_20 : decode cX0_endLeg 20 = .ok (.aload_n 0, 1) := by decide +kernel
theorem dX0_endLeg_21 : decode cX0_endLeg 21 = .ok (.iload_n 1, 1) := by decide +kernel
theorem dX0_endLeg_22 : decode cX0_endLeg 22 = .ok (.invokevirtual 101, 3) := by decide +kernel
theorem dX0_endLeg_25 : decode cX0_endLeg 25 = .ok (.return_, 1) := by decide +kernel
theorem dX0_endRinging_0 : decode cX0_endRinging 0 = .ok (.aload_n 0, 1) := by decide +kernel
theorem dX0_endRinging_1 : decode cX0_endRinging 1 = .ok (.getfield 20, 3) := by decide +kernel
theorem dX0_endRinging_4 : decode cX0_endRinging 4 = .ok (.iload_n 1, 1) := by decide +kernel
theorem dX0_endRinging_5 : decode cX0_endRinging 5 = .ok (.bipush 6, 2) := by decide +kernel
theorem dX0_endRinging_7 : decode cX0_endRinging 7 = .ok (.invokevirtual 64, 3) := by decide +kernel
theorem dX0_endRinging_10 : decode cX0_endRinging 10 = .ok (.istore_n 3, 1) := by decide +kernel
theorem dX0_endRinging_11 : decode cX0_endRinging 11 = .ok (.iload_n 3, 1) := by decide +kernel
theorem dX0_endRinging_12 : decode cX0_endRinging 12 = .ok (.aload_n 0, 1) := by decide +kernel
theorem dX0_endRinging_13 : decode cX0_endRinging 13 = .ok (.getfield 20, 3) := by decide +kernel
theorem dX0_endRinging_16 : decode cX0_endRinging 16 = .ok (.iload_n 1, 1) := by decide +kernel
theorem dX0_endRinging_17 : decode cX0_endRinging 17 = .ok (.bipush 7, 2) := by decide +kernel
theorem dX0_endRinging_19 : decode cX0_endRinging 19 = .ok (.invokevirtual 64, 3) := by decide +kernel
theorem dX0_endRinging_22 : decode cX0_endRinging 22 = .ok (.if_icmp .ge 27, 3) := by decide +kernel
theorem dX0_endRinging_25 : decode cX0_endRinging 25 = .ok (.aload_n 0, 1) := by decide +kernel
theorem dX0_endRinging_26 : decode cX0_endRinging 26 = .ok (.getfield 23, 3) := by decide +kernel
theorem dX0_endRinging_29 : decode cX0_endRinging 29 = .ok (.iload_n 3, 1) := by decide +kernel
theorem dX0_endRinging_30 : decode cX0_endRinging 30 = .ok (.iconst 2, 1) := by decide +kernel
theorem dX0_endRinging_31 : decode cX0_endRinging 31 = .ok (.invokevirtual 64, 3) := by decide +kernel
theorem dX0_endRinging_34 : decode cX0_endRinging 34 = .ok (.ifCond .ne 9, 3) := by decide +kernel
theorem dX0_endRinging_37 : decode cX0_endRinging 37 = .ok (.aload_n 0, 1) := by decide +kernel
theorem dX0_endRinging_38 : decode cX0_endRinging 38 = .ok (.iload_n 3, 1) := by decide +kernel
theorem dX0_endRinging_39 : decode cX0_endRinging 39 = .ok (.iload_n 2, 1) := by decide +kernel
theorem dX0_endRinging_40 : decode cX0_endRinging 40 = .ok (.invokevirtual 110, 3) := by decide +kernel
theorem dX0_endRinging_43 : decode cX0_endRinging 43 = .ok (.iinc 3 1, 3) := by decide +kernel
theorem dX0_endRinging_46 : decode cX0_endRinging 46 = .ok (.goto (-35), 3) := by decide +kernel
theorem dX0_endRinging_49 : decode cX0_endRinging 49 = .ok (.return_, 1) := by decide +kernel
theorem dX0_endRingingAt_0 : decode cX0_endRingingAt 0 = .ok (.iconst 0, 1) := by decide +kernel
theorem dX0_endRingingAt_1 : decode cX0_endRingingAt 1 = .ok (.istore_n 3, 1) := by decide +kernel
theorem dX0_endRingingAt_2 : decode cX0_endRingingAt 2 = .ok (.iconst 0, 1) := by decide +kernel
theorem dX0_endRingingAt_3 : decode cX0_endRingingAt 3 = .ok (.istore 4, 2) := by decide +kernel
theorem dX0_endRingingAt_5 : decode cX0_endRingingAt 5 = .ok (.iload 4, 2) := by decide +kernel
theorem dX0_endRingingAt_7 : decode cX0_endRingingAt 7 = .ok (.aload_n 0, 1) := by decide +kernel
theorem dX0_endRingingAt_8 : decode cX0_endRingingAt 8 = .ok (.getfield 23, 3) := by decide +kernel
theorem dX0_endRingingAt_11 : decode cX0_endRingingAt 11 = .ok (.getfield 61, 3) := by decide +kernel
theorem dX0_endRingingAt_14 : decode cX0_endRingingAt 14 = .ok (.if_icmp .ge 56, 3) := by decide +kernel
theorem dX0_endRingingAt_17 : decode cX0_endRingingAt 17 = .ok (.aload_n 0, 1) := by decide +kernel
theorem dX0_endRingingAt_18 : decode cX0_endRingingAt 18 = .ok (.iload 4, 2) := by decide +kernel
theorem dX0_endRingingAt_20 : decode cX0_endRingingAt 20 = .ok (.iload_n 1, 1) := by decide +kernel
theorem dX0_endRingingAt_21 : decode cX0_endRingingAt 21 = .ok (.invokevirtual 68, 3) := by decide +kernel
theorem dX0_endRingingAt_24 : decode cX0_endRingingAt 24 = .ok (.ifCond .eq 40, 3) := by decide +kernel
theorem dX0_endRingingAt_27 : decode cX0_endRingingAt 27 = .ok (.aload_n 0, 1) := by decide +kernel
theorem dX0_endRingingAt_28 : decode cX0_endRingingAt 28 = .ok (.iload 4, 2) := by decide +kernel
theorem dX0_endRingingAt_30 : decode cX0_endRingingAt 30 = .ok (.iload_n 2, 1) := by decide +kernel
theorem dX0_endRingingAt_31 : decode cX0_endRingingAt 31 = .ok (.invokevirtual 110, 3) := by decide +kernel
theorem dX0_endRingingAt_34 : decode cX0_endRingingAt 34 = .ok (.iinc 3 1, 3) := by decide +kernel
theorem dX0_endRingingAt_37 : decode cX0_endRingingAt 37 = .ok (.aload_n 0, 1) := by decide +kernel
theorem dX0_endRingingAt_38 : decode cX0_endRingingAt 38 = .ok (.getfield 23, 3) := by decide +kernel
theorem dX0_endRingingAt_41 : decode cX0_endRingingAt 41 = .ok (.iload 4, 2) := by decide +kernel
theorem dX0_endRingingAt_43 : decode cX0_endRingingAt 43 = .ok (.iconst 0, 1) := by decide +kernel
theorem dX0_endRingingAt_44 : decode cX0_endRingingAt 44 = .ok (.invokevirtual 64, 3) := by decide +kernel
theorem dX0_endRingingAt_47 : decode cX0_endRingingAt 47 = .ok (.istore 5, 2) := by decide +kernel
theorem dX0_endRingingAt_49 : decode cX0_endRingingAt 49 = .ok (.aload_n 0, 1) := by decide +kernel
theorem dX0_endRingingAt_50 : decode cX0_endRingingAt 50 = .ok (.iload 5, 2) := by decide +kernel
theorem dX0_endRingingAt_52 : decode cX0_endRingingAt 52 = .ok (.invokevirtual 148, 3) := by decide +kernel
theorem dX0_endRingingAt_55 : decode cX0_endRingingAt 55 = .ok (.ifCond .ne 9, 3) := by decide +kernel
theorem dX0_endRingingAt_58 : decode cX0_endRingingAt 58 = .ok (.aload_n 0, 1) := by decide +kernel
theorem dX0_endRingingAt_59 : decode cX0_endRingingAt 59 = .ok (.iload 5, 2) := by decide +kernel
theorem dX0_endRingingAt_61 : decode cX0_endRingingAt 61 = .ok (.invokevirtual 91, 3) := by decide +kernel
theorem dX0_endRingingAt_64 : decode cX0_endRingingAt 64 = .ok (.iinc 4 1, 3) := by decide +kernel
theorem dX0_endRingingAt_67 : decode cX0_endRingingAt 67 = .ok (.goto (-62), 3) := by decide +kernel
theorem dX0_endRingingAt_70 : decode cX0_endRingingAt 70 = .ok (.iload_n 3, 1) := by decide +kernel
theorem dX0_endRingingAt_71 : decode cX0_endRingingAt 71 = .ok (.ireturn, 1) := by decide +kernel
theorem dX0_failCall_0 : decode cX0_failCall 0 = .ok (.aload_n 0, 1) := by decide +kernel
theorem dX0_failCall_1 : decode cX0_failCall 1 = .ok (.iconst 5, 1) := by decide +kernel
theorem dX0_failCall_2 : decode cX0_failCall 2 = .ok (.invokevirtual 132, 3) := by decide +kernel
theorem dX0_failCall_5 : decode cX0_failCall 5 = .ok (.aload_n 0, 1) := by decide +kernel
theorem dX0_failCall_6 : decode cX0_failCall 6 = .ok (.iload_n 1, 1) := by decide +kernel
theorem dX0_failCall_7 : decode cX0_failCall 7 = .ok (.invokevirtual 120, 3) := by decide +kernel
theorem dX0_failCall_10 : decode cX0_failCall 10 = .ok (.return_, 1) := by decide +kernel
theorem dX0_resumeReferrer_0 : decode cX0_resumeReferrer 0 = .ok (.aload_n 0, 1) := by decide +kernel
theorem dX0_resumeReferrer_1 : decode cX0_resumeReferrer 1 = .ok (.getfield 20, 3) := by decide +kernel
theorem dX0_resumeReferrer_4 : decode cX0_resumeReferrer 4 = .ok (.iload_n 1, 1) := by decide +kernel
theorem dX0_resumeReferrer_5 : decode cX0_resumeReferrer 5 = .ok (.iconst 3, 1) := by decide +kernel
theorem dX0_resumeReferrer_6 : decode cX0_resumeReferrer 6 = .ok (.invokevirtual 64, 3) := by decide +kernel
theorem dX0_resumeReferrer_9 : decode cX0_resumeReferrer 9 = .ok (.istore_n 2, 1) := by decide +kernel
theorem dX0_resumeReferrer_10 : decode cX0_resumeReferrer 10 = .ok (.iload_n 2, 1) := by decide +kernel
theorem dX0_resumeReferrer_11 : decode cX0_resumeReferrer 11 = .ok (.iconst (-1), 1) := by decide +kernel
theorem dX0_resumeReferrer_12 : decode cX0_resumeReferrer 12 = .ok (.if_icmp .eq 26, 3) := by decide +kernel
theorem dX0_resumeReferrer_15 : decode cX0_resumeReferrer 15 = .ok (.aload_n 0, 1) := by decide +kernel
theorem dX0_resumeReferrer_16 : decode cX0_resumeReferrer 16 = .ok (.getfield 23, 3) := by decide +kernel
theorem dX0_resumeReferrer_19 : decode cX0_resumeReferrer 19 = .ok (.iload_n 2, 1) := by decide +kernel
theorem dX0_resumeReferrer_20 : decode cX0_resumeReferrer 20 = .ok (.iconst 2, 1) := by decide +kernel
theorem dX0_resumeReferrer_21 : decode cX0_resumeReferrer 21 = .ok (.invokevirtual 64, 3) := by decide +kernel
theorem dX0_resumeReferrer_24 : decode cX0_resumeReferrer 24 = .ok (.iconst 2, 1) := by decide +kernel
theorem dX0_resumeReferrer_25 : decode cX0_resumeReferrer 25 = .ok (.if_icmp .ne 13, 3) := by decide +kernel
theorem dX0_resumeReferrer_28 : decode cX0_resumeReferrer 28 = .ok (.aload_n 0, 1) := by decide +kernel
theorem dX0_resumeReferrer_29 : decode cX0_resumeReferrer 29 = .ok (.getfield 23, 3) := by decide +kernel
theorem dX0_resumeReferrer_32 : decode cX0_resumeReferrer 32 = .ok (.iload_n 2, 1) := by decide +kernel
theorem dX0_resumeReferrer_33 : decode cX0_resumeReferrer 33 = .ok (.iconst 2, 1) := by decide +kernel
theorem dX0_resumeReferrer_34 : decode cX0_resumeReferrer 34 = .ok (.iconst 1, 1) := by decide +kernel
theorem dX0_resumeReferrer_35 : decode cX0_resumeReferrer 35 = .ok (.invokevirtual 57, 3) := by decide +kernel
theorem dX0_resumeReferrer_38 : decode cX0_resumeReferrer 38 = .ok (.return_, 1) := by decide +kernel
theorem dX0_isAnsweredNow_0 : decode cX0_isAnsweredNow 0 = .ok (.aload_n 0, 1) := by decide +kernel
theorem dX0_isAnsweredNow_1 : decode cX0_isAnsweredNow 1 = .ok (.getfield 23, 3) := by decide +kernel
theorem dX0_isAnsweredNow_4 : decode cX0_isAnsweredNow 4 = .ok (.iload_n 1, 1) := by decide +kernel
theorem dX0_isAnsweredNow_5 : decode cX0_isAnsweredNow 5 = .ok (.iconst 2, 1) := by decide +kernel
theorem dX0_isAnsweredNow_6 : decode cX0_isAnsweredNow 6 = .ok (.invokevirtual 64, 3) := by decide +kernel
theorem dX0_isAnsweredNow_9 : decode cX0_isAnsweredNow 9 = .ok (.ifCond .eq 5, 3) := by decide +kernel
theorem dX0_isAnsweredNow_12 : decode cX0_isAnsweredNow 12 = .ok (.iconst 0, 1) := by decide +kernel
theorem dX0_isAnsweredNow_13 : decode cX0_isAnsweredNow 13 = .ok (.ireturn, 1) := by decide +kernel
theorem dX0_isAnsweredNow_14 : decode cX0_isAnsweredNow 14 = .ok (.aload_n 0, 1) := by decide +kernel
theorem dX0_isAnsweredNow_15 : decode cX0_isAnsweredNow 15 = .ok (.getfield 23, 3) := by decide +kernel
theorem dX0_isAnsweredNow_18 : decode cX0_isAnsweredNow 18 = .ok (.iload_n 1, 1) := by decide +kernel
theorem dX0_isAnsweredNow_19 : decode cX0_isAnsweredNow 19 = .ok (.iconst 1, 1) := by decide +kernel
theorem dX0_isAnsweredNow_20 : decode cX0_isAnsweredNow 20 = .ok (.invokevirtual 64, 3) := by decide +kernel
theorem dX0_isAnsweredNow_23 : decode cX0_isAnsweredNow 23 = .ok (.istore_n 2, 1) := by decide +kernel
theorem dX0_isAnsweredNow_24 : decode cX0_isAnsweredNow 24 = .ok (.aload_n 0, 1) := by decide +kernel
theorem dX0_isAnsweredNow_25 : decode cX0_isAnsweredNow 25 = .ok (.getfield 14, 3) := by decide +kernel
theorem dX0_isAnsweredNow_28 : decode cX0_isAnsweredNow 28 = .ok (.iload_n 2, 1) := by decide +kernel
theorem dX0_isAnsweredNow_29 : decode cX0_isAnsweredNow 29 = .ok (.iconst 0, 1) := by decide +kernel
theorem dX0_isAnsweredNow_30 : decode cX0_isAnsweredNow 30 = .ok (.invokevirtual 64, 3) := by decide +kernel
theorem dX0_isAnsweredNow_33 : decode cX0_isAnsweredNow 33 = .ok (.istore_n 3, 1) := by decide +kernel
theorem dX0_isAnsweredNow_34 : decode cX0_isAnsweredNow 34 = .ok (.aload_n 0, 1) := by decide +kernel
theorem dX0_isAnsweredNow_35 : decode cX0_isAnsweredNow 35 = .ok (.getfield 50, 3) := by decide +kernel
theorem dX0_isAnsweredNow_38 : decode cX0_isAnsweredNow 38 = .ok (.aload_n 0, 1) := by decide +kernel
theorem dX0_isAnsweredNow_39 : decode cX0_isAnsweredNow 39 = .ok (.getfield 20, 3) := by decide +kernel
theorem dX0_isAnsweredNow_42 : decode cX0_isAnsweredNow 42 = .ok (.aload_n 0, 1) := by decide +kernel
theorem dX0_isAnsweredNow_43 : decode cX0_isAnsweredNow 43 = .ok (.getfield 23, 3) := by decide +kernel
theorem dX0_isAnsweredNow_46 : decode cX0_isAnsweredNow 46 = .ok (.iload_n 1, 1) := by decide +kernel
theorem dX0_isAnsweredNow_47 : decode cX0_isAnsweredNow 47 = .ok (.iconst 0, 1) := by decide +kernel
theorem dX0_isAnsweredNow_48 : decode cX0_isAnsweredNow 48 = .ok (.invokevirtual 64, 3) := by decide +kernel
theorem dX0_isAnsweredNow_51 : decode cX0_isAnsweredNow 51 = .ok (.iconst 1, 1) := by decide +kernel
theorem dX0_isAnsweredNow_52 : decode cX0_isAnsweredNow 52 = .ok (.invokevirtual 64, 3) := by decide +kernel
theorem dX0_isAnsweredNow_55 : decode cX0_isAnsweredNow 55 = .ok (.isub, 1) := by decide +kernel
theorem dX0_isAnsweredNow_56 : decode cX0_isAnsweredNow 56 = .ok (.istore 4, 2) := by decide +kernel
theorem dX0_isAnsweredNow_58 : decode cX0_isAnsweredNow 58 = .ok (.iload_n 3, 1) := by decide +kernel
theorem dX0_isAnsweredNow_59 : decode cX0_isAnsweredNow 59 = .ok (.ifCond .eq 21, 3) := by decide +kernel
theorem dX0_isAnsweredNow_62 : decode cX0_isAnsweredNow 62 = .ok (.iload 4, 2) := by decide +kernel
theorem dX0_isAnsweredNow_64 : decode cX0_isAnsweredNow 64 = .ok (.iload_n 3, 1) := by decide +kernel
theorem dX0_isAnsweredNow_65 : decode cX0_isAnsweredNow 65 = .ok (.if_icmp .ne 15, 3) := by decide +kernel
theorem dX0_isAnsweredNow_68 : decode cX0_isAnsweredNow 68 = .ok (.aload_n 0, 1) := by decide +kernel
theorem dX0_isAnsweredNow_69 : decode cX0_isAnsweredNow 69 = .ok (.iload_n 2, 1) := by decide +kernel
theorem dX0_isAnsweredNow_70 : decode cX0_isAnsweredNow 70 = .ok (.invokevirtual 161, 3) := by decide +kernel
theorem dX0_isAnsweredNow_73 : decode cX0_isAnsweredNow 73 = .ok (.ifCond .ne 7, 3) := by decide +kernel
theorem dX0_isAnsweredNow_76 : decode cX0_isAnsweredNow 76 = .ok (.iconst 1, 1) := by decide +kernel
theorem dX0_isAnsweredNow_77 : decode cX0_isAnsweredNow 77 = .ok (.goto 4, 3) := by decide +kernel
theorem dX0_isAnsweredNow_80 : decode cX0_isAnsweredNow 80 = .ok (.iconst 0, 1) := by decide +kernel
theorem dX0_isAnsweredNow_81 : decode cX0_isAnsweredNow 81 = .ok (.ireturn, 1) := by decide +kernel
theorem dX0_answer_0 : decode cX0_answer 0 = .ok (.aload_n 0, 1) := by decide +kernel
theorem dX0_answer_1 : decode cX0_answer 1 = .ok (.getfield 23, 3) := by decide +kernel
theorem dX0_answer_4 : decode cX0_answer 4 = .ok (.iload_n 1, 1) := by decide +kernel
theorem dX0_answer_5 : decode cX0_answer 5 = .ok (.iconst 0, 1) := by decide +kernel
theorem dX0_answer_6 : decode cX0_answer 6 = .ok (.invokevirtual 64, 3) := by decide +kernel
theorem dX0_answer_9 : decode cX0_answer 9 = .ok (.istore_n 2, 1) := by decide +kernel
theorem dX0_answer_10 : decode cX0_answer 10 = .ok (.aload_n 0, 1) := by decide +kernel
theorem dX0_answer_11 : decode cX0_answer 11 = .ok (.getfield 23, 3) := by decide +kernel
theorem dX0_answer_14 : decode cX0_answer 14 = .ok (.iload_n 1, 1) := by decide +kernel
theorem dX0_answer_15 : decode cX0_answer 15 = .ok (.iconst 2, 1) := by decide +kernel
theorem dX0_answer_16 : decode cX0_answer 16 = .ok (.iconst 1, 1) := by decide +kernel
theorem dX0_answer_17 : decode cX0_answer 17 = .ok (.invokevirtual 57, 3) := by decide +kernel
theorem dX0_answer_20 : decode cX0_answer 20 = .ok (.aload_n 0, 1) := by decide +kernel
theorem dX0_answer_21 : decode cX0_answer 21 = .ok (.getfield 20, 3) := by decide +kernel
theorem dX0_answer_24 : decode cX0_answer 24 = .ok (.iload_n 2, 1) := by decide +kernel
theorem dX0_answer_25 : decode cX0_answer 25 = .ok (.iconst 5, 1) := by decide +kernel
theorem dX0_answer_26 : decode cX0_answer 26 = .ok (.iload_n 1, 1) := by decide +kernel
theorem dX0_answer_27 : decode cX0_answer 27 = .ok (.invokevirtual 57, 3) := by decide +kernel
theorem dX0_answer_30 : decode cX0_answer 30 = .ok (.aload_n 0, 1) := by decide +kernel
theorem dX0_answer_31 : decode cX0_answer 31 = .ok (.iconst 4, 1) := by decide +kernel
theorem dX0_answer_32 : decode cX0_answer 32 = .ok (.invokevirtual 132, 3) := by decide +kernel
theorem dX0_answer_35 : decode cX0_answer 35 = .ok (.aload_n 0, 1) := by decide +kernel
theorem dX0_answer_36 : decode cX0_answer 36 = .ok (.iload_n 2, 1) := by decide +kernel
theorem dX0_answer_37 : decode cX0_answer 37 = .ok (.iconst 2, 1) := by decide +kernel
theorem dX0_answer_38 : decode cX0_answer 38 = .ok (.invokevirtual 117, 3) := by decide +kernel
theorem dX0_answer_41 : decode cX0_answer 41 = .ok (.aload_n 0, 1) := by decide +kernel
theorem dX0_answer_42 : decode cX0_answer 42 = .ok (.aload_n 0, 1) := by decide +kernel
theorem dX0_answer_43 : decode cX0_answer 43 = .ok (.getfield 23, 3) := by decide +kernel
theorem dX0_answer_46 : decode cX0_answer 46 = .ok (.iload_n 1, 1) := by decide +kernel
theorem dX0_answer_47 : decode cX0_answer 47 = .ok (.iconst 1, 1) := by decide +kernel
theorem dX0_answer_48 : decode cX0_answer 48 = .ok (.invokevirtual 64, 3) := by decide +kernel
theorem dX0_answer_51 : decode cX0_answer 51 = .ok (.iconst 1, 1) := by decide +kernel
theorem dX0_answer_52 : decode cX0_answer 52 = .ok (.invokevirtual 123, 3) := by decide +kernel
theorem dX0_answer_55 : decode cX0_answer 55 = .ok (.pop, 1) := by decide +kernel
theorem dX0_answer_56 : decode cX0_answer 56 = .ok (.aload_n 0, 1) := by decide +kernel
theorem dX0_answer_57 : decode cX0_answer 57 = .ok (.getfield 20, 3) := by decide +kernel
theorem dX0_answer_60 : decode cX0_answer 60 = .ok (.iload_n 2, 1) := by decide +kernel
theorem dX0_answer_61 : decode cX0_answer 61 = .ok (.iconst 3, 1) := by decide +kernel
theorem dX0_answer_62 : decode cX0_answer 62 = .ok (.invokevirtual 64, 3) := by decide +kernel
theorem dX0_answer_65 : decode cX0_answer 65 = .ok (.istore_n 3, 1) := by decide +kernel
theorem dX0_answer_66 : decode cX0_answer 66 = .ok (.iload_n 3, 1) := by decide +kernel
theorem dX0_answer_67 : decode cX0_answer 67 = .ok (.iconst (-1), 1) := by decide +kernel
theorem dX0_answer_68 : decode cX0_answer 68 = .ok (.if_icmp .eq 29, 3) := by decide +kernel
theorem dX0_answer_71 : decode cX0_answer 71 = .ok (.aload_n 0, 1) := by decide +kernel
theorem dX0_answer_72 : decode cX0_answer 72 = .ok (.getfield 23, 3) := by decide +kernel
theorem dX0_answer_75 : decode cX0_answer 75 = .ok (.iload_n 3, 1) := by decide +kernel
theorem dX0_answer_76 : decode cX0_answer 76 = .ok (.iconst 2, 1) := by decide +kernel
theorem dX0_answer_77 : decode cX0_answer 77 = .ok (.invokevirtual 64, 3) := by decide +kernel
theorem dX0_answer_80 : decode cX0_answer 80 = .ok (.iconst 2, 1) := by decide +kernel
theorem dX0_answer_81 : decode cX0_answer 81 = .ok (.if_icmp .ne 16, 3) := by decide +kernel
theorem dX0_answer_84 : decode cX0_answer 84 = .ok (.aload_n 0, 1) := by decide +kernel
theorem dX0_answer_85 : decode cX0_answer 85 = .ok (.iload_n 3, 1) := by decide +kernel
theorem dX0_answer_86 : decode cX0_answer 86 = .ok (.bipush 7, 2) := by decide +kernel
theorem dX0_answer_88 : decode cX0_answer 88 = .ok (.invokevirtual 110, 3) := by decide +kernel
theorem dX0_answer_91 : decode cX0_answer 91 = .ok (.aload_n 0, 1) := by decide +kernel
theorem dX0_answer_92 : decode cX0_answer 92 = .ok (.bipush 6, 2) := by decide +kernel
theorem dX0_answer_94 : decode cX0_answer 94 = .ok (.invokevirtual 132, 3) := by decide +kernel
theorem dX0_answer_97 : decode cX0_answer 97 = .ok (.return_, 1) := by decide +kernel
theorem dX0_setOffer_0 : decode cX0_setOffer 0 = .ok (.aload_n 0, 1) := by decide +kernel
theorem dX0_setOffer_1 : decode cX0_setOffer 1 = .ok (.getfield 23, 3) := by decide +kernel
theorem dX0_setOffer_4 : decode cX0_setOffer 4 = .ok (.iload_n 1, 1) := by decide +kernel
theorem dX0_setOffer_5 : decode cX0_setOffer 5 = .ok (.bipush 6, 2) := by decide +kernel
theorem dX0_setOffer_7 : decode cX0_setOffer 7 = .ok (.iload_n 2, 1) := by decide +kernel
theorem dX0_setOffer_8 : decode cX0_setOffer 8 = .ok (.invokevirtual 57, 3) := by decide +kernel
theorem dX0_setOffer_11 : decode cX0_setOffer 11 = .ok (.aload_n 0, 1) := by decide +kernel
theorem dX0_setOffer_12 : decode cX0_setOffer 12 = .ok (.getfield 23, 3) := by decide +kernel
theorem dX0_setOffer_15 : decode cX0_setOffer 15 = .ok (.iload_n 1, 1) := by decide +kernel
theorem dX0_setOffer_16 : decode cX0_setOffer 16 = .ok (.bipush 7, 2) := by decide +kernel
theorem dX0_setOffer_18 : decode cX0_setOffer 18 = .ok (.iload_n 3, 1) := by decide +kernel
theorem dX0_setOffer_19 : decode cX0_setOffer 19 = .ok (.invokevirtual 57, 3) := by decide +kernel
theorem dX0_setOffer_22 : decode cX0_setOffer 22 = .ok (.aload_n 0, 1) := by decide +kernel
theorem dX0_setOffer_23 : decode cX0_setOffer 23 = .ok (.getfield 23, 3) := by decide +kernel
theorem dX0_setOffer_26 : decode cX0_setOffer 26 = .ok (.iload_n 1, 1) := by decide +kernel
theorem dX0_setOffer_27 : decode cX0_setOffer 27 = .ok (.bipush 8, 2) := by decide +kernel
theorem dX0_setOffer_29 : decode cX0_setOffer 29 = .ok (.aload_n 0, 1) := by decide +kernel
theorem dX0_setOffer_30 : decode cX0_setOffer 30 = .ok (.getfield 50, 3) := by decide +kernel
theorem dX0_setOffer_33 : decode cX0_setOffer 33 = .ok (.invokevirtual 57, 3) := by decide +kernel
theorem dX0_setOffer_36 : decode cX0_setOffer 36 = .ok (.return_, 1) := by decide +kernel
theorem dX0_planRepetition_0 : decode cX0_planRepetition 0 = .ok (.iload_n 2, 1) := by decide +kernel
theorem dX0_planRepetition_1 : decode cX0_planRepetition 1 = .ok (.ifCond .ne 10, 3) := by decide +kernel
theorem dX0_planRepetition_4 : decode cX0_planRepetition 4 = .ok (.aload_n 0, 1) := by decide +kernel
theorem dX0_planRepetition_5 : decode cX0_planRepetition 5 = .ok (.getfield 29, 3) := by decide +kernel
theorem dX0_planRepetition_8 : decode cX0_planRepetition 8 = .ok (.goto 7, 3) := by decide +kernel
theorem dX0_planRepetition_11 : decode cX0_planRepetition 11 = .ok (.aload_n 0, 1) := by decide +kernel
theorem dX0_planRepetition_12 : decode cX0_planRepetition 12 = .ok (.getfield 33, 3) := by decide +kernel
theorem dX0_planRepetition_15 : decode cX0_planRepetition 15 = .ok (.istore 4, 2) := by decide +kernel
theorem dX0_planRepetition_17 : decode cX0_planRepetition 17 = .ok (.aload_n 0, 1) := by decide +kernel
theorem dX0_planRepetition_18 : decode cX0_planRepetition 18 = .ok (.getfield 23, 3) := by decide +kernel
theorem dX0_planRepetition_21 : decode cX0_planRepetition 21 = .ok (.iload_n 1, 1) := by decide +kernel
theorem dX0_planRepetition_22 : decode cX0_planRepetition 22 = .ok (.bipush 9, 2) := by decide +kernel
theorem dX0_planRepetition_24 : decode cX0_planRepetition 24 = .ok (.iload_n 2, 1) := by decide +kernel
theorem dX0_planRepetition_25 : decode cX0_planRepetition 25 = .ok (.iadd, 1) := by decide +kernel
theorem dX0_planRepetition_26 : decode cX0_planRepetition 26 = .ok (.aload_n 0, 1) := by decide +kernel
theorem dX0_planRepetition_27 : decode cX0_planRepetition 27 = .ok (.getfield 50, 3) := by decide +kernel
theorem dX0_planRepetition_30 : decode cX0_planRepetition 30 = .ok (.iload 4, 2) := by decide +kernel
theorem dX0_planRepetition_32 : decode cX0_planRepetition 32 = .ok (.iadd, 1) := by decide +kernel
theorem dX0_planRepetition_33 : decode cX0_planRepetition 33 = .ok (.invokevirtual 57, 3) := by decide +kernel
theorem dX0_planRepetition_36 : decode cX0_planRepetition 36 = .ok (.aload_n 0, 1) := by decide +kernel
theorem dX0_planRepetition_37 : decode cX0_planRepetition 37 = .ok (.getfield 23, 3) := by decide +kernel
theorem dX0_planRepetition_40 : decode cX0_planRepetition 40 = .ok (.iload_n 1, 1) := by decide +kernel
theorem dX0_planRepetition_41 : decode cX0_planRepetition 41 = .ok (.bipush 11, 2) := by decide +kernel
theorem dX0_planRepetition_43 : decode cX0_planRepetition 43 = .ok (.iload_n 2, 1) := by decide +kernel
theorem dX0_planRepetition_44 : decode cX0_planRepetition 44 = .ok (.iadd, 1) := by decide +kernel
theorem dX0_planRepetition_45 : decode cX0_planRepetition 45 = .ok (.iload_n 3, 1) := by decide +kernel
theorem dX0_planRepetition_46 : decode cX0_planRepetition 46 = .ok (.invokevirtual 57, 3) := by decide +kernel
theorem dX0_planRepetition_49 : decode cX0_planRepetition 49 = .ok (.return_, 1) := by decide +kernel
theorem dX0_dropOffers_0 : decode cX0_dropOffers 0 = .ok (.aload_n 0, 1) := by decide +kernel
theorem dX0_dropOffers_1 : decode cX0_dropOffers 1 = .ok (.getfield 23, 3) := by decide +kernel
theorem dX0_dropOffers_4 : decode cX0_dropOffers 4 = .ok (.iload_n 1, 1) := by decide +kernel
theorem dX0_dropOffers_5 : decode cX0_dropOffers 5 = .ok (.bipush 6, 2) := by decide +kernel
theorem dX0_dropOffers_7 : decode cX0_dropOffers 7 = .ok (.iconst (-1), 1) := by decide +kernel
theorem dX0_dropOffers_8 : decode cX0_dropOffers 8 = .ok (.invokevirtual 57, 3) := by decide +kernel
theorem dX0_dropOffers_11 : decode cX0_dropOffers 11 = .ok (.aload_n 0, 1) := by decide +kernel
theorem dX0_dropOffers_12 : decode cX0_dropOffers 12 = .ok (.getfield 23, 3) := by decide +kernel
theorem dX0_dropOffers_15 : decode cX0_dropOffers 15 = .ok (.iload_n 1, 1) := by decide +kernel
theorem dX0_dropOffers_16 : decode cX0_dropOffers 16 = .ok (.bipush 9, 2) := by decide +kernel
theorem dX0_dropOffers_18 : decode cX0_dropOffers 18 = .ok (.iconst (-1), 1) := by decide +kernel
theorem dX0_dropOffers_19 : decode cX0_dropOffers 19 = .ok (.invokevirtual 57, 3) := by decide +kernel
theorem dX0_dropOffers_22 : decode cX0_dropOffers 22 = .ok (.aload_n 0, 1) := by decide +kernel
theorem dX0_dropOffers_23 : decode cX0_dropOffers 23 = .ok (.getfield 23, 3) := by decide +kernel
theorem dX0_dropOffers_26 : decode cX0_dropOffers 26 = .ok (.iload_n 1, 1) := by decide +kernel
theorem dX0_dropOffers_27 : decode cX0_dropOffers 27 = .ok (.bipush 10, 2) := by decide +kernel
theorem dX0_dropOffers_29 : decode cX0_dropOffers 29 = .ok (.iconst (-1), 1) := by decide +kernel
theorem dX0_dropOffers_30 : decode cX0_dropOffers 30 = .ok (.invokevirtual 57, 3) := by decide +kernel
theorem dX0_dropOffers_33 : decode cX0_dropOffers 33 = .ok (.return_, 1) := by decide +kernel
theorem dX0_repeatOffer_0 : decode cX0_repeatOffer 0 = .ok (.aload_n 0, 1) := by decide +kernel
theorem dX0_repeatOffer_1 : decode cX0_repeatOffer 1 = .ok (.getfield 23, 3) := by decide +kernel
theorem dX0_repeatOffer_4 : decode cX0_repeatOffer 4 = .ok (.iload_n 1, 1) := by decide +kernel
theorem dX0_repeatOffer_5 : decode cX0_repeatOffer 5 = .ok (.bipush 9, 2) := by decide +kernel
theorem dX0_repeatOffer_7 : decode cX0_repeatOffer 7 = .ok (.iload_n 2, 1) := by decide +kernel
theorem dX0_repeatOffer_8 : decode cX0_repeatOffer 8 = .ok (.iadd, 1) := by decide +kernel
theorem dX0_repeatOffer_9 : decode cX0_repeatOffer 9 = .ok (.invokevirtual 64, 3) := by decide +kernel
theorem dX0_repeatOffer_12 : decode cX0_repeatOffer 12 = .ok (.aload_n 0, 1) := by decide +kernel
theorem dX0_repeatOffer_13 : decode cX0_repeatOffer 13 = .ok (.getfield 50, 3) := by decide +kernel
theorem dX0_repeatOffer_16 : decode cX0_repeatOffer 16 = .ok (.if_icmp .eq 4, 3) := by decide +kernel
theorem dX0_repeatOffer_19 : decode cX0_repeatOffer 19 = .ok (.return_, 1) := by decide +kernel
theorem dX0_repeatOffer_20 : decode cX0_repeatOffer 20 = .ok (.aload_n 0, 1) := by decide +kernel
theorem dX0_repeatOffer_21 : decode cX0_repeatOffer 21 = .ok (.getfield 23, 3) := by decide +kernel
theorem dX0_repeatOffer_24 : decode cX0_repeatOffer 24 = .ok (.iload_n 1, 1) := by decide +kernel
theorem dX0_repeatOffer_25 : decode cX0_repeatOffer 25 = .ok (.bipush 9, 2) := by decide +kernel
theorem dX0_repeatOffer_27 : decode cX0_repeatOffer 27 = .ok (.iload_n 2, 1) := by decide +kernel
theorem dX0_repeatOffer_28 : decode cX0_repeatOffer 28 = .ok (.iadd, 1) := by decide +kernel
theorem dX0_repeatOffer_29 : decode cX0_repeatOffer 29 = .ok (.iconst (-1), 1) := by decide +kernel
theorem dX0_repeatOffer_30 : decode cX0_repeatOffer 30 = .ok (.invokevirtual 57, 3) := by decide +kernel
theorem dX0_repeatOffer_33 : decode cX0_repeatOffer 33 = .ok (.aload_n 0, 1) := by decide +kernel
theorem dX0_repeatOffer_34 : decode cX0_repeatOffer 34 = .ok (.getfield 23, 3) := by decide +kernel
theorem dX0_repeatOffer_37 : decode cX0_repeatOffer 37 = .ok (.iload_n 1, 1) := by decide +kernel
theorem dX0_repeatOffer_38 : decode cX0_repeatOffer 38 = .ok (.bipush 6, 2) := by decide +kernel
theorem dX0_repeatOffer_40 : decode cX0_repeatOffer 40 = .ok (.invokevirtual 64, 3) := by decide +kernel
theorem dX0_repeatOffer_43 : decode cX0_repeatOffer 43 = .ok (.iconst (-1), 1) := by decide +kernel
theorem dX0_repeatOffer_44 : decode cX0_repeatOffer 44 = .ok (.if_icmp .ne 24, 3) := by decide +kernel
theorem dX0_repeatOffer_47 : decode cX0_repeatOffer 47 = .ok (.aload_n 0, 1) := by decide +kernel
theorem dX0_repeatOffer_48 : decode cX0_repeatOffer 48 = .ok (.iload_n 1, 1) := by decide +kernel
theorem dX0_repeatOffer_49 : decode cX0_repeatOffer 49 = .ok (.iload_n 2, 1) := by decide +kernel
theorem dX0_repeatOffer_50 : decode cX0_repeatOffer 50 = .ok (.aload_n 0, 1) := by decide +kernel
theorem dX0_repeatOffer_51 : decode cX0_repeatOffer 51 = .ok (.getfield 23, 3) := by decide +kernel
theorem dX0_repeatOffer_54 : decode cX0_repeatOffer 54 = .ok (.iload_n 1, 1) := by decide +kernel
theorem dX0_repeatOffer_55 : decode cX0_repeatOffer 55 = .ok (.bipush 11, 2) := by decide +kernel
theorem dX0_repeatOffer_57 : decode cX0_repeatOffer 57 = .ok (.iload_n 2, 1) := by decide +kernel
theorem dX0_repeatOffer_58 : decode cX0_repeatOffer 58 = .ok (.iadd, 1) := by decide +kernel
theorem dX0_repeatOffer_59 : decode cX0_repeatOffer 59 = .ok (.invokevirtual 64, 3) := by decide +kernel
theorem dX0_repeatOffer_62 : decode cX0_repeatOffer 62 = .ok (.invokevirtual 126, 3) := by decide +kernel
theorem dX0_repeatOffer_65 : decode cX0_repeatOffer 65 = .ok (.goto 8, 3) := by decide +kernel
theorem dX0_repeatOffer_68 : decode cX0_repeatOffer 68 = .ok (.aload_n 0, 1) := by decide +kernel
theorem dX0_repeatOffer_69 : decode cX0_repeatOffer 69 = .ok (.iconst 3, 1) := by decide +kernel
theorem dX0_repeatOffer_70 : decode cX0_repeatOffer 70 = .ok (.invokevirtual 132, 3) := by decide +kernel
theorem dX0_repeatOffer_73 : decode cX0_repeatOffer 73 = .ok (.return_, 1) := by decide +kernel
theorem dX0_settleOffer_0 : decode cX0_settleOffer 0 = .ok (.aload_n 0, 1) := by decide +kernel
theorem dX0_settleOffer_1 : decode cX0_settleOffer 1 = .ok (.getfield 23, 3) := by decide +kernel
theorem dX0_settleOffer_4 : decode cX0_settleOffer 4 = .ok (.iload_n 1, 1) := by decide +kernel
theorem dX0_settleOffer_5 : decode cX0_settleOffer 5 = .ok (.bipush 6, 2) := by decide +kernel
theorem dX0_settleOffer_7 : decode cX0_settleOffer 7 = .ok (.invokevirtual 64, 3) := by decide +kernel
theorem dX0_settleOffer_10 : decode cX0_settleOffer 10 = .ok (.istore_n 2, 1) := by decide +kernel
theorem dX0_settleOffer_11 : decode cX0_settleOffer 11 = .ok (.iload_n 2, 1) := by decide +kernel
theorem dX0_settleOffer_12 : decode cX0_settleOffer 12 = .ok (.iconst (-1), 1) := by decide +kernel
theorem dX0_settleOffer_13 : decode cX0_settleOffer 13 = .ok (.if_icmp .ne 4, 3) := by decide +kernel
theorem dX0_settleOffer_16 : decode cX0_settleOffer 16 = .ok (.return_, 1) := by decide +kernel
theorem dX0_settleOffer_17 : decode cX0_settleOffer 17 = .ok (.aload_n 0, 1) := by decide +kernel
theorem dX0_settleOffer_18 : decode cX0_settleOffer 18 = .ok (.iload_n 1, 1) := by decide +kernel
theorem dX0_settleOffer_19 : decode cX0_settleOffer 19 = .ok (.iconst 1, 1) := by decide +kernel
theorem dX0_settleOffer_20 : decode cX0_settleOffer 20 = .ok (.iload_n 2, 1) := by decide +kernel
theorem dX0_settleOffer_21 : decode cX0_settleOffer 21 = .ok (.isub, 1) := by decide +kernel
theorem dX0_settleOffer_22 : decode cX0_settleOffer 22 = .ok (.invokevirtual 98, 3) := by decide +kernel
theorem dX0_settleOffer_25 : decode cX0_settleOffer 25 = .ok (.istore_n 3, 1) := by decide +kernel
theorem dX0_settleOffer_26 : decode cX0_settleOffer 26 = .ok (.aload_n 0, 1) := by decide +kernel
theorem dX0_settleOffer_27 : decode cX0_settleOffer 27 = .ok (.getfield 14, 3) := by decide +kernel
theorem dX0_settleOffer_30 : decode cX0_settleOffer 30 = .ok (.iload_n 3, 1) := by decide +kernel
theorem dX0_settleOffer_31 : decode cX0_settleOffer 31 = .ok (.iconst 1, 1) := by decide +kernel
theorem dX0_settleOffer_32 : decode cX0_settleOffer 32 = .ok (.invokevirtual 64, 3) := by decide +kernel
theorem dX0_settleOffer_35 : decode cX0_settleOffer 35 = .ok (.istore 4, 2) := by decide +kernel
theorem dX0_settleOffer_37 : decode cX0_settleOffer 37 = .ok (.aload_n 0, 1) := by decide +kernel
theorem dX0_settleOffer_38 : decode cX0_settleOffer 38 = .ok (.getfield 23, 3) := by decide +kernel
theorem dX0_settleOffer_41 : decode cX0_settleOffer 41 = .ok (.iload_n 1, 1) := by decide +kernel
theorem dX0_settleOffer_42 : decode cX0_settleOffer 42 = .ok (.bipush 7, 2) := by decide +kernel
theorem dX0_settleOffer_44 : decode cX0_settleOffer 44 = .ok (.invokevirtual 64, 3) := by decide +kernel
theorem dX0_settleOffer_47 : decode cX0_settleOffer 47 = .ok (.istore 5, 2) := by decide +kernel
theorem dX0_settleOffer_49 : decode cX0_settleOffer 49 = .ok (.aload_n 0, 1) := by decide +kernel
theorem dX0_settleOffer_50 : decode cX0_settleOffer 50 = .ok (.getfield 50, 3) := by decide +kernel
theorem dX0_settleOffer_53 : decode cX0_settleOffer 53 = .ok (.aload_n 0, 1) := by decide +kernel
theorem dX0_settleOffer_54 : decode cX0_settleOffer 54 = .ok (.getfield 23, 3) := by decide +kernel
theorem dX0_settleOffer_57 : decode cX0_settleOffer 57 = .ok (.iload_n 1, 1) := by decide +kernel
theorem dX0_settleOffer_58 : decode cX0_settleOffer 58 = .ok (.bipush 8, 2) := by decide +kernel
theorem dX0_settleOffer_60 : decode cX0_settleOffer 60 = .ok (.invokevirtual 64, 3) := by decide +kernel
theorem dX0_settleOffer_63 : decode cX0_settleOffer 63 = .ok (.isub, 1) := by decide +kernel
theorem dX0_settleOffer_64 : decode cX0_settleOffer 64 = .ok (.istore 6, 2) := by decide +kernel
theorem dX0_settleOffer_66 : decode cX0_settleOffer 66 = .ok (.iload 4, 2) := by decide +kernel
theorem dX0_settleOffer_68 : decode cX0_settleOffer 68 = .ok (.ifCond .eq 14, 3) := by decide +kernel
theorem dX0_settleOffer_71 : decode cX0_settleOffer 71 = .ok (.iload 6, 2) := by decide +kernel
theorem dX0_settleOffer_73 : decode cX0_settleOffer 73 = .ok (.iload 4, 2) := by decide +kernel
theorem dX0_settleOffer_75 : decode cX0_settleOffer 75 = .ok (.if_icmp .ne 7, 3) := by decide +kernel
theorem dX0_settleOffer_78 : decode cX0_settleOffer 78 = .ok (.iconst 1, 1) := by decide +kernel
theorem dX0_settleOffer_79 : decode cX0_settleOffer 79 = .ok (.goto 4, 3) := by decide +kernel
theorem dX0_settleOffer_82 : decode cX0_settleOffer 82 = .ok (.iconst 0, 1) := by decide +kernel
theorem dX0_settleOffer_83 : decode cX0_settleOffer 83 = .ok (.istore 7, 2) := by decide +kernel
theorem dX0_settleOffer_85 : decode cX0_settleOffer 85 = .ok (.iload 7, 2) := by decide +kernel
theorem dX0_settleOffer_87 : decode cX0_settleOffer 87 = .ok (.ifCond .eq 67, 3) := by decide +kernel
theorem dX0_settleOffer_90 : decode cX0_settleOffer 90 = .ok (.iload 5, 2) := by decide +kernel
theorem dX0_settleOffer_92 : decode cX0_settleOffer 92 = .ok (.aload_n 0, 1) := by decide +kernel
theorem dX0_settleOffer_93 : decode cX0_settleOffer 93 = .ok (.getfield 14, 3) := by decide +kernel
theorem dX0_settleOffer_96 : decode cX0_settleOffer 96 = .ok (.iload_n 3, 1) := by decide +kernel
theorem dX0_settleOffer_97 : decode cX0_settleOffer 97 = .ok (.iconst 2, 1) := by decide +kernel
theorem dX0_settleOffer_98 : decode cX0_settleOffer 98 = .ok (.invokevirtual 64, 3) := by decide +kernel
theorem dX0_settleOffer_101 : decode cX0_settleOffer 101 = .ok (.if_icmp .gt 53, 3) := by decide +kernel
theorem dX0_settleOffer_104 : decode cX0_settleOffer 104 = .ok (.aload_n 0, 1) := by decide +kernel
theorem dX0_settleOffer_105 : decode cX0_settleOffer 105 = .ok (.getfield 23, 3) := by decide +kernel
theorem dX0_settleOffer_108 : decode cX0_settleOffer 108 = .ok (.iload_n 1, 1) := by decide +kernel
theorem dX0_settleOffer_109 : decode cX0_settleOffer 109 = .ok (.iconst 4, 1) := by decide +kernel
theorem dX0_settleOffer_110 : decode cX0_settleOffer 110 = .ok (.iload 5, 2) := by decide +kernel
theorem dX0_settleOffer_112 : decode cX0_settleOffer 112 = .ok (.invokevirtual 57, 3) := by decide +kernel
theorem dX0_settleOffer_115 : decode cX0_settleOffer 115 = .ok (.aload_n 0, 1) := by decide +kernel
theorem dX0_settleOffer_116 : decode cX0_settleOffer 116 = .ok (.getfield 23, 3) := by decide +kernel
theorem dX0_settleOffer_119 : decode cX0_settleOffer 119 = .ok (.iload_n 1, 1) := by decide +kernel
theorem dX0_settleOffer_120 : decode cX0_settleOffer 120 = .ok (.iconst 5, 1) := by decide +kernel
theorem dX0_settleOffer_121 : decode cX0_settleOffer 121 = .ok (.aload_n 0, 1) := by decide +kernel
theorem dX0_settleOffer_122 : decode cX0_settleOffer 122 = .ok (.getfield 23, 3) := by decide +kernel
theorem dX0_settleOffer_125 : decode cX0_settleOffer 125 = .ok (.iload_n 1, 1) := by decide +kernel
theorem dX0_settleOffer_126 : decode cX0_settleOffer 126 = .ok (.iconst 5, 1) := by decide +kernel
theorem dX0_settleOffer_127 : decode cX0_settleOffer 127 = .ok (.invokevirtual 64, 3) := by decide +kernel
theorem dX0_settleOffer_130 : decode cX0_settleOffer 130 = .ok (.iconst 1, 1) := by decide +kernel
theorem dX0_settleOffer_131 : decode cX0_settleOffer 131 = .ok (.iadd, 1) := by decide +kernel
theorem dX0_settleOffer_132 : decode cX0_settleOffer 132 = .ok (.invokevirtual 57, 3) := by decide +kernel
theorem dX0_settleOffer_135 : decode cX0_settleOffer 135 = .ok (.aload_n 0, 1) := by decide +kernel
theorem dX0_settleOffer_136 : decode cX0_settleOffer 136 = .ok (.getfield 23, 3) := by decide +kernel
theorem dX0_settleOffer_139 : decode cX0_settleOffer 139 = .ok (.iload_n 1, 1) := by decide +kernel
theorem dX0_settleOffer_140 : decode cX0_settleOffer 140 = .ok (.bipush 6, 2) := by decide +kernel
theorem dX0_settleOffer_142 : decode cX0_settleOffer 142 = .ok (.iconst (-1), 1) := by decide +kernel
theorem dX0_settleOffer_143 : decode cX0_settleOffer 143 = .ok (.invokevirtual 57, 3) := by decide +kernel
theorem dX0_settleOffer_146 : decode cX0_settleOffer 146 = .ok (.aload_n 0, 1) := by decide +kernel
theorem dX0_settleOffer_147 : decode cX0_settleOffer 147 = .ok (.iconst 0, 1) := by decide +kernel
theorem dX0_settleOffer_148 : decode cX0_settleOffer 148 = .ok (.invokevirtual 132, 3) := by decide +kernel
theorem dX0_settleOffer_151 : decode cX0_settleOffer 151 = .ok (.goto 33, 3) := by decide +kernel
theorem dX0_settleOffer_154 : decode cX0_settleOffer 154 = .ok (.iload 7, 2) := by decide +kernel
theorem dX0_settleOffer_156 : decode cX0_settleOffer 156 = .ok (.ifCond .ne 12, 3) := by decide +kernel
theorem dX0_settleOffer_159 : decode cX0_settleOffer 159 = .ok (.iload 6, 2) := by decide +kernel
theorem dX0_settleOffer_161 : decode cX0_settleOffer 161 = .ok (.aload_n 0, 1) := by decide +kernel
theorem dX0_settleOffer_162 : decode cX0_settleOffer 162 = .ok (.getfield 36, 3) := by decide +kernel
theorem dX0_settleOffer_165 : decode cX0_settleOffer 165 = .ok (.if_icmp .lt 19, 3) := by decide +kernel
theorem dX0_settleOffer_168 : decode cX0_settleOffer 168 = .ok (.aload_n 0, 1) := by decide +kernel
theorem dX0_settleOffer_169 : decode cX0_settleOffer 169 = .ok (.getfield 23, 3) := by decide +kernel
theorem dX0_settleOffer_172 : decode cX0_settleOffer 172 = .ok (.iload_n 1, 1) := by decide +kernel
theorem dX0_settleOffer_173 : decode cX0_settleOffer 173 = .ok (.bipush 6, 2) := by decide +kernel
theorem dX0_settleOffer_175 : decode cX0_settleOffer 175 = .ok (.iconst (-1), 1) := by decide +kernel
theorem dX0_settleOffer_176 : decode cX0_settleOffer 176 = .ok (.invokevirtual 57, 3) := by decide +kernel
theorem dX0_settleOffer_179 : decode cX0_settleOffer 179 = .ok (.aload_n 0, 1) := by decide +kernel
theorem dX0_settleOffer_180 : decode cX0_settleOffer 180 = .ok (.iconst 1, 1) := by decide +kernel
theorem dX0_settleOffer_181 : decode cX0_settleOffer 181 = .ok (.invokevirtual 132, 3) := by decide +kernel
theorem dX0_settleOffer_184 : decode cX0_settleOffer 184 = .ok (.return_, 1) := by decide +kernel
theorem dX0_tally_0 : decode cX0_tally 0 = .ok (.aload_n 0, 1) := by decide +kernel
theorem dX0_tally_1 : decode cX0_tally 1 = .ok (.getfield 26, 3) := by decide +kernel
theorem dX0_tally_4 : decode cX0_tally 4 = .ok (.iconst 0, 1) := by decide +kernel
theorem dX0_tally_5 : decode cX0_tally 5 = .ok (.iload_n 1, 1) := by decide +kernel
theorem dX0_tally_6 : decode cX0_tally 6 = .ok (.aload_n 0, 1) := by decide +kernel
theorem dX0_tally_7 : decode cX0_tally 7 = .ok (.getfield 26, 3) := by decide +kernel
theorem dX0_tally_10 : decode cX0_tally 10 = .ok (.iconst 0, 1) := by decide +kernel
theorem dX0_tally_11 : decode cX0_tally 11 = .ok (.iload_n 1, 1) := by decide +kernel
theorem dX0_tally_12 : decode cX0_tally 12 = .ok (.invokevirtual 64, 3) := by decide +kernel
theorem dX0_tally_15 : decode cX0_tally 15 = .ok (.iconst 1, 1) := by decide +kernel
theorem dX0_tally_16 : decode cX0_tally 16 = .ok (.iadd, 1) := by decide +kernel
theorem dX0_tally_17 : decode cX0_tally 17 = .ok (.invokevirtual 57, 3) := by decide +kernel
theorem dX0_tally_20 : decode cX0_tally 20 = .ok (.return_, 1) := by decide +kernel
theorem dX1_init_0 : decode cX1_init 0 = .ok (.aload_n 0, 1) := by decide +kernel
theorem dX1_init_1 : decode cX1_init 1 = .ok (.invokespecial 3, 3) := by decide +kernel
theorem dX1_init_4 : decode cX1_init 4 = .ok (.aload_n 0, 1) := by decide +kernel
theorem dX1_init_5 : decode cX1_init 5 = .ok (.bipush 8, 2) := by decide +kernel
theorem dX1_init_7 : decode cX1_init 7 = .ok (.anewarray 9, 3) := by decide +kernel
theorem dX1_init_10 : decode cX1_init 10 = .ok (.putfield 11, 3) := by decide +kernel
theorem dX1_init_13 : decode cX1_init 13 = .ok (.iconst 0, 1) := by decide +kernel
theorem dX1_init_14 : decode cX1_init 14 = .ok (.istore_n 1, 1) := by decide +kernel
theorem dX1_init_15 : decode cX1_init 15 = .ok (.iload_n 1, 1) := by decide +kernel
theorem dX1_init_16 : decode cX1_init 16 = .ok (.aload_n 0, 1) := by decide +kernel
theorem dX1_init_17 : decode cX1_init 17 = .ok (.getfield 11, 3) := by decide +kernel
theorem dX1_init_20 : decode cX1_init 20 = .ok (.arraylength, 1) := by decide +kernel
theorem dX1_init_21 : decode cX1_init 21 = .ok (.if_icmp .ge 22, 3) := by decide +kernel
theorem dX1_init_24 : decode cX1_init 24 = .ok (.aload_n 0, 1) := by decide +kernel
theorem dX1_init_25 : decode cX1_init 25 = .ok (.getfield 11, 3) := by decide +kernel
theorem dX1_init_28 : decode cX1_init 28 = .ok (.iload_n 1, 1) := by decide +kernel
theorem dX1_init_29 : decode cX1_init 29 = .ok (.new 9, 3) := by decide +kernel
theorem dX1_init_32 : decode cX1_init 32 = .ok (.dup, 1) := by decide +kernel
theorem dX1_init_33 : decode cX1_init 33 = .ok (.invokespecial 17, 3) := by decide +kernel
theorem dX1_init_36 : decode cX1_init 36 = .ok (.aastore, 1) := by decide +kernel
theorem dX1_init_37 : decode cX1_init 37 = .ok (.iinc 1 1, 3) := by decide +kernel
theorem dX1_init_40 : decode cX1_init 40 = .ok (.goto (-25), 3) := by decide +kernel
theorem dX1_init_43 : decode cX1_init 43 = .ok (.return_, 1) := by decide +kernel
theorem dX1_push_0 : decode cX1_push 0 = .ok (.aload_n 0, 1) := by decide +kernel
theorem dX1_push_1 : decode cX1_push 1 = .ok (.getfield 18, 3) := by decide +kernel
theorem dX1_push_4 : decode cX1_push 4 = .ok (.ifCond .lt 27, 3) := by decide +kernel
theorem dX1_push_7 : decode cX1_push 7 = .ok (.aload_n 0, 1) := by decide +kernel
theorem dX1_push_8 : decode cX1_push 8 = .ok (.getfield 18, 3) := by decide +kernel
theorem dX1_push_11 : decode cX1_push 11 = .ok (.aload_n 0, 1) := by decide +kernel
theorem dX1_push_12 : decode cX1_push 12 = .ok (.getfield 11, 3) := by decide +kernel
theorem dX1_push_15 : decode cX1_push 15 = .ok (.arraylength, 1) := by decide +kernel
theorem dX1_push_16 : decode cX1_push 16 = .ok (.if_icmp .ge 15, 3) := by decide +kernel
theorem dX1_push_19 : decode cX1_push 19 = .ok (.aload_n 0, 1) := by decide +kernel
theorem dX1_push_20 : decode cX1_push 20 = .ok (.getfield 11, 3) := by decide +kernel
theorem dX1_push_23 : decode cX1_push 23 = .ok (.aload_n 0, 1) := by decide +kernel
theorem dX1_push_24 : decode cX1_push 24 = .ok (.getfield 18, 3) := by decide +kernel
theorem dX1_push_27 : decode cX1_push 27 = .ok (.aaload, 1) := by decide +kernel
theorem dX1_push_28 : decode cX1_push 28 = .ok (.ifnonnull 4, 3) := by decide +kernel
theorem dX1_push_31 : decode cX1_push 31 = .ok (.return_, 1) := by decide +kernel
theorem dX1_push_32 : decode cX1_push 32 = .ok (.aload_n 0, 1) := by decide +kernel
theorem dX1_push_33 : decode cX1_push 33 = .ok (.getfield 11, 3) := by decide +kernel
theorem dX1_push_36 : decode cX1_push 36 = .ok (.aload_n 0, 1) := by decide +kernel
theorem dX1_push_37 : decode cX1_push 37 = .ok (.getfield 18, 3) := by decide +kernel
theorem dX1_push_40 : decode cX1_push 40 = .ok (.aaload, 1) := by decide +kernel
theorem dX1_push_41 : decode cX1_push 41 = .ok (.aload_n 1, 1) := by decide +kernel
theorem dX1_push_42 : decode cX1_push 42 = .ok (.invokevirtual 22, 3) := by decide +kernel
theorem dX1_push_45 : decode cX1_push 45 = .ok (.aload_n 0, 1) := by decide +kernel
theorem dX1_push_46 : decode cX1_push 46 = .ok (.aload_n 0, 1) := by decide +kernel
theorem dX1_push_47 : decode cX1_push 47 = .ok (.getfield 18, 3) := by decide +kernel
theorem dX1_push_50 : decode cX1_push 50 = .ok (.iconst 1, 1) := by decide +kernel
theorem dX1_push_51 : decode cX1_push 51 = .ok (.iadd, 1) := by decide +kernel
theorem dX1_push_52 : decode cX1_push 52 = .ok (.aload_n 0, 1) := by decide +kernel
theorem dX1_push_53 : decode cX1_push 53 = .ok (.getfield 11, 3) := by decide +kernel
theorem dX1_push_56 : decode cX1_push 56 = .ok (.arraylength, 1) := by decide +kernel
theorem dX1_push_57 : decode cX1_push 57 = .ok (.if_icmp .ne 7, 3) := by decide +kernel
theorem dX1_push_60 : decode cX1_push 60 = .ok (.iconst 0, 1) := by decide +kernel
theorem dX1_push_61 : decode cX1_push 61 = .ok (.goto 9, 3) := by decide +kernel
theorem dX1_push_64 : decode cX1_push 64 = .ok (.aload_n 0, 1) := by decide +kernel
theorem dX1_push_65 : decode cX1_push 65 = .ok (.getfield 18, 3) := by decide +kernel
theorem dX1_push_68 : decode cX1_push 68 = .ok (.iconst 1, 1) := by decide +kernel
theorem dX1_push_69 : decode cX1_push 69 = .ok (.iadd, 1) := by decide +kernel
theorem dX1_push_70 : decode cX1_push 70 = .ok (.putfield 18, 3) := by decide +kernel
theorem dX1_push_73 : decode cX1_push 73 = .ok (.aload_n 0, 1) := by decide +kernel
theorem dX1_push_74 : decode cX1_push 74 = .ok (.aload_n 0, 1) := by decide +kernel
theorem dX1_push_75 : decode cX1_push 75 = .ok (.getfield 26, 3) := by decide +kernel
theorem dX1_push_78 : decode cX1_push 78 = .ok (.iconst 1, 1) := by decide +kernel
theorem dX1_push_79 : decode cX1_push 79 = .ok (.iadd, 1) := by decide +kernel
theorem dX1_push_80 : decode cX1_push 80 = .ok (.aload_n 0, 1) := by decide +kernel
theorem dX1_push_81 : decode cX1_push 81 = .ok (.getfield 11, 3) := by decide +kernel
theorem dX1_push_84 : decode cX1_push 84 = .ok (.arraylength, 1) := by decide +kernel
theorem dX1_push_85 : decode cX1_push 85 = .ok (.invokestatic 29, 3) := by decide +kernel
theorem dX1_push_88 : decode cX1_push 88 = .ok (.putfield 26, 3) := by decide +kernel
theorem dX1_push_91 : decode cX1_push 91 = .ok (.return_, 1) := by decide +kernel
theorem dX1_popInto_0 : decode cX1_popInto 0 = .ok (.aload_n 0, 1) := by decide +kernel
theorem dX1_popInto_1 : decode cX1_popInto 1 = .ok (.getfield 26, 3) := by decide +kernel
theorem dX1_popInto_4 : decode cX1_popInto 4 = .ok (.ifCond .ne 5, 3) := by decide +kernel
theorem dX1_popInto_7 : decode cX1_popInto 7 = .ok (.iconst (-1), 1) := by decide +kernel
theorem dX1_popInto_8 : decode cX1_popInto 8 = .ok (.ireturn, 1) := by decide +kernel
theorem dX1_popInto_9 : decode cX1_popInto 9 = .ok (.aload_n 0, 1) := by decide +kernel
theorem dX1_popInto_10 : decode cX1_popInto 10 = .ok (.getfield 18, 3) := by decide +kernel
theorem dX1_popInto_13 : decode cX1_popInto 13 = .ok (.ifCond .ne 13, 3) := by decide +kernel
theorem dX1_popInto_16 : decode cX1_popInto 16 = .ok (.aload_n 0, 1) := by decide +kernel
theorem dX1_popInto_17 : decode cX1_popInto 17 = .ok (.getfield 11, 3) := by decide +kernel
theorem dX1_popInto_20 : decode cX1_popInto 20 = .ok (.arraylength, 1) := by decide +kernel
theorem dX1_popInto_21 : decode cX1_popInto 21 = .ok (.iconst 1, 1) := by decide +kernel
theorem dX1_popInto_22 : decode cX1_popInto 22 = .ok (.isub, 1) := by decide +kernel
theorem dX1_popInto_23 : decode cX1_popInto 23 = .ok (.goto 9, 3) := by decide +kernel
theorem dX1_popInto_26 : decode cX1_popInto 26 = .ok (.aload_n 0, 1) := by decide +kernel
theorem dX1_popInto_27 : decode cX1_popInto 27 = .ok (.getfield 18, 3) := by decide +kernel
theorem dX1_popInto_30 : decode cX1_popInto 30 = .ok (.iconst 1, 1) := by decide +kernel
theorem dX1_popInto_31 : decode cX1_popInto 31 = .ok (.isub, 1) := by decide +kernel
theorem dX1_popInto_32 : decode cX1_popInto 32 = .ok (.istore_n 2, 1) := by decide +kernel
theorem dX1_popInto_33 : decode cX1_popInto 33 = .ok (.iload_n 2, 1) := by decide +kernel
theorem dX1_popInto_34 : decode cX1_popInto 34 = .ok (.ifCond .lt 21, 3) := by decide +kernel
theorem dX1_popInto_37 : decode cX1_popInto 37 = .ok (.iload_n 2, 1) := by decide +kernel
theorem dX1_popInto_38 : decode cX1_popInto 38 = .ok (.aload_n 0, 1) := by decide +kernel
theorem dX1_popInto_39 : decode cX1_popInto 39 = .ok (.getfield 11, 3) := by decide +kernel
theorem dX1_popInto_42 : decode cX1_popInto 42 = .ok (.arraylength, 1) := by decide +kernel
theorem dX1_popInto_43 : decode cX1_popInto 43 = .ok (.if_icmp .ge 12, 3) := by decide +kernel
theorem dX1_popInto_46 : decode cX1_popInto 46 = .ok (.aload_n 0, 1) := by decide +kernel
theorem dX1_popInto_47 : decode cX1_popInto 47 = .ok (.getfield 11, 3) := by decide +kernel
theorem dX1_popInto_50 : decode cX1_popInto 50 = .ok (.iload_n 2, 1) := by decide +kernel
theorem dX1_popInto_51 : decode cX1_popInto 51 = .ok (.aaload, 1) := by decide +kernel
theorem dX1_popInto_52 : decode cX1_popInto 52 = .ok (.ifnonnull 5, 3) := by decide +kernel
theorem dX1_popInto_55 : decode cX1_popInto 55 = .ok (.iconst (-1), 1) := by decide +kernel
theorem dX1_popInto_56 : decode cX1_popInto 56 = .ok (.ireturn, 1) := by decide +kernel
theorem dX1_popInto_57 : decode cX1_popInto 57 = .ok (.aload_n 1, 1) := by decide +kernel
theorem dX1_popInto_58 : decode cX1_popInto 58 = .ok (.aload_n 0, 1) := by decide +kernel
theorem dX1_popInto_59 : decode cX1_popInto 59 = .ok (.getfield 11, 3) := by decide +kernel
theorem dX1_popInto_62 : decode cX1_popInto 62 = .ok (.iload_n 2, 1) := by decide +kernel
theorem dX1_popInto_63 : decode cX1_popInto 63 = .ok (.aaload, 1) := by decide +kernel
theorem dX1_popInto_64 : decode cX1_popInto 64 = .ok (.invokevirtual 22, 3) := by decide +kernel
theorem dX1_popInto_67 : decode cX1_popInto 67 = .ok (.aload_n 0, 1) := by decide +kernel
theorem dX1_popInto_68 : decode cX1_popInto 68 = .ok (.iload_n 2, 1) := by decide +kernel
theorem dX1_popInto_69 : decode cX1_popInto 69 = .ok (.putfield 18, 3) := by decide +kernel
theorem dX1_popInto_72 : decode cX1_popInto 72 = .ok (.aload_n 0, 1) := by decide +kernel
theorem dX1_popInto_73 : decode cX1_popInto 73 = .ok (.dup, 1) := by decide +kernel
theorem dX1_popInto_74 : decode cX1_popInto 74 = .ok (.getfield 26, 3) := by decide +kernel
theorem dX1_popInto_77 : decode cX1_popInto 77 = .ok (.iconst 1, 1) := by decide +kernel
theorem dX1_popInto_78 : decode cX1_popInto 78 = .ok (.isub, 1) := by decide +kernel
theorem dX1_popInto_79 : decode cX1_popInto 79 = .ok (.putfield 26, 3) := by decide +kernel
theorem dX1_popInto_82 : decode cX1_popInto 82 = .ok (.aload_n 0, 1) := by decide +kernel
theorem dX1_popInto_83 : decode cX1_popInto 83 = .ok (.getfield 26, 3) := by decide +kernel
theorem dX1_popInto_86 : decode cX1_popInto 86 = .ok (.ireturn, 1) := by decide +kernel
theorem dX2_init_0 : decode cX2_init 0 = .ok (.aload_n 0, 1) := by decide +kernel
theorem dX2_init_1 : decode cX2_init 1 = .ok (.invokespecial 3, 3) := by decide +kernel
theorem dX2_init_4 : decode cX2_init 4 = .ok (.aload_n 0, 1) := by decide +kernel
theorem dX2_init_5 : decode cX2_init 5 = .ok (.bipush 11, 2) := by decide +kernel
theorem dX2_init_7 : decode cX2_init 7 = .ok (.newarray .int, 2) := by decide +kernel
theorem dX2_init_9 : decode cX2_init 9 = .ok (.putfield 11, 3) := by decide +kernel
theorem dX2_init_12 : decode cX2_init 12 = .ok (.aload_n 0, 1) := by decide +kernel
theorem dX2_init_13 : decode cX2_init 13 = .ok (.aload_n 1, 1) := by decide +kernel
theorem dX2_init_14 : decode cX2_init 14 = .ok (.putfield 15, 3) := by decide +kernel
theorem dX2_init_17 : decode cX2_init 17 = .ok (.return_, 1) := by decide +kernel
theorem dX2_valueFor_0 : decode cX2_valueFor 0 = .ok (.aload_n 0, 1) := by decide +kernel
theorem dX2_valueFor_1 : decode cX2_valueFor 1 = .ok (.iconst 0, 1) := by decide +kernel
theorem dX2_valueFor_2 : decode cX2_valueFor 2 = .ok (.putfield 18, 3) := by decide +kernel
theorem dX2_valueFor_5 : decode cX2_valueFor 5 = .ok (.iconst 0, 1) := by decide +kernel
theorem dX2_valueFor_6 : decode cX2_valueFor 6 = .ok (.istore 5, 2) := by decide +kernel
theorem dX2_valueFor_8 : decode cX2_valueFor 8 = .ok (.iload 5, 2) := by decide +kernel
theorem dX2_valueFor_10 : decode cX2_valueFor 10 = .ok (.aload_n 0, 1) := by decide +kernel
theorem dX2_valueFor_11 : decode cX2_valueFor 11 = .ok (.getfield 15, 3) := by decide +kernel
theorem dX2_valueFor_14 : decode cX2_valueFor 14 = .ok (.arraylength, 1) := by decide +kernel
theorem dX2_valueFor_15 : decode cX2_valueFor 15 = .ok (.if_icmp .ge 115, 3) := by decide +kernel
theorem dX2_valueFor_18 : decode cX2_valueFor 18 = .ok (.aload_n 0, 1) := by decide +kernel
theorem dX2_valueFor_19 : decode cX2_valueFor 19 = .ok (.getfield 15, 3) := by decide +kernel
theorem dX2_valueFor_22 : decode cX2_valueFor 22 = .ok (.iload 5, 2) := by decide +kernel
theorem dX2_valueFor_24 : decode cX2_valueFor 24 = .ok (.iaload, 1) := by decide +kernel
theorem dX2_valueFor_25 : decode cX2_valueFor 25 = .ok (.istore 6, 2) := by decide +kernel
theorem dX2_valueFor_27 : decode cX2_valueFor 27 = .ok (.iload 6, 2) := by decide +kernel
theorem dX2_valueFor_29 : decode cX2_valueFor 29 = .ok (.tableswitch 89 (-8) (-1) #[80, 80, 80, 80, 71, 63, 55, 47], 47) := by decide +kernel
theorem dX2_valueFor_76 : decode cX2_valueFor 76 = .ok (.aload_n 0, 1) := by decide +kernel
theorem dX2_valueFor_77 : decode cX2_valueFor 77 = .ok (.iload_n 1, 1) := by decide +kernel
theorem dX2_valueFor_78 : decode cX2_valueFor 78 = .ok (.invokevirtual 22, 3) := by decide +kernel
theorem dX2_valueFor_81 : decode cX2_valueFor 81 = .ok (.goto 43, 3) := by decide +kernel
theorem dX2_valueFor_84 : decode cX2_valueFor 84 = .ok (.aload_n 0, 1) := by decide +kernel
theorem dX2_valueFor_85 : decode cX2_valueFor 85 = .ok (.iload_n 2, 1) := by decide +kernel
theorem dX2_valueFor_86 : decode cX2_valueFor 86 = .ok (.invokevirtual 22, 3) := by decide +kernel
theorem dX2_valueFor_89 : decode cX2_valueFor 89 = .ok (.goto 35, 3) := by decide +kernel
theorem dX2_valueFor_92 : decode cX2_valueFor 92 = .ok (.aload_n 0, 1) := by decide +kernel
theorem dX2_valueFor_93 : decode cX2_valueFor 93 = .ok (.iload_n 3, 1) := by decide +kernel
theorem dX2_valueFor_94 : decode cX2_valueFor 94 = .ok (.invokevirtual 22, 3) := by decide +kernel
theorem dX2_valueFor_97 : decode cX2_valueFor 97 = .ok (.goto 27, 3) := by decide +kernel
theorem dX2_valueFor_100 : decode cX2_valueFor 100 = .ok (.aload_n 0, 1) := by decide +kernel
theorem dX2_valueFor_101 : decode cX2_valueFor 101 = .ok (.iload 4, 2) := by decide +kernel
theorem dX2_valueFor_103 : decode cX2_valueFor 103 = .ok (.invokevirtual 22, 3) := by decide +kernel
theorem dX2_valueFor_106 : decode cX2_valueFor 106 = .ok (.goto 18, 3) := by decide +kernel
theorem dX2_valueFor_109 : decode cX2_valueFor 109 = .ok (.aload_n 0, 1) := by decide +kernel
theorem dX2_valueFor_110 : decode cX2_valueFor 110 = .ok (.iload 6, 2) := by decide +kernel
theorem dX2_valueFor_112 : decode cX2_valueFor 112 = .ok (.invokevirtual 26, 3) := by decide +kernel
theorem dX2_valueFor_115 : decode cX2_valueFor 115 = .ok (.goto 9, 3) := by decide +kernel
theorem dX2_valueFor_118 : decode cX2_valueFor 118 = .ok (.aload_n 0, 1) := by decide +kernel
theorem dX2_valueFor_119 : decode cX2_valueFor 119 = .ok (.iload 6, 2) := by decide +kernel
theorem dX2_valueFor_121 : decode cX2_valueFor 121 = .ok (.invokevirtual 22, 3) := by decide +kernel
theorem dX2_valueFor_124 : decode cX2_valueFor 124 = .ok (.iinc 5 1, 3) := by decide +kernel
theorem dX2_valueFor_127 : decode cX2_valueFor 127 = .ok (.goto (-119), 3) := by decide +kernel
theorem dX2_valueFor_130 : decode cX2_valueFor 130 = .ok (.aload_n 0, 1) := by decide +kernel
theorem dX2_valueFor_131 : decode cX2_valueFor 131 = .ok (.invokevirtual 29, 3) := by decide +kernel
theorem dX2_valueFor_134 : decode cX2_valueFor 134 = .ok (.ireturn, 1) := by decide +kernel
theorem dX2_push_0 : decode cX2_push 0 = .ok (.aload_n 0, 1) := by decide +kernel
theorem dX2_push_1 : decode cX2_push 1 = .ok (.getfield 18, 3) := by decide +kernel
theorem dX2_push_4 : decode cX2_push 4 = .ok (.ifCond .lt 35, 3) := by decide +kernel
theorem dX2_push_7 : decode cX2_push 7 = .ok (.aload_n 0, 1) := by decide +kernel
theorem dX2_push_8 : decode cX2_push 8 = .ok (.getfield 18, 3) := by decide +kernel
theorem dX2_push_11 : decode cX2_push 11 = .ok (.aload_n 0, 1) := by decide +kernel
theorem dX2_push_12 : decode cX2_push 12 = .ok (.getfield 11, 3) := by decide +kernel
theorem dX2_push_15 : decode cX2_push 15 = .ok (.arraylength, 1) := by decide +kernel
theorem dX2_push_16 : decode cX2_push 16 = .ok (.if_icmp .ge 23, 3) := by decide +kernel
theorem dX2_push_19 : decode cX2_push 19 = .ok (.aload_n 0, 1) := by decide +kernel
theorem dX2_push_20 : decode cX2_push 20 = .ok (.getfield 11, 3) := by decide +kernel
theorem dX2_push_23 : decode cX2_push 23 = .ok (.aload_n 0, 1) := by decide +kernel
theorem dX2_push_24 : decode cX2_push 24 = .ok (.getfield 18, 3) := by decide +kernel
theorem dX2_push_27 : decode cX2_push 27 = .ok (.iload_n 1, 1) := by decide +kernel
theorem dX2_push_28 : decode cX2_push 28 = .ok (.iastore, 1) := by decide +kernel
theorem dX2_push_29 : decode cX2_push 29 = .ok (.aload_n 0, 1) := by decide +kernel
theorem dX2_push_30 : decode cX2_push 30 = .ok (.dup, 1) := by decide +kernel
theorem dX2_push_31 : decode cX2_push 31 = .ok (.getfield 18, 3) := by decide +kernel
theorem dX2_push_34 : decode cX2_push 34 = .ok (.iconst 1, 1) := by decide +kernel
theorem dX2_push_35 : decode cX2_push 35 = .ok (.iadd, 1) := by decide +kernel
theorem dX2_push_36 : decode cX2_push 36 = .ok (.putfield 18, 3) := by decide +kernel
theorem dX2_push_39 : decode cX2_push 39 = .ok (.return_, 1) := by decide +kernel
theorem dX2_pop_0 : decode cX2_pop 0 = .ok (.aload_n 0, 1) := by decide +kernel
theorem dX2_pop_1 : decode cX2_pop 1 = .ok (.getfield 18, 3) := by decide +kernel
theorem dX2_pop_4 : decode cX2_pop 4 = .ok (.ifCond .le 15, 3) := by decide +kernel
theorem dX2_pop_7 : decode cX2_pop 7 = .ok (.aload_n 0, 1) := by decide +kernel
theorem dX2_pop_8 : decode cX2_pop 8 = .ok (.getfield 18, 3) := by decide +kernel
theorem dX2_pop_11 : decode cX2_pop 11 = .ok (.aload_n 0, 1) := by decide +kernel
theorem dX2_pop_12 : decode cX2_pop 12 = .ok (.getfield 11, 3) := by decide +kernel
theorem dX2_pop_15 : decode cX2_pop 15 = .ok (.arraylength, 1) := by decide +kernel
theorem dX2_pop_16 : decode cX2_pop 16 = .ok (.if_icmp .le 5, 3) := by decide +kernel
theorem dX2_pop_19 : decode cX2_pop 19 = .ok (.iconst 0, 1) := by decide +kernel
theorem dX2_pop_20 : decode cX2_pop 20 = .ok (.ireturn, 1) := by decide +kernel
theorem dX2_pop_21 : decode cX2_pop 21 = .ok (.aload_n 0, 1) := by decide +kernel
theorem dX2_pop_22 : decode cX2_pop 22 = .ok (.dup, 1) := by decide +kernel
theorem dX2_pop_23 : decode cX2_pop 23 = .ok (.getfield 18, 3) := by decide +kernel
theorem dX2_pop_26 : decode cX2_pop 26 = .ok (.iconst 1, 1) := by decide +kernel
theorem dX2_pop_27 : decode cX2_pop 27 = .ok (.isub, 1) := by decide +kernel
theorem dX2_pop_28 : decode cX2_pop 28 = .ok (.putfield 18, 3) := by decide +kernel
theorem dX2_pop_31 : decode cX2_pop 31 = .ok (.aload_n 0, 1) := by decide +kernel
theorem dX2_pop_32 : decode cX2_pop 32 = .ok (.getfield 11, 3) := by decide +kernel
theorem dX2_pop_35 : decode cX2_pop 35 = .ok (.aload_n 0, 1) := by decide +kernel
theorem dX2_pop_36 : decode cX2_pop 36 = .ok (.getfield 18, 3) := by decide +kernel
theorem dX2_pop_39 : decode cX2_pop 39 = .ok (.iaload, 1) := by decide +kernel
theorem dX2_pop_40 : decode cX2_pop 40 = .ok (.ireturn, 1) := by decide +kernel
theorem dX2_operate_0 : decode cX2_operate 0 = .ok (.aload_n 0, 1) := by decide +kernel
theorem dX2_operate_1 : decode cX2_operate 1 = .ok (.invokevirtual 29, 3) := by decide +kernel
theorem dX2_operate_4 : decode cX2_operate 4 = .ok (.i2l, 1) := by decide +kernel
theorem dX2_operate_5 : decode cX2_operate 5 = .ok (.lstore_n 2, 1) := by decide +kernel
theorem dX2_operate_6 : decode cX2_operate 6 = .ok (.aload_n 0, 1) := by decide +kernel
theorem dX2_operate_7 : decode cX2_operate 7 = .ok (.invokevirtual 29, 3) := by decide +kernel
theorem dX2_operate_10 : decode cX2_operate 10 = .ok (.i2l, 1) := by decide +kernel
theorem dX2_operate_11 : decode cX2_operate 11 = .ok (.lstore 4, 2) := by decide +kernel
theorem dX2_operate_13 : decode cX2_operate 13 = .ok (.iload_n 1, 1) := by decide +kernel
theorem dX2_operate_14 : decode cX2_operate 14 = .ok (.bipush (-5), 2) := by decide +kernel
theorem dX2_operate_16 : decode cX2_operate 16 = .ok (.if_icmp .ne 12, 3) := by decide +kernel
theorem dX2_operate_19 : decode cX2_operate 19 = .ok (.lload 4, 2) := by decide +kernel
theorem dX2_operate_21 : decode cX2_operate 21 = .ok (.lload_n 2, 1) := by decide +kernel
theorem dX2_operate_22 : decode cX2_operate 22 = .ok (.ladd, 1) := by decide +kernel
theorem dX2_operate_23 : decode cX2_operate 23 = .ok (.lstore 6, 2) := by decide +kernel
theorem dX2_operate_25 : decode cX2_operate 25 = .ok (.goto 49, 3) := by decide +kernel
theorem dX2_operate_28 : decode cX2_operate 28 = .ok (.iload_n 1, 1) := by decide +kernel
theorem dX2_operate_29 : decode cX2_operate 29 = .ok (.bipush (-6), 2) := by decide +kernel
theorem dX2_operate_31 : decode cX2_operate 31 = .ok (.if_icmp .ne 12, 3) := by decide +kernel
theorem dX2_operate_34 : decode cX2_operate 34 = .ok (.lload 4, 2) := by decide +kernel
theorem dX2_operate_36 : decode cX2_operate 36 = .ok (.lload_n 2, 1) := by decide +kernel
theorem dX2_operate_37 : decode cX2_operate 37 = .ok (.lsub, 1) := by decide +kernel
theorem dX2_operate_38 : decode cX2_operate 38 = .ok (.lstore 6, 2) := by decide +kernel
theorem dX2_operate_40 : decode cX2_operate 40 = .ok (.goto 34, 3) := by decide +kernel
theorem dX2_operate_43 : decode cX2_operate 43 = .ok (.iload_n 1, 1) := by decide +kernel
theorem dX2_operate_44 : decode cX2_operate 44 = .ok (.bipush (-7), 2) := by decide +kernel
theorem dX2_operate_46 : decode cX2_operate 46 = .ok (.if_icmp .ne 12, 3) := by decide +kernel
theorem dX2_operate_49 : decode cX2_operate 49 = .ok (.lload 4, 2) := by decide +kernel
theorem dX2_operate_51 : decode cX2_operate 51 = .ok (.lload_n 2, 1) := by decide +kernel
theorem dX2_operate_52 : decode cX2_operate 52 = .ok (.lmul, 1) := by decide +kernel
theorem dX2_operate_53 : decode cX2_operate 53 = .ok (.lstore 6, 2) := by decide +kernel
theorem dX2_operate_55 : decode cX2_operate 55 = .ok (.goto 19, 3) := by decide +kernel
theorem dX2_operate_58 : decode cX2_operate 58 = .ok (.lload_n 2, 1) := by decide +kernel
theorem dX2_operate_59 : decode cX2_operate 59 = .ok (.lconst 0, 1) := by decide +kernel
theorem dX2_operate_60 : decode cX2_operate 60 = .ok (.lcmp, 1) := by decide +kernel
theorem dX2_operate_61 : decode cX2_operate 61 = .ok (.ifCond .ne 7, 3) := by decide +kernel
theorem dX2_operate_64 : decode cX2_operate 64 = .ok (.lconst 0, 1) := by decide +kernel
theorem dX2_operate_65 : decode cX2_operate 65 = .ok (.goto 7, 3) := by decide +kernel
theorem dX2_operate_68 : decode cX2_operate 68 = .ok (.lload 4, 2) := by decide +kernel
theorem dX2_operate_70 : decode cX2_operate 70 = .ok (.lload_n 2, 1) := by decide +kernel
theorem dX2_operate_71 : decode cX2_operate 71 = .ok (.ldiv, 1) := by decide +kernel
theorem dX2_operate_72 : decode cX2_operate 72 = .ok (.lstore 6, 2) := by decide +kernel
theorem dX2_operate_74 : decode cX2_operate 74 = .ok (.aload_n 0, 1) := by decide +kernel
theorem dX2_operate_75 : decode cX2_operate 75 = .ok (.lload 6, 2) := by decide +kernel
theorem dX2_operate_77 : decode cX2_operate 77 = .ok (.ldc 33, 2) := by decide +kernel
theorem dX2_operate_79 : decode cX2_operate 79 = .ok (.ldc 34, 2) := by decide +kernel
theorem dX2_operate_81 : decode cX2_operate 81 = .ok (.invokestatic 35, 3) := by decide +kernel
theorem dX2_operate_84 : decode cX2_operate 84 = .ok (.invokevirtual 22, 3) := by decide +kernel
theorem dX2_operate_87 : decode cX2_operate 87 = .ok (.return_, 1) := by decide +kernel
theorem dX3_init_0 : decode cX3_init 0 = .ok (.aload_n 0, 1) := by decide +kernel
theorem dX3_init_1 : decode cX3_init 1 = .ok (.invokespecial 3, 3) := by decide +kernel
theorem dX3_init_4 : decode cX3_init 4 = .ok (.aload_n 0, 1) := by decide +kernel
theorem dX3_init_5 : decode cX3_init 5 = .ok (.sipush 600, 3) := by decide +kernel
theorem dX3_init_8 : decode cX3_init 8 = .ok (.newarray .byte, 2) := by decide +kernel
theorem dX3_init_10 : decode cX3_init 10 = .ok (.putfield 9, 3) := by decide +kernel
theorem dX3_init_13 : decode cX3_init 13 = .ok (.aload_n 0, 1) := by decide +kernel
theorem dX3_init_14 : decode cX3_init 14 = .ok (.new 15, 3) := by decide +kernel
theorem dX3_init_17 : decode cX3_init 17 = .ok (.dup, 1) := by decide +kernel
theorem dX3_init_18 : decode cX3_init 18 = .ok (.invokespecial 17, 3) := by decide +kernel
theorem dX3_init_21 : decode cX3_init 21 = .ok (.putfield 18, 3) := by decide +kernel
theorem dX3_init_24 : decode cX3_init 24 = .ok (.aload_n 0, 1) := by decide +kernel
theorem dX3_init_25 : decode cX3_init 25 = .ok (.sipush 600, 3) := by decide +kernel
theorem dX3_init_28 : decode cX3_init 28 = .ok (.newarray .int, 2) := by decide +kernel
theorem dX3_init_30 : decode cX3_init 30 = .ok (.putfield 22, 3) := by decide +kernel
theorem dX3_init_33 : decode cX3_init 33 = .ok (.return_, 1) := by decide +kernel
theorem dX3_hasRoomFor_0 : decode cX3_hasRoomFor 0 = .ok (.aload_n 0, 1) := by decide +kernel
theorem dX3_hasRoomFor_1 : decode cX3_hasRoomFor 1 = .ok (.getfield 26, 3) := by decide +kernel
theorem dX3_hasRoomFor_4 : decode cX3_hasRoomFor 4 = .ok (.iload_n 1, 1) := by decide +kernel
theorem dX3_hasRoomFor_5 : decode cX3_hasRoomFor 5 = .ok (.iadd, 1) := by decide +kernel
theorem dX3_hasRoomFor_6 : decode cX3_hasRoomFor 6 = .ok (.aload_n 0, 1) := by decide +kernel
theorem dX3_hasRoomFor_7 : decode cX3_hasRoomFor 7 = .ok (.getfield 9, 3) := by decide +kernel
theorem dX3_hasRoomFor_10 : decode cX3_hasRoomFor 10 = .ok (.arraylength, 1) := by decide +kernel
theorem dX3_hasRoomFor_11 : decode cX3_hasRoomFor 11 = .ok (.if_icmp .gt 7, 3) := by decide +kernel
theorem dX3_hasRoomFor_14 : decode cX3_hasRoomFor 14 = .ok (.iconst 1, 1) := by decide +kernel
theorem dX3_hasRoomFor_15 : decode cX3_hasRoomFor 15 = .ok (.goto 4, 3) := by decide +kernel
theorem dX3_hasRoomFor_18 : decode cX3_hasRoomFor 18 = .ok (.iconst 0, 1) := by decide +kernel
theorem dX3_hasRoomFor_19 : decode cX3_hasRoomFor 19 = .ok (.ireturn, 1) := by decide +kernel
theorem dX3_addWord_0 : decode cX3_addWord 0 = .ok (.bipush 24, 2) := by decide +kernel
theorem dX3_addWord_2 : decode cX3_addWord 2 = .ok (.istore_n 2, 1) := by decide +kernel
theorem dX3_addWord_3 : decode cX3_addWord 3 = .ok (.iload_n 2, 1) := by decide +kernel
theorem dX3_addWord_4 : decode cX3_addWord 4 = .ok (.ifCond .lt 51, 3) := by decide +kernel
theorem dX3_addWord_7 : decode cX3_addWord 7 = .ok (.aload_n 0, 1) := by decide +kernel
theorem dX3_addWord_8 : decode cX3_addWord 8 = .ok (.getfield 26, 3) := by decide +kernel
theorem dX3_addWord_11 : decode cX3_addWord 11 = .ok (.ifCond .lt 38, 3) := by decide +kernel
theorem dX3_addWord_14 : decode cX3_addWord 14 = .ok (.aload_n 0, 1) := by decide +kernel
theorem dX3_addWord_15 : decode cX3_addWord 15 = .ok (.getfield 26, 3) := by decide +kernel
theorem dX3_addWord_18 : decode cX3_addWord 18 = .ok (.aload_n 0, 1) := by decide +kernel
theorem dX3_addWord_19 : decode cX3_addWord 19 = .ok (.getfield 9, 3) := by decide +kernel
theorem dX3_addWord_22 : decode cX3_addWord 22 = .ok (.arraylength, 1) := by decide +kernel
theorem dX3_addWord_23 : decode cX3_addWord 23 = .ok (.if_icmp .ge 26, 3) := by decide +kernel
theorem dX3_addWord_26 : decode cX3_addWord 26 = .ok (.aload_n 0, 1) := by decide +kernel
theorem dX3_addWord_27 : decode cX3_addWord 27 = .ok (.getfield 9, 3) := by decide +kernel
theorem dX3_addWord_30 : decode cX3_addWord 30 = .ok (.aload_n 0, 1) := by decide +kernel
theorem dX3_addWord_31 : decode cX3_addWord 31 = .ok (.getfield 26, 3) := by decide +kernel
theorem dX3_addWord_34 : decode cX3_addWord 34 = .ok (.iload_n 1, 1) := by decide +kernel
theorem dX3_addWord_35 : decode cX3_addWord 35 = .ok (.iload_n 2, 1) := by decide +kernel
theorem dX3_addWord_36 : decode cX3_addWord 36 = .ok (.ishr, 1) := by decide +kernel
theorem dX3_addWord_37 : decode cX3_addWord 37 = .ok (.i2b, 1) := by decide +kernel
theorem dX3_addWord_38 : decode cX3_addWord 38 = .ok (.bastore, 1) := by decide +kernel
theorem dX3_addWord_39 : decode cX3_addWord 39 = .ok (.aload_n 0, 1) := by decide +kernel
theorem dX3_addWord_40 : decode cX3_addWord 40 = .ok (.dup, 1) := by decide +kernel
theorem dX3_addWord_41 : decode cX3_addWord 41 = .ok (.getfield 26, 3) := by decide +kernel
theorem dX3_addWord_44 : decode cX3_addWord 44 = .ok (.iconst 1, 1) := by decide +kernel
theorem dX3_addWord_45 : decode cX3_addWord 45 = .ok (.iadd, 1) := by decide +kernel
theorem dX3_addWord_46 : decode cX3_addWord 46 = .ok (.putfield 26, 3) := by decide +kernel
theorem dX3_addWord_49 : decode cX3_addWord 49 = .ok (.iinc 2 (-8), 3) := by decide +kernel
theorem dX3_addWord_52 : decode cX3_addWord 52 = .ok (.goto (-49), 3) := by decide +kernel
theorem dX3_addWord_55 : decode cX3_addWord 55 = .ok (.return_, 1) := by decide +kernel
theorem dX3_readSetup_0 : decode cX3_readSetup 0 = .ok (.aload_n 0, 1) := by decide +kernel
theorem dX3_readSetup_1 : decode cX3_readSetup 1 = .ok (.iconst 0, 1) := by decide +kernel
theorem dX3_readSetup_2 : decode cX3_readSetup 2 = .ok (.putfield 26, 3) := by decide +kernel
theorem dX3_readSetup_5 : decode cX3_readSetup 5 = .ok (.aload_n 0, 1) := by decide +kernel
theorem dX3_readSetup_6 : decode cX3_readSetup 6 = .ok (.iload_n 1, 1) := by decide +kernel
theorem dX3_readSetup_7 : decode cX3_readSetup 7 = .ok (.putfield 30, 3) := by decide +kernel
theorem dX3_readSetup_10 : decode cX3_readSetup 10 = .ok (.aload_n 0, 1) := by decide +kernel
theorem dX3_readSetup_11 : decode cX3_readSetup 11 = .ok (.iconst 0, 1) := by decide +kernel
theorem dX3_readSetup_12 : decode cX3_readSetup 12 = .ok (.putfield 33, 3) := by decide +kernel
theorem dX3_readSetup_15 : decode cX3_readSetup 15 = .ok (.aload_n 0, 1) := by decide +kernel
theorem dX3_readSetup_16 : decode cX3_readSetup 16 = .ok (.iconst 0, 1) := by decide +kernel
theorem dX3_readSetup_17 : decode cX3_readSetup 17 = .ok (.putfield 36, 3) := by decide +kernel
theorem dX3_readSetup_20 : decode cX3_readSetup 20 = .ok (.aload_n 0, 1) := by decide +kernel
theorem dX3_readSetup_21 : decode cX3_readSetup 21 = .ok (.iconst 0, 1) := by decide +kernel
theorem dX3_readSetup_22 : decode cX3_readSetup 22 = .ok (.putfield 39, 3) := by decide +kernel
theorem dX3_readSetup_25 : decode cX3_readSetup 25 = .ok (.aload_n 0, 1) := by decide +kernel
theorem dX3_readSetup_26 : decode cX3_readSetup 26 = .ok (.iconst 0, 1) := by decide +kernel
theorem dX3_readSetup_27 : decode cX3_readSetup 27 = .ok (.putfield 43, 3) := by decide +kernel
theorem dX3_readSetup_30 : decode cX3_readSetup 30 = .ok (.aload_n 0, 1) := by decide +kernel
theorem dX3_readSetup_31 : decode cX3_readSetup 31 = .ok (.iconst 0, 1) := by decide +kernel
theorem dX3_readSetup_32 : decode cX3_readSetup 32 = .ok (.putfield 46, 3) := by decide +kernel
theorem dX3_readSetup_35 : decode cX3_readSetup 35 = .ok (.aload_n 0, 1) := by decide +kernel
theorem dX3_readSetup_36 : decode cX3_readSetup 36 = .ok (.iconst 0, 1) := by decide +kernel
theorem dX3_readSetup_37 : decode cX3_readSetup 37 = .ok (.putfield 49, 3) := by decide +kernel
theorem dX3_readSetup_40 : decode cX3_readSetup 40 = .ok (.aload_n 0, 1) := by decide +kernel
theorem dX3_readSetup_41 : decode cX3_readSetup 41 = .ok (.iconst (-1), 1) := by decide +kernel
theorem dX3_readSetup_42 : decode cX3_readSetup 42 = .ok (.putfield 52, 3) := by decide +kernel
theorem dX3_readSetup_45 : decode cX3_readSetup 45 = .ok (.aload_n 0, 1) := by decide +kernel
theorem dX3_readSetup_46 : decode cX3_readSetup 46 = .ok (.getfield 18, 3) := by decide +kernel
theorem dX3_readSetup_49 : decode cX3_readSetup 49 = .ok (.invokevirtual 55, 3) := by decide +kernel
theorem dX3_readSetup_52 : decode cX3_readSetup 52 = .ok (.aload_n 0, 1) := by decide +kernel
theorem dX3_readSetup_53 : decode cX3_readSetup 53 = .ok (.invokevirtual 58, 3) := by decide +kernel
theorem dX3_readSetup_56 : decode cX3_readSetup 56 = .ok (.aload_n 0, 1) := by decide +kernel
theorem dX3_readSetup_57 : decode cX3_readSetup 57 = .ok (.ldc 61, 2) := by decide +kernel
theorem dX3_readSetup_59 : decode cX3_readSetup 59 = .ok (.invokevirtual 63, 3) := by decide +kernel
theorem dX3_readSetup_62 : decode cX3_readSetup 62 = .ok (.ifCond .ne 14, 3) := by decide +kernel
theorem dX3_readSetup_65 : decode cX3_readSetup 65 = .ok (.aload_n 0, 1) := by decide +kernel
theorem dX3_readSetup_66 : decode cX3_readSetup 66 = .ok (.bipush (-2), 2) := by decide +kernel
theorem dX3_readSetup_68 : decode cX3_readSetup 68 = .ok (.invokevirtual 67, 3) := by decide +kernel
theorem dX3_readSetup_71 : decode cX3_readSetup 71 = .ok (.aload_n 0, 1) := by decide +kernel
theorem dX3_readSetup_72 : decode cX3_readSetup 72 = .ok (.getfield 49, 3) := by decide +kernel
theorem dX3_readSetup_75 : decode cX3_readSetup 75 = .ok (.ireturn, 1) := by decide +kernel
theorem dX3_readSetup_76 : decode cX3_readSetup 76 = .ok (.aload_n 0, 1) := by decide +kernel
theorem dX3_readSetup_77 : decode cX3_readSetup 77 = .ok (.invokevirtual 58, 3) := by decide +kernel
theorem dX3_readSetup_80 : decode cX3_readSetup 80 = .ok (.aload_n 0, 1) := by decide +kernel
theorem dX3_readSetup_81 : decode cX3_readSetup 81 = .ok (.bipush 59, 2) := by decide +kernel
theorem dX3_readSetup_83 : decode cX3_readSetup 83 = .ok (.invokevirtual 71, 3) := by decide +kernel
theorem dX3_readSetup_86 : decode cX3_readSetup 86 = .ok (.iconst 0, 1) := by decide +kernel
theorem dX3_readSetup_87 : decode cX3_readSetup 87 = .ok (.istore_n 2, 1) := by decide +kernel
theorem dX3_readSetup_88 : decode cX3_readSetup 88 = .ok (.iload_n 2, 1) := by decide +kernel
theorem dX3_readSetup_89 : decode cX3_readSetup 89 = .ok (.aload_n 0, 1) := by decide +kernel
theorem dX3_readSetup_90 : decode cX3_readSetup 90 = .ok (.getfield 30, 3) := by decide +kernel
theorem dX3_readSetup_93 : decode cX3_readSetup 93 = .ok (.if_icmp .ge 33, 3) := by decide +kernel
theorem dX3_readSetup_96 : decode cX3_readSetup 96 = .ok (.aload_n 0, 1) := by decide +kernel
theorem dX3_readSetup_97 : decode cX3_readSetup 97 = .ok (.getfield 49, 3) := by decide +kernel
theorem dX3_readSetup_100 : decode cX3_readSetup 100 = .ok (.ifCond .ne 26, 3) := by decide +kernel
theorem dX3_readSetup_103 : decode cX3_readSetup 103 = .ok (.aload_n 0, 1) := by decide +kernel
theorem dX3_readSetup_104 : decode cX3_readSetup 104 = .ok (.getfield 75, 3) := by decide +kernel
theorem dX3_readSetup_107 : decode cX3_readSetup 107 = .ok (.ifCond .eq 19, 3) := by decide +kernel
theorem dX3_readSetup_110 : decode cX3_readSetup 110 = .ok (.aload_n 0, 1) := by decide +kernel
theorem dX3_readSetup_111 : decode cX3_readSetup 111 = .ok (.invokevirtual 78, 3) := by decide +kernel
theorem dX3_readSetup_114 : decode cX3_readSetup 114 = .ok (.aload_n 0, 1) := by decide +kernel
theorem dX3_readSetup_115 : decode cX3_readSetup 115 = .ok (.bipush 59, 2) := by decide +kernel
theorem dX3_readSetup_117 : decode cX3_readSetup 117 = .ok (.invokevirtual 71, 3) := by decide +kernel
theorem dX3_readSetup_120 : decode cX3_readSetup 120 = .ok (.iinc 2 1, 3) := by decide +kernel
theorem dX3_readSetup_123 : decode cX3_readSetup 123 = .ok (.goto (-35), 3) := by decide +kernel
theorem dX3_readSetup_126 : decode cX3_readSetup 126 = .ok (.aload_n 0, 1) := by decide +kernel
theorem dX3_readSetup_127 : decode cX3_readSetup 127 = .ok (.getfield 49, 3) := by decide +kernel
theorem dX3_readSetup_130 : decode cX3_readSetup 130 = .ok (.ifCond .ne 54, 3) := by decide +kernel
theorem dX3_readSetup_133 : decode cX3_readSetup 133 = .ok (.aload_n 0, 1) := by decide +kernel
theorem dX3_readSetup_134 : decode cX3_readSetup 134 = .ok (.getfield 46, 3) := by decide +kernel
theorem dX3_readSetup_137 : decode cX3_readSetup 137 = .ok (.ifCond .eq 47, 3) := by decide +kernel
theorem dX3_readSetup_140 : decode cX3_readSetup 140 = .ok (.aload_n 0, 1) := by decide +kernel
theorem dX3_readSetup_141 : decode cX3_readSetup 141 = .ok (.getfield 36, 3) := by decide +kernel
theorem dX3_readSetup_144 : decode cX3_readSetup 144 = .ok (.ifCond .lt 40, 3) := by decide +kernel
theorem dX3_readSetup_147 : decode cX3_readSetup 147 = .ok (.aload_n 0, 1) := by decide +kernel
theorem dX3_readSetup_148 : decode cX3_readSetup 148 = .ok (.getfield 36, 3) := by decide +kernel
theorem dX3_readSetup_151 : decode cX3_readSetup 151 = .ok (.aload_n 0, 1) := by decide +kernel
theorem dX3_readSetup_152 : decode cX3_readSetup 152 = .ok (.getfield 22, 3) := by decide +kernel
theorem dX3_readSetup_155 : decode cX3_readSetup 155 = .ok (.arraylength, 1) := by decide +kernel
theorem dX3_readSetup_156 : decode cX3_readSetup 156 = .ok (.if_icmp .gt 28, 3) := by decide +kernel
theorem dX3_readSetup_159 : decode cX3_readSetup 159 = .ok (.aload_n 0, 1) := by decide +kernel
theorem dX3_readSetup_160 : decode cX3_readSetup 160 = .ok (.getfield 18, 3) := by decide +kernel
theorem dX3_readSetup_163 : decode cX3_readSetup 163 = .ok (.new 81, 3) := by decide +kernel
theorem dX3_readSetup_166 : decode cX3_readSetup 166 = .ok (.dup, 1) := by decide +kernel
theorem dX3_readSetup_167 : decode cX3_readSetup 167 = .ok (.aload_n 0, 1) := by decide +kernel
theorem dX3_readSetup_168 : decode cX3_readSetup 168 = .ok (.getfield 22, 3) := by decide +kernel
theorem dX3_readSetup_171 : decode cX3_readSetup 171 = .ok (.aload_n 0, 1) := by decide +kernel
theorem dX3_readSetup_172 : decode cX3_readSetup 172 = .ok (.getfield 36, 3) := by decide +kernel
theorem dX3_readSetup_175 : decode cX3_readSetup 175 = .ok (.invokestatic 83, 3) := by decide +kernel
theorem dX3_readSetup_178 : decode cX3_readSetup 178 = .ok (.invokespecial 89, 3) := by decide +kernel
theorem dX3_readSetup_181 : decode cX3_readSetup 181 = .ok (.putfield 92, 3) := by decide +kernel
theorem dX3_readSetup_184 : decode cX3_readSetup 184 = .ok (.aload_n 0, 1) := by decide +kernel
theorem dX3_readSetup_185 : decode cX3_readSetup 185 = .ok (.getfield 49, 3) := by decide +kernel
theorem dX3_readSetup_188 : decode cX3_readSetup 188 = .ok (.ireturn, 1) := by decide +kernel
theorem dX3_readStatement_0 : decode cX3_readStatement 0 = .ok (.aload_n 0, 1) := by decide +kernel
theorem dX3_readStatement_1 : decode cX3_readStatement 1 = .ok (.ldc 96, 2) := by decide +kernel
theorem dX3_readStatement_3 : decode cX3_readStatement 3 = .ok (.invokevirtual 63, 3) := by decide +kernel
theorem dX3_readStatement_6 : decode cX3_readStatement 6 = .ok (.ifCond .eq 10, 3) := by decide +kernel
theorem dX3_readStatement_9 : decode cX3_readStatement 9 = .ok (.aload_n 0, 1) := by decide +kernel
theorem dX3_readStatement_10 : decode cX3_readStatement 10 = .ok (.invokevirtual 98, 3) := by decide +kernel
theorem dX3_readStatement_13 : decode cX3_readStatement 13 = .ok (.goto 88, 3) := by decide +kernel
theorem dX3_readStatement_16 : decode cX3_readStatement 16 = .ok (.aload_n 0, 1) := by decide +kernel
theorem dX3_readStatement_17 : decode cX3_readStatement 17 = .ok (.ldc 101, 2) := by decide +kernel
theorem dX3_readStatement_19 : decode cX3_readStatement 19 = .ok (.invokevirtual 63, 3) := by decide +kernel
theorem dX3_readStatement_22 : decode cX3_readStatement 22 = .ok (.ifCond .eq 17, 3) := by decide +kernel
theorem dX3_readStatement_25 : decode cX3_readStatement 25 = .ok (.aload_n 0, 1) := by decide +kernel
theorem dX3_readStatement_26 : decode cX3_readStatement 26 = .ok (.getfield 39, 3) := by decide +kernel
theorem dX3_readStatement_29 : decode cX3_readStatement 29 = .ok (.ifCond .ne 10, 3) := by decide +kernel
theorem dX3_readStatement_32 : decode cX3_readStatement 32 = .ok (.aload_n 0, 1) := by decide +kernel
theorem dX3_readStatement_33 : decode cX3_readStatement 33 = .ok (.invokevirtual 103, 3) := by decide +kernel
theorem dX3_readStatement_36 : decode cX3_readStatement 36 = .ok (.goto 65, 3) := by decide +kernel
theorem dX3_readStatement_39 : decode cX3_readStatement 39 = .ok (.aload_n 0, 1) := by decide +kernel
theorem dX3_readStatement_40 : decode cX3_readStatement 40 = .ok (.ldc 106, 2) := by decide +kernel
theorem dX3_readStatement_42 : decode cX3_readStatement 42 = .ok (.invokevirtual 63, 3) := by decide +kernel
theorem dX3_readStatement_45 : decode cX3_readStatement 45 = .ok (.ifCond .eq 17, 3) := by decide +kernel
theorem dX3_readStatement_48 : decode cX3_readStatement 48 = .ok (.aload_n 0, 1) := by decide +kernel
theorem dX3_readStatement_49 : decode cX3_readStatement 49 = .ok (.getfield 43, 3) := by decide +kernel
theorem dX3_readStatement_52 : decode cX3_readStatement 52 = .ok (.ifCond .ne 10, 3) := by decide +kernel
theorem dX3_readStatement_55 : decode cX3_readStatement 55 = .ok (.aload_n 0, 1) := by decide +kernel
theorem dX3_readStatement_56 : decode cX3_readStatement 56 = .ok (.invokevirtual 108, 3) := by decide +kernel
theorem dX3_readStatement_59 : decode cX3_readStatement 59 = .ok (.goto 42, 3) := by decide +kernel
theorem dX3_readStatement_62 : decode cX3_readStatement 62 = .ok (.aload_n 0, 1) := by decide +kernel
theorem dX3_readStatement_63 : decode cX3_readStatement 63 = .ok (.ldc 111, 2) := by decide +kernel
theorem dX3_readStatement_65 : decode cX3_readStatement 65 = .ok (.invokevirtual 63, 3) := by decide +kernel
theorem dX3_readStatement_68 : decode cX3_readStatement 68 = .ok (.ifCond .eq 27, 3) := by decide +kernel
theorem dX3_readStatement_71 : decode cX3_readStatement 71 = .ok (.aload_n 0, 1) := by decide +kernel
theorem dX3_readStatement_72 : decode cX3_readStatement 72 = .ok (.getfield 46, 3) := by decide +kernel
theorem dX3_readStatement_75 : decode cX3_readStatement 75 = .ok (.ifCond .ne 20, 3) := by decide +kernel
theorem dX3_readStatement_78 : decode cX3_readStatement 78 = .ok (.aload_n 0, 1) := by decide +kernel
theorem dX3_readStatement_79 : decode cX3_readStatement 79 = .ok (.iconst 1, 1) := by decide +kernel
theorem dX3_readStatement_80 : decode cX3_readStatement 80 = .ok (.putfield 46, 3) := by decide +kernel
theorem dX3_readStatement_83 : decode cX3_readStatement 83 = .ok (.aload_n 0, 1) := by decide +kernel
theorem dX3_readStatement_84 : decode cX3_readStatement 84 = .ok (.invokevirtual 58, 3) := by decide +kernel
theorem dX3_readStatement_87 : decode cX3_readStatement 87 = .ok (.aload_n 0, 1) := by decide +kernel
theorem dX3_readStatement_88 : decode cX3_readStatement 88 = .ok (.iconst 0, 1) := by decide +kernel
theorem dX3_readStatement_89 : decode cX3_readStatement 89 = .ok (.invokevirtual 112, 3) := by decide +kernel
theorem dX3_readStatement_92 : decode cX3_readStatement 92 = .ok (.goto 9, 3) := by decide +kernel
theorem dX3_readStatement_95 : decode cX3_readStatement 95 = .ok (.aload_n 0, 1) := by decide +kernel
theorem dX3_readStatement_96 : decode cX3_readStatement 96 = .ok (.bipush (-2), 2) := by decide +kernel
theorem dX3_readStatement_98 : decode cX3_readStatement 98 = .ok (.invokevirtual 67, 3) := by decide +kernel
theorem dX3_readStatement_101 : decode cX3_readStatement 101 = .ok (.return_, 1) := by decide +kernel
theorem dX3_readParty_0 : decode cX3_readParty 0 = .ok (.aload_n 0, 1) := by decide +kernel
theorem dX3_readParty_1 : decode cX3_readParty 1 = .ok (.getfield 18, 3) := by decide +kernel
theorem dX3_readParty_4 : decode cX3_readParty 4 = .ok (.getfield 115, 3) := by decide +kernel
theorem dX3_readParty_7 : decode cX3_readParty 7 = .ok (.getfield 119, 3) := by decide +kernel
theorem dX3_readParty_10 : decode cX3_readParty 10 = .ok (.bipush 10, 2) := by decide +kernel
theorem dX3_readParty_12 : decode cX3_readParty 12 = .ok (.if_icmp .lt 10, 3) := by decide +kernel
theorem dX3_readParty_15 : decode cX3_readParty 15 = .ok (.aload_n 0, 1) := by decide +kernel
theorem dX3_readParty_16 : decode cX3_readParty 16 = .ok (.bipush (-4), 2) := by decide +kernel
theorem dX3_readParty_18 : decode cX3_readParty 18 = .ok (.invokevirtual 67, 3) := by decide +kernel
theorem dX3_readParty_21 : decode cX3_readParty 21 = .ok (.return_, 1) := by decide +kernel
theorem dX3_readParty_22 : decode cX3_readParty 22 = .ok (.aload_n 0, 1) := by decide +kernel
theorem dX3_readParty_23 : decode cX3_readParty 23 = .ok (.invokevirtual 58, 3) := by decide +kernel
theorem dX3_readParty_26 : decode cX3_readParty 26 = .ok (.aload_n 0, 1) := by decide +kernel
theorem dX3_readParty_27 : decode cX3_readParty 27 = .ok (.iconst 0, 1) := by decide +kernel
theorem dX3_readParty_28 : decode cX3_readParty 28 = .ok (.bipush 99, 2) := by decide +kernel
theorem dX3_readParty_30 : decode cX3_readParty 30 = .ok (.invokevirtual 124, 3) := by decide +kernel
theorem dX3_readParty_33 : decode cX3_readParty 33 = .ok (.istore_n 1, 1) := by decide +kernel
theorem dX3_readParty_34 : decode cX3_readParty 34 = .ok (.aload_n 0, 1) := by decide +kernel
theorem dX3_readParty_35 : decode cX3_readParty 35 = .ok (.iconst 0, 1) := by decide +kernel
theorem dX3_readParty_36 : decode cX3_readParty 36 = .ok (.bipush 99, 2) := by decide +kernel
theorem dX3_readParty_38 : decode cX3_readParty 38 = .ok (.invokevirtual 124, 3) := by decide +kernel
theorem dX3_readParty_41 : decode cX3_readParty 41 = .ok (.istore_n 2, 1) := by decide +kernel
theorem dX3_readParty_42 : decode cX3_readParty 42 = .ok (.aload_n 0, 1) := by decide +kernel
theorem dX3_readParty_43 : decode cX3_readParty 43 = .ok (.iconst 0, 1) := by decide +kernel
theorem dX3_readParty_44 : decode cX3_readParty 44 = .ok (.sipush 999, 3) := by decide +kernel
theorem dX3_readParty_47 : decode cX3_readParty 47 = .ok (.invokevirtual 124, 3) := by decide +kernel
theorem dX3_readParty_50 : decode cX3_readParty 50 = .ok (.istore_n 3, 1) := by decide +kernel
theorem dX3_readParty_51 : decode cX3_readParty 51 = .ok (.aload_n 0, 1) := by decide +kernel
theorem dX3_readParty_52 : decode cX3_readParty 52 = .ok (.getfield 18, 3) := by decide +kernel
theorem dX3_readParty_55 : decode cX3_readParty 55 = .ok (.iload_n 1, 1) := by decide +kernel
theorem dX3_readParty_56 : decode cX3_readParty 56 = .ok (.iload_n 2, 1) := by decide +kernel
theorem dX3_readParty_57 : decode cX3_readParty 57 = .ok (.iload_n 3, 1) := by decide +kernel
theorem dX3_readParty_58 : decode cX3_readParty 58 = .ok (.invokevirtual 128, 3) := by decide +kernel
theorem dX3_readParty_61 : decode cX3_readParty 61 = .ok (.return_, 1) := by decide +kernel
theorem dX3_readWait_0 : decode cX3_readWait 0 = .ok (.aload_n 0, 1) := by decide +kernel
theorem dX3_readWait_1 : decode cX3_readWait 1 = .ok (.iconst 1, 1) := by decide +kernel
theorem dX3_readWait_2 : decode cX3_readWait 2 = .ok (.putfield 39, 3) := by decide +kernel
theorem dX3_readWait_5 : decode cX3_readWait 5 = .ok (.aload_n 0, 1) := by decide +kernel
theorem dX3_readWait_6 : decode cX3_readWait 6 = .ok (.invokevirtual 58, 3) := by decide +kernel
theorem dX3_readWait_9 : decode cX3_readWait 9 = .ok (.aload_n 0, 1) := by decide +kernel
theorem dX3_readWait_10 : decode cX3_readWait 10 = .ok (.getfield 18, 3) := by decide +kernel
theorem dX3_readWait_13 : decode cX3_readWait 13 = .ok (.aload_n 0, 1) := by decide +kernel
theorem dX3_readWait_14 : decode cX3_readWait 14 = .ok (.iconst 1, 1) := by decide +kernel
theorem dX3_readWait_15 : decode cX3_readWait 15 = .ok (.bipush 99, 2) := by decide +kernel
theorem dX3_readWait_17 : decode cX3_readWait 17 = .ok (.invokevirtual 124, 3) := by decide +kernel
theorem dX3_readWait_20 : decode cX3_readWait 20 = .ok (.putfield 132, 3) := by decide +kernel
theorem dX3_readWait_23 : decode cX3_readWait 23 = .ok (.aload_n 0, 1) := by decide +kernel
theorem dX3_readWait_24 : decode cX3_readWait 24 = .ok (.getfield 18, 3) := by decide +kernel
theorem dX3_readWait_27 : decode cX3_readWait 27 = .ok (.aload_n 0, 1) := by decide +kernel
theorem dX3_readWait_28 : decode cX3_readWait 28 = .ok (.iconst 1, 1) := by decide +kernel
theorem dX3_readWait_29 : decode cX3_readWait 29 = .ok (.bipush 99, 2) := by decide +kernel
theorem dX3_readWait_31 : decode cX3_readWait 31 = .ok (.invokevirtual 124, 3) := by decide +kernel
theorem dX3_readWait_34 : decode cX3_readWait 34 = .ok (.putfield 135, 3) := by decide +kernel
theorem dX3_readWait_37 : decode cX3_readWait 37 = .ok (.return_, 1) := by decide +kernel
theorem dX3_readPatience_0 : decode cX3_readPatience 0 = .ok (.aload_n 0, 1) := by decide +kernel
theorem dX3_readPatience_1 : decode cX3_readPatience 1 = .ok (.iconst 1, 1) := by decide +kernel
theorem dX3_readPatience_2 : decode cX3_readPatience 2 = .ok (.putfield 43, 3) := by decide +kernel
theorem dX3_readPatience_5 : decode cX3_readPatience 5 = .ok (.aload_n 0, 1) := by decide +kernel
theorem dX3_readPatience_6 : decode cX3_readPatience 6 = .ok (.invokevirtual 58, 3) := by decide +kernel
theorem dX3_readPatience_9 : decode cX3_readPatience 9 = .ok (.aload_n 0, 1) := by decide +kernel
theorem dX3_readPatience_10 : decode cX3_readPatience 10 = .ok (.getfield 18, 3) := by decide +kernel
theorem dX3_readPatience_13 : decode cX3_readPatience 13 = .ok (.aload_n 0, 1) := by decide +kernel
theorem dX3_readPatience_14 : decode cX3_readPatience 14 = .ok (.iconst 1, 1) := by decide +kernel
theorem dX3_readPatience_15 : decode cX3_readPatience 15 = .ok (.bipush 99, 2) := by decide +kernel
theorem dX3_readPatience_17 : decode cX3_readPatience 17 = .ok (.invokevirtual 124, 3) := by decide +kernel
theorem dX3_readPatience_20 : decode cX3_readPatience 20 = .ok (.putfield 138, 3) := by decide +kernel
theorem dX3_readPatience_23 : decode cX3_readPatience 23 = .ok (.return_, 1) := by decide +kernel
theorem dX3_readSum_0 : decode cX3_readSum 0 = .ok (.aload_n 0, 1) := by decide +kernel
theorem dX3_readSum_1 : decode cX3_readSum 1 = .ok (.iload_n 1, 1) := by decide +kernel
theorem dX3_readSum_2 : decode cX3_readSum 2 = .ok (.invokevirtual 140, 3) := by decide +kernel
theorem dX3_readSum_5 : decode cX3_readSum 5 = .ok (.iconst 0, 1) := by decide +kernel
theorem dX3_readSum_6 : decode cX3_readSum 6 = .ok (.istore_n 2, 1) := by decide +kernel
theorem dX3_readSum_7 : decode cX3_readSum 7 = .ok (.iload_n 2, 1) := by decide +kernel
theorem dX3_readSum_8 : decode cX3_readSum 8 = .ok (.aload_n 0, 1) := by decide +kernel
theorem dX3_readSum_9 : decode cX3_readSum 9 = .ok (.getfield 30, 3) := by decide +kernel
theorem dX3_readSum_12 : decode cX3_readSum 12 = .ok (.if_icmp .ge 65, 3) := by decide +kernel
theorem dX3_readSum_15 : decode cX3_readSum 15 = .ok (.aload_n 0, 1) := by decide +kernel
theorem dX3_readSum_16 : decode cX3_readSum 16 = .ok (.bipush 43, 2) := by decide +kernel
theorem dX3_readSum_18 : decode cX3_readSum 18 = .ok (.invokevirtual 143, 3) := by decide +kernel
theorem dX3_readSum_21 : decode cX3_readSum 21 = .ok (.ifCond .ne 12, 3) := by decide +kernel
theorem dX3_readSum_24 : decode cX3_readSum 24 = .ok (.aload_n 0, 1) := by decide +kernel
theorem dX3_readSum_25 : decode cX3_readSum 25 = .ok (.bipush 45, 2) := by decide +kernel
theorem dX3_readSum_27 : decode cX3_readSum 27 = .ok (.invokevirtual 143, 3) := by decide +kernel
theorem dX3_readSum_30 : decode cX3_readSum 30 = .ok (.ifCond .eq 47, 3) := by decide +kernel
theorem dX3_readSum_33 : decode cX3_readSum 33 = .ok (.aload_n 0, 1) := by decide +kernel
theorem dX3_readSum_34 : decode cX3_readSum 34 = .ok (.getfield 49, 3) := by decide +kernel
theorem dX3_readSum_37 : decode cX3_readSum 37 = .ok (.ifCond .ne 40, 3) := by decide +kernel
theorem dX3_readSum_40 : decode cX3_readSum 40 = .ok (.aload_n 0, 1) := by decide +kernel
theorem dX3_readSum_41 : decode cX3_readSum 41 = .ok (.bipush 43, 2) := by decide +kernel
theorem dX3_readSum_43 : decode cX3_readSum 43 = .ok (.invokevirtual 143, 3) := by decide +kernel
theorem dX3_readSum_46 : decode cX3_readSum 46 = .ok (.ifCond .eq 8, 3) := by decide +kernel
theorem dX3_readSum_49 : decode cX3_readSum 49 = .ok (.bipush (-5), 2) := by decide +kernel
theorem dX3_readSum_51 : decode cX3_readSum 51 = .ok (.goto 5, 3) := by decide +kernel
theorem dX3_readSum_54 : decode cX3_readSum 54 = .ok (.bipush (-6), 2) := by decide +kernel
theorem dX3_readSum_56 : decode cX3_readSum 56 = .ok (.istore_n 3, 1) := by decide +kernel
theorem dX3_readSum_57 : decode cX3_readSum 57 = .ok (.aload_n 0, 1) := by decide +kernel
theorem dX3_readSum_58 : decode cX3_readSum 58 = .ok (.invokevirtual 58, 3) := by decide +kernel
theorem dX3_readSum_61 : decode cX3_readSum 61 = .ok (.aload_n 0, 1) := by decide +kernel
theorem dX3_readSum_62 : decode cX3_readSum 62 = .ok (.iload_n 1, 1) := by decide +kernel
theorem dX3_readSum_63 : decode cX3_readSum 63 = .ok (.invokevirtual 140, 3) := by decide +kernel
theorem dX3_readSum_66 : decode cX3_readSum 66 = .ok (.aload_n 0, 1) := by decide +kernel
theorem dX3_readSum_67 : decode cX3_readSum 67 = .ok (.iload_n 3, 1) := by decide +kernel
theorem dX3_readSum_68 : decode cX3_readSum 68 = .ok (.invokevirtual 147, 3) := by decide +kernel
theorem dX3_readSum_71 : decode cX3_readSum 71 = .ok (.iinc 2 1, 3) := by decide +kernel
theorem dX3_readSum_74 : decode cX3_readSum 74 = .ok (.goto (-67), 3) := by decide +kernel
theorem dX3_readSum_77 : decode cX3_readSum 77 = .ok (.return_, 1) := by decide +kernel
theorem dX3_readTerm_0 : decode cX3_readTerm 0 = .ok (.aload_n 0, 1) := by decide +kernel
theorem dX3_readTerm_1 : decode cX3_readTerm 1 = .ok (.iload_n 1, 1) := by decide +kernel
theorem dX3_readTerm_2 : decode cX3_readTerm 2 = .ok (.invokevirtual 150, 3) := by decide +kernel
theorem dX3_readTerm_5 : decode cX3_readTerm 5 = .ok (.iconst 0, 1) := by decide +kernel
theorem dX3_readTerm_6 : decode cX3_readTerm 6 = .ok (.istore_n 2, 1) := by decide +kernel
theorem dX3_readTerm_7 : decode cX3_readTerm 7 = .ok (.iload_n 2, 1) := by decide +kernel
theorem dX3_readTerm_8 : decode cX3_readTerm 8 = .ok (.aload_n 0, 1) := by decide +kernel
theorem dX3_readTerm_9 : decode cX3_readTerm 9 = .ok (.getfield 30, 3) := by decide +kernel
theorem dX3_readTerm_12 : decode cX3_readTerm 12 = .ok (.if_icmp .ge 65, 3) := by decide +kernel
theorem dX3_readTerm_15 : decode cX3_readTerm 15 = .ok (.aload_n 0, 1) := by decide +kernel
theorem dX3_readTerm_16 : decode cX3_readTerm 16 = .ok (.bipush 42, 2) := by decide +kernel
theorem dX3_readTerm_18 : decode cX3_readTerm 18 = .ok (.invokevirtual 143, 3) := by decide +kernel
theorem dX3_readTerm_21 : decode cX3_readTerm 21 = .ok (.ifCond .ne 12, 3) := by decide +kernel
theorem dX3_readTerm_24 : decode cX3_readTerm 24 = .ok (.aload_n 0, 1) := by decide +kernel
theorem dX3_readTerm_25 : decode cX3_readTerm 25 = .ok (.bipush 47, 2) := by decide +kernel
theorem dX3_readTerm_27 : decode cX3_readTerm 27 = .ok (.invokevirtual 143, 3) := by decide +kernel
theorem dX3_readTerm_30 : decode cX3_readTerm 30 = .ok (.ifCond .eq 47, 3) := by decide +kernel
theorem dX3_readTerm_33 : decode cX3_readTerm 33 = .ok (.aload_n 0, 1) := by decide +kernel
theorem dX3_readTerm_34 : decode cX3_readTerm 34 = .ok (.getfield 49, 3) := by decide +kernel
theorem dX3_readTerm_37 : decode cX3_readTerm 37 = .ok (.ifCond .ne 40, 3) := by decide +kernel
theorem dX3_readTerm_40 : decode cX3_readTerm 40 = .ok (.aload_n 0, 1) := by decide +kernel
theorem dX3_readTerm_41 : decode cX3_readTerm 41 = .ok (.bipush 42, 2) := by decide +kernel
theorem dX3_readTerm_43 : decode cX3_readTerm 43 = .ok (.invokevirtual 143, 3) := by decide +kernel
theorem dX3_readTerm_46 : decode cX3_readTerm 46 = .ok (.ifCond .eq 8, 3) := by decide +kernel
theorem dX3_readTerm_49 : decode cX3_readTerm 49 = .ok (.bipush (-7), 2) := by decide +kernel
theorem dX3_readTerm_51 : decode cX3_readTerm 51 = .ok (.goto 5, 3) := by decide +kernel
theorem dX3_readTerm_54 : decode cX3_readTerm 54 = .ok (.bipush (-8), 2) := by decide +kernel
theorem dX3_readTerm_56 : decode cX3_readTerm 56 = .ok (.istore_n 3, 1) := by decide +kernel
theorem dX3_readTerm_57 : decode cX3_readTerm 57 = .ok (.aload_n 0, 1) := by decide +kernel
theorem dX3_readTerm_58 : decode cX3_readTerm 58 = .ok (.invokevirtual 58, 3) := by decide +kernel
theorem dX3_readTerm_61 : decode cX3_readTerm 61 = .ok (.aload_n 0, 1) := by decide +kernel
theorem dX3_readTerm_62 : decode cX3_readTerm 62 = .ok (.iload_n 1, 1) := by decide +kernel
theorem dX3_readTerm_63 : decode cX3_readTerm 63 = .ok (.invokevirtual 150, 3) := by decide +kernel
theorem dX3_readTerm_66 : decode cX3_readTerm 66 = .ok (.aload_n 0, 1) := by decide +kernel
theorem dX3_readTerm_67 : decode cX3_readTerm 67 = .ok (.iload_n 3, 1) := by decide +kernel
theorem dX3_readTerm_68 : decode cX3_readTerm 68 = .ok (.invokevirtual 147, 3) := by decide +kernel
theorem dX3_readTerm_71 : decode cX3_readTerm 71 = .ok (.iinc 2 1, 3) := by decide +kernel
theorem dX3_readTerm_74 : decode cX3_readTerm 74 = .ok (.goto (-67), 3) := by decide +kernel
theorem dX3_readTerm_77 : decode cX3_readTerm 77 = .ok (.return_, 1) := by decide +kernel
theorem dX3_readFactor_0 : decode cX3_readFactor 0 = .ok (.aload_n 0, 1) := by decide +kernel
theorem dX3_readFactor_1 : decode cX3_readFactor 1 = .ok (.getfield 75, 3) := by decide +kernel
theorem dX3_readFactor_4 : decode cX3_readFactor 4 = .ok (.iconst 2, 1) := by decide +kernel
theorem dX3_readFactor_5 : decode cX3_readFactor 5 = .ok (.if_icmp .ne 18, 3) := by decide +kernel
theorem dX3_readFactor_8 : decode cX3_readFactor 8 = .ok (.aload_n 0, 1) := by decide +kernel
theorem dX3_readFactor_9 : decode cX3_readFactor 9 = .ok (.aload_n 0, 1) := by decide +kernel
theorem dX3_readFactor_10 : decode cX3_readFactor 10 = .ok (.iconst 0, 1) := by decide +kernel
theorem dX3_readFactor_11 : decode cX3_readFactor 11 = .ok (.sipush 9999, 3) := by decide +kernel
theorem dX3_readFactor_14 : decode cX3_readFactor 14 = .ok (.invokevirtual 153, 3) := by decide +kernel
theorem dX3_readFactor_17 : decode cX3_readFactor 17 = .ok (.invokevirtual 147, 3) := by decide +kernel
theorem dX3_readFactor_20 : decode cX3_readFactor 20 = .ok (.goto 132, 3) := by decide +kernel
theorem dX3_readFactor_23 : decode cX3_readFactor 23 = .ok (.aload_n 0, 1) := by decide +kernel
theorem dX3_readFactor_24 : decode cX3_readFactor 24 = .ok (.ldc 156, 2) := by decide +kernel
theorem dX3_readFactor_26 : decode cX3_readFactor 26 = .ok (.invokevirtual 63, 3) := by decide +kernel
theorem dX3_readFactor_29 : decode cX3_readFactor 29 = .ok (.ifCond .eq 11, 3) := by decide +kernel
theorem dX3_readFactor_32 : decode cX3_readFactor 32 = .ok (.aload_n 0, 1) := by decide +kernel
theorem dX3_readFactor_33 : decode cX3_readFactor 33 = .ok (.iconst (-1), 1) := by decide +kernel
theorem dX3_readFactor_34 : decode cX3_readFactor 34 = .ok (.invokevirtual 147, 3) := by decide +kernel
theorem dX3_readFactor_37 : decode cX3_readFactor 37 = .ok (.goto 115, 3) := by decide +kernel
theorem dX3_readFactor_40 : decode cX3_readFactor 40 = .ok (.aload_n 0, 1) := by decide +kernel
theorem dX3_readFactor_41 : decode cX3_readFactor 41 = .ok (.ldc 158, 2) := by decide +kernel
theorem dX3_readFactor_43 : decode cX3_readFactor 43 = .ok (.invokevirtual 63, 3) := by decide +kernel
theorem dX3_readFactor_46 : decode cX3_readFactor 46 = .ok (.ifCond .eq 12, 3) := by decide +kernel
theorem dX3_readFactor_49 : decode cX3_readFactor 49 = .ok (.aload_n 0, 1) := by decide +kernel
theorem dX3_readFactor_50 : decode cX3_readFactor 50 = .ok (.bipush (-2), 2) := by decide +kernel
theorem dX3_readFactor_52 : decode cX3_readFactor 52 = .ok (.invokevirtual 147, 3) := by decide +kernel
theorem dX3_readFactor_55 : decode cX3_readFactor 55 = .ok (.goto 97, 3) := by decide +kernel
theorem dX3_readFactor_58 : decode cX3_readFactor 58 = .ok (.aload_n 0, 1) := by decide +kernel
theorem dX3_readFactor_59 : decode cX3_readFactor 59 = .ok (.ldc 160, 2) := by decide +kernel
theorem dX3_readFactor_61 : decode cX3_readFactor 61 = .ok (.invokevirtual 63, 3) := by decide +kernel
theorem dX3_readFactor_64 : decode cX3_readFactor 64 = .ok (.ifCond .eq 12, 3) := by decide +kernel
theorem dX3_readFactor_67 : decode cX3_readFactor 67 = .ok (.aload_n 0, 1) := by decide +kernel
theorem dX3_readFactor_68 : decode cX3_readFactor 68 = .ok (.bipush (-3), 2) := by decide +kernel
theorem dX3_readFactor_70 : decode cX3_readFactor 70 = .ok (.invokevirtual 147, 3) := by decide +kernel
theorem dX3_readFactor_73 : decode cX3_readFactor 73 = .ok (.goto 79, 3) := by decide +kernel
theorem dX3_readFactor_76 : decode cX3_readFactor 76 = .ok (.aload_n 0, 1) := by decide +kernel
theorem dX3_readFactor_77 : decode cX3_readFactor 77 = .ok (.ldc 162, 2) := by decide +kernel
theorem dX3_readFactor_79 : decode cX3_readFactor 79 = .ok (.invokevirtual 63, 3) := by decide +kernel
theorem dX3_readFactor_82 : decode cX3_readFactor 82 = .ok (.ifCond .eq 12, 3) := by decide +kernel
theorem dX3_readFactor_85 : decode cX3_readFactor 85 = .ok (.aload_n 0, 1) := by decide +kernel
theorem dX3_readFactor_86 : decode cX3_readFactor 86 = .ok (.bipush (-4), 2) := by decide +kernel
theorem dX3_readFactor_88 : decode cX3_readFactor 88 = .ok (.invokevirtual 147, 3) := by decide +kernel
theorem dX3_readFactor_91 : decode cX3_readFactor 91 = .ok (.goto 61, 3) := by decide +kernel
theorem dX3_readFactor_94 : decode cX3_readFactor 94 = .ok (.aload_n 0, 1) := by decide +kernel
theorem dX3_readFactor_95 : decode cX3_readFactor 95 = .ok (.bipush 40, 2) := by decide +kernel
theorem dX3_readFactor_97 : decode cX3_readFactor 97 = .ok (.invokevirtual 143, 3) := by decide +kernel
theorem dX3_readFactor_100 : decode cX3_readFactor 100 = .ok (.ifCond .ne 12, 3) := by decide +kernel
theorem dX3_readFactor_103 : decode cX3_readFactor 103 = .ok (.aload_n 0, 1) := by decide +kernel
theorem dX3_readFactor_104 : decode cX3_readFactor 104 = .ok (.bipush (-2), 2) := by decide +kernel
theorem dX3_readFactor_106 : decode cX3_readFactor 106 = .ok (.invokevirtual 67, 3) := by decide +kernel
theorem dX3_readFactor_109 : decode cX3_readFactor 109 = .ok (.goto 43, 3) := by decide +kernel
theorem dX3_readFactor_112 : decode cX3_readFactor 112 = .ok (.iload_n 1, 1) := by decide +kernel
theorem dX3_readFactor_113 : decode cX3_readFactor 113 = .ok (.iconst 4, 1) := by decide +kernel
theorem dX3_readFactor_114 : decode cX3_readFactor 114 = .ok (.if_icmp .lt 12, 3) := by decide +kernel
theorem dX3_readFactor_117 : decode cX3_readFactor 117 = .ok (.aload_n 0, 1) := by decide +kernel
theorem dX3_readFactor_118 : decode cX3_readFactor 118 = .ok (.bipush (-5), 2) := by decide +kernel
theorem dX3_readFactor_120 : decode cX3_readFactor 120 = .ok (.invokevirtual 67, 3) := by decide +kernel
theorem dX3_readFactor_123 : decode cX3_readFactor 123 = .ok (.goto 29, 3) := by decide +kernel
theorem dX3_readFactor_126 : decode cX3_readFactor 126 = .ok (.aload_n 0, 1) := by decide +kernel
theorem dX3_readFactor_127 : decode cX3_readFactor 127 = .ok (.invokevirtual 58, 3) := by decide +kernel
theorem dX3_readFactor_130 : decode cX3_readFactor 130 = .ok (.aload_n 0, 1) := by decide +kernel
theorem dX3_readFactor_131 : decode cX3_readFactor 131 = .ok (.iload_n 1, 1) := by decide +kernel
theorem dX3_readFactor_132 : decode cX3_readFactor 132 = .ok (.iconst 1, 1) := by decide +kernel
theorem dX3_readFactor_133 : decode cX3_readFactor 133 = .ok (.iadd, 1) := by decide +kernel
theorem dX3_readFactor_134 : decode cX3_readFactor 134 = .ok (.invokevirtual 112, 3) := by decide +kernel
theorem dX3_readFactor_137 : decode cX3_readFactor 137 = .ok (.aload_n 0, 1) := by decide +kernel
theorem dX3_readFactor_138 : decode cX3_readFactor 138 = .ok (.bipush 41, 2) := by decide +kernel
theorem dX3_readFactor_140 : decode cX3_readFactor 140 = .ok (.invokevirtual 143, 3) := by decide +kernel
theorem dX3_readFactor_143 : decode cX3_readFactor 143 = .ok (.ifCond .ne 9, 3) := by decide +kernel
theorem dX3_readFactor_146 : decode cX3_readFactor 146 = .ok (.aload_n 0, 1) := by decide +kernel
theorem dX3_readFactor_147 : decode cX3_readFactor 147 = .ok (.bipush (-2), 2) := by decide +kernel
theorem dX3_readFactor_149 : decode cX3_readFactor 149 = .ok (.invokevirtual 67, 3) := by decide +kernel
theorem dX3_readFactor_152 : decode cX3_readFactor 152 = .ok (.aload_n 0, 1) := by decide +kernel
theorem dX3_readFactor_153 : decode cX3_readFactor 153 = .ok (.invokevirtual 58, 3) := by decide +kernel
theorem dX3_readFactor_156 : decode cX3_readFactor 156 = .ok (.return_, 1) := by decide +kernel
theorem dX3_addCode_0 : decode cX3_addCode 0 = .ok (.aload_n 0, 1) := by decide +kernel
theorem dX3_addCode_1 : decode cX3_addCode 1 = .ok (.getfield 36, 3) := by decide +kernel
theorem dX3_addCode_4 : decode cX3_addCode 4 = .ok (.ifCond .lt 35, 3) := by decide +kernel
theorem dX3_addCode_7 : decode cX3_addCode 7 = .ok (.aload_n 0, 1) := by decide +kernel
theorem dX3_addCode_8 : decode cX3_addCode 8 = .ok (.getfield 36, 3) := by decide +kernel
theorem dX3_addCode_11 : decode cX3_addCode 11 = .ok (.aload_n 0, 1) := by decide +kernel
theorem dX3_addCode_12 : decode cX3_addCode 12 = .ok (.getfield 22, 3) := by decide +kernel
theorem dX3_addCode_15 : decode cX3_addCode 15 = .ok (.arraylength, 1) := by decide +kernel
theorem dX3_addCode_16 : decode cX3_addCode 16 = .ok (.if_icmp .ge 23, 3) := by decide +kernel
theorem dX3_addCode_19 : decode cX3_addCode 19 = .ok (.aload_n 0, 1) := by decide +kernel
theorem dX3_addCode_20 : decode cX3_addCode 20 = .ok (.getfield 22, 3) := by decide +kernel
theorem dX3_addCode_23 : decode cX3_addCode 23 = .ok (.aload_n 0, 1) := by decide +kernel
theorem dX3_addCode_24 : decode cX3_addCode 24 = .ok (.getfield 36, 3) := by decide +kernel
theorem dX3_addCode_27 : decode cX3_addCode 27 = .ok (.iload_n 1, 1) := by decide +kernel
theorem dX3_addCode_28 : decode cX3_addCode 28 = .ok (.iastore, 1) := by decide +kernel
theorem dX3_addCode_29 : decode cX3_addCode 29 = .ok (.aload_n 0, 1) := by decide +kernel
theorem dX3_addCode_30 : decode cX3_addCode 30 = .ok (.dup, 1) := by decide +kernel
theorem dX3_addCode_31 : decode cX3_addCode 31 = .ok (.getfield 36, 3) := by decide +kernel
theorem dX3_addCode_34 : decode cX3_addCode 34 = .ok (.iconst 1, 1) := by decide +kernel
theorem dX3_addCode_35 : decode cX3_addCode 35 = .ok (.iadd, 1) := by decide +kernel
theorem dX3_addCode_36 : decode cX3_addCode 36 = .ok (.putfield 36, 3) := by decide +kernel
theorem dX3_addCode_39 : decode cX3_addCode 39 = .ok (.return_, 1) := by decide +kernel
theorem dX3_fail_0 : decode cX3_fail 0 = .ok (.aload_n 0, 1) := by decide +kernel
theorem dX3_fail_1 : decode cX3_fail 1 = .ok (.getfield 49, 3) := by decide +kernel
theorem dX3_fail_4 : decode cX3_fail 4 = .ok (.ifCond .ne 16, 3) := by decide +kernel
theorem dX3_fail_7 : decode cX3_fail 7 = .ok (.aload_n 0, 1) := by decide +kernel
theorem dX3_fail_8 : decode cX3_fail 8 = .ok (.iload_n 1, 1) := by decide +kernel
theorem dX3_fail_9 : decode cX3_fail 9 = .ok (.putfield 49, 3) := by decide +kernel
theorem dX3_fail_12 : decode cX3_fail 12 = .ok (.aload_n 0, 1) := by decide +kernel
theorem dX3_fail_13 : decode cX3_fail 13 = .ok (.aload_n 0, 1) := by decide +kernel
theorem dX3_fail_14 : decode cX3_fail 14 = .ok (.getfield 164, 3) := by decide +kernel
theorem dX3_fail_17 : decode cX3_fail 17 = .ok (.putfield 52, 3) := by decide +kernel
theorem dX3_fail_20 : decode cX3_fail 20 = .ok (.return_, 1) := by decide +kernel
theorem dX3_takeSign_0 : decode cX3_takeSign 0 = .ok (.aload_n 0, 1) := by decide +kernel
theorem dX3_takeSign_1 : decode cX3_takeSign 1 = .ok (.iload_n 1, 1) := by decide +kernel
theorem dX3_takeSign_2 : decode cX3_takeSign 2 = .ok (.invokevirtual 143, 3) := by decide +kernel
theorem dX3_takeSign_5 : decode cX3_takeSign 5 = .ok (.ifCond .ne 9, 3) := by decide +kernel
theorem dX3_takeSign_8 : decode cX3_takeSign 8 = .ok (.aload_n 0, 1) := by decide +kernel
theorem dX3_takeSign_9 : decode cX3_takeSign 9 = .ok (.bipush (-2), 2) := by decide +kernel
theorem dX3_takeSign_11 : decode cX3_takeSign 11 = .ok (.invokevirtual 67, 3) := by decide +kernel
theorem dX3_takeSign_14 : decode cX3_takeSign 14 = .ok (.aload_n 0, 1) := by decide +kernel
theorem dX3_takeSign_15 : decode cX3_takeSign 15 = .ok (.invokevirtual 58, 3) := by decide +kernel
theorem dX3_takeSign_18 : decode cX3_takeSign 18 = .ok (.return_, 1) := by decide +kernel
theorem dX3_takeNumber_0 : decode cX3_takeNumber 0 = .ok (.aload_n 0, 1) := by decide +kernel
theorem dX3_takeNumber_1 : decode cX3_takeNumber 1 = .ok (.iload_n 1, 1) := by decide +kernel
theorem dX3_takeNumber_2 : decode cX3_takeNumber 2 = .ok (.iload_n 2, 1) := by decide +kernel
theorem dX3_takeNumber_3 : decode cX3_takeNumber 3 = .ok (.invokevirtual 153, 3) := by decide +kernel
theorem dX3_takeNumber_6 : decode cX3_takeNumber 6 = .ok (.istore_n 3, 1) := by decide +kernel
theorem dX3_takeNumber_7 : decode cX3_takeNumber 7 = .ok (.aload_n 0, 1) := by decide +kernel
theorem dX3_takeNumber_8 : decode cX3_takeNumber 8 = .ok (.invokevirtual 58, 3) := by decide +kernel
theorem dX3_takeNumber_11 : decode cX3_takeNumber 11 = .ok (.iload_n 3, 1) := by decide +kernel
theorem dX3_takeNumber_12 : decode cX3_takeNumber 12 = .ok (.ireturn, 1) := by decide +kernel
theorem dX3_numberInRange_0 : decode cX3_numberInRange 0 = .ok (.aload_n 0, 1) := by decide +kernel
theorem dX3_numberInRange_1 : decode cX3_numberInRange 1 = .ok (.getfield 75, 3) := by decide +kernel
theorem dX3_numberInRange_4 : decode cX3_numberInRange 4 = .ok (.iconst 2, 1) := by decide +kernel
theorem dX3_numberInRange_5 : decode cX3_numberInRange 5 = .ok (.if_icmp .eq 12, 3) := by decide +kernel
theorem dX3_numberInRange_8 : decode cX3_numberInRange 8 = .ok (.aload_n 0, 1) := by decide +kernel
theorem dX3_numberInRange_9 : decode cX3_numberInRange 9 = .ok (.bipush (-2), 2) := by decide +kernel
theorem dX3_numberInRange_11 : decode cX3_numberInRange 11 = .ok (.invokevirtual 67, 3) := by decide +kernel
theorem dX3_numberInRange_14 : decode cX3_numberInRange 14 = .ok (.goto 25, 3) := by decide +kernel
theorem dX3_numberInRange_17 : decode cX3_numberInRange 17 = .ok (.aload_n 0, 1) := by decide +kernel
theorem dX3_numberInRange_18 : decode cX3_numberInRange 18 = .ok (.getfield 167, 3) := by decide +kernel
theorem dX3_numberInRange_21 : decode cX3_numberInRange 21 = .ok (.iload_n 1, 1) := by decide +kernel
theorem dX3_numberInRange_22 : decode cX3_numberInRange 22 = .ok (.if_icmp .lt 11, 3) := by decide +kernel
theorem dX3_numberInRange_25 : decode cX3_numberInRange 25 = .ok (.aload_n 0, 1) := by decide +kernel
theorem dX3_numberInRange_26 : decode cX3_numberInRange 26 = .ok (.getfield 167, 3) := by decide +kernel
theorem dX3_numberInRange_29 : decode cX3_numberInRange 29 = .ok (.iload_n 2, 1) := by decide +kernel
theorem dX3_numberInRange_30 : decode cX3_numberInRange 30 = .ok (.if_icmp .le 9, 3) := by decide +kernel
theorem dX3_numberInRange_33 : decode cX3_numberInRange 33 = .ok (.aload_n 0, 1) := by decide +kernel
theorem dX3_numberInRange_34 : decode cX3_numberInRange 34 = .ok (.bipush (-3), 2) := by decide +kernel
theorem dX3_numberInRange_36 : decode cX3_numberInRange 36 = .ok (.invokevirtual 67, 3) := by decide +kernel
theorem dX3_numberInRange_39 : decode cX3_numberInRange 39 = .ok (.aload_n 0, 1) := by decide +kernel
theorem dX3_numberInRange_40 : decode cX3_numberInRange 40 = .ok (.getfield 167, 3) := by decide +kernel
theorem dX3_numberInRange_43 : decode cX3_numberInRange 43 = .ok (.ireturn, 1) := by decide +kernel
theorem dX3_atSign_0 : decode cX3_atSign 0 = .ok (.aload_n 0, 1) := by decide +kernel
theorem dX3_atSign_1 : decode cX3_atSign 1 = .ok (.getfield 75, 3) := by decide +kernel
theorem dX3_atSign_4 : decode cX3_atSign 4 = .ok (.iconst 3, 1) := by decide +kernel
theorem dX3_atSign_5 : decode cX3_atSign 5 = .ok (.if_icmp .ne 19, 3) := by decide +kernel
theorem dX3_atSign_8 : decode cX3_atSign 8 = .ok (.aload_n 0, 1) := by decide +kernel
theorem dX3_atSign_9 : decode cX3_atSign 9 = .ok (.aload_n 0, 1) := by decide +kernel
theorem dX3_atSign_10 : decode cX3_atSign 10 = .ok (.getfield 164, 3) := by decide +kernel
theorem dX3_atSign_13 : decode cX3_atSign 13 = .ok (.invokevirtual 170, 3) := by decide +kernel
theorem dX3_atSign_16 : decode cX3_atSign 16 = .ok (.iload_n 1, 1) := by decide +kernel
theorem dX3_atSign_17 : decode cX3_atSign 17 = .ok (.if_icmp .ne 7, 3) := by decide +kernel
theorem dX3_atSign_20 : decode cX3_atSign 20 = .ok (.iconst 1, 1) := by decide +kernel
theorem dX3_atSign_21 : decode cX3_atSign 21 = .ok (.goto 4, 3) := by decide +kernel
theorem dX3_atSign_24 : decode cX3_atSign 24 = .ok (.iconst 0, 1) := by decide +kernel
theorem dX3_atSign_25 : decode cX3_atSign 25 = .ok (.ireturn, 1) := by decide +kernel
theorem dX3_atWord_0 : decode cX3_atWord 0 = .ok (.aload_n 0, 1) := by decide +kernel
theorem dX3_atWord_1 : decode cX3_atWord 1 = .ok (.getfield 75, 3) := by decide +kernel
theorem dX3_atWord_4 : decode cX3_atWord 4 = .ok (.iconst 1, 1) := by decide +kernel
theorem dX3_atWord_5 : decode cX3_atWord 5 = .ok (.if_icmp .ne 19, 3) := by decide +kernel
theorem dX3_atWord_8 : decode cX3_atWord 8 = .ok (.aload_n 0, 1) := by decide +kernel
theorem dX3_atWord_9 : decode cX3_atWord 9 = .ok (.getfield 33, 3) := by decide +kernel
theorem dX3_atWord_12 : decode cX3_atWord 12 = .ok (.aload_n 0, 1) := by decide +kernel
theorem dX3_atWord_13 : decode cX3_atWord 13 = .ok (.getfield 164, 3) := by decide +kernel
theorem dX3_atWord_16 : decode cX3_atWord 16 = .ok (.isub, 1) := by decide +kernel
theorem dX3_atWord_17 : decode cX3_atWord 17 = .ok (.aload_n 1, 1) := by decide +kernel
theorem dX3_atWord_18 : decode cX3_atWord 18 = .ok (.invokevirtual 174, 3) := by decide +kernel
theorem dX3_atWord_21 : decode cX3_atWord 21 = .ok (.if_icmp .eq 5, 3) := by decide +kernel
theorem dX3_atWord_24 : decode cX3_atWord 24 = .ok (.iconst 0, 1) := by decide +kernel
theorem dX3_atWord_25 : decode cX3_atWord 25 = .ok (.ireturn, 1) := by decide +kernel
theorem dX3_atWord_26 : decode cX3_atWord 26 = .ok (.iconst 0, 1) := by decide +kernel
theorem dX3_atWord_27 : decode cX3_atWord 27 = .ok (.istore_n 2, 1) := by decide +kernel
theorem dX3_atWord_28 : decode cX3_atWord 28 = .ok (.iload_n 2, 1) := by decide +kernel
theorem dX3_atWord_29 : decode cX3_atWord 29 = .ok (.aload_n 1, 1) := by decide +kernel
theorem dX3_atWord_30 : decode cX3_atWord 30 = .ok (.invokevirtual 174, 3) := by decide +kernel
theorem dX3_atWord_33 : decode cX3_atWord 33 = .ok (.if_icmp .ge 29, 3) := by decide +kernel
theorem dX3_atWord_36 : decode cX3_atWord 36 = .ok (.aload_n 0, 1) := by decide +kernel
theorem dX3_atWord_37 : decode cX3_atWord 37 = .ok (.aload_n 0, 1) := by decide +kernel
theorem dX3_atWord_38 : decode cX3_atWord 38 = .ok (.getfield 164, 3) := by decide +kernel
theorem dX3_atWord_41 : decode cX3_atWord 41 = .ok (.iload_n 2, 1) := by decide +kernel
theorem dX3_atWord_42 : decode cX3_atWord 42 = .ok (.iadd, 1) := by decide +kernel
theorem dX3_atWord_43 : decode cX3_atWord 43 = .ok (.invokevirtual 170, 3) := by decide +kernel
theorem dX3_atWord_46 : decode cX3_atWord 46 = .ok (.aload_n 1, 1) := by decide +kernel
theorem dX3_atWord_47 : decode cX3_atWord 47 = .ok (.iload_n 2, 1) := by decide +kernel
theorem dX3_atWord_48 : decode cX3_atWord 48 = .ok (.invokevirtual 179, 3) := by decide +kernel
theorem dX3_atWord_51 : decode cX3_atWord 51 = .ok (.if_icmp .eq 5, 3) := by decide +kernel
theorem dX3_atWord_54 : decode cX3_atWord 54 = .ok (.iconst 0, 1) := by decide +kernel
theorem dX3_atWord_55 : decode cX3_atWord 55 = .ok (.ireturn, 1) := by decide +kernel
theorem dX3_atWord_56 : decode cX3_atWord 56 = .ok (.iinc 2 1, 3) := by decide +kernel
theorem dX3_atWord_59 : decode cX3_atWord 59 = .ok (.goto (-31), 3) := by decide +kernel
theorem dX3_atWord_62 : decode cX3_atWord 62 = .ok (.iconst 1, 1) := by decide +kernel
theorem dX3_atWord_63 : decode cX3_atWord 63 = .ok (.ireturn, 1) := by decide +kernel
theorem dX3_nextToken_0 : decode cX3_nextToken 0 = .ok (.aload_n 0, 1) := by decide +kernel
theorem dX3_nextToken_1 : decode cX3_nextToken 1 = .ok (.getfield 33, 3) := by decide +kernel
theorem dX3_nextToken_4 : decode cX3_nextToken 4 = .ok (.aload_n 0, 1) := by decide +kernel
theorem dX3_nextToken_5 : decode cX3_nextToken 5 = .ok (.getfield 30, 3) := by decide +kernel
theorem dX3_nextToken_8 : decode cX3_nextToken 8 = .ok (.if_icmp .ge 29, 3) := by decide +kernel
theorem dX3_nextToken_11 : decode cX3_nextToken 11 = .ok (.aload_n 0, 1) := by decide +kernel
theorem dX3_nextToken_12 : decode cX3_nextToken 12 = .ok (.aload_n 0, 1) := by decide +kernel
theorem dX3_nextToken_13 : decode cX3_nextToken 13 = .ok (.getfield 33, 3) := by decide +kernel
theorem dX3_nextToken_16 : decode cX3_nextToken 16 = .ok (.invokevirtual 170, 3) := by decide +kernel
theorem dX3_nextToken_19 : decode cX3_nextToken 19 = .ok (.bipush 32, 2) := by decide +kernel
theorem dX3_nextToken_21 : decode cX3_nextToken 21 = .ok (.if_icmp .ne 16, 3) := by decide +kernel
theorem dX3_nextToken_24 : decode cX3_nextToken 24 = .ok (.aload_n 0, 1) := by decide +kernel
theorem dX3_nextToken_25 : decode cX3_nextToken 25 = .ok (.dup, 1) := by decide +kernel
theorem dX3_nextToken_26 : decode cX3_nextToken 26 = .ok (.getfield 33, 3) := by decide +kernel
theorem dX3_nextToken_29 : decode cX3_nextToken 29 = .ok (.iconst 1, 1) := by decide +kernel
theorem dX3_nextToken_30 : decode cX3_nextToken 30 = .ok (.iadd, 1) := by decide +kernel
theorem dX3_nextToken_31 : decode cX3_nextToken 31 = .ok (.putfield 33, 3) := by decide +kernel
theorem dX3_nextToken_34 : decode cX3_nextToken 34 = .ok (.goto (-34), 3) := by decide +kernel
theorem dX3_nextToken_37 : decode cX3_nextToken 37 = .ok (.aload_n 0, 1) := by decide +kernel
theorem dX3_nextToken_38 : decode cX3_nextToken 38 = .ok (.aload_n 0, 1) := by decide +kernel
theorem dX3_nextToken_39 : decode cX3_nextToken 39 = .ok (.getfield 33, 3) := by decide +kernel
theorem dX3_nextToken_42 : decode cX3_nextToken 42 = .ok (.putfield 164, 3) := by decide +kernel
theorem dX3_nextToken_45 : decode cX3_nextToken 45 = .ok (.aload_n 0, 1) := by decide +kernel
theorem dX3_nextToken_46 : decode cX3_nextToken 46 = .ok (.aload_n 0, 1) := by decide +kernel
theorem dX3_nextToken_47 : decode cX3_nextToken 47 = .ok (.getfield 33, 3) := by decide +kernel
theorem dX3_nextToken_50 : decode cX3_nextToken 50 = .ok (.invokevirtual 170, 3) := by decide +kernel
theorem dX3_nextToken_53 : decode cX3_nextToken 53 = .ok (.istore_n 1, 1) := by decide +kernel
theorem dX3_nextToken_54 : decode cX3_nextToken 54 = .ok (.iload_n 1, 1) := by decide +kernel
theorem dX3_nextToken_55 : decode cX3_nextToken 55 = .ok (.invokestatic 183, 3) := by decide +kernel
theorem dX3_nextToken_58 : decode cX3_nextToken 58 = .ok (.ifCond .eq 79, 3) := by decide +kernel
theorem dX3_nextToken_61 : decode cX3_nextToken 61 = .ok (.aload_n 0, 1) := by decide +kernel
theorem dX3_nextToken_62 : decode cX3_nextToken 62 = .ok (.iconst 2, 1) := by decide +kernel
theorem dX3_nextToken_63 : decode cX3_nextToken 63 = .ok (.putfield 75, 3) := by decide +kernel
theorem dX3_nextToken_66 : decode cX3_nextToken 66 = .ok (.aload_n 0, 1) := by decide +kernel
theorem dX3_nextToken_67 : decode cX3_nextToken 67 = .ok (.iconst 0, 1) := by decide +kernel
theorem dX3_nextToken_68 : decode cX3_nextToken 68 = .ok (.putfield 167, 3) := by decide +kernel
theorem dX3_nextToken_71 : decode cX3_nextToken 71 = .ok (.aload_n 0, 1) := by decide +kernel
theorem dX3_nextToken_72 : decode cX3_nextToken 72 = .ok (.getfield 33, 3) := by decide +kernel
theorem dX3_nextToken_75 : decode cX3_nextToken 75 = .ok (.aload_n 0, 1) := by decide +kernel
theorem dX3_nextToken_76 : decode cX3_nextToken 76 = .ok (.getfield 30, 3) := by decide +kernel
theorem dX3_nextToken_79 : decode cX3_nextToken 79 = .ok (.if_icmp .ge 142, 3) := by decide +kernel
theorem dX3_nextToken_82 : decode cX3_nextToken 82 = .ok (.aload_n 0, 1) := by decide +kernel
theorem dX3_nextToken_83 : decode cX3_nextToken 83 = .ok (.aload_n 0, 1) := by decide +kernel
theorem dX3_nextToken_84 : decode cX3_nextToken 84 = .ok (.getfield 33, 3) := by decide +kernel
theorem dX3_nextToken_87 : decode cX3_nextToken 87 = .ok (.invokevirtual 170, 3) := by decide +kernel
theorem dX3_nextToken_90 : decode cX3_nextToken 90 = .ok (.invokestatic 183, 3) := by decide +kernel
theorem dX3_nextToken_93 : decode cX3_nextToken 93 = .ok (.ifCond .eq 128, 3) := by decide +kernel
theorem dX3_nextToken_96 : decode cX3_nextToken 96 = .ok (.aload_n 0, 1) := by decide +kernel
theorem dX3_nextToken_97 : decode cX3_nextToken 97 = .ok (.bipush 10, 2) := by decide +kernel
theorem dX3_nextToken_99 : decode cX3_nextToken 99 = .ok (.aload_n 0, 1) := by decide +kernel
theorem dX3_nextToken_100 : decode cX3_nextToken 100 = .ok (.getfield 167, 3) := by decide +kernel
theorem dX3_nextToken_103 : decode cX3_nextToken 103 = .ok (.imul, 1) := by decide +kernel
theorem dX3_nextToken_104 : decode cX3_nextToken 104 = .ok (.aload_n 0, 1) := by decide +kernel
theorem dX3_nextToken_105 : decode cX3_nextToken 105 = .ok (.aload_n 0, 1) := by decide +kernel
theorem dX3_nextToken_106 : decode cX3_nextToken 106 = .ok (.getfield 33, 3) := by decide +kernel
theorem dX3_nextToken_109 : decode cX3_nextToken 109 = .ok (.invokevirtual 170, 3) := by decide +kernel
theorem dX3_nextToken_112 : decode cX3_nextToken 112 = .ok (.iadd, 1) := by decide +kernel
theorem dX3_nextToken_113 : decode cX3_nextToken 113 = .ok (.bipush 48, 2) := by decide +kernel
theorem dX3_nextToken_115 : decode cX3_nextToken 115 = .ok (.isub, 1) := by decide +kernel
theorem dX3_nextToken_116 : decode cX3_nextToken 116 = .ok (.ldc 187, 2) := by decide +kernel
theorem dX3_nextToken_118 : decode cX3_nextToken 118 = .ok (.invokestatic 188, 3) := by decide +kernel
theorem dX3_nextToken_121 : decode cX3_nextToken 121 = .ok (.putfield 167, 3) := by decide +kernel
theorem dX3_nextToken_124 : decode cX3_nextToken 124 = .ok (.aload_n 0, 1) := by decide +kernel
theorem dX3_nextToken_125 : decode cX3_nextToken 125 = .ok (.dup, 1) := by decide +kernel
theorem dX3_nextToken_126 : decode cX3_nextToken 126 = .ok (.getfield 33, 3) := by decide +kernel
theorem dX3_nextToken_129 : decode cX3_nextToken 129 = .ok (.iconst 1, 1) := by decide +kernel
theorem dX3_nextToken_130 : decode cX3_nextToken 130 = .ok (.iadd, 1) := by decide +kernel
theorem dX3_nextToken_131 : decode cX3_nextToken 131 = .ok (.putfield 33, 3) := by decide +kernel
theorem dX3_nextToken_134 : decode cX3_nextToken 134 = .ok (.goto (-63), 3) := by decide +kernel
theorem dX3_nextToken_137 : decode cX3_nextToken 137 = .ok (.iload_n 1, 1) := by decide +kernel
theorem dX3_nextToken_138 : decode cX3_nextToken 138 = .ok (.invokestatic 193, 3) := by decide +kernel
theorem dX3_nextToken_141 : decode cX3_nextToken 141 = .ok (.ifCond .eq 46, 3) := by decide +kernel
theorem dX3_nextToken_144 : decode cX3_nextToken 144 = .ok (.aload_n 0, 1) := by decide +kernel
theorem dX3_nextToken_145 : decode cX3_nextToken 145 = .ok (.iconst 1, 1) := by decide +kernel
theorem dX3_nextToken_146 : decode cX3_nextToken 146 = .ok (.putfield 75, 3) := by decide +kernel
theorem dX3_nextToken_149 : decode cX3_nextToken 149 = .ok (.aload_n 0, 1) := by decide +kernel
theorem dX3_nextToken_150 : decode cX3_nextToken 150 = .ok (.getfield 33, 3) := by decide +kernel
theorem dX3_nextToken_153 : decode cX3_nextToken 153 = .ok (.aload_n 0, 1) := by decide +kernel
theorem dX3_nextToken_154 : decode cX3_nextToken 154 = .ok (.getfield 30, 3) := by decide +kernel
theorem dX3_nextToken_157 : decode cX3_nextToken 157 = .ok (.if_icmp .ge 64, 3) := by decide +kernel
theorem dX3_nextToken_160 : decode cX3_nextToken 160 = .ok (.aload_n 0, 1) := by decide +kernel
theorem dX3_nextToken_161 : decode cX3_nextToken 161 = .ok (.aload_n 0, 1) := by decide +kernel
theorem dX3_nextToken_162 : decode cX3_nextToken 162 = .ok (.getfield 33, 3) := by decide +kernel
theorem dX3_nextToken_165 : decode cX3_nextToken 165 = .ok (.invokevirtual 170, 3) := by decide +kernel
theorem dX3_nextToken_168 : decode cX3_nextToken 168 = .ok (.invokestatic 193, 3) := by decide +kernel
theorem dX3_nextToken_171 : decode cX3_nextToken 171 = .ok (.ifCond .eq 50, 3) := by decide +kernel
theorem dX3_nextToken_174 : decode cX3_nextToken 174 = .ok (.aload_n 0, 1) := by decide +kernel
theorem dX3_nextToken_175 : decode cX3_nextToken 175 = .ok (.dup, 1) := by decide +kernel
theorem dX3_nextToken_176 : decode cX3_nextToken 176 = .ok (.getfield 33, 3) := by decide +kernel
theorem dX3_nextToken_179 : decode cX3_nextToken 179 = .ok (.iconst 1, 1) := by decide +kernel
theorem dX3_nextToken_180 : decode cX3_nextToken 180 = .ok (.iadd, 1) := by decide +kernel
theorem dX3_nextToken_181 : decode cX3_nextToken 181 = .ok (.putfield 33, 3) := by decide +kernel
theorem dX3_nextToken_184 : decode cX3_nextToken 184 = .ok (.goto (-35), 3) := by decide +kernel
theorem dX3_nextToken_187 : decode cX3_nextToken 187 = .ok (.aload_n 0, 1) := by decide +kernel
theorem dX3_nextToken_188 : decode cX3_nextToken 188 = .ok (.getfield 33, 3) := by decide +kernel
theorem dX3_nextToken_191 : decode cX3_nextToken 191 = .ok (.aload_n 0, 1) := by decide +kernel
theorem dX3_nextToken_192 : decode cX3_nextToken 192 = .ok (.getfield 30, 3) := by decide +kernel
theorem dX3_nextToken_195 : decode cX3_nextToken 195 = .ok (.if_icmp .ge 21, 3) := by decide +kernel
theorem dX3_nextToken_198 : decode cX3_nextToken 198 = .ok (.aload_n 0, 1) := by decide +kernel
theorem dX3_nextToken_199 : decode cX3_nextToken 199 = .ok (.iconst 3, 1) := by decide +kernel
theorem dX3_nextToken_200 : decode cX3_nextToken 200 = .ok (.putfield 75, 3) := by decide +kernel
theorem dX3_nextToken_203 : decode cX3_nextToken 203 = .ok (.aload_n 0, 1) := by decide +kernel
theorem dX3_nextToken_204 : decode cX3_nextToken 204 = .ok (.dup, 1) := by decide +kernel
theorem dX3_nextToken_205 : decode cX3_nextToken 205 = .ok (.getfield 33, 3) := by decide +kernel
theorem dX3_nextToken_208 : decode cX3_nextToken 208 = .ok (.iconst 1, 1) := by decide +kernel
theorem dX3_nextToken_209 : decode cX3_nextToken 209 = .ok (.iadd, 1) := by decide +kernel
theorem dX3_nextToken_210 : decode cX3_nextToken 210 = .ok (.putfield 33, 3) := by decide +kernel
theorem dX3_nextToken_213 : decode cX3_nextToken 213 = .ok (.goto 8, 3) := by decide +kernel
theorem dX3_nextToken_216 : decode cX3_nextToken 216 = .ok (.aload_n 0, 1) := by decide +kernel
theorem dX3_nextToken_217 : decode cX3_nextToken 217 = .ok (.iconst 0, 1) := by decide +kernel
theorem dX3_nextToken_218 : decode cX3_nextToken 218 = .ok (.putfield 75, 3) := by decide +kernel
theorem dX3_nextToken_221 : decode cX3_nextToken 221 = .ok (.return_, 1) := by decide +kernel
theorem dX3_byteAt_0 : decode cX3_byteAt 0 = .ok (.iload_n 1, 1) := by decide +kernel
theorem dX3_byteAt_1 : decode cX3_byteAt 1 = .ok (.ifCond .lt 20, 3) := by decide +kernel
theorem dX3_byteAt_4 : decode cX3_byteAt 4 = .ok (.iload_n 1, 1) := by decide +kernel
theorem dX3_byteAt_5 : decode cX3_byteAt 5 = .ok (.aload_n 0, 1) := by decide +kernel
theorem dX3_byteAt_6 : decode cX3_byteAt 6 = .ok (.getfield 30, 3) := by decide +kernel
theorem dX3_byteAt_9 : decode cX3_byteAt 9 = .ok (.if_icmp .ge 12, 3) := by decide +kernel
theorem dX3_byteAt_12 : decode cX3_byteAt 12 = .ok (.iload_n 1, 1) := by decide +kernel
theorem dX3_byteAt_13 : decode cX3_byteAt 13 = .ok (.aload_n 0, 1) := by decide +kernel
theorem dX3_byteAt_14 : decode cX3_byteAt 14 = .ok (.getfield 9, 3) := by decide +kernel
theorem dX3_byteAt_17 : decode cX3_byteAt 17 = .ok (.arraylength, 1) := by decide +kernel
theorem dX3_byteAt_18 : decode cX3_byteAt 18 = .ok (.if_icmp .lt 5, 3) := by decide +kernel
theorem dX3_byteAt_21 : decode cX3_byteAt 21 = .ok (.iconst (-1), 1) := by decide +kernel
theorem dX3_byteAt_22 : decode cX3_byteAt 22 = .ok (.ireturn, 1) := by decide +kernel
theorem dX3_byteAt_23 : decode cX3_byteAt 23 = .ok (.aload_n 0, 1) := by decide +kernel
theorem dX3_byteAt_24 : decode cX3_byteAt 24 = .ok (.getfield 9, 3) := by decide +kernel
theorem dX3_byteAt_27 : decode cX3_byteAt 27 = .ok (.iload_n 1, 1) := by decide +kernel
theorem dX3_byteAt_28 : decode cX3_byteAt 28 = .ok (.baload, 1) := by decide +kernel
theorem dX3_byteAt_29 : decode cX3_byteAt 29 = .ok (.sipush 255, 3) := by decide +kernel
theorem dX3_byteAt_32 : decode cX3_byteAt 32 = .ok (.iand, 1) := by decide +kernel
theorem dX3_byteAt_33 : decode cX3_byteAt 33 = .ok (.ireturn, 1) := by decide +kernel
theorem dX3_isDigit_0 : decode cX3_isDigit 0 = .ok (.iload_n 0, 1) := by decide +kernel
theorem dX3_isDigit_1 : decode cX3_isDigit 1 = .ok (.bipush 48, 2) := by decide +kernel
theorem dX3_isDigit_3 : decode cX3_isDigit 3 = .ok (.if_icmp .lt 13, 3) := by decide +kernel
theorem dX3_isDigit_6 : decode cX3_isDigit 6 = .ok (.iload_n 0, 1) := by decide +kernel
theorem dX3_isDigit_7 : decode cX3_isDigit 7 = .ok (.bipush 57, 2) := by decide +kernel
theorem dX3_isDigit_9 : decode cX3_isDigit 9 = .ok (.if_icmp .gt 7, 3) := by decide +kernel
theorem dX3_isDigit_12 : decode cX3_isDigit 12 = .ok (.iconst 1, 1) := by decide +kernel
theorem dX3_isDigit_13 : decode cX3_isDigit 13 = .ok (.goto 4, 3) := by decide +kernel
theorem dX3_isDigit_16 : decode cX3_isDigit 16 = .ok (.iconst 0, 1) := by decide +kernel
theorem dX3_isDigit_17 : decode cX3_isDigit 17 = .ok (.ireturn, 1) := by decide +kernel
theorem dX3_isLetter_0 : decode cX3_isLetter 0 = .ok (.iload_n 0, 1) := by decide +kernel
theorem dX3_isLetter_1 : decode cX3_isLetter 1 = .ok (.bipush 97, 2) := by decide +kernel
theorem dX3_isLetter_3 : decode cX3_isLetter 3 = .ok (.if_icmp .lt 13, 3) := by decide +kernel
theorem dX3_isLetter_6 : decode cX3_isLetter 6 = .ok (.iload_n 0, 1) := by decide +kernel
theorem dX3_isLetter_7 : decode cX3_isLetter 7 = .ok (.bipush 122, 2) := by decide +kernel
theorem dX3_isLetter_9 : decode cX3_isLetter 9 = .ok (.if_icmp .gt 7, 3) := by decide +kernel
theorem dX3_isLetter_12 : decode cX3_isLetter 12 = .ok (.iconst 1, 1) := by decide +kernel
theorem dX3_isLetter_13 : decode cX3_isLetter 13 = .ok (.goto 4, 3) := by decide +kernel
theorem dX3_isLetter_16 : decode cX3_isLetter 16 = .ok (.iconst 0, 1) := by decide +kernel
theorem dX3_isLetter_17 : decode cX3_isLetter 17 = .ok (.ireturn, 1) := by decide +kernel
theorem dX4_init_0 : decode cX4_init 0 = .ok (.aload_n 0, 1) := by decide +kernel
theorem dX4_init_1 : decode cX4_init 1 = .ok (.invokespecial 3, 3) := by decide +kernel
theorem dX4_init_4 : decode cX4_init 4 = .ok (.aload_n 0, 1) := by decide +kernel
theorem dX4_init_5 : decode cX4_init 5 = .ok (.aload_n 1, 1) := by decide +kernel
theorem dX4_init_6 : decode cX4_init 6 = .ok (.putfield 9, 3) := by decide +kernel
theorem dX4_init_9 : decode cX4_init 9 = .ok (.aload_n 0, 1) := by decide +kernel
theorem dX4_init_10 : decode cX4_init 10 = .ok (.iload_n 2, 1) := by decide +kernel
theorem dX4_init_11 : decode cX4_init 11 = .ok (.putfield 15, 3) := by decide +kernel
theorem dX4_init_14 : decode cX4_init 14 = .ok (.return_, 1) := by decide +kernel
theorem dX4_has_0 : decode cX4_has 0 = .ok (.iload_n 1, 1) := by decide +kernel
theorem dX4_has_1 : decode cX4_has 1 = .ok (.ifCond .lt 15, 3) := by decide +kernel
theorem dX4_has_4 : decode cX4_has 4 = .ok (.iload_n 1, 1) := by decide +kernel
theorem dX4_has_5 : decode cX4_has 5 = .ok (.aload_n 0, 1) := by decide +kernel
theorem dX4_has_6 : decode cX4_has 6 = .ok (.getfield 19, 3) := by decide +kernel
theorem dX4_has_9 : decode cX4_has 9 = .ok (.if_icmp .ge 7, 3) := by decide +kernel
theorem dX4_has_12 : decode cX4_has 12 = .ok (.iconst 1, 1) := by decide +kernel
theorem dX4_has_13 : decode cX4_has 13 = .ok (.goto 4, 3) := by decide +kernel
theorem dX4_has_16 : decode cX4_has 16 = .ok (.iconst 0, 1) := by decide +kernel
theorem dX4_has_17 : decode cX4_has 17 = .ok (.ireturn, 1) := by decide +kernel
theorem dX4_get_0 : decode cX4_get 0 = .ok (.iload_n 1, 1) := by decide +kernel
theorem dX4_get_1 : decode cX4_get 1 = .ok (.aload_n 0, 1) := by decide +kernel
theorem dX4_get_2 : decode cX4_get 2 = .ok (.getfield 15, 3) := by decide +kernel
theorem dX4_get_5 : decode cX4_get 5 = .ok (.imul, 1) := by decide +kernel
theorem dX4_get_6 : decode cX4_get 6 = .ok (.iload_n 2, 1) := by decide +kernel
theorem dX4_get_7 : decode cX4_get 7 = .ok (.iadd, 1) := by decide +kernel
theorem dX4_get_8 : decode cX4_get 8 = .ok (.istore_n 3, 1) := by decide +kernel
theorem dX4_get_9 : decode cX4_get 9 = .ok (.iload_n 1, 1) := by decide +kernel
theorem dX4_get_10 : decode cX4_get 10 = .ok (.ifCond .lt 36, 3) := by decide +kernel
theorem dX4_get_13 : decode cX4_get 13 = .ok (.iload_n 1, 1) := by decide +kernel
theorem dX4_get_14 : decode cX4_get 14 = .ok (.aload_n 0, 1) := by decide +kernel
theorem dX4_get_15 : decode cX4_get 15 = .ok (.getfield 19, 3) := by decide +kernel
theorem dX4_get_18 : decode cX4_get 18 = .ok (.if_icmp .ge 28, 3) := by decide +kernel
theorem dX4_get_21 : decode cX4_get 21 = .ok (.iload_n 2, 1) := by decide +kernel
theorem dX4_get_22 : decode cX4_get 22 = .ok (.ifCond .lt 24, 3) := by decide +kernel
theorem dX4_get_25 : decode cX4_get 25 = .ok (.iload_n 2, 1) := by decide +kernel
theorem dX4_get_26 : decode cX4_get 26 = .ok (.aload_n 0, 1) := by decide +kernel
theorem dX4_get_27 : decode cX4_get 27 = .ok (.getfield 15, 3) := by decide +kernel
theorem dX4_get_30 : decode cX4_get 30 = .ok (.if_icmp .ge 16, 3) := by decide +kernel
theorem dX4_get_33 : decode cX4_get 33 = .ok (.iload_n 3, 1) := by decide +kernel
theorem dX4_get_34 : decode cX4_get 34 = .ok (.ifCond .lt 12, 3) := by decide +kernel
theorem dX4_get_37 : decode cX4_get 37 = .ok (.iload_n 3, 1) := by decide +kernel
theorem dX4_get_38 : decode cX4_get 38 = .ok (.aload_n 0, 1) := by decide +kernel
theorem dX4_get_39 : decode cX4_get 39 = .ok (.getfield 9, 3) := by decide +kernel
theorem dX4_get_42 : decode cX4_get 42 = .ok (.arraylength, 1) := by decide +kernel
theorem dX4_get_43 : decode cX4_get 43 = .ok (.if_icmp .lt 5, 3) := by decide +kernel
theorem dX4_get_46 : decode cX4_get 46 = .ok (.iconst 0, 1) := by decide +kernel
theorem dX4_get_47 : decode cX4_get 47 = .ok (.ireturn, 1) := by decide +kernel
theorem dX4_get_48 : decode cX4_get 48 = .ok (.aload_n 0, 1) := by decide +kernel
theorem dX4_get_49 : decode cX4_get 49 = .ok (.getfield 9, 3) := by decide +kernel
theorem dX4_get_52 : decode cX4_get 52 = .ok (.iload_n 3, 1) := by decide +kernel
theorem dX4_get_53 : decode cX4_get 53 = .ok (.iaload, 1) := by decide +kernel
theorem dX4_get_54 : decode cX4_get 54 = .ok (.ireturn, 1) := by decide +kernel
theorem dX4_set_0 : decode cX4_set 0 = .ok (.iload_n 1, 1) := by decide +kernel
theorem dX4_set_1 : decode cX4_set 1 = .ok (.aload_n 0, 1) := by decide +kernel
theorem dX4_set_2 : decode cX4_set 2 = .ok (.getfield 15, 3) := by decide +kernel
theorem dX4_set_5 : decode cX4_set 5 = .ok (.imul, 1) := by decide +kernel
theorem dX4_set_6 : decode cX4_set 6 = .ok (.iload_n 2, 1) := by decide +kernel
theorem dX4_set_7 : decode cX4_set 7 = .ok (.iadd, 1) := by decide +kernel
theorem dX4_set_8 : decode cX4_set 8 = .ok (.istore 4, 2) := by decide +kernel
theorem dX4_set_10 : decode cX4_set 10 = .ok (.iload_n 1, 1) := by decide +kernel
theorem dX4_set_11 : decode cX4_set 11 = .ok (.ifCond .lt 38, 3) := by decide +kernel
theorem dX4_set_14 : decode cX4_set 14 = .ok (.iload_n 1, 1) := by decide +kernel
theorem dX4_set_15 : decode cX4_set 15 = .ok (.aload_n 0, 1) := by decide +kernel
theorem dX4_set_16 : decode cX4_set 16 = .ok (.getfield 19, 3) := by decide +kernel
theorem dX4_set_19 : decode cX4_set 19 = .ok (.if_icmp .ge 30, 3) := by decide +kernel
theorem dX4_set_22 : decode cX4_set 22 = .ok (.iload_n 2, 1) := by decide +kernel
theorem dX4_set_23 : decode cX4_set 23 = .ok (.ifCond .lt 26, 3) := by decide +kernel
theorem dX4_set_26 : decode cX4_set 26 = .ok (.iload_n 2, 1) := by decide +kernel
theorem dX4_set_27 : decode cX4_set 27 = .ok (.aload_n 0, 1) := by decide +kernel
theorem dX4_set_28 : decode cX4_set 28 = .ok (.getfield 15, 3) := by decide +kernel
theorem dX4_set_31 : decode cX4_set 31 = .ok (.if_icmp .ge 18, 3) := by decide +kernel
theorem dX4_set_34 : decode cX4_set 34 = .ok (.iload 4, 2) := by decide +kernel
theorem dX4_set_36 : decode cX4_set 36 = .ok (.ifCond .lt 13, 3) := by decide +kernel
theorem dX4_set_39 : decode cX4_set 39 = .ok (.iload 4, 2) := by decide +kernel
theorem dX4_set_41 : decode cX4_set 41 = .ok (.aload_n 0, 1) := by decide +kernel
theorem dX4_set_42 : decode cX4_set 42 = .ok (.getfield 9, 3) := by decide +kernel
theorem dX4_set_45 : decode cX4_set 45 = .ok (.arraylength, 1) := by decide +kernel
theorem dX4_set_46 : decode cX4_set 46 = .ok (.if_icmp .lt 4, 3) := by decide +kernel
theorem dX4_set_49 : decode cX4_set 49 = .ok (.return_, 1) := by decide +kernel
theorem dX4_set_50 : decode cX4_set 50 = .ok (.aload_n 0, 1) := by decide +kernel
theorem dX4_set_51 : decode cX4_set 51 = .ok (.getfield 9, 3) := by decide +kernel
theorem dX4_set_54 : decode cX4_set 54 = .ok (.iload 4, 2) := by decide +kernel
theorem dX4_set_56 : decode cX4_set 56 = .ok (.iload_n 3, 1) := by decide +kernel
theorem dX4_set_57 : decode cX4_set 57 = .ok (.iastore, 1) := by decide +kernel
theorem dX4_set_58 : decode cX4_set 58 = .ok (.return_, 1) := by decide +kernel
theorem dX4_addRow_0 : decode cX4_addRow 0 = .ok (.aload_n 0, 1) := by decide +kernel
theorem dX4_addRow_1 : decode cX4_addRow 1 = .ok (.getfield 19, 3) := by decide +kernel
theorem dX4_addRow_4 : decode cX4_addRow 4 = .ok (.istore_n 1, 1) := by decide +kernel
theorem dX4_addRow_5 : decode cX4_addRow 5 = .ok (.iload_n 1, 1) := by decide +kernel
theorem dX4_addRow_6 : decode cX4_addRow 6 = .ok (.iconst 1, 1) := by decide +kernel
theorem dX4_addRow_7 : decode cX4_addRow 7 = .ok (.iadd, 1) := by decide +kernel
theorem dX4_addRow_8 : decode cX4_addRow 8 = .ok (.aload_n 0, 1) := by decide +kernel
theorem dX4_addRow_9 : decode cX4_addRow 9 = .ok (.getfield 15, 3) := by decide +kernel
theorem dX4_addRow_12 : decode cX4_addRow 12 = .ok (.imul, 1) := by decide +kernel
theorem dX4_addRow_13 : decode cX4_addRow 13 = .ok (.aload_n 0, 1) := by decide +kernel
theorem dX4_addRow_14 : decode cX4_addRow 14 = .ok (.getfield 9, 3) := by decide +kernel
theorem dX4_addRow_17 : decode cX4_addRow 17 = .ok (.arraylength, 1) := by decide +kernel
theorem dX4_addRow_18 : decode cX4_addRow 18 = .ok (.if_icmp .le 5, 3) := by decide +kernel
theorem dX4_addRow_21 : decode cX4_addRow 21 = .ok (.iconst (-1), 1) := by decide +kernel
theorem dX4_addRow_22 : decode cX4_addRow 22 = .ok (.ireturn, 1) := by decide +kernel
theorem dX4_addRow_23 : decode cX4_addRow 23 = .ok (.aload_n 0, 1) := by decide +kernel
theorem dX4_addRow_24 : decode cX4_addRow 24 = .ok (.dup, 1) := by decide +kernel
theorem dX4_addRow_25 : decode cX4_addRow 25 = .ok (.getfield 19, 3) := by decide +kernel
theorem dX4_addRow_28 : decode cX4_addRow 28 = .ok (.iconst 1, 1) := by decide +kernel
theorem dX4_addRow_29 : decode cX4_addRow 29 = .ok (.iadd, 1) := by decide +kernel
theorem dX4_addRow_30 : decode cX4_addRow 30 = .ok (.putfield 19, 3) := by decide +kernel
theorem dX4_addRow_33 : decode cX4_addRow 33 = .ok (.iconst 0, 1) := by decide +kernel
theorem dX4_addRow_34 : decode cX4_addRow 34 = .ok (.istore_n 2, 1) := by decide +kernel
theorem dX4_addRow_35 : decode cX4_addRow 35 = .ok (.iload_n 2, 1) := by decide +kernel
theorem dX4_addRow_36 : decode cX4_addRow 36 = .ok (.aload_n 0, 1) := by decide +kernel
theorem dX4_addRow_37 : decode cX4_addRow 37 = .ok (.getfield 15, 3) := by decide +kernel
theorem dX4_addRow_40 : decode cX4_addRow 40 = .ok (.if_icmp .ge 16, 3) := by decide +kernel
theorem dX4_addRow_43 : decode cX4_addRow 43 = .ok (.aload_n 0, 1) := by decide +kernel
theorem dX4_addRow_44 : decode cX4_addRow 44 = .ok (.iload_n 1, 1) := by decide +kernel
theorem dX4_addRow_45 : decode cX4_addRow 45 = .ok (.iload_n 2, 1) := by decide +kernel
theorem dX4_addRow_46 : decode cX4_addRow 46 = .ok (.iconst 0, 1) := by decide +kernel
theorem dX4_addRow_47 : decode cX4_addRow 47 = .ok (.invokevirtual 22, 3) := by decide +kernel
theorem dX4_addRow_50 : decode cX4_addRow 50 = .ok (.iinc 2 1, 3) := by decide +kernel
theorem dX4_addRow_53 : decode cX4_addRow 53 = .ok (.goto (-18), 3) := by decide +kernel
theorem dX4_addRow_56 : decode cX4_addRow 56 = .ok (.iload_n 1, 1) := by decide +kernel
theorem dX4_addRow_57 : decode cX4_addRow 57 = .ok (.ireturn, 1) := by decide +kernel
theorem dX4_clear_0 : decode cX4_clear 0 = .ok (.aload_n 0, 1) := by decide +kernel
theorem dX4_clear_1 : decode cX4_clear 1 = .ok (.iconst 0, 1) := by decide +kernel
theorem dX4_clear_2 : decode cX4_clear 2 = .ok (.putfield 19, 3) := by decide +kernel
theorem dX4_clear_5 : decode cX4_clear 5 = .ok (.return_, 1) := by decide +kernel
theorem dX4_copyFrom_0 : decode cX4_copyFrom 0 = .ok (.aload_n 0, 1) := by decide +kernel
theorem dX4_copyFrom_1 : decode cX4_copyFrom 1 = .ok (.aload_n 1, 1) := by decide +kernel
theorem dX4_copyFrom_2 : decode cX4_copyFrom 2 = .ok (.getfield 19, 3) := by decide +kernel
theorem dX4_copyFrom_5 : decode cX4_copyFrom 5 = .ok (.putfield 19, 3) := by decide +kernel
theorem dX4_copyFrom_8 : decode cX4_copyFrom 8 = .ok (.iconst 0, 1) := by decide +kernel
theorem dX4_copyFrom_9 : decode cX4_copyFrom 9 = .ok (.istore_n 2, 1) := by decide +kernel
theorem dX4_copyFrom_10 : decode cX4_copyFrom 10 = .ok (.iload_n 2, 1) := by decide +kernel
theorem dX4_copyFrom_11 : decode cX4_copyFrom 11 = .ok (.aload_n 0, 1) := by decide +kernel
theorem dX4_copyFrom_12 : decode cX4_copyFrom 12 = .ok (.getfield 9, 3) := by decide +kernel
theorem dX4_copyFrom_15 : decode cX4_copyFrom 15 = .ok (.arraylength, 1) := by decide +kernel
theorem dX4_copyFrom_16 : decode cX4_copyFrom 16 = .ok (.if_icmp .ge 43, 3) := by decide +kernel
theorem dX4_copyFrom_19 : decode cX4_copyFrom 19 = .ok (.iload_n 2, 1) := by decide +kernel
theorem dX4_copyFrom_20 : decode cX4_copyFrom 20 = .ok (.aload_n 1, 1) := by decide +kernel
theorem dX4_copyFrom_21 : decode cX4_copyFrom 21 = .ok (.getfield 9, 3) := by decide +kernel
theorem dX4_copyFrom_24 : decode cX4_copyFrom 24 = .ok (.arraylength, 1) := by decide +kernel
theorem dX4_copyFrom_25 : decode cX4_copyFrom 25 = .ok (.if_icmp .ge 34, 3) := by decide +kernel
theorem dX4_copyFrom_28 : decode cX4_copyFrom 28 = .ok (.iload_n 2, 1) := by decide +kernel
theorem dX4_copyFrom_29 : decode cX4_copyFrom 29 = .ok (.aload_n 0, 1) := by decide +kernel
theorem dX4_copyFrom_30 : decode cX4_copyFrom 30 = .ok (.getfield 19, 3) := by decide +kernel
theorem dX4_copyFrom_33 : decode cX4_copyFrom 33 = .ok (.aload_n 0, 1) := by decide +kernel
theorem dX4_copyFrom_34 : decode cX4_copyFrom 34 = .ok (.getfield 15, 3) := by decide +kernel
theorem dX4_copyFrom_37 : decode cX4_copyFrom 37 = .ok (.imul, 1) := by decide +kernel
theorem dX4_copyFrom_38 : decode cX4_copyFrom 38 = .ok (.if_icmp .ge 21, 3) := by decide +kernel
theorem dX4_copyFrom_41 : decode cX4_copyFrom 41 = .ok (.aload_n 0, 1) := by decide +kernel
theorem dX4_copyFrom_42 : decode cX4_copyFrom 42 = .ok (.getfield 9, 3) := by decide +kernel
theorem dX4_copyFrom_45 : decode cX4_copyFrom 45 = .ok (.iload_n 2, 1) := by decide +kernel
theorem dX4_copyFrom_46 : decode cX4_copyFrom 46 = .ok (.aload_n 1, 1) := by decide +kernel
theorem dX4_copyFrom_47 : decode cX4_copyFrom 47 = .ok (.getfield 9, 3) := by decide +kernel
theorem dX4_copyFrom_50 : decode cX4_copyFrom 50 = .ok (.iload_n 2, 1) := by decide +kernel
theorem dX4_copyFrom_51 : decode cX4_copyFrom 51 = .ok (.iaload, 1) := by decide +kernel
theorem dX4_copyFrom_52 : decode cX4_copyFrom 52 = .ok (.iastore, 1) := by decide +kernel
theorem dX4_copyFrom_53 : decode cX4_copyFrom 53 = .ok (.iinc 2 1, 3) := by decide +kernel
theorem dX4_copyFrom_56 : decode cX4_copyFrom 56 = .ok (.goto (-46), 3) := by decide +kernel
theorem dX4_copyFrom_59 : decode cX4_copyFrom 59 = .ok (.return_, 1) := by decide +kernel
theorem dX5_init_0 : decode cX5_init 0 = .ok (.aload_n 0, 1) := by decide +kernel
theorem dX5_init_1 : decode cX5_init 1 = .ok (.invokespecial 1, 3) := by decide +kernel
theorem dX5_init_4 : decode cX5_init 4 = .ok (.aload_n 0, 1) := by decide +kernel
theorem dX5_init_5 : decode cX5_init 5 = .ok (.new 7, 3) := by decide +kernel
theorem dX5_init_8 : decode cX5_init 8 = .ok (.dup, 1) := by decide +kernel
theorem dX5_init_9 : decode cX5_init 9 = .ok (.invokespecial 9, 3) := by decide +kernel
theorem dX5_init_12 : decode cX5_init 12 = .ok (.putfield 10, 3) := by decide +kernel
theorem dX5_init_15 : decode cX5_init 15 = .ok (.aload_n 0, 1) := by decide +kernel
theorem dX5_init_16 : decode cX5_init 16 = .ok (.new 7, 3) := by decide +kernel
theorem dX5_init_19 : decode cX5_init 19 = .ok (.dup, 1) := by decide +kernel
theorem dX5_init_20 : decode cX5_init 20 = .ok (.invokespecial 9, 3) := by decide +kernel
theorem dX5_init_23 : decode cX5_init 23 = .ok (.putfield 16, 3) := by decide +kernel
theorem dX5_init_26 : decode cX5_init 26 = .ok (.aload_n 0, 1) := by decide +kernel
theorem dX5_init_27 : decode cX5_init 27 = .ok (.new 19, 3) := by decide +kernel
theorem dX5_init_30 : decode cX5_init 30 = .ok (.dup, 1) := by decide +kernel
theorem dX5_init_31 : decode cX5_init 31 = .ok (.invokespecial 21, 3) := by decide +kernel
theorem dX5_init_34 : decode cX5_init 34 = .ok (.putfield 22, 3) := by decide +kernel
theorem dX5_init_37 : decode cX5_init 37 = .ok (.aload_n 0, 1) := by decide +kernel
theorem dX5_init_38 : decode cX5_init 38 = .ok (.new 26, 3) := by decide +kernel
theorem dX5_init_41 : decode cX5_init 41 = .ok (.dup, 1) := by decide +kernel
theorem dX5_init_42 : decode cX5_init 42 = .ok (.invokespecial 28, 3) := by decide +kernel
theorem dX5_init_45 : decode cX5_init 45 = .ok (.putfield 29, 3) := by decide +kernel
theorem dX5_init_48 : decode cX5_init 48 = .ok (.aload_n 0, 1) := by decide +kernel
theorem dX5_init_49 : decode cX5_init 49 = .ok (.iconst (-1), 1) := by decide +kernel
theorem dX5_init_50 : decode cX5_init 50 = .ok (.putfield 33, 3) := by decide +kernel
theorem dX5_init_53 : decode cX5_init 53 = .ok (.return_, 1) := by decide +kernel
theorem dX5_append_0 : decode cX5_append 0 = .ok (.aload_n 0, 1) := by decide +kernel
theorem dX5_append_1 : decode cX5_append 1 = .ok (.getfield 29, 3) := by decide +kernel
theorem dX5_append_4 : decode cX5_append 4 = .ok (.bipush 20, 2) := by decide +kernel
theorem dX5_append_6 : decode cX5_append 6 = .ok (.invokevirtual 37, 3) := by decide +kernel
theorem dX5_append_9 : decode cX5_append 9 = .ok (.ifCond .ne 5, 3) := by decide +kernel
theorem dX5_append_12 : decode cX5_append 12 = .ok (.iconst (-1), 1) := by decide +kernel
theorem dX5_append_13 : decode cX5_append 13 = .ok (.ireturn, 1) := by decide +kernel
theorem dX5_append_14 : decode cX5_append 14 = .ok (.aload_n 0, 1) := by decide +kernel
theorem dX5_append_15 : decode cX5_append 15 = .ok (.getfield 29, 3) := by decide +kernel
theorem dX5_append_18 : decode cX5_append 18 = .ok (.iload_n 1, 1) := by decide +kernel
theorem dX5_append_19 : decode cX5_append 19 = .ok (.invokevirtual 41, 3) := by decide +kernel
theorem dX5_append_22 : decode cX5_append 22 = .ok (.aload_n 0, 1) := by decide +kernel
theorem dX5_append_23 : decode cX5_append 23 = .ok (.getfield 29, 3) := by decide +kernel
theorem dX5_append_26 : decode cX5_append 26 = .ok (.iload_n 2, 1) := by decide +kernel
theorem dX5_append_27 : decode cX5_append 27 = .ok (.invokevirtual 41, 3) := by decide +kernel
theorem dX5_append_30 : decode cX5_append 30 = .ok (.aload_n 0, 1) := by decide +kernel
theorem dX5_append_31 : decode cX5_append 31 = .ok (.getfield 29, 3) := by decide +kernel
theorem dX5_append_34 : decode cX5_append 34 = .ok (.iload_n 3, 1) := by decide +kernel
theorem dX5_append_35 : decode cX5_append 35 = .ok (.invokevirtual 41, 3) := by decide +kernel
theorem dX5_append_38 : decode cX5_append 38 = .ok (.aload_n 0, 1) := by decide +kernel
theorem dX5_append_39 : decode cX5_append 39 = .ok (.getfield 29, 3) := by decide +kernel
theorem dX5_append_42 : decode cX5_append 42 = .ok (.iload 4, 2) := by decide +kernel
theorem dX5_append_44 : decode cX5_append 44 = .ok (.invokevirtual 41, 3) := by decide +kernel
theorem dX5_append_47 : decode cX5_append 47 = .ok (.aload_n 0, 1) := by decide +kernel
theorem dX5_append_48 : decode cX5_append 48 = .ok (.getfield 29, 3) := by decide +kernel
theorem dX5_append_51 : decode cX5_append 51 = .ok (.iload 5, 2) := by decide +kernel
theorem dX5_append_53 : decode cX5_append 53 = .ok (.invokevirtual 41, 3) := by decide +kernel
theorem dX5_append_56 : decode cX5_append 56 = .ok (.aload_n 0, 1) := by decide +kernel
theorem dX5_append_57 : decode cX5_append 57 = .ok (.getfield 29, 3) := by decide +kernel
theorem dX5_append_60 : decode cX5_append 60 = .ok (.getfield 45, 3) := by decide +kernel
theorem dX5_append_63 : decode cX5_append 63 = .ok (.ireturn, 1) := by decide +kernel
theorem dX5_load_0 : decode cX5_load 0 = .ok (.iload_n 1, 1) := by decide +kernel
theorem dX5_load_1 : decode cX5_load 1 = .ok (.iconst 0, 1) := by decide +kernel
theorem dX5_load_2 : decode cX5_load 2 = .ok (.aload_n 0, 1) := by decide +kernel
theorem dX5_load_3 : decode cX5_load 3 = .ok (.getfield 29, 3) := by decide +kernel
theorem dX5_load_6 : decode cX5_load 6 = .ok (.getfield 45, 3) := by decide +kernel
theorem dX5_load_9 : decode cX5_load 9 = .ok (.invokestatic 48, 3) := by decide +kernel
theorem dX5_load_12 : decode cX5_load 12 = .ok (.aload_n 0, 1) := by decide +kernel
theorem dX5_load_13 : decode cX5_load 13 = .ok (.getfield 29, 3) := by decide +kernel
theorem dX5_load_16 : decode cX5_load 16 = .ok (.iload_n 1, 1) := by decide +kernel
theorem dX5_load_17 : decode cX5_load 17 = .ok (.invokevirtual 52, 3) := by decide +kernel
theorem dX5_load_20 : decode cX5_load 20 = .ok (.istore_n 2, 1) := by decide +kernel
theorem dX5_load_21 : decode cX5_load 21 = .ok (.aload_n 0, 1) := by decide +kernel
theorem dX5_load_22 : decode cX5_load 22 = .ok (.aload_n 0, 1) := by decide +kernel
theorem dX5_load_23 : decode cX5_load 23 = .ok (.getfield 29, 3) := by decide +kernel
theorem dX5_load_26 : decode cX5_load 26 = .ok (.getfield 56, 3) := by decide +kernel
theorem dX5_load_29 : decode cX5_load 29 = .ok (.putfield 33, 3) := by decide +kernel
theorem dX5_load_32 : decode cX5_load 32 = .ok (.iload_n 2, 1) := by decide +kernel
theorem dX5_load_33 : decode cX5_load 33 = .ok (.ifCond .eq 5, 3) := by decide +kernel
theorem dX5_load_36 : decode cX5_load 36 = .ok (.iload_n 2, 1) := by decide +kernel
theorem dX5_load_37 : decode cX5_load 37 = .ok (.ireturn, 1) := by decide +kernel
theorem dX5_load_38 : decode cX5_load 38 = .ok (.aload_n 0, 1) := by decide +kernel
theorem dX5_load_39 : decode cX5_load 39 = .ok (.getfield 22, 3) := by decide +kernel
theorem dX5_load_42 : decode cX5_load 42 = .ok (.aload_n 0, 1) := by decide +kernel
theorem dX5_load_43 : decode cX5_load 43 = .ok (.getfield 10, 3) := by decide +kernel
theorem dX5_load_46 : decode cX5_load 46 = .ok (.invokevirtual 59, 3) := by decide +kernel
theorem dX5_load_49 : decode cX5_load 49 = .ok (.aload_n 0, 1) := by decide +kernel
theorem dX5_load_50 : decode cX5_load 50 = .ok (.getfield 10, 3) := by decide +kernel
theorem dX5_load_53 : decode cX5_load 53 = .ok (.aload_n 0, 1) := by decide +kernel
theorem dX5_load_54 : decode cX5_load 54 = .ok (.getfield 29, 3) := by decide +kernel
theorem dX5_load_57 : decode cX5_load 57 = .ok (.getfield 63, 3) := by decide +kernel
theorem dX5_load_60 : decode cX5_load 60 = .ok (.invokevirtual 66, 3) := by decide +kernel
theorem dX5_load_63 : decode cX5_load 63 = .ok (.aload_n 0, 1) := by decide +kernel
theorem dX5_load_64 : decode cX5_load 64 = .ok (.getfield 10, 3) := by decide +kernel
theorem dX5_load_67 : decode cX5_load 67 = .ok (.getfield 69, 3) := by decide +kernel
theorem dX5_load_70 : decode cX5_load 70 = .ok (.getfield 73, 3) := by decide +kernel
theorem dX5_load_73 : decode cX5_load 73 = .ok (.ireturn, 1) := by decide +kernel
theorem dX5_errorOffset_0 : decode cX5_errorOffset 0 = .ok (.aload_n 0, 1) := by decide +kernel
theorem dX5_errorOffset_1 : decode cX5_errorOffset 1 = .ok (.getfield 33, 3) := by decide +kernel
theorem dX5_errorOffset_4 : decode cX5_errorOffset 4 = .ok (.ireturn, 1) := by decide +kernel
theorem dX5_time_0 : decode cX5_time 0 = .ok (.aload_n 0, 1) := by decide +kernel
theorem dX5_time_1 : decode cX5_time 1 = .ok (.getfield 10, 3) := by decide +kernel
theorem dX5_time_4 : decode cX5_time 4 = .ok (.getfield 78, 3) := by decide +kernel
theorem dX5_time_7 : decode cX5_time 7 = .ok (.ireturn, 1) := by decide +kernel
theorem dX5_count_0 : decode cX5_count 0 = .ok (.iload_n 1, 1) := by decide +kernel
theorem dX5_count_1 : decode cX5_count 1 = .ok (.tableswitch 122 0 7 #[47, 58, 69, 80, 89, 98, 106, 114], 47) := by decide +kernel
theorem dX5_count_48 : decode cX5_count 48 = .ok (.aload_n 0, 1) := by decide +kernel
theorem dX5_count_49 : decode cX5_count 49 = .ok (.getfield 10, 3) := by decide +kernel
theorem dX5_count_52 : decode cX5_count 52 = .ok (.getfield 69, 3) := by decide +kernel
theorem dX5_count_55 : decode cX5_count 55 = .ok (.getfield 73, 3) := by decide +kernel
theorem dX5_count_58 : decode cX5_count 58 = .ok (.ireturn, 1) := by decide +kernel
theorem dX5_count_59 : decode cX5_count 59 = .ok (.aload_n 0, 1) := by decide +kernel
theorem dX5_count_60 : decode cX5_count 60 = .ok (.getfield 10, 3) := by decide +kernel
theorem dX5_count_63 : decode cX5_count 63 = .ok (.getfield 81, 3) := by decide +kernel
theorem dX5_count_66 : decode cX5_count 66 = .ok (.getfield 73, 3) := by decide +kernel
theorem dX5_count_69 : decode cX5_count 69 = .ok (.ireturn, 1) := by decide +kernel
theorem dX5_count_70 : decode cX5_count 70 = .ok (.aload_n 0, 1) := by decide +kernel
theorem dX5_count_71 : decode cX5_count 71 = .ok (.getfield 10, 3) := by decide +kernel
theorem dX5_count_74 : decode cX5_count 74 = .ok (.getfield 84, 3) := by decide +kernel
theorem dX5_count_77 : decode cX5_count 77 = .ok (.getfield 73, 3) := by decide +kernel
theorem dX5_count_80 : decode cX5_count 80 = .ok (.ireturn, 1) := by decide +kernel
theorem dX5_count_81 : decode cX5_count 81 = .ok (.aload_n 0, 1) := by decide +kernel
theorem dX5_count_82 : decode cX5_count 82 = .ok (.getfield 10, 3) := by decide +kernel
theorem dX5_count_85 : decode cX5_count 85 = .ok (.iconst 1, 1) := by decide +kernel
theorem dX5_count_86 : decode cX5_count 86 = .ok (.invokevirtual 87, 3) := by decide +kernel
theorem dX5_count_89 : decode cX5_count 89 = .ok (.ireturn, 1) := by decide +kernel
theorem dX5_count_90 : decode cX5_count 90 = .ok (.aload_n 0, 1) := by decide +kernel
theorem dX5_count_91 : decode cX5_count 91 = .ok (.getfield 10, 3) := by decide +kernel
theorem dX5_count_94 : decode cX5_count 94 = .ok (.iconst 0, 1) := by decide +kernel
theorem dX5_count_95 : decode cX5_count 95 = .ok (.invokevirtual 87, 3) := by decide +kernel
theorem dX5_count_98 : decode cX5_count 98 = .ok (.ireturn, 1) := by decide +kernel
theorem dX5_count_99 : decode cX5_count 99 = .ok (.aload_n 0, 1) := by decide +kernel
theorem dX5_count_100 : decode cX5_count 100 = .ok (.getfield 10, 3) := by decide +kernel
theorem dX5_count_103 : decode cX5_count 103 = .ok (.getfield 90, 3) := by decide +kernel
theorem dX5_count_106 : decode cX5_count 106 = .ok (.ireturn, 1) := by decide +kernel
theorem dX5_count_107 : decode cX5_count 107 = .ok (.aload_n 0, 1) := by decide +kernel
theorem dX5_count_108 : decode cX5_count 108 = .ok (.getfield 10, 3) := by decide +kernel
theorem dX5_count_111 : decode cX5_count 111 = .ok (.getfield 93, 3) := by decide +kernel
theorem dX5_count_114 : decode cX5_count 114 = .ok (.ireturn, 1) := by decide +kernel
theorem dX5_count_115 : decode cX5_count 115 = .ok (.aload_n 0, 1) := by decide +kernel
theorem dX5_count_116 : decode cX5_count 116 = .ok (.getfield 10, 3) := by decide +kernel
theorem dX5_count_119 : decode cX5_count 119 = .ok (.getfield 96, 3) := by decide +kernel
theorem dX5_count_122 : decode cX5_count 122 = .ok (.ireturn, 1) := by decide +kernel
theorem dX5_count_123 : decode cX5_count 123 = .ok (.new 99, 3) := by decide +kernel
theorem dX5_count_126 : decode cX5_count 126 = .ok (.dup, 1) := by decide +kernel
theorem dX5_count_127 : decode cX5_count 127 = .ok (.ldc 101, 2) := by decide +kernel
theorem dX5_count_129 : decode cX5_count 129 = .ok (.invokespecial 103, 3) := by decide +kernel
theorem dX5_count_132 : decode cX5_count 132 = .ok (.athrow, 1) := by decide +kernel
theorem dX5_party_0 : decode cX5_party 0 = .ok (.aload_n 0, 1) := by decide +kernel
theorem dX5_party_1 : decode cX5_party 1 = .ok (.iload_n 1, 1) := by decide +kernel
theorem dX5_party_2 : decode cX5_party 2 = .ok (.invokevirtual 106, 3) := by decide +kernel
theorem dX5_party_5 : decode cX5_party 5 = .ok (.iload_n 2, 1) := by decide +kernel
theorem dX5_party_6 : decode cX5_party 6 = .ok (.iconst 0, 1) := by decide +kernel
theorem dX5_party_7 : decode cX5_party 7 = .ok (.iconst 5, 1) := by decide +kernel
theorem dX5_party_8 : decode cX5_party 8 = .ok (.invokestatic 48, 3) := by decide +kernel
theorem dX5_party_11 : decode cX5_party 11 = .ok (.iload_n 2, 1) := by decide +kernel
theorem dX5_party_12 : decode cX5_party 12 = .ok (.tableswitch 64 3 5 #[28, 45, 55], 28) := by decide +kernel
theorem dX5_party_40 : decode cX5_party 40 = .ok (.aload_n 0, 1) := by decide +kernel
theorem dX5_party_41 : decode cX5_party 41 = .ok (.getfield 10, 3) := by decide +kernel
theorem dX5_party_44 : decode cX5_party 44 = .ok (.iload_n 1, 1) := by decide +kernel
theorem dX5_party_45 : decode cX5_party 45 = .ok (.invokevirtual 109, 3) := by decide +kernel
theorem dX5_party_48 : decode cX5_party 48 = .ok (.ifCond .eq 7, 3) := by decide +kernel
theorem dX5_party_51 : decode cX5_party 51 = .ok (.iconst 1, 1) := by decide +kernel
theorem dX5_party_52 : decode cX5_party 52 = .ok (.goto 4, 3) := by decide +kernel
theorem dX5_party_55 : decode cX5_party 55 = .ok (.iconst 0, 1) := by decide +kernel
theorem dX5_party_56 : decode cX5_party 56 = .ok (.ireturn, 1) := by decide +kernel
theorem dX5_party_57 : decode cX5_party 57 = .ok (.aload_n 0, 1) := by decide +kernel
theorem dX5_party_58 : decode cX5_party 58 = .ok (.getfield 10, 3) := by decide +kernel
theorem dX5_party_61 : decode cX5_party 61 = .ok (.iload_n 1, 1) := by decide +kernel
theorem dX5_party_62 : decode cX5_party 62 = .ok (.iconst 1, 1) := by decide +kernel
theorem dX5_party_63 : decode cX5_party 63 = .ok (.invokevirtual 112, 3) := by decide +kernel
theorem dX5_party_66 : decode cX5_party 66 = .ok (.ireturn, 1) := by decide +kernel
theorem dX5_party_67 : decode cX5_party 67 = .ok (.aload_n 0, 1) := by decide +kernel
theorem dX5_party_68 : decode cX5_party 68 = .ok (.getfield 10, 3) := by decide +kernel
theorem dX5_party_71 : decode cX5_party 71 = .ok (.iload_n 1, 1) := by decide +kernel
theorem dX5_party_72 : decode cX5_party 72 = .ok (.invokevirtual 116, 3) := by decide +kernel
theorem dX5_party_75 : decode cX5_party 75 = .ok (.ireturn, 1) := by decide +kernel
theorem dX5_party_76 : decode cX5_party 76 = .ok (.aload_n 0, 1) := by decide +kernel
theorem dX5_party_77 : decode cX5_party 77 = .ok (.getfield 10, 3) := by decide +kernel
theorem dX5_party_80 : decode cX5_party 80 = .ok (.getfield 69, 3) := by decide +kernel
theorem dX5_party_83 : decode cX5_party 83 = .ok (.iload_n 1, 1) := by decide +kernel
theorem dX5_party_84 : decode cX5_party 84 = .ok (.iload_n 2, 1) := by decide +kernel
theorem dX5_party_85 : decode cX5_party 85 = .ok (.invokevirtual 119, 3) := by decide +kernel
theorem dX5_party_88 : decode cX5_party 88 = .ok (.ireturn, 1) := by decide +kernel
theorem dX5_call_0 : decode cX5_call 0 = .ok (.aload_n 0, 1) := by decide +kernel
theorem dX5_call_1 : decode cX5_call 1 = .ok (.iload_n 1, 1) := by decide +kernel
theorem dX5_call_2 : decode cX5_call 2 = .ok (.invokevirtual 122, 3) := by decide +kernel
theorem dX5_call_5 : decode cX5_call 5 = .ok (.iload_n 2, 1) := by decide +kernel
theorem dX5_call_6 : decode cX5_call 6 = .ok (.iconst 0, 1) := by decide +kernel
theorem dX5_call_7 : decode cX5_call 7 = .ok (.iconst 5, 1) := by decide +kernel
theorem dX5_call_8 : decode cX5_call 8 = .ok (.invokestatic 48, 3) := by decide +kernel
theorem dX5_call_11 : decode cX5_call 11 = .ok (.iload_n 2, 1) := by decide +kernel
theorem dX5_call_12 : decode cX5_call 12 = .ok (.iconst 4, 1) := by decide +kernel
theorem dX5_call_13 : decode cX5_call 13 = .ok (.if_icmp .ne 20, 3) := by decide +kernel
theorem dX5_call_16 : decode cX5_call 16 = .ok (.aload_n 0, 1) := by decide +kernel
theorem dX5_call_17 : decode cX5_call 17 = .ok (.getfield 10, 3) := by decide +kernel
theorem dX5_call_20 : decode cX5_call 20 = .ok (.iload_n 1, 1) := by decide +kernel
theorem dX5_call_21 : decode cX5_call 21 = .ok (.invokevirtual 125, 3) := by decide +kernel
theorem dX5_call_24 : decode cX5_call 24 = .ok (.ifCond .eq 7, 3) := by decide +kernel
theorem dX5_call_27 : decode cX5_call 27 = .ok (.iconst 1, 1) := by decide +kernel
theorem dX5_call_28 : decode cX5_call 28 = .ok (.goto 4, 3) := by decide +kernel
theorem dX5_call_31 : decode cX5_call 31 = .ok (.iconst 0, 1) := by decide +kernel
theorem dX5_call_32 : decode cX5_call 32 = .ok (.ireturn, 1) := by decide +kernel
theorem dX5_call_33 : decode cX5_call 33 = .ok (.aload_n 0, 1) := by decide +kernel
theorem dX5_call_34 : decode cX5_call 34 = .ok (.getfield 10, 3) := by decide +kernel
theorem dX5_call_37 : decode cX5_call 37 = .ok (.getfield 81, 3) := by decide +kernel
theorem dX5_call_40 : decode cX5_call 40 = .ok (.iload_n 1, 1) := by decide +kernel
theorem dX5_call_41 : decode cX5_call 41 = .ok (.iload_n 2, 1) := by decide +kernel
theorem dX5_call_42 : decode cX5_call 42 = .ok (.invokevirtual 119, 3) := by decide +kernel
theorem dX5_call_45 : decode cX5_call 45 = .ok (.ireturn, 1) := by decide +kernel
theorem dX5_leg_0 : decode cX5_leg 0 = .ok (.aload_n 0, 1) := by decide +kernel
theorem dX5_leg_1 : decode cX5_leg 1 = .ok (.iload_n 1, 1) := by decide +kernel
theorem dX5_leg_2 : decode cX5_leg 2 = .ok (.invokevirtual 128, 3) := by decide +kernel
theorem dX5_leg_5 : decode cX5_leg 5 = .ok (.iload_n 2, 1) := by decide +kernel
theorem dX5_leg_6 : decode cX5_leg 6 = .ok (.iconst 0, 1) := by decide +kernel
theorem dX5_leg_7 : decode cX5_leg 7 = .ok (.iconst 5, 1) := by decide +kernel
theorem dX5_leg_8 : decode cX5_leg 8 = .ok (.invokestatic 48, 3) := by decide +kernel
theorem dX5_leg_11 : decode cX5_leg 11 = .ok (.aload_n 0, 1) := by decide +kernel
theorem dX5_leg_12 : decode cX5_leg 12 = .ok (.getfield 10, 3) := by decide +kernel
theorem dX5_leg_15 : decode cX5_leg 15 = .ok (.getfield 84, 3) := by decide +kernel
theorem dX5_leg_18 : decode cX5_leg 18 = .ok (.iload_n 1, 1) := by decide +kernel
theorem dX5_leg_19 : decode cX5_leg 19 = .ok (.iload_n 2, 1) := by decide +kernel
theorem dX5_leg_20 : decode cX5_leg 20 = .ok (.invokevirtual 119, 3) := by decide +kernel
theorem dX5_leg_23 : decode cX5_leg 23 = .ok (.ireturn, 1) := by decide +kernel
theorem dX5_pending_0 : decode cX5_pending 0 = .ok (.aload_n 0, 1) := by decide +kernel
theorem dX5_pending_1 : decode cX5_pending 1 = .ok (.iload_n 1, 1) := by decide +kernel
theorem dX5_pending_2 : decode cX5_pending 2 = .ok (.invokevirtual 128, 3) := by decide +kernel
theorem dX5_pending_5 : decode cX5_pending 5 = .ok (.aload_n 0, 1) := by decide +kernel
theorem dX5_pending_6 : decode cX5_pending 6 = .ok (.getfield 10, 3) := by decide +kernel
theorem dX5_pending_9 : decode cX5_pending 9 = .ok (.getfield 84, 3) := by decide +kernel
theorem dX5_pending_12 : decode cX5_pending 12 = .ok (.iload_n 1, 1) := by decide +kernel
theorem dX5_pending_13 : decode cX5_pending 13 = .ok (.bipush 6, 2) := by decide +kernel
theorem dX5_pending_15 : decode cX5_pending 15 = .ok (.invokevirtual 119, 3) := by decide +kernel
theorem dX5_pending_18 : decode cX5_pending 18 = .ok (.iconst (-1), 1) := by decide +kernel
theorem dX5_pending_19 : decode cX5_pending 19 = .ok (.if_icmp .ne 13, 3) := by decide +kernel
theorem dX5_pending_22 : decode cX5_pending 22 = .ok (.new 131, 3) := by decide +kernel
theorem dX5_pending_25 : decode cX5_pending 25 = .ok (.dup, 1) := by decide +kernel
theorem dX5_pending_26 : decode cX5_pending 26 = .ok (.ldc 133, 2) := by decide +kernel
theorem dX5_pending_28 : decode cX5_pending 28 = .ok (.invokespecial 135, 3) := by decide +kernel
theorem dX5_pending_31 : decode cX5_pending 31 = .ok (.athrow, 1) := by decide +kernel
theorem dX5_pending_32 : decode cX5_pending 32 = .ok (.iload_n 2, 1) := by decide +kernel
theorem dX5_pending_33 : decode cX5_pending 33 = .ok (.iconst 0, 1) := by decide +kernel
theorem dX5_pending_34 : decode cX5_pending 34 = .ok (.iconst 2, 1) := by decide +kernel
theorem dX5_pending_35 : decode cX5_pending 35 = .ok (.invokestatic 48, 3) := by decide +kernel
theorem dX5_pending_38 : decode cX5_pending 38 = .ok (.aload_n 0, 1) := by decide +kernel
theorem dX5_pending_39 : decode cX5_pending 39 = .ok (.getfield 10, 3) := by decide +kernel
theorem dX5_pending_42 : decode cX5_pending 42 = .ok (.getfield 84, 3) := by decide +kernel
theorem dX5_pending_45 : decode cX5_pending 45 = .ok (.iload_n 1, 1) := by decide +kernel
theorem dX5_pending_46 : decode cX5_pending 46 = .ok (.bipush 6, 2) := by decide +kernel
theorem dX5_pending_48 : decode cX5_pending 48 = .ok (.iload_n 2, 1) := by decide +kernel
theorem dX5_pending_49 : decode cX5_pending 49 = .ok (.iadd, 1) := by decide +kernel
theorem dX5_pending_50 : decode cX5_pending 50 = .ok (.invokevirtual 119, 3) := by decide +kernel
theorem dX5_pending_53 : decode cX5_pending 53 = .ok (.ireturn, 1) := by decide +kernel
theorem dX5_repetition_0 : decode cX5_repetition 0 = .ok (.aload_n 0, 1) := by decide +kernel
theorem dX5_repetition_1 : decode cX5_repetition 1 = .ok (.iload_n 1, 1) := by decide +kernel
theorem dX5_repetition_2 : decode cX5_repetition 2 = .ok (.invokevirtual 128, 3) := by decide +kernel
theorem dX5_repetition_5 : decode cX5_repetition 5 = .ok (.iload_n 2, 1) := by decide +kernel
theorem dX5_repetition_6 : decode cX5_repetition 6 = .ok (.iconst 0, 1) := by decide +kernel
theorem dX5_repetition_7 : decode cX5_repetition 7 = .ok (.iconst 1, 1) := by decide +kernel
theorem dX5_repetition_8 : decode cX5_repetition 8 = .ok (.invokestatic 48, 3) := by decide +kernel
theorem dX5_repetition_11 : decode cX5_repetition 11 = .ok (.aload_n 0, 1) := by decide +kernel
theorem dX5_repetition_12 : decode cX5_repetition 12 = .ok (.getfield 10, 3) := by decide +kernel
theorem dX5_repetition_15 : decode cX5_repetition 15 = .ok (.getfield 84, 3) := by decide +kernel
theorem dX5_repetition_18 : decode cX5_repetition 18 = .ok (.iload_n 1, 1) := by decide +kernel
theorem dX5_repetition_19 : decode cX5_repetition 19 = .ok (.bipush 9, 2) := by decide +kernel
theorem dX5_repetition_21 : decode cX5_repetition 21 = .ok (.iload_n 2, 1) := by decide +kernel
theorem dX5_repetition_22 : decode cX5_repetition 22 = .ok (.iadd, 1) := by decide +kernel
theorem dX5_repetition_23 : decode cX5_repetition 23 = .ok (.invokevirtual 119, 3) := by decide +kernel
theorem dX5_repetition_26 : decode cX5_repetition 26 = .ok (.ireturn, 1) := by decide +kernel
theorem dX5_total_0 : decode cX5_total 0 = .ok (.iload_n 1, 1) := by decide +kernel
theorem dX5_total_1 : decode cX5_total 1 = .ok (.iconst 0, 1) := by decide +kernel
theorem dX5_total_2 : decode cX5_total 2 = .ok (.bipush 6, 2) := by decide +kernel
theorem dX5_total_4 : decode cX5_total 4 = .ok (.invokestatic 48, 3) := by decide +kernel
theorem dX5_total_7 : decode cX5_total 7 = .ok (.aload_n 0, 1) := by decide +kernel
theorem dX5_total_8 : decode cX5_total 8 = .ok (.getfield 10, 3) := by decide +kernel
theorem dX5_total_11 : decode cX5_total 11 = .ok (.getfield 136, 3) := by decide +kernel
theorem dX5_total_14 : decode cX5_total 14 = .ok (.iconst 0, 1) := by decide +kernel
theorem dX5_total_15 : decode cX5_total 15 = .ok (.iload_n 1, 1) := by decide +kernel
theorem dX5_total_16 : decode cX5_total 16 = .ok (.invokevirtual 119, 3) := by decide +kernel
theorem dX5_total_19 : decode cX5_total 19 = .ok (.ireturn, 1) := by decide +kernel
theorem dX5_settlesIn_0 : decode cX5_settlesIn 0 = .ok (.aload_n 0, 1) := by decide +kernel
theorem dX5_settlesIn_1 : decode cX5_settlesIn 1 = .ok (.iload_n 1, 1) := by decide +kernel
theorem dX5_settlesIn_2 : decode cX5_settlesIn 2 = .ok (.invokevirtual 122, 3) := by decide +kernel
theorem dX5_settlesIn_5 : decode cX5_settlesIn 5 = .ok (.aload_n 0, 1) := by decide +kernel
theorem dX5_settlesIn_6 : decode cX5_settlesIn 6 = .ok (.iload_n 1, 1) := by decide +kernel
theorem dX5_settlesIn_7 : decode cX5_settlesIn 7 = .ok (.invokevirtual 139, 3) := by decide +kernel
theorem dX5_settlesIn_10 : decode cX5_settlesIn 10 = .ok (.ireturn, 1) := by decide +kernel
theorem dX5_answeredBy_0 : decode cX5_answeredBy 0 = .ok (.aload_n 0, 1) := by decide +kernel
theorem dX5_answeredBy_1 : decode cX5_answeredBy 1 = .ok (.iload_n 1, 1) := by decide +kernel
theorem dX5_answeredBy_2 : decode cX5_answeredBy 2 = .ok (.invokevirtual 122, 3) := by decide +kernel
theorem dX5_answeredBy_5 : decode cX5_answeredBy 5 = .ok (.aload_n 0, 1) := by decide +kernel
theorem dX5_answeredBy_6 : decode cX5_answeredBy 6 = .ok (.iload_n 1, 1) := by decide +kernel
theorem dX5_answeredBy_7 : decode cX5_answeredBy 7 = .ok (.invokevirtual 139, 3) := by decide +kernel
theorem dX5_answeredBy_10 : decode cX5_answeredBy 10 = .ok (.pop, 1) := by decide +kernel
theorem dX5_answeredBy_11 : decode cX5_answeredBy 11 = .ok (.aload_n 0, 1) := by decide +kernel
theorem dX5_answeredBy_12 : decode cX5_answeredBy 12 = .ok (.getfield 16, 3) := by decide +kernel
theorem dX5_answeredBy_15 : decode cX5_answeredBy 15 = .ok (.getfield 81, 3) := by decide +kernel
theorem dX5_answeredBy_18 : decode cX5_answeredBy 18 = .ok (.iload_n 1, 1) := by decide +kernel
theorem dX5_answeredBy_19 : decode cX5_answeredBy 19 = .ok (.iconst 5, 1) := by decide +kernel
theorem dX5_answeredBy_20 : decode cX5_answeredBy 20 = .ok (.invokevirtual 119, 3) := by decide +kernel
theorem dX5_answeredBy_23 : decode cX5_answeredBy 23 = .ok (.ireturn, 1) := by decide +kernel
theorem dX5_pass_0 : decode cX5_pass 0 = .ok (.iload_n 1, 1) := by decide +kernel
theorem dX5_pass_1 : decode cX5_pass 1 = .ok (.iconst 1, 1) := by decide +kernel
theorem dX5_pass_2 : decode cX5_pass 2 = .ok (.sipush 200, 3) := by decide +kernel
theorem dX5_pass_5 : decode cX5_pass 5 = .ok (.invokestatic 48, 3) := by decide +kernel
theorem dX5_pass_8 : decode cX5_pass 8 = .ok (.aload_n 0, 1) := by decide +kernel
theorem dX5_pass_9 : decode cX5_pass 9 = .ok (.getfield 10, 3) := by decide +kernel
theorem dX5_pass_12 : decode cX5_pass 12 = .ok (.getfield 78, 3) := by decide +kernel
theorem dX5_pass_15 : decode cX5_pass 15 = .ok (.iload_n 1, 1) := by decide +kernel
theorem dX5_pass_16 : decode cX5_pass 16 = .ok (.iadd, 1) := by decide +kernel
theorem dX5_pass_17 : decode cX5_pass 17 = .ok (.sipush 9999, 3) := by decide +kernel
theorem dX5_pass_20 : decode cX5_pass 20 = .ok (.if_icmp .le 13, 3) := by decide +kernel
theorem dX5_pass_23 : decode cX5_pass 23 = .ok (.new 99, 3) := by decide +kernel
theorem dX5_pass_26 : decode cX5_pass 26 = .ok (.dup, 1) := by decide +kernel
theorem dX5_pass_27 : decode cX5_pass 27 = .ok (.ldc 142, 2) := by decide +kernel
theorem dX5_pass_29 : decode cX5_pass 29 = .ok (.invokespecial 103, 3) := by decide +kernel
theorem dX5_pass_32 : decode cX5_pass 32 = .ok (.athrow, 1) := by decide +kernel
theorem dX5_pass_33 : decode cX5_pass 33 = .ok (.aload_n 0, 1) := by decide +kernel
theorem dX5_pass_34 : decode cX5_pass 34 = .ok (.getfield 22, 3) := by decide +kernel
theorem dX5_pass_37 : decode cX5_pass 37 = .ok (.aload_n 0, 1) := by decide +kernel
theorem dX5_pass_38 : decode cX5_pass 38 = .ok (.getfield 10, 3) := by decide +kernel
theorem dX5_pass_41 : decode cX5_pass 41 = .ok (.invokevirtual 59, 3) := by decide +kernel
theorem dX5_pass_44 : decode cX5_pass 44 = .ok (.iconst 0, 1) := by decide +kernel
theorem dX5_pass_45 : decode cX5_pass 45 = .ok (.istore_n 2, 1) := by decide +kernel
theorem dX5_pass_46 : decode cX5_pass 46 = .ok (.iload_n 2, 1) := by decide +kernel
theorem dX5_pass_47 : decode cX5_pass 47 = .ok (.iload_n 1, 1) := by decide +kernel
theorem dX5_pass_48 : decode cX5_pass 48 = .ok (.if_icmp .ge 16, 3) := by decide +kernel
theorem dX5_pass_51 : decode cX5_pass 51 = .ok (.aload_n 0, 1) := by decide +kernel
theorem dX5_pass_52 : decode cX5_pass 52 = .ok (.getfield 10, 3) := by decide +kernel
theorem dX5_pass_55 : decode cX5_pass 55 = .ok (.invokevirtual 144, 3) := by decide +kernel
theorem dX5_pass_58 : decode cX5_pass 58 = .ok (.iinc 2 1, 3) := by decide +kernel
theorem dX5_pass_61 : decode cX5_pass 61 = .ok (.goto (-15), 3) := by decide +kernel
theorem dX5_pass_64 : decode cX5_pass 64 = .ok (.aload_n 0, 1) := by decide +kernel
theorem dX5_pass_65 : decode cX5_pass 65 = .ok (.getfield 10, 3) := by decide +kernel
theorem dX5_pass_68 : decode cX5_pass 68 = .ok (.iconst 1, 1) := by decide +kernel
theorem dX5_pass_69 : decode cX5_pass 69 = .ok (.invokevirtual 87, 3) := by decide +kernel
theorem dX5_pass_72 : decode cX5_pass 72 = .ok (.ireturn, 1) := by decide +kernel
theorem dX5_dial_0 : decode cX5_dial 0 = .ok (.aload_n 0, 1) := by decide +kernel
theorem dX5_dial_1 : decode cX5_dial 1 = .ok (.iload_n 1, 1) := by decide +kernel
theorem dX5_dial_2 : decode cX5_dial 2 = .ok (.invokevirtual 106, 3) := by decide +kernel
theorem dX5_dial_5 : decode cX5_dial 5 = .ok (.iload_n 2, 1) := by decide +kernel
theorem dX5_dial_6 : decode cX5_dial 6 = .ok (.ifCond .le 27, 3) := by decide +kernel
theorem dX5_dial_9 : decode cX5_dial 9 = .ok (.iload_n 2, 1) := by decide +kernel
theorem dX5_dial_10 : decode cX5_dial 10 = .ok (.iconst 1, 1) := by decide +kernel
theorem dX5_dial_11 : decode cX5_dial 11 = .ok (.aload_n 0, 1) := by decide +kernel
theorem dX5_dial_12 : decode cX5_dial 12 = .ok (.getfield 10, 3) := by decide +kernel
theorem dX5_dial_15 : decode cX5_dial 15 = .ok (.getfield 69, 3) := by decide +kernel
theorem dX5_dial_18 : decode cX5_dial 18 = .ok (.getfield 73, 3) := by decide +kernel
theorem dX5_dial_21 : decode cX5_dial 21 = .ok (.ishl, 1) := by decide +kernel
theorem dX5_dial_22 : decode cX5_dial 22 = .ok (.if_icmp .ge 11, 3) := by decide +kernel
theorem dX5_dial_25 : decode cX5_dial 25 = .ok (.iload_n 2, 1) := by decide +kernel
theorem dX5_dial_26 : decode cX5_dial 26 = .ok (.iload_n 1, 1) := by decide +kernel
theorem dX5_dial_27 : decode cX5_dial 27 = .ok (.ishr, 1) := by decide +kernel
theorem dX5_dial_28 : decode cX5_dial 28 = .ok (.iconst 1, 1) := by decide +kernel
theorem dX5_dial_29 : decode cX5_dial 29 = .ok (.iand, 1) := by decide +kernel
theorem dX5_dial_30 : decode cX5_dial 30 = .ok (.ifCond .eq 13, 3) := by decide +kernel
theorem dX5_dial_33 : decode cX5_dial 33 = .ok (.new 99, 3) := by decide +kernel
theorem dX5_dial_36 : decode cX5_dial 36 = .ok (.dup, 1) := by decide +kernel
theorem dX5_dial_37 : decode cX5_dial 37 = .ok (.ldc 147, 2) := by decide +kernel
theorem dX5_dial_39 : decode cX5_dial 39 = .ok (.invokespecial 103, 3) := by decide +kernel
theorem dX5_dial_42 : decode cX5_dial 42 = .ok (.athrow, 1) := by decide +kernel
theorem dX5_dial_43 : decode cX5_dial 43 = .ok (.aload_n 0, 1) := by decide +kernel
theorem dX5_dial_44 : decode cX5_dial 44 = .ok (.getfield 10, 3) := by decide +kernel
theorem dX5_dial_47 : decode cX5_dial 47 = .ok (.iload_n 1, 1) := by decide +kernel
theorem dX5_dial_48 : decode cX5_dial 48 = .ok (.invokevirtual 109, 3) := by decide +kernel
theorem dX5_dial_51 : decode cX5_dial 51 = .ok (.ifCond .ne 17, 3) := by decide +kernel
theorem dX5_dial_54 : decode cX5_dial 54 = .ok (.aload_n 0, 1) := by decide +kernel
theorem dX5_dial_55 : decode cX5_dial 55 = .ok (.getfield 10, 3) := by decide +kernel
theorem dX5_dial_58 : decode cX5_dial 58 = .ok (.iload_n 2, 1) := by decide +kernel
theorem dX5_dial_59 : decode cX5_dial 59 = .ok (.invokestatic 149, 3) := by decide +kernel
theorem dX5_dial_62 : decode cX5_dial 62 = .ok (.invokevirtual 154, 3) := by decide +kernel
theorem dX5_dial_65 : decode cX5_dial 65 = .ok (.ifCond .ne 13, 3) := by decide +kernel
theorem dX5_dial_68 : decode cX5_dial 68 = .ok (.new 155, 3) := by decide +kernel
theorem dX5_dial_71 : decode cX5_dial 71 = .ok (.dup, 1) := by decide +kernel
theorem dX5_dial_72 : decode cX5_dial 72 = .ok (.ldc 157, 2) := by decide +kernel
theorem dX5_dial_74 : decode cX5_dial 74 = .ok (.invokespecial 159, 3) := by decide +kernel
theorem dX5_dial_77 : decode cX5_dial 77 = .ok (.athrow, 1) := by decide +kernel
theorem dX5_dial_78 : decode cX5_dial 78 = .ok (.aload_n 0, 1) := by decide +kernel
theorem dX5_dial_79 : decode cX5_dial 79 = .ok (.getfield 22, 3) := by decide +kernel
theorem dX5_dial_82 : decode cX5_dial 82 = .ok (.aload_n 0, 1) := by decide +kernel
theorem dX5_dial_83 : decode cX5_dial 83 = .ok (.getfield 10, 3) := by decide +kernel
theorem dX5_dial_86 : decode cX5_dial 86 = .ok (.invokevirtual 59, 3) := by decide +kernel
theorem dX5_dial_89 : decode cX5_dial 89 = .ok (.aload_n 0, 1) := by decide +kernel
theorem dX5_dial_90 : decode cX5_dial 90 = .ok (.getfield 10, 3) := by decide +kernel
theorem dX5_dial_93 : decode cX5_dial 93 = .ok (.iload_n 1, 1) := by decide +kernel
theorem dX5_dial_94 : decode cX5_dial 94 = .ok (.iload_n 2, 1) := by decide +kernel
theorem dX5_dial_95 : decode cX5_dial 95 = .ok (.iconst (-1), 1) := by decide +kernel
theorem dX5_dial_96 : decode cX5_dial 96 = .ok (.invokevirtual 160, 3) := by decide +kernel
theorem dX5_dial_99 : decode cX5_dial 99 = .ok (.ireturn, 1) := by decide +kernel
theorem dX5_transfer_0 : decode cX5_transfer 0 = .ok (.aload_n 0, 1) := by decide +kernel
theorem dX5_transfer_1 : decode cX5_transfer 1 = .ok (.iload_n 1, 1) := by decide +kernel
theorem dX5_transfer_2 : decode cX5_transfer 2 = .ok (.invokevirtual 106, 3) := by decide +kernel
theorem dX5_transfer_5 : decode cX5_transfer 5 = .ok (.aload_n 0, 1) := by decide +kernel
theorem dX5_transfer_6 : decode cX5_transfer 6 = .ok (.iload_n 2, 1) := by decide +kernel
theorem dX5_transfer_7 : decode cX5_transfer 7 = .ok (.invokevirtual 106, 3) := by decide +kernel
theorem dX5_transfer_10 : decode cX5_transfer 10 = .ok (.aload_n 0, 1) := by decide +kernel
theorem dX5_transfer_11 : decode cX5_transfer 11 = .ok (.getfield 10, 3) := by decide +kernel
theorem dX5_transfer_14 : decode cX5_transfer 14 = .ok (.iload_n 1, 1) := by decide +kernel
theorem dX5_transfer_15 : decode cX5_transfer 15 = .ok (.iconst 1, 1) := by decide +kernel
theorem dX5_transfer_16 : decode cX5_transfer 16 = .ok (.invokevirtual 112, 3) := by decide +kernel
theorem dX5_transfer_19 : decode cX5_transfer 19 = .ok (.istore_n 3, 1) := by decide +kernel
theorem dX5_transfer_20 : decode cX5_transfer 20 = .ok (.iload_n 3, 1) := by decide +kernel
theorem dX5_transfer_21 : decode cX5_transfer 21 = .ok (.iconst (-1), 1) := by decide +kernel
theorem dX5_transfer_22 : decode cX5_transfer 22 = .ok (.if_icmp .eq 14, 3) := by decide +kernel
theorem dX5_transfer_25 : decode cX5_transfer 25 = .ok (.aload_n 0, 1) := by decide +kernel
theorem dX5_transfer_26 : decode cX5_transfer 26 = .ok (.getfield 10, 3) := by decide +kernel
theorem dX5_transfer_29 : decode cX5_transfer 29 = .ok (.iconst 1, 1) := by decide +kernel
theorem dX5_transfer_30 : decode cX5_transfer 30 = .ok (.invokevirtual 154, 3) := by decide +kernel
theorem dX5_transfer_33 : decode cX5_transfer 33 = .ok (.ifCond .ne 13, 3) := by decide +kernel
theorem dX5_transfer_36 : decode cX5_transfer 36 = .ok (.new 155, 3) := by decide +kernel
theorem dX5_transfer_39 : decode cX5_transfer 39 = .ok (.dup, 1) := by decide +kernel
theorem dX5_transfer_40 : decode cX5_transfer 40 = .ok (.ldc 164, 2) := by decide +kernel
theorem dX5_transfer_42 : decode cX5_transfer 42 = .ok (.invokespecial 159, 3) := by decide +kernel
theorem dX5_transfer_45 : decode cX5_transfer 45 = .ok (.athrow, 1) := by decide +kernel
theorem dX5_transfer_46 : decode cX5_transfer 46 = .ok (.aload_n 0, 1) := by decide +kernel
theorem dX5_transfer_47 : decode cX5_transfer 47 = .ok (.getfield 10, 3) := by decide +kernel
theorem dX5_transfer_50 : decode cX5_transfer 50 = .ok (.iload_n 3, 1) := by decide +kernel
theorem dX5_transfer_51 : decode cX5_transfer 51 = .ok (.iload_n 2, 1) := by decide +kernel
theorem dX5_transfer_52 : decode cX5_transfer 52 = .ok (.invokevirtual 166, 3) := by decide +kernel
theorem dX5_transfer_55 : decode cX5_transfer 55 = .ok (.ifCond .eq 13, 3) := by decide +kernel
theorem dX5_transfer_58 : decode cX5_transfer 58 = .ok (.new 99, 3) := by decide +kernel
theorem dX5_transfer_61 : decode cX5_transfer 61 = .ok (.dup, 1) := by decide +kernel
theorem dX5_transfer_62 : decode cX5_transfer 62 = .ok (.ldc 170, 2) := by decide +kernel
theorem dX5_transfer_64 : decode cX5_transfer 64 = .ok (.invokespecial 103, 3) := by decide +kernel
theorem dX5_transfer_67 : decode cX5_transfer 67 = .ok (.athrow, 1) := by decide +kernel
theorem dX5_transfer_68 : decode cX5_transfer 68 = .ok (.aload_n 0, 1) := by decide +kernel
theorem dX5_transfer_69 : decode cX5_transfer 69 = .ok (.getfield 22, 3) := by decide +kernel
theorem dX5_transfer_72 : decode cX5_transfer 72 = .ok (.aload_n 0, 1) := by decide +kernel
theorem dX5_transfer_73 : decode cX5_transfer 73 = .ok (.getfield 10, 3) := by decide +kernel
theorem dX5_transfer_76 : decode cX5_transfer 76 = .ok (.invokevirtual 59, 3) := by decide +kernel
theorem dX5_transfer_79 : decode cX5_transfer 79 = .ok (.aload_n 0, 1) := by decide +kernel
theorem dX5_transfer_80 : decode cX5_transfer 80 = .ok (.getfield 10, 3) := by decide +kernel
theorem dX5_transfer_83 : decode cX5_transfer 83 = .ok (.iload_n 3, 1) := by decide +kernel
theorem dX5_transfer_84 : decode cX5_transfer 84 = .ok (.iload_n 1, 1) := by decide +kernel
theorem dX5_transfer_85 : decode cX5_transfer 85 = .ok (.iload_n 2, 1) := by decide +kernel
theorem dX5_transfer_86 : decode cX5_transfer 86 = .ok (.invokevirtual 172, 3) := by decide +kernel
theorem dX5_transfer_89 : decode cX5_transfer 89 = .ok (.ireturn, 1) := by decide +kernel
theorem dX5_hangUp_0 : decode cX5_hangUp 0 = .ok (.aload_n 0, 1) := by decide +kernel
theorem dX5_hangUp_1 : decode cX5_hangUp 1 = .ok (.iload_n 1, 1) := by decide +kernel
theorem dX5_hangUp_2 : decode cX5_hangUp 2 = .ok (.invokevirtual 106, 3) := by decide +kernel
theorem dX5_hangUp_5 : decode cX5_hangUp 5 = .ok (.aload_n 0, 1) := by decide +kernel
theorem dX5_hangUp_6 : decode cX5_hangUp 6 = .ok (.getfield 22, 3) := by decide +kernel
theorem dX5_hangUp_9 : decode cX5_hangUp 9 = .ok (.aload_n 0, 1) := by decide +kernel
theorem dX5_hangUp_10 : decode cX5_hangUp 10 = .ok (.getfield 10, 3) := by decide +kernel
theorem dX5_hangUp_13 : decode cX5_hangUp 13 = .ok (.invokevirtual 59, 3) := by decide +kernel
theorem dX5_hangUp_16 : decode cX5_hangUp 16 = .ok (.aload_n 0, 1) := by decide +kernel
theorem dX5_hangUp_17 : decode cX5_hangUp 17 = .ok (.getfield 10, 3) := by decide +kernel
theorem dX5_hangUp_20 : decode cX5_hangUp 20 = .ok (.iload_n 1, 1) := by decide +kernel
theorem dX5_hangUp_21 : decode cX5_hangUp 21 = .ok (.invokevirtual 175, 3) := by decide +kernel
theorem dX5_hangUp_24 : decode cX5_hangUp 24 = .ok (.ireturn, 1) := by decide +kernel
theorem dX5_offer_0 : decode cX5_offer 0 = .ok (.aload_n 0, 1) := by decide +kernel
theorem dX5_offer_1 : decode cX5_offer 1 = .ok (.iload_n 1, 1) := by decide +kernel
theorem dX5_offer_2 : decode cX5_offer 2 = .ok (.invokevirtual 106, 3) := by decide +kernel
theorem dX5_offer_5 : decode cX5_offer 5 = .ok (.iload_n 2, 1) := by decide +kernel
theorem dX5_offer_6 : decode cX5_offer 6 = .ok (.iconst 0, 1) := by decide +kernel
theorem dX5_offer_7 : decode cX5_offer 7 = .ok (.sipush 999, 3) := by decide +kernel
theorem dX5_offer_10 : decode cX5_offer 10 = .ok (.invokestatic 48, 3) := by decide +kernel
theorem dX5_offer_13 : decode cX5_offer 13 = .ok (.aload_n 0, 1) := by decide +kernel
theorem dX5_offer_14 : decode cX5_offer 14 = .ok (.getfield 10, 3) := by decide +kernel
theorem dX5_offer_17 : decode cX5_offer 17 = .ok (.iload_n 1, 1) := by decide +kernel
theorem dX5_offer_18 : decode cX5_offer 18 = .ok (.iconst 1, 1) := by decide +kernel
theorem dX5_offer_19 : decode cX5_offer 19 = .ok (.invokevirtual 112, 3) := by decide +kernel
theorem dX5_offer_22 : decode cX5_offer 22 = .ok (.istore_n 3, 1) := by decide +kernel
theorem dX5_offer_23 : decode cX5_offer 23 = .ok (.iload_n 3, 1) := by decide +kernel
theorem dX5_offer_24 : decode cX5_offer 24 = .ok (.iconst (-1), 1) := by decide +kernel
theorem dX5_offer_25 : decode cX5_offer 25 = .ok (.if_icmp .ne 13, 3) := by decide +kernel
theorem dX5_offer_28 : decode cX5_offer 28 = .ok (.new 155, 3) := by decide +kernel
theorem dX5_offer_31 : decode cX5_offer 31 = .ok (.dup, 1) := by decide +kernel
theorem dX5_offer_32 : decode cX5_offer 32 = .ok (.ldc 178, 2) := by decide +kernel
theorem dX5_offer_34 : decode cX5_offer 34 = .ok (.invokespecial 159, 3) := by decide +kernel
theorem dX5_offer_37 : decode cX5_offer 37 = .ok (.athrow, 1) := by decide +kernel
theorem dX5_offer_38 : decode cX5_offer 38 = .ok (.aload_n 0, 1) := by decide +kernel
theorem dX5_offer_39 : decode cX5_offer 39 = .ok (.getfield 22, 3) := by decide +kernel
theorem dX5_offer_42 : decode cX5_offer 42 = .ok (.aload_n 0, 1) := by decide +kernel
theorem dX5_offer_43 : decode cX5_offer 43 = .ok (.getfield 10, 3) := by decide +kernel
theorem dX5_offer_46 : decode cX5_offer 46 = .ok (.invokevirtual 59, 3) := by decide +kernel
theorem dX5_offer_49 : decode cX5_offer 49 = .ok (.aload_n 0, 1) := by decide +kernel
theorem dX5_offer_50 : decode cX5_offer 50 = .ok (.getfield 10, 3) := by decide +kernel
theorem dX5_offer_53 : decode cX5_offer 53 = .ok (.iload_n 3, 1) := by decide +kernel
theorem dX5_offer_54 : decode cX5_offer 54 = .ok (.aload_n 0, 1) := by decide +kernel
theorem dX5_offer_55 : decode cX5_offer 55 = .ok (.getfield 10, 3) := by decide +kernel
theorem dX5_offer_58 : decode cX5_offer 58 = .ok (.iload_n 3, 1) := by decide +kernel
theorem dX5_offer_59 : decode cX5_offer 59 = .ok (.iload_n 1, 1) := by decide +kernel
theorem dX5_offer_60 : decode cX5_offer 60 = .ok (.invokevirtual 180, 3) := by decide +kernel
theorem dX5_offer_63 : decode cX5_offer 63 = .ok (.iload_n 2, 1) := by decide +kernel
theorem dX5_offer_64 : decode cX5_offer 64 = .ok (.invokevirtual 183, 3) := by decide +kernel
theorem dX5_offer_67 : decode cX5_offer 67 = .ok (.ireturn, 1) := by decide +kernel
theorem dX5_setParty_0 : decode cX5_setParty 0 = .ok (.aload_n 0, 1) := by decide +kernel
theorem dX5_setParty_1 : decode cX5_setParty 1 = .ok (.iload_n 1, 1) := by decide +kernel
theorem dX5_setParty_2 : decode cX5_setParty 2 = .ok (.invokevirtual 106, 3) := by decide +kernel
theorem dX5_setParty_5 : decode cX5_setParty 5 = .ok (.iload_n 2, 1) := by decide +kernel
theorem dX5_setParty_6 : decode cX5_setParty 6 = .ok (.iconst 0, 1) := by decide +kernel
theorem dX5_setParty_7 : decode cX5_setParty 7 = .ok (.iconst 2, 1) := by decide +kernel
theorem dX5_setParty_8 : decode cX5_setParty 8 = .ok (.invokestatic 48, 3) := by decide +kernel
theorem dX5_setParty_11 : decode cX5_setParty 11 = .ok (.iload_n 3, 1) := by decide +kernel
theorem dX5_setParty_12 : decode cX5_setParty 12 = .ok (.iconst 0, 1) := by decide +kernel
theorem dX5_setParty_13 : decode cX5_setParty 13 = .ok (.iload_n 2, 1) := by decide +kernel
theorem dX5_setParty_14 : decode cX5_setParty 14 = .ok (.iconst 2, 1) := by decide +kernel
theorem dX5_setParty_15 : decode cX5_setParty 15 = .ok (.if_icmp .ne 9, 3) := by decide +kernel
theorem dX5_setParty_18 : decode cX5_setParty 18 = .ok (.sipush 999, 3) := by decide +kernel
theorem dX5_setParty_21 : decode cX5_setParty 21 = .ok (.goto 5, 3) := by decide +kernel
theorem dX5_setParty_24 : decode cX5_setParty 24 = .ok (.bipush 99, 2) := by decide +kernel
theorem dX5_setParty_26 : decode cX5_setParty 26 = .ok (.invokestatic 48, 3) := by decide +kernel
theorem dX5_setParty_29 : decode cX5_setParty 29 = .ok (.aload_n 0, 1) := by decide +kernel
theorem dX5_setParty_30 : decode cX5_setParty 30 = .ok (.getfield 22, 3) := by decide +kernel
theorem dX5_setParty_33 : decode cX5_setParty 33 = .ok (.aload_n 0, 1) := by decide +kernel
theorem dX5_setParty_34 : decode cX5_setParty 34 = .ok (.getfield 10, 3) := by decide +kernel
theorem dX5_setParty_37 : decode cX5_setParty 37 = .ok (.invokevirtual 59, 3) := by decide +kernel
theorem dX5_setParty_40 : decode cX5_setParty 40 = .ok (.aload_n 0, 1) := by decide +kernel
theorem dX5_setParty_41 : decode cX5_setParty 41 = .ok (.getfield 10, 3) := by decide +kernel
theorem dX5_setParty_44 : decode cX5_setParty 44 = .ok (.getfield 69, 3) := by decide +kernel
theorem dX5_setParty_47 : decode cX5_setParty 47 = .ok (.iload_n 1, 1) := by decide +kernel
theorem dX5_setParty_48 : decode cX5_setParty 48 = .ok (.iload_n 2, 1) := by decide +kernel
theorem dX5_setParty_49 : decode cX5_setParty 49 = .ok (.invokevirtual 119, 3) := by decide +kernel
theorem dX5_setParty_52 : decode cX5_setParty 52 = .ok (.istore 4, 2) := by decide +kernel
theorem dX5_setParty_54 : decode cX5_setParty 54 = .ok (.aload_n 0, 1) := by decide +kernel
theorem dX5_setParty_55 : decode cX5_setParty 55 = .ok (.getfield 10, 3) := by decide +kernel
theorem dX5_setParty_58 : decode cX5_setParty 58 = .ok (.getfield 69, 3) := by decide +kernel
theorem dX5_setParty_61 : decode cX5_setParty 61 = .ok (.iload_n 1, 1) := by decide +kernel
theorem dX5_setParty_62 : decode cX5_setParty 62 = .ok (.iload_n 2, 1) := by decide +kernel
theorem dX5_setParty_63 : decode cX5_setParty 63 = .ok (.iload_n 3, 1) := by decide +kernel
theorem dX5_setParty_64 : decode cX5_setParty 64 = .ok (.invokevirtual 186, 3) := by decide +kernel
theorem dX5_setParty_67 : decode cX5_setParty 67 = .ok (.iload 4, 2) := by decide +kernel
theorem dX5_setParty_69 : decode cX5_setParty 69 = .ok (.ireturn, 1) := by decide +kernel
theorem dX5_undo_0 : decode cX5_undo 0 = .ok (.aload_n 0, 1) := by decide +kernel
theorem dX5_undo_1 : decode cX5_undo 1 = .ok (.getfield 22, 3) := by decide +kernel
theorem dX5_undo_4 : decode cX5_undo 4 = .ok (.aload_n 0, 1) := by decide +kernel
theorem dX5_undo_5 : decode cX5_undo 5 = .ok (.getfield 10, 3) := by decide +kernel
theorem dX5_undo_8 : decode cX5_undo 8 = .ok (.invokevirtual 189, 3) := by decide +kernel
theorem dX5_undo_11 : decode cX5_undo 11 = .ok (.ireturn, 1) := by decide +kernel
theorem dX5_checksum_0 : decode cX5_checksum 0 = .ok (.aload_n 0, 1) := by decide +kernel
theorem dX5_checksum_1 : decode cX5_checksum 1 = .ok (.getfield 10, 3) := by decide +kernel
theorem dX5_checksum_4 : decode cX5_checksum 4 = .ok (.getfield 78, 3) := by decide +kernel
theorem dX5_checksum_7 : decode cX5_checksum 7 = .ok (.i2l, 1) := by decide +kernel
theorem dX5_checksum_8 : decode cX5_checksum 8 = .ok (.lstore_n 1, 1) := by decide +kernel
theorem dX5_checksum_9 : decode cX5_checksum 9 = .ok (.iconst 0, 1) := by decide +kernel
theorem dX5_checksum_10 : decode cX5_checksum 10 = .ok (.istore_n 3, 1) := by decide +kernel
theorem dX5_checksum_11 : decode cX5_checksum 11 = .ok (.iload_n 3, 1) := by decide +kernel
theorem dX5_checksum_12 : decode cX5_checksum 12 = .ok (.aload_n 0, 1) := by decide +kernel
theorem dX5_checksum_13 : decode cX5_checksum 13 = .ok (.getfield 10, 3) := by decide +kernel
theorem dX5_checksum_16 : decode cX5_checksum 16 = .ok (.getfield 69, 3) := by decide +kernel
theorem dX5_checksum_19 : decode cX5_checksum 19 = .ok (.getfield 73, 3) := by decide +kernel
theorem dX5_checksum_22 : decode cX5_checksum 22 = .ok (.if_icmp .ge 39, 3) := by decide +kernel
theorem dX5_checksum_25 : decode cX5_checksum 25 = .ok (.iconst 0, 1) := by decide +kernel
theorem dX5_checksum_26 : decode cX5_checksum 26 = .ok (.istore 4, 2) := by decide +kernel
theorem dX5_checksum_28 : decode cX5_checksum 28 = .ok (.iload 4, 2) := by decide +kernel
theorem dX5_checksum_30 : decode cX5_checksum 30 = .ok (.iconst 5, 1) := by decide +kernel
theorem dX5_checksum_31 : decode cX5_checksum 31 = .ok (.if_icmp .gt 24, 3) := by decide +kernel
theorem dX5_checksum_34 : decode cX5_checksum 34 = .ok (.ldc2_w 193, 3) := by decide +kernel
theorem dX5_checksum_37 : decode cX5_checksum 37 = .ok (.lload_n 1, 1) := by decide +kernel
theorem dX5_checksum_38 : decode cX5_checksum 38 = .ok (.lmul, 1) := by decide +kernel
theorem dX5_checksum_39 : decode cX5_checksum 39 = .ok (.aload_n 0, 1) := by decide +kernel
theorem dX5_checksum_40 : decode cX5_checksum 40 = .ok (.iload_n 3, 1) := by decide +kernel
theorem dX5_checksum_41 : decode cX5_checksum 41 = .ok (.iload 4, 2) := by decide +kernel
theorem dX5_checksum_43 : decode cX5_checksum 43 = .ok (.invokevirtual 195, 3) := by decide +kernel
theorem dX5_checksum_46 : decode cX5_checksum 46 = .ok (.i2l, 1) := by decide +kernel
theorem dX5_checksum_47 : decode cX5_checksum 47 = .ok (.ladd, 1) := by decide +kernel
theorem dX5_checksum_48 : decode cX5_checksum 48 = .ok (.lstore_n 1, 1) := by decide +kernel
theorem dX5_checksum_49 : decode cX5_checksum 49 = .ok (.iinc 4 1, 3) := by decide +kernel
theorem dX5_checksum_52 : decode cX5_checksum 52 = .ok (.goto (-24), 3) := by decide +kernel
theorem dX5_checksum_55 : decode cX5_checksum 55 = .ok (.iinc 3 1, 3) := by decide +kernel
theorem dX5_checksum_58 : decode cX5_checksum 58 = .ok (.goto (-47), 3) := by decide +kernel
theorem dX5_checksum_61 : decode cX5_checksum 61 = .ok (.iconst 0, 1) := by decide +kernel
theorem dX5_checksum_62 : decode cX5_checksum 62 = .ok (.istore_n 3, 1) := by decide +kernel
theorem dX5_checksum_63 : decode cX5_checksum 63 = .ok (.iload_n 3, 1) := by decide +kernel
theorem dX5_checksum_64 : decode cX5_checksum 64 = .ok (.aload_n 0, 1) := by decide +kernel
theorem dX5_checksum_65 : decode cX5_checksum 65 = .ok (.getfield 10, 3) := by decide +kernel
theorem dX5_checksum_68 : decode cX5_checksum 68 = .ok (.getfield 81, 3) := by decide +kernel
theorem dX5_checksum_71 : decode cX5_checksum 71 = .ok (.getfield 73, 3) := by decide +kernel
theorem dX5_checksum_74 : decode cX5_checksum 74 = .ok (.if_icmp .ge 39, 3) := by decide +kernel
theorem dX5_checksum_77 : decode cX5_checksum 77 = .ok (.iconst 0, 1) := by decide +kernel
theorem dX5_checksum_78 : decode cX5_checksum 78 = .ok (.istore 4, 2) := by decide +kernel
theorem dX5_checksum_80 : decode cX5_checksum 80 = .ok (.iload 4, 2) := by decide +kernel
theorem dX5_checksum_82 : decode cX5_checksum 82 = .ok (.iconst 5, 1) := by decide +kernel
theorem dX5_checksum_83 : decode cX5_checksum 83 = .ok (.if_icmp .gt 24, 3) := by decide +kernel
theorem dX5_checksum_86 : decode cX5_checksum 86 = .ok (.ldc2_w 193, 3) := by decide +kernel
theorem dX5_checksum_89 : decode cX5_checksum 89 = .ok (.lload_n 1, 1) := by decide +kernel
theorem dX5_checksum_90 : decode cX5_checksum 90 = .ok (.lmul, 1) := by decide +kernel
theorem dX5_checksum_91 : decode cX5_checksum 91 = .ok (.aload_n 0, 1) := by decide +kernel
theorem dX5_checksum_92 : decode cX5_checksum 92 = .ok (.iload_n 3, 1) := by decide +kernel
theorem dX5_checksum_93 : decode cX5_checksum 93 = .ok (.iload 4, 2) := by decide +kernel
theorem dX5_checksum_95 : decode cX5_checksum 95 = .ok (.invokevirtual 198, 3) := by decide +kernel
theorem dX5_checksum_98 : decode cX5_checksum 98 = .ok (.i2l, 1) := by decide +kernel
theorem dX5_checksum_99 : decode cX5_checksum 99 = .ok (.ladd, 1) := by decide +kernel
theorem dX5_checksum_100 : decode cX5_checksum 100 = .ok (.lstore_n 1, 1) := by decide +kernel
theorem dX5_checksum_101 : decode cX5_checksum 101 = .ok (.iinc 4 1, 3) := by decide +kernel
theorem dX5_checksum_104 : decode cX5_checksum 104 = .ok (.goto (-24), 3) := by decide +kernel
theorem dX5_checksum_107 : decode cX5_checksum 107 = .ok (.iinc 3 1, 3) := by decide +kernel
theorem dX5_checksum_110 : decode cX5_checksum 110 = .ok (.goto (-47), 3) := by decide +kernel
theorem dX5_checksum_113 : decode cX5_checksum 113 = .ok (.iconst 0, 1) := by decide +kernel
theorem dX5_checksum_114 : decode cX5_checksum 114 = .ok (.istore_n 3, 1) := by decide +kernel
theorem dX5_checksum_115 : decode cX5_checksum 115 = .ok (.iload_n 3, 1) := by decide +kernel
theorem dX5_checksum_116 : decode cX5_checksum 116 = .ok (.aload_n 0, 1) := by decide +kernel
theorem dX5_checksum_117 : decode cX5_checksum 117 = .ok (.getfield 10, 3) := by decide +kernel
theorem dX5_checksum_120 : decode cX5_checksum 120 = .ok (.getfield 84, 3) := by decide +kernel
theorem dX5_checksum_123 : decode cX5_checksum 123 = .ok (.getfield 73, 3) := by decide +kernel
theorem dX5_checksum_126 : decode cX5_checksum 126 = .ok (.if_icmp .ge 67, 3) := by decide +kernel
theorem dX5_checksum_129 : decode cX5_checksum 129 = .ok (.iconst 0, 1) := by decide +kernel
theorem dX5_checksum_130 : decode cX5_checksum 130 = .ok (.istore 4, 2) := by decide +kernel
theorem dX5_checksum_132 : decode cX5_checksum 132 = .ok (.iload 4, 2) := by decide +kernel
theorem dX5_checksum_134 : decode cX5_checksum 134 = .ok (.iconst 5, 1) := by decide +kernel
theorem dX5_checksum_135 : decode cX5_checksum 135 = .ok (.if_icmp .gt 24, 3) := by decide +kernel
theorem dX5_checksum_138 : decode cX5_checksum 138 = .ok (.ldc2_w 193, 3) := by decide +kernel
theorem dX5_checksum_141 : decode cX5_checksum 141 = .ok (.lload_n 1, 1) := by decide +kernel
theorem dX5_checksum_142 : decode cX5_checksum 142 = .ok (.lmul, 1) := by decide +kernel
theorem dX5_checksum_143 : decode cX5_checksum 143 = .ok (.aload_n 0, 1) := by decide +kernel
theorem dX5_checksum_144 : decode cX5_checksum 144 = .ok (.iload_n 3, 1) := by decide +kernel
theorem dX5_checksum_145 : decode cX5_checksum 145 = .ok (.iload 4, 2) := by decide +kernel
theorem dX5_checksum_147 : decode cX5_checksum 147 = .ok (.invokevirtual 201, 3) := by decide +kernel
theorem dX5_checksum_150 : decode cX5_checksum 150 = .ok (.i2l, 1) := by decide +kernel
theorem dX5_checksum_151 : decode cX5_checksum 151 = .ok (.ladd, 1) := by decide +kernel
theorem dX5_checksum_152 : decode cX5_checksum 152 = .ok (.lstore_n 1, 1) := by decide +kernel
theorem dX5_checksum_153 : decode cX5_checksum 153 = .ok (.iinc 4 1, 3) := by decide +kernel
theorem dX5_checksum_156 : decode cX5_checksum 156 = .ok (.goto (-24), 3) := by decide +kernel
theorem dX5_checksum_159 : decode cX5_checksum 159 = .ok (.ldc2_w 193, 3) := by decide +kernel
theorem dX5_checksum_162 : decode cX5_checksum 162 = .ok (.lload_n 1, 1) := by decide +kernel
theorem dX5_checksum_163 : decode cX5_checksum 163 = .ok (.lmul, 1) := by decide +kernel
theorem dX5_checksum_164 : decode cX5_checksum 164 = .ok (.aload_n 0, 1) := by decide +kernel
theorem dX5_checksum_165 : decode cX5_checksum 165 = .ok (.iload_n 3, 1) := by decide +kernel
theorem dX5_checksum_166 : decode cX5_checksum 166 = .ok (.iconst 0, 1) := by decide +kernel
theorem dX5_checksum_167 : decode cX5_checksum 167 = .ok (.invokevirtual 204, 3) := by decide +kernel
theorem dX5_checksum_170 : decode cX5_checksum 170 = .ok (.i2l, 1) := by decide +kernel
theorem dX5_checksum_171 : decode cX5_checksum 171 = .ok (.ladd, 1) := by decide +kernel
theorem dX5_checksum_172 : decode cX5_checksum 172 = .ok (.lstore_n 1, 1) := by decide +kernel
theorem dX5_checksum_173 : decode cX5_checksum 173 = .ok (.ldc2_w 193, 3) := by decide +kernel
theorem dX5_checksum_176 : decode cX5_checksum 176 = .ok (.lload_n 1, 1) := by decide +kernel
theorem dX5_checksum_177 : decode cX5_checksum 177 = .ok (.lmul, 1) := by decide +kernel
theorem dX5_checksum_178 : decode cX5_checksum 178 = .ok (.aload_n 0, 1) := by decide +kernel
theorem dX5_checksum_179 : decode cX5_checksum 179 = .ok (.iload_n 3, 1) := by decide +kernel
theorem dX5_checksum_180 : decode cX5_checksum 180 = .ok (.iconst 1, 1) := by decide +kernel
theorem dX5_checksum_181 : decode cX5_checksum 181 = .ok (.invokevirtual 204, 3) := by decide +kernel
theorem dX5_checksum_184 : decode cX5_checksum 184 = .ok (.i2l, 1) := by decide +kernel
theorem dX5_checksum_185 : decode cX5_checksum 185 = .ok (.ladd, 1) := by decide +kernel
theorem dX5_checksum_186 : decode cX5_checksum 186 = .ok (.lstore_n 1, 1) := by decide +kernel
theorem dX5_checksum_187 : decode cX5_checksum 187 = .ok (.iinc 3 1, 3) := by decide +kernel
theorem dX5_checksum_190 : decode cX5_checksum 190 = .ok (.goto (-75), 3) := by decide +kernel
theorem dX5_checksum_193 : decode cX5_checksum 193 = .ok (.iconst 0, 1) := by decide +kernel
theorem dX5_checksum_194 : decode cX5_checksum 194 = .ok (.istore_n 3, 1) := by decide +kernel
theorem dX5_checksum_195 : decode cX5_checksum 195 = .ok (.iload_n 3, 1) := by decide +kernel
theorem dX5_checksum_196 : decode cX5_checksum 196 = .ok (.bipush 7, 2) := by decide +kernel
theorem dX5_checksum_198 : decode cX5_checksum 198 = .ok (.if_icmp .ge 22, 3) := by decide +kernel
theorem dX5_checksum_201 : decode cX5_checksum 201 = .ok (.ldc2_w 193, 3) := by decide +kernel
theorem dX5_checksum_204 : decode cX5_checksum 204 = .ok (.lload_n 1, 1) := by decide +kernel
theorem dX5_checksum_205 : decode cX5_checksum 205 = .ok (.lmul, 1) := by decide +kernel
theorem dX5_checksum_206 : decode cX5_checksum 206 = .ok (.aload_n 0, 1) := by decide +kernel
theorem dX5_checksum_207 : decode cX5_checksum 207 = .ok (.iload_n 3, 1) := by decide +kernel
theorem dX5_checksum_208 : decode cX5_checksum 208 = .ok (.invokevirtual 207, 3) := by decide +kernel
theorem dX5_checksum_211 : decode cX5_checksum 211 = .ok (.i2l, 1) := by decide +kernel
theorem dX5_checksum_212 : decode cX5_checksum 212 = .ok (.ladd, 1) := by decide +kernel
theorem dX5_checksum_213 : decode cX5_checksum 213 = .ok (.lstore_n 1, 1) := by decide +kernel
theorem dX5_checksum_214 : decode cX5_checksum 214 = .ok (.iinc 3 1, 3) := by decide +kernel
theorem dX5_checksum_217 : decode cX5_checksum 217 = .ok (.goto (-22), 3) := by decide +kernel
theorem dX5_checksum_220 : decode cX5_checksum 220 = .ok (.lload_n 1, 1) := by decide +kernel
theorem dX5_checksum_221 : decode cX5_checksum 221 = .ok (.lreturn, 1) := by decide +kernel
theorem dX5_requireParty_0 : decode cX5_requireParty 0 = .ok (.aload_n 0, 1) := by decide +kernel
theorem dX5_requireParty_1 : decode cX5_requireParty 1 = .ok (.getfield 10, 3) := by decide +kernel
theorem dX5_requireParty_4 : decode cX5_requireParty 4 = .ok (.getfield 69, 3) := by decide +kernel
theorem dX5_requireParty_7 : decode cX5_requireParty 7 = .ok (.iload_n 1, 1) := by decide +kernel
theorem dX5_requireParty_8 : decode cX5_requireParty 8 = .ok (.invokevirtual 210, 3) := by decide +kernel
theorem dX5_requireParty_11 : decode cX5_requireParty 11 = .ok (.ifCond .ne 13, 3) := by decide +kernel
theorem dX5_requireParty_14 : decode cX5_requireParty 14 = .ok (.new 213, 3) := by decide +kernel
theorem dX5_requireParty_17 : decode cX5_requireParty 17 = .ok (.dup, 1) := by decide +kernel
theorem dX5_requireParty_18 : decode cX5_requireParty 18 = .ok (.ldc 215, 2) := by decide +kernel
theorem dX5_requireParty_20 : decode cX5_requireParty 20 = .ok (.invokespecial 217, 3) := by decide +kernel
theorem dX5_requireParty_23 : decode cX5_requireParty 23 = .ok (.athrow, 1) := by decide +kernel
theorem dX5_requireParty_24 : decode cX5_requireParty 24 = .ok (.return_, 1) := by decide +kernel
theorem dX5_requireCall_0 : decode cX5_requireCall 0 = .ok (.aload_n 0, 1) := by decide +kernel
theorem dX5_requireCall_1 : decode cX5_requireCall 1 = .ok (.getfield 10, 3) := by decide +kernel
theorem dX5_requireCall_4 : decode cX5_requireCall 4 = .ok (.getfield 81, 3) := by decide +kernel
theorem dX5_requireCall_7 : decode cX5_requireCall 7 = .ok (.iload_n 1, 1) := by decide +kernel
theorem dX5_requireCall_8 : decode cX5_requireCall 8 = .ok (.invokevirtual 210, 3) := by decide +kernel
theorem dX5_requireCall_11 : decode cX5_requireCall 11 = .ok (.ifCond .ne 13, 3) := by decide +kernel
theorem dX5_requireCall_14 : decode cX5_requireCall 14 = .ok (.new 213, 3) := by decide +kernel
theorem dX5_requireCall_17 : decode cX5_requireCall 17 = .ok (.dup, 1) := by decide +kernel
theorem dX5_requireCall_18 : decode cX5_requireCall 18 = .ok (.ldc 218, 2) := by decide +kernel
theorem dX5_requireCall_20 : decode cX5_requireCall 20 = .ok (.invokespecial 217, 3) := by decide +kernel
theorem dX5_requireCall_23 : decode cX5_requireCall 23 = .ok (.athrow, 1) := by decide +kernel
theorem dX5_requireCall_24 : decode cX5_requireCall 24 = .ok (.return_, 1) := by decide +kernel
theorem dX5_requireLeg_0 : decode cX5_requireLeg 0 = .ok (.aload_n 0, 1) := by decide +kernel
theorem dX5_requireLeg_1 : decode cX5_requireLeg 1 = .ok (.getfield 10, 3) := by decide +kernel
theorem dX5_requireLeg_4 : decode cX5_requireLeg 4 = .ok (.getfield 84, 3) := by decide +kernel
theorem dX5_requireLeg_7 : decode cX5_requireLeg 7 = .ok (.iload_n 1, 1) := by decide +kernel
theorem dX5_requireLeg_8 : decode cX5_requireLeg 8 = .ok (.invokevirtual 210, 3) := by decide +kernel
theorem dX5_requireLeg_11 : decode cX5_requireLeg 11 = .ok (.ifCond .ne 13, 3) := by decide +kernel
theorem dX5_requireLeg_14 : decode cX5_requireLeg 14 = .ok (.new 213, 3) := by decide +kernel
theorem dX5_requireLeg_17 : decode cX5_requireLeg 17 = .ok (.dup, 1) := by decide +kernel
theorem dX5_requireLeg_18 : decode cX5_requireLeg 18 = .ok (.ldc 220, 2) := by decide +kernel
theorem dX5_requireLeg_20 : decode cX5_requireLeg 20 = .ok (.invokespecial 217, 3) := by decide +kernel
theorem dX5_requireLeg_23 : decode cX5_requireLeg 23 = .ok (.athrow, 1) := by decide +kernel
theorem dX5_requireLeg_24 : decode cX5_requireLeg 24 = .ok (.return_, 1) := by decide +kernel
theorem dX5_requireRange_0 : decode cX5_requireRange 0 = .ok (.iload_n 0, 1) := by decide +kernel
theorem dX5_requireRange_1 : decode cX5_requireRange 1 = .ok (.iload_n 1, 1) := by decide +kernel
theorem dX5_requireRange_2 : decode cX5_requireRange 2 = .ok (.if_icmp .lt 8, 3) := by decide +kernel
theorem dX5_requireRange_5 : decode cX5_requireRange 5 = .ok (.iload_n 0, 1) := by decide +kernel
theorem dX5_requireRange_6 : decode cX5_requireRange 6 = .ok (.iload_n 2, 1) := by decide +kernel
theorem dX5_requireRange_7 : decode cX5_requireRange 7 = .ok (.if_icmp .le 13, 3) := by decide +kernel
theorem dX5_requireRange_10 : decode cX5_requireRange 10 = .ok (.new 99, 3) := by decide +kernel
theorem dX5_requireRange_13 : decode cX5_requireRange 13 = .ok (.dup, 1) := by decide +kernel
theorem dX5_requireRange_14 : decode cX5_requireRange 14 = .ok (.ldc 222, 2) := by decide +kernel
theorem dX5_requireRange_16 : decode cX5_requireRange 16 = .ok (.invokespecial 103, 3) := by decide +kernel
theorem dX5_requireRange_19 : decode cX5_requireRange 19 = .ok (.athrow, 1) := by decide +kernel
theorem dX5_requireRange_20 : decode cX5_requireRange 20 = .ok (.return_, 1) := by decide +kernel
theorem dX5_playUntilSettled_0 : decode cX5_playUntilSettled 0 = .ok (.aload_n 0, 1) := by decide +kernel
theorem dX5_playUntilSettled_1 : decode cX5_playUntilSettled 1 = .ok (.getfield 16, 3) := by decide +kernel
theorem dX5_playUntilSettled_4 : decode cX5_playUntilSettled 4 = .ok (.aload_n 0, 1) := by decide +kernel
theorem dX5_playUntilSettled_5 : decode cX5_playUntilSettled 5 = .ok (.getfield 10, 3) := by decide +kernel
theorem dX5_playUntilSettled_8 : decode cX5_playUntilSettled 8 = .ok (.invokevirtual 66, 3) := by decide +kernel
theorem dX5_playUntilSettled_11 : decode cX5_playUntilSettled 11 = .ok (.iconst 0, 1) := by decide +kernel
theorem dX5_playUntilSettled_12 : decode cX5_playUntilSettled 12 = .ok (.istore_n 2, 1) := by decide +kernel
theorem dX5_playUntilSettled_13 : decode cX5_playUntilSettled 13 = .ok (.iload_n 2, 1) := by decide +kernel
theorem dX5_playUntilSettled_14 : decode cX5_playUntilSettled 14 = .ok (.bipush 99, 2) := by decide +kernel
theorem dX5_playUntilSettled_16 : decode cX5_playUntilSettled 16 = .ok (.if_icmp .ge 27, 3) := by decide +kernel
theorem dX5_playUntilSettled_19 : decode cX5_playUntilSettled 19 = .ok (.aload_n 0, 1) := by decide +kernel
theorem dX5_playUntilSettled_20 : decode cX5_playUntilSettled 20 = .ok (.getfield 16, 3) := by decide +kernel
theorem dX5_playUntilSettled_23 : decode cX5_playUntilSettled 23 = .ok (.iload_n 1, 1) := by decide +kernel
theorem dX5_playUntilSettled_24 : decode cX5_playUntilSettled 24 = .ok (.invokevirtual 125, 3) := by decide +kernel
theorem dX5_playUntilSettled_27 : decode cX5_playUntilSettled 27 = .ok (.ifCond .eq 16, 3) := by decide +kernel
theorem dX5_playUntilSettled_30 : decode cX5_playUntilSettled 30 = .ok (.aload_n 0, 1) := by decide +kernel
theorem dX5_playUntilSettled_31 : decode cX5_playUntilSettled 31 = .ok (.getfield 16, 3) := by decide +kernel
theorem dX5_playUntilSettled_34 : decode cX5_playUntilSettled 34 = .ok (.invokevirtual 144, 3) := by decide +kernel
theorem dX5_playUntilSettled_37 : decode cX5_playUntilSettled 37 = .ok (.iinc 2 1, 3) := by decide +kernel
theorem dX5_playUntilSettled_40 : decode cX5_playUntilSettled 40 = .ok (.goto (-27), 3) := by decide +kernel
theorem dX5_playUntilSettled_43 : decode cX5_playUntilSettled 43 = .ok (.iload_n 2, 1) := by decide +kernel
theorem dX5_playUntilSettled_44 : decode cX5_playUntilSettled 44 = .ok (.ireturn, 1) := by decide +kernel
theorem dX5_limit_0 : decode cX5_limit 0 = .ok (.lload_n 0, 1) := by decide +kernel
theorem dX5_limit_1 : decode cX5_limit 1 = .ok (.iload_n 2, 1) := by decide +kernel
theorem dX5_limit_2 : decode cX5_limit 2 = .ok (.i2l, 1) := by decide +kernel
theorem dX5_limit_3 : decode cX5_limit 3 = .ok (.lcmp, 1) := by decide +kernel
theorem dX5_limit_4 : decode cX5_limit 4 = .ok (.ifCond .ge 5, 3) := by decide +kernel
theorem dX5_limit_7 : decode cX5_limit 7 = .ok (.iload_n 2, 1) := by decide +kernel
theorem dX5_limit_8 : decode cX5_limit 8 = .ok (.ireturn, 1) := by decide +kernel
theorem dX5_limit_9 : decode cX5_limit 9 = .ok (.lload_n 0, 1) := by decide +kernel
theorem dX5_limit_10 : decode cX5_limit 10 = .ok (.iload_n 3, 1) := by decide +kernel
theorem dX5_limit_11 : decode cX5_limit 11 = .ok (.i2l, 1) := by decide +kernel
theorem dX5_limit_12 : decode cX5_limit 12 = .ok (.lcmp, 1) := by decide +kernel
theorem dX5_limit_13 : decode cX5_limit 13 = .ok (.ifCond .le 7, 3) := by decide +kernel
theorem dX5_limit_16 : decode cX5_limit 16 = .ok (.iload_n 3, 1) := by decide +kernel
theorem dX5_limit_17 : decode cX5_limit 17 = .ok (.goto 5, 3) := by decide +kernel
theorem dX5_limit_20 : decode cX5_limit 20 = .ok (.lload_n 0, 1) := by decide +kernel
theorem dX5_limit_21 : decode cX5_limit 21 = .ok (.l2i, 1) := by decide +kernel
theorem dX5_limit_22 : decode cX5_limit 22 = .ok (.ireturn, 1) := by decide +kernel
end
section
theorem dX6_init_0 : decode cX6_init 0 = .ok (.aload_n 0, 1) := by decide +kernel
theorem dX6_init_1 : decode cX6_init 1 = .ok (.invokespecial 3, 3) := by decide +kernel
theorem dX6_init_4 : decode cX6_init 4 = .ok (.aload_n 0, 1) := by decide +kernel
theorem dX6_init_5 : decode cX6_init 5 = .ok (.sipush 600, 3) := by decide +kernel
theorem dX6_init_8 : decode cX6_init 8 = .ok (.newarray .int, 2) := by decide +kernel
theorem dX6_init_10 : decode cX6_init 10 = .ok (.putfield 9, 3) := by decide +kernel
theorem dX6_init_13 : decode cX6_init 13 = .ok (.aload_n 0, 1) := by decide +kernel
theorem dX6_init_14 : decode cX6_init 14 = .ok (.iconst (-1), 1) := by decide +kernel
theorem dX6_init_15 : decode cX6_init 15 = .ok (.putfield 13, 3) := by decide +kernel
theorem dX6_init_18 : decode cX6_init 18 = .ok (.aload_n 0, 1) := by decide +kernel
theorem dX6_init_19 : decode cX6_init 19 = .ok (.sipush 1666, 3) := by decide +kernel
theorem dX6_init_22 : decode cX6_init 22 = .ok (.newarray .int, 2) := by decide +kernel
theorem dX6_init_24 : decode cX6_init 24 = .ok (.putfield 17, 3) := by decide +kernel
theorem dX6_init_27 : decode cX6_init 27 = .ok (.aload_n 0, 1) := by decide +kernel
theorem dX6_init_28 : decode cX6_init 28 = .ok (.sipush 1666, 3) := by decide +kernel
theorem dX6_init_31 : decode cX6_init 31 = .ok (.newarray .int, 2) := by decide +kernel
theorem dX6_init_33 : decode cX6_init 33 = .ok (.putfield 20, 3) := by decide +kernel
theorem dX6_init_36 : decode cX6_init 36 = .ok (.aload_n 0, 1) := by decide +kernel
theorem dX6_init_37 : decode cX6_init 37 = .ok (.sipush 1666, 3) := by decide +kernel
theorem dX6_init_40 : decode cX6_init 40 = .ok (.newarray .int, 2) := by decide +kernel
theorem dX6_init_42 : decode cX6_init 42 = .ok (.putfield 23, 3) := by decide +kernel
theorem dX6_init_45 : decode cX6_init 45 = .ok (.aload_n 0, 1) := by decide +kernel
theorem dX6_init_46 : decode cX6_init 46 = .ok (.bipush 8, 2) := by decide +kernel
theorem dX6_init_48 : decode cX6_init 48 = .ok (.sipush 1666, 3) := by decide +kernel
theorem dX6_init_51 : decode cX6_init 51 = .ok (.multianewarray 26 2, 4) := by decide +kernel
theorem dX6_init_55 : decode cX6_init 55 = .ok (.putfield 28, 3) := by decide +kernel
theorem dX6_init_58 : decode cX6_init 58 = .ok (.aload_n 0, 1) := by decide +kernel
theorem dX6_init_59 : decode cX6_init 59 = .ok (.sipush 1000, 3) := by decide +kernel
theorem dX6_init_62 : decode cX6_init 62 = .ok (.newarray .long, 2) := by decide +kernel
theorem dX6_init_64 : decode cX6_init 64 = .ok (.putfield 31, 3) := by decide +kernel
theorem dX6_init_67 : decode cX6_init 67 = .ok (.aload_n 0, 1) := by decide +kernel
theorem dX6_init_68 : decode cX6_init 68 = .ok (.getfield 17, 3) := by decide +kernel
theorem dX6_init_71 : decode cX6_init 71 = .ok (.invokestatic 35, 3) := by decide +kernel
theorem dX6_init_74 : decode cX6_init 74 = .ok (.return_, 1) := by decide +kernel
theorem dX6_thrown_0 : decode cX6_thrown 0 = .ok (.aload_n 0, 1) := by decide +kernel
theorem dX6_thrown_1 : decode cX6_thrown 1 = .ok (.getfield 39, 3) := by decide +kernel
theorem dX6_thrown_4 : decode cX6_thrown 4 = .ok (.ireturn, 1) := by decide +kernel
theorem dX6_fails_0 : decode cX6_fails 0 = .ok (.iload_n 1, 1) := by decide +kernel
theorem dX6_fails_1 : decode cX6_fails 1 = .ok (.ifCond .eq 15, 3) := by decide +kernel
theorem dX6_fails_4 : decode cX6_fails 4 = .ok (.aload_n 0, 1) := by decide +kernel
theorem dX6_fails_5 : decode cX6_fails 5 = .ok (.getfield 39, 3) := by decide +kernel
theorem dX6_fails_8 : decode cX6_fails 8 = .ok (.ifCond .ne 8, 3) := by decide +kernel
theorem dX6_fails_11 : decode cX6_fails 11 = .ok (.aload_n 0, 1) := by decide +kernel
theorem dX6_fails_12 : decode cX6_fails 12 = .ok (.iload_n 2, 1) := by decide +kernel
theorem dX6_fails_13 : decode cX6_fails 13 = .ok (.putfield 39, 3) := by decide +kernel
theorem dX6_fails_16 : decode cX6_fails 16 = .ok (.aload_n 0, 1) := by decide +kernel
theorem dX6_fails_17 : decode cX6_fails 17 = .ok (.getfield 39, 3) := by decide +kernel
theorem dX6_fails_20 : decode cX6_fails 20 = .ok (.ifCond .eq 7, 3) := by decide +kernel
theorem dX6_fails_23 : decode cX6_fails 23 = .ok (.iconst 1, 1) := by decide +kernel
theorem dX6_fails_24 : decode cX6_fails 24 = .ok (.goto 4, 3) := by decide +kernel
theorem dX6_fails_27 : decode cX6_fails 27 = .ok (.iconst 0, 1) := by decide +kernel
theorem dX6_fails_28 : decode cX6_fails 28 = .ok (.ireturn, 1) := by decide +kernel
theorem dX6_in_0 : decode cX6_in 0 = .ok (.iload_n 0, 1) := by decide +kernel
theorem dX6_in_1 : decode cX6_in 1 = .ok (.iload_n 1, 1) := by decide +kernel
theorem dX6_in_2 : decode cX6_in 2 = .ok (.if_icmp .lt 12, 3) := by decide +kernel
theorem dX6_in_5 : decode cX6_in 5 = .ok (.iload_n 0, 1) := by decide +kernel
theorem dX6_in_6 : decode cX6_in 6 = .ok (.iload_n 2, 1) := by decide +kernel
theorem dX6_in_7 : decode cX6_in 7 = .ok (.if_icmp .gt 7, 3) := by decide +kernel
theorem dX6_in_10 : decode cX6_in 10 = .ok (.iconst 1, 1) := by decide +kernel
theorem dX6_in_11 : decode cX6_in 11 = .ok (.goto 4, 3) := by decide +kernel
theorem dX6_in_14 : decode cX6_in 14 = .ok (.iconst 0, 1) := by decide +kernel
theorem dX6_in_15 : decode cX6_in 15 = .ok (.ireturn, 1) := by decide +kernel
theorem dX6_min_0 : decode cX6_min 0 = .ok (.iload_n 0, 1) := by decide +kernel
theorem dX6_min_1 : decode cX6_min 1 = .ok (.iload_n 1, 1) := by decide +kernel
theorem dX6_min_2 : decode cX6_min 2 = .ok (.if_icmp .ge 7, 3) := by decide +kernel
theorem dX6_min_5 : decode cX6_min 5 = .ok (.iload_n 0, 1) := by decide +kernel
theorem dX6_min_6 : decode cX6_min 6 = .ok (.goto 4, 3) := by decide +kernel
theorem dX6_min_9 : decode cX6_min 9 = .ok (.iload_n 1, 1) := by decide +kernel
theorem dX6_min_10 : decode cX6_min 10 = .ok (.ireturn, 1) := by decide +kernel
theorem dX6_copy_0 : decode cX6_copy 0 = .ok (.iconst 0, 1) := by decide +kernel
theorem dX6_copy_1 : decode cX6_copy 1 = .ok (.istore_n 2, 1) := by decide +kernel
theorem dX6_copy_2 : decode cX6_copy 2 = .ok (.iload_n 2, 1) := by decide +kernel
theorem dX6_copy_3 : decode cX6_copy 3 = .ok (.sipush 1666, 3) := by decide +kernel
theorem dX6_copy_6 : decode cX6_copy 6 = .ok (.if_icmp .ge 15, 3) := by decide +kernel
theorem dX6_copy_9 : decode cX6_copy 9 = .ok (.aload_n 1, 1) := by decide +kernel
theorem dX6_copy_10 : decode cX6_copy 10 = .ok (.iload_n 2, 1) := by decide +kernel
theorem dX6_copy_11 : decode cX6_copy 11 = .ok (.aload_n 0, 1) := by decide +kernel
theorem dX6_copy_12 : decode cX6_copy 12 = .ok (.iload_n 2, 1) := by decide +kernel
theorem dX6_copy_13 : decode cX6_copy 13 = .ok (.iaload, 1) := by decide +kernel
theorem dX6_copy_14 : decode cX6_copy 14 = .ok (.iastore, 1) := by decide +kernel
theorem dX6_copy_15 : decode cX6_copy 15 = .ok (.iinc 2 1, 3) := by decide +kernel
theorem dX6_copy_18 : decode cX6_copy 18 = .ok (.goto (-16), 3) := by decide +kernel
theorem dX6_copy_21 : decode cX6_copy 21 = .ok (.return_, 1) := by decide +kernel
theorem dX6_layUsual_0 : decode cX6_layUsual 0 = .ok (.iconst 0, 1) := by decide +kernel
theorem dX6_layUsual_1 : decode cX6_layUsual 1 = .ok (.istore_n 1, 1) := by decide +kernel
theorem dX6_layUsual_2 : decode cX6_layUsual 2 = .ok (.iload_n 1, 1) := by decide +kernel
theorem dX6_layUsual_3 : decode cX6_layUsual 3 = .ok (.sipush 1666, 3) := by decide +kernel
theorem dX6_layUsual_6 : decode cX6_layUsual 6 = .ok (.if_icmp .ge 13, 3) := by decide +kernel
theorem dX6_layUsual_9 : decode cX6_layUsual 9 = .ok (.aload_n 0, 1) := by decide +kernel
theorem dX6_layUsual_10 : decode cX6_layUsual 10 = .ok (.iload_n 1, 1) := by decide +kernel
theorem dX6_layUsual_11 : decode cX6_layUsual 11 = .ok (.iconst 0, 1) := by decide +kernel
theorem dX6_layUsual_12 : decode cX6_layUsual 12 = .ok (.iastore, 1) := by decide +kernel
theorem dX6_layUsual_13 : decode cX6_layUsual 13 = .ok (.iinc 1 1, 3) := by decide +kernel
theorem dX6_layUsual_16 : decode cX6_layUsual 16 = .ok (.goto (-14), 3) := by decide +kernel
theorem dX6_layUsual_19 : decode cX6_layUsual 19 = .ok (.aload_n 0, 1) := by decide +kernel
theorem dX6_layUsual_20 : decode cX6_layUsual 20 = .ok (.iconst 1, 1) := by decide +kernel
theorem dX6_layUsual_21 : decode cX6_layUsual 21 = .ok (.iconst 3, 1) := by decide +kernel
theorem dX6_layUsual_22 : decode cX6_layUsual 22 = .ok (.iastore, 1) := by decide +kernel
theorem dX6_layUsual_23 : decode cX6_layUsual 23 = .ok (.aload_n 0, 1) := by decide +kernel
theorem dX6_layUsual_24 : decode cX6_layUsual 24 = .ok (.iconst 2, 1) := by decide +kernel
theorem dX6_layUsual_25 : decode cX6_layUsual 25 = .ok (.iconst 5, 1) := by decide +kernel
theorem dX6_layUsual_26 : decode cX6_layUsual 26 = .ok (.iastore, 1) := by decide +kernel
theorem dX6_layUsual_27 : decode cX6_layUsual 27 = .ok (.aload_n 0, 1) := by decide +kernel
theorem dX6_layUsual_28 : decode cX6_layUsual 28 = .ok (.iconst 3, 1) := by decide +kernel
theorem dX6_layUsual_29 : decode cX6_layUsual 29 = .ok (.bipush 20, 2) := by decide +kernel
theorem dX6_layUsual_31 : decode cX6_layUsual 31 = .ok (.iastore, 1) := by decide +kernel
theorem dX6_layUsual_32 : decode cX6_layUsual 32 = .ok (.return_, 1) := by decide +kernel
theorem dX6_append_0 : decode cX6_append 0 = .ok (.aload_n 0, 1) := by decide +kernel
theorem dX6_append_1 : decode cX6_append 1 = .ok (.iconst 0, 1) := by decide +kernel
theorem dX6_append_2 : decode cX6_append 2 = .ok (.putfield 39, 3) := by decide +kernel
theorem dX6_append_5 : decode cX6_append 5 = .ok (.aload_n 0, 1) := by decide +kernel
theorem dX6_append_6 : decode cX6_append 6 = .ok (.getfield 42, 3) := by decide +kernel
theorem dX6_append_9 : decode cX6_append 9 = .ok (.bipush 20, 2) := by decide +kernel
theorem dX6_append_11 : decode cX6_append 11 = .ok (.iadd, 1) := by decide +kernel
theorem dX6_append_12 : decode cX6_append 12 = .ok (.sipush 600, 3) := by decide +kernel
theorem dX6_append_15 : decode cX6_append 15 = .ok (.if_icmp .le 5, 3) := by decide +kernel
theorem dX6_append_18 : decode cX6_append 18 = .ok (.iconst (-1), 1) := by decide +kernel
theorem dX6_append_19 : decode cX6_append 19 = .ok (.ireturn, 1) := by decide +kernel
theorem dX6_append_20 : decode cX6_append 20 = .ok (.iconst 0, 1) := by decide +kernel
theorem dX6_append_21 : decode cX6_append 21 = .ok (.istore 6, 2) := by decide +kernel
theorem dX6_append_23 : decode cX6_append 23 = .ok (.iload 6, 2) := by decide +kernel
theorem dX6_append_25 : decode cX6_append 25 = .ok (.bipush 20, 2) := by decide +kernel
theorem dX6_append_27 : decode cX6_append 27 = .ok (.if_icmp .ge 93, 3) := by decide +kernel
theorem dX6_append_30 : decode cX6_append 30 = .ok (.iload 6, 2) := by decide +kernel
theorem dX6_append_32 : decode cX6_append 32 = .ok (.iconst 4, 1) := by decide +kernel
theorem dX6_append_33 : decode cX6_append 33 = .ok (.if_icmp .ge 7, 3) := by decide +kernel
theorem dX6_append_36 : decode cX6_append 36 = .ok (.iload_n 1, 1) := by decide +kernel
theorem dX6_append_37 : decode cX6_append 37 = .ok (.goto 39, 3) := by decide +kernel
theorem dX6_append_40 : decode cX6_append 40 = .ok (.iload 6, 2) := by decide +kernel
theorem dX6_append_42 : decode cX6_append 42 = .ok (.bipush 8, 2) := by decide +kernel
theorem dX6_append_44 : decode cX6_append 44 = .ok (.if_icmp .ge 7, 3) := by decide +kernel
theorem dX6_append_47 : decode cX6_append 47 = .ok (.iload_n 2, 1) := by decide +kernel
theorem dX6_append_48 : decode cX6_append 48 = .ok (.goto 28, 3) := by decide +kernel
theorem dX6_append_51 : decode cX6_append 51 = .ok (.iload 6, 2) := by decide +kernel
theorem dX6_append_53 : decode cX6_append 53 = .ok (.bipush 12, 2) := by decide +kernel
theorem dX6_append_55 : decode cX6_append 55 = .ok (.if_icmp .ge 7, 3) := by decide +kernel
theorem dX6_append_58 : decode cX6_append 58 = .ok (.iload_n 3, 1) := by decide +kernel
theorem dX6_append_59 : decode cX6_append 59 = .ok (.goto 17, 3) := by decide +kernel
theorem dX6_append_62 : decode cX6_append 62 = .ok (.iload 6, 2) := by decide +kernel
theorem dX6_append_64 : decode cX6_append 64 = .ok (.bipush 16, 2) := by decide +kernel
theorem dX6_append_66 : decode cX6_append 66 = .ok (.if_icmp .ge 8, 3) := by decide +kernel
theorem dX6_append_69 : decode cX6_append 69 = .ok (.iload 4, 2) := by decide +kernel
theorem dX6_append_71 : decode cX6_append 71 = .ok (.goto 5, 3) := by decide +kernel
theorem dX6_append_74 : decode cX6_append 74 = .ok (.iload 5, 2) := by decide +kernel
theorem dX6_append_76 : decode cX6_append 76 = .ok (.istore 7, 2) := by decide +kernel
theorem dX6_append_78 : decode cX6_append 78 = .ok (.aload_n 0, 1) := by decide +kernel
theorem dX6_append_79 : decode cX6_append 79 = .ok (.getfield 9, 3) := by decide +kernel
theorem dX6_append_82 : decode cX6_append 82 = .ok (.aload_n 0, 1) := by decide +kernel
theorem dX6_append_83 : decode cX6_append 83 = .ok (.getfield 42, 3) := by decide +kernel
theorem dX6_append_86 : decode cX6_append 86 = .ok (.iload 7, 2) := by decide +kernel
theorem dX6_append_88 : decode cX6_append 88 = .ok (.bipush 24, 2) := by decide +kernel
theorem dX6_append_90 : decode cX6_append 90 = .ok (.bipush 8, 2) := by decide +kernel
theorem dX6_append_92 : decode cX6_append 92 = .ok (.iload 6, 2) := by decide +kernel
theorem dX6_append_94 : decode cX6_append 94 = .ok (.iconst 4, 1) := by decide +kernel
theorem dX6_append_95 : decode cX6_append 95 = .ok (.irem, 1) := by decide +kernel
theorem dX6_append_96 : decode cX6_append 96 = .ok (.imul, 1) := by decide +kernel
theorem dX6_append_97 : decode cX6_append 97 = .ok (.isub, 1) := by decide +kernel
theorem dX6_append_98 : decode cX6_append 98 = .ok (.ishr, 1) := by decide +kernel
theorem dX6_append_99 : decode cX6_append 99 = .ok (.sipush 255, 3) := by decide +kernel
theorem dX6_append_102 : decode cX6_append 102 = .ok (.iand, 1) := by decide +kernel
theorem dX6_append_103 : decode cX6_append 103 = .ok (.iastore, 1) := by decide +kernel
theorem dX6_append_104 : decode cX6_append 104 = .ok (.aload_n 0, 1) := by decide +kernel
theorem dX6_append_105 : decode cX6_append 105 = .ok (.dup, 1) := by decide +kernel
theorem dX6_append_106 : decode cX6_append 106 = .ok (.getfield 42, 3) := by decide +kernel
theorem dX6_append_109 : decode cX6_append 109 = .ok (.iconst 1, 1) := by decide +kernel
theorem dX6_append_110 : decode cX6_append 110 = .ok (.iadd, 1) := by decide +kernel
theorem dX6_append_111 : decode cX6_append 111 = .ok (.putfield 42, 3) := by decide +kernel
theorem dX6_append_114 : decode cX6_append 114 = .ok (.iinc 6 1, 3) := by decide +kernel
theorem dX6_append_117 : decode cX6_append 117 = .ok (.goto (-94), 3) := by decide +kernel
theorem dX6_append_120 : decode cX6_append 120 = .ok (.aload_n 0, 1) := by decide +kernel
theorem dX6_append_121 : decode cX6_append 121 = .ok (.getfield 42, 3) := by decide +kernel
theorem dX6_append_124 : decode cX6_append 124 = .ok (.ireturn, 1) := by decide +kernel
theorem dX6_byteAt_0 : decode cX6_byteAt 0 = .ok (.iload_n 1, 1) := by decide +kernel
theorem dX6_byteAt_1 : decode cX6_byteAt 1 = .ok (.aload_n 0, 1) := by decide +kernel
theorem dX6_byteAt_2 : decode cX6_byteAt 2 = .ok (.getfield 45, 3) := by decide +kernel
theorem dX6_byteAt_5 : decode cX6_byteAt 5 = .ok (.if_icmp .ge 12, 3) := by decide +kernel
theorem dX6_byteAt_8 : decode cX6_byteAt 8 = .ok (.aload_n 0, 1) := by decide +kernel
theorem dX6_byteAt_9 : decode cX6_byteAt 9 = .ok (.getfield 9, 3) := by decide +kernel
theorem dX6_byteAt_12 : decode cX6_byteAt 12 = .ok (.iload_n 1, 1) := by decide +kernel
theorem dX6_byteAt_13 : decode cX6_byteAt 13 = .ok (.iaload, 1) := by decide +kernel
theorem dX6_byteAt_14 : decode cX6_byteAt 14 = .ok (.goto 4, 3) := by decide +kernel
theorem dX6_byteAt_17 : decode cX6_byteAt 17 = .ok (.iconst (-1), 1) := by decide +kernel
theorem dX6_byteAt_18 : decode cX6_byteAt 18 = .ok (.ireturn, 1) := by decide +kernel
theorem dX6_next_0 : decode cX6_next 0 = .ok (.aload_n 0, 1) := by decide +kernel
theorem dX6_next_1 : decode cX6_next 1 = .ok (.aload_n 0, 1) := by decide +kernel
theorem dX6_next_2 : decode cX6_next 2 = .ok (.getfield 48, 3) := by decide +kernel
theorem dX6_next_5 : decode cX6_next 5 = .ok (.invokevirtual 51, 3) := by decide +kernel
theorem dX6_next_8 : decode cX6_next 8 = .ok (.bipush 32, 2) := by decide +kernel
theorem dX6_next_10 : decode cX6_next 10 = .ok (.if_icmp .ne 16, 3) := by decide +kernel
theorem dX6_next_13 : decode cX6_next 13 = .ok (.aload_n 0, 1) := by decide +kernel
theorem dX6_next_14 : decode cX6_next 14 = .ok (.dup, 1) := by decide +kernel
theorem dX6_next_15 : decode cX6_next 15 = .ok (.getfield 48, 3) := by decide +kernel
theorem dX6_next_18 : decode cX6_next 18 = .ok (.iconst 1, 1) := by decide +kernel
theorem dX6_next_19 : decode cX6_next 19 = .ok (.iadd, 1) := by decide +kernel
theorem dX6_next_20 : decode cX6_next 20 = .ok (.putfield 48, 3) := by decide +kernel
theorem dX6_next_23 : decode cX6_next 23 = .ok (.goto (-23), 3) := by decide +kernel
theorem dX6_next_26 : decode cX6_next 26 = .ok (.aload_n 0, 1) := by decide +kernel
theorem dX6_next_27 : decode cX6_next 27 = .ok (.aload_n 0, 1) := by decide +kernel
theorem dX6_next_28 : decode cX6_next 28 = .ok (.getfield 48, 3) := by decide +kernel
theorem dX6_next_31 : decode cX6_next 31 = .ok (.invokevirtual 51, 3) := by decide +kernel
theorem dX6_next_34 : decode cX6_next 34 = .ok (.ireturn, 1) := by decide +kernel
theorem dX6_isGood_0 : decode cX6_isGood 0 = .ok (.aload_n 0, 1) := by decide +kernel
theorem dX6_isGood_1 : decode cX6_isGood 1 = .ok (.getfield 55, 3) := by decide +kernel
theorem dX6_isGood_4 : decode cX6_isGood 4 = .ok (.ifCond .ne 7, 3) := by decide +kernel
theorem dX6_isGood_7 : decode cX6_isGood 7 = .ok (.iconst 1, 1) := by decide +kernel
theorem dX6_isGood_8 : decode cX6_isGood 8 = .ok (.goto 4, 3) := by decide +kernel
theorem dX6_isGood_11 : decode cX6_isGood 11 = .ok (.iconst 0, 1) := by decide +kernel
theorem dX6_isGood_12 : decode cX6_isGood 12 = .ok (.ireturn, 1) := by decide +kernel
theorem dX6_report_0 : decode cX6_report 0 = .ok (.aload_n 0, 1) := by decide +kernel
theorem dX6_report_1 : decode cX6_report 1 = .ok (.getfield 55, 3) := by decide +kernel
theorem dX6_report_4 : decode cX6_report 4 = .ok (.ifCond .eq 4, 3) := by decide +kernel
theorem dX6_report_7 : decode cX6_report 7 = .ok (.return_, 1) := by decide +kernel
theorem dX6_report_8 : decode cX6_report 8 = .ok (.aload_n 0, 1) := by decide +kernel
theorem dX6_report_9 : decode cX6_report 9 = .ok (.iload_n 1, 1) := by decide +kernel
theorem dX6_report_10 : decode cX6_report 10 = .ok (.putfield 55, 3) := by decide +kernel
theorem dX6_report_13 : decode cX6_report 13 = .ok (.aload_n 0, 1) := by decide +kernel
theorem dX6_report_14 : decode cX6_report 14 = .ok (.iload_n 2, 1) := by decide +kernel
theorem dX6_report_15 : decode cX6_report 15 = .ok (.putfield 58, 3) := by decide +kernel
theorem dX6_report_18 : decode cX6_report 18 = .ok (.return_, 1) := by decide +kernel
theorem dX6_isDigit_0 : decode cX6_isDigit 0 = .ok (.iload_n 0, 1) := by decide +kernel
theorem dX6_isDigit_1 : decode cX6_isDigit 1 = .ok (.bipush 48, 2) := by decide +kernel
theorem dX6_isDigit_3 : decode cX6_isDigit 3 = .ok (.bipush 57, 2) := by decide +kernel
theorem dX6_isDigit_5 : decode cX6_isDigit 5 = .ok (.invokestatic 61, 3) := by decide +kernel
theorem dX6_isDigit_8 : decode cX6_isDigit 8 = .ok (.ireturn, 1) := by decide +kernel
theorem dX6_takeWord_0 : decode cX6_takeWord 0 = .ok (.aload_n 0, 1) := by decide +kernel
theorem dX6_takeWord_1 : decode cX6_takeWord 1 = .ok (.invokevirtual 65, 3) := by decide +kernel
theorem dX6_takeWord_4 : decode cX6_takeWord 4 = .ok (.ifCond .ne 5, 3) := by decide +kernel
theorem dX6_takeWord_7 : decode cX6_takeWord 7 = .ok (.iconst 0, 1) := by decide +kernel
theorem dX6_takeWord_8 : decode cX6_takeWord 8 = .ok (.ireturn, 1) := by decide +kernel
theorem dX6_takeWord_9 : decode cX6_takeWord 9 = .ok (.aload_n 0, 1) := by decide +kernel
theorem dX6_takeWord_10 : decode cX6_takeWord 10 = .ok (.invokevirtual 69, 3) := by decide +kernel
theorem dX6_takeWord_13 : decode cX6_takeWord 13 = .ok (.pop, 1) := by decide +kernel
theorem dX6_takeWord_14 : decode cX6_takeWord 14 = .ok (.iconst 0, 1) := by decide +kernel
theorem dX6_takeWord_15 : decode cX6_takeWord 15 = .ok (.istore_n 2, 1) := by decide +kernel
theorem dX6_takeWord_16 : decode cX6_takeWord 16 = .ok (.iload_n 2, 1) := by decide +kernel
theorem dX6_takeWord_17 : decode cX6_takeWord 17 = .ok (.aload_n 1, 1) := by decide +kernel
theorem dX6_takeWord_18 : decode cX6_takeWord 18 = .ok (.invokevirtual 73, 3) := by decide +kernel
theorem dX6_takeWord_21 : decode cX6_takeWord 21 = .ok (.if_icmp .ge 27, 3) := by decide +kernel
theorem dX6_takeWord_24 : decode cX6_takeWord 24 = .ok (.aload_n 0, 1) := by decide +kernel
theorem dX6_takeWord_25 : decode cX6_takeWord 25 = .ok (.aload_n 0, 1) := by decide +kernel
theorem dX6_takeWord_26 : decode cX6_takeWord 26 = .ok (.getfield 48, 3) := by decide +kernel
theorem dX6_takeWord_29 : decode cX6_takeWord 29 = .ok (.iload_n 2, 1) := by decide +kernel
theorem dX6_takeWord_30 : decode cX6_takeWord 30 = .ok (.iadd, 1) := by decide +kernel
theorem dX6_takeWord_31 : decode cX6_takeWord 31 = .ok (.invokevirtual 51, 3) := by decide +kernel
theorem dX6_takeWord_34 : decode cX6_takeWord 34 = .ok (.aload_n 1, 1) := by decide +kernel
theorem dX6_takeWord_35 : decode cX6_takeWord 35 = .ok (.iload_n 2, 1) := by decide +kernel
theorem dX6_takeWord_36 : decode cX6_takeWord 36 = .ok (.invokevirtual 78, 3) := by decide +kernel
theorem dX6_takeWord_39 : decode cX6_takeWord 39 = .ok (.if_icmp .ne 9, 3) := by decide +kernel
theorem dX6_takeWord_42 : decode cX6_takeWord 42 = .ok (.iinc 2 1, 3) := by decide +kernel
theorem dX6_takeWord_45 : decode cX6_takeWord 45 = .ok (.goto (-29), 3) := by decide +kernel
theorem dX6_takeWord_48 : decode cX6_takeWord 48 = .ok (.iload_n 2, 1) := by decide +kernel
theorem dX6_takeWord_49 : decode cX6_takeWord 49 = .ok (.aload_n 1, 1) := by decide +kernel
theorem dX6_takeWord_50 : decode cX6_takeWord 50 = .ok (.invokevirtual 73, 3) := by decide +kernel
theorem dX6_takeWord_53 : decode cX6_takeWord 53 = .ok (.if_icmp .lt 23, 3) := by decide +kernel
theorem dX6_takeWord_56 : decode cX6_takeWord 56 = .ok (.aload_n 0, 1) := by decide +kernel
theorem dX6_takeWord_57 : decode cX6_takeWord 57 = .ok (.aload_n 0, 1) := by decide +kernel
theorem dX6_takeWord_58 : decode cX6_takeWord 58 = .ok (.getfield 48, 3) := by decide +kernel
theorem dX6_takeWord_61 : decode cX6_takeWord 61 = .ok (.iload_n 2, 1) := by decide +kernel
theorem dX6_takeWord_62 : decode cX6_takeWord 62 = .ok (.iadd, 1) := by decide +kernel
theorem dX6_takeWord_63 : decode cX6_takeWord 63 = .ok (.invokevirtual 51, 3) := by decide +kernel
theorem dX6_takeWord_66 : decode cX6_takeWord 66 = .ok (.bipush 97, 2) := by decide +kernel
theorem dX6_takeWord_68 : decode cX6_takeWord 68 = .ok (.bipush 122, 2) := by decide +kernel
theorem dX6_takeWord_70 : decode cX6_takeWord 70 = .ok (.invokestatic 61, 3) := by decide +kernel
theorem dX6_takeWord_73 : decode cX6_takeWord 73 = .ok (.ifCond .eq 5, 3) := by decide +kernel
theorem dX6_takeWord_76 : decode cX6_takeWord 76 = .ok (.iconst 0, 1) := by decide +kernel
theorem dX6_takeWord_77 : decode cX6_takeWord 77 = .ok (.ireturn, 1) := by decide +kernel
theorem dX6_takeWord_78 : decode cX6_takeWord 78 = .ok (.aload_n 0, 1) := by decide +kernel
theorem dX6_takeWord_79 : decode cX6_takeWord 79 = .ok (.dup, 1) := by decide +kernel
theorem dX6_takeWord_80 : decode cX6_takeWord 80 = .ok (.getfield 48, 3) := by decide +kernel
theorem dX6_takeWord_83 : decode cX6_takeWord 83 = .ok (.iload_n 2, 1) := by decide +kernel
theorem dX6_takeWord_84 : decode cX6_takeWord 84 = .ok (.iadd, 1) := by decide +kernel
theorem dX6_takeWord_85 : decode cX6_takeWord 85 = .ok (.putfield 48, 3) := by decide +kernel
theorem dX6_takeWord_88 : decode cX6_takeWord 88 = .ok (.iconst 1, 1) := by decide +kernel
theorem dX6_takeWord_89 : decode cX6_takeWord 89 = .ok (.ireturn, 1) := by decide +kernel
theorem dX6_expect_0 : decode cX6_expect 0 = .ok (.aload_n 0, 1) := by decide +kernel
theorem dX6_expect_1 : decode cX6_expect 1 = .ok (.invokevirtual 65, 3) := by decide +kernel
theorem dX6_expect_4 : decode cX6_expect 4 = .ok (.ifCond .ne 4, 3) := by decide +kernel
theorem dX6_expect_7 : decode cX6_expect 7 = .ok (.return_, 1) := by decide +kernel
theorem dX6_expect_8 : decode cX6_expect 8 = .ok (.aload_n 0, 1) := by decide +kernel
theorem dX6_expect_9 : decode cX6_expect 9 = .ok (.invokevirtual 69, 3) := by decide +kernel
theorem dX6_expect_12 : decode cX6_expect 12 = .ok (.iload_n 1, 1) := by decide +kernel
theorem dX6_expect_13 : decode cX6_expect 13 = .ok (.if_icmp .ne 16, 3) := by decide +kernel
theorem dX6_expect_16 : decode cX6_expect 16 = .ok (.aload_n 0, 1) := by decide +kernel
theorem dX6_expect_17 : decode cX6_expect 17 = .ok (.dup, 1) := by decide +kernel
theorem dX6_expect_18 : decode cX6_expect 18 = .ok (.getfield 48, 3) := by decide +kernel
theorem dX6_expect_21 : decode cX6_expect 21 = .ok (.iconst 1, 1) := by decide +kernel
theorem dX6_expect_22 : decode cX6_expect 22 = .ok (.iadd, 1) := by decide +kernel
theorem dX6_expect_23 : decode cX6_expect 23 = .ok (.putfield 48, 3) := by decide +kernel
theorem dX6_expect_26 : decode cX6_expect 26 = .ok (.goto 13, 3) := by decide +kernel
theorem dX6_expect_29 : decode cX6_expect 29 = .ok (.aload_n 0, 1) := by decide +kernel
theorem dX6_expect_30 : decode cX6_expect 30 = .ok (.bipush (-2), 2) := by decide +kernel
theorem dX6_expect_32 : decode cX6_expect 32 = .ok (.aload_n 0, 1) := by decide +kernel
theorem dX6_expect_33 : decode cX6_expect 33 = .ok (.getfield 48, 3) := by decide +kernel
theorem dX6_expect_36 : decode cX6_expect 36 = .ok (.invokevirtual 82, 3) := by decide +kernel
theorem dX6_expect_39 : decode cX6_expect 39 = .ok (.return_, 1) := by decide +kernel
theorem dX6_number_0 : decode cX6_number 0 = .ok (.aload_n 0, 1) := by decide +kernel
theorem dX6_number_1 : decode cX6_number 1 = .ok (.invokevirtual 65, 3) := by decide +kernel
theorem dX6_number_4 : decode cX6_number 4 = .ok (.ifCond .ne 5, 3) := by decide +kernel
theorem dX6_number_7 : decode cX6_number 7 = .ok (.iconst 0, 1) := by decide +kernel
theorem dX6_number_8 : decode cX6_number 8 = .ok (.ireturn, 1) := by decide +kernel
theorem dX6_number_9 : decode cX6_number 9 = .ok (.aload_n 0, 1) := by decide +kernel
theorem dX6_number_10 : decode cX6_number 10 = .ok (.invokevirtual 69, 3) := by decide +kernel
theorem dX6_number_13 : decode cX6_number 13 = .ok (.invokestatic 86, 3) := by decide +kernel
theorem dX6_number_16 : decode cX6_number 16 = .ok (.ifCond .ne 15, 3) := by decide +kernel
theorem dX6_number_19 : decode cX6_number 19 = .ok (.aload_n 0, 1) := by decide +kernel
theorem dX6_number_20 : decode cX6_number 20 = .ok (.bipush (-2), 2) := by decide +kernel
theorem dX6_number_22 : decode cX6_number 22 = .ok (.aload_n 0, 1) := by decide +kernel
theorem dX6_number_23 : decode cX6_number 23 = .ok (.getfield 48, 3) := by decide +kernel
theorem dX6_number_26 : decode cX6_number 26 = .ok (.invokevirtual 82, 3) := by decide +kernel
theorem dX6_number_29 : decode cX6_number 29 = .ok (.iconst 0, 1) := by decide +kernel
theorem dX6_number_30 : decode cX6_number 30 = .ok (.ireturn, 1) := by decide +kernel
theorem dX6_number_31 : decode cX6_number 31 = .ok (.aload_n 0, 1) := by decide +kernel
theorem dX6_number_32 : decode cX6_number 32 = .ok (.aload_n 0, 1) := by decide +kernel
theorem dX6_number_33 : decode cX6_number 33 = .ok (.getfield 48, 3) := by decide +kernel
theorem dX6_number_36 : decode cX6_number 36 = .ok (.putfield 90, 3) := by decide +kernel
theorem dX6_number_39 : decode cX6_number 39 = .ok (.iconst 0, 1) := by decide +kernel
theorem dX6_number_40 : decode cX6_number 40 = .ok (.istore_n 3, 1) := by decide +kernel
theorem dX6_number_41 : decode cX6_number 41 = .ok (.aload_n 0, 1) := by decide +kernel
theorem dX6_number_42 : decode cX6_number 42 = .ok (.aload_n 0, 1) := by decide +kernel
theorem dX6_number_43 : decode cX6_number 43 = .ok (.getfield 48, 3) := by decide +kernel
theorem dX6_number_46 : decode cX6_number 46 = .ok (.invokevirtual 51, 3) := by decide +kernel
theorem dX6_number_49 : decode cX6_number 49 = .ok (.invokestatic 86, 3) := by decide +kernel
theorem dX6_number_52 : decode cX6_number 52 = .ok (.ifCond .eq 38, 3) := by decide +kernel
theorem dX6_number_55 : decode cX6_number 55 = .ok (.ldc 93, 2) := by decide +kernel
theorem dX6_number_57 : decode cX6_number 57 = .ok (.bipush 10, 2) := by decide +kernel
theorem dX6_number_59 : decode cX6_number 59 = .ok (.iload_n 3, 1) := by decide +kernel
theorem dX6_number_60 : decode cX6_number 60 = .ok (.imul, 1) := by decide +kernel
theorem dX6_number_61 : decode cX6_number 61 = .ok (.aload_n 0, 1) := by decide +kernel
theorem dX6_number_62 : decode cX6_number 62 = .ok (.aload_n 0, 1) := by decide +kernel
theorem dX6_number_63 : decode cX6_number 63 = .ok (.getfield 48, 3) := by decide +kernel
theorem dX6_number_66 : decode cX6_number 66 = .ok (.invokevirtual 51, 3) := by decide +kernel
theorem dX6_number_69 : decode cX6_number 69 = .ok (.iadd, 1) := by decide +kernel
theorem dX6_number_70 : decode cX6_number 70 = .ok (.bipush 48, 2) := by decide +kernel
theorem dX6_number_72 : decode cX6_number 72 = .ok (.isub, 1) := by decide +kernel
theorem dX6_number_73 : decode cX6_number 73 = .ok (.invokestatic 94, 3) := by decide +kernel
theorem dX6_number_76 : decode cX6_number 76 = .ok (.istore_n 3, 1) := by decide +kernel
theorem dX6_number_77 : decode cX6_number 77 = .ok (.aload_n 0, 1) := by decide +kernel
theorem dX6_number_78 : decode cX6_number 78 = .ok (.dup, 1) := by decide +kernel
theorem dX6_number_79 : decode cX6_number 79 = .ok (.getfield 48, 3) := by decide +kernel
theorem dX6_number_82 : decode cX6_number 82 = .ok (.iconst 1, 1) := by decide +kernel
theorem dX6_number_83 : decode cX6_number 83 = .ok (.iadd, 1) := by decide +kernel
theorem dX6_number_84 : decode cX6_number 84 = .ok (.putfield 48, 3) := by decide +kernel
theorem dX6_number_87 : decode cX6_number 87 = .ok (.goto (-46), 3) := by decide +kernel
theorem dX6_number_90 : decode cX6_number 90 = .ok (.iload_n 3, 1) := by decide +kernel
theorem dX6_number_91 : decode cX6_number 91 = .ok (.iload_n 1, 1) := by decide +kernel
theorem dX6_number_92 : decode cX6_number 92 = .ok (.iload_n 2, 1) := by decide +kernel
theorem dX6_number_93 : decode cX6_number 93 = .ok (.invokestatic 61, 3) := by decide +kernel
theorem dX6_number_96 : decode cX6_number 96 = .ok (.ifCond .ne 13, 3) := by decide +kernel
theorem dX6_number_99 : decode cX6_number 99 = .ok (.aload_n 0, 1) := by decide +kernel
theorem dX6_number_100 : decode cX6_number 100 = .ok (.bipush (-3), 2) := by decide +kernel
theorem dX6_number_102 : decode cX6_number 102 = .ok (.aload_n 0, 1) := by decide +kernel
theorem dX6_number_103 : decode cX6_number 103 = .ok (.getfield 90, 3) := by decide +kernel
theorem dX6_number_106 : decode cX6_number 106 = .ok (.invokevirtual 82, 3) := by decide +kernel
theorem dX6_number_109 : decode cX6_number 109 = .ok (.iload_n 3, 1) := by decide +kernel
theorem dX6_number_110 : decode cX6_number 110 = .ok (.ireturn, 1) := by decide +kernel
theorem dX6_emit_0 : decode cX6_emit 0 = .ok (.aload_n 0, 1) := by decide +kernel
theorem dX6_emit_1 : decode cX6_emit 1 = .ok (.invokevirtual 65, 3) := by decide +kernel
theorem dX6_emit_4 : decode cX6_emit 4 = .ok (.ifCond .ne 4, 3) := by decide +kernel
theorem dX6_emit_7 : decode cX6_emit 7 = .ok (.return_, 1) := by decide +kernel
theorem dX6_emit_8 : decode cX6_emit 8 = .ok (.aload_n 0, 1) := by decide +kernel
theorem dX6_emit_9 : decode cX6_emit 9 = .ok (.getfield 20, 3) := by decide +kernel
theorem dX6_emit_12 : decode cX6_emit 12 = .ok (.sipush 666, 3) := by decide +kernel
theorem dX6_emit_15 : decode cX6_emit 15 = .ok (.aload_n 0, 1) := by decide +kernel
theorem dX6_emit_16 : decode cX6_emit 16 = .ok (.getfield 20, 3) := by decide +kernel
theorem dX6_emit_19 : decode cX6_emit 19 = .ok (.bipush 8, 2) := by decide +kernel
theorem dX6_emit_21 : decode cX6_emit 21 = .ok (.iaload, 1) := by decide +kernel
theorem dX6_emit_22 : decode cX6_emit 22 = .ok (.iadd, 1) := by decide +kernel
theorem dX6_emit_23 : decode cX6_emit 23 = .ok (.iload_n 1, 1) := by decide +kernel
theorem dX6_emit_24 : decode cX6_emit 24 = .ok (.iastore, 1) := by decide +kernel
theorem dX6_emit_25 : decode cX6_emit 25 = .ok (.aload_n 0, 1) := by decide +kernel
theorem dX6_emit_26 : decode cX6_emit 26 = .ok (.getfield 20, 3) := by decide +kernel
theorem dX6_emit_29 : decode cX6_emit 29 = .ok (.bipush 8, 2) := by decide +kernel
theorem dX6_emit_31 : decode cX6_emit 31 = .ok (.dup2, 1) := by decide +kernel
theorem dX6_emit_32 : decode cX6_emit 32 = .ok (.iaload, 1) := by decide +kernel
theorem dX6_emit_33 : decode cX6_emit 33 = .ok (.iconst 1, 1) := by decide +kernel
theorem dX6_emit_34 : decode cX6_emit 34 = .ok (.iadd, 1) := by decide +kernel
theorem dX6_emit_35 : decode cX6_emit 35 = .ok (.iastore, 1) := by decide +kernel
theorem dX6_emit_36 : decode cX6_emit 36 = .ok (.return_, 1) := by decide +kernel
theorem dX6_factor_0 : decode cX6_factor 0 = .ok (.aload_n 0, 1) := by decide +kernel
theorem dX6_factor_1 : decode cX6_factor 1 = .ok (.invokevirtual 65, 3) := by decide +kernel
theorem dX6_factor_4 : decode cX6_factor 4 = .ok (.ifCond .ne 4, 3) := by decide +kernel
theorem dX6_factor_7 : decode cX6_factor 7 = .ok (.return_, 1) := by decide +kernel
theorem dX6_factor_8 : decode cX6_factor 8 = .ok (.aload_n 0, 1) := by decide +kernel
theorem dX6_factor_9 : decode cX6_factor 9 = .ok (.invokevirtual 69, 3) := by decide +kernel
theorem dX6_factor_12 : decode cX6_factor 12 = .ok (.istore_n 1, 1) := by decide +kernel
theorem dX6_factor_13 : decode cX6_factor 13 = .ok (.iload_n 1, 1) := by decide +kernel
theorem dX6_factor_14 : decode cX6_factor 14 = .ok (.bipush 40, 2) := by decide +kernel
theorem dX6_factor_16 : decode cX6_factor 16 = .ok (.if_icmp .ne 62, 3) := by decide +kernel
theorem dX6_factor_19 : decode cX6_factor 19 = .ok (.aload_n 0, 1) := by decide +kernel
theorem dX6_factor_20 : decode cX6_factor 20 = .ok (.getfield 98, 3) := by decide +kernel
theorem dX6_factor_23 : decode cX6_factor 23 = .ok (.iconst 4, 1) := by decide +kernel
theorem dX6_factor_24 : decode cX6_factor 24 = .ok (.if_icmp .ne 13, 3) := by decide +kernel
theorem dX6_factor_27 : decode cX6_factor 27 = .ok (.aload_n 0, 1) := by decide +kernel
theorem dX6_factor_28 : decode cX6_factor 28 = .ok (.bipush (-5), 2) := by decide +kernel
theorem dX6_factor_30 : decode cX6_factor 30 = .ok (.aload_n 0, 1) := by decide +kernel
theorem dX6_factor_31 : decode cX6_factor 31 = .ok (.getfield 48, 3) := by decide +kernel
theorem dX6_factor_34 : decode cX6_factor 34 = .ok (.invokevirtual 82, 3) := by decide +kernel
theorem dX6_factor_37 : decode cX6_factor 37 = .ok (.aload_n 0, 1) := by decide +kernel
theorem dX6_factor_38 : decode cX6_factor 38 = .ok (.dup, 1) := by decide +kernel
theorem dX6_factor_39 : decode cX6_factor 39 = .ok (.getfield 48, 3) := by decide +kernel
theorem dX6_factor_42 : decode cX6_factor 42 = .ok (.iconst 1, 1) := by decide +kernel
theorem dX6_factor_43 : decode cX6_factor 43 = .ok (.iadd, 1) := by decide +kernel
theorem dX6_factor_44 : decode cX6_factor 44 = .ok (.putfield 48, 3) := by decide +kernel
theorem dX6_factor_47 : decode cX6_factor 47 = .ok (.aload_n 0, 1) := by decide +kernel
theorem dX6_factor_48 : decode cX6_factor 48 = .ok (.dup, 1) := by decide +kernel
theorem dX6_factor_49 : decode cX6_factor 49 = .ok (.getfield 98, 3) := by decide +kernel
theorem dX6_factor_52 : decode cX6_factor 52 = .ok (.iconst 1, 1) := by decide +kernel
theorem dX6_factor_53 : decode cX6_factor 53 = .ok (.iadd, 1) := by decide +kernel
theorem dX6_factor_54 : decode cX6_factor 54 = .ok (.putfield 98, 3) := by decide +kernel
theorem dX6_factor_57 : decode cX6_factor 57 = .ok (.aload_n 0, 1) := by decide +kernel
theorem dX6_factor_58 : decode cX6_factor 58 = .ok (.invokevirtual 101, 3) := by decide +kernel
theorem dX6_factor_61 : decode cX6_factor 61 = .ok (.aload_n 0, 1) := by decide +kernel
theorem dX6_factor_62 : decode cX6_factor 62 = .ok (.bipush 41, 2) := by decide +kernel
theorem dX6_factor_64 : decode cX6_factor 64 = .ok (.invokevirtual 104, 3) := by decide +kernel
theorem dX6_factor_67 : decode cX6_factor 67 = .ok (.aload_n 0, 1) := by decide +kernel
theorem dX6_factor_68 : decode cX6_factor 68 = .ok (.dup, 1) := by decide +kernel
theorem dX6_factor_69 : decode cX6_factor 69 = .ok (.getfield 98, 3) := by decide +kernel
theorem dX6_factor_72 : decode cX6_factor 72 = .ok (.iconst 1, 1) := by decide +kernel
theorem dX6_factor_73 : decode cX6_factor 73 = .ok (.isub, 1) := by decide +kernel
theorem dX6_factor_74 : decode cX6_factor 74 = .ok (.putfield 98, 3) := by decide +kernel
theorem dX6_factor_77 : decode cX6_factor 77 = .ok (.return_, 1) := by decide +kernel
theorem dX6_factor_78 : decode cX6_factor 78 = .ok (.iload_n 1, 1) := by decide +kernel
theorem dX6_factor_79 : decode cX6_factor 79 = .ok (.invokestatic 86, 3) := by decide +kernel
theorem dX6_factor_82 : decode cX6_factor 82 = .ok (.ifCond .eq 7, 3) := by decide +kernel
theorem dX6_factor_85 : decode cX6_factor 85 = .ok (.iconst (-1), 1) := by decide +kernel
theorem dX6_factor_86 : decode cX6_factor 86 = .ok (.goto 56, 3) := by decide +kernel
theorem dX6_factor_89 : decode cX6_factor 89 = .ok (.aload_n 0, 1) := by decide +kernel
theorem dX6_factor_90 : decode cX6_factor 90 = .ok (.ldc 108, 2) := by decide +kernel
theorem dX6_factor_92 : decode cX6_factor 92 = .ok (.invokevirtual 110, 3) := by decide +kernel
theorem dX6_factor_95 : decode cX6_factor 95 = .ok (.ifCond .eq 7, 3) := by decide +kernel
theorem dX6_factor_98 : decode cX6_factor 98 = .ok (.iconst 0, 1) := by decide +kernel
theorem dX6_factor_99 : decode cX6_factor 99 = .ok (.goto 43, 3) := by decide +kernel
theorem dX6_factor_102 : decode cX6_factor 102 = .ok (.aload_n 0, 1) := by decide +kernel
theorem dX6_factor_103 : decode cX6_factor 103 = .ok (.ldc 114, 2) := by decide +kernel
theorem dX6_factor_105 : decode cX6_factor 105 = .ok (.invokevirtual 110, 3) := by decide +kernel
theorem dX6_factor_108 : decode cX6_factor 108 = .ok (.ifCond .eq 7, 3) := by decide +kernel
theorem dX6_factor_111 : decode cX6_factor 111 = .ok (.iconst 1, 1) := by decide +kernel
theorem dX6_factor_112 : decode cX6_factor 112 = .ok (.goto 30, 3) := by decide +kernel
theorem dX6_factor_115 : decode cX6_factor 115 = .ok (.aload_n 0, 1) := by decide +kernel
theorem dX6_factor_116 : decode cX6_factor 116 = .ok (.ldc 116, 2) := by decide +kernel
theorem dX6_factor_118 : decode cX6_factor 118 = .ok (.invokevirtual 110, 3) := by decide +kernel
theorem dX6_factor_121 : decode cX6_factor 121 = .ok (.ifCond .eq 7, 3) := by decide +kernel
theorem dX6_factor_124 : decode cX6_factor 124 = .ok (.iconst 2, 1) := by decide +kernel
theorem dX6_factor_125 : decode cX6_factor 125 = .ok (.goto 17, 3) := by decide +kernel
theorem dX6_factor_128 : decode cX6_factor 128 = .ok (.aload_n 0, 1) := by decide +kernel
theorem dX6_factor_129 : decode cX6_factor 129 = .ok (.ldc 118, 2) := by decide +kernel
theorem dX6_factor_131 : decode cX6_factor 131 = .ok (.invokevirtual 110, 3) := by decide +kernel
theorem dX6_factor_134 : decode cX6_factor 134 = .ok (.ifCond .eq 7, 3) := by decide +kernel
theorem dX6_factor_137 : decode cX6_factor 137 = .ok (.iconst 3, 1) := by decide +kernel
theorem dX6_factor_138 : decode cX6_factor 138 = .ok (.goto 4, 3) := by decide +kernel
theorem dX6_factor_141 : decode cX6_factor 141 = .ok (.iconst (-1), 1) := by decide +kernel
theorem dX6_factor_142 : decode cX6_factor 142 = .ok (.istore_n 2, 1) := by decide +kernel
theorem dX6_factor_143 : decode cX6_factor 143 = .ok (.iload_n 2, 1) := by decide +kernel
theorem dX6_factor_144 : decode cX6_factor 144 = .ok (.ifCond .ge 14, 3) := by decide +kernel
theorem dX6_factor_147 : decode cX6_factor 147 = .ok (.aload_n 0, 1) := by decide +kernel
theorem dX6_factor_148 : decode cX6_factor 148 = .ok (.iconst 0, 1) := by decide +kernel
theorem dX6_factor_149 : decode cX6_factor 149 = .ok (.sipush 9999, 3) := by decide +kernel
theorem dX6_factor_152 : decode cX6_factor 152 = .ok (.invokevirtual 120, 3) := by decide +kernel
theorem dX6_factor_155 : decode cX6_factor 155 = .ok (.goto 4, 3) := by decide +kernel
theorem dX6_factor_158 : decode cX6_factor 158 = .ok (.iload_n 2, 1) := by decide +kernel
theorem dX6_factor_159 : decode cX6_factor 159 = .ok (.istore_n 3, 1) := by decide +kernel
theorem dX6_factor_160 : decode cX6_factor 160 = .ok (.aload_n 0, 1) := by decide +kernel
theorem dX6_factor_161 : decode cX6_factor 161 = .ok (.iload_n 2, 1) := by decide +kernel
theorem dX6_factor_162 : decode cX6_factor 162 = .ok (.ifCond .ge 7, 3) := by decide +kernel
theorem dX6_factor_165 : decode cX6_factor 165 = .ok (.iconst 0, 1) := by decide +kernel
theorem dX6_factor_166 : decode cX6_factor 166 = .ok (.goto 4, 3) := by decide +kernel
theorem dX6_factor_169 : decode cX6_factor 169 = .ok (.iconst 1, 1) := by decide +kernel
theorem dX6_factor_170 : decode cX6_factor 170 = .ok (.invokevirtual 123, 3) := by decide +kernel
theorem dX6_factor_173 : decode cX6_factor 173 = .ok (.aload_n 0, 1) := by decide +kernel
theorem dX6_factor_174 : decode cX6_factor 174 = .ok (.iload_n 3, 1) := by decide +kernel
theorem dX6_factor_175 : decode cX6_factor 175 = .ok (.invokevirtual 123, 3) := by decide +kernel
theorem dX6_factor_178 : decode cX6_factor 178 = .ok (.return_, 1) := by decide +kernel
theorem dX6_term_0 : decode cX6_term 0 = .ok (.aload_n 0, 1) := by decide +kernel
theorem dX6_term_1 : decode cX6_term 1 = .ok (.invokevirtual 126, 3) := by decide +kernel
theorem dX6_term_4 : decode cX6_term 4 = .ok (.aload_n 0, 1) := by decide +kernel
theorem dX6_term_5 : decode cX6_term 5 = .ok (.invokevirtual 65, 3) := by decide +kernel
theorem dX6_term_8 : decode cX6_term 8 = .ok (.ifCond .eq 66, 3) := by decide +kernel
theorem dX6_term_11 : decode cX6_term 11 = .ok (.aload_n 0, 1) := by decide +kernel
theorem dX6_term_12 : decode cX6_term 12 = .ok (.invokevirtual 69, 3) := by decide +kernel
theorem dX6_term_15 : decode cX6_term 15 = .ok (.bipush 42, 2) := by decide +kernel
theorem dX6_term_17 : decode cX6_term 17 = .ok (.if_icmp .eq 12, 3) := by decide +kernel
theorem dX6_term_20 : decode cX6_term 20 = .ok (.aload_n 0, 1) := by decide +kernel
theorem dX6_term_21 : decode cX6_term 21 = .ok (.invokevirtual 69, 3) := by decide +kernel
theorem dX6_term_24 : decode cX6_term 24 = .ok (.bipush 47, 2) := by decide +kernel
theorem dX6_term_26 : decode cX6_term 26 = .ok (.if_icmp .ne 48, 3) := by decide +kernel
theorem dX6_term_29 : decode cX6_term 29 = .ok (.aload_n 0, 1) := by decide +kernel
theorem dX6_term_30 : decode cX6_term 30 = .ok (.invokevirtual 69, 3) := by decide +kernel
theorem dX6_term_33 : decode cX6_term 33 = .ok (.bipush 42, 2) := by decide +kernel
theorem dX6_term_35 : decode cX6_term 35 = .ok (.if_icmp .ne 7, 3) := by decide +kernel
theorem dX6_term_38 : decode cX6_term 38 = .ok (.iconst 1, 1) := by decide +kernel
theorem dX6_term_39 : decode cX6_term 39 = .ok (.goto 4, 3) := by decide +kernel
theorem dX6_term_42 : decode cX6_term 42 = .ok (.iconst 0, 1) := by decide +kernel
theorem dX6_term_43 : decode cX6_term 43 = .ok (.istore_n 1, 1) := by decide +kernel
theorem dX6_term_44 : decode cX6_term 44 = .ok (.aload_n 0, 1) := by decide +kernel
theorem dX6_term_45 : decode cX6_term 45 = .ok (.dup, 1) := by decide +kernel
theorem dX6_term_46 : decode cX6_term 46 = .ok (.getfield 48, 3) := by decide +kernel
theorem dX6_term_49 : decode cX6_term 49 = .ok (.iconst 1, 1) := by decide +kernel
theorem dX6_term_50 : decode cX6_term 50 = .ok (.iadd, 1) := by decide +kernel
theorem dX6_term_51 : decode cX6_term 51 = .ok (.putfield 48, 3) := by decide +kernel
theorem dX6_term_54 : decode cX6_term 54 = .ok (.aload_n 0, 1) := by decide +kernel
theorem dX6_term_55 : decode cX6_term 55 = .ok (.invokevirtual 126, 3) := by decide +kernel
theorem dX6_term_58 : decode cX6_term 58 = .ok (.aload_n 0, 1) := by decide +kernel
theorem dX6_term_59 : decode cX6_term 59 = .ok (.iload_n 1, 1) := by decide +kernel
theorem dX6_term_60 : decode cX6_term 60 = .ok (.ifCond .eq 7, 3) := by decide +kernel
theorem dX6_term_63 : decode cX6_term 63 = .ok (.iconst 4, 1) := by decide +kernel
theorem dX6_term_64 : decode cX6_term 64 = .ok (.goto 4, 3) := by decide +kernel
theorem dX6_term_67 : decode cX6_term 67 = .ok (.iconst 5, 1) := by decide +kernel
theorem dX6_term_68 : decode cX6_term 68 = .ok (.invokevirtual 123, 3) := by decide +kernel
theorem dX6_term_71 : decode cX6_term 71 = .ok (.goto (-67), 3) := by decide +kernel
theorem dX6_term_74 : decode cX6_term 74 = .ok (.return_, 1) := by decide +kernel
theorem dX6_sum_0 : decode cX6_sum 0 = .ok (.aload_n 0, 1) := by decide +kernel
theorem dX6_sum_1 : decode cX6_sum 1 = .ok (.invokevirtual 129, 3) := by decide +kernel
theorem dX6_sum_4 : decode cX6_sum 4 = .ok (.aload_n 0, 1) := by decide +kernel
theorem dX6_sum_5 : decode cX6_sum 5 = .ok (.invokevirtual 65, 3) := by decide +kernel
theorem dX6_sum_8 : decode cX6_sum 8 = .ok (.ifCond .eq 66, 3) := by decide +kernel
theorem dX6_sum_11 : decode cX6_sum 11 = .ok (.aload_n 0, 1) := by decide +kernel
theorem dX6_sum_12 : decode cX6_sum 12 = .ok (.invokevirtual 69, 3) := by decide +kernel
theorem dX6_sum_15 : decode cX6_sum 15 = .ok (.bipush 43, 2) := by decide +kernel
theorem dX6_sum_17 : decode cX6_sum 17 = .ok (.if_icmp .eq 12, 3) := by decide +kernel
theorem dX6_sum_20 : decode cX6_sum 20 = .ok (.aload_n 0, 1) := by decide +kernel
theorem dX6_sum_21 : decode cX6_sum 21 = .ok (.invokevirtual 69, 3) := by decide +kernel
theorem dX6_sum_24 : decode cX6_sum 24 = .ok (.bipush 45, 2) := by decide +kernel
theorem dX6_sum_26 : decode cX6_sum 26 = .ok (.if_icmp .ne 48, 3) := by decide +kernel
theorem dX6_sum_29 : decode cX6_sum 29 = .ok (.aload_n 0, 1) := by decide +kernel
theorem dX6_sum_30 : decode cX6_sum 30 = .ok (.invokevirtual 69, 3) := by decide +kernel
theorem dX6_sum_33 : decode cX6_sum 33 = .ok (.bipush 43, 2) := by decide +kernel
theorem dX6_sum_35 : decode cX6_sum 35 = .ok (.if_icmp .ne 7, 3) := by decide +kernel
theorem dX6_sum_38 : decode cX6_sum 38 = .ok (.iconst 1, 1) := by decide +kernel
theorem dX6_sum_39 : decode cX6_sum 39 = .ok (.goto 4, 3) := by decide +kernel
theorem dX6_sum_42 : decode cX6_sum 42 = .ok (.iconst 0, 1) := by decide +kernel
theorem dX6_sum_43 : decode cX6_sum 43 = .ok (.istore_n 1, 1) := by decide +kernel
theorem dX6_sum_44 : decode cX6_sum 44 = .ok (.aload_n 0, 1) := by decide +kernel
theorem dX6_sum_45 : decode cX6_sum 45 = .ok (.dup, 1) := by decide +kernel
theorem dX6_sum_46 : decode cX6_sum 46 = .ok (.getfield 48, 3) := by decide +kernel
theorem dX6_sum_49 : decode cX6_sum 49 = .ok (.iconst 1, 1) := by decide +kernel
theorem dX6_sum_50 : decode cX6_sum 50 = .ok (.iadd, 1) := by decide +kernel
theorem dX6_sum_51 : decode cX6_sum 51 = .ok (.putfield 48, 3) := by decide +kernel
theorem dX6_sum_54 : decode cX6_sum 54 = .ok (.aload_n 0, 1) := by decide +kernel
theorem dX6_sum_55 : decode cX6_sum 55 = .ok (.invokevirtual 129, 3) := by decide +kernel
theorem dX6_sum_58 : decode cX6_sum 58 = .ok (.aload_n 0, 1) := by decide +kernel
theorem dX6_sum_59 : decode cX6_sum 59 = .ok (.iload_n 1, 1) := by decide +kernel
theorem dX6_sum_60 : decode cX6_sum 60 = .ok (.ifCond .eq 7, 3) := by decide +kernel
theorem dX6_sum_63 : decode cX6_sum 63 = .ok (.iconst 2, 1) := by decide +kernel
theorem dX6_sum_64 : decode cX6_sum 64 = .ok (.goto 4, 3) := by decide +kernel
theorem dX6_sum_67 : decode cX6_sum 67 = .ok (.iconst 3, 1) := by decide +kernel
theorem dX6_sum_68 : decode cX6_sum 68 = .ok (.invokevirtual 123, 3) := by decide +kernel
theorem dX6_sum_71 : decode cX6_sum 71 = .ok (.goto (-67), 3) := by decide +kernel
theorem dX6_sum_74 : decode cX6_sum 74 = .ok (.return_, 1) := by decide +kernel
theorem dX6_once_0 : decode cX6_once 0 = .ok (.aload_n 0, 1) := by decide +kernel
theorem dX6_once_1 : decode cX6_once 1 = .ok (.getfield 132, 3) := by decide +kernel
theorem dX6_once_4 : decode cX6_once 4 = .ok (.iload_n 1, 1) := by decide +kernel
theorem dX6_once_5 : decode cX6_once 5 = .ok (.ishr, 1) := by decide +kernel
theorem dX6_once_6 : decode cX6_once 6 = .ok (.iconst 1, 1) := by decide +kernel
theorem dX6_once_7 : decode cX6_once 7 = .ok (.iand, 1) := by decide +kernel
theorem dX6_once_8 : decode cX6_once 8 = .ok (.iconst 1, 1) := by decide +kernel
theorem dX6_once_9 : decode cX6_once 9 = .ok (.if_icmp .ne 10, 3) := by decide +kernel
theorem dX6_once_12 : decode cX6_once 12 = .ok (.aload_n 0, 1) := by decide +kernel
theorem dX6_once_13 : decode cX6_once 13 = .ok (.bipush (-2), 2) := by decide +kernel
theorem dX6_once_15 : decode cX6_once 15 = .ok (.iload_n 2, 1) := by decide +kernel
theorem dX6_once_16 : decode cX6_once 16 = .ok (.invokevirtual 82, 3) := by decide +kernel
theorem dX6_once_19 : decode cX6_once 19 = .ok (.aload_n 0, 1) := by decide +kernel
theorem dX6_once_20 : decode cX6_once 20 = .ok (.dup, 1) := by decide +kernel
theorem dX6_once_21 : decode cX6_once 21 = .ok (.getfield 132, 3) := by decide +kernel
theorem dX6_once_24 : decode cX6_once 24 = .ok (.iconst 1, 1) := by decide +kernel
theorem dX6_once_25 : decode cX6_once 25 = .ok (.iload_n 1, 1) := by decide +kernel
theorem dX6_once_26 : decode cX6_once 26 = .ok (.ishl, 1) := by decide +kernel
theorem dX6_once_27 : decode cX6_once 27 = .ok (.ior, 1) := by decide +kernel
theorem dX6_once_28 : decode cX6_once 28 = .ok (.putfield 132, 3) := by decide +kernel
theorem dX6_once_31 : decode cX6_once 31 = .ok (.return_, 1) := by decide +kernel
theorem dX6_readParty_0 : decode cX6_readParty 0 = .ok (.aload_n 0, 1) := by decide +kernel
theorem dX6_readParty_1 : decode cX6_readParty 1 = .ok (.getfield 20, 3) := by decide +kernel
theorem dX6_readParty_4 : decode cX6_readParty 4 = .ok (.iconst 4, 1) := by decide +kernel
theorem dX6_readParty_5 : decode cX6_readParty 5 = .ok (.iaload, 1) := by decide +kernel
theorem dX6_readParty_6 : decode cX6_readParty 6 = .ok (.bipush 10, 2) := by decide +kernel
theorem dX6_readParty_8 : decode cX6_readParty 8 = .ok (.if_icmp .ne 10, 3) := by decide +kernel
theorem dX6_readParty_11 : decode cX6_readParty 11 = .ok (.aload_n 0, 1) := by decide +kernel
theorem dX6_readParty_12 : decode cX6_readParty 12 = .ok (.bipush (-4), 2) := by decide +kernel
theorem dX6_readParty_14 : decode cX6_readParty 14 = .ok (.iload_n 1, 1) := by decide +kernel
theorem dX6_readParty_15 : decode cX6_readParty 15 = .ok (.invokevirtual 82, 3) := by decide +kernel
theorem dX6_readParty_18 : decode cX6_readParty 18 = .ok (.aload_n 0, 1) := by decide +kernel
theorem dX6_readParty_19 : decode cX6_readParty 19 = .ok (.iconst 0, 1) := by decide +kernel
theorem dX6_readParty_20 : decode cX6_readParty 20 = .ok (.bipush 99, 2) := by decide +kernel
theorem dX6_readParty_22 : decode cX6_readParty 22 = .ok (.invokevirtual 120, 3) := by decide +kernel
theorem dX6_readParty_25 : decode cX6_readParty 25 = .ok (.istore_n 2, 1) := by decide +kernel
theorem dX6_readParty_26 : decode cX6_readParty 26 = .ok (.aload_n 0, 1) := by decide +kernel
theorem dX6_readParty_27 : decode cX6_readParty 27 = .ok (.iconst 0, 1) := by decide +kernel
theorem dX6_readParty_28 : decode cX6_readParty 28 = .ok (.bipush 99, 2) := by decide +kernel
theorem dX6_readParty_30 : decode cX6_readParty 30 = .ok (.invokevirtual 120, 3) := by decide +kernel
theorem dX6_readParty_33 : decode cX6_readParty 33 = .ok (.istore_n 3, 1) := by decide +kernel
theorem dX6_readParty_34 : decode cX6_readParty 34 = .ok (.aload_n 0, 1) := by decide +kernel
theorem dX6_readParty_35 : decode cX6_readParty 35 = .ok (.iconst 0, 1) := by decide +kernel
theorem dX6_readParty_36 : decode cX6_readParty 36 = .ok (.sipush 999, 3) := by decide +kernel
theorem dX6_readParty_39 : decode cX6_readParty 39 = .ok (.invokevirtual 120, 3) := by decide +kernel
theorem dX6_readParty_42 : decode cX6_readParty 42 = .ok (.istore 4, 2) := by decide +kernel
theorem dX6_readParty_44 : decode cX6_readParty 44 = .ok (.aload_n 0, 1) := by decide +kernel
theorem dX6_readParty_45 : decode cX6_readParty 45 = .ok (.invokevirtual 65, 3) := by decide +kernel
theorem dX6_readParty_48 : decode cX6_readParty 48 = .ok (.ifCond .ne 4, 3) := by decide +kernel
theorem dX6_readParty_51 : decode cX6_readParty 51 = .ok (.return_, 1) := by decide +kernel
theorem dX6_readParty_52 : decode cX6_readParty 52 = .ok (.bipush 16, 2) := by decide +kernel
theorem dX6_readParty_54 : decode cX6_readParty 54 = .ok (.iconst 3, 1) := by decide +kernel
theorem dX6_readParty_55 : decode cX6_readParty 55 = .ok (.aload_n 0, 1) := by decide +kernel
theorem dX6_readParty_56 : decode cX6_readParty 56 = .ok (.getfield 20, 3) := by decide +kernel
theorem dX6_readParty_59 : decode cX6_readParty 59 = .ok (.iconst 4, 1) := by decide +kernel
theorem dX6_readParty_60 : decode cX6_readParty 60 = .ok (.iaload, 1) := by decide +kernel
theorem dX6_readParty_61 : decode cX6_readParty 61 = .ok (.imul, 1) := by decide +kernel
theorem dX6_readParty_62 : decode cX6_readParty 62 = .ok (.iadd, 1) := by decide +kernel
theorem dX6_readParty_63 : decode cX6_readParty 63 = .ok (.istore 5, 2) := by decide +kernel
theorem dX6_readParty_65 : decode cX6_readParty 65 = .ok (.aload_n 0, 1) := by decide +kernel
theorem dX6_readParty_66 : decode cX6_readParty 66 = .ok (.getfield 20, 3) := by decide +kernel
theorem dX6_readParty_69 : decode cX6_readParty 69 = .ok (.iload 5, 2) := by decide +kernel
theorem dX6_readParty_71 : decode cX6_readParty 71 = .ok (.iconst 0, 1) := by decide +kernel
theorem dX6_readParty_72 : decode cX6_readParty 72 = .ok (.iadd, 1) := by decide +kernel
theorem dX6_readParty_73 : decode cX6_readParty 73 = .ok (.iload_n 2, 1) := by decide +kernel
theorem dX6_readParty_74 : decode cX6_readParty 74 = .ok (.iastore, 1) := by decide +kernel
theorem dX6_readParty_75 : decode cX6_readParty 75 = .ok (.aload_n 0, 1) := by decide +kernel
theorem dX6_readParty_76 : decode cX6_readParty 76 = .ok (.getfield 20, 3) := by decide +kernel
theorem dX6_readParty_79 : decode cX6_readParty 79 = .ok (.iload 5, 2) := by decide +kernel
theorem dX6_readParty_81 : decode cX6_readParty 81 = .ok (.iconst 1, 1) := by decide +kernel
theorem dX6_readParty_82 : decode cX6_readParty 82 = .ok (.iadd, 1) := by decide +kernel
theorem dX6_readParty_83 : decode cX6_readParty 83 = .ok (.iload_n 3, 1) := by decide +kernel
theorem dX6_readParty_84 : decode cX6_readParty 84 = .ok (.iastore, 1) := by decide +kernel
theorem dX6_readParty_85 : decode cX6_readParty 85 = .ok (.aload_n 0, 1) := by decide +kernel
theorem dX6_readParty_86 : decode cX6_readParty 86 = .ok (.getfield 20, 3) := by decide +kernel
theorem dX6_readParty_89 : decode cX6_readParty 89 = .ok (.iload 5, 2) := by decide +kernel
theorem dX6_readParty_91 : decode cX6_readParty 91 = .ok (.iconst 2, 1) := by decide +kernel
theorem dX6_readParty_92 : decode cX6_readParty 92 = .ok (.iadd, 1) := by decide +kernel
theorem dX6_readParty_93 : decode cX6_readParty 93 = .ok (.iload 4, 2) := by decide +kernel
theorem dX6_readParty_95 : decode cX6_readParty 95 = .ok (.iastore, 1) := by decide +kernel
theorem dX6_readParty_96 : decode cX6_readParty 96 = .ok (.aload_n 0, 1) := by decide +kernel
theorem dX6_readParty_97 : decode cX6_readParty 97 = .ok (.getfield 20, 3) := by decide +kernel
theorem dX6_readParty_100 : decode cX6_readParty 100 = .ok (.iconst 4, 1) := by decide +kernel
theorem dX6_readParty_101 : decode cX6_readParty 101 = .ok (.dup2, 1) := by decide +kernel
theorem dX6_readParty_102 : decode cX6_readParty 102 = .ok (.iaload, 1) := by decide +kernel
theorem dX6_readParty_103 : decode cX6_readParty 103 = .ok (.iconst 1, 1) := by decide +kernel
theorem dX6_readParty_104 : decode cX6_readParty 104 = .ok (.iadd, 1) := by decide +kernel
theorem dX6_readParty_105 : decode cX6_readParty 105 = .ok (.iastore, 1) := by decide +kernel
theorem dX6_readParty_106 : decode cX6_readParty 106 = .ok (.return_, 1) := by decide +kernel
theorem dX6_statement_0 : decode cX6_statement 0 = .ok (.aload_n 0, 1) := by decide +kernel
theorem dX6_statement_1 : decode cX6_statement 1 = .ok (.invokevirtual 69, 3) := by decide +kernel
theorem dX6_statement_4 : decode cX6_statement 4 = .ok (.pop, 1) := by decide +kernel
theorem dX6_statement_5 : decode cX6_statement 5 = .ok (.aload_n 0, 1) := by decide +kernel
theorem dX6_statement_6 : decode cX6_statement 6 = .ok (.getfield 48, 3) := by decide +kernel
theorem dX6_statement_9 : decode cX6_statement 9 = .ok (.istore_n 1, 1) := by decide +kernel
theorem dX6_statement_10 : decode cX6_statement 10 = .ok (.aload_n 0, 1) := by decide +kernel
theorem dX6_statement_11 : decode cX6_statement 11 = .ok (.ldc 135, 2) := by decide +kernel
theorem dX6_statement_13 : decode cX6_statement 13 = .ok (.invokevirtual 110, 3) := by decide +kernel
theorem dX6_statement_16 : decode cX6_statement 16 = .ok (.ifCond .eq 11, 3) := by decide +kernel
theorem dX6_statement_19 : decode cX6_statement 19 = .ok (.aload_n 0, 1) := by decide +kernel
theorem dX6_statement_20 : decode cX6_statement 20 = .ok (.iload_n 1, 1) := by decide +kernel
theorem dX6_statement_21 : decode cX6_statement 21 = .ok (.invokevirtual 137, 3) := by decide +kernel
theorem dX6_statement_24 : decode cX6_statement 24 = .ok (.goto 115, 3) := by decide +kernel
theorem dX6_statement_27 : decode cX6_statement 27 = .ok (.aload_n 0, 1) := by decide +kernel
theorem dX6_statement_28 : decode cX6_statement 28 = .ok (.ldc 140, 2) := by decide +kernel
theorem dX6_statement_30 : decode cX6_statement 30 = .ok (.invokevirtual 110, 3) := by decide +kernel
theorem dX6_statement_33 : decode cX6_statement 33 = .ok (.ifCond .eq 38, 3) := by decide +kernel
theorem dX6_statement_36 : decode cX6_statement 36 = .ok (.aload_n 0, 1) := by decide +kernel
theorem dX6_statement_37 : decode cX6_statement 37 = .ok (.iconst 0, 1) := by decide +kernel
theorem dX6_statement_38 : decode cX6_statement 38 = .ok (.iload_n 1, 1) := by decide +kernel
theorem dX6_statement_39 : decode cX6_statement 39 = .ok (.invokevirtual 142, 3) := by decide +kernel
theorem dX6_statement_42 : decode cX6_statement 42 = .ok (.aload_n 0, 1) := by decide +kernel
theorem dX6_statement_43 : decode cX6_statement 43 = .ok (.getfield 20, 3) := by decide +kernel
theorem dX6_statement_46 : decode cX6_statement 46 = .ok (.iconst 1, 1) := by decide +kernel
theorem dX6_statement_47 : decode cX6_statement 47 = .ok (.aload_n 0, 1) := by decide +kernel
theorem dX6_statement_48 : decode cX6_statement 48 = .ok (.iconst 1, 1) := by decide +kernel
theorem dX6_statement_49 : decode cX6_statement 49 = .ok (.bipush 99, 2) := by decide +kernel
theorem dX6_statement_51 : decode cX6_statement 51 = .ok (.invokevirtual 120, 3) := by decide +kernel
theorem dX6_statement_54 : decode cX6_statement 54 = .ok (.iastore, 1) := by decide +kernel
theorem dX6_statement_55 : decode cX6_statement 55 = .ok (.aload_n 0, 1) := by decide +kernel
theorem dX6_statement_56 : decode cX6_statement 56 = .ok (.getfield 20, 3) := by decide +kernel
theorem dX6_statement_59 : decode cX6_statement 59 = .ok (.iconst 2, 1) := by decide +kernel
theorem dX6_statement_60 : decode cX6_statement 60 = .ok (.aload_n 0, 1) := by decide +kernel
theorem dX6_statement_61 : decode cX6_statement 61 = .ok (.iconst 1, 1) := by decide +kernel
theorem dX6_statement_62 : decode cX6_statement 62 = .ok (.bipush 99, 2) := by decide +kernel
theorem dX6_statement_64 : decode cX6_statement 64 = .ok (.invokevirtual 120, 3) := by decide +kernel
theorem dX6_statement_67 : decode cX6_statement 67 = .ok (.iastore, 1) := by decide +kernel
theorem dX6_statement_68 : decode cX6_statement 68 = .ok (.goto 71, 3) := by decide +kernel
theorem dX6_statement_71 : decode cX6_statement 71 = .ok (.aload_n 0, 1) := by decide +kernel
theorem dX6_statement_72 : decode cX6_statement 72 = .ok (.ldc 145, 2) := by decide +kernel
theorem dX6_statement_74 : decode cX6_statement 74 = .ok (.invokevirtual 110, 3) := by decide +kernel
theorem dX6_statement_77 : decode cX6_statement 77 = .ok (.ifCond .eq 25, 3) := by decide +kernel
theorem dX6_statement_80 : decode cX6_statement 80 = .ok (.aload_n 0, 1) := by decide +kernel
theorem dX6_statement_81 : decode cX6_statement 81 = .ok (.iconst 1, 1) := by decide +kernel
theorem dX6_statement_82 : decode cX6_statement 82 = .ok (.iload_n 1, 1) := by decide +kernel
theorem dX6_statement_83 : decode cX6_statement 83 = .ok (.invokevirtual 142, 3) := by decide +kernel
theorem dX6_statement_86 : decode cX6_statement 86 = .ok (.aload_n 0, 1) := by decide +kernel
theorem dX6_statement_87 : decode cX6_statement 87 = .ok (.getfield 20, 3) := by decide +kernel
theorem dX6_statement_90 : decode cX6_statement 90 = .ok (.iconst 3, 1) := by decide +kernel
theorem dX6_statement_91 : decode cX6_statement 91 = .ok (.aload_n 0, 1) := by decide +kernel
theorem dX6_statement_92 : decode cX6_statement 92 = .ok (.iconst 1, 1) := by decide +kernel
theorem dX6_statement_93 : decode cX6_statement 93 = .ok (.bipush 99, 2) := by decide +kernel
theorem dX6_statement_95 : decode cX6_statement 95 = .ok (.invokevirtual 120, 3) := by decide +kernel
theorem dX6_statement_98 : decode cX6_statement 98 = .ok (.iastore, 1) := by decide +kernel
theorem dX6_statement_99 : decode cX6_statement 99 = .ok (.goto 40, 3) := by decide +kernel
theorem dX6_statement_102 : decode cX6_statement 102 = .ok (.aload_n 0, 1) := by decide +kernel
theorem dX6_statement_103 : decode cX6_statement 103 = .ok (.ldc 147, 2) := by decide +kernel
theorem dX6_statement_105 : decode cX6_statement 105 = .ok (.invokevirtual 110, 3) := by decide +kernel
theorem dX6_statement_108 : decode cX6_statement 108 = .ok (.ifCond .eq 24, 3) := by decide +kernel
theorem dX6_statement_111 : decode cX6_statement 111 = .ok (.aload_n 0, 1) := by decide +kernel
theorem dX6_statement_112 : decode cX6_statement 112 = .ok (.iconst 2, 1) := by decide +kernel
theorem dX6_statement_113 : decode cX6_statement 113 = .ok (.iload_n 1, 1) := by decide +kernel
theorem dX6_statement_114 : decode cX6_statement 114 = .ok (.invokevirtual 142, 3) := by decide +kernel
theorem dX6_statement_117 : decode cX6_statement 117 = .ok (.aload_n 0, 1) := by decide +kernel
theorem dX6_statement_118 : decode cX6_statement 118 = .ok (.getfield 20, 3) := by decide +kernel
theorem dX6_statement_121 : decode cX6_statement 121 = .ok (.bipush 7, 2) := by decide +kernel
theorem dX6_statement_123 : decode cX6_statement 123 = .ok (.iconst 1, 1) := by decide +kernel
theorem dX6_statement_124 : decode cX6_statement 124 = .ok (.iastore, 1) := by decide +kernel
theorem dX6_statement_125 : decode cX6_statement 125 = .ok (.aload_n 0, 1) := by decide +kernel
theorem dX6_statement_126 : decode cX6_statement 126 = .ok (.invokevirtual 101, 3) := by decide +kernel
theorem dX6_statement_129 : decode cX6_statement 129 = .ok (.goto 10, 3) := by decide +kernel
theorem dX6_statement_132 : decode cX6_statement 132 = .ok (.aload_n 0, 1) := by decide +kernel
theorem dX6_statement_133 : decode cX6_statement 133 = .ok (.bipush (-2), 2) := by decide +kernel
theorem dX6_statement_135 : decode cX6_statement 135 = .ok (.iload_n 1, 1) := by decide +kernel
theorem dX6_statement_136 : decode cX6_statement 136 = .ok (.invokevirtual 82, 3) := by decide +kernel
theorem dX6_statement_139 : decode cX6_statement 139 = .ok (.aload_n 0, 1) := by decide +kernel
theorem dX6_statement_140 : decode cX6_statement 140 = .ok (.bipush 59, 2) := by decide +kernel
theorem dX6_statement_142 : decode cX6_statement 142 = .ok (.invokevirtual 104, 3) := by decide +kernel
theorem dX6_statement_145 : decode cX6_statement 145 = .ok (.return_, 1) := by decide +kernel
theorem dX6_load_0 : decode cX6_load 0 = .ok (.aload_n 0, 1) := by decide +kernel
theorem dX6_load_1 : decode cX6_load 1 = .ok (.iconst 0, 1) := by decide +kernel
theorem dX6_load_2 : decode cX6_load 2 = .ok (.putfield 39, 3) := by decide +kernel
theorem dX6_load_5 : decode cX6_load 5 = .ok (.aload_n 0, 1) := by decide +kernel
theorem dX6_load_6 : decode cX6_load 6 = .ok (.iload_n 1, 1) := by decide +kernel
theorem dX6_load_7 : decode cX6_load 7 = .ok (.iconst 0, 1) := by decide +kernel
theorem dX6_load_8 : decode cX6_load 8 = .ok (.aload_n 0, 1) := by decide +kernel
theorem dX6_load_9 : decode cX6_load 9 = .ok (.getfield 42, 3) := by decide +kernel
theorem dX6_load_12 : decode cX6_load 12 = .ok (.invokestatic 61, 3) := by decide +kernel
theorem dX6_load_15 : decode cX6_load 15 = .ok (.ifCond .ne 7, 3) := by decide +kernel
theorem dX6_load_18 : decode cX6_load 18 = .ok (.iconst 1, 1) := by decide +kernel
theorem dX6_load_19 : decode cX6_load 19 = .ok (.goto 4, 3) := by decide +kernel
theorem dX6_load_22 : decode cX6_load 22 = .ok (.iconst 0, 1) := by decide +kernel
theorem dX6_load_23 : decode cX6_load 23 = .ok (.iconst 1, 1) := by decide +kernel
theorem dX6_load_24 : decode cX6_load 24 = .ok (.invokevirtual 149, 3) := by decide +kernel
theorem dX6_load_27 : decode cX6_load 27 = .ok (.ifCond .eq 5, 3) := by decide +kernel
theorem dX6_load_30 : decode cX6_load 30 = .ok (.iconst 0, 1) := by decide +kernel
theorem dX6_load_31 : decode cX6_load 31 = .ok (.ireturn, 1) := by decide +kernel
theorem dX6_load_32 : decode cX6_load 32 = .ok (.aload_n 0, 1) := by decide +kernel
theorem dX6_load_33 : decode cX6_load 33 = .ok (.iconst 0, 1) := by decide +kernel
theorem dX6_load_34 : decode cX6_load 34 = .ok (.putfield 42, 3) := by decide +kernel
theorem dX6_load_37 : decode cX6_load 37 = .ok (.aload_n 0, 1) := by decide +kernel
theorem dX6_load_38 : decode cX6_load 38 = .ok (.iload_n 1, 1) := by decide +kernel
theorem dX6_load_39 : decode cX6_load 39 = .ok (.putfield 45, 3) := by decide +kernel
theorem dX6_load_42 : decode cX6_load 42 = .ok (.aload_n 0, 1) := by decide +kernel
theorem dX6_load_43 : decode cX6_load 43 = .ok (.iconst 0, 1) := by decide +kernel
theorem dX6_load_44 : decode cX6_load 44 = .ok (.putfield 48, 3) := by decide +kernel
theorem dX6_load_47 : decode cX6_load 47 = .ok (.aload_n 0, 1) := by decide +kernel
theorem dX6_load_48 : decode cX6_load 48 = .ok (.iconst 0, 1) := by decide +kernel
theorem dX6_load_49 : decode cX6_load 49 = .ok (.putfield 55, 3) := by decide +kernel
theorem dX6_load_52 : decode cX6_load 52 = .ok (.aload_n 0, 1) := by decide +kernel
theorem dX6_load_53 : decode cX6_load 53 = .ok (.iconst (-1), 1) := by decide +kernel
theorem dX6_load_54 : decode cX6_load 54 = .ok (.putfield 58, 3) := by decide +kernel
theorem dX6_load_57 : decode cX6_load 57 = .ok (.aload_n 0, 1) := by decide +kernel
theorem dX6_load_58 : decode cX6_load 58 = .ok (.iconst 0, 1) := by decide +kernel
theorem dX6_load_59 : decode cX6_load 59 = .ok (.putfield 98, 3) := by decide +kernel
theorem dX6_load_62 : decode cX6_load 62 = .ok (.aload_n 0, 1) := by decide +kernel
theorem dX6_load_63 : decode cX6_load 63 = .ok (.iconst 0, 1) := by decide +kernel
theorem dX6_load_64 : decode cX6_load 64 = .ok (.putfield 132, 3) := by decide +kernel
theorem dX6_load_67 : decode cX6_load 67 = .ok (.aload_n 0, 1) := by decide +kernel
theorem dX6_load_68 : decode cX6_load 68 = .ok (.getfield 20, 3) := by decide +kernel
theorem dX6_load_71 : decode cX6_load 71 = .ok (.invokestatic 35, 3) := by decide +kernel
theorem dX6_load_74 : decode cX6_load 74 = .ok (.aload_n 0, 1) := by decide +kernel
theorem dX6_load_75 : decode cX6_load 75 = .ok (.ldc 153, 2) := by decide +kernel
theorem dX6_load_77 : decode cX6_load 77 = .ok (.invokevirtual 110, 3) := by decide +kernel
theorem dX6_load_80 : decode cX6_load 80 = .ok (.ifCond .ne 13, 3) := by decide +kernel
theorem dX6_load_83 : decode cX6_load 83 = .ok (.aload_n 0, 1) := by decide +kernel
theorem dX6_load_84 : decode cX6_load 84 = .ok (.bipush (-2), 2) := by decide +kernel
theorem dX6_load_86 : decode cX6_load 86 = .ok (.aload_n 0, 1) := by decide +kernel
theorem dX6_load_87 : decode cX6_load 87 = .ok (.getfield 48, 3) := by decide +kernel
theorem dX6_load_90 : decode cX6_load 90 = .ok (.invokevirtual 82, 3) := by decide +kernel
theorem dX6_load_93 : decode cX6_load 93 = .ok (.aload_n 0, 1) := by decide +kernel
theorem dX6_load_94 : decode cX6_load 94 = .ok (.bipush 59, 2) := by decide +kernel
theorem dX6_load_96 : decode cX6_load 96 = .ok (.invokevirtual 104, 3) := by decide +kernel
theorem dX6_load_99 : decode cX6_load 99 = .ok (.aload_n 0, 1) := by decide +kernel
theorem dX6_load_100 : decode cX6_load 100 = .ok (.invokevirtual 65, 3) := by decide +kernel
theorem dX6_load_103 : decode cX6_load 103 = .ok (.ifCond .eq 18, 3) := by decide +kernel
theorem dX6_load_106 : decode cX6_load 106 = .ok (.aload_n 0, 1) := by decide +kernel
theorem dX6_load_107 : decode cX6_load 107 = .ok (.invokevirtual 69, 3) := by decide +kernel
theorem dX6_load_110 : decode cX6_load 110 = .ok (.iconst (-1), 1) := by decide +kernel
theorem dX6_load_111 : decode cX6_load 111 = .ok (.if_icmp .eq 10, 3) := by decide +kernel
theorem dX6_load_114 : decode cX6_load 114 = .ok (.aload_n 0, 1) := by decide +kernel
theorem dX6_load_115 : decode cX6_load 115 = .ok (.invokevirtual 155, 3) := by decide +kernel
theorem dX6_load_118 : decode cX6_load 118 = .ok (.goto (-19), 3) := by decide +kernel
theorem dX6_load_121 : decode cX6_load 121 = .ok (.aload_n 0, 1) := by decide +kernel
theorem dX6_load_122 : decode cX6_load 122 = .ok (.aload_n 0, 1) := by decide +kernel
theorem dX6_load_123 : decode cX6_load 123 = .ok (.getfield 58, 3) := by decide +kernel
theorem dX6_load_126 : decode cX6_load 126 = .ok (.putfield 13, 3) := by decide +kernel
theorem dX6_load_129 : decode cX6_load 129 = .ok (.aload_n 0, 1) := by decide +kernel
theorem dX6_load_130 : decode cX6_load 130 = .ok (.invokevirtual 65, 3) := by decide +kernel
theorem dX6_load_133 : decode cX6_load 133 = .ok (.ifCond .ne 8, 3) := by decide +kernel
theorem dX6_load_136 : decode cX6_load 136 = .ok (.aload_n 0, 1) := by decide +kernel
theorem dX6_load_137 : decode cX6_load 137 = .ok (.getfield 55, 3) := by decide +kernel
theorem dX6_load_140 : decode cX6_load 140 = .ok (.ireturn, 1) := by decide +kernel
theorem dX6_load_141 : decode cX6_load 141 = .ok (.aload_n 0, 1) := by decide +kernel
theorem dX6_load_142 : decode cX6_load 142 = .ok (.invokevirtual 158, 3) := by decide +kernel
theorem dX6_load_145 : decode cX6_load 145 = .ok (.aload_n 0, 1) := by decide +kernel
theorem dX6_load_146 : decode cX6_load 146 = .ok (.getfield 20, 3) := by decide +kernel
theorem dX6_load_149 : decode cX6_load 149 = .ok (.aload_n 0, 1) := by decide +kernel
theorem dX6_load_150 : decode cX6_load 150 = .ok (.getfield 17, 3) := by decide +kernel
theorem dX6_load_153 : decode cX6_load 153 = .ok (.invokestatic 161, 3) := by decide +kernel
theorem dX6_load_156 : decode cX6_load 156 = .ok (.aload_n 0, 1) := by decide +kernel
theorem dX6_load_157 : decode cX6_load 157 = .ok (.getfield 17, 3) := by decide +kernel
theorem dX6_load_160 : decode cX6_load 160 = .ok (.iconst 4, 1) := by decide +kernel
theorem dX6_load_161 : decode cX6_load 161 = .ok (.iaload, 1) := by decide +kernel
theorem dX6_load_162 : decode cX6_load 162 = .ok (.ireturn, 1) := by decide +kernel
theorem dX6_errorOffset_0 : decode cX6_errorOffset 0 = .ok (.aload_n 0, 1) := by decide +kernel
theorem dX6_errorOffset_1 : decode cX6_errorOffset 1 = .ok (.iconst 0, 1) := by decide +kernel
theorem dX6_errorOffset_2 : decode cX6_errorOffset 2 = .ok (.putfield 39, 3) := by decide +kernel
theorem dX6_errorOffset_5 : decode cX6_errorOffset 5 = .ok (.aload_n 0, 1) := by decide +kernel
theorem dX6_errorOffset_6 : decode cX6_errorOffset 6 = .ok (.getfield 13, 3) := by decide +kernel
theorem dX6_errorOffset_9 : decode cX6_errorOffset 9 = .ok (.ireturn, 1) := by decide +kernel
theorem dX6_ofParty_0 : decode cX6_ofParty 0 = .ok (.aload_n 0, 1) := by decide +kernel
theorem dX6_ofParty_1 : decode cX6_ofParty 1 = .ok (.getfield 17, 3) := by decide +kernel
theorem dX6_ofParty_4 : decode cX6_ofParty 4 = .ok (.bipush 16, 2) := by decide +kernel
theorem dX6_ofParty_6 : decode cX6_ofParty 6 = .ok (.iconst 3, 1) := by decide +kernel
theorem dX6_ofParty_7 : decode cX6_ofParty 7 = .ok (.iload_n 1, 1) := by decide +kernel
theorem dX6_ofParty_8 : decode cX6_ofParty 8 = .ok (.imul, 1) := by decide +kernel
theorem dX6_ofParty_9 : decode cX6_ofParty 9 = .ok (.iadd, 1) := by decide +kernel
theorem dX6_ofParty_10 : decode cX6_ofParty 10 = .ok (.iload_n 2, 1) := by decide +kernel
theorem dX6_ofParty_11 : decode cX6_ofParty 11 = .ok (.iadd, 1) := by decide +kernel
theorem dX6_ofParty_12 : decode cX6_ofParty 12 = .ok (.iaload, 1) := by decide +kernel
theorem dX6_ofParty_13 : decode cX6_ofParty 13 = .ok (.ireturn, 1) := by decide +kernel
theorem dX6_callAt_0 : decode cX6_callAt 0 = .ok (.bipush 46, 2) := by decide +kernel
theorem dX6_callAt_2 : decode cX6_callAt 2 = .ok (.iconst 5, 1) := by decide +kernel
theorem dX6_callAt_3 : decode cX6_callAt 3 = .ok (.iload_n 0, 1) := by decide +kernel
theorem dX6_callAt_4 : decode cX6_callAt 4 = .ok (.imul, 1) := by decide +kernel
theorem dX6_callAt_5 : decode cX6_callAt 5 = .ok (.iadd, 1) := by decide +kernel
theorem dX6_callAt_6 : decode cX6_callAt 6 = .ok (.ireturn, 1) := by decide +kernel
theorem dX6_legAt_0 : decode cX6_legAt 0 = .ok (.sipush 146, 3) := by decide +kernel
theorem dX6_legAt_3 : decode cX6_legAt 3 = .ok (.bipush 13, 2) := by decide +kernel
theorem dX6_legAt_5 : decode cX6_legAt 5 = .ok (.iload_n 0, 1) := by decide +kernel
theorem dX6_legAt_6 : decode cX6_legAt 6 = .ok (.imul, 1) := by decide +kernel
theorem dX6_legAt_7 : decode cX6_legAt 7 = .ok (.iadd, 1) := by decide +kernel
theorem dX6_legAt_8 : decode cX6_legAt 8 = .ok (.ireturn, 1) := by decide +kernel
theorem dX6_ofCall_0 : decode cX6_ofCall 0 = .ok (.aload_n 0, 1) := by decide +kernel
theorem dX6_ofCall_1 : decode cX6_ofCall 1 = .ok (.getfield 17, 3) := by decide +kernel
theorem dX6_ofCall_4 : decode cX6_ofCall 4 = .ok (.iload_n 1, 1) := by decide +kernel
theorem dX6_ofCall_5 : decode cX6_ofCall 5 = .ok (.invokestatic 165, 3) := by decide +kernel
theorem dX6_ofCall_8 : decode cX6_ofCall 8 = .ok (.iload_n 2, 1) := by decide +kernel
theorem dX6_ofCall_9 : decode cX6_ofCall 9 = .ok (.iadd, 1) := by decide +kernel
theorem dX6_ofCall_10 : decode cX6_ofCall 10 = .ok (.iaload, 1) := by decide +kernel
theorem dX6_ofCall_11 : decode cX6_ofCall 11 = .ok (.ireturn, 1) := by decide +kernel
theorem dX6_ofLeg_0 : decode cX6_ofLeg 0 = .ok (.aload_n 0, 1) := by decide +kernel
theorem dX6_ofLeg_1 : decode cX6_ofLeg 1 = .ok (.getfield 17, 3) := by decide +kernel
theorem dX6_ofLeg_4 : decode cX6_ofLeg 4 = .ok (.iload_n 1, 1) := by decide +kernel
theorem dX6_ofLeg_5 : decode cX6_ofLeg 5 = .ok (.invokestatic 168, 3) := by decide +kernel
theorem dX6_ofLeg_8 : decode cX6_ofLeg 8 = .ok (.iload_n 2, 1) := by decide +kernel
theorem dX6_ofLeg_9 : decode cX6_ofLeg 9 = .ok (.iadd, 1) := by decide +kernel
theorem dX6_ofLeg_10 : decode cX6_ofLeg 10 = .ok (.iaload, 1) := by decide +kernel
theorem dX6_ofLeg_11 : decode cX6_ofLeg 11 = .ok (.ireturn, 1) := by decide +kernel
theorem dX6_is_0 : decode cX6_is 0 = .ok (.aload_n 0, 1) := by decide +kernel
theorem dX6_is_1 : decode cX6_is 1 = .ok (.iload_n 1, 1) := by decide +kernel
theorem dX6_is_2 : decode cX6_is 2 = .ok (.iconst 2, 1) := by decide +kernel
theorem dX6_is_3 : decode cX6_is 3 = .ok (.invokevirtual 171, 3) := by decide +kernel
theorem dX6_is_6 : decode cX6_is 6 = .ok (.iload_n 2, 1) := by decide +kernel
theorem dX6_is_7 : decode cX6_is 7 = .ok (.if_icmp .ne 7, 3) := by decide +kernel
theorem dX6_is_10 : decode cX6_is 10 = .ok (.iconst 1, 1) := by decide +kernel
theorem dX6_is_11 : decode cX6_is 11 = .ok (.goto 4, 3) := by decide +kernel
theorem dX6_is_14 : decode cX6_is 14 = .ok (.iconst 0, 1) := by decide +kernel
theorem dX6_is_15 : decode cX6_is 15 = .ok (.ireturn, 1) := by decide +kernel
theorem dX6_callerOf_0 : decode cX6_callerOf 0 = .ok (.aload_n 0, 1) := by decide +kernel
theorem dX6_callerOf_1 : decode cX6_callerOf 1 = .ok (.aload_n 0, 1) := by decide +kernel
theorem dX6_callerOf_2 : decode cX6_callerOf 2 = .ok (.iload_n 1, 1) := by decide +kernel
theorem dX6_callerOf_3 : decode cX6_callerOf 3 = .ok (.iconst 0, 1) := by decide +kernel
theorem dX6_callerOf_4 : decode cX6_callerOf 4 = .ok (.invokevirtual 171, 3) := by decide +kernel
theorem dX6_callerOf_7 : decode cX6_callerOf 7 = .ok (.iconst 0, 1) := by decide +kernel
theorem dX6_callerOf_8 : decode cX6_callerOf 8 = .ok (.invokevirtual 174, 3) := by decide +kernel
theorem dX6_callerOf_11 : decode cX6_callerOf 11 = .ok (.ireturn, 1) := by decide +kernel
theorem dX6_isIn_0 : decode cX6_isIn 0 = .ok (.aload_n 0, 1) := by decide +kernel
theorem dX6_isIn_1 : decode cX6_isIn 1 = .ok (.iload_n 2, 1) := by decide +kernel
theorem dX6_isIn_2 : decode cX6_isIn 2 = .ok (.invokevirtual 177, 3) := by decide +kernel
theorem dX6_isIn_5 : decode cX6_isIn 5 = .ok (.iload_n 1, 1) := by decide +kernel
theorem dX6_isIn_6 : decode cX6_isIn 6 = .ok (.if_icmp .eq 13, 3) := by decide +kernel
theorem dX6_isIn_9 : decode cX6_isIn 9 = .ok (.aload_n 0, 1) := by decide +kernel
theorem dX6_isIn_10 : decode cX6_isIn 10 = .ok (.iload_n 2, 1) := by decide +kernel
theorem dX6_isIn_11 : decode cX6_isIn 11 = .ok (.iconst 1, 1) := by decide +kernel
theorem dX6_isIn_12 : decode cX6_isIn 12 = .ok (.invokevirtual 171, 3) := by decide +kernel
theorem dX6_isIn_15 : decode cX6_isIn 15 = .ok (.iload_n 1, 1) := by decide +kernel
theorem dX6_isIn_16 : decode cX6_isIn 16 = .ok (.if_icmp .ne 7, 3) := by decide +kernel
theorem dX6_isIn_19 : decode cX6_isIn 19 = .ok (.iconst 1, 1) := by decide +kernel
theorem dX6_isIn_20 : decode cX6_isIn 20 = .ok (.goto 4, 3) := by decide +kernel
theorem dX6_isIn_23 : decode cX6_isIn 23 = .ok (.iconst 0, 1) := by decide +kernel
theorem dX6_isIn_24 : decode cX6_isIn 24 = .ok (.ireturn, 1) := by decide +kernel
theorem dX6_legWith_0 : decode cX6_legWith 0 = .ok (.iconst 0, 1) := by decide +kernel
theorem dX6_legWith_1 : decode cX6_legWith 1 = .ok (.istore_n 3, 1) := by decide +kernel
theorem dX6_legWith_2 : decode cX6_legWith 2 = .ok (.iload_n 3, 1) := by decide +kernel
theorem dX6_legWith_3 : decode cX6_legWith 3 = .ok (.aload_n 0, 1) := by decide +kernel
theorem dX6_legWith_4 : decode cX6_legWith 4 = .ok (.getfield 17, 3) := by decide +kernel
theorem dX6_legWith_7 : decode cX6_legWith 7 = .ok (.bipush 6, 2) := by decide +kernel
theorem dX6_legWith_9 : decode cX6_legWith 9 = .ok (.iaload, 1) := by decide +kernel
theorem dX6_legWith_10 : decode cX6_legWith 10 = .ok (.if_icmp .ge 29, 3) := by decide +kernel
theorem dX6_legWith_13 : decode cX6_legWith 13 = .ok (.aload_n 0, 1) := by decide +kernel
theorem dX6_legWith_14 : decode cX6_legWith 14 = .ok (.iload_n 3, 1) := by decide +kernel
theorem dX6_legWith_15 : decode cX6_legWith 15 = .ok (.iload_n 2, 1) := by decide +kernel
theorem dX6_legWith_16 : decode cX6_legWith 16 = .ok (.invokevirtual 180, 3) := by decide +kernel
theorem dX6_legWith_19 : decode cX6_legWith 19 = .ok (.ifCond .eq 14, 3) := by decide +kernel
theorem dX6_legWith_22 : decode cX6_legWith 22 = .ok (.aload_n 0, 1) := by decide +kernel
theorem dX6_legWith_23 : decode cX6_legWith 23 = .ok (.iload_n 1, 1) := by decide +kernel
theorem dX6_legWith_24 : decode cX6_legWith 24 = .ok (.iload_n 3, 1) := by decide +kernel
theorem dX6_legWith_25 : decode cX6_legWith 25 = .ok (.invokevirtual 184, 3) := by decide +kernel
theorem dX6_legWith_28 : decode cX6_legWith 28 = .ok (.ifCond .eq 5, 3) := by decide +kernel
theorem dX6_legWith_31 : decode cX6_legWith 31 = .ok (.iload_n 3, 1) := by decide +kernel
theorem dX6_legWith_32 : decode cX6_legWith 32 = .ok (.ireturn, 1) := by decide +kernel
theorem dX6_legWith_33 : decode cX6_legWith 33 = .ok (.iinc 3 1, 3) := by decide +kernel
theorem dX6_legWith_36 : decode cX6_legWith 36 = .ok (.goto (-34), 3) := by decide +kernel
theorem dX6_legWith_39 : decode cX6_legWith 39 = .ok (.iconst (-1), 1) := by decide +kernel
theorem dX6_legWith_40 : decode cX6_legWith 40 = .ok (.ireturn, 1) := by decide +kernel
theorem dX6_rings_0 : decode cX6_rings 0 = .ok (.iconst 0, 1) := by decide +kernel
theorem dX6_rings_1 : decode cX6_rings 1 = .ok (.istore_n 2, 1) := by decide +kernel
theorem dX6_rings_2 : decode cX6_rings 2 = .ok (.iload_n 2, 1) := by decide +kernel
theorem dX6_rings_3 : decode cX6_rings 3 = .ok (.aload_n 0, 1) := by decide +kernel
theorem dX6_rings_4 : decode cX6_rings 4 = .ok (.getfield 17, 3) := by decide +kernel
theorem dX6_rings_7 : decode cX6_rings 7 = .ok (.bipush 6, 2) := by decide +kernel
theorem dX6_rings_9 : decode cX6_rings 9 = .ok (.iaload, 1) := by decide +kernel
theorem dX6_rings_10 : decode cX6_rings 10 = .ok (.if_icmp .ge 30, 3) := by decide +kernel
theorem dX6_rings_13 : decode cX6_rings 13 = .ok (.aload_n 0, 1) := by decide +kernel
theorem dX6_rings_14 : decode cX6_rings 14 = .ok (.iload_n 2, 1) := by decide +kernel
theorem dX6_rings_15 : decode cX6_rings 15 = .ok (.iconst 0, 1) := by decide +kernel
theorem dX6_rings_16 : decode cX6_rings 16 = .ok (.invokevirtual 171, 3) := by decide +kernel
theorem dX6_rings_19 : decode cX6_rings 19 = .ok (.iload_n 1, 1) := by decide +kernel
theorem dX6_rings_20 : decode cX6_rings 20 = .ok (.if_icmp .ne 14, 3) := by decide +kernel
theorem dX6_rings_23 : decode cX6_rings 23 = .ok (.aload_n 0, 1) := by decide +kernel
theorem dX6_rings_24 : decode cX6_rings 24 = .ok (.iload_n 2, 1) := by decide +kernel
theorem dX6_rings_25 : decode cX6_rings 25 = .ok (.iconst 0, 1) := by decide +kernel
theorem dX6_rings_26 : decode cX6_rings 26 = .ok (.invokevirtual 180, 3) := by decide +kernel
theorem dX6_rings_29 : decode cX6_rings 29 = .ok (.ifCond .eq 5, 3) := by decide +kernel
theorem dX6_rings_32 : decode cX6_rings 32 = .ok (.iconst 1, 1) := by decide +kernel
theorem dX6_rings_33 : decode cX6_rings 33 = .ok (.ireturn, 1) := by decide +kernel
theorem dX6_rings_34 : decode cX6_rings 34 = .ok (.iinc 2 1, 3) := by decide +kernel
theorem dX6_rings_37 : decode cX6_rings 37 = .ok (.goto (-35), 3) := by decide +kernel
theorem dX6_rings_40 : decode cX6_rings 40 = .ok (.iconst 0, 1) := by decide +kernel
theorem dX6_rings_41 : decode cX6_rings 41 = .ok (.ireturn, 1) := by decide +kernel
theorem dX6_ringingOf_0 : decode cX6_ringingOf 0 = .ok (.iconst 0, 1) := by decide +kernel
theorem dX6_ringingOf_1 : decode cX6_ringingOf 1 = .ok (.istore_n 2, 1) := by decide +kernel
theorem dX6_ringingOf_2 : decode cX6_ringingOf 2 = .ok (.iload_n 2, 1) := by decide +kernel
theorem dX6_ringingOf_3 : decode cX6_ringingOf 3 = .ok (.aload_n 0, 1) := by decide +kernel
theorem dX6_ringingOf_4 : decode cX6_ringingOf 4 = .ok (.getfield 17, 3) := by decide +kernel
theorem dX6_ringingOf_7 : decode cX6_ringingOf 7 = .ok (.iconst 5, 1) := by decide +kernel
theorem dX6_ringingOf_8 : decode cX6_ringingOf 8 = .ok (.iaload, 1) := by decide +kernel
theorem dX6_ringingOf_9 : decode cX6_ringingOf 9 = .ok (.if_icmp .ge 29, 3) := by decide +kernel
theorem dX6_ringingOf_12 : decode cX6_ringingOf 12 = .ok (.aload_n 0, 1) := by decide +kernel
theorem dX6_ringingOf_13 : decode cX6_ringingOf 13 = .ok (.iload_n 2, 1) := by decide +kernel
theorem dX6_ringingOf_14 : decode cX6_ringingOf 14 = .ok (.iconst 0, 1) := by decide +kernel
theorem dX6_ringingOf_15 : decode cX6_ringingOf 15 = .ok (.invokevirtual 174, 3) := by decide +kernel
theorem dX6_ringingOf_18 : decode cX6_ringingOf 18 = .ok (.iload_n 1, 1) := by decide +kernel
theorem dX6_ringingOf_19 : decode cX6_ringingOf 19 = .ok (.if_icmp .ne 13, 3) := by decide +kernel
theorem dX6_ringingOf_22 : decode cX6_ringingOf 22 = .ok (.aload_n 0, 1) := by decide +kernel
theorem dX6_ringingOf_23 : decode cX6_ringingOf 23 = .ok (.iload_n 2, 1) := by decide +kernel
theorem dX6_ringingOf_24 : decode cX6_ringingOf 24 = .ok (.invokevirtual 187, 3) := by decide +kernel
theorem dX6_ringingOf_27 : decode cX6_ringingOf 27 = .ok (.ifCond .eq 5, 3) := by decide +kernel
theorem dX6_ringingOf_30 : decode cX6_ringingOf 30 = .ok (.iload_n 2, 1) := by decide +kernel
theorem dX6_ringingOf_31 : decode cX6_ringingOf 31 = .ok (.ireturn, 1) := by decide +kernel
theorem dX6_ringingOf_32 : decode cX6_ringingOf 32 = .ok (.iinc 2 1, 3) := by decide +kernel
theorem dX6_ringingOf_35 : decode cX6_ringingOf 35 = .ok (.goto (-33), 3) := by decide +kernel
theorem dX6_ringingOf_38 : decode cX6_ringingOf 38 = .ok (.iconst (-1), 1) := by decide +kernel
theorem dX6_ringingOf_39 : decode cX6_ringingOf 39 = .ok (.ireturn, 1) := by decide +kernel
theorem dX6_isEngaged_0 : decode cX6_isEngaged 0 = .ok (.aload_n 0, 1) := by decide +kernel
theorem dX6_isEngaged_1 : decode cX6_isEngaged 1 = .ok (.iload_n 1, 1) := by decide +kernel
theorem dX6_isEngaged_2 : decode cX6_isEngaged 2 = .ok (.iconst 1, 1) := by decide +kernel
theorem dX6_isEngaged_3 : decode cX6_isEngaged 3 = .ok (.invokevirtual 190, 3) := by decide +kernel
theorem dX6_isEngaged_6 : decode cX6_isEngaged 6 = .ok (.iconst (-1), 1) := by decide +kernel
theorem dX6_isEngaged_7 : decode cX6_isEngaged 7 = .ok (.if_icmp .ne 22, 3) := by decide +kernel
theorem dX6_isEngaged_10 : decode cX6_isEngaged 10 = .ok (.aload_n 0, 1) := by decide +kernel
theorem dX6_isEngaged_11 : decode cX6_isEngaged 11 = .ok (.iload_n 1, 1) := by decide +kernel
theorem dX6_isEngaged_12 : decode cX6_isEngaged 12 = .ok (.iconst 2, 1) := by decide +kernel
theorem dX6_isEngaged_13 : decode cX6_isEngaged 13 = .ok (.invokevirtual 190, 3) := by decide +kernel
theorem dX6_isEngaged_16 : decode cX6_isEngaged 16 = .ok (.iconst (-1), 1) := by decide +kernel
theorem dX6_isEngaged_17 : decode cX6_isEngaged 17 = .ok (.if_icmp .ne 12, 3) := by decide +kernel
theorem dX6_isEngaged_20 : decode cX6_isEngaged 20 = .ok (.aload_n 0, 1) := by decide +kernel
theorem dX6_isEngaged_21 : decode cX6_isEngaged 21 = .ok (.iload_n 1, 1) := by decide +kernel
theorem dX6_isEngaged_22 : decode cX6_isEngaged 22 = .ok (.invokevirtual 193, 3) := by decide +kernel
theorem dX6_isEngaged_25 : decode cX6_isEngaged 25 = .ok (.iconst (-1), 1) := by decide +kernel
theorem dX6_isEngaged_26 : decode cX6_isEngaged 26 = .ok (.if_icmp .eq 7, 3) := by decide +kernel
theorem dX6_isEngaged_29 : decode cX6_isEngaged 29 = .ok (.iconst 1, 1) := by decide +kernel
theorem dX6_isEngaged_30 : decode cX6_isEngaged 30 = .ok (.goto 4, 3) := by decide +kernel
theorem dX6_isEngaged_33 : decode cX6_isEngaged 33 = .ok (.iconst 0, 1) := by decide +kernel
theorem dX6_isEngaged_34 : decode cX6_isEngaged 34 = .ok (.ireturn, 1) := by decide +kernel
theorem dX6_countOf_0 : decode cX6_countOf 0 = .ok (.iconst 0, 1) := by decide +kernel
theorem dX6_countOf_1 : decode cX6_countOf 1 = .ok (.istore_n 2, 1) := by decide +kernel
theorem dX6_countOf_2 : decode cX6_countOf 2 = .ok (.iconst 0, 1) := by decide +kernel
theorem dX6_countOf_3 : decode cX6_countOf 3 = .ok (.istore_n 3, 1) := by decide +kernel
theorem dX6_countOf_4 : decode cX6_countOf 4 = .ok (.iload_n 3, 1) := by decide +kernel
theorem dX6_countOf_5 : decode cX6_countOf 5 = .ok (.aload_n 0, 1) := by decide +kernel
theorem dX6_countOf_6 : decode cX6_countOf 6 = .ok (.getfield 17, 3) := by decide +kernel
theorem dX6_countOf_9 : decode cX6_countOf 9 = .ok (.bipush 6, 2) := by decide +kernel
theorem dX6_countOf_11 : decode cX6_countOf 11 = .ok (.iaload, 1) := by decide +kernel
theorem dX6_countOf_12 : decode cX6_countOf 12 = .ok (.if_icmp .ge 26, 3) := by decide +kernel
theorem dX6_countOf_15 : decode cX6_countOf 15 = .ok (.iload_n 2, 1) := by decide +kernel
theorem dX6_countOf_16 : decode cX6_countOf 16 = .ok (.aload_n 0, 1) := by decide +kernel
theorem dX6_countOf_17 : decode cX6_countOf 17 = .ok (.iload_n 3, 1) := by decide +kernel
theorem dX6_countOf_18 : decode cX6_countOf 18 = .ok (.iload_n 1, 1) := by decide +kernel
theorem dX6_countOf_19 : decode cX6_countOf 19 = .ok (.invokevirtual 180, 3) := by decide +kernel
theorem dX6_countOf_22 : decode cX6_countOf 22 = .ok (.ifCond .eq 7, 3) := by decide +kernel
theorem dX6_countOf_25 : decode cX6_countOf 25 = .ok (.iconst 1, 1) := by decide +kernel
theorem dX6_countOf_26 : decode cX6_countOf 26 = .ok (.goto 4, 3) := by decide +kernel
theorem dX6_countOf_29 : decode cX6_countOf 29 = .ok (.iconst 0, 1) := by decide +kernel
theorem dX6_countOf_30 : decode cX6_countOf 30 = .ok (.iadd, 1) := by decide +kernel
theorem dX6_countOf_31 : decode cX6_countOf 31 = .ok (.istore_n 2, 1) := by decide +kernel
theorem dX6_countOf_32 : decode cX6_countOf 32 = .ok (.iinc 3 1, 3) := by decide +kernel
theorem dX6_countOf_35 : decode cX6_countOf 35 = .ok (.goto (-31), 3) := by decide +kernel
theorem dX6_countOf_38 : decode cX6_countOf 38 = .ok (.iload_n 2, 1) := by decide +kernel
theorem dX6_countOf_39 : decode cX6_countOf 39 = .ok (.ireturn, 1) := by decide +kernel
theorem dX6_rungAt_0 : decode cX6_rungAt 0 = .ok (.iconst 0, 1) := by decide +kernel
theorem dX6_rungAt_1 : decode cX6_rungAt 1 = .ok (.istore_n 2, 1) := by decide +kernel
theorem dX6_rungAt_2 : decode cX6_rungAt 2 = .ok (.iconst 0, 1) := by decide +kernel
theorem dX6_rungAt_3 : decode cX6_rungAt 3 = .ok (.istore_n 3, 1) := by decide +kernel
theorem dX6_rungAt_4 : decode cX6_rungAt 4 = .ok (.iload_n 3, 1) := by decide +kernel
theorem dX6_rungAt_5 : decode cX6_rungAt 5 = .ok (.aload_n 0, 1) := by decide +kernel
theorem dX6_rungAt_6 : decode cX6_rungAt 6 = .ok (.getfield 17, 3) := by decide +kernel
theorem dX6_rungAt_9 : decode cX6_rungAt 9 = .ok (.bipush 6, 2) := by decide +kernel
theorem dX6_rungAt_11 : decode cX6_rungAt 11 = .ok (.iaload, 1) := by decide +kernel
theorem dX6_rungAt_12 : decode cX6_rungAt 12 = .ok (.if_icmp .ge 36, 3) := by decide +kernel
theorem dX6_rungAt_15 : decode cX6_rungAt 15 = .ok (.iload_n 2, 1) := by decide +kernel
theorem dX6_rungAt_16 : decode cX6_rungAt 16 = .ok (.aload_n 0, 1) := by decide +kernel
theorem dX6_rungAt_17 : decode cX6_rungAt 17 = .ok (.iload_n 3, 1) := by decide +kernel
theorem dX6_rungAt_18 : decode cX6_rungAt 18 = .ok (.iconst 0, 1) := by decide +kernel
theorem dX6_rungAt_19 : decode cX6_rungAt 19 = .ok (.invokevirtual 180, 3) := by decide +kernel
theorem dX6_rungAt_22 : decode cX6_rungAt 22 = .ok (.ifCond .eq 17, 3) := by decide +kernel
theorem dX6_rungAt_25 : decode cX6_rungAt 25 = .ok (.aload_n 0, 1) := by decide +kernel
theorem dX6_rungAt_26 : decode cX6_rungAt 26 = .ok (.iload_n 3, 1) := by decide +kernel
theorem dX6_rungAt_27 : decode cX6_rungAt 27 = .ok (.iconst 1, 1) := by decide +kernel
theorem dX6_rungAt_28 : decode cX6_rungAt 28 = .ok (.invokevirtual 171, 3) := by decide +kernel
theorem dX6_rungAt_31 : decode cX6_rungAt 31 = .ok (.iload_n 1, 1) := by decide +kernel
theorem dX6_rungAt_32 : decode cX6_rungAt 32 = .ok (.if_icmp .ne 7, 3) := by decide +kernel
theorem dX6_rungAt_35 : decode cX6_rungAt 35 = .ok (.iconst 1, 1) := by decide +kernel
theorem dX6_rungAt_36 : decode cX6_rungAt 36 = .ok (.goto 4, 3) := by decide +kernel
theorem dX6_rungAt_39 : decode cX6_rungAt 39 = .ok (.iconst 0, 1) := by decide +kernel
theorem dX6_rungAt_40 : decode cX6_rungAt 40 = .ok (.iadd, 1) := by decide +kernel
theorem dX6_rungAt_41 : decode cX6_rungAt 41 = .ok (.istore_n 2, 1) := by decide +kernel
theorem dX6_rungAt_42 : decode cX6_rungAt 42 = .ok (.iinc 3 1, 3) := by decide +kernel
theorem dX6_rungAt_45 : decode cX6_rungAt 45 = .ok (.goto (-41), 3) := by decide +kernel
theorem dX6_rungAt_48 : decode cX6_rungAt 48 = .ok (.iload_n 2, 1) := by decide +kernel
theorem dX6_rungAt_49 : decode cX6_rungAt 49 = .ok (.ireturn, 1) := by decide +kernel
theorem dX6_adds_0 : decode cX6_adds 0 = .ok (.aload_n 0, 1) := by decide +kernel
theorem dX6_adds_1 : decode cX6_adds 1 = .ok (.getfield 17, 3) := by decide +kernel
theorem dX6_adds_4 : decode cX6_adds 4 = .ok (.bipush 9, 2) := by decide +kernel
theorem dX6_adds_6 : decode cX6_adds 6 = .ok (.iload_n 1, 1) := by decide +kernel
theorem dX6_adds_7 : decode cX6_adds 7 = .ok (.iadd, 1) := by decide +kernel
theorem dX6_adds_8 : decode cX6_adds 8 = .ok (.dup2, 1) := by decide +kernel
theorem dX6_adds_9 : decode cX6_adds 9 = .ok (.iaload, 1) := by decide +kernel
theorem dX6_adds_10 : decode cX6_adds 10 = .ok (.iconst 1, 1) := by decide +kernel
theorem dX6_adds_11 : decode cX6_adds 11 = .ok (.iadd, 1) := by decide +kernel
theorem dX6_adds_12 : decode cX6_adds 12 = .ok (.iastore, 1) := by decide +kernel
theorem dX6_adds_13 : decode cX6_adds 13 = .ok (.return_, 1) := by decide +kernel
theorem dX6_withoutOffers_0 : decode cX6_withoutOffers 0 = .ok (.iload_n 1, 1) := by decide +kernel
theorem dX6_withoutOffers_1 : decode cX6_withoutOffers 1 = .ok (.invokestatic 168, 3) := by decide +kernel
theorem dX6_withoutOffers_4 : decode cX6_withoutOffers 4 = .ok (.istore_n 2, 1) := by decide +kernel
theorem dX6_withoutOffers_5 : decode cX6_withoutOffers 5 = .ok (.aload_n 0, 1) := by decide +kernel
theorem dX6_withoutOffers_6 : decode cX6_withoutOffers 6 = .ok (.getfield 17, 3) := by decide +kernel
theorem dX6_withoutOffers_9 : decode cX6_withoutOffers 9 = .ok (.iload_n 2, 1) := by decide +kernel
theorem dX6_withoutOffers_10 : decode cX6_withoutOffers 10 = .ok (.bipush 6, 2) := by decide +kernel
theorem dX6_withoutOffers_12 : decode cX6_withoutOffers 12 = .ok (.iadd, 1) := by decide +kernel
theorem dX6_withoutOffers_13 : decode cX6_withoutOffers 13 = .ok (.iconst (-1), 1) := by decide +kernel
theorem dX6_withoutOffers_14 : decode cX6_withoutOffers 14 = .ok (.iastore, 1) := by decide +kernel
theorem dX6_withoutOffers_15 : decode cX6_withoutOffers 15 = .ok (.aload_n 0, 1) := by decide +kernel
theorem dX6_withoutOffers_16 : decode cX6_withoutOffers 16 = .ok (.getfield 17, 3) := by decide +kernel
theorem dX6_withoutOffers_19 : decode cX6_withoutOffers 19 = .ok (.iload_n 2, 1) := by decide +kernel
theorem dX6_withoutOffers_20 : decode cX6_withoutOffers 20 = .ok (.bipush 9, 2) := by decide +kernel
theorem dX6_withoutOffers_22 : decode cX6_withoutOffers 22 = .ok (.iadd, 1) := by decide +kernel
theorem dX6_withoutOffers_23 : decode cX6_withoutOffers 23 = .ok (.iconst (-1), 1) := by decide +kernel
theorem dX6_withoutOffers_24 : decode cX6_withoutOffers 24 = .ok (.iastore, 1) := by decide +kernel
theorem dX6_withoutOffers_25 : decode cX6_withoutOffers 25 = .ok (.aload_n 0, 1) := by decide +kernel
theorem dX6_withoutOffers_26 : decode cX6_withoutOffers 26 = .ok (.getfield 17, 3) := by decide +kernel
theorem dX6_withoutOffers_29 : decode cX6_withoutOffers 29 = .ok (.iload_n 2, 1) := by decide +kernel
theorem dX6_withoutOffers_30 : decode cX6_withoutOffers 30 = .ok (.bipush 9, 2) := by decide +kernel
theorem dX6_withoutOffers_32 : decode cX6_withoutOffers 32 = .ok (.iadd, 1) := by decide +kernel
theorem dX6_withoutOffers_33 : decode cX6_withoutOffers 33 = .ok (.iconst 1, 1) := by decide +kernel
theorem dX6_withoutOffers_34 : decode cX6_withoutOffers 34 = .ok (.iadd, 1) := by decide +kernel
theorem dX6_withoutOffers_35 : decode cX6_withoutOffers 35 = .ok (.iconst (-1), 1) := by decide +kernel
theorem dX6_withoutOffers_36 : decode cX6_withoutOffers 36 = .ok (.iastore, 1) := by decide +kernel
theorem dX6_withoutOffers_37 : decode cX6_withoutOffers 37 = .ok (.return_, 1) := by decide +kernel
theorem dX6_end_0 : decode cX6_end 0 = .ok (.aload_n 0, 1) := by decide +kernel
theorem dX6_end_1 : decode cX6_end 1 = .ok (.getfield 17, 3) := by decide +kernel
theorem dX6_end_4 : decode cX6_end 4 = .ok (.iload_n 1, 1) := by decide +kernel
theorem dX6_end_5 : decode cX6_end 5 = .ok (.invokestatic 168, 3) := by decide +kernel
theorem dX6_end_8 : decode cX6_end 8 = .ok (.iconst 2, 1) := by decide +kernel
theorem dX6_end_9 : decode cX6_end 9 = .ok (.iadd, 1) := by decide +kernel
theorem dX6_end_10 : decode cX6_end 10 = .ok (.iconst 3, 1) := by decide +kernel
theorem dX6_end_11 : decode cX6_end 11 = .ok (.iastore, 1) := by decide +kernel
theorem dX6_end_12 : decode cX6_end 12 = .ok (.aload_n 0, 1) := by decide +kernel
theorem dX6_end_13 : decode cX6_end 13 = .ok (.getfield 17, 3) := by decide +kernel
theorem dX6_end_16 : decode cX6_end 16 = .ok (.iload_n 1, 1) := by decide +kernel
theorem dX6_end_17 : decode cX6_end 17 = .ok (.invokestatic 168, 3) := by decide +kernel
theorem dX6_end_20 : decode cX6_end 20 = .ok (.iconst 3, 1) := by decide +kernel
theorem dX6_end_21 : decode cX6_end 21 = .ok (.iadd, 1) := by decide +kernel
theorem dX6_end_22 : decode cX6_end 22 = .ok (.iload_n 2, 1) := by decide +kernel
theorem dX6_end_23 : decode cX6_end 23 = .ok (.iastore, 1) := by decide +kernel
theorem dX6_end_24 : decode cX6_end 24 = .ok (.aload_n 0, 1) := by decide +kernel
theorem dX6_end_25 : decode cX6_end 25 = .ok (.iload_n 1, 1) := by decide +kernel
theorem dX6_end_26 : decode cX6_end 26 = .ok (.invokevirtual 196, 3) := by decide +kernel
theorem dX6_end_29 : decode cX6_end 29 = .ok (.return_, 1) := by decide +kernel
theorem dX6_takeBack_0 : decode cX6_takeBack 0 = .ok (.aload_n 0, 1) := by decide +kernel
theorem dX6_takeBack_1 : decode cX6_takeBack 1 = .ok (.iload_n 1, 1) := by decide +kernel
theorem dX6_takeBack_2 : decode cX6_takeBack 2 = .ok (.iconst 3, 1) := by decide +kernel
theorem dX6_takeBack_3 : decode cX6_takeBack 3 = .ok (.invokevirtual 174, 3) := by decide +kernel
theorem dX6_takeBack_6 : decode cX6_takeBack 6 = .ok (.istore_n 2, 1) := by decide +kernel
theorem dX6_takeBack_7 : decode cX6_takeBack 7 = .ok (.iload_n 2, 1) := by decide +kernel
theorem dX6_takeBack_8 : decode cX6_takeBack 8 = .ok (.iconst (-1), 1) := by decide +kernel
theorem dX6_takeBack_9 : decode cX6_takeBack 9 = .ok (.if_icmp .eq 24, 3) := by decide +kernel
theorem dX6_takeBack_12 : decode cX6_takeBack 12 = .ok (.aload_n 0, 1) := by decide +kernel
theorem dX6_takeBack_13 : decode cX6_takeBack 13 = .ok (.iload_n 2, 1) := by decide +kernel
theorem dX6_takeBack_14 : decode cX6_takeBack 14 = .ok (.iconst 2, 1) := by decide +kernel
theorem dX6_takeBack_15 : decode cX6_takeBack 15 = .ok (.invokevirtual 180, 3) := by decide +kernel
theorem dX6_takeBack_18 : decode cX6_takeBack 18 = .ok (.ifCond .eq 15, 3) := by decide +kernel
theorem dX6_takeBack_21 : decode cX6_takeBack 21 = .ok (.aload_n 0, 1) := by decide +kernel
theorem dX6_takeBack_22 : decode cX6_takeBack 22 = .ok (.getfield 17, 3) := by decide +kernel
theorem dX6_takeBack_25 : decode cX6_takeBack 25 = .ok (.iload_n 2, 1) := by decide +kernel
theorem dX6_takeBack_26 : decode cX6_takeBack 26 = .ok (.invokestatic 168, 3) := by decide +kernel
theorem dX6_takeBack_29 : decode cX6_takeBack 29 = .ok (.iconst 2, 1) := by decide +kernel
theorem dX6_takeBack_30 : decode cX6_takeBack 30 = .ok (.iadd, 1) := by decide +kernel
theorem dX6_takeBack_31 : decode cX6_takeBack 31 = .ok (.iconst 1, 1) := by decide +kernel
theorem dX6_takeBack_32 : decode cX6_takeBack 32 = .ok (.iastore, 1) := by decide +kernel
theorem dX6_takeBack_33 : decode cX6_takeBack 33 = .ok (.return_, 1) := by decide +kernel
theorem dX6_failCall_0 : decode cX6_failCall 0 = .ok (.aload_n 0, 1) := by decide +kernel
theorem dX6_failCall_1 : decode cX6_failCall 1 = .ok (.iconst 5, 1) := by decide +kernel
theorem dX6_failCall_2 : decode cX6_failCall 2 = .ok (.invokevirtual 199, 3) := by decide +kernel
theorem dX6_failCall_5 : decode cX6_failCall 5 = .ok (.aload_n 0, 1) := by decide +kernel
theorem dX6_failCall_6 : decode cX6_failCall 6 = .ok (.iload_n 1, 1) := by decide +kernel
theorem dX6_failCall_7 : decode cX6_failCall 7 = .ok (.invokevirtual 202, 3) := by decide +kernel
theorem dX6_failCall_10 : decode cX6_failCall 10 = .ok (.return_, 1) := by decide +kernel
theorem dX6_endAll_0 : decode cX6_endAll 0 = .ok (.iconst 0, 1) := by decide +kernel
theorem dX6_endAll_1 : decode cX6_endAll 1 = .ok (.istore 4, 2) := by decide +kernel
theorem dX6_endAll_3 : decode cX6_endAll 3 = .ok (.iload 4, 2) := by decide +kernel
theorem dX6_endAll_5 : decode cX6_endAll 5 = .ok (.aload_n 0, 1) := by decide +kernel
theorem dX6_endAll_6 : decode cX6_endAll 6 = .ok (.getfield 17, 3) := by decide +kernel
theorem dX6_endAll_9 : decode cX6_endAll 9 = .ok (.bipush 6, 2) := by decide +kernel
theorem dX6_endAll_11 : decode cX6_endAll 11 = .ok (.iaload, 1) := by decide +kernel
theorem dX6_endAll_12 : decode cX6_endAll 12 = .ok (.if_icmp .ge 43, 3) := by decide +kernel
theorem dX6_endAll_15 : decode cX6_endAll 15 = .ok (.iload 4, 2) := by decide +kernel
theorem dX6_endAll_17 : decode cX6_endAll 17 = .ok (.iload_n 2, 1) := by decide +kernel
theorem dX6_endAll_18 : decode cX6_endAll 18 = .ok (.if_icmp .eq 31, 3) := by decide +kernel
theorem dX6_endAll_21 : decode cX6_endAll 21 = .ok (.aload_n 0, 1) := by decide +kernel
theorem dX6_endAll_22 : decode cX6_endAll 22 = .ok (.iload 4, 2) := by decide +kernel
theorem dX6_endAll_24 : decode cX6_endAll 24 = .ok (.iconst 0, 1) := by decide +kernel
theorem dX6_endAll_25 : decode cX6_endAll 25 = .ok (.invokevirtual 171, 3) := by decide +kernel
theorem dX6_endAll_28 : decode cX6_endAll 28 = .ok (.iload_n 1, 1) := by decide +kernel
theorem dX6_endAll_29 : decode cX6_endAll 29 = .ok (.if_icmp .ne 20, 3) := by decide +kernel
theorem dX6_endAll_32 : decode cX6_endAll 32 = .ok (.aload_n 0, 1) := by decide +kernel
theorem dX6_endAll_33 : decode cX6_endAll 33 = .ok (.iload 4, 2) := by decide +kernel
theorem dX6_endAll_35 : decode cX6_endAll 35 = .ok (.iconst 0, 1) := by decide +kernel
theorem dX6_endAll_36 : decode cX6_endAll 36 = .ok (.invokevirtual 180, 3) := by decide +kernel
theorem dX6_endAll_39 : decode cX6_endAll 39 = .ok (.ifCond .eq 10, 3) := by decide +kernel
theorem dX6_endAll_42 : decode cX6_endAll 42 = .ok (.aload_n 0, 1) := by decide +kernel
theorem dX6_endAll_43 : decode cX6_endAll 43 = .ok (.iload 4, 2) := by decide +kernel
theorem dX6_endAll_45 : decode cX6_endAll 45 = .ok (.iload_n 3, 1) := by decide +kernel
theorem dX6_endAll_46 : decode cX6_endAll 46 = .ok (.invokevirtual 205, 3) := by decide +kernel
theorem dX6_endAll_49 : decode cX6_endAll 49 = .ok (.iinc 4 1, 3) := by decide +kernel
theorem dX6_endAll_52 : decode cX6_endAll 52 = .ok (.goto (-49), 3) := by decide +kernel
theorem dX6_endAll_55 : decode cX6_endAll 55 = .ok (.return_, 1) := by decide +kernel
theorem dX6_endAllTo_0 : decode cX6_endAllTo 0 = .ok (.lconst 0, 1) := by decide +kernel
theorem dX6_endAllTo_1 : decode cX6_endAllTo 1 = .ok (.lstore_n 3, 1) := by decide +kernel
theorem dX6_endAllTo_2 : decode cX6_endAllTo 2 = .ok (.iconst 0, 1) := by decide +kernel
theorem dX6_endAllTo_3 : decode cX6_endAllTo 3 = .ok (.istore 5, 2) := by decide +kernel
theorem dX6_endAllTo_5 : decode cX6_endAllTo 5 = .ok (.iload 5, 2) := by decide +kernel
theorem dX6_endAllTo_7 : decode cX6_endAllTo 7 = .ok (.aload_n 0, 1) := by decide +kernel
theorem dX6_endAllTo_8 : decode cX6_endAllTo 8 = .ok (.getfield 17, 3) := by decide +kernel
theorem dX6_endAllTo_11 : decode cX6_endAllTo 11 = .ok (.bipush 6, 2) := by decide +kernel
theorem dX6_endAllTo_13 : decode cX6_endAllTo 13 = .ok (.iaload, 1) := by decide +kernel
theorem dX6_endAllTo_14 : decode cX6_endAllTo 14 = .ok (.if_icmp .ge 52, 3) := by decide +kernel
theorem dX6_endAllTo_17 : decode cX6_endAllTo 17 = .ok (.aload_n 0, 1) := by decide +kernel
theorem dX6_endAllTo_18 : decode cX6_endAllTo 18 = .ok (.iload 5, 2) := by decide +kernel
theorem dX6_endAllTo_20 : decode cX6_endAllTo 20 = .ok (.iconst 1, 1) := by decide +kernel
theorem dX6_endAllTo_21 : decode cX6_endAllTo 21 = .ok (.invokevirtual 171, 3) := by decide +kernel
theorem dX6_endAllTo_24 : decode cX6_endAllTo 24 = .ok (.iload_n 1, 1) := by decide +kernel
theorem dX6_endAllTo_25 : decode cX6_endAllTo 25 = .ok (.if_icmp .ne 35, 3) := by decide +kernel
theorem dX6_endAllTo_28 : decode cX6_endAllTo 28 = .ok (.aload_n 0, 1) := by decide +kernel
theorem dX6_endAllTo_29 : decode cX6_endAllTo 29 = .ok (.iload 5, 2) := by decide +kernel
theorem dX6_endAllTo_31 : decode cX6_endAllTo 31 = .ok (.iconst 0, 1) := by decide +kernel
theorem dX6_endAllTo_32 : decode cX6_endAllTo 32 = .ok (.invokevirtual 180, 3) := by decide +kernel
theorem dX6_endAllTo_35 : decode cX6_endAllTo 35 = .ok (.ifCond .ne 6, 3) := by decide +kernel
theorem dX6_endAllTo_38 : decode cX6_endAllTo 38 = .ok (.goto 22, 3) := by decide +kernel
theorem dX6_endAllTo_41 : decode cX6_endAllTo 41 = .ok (.aload_n 0, 1) := by decide +kernel
theorem dX6_endAllTo_42 : decode cX6_endAllTo 42 = .ok (.iload 5, 2) := by decide +kernel
theorem dX6_endAllTo_44 : decode cX6_endAllTo 44 = .ok (.iload_n 2, 1) := by decide +kernel
theorem dX6_endAllTo_45 : decode cX6_endAllTo 45 = .ok (.invokevirtual 205, 3) := by decide +kernel
theorem dX6_endAllTo_48 : decode cX6_endAllTo 48 = .ok (.lload_n 3, 1) := by decide +kernel
theorem dX6_endAllTo_49 : decode cX6_endAllTo 49 = .ok (.lconst 1, 1) := by decide +kernel
theorem dX6_endAllTo_50 : decode cX6_endAllTo 50 = .ok (.aload_n 0, 1) := by decide +kernel
theorem dX6_endAllTo_51 : decode cX6_endAllTo 51 = .ok (.iload 5, 2) := by decide +kernel
theorem dX6_endAllTo_53 : decode cX6_endAllTo 53 = .ok (.iconst 0, 1) := by decide +kernel
theorem dX6_endAllTo_54 : decode cX6_endAllTo 54 = .ok (.invokevirtual 171, 3) := by decide +kernel
theorem dX6_endAllTo_57 : decode cX6_endAllTo 57 = .ok (.lshl, 1) := by decide +kernel
theorem dX6_endAllTo_58 : decode cX6_endAllTo 58 = .ok (.lor, 1) := by decide +kernel
theorem dX6_endAllTo_59 : decode cX6_endAllTo 59 = .ok (.lstore_n 3, 1) := by decide +kernel
theorem dX6_endAllTo_60 : decode cX6_endAllTo 60 = .ok (.iinc 5 1, 3) := by decide +kernel
theorem dX6_endAllTo_63 : decode cX6_endAllTo 63 = .ok (.goto (-58), 3) := by decide +kernel
theorem dX6_endAllTo_66 : decode cX6_endAllTo 66 = .ok (.iconst 0, 1) := by decide +kernel
theorem dX6_endAllTo_67 : decode cX6_endAllTo 67 = .ok (.istore 5, 2) := by decide +kernel
theorem dX6_endAllTo_69 : decode cX6_endAllTo 69 = .ok (.iload 5, 2) := by decide +kernel
theorem dX6_endAllTo_71 : decode cX6_endAllTo 71 = .ok (.aload_n 0, 1) := by decide +kernel
theorem dX6_endAllTo_72 : decode cX6_endAllTo 72 = .ok (.getfield 17, 3) := by decide +kernel
theorem dX6_endAllTo_75 : decode cX6_endAllTo 75 = .ok (.iconst 5, 1) := by decide +kernel
theorem dX6_endAllTo_76 : decode cX6_endAllTo 76 = .ok (.iaload, 1) := by decide +kernel
theorem dX6_endAllTo_77 : decode cX6_endAllTo 77 = .ok (.if_icmp .ge 35, 3) := by decide +kernel
theorem dX6_endAllTo_80 : decode cX6_endAllTo 80 = .ok (.lload_n 3, 1) := by decide +kernel
theorem dX6_endAllTo_81 : decode cX6_endAllTo 81 = .ok (.iload 5, 2) := by decide +kernel
theorem dX6_endAllTo_83 : decode cX6_endAllTo 83 = .ok (.lshr, 1) := by decide +kernel
theorem dX6_endAllTo_84 : decode cX6_endAllTo 84 = .ok (.lconst 1, 1) := by decide +kernel
theorem dX6_endAllTo_85 : decode cX6_endAllTo 85 = .ok (.land, 1) := by decide +kernel
theorem dX6_endAllTo_86 : decode cX6_endAllTo 86 = .ok (.lconst 1, 1) := by decide +kernel
theorem dX6_endAllTo_87 : decode cX6_endAllTo 87 = .ok (.lcmp, 1) := by decide +kernel
theorem dX6_endAllTo_88 : decode cX6_endAllTo 88 = .ok (.ifCond .ne 18, 3) := by decide +kernel
theorem dX6_endAllTo_91 : decode cX6_endAllTo 91 = .ok (.aload_n 0, 1) := by decide +kernel
theorem dX6_endAllTo_92 : decode cX6_endAllTo 92 = .ok (.iload 5, 2) := by decide +kernel
theorem dX6_endAllTo_94 : decode cX6_endAllTo 94 = .ok (.invokevirtual 187, 3) := by decide +kernel
theorem dX6_endAllTo_97 : decode cX6_endAllTo 97 = .ok (.ifCond .ne 9, 3) := by decide +kernel
theorem dX6_endAllTo_100 : decode cX6_endAllTo 100 = .ok (.aload_n 0, 1) := by decide +kernel
theorem dX6_endAllTo_101 : decode cX6_endAllTo 101 = .ok (.iload 5, 2) := by decide +kernel
theorem dX6_endAllTo_103 : decode cX6_endAllTo 103 = .ok (.invokevirtual 208, 3) := by decide +kernel
theorem dX6_endAllTo_106 : decode cX6_endAllTo 106 = .ok (.iinc 5 1, 3) := by decide +kernel
theorem dX6_endAllTo_109 : decode cX6_endAllTo 109 = .ok (.goto (-40), 3) := by decide +kernel
theorem dX6_endAllTo_112 : decode cX6_endAllTo 112 = .ok (.return_, 1) := by decide +kernel
theorem dX6_answer_0 : decode cX6_answer 0 = .ok (.aload_n 0, 1) := by decide +kernel
theorem dX6_answer_1 : decode cX6_answer 1 = .ok (.iload_n 1, 1) := by decide +kernel
theorem dX6_answer_2 : decode cX6_answer 2 = .ok (.iconst 0, 1) := by decide +kernel
theorem dX6_answer_3 : decode cX6_answer 3 = .ok (.invokevirtual 171, 3) := by decide +kernel
theorem dX6_answer_6 : decode cX6_answer 6 = .ok (.istore_n 2, 1) := by decide +kernel
theorem dX6_answer_7 : decode cX6_answer 7 = .ok (.aload_n 0, 1) := by decide +kernel
theorem dX6_answer_8 : decode cX6_answer 8 = .ok (.iload_n 2, 1) := by decide +kernel
theorem dX6_answer_9 : decode cX6_answer 9 = .ok (.iconst 3, 1) := by decide +kernel
theorem dX6_answer_10 : decode cX6_answer 10 = .ok (.invokevirtual 174, 3) := by decide +kernel
theorem dX6_answer_13 : decode cX6_answer 13 = .ok (.istore_n 3, 1) := by decide +kernel
theorem dX6_answer_14 : decode cX6_answer 14 = .ok (.aload_n 0, 1) := by decide +kernel
theorem dX6_answer_15 : decode cX6_answer 15 = .ok (.getfield 17, 3) := by decide +kernel
theorem dX6_answer_18 : decode cX6_answer 18 = .ok (.iload_n 1, 1) := by decide +kernel
theorem dX6_answer_19 : decode cX6_answer 19 = .ok (.invokestatic 168, 3) := by decide +kernel
theorem dX6_answer_22 : decode cX6_answer 22 = .ok (.iconst 2, 1) := by decide +kernel
theorem dX6_answer_23 : decode cX6_answer 23 = .ok (.iadd, 1) := by decide +kernel
theorem dX6_answer_24 : decode cX6_answer 24 = .ok (.iconst 1, 1) := by decide +kernel
theorem dX6_answer_25 : decode cX6_answer 25 = .ok (.iastore, 1) := by decide +kernel
theorem dX6_answer_26 : decode cX6_answer 26 = .ok (.aload_n 0, 1) := by decide +kernel
theorem dX6_answer_27 : decode cX6_answer 27 = .ok (.getfield 17, 3) := by decide +kernel
theorem dX6_answer_30 : decode cX6_answer 30 = .ok (.iload_n 2, 1) := by decide +kernel
theorem dX6_answer_31 : decode cX6_answer 31 = .ok (.invokestatic 165, 3) := by decide +kernel
theorem dX6_answer_34 : decode cX6_answer 34 = .ok (.iconst 4, 1) := by decide +kernel
theorem dX6_answer_35 : decode cX6_answer 35 = .ok (.iadd, 1) := by decide +kernel
theorem dX6_answer_36 : decode cX6_answer 36 = .ok (.iload_n 1, 1) := by decide +kernel
theorem dX6_answer_37 : decode cX6_answer 37 = .ok (.iastore, 1) := by decide +kernel
theorem dX6_answer_38 : decode cX6_answer 38 = .ok (.aload_n 0, 1) := by decide +kernel
theorem dX6_answer_39 : decode cX6_answer 39 = .ok (.iconst 4, 1) := by decide +kernel
theorem dX6_answer_40 : decode cX6_answer 40 = .ok (.invokevirtual 199, 3) := by decide +kernel
theorem dX6_answer_43 : decode cX6_answer 43 = .ok (.aload_n 0, 1) := by decide +kernel
theorem dX6_answer_44 : decode cX6_answer 44 = .ok (.iload_n 2, 1) := by decide +kernel
theorem dX6_answer_45 : decode cX6_answer 45 = .ok (.iload_n 1, 1) := by decide +kernel
theorem dX6_answer_46 : decode cX6_answer 46 = .ok (.iconst 2, 1) := by decide +kernel
theorem dX6_answer_47 : decode cX6_answer 47 = .ok (.invokevirtual 211, 3) := by decide +kernel
theorem dX6_answer_50 : decode cX6_answer 50 = .ok (.aload_n 0, 1) := by decide +kernel
theorem dX6_answer_51 : decode cX6_answer 51 = .ok (.aload_n 0, 1) := by decide +kernel
theorem dX6_answer_52 : decode cX6_answer 52 = .ok (.iload_n 1, 1) := by decide +kernel
theorem dX6_answer_53 : decode cX6_answer 53 = .ok (.iconst 1, 1) := by decide +kernel
theorem dX6_answer_54 : decode cX6_answer 54 = .ok (.invokevirtual 171, 3) := by decide +kernel
theorem dX6_answer_57 : decode cX6_answer 57 = .ok (.iconst 1, 1) := by decide +kernel
theorem dX6_answer_58 : decode cX6_answer 58 = .ok (.invokevirtual 215, 3) := by decide +kernel
theorem dX6_answer_61 : decode cX6_answer 61 = .ok (.iload_n 3, 1) := by decide +kernel
theorem dX6_answer_62 : decode cX6_answer 62 = .ok (.iconst (-1), 1) := by decide +kernel
theorem dX6_answer_63 : decode cX6_answer 63 = .ok (.if_icmp .eq 12, 3) := by decide +kernel
theorem dX6_answer_66 : decode cX6_answer 66 = .ok (.aload_n 0, 1) := by decide +kernel
theorem dX6_answer_67 : decode cX6_answer 67 = .ok (.iload_n 3, 1) := by decide +kernel
theorem dX6_answer_68 : decode cX6_answer 68 = .ok (.iconst 2, 1) := by decide +kernel
theorem dX6_answer_69 : decode cX6_answer 69 = .ok (.invokevirtual 180, 3) := by decide +kernel
theorem dX6_answer_72 : decode cX6_answer 72 = .ok (.ifCond .ne 4, 3) := by decide +kernel
theorem dX6_answer_75 : decode cX6_answer 75 = .ok (.return_, 1) := by decide +kernel
theorem dX6_answer_76 : decode cX6_answer 76 = .ok (.aload_n 0, 1) := by decide +kernel
theorem dX6_answer_77 : decode cX6_answer 77 = .ok (.iload_n 3, 1) := by decide +kernel
theorem dX6_answer_78 : decode cX6_answer 78 = .ok (.bipush 7, 2) := by decide +kernel
theorem dX6_answer_80 : decode cX6_answer 80 = .ok (.invokevirtual 205, 3) := by decide +kernel
theorem dX6_answer_83 : decode cX6_answer 83 = .ok (.aload_n 0, 1) := by decide +kernel
theorem dX6_answer_84 : decode cX6_answer 84 = .ok (.bipush 6, 2) := by decide +kernel
theorem dX6_answer_86 : decode cX6_answer 86 = .ok (.invokevirtual 199, 3) := by decide +kernel
theorem dX6_answer_89 : decode cX6_answer 89 = .ok (.return_, 1) := by decide +kernel
theorem dX6_limited_0 : decode cX6_limited 0 = .ok (.lload_n 0, 1) := by decide +kernel
theorem dX6_limited_1 : decode cX6_limited 1 = .ok (.ldc2_w 218, 3) := by decide +kernel
theorem dX6_limited_4 : decode cX6_limited 4 = .ok (.lcmp, 1) := by decide +kernel
theorem dX6_limited_5 : decode cX6_limited 5 = .ok (.ifCond .le 9, 3) := by decide +kernel
theorem dX6_limited_8 : decode cX6_limited 8 = .ok (.ldc2_w 218, 3) := by decide +kernel
theorem dX6_limited_11 : decode cX6_limited 11 = .ok (.goto 18, 3) := by decide +kernel
theorem dX6_limited_14 : decode cX6_limited 14 = .ok (.lload_n 0, 1) := by decide +kernel
theorem dX6_limited_15 : decode cX6_limited 15 = .ok (.ldc2_w 220, 3) := by decide +kernel
theorem dX6_limited_18 : decode cX6_limited 18 = .ok (.lcmp, 1) := by decide +kernel
theorem dX6_limited_19 : decode cX6_limited 19 = .ok (.ifCond .ge 9, 3) := by decide +kernel
theorem dX6_limited_22 : decode cX6_limited 22 = .ok (.ldc2_w 220, 3) := by decide +kernel
theorem dX6_limited_25 : decode cX6_limited 25 = .ok (.goto 4, 3) := by decide +kernel
theorem dX6_limited_28 : decode cX6_limited 28 = .ok (.lload_n 0, 1) := by decide +kernel
theorem dX6_limited_29 : decode cX6_limited 29 = .ok (.lreturn, 1) := by decide +kernel
theorem dX6_operate_0 : decode cX6_operate 0 = .ok (.iload_n 0, 1) := by decide +kernel
theorem dX6_operate_1 : decode cX6_operate 1 = .ok (.iconst 5, 1) := by decide +kernel
theorem dX6_operate_2 : decode cX6_operate 2 = .ok (.if_icmp .ne 17, 3) := by decide +kernel
theorem dX6_operate_5 : decode cX6_operate 5 = .ok (.lload_n 3, 1) := by decide +kernel
theorem dX6_operate_6 : decode cX6_operate 6 = .ok (.lconst 0, 1) := by decide +kernel
theorem dX6_operate_7 : decode cX6_operate 7 = .ok (.lcmp, 1) := by decide +kernel
theorem dX6_operate_8 : decode cX6_operate 8 = .ok (.ifCond .ne 7, 3) := by decide +kernel
theorem dX6_operate_11 : decode cX6_operate 11 = .ok (.lconst 0, 1) := by decide +kernel
theorem dX6_operate_12 : decode cX6_operate 12 = .ok (.goto 6, 3) := by decide +kernel
theorem dX6_operate_15 : decode cX6_operate 15 = .ok (.lload_n 1, 1) := by decide +kernel
theorem dX6_operate_16 : decode cX6_operate 16 = .ok (.lload_n 3, 1) := by decide +kernel
theorem dX6_operate_17 : decode cX6_operate 17 = .ok (.ldiv, 1) := by decide +kernel
theorem dX6_operate_18 : decode cX6_operate 18 = .ok (.lreturn, 1) := by decide +kernel
theorem dX6_operate_19 : decode cX6_operate 19 = .ok (.iload_n 0, 1) := by decide +kernel
theorem dX6_operate_20 : decode cX6_operate 20 = .ok (.iconst 2, 1) := by decide +kernel
theorem dX6_operate_21 : decode cX6_operate 21 = .ok (.if_icmp .ne 9, 3) := by decide +kernel
theorem dX6_operate_24 : decode cX6_operate 24 = .ok (.lload_n 1, 1) := by decide +kernel
theorem dX6_operate_25 : decode cX6_operate 25 = .ok (.lload_n 3, 1) := by decide +kernel
theorem dX6_operate_26 : decode cX6_operate 26 = .ok (.ladd, 1) := by decide +kernel
theorem dX6_operate_27 : decode cX6_operate 27 = .ok (.goto 17, 3) := by decide +kernel
theorem dX6_operate_30 : decode cX6_operate 30 = .ok (.iload_n 0, 1) := by decide +kernel
theorem dX6_operate_31 : decode cX6_operate 31 = .ok (.iconst 3, 1) := by decide +kernel
theorem dX6_operate_32 : decode cX6_operate 32 = .ok (.if_icmp .ne 9, 3) := by decide +kernel
theorem dX6_operate_35 : decode cX6_operate 35 = .ok (.lload_n 1, 1) := by decide +kernel
theorem dX6_operate_36 : decode cX6_operate 36 = .ok (.lload_n 3, 1) := by decide +kernel
theorem dX6_operate_37 : decode cX6_operate 37 = .ok (.lsub, 1) := by decide +kernel
theorem dX6_operate_38 : decode cX6_operate 38 = .ok (.goto 6, 3) := by decide +kernel
theorem dX6_operate_41 : decode cX6_operate 41 = .ok (.lload_n 1, 1) := by decide +kernel
theorem dX6_operate_42 : decode cX6_operate 42 = .ok (.lload_n 3, 1) := by decide +kernel
theorem dX6_operate_43 : decode cX6_operate 43 = .ok (.lmul, 1) := by decide +kernel
theorem dX6_operate_44 : decode cX6_operate 44 = .ok (.invokestatic 222, 3) := by decide +kernel
theorem dX6_operate_47 : decode cX6_operate 47 = .ok (.lreturn, 1) := by decide +kernel
theorem dX6_ringTime_0 : decode cX6_ringTime 0 = .ok (.iconst 0, 1) := by decide +kernel
theorem dX6_ringTime_1 : decode cX6_ringTime 1 = .ok (.istore 4, 2) := by decide +kernel
theorem dX6_ringTime_3 : decode cX6_ringTime 3 = .ok (.aload_n 0, 1) := by decide +kernel
theorem dX6_ringTime_4 : decode cX6_ringTime 4 = .ok (.getfield 31, 3) := by decide +kernel
theorem dX6_ringTime_7 : decode cX6_ringTime 7 = .ok (.iconst 0, 1) := by decide +kernel
theorem dX6_ringTime_8 : decode cX6_ringTime 8 = .ok (.ldc2_w 226, 3) := by decide +kernel
theorem dX6_ringTime_11 : decode cX6_ringTime 11 = .ok (.lastore, 1) := by decide +kernel
theorem dX6_ringTime_12 : decode cX6_ringTime 12 = .ok (.iconst 0, 1) := by decide +kernel
theorem dX6_ringTime_13 : decode cX6_ringTime 13 = .ok (.istore 5, 2) := by decide +kernel
theorem dX6_ringTime_15 : decode cX6_ringTime 15 = .ok (.iload 5, 2) := by decide +kernel
theorem dX6_ringTime_17 : decode cX6_ringTime 17 = .ok (.aload_n 0, 1) := by decide +kernel
theorem dX6_ringTime_18 : decode cX6_ringTime 18 = .ok (.getfield 17, 3) := by decide +kernel
theorem dX6_ringTime_21 : decode cX6_ringTime 21 = .ok (.bipush 8, 2) := by decide +kernel
theorem dX6_ringTime_23 : decode cX6_ringTime 23 = .ok (.iaload, 1) := by decide +kernel
theorem dX6_ringTime_24 : decode cX6_ringTime 24 = .ok (.if_icmp .ge 140, 3) := by decide +kernel
theorem dX6_ringTime_27 : decode cX6_ringTime 27 = .ok (.aload_n 0, 1) := by decide +kernel
theorem dX6_ringTime_28 : decode cX6_ringTime 28 = .ok (.getfield 17, 3) := by decide +kernel
theorem dX6_ringTime_31 : decode cX6_ringTime 31 = .ok (.sipush 666, 3) := by decide +kernel
theorem dX6_ringTime_34 : decode cX6_ringTime 34 = .ok (.iload 5, 2) := by decide +kernel
theorem dX6_ringTime_36 : decode cX6_ringTime 36 = .ok (.iadd, 1) := by decide +kernel
theorem dX6_ringTime_37 : decode cX6_ringTime 37 = .ok (.iaload, 1) := by decide +kernel
theorem dX6_ringTime_38 : decode cX6_ringTime 38 = .ok (.istore 6, 2) := by decide +kernel
theorem dX6_ringTime_40 : decode cX6_ringTime 40 = .ok (.iload 6, 2) := by decide +kernel
theorem dX6_ringTime_42 : decode cX6_ringTime 42 = .ok (.iconst 1, 1) := by decide +kernel
theorem dX6_ringTime_43 : decode cX6_ringTime 43 = .ok (.if_icmp .gt 82, 3) := by decide +kernel
theorem dX6_ringTime_46 : decode cX6_ringTime 46 = .ok (.iinc 5 1, 3) := by decide +kernel
theorem dX6_ringTime_49 : decode cX6_ringTime 49 = .ok (.aload_n 0, 1) := by decide +kernel
theorem dX6_ringTime_50 : decode cX6_ringTime 50 = .ok (.getfield 17, 3) := by decide +kernel
theorem dX6_ringTime_53 : decode cX6_ringTime 53 = .ok (.sipush 666, 3) := by decide +kernel
theorem dX6_ringTime_56 : decode cX6_ringTime 56 = .ok (.iload 5, 2) := by decide +kernel
theorem dX6_ringTime_58 : decode cX6_ringTime 58 = .ok (.iadd, 1) := by decide +kernel
theorem dX6_ringTime_59 : decode cX6_ringTime 59 = .ok (.iaload, 1) := by decide +kernel
theorem dX6_ringTime_60 : decode cX6_ringTime 60 = .ok (.istore 7, 2) := by decide +kernel
theorem dX6_ringTime_62 : decode cX6_ringTime 62 = .ok (.aload_n 0, 1) := by decide +kernel
theorem dX6_ringTime_63 : decode cX6_ringTime 63 = .ok (.getfield 31, 3) := by decide +kernel
theorem dX6_ringTime_66 : decode cX6_ringTime 66 = .ok (.iload 4, 2) := by decide +kernel
theorem dX6_ringTime_68 : decode cX6_ringTime 68 = .ok (.iload 6, 2) := by decide +kernel
theorem dX6_ringTime_70 : decode cX6_ringTime 70 = .ok (.ifCond .ne 9, 3) := by decide +kernel
theorem dX6_ringTime_73 : decode cX6_ringTime 73 = .ok (.iload 7, 2) := by decide +kernel
theorem dX6_ringTime_75 : decode cX6_ringTime 75 = .ok (.i2l, 1) := by decide +kernel
theorem dX6_ringTime_76 : decode cX6_ringTime 76 = .ok (.goto 42, 3) := by decide +kernel
theorem dX6_ringTime_79 : decode cX6_ringTime 79 = .ok (.iload 7, 2) := by decide +kernel
theorem dX6_ringTime_81 : decode cX6_ringTime 81 = .ok (.ifCond .ne 8, 3) := by decide +kernel
theorem dX6_ringTime_84 : decode cX6_ringTime 84 = .ok (.iload_n 1, 1) := by decide +kernel
theorem dX6_ringTime_85 : decode cX6_ringTime 85 = .ok (.i2l, 1) := by decide +kernel
theorem dX6_ringTime_86 : decode cX6_ringTime 86 = .ok (.goto 32, 3) := by decide +kernel
theorem dX6_ringTime_89 : decode cX6_ringTime 89 = .ok (.iload 7, 2) := by decide +kernel
theorem dX6_ringTime_91 : decode cX6_ringTime 91 = .ok (.iconst 1, 1) := by decide +kernel
theorem dX6_ringTime_92 : decode cX6_ringTime 92 = .ok (.if_icmp .ne 8, 3) := by decide +kernel
theorem dX6_ringTime_95 : decode cX6_ringTime 95 = .ok (.iload_n 2, 1) := by decide +kernel
theorem dX6_ringTime_96 : decode cX6_ringTime 96 = .ok (.i2l, 1) := by decide +kernel
theorem dX6_ringTime_97 : decode cX6_ringTime 97 = .ok (.goto 21, 3) := by decide +kernel
theorem dX6_ringTime_100 : decode cX6_ringTime 100 = .ok (.iload 7, 2) := by decide +kernel
theorem dX6_ringTime_102 : decode cX6_ringTime 102 = .ok (.iconst 2, 1) := by decide +kernel
theorem dX6_ringTime_103 : decode cX6_ringTime 103 = .ok (.if_icmp .ne 8, 3) := by decide +kernel
theorem dX6_ringTime_106 : decode cX6_ringTime 106 = .ok (.iload_n 3, 1) := by decide +kernel
theorem dX6_ringTime_107 : decode cX6_ringTime 107 = .ok (.i2l, 1) := by decide +kernel
theorem dX6_ringTime_108 : decode cX6_ringTime 108 = .ok (.goto 10, 3) := by decide +kernel
theorem dX6_ringTime_111 : decode cX6_ringTime 111 = .ok (.aload_n 0, 1) := by decide +kernel
theorem dX6_ringTime_112 : decode cX6_ringTime 112 = .ok (.getfield 17, 3) := by decide +kernel
theorem dX6_ringTime_115 : decode cX6_ringTime 115 = .ok (.iconst 0, 1) := by decide +kernel
theorem dX6_ringTime_116 : decode cX6_ringTime 116 = .ok (.iaload, 1) := by decide +kernel
theorem dX6_ringTime_117 : decode cX6_ringTime 117 = .ok (.i2l, 1) := by decide +kernel
theorem dX6_ringTime_118 : decode cX6_ringTime 118 = .ok (.lastore, 1) := by decide +kernel
theorem dX6_ringTime_119 : decode cX6_ringTime 119 = .ok (.iinc 4 1, 3) := by decide +kernel
theorem dX6_ringTime_122 : decode cX6_ringTime 122 = .ok (.goto 36, 3) := by decide +kernel
theorem dX6_ringTime_125 : decode cX6_ringTime 125 = .ok (.iinc 4 (-1), 3) := by decide +kernel
theorem dX6_ringTime_128 : decode cX6_ringTime 128 = .ok (.aload_n 0, 1) := by decide +kernel
theorem dX6_ringTime_129 : decode cX6_ringTime 129 = .ok (.getfield 31, 3) := by decide +kernel
theorem dX6_ringTime_132 : decode cX6_ringTime 132 = .ok (.iload 4, 2) := by decide +kernel
theorem dX6_ringTime_134 : decode cX6_ringTime 134 = .ok (.iconst 1, 1) := by decide +kernel
theorem dX6_ringTime_135 : decode cX6_ringTime 135 = .ok (.isub, 1) := by decide +kernel
theorem dX6_ringTime_136 : decode cX6_ringTime 136 = .ok (.iload 6, 2) := by decide +kernel
theorem dX6_ringTime_138 : decode cX6_ringTime 138 = .ok (.aload_n 0, 1) := by decide +kernel
theorem dX6_ringTime_139 : decode cX6_ringTime 139 = .ok (.getfield 31, 3) := by decide +kernel
theorem dX6_ringTime_142 : decode cX6_ringTime 142 = .ok (.iload 4, 2) := by decide +kernel
theorem dX6_ringTime_144 : decode cX6_ringTime 144 = .ok (.iconst 1, 1) := by decide +kernel
theorem dX6_ringTime_145 : decode cX6_ringTime 145 = .ok (.isub, 1) := by decide +kernel
theorem dX6_ringTime_146 : decode cX6_ringTime 146 = .ok (.laload, 1) := by decide +kernel
theorem dX6_ringTime_147 : decode cX6_ringTime 147 = .ok (.aload_n 0, 1) := by decide +kernel
theorem dX6_ringTime_148 : decode cX6_ringTime 148 = .ok (.getfield 31, 3) := by decide +kernel
theorem dX6_ringTime_151 : decode cX6_ringTime 151 = .ok (.iload 4, 2) := by decide +kernel
theorem dX6_ringTime_153 : decode cX6_ringTime 153 = .ok (.laload, 1) := by decide +kernel
theorem dX6_ringTime_154 : decode cX6_ringTime 154 = .ok (.invokestatic 228, 3) := by decide +kernel
theorem dX6_ringTime_157 : decode cX6_ringTime 157 = .ok (.lastore, 1) := by decide +kernel
theorem dX6_ringTime_158 : decode cX6_ringTime 158 = .ok (.iinc 5 1, 3) := by decide +kernel
theorem dX6_ringTime_161 : decode cX6_ringTime 161 = .ok (.goto (-146), 3) := by decide +kernel
theorem dX6_ringTime_164 : decode cX6_ringTime 164 = .ok (.aload_n 0, 1) := by decide +kernel
theorem dX6_ringTime_165 : decode cX6_ringTime 165 = .ok (.getfield 31, 3) := by decide +kernel
theorem dX6_ringTime_168 : decode cX6_ringTime 168 = .ok (.iconst 0, 1) := by decide +kernel
theorem dX6_ringTime_169 : decode cX6_ringTime 169 = .ok (.laload, 1) := by decide +kernel
theorem dX6_ringTime_170 : decode cX6_ringTime 170 = .ok (.lconst 1, 1) := by decide +kernel
theorem dX6_ringTime_171 : decode cX6_ringTime 171 = .ok (.lcmp, 1) := by decide +kernel
theorem dX6_ringTime_172 : decode cX6_ringTime 172 = .ok (.ifCond .ge 7, 3) := by decide +kernel
theorem dX6_ringTime_175 : decode cX6_ringTime 175 = .ok (.iconst 1, 1) := by decide +kernel
theorem dX6_ringTime_176 : decode cX6_ringTime 176 = .ok (.goto 28, 3) := by decide +kernel
theorem dX6_ringTime_179 : decode cX6_ringTime 179 = .ok (.aload_n 0, 1) := by decide +kernel
theorem dX6_ringTime_180 : decode cX6_ringTime 180 = .ok (.getfield 31, 3) := by decide +kernel
theorem dX6_ringTime_183 : decode cX6_ringTime 183 = .ok (.iconst 0, 1) := by decide +kernel
theorem dX6_ringTime_184 : decode cX6_ringTime 184 = .ok (.laload, 1) := by decide +kernel
theorem dX6_ringTime_185 : decode cX6_ringTime 185 = .ok (.ldc2_w 232, 3) := by decide +kernel
theorem dX6_ringTime_188 : decode cX6_ringTime 188 = .ok (.lcmp, 1) := by decide +kernel
theorem dX6_ringTime_189 : decode cX6_ringTime 189 = .ok (.ifCond .le 8, 3) := by decide +kernel
theorem dX6_ringTime_192 : decode cX6_ringTime 192 = .ok (.bipush 99, 2) := by decide +kernel
theorem dX6_ringTime_194 : decode cX6_ringTime 194 = .ok (.goto 10, 3) := by decide +kernel
theorem dX6_ringTime_197 : decode cX6_ringTime 197 = .ok (.aload_n 0, 1) := by decide +kernel
theorem dX6_ringTime_198 : decode cX6_ringTime 198 = .ok (.getfield 31, 3) := by decide +kernel
theorem dX6_ringTime_201 : decode cX6_ringTime 201 = .ok (.iconst 0, 1) := by decide +kernel
theorem dX6_ringTime_202 : decode cX6_ringTime 202 = .ok (.laload, 1) := by decide +kernel
theorem dX6_ringTime_203 : decode cX6_ringTime 203 = .ok (.l2i, 1) := by decide +kernel
theorem dX6_ringTime_204 : decode cX6_ringTime 204 = .ok (.ireturn, 1) := by decide +kernel
theorem dX6_makeLeg_0 : decode cX6_makeLeg 0 = .ok (.aload_n 0, 1) := by decide +kernel
theorem dX6_makeLeg_1 : decode cX6_makeLeg 1 = .ok (.getfield 17, 3) := by decide +kernel
theorem dX6_makeLeg_4 : decode cX6_makeLeg 4 = .ok (.bipush 6, 2) := by decide +kernel
theorem dX6_makeLeg_6 : decode cX6_makeLeg 6 = .ok (.iaload, 1) := by decide +kernel
theorem dX6_makeLeg_7 : decode cX6_makeLeg 7 = .ok (.istore_n 3, 1) := by decide +kernel
theorem dX6_makeLeg_8 : decode cX6_makeLeg 8 = .ok (.iload_n 3, 1) := by decide +kernel
theorem dX6_makeLeg_9 : decode cX6_makeLeg 9 = .ok (.invokestatic 168, 3) := by decide +kernel
theorem dX6_makeLeg_12 : decode cX6_makeLeg 12 = .ok (.istore 4, 2) := by decide +kernel
theorem dX6_makeLeg_14 : decode cX6_makeLeg 14 = .ok (.aload_n 0, 1) := by decide +kernel
theorem dX6_makeLeg_15 : decode cX6_makeLeg 15 = .ok (.iload_n 2, 1) := by decide +kernel
theorem dX6_makeLeg_16 : decode cX6_makeLeg 16 = .ok (.invokevirtual 234, 3) := by decide +kernel
theorem dX6_makeLeg_19 : decode cX6_makeLeg 19 = .ok (.istore 5, 2) := by decide +kernel
theorem dX6_makeLeg_21 : decode cX6_makeLeg 21 = .ok (.iconst 0, 1) := by decide +kernel
theorem dX6_makeLeg_22 : decode cX6_makeLeg 22 = .ok (.istore 6, 2) := by decide +kernel
theorem dX6_makeLeg_24 : decode cX6_makeLeg 24 = .ok (.iload 6, 2) := by decide +kernel
theorem dX6_makeLeg_26 : decode cX6_makeLeg 26 = .ok (.bipush 13, 2) := by decide +kernel
theorem dX6_makeLeg_28 : decode cX6_makeLeg 28 = .ok (.if_icmp .ge 20, 3) := by decide +kernel
theorem dX6_makeLeg_31 : decode cX6_makeLeg 31 = .ok (.aload_n 0, 1) := by decide +kernel
theorem dX6_makeLeg_32 : decode cX6_makeLeg 32 = .ok (.getfield 17, 3) := by decide +kernel
theorem dX6_makeLeg_35 : decode cX6_makeLeg 35 = .ok (.iload 4, 2) := by decide +kernel
theorem dX6_makeLeg_37 : decode cX6_makeLeg 37 = .ok (.iload 6, 2) := by decide +kernel
theorem dX6_makeLeg_39 : decode cX6_makeLeg 39 = .ok (.iadd, 1) := by decide +kernel
theorem dX6_makeLeg_40 : decode cX6_makeLeg 40 = .ok (.iconst 0, 1) := by decide +kernel
theorem dX6_makeLeg_41 : decode cX6_makeLeg 41 = .ok (.iastore, 1) := by decide +kernel
theorem dX6_makeLeg_42 : decode cX6_makeLeg 42 = .ok (.iinc 6 1, 3) := by decide +kernel
theorem dX6_makeLeg_45 : decode cX6_makeLeg 45 = .ok (.goto (-21), 3) := by decide +kernel
theorem dX6_makeLeg_48 : decode cX6_makeLeg 48 = .ok (.aload_n 0, 1) := by decide +kernel
theorem dX6_makeLeg_49 : decode cX6_makeLeg 49 = .ok (.getfield 17, 3) := by decide +kernel
theorem dX6_makeLeg_52 : decode cX6_makeLeg 52 = .ok (.iload 4, 2) := by decide +kernel
theorem dX6_makeLeg_54 : decode cX6_makeLeg 54 = .ok (.iconst 0, 1) := by decide +kernel
theorem dX6_makeLeg_55 : decode cX6_makeLeg 55 = .ok (.iadd, 1) := by decide +kernel
theorem dX6_makeLeg_56 : decode cX6_makeLeg 56 = .ok (.iload_n 1, 1) := by decide +kernel
theorem dX6_makeLeg_57 : decode cX6_makeLeg 57 = .ok (.iastore, 1) := by decide +kernel
theorem dX6_makeLeg_58 : decode cX6_makeLeg 58 = .ok (.aload_n 0, 1) := by decide +kernel
theorem dX6_makeLeg_59 : decode cX6_makeLeg 59 = .ok (.getfield 17, 3) := by decide +kernel
theorem dX6_makeLeg_62 : decode cX6_makeLeg 62 = .ok (.iload 4, 2) := by decide +kernel
theorem dX6_makeLeg_64 : decode cX6_makeLeg 64 = .ok (.iconst 1, 1) := by decide +kernel
theorem dX6_makeLeg_65 : decode cX6_makeLeg 65 = .ok (.iadd, 1) := by decide +kernel
theorem dX6_makeLeg_66 : decode cX6_makeLeg 66 = .ok (.iload_n 2, 1) := by decide +kernel
theorem dX6_makeLeg_67 : decode cX6_makeLeg 67 = .ok (.iastore, 1) := by decide +kernel
theorem dX6_makeLeg_68 : decode cX6_makeLeg 68 = .ok (.aload_n 0, 1) := by decide +kernel
theorem dX6_makeLeg_69 : decode cX6_makeLeg 69 = .ok (.getfield 17, 3) := by decide +kernel
theorem dX6_makeLeg_72 : decode cX6_makeLeg 72 = .ok (.iload 4, 2) := by decide +kernel
theorem dX6_makeLeg_74 : decode cX6_makeLeg 74 = .ok (.iconst 2, 1) := by decide +kernel
theorem dX6_makeLeg_75 : decode cX6_makeLeg 75 = .ok (.iadd, 1) := by decide +kernel
theorem dX6_makeLeg_76 : decode cX6_makeLeg 76 = .ok (.iconst 0, 1) := by decide +kernel
theorem dX6_makeLeg_77 : decode cX6_makeLeg 77 = .ok (.iastore, 1) := by decide +kernel
theorem dX6_makeLeg_78 : decode cX6_makeLeg 78 = .ok (.aload_n 0, 1) := by decide +kernel
theorem dX6_makeLeg_79 : decode cX6_makeLeg 79 = .ok (.iload_n 3, 1) := by decide +kernel
theorem dX6_makeLeg_80 : decode cX6_makeLeg 80 = .ok (.invokevirtual 196, 3) := by decide +kernel
theorem dX6_makeLeg_83 : decode cX6_makeLeg 83 = .ok (.aload_n 0, 1) := by decide +kernel
theorem dX6_makeLeg_84 : decode cX6_makeLeg 84 = .ok (.getfield 17, 3) := by decide +kernel
theorem dX6_makeLeg_87 : decode cX6_makeLeg 87 = .ok (.bipush 6, 2) := by decide +kernel
theorem dX6_makeLeg_89 : decode cX6_makeLeg 89 = .ok (.dup2, 1) := by decide +kernel
theorem dX6_makeLeg_90 : decode cX6_makeLeg 90 = .ok (.iaload, 1) := by decide +kernel
theorem dX6_makeLeg_91 : decode cX6_makeLeg 91 = .ok (.iconst 1, 1) := by decide +kernel
theorem dX6_makeLeg_92 : decode cX6_makeLeg 92 = .ok (.iadd, 1) := by decide +kernel
theorem dX6_makeLeg_93 : decode cX6_makeLeg 93 = .ok (.iastore, 1) := by decide +kernel
theorem dX6_makeLeg_94 : decode cX6_makeLeg 94 = .ok (.iload 5, 2) := by decide +kernel
theorem dX6_makeLeg_96 : decode cX6_makeLeg 96 = .ok (.ifCond .eq 9, 3) := by decide +kernel
theorem dX6_makeLeg_99 : decode cX6_makeLeg 99 = .ok (.aload_n 0, 1) := by decide +kernel
theorem dX6_makeLeg_100 : decode cX6_makeLeg 100 = .ok (.iload_n 3, 1) := by decide +kernel
theorem dX6_makeLeg_101 : decode cX6_makeLeg 101 = .ok (.iconst 1, 1) := by decide +kernel
theorem dX6_makeLeg_102 : decode cX6_makeLeg 102 = .ok (.invokevirtual 205, 3) := by decide +kernel
theorem dX6_makeLeg_105 : decode cX6_makeLeg 105 = .ok (.return_, 1) := by decide +kernel
theorem dX6_beginCall_0 : decode cX6_beginCall 0 = .ok (.aload_n 0, 1) := by decide +kernel
theorem dX6_beginCall_1 : decode cX6_beginCall 1 = .ok (.getfield 17, 3) := by decide +kernel
theorem dX6_beginCall_4 : decode cX6_beginCall 4 = .ok (.iconst 5, 1) := by decide +kernel
theorem dX6_beginCall_5 : decode cX6_beginCall 5 = .ok (.iaload, 1) := by decide +kernel
theorem dX6_beginCall_6 : decode cX6_beginCall 6 = .ok (.istore 4, 2) := by decide +kernel
theorem dX6_beginCall_8 : decode cX6_beginCall 8 = .ok (.iload 4, 2) := by decide +kernel
theorem dX6_beginCall_10 : decode cX6_beginCall 10 = .ok (.invokestatic 165, 3) := by decide +kernel
theorem dX6_beginCall_13 : decode cX6_beginCall 13 = .ok (.istore 5, 2) := by decide +kernel
theorem dX6_beginCall_15 : decode cX6_beginCall 15 = .ok (.iconst 0, 1) := by decide +kernel
theorem dX6_beginCall_16 : decode cX6_beginCall 16 = .ok (.istore 6, 2) := by decide +kernel
theorem dX6_beginCall_18 : decode cX6_beginCall 18 = .ok (.iconst 0, 1) := by decide +kernel
theorem dX6_beginCall_19 : decode cX6_beginCall 19 = .ok (.istore 7, 2) := by decide +kernel
theorem dX6_beginCall_21 : decode cX6_beginCall 21 = .ok (.iconst 0, 1) := by decide +kernel
theorem dX6_beginCall_22 : decode cX6_beginCall 22 = .ok (.istore 8, 2) := by decide +kernel
theorem dX6_beginCall_24 : decode cX6_beginCall 24 = .ok (.iload 8, 2) := by decide +kernel
theorem dX6_beginCall_26 : decode cX6_beginCall 26 = .ok (.bipush 10, 2) := by decide +kernel
theorem dX6_beginCall_28 : decode cX6_beginCall 28 = .ok (.if_icmp .ge 20, 3) := by decide +kernel
theorem dX6_beginCall_31 : decode cX6_beginCall 31 = .ok (.iload 6, 2) := by decide +kernel
theorem dX6_beginCall_33 : decode cX6_beginCall 33 = .ok (.iload_n 2, 1) := by decide +kernel
theorem dX6_beginCall_34 : decode cX6_beginCall 34 = .ok (.iload 8, 2) := by decide +kernel
theorem dX6_beginCall_36 : decode cX6_beginCall 36 = .ok (.ishr, 1) := by decide +kernel
theorem dX6_beginCall_37 : decode cX6_beginCall 37 = .ok (.iconst 1, 1) := by decide +kernel
theorem dX6_beginCall_38 : decode cX6_beginCall 38 = .ok (.iand, 1) := by decide +kernel
theorem dX6_beginCall_39 : decode cX6_beginCall 39 = .ok (.iadd, 1) := by decide +kernel
theorem dX6_beginCall_40 : decode cX6_beginCall 40 = .ok (.istore 6, 2) := by decide +kernel
theorem dX6_beginCall_42 : decode cX6_beginCall 42 = .ok (.iinc 8 1, 3) := by decide +kernel
theorem dX6_beginCall_45 : decode cX6_beginCall 45 = .ok (.goto (-21), 3) := by decide +kernel
theorem dX6_beginCall_48 : decode cX6_beginCall 48 = .ok (.aload_n 0, 1) := by decide +kernel
theorem dX6_beginCall_49 : decode cX6_beginCall 49 = .ok (.getfield 17, 3) := by decide +kernel
theorem dX6_beginCall_52 : decode cX6_beginCall 52 = .ok (.iload 5, 2) := by decide +kernel
theorem dX6_beginCall_54 : decode cX6_beginCall 54 = .ok (.iconst 0, 1) := by decide +kernel
theorem dX6_beginCall_55 : decode cX6_beginCall 55 = .ok (.iadd, 1) := by decide +kernel
theorem dX6_beginCall_56 : decode cX6_beginCall 56 = .ok (.iload_n 1, 1) := by decide +kernel
theorem dX6_beginCall_57 : decode cX6_beginCall 57 = .ok (.iastore, 1) := by decide +kernel
theorem dX6_beginCall_58 : decode cX6_beginCall 58 = .ok (.aload_n 0, 1) := by decide +kernel
theorem dX6_beginCall_59 : decode cX6_beginCall 59 = .ok (.getfield 17, 3) := by decide +kernel
theorem dX6_beginCall_62 : decode cX6_beginCall 62 = .ok (.iload 5, 2) := by decide +kernel
theorem dX6_beginCall_64 : decode cX6_beginCall 64 = .ok (.iconst 1, 1) := by decide +kernel
theorem dX6_beginCall_65 : decode cX6_beginCall 65 = .ok (.iadd, 1) := by decide +kernel
theorem dX6_beginCall_66 : decode cX6_beginCall 66 = .ok (.aload_n 0, 1) := by decide +kernel
theorem dX6_beginCall_67 : decode cX6_beginCall 67 = .ok (.getfield 17, 3) := by decide +kernel
theorem dX6_beginCall_70 : decode cX6_beginCall 70 = .ok (.iconst 0, 1) := by decide +kernel
theorem dX6_beginCall_71 : decode cX6_beginCall 71 = .ok (.iaload, 1) := by decide +kernel
theorem dX6_beginCall_72 : decode cX6_beginCall 72 = .ok (.iastore, 1) := by decide +kernel
theorem dX6_beginCall_73 : decode cX6_beginCall 73 = .ok (.aload_n 0, 1) := by decide +kernel
theorem dX6_beginCall_74 : decode cX6_beginCall 74 = .ok (.getfield 17, 3) := by decide +kernel
theorem dX6_beginCall_77 : decode cX6_beginCall 77 = .ok (.iload 5, 2) := by decide +kernel
theorem dX6_beginCall_79 : decode cX6_beginCall 79 = .ok (.iconst 2, 1) := by decide +kernel
theorem dX6_beginCall_80 : decode cX6_beginCall 80 = .ok (.iadd, 1) := by decide +kernel
theorem dX6_beginCall_81 : decode cX6_beginCall 81 = .ok (.aload_n 0, 1) := by decide +kernel
theorem dX6_beginCall_82 : decode cX6_beginCall 82 = .ok (.iload 6, 2) := by decide +kernel
theorem dX6_beginCall_84 : decode cX6_beginCall 84 = .ok (.iload_n 1, 1) := by decide +kernel
theorem dX6_beginCall_85 : decode cX6_beginCall 85 = .ok (.iload_n 3, 1) := by decide +kernel
theorem dX6_beginCall_86 : decode cX6_beginCall 86 = .ok (.iconst (-1), 1) := by decide +kernel
theorem dX6_beginCall_87 : decode cX6_beginCall 87 = .ok (.if_icmp .ne 7, 3) := by decide +kernel
theorem dX6_beginCall_90 : decode cX6_beginCall 90 = .ok (.iconst 0, 1) := by decide +kernel
theorem dX6_beginCall_91 : decode cX6_beginCall 91 = .ok (.goto 4, 3) := by decide +kernel
theorem dX6_beginCall_94 : decode cX6_beginCall 94 = .ok (.iconst 1, 1) := by decide +kernel
theorem dX6_beginCall_95 : decode cX6_beginCall 95 = .ok (.invokevirtual 237, 3) := by decide +kernel
theorem dX6_beginCall_98 : decode cX6_beginCall 98 = .ok (.iastore, 1) := by decide +kernel
theorem dX6_beginCall_99 : decode cX6_beginCall 99 = .ok (.aload_n 0, 1) := by decide +kernel
theorem dX6_beginCall_100 : decode cX6_beginCall 100 = .ok (.getfield 17, 3) := by decide +kernel
theorem dX6_beginCall_103 : decode cX6_beginCall 103 = .ok (.iload 5, 2) := by decide +kernel
theorem dX6_beginCall_105 : decode cX6_beginCall 105 = .ok (.iconst 3, 1) := by decide +kernel
theorem dX6_beginCall_106 : decode cX6_beginCall 106 = .ok (.iadd, 1) := by decide +kernel
theorem dX6_beginCall_107 : decode cX6_beginCall 107 = .ok (.iload_n 3, 1) := by decide +kernel
theorem dX6_beginCall_108 : decode cX6_beginCall 108 = .ok (.iastore, 1) := by decide +kernel
theorem dX6_beginCall_109 : decode cX6_beginCall 109 = .ok (.aload_n 0, 1) := by decide +kernel
theorem dX6_beginCall_110 : decode cX6_beginCall 110 = .ok (.getfield 17, 3) := by decide +kernel
theorem dX6_beginCall_113 : decode cX6_beginCall 113 = .ok (.iload 5, 2) := by decide +kernel
theorem dX6_beginCall_115 : decode cX6_beginCall 115 = .ok (.iconst 4, 1) := by decide +kernel
theorem dX6_beginCall_116 : decode cX6_beginCall 116 = .ok (.iadd, 1) := by decide +kernel
theorem dX6_beginCall_117 : decode cX6_beginCall 117 = .ok (.iconst (-1), 1) := by decide +kernel
theorem dX6_beginCall_118 : decode cX6_beginCall 118 = .ok (.iastore, 1) := by decide +kernel
theorem dX6_beginCall_119 : decode cX6_beginCall 119 = .ok (.aload_n 0, 1) := by decide +kernel
theorem dX6_beginCall_120 : decode cX6_beginCall 120 = .ok (.getfield 17, 3) := by decide +kernel
theorem dX6_beginCall_123 : decode cX6_beginCall 123 = .ok (.iconst 5, 1) := by decide +kernel
theorem dX6_beginCall_124 : decode cX6_beginCall 124 = .ok (.dup2, 1) := by decide +kernel
theorem dX6_beginCall_125 : decode cX6_beginCall 125 = .ok (.iaload, 1) := by decide +kernel
theorem dX6_beginCall_126 : decode cX6_beginCall 126 = .ok (.iconst 1, 1) := by decide +kernel
theorem dX6_beginCall_127 : decode cX6_beginCall 127 = .ok (.iadd, 1) := by decide +kernel
theorem dX6_beginCall_128 : decode cX6_beginCall 128 = .ok (.iastore, 1) := by decide +kernel
theorem dX6_beginCall_129 : decode cX6_beginCall 129 = .ok (.iconst 0, 1) := by decide +kernel
theorem dX6_beginCall_130 : decode cX6_beginCall 130 = .ok (.istore 8, 2) := by decide +kernel
theorem dX6_beginCall_132 : decode cX6_beginCall 132 = .ok (.iload 8, 2) := by decide +kernel
theorem dX6_beginCall_134 : decode cX6_beginCall 134 = .ok (.bipush 10, 2) := by decide +kernel
theorem dX6_beginCall_136 : decode cX6_beginCall 136 = .ok (.if_icmp .ge 27, 3) := by decide +kernel
theorem dX6_beginCall_139 : decode cX6_beginCall 139 = .ok (.iload_n 2, 1) := by decide +kernel
theorem dX6_beginCall_140 : decode cX6_beginCall 140 = .ok (.iload 8, 2) := by decide +kernel
theorem dX6_beginCall_142 : decode cX6_beginCall 142 = .ok (.ishr, 1) := by decide +kernel
theorem dX6_beginCall_143 : decode cX6_beginCall 143 = .ok (.iconst 1, 1) := by decide +kernel
theorem dX6_beginCall_144 : decode cX6_beginCall 144 = .ok (.iand, 1) := by decide +kernel
theorem dX6_beginCall_145 : decode cX6_beginCall 145 = .ok (.iconst 1, 1) := by decide +kernel
theorem dX6_beginCall_146 : decode cX6_beginCall 146 = .ok (.if_icmp .ne 11, 3) := by decide +kernel
theorem dX6_beginCall_149 : decode cX6_beginCall 149 = .ok (.aload_n 0, 1) := by decide +kernel
theorem dX6_beginCall_150 : decode cX6_beginCall 150 = .ok (.iload 4, 2) := by decide +kernel
theorem dX6_beginCall_152 : decode cX6_beginCall 152 = .ok (.iload 8, 2) := by decide +kernel
theorem dX6_beginCall_154 : decode cX6_beginCall 154 = .ok (.invokevirtual 241, 3) := by decide +kernel
theorem dX6_beginCall_157 : decode cX6_beginCall 157 = .ok (.iinc 8 1, 3) := by decide +kernel
theorem dX6_beginCall_160 : decode cX6_beginCall 160 = .ok (.goto (-28), 3) := by decide +kernel
theorem dX6_beginCall_163 : decode cX6_beginCall 163 = .ok (.aload_n 0, 1) := by decide +kernel
theorem dX6_beginCall_164 : decode cX6_beginCall 164 = .ok (.getfield 17, 3) := by decide +kernel
theorem dX6_beginCall_167 : decode cX6_beginCall 167 = .ok (.bipush 6, 2) := by decide +kernel
theorem dX6_beginCall_169 : decode cX6_beginCall 169 = .ok (.iaload, 1) := by decide +kernel
theorem dX6_beginCall_170 : decode cX6_beginCall 170 = .ok (.iload 6, 2) := by decide +kernel
theorem dX6_beginCall_172 : decode cX6_beginCall 172 = .ok (.isub, 1) := by decide +kernel
theorem dX6_beginCall_173 : decode cX6_beginCall 173 = .ok (.istore 8, 2) := by decide +kernel
theorem dX6_beginCall_175 : decode cX6_beginCall 175 = .ok (.iload 8, 2) := by decide +kernel
theorem dX6_beginCall_177 : decode cX6_beginCall 177 = .ok (.aload_n 0, 1) := by decide +kernel
theorem dX6_beginCall_178 : decode cX6_beginCall 178 = .ok (.getfield 17, 3) := by decide +kernel
theorem dX6_beginCall_181 : decode cX6_beginCall 181 = .ok (.bipush 6, 2) := by decide +kernel
theorem dX6_beginCall_183 : decode cX6_beginCall 183 = .ok (.iaload, 1) := by decide +kernel
theorem dX6_beginCall_184 : decode cX6_beginCall 184 = .ok (.if_icmp .ge 29, 3) := by decide +kernel
theorem dX6_beginCall_187 : decode cX6_beginCall 187 = .ok (.iload 7, 2) := by decide +kernel
theorem dX6_beginCall_189 : decode cX6_beginCall 189 = .ok (.aload_n 0, 1) := by decide +kernel
theorem dX6_beginCall_190 : decode cX6_beginCall 190 = .ok (.iload 8, 2) := by decide +kernel
theorem dX6_beginCall_192 : decode cX6_beginCall 192 = .ok (.iconst 0, 1) := by decide +kernel
theorem dX6_beginCall_193 : decode cX6_beginCall 193 = .ok (.invokevirtual 180, 3) := by decide +kernel
theorem dX6_beginCall_196 : decode cX6_beginCall 196 = .ok (.ifCond .eq 7, 3) := by decide +kernel
theorem dX6_beginCall_199 : decode cX6_beginCall 199 = .ok (.iconst 1, 1) := by decide +kernel
theorem dX6_beginCall_200 : decode cX6_beginCall 200 = .ok (.goto 4, 3) := by decide +kernel
theorem dX6_beginCall_203 : decode cX6_beginCall 203 = .ok (.iconst 0, 1) := by decide +kernel
theorem dX6_beginCall_204 : decode cX6_beginCall 204 = .ok (.iadd, 1) := by decide +kernel
theorem dX6_beginCall_205 : decode cX6_beginCall 205 = .ok (.istore 7, 2) := by decide +kernel
theorem dX6_beginCall_207 : decode cX6_beginCall 207 = .ok (.iinc 8 1, 3) := by decide +kernel
theorem dX6_beginCall_210 : decode cX6_beginCall 210 = .ok (.goto (-35), 3) := by decide +kernel
theorem dX6_beginCall_213 : decode cX6_beginCall 213 = .ok (.iload 7, 2) := by decide +kernel
theorem dX6_beginCall_215 : decode cX6_beginCall 215 = .ok (.ifCond .ne 9, 3) := by decide +kernel
theorem dX6_beginCall_218 : decode cX6_beginCall 218 = .ok (.aload_n 0, 1) := by decide +kernel
theorem dX6_beginCall_219 : decode cX6_beginCall 219 = .ok (.iload 4, 2) := by decide +kernel
theorem dX6_beginCall_221 : decode cX6_beginCall 221 = .ok (.invokevirtual 208, 3) := by decide +kernel
theorem dX6_beginCall_224 : decode cX6_beginCall 224 = .ok (.iload 7, 2) := by decide +kernel
theorem dX6_beginCall_226 : decode cX6_beginCall 226 = .ok (.ireturn, 1) := by decide +kernel
theorem dX6_partyOn_0 : decode cX6_partyOn 0 = .ok (.iload_n 2, 1) := by decide +kernel
theorem dX6_partyOn_1 : decode cX6_partyOn 1 = .ok (.ifCond .ne 11, 3) := by decide +kernel
theorem dX6_partyOn_4 : decode cX6_partyOn 4 = .ok (.aload_n 0, 1) := by decide +kernel
theorem dX6_partyOn_5 : decode cX6_partyOn 5 = .ok (.iload_n 1, 1) := by decide +kernel
theorem dX6_partyOn_6 : decode cX6_partyOn 6 = .ok (.invokevirtual 177, 3) := by decide +kernel
theorem dX6_partyOn_9 : decode cX6_partyOn 9 = .ok (.goto 9, 3) := by decide +kernel
theorem dX6_partyOn_12 : decode cX6_partyOn 12 = .ok (.aload_n 0, 1) := by decide +kernel
theorem dX6_partyOn_13 : decode cX6_partyOn 13 = .ok (.iload_n 1, 1) := by decide +kernel
theorem dX6_partyOn_14 : decode cX6_partyOn 14 = .ok (.iconst 1, 1) := by decide +kernel
theorem dX6_partyOn_15 : decode cX6_partyOn 15 = .ok (.invokevirtual 171, 3) := by decide +kernel
theorem dX6_partyOn_18 : decode cX6_partyOn 18 = .ok (.ireturn, 1) := by decide +kernel
theorem dX6_repeat_0 : decode cX6_repeat 0 = .ok (.iload_n 1, 1) := by decide +kernel
theorem dX6_repeat_1 : decode cX6_repeat 1 = .ok (.invokestatic 168, 3) := by decide +kernel
theorem dX6_repeat_4 : decode cX6_repeat 4 = .ok (.istore_n 3, 1) := by decide +kernel
theorem dX6_repeat_5 : decode cX6_repeat 5 = .ok (.aload_n 0, 1) := by decide +kernel
theorem dX6_repeat_6 : decode cX6_repeat 6 = .ok (.getfield 17, 3) := by decide +kernel
theorem dX6_repeat_9 : decode cX6_repeat 9 = .ok (.iload_n 3, 1) := by decide +kernel
theorem dX6_repeat_10 : decode cX6_repeat 10 = .ok (.bipush 9, 2) := by decide +kernel
theorem dX6_repeat_12 : decode cX6_repeat 12 = .ok (.iadd, 1) := by decide +kernel
theorem dX6_repeat_13 : decode cX6_repeat 13 = .ok (.iload_n 2, 1) := by decide +kernel
theorem dX6_repeat_14 : decode cX6_repeat 14 = .ok (.iadd, 1) := by decide +kernel
theorem dX6_repeat_15 : decode cX6_repeat 15 = .ok (.iaload, 1) := by decide +kernel
theorem dX6_repeat_16 : decode cX6_repeat 16 = .ok (.aload_n 0, 1) := by decide +kernel
theorem dX6_repeat_17 : decode cX6_repeat 17 = .ok (.getfield 17, 3) := by decide +kernel
theorem dX6_repeat_20 : decode cX6_repeat 20 = .ok (.iconst 0, 1) := by decide +kernel
theorem dX6_repeat_21 : decode cX6_repeat 21 = .ok (.iaload, 1) := by decide +kernel
theorem dX6_repeat_22 : decode cX6_repeat 22 = .ok (.if_icmp .eq 4, 3) := by decide +kernel
theorem dX6_repeat_25 : decode cX6_repeat 25 = .ok (.return_, 1) := by decide +kernel
theorem dX6_repeat_26 : decode cX6_repeat 26 = .ok (.aload_n 0, 1) := by decide +kernel
theorem dX6_repeat_27 : decode cX6_repeat 27 = .ok (.getfield 17, 3) := by decide +kernel
theorem dX6_repeat_30 : decode cX6_repeat 30 = .ok (.iload_n 3, 1) := by decide +kernel
theorem dX6_repeat_31 : decode cX6_repeat 31 = .ok (.bipush 9, 2) := by decide +kernel
theorem dX6_repeat_33 : decode cX6_repeat 33 = .ok (.iadd, 1) := by decide +kernel
theorem dX6_repeat_34 : decode cX6_repeat 34 = .ok (.iload_n 2, 1) := by decide +kernel
theorem dX6_repeat_35 : decode cX6_repeat 35 = .ok (.iadd, 1) := by decide +kernel
theorem dX6_repeat_36 : decode cX6_repeat 36 = .ok (.iconst (-1), 1) := by decide +kernel
theorem dX6_repeat_37 : decode cX6_repeat 37 = .ok (.iastore, 1) := by decide +kernel
theorem dX6_repeat_38 : decode cX6_repeat 38 = .ok (.aload_n 0, 1) := by decide +kernel
theorem dX6_repeat_39 : decode cX6_repeat 39 = .ok (.getfield 17, 3) := by decide +kernel
theorem dX6_repeat_42 : decode cX6_repeat 42 = .ok (.iload_n 3, 1) := by decide +kernel
theorem dX6_repeat_43 : decode cX6_repeat 43 = .ok (.bipush 6, 2) := by decide +kernel
theorem dX6_repeat_45 : decode cX6_repeat 45 = .ok (.iadd, 1) := by decide +kernel
theorem dX6_repeat_46 : decode cX6_repeat 46 = .ok (.iaload, 1) := by decide +kernel
theorem dX6_repeat_47 : decode cX6_repeat 47 = .ok (.iconst (-1), 1) := by decide +kernel
theorem dX6_repeat_48 : decode cX6_repeat 48 = .ok (.if_icmp .eq 9, 3) := by decide +kernel
theorem dX6_repeat_51 : decode cX6_repeat 51 = .ok (.aload_n 0, 1) := by decide +kernel
theorem dX6_repeat_52 : decode cX6_repeat 52 = .ok (.iconst 3, 1) := by decide +kernel
theorem dX6_repeat_53 : decode cX6_repeat 53 = .ok (.invokevirtual 199, 3) := by decide +kernel
theorem dX6_repeat_56 : decode cX6_repeat 56 = .ok (.return_, 1) := by decide +kernel
theorem dX6_repeat_57 : decode cX6_repeat 57 = .ok (.aload_n 0, 1) := by decide +kernel
theorem dX6_repeat_58 : decode cX6_repeat 58 = .ok (.iload_n 1, 1) := by decide +kernel
theorem dX6_repeat_59 : decode cX6_repeat 59 = .ok (.iload_n 2, 1) := by decide +kernel
theorem dX6_repeat_60 : decode cX6_repeat 60 = .ok (.aload_n 0, 1) := by decide +kernel
theorem dX6_repeat_61 : decode cX6_repeat 61 = .ok (.getfield 17, 3) := by decide +kernel
theorem dX6_repeat_64 : decode cX6_repeat 64 = .ok (.iload_n 3, 1) := by decide +kernel
theorem dX6_repeat_65 : decode cX6_repeat 65 = .ok (.bipush 11, 2) := by decide +kernel
theorem dX6_repeat_67 : decode cX6_repeat 67 = .ok (.iadd, 1) := by decide +kernel
theorem dX6_repeat_68 : decode cX6_repeat 68 = .ok (.iload_n 2, 1) := by decide +kernel
theorem dX6_repeat_69 : decode cX6_repeat 69 = .ok (.iadd, 1) := by decide +kernel
theorem dX6_repeat_70 : decode cX6_repeat 70 = .ok (.iaload, 1) := by decide +kernel
theorem dX6_repeat_71 : decode cX6_repeat 71 = .ok (.invokevirtual 244, 3) := by decide +kernel
theorem dX6_repeat_74 : decode cX6_repeat 74 = .ok (.return_, 1) := by decide +kernel
theorem dX6_layOffer_0 : decode cX6_layOffer 0 = .ok (.iload_n 1, 1) := by decide +kernel
theorem dX6_layOffer_1 : decode cX6_layOffer 1 = .ok (.invokestatic 168, 3) := by decide +kernel
theorem dX6_layOffer_4 : decode cX6_layOffer 4 = .ok (.istore 4, 2) := by decide +kernel
theorem dX6_layOffer_6 : decode cX6_layOffer 6 = .ok (.aload_n 0, 1) := by decide +kernel
theorem dX6_layOffer_7 : decode cX6_layOffer 7 = .ok (.getfield 17, 3) := by decide +kernel
theorem dX6_layOffer_10 : decode cX6_layOffer 10 = .ok (.iload 4, 2) := by decide +kernel
theorem dX6_layOffer_12 : decode cX6_layOffer 12 = .ok (.bipush 6, 2) := by decide +kernel
theorem dX6_layOffer_14 : decode cX6_layOffer 14 = .ok (.iadd, 1) := by decide +kernel
theorem dX6_layOffer_15 : decode cX6_layOffer 15 = .ok (.iload_n 2, 1) := by decide +kernel
theorem dX6_layOffer_16 : decode cX6_layOffer 16 = .ok (.iastore, 1) := by decide +kernel
theorem dX6_layOffer_17 : decode cX6_layOffer 17 = .ok (.aload_n 0, 1) := by decide +kernel
theorem dX6_layOffer_18 : decode cX6_layOffer 18 = .ok (.getfield 17, 3) := by decide +kernel
theorem dX6_layOffer_21 : decode cX6_layOffer 21 = .ok (.iload 4, 2) := by decide +kernel
theorem dX6_layOffer_23 : decode cX6_layOffer 23 = .ok (.bipush 7, 2) := by decide +kernel
theorem dX6_layOffer_25 : decode cX6_layOffer 25 = .ok (.iadd, 1) := by decide +kernel
theorem dX6_layOffer_26 : decode cX6_layOffer 26 = .ok (.iload_n 3, 1) := by decide +kernel
theorem dX6_layOffer_27 : decode cX6_layOffer 27 = .ok (.iastore, 1) := by decide +kernel
theorem dX6_layOffer_28 : decode cX6_layOffer 28 = .ok (.aload_n 0, 1) := by decide +kernel
theorem dX6_layOffer_29 : decode cX6_layOffer 29 = .ok (.getfield 17, 3) := by decide +kernel
theorem dX6_layOffer_32 : decode cX6_layOffer 32 = .ok (.iload 4, 2) := by decide +kernel
theorem dX6_layOffer_34 : decode cX6_layOffer 34 = .ok (.bipush 8, 2) := by decide +kernel
theorem dX6_layOffer_36 : decode cX6_layOffer 36 = .ok (.iadd, 1) := by decide +kernel
theorem dX6_layOffer_37 : decode cX6_layOffer 37 = .ok (.aload_n 0, 1) := by decide +kernel
theorem dX6_layOffer_38 : decode cX6_layOffer 38 = .ok (.getfield 17, 3) := by decide +kernel
theorem dX6_layOffer_41 : decode cX6_layOffer 41 = .ok (.iconst 0, 1) := by decide +kernel
theorem dX6_layOffer_42 : decode cX6_layOffer 42 = .ok (.iaload, 1) := by decide +kernel
theorem dX6_layOffer_43 : decode cX6_layOffer 43 = .ok (.iastore, 1) := by decide +kernel
theorem dX6_layOffer_44 : decode cX6_layOffer 44 = .ok (.return_, 1) := by decide +kernel
theorem dX6_reply_0 : decode cX6_reply 0 = .ok (.iload_n 1, 1) := by decide +kernel
theorem dX6_reply_1 : decode cX6_reply 1 = .ok (.invokestatic 168, 3) := by decide +kernel
theorem dX6_reply_4 : decode cX6_reply 4 = .ok (.istore_n 2, 1) := by decide +kernel
theorem dX6_reply_5 : decode cX6_reply 5 = .ok (.aload_n 0, 1) := by decide +kernel
theorem dX6_reply_6 : decode cX6_reply 6 = .ok (.getfield 17, 3) := by decide +kernel
theorem dX6_reply_9 : decode cX6_reply 9 = .ok (.iload_n 2, 1) := by decide +kernel
theorem dX6_reply_10 : decode cX6_reply 10 = .ok (.bipush 6, 2) := by decide +kernel
theorem dX6_reply_12 : decode cX6_reply 12 = .ok (.iadd, 1) := by decide +kernel
theorem dX6_reply_13 : decode cX6_reply 13 = .ok (.iaload, 1) := by decide +kernel
theorem dX6_reply_14 : decode cX6_reply 14 = .ok (.iconst (-1), 1) := by decide +kernel
theorem dX6_reply_15 : decode cX6_reply 15 = .ok (.if_icmp .ne 4, 3) := by decide +kernel
theorem dX6_reply_18 : decode cX6_reply 18 = .ok (.return_, 1) := by decide +kernel
theorem dX6_reply_19 : decode cX6_reply 19 = .ok (.aload_n 0, 1) := by decide +kernel
theorem dX6_reply_20 : decode cX6_reply 20 = .ok (.iload_n 1, 1) := by decide +kernel
theorem dX6_reply_21 : decode cX6_reply 21 = .ok (.iconst 1, 1) := by decide +kernel
theorem dX6_reply_22 : decode cX6_reply 22 = .ok (.aload_n 0, 1) := by decide +kernel
theorem dX6_reply_23 : decode cX6_reply 23 = .ok (.getfield 17, 3) := by decide +kernel
theorem dX6_reply_26 : decode cX6_reply 26 = .ok (.iload_n 2, 1) := by decide +kernel
theorem dX6_reply_27 : decode cX6_reply 27 = .ok (.bipush 6, 2) := by decide +kernel
theorem dX6_reply_29 : decode cX6_reply 29 = .ok (.iadd, 1) := by decide +kernel
theorem dX6_reply_30 : decode cX6_reply 30 = .ok (.iaload, 1) := by decide +kernel
theorem dX6_reply_31 : decode cX6_reply 31 = .ok (.isub, 1) := by decide +kernel
theorem dX6_reply_32 : decode cX6_reply 32 = .ok (.invokevirtual 247, 3) := by decide +kernel
theorem dX6_reply_35 : decode cX6_reply 35 = .ok (.istore_n 3, 1) := by decide +kernel
theorem dX6_reply_36 : decode cX6_reply 36 = .ok (.aload_n 0, 1) := by decide +kernel
theorem dX6_reply_37 : decode cX6_reply 37 = .ok (.iload_n 3, 1) := by decide +kernel
theorem dX6_reply_38 : decode cX6_reply 38 = .ok (.iconst 1, 1) := by decide +kernel
theorem dX6_reply_39 : decode cX6_reply 39 = .ok (.invokevirtual 250, 3) := by decide +kernel
theorem dX6_reply_42 : decode cX6_reply 42 = .ok (.istore 4, 2) := by decide +kernel
theorem dX6_reply_44 : decode cX6_reply 44 = .ok (.aload_n 0, 1) := by decide +kernel
theorem dX6_reply_45 : decode cX6_reply 45 = .ok (.getfield 17, 3) := by decide +kernel
theorem dX6_reply_48 : decode cX6_reply 48 = .ok (.iconst 0, 1) := by decide +kernel
theorem dX6_reply_49 : decode cX6_reply 49 = .ok (.iaload, 1) := by decide +kernel
theorem dX6_reply_50 : decode cX6_reply 50 = .ok (.aload_n 0, 1) := by decide +kernel
theorem dX6_reply_51 : decode cX6_reply 51 = .ok (.getfield 17, 3) := by decide +kernel
theorem dX6_reply_54 : decode cX6_reply 54 = .ok (.iload_n 2, 1) := by decide +kernel
theorem dX6_reply_55 : decode cX6_reply 55 = .ok (.bipush 8, 2) := by decide +kernel
theorem dX6_reply_57 : decode cX6_reply 57 = .ok (.iadd, 1) := by decide +kernel
theorem dX6_reply_58 : decode cX6_reply 58 = .ok (.iaload, 1) := by decide +kernel
theorem dX6_reply_59 : decode cX6_reply 59 = .ok (.isub, 1) := by decide +kernel
theorem dX6_reply_60 : decode cX6_reply 60 = .ok (.istore 5, 2) := by decide +kernel
theorem dX6_reply_62 : decode cX6_reply 62 = .ok (.iload 4, 2) := by decide +kernel
theorem dX6_reply_64 : decode cX6_reply 64 = .ok (.ifCond .le 14, 3) := by decide +kernel
theorem dX6_reply_67 : decode cX6_reply 67 = .ok (.iload 5, 2) := by decide +kernel
theorem dX6_reply_69 : decode cX6_reply 69 = .ok (.iload 4, 2) := by decide +kernel
theorem dX6_reply_71 : decode cX6_reply 71 = .ok (.if_icmp .ne 7, 3) := by decide +kernel
theorem dX6_reply_74 : decode cX6_reply 74 = .ok (.iconst 1, 1) := by decide +kernel
theorem dX6_reply_75 : decode cX6_reply 75 = .ok (.goto 4, 3) := by decide +kernel
theorem dX6_reply_78 : decode cX6_reply 78 = .ok (.iconst 0, 1) := by decide +kernel
theorem dX6_reply_79 : decode cX6_reply 79 = .ok (.istore 6, 2) := by decide +kernel
theorem dX6_reply_81 : decode cX6_reply 81 = .ok (.iload 6, 2) := by decide +kernel
theorem dX6_reply_83 : decode cX6_reply 83 = .ok (.ifCond .ne 15, 3) := by decide +kernel
theorem dX6_reply_86 : decode cX6_reply 86 = .ok (.iload 5, 2) := by decide +kernel
theorem dX6_reply_88 : decode cX6_reply 88 = .ok (.aload_n 0, 1) := by decide +kernel
theorem dX6_reply_89 : decode cX6_reply 89 = .ok (.getfield 17, 3) := by decide +kernel
theorem dX6_reply_92 : decode cX6_reply 92 = .ok (.iconst 3, 1) := by decide +kernel
theorem dX6_reply_93 : decode cX6_reply 93 = .ok (.iaload, 1) := by decide +kernel
theorem dX6_reply_94 : decode cX6_reply 94 = .ok (.if_icmp .ge 4, 3) := by decide +kernel
theorem dX6_reply_97 : decode cX6_reply 97 = .ok (.return_, 1) := by decide +kernel
theorem dX6_reply_98 : decode cX6_reply 98 = .ok (.aload_n 0, 1) := by decide +kernel
theorem dX6_reply_99 : decode cX6_reply 99 = .ok (.getfield 17, 3) := by decide +kernel
theorem dX6_reply_102 : decode cX6_reply 102 = .ok (.iload_n 2, 1) := by decide +kernel
theorem dX6_reply_103 : decode cX6_reply 103 = .ok (.bipush 6, 2) := by decide +kernel
theorem dX6_reply_105 : decode cX6_reply 105 = .ok (.iadd, 1) := by decide +kernel
theorem dX6_reply_106 : decode cX6_reply 106 = .ok (.iconst (-1), 1) := by decide +kernel
theorem dX6_reply_107 : decode cX6_reply 107 = .ok (.iastore, 1) := by decide +kernel
theorem dX6_reply_108 : decode cX6_reply 108 = .ok (.iload 6, 2) := by decide +kernel
theorem dX6_reply_110 : decode cX6_reply 110 = .ok (.ifCond .eq 21, 3) := by decide +kernel
theorem dX6_reply_113 : decode cX6_reply 113 = .ok (.aload_n 0, 1) := by decide +kernel
theorem dX6_reply_114 : decode cX6_reply 114 = .ok (.getfield 17, 3) := by decide +kernel
theorem dX6_reply_117 : decode cX6_reply 117 = .ok (.iload_n 2, 1) := by decide +kernel
theorem dX6_reply_118 : decode cX6_reply 118 = .ok (.bipush 7, 2) := by decide +kernel
theorem dX6_reply_120 : decode cX6_reply 120 = .ok (.iadd, 1) := by decide +kernel
theorem dX6_reply_121 : decode cX6_reply 121 = .ok (.iaload, 1) := by decide +kernel
theorem dX6_reply_122 : decode cX6_reply 122 = .ok (.aload_n 0, 1) := by decide +kernel
theorem dX6_reply_123 : decode cX6_reply 123 = .ok (.iload_n 3, 1) := by decide +kernel
theorem dX6_reply_124 : decode cX6_reply 124 = .ok (.iconst 2, 1) := by decide +kernel
theorem dX6_reply_125 : decode cX6_reply 125 = .ok (.invokevirtual 250, 3) := by decide +kernel
theorem dX6_reply_128 : decode cX6_reply 128 = .ok (.if_icmp .le 9, 3) := by decide +kernel
theorem dX6_reply_131 : decode cX6_reply 131 = .ok (.aload_n 0, 1) := by decide +kernel
theorem dX6_reply_132 : decode cX6_reply 132 = .ok (.iconst 1, 1) := by decide +kernel
theorem dX6_reply_133 : decode cX6_reply 133 = .ok (.invokevirtual 199, 3) := by decide +kernel
theorem dX6_reply_136 : decode cX6_reply 136 = .ok (.return_, 1) := by decide +kernel
theorem dX6_reply_137 : decode cX6_reply 137 = .ok (.aload_n 0, 1) := by decide +kernel
theorem dX6_reply_138 : decode cX6_reply 138 = .ok (.getfield 17, 3) := by decide +kernel
theorem dX6_reply_141 : decode cX6_reply 141 = .ok (.iload_n 2, 1) := by decide +kernel
theorem dX6_reply_142 : decode cX6_reply 142 = .ok (.iconst 4, 1) := by decide +kernel
theorem dX6_reply_143 : decode cX6_reply 143 = .ok (.iadd, 1) := by decide +kernel
theorem dX6_reply_144 : decode cX6_reply 144 = .ok (.aload_n 0, 1) := by decide +kernel
theorem dX6_reply_145 : decode cX6_reply 145 = .ok (.getfield 17, 3) := by decide +kernel
theorem dX6_reply_148 : decode cX6_reply 148 = .ok (.iload_n 2, 1) := by decide +kernel
theorem dX6_reply_149 : decode cX6_reply 149 = .ok (.bipush 7, 2) := by decide +kernel
theorem dX6_reply_151 : decode cX6_reply 151 = .ok (.iadd, 1) := by decide +kernel
theorem dX6_reply_152 : decode cX6_reply 152 = .ok (.iaload, 1) := by decide +kernel
theorem dX6_reply_153 : decode cX6_reply 153 = .ok (.iastore, 1) := by decide +kernel
theorem dX6_reply_154 : decode cX6_reply 154 = .ok (.aload_n 0, 1) := by decide +kernel
theorem dX6_reply_155 : decode cX6_reply 155 = .ok (.getfield 17, 3) := by decide +kernel
theorem dX6_reply_158 : decode cX6_reply 158 = .ok (.iload_n 2, 1) := by decide +kernel
theorem dX6_reply_159 : decode cX6_reply 159 = .ok (.iconst 5, 1) := by decide +kernel
theorem dX6_reply_160 : decode cX6_reply 160 = .ok (.iadd, 1) := by decide +kernel
theorem dX6_reply_161 : decode cX6_reply 161 = .ok (.dup2, 1) := by decide +kernel
theorem dX6_reply_162 : decode cX6_reply 162 = .ok (.iaload, 1) := by decide +kernel
theorem dX6_reply_163 : decode cX6_reply 163 = .ok (.iconst 1, 1) := by decide +kernel
theorem dX6_reply_164 : decode cX6_reply 164 = .ok (.iadd, 1) := by decide +kernel
theorem dX6_reply_165 : decode cX6_reply 165 = .ok (.iastore, 1) := by decide +kernel
theorem dX6_reply_166 : decode cX6_reply 166 = .ok (.aload_n 0, 1) := by decide +kernel
theorem dX6_reply_167 : decode cX6_reply 167 = .ok (.iconst 0, 1) := by decide +kernel
theorem dX6_reply_168 : decode cX6_reply 168 = .ok (.invokevirtual 199, 3) := by decide +kernel
theorem dX6_reply_171 : decode cX6_reply 171 = .ok (.return_, 1) := by decide +kernel
theorem dX6_mayAnswer_0 : decode cX6_mayAnswer 0 = .ok (.aload_n 0, 1) := by decide +kernel
theorem dX6_mayAnswer_1 : decode cX6_mayAnswer 1 = .ok (.iload_n 1, 1) := by decide +kernel
theorem dX6_mayAnswer_2 : decode cX6_mayAnswer 2 = .ok (.iconst 1, 1) := by decide +kernel
theorem dX6_mayAnswer_3 : decode cX6_mayAnswer 3 = .ok (.invokevirtual 171, 3) := by decide +kernel
theorem dX6_mayAnswer_6 : decode cX6_mayAnswer 6 = .ok (.istore_n 2, 1) := by decide +kernel
theorem dX6_mayAnswer_7 : decode cX6_mayAnswer 7 = .ok (.aload_n 0, 1) := by decide +kernel
theorem dX6_mayAnswer_8 : decode cX6_mayAnswer 8 = .ok (.iload_n 2, 1) := by decide +kernel
theorem dX6_mayAnswer_9 : decode cX6_mayAnswer 9 = .ok (.iconst 0, 1) := by decide +kernel
theorem dX6_mayAnswer_10 : decode cX6_mayAnswer 10 = .ok (.invokevirtual 250, 3) := by decide +kernel
theorem dX6_mayAnswer_13 : decode cX6_mayAnswer 13 = .ok (.istore_n 3, 1) := by decide +kernel
theorem dX6_mayAnswer_14 : decode cX6_mayAnswer 14 = .ok (.iload_n 3, 1) := by decide +kernel
theorem dX6_mayAnswer_15 : decode cX6_mayAnswer 15 = .ok (.ifCond .le 38, 3) := by decide +kernel
theorem dX6_mayAnswer_18 : decode cX6_mayAnswer 18 = .ok (.aload_n 0, 1) := by decide +kernel
theorem dX6_mayAnswer_19 : decode cX6_mayAnswer 19 = .ok (.getfield 17, 3) := by decide +kernel
theorem dX6_mayAnswer_22 : decode cX6_mayAnswer 22 = .ok (.iconst 0, 1) := by decide +kernel
theorem dX6_mayAnswer_23 : decode cX6_mayAnswer 23 = .ok (.iaload, 1) := by decide +kernel
theorem dX6_mayAnswer_24 : decode cX6_mayAnswer 24 = .ok (.aload_n 0, 1) := by decide +kernel
theorem dX6_mayAnswer_25 : decode cX6_mayAnswer 25 = .ok (.aload_n 0, 1) := by decide +kernel
theorem dX6_mayAnswer_26 : decode cX6_mayAnswer 26 = .ok (.iload_n 1, 1) := by decide +kernel
theorem dX6_mayAnswer_27 : decode cX6_mayAnswer 27 = .ok (.iconst 0, 1) := by decide +kernel
theorem dX6_mayAnswer_28 : decode cX6_mayAnswer 28 = .ok (.invokevirtual 171, 3) := by decide +kernel
theorem dX6_mayAnswer_31 : decode cX6_mayAnswer 31 = .ok (.iconst 1, 1) := by decide +kernel
theorem dX6_mayAnswer_32 : decode cX6_mayAnswer 32 = .ok (.invokevirtual 174, 3) := by decide +kernel
theorem dX6_mayAnswer_35 : decode cX6_mayAnswer 35 = .ok (.isub, 1) := by decide +kernel
theorem dX6_mayAnswer_36 : decode cX6_mayAnswer 36 = .ok (.iload_n 3, 1) := by decide +kernel
theorem dX6_mayAnswer_37 : decode cX6_mayAnswer 37 = .ok (.if_icmp .ne 16, 3) := by decide +kernel
theorem dX6_mayAnswer_40 : decode cX6_mayAnswer 40 = .ok (.aload_n 0, 1) := by decide +kernel
theorem dX6_mayAnswer_41 : decode cX6_mayAnswer 41 = .ok (.iload_n 2, 1) := by decide +kernel
theorem dX6_mayAnswer_42 : decode cX6_mayAnswer 42 = .ok (.invokevirtual 234, 3) := by decide +kernel
theorem dX6_mayAnswer_45 : decode cX6_mayAnswer 45 = .ok (.ifCond .ne 8, 3) := by decide +kernel
theorem dX6_mayAnswer_48 : decode cX6_mayAnswer 48 = .ok (.aload_n 0, 1) := by decide +kernel
theorem dX6_mayAnswer_49 : decode cX6_mayAnswer 49 = .ok (.iload_n 1, 1) := by decide +kernel
theorem dX6_mayAnswer_50 : decode cX6_mayAnswer 50 = .ok (.invokevirtual 253, 3) := by decide +kernel
theorem dX6_mayAnswer_53 : decode cX6_mayAnswer 53 = .ok (.return_, 1) := by decide +kernel
theorem dX6_second_0 : decode cX6_second 0 = .ok (.aload_n 0, 1) := by decide +kernel
theorem dX6_second_1 : decode cX6_second 1 = .ok (.getfield 17, 3) := by decide +kernel
theorem dX6_second_4 : decode cX6_second 4 = .ok (.iconst 0, 1) := by decide +kernel
theorem dX6_second_5 : decode cX6_second 5 = .ok (.dup2, 1) := by decide +kernel
theorem dX6_second_6 : decode cX6_second 6 = .ok (.iaload, 1) := by decide +kernel
theorem dX6_second_7 : decode cX6_second 7 = .ok (.iconst 1, 1) := by decide +kernel
theorem dX6_second_8 : decode cX6_second 8 = .ok (.iadd, 1) := by decide +kernel
theorem dX6_second_9 : decode cX6_second 9 = .ok (.iastore, 1) := by decide +kernel
theorem dX6_second_10 : decode cX6_second 10 = .ok (.iconst 0, 1) := by decide +kernel
theorem dX6_second_11 : decode cX6_second 11 = .ok (.istore_n 1, 1) := by decide +kernel
theorem dX6_second_12 : decode cX6_second 12 = .ok (.iload_n 1, 1) := by decide +kernel
theorem dX6_second_13 : decode cX6_second 13 = .ok (.aload_n 0, 1) := by decide +kernel
theorem dX6_second_14 : decode cX6_second 14 = .ok (.getfield 17, 3) := by decide +kernel
theorem dX6_second_17 : decode cX6_second 17 = .ok (.bipush 6, 2) := by decide +kernel
theorem dX6_second_19 : decode cX6_second 19 = .ok (.iaload, 1) := by decide +kernel
theorem dX6_second_20 : decode cX6_second 20 = .ok (.if_icmp .ge 33, 3) := by decide +kernel
theorem dX6_second_23 : decode cX6_second 23 = .ok (.aload_n 0, 1) := by decide +kernel
theorem dX6_second_24 : decode cX6_second 24 = .ok (.iload_n 1, 1) := by decide +kernel
theorem dX6_second_25 : decode cX6_second 25 = .ok (.iconst 1, 1) := by decide +kernel
theorem dX6_second_26 : decode cX6_second 26 = .ok (.invokevirtual 180, 3) := by decide +kernel
theorem dX6_second_29 : decode cX6_second 29 = .ok (.ifCond .ne 6, 3) := by decide +kernel
theorem dX6_second_32 : decode cX6_second 32 = .ok (.goto 15, 3) := by decide +kernel
theorem dX6_second_35 : decode cX6_second 35 = .ok (.aload_n 0, 1) := by decide +kernel
theorem dX6_second_36 : decode cX6_second 36 = .ok (.iload_n 1, 1) := by decide +kernel
theorem dX6_second_37 : decode cX6_second 37 = .ok (.iconst 0, 1) := by decide +kernel
theorem dX6_second_38 : decode cX6_second 38 = .ok (.invokevirtual 256, 3) := by decide +kernel
theorem dX6_second_41 : decode cX6_second 41 = .ok (.aload_n 0, 1) := by decide +kernel
theorem dX6_second_42 : decode cX6_second 42 = .ok (.iload_n 1, 1) := by decide +kernel
theorem dX6_second_43 : decode cX6_second 43 = .ok (.iconst 1, 1) := by decide +kernel
theorem dX6_second_44 : decode cX6_second 44 = .ok (.invokevirtual 256, 3) := by decide +kernel
theorem dX6_second_47 : decode cX6_second 47 = .ok (.iinc 1 1, 3) := by decide +kernel
theorem dX6_second_50 : decode cX6_second 50 = .ok (.goto (-38), 3) := by decide +kernel
theorem dX6_second_53 : decode cX6_second 53 = .ok (.iconst 0, 1) := by decide +kernel
theorem dX6_second_54 : decode cX6_second 54 = .ok (.istore_n 1, 1) := by decide +kernel
theorem dX6_second_55 : decode cX6_second 55 = .ok (.iload_n 1, 1) := by decide +kernel
theorem dX6_second_56 : decode cX6_second 56 = .ok (.aload_n 0, 1) := by decide +kernel
theorem dX6_second_57 : decode cX6_second 57 = .ok (.getfield 17, 3) := by decide +kernel
theorem dX6_second_60 : decode cX6_second 60 = .ok (.bipush 6, 2) := by decide +kernel
theorem dX6_second_62 : decode cX6_second 62 = .ok (.iaload, 1) := by decide +kernel
theorem dX6_second_63 : decode cX6_second 63 = .ok (.if_icmp .ge 23, 3) := by decide +kernel
theorem dX6_second_66 : decode cX6_second 66 = .ok (.aload_n 0, 1) := by decide +kernel
theorem dX6_second_67 : decode cX6_second 67 = .ok (.iload_n 1, 1) := by decide +kernel
theorem dX6_second_68 : decode cX6_second 68 = .ok (.iconst 1, 1) := by decide +kernel
theorem dX6_second_69 : decode cX6_second 69 = .ok (.invokevirtual 180, 3) := by decide +kernel
theorem dX6_second_72 : decode cX6_second 72 = .ok (.ifCond .eq 8, 3) := by decide +kernel
theorem dX6_second_75 : decode cX6_second 75 = .ok (.aload_n 0, 1) := by decide +kernel
theorem dX6_second_76 : decode cX6_second 76 = .ok (.iload_n 1, 1) := by decide +kernel
theorem dX6_second_77 : decode cX6_second 77 = .ok (.invokevirtual 259, 3) := by decide +kernel
theorem dX6_second_80 : decode cX6_second 80 = .ok (.iinc 1 1, 3) := by decide +kernel
theorem dX6_second_83 : decode cX6_second 83 = .ok (.goto (-28), 3) := by decide +kernel
theorem dX6_second_86 : decode cX6_second 86 = .ok (.iconst 0, 1) := by decide +kernel
theorem dX6_second_87 : decode cX6_second 87 = .ok (.istore_n 1, 1) := by decide +kernel
theorem dX6_second_88 : decode cX6_second 88 = .ok (.iload_n 1, 1) := by decide +kernel
theorem dX6_second_89 : decode cX6_second 89 = .ok (.aload_n 0, 1) := by decide +kernel
theorem dX6_second_90 : decode cX6_second 90 = .ok (.getfield 17, 3) := by decide +kernel
theorem dX6_second_93 : decode cX6_second 93 = .ok (.bipush 6, 2) := by decide +kernel
theorem dX6_second_95 : decode cX6_second 95 = .ok (.iaload, 1) := by decide +kernel
theorem dX6_second_96 : decode cX6_second 96 = .ok (.if_icmp .ge 23, 3) := by decide +kernel
theorem dX6_second_99 : decode cX6_second 99 = .ok (.aload_n 0, 1) := by decide +kernel
theorem dX6_second_100 : decode cX6_second 100 = .ok (.iload_n 1, 1) := by decide +kernel
theorem dX6_second_101 : decode cX6_second 101 = .ok (.iconst 0, 1) := by decide +kernel
theorem dX6_second_102 : decode cX6_second 102 = .ok (.invokevirtual 180, 3) := by decide +kernel
theorem dX6_second_105 : decode cX6_second 105 = .ok (.ifCond .eq 8, 3) := by decide +kernel
theorem dX6_second_108 : decode cX6_second 108 = .ok (.aload_n 0, 1) := by decide +kernel
theorem dX6_second_109 : decode cX6_second 109 = .ok (.iload_n 1, 1) := by decide +kernel
theorem dX6_second_110 : decode cX6_second 110 = .ok (.invokevirtual 262, 3) := by decide +kernel
theorem dX6_second_113 : decode cX6_second 113 = .ok (.iinc 1 1, 3) := by decide +kernel
theorem dX6_second_116 : decode cX6_second 116 = .ok (.goto (-28), 3) := by decide +kernel
theorem dX6_second_119 : decode cX6_second 119 = .ok (.iconst 0, 1) := by decide +kernel
theorem dX6_second_120 : decode cX6_second 120 = .ok (.istore_n 1, 1) := by decide +kernel
theorem dX6_second_121 : decode cX6_second 121 = .ok (.iload_n 1, 1) := by decide +kernel
theorem dX6_second_122 : decode cX6_second 122 = .ok (.aload_n 0, 1) := by decide +kernel
theorem dX6_second_123 : decode cX6_second 123 = .ok (.getfield 17, 3) := by decide +kernel
theorem dX6_second_126 : decode cX6_second 126 = .ok (.iconst 5, 1) := by decide +kernel
theorem dX6_second_127 : decode cX6_second 127 = .ok (.iaload, 1) := by decide +kernel
theorem dX6_second_128 : decode cX6_second 128 = .ok (.if_icmp .ge 54, 3) := by decide +kernel
theorem dX6_second_131 : decode cX6_second 131 = .ok (.aload_n 0, 1) := by decide +kernel
theorem dX6_second_132 : decode cX6_second 132 = .ok (.iload_n 1, 1) := by decide +kernel
theorem dX6_second_133 : decode cX6_second 133 = .ok (.invokevirtual 187, 3) := by decide +kernel
theorem dX6_second_136 : decode cX6_second 136 = .ok (.ifCond .eq 40, 3) := by decide +kernel
theorem dX6_second_139 : decode cX6_second 139 = .ok (.aload_n 0, 1) := by decide +kernel
theorem dX6_second_140 : decode cX6_second 140 = .ok (.getfield 17, 3) := by decide +kernel
theorem dX6_second_143 : decode cX6_second 143 = .ok (.iconst 0, 1) := by decide +kernel
theorem dX6_second_144 : decode cX6_second 144 = .ok (.iaload, 1) := by decide +kernel
theorem dX6_second_145 : decode cX6_second 145 = .ok (.aload_n 0, 1) := by decide +kernel
theorem dX6_second_146 : decode cX6_second 146 = .ok (.iload_n 1, 1) := by decide +kernel
theorem dX6_second_147 : decode cX6_second 147 = .ok (.iconst 1, 1) := by decide +kernel
theorem dX6_second_148 : decode cX6_second 148 = .ok (.invokevirtual 174, 3) := by decide +kernel
theorem dX6_second_151 : decode cX6_second 151 = .ok (.isub, 1) := by decide +kernel
theorem dX6_second_152 : decode cX6_second 152 = .ok (.aload_n 0, 1) := by decide +kernel
theorem dX6_second_153 : decode cX6_second 153 = .ok (.iload_n 1, 1) := by decide +kernel
theorem dX6_second_154 : decode cX6_second 154 = .ok (.iconst 2, 1) := by decide +kernel
theorem dX6_second_155 : decode cX6_second 155 = .ok (.invokevirtual 174, 3) := by decide +kernel
theorem dX6_second_158 : decode cX6_second 158 = .ok (.if_icmp .ge 6, 3) := by decide +kernel
theorem dX6_second_161 : decode cX6_second 161 = .ok (.goto 15, 3) := by decide +kernel
theorem dX6_second_164 : decode cX6_second 164 = .ok (.aload_n 0, 1) := by decide +kernel
theorem dX6_second_165 : decode cX6_second 165 = .ok (.iload_n 1, 1) := by decide +kernel
theorem dX6_second_166 : decode cX6_second 166 = .ok (.iconst (-1), 1) := by decide +kernel
theorem dX6_second_167 : decode cX6_second 167 = .ok (.iconst 3, 1) := by decide +kernel
theorem dX6_second_168 : decode cX6_second 168 = .ok (.invokevirtual 211, 3) := by decide +kernel
theorem dX6_second_171 : decode cX6_second 171 = .ok (.aload_n 0, 1) := by decide +kernel
theorem dX6_second_172 : decode cX6_second 172 = .ok (.iload_n 1, 1) := by decide +kernel
theorem dX6_second_173 : decode cX6_second 173 = .ok (.invokevirtual 208, 3) := by decide +kernel
theorem dX6_second_176 : decode cX6_second 176 = .ok (.iinc 1 1, 3) := by decide +kernel
theorem dX6_second_179 : decode cX6_second 179 = .ok (.goto (-58), 3) := by decide +kernel
theorem dX6_second_182 : decode cX6_second 182 = .ok (.return_, 1) := by decide +kernel
theorem dX6_noParty_0 : decode cX6_noParty 0 = .ok (.aload_n 0, 1) := by decide +kernel
theorem dX6_noParty_1 : decode cX6_noParty 1 = .ok (.iload_n 1, 1) := by decide +kernel
theorem dX6_noParty_2 : decode cX6_noParty 2 = .ok (.iconst 0, 1) := by decide +kernel
theorem dX6_noParty_3 : decode cX6_noParty 3 = .ok (.aload_n 0, 1) := by decide +kernel
theorem dX6_noParty_4 : decode cX6_noParty 4 = .ok (.getfield 17, 3) := by decide +kernel
theorem dX6_noParty_7 : decode cX6_noParty 7 = .ok (.iconst 4, 1) := by decide +kernel
theorem dX6_noParty_8 : decode cX6_noParty 8 = .ok (.iaload, 1) := by decide +kernel
theorem dX6_noParty_9 : decode cX6_noParty 9 = .ok (.iconst 1, 1) := by decide +kernel
theorem dX6_noParty_10 : decode cX6_noParty 10 = .ok (.isub, 1) := by decide +kernel
theorem dX6_noParty_11 : decode cX6_noParty 11 = .ok (.invokestatic 61, 3) := by decide +kernel
theorem dX6_noParty_14 : decode cX6_noParty 14 = .ok (.ifCond .ne 7, 3) := by decide +kernel
theorem dX6_noParty_17 : decode cX6_noParty 17 = .ok (.iconst 1, 1) := by decide +kernel
theorem dX6_noParty_18 : decode cX6_noParty 18 = .ok (.goto 4, 3) := by decide +kernel
theorem dX6_noParty_21 : decode cX6_noParty 21 = .ok (.iconst 0, 1) := by decide +kernel
theorem dX6_noParty_22 : decode cX6_noParty 22 = .ok (.iconst 1, 1) := by decide +kernel
theorem dX6_noParty_23 : decode cX6_noParty 23 = .ok (.invokevirtual 149, 3) := by decide +kernel
theorem dX6_noParty_26 : decode cX6_noParty 26 = .ok (.ireturn, 1) := by decide +kernel
theorem dX6_noCall_0 : decode cX6_noCall 0 = .ok (.aload_n 0, 1) := by decide +kernel
theorem dX6_noCall_1 : decode cX6_noCall 1 = .ok (.iload_n 1, 1) := by decide +kernel
theorem dX6_noCall_2 : decode cX6_noCall 2 = .ok (.iconst 0, 1) := by decide +kernel
theorem dX6_noCall_3 : decode cX6_noCall 3 = .ok (.aload_n 0, 1) := by decide +kernel
theorem dX6_noCall_4 : decode cX6_noCall 4 = .ok (.getfield 17, 3) := by decide +kernel
theorem dX6_noCall_7 : decode cX6_noCall 7 = .ok (.iconst 5, 1) := by decide +kernel
theorem dX6_noCall_8 : decode cX6_noCall 8 = .ok (.iaload, 1) := by decide +kernel
theorem dX6_noCall_9 : decode cX6_noCall 9 = .ok (.iconst 1, 1) := by decide +kernel
theorem dX6_noCall_10 : decode cX6_noCall 10 = .ok (.isub, 1) := by decide +kernel
theorem dX6_noCall_11 : decode cX6_noCall 11 = .ok (.invokestatic 61, 3) := by decide +kernel
theorem dX6_noCall_14 : decode cX6_noCall 14 = .ok (.ifCond .ne 7, 3) := by decide +kernel
theorem dX6_noCall_17 : decode cX6_noCall 17 = .ok (.iconst 1, 1) := by decide +kernel
theorem dX6_noCall_18 : decode cX6_noCall 18 = .ok (.goto 4, 3) := by decide +kernel
theorem dX6_noCall_21 : decode cX6_noCall 21 = .ok (.iconst 0, 1) := by decide +kernel
theorem dX6_noCall_22 : decode cX6_noCall 22 = .ok (.iconst 1, 1) := by decide +kernel
theorem dX6_noCall_23 : decode cX6_noCall 23 = .ok (.invokevirtual 149, 3) := by decide +kernel
theorem dX6_noCall_26 : decode cX6_noCall 26 = .ok (.ireturn, 1) := by decide +kernel
theorem dX6_noLeg_0 : decode cX6_noLeg 0 = .ok (.aload_n 0, 1) := by decide +kernel
theorem dX6_noLeg_1 : decode cX6_noLeg 1 = .ok (.iload_n 1, 1) := by decide +kernel
theorem dX6_noLeg_2 : decode cX6_noLeg 2 = .ok (.iconst 0, 1) := by decide +kernel
theorem dX6_noLeg_3 : decode cX6_noLeg 3 = .ok (.aload_n 0, 1) := by decide +kernel
theorem dX6_noLeg_4 : decode cX6_noLeg 4 = .ok (.getfield 17, 3) := by decide +kernel
theorem dX6_noLeg_7 : decode cX6_noLeg 7 = .ok (.bipush 6, 2) := by decide +kernel
theorem dX6_noLeg_9 : decode cX6_noLeg 9 = .ok (.iaload, 1) := by decide +kernel
theorem dX6_noLeg_10 : decode cX6_noLeg 10 = .ok (.iconst 1, 1) := by decide +kernel
theorem dX6_noLeg_11 : decode cX6_noLeg 11 = .ok (.isub, 1) := by decide +kernel
theorem dX6_noLeg_12 : decode cX6_noLeg 12 = .ok (.invokestatic 61, 3) := by decide +kernel
theorem dX6_noLeg_15 : decode cX6_noLeg 15 = .ok (.ifCond .ne 7, 3) := by decide +kernel
theorem dX6_noLeg_18 : decode cX6_noLeg 18 = .ok (.iconst 1, 1) := by decide +kernel
theorem dX6_noLeg_19 : decode cX6_noLeg 19 = .ok (.goto 4, 3) := by decide +kernel
theorem dX6_noLeg_22 : decode cX6_noLeg 22 = .ok (.iconst 0, 1) := by decide +kernel
theorem dX6_noLeg_23 : decode cX6_noLeg 23 = .ok (.iconst 1, 1) := by decide +kernel
theorem dX6_noLeg_24 : decode cX6_noLeg 24 = .ok (.invokevirtual 149, 3) := by decide +kernel
theorem dX6_noLeg_27 : decode cX6_noLeg 27 = .ok (.ireturn, 1) := by decide +kernel
theorem dX6_noWhat_0 : decode cX6_noWhat 0 = .ok (.aload_n 0, 1) := by decide +kernel
theorem dX6_noWhat_1 : decode cX6_noWhat 1 = .ok (.iload_n 1, 1) := by decide +kernel
theorem dX6_noWhat_2 : decode cX6_noWhat 2 = .ok (.iconst 0, 1) := by decide +kernel
theorem dX6_noWhat_3 : decode cX6_noWhat 3 = .ok (.iload_n 2, 1) := by decide +kernel
theorem dX6_noWhat_4 : decode cX6_noWhat 4 = .ok (.invokestatic 61, 3) := by decide +kernel
theorem dX6_noWhat_7 : decode cX6_noWhat 7 = .ok (.ifCond .ne 7, 3) := by decide +kernel
theorem dX6_noWhat_10 : decode cX6_noWhat 10 = .ok (.iconst 1, 1) := by decide +kernel
theorem dX6_noWhat_11 : decode cX6_noWhat 11 = .ok (.goto 4, 3) := by decide +kernel
theorem dX6_noWhat_14 : decode cX6_noWhat 14 = .ok (.iconst 0, 1) := by decide +kernel
theorem dX6_noWhat_15 : decode cX6_noWhat 15 = .ok (.iload_n 3, 1) := by decide +kernel
theorem dX6_noWhat_16 : decode cX6_noWhat 16 = .ok (.invokevirtual 149, 3) := by decide +kernel
theorem dX6_noWhat_19 : decode cX6_noWhat 19 = .ok (.ireturn, 1) := by decide +kernel
theorem dX6_time_0 : decode cX6_time 0 = .ok (.aload_n 0, 1) := by decide +kernel
theorem dX6_time_1 : decode cX6_time 1 = .ok (.iconst 0, 1) := by decide +kernel
theorem dX6_time_2 : decode cX6_time 2 = .ok (.putfield 39, 3) := by decide +kernel
theorem dX6_time_5 : decode cX6_time 5 = .ok (.aload_n 0, 1) := by decide +kernel
theorem dX6_time_6 : decode cX6_time 6 = .ok (.getfield 17, 3) := by decide +kernel
theorem dX6_time_9 : decode cX6_time 9 = .ok (.iconst 0, 1) := by decide +kernel
theorem dX6_time_10 : decode cX6_time 10 = .ok (.iaload, 1) := by decide +kernel
theorem dX6_time_11 : decode cX6_time 11 = .ok (.ireturn, 1) := by decide +kernel
theorem dX6_count_0 : decode cX6_count 0 = .ok (.aload_n 0, 1) := by decide +kernel
theorem dX6_count_1 : decode cX6_count 1 = .ok (.iconst 0, 1) := by decide +kernel
theorem dX6_count_2 : decode cX6_count 2 = .ok (.putfield 39, 3) := by decide +kernel
theorem dX6_count_5 : decode cX6_count 5 = .ok (.aload_n 0, 1) := by decide +kernel
theorem dX6_count_6 : decode cX6_count 6 = .ok (.iload_n 1, 1) := by decide +kernel
theorem dX6_count_7 : decode cX6_count 7 = .ok (.bipush 7, 2) := by decide +kernel
theorem dX6_count_9 : decode cX6_count 9 = .ok (.iconst 1, 1) := by decide +kernel
theorem dX6_count_10 : decode cX6_count 10 = .ok (.invokevirtual 265, 3) := by decide +kernel
theorem dX6_count_13 : decode cX6_count 13 = .ok (.ifCond .eq 5, 3) := by decide +kernel
theorem dX6_count_16 : decode cX6_count 16 = .ok (.iconst 0, 1) := by decide +kernel
theorem dX6_count_17 : decode cX6_count 17 = .ok (.ireturn, 1) := by decide +kernel
theorem dX6_count_18 : decode cX6_count 18 = .ok (.iload_n 1, 1) := by decide +kernel
theorem dX6_count_19 : decode cX6_count 19 = .ok (.iconst 3, 1) := by decide +kernel
theorem dX6_count_20 : decode cX6_count 20 = .ok (.if_icmp .ge 14, 3) := by decide +kernel
theorem dX6_count_23 : decode cX6_count 23 = .ok (.aload_n 0, 1) := by decide +kernel
theorem dX6_count_24 : decode cX6_count 24 = .ok (.getfield 17, 3) := by decide +kernel
theorem dX6_count_27 : decode cX6_count 27 = .ok (.iconst 4, 1) := by decide +kernel
theorem dX6_count_28 : decode cX6_count 28 = .ok (.iload_n 1, 1) := by decide +kernel
theorem dX6_count_29 : decode cX6_count 29 = .ok (.iadd, 1) := by decide +kernel
theorem dX6_count_30 : decode cX6_count 30 = .ok (.iaload, 1) := by decide +kernel
theorem dX6_count_31 : decode cX6_count 31 = .ok (.goto 39, 3) := by decide +kernel
theorem dX6_count_34 : decode cX6_count 34 = .ok (.iload_n 1, 1) := by decide +kernel
theorem dX6_count_35 : decode cX6_count 35 = .ok (.iconst 3, 1) := by decide +kernel
theorem dX6_count_36 : decode cX6_count 36 = .ok (.if_icmp .ne 11, 3) := by decide +kernel
theorem dX6_count_39 : decode cX6_count 39 = .ok (.aload_n 0, 1) := by decide +kernel
theorem dX6_count_40 : decode cX6_count 40 = .ok (.iconst 1, 1) := by decide +kernel
theorem dX6_count_41 : decode cX6_count 41 = .ok (.invokevirtual 268, 3) := by decide +kernel
theorem dX6_count_44 : decode cX6_count 44 = .ok (.goto 26, 3) := by decide +kernel
theorem dX6_count_47 : decode cX6_count 47 = .ok (.iload_n 1, 1) := by decide +kernel
theorem dX6_count_48 : decode cX6_count 48 = .ok (.iconst 4, 1) := by decide +kernel
theorem dX6_count_49 : decode cX6_count 49 = .ok (.if_icmp .ne 11, 3) := by decide +kernel
theorem dX6_count_52 : decode cX6_count 52 = .ok (.aload_n 0, 1) := by decide +kernel
theorem dX6_count_53 : decode cX6_count 53 = .ok (.iconst 0, 1) := by decide +kernel
theorem dX6_count_54 : decode cX6_count 54 = .ok (.invokevirtual 268, 3) := by decide +kernel
theorem dX6_count_57 : decode cX6_count 57 = .ok (.goto 13, 3) := by decide +kernel
theorem dX6_count_60 : decode cX6_count 60 = .ok (.aload_n 0, 1) := by decide +kernel
theorem dX6_count_61 : decode cX6_count 61 = .ok (.getfield 17, 3) := by decide +kernel
theorem dX6_count_64 : decode cX6_count 64 = .ok (.iconst 1, 1) := by decide +kernel
theorem dX6_count_65 : decode cX6_count 65 = .ok (.iload_n 1, 1) := by decide +kernel
theorem dX6_count_66 : decode cX6_count 66 = .ok (.iadd, 1) := by decide +kernel
theorem dX6_count_67 : decode cX6_count 67 = .ok (.iconst 5, 1) := by decide +kernel
theorem dX6_count_68 : decode cX6_count 68 = .ok (.isub, 1) := by decide +kernel
theorem dX6_count_69 : decode cX6_count 69 = .ok (.iaload, 1) := by decide +kernel
theorem dX6_count_70 : decode cX6_count 70 = .ok (.ireturn, 1) := by decide +kernel
theorem dX6_tellParty_0 : decode cX6_tellParty 0 = .ok (.iload_n 2, 1) := by decide +kernel
theorem dX6_tellParty_1 : decode cX6_tellParty 1 = .ok (.iconst 3, 1) := by decide +kernel
theorem dX6_tellParty_2 : decode cX6_tellParty 2 = .ok (.if_icmp .ge 12, 3) := by decide +kernel
theorem dX6_tellParty_5 : decode cX6_tellParty 5 = .ok (.aload_n 0, 1) := by decide +kernel
theorem dX6_tellParty_6 : decode cX6_tellParty 6 = .ok (.iload_n 1, 1) := by decide +kernel
theorem dX6_tellParty_7 : decode cX6_tellParty 7 = .ok (.iload_n 2, 1) := by decide +kernel
theorem dX6_tellParty_8 : decode cX6_tellParty 8 = .ok (.invokevirtual 250, 3) := by decide +kernel
theorem dX6_tellParty_11 : decode cX6_tellParty 11 = .ok (.goto 43, 3) := by decide +kernel
theorem dX6_tellParty_14 : decode cX6_tellParty 14 = .ok (.iload_n 2, 1) := by decide +kernel
theorem dX6_tellParty_15 : decode cX6_tellParty 15 = .ok (.iconst 3, 1) := by decide +kernel
theorem dX6_tellParty_16 : decode cX6_tellParty 16 = .ok (.if_icmp .ne 19, 3) := by decide +kernel
theorem dX6_tellParty_19 : decode cX6_tellParty 19 = .ok (.aload_n 0, 1) := by decide +kernel
theorem dX6_tellParty_20 : decode cX6_tellParty 20 = .ok (.iload_n 1, 1) := by decide +kernel
theorem dX6_tellParty_21 : decode cX6_tellParty 21 = .ok (.invokevirtual 234, 3) := by decide +kernel
theorem dX6_tellParty_24 : decode cX6_tellParty 24 = .ok (.ifCond .eq 7, 3) := by decide +kernel
theorem dX6_tellParty_27 : decode cX6_tellParty 27 = .ok (.iconst 1, 1) := by decide +kernel
theorem dX6_tellParty_28 : decode cX6_tellParty 28 = .ok (.goto 26, 3) := by decide +kernel
theorem dX6_tellParty_31 : decode cX6_tellParty 31 = .ok (.iconst 0, 1) := by decide +kernel
theorem dX6_tellParty_32 : decode cX6_tellParty 32 = .ok (.goto 22, 3) := by decide +kernel
theorem dX6_tellParty_35 : decode cX6_tellParty 35 = .ok (.iload_n 2, 1) := by decide +kernel
theorem dX6_tellParty_36 : decode cX6_tellParty 36 = .ok (.iconst 4, 1) := by decide +kernel
theorem dX6_tellParty_37 : decode cX6_tellParty 37 = .ok (.if_icmp .ne 12, 3) := by decide +kernel
theorem dX6_tellParty_40 : decode cX6_tellParty 40 = .ok (.aload_n 0, 1) := by decide +kernel
theorem dX6_tellParty_41 : decode cX6_tellParty 41 = .ok (.iload_n 1, 1) := by decide +kernel
theorem dX6_tellParty_42 : decode cX6_tellParty 42 = .ok (.iconst 1, 1) := by decide +kernel
theorem dX6_tellParty_43 : decode cX6_tellParty 43 = .ok (.invokevirtual 190, 3) := by decide +kernel
theorem dX6_tellParty_46 : decode cX6_tellParty 46 = .ok (.goto 8, 3) := by decide +kernel
theorem dX6_tellParty_49 : decode cX6_tellParty 49 = .ok (.aload_n 0, 1) := by decide +kernel
theorem dX6_tellParty_50 : decode cX6_tellParty 50 = .ok (.iload_n 1, 1) := by decide +kernel
theorem dX6_tellParty_51 : decode cX6_tellParty 51 = .ok (.invokevirtual 271, 3) := by decide +kernel
theorem dX6_tellParty_54 : decode cX6_tellParty 54 = .ok (.ireturn, 1) := by decide +kernel
theorem dX6_party_0 : decode cX6_party 0 = .ok (.aload_n 0, 1) := by decide +kernel
theorem dX6_party_1 : decode cX6_party 1 = .ok (.iconst 0, 1) := by decide +kernel
theorem dX6_party_2 : decode cX6_party 2 = .ok (.putfield 39, 3) := by decide +kernel
theorem dX6_party_5 : decode cX6_party 5 = .ok (.aload_n 0, 1) := by decide +kernel
theorem dX6_party_6 : decode cX6_party 6 = .ok (.iload_n 1, 1) := by decide +kernel
theorem dX6_party_7 : decode cX6_party 7 = .ok (.invokevirtual 274, 3) := by decide +kernel
theorem dX6_party_10 : decode cX6_party 10 = .ok (.ifCond .ne 13, 3) := by decide +kernel
theorem dX6_party_13 : decode cX6_party 13 = .ok (.aload_n 0, 1) := by decide +kernel
theorem dX6_party_14 : decode cX6_party 14 = .ok (.iload_n 2, 1) := by decide +kernel
theorem dX6_party_15 : decode cX6_party 15 = .ok (.iconst 5, 1) := by decide +kernel
theorem dX6_party_16 : decode cX6_party 16 = .ok (.iconst 2, 1) := by decide +kernel
theorem dX6_party_17 : decode cX6_party 17 = .ok (.invokevirtual 265, 3) := by decide +kernel
theorem dX6_party_20 : decode cX6_party 20 = .ok (.ifCond .eq 7, 3) := by decide +kernel
theorem dX6_party_23 : decode cX6_party 23 = .ok (.iconst 0, 1) := by decide +kernel
theorem dX6_party_24 : decode cX6_party 24 = .ok (.goto 9, 3) := by decide +kernel
theorem dX6_party_27 : decode cX6_party 27 = .ok (.aload_n 0, 1) := by decide +kernel
theorem dX6_party_28 : decode cX6_party 28 = .ok (.iload_n 1, 1) := by decide +kernel
theorem dX6_party_29 : decode cX6_party 29 = .ok (.iload_n 2, 1) := by decide +kernel
theorem dX6_party_30 : decode cX6_party 30 = .ok (.invokevirtual 277, 3) := by decide +kernel
theorem dX6_party_33 : decode cX6_party 33 = .ok (.ireturn, 1) := by decide +kernel
theorem dX6_tellCall_0 : decode cX6_tellCall 0 = .ok (.iload_n 2, 1) := by decide +kernel
theorem dX6_tellCall_1 : decode cX6_tellCall 1 = .ok (.iconst 4, 1) := by decide +kernel
theorem dX6_tellCall_2 : decode cX6_tellCall 2 = .ok (.if_icmp .ge 12, 3) := by decide +kernel
theorem dX6_tellCall_5 : decode cX6_tellCall 5 = .ok (.aload_n 0, 1) := by decide +kernel
theorem dX6_tellCall_6 : decode cX6_tellCall 6 = .ok (.iload_n 1, 1) := by decide +kernel
theorem dX6_tellCall_7 : decode cX6_tellCall 7 = .ok (.iload_n 2, 1) := by decide +kernel
theorem dX6_tellCall_8 : decode cX6_tellCall 8 = .ok (.invokevirtual 174, 3) := by decide +kernel
theorem dX6_tellCall_11 : decode cX6_tellCall 11 = .ok (.goto 30, 3) := by decide +kernel
theorem dX6_tellCall_14 : decode cX6_tellCall 14 = .ok (.iload_n 2, 1) := by decide +kernel
theorem dX6_tellCall_15 : decode cX6_tellCall 15 = .ok (.iconst 4, 1) := by decide +kernel
theorem dX6_tellCall_16 : decode cX6_tellCall 16 = .ok (.if_icmp .ne 19, 3) := by decide +kernel
theorem dX6_tellCall_19 : decode cX6_tellCall 19 = .ok (.aload_n 0, 1) := by decide +kernel
theorem dX6_tellCall_20 : decode cX6_tellCall 20 = .ok (.iload_n 1, 1) := by decide +kernel
theorem dX6_tellCall_21 : decode cX6_tellCall 21 = .ok (.invokevirtual 187, 3) := by decide +kernel
theorem dX6_tellCall_24 : decode cX6_tellCall 24 = .ok (.ifCond .eq 7, 3) := by decide +kernel
theorem dX6_tellCall_27 : decode cX6_tellCall 27 = .ok (.iconst 1, 1) := by decide +kernel
theorem dX6_tellCall_28 : decode cX6_tellCall 28 = .ok (.goto 13, 3) := by decide +kernel
theorem dX6_tellCall_31 : decode cX6_tellCall 31 = .ok (.iconst 0, 1) := by decide +kernel
theorem dX6_tellCall_32 : decode cX6_tellCall 32 = .ok (.goto 9, 3) := by decide +kernel
theorem dX6_tellCall_35 : decode cX6_tellCall 35 = .ok (.aload_n 0, 1) := by decide +kernel
theorem dX6_tellCall_36 : decode cX6_tellCall 36 = .ok (.iload_n 1, 1) := by decide +kernel
theorem dX6_tellCall_37 : decode cX6_tellCall 37 = .ok (.iconst 4, 1) := by decide +kernel
theorem dX6_tellCall_38 : decode cX6_tellCall 38 = .ok (.invokevirtual 174, 3) := by decide +kernel
theorem dX6_tellCall_41 : decode cX6_tellCall 41 = .ok (.ireturn, 1) := by decide +kernel
theorem dX6_call_0 : decode cX6_call 0 = .ok (.aload_n 0, 1) := by decide +kernel
theorem dX6_call_1 : decode cX6_call 1 = .ok (.iconst 0, 1) := by decide +kernel
theorem dX6_call_2 : decode cX6_call 2 = .ok (.putfield 39, 3) := by decide +kernel
theorem dX6_call_5 : decode cX6_call 5 = .ok (.aload_n 0, 1) := by decide +kernel
theorem dX6_call_6 : decode cX6_call 6 = .ok (.iload_n 1, 1) := by decide +kernel
theorem dX6_call_7 : decode cX6_call 7 = .ok (.invokevirtual 280, 3) := by decide +kernel
theorem dX6_call_10 : decode cX6_call 10 = .ok (.ifCond .ne 13, 3) := by decide +kernel
theorem dX6_call_13 : decode cX6_call 13 = .ok (.aload_n 0, 1) := by decide +kernel
theorem dX6_call_14 : decode cX6_call 14 = .ok (.iload_n 2, 1) := by decide +kernel
theorem dX6_call_15 : decode cX6_call 15 = .ok (.iconst 5, 1) := by decide +kernel
theorem dX6_call_16 : decode cX6_call 16 = .ok (.iconst 2, 1) := by decide +kernel
theorem dX6_call_17 : decode cX6_call 17 = .ok (.invokevirtual 265, 3) := by decide +kernel
theorem dX6_call_20 : decode cX6_call 20 = .ok (.ifCond .eq 7, 3) := by decide +kernel
theorem dX6_call_23 : decode cX6_call 23 = .ok (.iconst 0, 1) := by decide +kernel
theorem dX6_call_24 : decode cX6_call 24 = .ok (.goto 9, 3) := by decide +kernel
theorem dX6_call_27 : decode cX6_call 27 = .ok (.aload_n 0, 1) := by decide +kernel
theorem dX6_call_28 : decode cX6_call 28 = .ok (.iload_n 1, 1) := by decide +kernel
theorem dX6_call_29 : decode cX6_call 29 = .ok (.iload_n 2, 1) := by decide +kernel
theorem dX6_call_30 : decode cX6_call 30 = .ok (.invokevirtual 283, 3) := by decide +kernel
theorem dX6_call_33 : decode cX6_call 33 = .ok (.ireturn, 1) := by decide +kernel
theorem dX6_leg_0 : decode cX6_leg 0 = .ok (.aload_n 0, 1) := by decide +kernel
theorem dX6_leg_1 : decode cX6_leg 1 = .ok (.iconst 0, 1) := by decide +kernel
theorem dX6_leg_2 : decode cX6_leg 2 = .ok (.putfield 39, 3) := by decide +kernel
theorem dX6_leg_5 : decode cX6_leg 5 = .ok (.aload_n 0, 1) := by decide +kernel
theorem dX6_leg_6 : decode cX6_leg 6 = .ok (.iload_n 1, 1) := by decide +kernel
theorem dX6_leg_7 : decode cX6_leg 7 = .ok (.invokevirtual 286, 3) := by decide +kernel
theorem dX6_leg_10 : decode cX6_leg 10 = .ok (.ifCond .ne 13, 3) := by decide +kernel
theorem dX6_leg_13 : decode cX6_leg 13 = .ok (.aload_n 0, 1) := by decide +kernel
theorem dX6_leg_14 : decode cX6_leg 14 = .ok (.iload_n 2, 1) := by decide +kernel
theorem dX6_leg_15 : decode cX6_leg 15 = .ok (.iconst 5, 1) := by decide +kernel
theorem dX6_leg_16 : decode cX6_leg 16 = .ok (.iconst 2, 1) := by decide +kernel
theorem dX6_leg_17 : decode cX6_leg 17 = .ok (.invokevirtual 265, 3) := by decide +kernel
theorem dX6_leg_20 : decode cX6_leg 20 = .ok (.ifCond .eq 7, 3) := by decide +kernel
theorem dX6_leg_23 : decode cX6_leg 23 = .ok (.iconst 0, 1) := by decide +kernel
theorem dX6_leg_24 : decode cX6_leg 24 = .ok (.goto 9, 3) := by decide +kernel
theorem dX6_leg_27 : decode cX6_leg 27 = .ok (.aload_n 0, 1) := by decide +kernel
theorem dX6_leg_28 : decode cX6_leg 28 = .ok (.iload_n 1, 1) := by decide +kernel
theorem dX6_leg_29 : decode cX6_leg 29 = .ok (.iload_n 2, 1) := by decide +kernel
theorem dX6_leg_30 : decode cX6_leg 30 = .ok (.invokevirtual 171, 3) := by decide +kernel
theorem dX6_leg_33 : decode cX6_leg 33 = .ok (.ireturn, 1) := by decide +kernel
theorem dX6_pending_0 : decode cX6_pending 0 = .ok (.aload_n 0, 1) := by decide +kernel
theorem dX6_pending_1 : decode cX6_pending 1 = .ok (.iconst 0, 1) := by decide +kernel
theorem dX6_pending_2 : decode cX6_pending 2 = .ok (.putfield 39, 3) := by decide +kernel
theorem dX6_pending_5 : decode cX6_pending 5 = .ok (.aload_n 0, 1) := by decide +kernel
theorem dX6_pending_6 : decode cX6_pending 6 = .ok (.iload_n 1, 1) := by decide +kernel
theorem dX6_pending_7 : decode cX6_pending 7 = .ok (.invokevirtual 286, 3) := by decide +kernel
theorem dX6_pending_10 : decode cX6_pending 10 = .ok (.ifCond .ne 37, 3) := by decide +kernel
theorem dX6_pending_13 : decode cX6_pending 13 = .ok (.aload_n 0, 1) := by decide +kernel
theorem dX6_pending_14 : decode cX6_pending 14 = .ok (.aload_n 0, 1) := by decide +kernel
theorem dX6_pending_15 : decode cX6_pending 15 = .ok (.iload_n 1, 1) := by decide +kernel
theorem dX6_pending_16 : decode cX6_pending 16 = .ok (.bipush 6, 2) := by decide +kernel
theorem dX6_pending_18 : decode cX6_pending 18 = .ok (.invokevirtual 171, 3) := by decide +kernel
theorem dX6_pending_21 : decode cX6_pending 21 = .ok (.iconst (-1), 1) := by decide +kernel
theorem dX6_pending_22 : decode cX6_pending 22 = .ok (.if_icmp .ne 7, 3) := by decide +kernel
theorem dX6_pending_25 : decode cX6_pending 25 = .ok (.iconst 1, 1) := by decide +kernel
theorem dX6_pending_26 : decode cX6_pending 26 = .ok (.goto 4, 3) := by decide +kernel
theorem dX6_pending_29 : decode cX6_pending 29 = .ok (.iconst 0, 1) := by decide +kernel
theorem dX6_pending_30 : decode cX6_pending 30 = .ok (.iconst 2, 1) := by decide +kernel
theorem dX6_pending_31 : decode cX6_pending 31 = .ok (.invokevirtual 149, 3) := by decide +kernel
theorem dX6_pending_34 : decode cX6_pending 34 = .ok (.ifCond .ne 13, 3) := by decide +kernel
theorem dX6_pending_37 : decode cX6_pending 37 = .ok (.aload_n 0, 1) := by decide +kernel
theorem dX6_pending_38 : decode cX6_pending 38 = .ok (.iload_n 2, 1) := by decide +kernel
theorem dX6_pending_39 : decode cX6_pending 39 = .ok (.iconst 2, 1) := by decide +kernel
theorem dX6_pending_40 : decode cX6_pending 40 = .ok (.iconst 3, 1) := by decide +kernel
theorem dX6_pending_41 : decode cX6_pending 41 = .ok (.invokevirtual 265, 3) := by decide +kernel
theorem dX6_pending_44 : decode cX6_pending 44 = .ok (.ifCond .eq 7, 3) := by decide +kernel
theorem dX6_pending_47 : decode cX6_pending 47 = .ok (.iconst 0, 1) := by decide +kernel
theorem dX6_pending_48 : decode cX6_pending 48 = .ok (.goto 12, 3) := by decide +kernel
theorem dX6_pending_51 : decode cX6_pending 51 = .ok (.aload_n 0, 1) := by decide +kernel
theorem dX6_pending_52 : decode cX6_pending 52 = .ok (.iload_n 1, 1) := by decide +kernel
theorem dX6_pending_53 : decode cX6_pending 53 = .ok (.bipush 6, 2) := by decide +kernel
theorem dX6_pending_55 : decode cX6_pending 55 = .ok (.iload_n 2, 1) := by decide +kernel
theorem dX6_pending_56 : decode cX6_pending 56 = .ok (.iadd, 1) := by decide +kernel
theorem dX6_pending_57 : decode cX6_pending 57 = .ok (.invokevirtual 171, 3) := by decide +kernel
theorem dX6_pending_60 : decode cX6_pending 60 = .ok (.ireturn, 1) := by decide +kernel
theorem dX6_repetition_0 : decode cX6_repetition 0 = .ok (.aload_n 0, 1) := by decide +kernel
theorem dX6_repetition_1 : decode cX6_repetition 1 = .ok (.iconst 0, 1) := by decide +kernel
theorem dX6_repetition_2 : decode cX6_repetition 2 = .ok (.putfield 39, 3) := by decide +kernel
theorem dX6_repetition_5 : decode cX6_repetition 5 = .ok (.aload_n 0, 1) := by decide +kernel
theorem dX6_repetition_6 : decode cX6_repetition 6 = .ok (.iload_n 1, 1) := by decide +kernel
theorem dX6_repetition_7 : decode cX6_repetition 7 = .ok (.invokevirtual 286, 3) := by decide +kernel
theorem dX6_repetition_10 : decode cX6_repetition 10 = .ok (.ifCond .ne 13, 3) := by decide +kernel
theorem dX6_repetition_13 : decode cX6_repetition 13 = .ok (.aload_n 0, 1) := by decide +kernel
theorem dX6_repetition_14 : decode cX6_repetition 14 = .ok (.iload_n 2, 1) := by decide +kernel
theorem dX6_repetition_15 : decode cX6_repetition 15 = .ok (.iconst 1, 1) := by decide +kernel
theorem dX6_repetition_16 : decode cX6_repetition 16 = .ok (.iconst 2, 1) := by decide +kernel
theorem dX6_repetition_17 : decode cX6_repetition 17 = .ok (.invokevirtual 265, 3) := by decide +kernel
theorem dX6_repetition_20 : decode cX6_repetition 20 = .ok (.ifCond .eq 7, 3) := by decide +kernel
theorem dX6_repetition_23 : decode cX6_repetition 23 = .ok (.iconst 0, 1) := by decide +kernel
theorem dX6_repetition_24 : decode cX6_repetition 24 = .ok (.goto 12, 3) := by decide +kernel
theorem dX6_repetition_27 : decode cX6_repetition 27 = .ok (.aload_n 0, 1) := by decide +kernel
theorem dX6_repetition_28 : decode cX6_repetition 28 = .ok (.iload_n 1, 1) := by decide +kernel
theorem dX6_repetition_29 : decode cX6_repetition 29 = .ok (.bipush 9, 2) := by decide +kernel
theorem dX6_repetition_31 : decode cX6_repetition 31 = .ok (.iload_n 2, 1) := by decide +kernel
theorem dX6_repetition_32 : decode cX6_repetition 32 = .ok (.iadd, 1) := by decide +kernel
theorem dX6_repetition_33 : decode cX6_repetition 33 = .ok (.invokevirtual 171, 3) := by decide +kernel
theorem dX6_repetition_36 : decode cX6_repetition 36 = .ok (.ireturn, 1) := by decide +kernel
theorem dX6_total_0 : decode cX6_total 0 = .ok (.aload_n 0, 1) := by decide +kernel
theorem dX6_total_1 : decode cX6_total 1 = .ok (.iconst 0, 1) := by decide +kernel
theorem dX6_total_2 : decode cX6_total 2 = .ok (.putfield 39, 3) := by decide +kernel
theorem dX6_total_5 : decode cX6_total 5 = .ok (.aload_n 0, 1) := by decide +kernel
theorem dX6_total_6 : decode cX6_total 6 = .ok (.iload_n 1, 1) := by decide +kernel
theorem dX6_total_7 : decode cX6_total 7 = .ok (.bipush 6, 2) := by decide +kernel
theorem dX6_total_9 : decode cX6_total 9 = .ok (.iconst 1, 1) := by decide +kernel
theorem dX6_total_10 : decode cX6_total 10 = .ok (.invokevirtual 265, 3) := by decide +kernel
theorem dX6_total_13 : decode cX6_total 13 = .ok (.ifCond .eq 7, 3) := by decide +kernel
theorem dX6_total_16 : decode cX6_total 16 = .ok (.iconst 0, 1) := by decide +kernel
theorem dX6_total_17 : decode cX6_total 17 = .ok (.goto 12, 3) := by decide +kernel
theorem dX6_total_20 : decode cX6_total 20 = .ok (.aload_n 0, 1) := by decide +kernel
theorem dX6_total_21 : decode cX6_total 21 = .ok (.getfield 17, 3) := by decide +kernel
theorem dX6_total_24 : decode cX6_total 24 = .ok (.bipush 9, 2) := by decide +kernel
theorem dX6_total_26 : decode cX6_total 26 = .ok (.iload_n 1, 1) := by decide +kernel
theorem dX6_total_27 : decode cX6_total 27 = .ok (.iadd, 1) := by decide +kernel
theorem dX6_total_28 : decode cX6_total 28 = .ok (.iaload, 1) := by decide +kernel
theorem dX6_total_29 : decode cX6_total 29 = .ok (.ireturn, 1) := by decide +kernel
theorem dX6_settle_0 : decode cX6_settle 0 = .ok (.iconst 0, 1) := by decide +kernel
theorem dX6_settle_1 : decode cX6_settle 1 = .ok (.istore_n 2, 1) := by decide +kernel
theorem dX6_settle_2 : decode cX6_settle 2 = .ok (.aload_n 0, 1) := by decide +kernel
theorem dX6_settle_3 : decode cX6_settle 3 = .ok (.iload_n 1, 1) := by decide +kernel
theorem dX6_settle_4 : decode cX6_settle 4 = .ok (.invokevirtual 187, 3) := by decide +kernel
theorem dX6_settle_7 : decode cX6_settle 7 = .ok (.ifCond .eq 13, 3) := by decide +kernel
theorem dX6_settle_10 : decode cX6_settle 10 = .ok (.aload_n 0, 1) := by decide +kernel
theorem dX6_settle_11 : decode cX6_settle 11 = .ok (.invokevirtual 289, 3) := by decide +kernel
theorem dX6_settle_14 : decode cX6_settle 14 = .ok (.iinc 2 1, 3) := by decide +kernel
theorem dX6_settle_17 : decode cX6_settle 17 = .ok (.goto (-15), 3) := by decide +kernel
theorem dX6_settle_20 : decode cX6_settle 20 = .ok (.iload_n 2, 1) := by decide +kernel
theorem dX6_settle_21 : decode cX6_settle 21 = .ok (.ireturn, 1) := by decide +kernel
theorem dX6_settlesIn_0 : decode cX6_settlesIn 0 = .ok (.aload_n 0, 1) := by decide +kernel
theorem dX6_settlesIn_1 : decode cX6_settlesIn 1 = .ok (.iconst 0, 1) := by decide +kernel
theorem dX6_settlesIn_2 : decode cX6_settlesIn 2 = .ok (.putfield 39, 3) := by decide +kernel
theorem dX6_settlesIn_5 : decode cX6_settlesIn 5 = .ok (.aload_n 0, 1) := by decide +kernel
theorem dX6_settlesIn_6 : decode cX6_settlesIn 6 = .ok (.iload_n 1, 1) := by decide +kernel
theorem dX6_settlesIn_7 : decode cX6_settlesIn 7 = .ok (.invokevirtual 280, 3) := by decide +kernel
theorem dX6_settlesIn_10 : decode cX6_settlesIn 10 = .ok (.ifCond .eq 5, 3) := by decide +kernel
theorem dX6_settlesIn_13 : decode cX6_settlesIn 13 = .ok (.iconst 0, 1) := by decide +kernel
theorem dX6_settlesIn_14 : decode cX6_settlesIn 14 = .ok (.ireturn, 1) := by decide +kernel
theorem dX6_settlesIn_15 : decode cX6_settlesIn 15 = .ok (.aload_n 0, 1) := by decide +kernel
theorem dX6_settlesIn_16 : decode cX6_settlesIn 16 = .ok (.getfield 17, 3) := by decide +kernel
theorem dX6_settlesIn_19 : decode cX6_settlesIn 19 = .ok (.aload_n 0, 1) := by decide +kernel
theorem dX6_settlesIn_20 : decode cX6_settlesIn 20 = .ok (.getfield 23, 3) := by decide +kernel
theorem dX6_settlesIn_23 : decode cX6_settlesIn 23 = .ok (.invokestatic 161, 3) := by decide +kernel
theorem dX6_settlesIn_26 : decode cX6_settlesIn 26 = .ok (.aload_n 0, 1) := by decide +kernel
theorem dX6_settlesIn_27 : decode cX6_settlesIn 27 = .ok (.iload_n 1, 1) := by decide +kernel
theorem dX6_settlesIn_28 : decode cX6_settlesIn 28 = .ok (.invokevirtual 292, 3) := by decide +kernel
theorem dX6_settlesIn_31 : decode cX6_settlesIn 31 = .ok (.istore_n 2, 1) := by decide +kernel
theorem dX6_settlesIn_32 : decode cX6_settlesIn 32 = .ok (.aload_n 0, 1) := by decide +kernel
theorem dX6_settlesIn_33 : decode cX6_settlesIn 33 = .ok (.getfield 23, 3) := by decide +kernel
theorem dX6_settlesIn_36 : decode cX6_settlesIn 36 = .ok (.aload_n 0, 1) := by decide +kernel
theorem dX6_settlesIn_37 : decode cX6_settlesIn 37 = .ok (.getfield 17, 3) := by decide +kernel
theorem dX6_settlesIn_40 : decode cX6_settlesIn 40 = .ok (.invokestatic 161, 3) := by decide +kernel
theorem dX6_settlesIn_43 : decode cX6_settlesIn 43 = .ok (.iload_n 2, 1) := by decide +kernel
theorem dX6_settlesIn_44 : decode cX6_settlesIn 44 = .ok (.ireturn, 1) := by decide +kernel
theorem dX6_answeredBy_0 : decode cX6_answeredBy 0 = .ok (.aload_n 0, 1) := by decide +kernel
theorem dX6_answeredBy_1 : decode cX6_answeredBy 1 = .ok (.iconst 0, 1) := by decide +kernel
theorem dX6_answeredBy_2 : decode cX6_answeredBy 2 = .ok (.putfield 39, 3) := by decide +kernel
theorem dX6_answeredBy_5 : decode cX6_answeredBy 5 = .ok (.aload_n 0, 1) := by decide +kernel
theorem dX6_answeredBy_6 : decode cX6_answeredBy 6 = .ok (.iload_n 1, 1) := by decide +kernel
theorem dX6_answeredBy_7 : decode cX6_answeredBy 7 = .ok (.invokevirtual 280, 3) := by decide +kernel
theorem dX6_answeredBy_10 : decode cX6_answeredBy 10 = .ok (.ifCond .eq 5, 3) := by decide +kernel
theorem dX6_answeredBy_13 : decode cX6_answeredBy 13 = .ok (.iconst 0, 1) := by decide +kernel
theorem dX6_answeredBy_14 : decode cX6_answeredBy 14 = .ok (.ireturn, 1) := by decide +kernel
theorem dX6_answeredBy_15 : decode cX6_answeredBy 15 = .ok (.aload_n 0, 1) := by decide +kernel
theorem dX6_answeredBy_16 : decode cX6_answeredBy 16 = .ok (.getfield 17, 3) := by decide +kernel
theorem dX6_answeredBy_19 : decode cX6_answeredBy 19 = .ok (.aload_n 0, 1) := by decide +kernel
theorem dX6_answeredBy_20 : decode cX6_answeredBy 20 = .ok (.getfield 23, 3) := by decide +kernel
theorem dX6_answeredBy_23 : decode cX6_answeredBy 23 = .ok (.invokestatic 161, 3) := by decide +kernel
theorem dX6_answeredBy_26 : decode cX6_answeredBy 26 = .ok (.aload_n 0, 1) := by decide +kernel
theorem dX6_answeredBy_27 : decode cX6_answeredBy 27 = .ok (.iload_n 1, 1) := by decide +kernel
theorem dX6_answeredBy_28 : decode cX6_answeredBy 28 = .ok (.invokevirtual 292, 3) := by decide +kernel
theorem dX6_answeredBy_31 : decode cX6_answeredBy 31 = .ok (.istore_n 2, 1) := by decide +kernel
theorem dX6_answeredBy_32 : decode cX6_answeredBy 32 = .ok (.aload_n 0, 1) := by decide +kernel
theorem dX6_answeredBy_33 : decode cX6_answeredBy 33 = .ok (.iload_n 1, 1) := by decide +kernel
theorem dX6_answeredBy_34 : decode cX6_answeredBy 34 = .ok (.iconst 4, 1) := by decide +kernel
theorem dX6_answeredBy_35 : decode cX6_answeredBy 35 = .ok (.invokevirtual 174, 3) := by decide +kernel
theorem dX6_answeredBy_38 : decode cX6_answeredBy 38 = .ok (.istore_n 3, 1) := by decide +kernel
theorem dX6_answeredBy_39 : decode cX6_answeredBy 39 = .ok (.aload_n 0, 1) := by decide +kernel
theorem dX6_answeredBy_40 : decode cX6_answeredBy 40 = .ok (.getfield 23, 3) := by decide +kernel
theorem dX6_answeredBy_43 : decode cX6_answeredBy 43 = .ok (.aload_n 0, 1) := by decide +kernel
theorem dX6_answeredBy_44 : decode cX6_answeredBy 44 = .ok (.getfield 17, 3) := by decide +kernel
theorem dX6_answeredBy_47 : decode cX6_answeredBy 47 = .ok (.invokestatic 161, 3) := by decide +kernel
theorem dX6_answeredBy_50 : decode cX6_answeredBy 50 = .ok (.iload_n 3, 1) := by decide +kernel
theorem dX6_answeredBy_51 : decode cX6_answeredBy 51 = .ok (.ireturn, 1) := by decide +kernel
theorem dX6_remember_0 : decode cX6_remember 0 = .ok (.aload_n 0, 1) := by decide +kernel
theorem dX6_remember_1 : decode cX6_remember 1 = .ok (.getfield 295, 3) := by decide +kernel
theorem dX6_remember_4 : decode cX6_remember 4 = .ok (.bipush 8, 2) := by decide +kernel
theorem dX6_remember_6 : decode cX6_remember 6 = .ok (.if_icmp .ne 44, 3) := by decide +kernel
theorem dX6_remember_9 : decode cX6_remember 9 = .ok (.iconst 1, 1) := by decide +kernel
theorem dX6_remember_10 : decode cX6_remember 10 = .ok (.istore_n 1, 1) := by decide +kernel
theorem dX6_remember_11 : decode cX6_remember 11 = .ok (.iload_n 1, 1) := by decide +kernel
theorem dX6_remember_12 : decode cX6_remember 12 = .ok (.bipush 8, 2) := by decide +kernel
theorem dX6_remember_14 : decode cX6_remember 14 = .ok (.if_icmp .ge 26, 3) := by decide +kernel
theorem dX6_remember_17 : decode cX6_remember 17 = .ok (.aload_n 0, 1) := by decide +kernel
theorem dX6_remember_18 : decode cX6_remember 18 = .ok (.getfield 28, 3) := by decide +kernel
theorem dX6_remember_21 : decode cX6_remember 21 = .ok (.iload_n 1, 1) := by decide +kernel
theorem dX6_remember_22 : decode cX6_remember 22 = .ok (.aaload, 1) := by decide +kernel
theorem dX6_remember_23 : decode cX6_remember 23 = .ok (.aload_n 0, 1) := by decide +kernel
theorem dX6_remember_24 : decode cX6_remember 24 = .ok (.getfield 28, 3) := by decide +kernel
theorem dX6_remember_27 : decode cX6_remember 27 = .ok (.iload_n 1, 1) := by decide +kernel
theorem dX6_remember_28 : decode cX6_remember 28 = .ok (.iconst 1, 1) := by decide +kernel
theorem dX6_remember_29 : decode cX6_remember 29 = .ok (.isub, 1) := by decide +kernel
theorem dX6_remember_30 : decode cX6_remember 30 = .ok (.aaload, 1) := by decide +kernel
theorem dX6_remember_31 : decode cX6_remember 31 = .ok (.invokestatic 161, 3) := by decide +kernel
theorem dX6_remember_34 : decode cX6_remember 34 = .ok (.iinc 1 1, 3) := by decide +kernel
theorem dX6_remember_37 : decode cX6_remember 37 = .ok (.goto (-26), 3) := by decide +kernel
theorem dX6_remember_40 : decode cX6_remember 40 = .ok (.aload_n 0, 1) := by decide +kernel
theorem dX6_remember_41 : decode cX6_remember 41 = .ok (.dup, 1) := by decide +kernel
theorem dX6_remember_42 : decode cX6_remember 42 = .ok (.getfield 295, 3) := by decide +kernel
theorem dX6_remember_45 : decode cX6_remember 45 = .ok (.iconst 1, 1) := by decide +kernel
theorem dX6_remember_46 : decode cX6_remember 46 = .ok (.isub, 1) := by decide +kernel
theorem dX6_remember_47 : decode cX6_remember 47 = .ok (.putfield 295, 3) := by decide +kernel
theorem dX6_remember_50 : decode cX6_remember 50 = .ok (.aload_n 0, 1) := by decide +kernel
theorem dX6_remember_51 : decode cX6_remember 51 = .ok (.getfield 17, 3) := by decide +kernel
theorem dX6_remember_54 : decode cX6_remember 54 = .ok (.aload_n 0, 1) := by decide +kernel
theorem dX6_remember_55 : decode cX6_remember 55 = .ok (.getfield 28, 3) := by decide +kernel
theorem dX6_remember_58 : decode cX6_remember 58 = .ok (.aload_n 0, 1) := by decide +kernel
theorem dX6_remember_59 : decode cX6_remember 59 = .ok (.getfield 295, 3) := by decide +kernel
theorem dX6_remember_62 : decode cX6_remember 62 = .ok (.aaload, 1) := by decide +kernel
theorem dX6_remember_63 : decode cX6_remember 63 = .ok (.invokestatic 161, 3) := by decide +kernel
theorem dX6_remember_66 : decode cX6_remember 66 = .ok (.aload_n 0, 1) := by decide +kernel
theorem dX6_remember_67 : decode cX6_remember 67 = .ok (.dup, 1) := by decide +kernel
theorem dX6_remember_68 : decode cX6_remember 68 = .ok (.getfield 295, 3) := by decide +kernel
theorem dX6_remember_71 : decode cX6_remember 71 = .ok (.iconst 1, 1) := by decide +kernel
theorem dX6_remember_72 : decode cX6_remember 72 = .ok (.iadd, 1) := by decide +kernel
theorem dX6_remember_73 : decode cX6_remember 73 = .ok (.putfield 295, 3) := by decide +kernel
theorem dX6_remember_76 : decode cX6_remember 76 = .ok (.return_, 1) := by decide +kernel
theorem dX6_pass_0 : decode cX6_pass 0 = .ok (.aload_n 0, 1) := by decide +kernel
theorem dX6_pass_1 : decode cX6_pass 1 = .ok (.iconst 0, 1) := by decide +kernel
theorem dX6_pass_2 : decode cX6_pass 2 = .ok (.putfield 39, 3) := by decide +kernel
theorem dX6_pass_5 : decode cX6_pass 5 = .ok (.aload_n 0, 1) := by decide +kernel
theorem dX6_pass_6 : decode cX6_pass 6 = .ok (.iload_n 1, 1) := by decide +kernel
theorem dX6_pass_7 : decode cX6_pass 7 = .ok (.iconst 1, 1) := by decide +kernel
theorem dX6_pass_8 : decode cX6_pass 8 = .ok (.sipush 200, 3) := by decide +kernel
theorem dX6_pass_11 : decode cX6_pass 11 = .ok (.invokestatic 61, 3) := by decide +kernel
theorem dX6_pass_14 : decode cX6_pass 14 = .ok (.ifCond .eq 17, 3) := by decide +kernel
theorem dX6_pass_17 : decode cX6_pass 17 = .ok (.aload_n 0, 1) := by decide +kernel
theorem dX6_pass_18 : decode cX6_pass 18 = .ok (.getfield 17, 3) := by decide +kernel
theorem dX6_pass_21 : decode cX6_pass 21 = .ok (.iconst 0, 1) := by decide +kernel
theorem dX6_pass_22 : decode cX6_pass 22 = .ok (.iaload, 1) := by decide +kernel
theorem dX6_pass_23 : decode cX6_pass 23 = .ok (.iload_n 1, 1) := by decide +kernel
theorem dX6_pass_24 : decode cX6_pass 24 = .ok (.iadd, 1) := by decide +kernel
theorem dX6_pass_25 : decode cX6_pass 25 = .ok (.sipush 9999, 3) := by decide +kernel
theorem dX6_pass_28 : decode cX6_pass 28 = .ok (.if_icmp .le 7, 3) := by decide +kernel
theorem dX6_pass_31 : decode cX6_pass 31 = .ok (.iconst 1, 1) := by decide +kernel
theorem dX6_pass_32 : decode cX6_pass 32 = .ok (.goto 4, 3) := by decide +kernel
theorem dX6_pass_35 : decode cX6_pass 35 = .ok (.iconst 0, 1) := by decide +kernel
theorem dX6_pass_36 : decode cX6_pass 36 = .ok (.iconst 1, 1) := by decide +kernel
theorem dX6_pass_37 : decode cX6_pass 37 = .ok (.invokevirtual 149, 3) := by decide +kernel
theorem dX6_pass_40 : decode cX6_pass 40 = .ok (.ifCond .eq 5, 3) := by decide +kernel
theorem dX6_pass_43 : decode cX6_pass 43 = .ok (.iconst 0, 1) := by decide +kernel
theorem dX6_pass_44 : decode cX6_pass 44 = .ok (.ireturn, 1) := by decide +kernel
theorem dX6_pass_45 : decode cX6_pass 45 = .ok (.aload_n 0, 1) := by decide +kernel
theorem dX6_pass_46 : decode cX6_pass 46 = .ok (.invokevirtual 158, 3) := by decide +kernel
theorem dX6_pass_49 : decode cX6_pass 49 = .ok (.iconst 0, 1) := by decide +kernel
theorem dX6_pass_50 : decode cX6_pass 50 = .ok (.istore_n 2, 1) := by decide +kernel
theorem dX6_pass_51 : decode cX6_pass 51 = .ok (.iload_n 2, 1) := by decide +kernel
theorem dX6_pass_52 : decode cX6_pass 52 = .ok (.iload_n 1, 1) := by decide +kernel
theorem dX6_pass_53 : decode cX6_pass 53 = .ok (.if_icmp .ge 13, 3) := by decide +kernel
theorem dX6_pass_56 : decode cX6_pass 56 = .ok (.aload_n 0, 1) := by decide +kernel
theorem dX6_pass_57 : decode cX6_pass 57 = .ok (.invokevirtual 289, 3) := by decide +kernel
theorem dX6_pass_60 : decode cX6_pass 60 = .ok (.iinc 2 1, 3) := by decide +kernel
theorem dX6_pass_63 : decode cX6_pass 63 = .ok (.goto (-12), 3) := by decide +kernel
theorem dX6_pass_66 : decode cX6_pass 66 = .ok (.aload_n 0, 1) := by decide +kernel
theorem dX6_pass_67 : decode cX6_pass 67 = .ok (.iconst 1, 1) := by decide +kernel
theorem dX6_pass_68 : decode cX6_pass 68 = .ok (.invokevirtual 268, 3) := by decide +kernel
theorem dX6_pass_71 : decode cX6_pass 71 = .ok (.ireturn, 1) := by decide +kernel
theorem dX6_dial_0 : decode cX6_dial 0 = .ok (.aload_n 0, 1) := by decide +kernel
theorem dX6_dial_1 : decode cX6_dial 1 = .ok (.iconst 0, 1) := by decide +kernel
theorem dX6_dial_2 : decode cX6_dial 2 = .ok (.putfield 39, 3) := by decide +kernel
theorem dX6_dial_5 : decode cX6_dial 5 = .ok (.aload_n 0, 1) := by decide +kernel
theorem dX6_dial_6 : decode cX6_dial 6 = .ok (.iload_n 1, 1) := by decide +kernel
theorem dX6_dial_7 : decode cX6_dial 7 = .ok (.invokevirtual 274, 3) := by decide +kernel
theorem dX6_dial_10 : decode cX6_dial 10 = .ok (.ifCond .ne 41, 3) := by decide +kernel
theorem dX6_dial_13 : decode cX6_dial 13 = .ok (.aload_n 0, 1) := by decide +kernel
theorem dX6_dial_14 : decode cX6_dial 14 = .ok (.iload_n 2, 1) := by decide +kernel
theorem dX6_dial_15 : decode cX6_dial 15 = .ok (.ifCond .le 24, 3) := by decide +kernel
theorem dX6_dial_18 : decode cX6_dial 18 = .ok (.iload_n 2, 1) := by decide +kernel
theorem dX6_dial_19 : decode cX6_dial 19 = .ok (.iconst 1, 1) := by decide +kernel
theorem dX6_dial_20 : decode cX6_dial 20 = .ok (.aload_n 0, 1) := by decide +kernel
theorem dX6_dial_21 : decode cX6_dial 21 = .ok (.getfield 17, 3) := by decide +kernel
theorem dX6_dial_24 : decode cX6_dial 24 = .ok (.iconst 4, 1) := by decide +kernel
theorem dX6_dial_25 : decode cX6_dial 25 = .ok (.iaload, 1) := by decide +kernel
theorem dX6_dial_26 : decode cX6_dial 26 = .ok (.ishl, 1) := by decide +kernel
theorem dX6_dial_27 : decode cX6_dial 27 = .ok (.if_icmp .ge 12, 3) := by decide +kernel
theorem dX6_dial_30 : decode cX6_dial 30 = .ok (.iload_n 2, 1) := by decide +kernel
theorem dX6_dial_31 : decode cX6_dial 31 = .ok (.iload_n 1, 1) := by decide +kernel
theorem dX6_dial_32 : decode cX6_dial 32 = .ok (.ishr, 1) := by decide +kernel
theorem dX6_dial_33 : decode cX6_dial 33 = .ok (.iconst 1, 1) := by decide +kernel
theorem dX6_dial_34 : decode cX6_dial 34 = .ok (.iand, 1) := by decide +kernel
theorem dX6_dial_35 : decode cX6_dial 35 = .ok (.iconst 1, 1) := by decide +kernel
theorem dX6_dial_36 : decode cX6_dial 36 = .ok (.if_icmp .ne 7, 3) := by decide +kernel
theorem dX6_dial_39 : decode cX6_dial 39 = .ok (.iconst 1, 1) := by decide +kernel
theorem dX6_dial_40 : decode cX6_dial 40 = .ok (.goto 4, 3) := by decide +kernel
theorem dX6_dial_43 : decode cX6_dial 43 = .ok (.iconst 0, 1) := by decide +kernel
theorem dX6_dial_44 : decode cX6_dial 44 = .ok (.iconst 2, 1) := by decide +kernel
theorem dX6_dial_45 : decode cX6_dial 45 = .ok (.invokevirtual 149, 3) := by decide +kernel
theorem dX6_dial_48 : decode cX6_dial 48 = .ok (.ifCond .eq 5, 3) := by decide +kernel
theorem dX6_dial_51 : decode cX6_dial 51 = .ok (.iconst 0, 1) := by decide +kernel
theorem dX6_dial_52 : decode cX6_dial 52 = .ok (.ireturn, 1) := by decide +kernel
theorem dX6_dial_53 : decode cX6_dial 53 = .ok (.iconst 0, 1) := by decide +kernel
theorem dX6_dial_54 : decode cX6_dial 54 = .ok (.istore_n 3, 1) := by decide +kernel
theorem dX6_dial_55 : decode cX6_dial 55 = .ok (.iconst 0, 1) := by decide +kernel
theorem dX6_dial_56 : decode cX6_dial 56 = .ok (.istore 4, 2) := by decide +kernel
theorem dX6_dial_58 : decode cX6_dial 58 = .ok (.iload 4, 2) := by decide +kernel
theorem dX6_dial_60 : decode cX6_dial 60 = .ok (.bipush 10, 2) := by decide +kernel
theorem dX6_dial_62 : decode cX6_dial 62 = .ok (.if_icmp .ge 18, 3) := by decide +kernel
theorem dX6_dial_65 : decode cX6_dial 65 = .ok (.iload_n 3, 1) := by decide +kernel
theorem dX6_dial_66 : decode cX6_dial 66 = .ok (.iload_n 2, 1) := by decide +kernel
theorem dX6_dial_67 : decode cX6_dial 67 = .ok (.iload 4, 2) := by decide +kernel
theorem dX6_dial_69 : decode cX6_dial 69 = .ok (.ishr, 1) := by decide +kernel
theorem dX6_dial_70 : decode cX6_dial 70 = .ok (.iconst 1, 1) := by decide +kernel
theorem dX6_dial_71 : decode cX6_dial 71 = .ok (.iand, 1) := by decide +kernel
theorem dX6_dial_72 : decode cX6_dial 72 = .ok (.iadd, 1) := by decide +kernel
theorem dX6_dial_73 : decode cX6_dial 73 = .ok (.istore_n 3, 1) := by decide +kernel
theorem dX6_dial_74 : decode cX6_dial 74 = .ok (.iinc 4 1, 3) := by decide +kernel
theorem dX6_dial_77 : decode cX6_dial 77 = .ok (.goto (-19), 3) := by decide +kernel
theorem dX6_dial_80 : decode cX6_dial 80 = .ok (.aload_n 0, 1) := by decide +kernel
theorem dX6_dial_81 : decode cX6_dial 81 = .ok (.aload_n 0, 1) := by decide +kernel
theorem dX6_dial_82 : decode cX6_dial 82 = .ok (.iload_n 1, 1) := by decide +kernel
theorem dX6_dial_83 : decode cX6_dial 83 = .ok (.invokevirtual 234, 3) := by decide +kernel
theorem dX6_dial_86 : decode cX6_dial 86 = .ok (.ifCond .ne 28, 3) := by decide +kernel
theorem dX6_dial_89 : decode cX6_dial 89 = .ok (.aload_n 0, 1) := by decide +kernel
theorem dX6_dial_90 : decode cX6_dial 90 = .ok (.getfield 17, 3) := by decide +kernel
theorem dX6_dial_93 : decode cX6_dial 93 = .ok (.iconst 5, 1) := by decide +kernel
theorem dX6_dial_94 : decode cX6_dial 94 = .ok (.iaload, 1) := by decide +kernel
theorem dX6_dial_95 : decode cX6_dial 95 = .ok (.bipush 20, 2) := by decide +kernel
theorem dX6_dial_97 : decode cX6_dial 97 = .ok (.if_icmp .eq 17, 3) := by decide +kernel
theorem dX6_dial_100 : decode cX6_dial 100 = .ok (.aload_n 0, 1) := by decide +kernel
theorem dX6_dial_101 : decode cX6_dial 101 = .ok (.getfield 17, 3) := by decide +kernel
theorem dX6_dial_104 : decode cX6_dial 104 = .ok (.bipush 6, 2) := by decide +kernel
theorem dX6_dial_106 : decode cX6_dial 106 = .ok (.iaload, 1) := by decide +kernel
theorem dX6_dial_107 : decode cX6_dial 107 = .ok (.iload_n 3, 1) := by decide +kernel
theorem dX6_dial_108 : decode cX6_dial 108 = .ok (.iadd, 1) := by decide +kernel
theorem dX6_dial_109 : decode cX6_dial 109 = .ok (.bipush 40, 2) := by decide +kernel
theorem dX6_dial_111 : decode cX6_dial 111 = .ok (.if_icmp .le 7, 3) := by decide +kernel
theorem dX6_dial_114 : decode cX6_dial 114 = .ok (.iconst 1, 1) := by decide +kernel
theorem dX6_dial_115 : decode cX6_dial 115 = .ok (.goto 4, 3) := by decide +kernel
theorem dX6_dial_118 : decode cX6_dial 118 = .ok (.iconst 0, 1) := by decide +kernel
theorem dX6_dial_119 : decode cX6_dial 119 = .ok (.iconst 3, 1) := by decide +kernel
theorem dX6_dial_120 : decode cX6_dial 120 = .ok (.invokevirtual 149, 3) := by decide +kernel
theorem dX6_dial_123 : decode cX6_dial 123 = .ok (.ifCond .eq 5, 3) := by decide +kernel
theorem dX6_dial_126 : decode cX6_dial 126 = .ok (.iconst 0, 1) := by decide +kernel
theorem dX6_dial_127 : decode cX6_dial 127 = .ok (.ireturn, 1) := by decide +kernel
theorem dX6_dial_128 : decode cX6_dial 128 = .ok (.aload_n 0, 1) := by decide +kernel
theorem dX6_dial_129 : decode cX6_dial 129 = .ok (.invokevirtual 158, 3) := by decide +kernel
theorem dX6_dial_132 : decode cX6_dial 132 = .ok (.aload_n 0, 1) := by decide +kernel
theorem dX6_dial_133 : decode cX6_dial 133 = .ok (.iload_n 1, 1) := by decide +kernel
theorem dX6_dial_134 : decode cX6_dial 134 = .ok (.iload_n 2, 1) := by decide +kernel
theorem dX6_dial_135 : decode cX6_dial 135 = .ok (.iconst (-1), 1) := by decide +kernel
theorem dX6_dial_136 : decode cX6_dial 136 = .ok (.invokevirtual 298, 3) := by decide +kernel
theorem dX6_dial_139 : decode cX6_dial 139 = .ok (.ireturn, 1) := by decide +kernel
theorem dX6_transfer_0 : decode cX6_transfer 0 = .ok (.aload_n 0, 1) := by decide +kernel
theorem dX6_transfer_1 : decode cX6_transfer 1 = .ok (.iconst 0, 1) := by decide +kernel
theorem dX6_transfer_2 : decode cX6_transfer 2 = .ok (.putfield 39, 3) := by decide +kernel
theorem dX6_transfer_5 : decode cX6_transfer 5 = .ok (.aload_n 0, 1) := by decide +kernel
theorem dX6_transfer_6 : decode cX6_transfer 6 = .ok (.iload_n 1, 1) := by decide +kernel
theorem dX6_transfer_7 : decode cX6_transfer 7 = .ok (.invokevirtual 274, 3) := by decide +kernel
theorem dX6_transfer_10 : decode cX6_transfer 10 = .ok (.ifCond .ne 11, 3) := by decide +kernel
theorem dX6_transfer_13 : decode cX6_transfer 13 = .ok (.aload_n 0, 1) := by decide +kernel
theorem dX6_transfer_14 : decode cX6_transfer 14 = .ok (.iload_n 2, 1) := by decide +kernel
theorem dX6_transfer_15 : decode cX6_transfer 15 = .ok (.invokevirtual 274, 3) := by decide +kernel
theorem dX6_transfer_18 : decode cX6_transfer 18 = .ok (.ifCond .eq 5, 3) := by decide +kernel
theorem dX6_transfer_21 : decode cX6_transfer 21 = .ok (.iconst 0, 1) := by decide +kernel
theorem dX6_transfer_22 : decode cX6_transfer 22 = .ok (.ireturn, 1) := by decide +kernel
theorem dX6_transfer_23 : decode cX6_transfer 23 = .ok (.aload_n 0, 1) := by decide +kernel
theorem dX6_transfer_24 : decode cX6_transfer 24 = .ok (.iload_n 1, 1) := by decide +kernel
theorem dX6_transfer_25 : decode cX6_transfer 25 = .ok (.iconst 1, 1) := by decide +kernel
theorem dX6_transfer_26 : decode cX6_transfer 26 = .ok (.invokevirtual 190, 3) := by decide +kernel
theorem dX6_transfer_29 : decode cX6_transfer 29 = .ok (.istore_n 3, 1) := by decide +kernel
theorem dX6_transfer_30 : decode cX6_transfer 30 = .ok (.aload_n 0, 1) := by decide +kernel
theorem dX6_transfer_31 : decode cX6_transfer 31 = .ok (.iload_n 3, 1) := by decide +kernel
theorem dX6_transfer_32 : decode cX6_transfer 32 = .ok (.iconst (-1), 1) := by decide +kernel
theorem dX6_transfer_33 : decode cX6_transfer 33 = .ok (.if_icmp .eq 26, 3) := by decide +kernel
theorem dX6_transfer_36 : decode cX6_transfer 36 = .ok (.aload_n 0, 1) := by decide +kernel
theorem dX6_transfer_37 : decode cX6_transfer 37 = .ok (.getfield 17, 3) := by decide +kernel
theorem dX6_transfer_40 : decode cX6_transfer 40 = .ok (.iconst 5, 1) := by decide +kernel
theorem dX6_transfer_41 : decode cX6_transfer 41 = .ok (.iaload, 1) := by decide +kernel
theorem dX6_transfer_42 : decode cX6_transfer 42 = .ok (.bipush 20, 2) := by decide +kernel
theorem dX6_transfer_44 : decode cX6_transfer 44 = .ok (.if_icmp .eq 15, 3) := by decide +kernel
theorem dX6_transfer_47 : decode cX6_transfer 47 = .ok (.aload_n 0, 1) := by decide +kernel
theorem dX6_transfer_48 : decode cX6_transfer 48 = .ok (.getfield 17, 3) := by decide +kernel
theorem dX6_transfer_51 : decode cX6_transfer 51 = .ok (.bipush 6, 2) := by decide +kernel
theorem dX6_transfer_53 : decode cX6_transfer 53 = .ok (.iaload, 1) := by decide +kernel
theorem dX6_transfer_54 : decode cX6_transfer 54 = .ok (.bipush 40, 2) := by decide +kernel
theorem dX6_transfer_56 : decode cX6_transfer 56 = .ok (.if_icmp .ne 7, 3) := by decide +kernel
theorem dX6_transfer_59 : decode cX6_transfer 59 = .ok (.iconst 1, 1) := by decide +kernel
theorem dX6_transfer_60 : decode cX6_transfer 60 = .ok (.goto 4, 3) := by decide +kernel
theorem dX6_transfer_63 : decode cX6_transfer 63 = .ok (.iconst 0, 1) := by decide +kernel
theorem dX6_transfer_64 : decode cX6_transfer 64 = .ok (.iconst 2, 1) := by decide +kernel
theorem dX6_transfer_65 : decode cX6_transfer 65 = .ok (.invokevirtual 149, 3) := by decide +kernel
theorem dX6_transfer_68 : decode cX6_transfer 68 = .ok (.ifCond .ne 17, 3) := by decide +kernel
theorem dX6_transfer_71 : decode cX6_transfer 71 = .ok (.aload_n 0, 1) := by decide +kernel
theorem dX6_transfer_72 : decode cX6_transfer 72 = .ok (.aload_n 0, 1) := by decide +kernel
theorem dX6_transfer_73 : decode cX6_transfer 73 = .ok (.iload_n 2, 1) := by decide +kernel
theorem dX6_transfer_74 : decode cX6_transfer 74 = .ok (.iload_n 3, 1) := by decide +kernel
theorem dX6_transfer_75 : decode cX6_transfer 75 = .ok (.invokevirtual 184, 3) := by decide +kernel
theorem dX6_transfer_78 : decode cX6_transfer 78 = .ok (.iconst 3, 1) := by decide +kernel
theorem dX6_transfer_79 : decode cX6_transfer 79 = .ok (.invokevirtual 149, 3) := by decide +kernel
theorem dX6_transfer_82 : decode cX6_transfer 82 = .ok (.ifCond .eq 5, 3) := by decide +kernel
theorem dX6_transfer_85 : decode cX6_transfer 85 = .ok (.iconst 0, 1) := by decide +kernel
theorem dX6_transfer_86 : decode cX6_transfer 86 = .ok (.ireturn, 1) := by decide +kernel
theorem dX6_transfer_87 : decode cX6_transfer 87 = .ok (.aload_n 0, 1) := by decide +kernel
theorem dX6_transfer_88 : decode cX6_transfer 88 = .ok (.invokevirtual 158, 3) := by decide +kernel
theorem dX6_transfer_91 : decode cX6_transfer 91 = .ok (.aload_n 0, 1) := by decide +kernel
theorem dX6_transfer_92 : decode cX6_transfer 92 = .ok (.iload_n 3, 1) := by decide +kernel
theorem dX6_transfer_93 : decode cX6_transfer 93 = .ok (.invokevirtual 177, 3) := by decide +kernel
theorem dX6_transfer_96 : decode cX6_transfer 96 = .ok (.iload_n 1, 1) := by decide +kernel
theorem dX6_transfer_97 : decode cX6_transfer 97 = .ok (.if_icmp .ne 12, 3) := by decide +kernel
theorem dX6_transfer_100 : decode cX6_transfer 100 = .ok (.aload_n 0, 1) := by decide +kernel
theorem dX6_transfer_101 : decode cX6_transfer 101 = .ok (.iload_n 3, 1) := by decide +kernel
theorem dX6_transfer_102 : decode cX6_transfer 102 = .ok (.iconst 1, 1) := by decide +kernel
theorem dX6_transfer_103 : decode cX6_transfer 103 = .ok (.invokevirtual 171, 3) := by decide +kernel
theorem dX6_transfer_106 : decode cX6_transfer 106 = .ok (.goto 8, 3) := by decide +kernel
theorem dX6_transfer_109 : decode cX6_transfer 109 = .ok (.aload_n 0, 1) := by decide +kernel
theorem dX6_transfer_110 : decode cX6_transfer 110 = .ok (.iload_n 3, 1) := by decide +kernel
theorem dX6_transfer_111 : decode cX6_transfer 111 = .ok (.invokevirtual 177, 3) := by decide +kernel
theorem dX6_transfer_114 : decode cX6_transfer 114 = .ok (.istore 4, 2) := by decide +kernel
theorem dX6_transfer_116 : decode cX6_transfer 116 = .ok (.aload_n 0, 1) := by decide +kernel
theorem dX6_transfer_117 : decode cX6_transfer 117 = .ok (.getfield 17, 3) := by decide +kernel
theorem dX6_transfer_120 : decode cX6_transfer 120 = .ok (.iload_n 3, 1) := by decide +kernel
theorem dX6_transfer_121 : decode cX6_transfer 121 = .ok (.invokestatic 168, 3) := by decide +kernel
theorem dX6_transfer_124 : decode cX6_transfer 124 = .ok (.iconst 2, 1) := by decide +kernel
theorem dX6_transfer_125 : decode cX6_transfer 125 = .ok (.iadd, 1) := by decide +kernel
theorem dX6_transfer_126 : decode cX6_transfer 126 = .ok (.iconst 2, 1) := by decide +kernel
theorem dX6_transfer_127 : decode cX6_transfer 127 = .ok (.iastore, 1) := by decide +kernel
theorem dX6_transfer_128 : decode cX6_transfer 128 = .ok (.aload_n 0, 1) := by decide +kernel
theorem dX6_transfer_129 : decode cX6_transfer 129 = .ok (.iload_n 3, 1) := by decide +kernel
theorem dX6_transfer_130 : decode cX6_transfer 130 = .ok (.invokevirtual 196, 3) := by decide +kernel
theorem dX6_transfer_133 : decode cX6_transfer 133 = .ok (.aload_n 0, 1) := by decide +kernel
theorem dX6_transfer_134 : decode cX6_transfer 134 = .ok (.iload 4, 2) := by decide +kernel
theorem dX6_transfer_136 : decode cX6_transfer 136 = .ok (.iconst 1, 1) := by decide +kernel
theorem dX6_transfer_137 : decode cX6_transfer 137 = .ok (.iload_n 2, 1) := by decide +kernel
theorem dX6_transfer_138 : decode cX6_transfer 138 = .ok (.ishl, 1) := by decide +kernel
theorem dX6_transfer_139 : decode cX6_transfer 139 = .ok (.iload_n 3, 1) := by decide +kernel
theorem dX6_transfer_140 : decode cX6_transfer 140 = .ok (.invokevirtual 298, 3) := by decide +kernel
theorem dX6_transfer_143 : decode cX6_transfer 143 = .ok (.ireturn, 1) := by decide +kernel
theorem dX6_hangUp_0 : decode cX6_hangUp 0 = .ok (.aload_n 0, 1) := by decide +kernel
theorem dX6_hangUp_1 : decode cX6_hangUp 1 = .ok (.iconst 0, 1) := by decide +kernel
theorem dX6_hangUp_2 : decode cX6_hangUp 2 = .ok (.putfield 39, 3) := by decide +kernel
theorem dX6_hangUp_5 : decode cX6_hangUp 5 = .ok (.aload_n 0, 1) := by decide +kernel
theorem dX6_hangUp_6 : decode cX6_hangUp 6 = .ok (.iload_n 1, 1) := by decide +kernel
theorem dX6_hangUp_7 : decode cX6_hangUp 7 = .ok (.invokevirtual 274, 3) := by decide +kernel
theorem dX6_hangUp_10 : decode cX6_hangUp 10 = .ok (.ifCond .eq 5, 3) := by decide +kernel
theorem dX6_hangUp_13 : decode cX6_hangUp 13 = .ok (.iconst 0, 1) := by decide +kernel
theorem dX6_hangUp_14 : decode cX6_hangUp 14 = .ok (.ireturn, 1) := by decide +kernel
theorem dX6_hangUp_15 : decode cX6_hangUp 15 = .ok (.aload_n 0, 1) := by decide +kernel
theorem dX6_hangUp_16 : decode cX6_hangUp 16 = .ok (.invokevirtual 158, 3) := by decide +kernel
theorem dX6_hangUp_19 : decode cX6_hangUp 19 = .ok (.aload_n 0, 1) := by decide +kernel
theorem dX6_hangUp_20 : decode cX6_hangUp 20 = .ok (.iload_n 1, 1) := by decide +kernel
theorem dX6_hangUp_21 : decode cX6_hangUp 21 = .ok (.iconst 1, 1) := by decide +kernel
theorem dX6_hangUp_22 : decode cX6_hangUp 22 = .ok (.invokevirtual 190, 3) := by decide +kernel
theorem dX6_hangUp_25 : decode cX6_hangUp 25 = .ok (.istore_n 2, 1) := by decide +kernel
theorem dX6_hangUp_26 : decode cX6_hangUp 26 = .ok (.aload_n 0, 1) := by decide +kernel
theorem dX6_hangUp_27 : decode cX6_hangUp 27 = .ok (.iload_n 1, 1) := by decide +kernel
theorem dX6_hangUp_28 : decode cX6_hangUp 28 = .ok (.invokevirtual 193, 3) := by decide +kernel
theorem dX6_hangUp_31 : decode cX6_hangUp 31 = .ok (.istore_n 3, 1) := by decide +kernel
theorem dX6_hangUp_32 : decode cX6_hangUp 32 = .ok (.aload_n 0, 1) := by decide +kernel
theorem dX6_hangUp_33 : decode cX6_hangUp 33 = .ok (.iload_n 1, 1) := by decide +kernel
theorem dX6_hangUp_34 : decode cX6_hangUp 34 = .ok (.iconst 2, 1) := by decide +kernel
theorem dX6_hangUp_35 : decode cX6_hangUp 35 = .ok (.invokevirtual 190, 3) := by decide +kernel
theorem dX6_hangUp_38 : decode cX6_hangUp 38 = .ok (.istore 4, 2) := by decide +kernel
theorem dX6_hangUp_40 : decode cX6_hangUp 40 = .ok (.iload_n 2, 1) := by decide +kernel
theorem dX6_hangUp_41 : decode cX6_hangUp 41 = .ok (.iconst (-1), 1) := by decide +kernel
theorem dX6_hangUp_42 : decode cX6_hangUp 42 = .ok (.if_icmp .eq 12, 3) := by decide +kernel
theorem dX6_hangUp_45 : decode cX6_hangUp 45 = .ok (.aload_n 0, 1) := by decide +kernel
theorem dX6_hangUp_46 : decode cX6_hangUp 46 = .ok (.iload_n 2, 1) := by decide +kernel
theorem dX6_hangUp_47 : decode cX6_hangUp 47 = .ok (.bipush 6, 2) := by decide +kernel
theorem dX6_hangUp_49 : decode cX6_hangUp 49 = .ok (.invokevirtual 205, 3) := by decide +kernel
theorem dX6_hangUp_52 : decode cX6_hangUp 52 = .ok (.iconst 1, 1) := by decide +kernel
theorem dX6_hangUp_53 : decode cX6_hangUp 53 = .ok (.ireturn, 1) := by decide +kernel
theorem dX6_hangUp_54 : decode cX6_hangUp 54 = .ok (.iload_n 3, 1) := by decide +kernel
theorem dX6_hangUp_55 : decode cX6_hangUp 55 = .ok (.iconst (-1), 1) := by decide +kernel
theorem dX6_hangUp_56 : decode cX6_hangUp 56 = .ok (.if_icmp .eq 17, 3) := by decide +kernel
theorem dX6_hangUp_59 : decode cX6_hangUp 59 = .ok (.aload_n 0, 1) := by decide +kernel
theorem dX6_hangUp_60 : decode cX6_hangUp 60 = .ok (.iload_n 3, 1) := by decide +kernel
theorem dX6_hangUp_61 : decode cX6_hangUp 61 = .ok (.iconst (-1), 1) := by decide +kernel
theorem dX6_hangUp_62 : decode cX6_hangUp 62 = .ok (.iconst 4, 1) := by decide +kernel
theorem dX6_hangUp_63 : decode cX6_hangUp 63 = .ok (.invokevirtual 211, 3) := by decide +kernel
theorem dX6_hangUp_66 : decode cX6_hangUp 66 = .ok (.aload_n 0, 1) := by decide +kernel
theorem dX6_hangUp_67 : decode cX6_hangUp 67 = .ok (.iload_n 3, 1) := by decide +kernel
theorem dX6_hangUp_68 : decode cX6_hangUp 68 = .ok (.invokevirtual 202, 3) := by decide +kernel
theorem dX6_hangUp_71 : decode cX6_hangUp 71 = .ok (.iconst 2, 1) := by decide +kernel
theorem dX6_hangUp_72 : decode cX6_hangUp 72 = .ok (.ireturn, 1) := by decide +kernel
theorem dX6_hangUp_73 : decode cX6_hangUp 73 = .ok (.iload 4, 2) := by decide +kernel
theorem dX6_hangUp_75 : decode cX6_hangUp 75 = .ok (.iconst (-1), 1) := by decide +kernel
theorem dX6_hangUp_76 : decode cX6_hangUp 76 = .ok (.if_icmp .eq 13, 3) := by decide +kernel
theorem dX6_hangUp_79 : decode cX6_hangUp 79 = .ok (.aload_n 0, 1) := by decide +kernel
theorem dX6_hangUp_80 : decode cX6_hangUp 80 = .ok (.iload 4, 2) := by decide +kernel
theorem dX6_hangUp_82 : decode cX6_hangUp 82 = .ok (.bipush 6, 2) := by decide +kernel
theorem dX6_hangUp_84 : decode cX6_hangUp 84 = .ok (.invokevirtual 205, 3) := by decide +kernel
theorem dX6_hangUp_87 : decode cX6_hangUp 87 = .ok (.iconst 3, 1) := by decide +kernel
theorem dX6_hangUp_88 : decode cX6_hangUp 88 = .ok (.ireturn, 1) := by decide +kernel
theorem dX6_hangUp_89 : decode cX6_hangUp 89 = .ok (.aload_n 0, 1) := by decide +kernel
theorem dX6_hangUp_90 : decode cX6_hangUp 90 = .ok (.iload_n 1, 1) := by decide +kernel
theorem dX6_hangUp_91 : decode cX6_hangUp 91 = .ok (.invokevirtual 271, 3) := by decide +kernel
theorem dX6_hangUp_94 : decode cX6_hangUp 94 = .ok (.ifCond .ne 5, 3) := by decide +kernel
theorem dX6_hangUp_97 : decode cX6_hangUp 97 = .ok (.iconst 0, 1) := by decide +kernel
theorem dX6_hangUp_98 : decode cX6_hangUp 98 = .ok (.ireturn, 1) := by decide +kernel
theorem dX6_hangUp_99 : decode cX6_hangUp 99 = .ok (.aload_n 0, 1) := by decide +kernel
theorem dX6_hangUp_100 : decode cX6_hangUp 100 = .ok (.iload_n 1, 1) := by decide +kernel
theorem dX6_hangUp_101 : decode cX6_hangUp 101 = .ok (.iconst 5, 1) := by decide +kernel
theorem dX6_hangUp_102 : decode cX6_hangUp 102 = .ok (.invokevirtual 215, 3) := by decide +kernel
theorem dX6_hangUp_105 : decode cX6_hangUp 105 = .ok (.iconst 4, 1) := by decide +kernel
theorem dX6_hangUp_106 : decode cX6_hangUp 106 = .ok (.ireturn, 1) := by decide +kernel
theorem dX6_offer_0 : decode cX6_offer 0 = .ok (.aload_n 0, 1) := by decide +kernel
theorem dX6_offer_1 : decode cX6_offer 1 = .ok (.iconst 0, 1) := by decide +kernel
theorem dX6_offer_2 : decode cX6_offer 2 = .ok (.putfield 39, 3) := by decide +kernel
theorem dX6_offer_5 : decode cX6_offer 5 = .ok (.aload_n 0, 1) := by decide +kernel
theorem dX6_offer_6 : decode cX6_offer 6 = .ok (.iload_n 1, 1) := by decide +kernel
theorem dX6_offer_7 : decode cX6_offer 7 = .ok (.invokevirtual 274, 3) := by decide +kernel
theorem dX6_offer_10 : decode cX6_offer 10 = .ok (.ifCond .ne 27, 3) := by decide +kernel
theorem dX6_offer_13 : decode cX6_offer 13 = .ok (.aload_n 0, 1) := by decide +kernel
theorem dX6_offer_14 : decode cX6_offer 14 = .ok (.iload_n 2, 1) := by decide +kernel
theorem dX6_offer_15 : decode cX6_offer 15 = .ok (.iconst 0, 1) := by decide +kernel
theorem dX6_offer_16 : decode cX6_offer 16 = .ok (.sipush 999, 3) := by decide +kernel
theorem dX6_offer_19 : decode cX6_offer 19 = .ok (.invokestatic 61, 3) := by decide +kernel
theorem dX6_offer_22 : decode cX6_offer 22 = .ok (.ifCond .ne 7, 3) := by decide +kernel
theorem dX6_offer_25 : decode cX6_offer 25 = .ok (.iconst 1, 1) := by decide +kernel
theorem dX6_offer_26 : decode cX6_offer 26 = .ok (.goto 4, 3) := by decide +kernel
theorem dX6_offer_29 : decode cX6_offer 29 = .ok (.iconst 0, 1) := by decide +kernel
theorem dX6_offer_30 : decode cX6_offer 30 = .ok (.iconst 2, 1) := by decide +kernel
theorem dX6_offer_31 : decode cX6_offer 31 = .ok (.invokevirtual 149, 3) := by decide +kernel
theorem dX6_offer_34 : decode cX6_offer 34 = .ok (.ifCond .eq 5, 3) := by decide +kernel
theorem dX6_offer_37 : decode cX6_offer 37 = .ok (.iconst 0, 1) := by decide +kernel
theorem dX6_offer_38 : decode cX6_offer 38 = .ok (.ireturn, 1) := by decide +kernel
theorem dX6_offer_39 : decode cX6_offer 39 = .ok (.aload_n 0, 1) := by decide +kernel
theorem dX6_offer_40 : decode cX6_offer 40 = .ok (.iload_n 1, 1) := by decide +kernel
theorem dX6_offer_41 : decode cX6_offer 41 = .ok (.iconst 1, 1) := by decide +kernel
theorem dX6_offer_42 : decode cX6_offer 42 = .ok (.invokevirtual 190, 3) := by decide +kernel
theorem dX6_offer_45 : decode cX6_offer 45 = .ok (.istore_n 3, 1) := by decide +kernel
theorem dX6_offer_46 : decode cX6_offer 46 = .ok (.aload_n 0, 1) := by decide +kernel
theorem dX6_offer_47 : decode cX6_offer 47 = .ok (.iload_n 3, 1) := by decide +kernel
theorem dX6_offer_48 : decode cX6_offer 48 = .ok (.iconst (-1), 1) := by decide +kernel
theorem dX6_offer_49 : decode cX6_offer 49 = .ok (.if_icmp .ne 7, 3) := by decide +kernel
theorem dX6_offer_52 : decode cX6_offer 52 = .ok (.iconst 1, 1) := by decide +kernel
theorem dX6_offer_53 : decode cX6_offer 53 = .ok (.goto 4, 3) := by decide +kernel
theorem dX6_offer_56 : decode cX6_offer 56 = .ok (.iconst 0, 1) := by decide +kernel
theorem dX6_offer_57 : decode cX6_offer 57 = .ok (.iconst 3, 1) := by decide +kernel
theorem dX6_offer_58 : decode cX6_offer 58 = .ok (.invokevirtual 149, 3) := by decide +kernel
theorem dX6_offer_61 : decode cX6_offer 61 = .ok (.ifCond .eq 5, 3) := by decide +kernel
theorem dX6_offer_64 : decode cX6_offer 64 = .ok (.iconst 0, 1) := by decide +kernel
theorem dX6_offer_65 : decode cX6_offer 65 = .ok (.ireturn, 1) := by decide +kernel
theorem dX6_offer_66 : decode cX6_offer 66 = .ok (.aload_n 0, 1) := by decide +kernel
theorem dX6_offer_67 : decode cX6_offer 67 = .ok (.invokevirtual 158, 3) := by decide +kernel
theorem dX6_offer_70 : decode cX6_offer 70 = .ok (.iload_n 3, 1) := by decide +kernel
theorem dX6_offer_71 : decode cX6_offer 71 = .ok (.invokestatic 168, 3) := by decide +kernel
theorem dX6_offer_74 : decode cX6_offer 74 = .ok (.istore 4, 2) := by decide +kernel
theorem dX6_offer_76 : decode cX6_offer 76 = .ok (.aload_n 0, 1) := by decide +kernel
theorem dX6_offer_77 : decode cX6_offer 77 = .ok (.iload_n 3, 1) := by decide +kernel
theorem dX6_offer_78 : decode cX6_offer 78 = .ok (.invokevirtual 177, 3) := by decide +kernel
theorem dX6_offer_81 : decode cX6_offer 81 = .ok (.iload_n 1, 1) := by decide +kernel
theorem dX6_offer_82 : decode cX6_offer 82 = .ok (.if_icmp .ne 7, 3) := by decide +kernel
theorem dX6_offer_85 : decode cX6_offer 85 = .ok (.iconst 0, 1) := by decide +kernel
theorem dX6_offer_86 : decode cX6_offer 86 = .ok (.goto 4, 3) := by decide +kernel
theorem dX6_offer_89 : decode cX6_offer 89 = .ok (.iconst 1, 1) := by decide +kernel
theorem dX6_offer_90 : decode cX6_offer 90 = .ok (.istore 5, 2) := by decide +kernel
theorem dX6_offer_92 : decode cX6_offer 92 = .ok (.aload_n 0, 1) := by decide +kernel
theorem dX6_offer_93 : decode cX6_offer 93 = .ok (.getfield 17, 3) := by decide +kernel
theorem dX6_offer_96 : decode cX6_offer 96 = .ok (.iload 4, 2) := by decide +kernel
theorem dX6_offer_98 : decode cX6_offer 98 = .ok (.bipush 6, 2) := by decide +kernel
theorem dX6_offer_100 : decode cX6_offer 100 = .ok (.iadd, 1) := by decide +kernel
theorem dX6_offer_101 : decode cX6_offer 101 = .ok (.iaload, 1) := by decide +kernel
theorem dX6_offer_102 : decode cX6_offer 102 = .ok (.istore 6, 2) := by decide +kernel
theorem dX6_offer_104 : decode cX6_offer 104 = .ok (.iload 6, 2) := by decide +kernel
theorem dX6_offer_106 : decode cX6_offer 106 = .ok (.iload 5, 2) := by decide +kernel
theorem dX6_offer_108 : decode cX6_offer 108 = .ok (.if_icmp .ne 5, 3) := by decide +kernel
theorem dX6_offer_111 : decode cX6_offer 111 = .ok (.iconst 0, 1) := by decide +kernel
theorem dX6_offer_112 : decode cX6_offer 112 = .ok (.ireturn, 1) := by decide +kernel
theorem dX6_offer_113 : decode cX6_offer 113 = .ok (.iload 6, 2) := by decide +kernel
theorem dX6_offer_115 : decode cX6_offer 115 = .ok (.iconst (-1), 1) := by decide +kernel
theorem dX6_offer_116 : decode cX6_offer 116 = .ok (.if_icmp .ne 13, 3) := by decide +kernel
theorem dX6_offer_119 : decode cX6_offer 119 = .ok (.aload_n 0, 1) := by decide +kernel
theorem dX6_offer_120 : decode cX6_offer 120 = .ok (.iload_n 3, 1) := by decide +kernel
theorem dX6_offer_121 : decode cX6_offer 121 = .ok (.iload 5, 2) := by decide +kernel
theorem dX6_offer_123 : decode cX6_offer 123 = .ok (.iload_n 2, 1) := by decide +kernel
theorem dX6_offer_124 : decode cX6_offer 124 = .ok (.invokevirtual 244, 3) := by decide +kernel
theorem dX6_offer_127 : decode cX6_offer 127 = .ok (.iconst 1, 1) := by decide +kernel
theorem dX6_offer_128 : decode cX6_offer 128 = .ok (.ireturn, 1) := by decide +kernel
theorem dX6_offer_129 : decode cX6_offer 129 = .ok (.aload_n 0, 1) := by decide +kernel
theorem dX6_offer_130 : decode cX6_offer 130 = .ok (.getfield 17, 3) := by decide +kernel
theorem dX6_offer_133 : decode cX6_offer 133 = .ok (.iload 4, 2) := by decide +kernel
theorem dX6_offer_135 : decode cX6_offer 135 = .ok (.bipush 11, 2) := by decide +kernel
theorem dX6_offer_137 : decode cX6_offer 137 = .ok (.iadd, 1) := by decide +kernel
theorem dX6_offer_138 : decode cX6_offer 138 = .ok (.iload 6, 2) := by decide +kernel
theorem dX6_offer_140 : decode cX6_offer 140 = .ok (.iadd, 1) := by decide +kernel
theorem dX6_offer_141 : decode cX6_offer 141 = .ok (.aload_n 0, 1) := by decide +kernel
theorem dX6_offer_142 : decode cX6_offer 142 = .ok (.getfield 17, 3) := by decide +kernel
theorem dX6_offer_145 : decode cX6_offer 145 = .ok (.iload 4, 2) := by decide +kernel
theorem dX6_offer_147 : decode cX6_offer 147 = .ok (.bipush 7, 2) := by decide +kernel
theorem dX6_offer_149 : decode cX6_offer 149 = .ok (.iadd, 1) := by decide +kernel
theorem dX6_offer_150 : decode cX6_offer 150 = .ok (.iaload, 1) := by decide +kernel
theorem dX6_offer_151 : decode cX6_offer 151 = .ok (.iastore, 1) := by decide +kernel
theorem dX6_offer_152 : decode cX6_offer 152 = .ok (.aload_n 0, 1) := by decide +kernel
theorem dX6_offer_153 : decode cX6_offer 153 = .ok (.getfield 17, 3) := by decide +kernel
theorem dX6_offer_156 : decode cX6_offer 156 = .ok (.iload 4, 2) := by decide +kernel
theorem dX6_offer_158 : decode cX6_offer 158 = .ok (.bipush 11, 2) := by decide +kernel
theorem dX6_offer_160 : decode cX6_offer 160 = .ok (.iadd, 1) := by decide +kernel
theorem dX6_offer_161 : decode cX6_offer 161 = .ok (.iload 5, 2) := by decide +kernel
theorem dX6_offer_163 : decode cX6_offer 163 = .ok (.iadd, 1) := by decide +kernel
theorem dX6_offer_164 : decode cX6_offer 164 = .ok (.iload_n 2, 1) := by decide +kernel
theorem dX6_offer_165 : decode cX6_offer 165 = .ok (.iastore, 1) := by decide +kernel
theorem dX6_offer_166 : decode cX6_offer 166 = .ok (.aload_n 0, 1) := by decide +kernel
theorem dX6_offer_167 : decode cX6_offer 167 = .ok (.getfield 17, 3) := by decide +kernel
theorem dX6_offer_170 : decode cX6_offer 170 = .ok (.iload 4, 2) := by decide +kernel
theorem dX6_offer_172 : decode cX6_offer 172 = .ok (.bipush 9, 2) := by decide +kernel
theorem dX6_offer_174 : decode cX6_offer 174 = .ok (.iadd, 1) := by decide +kernel
theorem dX6_offer_175 : decode cX6_offer 175 = .ok (.aload_n 0, 1) := by decide +kernel
theorem dX6_offer_176 : decode cX6_offer 176 = .ok (.getfield 17, 3) := by decide +kernel
theorem dX6_offer_179 : decode cX6_offer 179 = .ok (.iconst 0, 1) := by decide +kernel
theorem dX6_offer_180 : decode cX6_offer 180 = .ok (.iaload, 1) := by decide +kernel
theorem dX6_offer_181 : decode cX6_offer 181 = .ok (.aload_n 0, 1) := by decide +kernel
theorem dX6_offer_182 : decode cX6_offer 182 = .ok (.getfield 17, 3) := by decide +kernel
theorem dX6_offer_185 : decode cX6_offer 185 = .ok (.iconst 1, 1) := by decide +kernel
theorem dX6_offer_186 : decode cX6_offer 186 = .ok (.iaload, 1) := by decide +kernel
theorem dX6_offer_187 : decode cX6_offer 187 = .ok (.iadd, 1) := by decide +kernel
theorem dX6_offer_188 : decode cX6_offer 188 = .ok (.iastore, 1) := by decide +kernel
theorem dX6_offer_189 : decode cX6_offer 189 = .ok (.aload_n 0, 1) := by decide +kernel
theorem dX6_offer_190 : decode cX6_offer 190 = .ok (.getfield 17, 3) := by decide +kernel
theorem dX6_offer_193 : decode cX6_offer 193 = .ok (.iload 4, 2) := by decide +kernel
theorem dX6_offer_195 : decode cX6_offer 195 = .ok (.bipush 9, 2) := by decide +kernel
theorem dX6_offer_197 : decode cX6_offer 197 = .ok (.iadd, 1) := by decide +kernel
theorem dX6_offer_198 : decode cX6_offer 198 = .ok (.iconst 1, 1) := by decide +kernel
theorem dX6_offer_199 : decode cX6_offer 199 = .ok (.iadd, 1) := by decide +kernel
theorem dX6_offer_200 : decode cX6_offer 200 = .ok (.aload_n 0, 1) := by decide +kernel
theorem dX6_offer_201 : decode cX6_offer 201 = .ok (.getfield 17, 3) := by decide +kernel
theorem dX6_offer_204 : decode cX6_offer 204 = .ok (.iconst 0, 1) := by decide +kernel
theorem dX6_offer_205 : decode cX6_offer 205 = .ok (.iaload, 1) := by decide +kernel
theorem dX6_offer_206 : decode cX6_offer 206 = .ok (.aload_n 0, 1) := by decide +kernel
theorem dX6_offer_207 : decode cX6_offer 207 = .ok (.getfield 17, 3) := by decide +kernel
theorem dX6_offer_210 : decode cX6_offer 210 = .ok (.iconst 2, 1) := by decide +kernel
theorem dX6_offer_211 : decode cX6_offer 211 = .ok (.iaload, 1) := by decide +kernel
theorem dX6_offer_212 : decode cX6_offer 212 = .ok (.iadd, 1) := by decide +kernel
theorem dX6_offer_213 : decode cX6_offer 213 = .ok (.iastore, 1) := by decide +kernel
theorem dX6_offer_214 : decode cX6_offer 214 = .ok (.aload_n 0, 1) := by decide +kernel
theorem dX6_offer_215 : decode cX6_offer 215 = .ok (.getfield 17, 3) := by decide +kernel
theorem dX6_offer_218 : decode cX6_offer 218 = .ok (.iload 4, 2) := by decide +kernel
theorem dX6_offer_220 : decode cX6_offer 220 = .ok (.bipush 6, 2) := by decide +kernel
theorem dX6_offer_222 : decode cX6_offer 222 = .ok (.iadd, 1) := by decide +kernel
theorem dX6_offer_223 : decode cX6_offer 223 = .ok (.iconst (-1), 1) := by decide +kernel
theorem dX6_offer_224 : decode cX6_offer 224 = .ok (.iastore, 1) := by decide +kernel
theorem dX6_offer_225 : decode cX6_offer 225 = .ok (.aload_n 0, 1) := by decide +kernel
theorem dX6_offer_226 : decode cX6_offer 226 = .ok (.iconst 2, 1) := by decide +kernel
theorem dX6_offer_227 : decode cX6_offer 227 = .ok (.invokevirtual 199, 3) := by decide +kernel
theorem dX6_offer_230 : decode cX6_offer 230 = .ok (.iconst (-1), 1) := by decide +kernel
theorem dX6_offer_231 : decode cX6_offer 231 = .ok (.ireturn, 1) := by decide +kernel
theorem dX6_setParty_0 : decode cX6_setParty 0 = .ok (.aload_n 0, 1) := by decide +kernel
theorem dX6_setParty_1 : decode cX6_setParty 1 = .ok (.iconst 0, 1) := by decide +kernel
theorem dX6_setParty_2 : decode cX6_setParty 2 = .ok (.putfield 39, 3) := by decide +kernel
theorem dX6_setParty_5 : decode cX6_setParty 5 = .ok (.aload_n 0, 1) := by decide +kernel
theorem dX6_setParty_6 : decode cX6_setParty 6 = .ok (.iload_n 1, 1) := by decide +kernel
theorem dX6_setParty_7 : decode cX6_setParty 7 = .ok (.invokevirtual 274, 3) := by decide +kernel
theorem dX6_setParty_10 : decode cX6_setParty 10 = .ok (.ifCond .ne 46, 3) := by decide +kernel
theorem dX6_setParty_13 : decode cX6_setParty 13 = .ok (.aload_n 0, 1) := by decide +kernel
theorem dX6_setParty_14 : decode cX6_setParty 14 = .ok (.iload_n 2, 1) := by decide +kernel
theorem dX6_setParty_15 : decode cX6_setParty 15 = .ok (.iconst 0, 1) := by decide +kernel
theorem dX6_setParty_16 : decode cX6_setParty 16 = .ok (.iconst 2, 1) := by decide +kernel
theorem dX6_setParty_17 : decode cX6_setParty 17 = .ok (.invokestatic 61, 3) := by decide +kernel
theorem dX6_setParty_20 : decode cX6_setParty 20 = .ok (.ifCond .eq 24, 3) := by decide +kernel
theorem dX6_setParty_23 : decode cX6_setParty 23 = .ok (.iload_n 3, 1) := by decide +kernel
theorem dX6_setParty_24 : decode cX6_setParty 24 = .ok (.iconst 0, 1) := by decide +kernel
theorem dX6_setParty_25 : decode cX6_setParty 25 = .ok (.iload_n 2, 1) := by decide +kernel
theorem dX6_setParty_26 : decode cX6_setParty 26 = .ok (.iconst 2, 1) := by decide +kernel
theorem dX6_setParty_27 : decode cX6_setParty 27 = .ok (.if_icmp .ne 9, 3) := by decide +kernel
theorem dX6_setParty_30 : decode cX6_setParty 30 = .ok (.sipush 999, 3) := by decide +kernel
theorem dX6_setParty_33 : decode cX6_setParty 33 = .ok (.goto 5, 3) := by decide +kernel
theorem dX6_setParty_36 : decode cX6_setParty 36 = .ok (.bipush 99, 2) := by decide +kernel
theorem dX6_setParty_38 : decode cX6_setParty 38 = .ok (.invokestatic 61, 3) := by decide +kernel
theorem dX6_setParty_41 : decode cX6_setParty 41 = .ok (.ifCond .ne 7, 3) := by decide +kernel
theorem dX6_setParty_44 : decode cX6_setParty 44 = .ok (.iconst 1, 1) := by decide +kernel
theorem dX6_setParty_45 : decode cX6_setParty 45 = .ok (.goto 4, 3) := by decide +kernel
theorem dX6_setParty_48 : decode cX6_setParty 48 = .ok (.iconst 0, 1) := by decide +kernel
theorem dX6_setParty_49 : decode cX6_setParty 49 = .ok (.iconst 2, 1) := by decide +kernel
theorem dX6_setParty_50 : decode cX6_setParty 50 = .ok (.invokevirtual 149, 3) := by decide +kernel
theorem dX6_setParty_53 : decode cX6_setParty 53 = .ok (.ifCond .eq 5, 3) := by decide +kernel
theorem dX6_setParty_56 : decode cX6_setParty 56 = .ok (.iconst 0, 1) := by decide +kernel
theorem dX6_setParty_57 : decode cX6_setParty 57 = .ok (.ireturn, 1) := by decide +kernel
theorem dX6_setParty_58 : decode cX6_setParty 58 = .ok (.aload_n 0, 1) := by decide +kernel
theorem dX6_setParty_59 : decode cX6_setParty 59 = .ok (.invokevirtual 158, 3) := by decide +kernel
theorem dX6_setParty_62 : decode cX6_setParty 62 = .ok (.aload_n 0, 1) := by decide +kernel
theorem dX6_setParty_63 : decode cX6_setParty 63 = .ok (.iload_n 1, 1) := by decide +kernel
theorem dX6_setParty_64 : decode cX6_setParty 64 = .ok (.iload_n 2, 1) := by decide +kernel
theorem dX6_setParty_65 : decode cX6_setParty 65 = .ok (.invokevirtual 250, 3) := by decide +kernel
theorem dX6_setParty_68 : decode cX6_setParty 68 = .ok (.istore 4, 2) := by decide +kernel
theorem dX6_setParty_70 : decode cX6_setParty 70 = .ok (.aload_n 0, 1) := by decide +kernel
theorem dX6_setParty_71 : decode cX6_setParty 71 = .ok (.getfield 17, 3) := by decide +kernel
theorem dX6_setParty_74 : decode cX6_setParty 74 = .ok (.bipush 16, 2) := by decide +kernel
theorem dX6_setParty_76 : decode cX6_setParty 76 = .ok (.iconst 3, 1) := by decide +kernel
theorem dX6_setParty_77 : decode cX6_setParty 77 = .ok (.iload_n 1, 1) := by decide +kernel
theorem dX6_setParty_78 : decode cX6_setParty 78 = .ok (.imul, 1) := by decide +kernel
theorem dX6_setParty_79 : decode cX6_setParty 79 = .ok (.iadd, 1) := by decide +kernel
theorem dX6_setParty_80 : decode cX6_setParty 80 = .ok (.iload_n 2, 1) := by decide +kernel
theorem dX6_setParty_81 : decode cX6_setParty 81 = .ok (.iadd, 1) := by decide +kernel
theorem dX6_setParty_82 : decode cX6_setParty 82 = .ok (.iload_n 3, 1) := by decide +kernel
theorem dX6_setParty_83 : decode cX6_setParty 83 = .ok (.iastore, 1) := by decide +kernel
theorem dX6_setParty_84 : decode cX6_setParty 84 = .ok (.iload 4, 2) := by decide +kernel
theorem dX6_setParty_86 : decode cX6_setParty 86 = .ok (.ireturn, 1) := by decide +kernel
theorem dX6_undo_0 : decode cX6_undo 0 = .ok (.aload_n 0, 1) := by decide +kernel
theorem dX6_undo_1 : decode cX6_undo 1 = .ok (.iconst 0, 1) := by decide +kernel
theorem dX6_undo_2 : decode cX6_undo 2 = .ok (.putfield 39, 3) := by decide +kernel
theorem dX6_undo_5 : decode cX6_undo 5 = .ok (.aload_n 0, 1) := by decide +kernel
theorem dX6_undo_6 : decode cX6_undo 6 = .ok (.getfield 295, 3) := by decide +kernel
theorem dX6_undo_9 : decode cX6_undo 9 = .ok (.ifCond .ne 5, 3) := by decide +kernel
theorem dX6_undo_12 : decode cX6_undo 12 = .ok (.iconst (-1), 1) := by decide +kernel
theorem dX6_undo_13 : decode cX6_undo 13 = .ok (.ireturn, 1) := by decide +kernel
theorem dX6_undo_14 : decode cX6_undo 14 = .ok (.aload_n 0, 1) := by decide +kernel
theorem dX6_undo_15 : decode cX6_undo 15 = .ok (.dup, 1) := by decide +kernel
theorem dX6_undo_16 : decode cX6_undo 16 = .ok (.getfield 295, 3) := by decide +kernel
theorem dX6_undo_19 : decode cX6_undo 19 = .ok (.iconst 1, 1) := by decide +kernel
theorem dX6_undo_20 : decode cX6_undo 20 = .ok (.isub, 1) := by decide +kernel
theorem dX6_undo_21 : decode cX6_undo 21 = .ok (.putfield 295, 3) := by decide +kernel
theorem dX6_undo_24 : decode cX6_undo 24 = .ok (.aload_n 0, 1) := by decide +kernel
theorem dX6_undo_25 : decode cX6_undo 25 = .ok (.getfield 28, 3) := by decide +kernel
theorem dX6_undo_28 : decode cX6_undo 28 = .ok (.aload_n 0, 1) := by decide +kernel
theorem dX6_undo_29 : decode cX6_undo 29 = .ok (.getfield 295, 3) := by decide +kernel
theorem dX6_undo_32 : decode cX6_undo 32 = .ok (.aaload, 1) := by decide +kernel
theorem dX6_undo_33 : decode cX6_undo 33 = .ok (.aload_n 0, 1) := by decide +kernel
theorem dX6_undo_34 : decode cX6_undo 34 = .ok (.getfield 17, 3) := by decide +kernel
theorem dX6_undo_37 : decode cX6_undo 37 = .ok (.invokestatic 161, 3) := by decide +kernel
theorem dX6_undo_40 : decode cX6_undo 40 = .ok (.aload_n 0, 1) := by decide +kernel
theorem dX6_undo_41 : decode cX6_undo 41 = .ok (.getfield 295, 3) := by decide +kernel
theorem dX6_undo_44 : decode cX6_undo 44 = .ok (.ireturn, 1) := by decide +kernel
theorem dX6_checksum_0 : decode cX6_checksum 0 = .ok (.aload_n 0, 1) := by decide +kernel
theorem dX6_checksum_1 : decode cX6_checksum 1 = .ok (.iconst 0, 1) := by decide +kernel
theorem dX6_checksum_2 : decode cX6_checksum 2 = .ok (.putfield 39, 3) := by decide +kernel
theorem dX6_checksum_5 : decode cX6_checksum 5 = .ok (.aload_n 0, 1) := by decide +kernel
theorem dX6_checksum_6 : decode cX6_checksum 6 = .ok (.getfield 17, 3) := by decide +kernel
theorem dX6_checksum_9 : decode cX6_checksum 9 = .ok (.iconst 0, 1) := by decide +kernel
theorem dX6_checksum_10 : decode cX6_checksum 10 = .ok (.iaload, 1) := by decide +kernel
theorem dX6_checksum_11 : decode cX6_checksum 11 = .ok (.i2l, 1) := by decide +kernel
theorem dX6_checksum_12 : decode cX6_checksum 12 = .ok (.lstore_n 1, 1) := by decide +kernel
theorem dX6_checksum_13 : decode cX6_checksum 13 = .ok (.iconst 0, 1) := by decide +kernel
theorem dX6_checksum_14 : decode cX6_checksum 14 = .ok (.istore_n 3, 1) := by decide +kernel
theorem dX6_checksum_15 : decode cX6_checksum 15 = .ok (.iload_n 3, 1) := by decide +kernel
theorem dX6_checksum_16 : decode cX6_checksum 16 = .ok (.aload_n 0, 1) := by decide +kernel
theorem dX6_checksum_17 : decode cX6_checksum 17 = .ok (.getfield 17, 3) := by decide +kernel
theorem dX6_checksum_20 : decode cX6_checksum 20 = .ok (.iconst 4, 1) := by decide +kernel
theorem dX6_checksum_21 : decode cX6_checksum 21 = .ok (.iaload, 1) := by decide +kernel
theorem dX6_checksum_22 : decode cX6_checksum 22 = .ok (.if_icmp .ge 40, 3) := by decide +kernel
theorem dX6_checksum_25 : decode cX6_checksum 25 = .ok (.iconst 0, 1) := by decide +kernel
theorem dX6_checksum_26 : decode cX6_checksum 26 = .ok (.istore 4, 2) := by decide +kernel
theorem dX6_checksum_28 : decode cX6_checksum 28 = .ok (.iload 4, 2) := by decide +kernel
theorem dX6_checksum_30 : decode cX6_checksum 30 = .ok (.bipush 6, 2) := by decide +kernel
theorem dX6_checksum_32 : decode cX6_checksum 32 = .ok (.if_icmp .ge 24, 3) := by decide +kernel
theorem dX6_checksum_35 : decode cX6_checksum 35 = .ok (.ldc2_w 301, 3) := by decide +kernel
theorem dX6_checksum_38 : decode cX6_checksum 38 = .ok (.lload_n 1, 1) := by decide +kernel
theorem dX6_checksum_39 : decode cX6_checksum 39 = .ok (.lmul, 1) := by decide +kernel
theorem dX6_checksum_40 : decode cX6_checksum 40 = .ok (.aload_n 0, 1) := by decide +kernel
theorem dX6_checksum_41 : decode cX6_checksum 41 = .ok (.iload_n 3, 1) := by decide +kernel
theorem dX6_checksum_42 : decode cX6_checksum 42 = .ok (.iload 4, 2) := by decide +kernel
theorem dX6_checksum_44 : decode cX6_checksum 44 = .ok (.invokevirtual 277, 3) := by decide +kernel
theorem dX6_checksum_47 : decode cX6_checksum 47 = .ok (.i2l, 1) := by decide +kernel
theorem dX6_checksum_48 : decode cX6_checksum 48 = .ok (.ladd, 1) := by decide +kernel
theorem dX6_checksum_49 : decode cX6_checksum 49 = .ok (.lstore_n 1, 1) := by decide +kernel
theorem dX6_checksum_50 : decode cX6_checksum 50 = .ok (.iinc 4 1, 3) := by decide +kernel
theorem dX6_checksum_53 : decode cX6_checksum 53 = .ok (.goto (-25), 3) := by decide +kernel
theorem dX6_checksum_56 : decode cX6_checksum 56 = .ok (.iinc 3 1, 3) := by decide +kernel
theorem dX6_checksum_59 : decode cX6_checksum 59 = .ok (.goto (-44), 3) := by decide +kernel
theorem dX6_checksum_62 : decode cX6_checksum 62 = .ok (.iconst 0, 1) := by decide +kernel
theorem dX6_checksum_63 : decode cX6_checksum 63 = .ok (.istore_n 3, 1) := by decide +kernel
theorem dX6_checksum_64 : decode cX6_checksum 64 = .ok (.iload_n 3, 1) := by decide +kernel
theorem dX6_checksum_65 : decode cX6_checksum 65 = .ok (.aload_n 0, 1) := by decide +kernel
theorem dX6_checksum_66 : decode cX6_checksum 66 = .ok (.getfield 17, 3) := by decide +kernel
theorem dX6_checksum_69 : decode cX6_checksum 69 = .ok (.iconst 5, 1) := by decide +kernel
theorem dX6_checksum_70 : decode cX6_checksum 70 = .ok (.iaload, 1) := by decide +kernel
theorem dX6_checksum_71 : decode cX6_checksum 71 = .ok (.if_icmp .ge 40, 3) := by decide +kernel
theorem dX6_checksum_74 : decode cX6_checksum 74 = .ok (.iconst 0, 1) := by decide +kernel
theorem dX6_checksum_75 : decode cX6_checksum 75 = .ok (.istore 4, 2) := by decide +kernel
theorem dX6_checksum_77 : decode cX6_checksum 77 = .ok (.iload 4, 2) := by decide +kernel
theorem dX6_checksum_79 : decode cX6_checksum 79 = .ok (.bipush 6, 2) := by decide +kernel
theorem dX6_checksum_81 : decode cX6_checksum 81 = .ok (.if_icmp .ge 24, 3) := by decide +kernel
theorem dX6_checksum_84 : decode cX6_checksum 84 = .ok (.ldc2_w 301, 3) := by decide +kernel
theorem dX6_checksum_87 : decode cX6_checksum 87 = .ok (.lload_n 1, 1) := by decide +kernel
theorem dX6_checksum_88 : decode cX6_checksum 88 = .ok (.lmul, 1) := by decide +kernel
theorem dX6_checksum_89 : decode cX6_checksum 89 = .ok (.aload_n 0, 1) := by decide +kernel
theorem dX6_checksum_90 : decode cX6_checksum 90 = .ok (.iload_n 3, 1) := by decide +kernel
theorem dX6_checksum_91 : decode cX6_checksum 91 = .ok (.iload 4, 2) := by decide +kernel
theorem dX6_checksum_93 : decode cX6_checksum 93 = .ok (.invokevirtual 283, 3) := by decide +kernel
theorem dX6_checksum_96 : decode cX6_checksum 96 = .ok (.i2l, 1) := by decide +kernel
theorem dX6_checksum_97 : decode cX6_checksum 97 = .ok (.ladd, 1) := by decide +kernel
theorem dX6_checksum_98 : decode cX6_checksum 98 = .ok (.lstore_n 1, 1) := by decide +kernel
theorem dX6_checksum_99 : decode cX6_checksum 99 = .ok (.iinc 4 1, 3) := by decide +kernel
theorem dX6_checksum_102 : decode cX6_checksum 102 = .ok (.goto (-25), 3) := by decide +kernel
theorem dX6_checksum_105 : decode cX6_checksum 105 = .ok (.iinc 3 1, 3) := by decide +kernel
theorem dX6_checksum_108 : decode cX6_checksum 108 = .ok (.goto (-44), 3) := by decide +kernel
theorem dX6_checksum_111 : decode cX6_checksum 111 = .ok (.iconst 0, 1) := by decide +kernel
theorem dX6_checksum_112 : decode cX6_checksum 112 = .ok (.istore_n 3, 1) := by decide +kernel
theorem dX6_checksum_113 : decode cX6_checksum 113 = .ok (.iload_n 3, 1) := by decide +kernel
theorem dX6_checksum_114 : decode cX6_checksum 114 = .ok (.aload_n 0, 1) := by decide +kernel
theorem dX6_checksum_115 : decode cX6_checksum 115 = .ok (.getfield 17, 3) := by decide +kernel
theorem dX6_checksum_118 : decode cX6_checksum 118 = .ok (.bipush 6, 2) := by decide +kernel
theorem dX6_checksum_120 : decode cX6_checksum 120 = .ok (.iaload, 1) := by decide +kernel
theorem dX6_checksum_121 : decode cX6_checksum 121 = .ok (.if_icmp .ge 68, 3) := by decide +kernel
theorem dX6_checksum_124 : decode cX6_checksum 124 = .ok (.iconst 0, 1) := by decide +kernel
theorem dX6_checksum_125 : decode cX6_checksum 125 = .ok (.istore 4, 2) := by decide +kernel
theorem dX6_checksum_127 : decode cX6_checksum 127 = .ok (.iload 4, 2) := by decide +kernel
theorem dX6_checksum_129 : decode cX6_checksum 129 = .ok (.bipush 6, 2) := by decide +kernel
theorem dX6_checksum_131 : decode cX6_checksum 131 = .ok (.if_icmp .ge 24, 3) := by decide +kernel
theorem dX6_checksum_134 : decode cX6_checksum 134 = .ok (.ldc2_w 301, 3) := by decide +kernel
theorem dX6_checksum_137 : decode cX6_checksum 137 = .ok (.lload_n 1, 1) := by decide +kernel
theorem dX6_checksum_138 : decode cX6_checksum 138 = .ok (.lmul, 1) := by decide +kernel
theorem dX6_checksum_139 : decode cX6_checksum 139 = .ok (.aload_n 0, 1) := by decide +kernel
theorem dX6_checksum_140 : decode cX6_checksum 140 = .ok (.iload_n 3, 1) := by decide +kernel
theorem dX6_checksum_141 : decode cX6_checksum 141 = .ok (.iload 4, 2) := by decide +kernel
theorem dX6_checksum_143 : decode cX6_checksum 143 = .ok (.invokevirtual 171, 3) := by decide +kernel
theorem dX6_checksum_146 : decode cX6_checksum 146 = .ok (.i2l, 1) := by decide +kernel
theorem dX6_checksum_147 : decode cX6_checksum 147 = .ok (.ladd, 1) := by decide +kernel
theorem dX6_checksum_148 : decode cX6_checksum 148 = .ok (.lstore_n 1, 1) := by decide +kernel
theorem dX6_checksum_149 : decode cX6_checksum 149 = .ok (.iinc 4 1, 3) := by decide +kernel
theorem dX6_checksum_152 : decode cX6_checksum 152 = .ok (.goto (-25), 3) := by decide +kernel
theorem dX6_checksum_155 : decode cX6_checksum 155 = .ok (.ldc2_w 301, 3) := by decide +kernel
theorem dX6_checksum_158 : decode cX6_checksum 158 = .ok (.ldc2_w 301, 3) := by decide +kernel
theorem dX6_checksum_161 : decode cX6_checksum 161 = .ok (.lload_n 1, 1) := by decide +kernel
theorem dX6_checksum_162 : decode cX6_checksum 162 = .ok (.lmul, 1) := by decide +kernel
theorem dX6_checksum_163 : decode cX6_checksum 163 = .ok (.aload_n 0, 1) := by decide +kernel
theorem dX6_checksum_164 : decode cX6_checksum 164 = .ok (.iload_n 3, 1) := by decide +kernel
theorem dX6_checksum_165 : decode cX6_checksum 165 = .ok (.bipush 9, 2) := by decide +kernel
theorem dX6_checksum_167 : decode cX6_checksum 167 = .ok (.invokevirtual 171, 3) := by decide +kernel
theorem dX6_checksum_170 : decode cX6_checksum 170 = .ok (.i2l, 1) := by decide +kernel
theorem dX6_checksum_171 : decode cX6_checksum 171 = .ok (.ladd, 1) := by decide +kernel
theorem dX6_checksum_172 : decode cX6_checksum 172 = .ok (.lmul, 1) := by decide +kernel
theorem dX6_checksum_173 : decode cX6_checksum 173 = .ok (.aload_n 0, 1) := by decide +kernel
theorem dX6_checksum_174 : decode cX6_checksum 174 = .ok (.iload_n 3, 1) := by decide +kernel
theorem dX6_checksum_175 : decode cX6_checksum 175 = .ok (.bipush 10, 2) := by decide +kernel
theorem dX6_checksum_177 : decode cX6_checksum 177 = .ok (.invokevirtual 171, 3) := by decide +kernel
theorem dX6_checksum_180 : decode cX6_checksum 180 = .ok (.i2l, 1) := by decide +kernel
theorem dX6_checksum_181 : decode cX6_checksum 181 = .ok (.ladd, 1) := by decide +kernel
theorem dX6_checksum_182 : decode cX6_checksum 182 = .ok (.lstore_n 1, 1) := by decide +kernel
theorem dX6_checksum_183 : decode cX6_checksum 183 = .ok (.iinc 3 1, 3) := by decide +kernel
theorem dX6_checksum_186 : decode cX6_checksum 186 = .ok (.goto (-73), 3) := by decide +kernel
theorem dX6_checksum_189 : decode cX6_checksum 189 = .ok (.iconst 0, 1) := by decide +kernel
theorem dX6_checksum_190 : decode cX6_checksum 190 = .ok (.istore_n 3, 1) := by decide +kernel
theorem dX6_checksum_191 : decode cX6_checksum 191 = .ok (.iload_n 3, 1) := by decide +kernel
theorem dX6_checksum_192 : decode cX6_checksum 192 = .ok (.bipush 7, 2) := by decide +kernel
theorem dX6_checksum_194 : decode cX6_checksum 194 = .ok (.if_icmp .ge 26, 3) := by decide +kernel
theorem dX6_checksum_197 : decode cX6_checksum 197 = .ok (.ldc2_w 301, 3) := by decide +kernel
theorem dX6_checksum_200 : decode cX6_checksum 200 = .ok (.lload_n 1, 1) := by decide +kernel
theorem dX6_checksum_201 : decode cX6_checksum 201 = .ok (.lmul, 1) := by decide +kernel
theorem dX6_checksum_202 : decode cX6_checksum 202 = .ok (.aload_n 0, 1) := by decide +kernel
theorem dX6_checksum_203 : decode cX6_checksum 203 = .ok (.getfield 17, 3) := by decide +kernel
theorem dX6_checksum_206 : decode cX6_checksum 206 = .ok (.bipush 9, 2) := by decide +kernel
theorem dX6_checksum_208 : decode cX6_checksum 208 = .ok (.iload_n 3, 1) := by decide +kernel
theorem dX6_checksum_209 : decode cX6_checksum 209 = .ok (.iadd, 1) := by decide +kernel
theorem dX6_checksum_210 : decode cX6_checksum 210 = .ok (.iaload, 1) := by decide +kernel
theorem dX6_checksum_211 : decode cX6_checksum 211 = .ok (.i2l, 1) := by decide +kernel
theorem dX6_checksum_212 : decode cX6_checksum 212 = .ok (.ladd, 1) := by decide +kernel
theorem dX6_checksum_213 : decode cX6_checksum 213 = .ok (.lstore_n 1, 1) := by decide +kernel
theorem dX6_checksum_214 : decode cX6_checksum 214 = .ok (.iinc 3 1, 3) := by decide +kernel
theorem dX6_checksum_217 : decode cX6_checksum 217 = .ok (.goto (-26), 3) := by decide +kernel
theorem dX6_checksum_220 : decode cX6_checksum 220 = .ok (.lload_n 1, 1) := by decide +kernel
theorem dX6_checksum_221 : decode cX6_checksum 221 = .ok (.lreturn, 1) := by decide +kernel
end
section
theorem dJ6_bitCount_0f7a4_0 : decode cJ6_bitCount_0f7a4 0 = .ok (.iload_n 0, 1) := by decide +kernel
theorem dJ6_bitCount_0f7a4_1 : decode cJ6_bitCount_0f7a4 1 = .ok (.iload_n 0, 1) := by decide +kernel
theorem dJ6_bitCount_0f7a4_2 : decode cJ6_bitCount_0f7a4 2 = .ok (.iconst 1, 1) := by decide +kernel
theorem dJ6_bitCount_0f7a4_3 : decode cJ6_bitCount_0f7a4 3 = .ok (.iushr, 1) := by decide +kernel
theorem dJ6_bitCount_0f7a4_4 : decode cJ6_bitCount_0f7a4 4 = .ok (.ldc_w 265, 3) := by decide +kernel
theorem dJ6_bitCount_0f7a4_7 : decode cJ6_bitCount_0f7a4 7 = .ok (.iand, 1) := by decide +kernel
theorem dJ6_bitCount_0f7a4_8 : decode cJ6_bitCount_0f7a4 8 = .ok (.isub, 1) := by decide +kernel
theorem dJ6_bitCount_0f7a4_9 : decode cJ6_bitCount_0f7a4 9 = .ok (.istore_n 0, 1) := by decide +kernel
theorem dJ6_bitCount_0f7a4_10 : decode cJ6_bitCount_0f7a4 10 = .ok (.iload_n 0, 1) := by decide +kernel
theorem dJ6_bitCount_0f7a4_11 : decode cJ6_bitCount_0f7a4 11 = .ok (.ldc_w 266, 3) := by decide +kernel
theorem dJ6_bitCount_0f7a4_14 : decode cJ6_bitCount_0f7a4 14 = .ok (.iand, 1) := by decide +kernel
theorem dJ6_bitCount_0f7a4_15 : decode cJ6_bitCount_0f7a4 15 = .ok (.iload_n 0, 1) := by decide +kernel
theorem dJ6_bitCount_0f7a4_16 : decode cJ6_bitCount_0f7a4 16 = .ok (.iconst 2, 1) := by decide +kernel
theorem dJ6_bitCount_0f7a4_17 : decode cJ6_bitCount_0f7a4 17 = .ok (.iushr, 1) := by decide +kernel
theorem dJ6_bitCount_0f7a4_18 : decode cJ6_bitCount_0f7a4 18 = .ok (.ldc_w 266, 3) := by decide +kernel
theorem dJ6_bitCount_0f7a4_21 : decode cJ6_bitCount_0f7a4 21 = .ok (.iand, 1) := by decide +kernel
theorem dJ6_bitCount_0f7a4_22 : decode cJ6_bitCount_0f7a4 22 = .ok (.iadd, 1) := by decide +kernel
theorem dJ6_bitCount_0f7a4_23 : decode cJ6_bitCount_0f7a4 23 = .ok (.istore_n 0, 1) := by decide +kernel
theorem dJ6_bitCount_0f7a4_24 : decode cJ6_bitCount_0f7a4 24 = .ok (.iload_n 0, 1) := by decide +kernel
theorem dJ6_bitCount_0f7a4_25 : decode cJ6_bitCount_0f7a4 25 = .ok (.iload_n 0, 1) := by decide +kernel
theorem dJ6_bitCount_0f7a4_26 : decode cJ6_bitCount_0f7a4 26 = .ok (.iconst 4, 1) := by decide +kernel
theorem dJ6_bitCount_0f7a4_27 : decode cJ6_bitCount_0f7a4 27 = .ok (.iushr, 1) := by decide +kernel
theorem dJ6_bitCount_0f7a4_28 : decode cJ6_bitCount_0f7a4 28 = .ok (.iadd, 1) := by decide +kernel
theorem dJ6_bitCount_0f7a4_29 : decode cJ6_bitCount_0f7a4 29 = .ok (.ldc_w 267, 3) := by decide +kernel
theorem dJ6_bitCount_0f7a4_32 : decode cJ6_bitCount_0f7a4 32 = .ok (.iand, 1) := by decide +kernel
theorem dJ6_bitCount_0f7a4_33 : decode cJ6_bitCount_0f7a4 33 = .ok (.istore_n 0, 1) := by decide +kernel
theorem dJ6_bitCount_0f7a4_34 : decode cJ6_bitCount_0f7a4 34 = .ok (.iload_n 0, 1) := by decide +kernel
theorem dJ6_bitCount_0f7a4_35 : decode cJ6_bitCount_0f7a4 35 = .ok (.iload_n 0, 1) := by decide +kernel
theorem dJ6_bitCount_0f7a4_36 : decode cJ6_bitCount_0f7a4 36 = .ok (.bipush 8, 2) := by decide +kernel
theorem dJ6_bitCount_0f7a4_38 : decode cJ6_bitCount_0f7a4 38 = .ok (.iushr, 1) := by decide +kernel
theorem dJ6_bitCount_0f7a4_39 : decode cJ6_bitCount_0f7a4 39 = .ok (.iadd, 1) := by decide +kernel
theorem dJ6_bitCount_0f7a4_40 : decode cJ6_bitCount_0f7a4 40 = .ok (.istore_n 0, 1) := by decide +kernel
theorem dJ6_bitCount_0f7a4_41 : decode cJ6_bitCount_0f7a4 41 = .ok (.iload_n 0, 1) := by decide +kernel
theorem dJ6_bitCount_0f7a4_42 : decode cJ6_bitCount_0f7a4 42 = .ok (.iload_n 0, 1) := by decide +kernel
theorem dJ6_bitCount_0f7a4_43 : decode cJ6_bitCount_0f7a4 43 = .ok (.bipush 16, 2) := by decide +kernel
theorem dJ6_bitCount_0f7a4_45 : decode cJ6_bitCount_0f7a4 45 = .ok (.iushr, 1) := by decide +kernel
theorem dJ6_bitCount_0f7a4_46 : decode cJ6_bitCount_0f7a4 46 = .ok (.iadd, 1) := by decide +kernel
theorem dJ6_bitCount_0f7a4_47 : decode cJ6_bitCount_0f7a4 47 = .ok (.istore_n 0, 1) := by decide +kernel
theorem dJ6_bitCount_0f7a4_48 : decode cJ6_bitCount_0f7a4 48 = .ok (.iload_n 0, 1) := by decide +kernel
theorem dJ6_bitCount_0f7a4_49 : decode cJ6_bitCount_0f7a4 49 = .ok (.bipush 63, 2) := by decide +kernel
theorem dJ6_bitCount_0f7a4_51 : decode cJ6_bitCount_0f7a4 51 = .ok (.iand, 1) := by decide +kernel
theorem dJ6_bitCount_0f7a4_52 : decode cJ6_bitCount_0f7a4 52 = .ok (.ireturn, 1) := by decide +kernel
theorem dJ9_min_7cf53_0 : decode cJ9_min_7cf53 0 = .ok (.iload_n 0, 1) := by decide +kernel
theorem dJ9_min_7cf53_1 : decode cJ9_min_7cf53 1 = .ok (.iload_n 1, 1) := by decide +kernel
theorem dJ9_min_7cf53_2 : decode cJ9_min_7cf53 2 = .ok (.if_icmp .gt 7, 3) := by decide +kernel
theorem dJ9_min_7cf53_5 : decode cJ9_min_7cf53 5 = .ok (.iload_n 0, 1) := by decide +kernel
theorem dJ9_min_7cf53_6 : decode cJ9_min_7cf53 6 = .ok (.goto 4, 3) := by decide +kernel
theorem dJ9_min_7cf53_9 : decode cJ9_min_7cf53 9 = .ok (.iload_n 1, 1) := by decide +kernel
theorem dJ9_min_7cf53_10 : decode cJ9_min_7cf53 10 = .ok (.ireturn, 1) := by decide +kernel
theorem dJ0_length_8abf5_0 : decode cJ0_length_8abf5 0 = .ok (.aload_n 0, 1) := by decide +kernel
theorem dJ0_length_8abf5_1 : decode cJ0_length_8abf5 1 = .ok (.getfield 9, 3) := by decide +kernel
theorem dJ0_length_8abf5_4 : decode cJ0_length_8abf5 4 = .ok (.arraylength, 1) := by decide +kernel
theorem dJ0_length_8abf5_5 : decode cJ0_length_8abf5 5 = .ok (.aload_n 0, 1) := by decide +kernel
theorem dJ0_length_8abf5_6 : decode cJ0_length_8abf5 6 = .ok (.invokevirtual 335, 3) := by decide +kernel
theorem dJ0_length_8abf5_9 : decode cJ0_length_8abf5 9 = .ok (.ishr, 1) := by decide +kernel
theorem dJ0_length_8abf5_10 : decode cJ0_length_8abf5 10 = .ok (.ireturn, 1) := by decide +kernel
theorem dJ0_charAt_5068e_0 : decode cJ0_charAt_5068e 0 = .ok (.aload_n 0, 1) := by decide +kernel
theorem dJ0_charAt_5068e_1 : decode cJ0_charAt_5068e 1 = .ok (.invokevirtual 492, 3) := by decide +kernel
theorem dJ0_charAt_5068e_4 : decode cJ0_charAt_5068e 4 = .ok (.ifCond .eq 12, 3) := by decide +kernel
theorem dJ0_charAt_5068e_7 : decode cJ0_charAt_5068e 7 = .ok (.aload_n 0, 1) := by decide +kernel
theorem dJ0_charAt_5068e_8 : decode cJ0_charAt_5068e 8 = .ok (.getfield 9, 3) := by decide +kernel
theorem dJ0_charAt_5068e_11 : decode cJ0_charAt_5068e 11 = .ok (.iload_n 1, 1) := by decide +kernel
theorem dJ0_charAt_5068e_12 : decode cJ0_charAt_5068e 12 = .ok (.invokestatic 495, 3) := by decide +kernel
theorem dJ0_charAt_5068e_15 : decode cJ0_charAt_5068e 15 = .ok (.ireturn, 1) := by decide +kernel
theorem dJ0_charAt_5068e_16 : decode cJ0_charAt_5068e 16 = .ok (.aload_n 0, 1) := by decide +kernel
theorem dJ0_charAt_5068e_17 : decode cJ0_charAt_5068e 17 = .ok (.getfield 9, 3) := by decide +kernel
theorem dJ0_charAt_5068e_20 : decode cJ0_charAt_5068e 20 = .ok (.iload_n 1, 1) := by decide +kernel
theorem dJ0_charAt_5068e_21 : decode cJ0_charAt_5068e 21 = .ok (.invokestatic 498, 3) := by decide +kernel
theorem dJ0_charAt_5068e_24 : decode cJ0_charAt_5068e 24 = .ok (.ireturn, 1) := by decide +kernel
theorem dJ0_coder_7d493_0 : decode cJ0_coder_7d493 0 = .ok (.getstatic 38, 3) := by decide +kernel
theorem dJ0_coder_7d493_3 : decode cJ0_coder_7d493 3 = .ok (.ifCond .eq 10, 3) := by decide +kernel
theorem dJ0_coder_7d493_6 : decode cJ0_coder_7d493 6 = .ok (.aload_n 0, 1) := by decide +kernel
theorem dJ0_coder_7d493_7 : decode cJ0_coder_7d493 7 = .ok (.getfield 15, 3) := by decide +kernel
theorem dJ0_coder_7d493_10 : decode cJ0_coder_7d493 10 = .ok (.goto 4, 3) := by decide +kernel
theorem dJ0_coder_7d493_13 : decode cJ0_coder_7d493 13 = .ok (.iconst 1, 1) := by decide +kernel
theorem dJ0_coder_7d493_14 : decode cJ0_coder_7d493 14 = .ok (.ireturn, 1) := by decide +kernel
theorem dJ0_isLatin1_aae02_0 : decode cJ0_isLatin1_aae02 0 = .ok (.getstatic 38, 3) := by decide +kernel
theorem dJ0_isLatin1_aae02_3 : decode cJ0_isLatin1_aae02 3 = .ok (.ifCond .eq 14, 3) := by decide +kernel
theorem dJ0_isLatin1_aae02_6 : decode cJ0_isLatin1_aae02 6 = .ok (.aload_n 0, 1) := by decide +kernel
theorem dJ0_isLatin1_aae02_7 : decode cJ0_isLatin1_aae02 7 = .ok (.getfield 15, 3) := by decide +kernel
theorem dJ0_isLatin1_aae02_10 : decode cJ0_isLatin1_aae02 10 = .ok (.ifCond .ne 7, 3) := by decide +kernel
theorem dJ0_isLatin1_aae02_13 : decode cJ0_isLatin1_aae02 13 = .ok (.iconst 1, 1) := by decide +kernel
theorem dJ0_isLatin1_aae02_14 : decode cJ0_isLatin1_aae02 14 = .ok (.goto 4, 3) := by decide +kernel
theorem dJ0_isLatin1_aae02_17 : decode cJ0_isLatin1_aae02 17 = .ok (.iconst 0, 1) := by decide +kernel
theorem dJ0_isLatin1_aae02_18 : decode cJ0_isLatin1_aae02 18 = .ok (.ireturn, 1) := by decide +kernel
theorem dJ0_checkIndex_df160_0 : decode cJ0_checkIndex_df160 0 = .ok (.iload_n 0, 1) := by decide +kernel
theorem dJ0_checkIndex_df160_1 : decode cJ0_checkIndex_df160 1 = .ok (.iload_n 1, 1) := by decide +kernel
theorem dJ0_checkIndex_df160_2 : decode cJ0_checkIndex_df160 2 = .ok (.getstatic 1053, 3) := by decide +kernel
theorem dJ0_checkIndex_df160_5 : decode cJ0_checkIndex_df160 5 = .ok (.invokestatic 1059, 3) := by decide +kernel
theorem dJ0_checkIndex_df160_8 : decode cJ0_checkIndex_df160 8 = .ok (.pop, 1) := by decide +kernel
theorem dJ0_checkIndex_df160_9 : decode cJ0_checkIndex_df160 9 = .ok (.return_, 1) := by decide +kernel
theorem dJ1_charAt_3b067_0 : decode cJ1_charAt_3b067 0 = .ok (.iload_n 1, 1) := by decide +kernel
theorem dJ1_charAt_3b067_1 : decode cJ1_charAt_3b067 1 = .ok (.aload_n 0, 1) := by decide +kernel
theorem dJ1_charAt_3b067_2 : decode cJ1_charAt_3b067 2 = .ok (.arraylength, 1) := by decide +kernel
theorem dJ1_charAt_3b067_3 : decode cJ1_charAt_3b067 3 = .ok (.invokestatic 9, 3) := by decide +kernel
theorem dJ1_charAt_3b067_6 : decode cJ1_charAt_3b067 6 = .ok (.aload_n 0, 1) := by decide +kernel
theorem dJ1_charAt_3b067_7 : decode cJ1_charAt_3b067 7 = .ok (.iload_n 1, 1) := by decide +kernel
theorem dJ1_charAt_3b067_8 : decode cJ1_charAt_3b067 8 = .ok (.baload, 1) := by decide +kernel
theorem dJ1_charAt_3b067_9 : decode cJ1_charAt_3b067 9 = .ok (.sipush 255, 3) := by decide +kernel
theorem dJ1_charAt_3b067_12 : decode cJ1_charAt_3b067 12 = .ok (.iand, 1) := by decide +kernel
theorem dJ1_charAt_3b067_13 : decode cJ1_charAt_3b067 13 = .ok (.i2c, 1) := by decide +kernel
theorem dJ1_charAt_3b067_14 : decode cJ1_charAt_3b067 14 = .ok (.ireturn, 1) := by decide +kernel
theorem dJ2_getChar_3b067_0 : decode cJ2_getChar_3b067 0 = .ok (.getstatic 44, 3) := by decide +kernel
theorem dJ2_getChar_3b067_3 : decode cJ2_getChar_3b067 3 = .ok (.ifCond .ne 25, 3) := by decide +kernel
theorem dJ2_getChar_3b067_6 : decode cJ2_getChar_3b067 6 = .ok (.iload_n 1, 1) := by decide +kernel
theorem dJ2_getChar_3b067_7 : decode cJ2_getChar_3b067 7 = .ok (.ifCond .lt 11, 3) := by decide +kernel
theorem dJ2_getChar_3b067_10 : decode cJ2_getChar_3b067 10 = .ok (.iload_n 1, 1) := by decide +kernel
theorem dJ2_getChar_3b067_11 : decode cJ2_getChar_3b067 11 = .ok (.aload_n 0, 1) := by decide +kernel
theorem dJ2_getChar_3b067_12 : decode cJ2_getChar_3b067 12 = .ok (.invokestatic 48, 3) := by decide +kernel
theorem dJ2_getChar_3b067_15 : decode cJ2_getChar_3b067 15 = .ok (.if_icmp .lt 13, 3) := by decide +kernel
theorem dJ2_getChar_3b067_18 : decode cJ2_getChar_3b067 18 = .ok (.new 52, 3) := by decide +kernel
theorem dJ2_getChar_3b067_21 : decode cJ2_getChar_3b067 21 = .ok (.dup, 1) := by decide +kernel
theorem dJ2_getChar_3b067_22 : decode cJ2_getChar_3b067 22 = .ok (.ldc 54, 2) := by decide +kernel
theorem dJ2_getChar_3b067_24 : decode cJ2_getChar_3b067 24 = .ok (.invokespecial 56, 3) := by decide +kernel
theorem dJ2_getChar_3b067_27 : decode cJ2_getChar_3b067 27 = .ok (.athrow, 1) := by decide +kernel
theorem dJ2_getChar_3b067_28 : decode cJ2_getChar_3b067 28 = .ok (.iload_n 1, 1) := by decide +kernel
theorem dJ2_getChar_3b067_29 : decode cJ2_getChar_3b067 29 = .ok (.iconst 1, 1) := by decide +kernel
theorem dJ2_getChar_3b067_30 : decode cJ2_getChar_3b067 30 = .ok (.ishl, 1) := by decide +kernel
theorem dJ2_getChar_3b067_31 : decode cJ2_getChar_3b067 31 = .ok (.istore_n 1, 1) := by decide +kernel
theorem dJ2_getChar_3b067_32 : decode cJ2_getChar_3b067 32 = .ok (.aload_n 0, 1) := by decide +kernel
theorem dJ2_getChar_3b067_33 : decode cJ2_getChar_3b067 33 = .ok (.iload_n 1, 1) := by decide +kernel
theorem dJ2_getChar_3b067_34 : decode cJ2_getChar_3b067 34 = .ok (.iinc 1 1, 3) := by decide +kernel
theorem dJ2_getChar_3b067_37 : decode cJ2_getChar_3b067 37 = .ok (.baload, 1) := by decide +kernel
theorem dJ2_getChar_3b067_38 : decode cJ2_getChar_3b067 38 = .ok (.sipush 255, 3) := by decide +kernel
theorem dJ2_getChar_3b067_41 : decode cJ2_getChar_3b067 41 = .ok (.iand, 1) := by decide +kernel
theorem dJ2_getChar_3b067_42 : decode cJ2_getChar_3b067 42 = .ok (.getstatic 59, 3) := by decide +kernel
theorem dJ2_getChar_3b067_45 : decode cJ2_getChar_3b067 45 = .ok (.ishl, 1) := by decide +kernel
theorem dJ2_getChar_3b067_46 : decode cJ2_getChar_3b067 46 = .ok (.aload_n 0, 1) := by decide +kernel
theorem dJ2_getChar_3b067_47 : decode cJ2_getChar_3b067 47 = .ok (.iload_n 1, 1) := by decide +kernel
theorem dJ2_getChar_3b067_48 : decode cJ2_getChar_3b067 48 = .ok (.baload, 1) := by decide +kernel
theorem dJ2_getChar_3b067_49 : decode cJ2_getChar_3b067 49 = .ok (.sipush 255, 3) := by decide +kernel
theorem dJ2_getChar_3b067_52 : decode cJ2_getChar_3b067 52 = .ok (.iand, 1) := by decide +kernel
theorem dJ2_getChar_3b067_53 : decode cJ2_getChar_3b067 53 = .ok (.getstatic 63, 3) := by decide +kernel
theorem dJ2_getChar_3b067_56 : decode cJ2_getChar_3b067 56 = .ok (.ishl, 1) := by decide +kernel
theorem dJ2_getChar_3b067_57 : decode cJ2_getChar_3b067 57 = .ok (.ior, 1) := by decide +kernel
theorem dJ2_getChar_3b067_58 : decode cJ2_getChar_3b067 58 = .ok (.i2c, 1) := by decide +kernel
theorem dJ2_getChar_3b067_59 : decode cJ2_getChar_3b067 59 = .ok (.ireturn, 1) := by decide +kernel
theorem dJ2_length_9d52b_0 : decode cJ2_length_9d52b 0 = .ok (.aload_n 0, 1) := by decide +kernel
theorem dJ2_length_9d52b_1 : decode cJ2_length_9d52b 1 = .ok (.arraylength, 1) := by decide +kernel
theorem dJ2_length_9d52b_2 : decode cJ2_length_9d52b 2 = .ok (.iconst 1, 1) := by decide +kernel
theorem dJ2_length_9d52b_3 : decode cJ2_length_9d52b 3 = .ok (.ishr, 1) := by decide +kernel
theorem dJ2_length_9d52b_4 : decode cJ2_length_9d52b 4 = .ok (.ireturn, 1) := by decide +kernel
theorem dJ2_charAt_3b067_0 : decode cJ2_charAt_3b067 0 = .ok (.iload_n 1, 1) := by decide +kernel
theorem dJ2_charAt_3b067_1 : decode cJ2_charAt_3b067 1 = .ok (.aload_n 0, 1) := by decide +kernel
theorem dJ2_charAt_3b067_2 : decode cJ2_charAt_3b067 2 = .ok (.invokestatic 67, 3) := by decide +kernel
theorem dJ2_charAt_3b067_5 : decode cJ2_charAt_3b067 5 = .ok (.aload_n 0, 1) := by decide +kernel
theorem dJ2_charAt_3b067_6 : decode cJ2_charAt_3b067 6 = .ok (.iload_n 1, 1) := by decide +kernel
theorem dJ2_charAt_3b067_7 : decode cJ2_charAt_3b067 7 = .ok (.invokestatic 71, 3) := by decide +kernel
theorem dJ2_charAt_3b067_10 : decode cJ2_charAt_3b067 10 = .ok (.ireturn, 1) := by decide +kernel
theorem dJ2_checkIndex_2214a_0 : decode cJ2_checkIndex_2214a 0 = .ok (.iload_n 0, 1) := by decide +kernel
theorem dJ2_checkIndex_2214a_1 : decode cJ2_checkIndex_2214a 1 = .ok (.aload_n 1, 1) := by decide +kernel
theorem dJ2_checkIndex_2214a_2 : decode cJ2_checkIndex_2214a 2 = .ok (.invokestatic 48, 3) := by decide +kernel
theorem dJ2_checkIndex_2214a_5 : decode cJ2_checkIndex_2214a 5 = .ok (.invokestatic 414, 3) := by decide +kernel
theorem dJ2_checkIndex_2214a_8 : decode cJ2_checkIndex_2214a 8 = .ok (.return_, 1) := by decide +kernel
theorem dJ7_copyOf_59c91_0 : decode cJ7_copyOf_59c91 0 = .ok (.iload_n 1, 1) := by decide +kernel
theorem dJ7_copyOf_59c91_1 : decode cJ7_copyOf_59c91 1 = .ok (.aload_n 0, 1) := by decide +kernel
theorem dJ7_copyOf_59c91_2 : decode cJ7_copyOf_59c91 2 = .ok (.arraylength, 1) := by decide +kernel
theorem dJ7_copyOf_59c91_3 : decode cJ7_copyOf_59c91 3 = .ok (.if_icmp .ne 11, 3) := by decide +kernel
theorem dJ7_copyOf_59c91_6 : decode cJ7_copyOf_59c91 6 = .ok (.aload_n 0, 1) := by decide +kernel
theorem dJ7_copyOf_59c91_7 : decode cJ7_copyOf_59c91 7 = .ok (.invokevirtual 316, 3) := by decide +kernel
theorem dJ7_copyOf_59c91_10 : decode cJ7_copyOf_59c91 10 = .ok (.checkcast 317, 3) := by decide +kernel
theorem dJ7_copyOf_59c91_13 : decode cJ7_copyOf_59c91 13 = .ok (.areturn, 1) := by decide +kernel
theorem dJ7_copyOf_59c91_14 : decode cJ7_copyOf_59c91 14 = .ok (.iload_n 1, 1) := by decide +kernel
theorem dJ7_copyOf_59c91_15 : decode cJ7_copyOf_59c91 15 = .ok (.newarray .int, 2) := by decide +kernel
theorem dJ7_copyOf_59c91_17 : decode cJ7_copyOf_59c91 17 = .ok (.astore_n 2, 1) := by decide +kernel
theorem dJ7_copyOf_59c91_18 : decode cJ7_copyOf_59c91 18 = .ok (.aload_n 0, 1) := by decide +kernel
theorem dJ7_copyOf_59c91_19 : decode cJ7_copyOf_59c91 19 = .ok (.iconst 0, 1) := by decide +kernel
theorem dJ7_copyOf_59c91_20 : decode cJ7_copyOf_59c91 20 = .ok (.aload_n 2, 1) := by decide +kernel
theorem dJ7_copyOf_59c91_21 : decode cJ7_copyOf_59c91 21 = .ok (.iconst 0, 1) := by decide +kernel
theorem dJ7_copyOf_59c91_22 : decode cJ7_copyOf_59c91 22 = .ok (.aload_n 0, 1) := by decide +kernel
theorem dJ7_copyOf_59c91_23 : decode cJ7_copyOf_59c91 23 = .ok (.arraylength, 1) := by decide +kernel
theorem dJ7_copyOf_59c91_24 : decode cJ7_copyOf_59c91 24 = .ok (.iload_n 1, 1) := by decide +kernel
theorem dJ7_copyOf_59c91_25 : decode cJ7_copyOf_59c91 25 = .ok (.invokestatic 304, 3) := by decide +kernel
theorem dJ7_copyOf_59c91_28 : decode cJ7_copyOf_59c91 28 = .ok (.invokestatic 150, 3) := by decide +kernel
theorem dJ7_copyOf_59c91_31 : decode cJ7_copyOf_59c91 31 = .ok (.aload_n 2, 1) := by decide +kernel
theorem dJ7_copyOf_59c91_32 : decode cJ7_copyOf_59c91 32 = .ok (.areturn, 1) := by decide +kernel
theorem dJ3_checkIndex_8e157_0 : decode cJ3_checkIndex_8e157 0 = .ok (.iload_n 0, 1) := by decide +kernel
theorem dJ3_checkIndex_8e157_1 : decode cJ3_checkIndex_8e157 1 = .ok (.ifCond .lt 8, 3) := by decide +kernel
theorem dJ3_checkIndex_8e157_4 : decode cJ3_checkIndex_8e157 4 = .ok (.iload_n 0, 1) := by decide +kernel
theorem dJ3_checkIndex_8e157_5 : decode cJ3_checkIndex_8e157 5 = .ok (.iload_n 1, 1) := by decide +kernel
theorem dJ3_checkIndex_8e157_6 : decode cJ3_checkIndex_8e157 6 = .ok (.if_icmp .lt 10, 3) := by decide +kernel
theorem dJ3_checkIndex_8e157_9 : decode cJ3_checkIndex_8e157 9 = .ok (.aload_n 2, 1) := by decide +kernel
theorem dJ3_checkIndex_8e157_10 : decode cJ3_checkIndex_8e157 10 = .ok (.iload_n 0, 1) := by decide +kernel
theorem dJ3_checkIndex_8e157_11 : decode cJ3_checkIndex_8e157 11 = .ok (.iload_n 1, 1) := by decide +kernel
theorem dJ3_checkIndex_8e157_12 : decode cJ3_checkIndex_8e157 12 = .ok (.invokestatic 95, 3) := by decide +kernel
theorem dJ3_checkIndex_8e157_15 : decode cJ3_checkIndex_8e157 15 = .ok (.athrow, 1) := by decide +kernel
theorem dJ3_checkIndex_8e157_16 : decode cJ3_checkIndex_8e157 16 = .ok (.iload_n 0, 1) := by decide +kernel
theorem dJ3_checkIndex_8e157_17 : decode cJ3_checkIndex_8e157 17 = .ok (.ireturn, 1) := by decide +kernel
theorem dL_load_0 : decode cL_load 0 = .ok (.aload_n 2, 1) := by decide +kernel
theorem dL_load_1 : decode cL_load 1 = .ok (.iconst 0, 1) := by decide +kernel
theorem dL_load_2 : decode cL_load 2 = .ok (.aload_n 0, 1) := by decide +kernel
theorem dL_load_3 : decode cL_load 3 = .ok (.iload_n 1, 1) := by decide +kernel
theorem dL_load_4 : decode cL_load 4 = .ok (.invokevirtual 7, 3) := by decide +kernel
theorem dL_load_7 : decode cL_load 7 = .ok (.i2l, 1) := by decide +kernel
theorem dL_load_8 : decode cL_load 8 = .ok (.lastore, 1) := by decide +kernel
theorem dL_load_9 : decode cL_load 9 = .ok (.goto 6, 3) := by decide +kernel
theorem dL_load_12 : decode cL_load 12 = .ok (.astore_n 3, 1) := by decide +kernel
theorem dL_load_13 : decode cL_load 13 = .ok (.iconst 1, 1) := by decide +kernel
theorem dL_load_14 : decode cL_load 14 = .ok (.ireturn, 1) := by decide +kernel
theorem dL_load_15 : decode cL_load 15 = .ok (.iconst 0, 1) := by decide +kernel
theorem dL_load_16 : decode cL_load 16 = .ok (.ireturn, 1) := by decide +kernel
theorem dL_count_0 : decode cL_count 0 = .ok (.aload_n 2, 1) := by decide +kernel
theorem dL_count_1 : decode cL_count 1 = .ok (.iconst 0, 1) := by decide +kernel
theorem dL_count_2 : decode cL_count 2 = .ok (.aload_n 0, 1) := by decide +kernel
theorem dL_count_3 : decode cL_count 3 = .ok (.iload_n 1, 1) := by decide +kernel
theorem dL_count_4 : decode cL_count 4 = .ok (.invokevirtual 15, 3) := by decide +kernel
theorem dL_count_7 : decode cL_count 7 = .ok (.i2l, 1) := by decide +kernel
theorem dL_count_8 : decode cL_count 8 = .ok (.lastore, 1) := by decide +kernel
theorem dL_count_9 : decode cL_count 9 = .ok (.goto 6, 3) := by decide +kernel
theorem dL_count_12 : decode cL_count 12 = .ok (.astore_n 3, 1) := by decide +kernel
theorem dL_count_13 : decode cL_count 13 = .ok (.iconst 1, 1) := by decide +kernel
theorem dL_count_14 : decode cL_count 14 = .ok (.ireturn, 1) := by decide +kernel
theorem dL_count_15 : decode cL_count 15 = .ok (.iconst 0, 1) := by decide +kernel
theorem dL_count_16 : decode cL_count 16 = .ok (.ireturn, 1) := by decide +kernel
theorem dL_party_0 : decode cL_party 0 = .ok (.aload_n 3, 1) := by decide +kernel
theorem dL_party_1 : decode cL_party 1 = .ok (.iconst 0, 1) := by decide +kernel
theorem dL_party_2 : decode cL_party 2 = .ok (.aload_n 0, 1) := by decide +kernel
theorem dL_party_3 : decode cL_party 3 = .ok (.iload_n 1, 1) := by decide +kernel
theorem dL_party_4 : decode cL_party 4 = .ok (.iload_n 2, 1) := by decide +kernel
theorem dL_party_5 : decode cL_party 5 = .ok (.invokevirtual 18, 3) := by decide +kernel
theorem dL_party_8 : decode cL_party 8 = .ok (.i2l, 1) := by decide +kernel
theorem dL_party_9 : decode cL_party 9 = .ok (.lastore, 1) := by decide +kernel
theorem dL_party_10 : decode cL_party 10 = .ok (.goto 11, 3) := by decide +kernel
theorem dL_party_13 : decode cL_party 13 = .ok (.astore 4, 2) := by decide +kernel
theorem dL_party_15 : decode cL_party 15 = .ok (.iconst 1, 1) := by decide +kernel
theorem dL_party_16 : decode cL_party 16 = .ok (.ireturn, 1) := by decide +kernel
theorem dL_party_17 : decode cL_party 17 = .ok (.astore 4, 2) := by decide +kernel
theorem dL_party_19 : decode cL_party 19 = .ok (.iconst 2, 1) := by decide +kernel
theorem dL_party_20 : decode cL_party 20 = .ok (.ireturn, 1) := by decide +kernel
theorem dL_party_21 : decode cL_party 21 = .ok (.iconst 0, 1) := by decide +kernel
theorem dL_party_22 : decode cL_party 22 = .ok (.ireturn, 1) := by decide +kernel
theorem dL_call_0 : decode cL_call 0 = .ok (.aload_n 3, 1) := by decide +kernel
theorem dL_call_1 : decode cL_call 1 = .ok (.iconst 0, 1) := by decide +kernel
theorem dL_call_2 : decode cL_call 2 = .ok (.aload_n 0, 1) := by decide +kernel
theorem dL_call_3 : decode cL_call 3 = .ok (.iload_n 1, 1) := by decide +kernel
theorem dL_call_4 : decode cL_call 4 = .ok (.iload_n 2, 1) := by decide +kernel
theorem dL_call_5 : decode cL_call 5 = .ok (.invokevirtual 24, 3) := by decide +kernel
theorem dL_call_8 : decode cL_call 8 = .ok (.i2l, 1) := by decide +kernel
theorem dL_call_9 : decode cL_call 9 = .ok (.lastore, 1) := by decide +kernel
theorem dL_call_10 : decode cL_call 10 = .ok (.goto 11, 3) := by decide +kernel
theorem dL_call_13 : decode cL_call 13 = .ok (.astore 4, 2) := by decide +kernel
theorem dL_call_15 : decode cL_call 15 = .ok (.iconst 1, 1) := by decide +kernel
theorem dL_call_16 : decode cL_call 16 = .ok (.ireturn, 1) := by decide +kernel
theorem dL_call_17 : decode cL_call 17 = .ok (.astore 4, 2) := by decide +kernel
theorem dL_call_19 : decode cL_call 19 = .ok (.iconst 2, 1) := by decide +kernel
theorem dL_call_20 : decode cL_call 20 = .ok (.ireturn, 1) := by decide +kernel
theorem dL_call_21 : decode cL_call 21 = .ok (.iconst 0, 1) := by decide +kernel
theorem dL_call_22 : decode cL_call 22 = .ok (.ireturn, 1) := by decide +kernel
theorem dL_leg_0 : decode cL_leg 0 = .ok (.aload_n 3, 1) := by decide +kernel
theorem dL_leg_1 : decode cL_leg 1 = .ok (.iconst 0, 1) := by decide +kernel
theorem dL_leg_2 : decode cL_leg 2 = .ok (.aload_n 0, 1) := by decide +kernel
theorem dL_leg_3 : decode cL_leg 3 = .ok (.iload_n 1, 1) := by decide +kernel
theorem dL_leg_4 : decode cL_leg 4 = .ok (.iload_n 2, 1) := by decide +kernel
theorem dL_leg_5 : decode cL_leg 5 = .ok (.invokevirtual 27, 3) := by decide +kernel
theorem dL_leg_8 : decode cL_leg 8 = .ok (.i2l, 1) := by decide +kernel
theorem dL_leg_9 : decode cL_leg 9 = .ok (.lastore, 1) := by decide +kernel
theorem dL_leg_10 : decode cL_leg 10 = .ok (.goto 11, 3) := by decide +kernel
theorem dL_leg_13 : decode cL_leg 13 = .ok (.astore 4, 2) := by decide +kernel
theorem dL_leg_15 : decode cL_leg 15 = .ok (.iconst 1, 1) := by decide +kernel
theorem dL_leg_16 : decode cL_leg 16 = .ok (.ireturn, 1) := by decide +kernel
theorem dL_leg_17 : decode cL_leg 17 = .ok (.astore 4, 2) := by decide +kernel
theorem dL_leg_19 : decode cL_leg 19 = .ok (.iconst 2, 1) := by decide +kernel
theorem dL_leg_20 : decode cL_leg 20 = .ok (.ireturn, 1) := by decide +kernel
theorem dL_leg_21 : decode cL_leg 21 = .ok (.iconst 0, 1) := by decide +kernel
theorem dL_leg_22 : decode cL_leg 22 = .ok (.ireturn, 1) := by decide +kernel
theorem dL_pending_0 : decode cL_pending 0 = .ok (.aload_n 3, 1) := by decide +kernel
theorem dL_pending_1 : decode cL_pending 1 = .ok (.iconst 0, 1) := by decide +kernel
theorem dL_pending_2 : decode cL_pending 2 = .ok (.aload_n 0, 1) := by decide +kernel
theorem dL_pending_3 : decode cL_pending 3 = .ok (.iload_n 1, 1) := by decide +kernel
theorem dL_pending_4 : decode cL_pending 4 = .ok (.iload_n 2, 1) := by decide +kernel
theorem dL_pending_5 : decode cL_pending 5 = .ok (.invokevirtual 30, 3) := by decide +kernel
theorem dL_pending_8 : decode cL_pending 8 = .ok (.i2l, 1) := by decide +kernel
theorem dL_pending_9 : decode cL_pending 9 = .ok (.lastore, 1) := by decide +kernel
theorem dL_pending_10 : decode cL_pending 10 = .ok (.goto 15, 3) := by decide +kernel
theorem dL_pending_13 : decode cL_pending 13 = .ok (.astore 4, 2) := by decide +kernel
theorem dL_pending_15 : decode cL_pending 15 = .ok (.iconst 1, 1) := by decide +kernel
theorem dL_pending_16 : decode cL_pending 16 = .ok (.ireturn, 1) := by decide +kernel
theorem dL_pending_17 : decode cL_pending 17 = .ok (.astore 4, 2) := by decide +kernel
theorem dL_pending_19 : decode cL_pending 19 = .ok (.iconst 2, 1) := by decide +kernel
theorem dL_pending_20 : decode cL_pending 20 = .ok (.ireturn, 1) := by decide +kernel
theorem dL_pending_21 : decode cL_pending 21 = .ok (.astore 4, 2) := by decide +kernel
theorem dL_pending_23 : decode cL_pending 23 = .ok (.iconst 3, 1) := by decide +kernel
theorem dL_pending_24 : decode cL_pending 24 = .ok (.ireturn, 1) := by decide +kernel
theorem dL_pending_25 : decode cL_pending 25 = .ok (.iconst 0, 1) := by decide +kernel
theorem dL_pending_26 : decode cL_pending 26 = .ok (.ireturn, 1) := by decide +kernel
theorem dL_repetition_0 : decode cL_repetition 0 = .ok (.aload_n 3, 1) := by decide +kernel
theorem dL_repetition_1 : decode cL_repetition 1 = .ok (.iconst 0, 1) := by decide +kernel
theorem dL_repetition_2 : decode cL_repetition 2 = .ok (.aload_n 0, 1) := by decide +kernel
theorem dL_repetition_3 : decode cL_repetition 3 = .ok (.iload_n 1, 1) := by decide +kernel
theorem dL_repetition_4 : decode cL_repetition 4 = .ok (.iload_n 2, 1) := by decide +kernel
theorem dL_repetition_5 : decode cL_repetition 5 = .ok (.invokevirtual 35, 3) := by decide +kernel
theorem dL_repetition_8 : decode cL_repetition 8 = .ok (.i2l, 1) := by decide +kernel
theorem dL_repetition_9 : decode cL_repetition 9 = .ok (.lastore, 1) := by decide +kernel
theorem dL_repetition_10 : decode cL_repetition 10 = .ok (.goto 11, 3) := by decide +kernel
theorem dL_repetition_13 : decode cL_repetition 13 = .ok (.astore 4, 2) := by decide +kernel
theorem dL_repetition_15 : decode cL_repetition 15 = .ok (.iconst 1, 1) := by decide +kernel
theorem dL_repetition_16 : decode cL_repetition 16 = .ok (.ireturn, 1) := by decide +kernel
theorem dL_repetition_17 : decode cL_repetition 17 = .ok (.astore 4, 2) := by decide +kernel
theorem dL_repetition_19 : decode cL_repetition 19 = .ok (.iconst 2, 1) := by decide +kernel
theorem dL_repetition_20 : decode cL_repetition 20 = .ok (.ireturn, 1) := by decide +kernel
theorem dL_repetition_21 : decode cL_repetition 21 = .ok (.iconst 0, 1) := by decide +kernel
theorem dL_repetition_22 : decode cL_repetition 22 = .ok (.ireturn, 1) := by decide +kernel
theorem dL_total_0 : decode cL_total 0 = .ok (.aload_n 2, 1) := by decide +kernel
theorem dL_total_1 : decode cL_total 1 = .ok (.iconst 0, 1) := by decide +kernel
theorem dL_total_2 : decode cL_total 2 = .ok (.aload_n 0, 1) := by decide +kernel
theorem dL_total_3 : decode cL_total 3 = .ok (.iload_n 1, 1) := by decide +kernel
theorem dL_total_4 : decode cL_total 4 = .ok (.invokevirtual 38, 3) := by decide +kernel
theorem dL_total_7 : decode cL_total 7 = .ok (.i2l, 1) := by decide +kernel
theorem dL_total_8 : decode cL_total 8 = .ok (.lastore, 1) := by decide +kernel
theorem dL_total_9 : decode cL_total 9 = .ok (.goto 6, 3) := by decide +kernel
theorem dL_total_12 : decode cL_total 12 = .ok (.astore_n 3, 1) := by decide +kernel
theorem dL_total_13 : decode cL_total 13 = .ok (.iconst 1, 1) := by decide +kernel
theorem dL_total_14 : decode cL_total 14 = .ok (.ireturn, 1) := by decide +kernel
theorem dL_total_15 : decode cL_total 15 = .ok (.iconst 0, 1) := by decide +kernel
theorem dL_total_16 : decode cL_total 16 = .ok (.ireturn, 1) := by decide +kernel
theorem dL_settlesIn_0 : decode cL_settlesIn 0 = .ok (.aload_n 2, 1) := by decide +kernel
theorem dL_settlesIn_1 : decode cL_settlesIn 1 = .ok (.iconst 0, 1) := by decide +kernel
theorem dL_settlesIn_2 : decode cL_settlesIn 2 = .ok (.aload_n 0, 1) := by decide +kernel
theorem dL_settlesIn_3 : decode cL_settlesIn 3 = .ok (.iload_n 1, 1) := by decide +kernel
theorem dL_settlesIn_4 : decode cL_settlesIn 4 = .ok (.invokevirtual 41, 3) := by decide +kernel
theorem dL_settlesIn_7 : decode cL_settlesIn 7 = .ok (.i2l, 1) := by decide +kernel
theorem dL_settlesIn_8 : decode cL_settlesIn 8 = .ok (.lastore, 1) := by decide +kernel
theorem dL_settlesIn_9 : decode cL_settlesIn 9 = .ok (.goto 6, 3) := by decide +kernel
theorem dL_settlesIn_12 : decode cL_settlesIn 12 = .ok (.astore_n 3, 1) := by decide +kernel
theorem dL_settlesIn_13 : decode cL_settlesIn 13 = .ok (.iconst 1, 1) := by decide +kernel
theorem dL_settlesIn_14 : decode cL_settlesIn 14 = .ok (.ireturn, 1) := by decide +kernel
theorem dL_settlesIn_15 : decode cL_settlesIn 15 = .ok (.iconst 0, 1) := by decide +kernel
theorem dL_settlesIn_16 : decode cL_settlesIn 16 = .ok (.ireturn, 1) := by decide +kernel
theorem dL_answeredBy_0 : decode cL_answeredBy 0 = .ok (.aload_n 2, 1) := by decide +kernel
theorem dL_answeredBy_1 : decode cL_answeredBy 1 = .ok (.iconst 0, 1) := by decide +kernel
theorem dL_answeredBy_2 : decode cL_answeredBy 2 = .ok (.aload_n 0, 1) := by decide +kernel
theorem dL_answeredBy_3 : decode cL_answeredBy 3 = .ok (.iload_n 1, 1) := by decide +kernel
theorem dL_answeredBy_4 : decode cL_answeredBy 4 = .ok (.invokevirtual 44, 3) := by decide +kernel
theorem dL_answeredBy_7 : decode cL_answeredBy 7 = .ok (.i2l, 1) := by decide +kernel
theorem dL_answeredBy_8 : decode cL_answeredBy 8 = .ok (.lastore, 1) := by decide +kernel
theorem dL_answeredBy_9 : decode cL_answeredBy 9 = .ok (.goto 6, 3) := by decide +kernel
theorem dL_answeredBy_12 : decode cL_answeredBy 12 = .ok (.astore_n 3, 1) := by decide +kernel
theorem dL_answeredBy_13 : decode cL_answeredBy 13 = .ok (.iconst 1, 1) := by decide +kernel
theorem dL_answeredBy_14 : decode cL_answeredBy 14 = .ok (.ireturn, 1) := by decide +kernel
theorem dL_answeredBy_15 : decode cL_answeredBy 15 = .ok (.iconst 0, 1) := by decide +kernel
theorem dL_answeredBy_16 : decode cL_answeredBy 16 = .ok (.ireturn, 1) := by decide +kernel
theorem dL_pass_0 : decode cL_pass 0 = .ok (.aload_n 2, 1) := by decide +kernel
theorem dL_pass_1 : decode cL_pass 1 = .ok (.iconst 0, 1) := by decide +kernel
theorem dL_pass_2 : decode cL_pass 2 = .ok (.aload_n 0, 1) := by decide +kernel
theorem dL_pass_3 : decode cL_pass 3 = .ok (.iload_n 1, 1) := by decide +kernel
theorem dL_pass_4 : decode cL_pass 4 = .ok (.invokevirtual 47, 3) := by decide +kernel
theorem dL_pass_7 : decode cL_pass 7 = .ok (.i2l, 1) := by decide +kernel
theorem dL_pass_8 : decode cL_pass 8 = .ok (.lastore, 1) := by decide +kernel
theorem dL_pass_9 : decode cL_pass 9 = .ok (.goto 6, 3) := by decide +kernel
theorem dL_pass_12 : decode cL_pass 12 = .ok (.astore_n 3, 1) := by decide +kernel
theorem dL_pass_13 : decode cL_pass 13 = .ok (.iconst 1, 1) := by decide +kernel
theorem dL_pass_14 : decode cL_pass 14 = .ok (.ireturn, 1) := by decide +kernel
theorem dL_pass_15 : decode cL_pass 15 = .ok (.iconst 0, 1) := by decide +kernel
theorem dL_pass_16 : decode cL_pass 16 = .ok (.ireturn, 1) := by decide +kernel
theorem dL_dial_0 : decode cL_dial 0 = .ok (.aload_n 3, 1) := by decide +kernel
theorem dL_dial_1 : decode cL_dial 1 = .ok (.iconst 0, 1) := by decide +kernel
theorem dL_dial_2 : decode cL_dial 2 = .ok (.aload_n 0, 1) := by decide +kernel
theorem dL_dial_3 : decode cL_dial 3 = .ok (.iload_n 1, 1) := by decide +kernel
theorem dL_dial_4 : decode cL_dial 4 = .ok (.iload_n 2, 1) := by decide +kernel
theorem dL_dial_5 : decode cL_dial 5 = .ok (.invokevirtual 50, 3) := by decide +kernel
theorem dL_dial_8 : decode cL_dial 8 = .ok (.i2l, 1) := by decide +kernel
theorem dL_dial_9 : decode cL_dial 9 = .ok (.lastore, 1) := by decide +kernel
theorem dL_dial_10 : decode cL_dial 10 = .ok (.goto 15, 3) := by decide +kernel
theorem dL_dial_13 : decode cL_dial 13 = .ok (.astore 4, 2) := by decide +kernel
theorem dL_dial_15 : decode cL_dial 15 = .ok (.iconst 1, 1) := by decide +kernel
theorem dL_dial_16 : decode cL_dial 16 = .ok (.ireturn, 1) := by decide +kernel
theorem dL_dial_17 : decode cL_dial 17 = .ok (.astore 4, 2) := by decide +kernel
theorem dL_dial_19 : decode cL_dial 19 = .ok (.iconst 2, 1) := by decide +kernel
theorem dL_dial_20 : decode cL_dial 20 = .ok (.ireturn, 1) := by decide +kernel
theorem dL_dial_21 : decode cL_dial 21 = .ok (.astore 4, 2) := by decide +kernel
theorem dL_dial_23 : decode cL_dial 23 = .ok (.iconst 3, 1) := by decide +kernel
theorem dL_dial_24 : decode cL_dial 24 = .ok (.ireturn, 1) := by decide +kernel
theorem dL_dial_25 : decode cL_dial 25 = .ok (.iconst 0, 1) := by decide +kernel
theorem dL_dial_26 : decode cL_dial 26 = .ok (.ireturn, 1) := by decide +kernel
theorem dL_transfer_0 : decode cL_transfer 0 = .ok (.aload_n 3, 1) := by decide +kernel
theorem dL_transfer_1 : decode cL_transfer 1 = .ok (.iconst 0, 1) := by decide +kernel
theorem dL_transfer_2 : decode cL_transfer 2 = .ok (.aload_n 0, 1) := by decide +kernel
theorem dL_transfer_3 : decode cL_transfer 3 = .ok (.iload_n 1, 1) := by decide +kernel
theorem dL_transfer_4 : decode cL_transfer 4 = .ok (.iload_n 2, 1) := by decide +kernel
theorem dL_transfer_5 : decode cL_transfer 5 = .ok (.invokevirtual 55, 3) := by decide +kernel
theorem dL_transfer_8 : decode cL_transfer 8 = .ok (.i2l, 1) := by decide +kernel
theorem dL_transfer_9 : decode cL_transfer 9 = .ok (.lastore, 1) := by decide +kernel
theorem dL_transfer_10 : decode cL_transfer 10 = .ok (.goto 15, 3) := by decide +kernel
theorem dL_transfer_13 : decode cL_transfer 13 = .ok (.astore 4, 2) := by decide +kernel
theorem dL_transfer_15 : decode cL_transfer 15 = .ok (.iconst 1, 1) := by decide +kernel
theorem dL_transfer_16 : decode cL_transfer 16 = .ok (.ireturn, 1) := by decide +kernel
theorem dL_transfer_17 : decode cL_transfer 17 = .ok (.astore 4, 2) := by decide +kernel
theorem dL_transfer_19 : decode cL_transfer 19 = .ok (.iconst 2, 1) := by decide +kernel
theorem dL_transfer_20 : decode cL_transfer 20 = .ok (.ireturn, 1) := by decide +kernel
theorem dL_transfer_21 : decode cL_transfer 21 = .ok (.astore 4, 2) := by decide +kernel
theorem dL_transfer_23 : decode cL_transfer 23 = .ok (.iconst 3, 1) := by decide +kernel
theorem dL_transfer_24 : decode cL_transfer 24 = .ok (.ireturn, 1) := by decide +kernel
theorem dL_transfer_25 : decode cL_transfer 25 = .ok (.iconst 0, 1) := by decide +kernel
theorem dL_transfer_26 : decode cL_transfer 26 = .ok (.ireturn, 1) := by decide +kernel
theorem dL_hangUp_0 : decode cL_hangUp 0 = .ok (.aload_n 2, 1) := by decide +kernel
theorem dL_hangUp_1 : decode cL_hangUp 1 = .ok (.iconst 0, 1) := by decide +kernel
theorem dL_hangUp_2 : decode cL_hangUp 2 = .ok (.aload_n 0, 1) := by decide +kernel
theorem dL_hangUp_3 : decode cL_hangUp 3 = .ok (.iload_n 1, 1) := by decide +kernel
theorem dL_hangUp_4 : decode cL_hangUp 4 = .ok (.invokevirtual 58, 3) := by decide +kernel
theorem dL_hangUp_7 : decode cL_hangUp 7 = .ok (.i2l, 1) := by decide +kernel
theorem dL_hangUp_8 : decode cL_hangUp 8 = .ok (.lastore, 1) := by decide +kernel
theorem dL_hangUp_9 : decode cL_hangUp 9 = .ok (.goto 6, 3) := by decide +kernel
theorem dL_hangUp_12 : decode cL_hangUp 12 = .ok (.astore_n 3, 1) := by decide +kernel
theorem dL_hangUp_13 : decode cL_hangUp 13 = .ok (.iconst 1, 1) := by decide +kernel
theorem dL_hangUp_14 : decode cL_hangUp 14 = .ok (.ireturn, 1) := by decide +kernel
theorem dL_hangUp_15 : decode cL_hangUp 15 = .ok (.iconst 0, 1) := by decide +kernel
theorem dL_hangUp_16 : decode cL_hangUp 16 = .ok (.ireturn, 1) := by decide +kernel
theorem dL_offer_0 : decode cL_offer 0 = .ok (.aload_n 3, 1) := by decide +kernel
theorem dL_offer_1 : decode cL_offer 1 = .ok (.iconst 0, 1) := by decide +kernel
theorem dL_offer_2 : decode cL_offer 2 = .ok (.aload_n 0, 1) := by decide +kernel
theorem dL_offer_3 : decode cL_offer 3 = .ok (.iload_n 1, 1) := by decide +kernel
theorem dL_offer_4 : decode cL_offer 4 = .ok (.iload_n 2, 1) := by decide +kernel
theorem dL_offer_5 : decode cL_offer 5 = .ok (.invokevirtual 61, 3) := by decide +kernel
theorem dL_offer_8 : decode cL_offer 8 = .ok (.i2l, 1) := by decide +kernel
theorem dL_offer_9 : decode cL_offer 9 = .ok (.lastore, 1) := by decide +kernel
theorem dL_offer_10 : decode cL_offer 10 = .ok (.goto 15, 3) := by decide +kernel
theorem dL_offer_13 : decode cL_offer 13 = .ok (.astore 4, 2) := by decide +kernel
theorem dL_offer_15 : decode cL_offer 15 = .ok (.iconst 1, 1) := by decide +kernel
theorem dL_offer_16 : decode cL_offer 16 = .ok (.ireturn, 1) := by decide +kernel
theorem dL_offer_17 : decode cL_offer 17 = .ok (.astore 4, 2) := by decide +kernel
theorem dL_offer_19 : decode cL_offer 19 = .ok (.iconst 2, 1) := by decide +kernel
theorem dL_offer_20 : decode cL_offer 20 = .ok (.ireturn, 1) := by decide +kernel
theorem dL_offer_21 : decode cL_offer 21 = .ok (.astore 4, 2) := by decide +kernel
theorem dL_offer_23 : decode cL_offer 23 = .ok (.iconst 3, 1) := by decide +kernel
theorem dL_offer_24 : decode cL_offer 24 = .ok (.ireturn, 1) := by decide +kernel
theorem dL_offer_25 : decode cL_offer 25 = .ok (.iconst 0, 1) := by decide +kernel
theorem dL_offer_26 : decode cL_offer 26 = .ok (.ireturn, 1) := by decide +kernel
theorem dL_setParty_0 : decode cL_setParty 0 = .ok (.aload 4, 2) := by decide +kernel
theorem dL_setParty_2 : decode cL_setParty 2 = .ok (.iconst 0, 1) := by decide +kernel
theorem dL_setParty_3 : decode cL_setParty 3 = .ok (.aload_n 0, 1) := by decide +kernel
theorem dL_setParty_4 : decode cL_setParty 4 = .ok (.iload_n 1, 1) := by decide +kernel
theorem dL_setParty_5 : decode cL_setParty 5 = .ok (.iload_n 2, 1) := by decide +kernel
theorem dL_setParty_6 : decode cL_setParty 6 = .ok (.iload_n 3, 1) := by decide +kernel
theorem dL_setParty_7 : decode cL_setParty 7 = .ok (.invokevirtual 64, 3) := by decide +kernel
theorem dL_setParty_10 : decode cL_setParty 10 = .ok (.i2l, 1) := by decide +kernel
theorem dL_setParty_11 : decode cL_setParty 11 = .ok (.lastore, 1) := by decide +kernel
theorem dL_setParty_12 : decode cL_setParty 12 = .ok (.goto 11, 3) := by decide +kernel
theorem dL_setParty_15 : decode cL_setParty 15 = .ok (.astore 5, 2) := by decide +kernel
theorem dL_setParty_17 : decode cL_setParty 17 = .ok (.iconst 1, 1) := by decide +kernel
theorem dL_setParty_18 : decode cL_setParty 18 = .ok (.ireturn, 1) := by decide +kernel
theorem dL_setParty_19 : decode cL_setParty 19 = .ok (.astore 5, 2) := by decide +kernel
theorem dL_setParty_21 : decode cL_setParty 21 = .ok (.iconst 2, 1) := by decide +kernel
theorem dL_setParty_22 : decode cL_setParty 22 = .ok (.ireturn, 1) := by decide +kernel
theorem dL_setParty_23 : decode cL_setParty 23 = .ok (.iconst 0, 1) := by decide +kernel
theorem dL_setParty_24 : decode cL_setParty 24 = .ok (.ireturn, 1) := by decide +kernel
theorem dL_law_0 : decode cL_law 0 = .ok (.new 8, 3) := by decide +kernel
theorem dL_law_3 : decode cL_law 3 = .ok (.dup, 1) := by decide +kernel
theorem dL_law_4 : decode cL_law 4 = .ok (.invokespecial 68, 3) := by decide +kernel
theorem dL_law_7 : decode cL_law 7 = .ok (.astore_n 1, 1) := by decide +kernel
theorem dL_law_8 : decode cL_law 8 = .ok (.new 69, 3) := by decide +kernel
theorem dL_law_11 : decode cL_law 11 = .ok (.dup, 1) := by decide +kernel
theorem dL_law_12 : decode cL_law 12 = .ok (.invokespecial 71, 3) := by decide +kernel
theorem dL_law_15 : decode cL_law 15 = .ok (.astore_n 2, 1) := by decide +kernel
theorem dL_law_16 : decode cL_law 16 = .ok (.iconst 1, 1) := by decide +kernel
theorem dL_law_17 : decode cL_law 17 = .ok (.newarray .long, 2) := by decide +kernel
theorem dL_law_19 : decode cL_law 19 = .ok (.astore_n 3, 1) := by decide +kernel
theorem dL_law_20 : decode cL_law 20 = .ok (.iconst 0, 1) := by decide +kernel
theorem dL_law_21 : decode cL_law 21 = .ok (.istore 4, 2) := by decide +kernel
theorem dL_law_23 : decode cL_law 23 = .ok (.iload 4, 2) := by decide +kernel
theorem dL_law_25 : decode cL_law 25 = .ok (.aload_n 0, 1) := by decide +kernel
theorem dL_law_26 : decode cL_law 26 = .ok (.arraylength, 1) := by decide +kernel
theorem dL_law_27 : decode cL_law 27 = .ok (.bipush 6, 2) := by decide +kernel
theorem dL_law_29 : decode cL_law 29 = .ok (.isub, 1) := by decide +kernel
theorem dL_law_30 : decode cL_law 30 = .ok (.if_icmp .gt 1258, 3) := by decide +kernel
theorem dL_law_33 : decode cL_law 33 = .ok (.aload_n 0, 1) := by decide +kernel
theorem dL_law_34 : decode cL_law 34 = .ok (.iload 4, 2) := by decide +kernel
theorem dL_law_36 : decode cL_law 36 = .ok (.iaload, 1) := by decide +kernel
theorem dL_law_37 : decode cL_law 37 = .ok (.bipush 31, 2) := by decide +kernel
theorem dL_law_39 : decode cL_law 39 = .ok (.iand, 1) := by decide +kernel
theorem dL_law_40 : decode cL_law 40 = .ok (.tableswitch 1242 0 20 #[100, 173, 229, 242, 255, 311, 379, 447, 515, 583, 651, 707, 763, 819, 875, 943, 1011, 1067, 1135, 1215, 1228], 100) := by decide +kernel
theorem dL_law_140 : decode cL_law 140 = .ok (.aload_n 1, 1) := by decide +kernel
theorem dL_law_141 : decode cL_law 141 = .ok (.aload_n 0, 1) := by decide +kernel
theorem dL_law_142 : decode cL_law 142 = .ok (.iload 4, 2) := by decide +kernel
theorem dL_law_144 : decode cL_law 144 = .ok (.iconst 1, 1) := by decide +kernel
theorem dL_law_145 : decode cL_law 145 = .ok (.iadd, 1) := by decide +kernel
theorem dL_law_146 : decode cL_law 146 = .ok (.iaload, 1) := by decide +kernel
theorem dL_law_147 : decode cL_law 147 = .ok (.aload_n 0, 1) := by decide +kernel
theorem dL_law_148 : decode cL_law 148 = .ok (.iload 4, 2) := by decide +kernel
theorem dL_law_150 : decode cL_law 150 = .ok (.iconst 2, 1) := by decide +kernel
theorem dL_law_151 : decode cL_law 151 = .ok (.iadd, 1) := by decide +kernel
theorem dL_law_152 : decode cL_law 152 = .ok (.iaload, 1) := by decide +kernel
theorem dL_law_153 : decode cL_law 153 = .ok (.aload_n 0, 1) := by decide +kernel
theorem dL_law_154 : decode cL_law 154 = .ok (.iload 4, 2) := by decide +kernel
theorem dL_law_156 : decode cL_law 156 = .ok (.iconst 3, 1) := by decide +kernel
theorem dL_law_157 : decode cL_law 157 = .ok (.iadd, 1) := by decide +kernel
theorem dL_law_158 : decode cL_law 158 = .ok (.iaload, 1) := by decide +kernel
theorem dL_law_159 : decode cL_law 159 = .ok (.aload_n 0, 1) := by decide +kernel
theorem dL_law_160 : decode cL_law 160 = .ok (.iload 4, 2) := by decide +kernel
theorem dL_law_162 : decode cL_law 162 = .ok (.iconst 4, 1) := by decide +kernel
theorem dL_law_163 : decode cL_law 163 = .ok (.iadd, 1) := by decide +kernel
theorem dL_law_164 : decode cL_law 164 = .ok (.iaload, 1) := by decide +kernel
theorem dL_law_165 : decode cL_law 165 = .ok (.aload_n 0, 1) := by decide +kernel
theorem dL_law_166 : decode cL_law 166 = .ok (.iload 4, 2) := by decide +kernel
theorem dL_law_168 : decode cL_law 168 = .ok (.iconst 5, 1) := by decide +kernel
theorem dL_law_169 : decode cL_law 169 = .ok (.iadd, 1) := by decide +kernel
theorem dL_law_170 : decode cL_law 170 = .ok (.iaload, 1) := by decide +kernel
theorem dL_law_171 : decode cL_law 171 = .ok (.invokevirtual 72, 3) := by decide +kernel
theorem dL_law_174 : decode cL_law 174 = .ok (.aload_n 2, 1) := by decide +kernel
theorem dL_law_175 : decode cL_law 175 = .ok (.aload_n 0, 1) := by decide +kernel
theorem dL_law_176 : decode cL_law 176 = .ok (.iload 4, 2) := by decide +kernel
theorem dL_law_178 : decode cL_law 178 = .ok (.iconst 1, 1) := by decide +kernel
theorem dL_law_179 : decode cL_law 179 = .ok (.iadd, 1) := by decide +kernel
theorem dL_law_180 : decode cL_law 180 = .ok (.iaload, 1) := by decide +kernel
theorem dL_law_181 : decode cL_law 181 = .ok (.aload_n 0, 1) := by decide +kernel
theorem dL_law_182 : decode cL_law 182 = .ok (.iload 4, 2) := by decide +kernel
theorem dL_law_184 : decode cL_law 184 = .ok (.iconst 2, 1) := by decide +kernel
theorem dL_law_185 : decode cL_law 185 = .ok (.iadd, 1) := by decide +kernel
theorem dL_law_186 : decode cL_law 186 = .ok (.iaload, 1) := by decide +kernel
theorem dL_law_187 : decode cL_law 187 = .ok (.aload_n 0, 1) := by decide +kernel
theorem dL_law_188 : decode cL_law 188 = .ok (.iload 4, 2) := by decide +kernel
theorem dL_law_190 : decode cL_law 190 = .ok (.iconst 3, 1) := by decide +kernel
theorem dL_law_191 : decode cL_law 191 = .ok (.iadd, 1) := by decide +kernel
theorem dL_law_192 : decode cL_law 192 = .ok (.iaload, 1) := by decide +kernel
theorem dL_law_193 : decode cL_law 193 = .ok (.aload_n 0, 1) := by decide +kernel
theorem dL_law_194 : decode cL_law 194 = .ok (.iload 4, 2) := by decide +kernel
theorem dL_law_196 : decode cL_law 196 = .ok (.iconst 4, 1) := by decide +kernel
theorem dL_law_197 : decode cL_law 197 = .ok (.iadd, 1) := by decide +kernel
theorem dL_law_198 : decode cL_law 198 = .ok (.iaload, 1) := by decide +kernel
theorem dL_law_199 : decode cL_law 199 = .ok (.aload_n 0, 1) := by decide +kernel
theorem dL_law_200 : decode cL_law 200 = .ok (.iload 4, 2) := by decide +kernel
theorem dL_law_202 : decode cL_law 202 = .ok (.iconst 5, 1) := by decide +kernel
theorem dL_law_203 : decode cL_law 203 = .ok (.iadd, 1) := by decide +kernel
theorem dL_law_204 : decode cL_law 204 = .ok (.iaload, 1) := by decide +kernel
theorem dL_law_205 : decode cL_law 205 = .ok (.invokevirtual 76, 3) := by decide +kernel
theorem dL_law_208 : decode cL_law 208 = .ok (.if_icmp .eq 1074, 3) := by decide +kernel
theorem dL_law_211 : decode cL_law 211 = .ok (.iconst 0, 1) := by decide +kernel
theorem dL_law_212 : decode cL_law 212 = .ok (.ireturn, 1) := by decide +kernel
theorem dL_law_213 : decode cL_law 213 = .ok (.aload_n 1, 1) := by decide +kernel
theorem dL_law_214 : decode cL_law 214 = .ok (.aload_n 0, 1) := by decide +kernel
theorem dL_law_215 : decode cL_law 215 = .ok (.iload 4, 2) := by decide +kernel
theorem dL_law_217 : decode cL_law 217 = .ok (.iconst 1, 1) := by decide +kernel
theorem dL_law_218 : decode cL_law 218 = .ok (.iadd, 1) := by decide +kernel
theorem dL_law_219 : decode cL_law 219 = .ok (.iaload, 1) := by decide +kernel
theorem dL_law_220 : decode cL_law 220 = .ok (.aload_n 3, 1) := by decide +kernel
theorem dL_law_221 : decode cL_law 221 = .ok (.invokestatic 77, 3) := by decide +kernel
theorem dL_law_224 : decode cL_law 224 = .ok (.istore 5, 2) := by decide +kernel
theorem dL_law_226 : decode cL_law 226 = .ok (.aload_n 2, 1) := by decide +kernel
theorem dL_law_227 : decode cL_law 227 = .ok (.aload_n 0, 1) := by decide +kernel
theorem dL_law_228 : decode cL_law 228 = .ok (.iload 4, 2) := by decide +kernel
theorem dL_law_230 : decode cL_law 230 = .ok (.iconst 1, 1) := by decide +kernel
theorem dL_law_231 : decode cL_law 231 = .ok (.iadd, 1) := by decide +kernel
theorem dL_law_232 : decode cL_law 232 = .ok (.iaload, 1) := by decide +kernel
theorem dL_law_233 : decode cL_law 233 = .ok (.invokevirtual 82, 3) := by decide +kernel
theorem dL_law_236 : decode cL_law 236 = .ok (.istore 6, 2) := by decide +kernel
theorem dL_law_238 : decode cL_law 238 = .ok (.aload_n 2, 1) := by decide +kernel
theorem dL_law_239 : decode cL_law 239 = .ok (.invokevirtual 83, 3) := by decide +kernel
theorem dL_law_242 : decode cL_law 242 = .ok (.iload 5, 2) := by decide +kernel
theorem dL_law_244 : decode cL_law 244 = .ok (.if_icmp .eq 5, 3) := by decide +kernel
theorem dL_law_247 : decode cL_law 247 = .ok (.iconst 0, 1) := by decide +kernel
theorem dL_law_248 : decode cL_law 248 = .ok (.ireturn, 1) := by decide +kernel
theorem dL_law_249 : decode cL_law 249 = .ok (.iload 5, 2) := by decide +kernel
theorem dL_law_251 : decode cL_law 251 = .ok (.ifCond .ne 15, 3) := by decide +kernel
theorem dL_law_254 : decode cL_law 254 = .ok (.aload_n 3, 1) := by decide +kernel
theorem dL_law_255 : decode cL_law 255 = .ok (.iconst 0, 1) := by decide +kernel
theorem dL_law_256 : decode cL_law 256 = .ok (.laload, 1) := by decide +kernel
theorem dL_law_257 : decode cL_law 257 = .ok (.iload 6, 2) := by decide +kernel
theorem dL_law_259 : decode cL_law 259 = .ok (.i2l, 1) := by decide +kernel
theorem dL_law_260 : decode cL_law 260 = .ok (.lcmp, 1) := by decide +kernel
theorem dL_law_261 : decode cL_law 261 = .ok (.ifCond .eq 5, 3) := by decide +kernel
theorem dL_law_264 : decode cL_law 264 = .ok (.iconst 0, 1) := by decide +kernel
theorem dL_law_265 : decode cL_law 265 = .ok (.ireturn, 1) := by decide +kernel
theorem dL_law_266 : decode cL_law 266 = .ok (.goto 1016, 3) := by decide +kernel
theorem dL_law_269 : decode cL_law 269 = .ok (.aload_n 1, 1) := by decide +kernel
theorem dL_law_270 : decode cL_law 270 = .ok (.invokevirtual 87, 3) := by decide +kernel
theorem dL_law_273 : decode cL_law 273 = .ok (.aload_n 2, 1) := by decide +kernel
theorem dL_law_274 : decode cL_law 274 = .ok (.invokevirtual 90, 3) := by decide +kernel
theorem dL_law_277 : decode cL_law 277 = .ok (.if_icmp .eq 1005, 3) := by decide +kernel
theorem dL_law_280 : decode cL_law 280 = .ok (.iconst 0, 1) := by decide +kernel
theorem dL_law_281 : decode cL_law 281 = .ok (.ireturn, 1) := by decide +kernel
theorem dL_law_282 : decode cL_law 282 = .ok (.aload_n 1, 1) := by decide +kernel
theorem dL_law_283 : decode cL_law 283 = .ok (.invokevirtual 91, 3) := by decide +kernel
theorem dL_law_286 : decode cL_law 286 = .ok (.aload_n 2, 1) := by decide +kernel
theorem dL_law_287 : decode cL_law 287 = .ok (.invokevirtual 94, 3) := by decide +kernel
theorem dL_law_290 : decode cL_law 290 = .ok (.if_icmp .eq 992, 3) := by decide +kernel
theorem dL_law_293 : decode cL_law 293 = .ok (.iconst 0, 1) := by decide +kernel
theorem dL_law_294 : decode cL_law 294 = .ok (.ireturn, 1) := by decide +kernel
theorem dL_law_295 : decode cL_law 295 = .ok (.aload_n 1, 1) := by decide +kernel
theorem dL_law_296 : decode cL_law 296 = .ok (.aload_n 0, 1) := by decide +kernel
theorem dL_law_297 : decode cL_law 297 = .ok (.iload 4, 2) := by decide +kernel
theorem dL_law_299 : decode cL_law 299 = .ok (.iconst 1, 1) := by decide +kernel
theorem dL_law_300 : decode cL_law 300 = .ok (.iadd, 1) := by decide +kernel
theorem dL_law_301 : decode cL_law 301 = .ok (.iaload, 1) := by decide +kernel
theorem dL_law_302 : decode cL_law 302 = .ok (.aload_n 3, 1) := by decide +kernel
theorem dL_law_303 : decode cL_law 303 = .ok (.invokestatic 95, 3) := by decide +kernel
theorem dL_law_306 : decode cL_law 306 = .ok (.istore 5, 2) := by decide +kernel
theorem dL_law_308 : decode cL_law 308 = .ok (.aload_n 2, 1) := by decide +kernel
theorem dL_law_309 : decode cL_law 309 = .ok (.aload_n 0, 1) := by decide +kernel
theorem dL_law_310 : decode cL_law 310 = .ok (.iload 4, 2) := by decide +kernel
theorem dL_law_312 : decode cL_law 312 = .ok (.iconst 1, 1) := by decide +kernel
theorem dL_law_313 : decode cL_law 313 = .ok (.iadd, 1) := by decide +kernel
theorem dL_law_314 : decode cL_law 314 = .ok (.iaload, 1) := by decide +kernel
theorem dL_law_315 : decode cL_law 315 = .ok (.invokevirtual 97, 3) := by decide +kernel
theorem dL_law_318 : decode cL_law 318 = .ok (.istore 6, 2) := by decide +kernel
theorem dL_law_320 : decode cL_law 320 = .ok (.aload_n 2, 1) := by decide +kernel
theorem dL_law_321 : decode cL_law 321 = .ok (.invokevirtual 83, 3) := by decide +kernel
theorem dL_law_324 : decode cL_law 324 = .ok (.iload 5, 2) := by decide +kernel
theorem dL_law_326 : decode cL_law 326 = .ok (.if_icmp .eq 5, 3) := by decide +kernel
theorem dL_law_329 : decode cL_law 329 = .ok (.iconst 0, 1) := by decide +kernel
theorem dL_law_330 : decode cL_law 330 = .ok (.ireturn, 1) := by decide +kernel
theorem dL_law_331 : decode cL_law 331 = .ok (.iload 5, 2) := by decide +kernel
theorem dL_law_333 : decode cL_law 333 = .ok (.ifCond .ne 15, 3) := by decide +kernel
theorem dL_law_336 : decode cL_law 336 = .ok (.aload_n 3, 1) := by decide +kernel
theorem dL_law_337 : decode cL_law 337 = .ok (.iconst 0, 1) := by decide +kernel
theorem dL_law_338 : decode cL_law 338 = .ok (.laload, 1) := by decide +kernel
theorem dL_law_339 : decode cL_law 339 = .ok (.iload 6, 2) := by decide +kernel
theorem dL_law_341 : decode cL_law 341 = .ok (.i2l, 1) := by decide +kernel
theorem dL_law_342 : decode cL_law 342 = .ok (.lcmp, 1) := by decide +kernel
theorem dL_law_343 : decode cL_law 343 = .ok (.ifCond .eq 5, 3) := by decide +kernel
theorem dL_law_346 : decode cL_law 346 = .ok (.iconst 0, 1) := by decide +kernel
theorem dL_law_347 : decode cL_law 347 = .ok (.ireturn, 1) := by decide +kernel
theorem dL_law_348 : decode cL_law 348 = .ok (.goto 934, 3) := by decide +kernel
theorem dL_law_351 : decode cL_law 351 = .ok (.aload_n 1, 1) := by decide +kernel
theorem dL_law_352 : decode cL_law 352 = .ok (.aload_n 0, 1) := by decide +kernel
theorem dL_law_353 : decode cL_law 353 = .ok (.iload 4, 2) := by decide +kernel
theorem dL_law_355 : decode cL_law 355 = .ok (.iconst 1, 1) := by decide +kernel
theorem dL_law_356 : decode cL_law 356 = .ok (.iadd, 1) := by decide +kernel
theorem dL_law_357 : decode cL_law 357 = .ok (.iaload, 1) := by decide +kernel
theorem dL_law_358 : decode cL_law 358 = .ok (.aload_n 0, 1) := by decide +kernel
theorem dL_law_359 : decode cL_law 359 = .ok (.iload 4, 2) := by decide +kernel
theorem dL_law_361 : decode cL_law 361 = .ok (.iconst 2, 1) := by decide +kernel
theorem dL_law_362 : decode cL_law 362 = .ok (.iadd, 1) := by decide +kernel
theorem dL_law_363 : decode cL_law 363 = .ok (.iaload, 1) := by decide +kernel
theorem dL_law_364 : decode cL_law 364 = .ok (.aload_n 3, 1) := by decide +kernel
theorem dL_law_365 : decode cL_law 365 = .ok (.invokestatic 98, 3) := by decide +kernel
theorem dL_law_368 : decode cL_law 368 = .ok (.istore 5, 2) := by decide +kernel
theorem dL_law_370 : decode cL_law 370 = .ok (.aload_n 2, 1) := by decide +kernel
theorem dL_law_371 : decode cL_law 371 = .ok (.aload_n 0, 1) := by decide +kernel
theorem dL_law_372 : decode cL_law 372 = .ok (.iload 4, 2) := by decide +kernel
theorem dL_law_374 : decode cL_law 374 = .ok (.iconst 1, 1) := by decide +kernel
theorem dL_law_375 : decode cL_law 375 = .ok (.iadd, 1) := by decide +kernel
theorem dL_law_376 : decode cL_law 376 = .ok (.iaload, 1) := by decide +kernel
theorem dL_law_377 : decode cL_law 377 = .ok (.aload_n 0, 1) := by decide +kernel
theorem dL_law_378 : decode cL_law 378 = .ok (.iload 4, 2) := by decide +kernel
theorem dL_law_380 : decode cL_law 380 = .ok (.iconst 2, 1) := by decide +kernel
theorem dL_law_381 : decode cL_law 381 = .ok (.iadd, 1) := by decide +kernel
theorem dL_law_382 : decode cL_law 382 = .ok (.iaload, 1) := by decide +kernel
theorem dL_law_383 : decode cL_law 383 = .ok (.invokevirtual 101, 3) := by decide +kernel
theorem dL_law_386 : decode cL_law 386 = .ok (.istore 6, 2) := by decide +kernel
theorem dL_law_388 : decode cL_law 388 = .ok (.aload_n 2, 1) := by decide +kernel
theorem dL_law_389 : decode cL_law 389 = .ok (.invokevirtual 83, 3) := by decide +kernel
theorem dL_law_392 : decode cL_law 392 = .ok (.iload 5, 2) := by decide +kernel
theorem dL_law_394 : decode cL_law 394 = .ok (.if_icmp .eq 5, 3) := by decide +kernel
theorem dL_law_397 : decode cL_law 397 = .ok (.iconst 0, 1) := by decide +kernel
theorem dL_law_398 : decode cL_law 398 = .ok (.ireturn, 1) := by decide +kernel
theorem dL_law_399 : decode cL_law 399 = .ok (.iload 5, 2) := by decide +kernel
theorem dL_law_401 : decode cL_law 401 = .ok (.ifCond .ne 15, 3) := by decide +kernel
theorem dL_law_404 : decode cL_law 404 = .ok (.aload_n 3, 1) := by decide +kernel
theorem dL_law_405 : decode cL_law 405 = .ok (.iconst 0, 1) := by decide +kernel
theorem dL_law_406 : decode cL_law 406 = .ok (.laload, 1) := by decide +kernel
theorem dL_law_407 : decode cL_law 407 = .ok (.iload 6, 2) := by decide +kernel
theorem dL_law_409 : decode cL_law 409 = .ok (.i2l, 1) := by decide +kernel
theorem dL_law_410 : decode cL_law 410 = .ok (.lcmp, 1) := by decide +kernel
theorem dL_law_411 : decode cL_law 411 = .ok (.ifCond .eq 5, 3) := by decide +kernel
theorem dL_law_414 : decode cL_law 414 = .ok (.iconst 0, 1) := by decide +kernel
theorem dL_law_415 : decode cL_law 415 = .ok (.ireturn, 1) := by decide +kernel
theorem dL_law_416 : decode cL_law 416 = .ok (.goto 866, 3) := by decide +kernel
theorem dL_law_419 : decode cL_law 419 = .ok (.aload_n 1, 1) := by decide +kernel
theorem dL_law_420 : decode cL_law 420 = .ok (.aload_n 0, 1) := by decide +kernel
theorem dL_law_421 : decode cL_law 421 = .ok (.iload 4, 2) := by decide +kernel
theorem dL_law_423 : decode cL_law 423 = .ok (.iconst 1, 1) := by decide +kernel
theorem dL_law_424 : decode cL_law 424 = .ok (.iadd, 1) := by decide +kernel
theorem dL_law_425 : decode cL_law 425 = .ok (.iaload, 1) := by decide +kernel
theorem dL_law_426 : decode cL_law 426 = .ok (.aload_n 0, 1) := by decide +kernel
theorem dL_law_427 : decode cL_law 427 = .ok (.iload 4, 2) := by decide +kernel
theorem dL_law_429 : decode cL_law 429 = .ok (.iconst 2, 1) := by decide +kernel
theorem dL_law_430 : decode cL_law 430 = .ok (.iadd, 1) := by decide +kernel
theorem dL_law_431 : decode cL_law 431 = .ok (.iaload, 1) := by decide +kernel
theorem dL_law_432 : decode cL_law 432 = .ok (.aload_n 3, 1) := by decide +kernel
theorem dL_law_433 : decode cL_law 433 = .ok (.invokestatic 102, 3) := by decide +kernel
theorem dL_law_436 : decode cL_law 436 = .ok (.istore 5, 2) := by decide +kernel
theorem dL_law_438 : decode cL_law 438 = .ok (.aload_n 2, 1) := by decide +kernel
theorem dL_law_439 : decode cL_law 439 = .ok (.aload_n 0, 1) := by decide +kernel
theorem dL_law_440 : decode cL_law 440 = .ok (.iload 4, 2) := by decide +kernel
theorem dL_law_442 : decode cL_law 442 = .ok (.iconst 1, 1) := by decide +kernel
theorem dL_law_443 : decode cL_law 443 = .ok (.iadd, 1) := by decide +kernel
theorem dL_law_444 : decode cL_law 444 = .ok (.iaload, 1) := by decide +kernel
theorem dL_law_445 : decode cL_law 445 = .ok (.aload_n 0, 1) := by decide +kernel
theorem dL_law_446 : decode cL_law 446 = .ok (.iload 4, 2) := by decide +kernel
theorem dL_law_448 : decode cL_law 448 = .ok (.iconst 2, 1) := by decide +kernel
theorem dL_law_449 : decode cL_law 449 = .ok (.iadd, 1) := by decide +kernel
theorem dL_law_450 : decode cL_law 450 = .ok (.iaload, 1) := by decide +kernel
theorem dL_law_451 : decode cL_law 451 = .ok (.invokevirtual 104, 3) := by decide +kernel
theorem dL_law_454 : decode cL_law 454 = .ok (.istore 6, 2) := by decide +kernel
theorem dL_law_456 : decode cL_law 456 = .ok (.aload_n 2, 1) := by decide +kernel
theorem dL_law_457 : decode cL_law 457 = .ok (.invokevirtual 83, 3) := by decide +kernel
theorem dL_law_460 : decode cL_law 460 = .ok (.iload 5, 2) := by decide +kernel
theorem dL_law_462 : decode cL_law 462 = .ok (.if_icmp .eq 5, 3) := by decide +kernel
theorem dL_law_465 : decode cL_law 465 = .ok (.iconst 0, 1) := by decide +kernel
theorem dL_law_466 : decode cL_law 466 = .ok (.ireturn, 1) := by decide +kernel
theorem dL_law_467 : decode cL_law 467 = .ok (.iload 5, 2) := by decide +kernel
theorem dL_law_469 : decode cL_law 469 = .ok (.ifCond .ne 15, 3) := by decide +kernel
theorem dL_law_472 : decode cL_law 472 = .ok (.aload_n 3, 1) := by decide +kernel
theorem dL_law_473 : decode cL_law 473 = .ok (.iconst 0, 1) := by decide +kernel
theorem dL_law_474 : decode cL_law 474 = .ok (.laload, 1) := by decide +kernel
theorem dL_law_475 : decode cL_law 475 = .ok (.iload 6, 2) := by decide +kernel
theorem dL_law_477 : decode cL_law 477 = .ok (.i2l, 1) := by decide +kernel
theorem dL_law_478 : decode cL_law 478 = .ok (.lcmp, 1) := by decide +kernel
theorem dL_law_479 : decode cL_law 479 = .ok (.ifCond .eq 5, 3) := by decide +kernel
theorem dL_law_482 : decode cL_law 482 = .ok (.iconst 0, 1) := by decide +kernel
theorem dL_law_483 : decode cL_law 483 = .ok (.ireturn, 1) := by decide +kernel
theorem dL_law_484 : decode cL_law 484 = .ok (.goto 798, 3) := by decide +kernel
theorem dL_law_487 : decode cL_law 487 = .ok (.aload_n 1, 1) := by decide +kernel
theorem dL_law_488 : decode cL_law 488 = .ok (.aload_n 0, 1) := by decide +kernel
theorem dL_law_489 : decode cL_law 489 = .ok (.iload 4, 2) := by decide +kernel
theorem dL_law_491 : decode cL_law 491 = .ok (.iconst 1, 1) := by decide +kernel
theorem dL_law_492 : decode cL_law 492 = .ok (.iadd, 1) := by decide +kernel
theorem dL_law_493 : decode cL_law 493 = .ok (.iaload, 1) := by decide +kernel
theorem dL_law_494 : decode cL_law 494 = .ok (.aload_n 0, 1) := by decide +kernel
theorem dL_law_495 : decode cL_law 495 = .ok (.iload 4, 2) := by decide +kernel
theorem dL_law_497 : decode cL_law 497 = .ok (.iconst 2, 1) := by decide +kernel
theorem dL_law_498 : decode cL_law 498 = .ok (.iadd, 1) := by decide +kernel
theorem dL_law_499 : decode cL_law 499 = .ok (.iaload, 1) := by decide +kernel
theorem dL_law_500 : decode cL_law 500 = .ok (.aload_n 3, 1) := by decide +kernel
theorem dL_law_501 : decode cL_law 501 = .ok (.invokestatic 105, 3) := by decide +kernel
theorem dL_law_504 : decode cL_law 504 = .ok (.istore 5, 2) := by decide +kernel
theorem dL_law_506 : decode cL_law 506 = .ok (.aload_n 2, 1) := by decide +kernel
theorem dL_law_507 : decode cL_law 507 = .ok (.aload_n 0, 1) := by decide +kernel
theorem dL_law_508 : decode cL_law 508 = .ok (.iload 4, 2) := by decide +kernel
theorem dL_law_510 : decode cL_law 510 = .ok (.iconst 1, 1) := by decide +kernel
theorem dL_law_511 : decode cL_law 511 = .ok (.iadd, 1) := by decide +kernel
theorem dL_law_512 : decode cL_law 512 = .ok (.iaload, 1) := by decide +kernel
theorem dL_law_513 : decode cL_law 513 = .ok (.aload_n 0, 1) := by decide +kernel
theorem dL_law_514 : decode cL_law 514 = .ok (.iload 4, 2) := by decide +kernel
theorem dL_law_516 : decode cL_law 516 = .ok (.iconst 2, 1) := by decide +kernel
theorem dL_law_517 : decode cL_law 517 = .ok (.iadd, 1) := by decide +kernel
theorem dL_law_518 : decode cL_law 518 = .ok (.iaload, 1) := by decide +kernel
theorem dL_law_519 : decode cL_law 519 = .ok (.invokevirtual 107, 3) := by decide +kernel
theorem dL_law_522 : decode cL_law 522 = .ok (.istore 6, 2) := by decide +kernel
theorem dL_law_524 : decode cL_law 524 = .ok (.aload_n 2, 1) := by decide +kernel
theorem dL_law_525 : decode cL_law 525 = .ok (.invokevirtual 83, 3) := by decide +kernel
theorem dL_law_528 : decode cL_law 528 = .ok (.iload 5, 2) := by decide +kernel
theorem dL_law_530 : decode cL_law 530 = .ok (.if_icmp .eq 5, 3) := by decide +kernel
theorem dL_law_533 : decode cL_law 533 = .ok (.iconst 0, 1) := by decide +kernel
theorem dL_law_534 : decode cL_law 534 = .ok (.ireturn, 1) := by decide +kernel
theorem dL_law_535 : decode cL_law 535 = .ok (.iload 5, 2) := by decide +kernel
theorem dL_law_537 : decode cL_law 537 = .ok (.ifCond .ne 15, 3) := by decide +kernel
theorem dL_law_540 : decode cL_law 540 = .ok (.aload_n 3, 1) := by decide +kernel
theorem dL_law_541 : decode cL_law 541 = .ok (.iconst 0, 1) := by decide +kernel
theorem dL_law_542 : decode cL_law 542 = .ok (.laload, 1) := by decide +kernel
theorem dL_law_543 : decode cL_law 543 = .ok (.iload 6, 2) := by decide +kernel
theorem dL_law_545 : decode cL_law 545 = .ok (.i2l, 1) := by decide +kernel
theorem dL_law_546 : decode cL_law 546 = .ok (.lcmp, 1) := by decide +kernel
theorem dL_law_547 : decode cL_law 547 = .ok (.ifCond .eq 5, 3) := by decide +kernel
theorem dL_law_550 : decode cL_law 550 = .ok (.iconst 0, 1) := by decide +kernel
theorem dL_law_551 : decode cL_law 551 = .ok (.ireturn, 1) := by decide +kernel
theorem dL_law_552 : decode cL_law 552 = .ok (.goto 730, 3) := by decide +kernel
theorem dL_law_555 : decode cL_law 555 = .ok (.aload_n 1, 1) := by decide +kernel
theorem dL_law_556 : decode cL_law 556 = .ok (.aload_n 0, 1) := by decide +kernel
theorem dL_law_557 : decode cL_law 557 = .ok (.iload 4, 2) := by decide +kernel
theorem dL_law_559 : decode cL_law 559 = .ok (.iconst 1, 1) := by decide +kernel
theorem dL_law_560 : decode cL_law 560 = .ok (.iadd, 1) := by decide +kernel
theorem dL_law_561 : decode cL_law 561 = .ok (.iaload, 1) := by decide +kernel
theorem dL_law_562 : decode cL_law 562 = .ok (.aload_n 0, 1) := by decide +kernel
theorem dL_law_563 : decode cL_law 563 = .ok (.iload 4, 2) := by decide +kernel
theorem dL_law_565 : decode cL_law 565 = .ok (.iconst 2, 1) := by decide +kernel
theorem dL_law_566 : decode cL_law 566 = .ok (.iadd, 1) := by decide +kernel
theorem dL_law_567 : decode cL_law 567 = .ok (.iaload, 1) := by decide +kernel
theorem dL_law_568 : decode cL_law 568 = .ok (.aload_n 3, 1) := by decide +kernel
theorem dL_law_569 : decode cL_law 569 = .ok (.invokestatic 108, 3) := by decide +kernel
theorem dL_law_572 : decode cL_law 572 = .ok (.istore 5, 2) := by decide +kernel
theorem dL_law_574 : decode cL_law 574 = .ok (.aload_n 2, 1) := by decide +kernel
theorem dL_law_575 : decode cL_law 575 = .ok (.aload_n 0, 1) := by decide +kernel
theorem dL_law_576 : decode cL_law 576 = .ok (.iload 4, 2) := by decide +kernel
theorem dL_law_578 : decode cL_law 578 = .ok (.iconst 1, 1) := by decide +kernel
theorem dL_law_579 : decode cL_law 579 = .ok (.iadd, 1) := by decide +kernel
theorem dL_law_580 : decode cL_law 580 = .ok (.iaload, 1) := by decide +kernel
theorem dL_law_581 : decode cL_law 581 = .ok (.aload_n 0, 1) := by decide +kernel
theorem dL_law_582 : decode cL_law 582 = .ok (.iload 4, 2) := by decide +kernel
theorem dL_law_584 : decode cL_law 584 = .ok (.iconst 2, 1) := by decide +kernel
theorem dL_law_585 : decode cL_law 585 = .ok (.iadd, 1) := by decide +kernel
theorem dL_law_586 : decode cL_law 586 = .ok (.iaload, 1) := by decide +kernel
theorem dL_law_587 : decode cL_law 587 = .ok (.invokevirtual 110, 3) := by decide +kernel
theorem dL_law_590 : decode cL_law 590 = .ok (.istore 6, 2) := by decide +kernel
theorem dL_law_592 : decode cL_law 592 = .ok (.aload_n 2, 1) := by decide +kernel
theorem dL_law_593 : decode cL_law 593 = .ok (.invokevirtual 83, 3) := by decide +kernel
theorem dL_law_596 : decode cL_law 596 = .ok (.iload 5, 2) := by decide +kernel
theorem dL_law_598 : decode cL_law 598 = .ok (.if_icmp .eq 5, 3) := by decide +kernel
theorem dL_law_601 : decode cL_law 601 = .ok (.iconst 0, 1) := by decide +kernel
theorem dL_law_602 : decode cL_law 602 = .ok (.ireturn, 1) := by decide +kernel
theorem dL_law_603 : decode cL_law 603 = .ok (.iload 5, 2) := by decide +kernel
theorem dL_law_605 : decode cL_law 605 = .ok (.ifCond .ne 15, 3) := by decide +kernel
theorem dL_law_608 : decode cL_law 608 = .ok (.aload_n 3, 1) := by decide +kernel
theorem dL_law_609 : decode cL_law 609 = .ok (.iconst 0, 1) := by decide +kernel
theorem dL_law_610 : decode cL_law 610 = .ok (.laload, 1) := by decide +kernel
theorem dL_law_611 : decode cL_law 611 = .ok (.iload 6, 2) := by decide +kernel
theorem dL_law_613 : decode cL_law 613 = .ok (.i2l, 1) := by decide +kernel
theorem dL_law_614 : decode cL_law 614 = .ok (.lcmp, 1) := by decide +kernel
theorem dL_law_615 : decode cL_law 615 = .ok (.ifCond .eq 5, 3) := by decide +kernel
theorem dL_law_618 : decode cL_law 618 = .ok (.iconst 0, 1) := by decide +kernel
theorem dL_law_619 : decode cL_law 619 = .ok (.ireturn, 1) := by decide +kernel
theorem dL_law_620 : decode cL_law 620 = .ok (.goto 662, 3) := by decide +kernel
theorem dL_law_623 : decode cL_law 623 = .ok (.aload_n 1, 1) := by decide +kernel
theorem dL_law_624 : decode cL_law 624 = .ok (.aload_n 0, 1) := by decide +kernel
theorem dL_law_625 : decode cL_law 625 = .ok (.iload 4, 2) := by decide +kernel
theorem dL_law_627 : decode cL_law 627 = .ok (.iconst 1, 1) := by decide +kernel
theorem dL_law_628 : decode cL_law 628 = .ok (.iadd, 1) := by decide +kernel
theorem dL_law_629 : decode cL_law 629 = .ok (.iaload, 1) := by decide +kernel
theorem dL_law_630 : decode cL_law 630 = .ok (.aload_n 0, 1) := by decide +kernel
theorem dL_law_631 : decode cL_law 631 = .ok (.iload 4, 2) := by decide +kernel
theorem dL_law_633 : decode cL_law 633 = .ok (.iconst 2, 1) := by decide +kernel
theorem dL_law_634 : decode cL_law 634 = .ok (.iadd, 1) := by decide +kernel
theorem dL_law_635 : decode cL_law 635 = .ok (.iaload, 1) := by decide +kernel
theorem dL_law_636 : decode cL_law 636 = .ok (.aload_n 3, 1) := by decide +kernel
theorem dL_law_637 : decode cL_law 637 = .ok (.invokestatic 111, 3) := by decide +kernel
theorem dL_law_640 : decode cL_law 640 = .ok (.istore 5, 2) := by decide +kernel
theorem dL_law_642 : decode cL_law 642 = .ok (.aload_n 2, 1) := by decide +kernel
theorem dL_law_643 : decode cL_law 643 = .ok (.aload_n 0, 1) := by decide +kernel
theorem dL_law_644 : decode cL_law 644 = .ok (.iload 4, 2) := by decide +kernel
theorem dL_law_646 : decode cL_law 646 = .ok (.iconst 1, 1) := by decide +kernel
theorem dL_law_647 : decode cL_law 647 = .ok (.iadd, 1) := by decide +kernel
theorem dL_law_648 : decode cL_law 648 = .ok (.iaload, 1) := by decide +kernel
theorem dL_law_649 : decode cL_law 649 = .ok (.aload_n 0, 1) := by decide +kernel
theorem dL_law_650 : decode cL_law 650 = .ok (.iload 4, 2) := by decide +kernel
theorem dL_law_652 : decode cL_law 652 = .ok (.iconst 2, 1) := by decide +kernel
theorem dL_law_653 : decode cL_law 653 = .ok (.iadd, 1) := by decide +kernel
theorem dL_law_654 : decode cL_law 654 = .ok (.iaload, 1) := by decide +kernel
theorem dL_law_655 : decode cL_law 655 = .ok (.invokevirtual 113, 3) := by decide +kernel
theorem dL_law_658 : decode cL_law 658 = .ok (.istore 6, 2) := by decide +kernel
theorem dL_law_660 : decode cL_law 660 = .ok (.aload_n 2, 1) := by decide +kernel
theorem dL_law_661 : decode cL_law 661 = .ok (.invokevirtual 83, 3) := by decide +kernel
theorem dL_law_664 : decode cL_law 664 = .ok (.iload 5, 2) := by decide +kernel
theorem dL_law_666 : decode cL_law 666 = .ok (.if_icmp .eq 5, 3) := by decide +kernel
theorem dL_law_669 : decode cL_law 669 = .ok (.iconst 0, 1) := by decide +kernel
theorem dL_law_670 : decode cL_law 670 = .ok (.ireturn, 1) := by decide +kernel
theorem dL_law_671 : decode cL_law 671 = .ok (.iload 5, 2) := by decide +kernel
theorem dL_law_673 : decode cL_law 673 = .ok (.ifCond .ne 15, 3) := by decide +kernel
theorem dL_law_676 : decode cL_law 676 = .ok (.aload_n 3, 1) := by decide +kernel
theorem dL_law_677 : decode cL_law 677 = .ok (.iconst 0, 1) := by decide +kernel
theorem dL_law_678 : decode cL_law 678 = .ok (.laload, 1) := by decide +kernel
theorem dL_law_679 : decode cL_law 679 = .ok (.iload 6, 2) := by decide +kernel
theorem dL_law_681 : decode cL_law 681 = .ok (.i2l, 1) := by decide +kernel
theorem dL_law_682 : decode cL_law 682 = .ok (.lcmp, 1) := by decide +kernel
theorem dL_law_683 : decode cL_law 683 = .ok (.ifCond .eq 5, 3) := by decide +kernel
theorem dL_law_686 : decode cL_law 686 = .ok (.iconst 0, 1) := by decide +kernel
theorem dL_law_687 : decode cL_law 687 = .ok (.ireturn, 1) := by decide +kernel
theorem dL_law_688 : decode cL_law 688 = .ok (.goto 594, 3) := by decide +kernel
theorem dL_law_691 : decode cL_law 691 = .ok (.aload_n 1, 1) := by decide +kernel
theorem dL_law_692 : decode cL_law 692 = .ok (.aload_n 0, 1) := by decide +kernel
theorem dL_law_693 : decode cL_law 693 = .ok (.iload 4, 2) := by decide +kernel
theorem dL_law_695 : decode cL_law 695 = .ok (.iconst 1, 1) := by decide +kernel
theorem dL_law_696 : decode cL_law 696 = .ok (.iadd, 1) := by decide +kernel
theorem dL_law_697 : decode cL_law 697 = .ok (.iaload, 1) := by decide +kernel
theorem dL_law_698 : decode cL_law 698 = .ok (.aload_n 3, 1) := by decide +kernel
theorem dL_law_699 : decode cL_law 699 = .ok (.invokestatic 114, 3) := by decide +kernel
theorem dL_law_702 : decode cL_law 702 = .ok (.istore 5, 2) := by decide +kernel
theorem dL_law_704 : decode cL_law 704 = .ok (.aload_n 2, 1) := by decide +kernel
theorem dL_law_705 : decode cL_law 705 = .ok (.aload_n 0, 1) := by decide +kernel
theorem dL_law_706 : decode cL_law 706 = .ok (.iload 4, 2) := by decide +kernel
theorem dL_law_708 : decode cL_law 708 = .ok (.iconst 1, 1) := by decide +kernel
theorem dL_law_709 : decode cL_law 709 = .ok (.iadd, 1) := by decide +kernel
theorem dL_law_710 : decode cL_law 710 = .ok (.iaload, 1) := by decide +kernel
theorem dL_law_711 : decode cL_law 711 = .ok (.invokevirtual 116, 3) := by decide +kernel
theorem dL_law_714 : decode cL_law 714 = .ok (.istore 6, 2) := by decide +kernel
theorem dL_law_716 : decode cL_law 716 = .ok (.aload_n 2, 1) := by decide +kernel
theorem dL_law_717 : decode cL_law 717 = .ok (.invokevirtual 83, 3) := by decide +kernel
theorem dL_law_720 : decode cL_law 720 = .ok (.iload 5, 2) := by decide +kernel
theorem dL_law_722 : decode cL_law 722 = .ok (.if_icmp .eq 5, 3) := by decide +kernel
theorem dL_law_725 : decode cL_law 725 = .ok (.iconst 0, 1) := by decide +kernel
theorem dL_law_726 : decode cL_law 726 = .ok (.ireturn, 1) := by decide +kernel
theorem dL_law_727 : decode cL_law 727 = .ok (.iload 5, 2) := by decide +kernel
theorem dL_law_729 : decode cL_law 729 = .ok (.ifCond .ne 15, 3) := by decide +kernel
theorem dL_law_732 : decode cL_law 732 = .ok (.aload_n 3, 1) := by decide +kernel
theorem dL_law_733 : decode cL_law 733 = .ok (.iconst 0, 1) := by decide +kernel
theorem dL_law_734 : decode cL_law 734 = .ok (.laload, 1) := by decide +kernel
theorem dL_law_735 : decode cL_law 735 = .ok (.iload 6, 2) := by decide +kernel
theorem dL_law_737 : decode cL_law 737 = .ok (.i2l, 1) := by decide +kernel
theorem dL_law_738 : decode cL_law 738 = .ok (.lcmp, 1) := by decide +kernel
theorem dL_law_739 : decode cL_law 739 = .ok (.ifCond .eq 5, 3) := by decide +kernel
theorem dL_law_742 : decode cL_law 742 = .ok (.iconst 0, 1) := by decide +kernel
theorem dL_law_743 : decode cL_law 743 = .ok (.ireturn, 1) := by decide +kernel
theorem dL_law_744 : decode cL_law 744 = .ok (.goto 538, 3) := by decide +kernel
theorem dL_law_747 : decode cL_law 747 = .ok (.aload_n 1, 1) := by decide +kernel
theorem dL_law_748 : decode cL_law 748 = .ok (.aload_n 0, 1) := by decide +kernel
theorem dL_law_749 : decode cL_law 749 = .ok (.iload 4, 2) := by decide +kernel
theorem dL_law_751 : decode cL_law 751 = .ok (.iconst 1, 1) := by decide +kernel
theorem dL_law_752 : decode cL_law 752 = .ok (.iadd, 1) := by decide +kernel
theorem dL_law_753 : decode cL_law 753 = .ok (.iaload, 1) := by decide +kernel
theorem dL_law_754 : decode cL_law 754 = .ok (.aload_n 3, 1) := by decide +kernel
theorem dL_law_755 : decode cL_law 755 = .ok (.invokestatic 117, 3) := by decide +kernel
theorem dL_law_758 : decode cL_law 758 = .ok (.istore 5, 2) := by decide +kernel
theorem dL_law_760 : decode cL_law 760 = .ok (.aload_n 2, 1) := by decide +kernel
theorem dL_law_761 : decode cL_law 761 = .ok (.aload_n 0, 1) := by decide +kernel
theorem dL_law_762 : decode cL_law 762 = .ok (.iload 4, 2) := by decide +kernel
theorem dL_law_764 : decode cL_law 764 = .ok (.iconst 1, 1) := by decide +kernel
theorem dL_law_765 : decode cL_law 765 = .ok (.iadd, 1) := by decide +kernel
theorem dL_law_766 : decode cL_law 766 = .ok (.iaload, 1) := by decide +kernel
theorem dL_law_767 : decode cL_law 767 = .ok (.invokevirtual 119, 3) := by decide +kernel
theorem dL_law_770 : decode cL_law 770 = .ok (.istore 6, 2) := by decide +kernel
theorem dL_law_772 : decode cL_law 772 = .ok (.aload_n 2, 1) := by decide +kernel
theorem dL_law_773 : decode cL_law 773 = .ok (.invokevirtual 83, 3) := by decide +kernel
theorem dL_law_776 : decode cL_law 776 = .ok (.iload 5, 2) := by decide +kernel
theorem dL_law_778 : decode cL_law 778 = .ok (.if_icmp .eq 5, 3) := by decide +kernel
theorem dL_law_781 : decode cL_law 781 = .ok (.iconst 0, 1) := by decide +kernel
theorem dL_law_782 : decode cL_law 782 = .ok (.ireturn, 1) := by decide +kernel
theorem dL_law_783 : decode cL_law 783 = .ok (.iload 5, 2) := by decide +kernel
theorem dL_law_785 : decode cL_law 785 = .ok (.ifCond .ne 15, 3) := by decide +kernel
theorem dL_law_788 : decode cL_law 788 = .ok (.aload_n 3, 1) := by decide +kernel
theorem dL_law_789 : decode cL_law 789 = .ok (.iconst 0, 1) := by decide +kernel
theorem dL_law_790 : decode cL_law 790 = .ok (.laload, 1) := by decide +kernel
theorem dL_law_791 : decode cL_law 791 = .ok (.iload 6, 2) := by decide +kernel
theorem dL_law_793 : decode cL_law 793 = .ok (.i2l, 1) := by decide +kernel
theorem dL_law_794 : decode cL_law 794 = .ok (.lcmp, 1) := by decide +kernel
theorem dL_law_795 : decode cL_law 795 = .ok (.ifCond .eq 5, 3) := by decide +kernel
theorem dL_law_798 : decode cL_law 798 = .ok (.iconst 0, 1) := by decide +kernel
theorem dL_law_799 : decode cL_law 799 = .ok (.ireturn, 1) := by decide +kernel
theorem dL_law_800 : decode cL_law 800 = .ok (.goto 482, 3) := by decide +kernel
theorem dL_law_803 : decode cL_law 803 = .ok (.aload_n 1, 1) := by decide +kernel
theorem dL_law_804 : decode cL_law 804 = .ok (.aload_n 0, 1) := by decide +kernel
theorem dL_law_805 : decode cL_law 805 = .ok (.iload 4, 2) := by decide +kernel
theorem dL_law_807 : decode cL_law 807 = .ok (.iconst 1, 1) := by decide +kernel
theorem dL_law_808 : decode cL_law 808 = .ok (.iadd, 1) := by decide +kernel
theorem dL_law_809 : decode cL_law 809 = .ok (.iaload, 1) := by decide +kernel
theorem dL_law_810 : decode cL_law 810 = .ok (.aload_n 3, 1) := by decide +kernel
theorem dL_law_811 : decode cL_law 811 = .ok (.invokestatic 120, 3) := by decide +kernel
theorem dL_law_814 : decode cL_law 814 = .ok (.istore 5, 2) := by decide +kernel
theorem dL_law_816 : decode cL_law 816 = .ok (.aload_n 2, 1) := by decide +kernel
theorem dL_law_817 : decode cL_law 817 = .ok (.aload_n 0, 1) := by decide +kernel
theorem dL_law_818 : decode cL_law 818 = .ok (.iload 4, 2) := by decide +kernel
theorem dL_law_820 : decode cL_law 820 = .ok (.iconst 1, 1) := by decide +kernel
theorem dL_law_821 : decode cL_law 821 = .ok (.iadd, 1) := by decide +kernel
theorem dL_law_822 : decode cL_law 822 = .ok (.iaload, 1) := by decide +kernel
theorem dL_law_823 : decode cL_law 823 = .ok (.invokevirtual 122, 3) := by decide +kernel
theorem dL_law_826 : decode cL_law 826 = .ok (.istore 6, 2) := by decide +kernel
theorem dL_law_828 : decode cL_law 828 = .ok (.aload_n 2, 1) := by decide +kernel
theorem dL_law_829 : decode cL_law 829 = .ok (.invokevirtual 83, 3) := by decide +kernel
theorem dL_law_832 : decode cL_law 832 = .ok (.iload 5, 2) := by decide +kernel
theorem dL_law_834 : decode cL_law 834 = .ok (.if_icmp .eq 5, 3) := by decide +kernel
theorem dL_law_837 : decode cL_law 837 = .ok (.iconst 0, 1) := by decide +kernel
theorem dL_law_838 : decode cL_law 838 = .ok (.ireturn, 1) := by decide +kernel
theorem dL_law_839 : decode cL_law 839 = .ok (.iload 5, 2) := by decide +kernel
theorem dL_law_841 : decode cL_law 841 = .ok (.ifCond .ne 15, 3) := by decide +kernel
theorem dL_law_844 : decode cL_law 844 = .ok (.aload_n 3, 1) := by decide +kernel
theorem dL_law_845 : decode cL_law 845 = .ok (.iconst 0, 1) := by decide +kernel
theorem dL_law_846 : decode cL_law 846 = .ok (.laload, 1) := by decide +kernel
theorem dL_law_847 : decode cL_law 847 = .ok (.iload 6, 2) := by decide +kernel
theorem dL_law_849 : decode cL_law 849 = .ok (.i2l, 1) := by decide +kernel
theorem dL_law_850 : decode cL_law 850 = .ok (.lcmp, 1) := by decide +kernel
theorem dL_law_851 : decode cL_law 851 = .ok (.ifCond .eq 5, 3) := by decide +kernel
theorem dL_law_854 : decode cL_law 854 = .ok (.iconst 0, 1) := by decide +kernel
theorem dL_law_855 : decode cL_law 855 = .ok (.ireturn, 1) := by decide +kernel
theorem dL_law_856 : decode cL_law 856 = .ok (.goto 426, 3) := by decide +kernel
theorem dL_law_859 : decode cL_law 859 = .ok (.aload_n 1, 1) := by decide +kernel
theorem dL_law_860 : decode cL_law 860 = .ok (.aload_n 0, 1) := by decide +kernel
theorem dL_law_861 : decode cL_law 861 = .ok (.iload 4, 2) := by decide +kernel
theorem dL_law_863 : decode cL_law 863 = .ok (.iconst 1, 1) := by decide +kernel
theorem dL_law_864 : decode cL_law 864 = .ok (.iadd, 1) := by decide +kernel
theorem dL_law_865 : decode cL_law 865 = .ok (.iaload, 1) := by decide +kernel
theorem dL_law_866 : decode cL_law 866 = .ok (.aload_n 3, 1) := by decide +kernel
theorem dL_law_867 : decode cL_law 867 = .ok (.invokestatic 123, 3) := by decide +kernel
theorem dL_law_870 : decode cL_law 870 = .ok (.istore 5, 2) := by decide +kernel
theorem dL_law_872 : decode cL_law 872 = .ok (.aload_n 2, 1) := by decide +kernel
theorem dL_law_873 : decode cL_law 873 = .ok (.aload_n 0, 1) := by decide +kernel
theorem dL_law_874 : decode cL_law 874 = .ok (.iload 4, 2) := by decide +kernel
theorem dL_law_876 : decode cL_law 876 = .ok (.iconst 1, 1) := by decide +kernel
theorem dL_law_877 : decode cL_law 877 = .ok (.iadd, 1) := by decide +kernel
theorem dL_law_878 : decode cL_law 878 = .ok (.iaload, 1) := by decide +kernel
theorem dL_law_879 : decode cL_law 879 = .ok (.invokevirtual 125, 3) := by decide +kernel
theorem dL_law_882 : decode cL_law 882 = .ok (.istore 6, 2) := by decide +kernel
theorem dL_law_884 : decode cL_law 884 = .ok (.aload_n 2, 1) := by decide +kernel
theorem dL_law_885 : decode cL_law 885 = .ok (.invokevirtual 83, 3) := by decide +kernel
theorem dL_law_888 : decode cL_law 888 = .ok (.iload 5, 2) := by decide +kernel
theorem dL_law_890 : decode cL_law 890 = .ok (.if_icmp .eq 5, 3) := by decide +kernel
theorem dL_law_893 : decode cL_law 893 = .ok (.iconst 0, 1) := by decide +kernel
theorem dL_law_894 : decode cL_law 894 = .ok (.ireturn, 1) := by decide +kernel
theorem dL_law_895 : decode cL_law 895 = .ok (.iload 5, 2) := by decide +kernel
theorem dL_law_897 : decode cL_law 897 = .ok (.ifCond .ne 15, 3) := by decide +kernel
theorem dL_law_900 : decode cL_law 900 = .ok (.aload_n 3, 1) := by decide +kernel
theorem dL_law_901 : decode cL_law 901 = .ok (.iconst 0, 1) := by decide +kernel
theorem dL_law_902 : decode cL_law 902 = .ok (.laload, 1) := by decide +kernel
theorem dL_law_903 : decode cL_law 903 = .ok (.iload 6, 2) := by decide +kernel
theorem dL_law_905 : decode cL_law 905 = .ok (.i2l, 1) := by decide +kernel
theorem dL_law_906 : decode cL_law 906 = .ok (.lcmp, 1) := by decide +kernel
theorem dL_law_907 : decode cL_law 907 = .ok (.ifCond .eq 5, 3) := by decide +kernel
theorem dL_law_910 : decode cL_law 910 = .ok (.iconst 0, 1) := by decide +kernel
theorem dL_law_911 : decode cL_law 911 = .ok (.ireturn, 1) := by decide +kernel
theorem dL_law_912 : decode cL_law 912 = .ok (.goto 370, 3) := by decide +kernel
theorem dL_law_915 : decode cL_law 915 = .ok (.aload_n 1, 1) := by decide +kernel
theorem dL_law_916 : decode cL_law 916 = .ok (.aload_n 0, 1) := by decide +kernel
theorem dL_law_917 : decode cL_law 917 = .ok (.iload 4, 2) := by decide +kernel
theorem dL_law_919 : decode cL_law 919 = .ok (.iconst 1, 1) := by decide +kernel
theorem dL_law_920 : decode cL_law 920 = .ok (.iadd, 1) := by decide +kernel
theorem dL_law_921 : decode cL_law 921 = .ok (.iaload, 1) := by decide +kernel
theorem dL_law_922 : decode cL_law 922 = .ok (.aload_n 0, 1) := by decide +kernel
theorem dL_law_923 : decode cL_law 923 = .ok (.iload 4, 2) := by decide +kernel
theorem dL_law_925 : decode cL_law 925 = .ok (.iconst 2, 1) := by decide +kernel
theorem dL_law_926 : decode cL_law 926 = .ok (.iadd, 1) := by decide +kernel
theorem dL_law_927 : decode cL_law 927 = .ok (.iaload, 1) := by decide +kernel
theorem dL_law_928 : decode cL_law 928 = .ok (.aload_n 3, 1) := by decide +kernel
theorem dL_law_929 : decode cL_law 929 = .ok (.invokestatic 126, 3) := by decide +kernel
theorem dL_law_932 : decode cL_law 932 = .ok (.istore 5, 2) := by decide +kernel
theorem dL_law_934 : decode cL_law 934 = .ok (.aload_n 2, 1) := by decide +kernel
theorem dL_law_935 : decode cL_law 935 = .ok (.aload_n 0, 1) := by decide +kernel
theorem dL_law_936 : decode cL_law 936 = .ok (.iload 4, 2) := by decide +kernel
theorem dL_law_938 : decode cL_law 938 = .ok (.iconst 1, 1) := by decide +kernel
theorem dL_law_939 : decode cL_law 939 = .ok (.iadd, 1) := by decide +kernel
theorem dL_law_940 : decode cL_law 940 = .ok (.iaload, 1) := by decide +kernel
theorem dL_law_941 : decode cL_law 941 = .ok (.aload_n 0, 1) := by decide +kernel
theorem dL_law_942 : decode cL_law 942 = .ok (.iload 4, 2) := by decide +kernel
theorem dL_law_944 : decode cL_law 944 = .ok (.iconst 2, 1) := by decide +kernel
theorem dL_law_945 : decode cL_law 945 = .ok (.iadd, 1) := by decide +kernel
theorem dL_law_946 : decode cL_law 946 = .ok (.iaload, 1) := by decide +kernel
theorem dL_law_947 : decode cL_law 947 = .ok (.invokevirtual 128, 3) := by decide +kernel
theorem dL_law_950 : decode cL_law 950 = .ok (.istore 6, 2) := by decide +kernel
theorem dL_law_952 : decode cL_law 952 = .ok (.aload_n 2, 1) := by decide +kernel
theorem dL_law_953 : decode cL_law 953 = .ok (.invokevirtual 83, 3) := by decide +kernel
theorem dL_law_956 : decode cL_law 956 = .ok (.iload 5, 2) := by decide +kernel
theorem dL_law_958 : decode cL_law 958 = .ok (.if_icmp .eq 5, 3) := by decide +kernel
theorem dL_law_961 : decode cL_law 961 = .ok (.iconst 0, 1) := by decide +kernel
theorem dL_law_962 : decode cL_law 962 = .ok (.ireturn, 1) := by decide +kernel
theorem dL_law_963 : decode cL_law 963 = .ok (.iload 5, 2) := by decide +kernel
theorem dL_law_965 : decode cL_law 965 = .ok (.ifCond .ne 15, 3) := by decide +kernel
theorem dL_law_968 : decode cL_law 968 = .ok (.aload_n 3, 1) := by decide +kernel
theorem dL_law_969 : decode cL_law 969 = .ok (.iconst 0, 1) := by decide +kernel
theorem dL_law_970 : decode cL_law 970 = .ok (.laload, 1) := by decide +kernel
theorem dL_law_971 : decode cL_law 971 = .ok (.iload 6, 2) := by decide +kernel
theorem dL_law_973 : decode cL_law 973 = .ok (.i2l, 1) := by decide +kernel
theorem dL_law_974 : decode cL_law 974 = .ok (.lcmp, 1) := by decide +kernel
theorem dL_law_975 : decode cL_law 975 = .ok (.ifCond .eq 5, 3) := by decide +kernel
theorem dL_law_978 : decode cL_law 978 = .ok (.iconst 0, 1) := by decide +kernel
theorem dL_law_979 : decode cL_law 979 = .ok (.ireturn, 1) := by decide +kernel
theorem dL_law_980 : decode cL_law 980 = .ok (.goto 302, 3) := by decide +kernel
theorem dL_law_983 : decode cL_law 983 = .ok (.aload_n 1, 1) := by decide +kernel
theorem dL_law_984 : decode cL_law 984 = .ok (.aload_n 0, 1) := by decide +kernel
theorem dL_law_985 : decode cL_law 985 = .ok (.iload 4, 2) := by decide +kernel
theorem dL_law_987 : decode cL_law 987 = .ok (.iconst 1, 1) := by decide +kernel
theorem dL_law_988 : decode cL_law 988 = .ok (.iadd, 1) := by decide +kernel
theorem dL_law_989 : decode cL_law 989 = .ok (.iaload, 1) := by decide +kernel
theorem dL_law_990 : decode cL_law 990 = .ok (.aload_n 0, 1) := by decide +kernel
theorem dL_law_991 : decode cL_law 991 = .ok (.iload 4, 2) := by decide +kernel
theorem dL_law_993 : decode cL_law 993 = .ok (.iconst 2, 1) := by decide +kernel
theorem dL_law_994 : decode cL_law 994 = .ok (.iadd, 1) := by decide +kernel
theorem dL_law_995 : decode cL_law 995 = .ok (.iaload, 1) := by decide +kernel
theorem dL_law_996 : decode cL_law 996 = .ok (.aload_n 3, 1) := by decide +kernel
theorem dL_law_997 : decode cL_law 997 = .ok (.invokestatic 129, 3) := by decide +kernel
theorem dL_law_1000 : decode cL_law 1000 = .ok (.istore 5, 2) := by decide +kernel
theorem dL_law_1002 : decode cL_law 1002 = .ok (.aload_n 2, 1) := by decide +kernel
theorem dL_law_1003 : decode cL_law 1003 = .ok (.aload_n 0, 1) := by decide +kernel
theorem dL_law_1004 : decode cL_law 1004 = .ok (.iload 4, 2) := by decide +kernel
theorem dL_law_1006 : decode cL_law 1006 = .ok (.iconst 1, 1) := by decide +kernel
theorem dL_law_1007 : decode cL_law 1007 = .ok (.iadd, 1) := by decide +kernel
theorem dL_law_1008 : decode cL_law 1008 = .ok (.iaload, 1) := by decide +kernel
theorem dL_law_1009 : decode cL_law 1009 = .ok (.aload_n 0, 1) := by decide +kernel
theorem dL_law_1010 : decode cL_law 1010 = .ok (.iload 4, 2) := by decide +kernel
theorem dL_law_1012 : decode cL_law 1012 = .ok (.iconst 2, 1) := by decide +kernel
theorem dL_law_1013 : decode cL_law 1013 = .ok (.iadd, 1) := by decide +kernel
theorem dL_law_1014 : decode cL_law 1014 = .ok (.iaload, 1) := by decide +kernel
theorem dL_law_1015 : decode cL_law 1015 = .ok (.invokevirtual 131, 3) := by decide +kernel
theorem dL_law_1018 : decode cL_law 1018 = .ok (.istore 6, 2) := by decide +kernel
theorem dL_law_1020 : decode cL_law 1020 = .ok (.aload_n 2, 1) := by decide +kernel
theorem dL_law_1021 : decode cL_law 1021 = .ok (.invokevirtual 83, 3) := by decide +kernel
theorem dL_law_1024 : decode cL_law 1024 = .ok (.iload 5, 2) := by decide +kernel
theorem dL_law_1026 : decode cL_law 1026 = .ok (.if_icmp .eq 5, 3) := by decide +kernel
theorem dL_law_1029 : decode cL_law 1029 = .ok (.iconst 0, 1) := by decide +kernel
theorem dL_law_1030 : decode cL_law 1030 = .ok (.ireturn, 1) := by decide +kernel
theorem dL_law_1031 : decode cL_law 1031 = .ok (.iload 5, 2) := by decide +kernel
theorem dL_law_1033 : decode cL_law 1033 = .ok (.ifCond .ne 15, 3) := by decide +kernel
theorem dL_law_1036 : decode cL_law 1036 = .ok (.aload_n 3, 1) := by decide +kernel
theorem dL_law_1037 : decode cL_law 1037 = .ok (.iconst 0, 1) := by decide +kernel
theorem dL_law_1038 : decode cL_law 1038 = .ok (.laload, 1) := by decide +kernel
theorem dL_law_1039 : decode cL_law 1039 = .ok (.iload 6, 2) := by decide +kernel
theorem dL_law_1041 : decode cL_law 1041 = .ok (.i2l, 1) := by decide +kernel
theorem dL_law_1042 : decode cL_law 1042 = .ok (.lcmp, 1) := by decide +kernel
theorem dL_law_1043 : decode cL_law 1043 = .ok (.ifCond .eq 5, 3) := by decide +kernel
theorem dL_law_1046 : decode cL_law 1046 = .ok (.iconst 0, 1) := by decide +kernel
theorem dL_law_1047 : decode cL_law 1047 = .ok (.ireturn, 1) := by decide +kernel
theorem dL_law_1048 : decode cL_law 1048 = .ok (.goto 234, 3) := by decide +kernel
theorem dL_law_1051 : decode cL_law 1051 = .ok (.aload_n 1, 1) := by decide +kernel
theorem dL_law_1052 : decode cL_law 1052 = .ok (.aload_n 0, 1) := by decide +kernel
theorem dL_law_1053 : decode cL_law 1053 = .ok (.iload 4, 2) := by decide +kernel
theorem dL_law_1055 : decode cL_law 1055 = .ok (.iconst 1, 1) := by decide +kernel
theorem dL_law_1056 : decode cL_law 1056 = .ok (.iadd, 1) := by decide +kernel
theorem dL_law_1057 : decode cL_law 1057 = .ok (.iaload, 1) := by decide +kernel
theorem dL_law_1058 : decode cL_law 1058 = .ok (.aload_n 3, 1) := by decide +kernel
theorem dL_law_1059 : decode cL_law 1059 = .ok (.invokestatic 132, 3) := by decide +kernel
theorem dL_law_1062 : decode cL_law 1062 = .ok (.istore 5, 2) := by decide +kernel
theorem dL_law_1064 : decode cL_law 1064 = .ok (.aload_n 2, 1) := by decide +kernel
theorem dL_law_1065 : decode cL_law 1065 = .ok (.aload_n 0, 1) := by decide +kernel
theorem dL_law_1066 : decode cL_law 1066 = .ok (.iload 4, 2) := by decide +kernel
theorem dL_law_1068 : decode cL_law 1068 = .ok (.iconst 1, 1) := by decide +kernel
theorem dL_law_1069 : decode cL_law 1069 = .ok (.iadd, 1) := by decide +kernel
theorem dL_law_1070 : decode cL_law 1070 = .ok (.iaload, 1) := by decide +kernel
theorem dL_law_1071 : decode cL_law 1071 = .ok (.invokevirtual 134, 3) := by decide +kernel
theorem dL_law_1074 : decode cL_law 1074 = .ok (.istore 6, 2) := by decide +kernel
theorem dL_law_1076 : decode cL_law 1076 = .ok (.aload_n 2, 1) := by decide +kernel
theorem dL_law_1077 : decode cL_law 1077 = .ok (.invokevirtual 83, 3) := by decide +kernel
theorem dL_law_1080 : decode cL_law 1080 = .ok (.iload 5, 2) := by decide +kernel
theorem dL_law_1082 : decode cL_law 1082 = .ok (.if_icmp .eq 5, 3) := by decide +kernel
theorem dL_law_1085 : decode cL_law 1085 = .ok (.iconst 0, 1) := by decide +kernel
theorem dL_law_1086 : decode cL_law 1086 = .ok (.ireturn, 1) := by decide +kernel
theorem dL_law_1087 : decode cL_law 1087 = .ok (.iload 5, 2) := by decide +kernel
theorem dL_law_1089 : decode cL_law 1089 = .ok (.ifCond .ne 15, 3) := by decide +kernel
theorem dL_law_1092 : decode cL_law 1092 = .ok (.aload_n 3, 1) := by decide +kernel
theorem dL_law_1093 : decode cL_law 1093 = .ok (.iconst 0, 1) := by decide +kernel
theorem dL_law_1094 : decode cL_law 1094 = .ok (.laload, 1) := by decide +kernel
theorem dL_law_1095 : decode cL_law 1095 = .ok (.iload 6, 2) := by decide +kernel
theorem dL_law_1097 : decode cL_law 1097 = .ok (.i2l, 1) := by decide +kernel
theorem dL_law_1098 : decode cL_law 1098 = .ok (.lcmp, 1) := by decide +kernel
theorem dL_law_1099 : decode cL_law 1099 = .ok (.ifCond .eq 5, 3) := by decide +kernel
theorem dL_law_1102 : decode cL_law 1102 = .ok (.iconst 0, 1) := by decide +kernel
theorem dL_law_1103 : decode cL_law 1103 = .ok (.ireturn, 1) := by decide +kernel
theorem dL_law_1104 : decode cL_law 1104 = .ok (.goto 178, 3) := by decide +kernel
theorem dL_law_1107 : decode cL_law 1107 = .ok (.aload_n 1, 1) := by decide +kernel
theorem dL_law_1108 : decode cL_law 1108 = .ok (.aload_n 0, 1) := by decide +kernel
theorem dL_law_1109 : decode cL_law 1109 = .ok (.iload 4, 2) := by decide +kernel
theorem dL_law_1111 : decode cL_law 1111 = .ok (.iconst 1, 1) := by decide +kernel
theorem dL_law_1112 : decode cL_law 1112 = .ok (.iadd, 1) := by decide +kernel
theorem dL_law_1113 : decode cL_law 1113 = .ok (.iaload, 1) := by decide +kernel
theorem dL_law_1114 : decode cL_law 1114 = .ok (.aload_n 0, 1) := by decide +kernel
theorem dL_law_1115 : decode cL_law 1115 = .ok (.iload 4, 2) := by decide +kernel
theorem dL_law_1117 : decode cL_law 1117 = .ok (.iconst 2, 1) := by decide +kernel
theorem dL_law_1118 : decode cL_law 1118 = .ok (.iadd, 1) := by decide +kernel
theorem dL_law_1119 : decode cL_law 1119 = .ok (.iaload, 1) := by decide +kernel
theorem dL_law_1120 : decode cL_law 1120 = .ok (.aload_n 3, 1) := by decide +kernel
theorem dL_law_1121 : decode cL_law 1121 = .ok (.invokestatic 135, 3) := by decide +kernel
theorem dL_law_1124 : decode cL_law 1124 = .ok (.istore 5, 2) := by decide +kernel
theorem dL_law_1126 : decode cL_law 1126 = .ok (.aload_n 2, 1) := by decide +kernel
theorem dL_law_1127 : decode cL_law 1127 = .ok (.aload_n 0, 1) := by decide +kernel
theorem dL_law_1128 : decode cL_law 1128 = .ok (.iload 4, 2) := by decide +kernel
theorem dL_law_1130 : decode cL_law 1130 = .ok (.iconst 1, 1) := by decide +kernel
theorem dL_law_1131 : decode cL_law 1131 = .ok (.iadd, 1) := by decide +kernel
theorem dL_law_1132 : decode cL_law 1132 = .ok (.iaload, 1) := by decide +kernel
theorem dL_law_1133 : decode cL_law 1133 = .ok (.aload_n 0, 1) := by decide +kernel
theorem dL_law_1134 : decode cL_law 1134 = .ok (.iload 4, 2) := by decide +kernel
theorem dL_law_1136 : decode cL_law 1136 = .ok (.iconst 2, 1) := by decide +kernel
theorem dL_law_1137 : decode cL_law 1137 = .ok (.iadd, 1) := by decide +kernel
theorem dL_law_1138 : decode cL_law 1138 = .ok (.iaload, 1) := by decide +kernel
theorem dL_law_1139 : decode cL_law 1139 = .ok (.invokevirtual 137, 3) := by decide +kernel
theorem dL_law_1142 : decode cL_law 1142 = .ok (.istore 6, 2) := by decide +kernel
theorem dL_law_1144 : decode cL_law 1144 = .ok (.aload_n 2, 1) := by decide +kernel
theorem dL_law_1145 : decode cL_law 1145 = .ok (.invokevirtual 83, 3) := by decide +kernel
theorem dL_law_1148 : decode cL_law 1148 = .ok (.iload 5, 2) := by decide +kernel
theorem dL_law_1150 : decode cL_law 1150 = .ok (.if_icmp .eq 5, 3) := by decide +kernel
theorem dL_law_1153 : decode cL_law 1153 = .ok (.iconst 0, 1) := by decide +kernel
theorem dL_law_1154 : decode cL_law 1154 = .ok (.ireturn, 1) := by decide +kernel
theorem dL_law_1155 : decode cL_law 1155 = .ok (.iload 5, 2) := by decide +kernel
theorem dL_law_1157 : decode cL_law 1157 = .ok (.ifCond .ne 15, 3) := by decide +kernel
theorem dL_law_1160 : decode cL_law 1160 = .ok (.aload_n 3, 1) := by decide +kernel
theorem dL_law_1161 : decode cL_law 1161 = .ok (.iconst 0, 1) := by decide +kernel
theorem dL_law_1162 : decode cL_law 1162 = .ok (.laload, 1) := by decide +kernel
theorem dL_law_1163 : decode cL_law 1163 = .ok (.iload 6, 2) := by decide +kernel
theorem dL_law_1165 : decode cL_law 1165 = .ok (.i2l, 1) := by decide +kernel
theorem dL_law_1166 : decode cL_law 1166 = .ok (.lcmp, 1) := by decide +kernel
theorem dL_law_1167 : decode cL_law 1167 = .ok (.ifCond .eq 5, 3) := by decide +kernel
theorem dL_law_1170 : decode cL_law 1170 = .ok (.iconst 0, 1) := by decide +kernel
theorem dL_law_1171 : decode cL_law 1171 = .ok (.ireturn, 1) := by decide +kernel
theorem dL_law_1172 : decode cL_law 1172 = .ok (.goto 110, 3) := by decide +kernel
theorem dL_law_1175 : decode cL_law 1175 = .ok (.aload_n 1, 1) := by decide +kernel
theorem dL_law_1176 : decode cL_law 1176 = .ok (.aload_n 0, 1) := by decide +kernel
theorem dL_law_1177 : decode cL_law 1177 = .ok (.iload 4, 2) := by decide +kernel
theorem dL_law_1179 : decode cL_law 1179 = .ok (.iconst 1, 1) := by decide +kernel
theorem dL_law_1180 : decode cL_law 1180 = .ok (.iadd, 1) := by decide +kernel
theorem dL_law_1181 : decode cL_law 1181 = .ok (.iaload, 1) := by decide +kernel
theorem dL_law_1182 : decode cL_law 1182 = .ok (.aload_n 0, 1) := by decide +kernel
theorem dL_law_1183 : decode cL_law 1183 = .ok (.iload 4, 2) := by decide +kernel
theorem dL_law_1185 : decode cL_law 1185 = .ok (.iconst 2, 1) := by decide +kernel
theorem dL_law_1186 : decode cL_law 1186 = .ok (.iadd, 1) := by decide +kernel
theorem dL_law_1187 : decode cL_law 1187 = .ok (.iaload, 1) := by decide +kernel
theorem dL_law_1188 : decode cL_law 1188 = .ok (.aload_n 0, 1) := by decide +kernel
theorem dL_law_1189 : decode cL_law 1189 = .ok (.iload 4, 2) := by decide +kernel
theorem dL_law_1191 : decode cL_law 1191 = .ok (.iconst 3, 1) := by decide +kernel
theorem dL_law_1192 : decode cL_law 1192 = .ok (.iadd, 1) := by decide +kernel
theorem dL_law_1193 : decode cL_law 1193 = .ok (.iaload, 1) := by decide +kernel
theorem dL_law_1194 : decode cL_law 1194 = .ok (.aload_n 3, 1) := by decide +kernel
theorem dL_law_1195 : decode cL_law 1195 = .ok (.invokestatic 138, 3) := by decide +kernel
theorem dL_law_1198 : decode cL_law 1198 = .ok (.istore 5, 2) := by decide +kernel
theorem dL_law_1200 : decode cL_law 1200 = .ok (.aload_n 2, 1) := by decide +kernel
theorem dL_law_1201 : decode cL_law 1201 = .ok (.aload_n 0, 1) := by decide +kernel
theorem dL_law_1202 : decode cL_law 1202 = .ok (.iload 4, 2) := by decide +kernel
theorem dL_law_1204 : decode cL_law 1204 = .ok (.iconst 1, 1) := by decide +kernel
theorem dL_law_1205 : decode cL_law 1205 = .ok (.iadd, 1) := by decide +kernel
theorem dL_law_1206 : decode cL_law 1206 = .ok (.iaload, 1) := by decide +kernel
theorem dL_law_1207 : decode cL_law 1207 = .ok (.aload_n 0, 1) := by decide +kernel
theorem dL_law_1208 : decode cL_law 1208 = .ok (.iload 4, 2) := by decide +kernel
theorem dL_law_1210 : decode cL_law 1210 = .ok (.iconst 2, 1) := by decide +kernel
theorem dL_law_1211 : decode cL_law 1211 = .ok (.iadd, 1) := by decide +kernel
theorem dL_law_1212 : decode cL_law 1212 = .ok (.iaload, 1) := by decide +kernel
theorem dL_law_1213 : decode cL_law 1213 = .ok (.aload_n 0, 1) := by decide +kernel
theorem dL_law_1214 : decode cL_law 1214 = .ok (.iload 4, 2) := by decide +kernel
theorem dL_law_1216 : decode cL_law 1216 = .ok (.iconst 3, 1) := by decide +kernel
theorem dL_law_1217 : decode cL_law 1217 = .ok (.iadd, 1) := by decide +kernel
theorem dL_law_1218 : decode cL_law 1218 = .ok (.iaload, 1) := by decide +kernel
theorem dL_law_1219 : decode cL_law 1219 = .ok (.invokevirtual 141, 3) := by decide +kernel
theorem dL_law_1222 : decode cL_law 1222 = .ok (.istore 6, 2) := by decide +kernel
theorem dL_law_1224 : decode cL_law 1224 = .ok (.aload_n 2, 1) := by decide +kernel
theorem dL_law_1225 : decode cL_law 1225 = .ok (.invokevirtual 83, 3) := by decide +kernel
theorem dL_law_1228 : decode cL_law 1228 = .ok (.iload 5, 2) := by decide +kernel
theorem dL_law_1230 : decode cL_law 1230 = .ok (.if_icmp .eq 5, 3) := by decide +kernel
theorem dL_law_1233 : decode cL_law 1233 = .ok (.iconst 0, 1) := by decide +kernel
theorem dL_law_1234 : decode cL_law 1234 = .ok (.ireturn, 1) := by decide +kernel
theorem dL_law_1235 : decode cL_law 1235 = .ok (.iload 5, 2) := by decide +kernel
theorem dL_law_1237 : decode cL_law 1237 = .ok (.ifCond .ne 15, 3) := by decide +kernel
theorem dL_law_1240 : decode cL_law 1240 = .ok (.aload_n 3, 1) := by decide +kernel
theorem dL_law_1241 : decode cL_law 1241 = .ok (.iconst 0, 1) := by decide +kernel
theorem dL_law_1242 : decode cL_law 1242 = .ok (.laload, 1) := by decide +kernel
theorem dL_law_1243 : decode cL_law 1243 = .ok (.iload 6, 2) := by decide +kernel
theorem dL_law_1245 : decode cL_law 1245 = .ok (.i2l, 1) := by decide +kernel
theorem dL_law_1246 : decode cL_law 1246 = .ok (.lcmp, 1) := by decide +kernel
theorem dL_law_1247 : decode cL_law 1247 = .ok (.ifCond .eq 5, 3) := by decide +kernel
theorem dL_law_1250 : decode cL_law 1250 = .ok (.iconst 0, 1) := by decide +kernel
theorem dL_law_1251 : decode cL_law 1251 = .ok (.ireturn, 1) := by decide +kernel
theorem dL_law_1252 : decode cL_law 1252 = .ok (.goto 30, 3) := by decide +kernel
theorem dL_law_1255 : decode cL_law 1255 = .ok (.aload_n 1, 1) := by decide +kernel
theorem dL_law_1256 : decode cL_law 1256 = .ok (.invokevirtual 142, 3) := by decide +kernel
theorem dL_law_1259 : decode cL_law 1259 = .ok (.aload_n 2, 1) := by decide +kernel
theorem dL_law_1260 : decode cL_law 1260 = .ok (.invokevirtual 145, 3) := by decide +kernel
theorem dL_law_1263 : decode cL_law 1263 = .ok (.if_icmp .eq 19, 3) := by decide +kernel
theorem dL_law_1266 : decode cL_law 1266 = .ok (.iconst 0, 1) := by decide +kernel
theorem dL_law_1267 : decode cL_law 1267 = .ok (.ireturn, 1) := by decide +kernel
theorem dL_law_1268 : decode cL_law 1268 = .ok (.aload_n 1, 1) := by decide +kernel
theorem dL_law_1269 : decode cL_law 1269 = .ok (.invokevirtual 146, 3) := by decide +kernel
theorem dL_law_1272 : decode cL_law 1272 = .ok (.aload_n 2, 1) := by decide +kernel
theorem dL_law_1273 : decode cL_law 1273 = .ok (.invokevirtual 150, 3) := by decide +kernel
theorem dL_law_1276 : decode cL_law 1276 = .ok (.lcmp, 1) := by decide +kernel
theorem dL_law_1277 : decode cL_law 1277 = .ok (.ifCond .eq 5, 3) := by decide +kernel
theorem dL_law_1280 : decode cL_law 1280 = .ok (.iconst 0, 1) := by decide +kernel
theorem dL_law_1281 : decode cL_law 1281 = .ok (.ireturn, 1) := by decide +kernel
theorem dL_law_1282 : decode cL_law 1282 = .ok (.iinc 4 6, 3) := by decide +kernel
theorem dL_law_1285 : decode cL_law 1285 = .ok (.goto (-1262), 3) := by decide +kernel
theorem dL_law_1288 : decode cL_law 1288 = .ok (.iconst 1, 1) := by decide +kernel
theorem dL_law_1289 : decode cL_law 1289 = .ok (.ireturn, 1) := by decide +kernel
end
section
def zStr : List (String × Nat × String) := [("CallForks", 215, "no such party"), ("CallForks", 222, "a number is out of range"), ("CallForks", 218, "no such call"), ("CallForks", 220, "no such leg"), ("CallForks$SetupReader", 61, "exchange"), ("CallForks$SetupReader", 96, "party"), ("CallForks$SetupReader", 101, "wait"), ("CallForks$SetupReader", 106, "patience"), ("CallForks$SetupReader", 111, "ring"), ("CallForks$SetupReader", 156, "legs"), ("CallForks$SetupReader", 158, "caller"), ("CallForks$SetupReader", 160, "referred"), ("CallForks$SetupReader", 162, "time"), ("CallForks", 101, "what is out of range"), ("CallForks", 133, "no offer is pending"), ("CallForks", 142, "the time would be too late"), ("CallForks", 147, "not a set of other parties"), ("CallForks", 157, "no call can begin"), ("CallForks", 164, "no transfer can begin"), ("CallForks", 170, "the target is in the leg"), ("CallForks", 178, "the party is in no talking leg"), ("CallForksModel", 153, "exchange"), ("CallForksModel", 135, "party"), ("CallForksModel", 140, "wait"), ("CallForksModel", 145, "patience"), ("CallForksModel", 147, "ring"), ("CallForksModel", 108, "legs"), ("CallForksModel", 114, "caller"), ("CallForksModel", 116, "referred"), ("CallForksModel", 118, "time")]
def zNcs : List (String × String) := [("CallForks", "java/lang/IllegalArgumentException"), ("CallForks$Exchange", "java/lang/IllegalArgumentException"), ("CallForks$Table", "java/lang/IllegalArgumentException"), ("CallForks$History", "java/lang/IllegalArgumentException"), ("CallForks$SetupReader", "java/lang/IllegalArgumentException"), ("CallForksModel", "java/lang/IllegalArgumentException"), ("CallForks$RingRule", "java/lang/IllegalArgumentException"), ("java/lang/IndexOutOfBoundsException", "java/lang/IllegalArgumentException"), ("java/util/NoSuchElementException", "java/lang/IllegalArgumentException"), ("java/lang/IllegalStateException", "java/lang/IllegalArgumentException"), ("CallForks", "java/lang/IndexOutOfBoundsException"), ("CallForks$Exchange", "java/lang/IndexOutOfBoundsException"), ("CallForks$Table", "java/lang/IndexOutOfBoundsException"), ("CallForks$History", "java/lang/IndexOutOfBoundsException"), ("CallForks$SetupReader", "java/lang/IndexOutOfBoundsException"), ("CallForksModel", "java/lang/IndexOutOfBoundsException"), ("java/lang/IllegalArgumentException", "java/lang/IndexOutOfBoundsException"), ("CallForks$RingRule", "java/lang/IndexOutOfBoundsException"), ("java/util/NoSuchElementException", "java/lang/IndexOutOfBoundsException"), ("java/lang/IllegalStateException", "java/lang/IndexOutOfBoundsException"), ("CallForks", "java/util/NoSuchElementException"), ("CallForks$Exchange", "java/util/NoSuchElementException"), ("CallForks$Table", "java/util/NoSuchElementException"), ("CallForks$History", "java/util/NoSuchElementException"), ("CallForks$SetupReader", "java/util/NoSuchElementException"), ("CallForksModel", "java/util/NoSuchElementException"), ("java/lang/IllegalArgumentException", "java/util/NoSuchElementException"), ("CallForks$RingRule", "java/util/NoSuchElementException"), ("java/lang/IndexOutOfBoundsException", "java/util/NoSuchElementException"), ("java/lang/IllegalStateException", "java/util/NoSuchElementException"), ("CallForks", "java/lang/IllegalStateException"), ("CallForks$Exchange", "java/lang/IllegalStateException"), ("CallForks$Table", "java/lang/IllegalStateException"), ("CallForks$History", "java/lang/IllegalStateException"), ("CallForks$SetupReader", "java/lang/IllegalStateException"), ("CallForksModel", "java/lang/IllegalStateException"), ("java/lang/IllegalArgumentException", "java/lang/IllegalStateException"), ("CallForks$RingRule", "java/lang/IllegalStateException"), ("java/lang/IndexOutOfBoundsException", "java/lang/IllegalStateException"), ("java/util/NoSuchElementException", "java/lang/IllegalStateException")]
/-! the judgement of this proof: a state of a method seen as a world (known cells by their addresses), locals and stack -/
/-- first own address; the tables' numbers; array classes (0 int[], 1 byte[], 2 long[], 3 Exchange[], 4 int[][]); String constants by owner and entry; the script's cell, length, values -/
abbrev ZG : Type := Nat × va_G × (Nat → ClassId) × (String → Nat → Nat) × Nat × Nat × (Nat → Int32)
/-- the heap's size; what is known of its cells -/
abbrev ZW : Type := Nat × (Nat → Option va_E)
abbrev ZL : Type := List (Nat × Value)
/-- a method: name, code, locals, what it returns, handlers -/
abbrev ZM : Type := MethodName × ByteArray × Nat × Option FieldType × List (Nat × Nat × Nat × Nat)
def zA (Γ : ZG) : Nat → Prop := fun q => Γ.1 ≤ q
def zt (Γ : ZG) : List (ClassId × FieldType) := [(Γ.2.2.1 0, .int), (Γ.2.2.1 1, .byte), (Γ.2.2.1 2, .long), (Γ.2.2.1 3, .object RX0), (Γ.2.2.1 4, .array .int)]
def zWm : Cond → Bool
  | .fieldLinkNest _ _ _ _ _ _ => true
  | .methodLinkNest _ _ _ _ => true
  | .castable _ _ => true
  | _ => false
def zNest : List Cond := tables_1.filter zWm
def zGood : List Cond := lw_tbl.filter goodWord
theorem zGood.mem (i : Nat) {w : Cond} (h : lw_tbl[i]? = some w) (hg : goodWord w = true) : w ∈ zGood := List.mem_filter.mpr ⟨List.mem_of_getElem? h, hg⟩
theorem zNest.mem (i : Nat) {w : Cond} (h : tables_1[i]? = some w) (hg : zWm w = true) : w ∈ zNest := List.mem_filter.mpr ⟨List.mem_of_getElem? h, hg⟩
theorem zNest.warm {w : Cond} {s U : State} (hw : zWm w = true) (hW : s.WarmedH U.vm) (h : va_Nw w s) : va_Nw w U := by
  cases w <;> first | exact va_Nw.warmF hW h | exact va_Nw.warmM hW h | exact va_Nw.warmC hW h | cases hw
/-- the signs of a text -/
def zch (tx : String) (j : Nat) : Int32 := nI ((tx.toList.map Char.toNat).getD j 0)
def zSa (Γ : ZG) (a : Nat) (tx : String) (U : State) (H : Heap) : Prop :=
  va_O "java/lang/String" a (zA Γ) U H ∧ va_OF "java/lang/String" "coder" "B" (.int 0) a (zA Γ) U H ∧ ∃ v : Nat, va_OF "java/lang/String" "value" "[B" (.ref v) a (zA Γ) U H ∧ va_T .byte v tx.length (fun j => .int (zch tx j)) (zA Γ) U H
theorem zSa.go {Γ : ZG} {a : Nat} {tx : String} {u U : State} {H H1 : Heap} (hvm : u.vm.Alike U.vm) (hq : ∀ q : Nat, q < H.size → ¬ zA Γ q → H1[q]? = H[q]?) (h : zSa Γ a tx u H) : zSa Γ a tx U H1 := by
  obtain ⟨h1, h2, v, h3, h4⟩ := h
  exact ⟨(va_O.moved hvm h1).kept hq, (va_OF.moved hvm h2).kept hq, v, (va_OF.moved hvm h3).kept hq, (va_T.moved hvm h4).kept hq⟩
def zS (Γ : ZG) (U : State) (H : Heap) : Prop :=
  va_K Γ.2.1 vwCl (zt Γ) U ∧ (∀ w ∈ zNest, va_Nw w U) ∧ (∀ q ∈ zNcs, va_Nc q.1 q.2 U) ∧ (va_AO RX0 U ∧ va_AOA .int U) ∧
  (vx_Zq Bundle.tN "UNASSIGNED_STACK" Bundle.steD (zA Γ) U H ∧ vx_Zq Bundle.tN "SUPPRESSED_SENTINEL" Bundle.listD (zA Γ) U H) ∧
  (∀ q ∈ zStr, vk_R q.1 q.2.1 q.2.2 (Γ.2.2.2.1 q.1 q.2.1) U ∧ zSa Γ (Γ.2.2.2.1 q.1 q.2.1) q.2.2 U H) ∧
  (va_X Γ.2.2.2.2.1 Γ.2.2.2.2.2.1 Γ.2.2.2.2.2.2 U H ∧ Γ.2.2.2.2.1 < Γ.1)
theorem zS.go {Γ : ZG} {s U : State} {H H1 : Heap} (hW : s.WarmedH U.vm) (h : zS Γ s H) (hn : Γ.1 ≤ H.size) (hq : ∀ q : Nat, q < Γ.1 → H1[q]? = H[q]?) : zS Γ U H1 := by
  have hq' : ∀ q : Nat, q < H.size → ¬ zA Γ q → H1[q]? = H[q]? := fun q _ h => hq q (Nat.lt_of_not_le h)
  have hvm := hW.alike
  obtain ⟨h1, h2, h3, ⟨h4, h5⟩, ⟨h6, h7⟩, h8, h9, h10⟩ := h
  exact ⟨va_K.moved hvm h1, fun w hw => zNest.warm (List.mem_filter.mp hw).2 hW (h2 w hw), fun q hw => (h3 q hw).moved hvm, ⟨h4.moved hvm, va_AOA.of (over_moved (a := #[]) (a' := #[]) hvm h5)⟩,
    ⟨(vx_Zq.moved hvm h6).kept hq', (vx_Zq.moved hvm h7).kept hq'⟩, fun q hw => ⟨vk_R.warm hW (h8 q hw).1, zSa.go hvm hq' (h8 q hw).2⟩, (va_X.moved hvm h9).kept (hq _ h10), h10⟩
def zH (Γ : ZG) (w : ZW) (H : Heap) : Prop := H.size = w.1 ∧ Γ.1 ≤ w.1 ∧ ∀ (a : Nat) (e : va_E), w.2 a = some e → Γ.1 ≤ a ∧ va_at Γ.2.1 vwCl (a, e) H
def wset (w : ZW) (a : Nat) (e : va_E) : ZW := (w.1, fun q => if q = a then some e else w.2 q)
def wnew (w : ZW) (e : va_E) : ZW := (w.1 + 1, fun q => if q = w.1 then some e else w.2 q)
theorem zH.set {Γ : ZG} {w : ZW} {H H1 : Heap} {a : Nat} {e : va_E} (h : zH Γ w H) (ha : Γ.1 ≤ a) (he : va_at Γ.2.1 vwCl (a, e) H1) (hz : H1.size = H.size) (oq : ∀ q : Nat, q ≠ a → H1[q]? = H[q]?) : zH Γ (wset w a e) H1 := by
  refine ⟨hz.trans h.1, h.2.1, fun q e' hq => ?_⟩
  by_cases hqa : q = a
  · subst hqa
    simp [wset] at hq
    subst hq
    exact ⟨ha, he⟩
  · have hq' : w.2 q = some e' := by simpa [wset, hqa] using hq
    exact ⟨(h.2.2 q e' hq').1, (h.2.2 q e' hq').2.kept (oq q hqa)⟩
theorem zH.push {Γ : ZG} {w : ZW} {H H1 : Heap} {e : va_E} (h : zH Γ w H) (he : va_at Γ.2.1 vwCl (H.size, e) H1) (hz : H1.size = H.size + 1) (oq : ∀ q : Nat, q < H.size → H1[q]? = H[q]?) : zH Γ (wnew w e) H1 := by
  refine ⟨by rw [hz, h.1]; rfl, Nat.le_succ_of_le h.2.1, fun q e' hq => ?_⟩
  by_cases hqa : q = w.1
  · subst hqa
    simp [wnew] at hq
    subst hq
    exact ⟨h.2.1, by rw [← h.1]; exact he⟩
  · have hq' : w.2 q = some e' := by simpa [wnew, hqa] using hq
    exact ⟨(h.2.2 q e' hq').1, (h.2.2 q e' hq').2.kept (oq q (h.2.2 q e' hq').2.lt)⟩
theorem zH.one {Γ : ZG} {w : ZW} {H : Heap} {a : Nat} {e : va_E} (h : zH Γ w H) (hw : w.2 a = some e) : va_P Γ.2.1 vwCl [(a, e)] H := by
  intro k q hk
  have hz : k < 1 := (List.getElem?_eq_some_iff.mp hk).1
  have hk0 : k = 0 := by omega
  subst hk0
  cases hk
  exact (h.2.2 a e hw).2
def zQ (Γ : ZG) (Φ : Option Value → ZW → Prop) : Array Value → State → Outcome → State → Prop := fun _ st o t => ∃ (v : Option Value) (w' : ZW), o = .returned v ∧ Φ v w' ∧ zH Γ w' t.heap ∧ st.heap.size ≤ t.heap.size ∧ ∀ q : Nat, q < Γ.1 → t.heap[q]? = st.heap[q]?
def zX (Γ : ZG) (Ψ : String → ZW → Prop) : String → State → State → Prop := fun E st t => ∃ w' : ZW, Ψ E w' ∧ zH Γ w' t.heap ∧ st.heap.size ≤ t.heap.size ∧ ∀ q : Nat, q < Γ.1 → t.heap[q]? = st.heap[q]?
def zRm (d mc ms : Nat) : Room := { frames := d, cells := mc, slots := ms, locals := 64 * d }
def zcode (M : ZM) : Cond := match M.2.2.2.2 with
  | [] => .code M.1 M.2.1 M.2.2.1 M.2.2.2.1
  | hh => .codeWith M.1 M.2.1 M.2.2.1 M.2.2.2.1 hh
def zwA (M : ZM) : List Cond := zcode M :: zGood
def zPc (Γ : ZG) (as : List Value) (w : ZW) : Array Value → State → Prop := va_Pc as (fun U => zS Γ U U.heap ∧ zH Γ w U.heap)
theorem zPc.blind {Γ : ZG} {as : List Value} {w : ZW} : FrameBlind (zPc Γ as w) := by
  intro a U g mk h
  exact ⟨h.1, zS.go (U := U.calling g mk a) (s := U) (State.WarmedH.refl U) h.2.1 (by rw [h.2.2.1]; exact h.2.2.2.1) (fun _ _ => rfl), h.2.2⟩
/-- a contract: from the arguments and the world, the method returns by Φ, or throws by Ψ -/
def Ct (l : Launch) (Γ : ZG) (M : ZM) (d mc ms : Nat) (as : List Value) (w : ZW) (Φ : Option Value → ZW → Prop) (Ψ : String → ZW → Prop) : Prop :=
  l.stackTraces = false → vx_Met l M.1 (zwA M) (zRm d mc ms) (zPc Γ as w) (zQ Γ Φ) (zX Γ Ψ) mc ms (zA Γ)
def zNo : String → ZW → Prop := fun _ _ => False
def zNv : Option Value → ZW → Prop := fun _ _ => False
def zC (l : Launch) (Γ : ZG) (M : ZM) (p : Program) (s : State) (m : MethodId) (args : Array Value) (meth : Method) (c : Code) : Prop :=
  p.tables.exec = Jvm.exec ∧ c.code = M.2.1 ∧ c.maxLocals = M.2.2.1 ∧ meth.sig.returnType = M.2.2.2.1 ∧ (∀ w ∈ zwA M, w.before args s = true) ∧ s.vm.findClass M.1.cls = some m.cls ∧ meth.locks = false ∧ meth.name = M.1.name ∧ zS Γ s s.heap ∧ Γ.1 ≤ s.heap.size ∧ c.exceptionTable.toList = tableOf M.2.2.2.2 ∧ l.stackTraces = false
/-- the machine at pc, with these locals and this stack, in this world, comes to an end by Φ or Ψ -/
def Go (l : Launch) (Γ : ZG) (M : ZM) (d mc ms : Nat) (Φ : Option Value → ZW → Prop) (Ψ : String → ZW → Prop) (k n : Nat) (w : ZW) (pc : Nat) (L : ZL) (st : List Value) : Prop :=
  ∀ (p : Program) (e : Env) (s : State) (m : MethodId) (args : Array Value) (below : List Frame) (meth : Method) (c : Code), zC l Γ M p s m args meth c →
    ∀ (H : Heap) (locs : List Loc) (ls : Array Slot), lv_has ls M.2.2.1 L → zH Γ w H → va_S (zA Γ) s.heap H locs →
      W p l e (zRm d mc ms) s m args below meth c H locs k n (vx_MQ below (zQ Γ Φ) (zX Γ Ψ) args s mc ms (zA Γ)) (F0 m pc ls st)
theorem Ct.of {l : Launch} {Γ : ZG} {M : ZM} {d mc ms : Nat} {as : List Value} {w : ZW} {Φ : Option Value → ZW → Prop} {Ψ : String → ZW → Prop} (hy : plainName M.1.cls = true) (hh : M.2.2.2.2 = []) (hn : (lg_sl as).length ≤ M.2.2.1)
    (h : Go l Γ M d mc ms Φ Ψ 0 0 w 0 (lv_args 0 as) []) : Ct l Γ M d mc ms as w Φ Ψ := by
  intro htr
  have hw : zwA M = Cond.code M.1 M.2.1 M.2.2.1 M.2.2.2.1 :: zGood := by unfold zwA zcode; rw [hh]
  refine vx_ofW (cc := M.2.1) (maxL := M.2.2.1) (ret := M.2.2.2.1) hy hw ?_
  intro p e s m args below meth c s₁ B hml hex hv
  obtain ⟨rfl, hS, hH⟩ := hv
  have h0 : Γ.1 ≤ s.heap.size := by rw [hH.1]; exact hH.2.1
  have hts : ∀ w ∈ zwA M, w.before as.toArray s = true := atoms_spec (ws := zwA M) B.pre
  have ht : c.exceptionTable.toList = tableOf M.2.2.2.2 := by
    rw [hh]
    exact List.eq_nil_iff_forall_not_mem.mpr fun x hx => hex x hx
  rw [lg_entry_eq]
  exact h p e s m as.toArray below meth c ⟨B.exec, B.bytes, hml, B.returns, hts, findClass_of_methodNamed B.named, B.notSynchronized, (name_of_methodNamed B.named B.method).1, hS, h0, ht, htr⟩ s.heap [] _ (lv_entry as hn) hH va_S.rf
end
section
section GoRules
variable {l : Launch} {Γ : ZG} {M : ZM} {dp mc ms : Nat} {Φ : Option Value → ZW → Prop} {Ψ : String → ZW → Prop} {k n : Nat} {w : ZW} {pc : Nat} {L : ZL} {st : List Value}
def lget (L : ZL) (i : Nat) : Option Value := (L.find? (fun q => q.1 == i)).map (fun q => q.2)
def lset (L : ZL) (i : Nat) (v : Value) : ZL := (i, v) :: L.filter (fun q => !(q.1 == i) && !(q.1 + 1 == i && q.2.category == 2))
def lset2 (L : ZL) (i : Nat) (v : Value) : ZL := (i, v) :: L.filter (fun q => !(q.1 == i) && (!(q.1 == i + 1) && !(q.1 + 1 == i && q.2.category == 2)))
theorem lget_at {ls : Array Slot} {nL i : Nat} {v : Value} (h : lv_has ls nL L) (hl : lget L i = some v) : ls[i]? = some (.val v) := by
  unfold lget at hl
  cases hf : L.find? (fun q => q.1 == i) with
  | none => rw [hf] at hl; cases hl
  | some q =>
    rw [hf] at hl
    cases hl
    have h1 := List.find?_some hf
    have h2 : q.1 = i := by simpa using h1
    rw [← h2]
    exact h.2.2 q (List.mem_of_find?_eq_some hf)
theorem lv_lget {ls : Array Slot} {nL : Nat} {L' : ZL} (h : lv_has ls nL L) (hl : ∀ q ∈ L', lget L q.1 = some q.2) : lv_has ls nL L' := ⟨h.1, h.2.1, fun q hq => lget_at h (hl q hq)⟩
theorem lall {L L' : ZL} (h : L'.map (fun q => lget L q.1) = L'.map (fun q => some q.2)) : ∀ q ∈ L', lget L q.1 = some q.2 := by
  intro q hq
  have := List.map_inj_left.mp h
  exact this q hq
theorem go_locals (L' : ZL) (h : L'.map (fun q => lget L q.1) = L'.map (fun q => some q.2)) (kk : Go l Γ M dp mc ms Φ Ψ k n w pc L' st) : Go l Γ M dp mc ms Φ Ψ k n w pc L st :=
  fun p e s m args below meth c C H locs ls hl hH hS => kk p e s m args below meth c C H locs ls (lv_lget hl (lall h)) hH hS
theorem go_eq {L' : ZL} {st' : List Value} {w' : ZW} {pc' : Nat} (kk : Go l Γ M dp mc ms Φ Ψ k n w' pc' L' st') (h1 : w = w' := by rfl) (h2 : pc = pc' := by rfl) (h3 : L = L' := by rfl) (h4 : st = st' := by rfl) : Go l Γ M dp mc ms Φ Ψ k n w pc L st := by
  subst h1; subst h2; subst h3; subst h4; exact kk
theorem go_up {k' n' : Nat} (h1 : k ≤ k') (h2 : n ≤ n') (kk : Go l Γ M dp mc ms Φ Ψ k' n' w pc L st) : Go l Γ M dp mc ms Φ Ψ k n w pc L st :=
  fun p e s m args below meth c C H locs ls hl hH hS => W.widen h1 h2 (kk p e s m args below meth c C H locs ls hl hH hS)
theorem go_iconst {z : Int} {v : Int32} (hd : decode M.2.1 pc = .ok (.iconst z, 1)) (hv : Int32.ofInt z = v) (kk : Go l Γ M dp mc ms Φ Ψ k n w (pc + 1) L (.int v :: st)) : Go l Γ M dp mc ms Φ Ψ k n w pc L st := fun p e s m args below meth c C H locs ls hl hH hS => lv_iconst C.1 C.2.1 hd hv (kk p e s m args below meth c C H locs ls hl hH hS)
theorem go_bipush {z : Int} {v : Int32} (hd : decode M.2.1 pc = .ok (.bipush z, 2)) (hv : (Int8.ofInt z).toInt32 = v) (kk : Go l Γ M dp mc ms Φ Ψ k n w (pc + 2) L (.int v :: st)) : Go l Γ M dp mc ms Φ Ψ k n w pc L st := fun p e s m args below meth c C H locs ls hl hH hS => lv_bipush C.1 C.2.1 hd hv (kk p e s m args below meth c C H locs ls hl hH hS)
theorem go_sipush {z : Int} {v : Int32} (hd : decode M.2.1 pc = .ok (.sipush z, 3)) (hv : (Int16.ofInt z).toInt32 = v) (kk : Go l Γ M dp mc ms Φ Ψ k n w (pc + 3) L (.int v :: st)) : Go l Γ M dp mc ms Φ Ψ k n w pc L st := fun p e s m args below meth c C H locs ls hl hH hS => lv_sipush C.1 C.2.1 hd hv (kk p e s m args below meth c C H locs ls hl hH hS)
theorem go_lconst {z : Fin 2} {v : Int64} (hd : decode M.2.1 pc = .ok (.lconst z, 1)) (hv : Int64.ofNat (z : Nat) = v) (kk : Go l Γ M dp mc ms Φ Ψ k n w (pc + 1) L (.long v :: st)) : Go l Γ M dp mc ms Φ Ψ k n w pc L st := fun p e s m args below meth c C H locs ls hl hH hS => lv_lconst C.1 C.2.1 hd hv (kk p e s m args below meth c C H locs ls hl hH hS)
theorem go_null  (hd : decode M.2.1 pc = .ok (.aconst_null, 1)) (kk : Go l Γ M dp mc ms Φ Ψ k n w (pc + 1) L (.null :: st)) : Go l Γ M dp mc ms Φ Ψ k n w pc L st := fun p e s m args below meth c C H locs ls hl hH hS => lv_null C.1 C.2.1 hd (kk p e s m args below meth c C H locs ls hl hH hS)
theorem go_iload {i : Nat} {x : Int32} (hd : decode M.2.1 pc = .ok (.iload i, 2)) (h : lget L i = some (.int x)) (kk : Go l Γ M dp mc ms Φ Ψ k n w (pc + 2) L (.int x :: st)) : Go l Γ M dp mc ms Φ Ψ k n w pc L st := fun p e s m args below meth c C H locs ls hl hH hS => lv_iload C.1 C.2.1 hd (lget_at hl h) (kk p e s m args below meth c C H locs ls hl hH hS)
theorem go_iload_n {i : Fin 4} {x : Int32} (hd : decode M.2.1 pc = .ok (.iload_n i, 1)) (h : lget L (i : Nat) = some (.int x)) (kk : Go l Γ M dp mc ms Φ Ψ k n w (pc + 1) L (.int x :: st)) : Go l Γ M dp mc ms Φ Ψ k n w pc L st := fun p e s m args below meth c C H locs ls hl hH hS => lv_iload_n C.1 C.2.1 hd rfl (lget_at hl h) (kk p e s m args below meth c C H locs ls hl hH hS)
theorem go_istore {i : Nat} {x : Int32} (hd : decode M.2.1 pc = .ok (.istore i, 2)) (h : i < M.2.2.1) (kk : Go l Γ M dp mc ms Φ Ψ k n w (pc + 2) (lset L i (.int x)) st) : Go l Γ M dp mc ms Φ Ψ k n w pc L (.int x :: st) := fun p e s m args below meth c C H locs ls hl hH hS => lv_istore C.1 C.2.1 hd hl h rfl (fun ls hl => kk p e s m args below meth c C H locs ls hl hH hS)
theorem go_istore_n {i : Fin 4} {x : Int32} (hd : decode M.2.1 pc = .ok (.istore_n i, 1)) (h : (i : Nat) < M.2.2.1) (kk : Go l Γ M dp mc ms Φ Ψ k n w (pc + 1) (lset L (i : Nat) (.int x)) st) : Go l Γ M dp mc ms Φ Ψ k n w pc L (.int x :: st) := fun p e s m args below meth c C H locs ls hl hH hS => lv_istore_n C.1 C.2.1 hd rfl hl h rfl (fun ls hl => kk p e s m args below meth c C H locs ls hl hH hS)
theorem go_lload {i : Nat} {x : Int64} (hd : decode M.2.1 pc = .ok (.lload i, 2)) (h : lget L i = some (.long x)) (kk : Go l Γ M dp mc ms Φ Ψ k n w (pc + 2) L (.long x :: st)) : Go l Γ M dp mc ms Φ Ψ k n w pc L st := fun p e s m args below meth c C H locs ls hl hH hS => lv_lload C.1 C.2.1 hd (lget_at hl h) (kk p e s m args below meth c C H locs ls hl hH hS)
theorem go_lload_n {i : Fin 4} {x : Int64} (hd : decode M.2.1 pc = .ok (.lload_n i, 1)) (h : lget L (i : Nat) = some (.long x)) (kk : Go l Γ M dp mc ms Φ Ψ k n w (pc + 1) L (.long x :: st)) : Go l Γ M dp mc ms Φ Ψ k n w pc L st := fun p e s m args below meth c C H locs ls hl hH hS => lv_lload_n C.1 C.2.1 hd rfl (lget_at hl h) (kk p e s m args below meth c C H locs ls hl hH hS)
theorem go_lstore {i : Nat} {x : Int64} (hd : decode M.2.1 pc = .ok (.lstore i, 2)) (h : i + 1 < M.2.2.1) (kk : Go l Γ M dp mc ms Φ Ψ k n w (pc + 2) (lset2 L i (.long x)) st) : Go l Γ M dp mc ms Φ Ψ k n w pc L (.long x :: st) := fun p e s m args below meth c C H locs ls hl hH hS => lv_lstore C.1 C.2.1 hd hl h rfl (fun ls hl => kk p e s m args below meth c C H locs ls hl hH hS)
theorem go_lstore_n {i : Fin 4} {x : Int64} (hd : decode M.2.1 pc = .ok (.lstore_n i, 1)) (h : (i : Nat) + 1 < M.2.2.1) (kk : Go l Γ M dp mc ms Φ Ψ k n w (pc + 1) (lset2 L (i : Nat) (.long x)) st) : Go l Γ M dp mc ms Φ Ψ k n w pc L (.long x :: st) := fun p e s m args below meth c C H locs ls hl hH hS => lv_lstore_n C.1 C.2.1 hd rfl hl h rfl (fun ls hl => kk p e s m args below meth c C H locs ls hl hH hS)
theorem go_aload {i : Nat} {x : Nat} (hd : decode M.2.1 pc = .ok (.aload i, 2)) (h : lget L i = some (.ref x)) (kk : Go l Γ M dp mc ms Φ Ψ k n w (pc + 2) L (.ref x :: st)) : Go l Γ M dp mc ms Φ Ψ k n w pc L st := fun p e s m args below meth c C H locs ls hl hH hS => lv_aload C.1 C.2.1 hd (lget_at hl h) (kk p e s m args below meth c C H locs ls hl hH hS)
theorem go_aload_n {i : Fin 4} {x : Nat} (hd : decode M.2.1 pc = .ok (.aload_n i, 1)) (h : lget L (i : Nat) = some (.ref x)) (kk : Go l Γ M dp mc ms Φ Ψ k n w (pc + 1) L (.ref x :: st)) : Go l Γ M dp mc ms Φ Ψ k n w pc L st := fun p e s m args below meth c C H locs ls hl hH hS => lv_aload_n C.1 C.2.1 hd rfl (lget_at hl h) (kk p e s m args below meth c C H locs ls hl hH hS)
theorem go_astore {i : Nat} {x : Nat} (hd : decode M.2.1 pc = .ok (.astore i, 2)) (h : i < M.2.2.1) (kk : Go l Γ M dp mc ms Φ Ψ k n w (pc + 2) (lset L i (.ref x)) st) : Go l Γ M dp mc ms Φ Ψ k n w pc L (.ref x :: st) := fun p e s m args below meth c C H locs ls hl hH hS => lv_astore C.1 C.2.1 hd hl h rfl (fun ls hl => kk p e s m args below meth c C H locs ls hl hH hS)
theorem go_astore_n {i : Fin 4} {x : Nat} (hd : decode M.2.1 pc = .ok (.astore_n i, 1)) (h : (i : Nat) < M.2.2.1) (kk : Go l Γ M dp mc ms Φ Ψ k n w (pc + 1) (lset L (i : Nat) (.ref x)) st) : Go l Γ M dp mc ms Φ Ψ k n w pc L (.ref x :: st) := fun p e s m args below meth c C H locs ls hl hH hS => lv_astore_n C.1 C.2.1 hd rfl hl h rfl (fun ls hl => kk p e s m args below meth c C H locs ls hl hH hS)
theorem lget_mem {i : Nat} {v : Value} (h : lget L i = some v) : ∃ kq : Nat, L[kq]? = some (i, v) := by
  unfold lget at h
  cases hf : L.find? (fun q => q.1 == i) with
  | none => rw [hf] at h; cases h
  | some q =>
    rw [hf] at h
    cases h
    have h1 := List.find?_some hf
    have h2 : q.1 = i := by simpa using h1
    obtain ⟨j, hj⟩ := List.getElem?_of_mem (List.mem_of_find?_eq_some hf)
    exact ⟨j, by rw [hj, ← h2]⟩
theorem go_iinc {i : Nat} {z : Int} {x v : Int32} (hd : decode M.2.1 pc = .ok (.iinc i z, 3)) (h : lget L i = some (.int x)) (hi : i < M.2.2.1) (hv : Int32.ofInt z = v) (kk : Go l Γ M dp mc ms Φ Ψ k n w (pc + 3) (lset L i (.int (x + v))) st) : Go l Γ M dp mc ms Φ Ψ k n w pc L st := fun p e s m args below meth c C H locs ls hl hH hS => by
  obtain ⟨kq, hkq⟩ := lget_mem h
  exact lv_iinc C.1 C.2.1 hd hl hkq (by rw [hv]) hi rfl (fun ls hl => kk p e s m args below meth c C H locs ls hl hH hS)
theorem go_iadd {x y : Int32} (hd : decode M.2.1 pc = .ok (.iadd, 1)) (kk : Go l Γ M dp mc ms Φ Ψ k n w (pc + 1) L (.int (x + y) :: st)) : Go l Γ M dp mc ms Φ Ψ k n w pc L (.int y :: .int x :: st) := fun p e s m args below meth c C H locs ls hl hH hS => lv_iadd C.1 C.2.1 hd (kk p e s m args below meth c C H locs ls hl hH hS)
theorem go_isub {x y : Int32} (hd : decode M.2.1 pc = .ok (.isub, 1)) (kk : Go l Γ M dp mc ms Φ Ψ k n w (pc + 1) L (.int (x - y) :: st)) : Go l Γ M dp mc ms Φ Ψ k n w pc L (.int y :: .int x :: st) := fun p e s m args below meth c C H locs ls hl hH hS => lv_isub C.1 C.2.1 hd (kk p e s m args below meth c C H locs ls hl hH hS)
theorem go_imul {x y : Int32} (hd : decode M.2.1 pc = .ok (.imul, 1)) (kk : Go l Γ M dp mc ms Φ Ψ k n w (pc + 1) L (.int (x * y) :: st)) : Go l Γ M dp mc ms Φ Ψ k n w pc L (.int y :: .int x :: st) := fun p e s m args below meth c C H locs ls hl hH hS => lv_imul C.1 C.2.1 hd (kk p e s m args below meth c C H locs ls hl hH hS)
theorem go_iand {x y : Int32} (hd : decode M.2.1 pc = .ok (.iand, 1)) (kk : Go l Γ M dp mc ms Φ Ψ k n w (pc + 1) L (.int (x &&& y) :: st)) : Go l Γ M dp mc ms Φ Ψ k n w pc L (.int y :: .int x :: st) := fun p e s m args below meth c C H locs ls hl hH hS => lv_iand C.1 C.2.1 hd (kk p e s m args below meth c C H locs ls hl hH hS)
theorem go_ior {x y : Int32} (hd : decode M.2.1 pc = .ok (.ior, 1)) (kk : Go l Γ M dp mc ms Φ Ψ k n w (pc + 1) L (.int (x ||| y) :: st)) : Go l Γ M dp mc ms Φ Ψ k n w pc L (.int y :: .int x :: st) := fun p e s m args below meth c C H locs ls hl hH hS => lv_ior C.1 C.2.1 hd (kk p e s m args below meth c C H locs ls hl hH hS)
theorem go_ishl {x y : Int32} (hd : decode M.2.1 pc = .ok (.ishl, 1)) (kk : Go l Γ M dp mc ms Φ Ψ k n w (pc + 1) L (.int (x <<< (y &&& 31)) :: st)) : Go l Γ M dp mc ms Φ Ψ k n w pc L (.int y :: .int x :: st) := fun p e s m args below meth c C H locs ls hl hH hS => lv_ishl C.1 C.2.1 hd (kk p e s m args below meth c C H locs ls hl hH hS)
theorem go_ishr {x y : Int32} (hd : decode M.2.1 pc = .ok (.ishr, 1)) (kk : Go l Γ M dp mc ms Φ Ψ k n w (pc + 1) L (.int (x >>> (y &&& 31)) :: st)) : Go l Γ M dp mc ms Φ Ψ k n w pc L (.int y :: .int x :: st) := fun p e s m args below meth c C H locs ls hl hH hS => lv_ishr C.1 C.2.1 hd (kk p e s m args below meth c C H locs ls hl hH hS)
theorem go_iushr {x y : Int32} (hd : decode M.2.1 pc = .ok (.iushr, 1)) (kk : Go l Γ M dp mc ms Φ Ψ k n w (pc + 1) L (.int ((x.toUInt32 >>> (y.toUInt32 &&& Int32.toUInt32 31)).toInt32) :: st)) : Go l Γ M dp mc ms Φ Ψ k n w pc L (.int y :: .int x :: st) := fun p e s m args below meth c C H locs ls hl hH hS => lv_iushr C.1 C.2.1 hd rfl (kk p e s m args below meth c C H locs ls hl hH hS)
theorem go_irem {x y : Int32} (hd : decode M.2.1 pc = .ok (.irem, 1)) (h : ¬ y = 0) (kk : Go l Γ M dp mc ms Φ Ψ k n w (pc + 1) L (.int (x - x / y * y) :: st)) : Go l Γ M dp mc ms Φ Ψ k n w pc L (.int y :: .int x :: st) := fun p e s m args below meth c C H locs ls hl hH hS => lv_irem C.1 C.2.1 hd h (kk p e s m args below meth c C H locs ls hl hH hS)
theorem go_ladd {x y : Int64} (hd : decode M.2.1 pc = .ok (.ladd, 1)) (kk : Go l Γ M dp mc ms Φ Ψ k n w (pc + 1) L (.long (x + y) :: st)) : Go l Γ M dp mc ms Φ Ψ k n w pc L (.long y :: .long x :: st) := fun p e s m args below meth c C H locs ls hl hH hS => lv_ladd C.1 C.2.1 hd (kk p e s m args below meth c C H locs ls hl hH hS)
theorem go_lsub {x y : Int64} (hd : decode M.2.1 pc = .ok (.lsub, 1)) (kk : Go l Γ M dp mc ms Φ Ψ k n w (pc + 1) L (.long (x - y) :: st)) : Go l Γ M dp mc ms Φ Ψ k n w pc L (.long y :: .long x :: st) := fun p e s m args below meth c C H locs ls hl hH hS => lv_lsub C.1 C.2.1 hd (kk p e s m args below meth c C H locs ls hl hH hS)
theorem go_lmul {x y : Int64} (hd : decode M.2.1 pc = .ok (.lmul, 1)) (kk : Go l Γ M dp mc ms Φ Ψ k n w (pc + 1) L (.long (x * y) :: st)) : Go l Γ M dp mc ms Φ Ψ k n w pc L (.long y :: .long x :: st) := fun p e s m args below meth c C H locs ls hl hH hS => lv_lmul C.1 C.2.1 hd (kk p e s m args below meth c C H locs ls hl hH hS)
theorem go_land {x y : Int64} (hd : decode M.2.1 pc = .ok (.land, 1)) (kk : Go l Γ M dp mc ms Φ Ψ k n w (pc + 1) L (.long (x &&& y) :: st)) : Go l Γ M dp mc ms Φ Ψ k n w pc L (.long y :: .long x :: st) := fun p e s m args below meth c C H locs ls hl hH hS => lv_land C.1 C.2.1 hd (kk p e s m args below meth c C H locs ls hl hH hS)
theorem go_lor {x y : Int64} (hd : decode M.2.1 pc = .ok (.lor, 1)) (kk : Go l Γ M dp mc ms Φ Ψ k n w (pc + 1) L (.long (x ||| y) :: st)) : Go l Γ M dp mc ms Φ Ψ k n w pc L (.long y :: .long x :: st) := fun p e s m args below meth c C H locs ls hl hH hS => lv_lor C.1 C.2.1 hd (kk p e s m args below meth c C H locs ls hl hH hS)
theorem go_ldiv {x y : Int64} (hd : decode M.2.1 pc = .ok (.ldiv, 1)) (h : ¬ y = 0) (kk : Go l Γ M dp mc ms Φ Ψ k n w (pc + 1) L (.long (x / y) :: st)) : Go l Γ M dp mc ms Φ Ψ k n w pc L (.long y :: .long x :: st) := fun p e s m args below meth c C H locs ls hl hH hS => lv_ldiv C.1 C.2.1 hd h (kk p e s m args below meth c C H locs ls hl hH hS)
theorem go_lshl {x : Int64} {y : Int32} (hd : decode M.2.1 pc = .ok (.lshl, 1)) (kk : Go l Γ M dp mc ms Φ Ψ k n w (pc + 1) L (.long (x <<< (y.toInt64 &&& 63)) :: st)) : Go l Γ M dp mc ms Φ Ψ k n w pc L (.int y :: .long x :: st) := fun p e s m args below meth c C H locs ls hl hH hS => lv_lshl C.1 C.2.1 hd rfl (kk p e s m args below meth c C H locs ls hl hH hS)
theorem go_lshr {x : Int64} {y : Int32} (hd : decode M.2.1 pc = .ok (.lshr, 1)) (kk : Go l Γ M dp mc ms Φ Ψ k n w (pc + 1) L (.long (x >>> (y.toInt64 &&& 63)) :: st)) : Go l Γ M dp mc ms Φ Ψ k n w pc L (.int y :: .long x :: st) := fun p e s m args below meth c C H locs ls hl hH hS => lv_lshr C.1 C.2.1 hd rfl (kk p e s m args below meth c C H locs ls hl hH hS)
theorem go_i2l {x : Int32} (hd : decode M.2.1 pc = .ok (.i2l, 1)) (kk : Go l Γ M dp mc ms Φ Ψ k n w (pc + 1) L (.long x.toInt64 :: st)) : Go l Γ M dp mc ms Φ Ψ k n w pc L (.int x :: st) := fun p e s m args below meth c C H locs ls hl hH hS => lv_i2l C.1 C.2.1 hd rfl (kk p e s m args below meth c C H locs ls hl hH hS)
theorem go_l2i {x : Int64} (hd : decode M.2.1 pc = .ok (.l2i, 1)) (kk : Go l Γ M dp mc ms Φ Ψ k n w (pc + 1) L (.int x.toInt32 :: st)) : Go l Γ M dp mc ms Φ Ψ k n w pc L (.long x :: st) := fun p e s m args below meth c C H locs ls hl hH hS => lv_l2i C.1 C.2.1 hd rfl (kk p e s m args below meth c C H locs ls hl hH hS)
theorem go_i2b {x : Int32} (hd : decode M.2.1 pc = .ok (.i2b, 1)) (kk : Go l Γ M dp mc ms Φ Ψ k n w (pc + 1) L (.int x.toInt8.toInt32 :: st)) : Go l Γ M dp mc ms Φ Ψ k n w pc L (.int x :: st) := fun p e s m args below meth c C H locs ls hl hH hS => lv_i2b C.1 C.2.1 hd rfl (kk p e s m args below meth c C H locs ls hl hH hS)
theorem go_i2c {x : Int32} (hd : decode M.2.1 pc = .ok (.i2c, 1)) (kk : Go l Γ M dp mc ms Φ Ψ k n w (pc + 1) L (.int (x.toUInt32 % 65536).toInt32 :: st)) : Go l Γ M dp mc ms Φ Ψ k n w pc L (.int x :: st) := fun p e s m args below meth c C H locs ls hl hH hS => lv_i2c C.1 C.2.1 hd rfl (kk p e s m args below meth c C H locs ls hl hH hS)
theorem go_pop {v : Value} (hd : decode M.2.1 pc = .ok (.pop, 1)) (h : v.category = 1) (kk : Go l Γ M dp mc ms Φ Ψ k n w (pc + 1) L st) : Go l Γ M dp mc ms Φ Ψ k n w pc L (v :: st) := fun p e s m args below meth c C H locs ls hl hH hS => lv_pop C.1 C.2.1 hd h (kk p e s m args below meth c C H locs ls hl hH hS)
theorem go_dup {v : Value} (hd : decode M.2.1 pc = .ok (.dup, 1)) (h : v.category = 1) (kk : Go l Γ M dp mc ms Φ Ψ k n w (pc + 1) L (v :: v :: st)) : Go l Γ M dp mc ms Φ Ψ k n w pc L (v :: st) := fun p e s m args below meth c C H locs ls hl hH hS => lv_dup C.1 C.2.1 hd h (kk p e s m args below meth c C H locs ls hl hH hS)
theorem go_dup2 {v u : Value} (hd : decode M.2.1 pc = .ok (.dup2, 1)) (h : v.category = 1) (h2 : u.category = 1) (kk : Go l Γ M dp mc ms Φ Ψ k n w (pc + 1) L (v :: u :: v :: u :: st)) : Go l Γ M dp mc ms Φ Ψ k n w pc L (v :: u :: st) := fun p e s m args below meth c C H locs ls hl hH hS => lv_dup2_11 C.1 C.2.1 hd h h2 (kk p e s m args below meth c C H locs ls hl hH hS)
theorem go_if_eq {x : Int32} {off : Int} (tgt : Nat) (hd : decode M.2.1 pc = .ok (.ifCond .eq off, 3)) (ht : (pc : Int) + off = (tgt : Int)) (kt : x = 0 → Go l Γ M dp mc ms Φ Ψ k n w tgt L st) (kf : ¬ x = 0 → Go l Γ M dp mc ms Φ Ψ k n w (pc + 3) L st) : Go l Γ M dp mc ms Φ Ψ k n w pc L (.int x :: st) := fun p e s m args below meth c C H locs ls hl hH hS => lv_if_eq C.1 C.2.1 hd ht (fun h => kt h p e s m args below meth c C H locs ls hl hH hS) (fun h => kf h p e s m args below meth c C H locs ls hl hH hS)
theorem go_icmp_eq {x y : Int32} {off : Int} (tgt : Nat) (hd : decode M.2.1 pc = .ok (.if_icmp .eq off, 3)) (ht : (pc : Int) + off = (tgt : Int)) (kt : x = y → Go l Γ M dp mc ms Φ Ψ k n w tgt L st) (kf : ¬ x = y → Go l Γ M dp mc ms Φ Ψ k n w (pc + 3) L st) : Go l Γ M dp mc ms Φ Ψ k n w pc L (.int y :: .int x :: st) := fun p e s m args below meth c C H locs ls hl hH hS => lv_icmp_eq C.1 C.2.1 hd ht (fun h => kt h p e s m args below meth c C H locs ls hl hH hS) (fun h => kf h p e s m args below meth c C H locs ls hl hH hS)
theorem go_if_ne {x : Int32} {off : Int} (tgt : Nat) (hd : decode M.2.1 pc = .ok (.ifCond .ne off, 3)) (ht : (pc : Int) + off = (tgt : Int)) (kt : ¬ x = 0 → Go l Γ M dp mc ms Φ Ψ k n w tgt L st) (kf : x = 0 → Go l Γ M dp mc ms Φ Ψ k n w (pc + 3) L st) : Go l Γ M dp mc ms Φ Ψ k n w pc L (.int x :: st) := fun p e s m args below meth c C H locs ls hl hH hS => lv_if_ne C.1 C.2.1 hd ht (fun h => kt h p e s m args below meth c C H locs ls hl hH hS) (fun h => kf h p e s m args below meth c C H locs ls hl hH hS)
theorem go_icmp_ne {x y : Int32} {off : Int} (tgt : Nat) (hd : decode M.2.1 pc = .ok (.if_icmp .ne off, 3)) (ht : (pc : Int) + off = (tgt : Int)) (kt : ¬ x = y → Go l Γ M dp mc ms Φ Ψ k n w tgt L st) (kf : x = y → Go l Γ M dp mc ms Φ Ψ k n w (pc + 3) L st) : Go l Γ M dp mc ms Φ Ψ k n w pc L (.int y :: .int x :: st) := fun p e s m args below meth c C H locs ls hl hH hS => lv_icmp_ne C.1 C.2.1 hd ht (fun h => kt h p e s m args below meth c C H locs ls hl hH hS) (fun h => kf h p e s m args below meth c C H locs ls hl hH hS)
theorem go_if_lt {x : Int32} {off : Int} (tgt : Nat) (hd : decode M.2.1 pc = .ok (.ifCond .lt off, 3)) (ht : (pc : Int) + off = (tgt : Int)) (kt : x < 0 → Go l Γ M dp mc ms Φ Ψ k n w tgt L st) (kf : ¬ x < 0 → Go l Γ M dp mc ms Φ Ψ k n w (pc + 3) L st) : Go l Γ M dp mc ms Φ Ψ k n w pc L (.int x :: st) := fun p e s m args below meth c C H locs ls hl hH hS => lv_if_lt C.1 C.2.1 hd ht (fun h => kt h p e s m args below meth c C H locs ls hl hH hS) (fun h => kf h p e s m args below meth c C H locs ls hl hH hS)
theorem go_icmp_lt {x y : Int32} {off : Int} (tgt : Nat) (hd : decode M.2.1 pc = .ok (.if_icmp .lt off, 3)) (ht : (pc : Int) + off = (tgt : Int)) (kt : x < y → Go l Γ M dp mc ms Φ Ψ k n w tgt L st) (kf : ¬ x < y → Go l Γ M dp mc ms Φ Ψ k n w (pc + 3) L st) : Go l Γ M dp mc ms Φ Ψ k n w pc L (.int y :: .int x :: st) := fun p e s m args below meth c C H locs ls hl hH hS => lv_icmp_lt C.1 C.2.1 hd ht (fun h => kt h p e s m args below meth c C H locs ls hl hH hS) (fun h => kf h p e s m args below meth c C H locs ls hl hH hS)
theorem go_if_ge {x : Int32} {off : Int} (tgt : Nat) (hd : decode M.2.1 pc = .ok (.ifCond .ge off, 3)) (ht : (pc : Int) + off = (tgt : Int)) (kt : 0 ≤ x → Go l Γ M dp mc ms Φ Ψ k n w tgt L st) (kf : ¬ 0 ≤ x → Go l Γ M dp mc ms Φ Ψ k n w (pc + 3) L st) : Go l Γ M dp mc ms Φ Ψ k n w pc L (.int x :: st) := fun p e s m args below meth c C H locs ls hl hH hS => lv_if_ge C.1 C.2.1 hd ht (fun h => kt h p e s m args below meth c C H locs ls hl hH hS) (fun h => kf h p e s m args below meth c C H locs ls hl hH hS)
theorem go_icmp_ge {x y : Int32} {off : Int} (tgt : Nat) (hd : decode M.2.1 pc = .ok (.if_icmp .ge off, 3)) (ht : (pc : Int) + off = (tgt : Int)) (kt : y ≤ x → Go l Γ M dp mc ms Φ Ψ k n w tgt L st) (kf : ¬ y ≤ x → Go l Γ M dp mc ms Φ Ψ k n w (pc + 3) L st) : Go l Γ M dp mc ms Φ Ψ k n w pc L (.int y :: .int x :: st) := fun p e s m args below meth c C H locs ls hl hH hS => lv_icmp_ge C.1 C.2.1 hd ht (fun h => kt h p e s m args below meth c C H locs ls hl hH hS) (fun h => kf h p e s m args below meth c C H locs ls hl hH hS)
theorem go_if_gt {x : Int32} {off : Int} (tgt : Nat) (hd : decode M.2.1 pc = .ok (.ifCond .gt off, 3)) (ht : (pc : Int) + off = (tgt : Int)) (kt : 0 < x → Go l Γ M dp mc ms Φ Ψ k n w tgt L st) (kf : ¬ 0 < x → Go l Γ M dp mc ms Φ Ψ k n w (pc + 3) L st) : Go l Γ M dp mc ms Φ Ψ k n w pc L (.int x :: st) := fun p e s m args below meth c C H locs ls hl hH hS => lv_if_gt C.1 C.2.1 hd ht (fun h => kt h p e s m args below meth c C H locs ls hl hH hS) (fun h => kf h p e s m args below meth c C H locs ls hl hH hS)
theorem go_icmp_gt {x y : Int32} {off : Int} (tgt : Nat) (hd : decode M.2.1 pc = .ok (.if_icmp .gt off, 3)) (ht : (pc : Int) + off = (tgt : Int)) (kt : y < x → Go l Γ M dp mc ms Φ Ψ k n w tgt L st) (kf : ¬ y < x → Go l Γ M dp mc ms Φ Ψ k n w (pc + 3) L st) : Go l Γ M dp mc ms Φ Ψ k n w pc L (.int y :: .int x :: st) := fun p e s m args below meth c C H locs ls hl hH hS => lv_icmp_gt C.1 C.2.1 hd ht (fun h => kt h p e s m args below meth c C H locs ls hl hH hS) (fun h => kf h p e s m args below meth c C H locs ls hl hH hS)
theorem go_if_le {x : Int32} {off : Int} (tgt : Nat) (hd : decode M.2.1 pc = .ok (.ifCond .le off, 3)) (ht : (pc : Int) + off = (tgt : Int)) (kt : x ≤ 0 → Go l Γ M dp mc ms Φ Ψ k n w tgt L st) (kf : ¬ x ≤ 0 → Go l Γ M dp mc ms Φ Ψ k n w (pc + 3) L st) : Go l Γ M dp mc ms Φ Ψ k n w pc L (.int x :: st) := fun p e s m args below meth c C H locs ls hl hH hS => lv_if_le C.1 C.2.1 hd ht (fun h => kt h p e s m args below meth c C H locs ls hl hH hS) (fun h => kf h p e s m args below meth c C H locs ls hl hH hS)
theorem go_icmp_le {x y : Int32} {off : Int} (tgt : Nat) (hd : decode M.2.1 pc = .ok (.if_icmp .le off, 3)) (ht : (pc : Int) + off = (tgt : Int)) (kt : x ≤ y → Go l Γ M dp mc ms Φ Ψ k n w tgt L st) (kf : ¬ x ≤ y → Go l Γ M dp mc ms Φ Ψ k n w (pc + 3) L st) : Go l Γ M dp mc ms Φ Ψ k n w pc L (.int y :: .int x :: st) := fun p e s m args below meth c C H locs ls hl hH hS => lv_icmp_le C.1 C.2.1 hd ht (fun h => kt h p e s m args below meth c C H locs ls hl hH hS) (fun h => kf h p e s m args below meth c C H locs ls hl hH hS)
theorem go_goto {off : Int} (tgt : Nat) (hd : decode M.2.1 pc = .ok (.goto off, 3)) (ht : (pc : Int) + off = (tgt : Int)) (kk : Go l Γ M dp mc ms Φ Ψ k n w tgt L st) : Go l Γ M dp mc ms Φ Ψ k n w pc L st := fun p e s m args below meth c C H locs ls hl hH hS => lv_goto C.1 C.2.1 hd ht (kk p e s m args below meth c C H locs ls hl hH hS)
theorem go_ifnonnull {x : Nat} {off : Int} (tgt : Nat) (hd : decode M.2.1 pc = .ok (.ifnonnull off, 3)) (ht : (pc : Int) + off = (tgt : Int)) (kk : Go l Γ M dp mc ms Φ Ψ k n w tgt L st) : Go l Γ M dp mc ms Φ Ψ k n w pc L (.ref x :: st) := fun p e s m args below meth c C H locs ls hl hH hS => lv_ifnonnull C.1 C.2.1 hd ht (kk p e s m args below meth c C H locs ls hl hH hS)
theorem go_ifnonnullN {off : Int} (hd : decode M.2.1 pc = .ok (.ifnonnull off, 3)) (kk : Go l Γ M dp mc ms Φ Ψ k n w (pc + 3) L st) : Go l Γ M dp mc ms Φ Ψ k n w pc L (.null :: st) := fun p e s m args below meth c C H locs ls hl hH hS => lv_ifnonnullN C.1 C.2.1 hd (kk p e s m args below meth c C H locs ls hl hH hS)
theorem go_lcmp {x y : Int64} (hd : decode M.2.1 pc = .ok (.lcmp, 1)) (kk : Go l Γ M dp mc ms Φ Ψ k n w (pc + 1) L (.int (lg_cmp x y) :: st)) : Go l Γ M dp mc ms Φ Ψ k n w pc L (.long y :: .long x :: st) := fun p e s m args below meth c C H locs ls hl hH hS => W.lcmp C.1 C.2.1 hd (kk p e s m args below meth c C H locs ls hl hH hS)
end GoRules
end
section
section GoHeap
variable {l : Launch} {Γ : ZG} {M : ZM} {dp mc ms : Nat} {Φ : Option Value → ZW → Prop} {Ψ : String → ZW → Prop} {k n : Nat} {w : ZW} {pc : Nat} {L : ZL} {st : List Value}
/-- the field reference at this entry of this class is slot j of class ci -/
def zF (own : String) (idx ci j : Nat) : Prop := ∃ (C : String) (T : u_T) (N : Nat), vwCl[ci]? = some (C, T, N) ∧ j < N ∧ (∀ w ∈ u_ws C T N, w ∈ zGood) ∧ (Cond.fieldLink own idx (T j).1 (T j).2.1 (T j).2.2.1 ∈ zGood ∨ ∃ host : String, Cond.fieldLinkNest own idx (T j).1 (T j).2.1 (T j).2.2.1 host ∈ zNest)
/-- .. and may be written, with values of this type -/
def zFp (own : String) (idx ci j : Nat) (ty : FieldType) : Prop := ∃ (C : String) (T : u_T) (N : Nat) (ty0 : Nat → FieldType), vwCl[ci]? = some (C, T, N) ∧ j < N ∧ (∀ w ∈ u_ws C T N, w ∈ zGood) ∧ (Cond.fieldLink own idx (T j).1 (T j).2.1 (T j).2.2.1 ∈ zGood ∨ ∃ host : String, Cond.fieldLinkNest own idx (T j).1 (T j).2.1 (T j).2.2.1 host ∈ zNest) ∧
  (∀ k, k < N → parseFieldDescriptor (T k).2.2.1 = some (ty0 k)) ∧ (∀ a, a < N → ∀ b, b < N → a ≠ b → (T a).2.1 ≠ (T b).2.1) ∧ (T j).2.2.2 = false ∧ parseFieldDescriptor (T j).2.2.1 = some ty
/-- a final field, written in its class's constructor -/
def zFf (own : String) (idx ci j : Nat) (ty : FieldType) : Prop := ∃ (C : String) (T : u_T) (N : Nat) (ty0 : Nat → FieldType), vwCl[ci]? = some (C, T, N) ∧ j < N ∧ (∀ w ∈ u_ws C T N, w ∈ zGood) ∧ Cond.fieldLink own idx (T j).1 (T j).2.1 (T j).2.2.1 ∈ zGood ∧
  (∀ k, k < N → parseFieldDescriptor (T k).2.2.1 = some (ty0 k)) ∧ (∀ a, a < N → ∀ b, b < N → a ≠ b → (T a).2.1 ≠ (T b).2.1) ∧ (T j).2.2.2 = true ∧ (T j).1 = own ∧ parseFieldDescriptor (T j).2.2.1 = some ty
/-- an object of class ci may be made from this entry: N slots, holding fs -/
def zNew (own : String) (idx ci N : Nat) (fs : List Value) : Prop := ∃ (C : String) (T : u_T) (ty0 : Nat → FieldType), vwCl[ci]? = some (C, T, N) ∧ (∀ w ∈ u_ws C T N, w ∈ zGood) ∧ (∀ k, k < N → parseFieldDescriptor (T k).2.2.1 = some (ty0 k)) ∧ Cond.classLink own idx C ∈ zGood ∧ Cond.instantiable C N ∈ zGood ∧ Cond.initialized C ∈ zGood ∧ ∀ j, j < N → defaultValue (ty0 j) = vp_V fs j
theorem zC.good {M : ZM} {p : Program} {s : State} {m : MethodId} {args : Array Value} {meth : Method} {c : Code} (C : zC l Γ M p s m args meth c) {w : Cond} (h : w ∈ zGood) : w.before args s = true := C.2.2.2.2.1 w (List.mem_cons_of_mem _ h)
theorem zC.own {M : ZM} {p : Program} {s : State} {m : MethodId} {args : Array Value} {meth : Method} {c : Code} (C : zC l Γ M p s m args meth c) : s.vm.findClass M.1.cls = some m.cls := C.2.2.2.2.2.1
theorem zC.stat {M : ZM} {p : Program} {s : State} {m : MethodId} {args : Array Value} {meth : Method} {c : Code} (C : zC l Γ M p s m args meth c) : zS Γ s s.heap := C.2.2.2.2.2.2.2.2.1
theorem zC.big {M : ZM} {p : Program} {s : State} {m : MethodId} {args : Array Value} {meth : Method} {c : Code} (C : zC l Γ M p s m args meth c) : Γ.1 ≤ s.heap.size := C.2.2.2.2.2.2.2.2.2.1
theorem zC.arr {M : ZM} {p : Program} {s : State} {m : MethodId} {args : Array Value} {meth : Method} {c : Code} (C : zC l Γ M p s m args meth c) (i : Nat) {q : ClassId × FieldType} (h : (zt Γ)[i]? = some q) : ArrOfT s q.1 q.2 ∧ va_RA s q.1 q.2 := C.stat.1.2 i q h
theorem go_get {index ci j a : Nat} {fs : List Value} {v : Value} (hd : decode M.2.1 pc = .ok (.getfield index, 3)) (F : zF M.1.cls index ci j) (hw : w.2 a = some (.inr (ci, fs))) (hv : fs[j]? = some v) (kk : Go l Γ M dp mc ms Φ Ψ k n w (pc + 3) L (v :: st)) : Go l Γ M dp mc ms Φ Ψ k n w pc L (.ref a :: st) := by
  intro p e s m args below meth c C H locs ls hl hH hS
  obtain ⟨Cn, T, N, hc, hj, hin, hlink⟩ := F
  have hP := zH.one hH hw
  have k2 := kk p e s m args below meth c C H locs ls hl hH hS
  rcases hlink with h | ⟨host, h⟩
  · exact va_get C.1 C.2.1 (Ts := zGood) (fun w hw => C.good hw) hin C.own C.stat.1 hP 0 rfl hc j hj (C.good h) (fun _ h => h) hv hd k2
  · exact va_getN C.1 C.2.1 (Ts := zGood) (fun w hw => C.good hw) hin C.own C.stat.1 hP 0 rfl hc j hj (va_Nw.use rfl (C.stat.2.1 _ h)) (fun _ h => h) hv hd k2
theorem go_put {index ci j a : Nat} {fs : List Value} {v : Value} {ty : FieldType} (hd : decode M.2.1 pc = .ok (.putfield index, 3)) (F : zFp M.1.cls index ci j ty) (hw : w.2 a = some (.inr (ci, fs))) (hl9 : j < fs.length) (hn : narrow ty v = v) (hfit : fits ty v = true) (kk : Go l Γ M dp mc ms Φ Ψ k n (wset w a (.inr (ci, fs.set j v))) (pc + 3) L st) : Go l Γ M dp mc ms Φ Ψ k n w pc L (v :: .ref a :: st) := by
  intro p e s m args below meth c C H locs ls hl hH hS
  obtain ⟨Cn, T, N, ty0, hc, hj, hin, hlink, hty, hnm, hfin, hpd⟩ := F
  have hK := C.stat.1
  have hts : ∀ w ∈ zGood, w.before args s = true := fun w hw => C.good hw
  have hap := va_apart (own := M.1.cls) hts hin ty0 hty hnm hK hc
  obtain ⟨haG, hat⟩ := hH.2.2 a _ hw
  obtain ⟨r, h1, cell, q1, q2, q3, q4⟩ := hat
  have hr : r = (Cn, T, N) := Option.some.inj (h1.symm.trans hc)
  subst hr
  obtain ⟨hSl, hfc, kC, hkC, hkind⟩ := hK.1 ci _ hc
  obtain ⟨cf, kf, fi, f, hi, hsl⟩ := hSl j hj
  have hlay := hts _ (hin _ (u_in_lay hj))
  unfold u_lay at hlay
  rw [if_neg (by rw [hfin]; decide)] at hlay
  have hst := (u_facts hfc hkC (u_lays hts hin hj) hi).1
  have h6 := u_store hfc hkC hkind hlay hi hpd hn hfit
  have fin9 : ∀ H' : Heap, H'[a]? = some (cell.setSlot f.slot v) → H'.size = H.size → (∀ q, q ≠ a → H'[q]? = H[q]?) → W p l e (zRm dp mc ms) s m args below meth c H' (locs ++ [⟨a, f.slot⟩]) k n (vx_MQ below (zQ Γ Φ) (zX Γ Ψ) args s mc ms (zA Γ)) (F0 m (pc + 3) ls st) := by
    intro H' e1 e2 e3
    rw [hsl] at e1 ⊢
    exact kk p e s m args below meth c C H' _ ls hl (hH.set haG ⟨_, hc, t_OB.to (V := updV (vp_V fs) j v) ⟨_, e1, q2, q3, t_set q4 hap hj v⟩ (fun i _ => vp_updV_set hl9 v i)⟩ e2 e3) (hS.put e2 e3 haG)
  rcases hlink with h | ⟨host, h⟩
  · exact W.putK C.1 C.2.1 (f := f) ⟨C.own, C.good h, ⟨_, _, _, hi⟩, hst⟩ (by rw [q2]; exact h6) q1 q3 (by rw [hsl]; exact k2_hasslot (q4 j hj)) rfl rfl hd fin9
  · exact va_WputK C.1 C.2.1 (f := f) C.own (va_Nw.use rfl (C.stat.2.1 _ h)) hi hst (by rw [q2]; exact h6) q1 q3 (by rw [hsl]; exact k2_hasslot (q4 j hj)) rfl rfl hd fin9
theorem go_putF {index ci j a : Nat} {fs : List Value} {v : Value} {ty : FieldType} (hd : decode M.2.1 pc = .ok (.putfield index, 3)) (F : zFf M.1.cls index ci j ty) (hin2 : M.1.name = "<init>") (hw : w.2 a = some (.inr (ci, fs))) (hl9 : j < fs.length) (hn : narrow ty v = v) (hfit : fits ty v = true) (kk : Go l Γ M dp mc ms Φ Ψ k n (wset w a (.inr (ci, fs.set j v))) (pc + 3) L st) : Go l Γ M dp mc ms Φ Ψ k n w pc L (v :: .ref a :: st) := by
  intro p e s m args below meth c C H locs ls hl hH hS
  obtain ⟨Cn, T, N, ty0, hc, hj, hin, hlink, hty, hnm, hfin, hdecl, hpd⟩ := F
  have hK := C.stat.1
  have hts : ∀ w ∈ zGood, w.before args s = true := fun w hw => C.good hw
  have hap := va_apart (own := M.1.cls) hts hin ty0 hty hnm hK hc
  obtain ⟨haG, hat⟩ := hH.2.2 a _ hw
  obtain ⟨r, h1, cell, q1, q2, q3, q4⟩ := hat
  have hr : r = (Cn, T, N) := Option.some.inj (h1.symm.trans hc)
  subst hr
  obtain ⟨hSl, hfc, kC, hkC, hkind⟩ := hK.1 ci _ hc
  obtain ⟨cf, kf, fi, f, hi, hsl⟩ := hSl j hj
  have hlay := hts _ (hin _ (u_in_lay hj))
  unfold u_lay at hlay
  rw [if_pos hfin] at hlay
  have hst := (u_facts hfc hkC (u_lays hts hin hj) hi).1
  have hcf : m.cls = cf := by
    obtain ⟨_, _, c', _, _, _, -, -, hf', -, -, -, hown2, -⟩ := Cond.laysFinal_spec hlay
    have e1 : c' = cf := by have := hi.symm.trans hf'; simp at this; exact this.1.symm
    rw [hdecl] at hown2
    rw [← e1]; exact Option.some.inj (C.own.symm.trans hown2)
  have h6 := u_fits hfc hkC hkind (Or.inr hlay) hi hpd hn hfit
  refine W.putFinK C.1 C.2.1 C.own (C.good hlink) hi hst hcf (C.2.2.2.2.2.2.2.1.trans hin2) (by rw [q2]; exact h6) q1 q3 (by rw [hsl]; exact k2_hasslot (q4 j hj)) rfl rfl hd fun H' e1 e2 e3 => ?_
  rw [hsl] at e1 ⊢
  exact kk p e s m args below meth c C H' _ ls hl (hH.set haG ⟨_, hc, t_OB.to (V := updV (vp_V fs) j v) ⟨_, e1, q2, q3, t_set q4 hap hj v⟩ (fun i _ => vp_updV_set hl9 v i)⟩ e2 e3) (hS.put e2 e3 haG)
theorem go_iald {a N : Nat} {f : Nat → Int32} {i : Int32} (hd : decode M.2.1 pc = .ok (.iaload, 1)) (hw : w.2 a = some (.inl (Γ.2.2.1 0, N, .inl f))) (hin : vp_in i N) (kk : Go l Γ M dp mc ms Φ Ψ k n w (pc + 1) L (.int (f i.toNatClampNeg) :: st)) : Go l Γ M dp mc ms Φ Ψ k n w pc L (.int i :: .ref a :: st) :=
  fun p e s m args below meth c C H locs ls hl hH hS => va_iald C.1 C.2.1 C.stat.1 (zH.one hH hw) 0 0 rfl rfl hin hd (kk p e s m args below meth c C H locs ls hl hH hS)
theorem go_bald {a N : Nat} {f : Nat → Int32} {i : Int32} (hd : decode M.2.1 pc = .ok (.baload, 1)) (hw : w.2 a = some (.inl (Γ.2.2.1 1, N, .inl f))) (hin : vp_in i N) (kk : Go l Γ M dp mc ms Φ Ψ k n w (pc + 1) L (.int (f i.toNatClampNeg) :: st)) : Go l Γ M dp mc ms Φ Ψ k n w pc L (.int i :: .ref a :: st) :=
  fun p e s m args below meth c C H locs ls hl hH hS => va_bald C.1 C.2.1 C.stat.1 (zH.one hH hw) 0 1 rfl rfl hin hd (kk p e s m args below meth c C H locs ls hl hH hS)
theorem go_lald {a N : Nat} {f : Nat → Int64} {i : Int32} (hd : decode M.2.1 pc = .ok (.laload, 1)) (hw : w.2 a = some (.inl (Γ.2.2.1 2, N, .inr (.inl f)))) (hin : vp_in i N) (kk : Go l Γ M dp mc ms Φ Ψ k n w (pc + 1) L (.long (f i.toNatClampNeg) :: st)) : Go l Γ M dp mc ms Φ Ψ k n w pc L (.int i :: .ref a :: st) :=
  fun p e s m args below meth c C H locs ls hl hH hS => va_lald C.1 C.2.1 C.stat.1 (zH.one hH hw) 0 2 rfl rfl hin hd (kk p e s m args below meth c C H locs ls hl hH hS)
theorem go_aald {a N : Nat} {f : Nat → Option Nat} {i : Int32} (hd : decode M.2.1 pc = .ok (.aaload, 1)) (hw : w.2 a = some (.inl (Γ.2.2.1 3, N, .inr (.inr (.inr (.inr f)))))) (hin : vp_in i N) (kk : Go l Γ M dp mc ms Φ Ψ k n w (pc + 1) L (va_rf (f i.toNatClampNeg) :: st)) : Go l Γ M dp mc ms Φ Ψ k n w pc L (.int i :: .ref a :: st) :=
  fun p e s m args below meth c C H locs ls hl hH hS => va_aldq C.1 C.2.1 C.stat.1 (zH.one hH hw) 0 3 rfl rfl hin hd (kk p e s m args below meth c C H locs ls hl hH hS)
theorem go_aaldA {a N : Nat} {f : Nat → Option Nat} {i : Int32} (hd : decode M.2.1 pc = .ok (.aaload, 1)) (hw : w.2 a = some (.inl (Γ.2.2.1 4, N, .inr (.inr (.inr (.inr f)))))) (hin : vp_in i N) (kk : Go l Γ M dp mc ms Φ Ψ k n w (pc + 1) L (va_rf (f i.toNatClampNeg) :: st)) : Go l Γ M dp mc ms Φ Ψ k n w pc L (.int i :: .ref a :: st) := by
  intro p e s m args below meth c C H locs ls hl hH hS
  have hlt : i.toNatClampNeg < N := Nat.not_le.mp fun q => hin (Or.inr q)
  exact W.aald (v := va_rf (f i.toNatClampNeg)) (ty := .array .int) C.1 C.2.1 (zH.one hH hw 0 _ rfl) ((C.arr 4 rfl).1 N (fun j => va_rf (f j))) rfl (fun q => by cases q) (by show ¬ (i < 0 ∨ (arrV _ _ _).slots.size ≤ _); rw [arrV_size]; exact hin) (by show (arrV _ _ _).slots[_]? = _; rw [arrV_read _ _ hlt]) rfl rfl hd (kk p e s m args below meth c C H locs ls hl hH hS)
theorem go_alen {a N t0 : Nat} {x : (Nat → Int32) ⊕ (Nat → Int64) ⊕ (Nat → UInt32) ⊕ (Nat → UInt64) ⊕ (Nat → Option Nat)} {ty : FieldType} {v : Int32} (hd : decode M.2.1 pc = .ok (.arraylength, 1)) (hw : w.2 a = some (.inl (Γ.2.2.1 t0, N, x))) (ht : (zt Γ)[t0]? = some (Γ.2.2.1 t0, ty)) (hv : Int32.ofNat N = v) (kk : Go l Γ M dp mc ms Φ Ψ k n w (pc + 1) L (.int v :: st)) : Go l Γ M dp mc ms Φ Ψ k n w pc L (.ref a :: st) :=
  fun p e s m args below meth c C H locs ls hl hH hS => va_alen C.1 C.2.1 C.stat.1 (zH.one hH hw) 0 t0 rfl ht hv hd (kk p e s m args below meth c C H locs ls hl hH hS)
theorem go_sld {i : Int32} (hd : decode M.2.1 pc = .ok (.iaload, 1)) (hin : vp_in i Γ.2.2.2.2.2.1) (kk : Go l Γ M dp mc ms Φ Ψ k n w (pc + 1) L (.int (Γ.2.2.2.2.2.2 i.toNatClampNeg) :: st)) : Go l Γ M dp mc ms Φ Ψ k n w pc L (.int i :: .ref Γ.2.2.2.2.1 :: st) :=
  fun p e s m args below meth c C H locs ls hl hH hS => va_sld C.1 C.2.1 C.stat.2.2.2.2.2.2.1 (Nat.lt_of_lt_of_le C.stat.2.2.2.2.2.2.2 C.big) (Nat.not_le.mpr C.stat.2.2.2.2.2.2.2) hS hin hd (kk p e s m args below meth c C H locs ls hl hH hS)
theorem go_slen (hd : decode M.2.1 pc = .ok (.arraylength, 1)) (kk : Go l Γ M dp mc ms Φ Ψ k n w (pc + 1) L (.int (Int32.ofNat Γ.2.2.2.2.2.1) :: st)) : Go l Γ M dp mc ms Φ Ψ k n w pc L (.ref Γ.2.2.2.2.1 :: st) :=
  fun p e s m args below meth c C H locs ls hl hH hS => va_slen C.1 C.2.1 C.stat.2.2.2.2.2.2.1 (Nat.lt_of_lt_of_le C.stat.2.2.2.2.2.2.2 C.big) (Nat.not_le.mpr C.stat.2.2.2.2.2.2.2) hS hd (kk p e s m args below meth c C H locs ls hl hH hS)
theorem go_iast {a N : Nat} {f : Nat → Int32} {i : Int32} {x : Int32} (hd : decode M.2.1 pc = .ok (.iastore, 1)) (hw : w.2 a = some (.inl (Γ.2.2.1 0, N, .inl (f)))) (hin : vp_in i N) (kk : Go l Γ M dp mc ms Φ Ψ k n (wset w a (.inl (Γ.2.2.1 0, N, .inl (upd f i.toNatClampNeg x)))) (pc + 1) L st) : Go l Γ M dp mc ms Φ Ψ k n w pc L (.int x :: .int i :: .ref a :: st) := by
  intro p e s m args below meth c C H locs ls hl hH hS
  obtain ⟨haG, hat⟩ := hH.2.2 a _ hw
  refine W.iast C.1 C.2.1 hat ((C.arr 0 rfl).1 N (fun j => .int (f j))) (fun q => by cases q) (by show ¬ (i < 0 ∨ (arrV _ _ _).slots.size ≤ _); rw [arrV_size]; exact hin) rfl rfl hd fun H1 e1 z oq => ?_
  refine kk p e s m args below meth c C H1 _ ls hl (hH.set haG ?_ z oq) (hS.put z oq haG)
  show H1[a]? = some (vp_cell _ _)
  rw [e1]
  rw [vp_cell_i, vp_cell_i, arrV_store]
  congr 2
  funext q
  by_cases hq : q = i.toNatClampNeg
  · subst hq
    simp [updV, upd]
    try rfl
  · simp [updV, upd, hq]
theorem go_bast {a N : Nat} {f : Nat → Int32} {i : Int32} {x : Int32} (hd : decode M.2.1 pc = .ok (.bastore, 1)) (hw : w.2 a = some (.inl (Γ.2.2.1 1, N, .inl (f)))) (hin : vp_in i N) (kk : Go l Γ M dp mc ms Φ Ψ k n (wset w a (.inl (Γ.2.2.1 1, N, .inl (upd f i.toNatClampNeg (vp_nar .byte x))))) (pc + 1) L st) : Go l Γ M dp mc ms Φ Ψ k n w pc L (.int x :: .int i :: .ref a :: st) := by
  intro p e s m args below meth c C H locs ls hl hH hS
  obtain ⟨haG, hat⟩ := hH.2.2 a _ hw
  refine W.bast C.1 C.2.1 hat ((C.arr 1 rfl).1 N (fun j => .int (f j))) (fun q => by cases q) (by show ¬ (i < 0 ∨ (arrV _ _ _).slots.size ≤ _); rw [arrV_size]; exact hin) rfl rfl hd fun H1 e1 z oq => ?_
  refine kk p e s m args below meth c C H1 _ ls hl (hH.set haG ?_ z oq) (hS.put z oq haG)
  show H1[a]? = some (vp_cell _ _)
  rw [e1]
  rw [vp_cell_i, vp_cell_i, arrV_store]
  congr 2
  funext q
  by_cases hq : q = i.toNatClampNeg
  · subst hq
    simp [updV, upd, vp_nar]
    try rfl
  · simp [updV, upd, vp_nar, hq]
theorem go_last {a N : Nat} {f : Nat → Int64} {i : Int32} {x : Int64} (hd : decode M.2.1 pc = .ok (.lastore, 1)) (hw : w.2 a = some (.inl (Γ.2.2.1 2, N, .inr (.inl (f))))) (hin : vp_in i N) (kk : Go l Γ M dp mc ms Φ Ψ k n (wset w a (.inl (Γ.2.2.1 2, N, .inr (.inl (vp_updL f i.toNatClampNeg x))))) (pc + 1) L st) : Go l Γ M dp mc ms Φ Ψ k n w pc L (.long x :: .int i :: .ref a :: st) := by
  intro p e s m args below meth c C H locs ls hl hH hS
  obtain ⟨haG, hat⟩ := hH.2.2 a _ hw
  refine W.last C.1 C.2.1 hat ((C.arr 2 rfl).1 N (fun j => .long (f j))) (fun q => by cases q) (by show ¬ (i < 0 ∨ (arrV _ _ _).slots.size ≤ _); rw [arrV_size]; exact hin) rfl rfl hd fun H1 e1 z oq => ?_
  refine kk p e s m args below meth c C H1 _ ls hl (hH.set haG ?_ z oq) (hS.put z oq haG)
  show H1[a]? = some (vp_cell _ _)
  rw [e1]
  rw [vp_cell_l, vp_cell_l, arrV_store]
  congr 2
  funext q
  by_cases hq : q = i.toNatClampNeg
  · subst hq
    simp [updV, vp_updL]
    try rfl
  · simp [updV, vp_updL, hq]
theorem go_new {index ci N : Nat} {fs : List Value} (hd : decode M.2.1 pc = .ok (.new index, 3)) (F : zNew M.1.cls index ci N fs) (hc1 : k + 1 ≤ mc) (hs1 : n + N ≤ ms) (kk : Go l Γ M dp mc ms Φ Ψ (k + 1) (n + N) (wnew w (.inr (ci, fs))) (pc + 3) L (.ref w.1 :: st)) : Go l Γ M dp mc ms Φ Ψ k n w pc L st := by
  intro p e s m args below meth c C H locs ls hl hH hS
  obtain ⟨Cn, T, ty0, hc, hin, hty, h1, h2, h3, hfs⟩ := F
  have hts : ∀ w ∈ zGood, w.before args s = true := fun w hw => C.good hw
  have hKn := C.stat.1.1 ci _ hc
  refine W.newcK C.1 C.2.1 C.own (C.good h1) (C.good h2) (C.good h3) rfl hd hc1 hs1 hKn.2.1 rfl fun H1 kC hkC e1 z1 o1 => ?_
  have hz : H1.size = H.size + 1 := by first | exact z1 | omega
  refine W.eq (g2 := F0 m (pc + 3) ls (.ref w.1 :: st)) (by rw [← hH.1]) ?_
  exact kk p e s m args below meth c C H1 _ ls hl (hH.push ⟨_, hc, (u_born ty0 hts hin hKn hkC e1 hty).to hfs⟩ hz o1) ⟨Nat.le_trans hS.1 (by omega), fun x g1 g2 => (o1 x (Nat.lt_of_lt_of_le g1 hS.1)).trans (hS.2.1 x g1 g2), hS.2.2⟩
theorem go_newarray_i {i : Int32} {N : Nat} (hd : decode M.2.1 pc = .ok (.newarray .int, 2)) (hi : i = nI N) (hN : N ≤ 65536) (hc1 : k + 1 ≤ mc) (hs1 : n + N ≤ ms) (hg : Cond.arrayClass .int ∈ zGood) (kk : Go l Γ M dp mc ms Φ Ψ (k + 1) (n + N) (wnew w (.inl (Γ.2.2.1 0, N, .inl (fun _ => 0)))) (pc + 2) L (.ref w.1 :: st)) : Go l Γ M dp mc ms Φ Ψ k n w pc L (.int i :: st) := by
  intro p e s m args below meth c C H locs ls hl hH hS
  have hN2 : N < 2 ^ 31 := by omega
  refine va_newaK C.1 C.2.1 (atype := .int) (C.good hg) rfl hd rfl (by rw [hi]; exact nI_pos hN2) (by rw [hi]; exact nI_clamp hN2) (by show N * _ ≤ _; simp [newarray.typeOf, componentBytes]; try omega) hc1 hs1 rfl fun H1 cA e1 z1 o1 hAr hNm => ?_
  have hcA : cA = Γ.2.2.1 0 := Option.some.inj (hNm.symm.trans (C.arr 0 rfl).2)
  subst hcA
  refine W.eq (g2 := F0 m (pc + 2) ls (.ref w.1 :: st)) (by rw [← hH.1]) ?_
  exact kk p e s m args below meth c C H1 _ ls hl (hH.push (by show H1[H.size]? = some (vp_cell _ _); rw [vp_cell_i]; exact e1) z1 o1) ⟨Nat.le_trans hS.1 (by omega), fun x g1 g2 => (o1 x (Nat.lt_of_lt_of_le g1 hS.1)).trans (hS.2.1 x g1 g2), hS.2.2⟩
theorem go_newarray_b {i : Int32} {N : Nat} (hd : decode M.2.1 pc = .ok (.newarray .byte, 2)) (hi : i = nI N) (hN : N ≤ 65536) (hc1 : k + 1 ≤ mc) (hs1 : n + N ≤ ms) (hg : Cond.arrayClass .byte ∈ zGood) (kk : Go l Γ M dp mc ms Φ Ψ (k + 1) (n + N) (wnew w (.inl (Γ.2.2.1 1, N, .inl (fun _ => 0)))) (pc + 2) L (.ref w.1 :: st)) : Go l Γ M dp mc ms Φ Ψ k n w pc L (.int i :: st) := by
  intro p e s m args below meth c C H locs ls hl hH hS
  have hN2 : N < 2 ^ 31 := by omega
  refine va_newaK C.1 C.2.1 (atype := .byte) (C.good hg) rfl hd rfl (by rw [hi]; exact nI_pos hN2) (by rw [hi]; exact nI_clamp hN2) (by show N * _ ≤ _; simp [newarray.typeOf, componentBytes]; try omega) hc1 hs1 rfl fun H1 cA e1 z1 o1 hAr hNm => ?_
  have hcA : cA = Γ.2.2.1 1 := Option.some.inj (hNm.symm.trans (C.arr 1 rfl).2)
  subst hcA
  refine W.eq (g2 := F0 m (pc + 2) ls (.ref w.1 :: st)) (by rw [← hH.1]) ?_
  exact kk p e s m args below meth c C H1 _ ls hl (hH.push (by show H1[H.size]? = some (vp_cell _ _); rw [vp_cell_i]; exact e1) z1 o1) ⟨Nat.le_trans hS.1 (by omega), fun x g1 g2 => (o1 x (Nat.lt_of_lt_of_le g1 hS.1)).trans (hS.2.1 x g1 g2), hS.2.2⟩
theorem go_newarray_l {i : Int32} {N : Nat} (hd : decode M.2.1 pc = .ok (.newarray .long, 2)) (hi : i = nI N) (hN : N ≤ 65536) (hc1 : k + 1 ≤ mc) (hs1 : n + N ≤ ms) (hg : Cond.arrayClass .long ∈ zGood) (kk : Go l Γ M dp mc ms Φ Ψ (k + 1) (n + N) (wnew w (.inl (Γ.2.2.1 2, N, .inr (.inl (fun _ => 0))))) (pc + 2) L (.ref w.1 :: st)) : Go l Γ M dp mc ms Φ Ψ k n w pc L (.int i :: st) := by
  intro p e s m args below meth c C H locs ls hl hH hS
  have hN2 : N < 2 ^ 31 := by omega
  refine va_newaK C.1 C.2.1 (atype := .long) (C.good hg) rfl hd rfl (by rw [hi]; exact nI_pos hN2) (by rw [hi]; exact nI_clamp hN2) (by show N * _ ≤ _; simp [newarray.typeOf, componentBytes]; try omega) hc1 hs1 rfl fun H1 cA e1 z1 o1 hAr hNm => ?_
  have hcA : cA = Γ.2.2.1 2 := Option.some.inj (hNm.symm.trans (C.arr 2 rfl).2)
  subst hcA
  refine W.eq (g2 := F0 m (pc + 2) ls (.ref w.1 :: st)) (by rw [← hH.1]) ?_
  exact kk p e s m args below meth c C H1 _ ls hl (hH.push (by show H1[H.size]? = some (vp_cell _ _); rw [vp_cell_l]; exact e1) z1 o1) ⟨Nat.le_trans hS.1 (by omega), fun x g1 g2 => (o1 x (Nat.lt_of_lt_of_le g1 hS.1)).trans (hS.2.1 x g1 g2), hS.2.2⟩
theorem zEnd {s t : State} {H : Heap} {locs : List Loc} {args : Array Value} {v : Option Value} (hg : Γ.1 ≤ s.heap.size) (hH : zH Γ w H) (hS : va_S (zA Γ) s.heap H locs) (hv : Φ v w) (ht : t.heap = H) : zQ Γ Φ args s (.returned v) t :=
  ⟨v, w, rfl, hv, by rw [ht]; exact hH, by rw [ht]; exact hS.1, fun q hq => by rw [ht]; exact hS.2.1 q (Nat.lt_of_lt_of_le hq hg) (Nat.not_le.mpr hq)⟩
theorem go_ireturn {v : Int32} (hd : decode M.2.1 pc = .ok (.ireturn, 1)) (hr : M.2.2.2.1 = some .int) (h1 : k ≤ mc) (h2 : n ≤ ms) (hv : Φ (some (.int v)) w) : Go l Γ M dp mc ms Φ Ψ k n w pc L [.int v] := by
  intro p e s m args below meth c C H locs ls hl hH hS
  have hlocks : meth.locks = false := C.2.2.2.2.2.2.1
  exact vx_ret (W.widen h1 h2 (W.iret C.1 C.2.1 (C.2.2.2.1.trans hr) (fun t ht _ => zEnd C.big hH hS hv ht) hS.2.2 hd))
theorem go_zreturn {v : Int32} (hd : decode M.2.1 pc = .ok (.ireturn, 1)) (hr : M.2.2.2.1 = some .boolean) (h1 : k ≤ mc) (h2 : n ≤ ms) (h01 : v = 0 ∨ v = 1) (hv : Φ (some (.int v)) w) : Go l Γ M dp mc ms Φ Ψ k n w pc L [.int v] := by
  intro p e s m args below meth c C H locs ls hl hH hS
  have hlocks : meth.locks = false := C.2.2.2.2.2.2.1
  have hn : narrow .boolean (.int v) = .int v := by rcases h01 with rfl | rfl <;> rfl
  exact vx_ret (W.widen h1 h2 (W.zret C.1 C.2.1 (C.2.2.2.1.trans hr) hn (fun t ht _ => zEnd C.big hH hS hv ht) hS.2.2 hd))
theorem go_lreturn {v : Int64} (hd : decode M.2.1 pc = .ok (.lreturn, 1)) (hr : M.2.2.2.1 = some .long) (h1 : k ≤ mc) (h2 : n ≤ ms) (hv : Φ (some (.long v)) w) : Go l Γ M dp mc ms Φ Ψ k n w pc L [.long v] := by
  intro p e s m args below meth c C H locs ls hl hH hS
  have hlocks : meth.locks = false := C.2.2.2.2.2.2.1
  exact vx_ret (W.widen h1 h2 (W.lret C.1 C.2.1 (C.2.2.2.1.trans hr) (fun t ht _ => zEnd C.big hH hS hv ht) hS.2.2 hd))
theorem go_return (hd : decode M.2.1 pc = .ok (.return_, 1)) (hr : M.2.2.2.1 = none) (h1 : k ≤ mc) (h2 : n ≤ ms) (hv : Φ none w) : Go l Γ M dp mc ms Φ Ψ k n w pc L [] := by
  intro p e s m args below meth c C H locs ls hl hH hS
  have hlocks : meth.locks = false := C.2.2.2.2.2.2.1
  exact vx_ret (W.widen h1 h2 (W.vret C.1 C.2.1 (C.2.2.2.1.trans hr) (fun t ht _ => zEnd C.big hH hS hv ht) hS.2.2 hd))
end GoHeap
end
section
section GoCalls
variable {l : Launch} {Γ : ZG} {M M' : ZM} {dp mc ms d' mc' ms' : Nat} {Φ Φ' : Option Value → ZW → Prop} {Ψ Ψ' : String → ZW → Prop} {k n : Nat} {w : ZW} {pc : Nat} {L : ZL} {st : List Value}
def zY (M : ZM) : Prop := zcode M ∈ zGood ∧ Cond.initialized M.1.cls ∈ zGood ∧ M.1.cls ≠ "java/lang/invoke/MethodHandle" ∧ M.1.cls ≠ "java/lang/invoke/VarHandle"
def zV (own : String) (idx : Nat) (M : ZM) (n : Nat) : Prop := Cond.methodLink own idx M.1 ∈ zGood ∧ Cond.instanceMethod M.1 ∈ zGood ∧ Cond.selects M.1.cls M.1 M.1 ∈ zGood ∧ zY M ∧ (parseMethodDescriptor M.1.desc).map (fun d => d.parameters.length) = some n ∧ M.2.2.2.2 = []
def zVs (own : String) (idx : Nat) (M : ZM) (n : Nat) : Prop := Cond.methodLink own idx M.1 ∈ zGood ∧ Cond.static M.1 ∈ zGood ∧ zY M ∧ (parseMethodDescriptor M.1.desc).map (fun d => d.parameters.length) = some n
def zVi (own : String) (idx : Nat) (M : ZM) (n : Nat) : Prop := Cond.methodLink own idx M.1 ∈ zGood ∧ Cond.instanceMethod M.1 ∈ zGood ∧ M.1.name = "<init>" ∧ zY M ∧ (parseMethodDescriptor M.1.desc).map (fun d => d.parameters.length) = some n ∧ M.2.2.2.2 = [] ∧ M.2.2.2.1 = none
theorem zGood.good {w : Cond} (h : w ∈ zGood) : goodWord w = true := (List.mem_filter.mp h).2
theorem zwA.sub {ws : List Cond} (h : ∀ w ∈ ws, w ∈ zGood) : GoodIn (zwA M) ws := fun w hw => ⟨List.mem_cons_of_mem _ (h w hw), good_of_word (zGood.good (h w hw))⟩
theorem zwA.of (h : zcode M' ∈ zGood) : ∀ w ∈ zwA M', w ∈ zGood := by
  intro w hw
  rcases List.mem_cons.mp hw with rfl | hw
  · exact h
  · exact hw
theorem zwA.eq (h : M'.2.2.2.2 = []) : zwA M' = Cond.code M'.1 M'.2.1 M'.2.2.1 M'.2.2.2.1 :: zGood := by unfold zwA zcode; rw [h]
theorem zMet {l : Launch} {y : MethodName} {ws : List Cond} {rm : Room} {Pc : Array Value → State → Prop} {Qc : Array Value → State → Outcome → State → Prop} {mc ms : Nat} {free : Addr → Prop} (h : vx_Met l y ws rm Pc Qc (zX Γ zNo) mc ms free) : Met l y ws rm Pc Qc mc ms free := by
  intro p e ha hc hk s m args below hf happ hp hK
  obtain ⟨n, o, h1, h2, h3, h4⟩ := h p e ha hc hk s m args below hf happ hp hK
  refine ⟨n, o, h1, h2, h3, ?_⟩
  rcases h4 with h4 | ⟨q, -, E, ce, L, ⟨w', hf, -⟩, -⟩
  · exact h4
  · exact hf.elim
theorem zpre {p : Program} {s : State} {m : MethodId} {args : Array Value} {meth : Method} {c : Code} {H : Heap} {locs : List Loc} {as : List Value} (C : zC l Γ M p s m args meth c) (hH : zH Γ w H) (hS : va_S (zA Γ) s.heap H locs) : ∀ U : State, U.heap = H → s.WarmedH U.vm → zPc Γ as w as.toArray U := by
  intro U hU hW
  refine ⟨rfl, ?_, by rw [hU]; exact hH⟩
  rw [hU]
  exact zS.go hW C.stat C.big (fun q hq => hS.2.1 q (Nat.lt_of_lt_of_le hq C.big) (Nat.not_le.mpr hq))
theorem zafter {s st₀ t T' : State} {H : Heap} {locs L9 : List Loc} (h0 : st₀.heap = H) (hS : va_S (zA Γ) s.heap H locs) (hg : Γ.1 ≤ s.heap.size) (e1 : T'.heap = t.heap) (hz : st₀.heap.size ≤ t.heap.size) (hlow : ∀ q : Nat, q < Γ.1 → t.heap[q]? = st₀.heap[q]?) (hL : ∀ q ∈ L9, zA Γ q.base) : va_S (zA Γ) s.heap T'.heap (locs ++ L9) := by
  rw [h0] at hz hlow
  refine ⟨Nat.le_trans hS.1 (by rw [e1]; exact hz), fun q g1 g2 => ?_, fun q hq => ?_⟩
  · rw [e1, hlow q (Nat.lt_of_not_le g2)]
    exact hS.2.1 q g1 g2
  · rcases List.mem_append.mp hq with h | h
    · exact hS.2.2 q h
    · exact hL q h
theorem zrun {p : Program} {e : Env} {s : State} {m : MethodId} {args : Array Value} {below : List Frame} {meth : Method} {c : Code} {H : Heap} {locs : List Loc} {ls : Array Slot} {st0 : List Value} {a : Array Value} (C : zC l Γ M p s m args meth c) (hl : lv_has ls M.2.2.1 L) (hS : va_S (zA Γ) s.heap H locs)
    (hr : va_Run p l e (zRm dp mc ms) s m args below meth c H locs k n mc' ms' (F0 m pc ls st0) st (zQ Γ Φ' a) (zA Γ)) (kk : ∀ (v : Option Value) (w' : ZW), Φ' v w' → Go l Γ M dp mc ms Φ Ψ (k + mc') (n + ms') w' (pc + 3) L (v.toList ++ st)) :
    W p l e (zRm dp mc ms) s m args below meth c H locs k n (vx_MQ below (zQ Γ Φ) (zX Γ Ψ) args s mc ms (zA Γ)) (F0 m pc ls st0) := by
  intro T hT X
  obtain ⟨v, st₀, t, T', L9, h0, X', hL, e1, e2, ⟨v2, w', hv, hΦ, hH', hz, hlow⟩, stp⟩ := hr T hT X
  cases hv
  obtain ⟨t2, a1, b1⟩ := kk v w' hΦ p e s m args below meth c C T'.heap (locs ++ L9) ls hl (by rw [e1]; exact hH') (zafter h0 hS C.big e1 hz hlow hL) T' rfl X'
  exact ⟨t2, stp t2 a1, b1⟩
theorem zrunX {p : Program} {e : Env} {s : State} {m : MethodId} {args : Array Value} {below : List Frame} {meth : Method} {c : Code} {H : Heap} {locs : List Loc} {ls : Array Slot} {st0 : List Value} {a : Array Value} (C : zC l Γ M p s m args meth c) (hl : lv_has ls M.2.2.1 L) (hS : va_S (zA Γ) s.heap H locs)
    (hr : vx_Run p l e (zRm dp mc ms) s m args below meth c H locs k n mc' ms' (F0 m pc ls st0) st (zQ Γ Φ' a) (zX Γ Ψ') (zA Γ)) (kk : ∀ (v : Option Value) (w' : ZW), Φ' v w' → Go l Γ M dp mc ms Φ Ψ (k + mc') (n + ms') w' (pc + 3) L (v.toList ++ st))
    (kx : ∀ (E : String) (w' : ZW) (H1 : Heap) (locs1 : List Loc) (q : Nat) (ce : Cell), Ψ' E w' → zH Γ w' H1 → va_S (zA Γ) s.heap H1 locs1 → H1[q]? = some ce → ce.vm = .none → s.vm.findClass E = some ce.cls → vx_W p l e (zRm dp mc ms) s m args below meth c H1 locs1 (k + mc') (n + ms') (vx_MQ below (zQ Γ Φ) (zX Γ Ψ) args s mc ms (zA Γ)) (F0 m pc ls st) q) :
    W p l e (zRm dp mc ms) s m args below meth c H locs k n (vx_MQ below (zQ Γ Φ) (zX Γ Ψ) args s mc ms (zA Γ)) (F0 m pc ls st0) := by
  intro T hT X
  rcases hr T hT X with ⟨v, st₀, t, T', L9, h0, X', hL, e1, e2, ⟨v2, w', hv, hΦ, hH', hz, hlow⟩, stp⟩ | ⟨q, st₀, t, T', L9, E, ce, h0, X', hL, e1, e2, ⟨w', hΨ, hH', hz, hlow⟩, hce, hcv, hcl, stp⟩
  · cases hv
    obtain ⟨t2, a1, b1⟩ := kk v w' hΦ p e s m args below meth c C T'.heap (locs ++ L9) ls hl (by rw [e1]; exact hH') (zafter h0 hS C.big e1 hz hlow hL) T' rfl X'
    exact ⟨t2, stp t2 a1, b1⟩
  · obtain ⟨t2, a1, b1⟩ := kx E w' T'.heap (locs ++ L9) q ce hΨ (by rw [e1]; exact hH') (zafter h0 hS C.big e1 hz hlow hL) (by rw [e1]; exact hce) hcv hcl T' rfl X'
    exact ⟨t2, stp.trans a1, b1⟩
theorem zroom (hdp : d' + 1 ≤ dp) (hL : M'.2.2.1 ≤ 40) : (zRm d' mc' ms').frames + 1 ≤ (zRm dp mc ms).frames ∧ 8 + (M'.2.2.1 + 11) + (zRm d' mc' ms').locals ≤ (zRm dp mc ms).locals := by
  refine ⟨hdp, ?_⟩
  show 8 + (M'.2.2.1 + 11) + 64 * d' ≤ 64 * dp
  omega
theorem zrecv {p : Program} {s : State} {m : MethodId} {args : Array Value} {meth : Method} {c : Code} {H : Heap} {b ci : Nat} {fs : List Value} {cn : String} (C : zC l Γ M p s m args meth c) (hH : zH Γ w H) (hw : w.2 b = some (.inr (ci, fs))) (hc : (vwCl[ci]?).map (fun q => q.1) = some cn) : ∃ cell : Cell, H[b]? = some cell ∧ cell.vm.isStatics = false ∧ s.vm.findClass cn = some cell.cls := by
  cases hq : vwCl[ci]? with
  | none => rw [hq] at hc; cases hc
  | some q =>
    rw [hq] at hc
    cases hc
    exact va_recv C.stat.1 (zH.one hH hw) hq (q0 := 0) rfl
theorem go_callVX {index b ci : Nat} {fs : List Value} (As : List Value) (hd : decode M.2.1 pc = .ok (.invokevirtual index, 3)) (V : zV M.1.cls index M' As.length) (hw : w.2 b = some (.inr (ci, fs))) (hc : (vwCl[ci]?).map (fun q => q.1) = some M'.1.cls) (hct : Ct l Γ M' d' mc' ms' (.ref b :: As) w Φ' Ψ') (hdp : d' + 1 ≤ dp) (hL : M'.2.2.1 ≤ 40) (h1 : k + mc' ≤ mc) (h2 : n + ms' ≤ ms) (hst : (st.map fun v => v.category).sum ≤ 8) (hh : M.2.2.2.2 = [])
    (hx : ∀ (E : String) (w' : ZW), Ψ' E w' → Ψ E w') (kk : ∀ (v : Option Value) (w' : ZW), Φ' v w' → Go l Γ M dp mc ms Φ Ψ (k + mc') (n + ms') w' (pc + 3) L (v.toList ++ st)) : Go l Γ M dp mc ms Φ Ψ k n w pc L (As.reverse ++ .ref b :: st) := by
  intro p e s m args below meth c C H locs ls hl hH hS
  obtain ⟨v1, v2, v3, ⟨v4, v5, v6, v7⟩, v8, v9⟩ := V
  have hT : GoodIn (zwA M) (wsV M.1.cls index M'.1.cls M'.1 (zwA M')) := zwA.sub (fun x hx => by
    rcases List.mem_append.mp hx with h | h
    · simp only [List.mem_cons, List.not_mem_nil, or_false] at h
      rcases h with rfl | rfl | rfl | rfl <;> assumption
    · exact zwA.of v4 x h)
  have hlocks : meth.locks = false := C.2.2.2.2.2.2.1
  refine zrunX C hl hS (vx_runV (C := M'.1.cls) (As := As) ⟨C.1, C.2.1, C.2.2.1, C.own, C.2.2.2.2.1⟩ (hct C.2.2.2.2.2.2.2.2.2.2.2) (cwV As.length C.2.2.2.2.1 hT (zwA.eq v9) rfl rfl ⟨rfl, v6, v7, v8⟩ (zroom hdp hL)) ⟨zPc.blind, zrecv C hH hw hc, zpre C hH hS⟩ rfl rfl hl.1 rfl (by show 2 * 0 + _ ≤ 8; omega) hd ⟨h1, h2⟩) kk ?_
  intro E w' H1 locs1 q ce hΨ hH1 hS1 g1 g2 g3
  refine vx_out (fun x hx9 => ?_) hlocks g1 g2 g3 (fun t ht _ => ⟨w', hx E w' hΨ, by rw [ht]; exact hH1, by rw [ht]; exact hS1.1, fun q hq => by rw [ht]; exact hS1.2.1 q (Nat.lt_of_lt_of_le hq C.big) (Nat.not_le.mpr hq)⟩) hS1.2.2 h1 h2
  rw [C.2.2.2.2.2.2.2.2.2.2.1, hh] at hx9
  cases hx9
theorem go_callV {index b ci : Nat} {fs : List Value} (As : List Value) (hd : decode M.2.1 pc = .ok (.invokevirtual index, 3)) (V : zV M.1.cls index M' As.length) (hw : w.2 b = some (.inr (ci, fs))) (hc : (vwCl[ci]?).map (fun q => q.1) = some M'.1.cls) (hct : Ct l Γ M' d' mc' ms' (.ref b :: As) w Φ' zNo) (hdp : d' + 1 ≤ dp) (hL : M'.2.2.1 ≤ 40) (h1 : k + mc' ≤ mc) (h2 : n + ms' ≤ ms) (hst : (st.map fun v => v.category).sum ≤ 8)
    (kk : ∀ (v : Option Value) (w' : ZW), Φ' v w' → Go l Γ M dp mc ms Φ Ψ (k + mc') (n + ms') w' (pc + 3) L (v.toList ++ st)) : Go l Γ M dp mc ms Φ Ψ k n w pc L (As.reverse ++ .ref b :: st) := by
  intro p e s m args below meth c C H locs ls hl hH hS
  obtain ⟨v1, v2, v3, ⟨v4, v5, v6, v7⟩, v8, v9⟩ := V
  have hT : GoodIn (zwA M) (wsV M.1.cls index M'.1.cls M'.1 (zwA M')) := zwA.sub (fun x hx => by
    rcases List.mem_append.mp hx with h | h
    · simp only [List.mem_cons, List.not_mem_nil, or_false] at h
      rcases h with rfl | rfl | rfl | rfl <;> assumption
    · exact zwA.of v4 x h)
  exact zrun C hl hS (va_runV (C := M'.1.cls) (As := As) ⟨C.1, C.2.1, C.2.2.1, C.own, C.2.2.2.2.1⟩ (zMet (hct C.2.2.2.2.2.2.2.2.2.2.2)) (cwV As.length C.2.2.2.2.1 hT (zwA.eq v9) rfl rfl ⟨rfl, v6, v7, v8⟩ (zroom hdp hL)) ⟨zPc.blind, zrecv C hH hw hc, zpre C hH hS⟩ rfl rfl hl.1 rfl (by show 2 * 0 + _ ≤ 8; omega) hd ⟨h1, h2⟩) kk
theorem zwsS {own : String} {index : Nat} (v1 : Cond.methodLink own index M'.1 ∈ zGood) (v2 : Cond.static M'.1 ∈ zGood) (v4 : zcode M' ∈ zGood) (v5 : Cond.initialized M'.1.cls ∈ zGood) : GoodIn (zwA M) (va_wsS own index M'.1 (zwA M')) := zwA.sub (fun x hx => by
    rcases List.mem_append.mp hx with h | h
    · simp only [List.mem_cons, List.not_mem_nil, or_false] at h
      rcases h with rfl | rfl | rfl <;> assumption
    · exact zwA.of v4 x h)
theorem go_callS {index : Nat} (As : List Value) (hd : decode M.2.1 pc = .ok (.invokestatic index, 3)) (V : zVs M.1.cls index M' As.length) (hh : M'.2.2.2.2 = []) (hct : Ct l Γ M' d' mc' ms' As w Φ' zNo) (hdp : d' + 1 ≤ dp) (hL : M'.2.2.1 ≤ 40) (h1 : k + mc' ≤ mc) (h2 : n + ms' ≤ ms) (hst : (st.map fun v => v.category).sum ≤ 8)
    (kk : ∀ (v : Option Value) (w' : ZW), Φ' v w' → Go l Γ M dp mc ms Φ Ψ (k + mc') (n + ms') w' (pc + 3) L (v.toList ++ st)) : Go l Γ M dp mc ms Φ Ψ k n w pc L (As.reverse ++ st) := by
  intro p e s m args below meth c C H locs ls hl hH hS
  obtain ⟨v1, v2, ⟨v4, v5, v6, v7⟩, v8⟩ := V
  exact zrun C hl hS (va_runS (As := As) ⟨C.1, C.2.1, C.2.2.1, C.own, C.2.2.2.2.1⟩ (zMet (hct C.2.2.2.2.2.2.2.2.2.2.2)) (va_cwS As.length C.2.2.2.2.1 (zwsS v1 v2 v4 v5) (zwA.eq hh) rfl rfl ⟨v6, v7, v8⟩ (zroom hdp hL)) ⟨zPc.blind, zpre C hH hS⟩ rfl rfl hl.1 rfl (by show 2 * 0 + _ ≤ 8; omega) hd ⟨h1, h2⟩) kk
theorem go_callSX {index : Nat} (As : List Value) (hd : decode M.2.1 pc = .ok (.invokestatic index, 3)) (V : zVs M.1.cls index M' As.length) (hh' : M'.2.2.2.2 = []) (hct : Ct l Γ M' d' mc' ms' As w Φ' Ψ') (hdp : d' + 1 ≤ dp) (hL : M'.2.2.1 ≤ 40) (h1 : k + mc' ≤ mc) (h2 : n + ms' ≤ ms) (hst : (st.map fun v => v.category).sum ≤ 8) (hh : M.2.2.2.2 = [])
    (hx : ∀ (E : String) (w' : ZW), Ψ' E w' → Ψ E w') (kk : ∀ (v : Option Value) (w' : ZW), Φ' v w' → Go l Γ M dp mc ms Φ Ψ (k + mc') (n + ms') w' (pc + 3) L (v.toList ++ st)) : Go l Γ M dp mc ms Φ Ψ k n w pc L (As.reverse ++ st) := by
  intro p e s m args below meth c C H locs ls hl hH hS
  obtain ⟨v1, v2, ⟨v4, v5, v6, v7⟩, v8⟩ := V
  have hlocks : meth.locks = false := C.2.2.2.2.2.2.1
  refine zrunX C hl hS (vx_runS (As := As) ⟨C.1, C.2.1, C.2.2.1, C.own, C.2.2.2.2.1⟩ (hct C.2.2.2.2.2.2.2.2.2.2.2) (va_cwS As.length C.2.2.2.2.1 (zwsS v1 v2 v4 v5) (zwA.eq hh') rfl rfl ⟨v6, v7, v8⟩ (zroom hdp hL)) ⟨zPc.blind, zpre C hH hS⟩ rfl rfl hl.1 rfl (by show 2 * 0 + _ ≤ 8; omega) hd ⟨h1, h2⟩) kk ?_
  intro E w' H1 locs1 q ce hΨ hH1 hS1 g1 g2 g3
  refine vx_out (fun x hx9 => ?_) hlocks g1 g2 g3 (fun t ht _ => ⟨w', hx E w' hΨ, by rw [ht]; exact hH1, by rw [ht]; exact hS1.1, fun q hq => by rw [ht]; exact hS1.2.1 q (Nat.lt_of_lt_of_le hq C.big) (Nat.not_le.mpr hq)⟩) hS1.2.2 h1 h2
  rw [C.2.2.2.2.2.2.2.2.2.2.1, hh] at hx9
  cases hx9
theorem go_callI {index b : Nat} (As : List Value) (hd : decode M.2.1 pc = .ok (.invokespecial index, 3)) (V : zVi M.1.cls index M' As.length) (hct : Ct l Γ M' d' mc' ms' (.ref b :: As) w Φ' zNo) (hdp : d' + 1 ≤ dp) (hL : M'.2.2.1 ≤ 40) (h1 : k + mc' ≤ mc) (h2 : n + ms' ≤ ms) (hst : (st.map fun v => v.category).sum ≤ 8)
    (kk : ∀ (v : Option Value) (w' : ZW), Φ' v w' → Go l Γ M dp mc ms Φ Ψ (k + mc') (n + ms') w' (pc + 3) L (v.toList ++ st)) : Go l Γ M dp mc ms Φ Ψ k n w pc L (As.reverse ++ .ref b :: st) := by
  intro p e s m args below meth c C H locs ls hl hH hS
  obtain ⟨v1, v2, v3, ⟨v4, v5, v6, v7⟩, v8, v9, v10⟩ := V
  have hw9 : zwA M' = Cond.code M'.1 M'.2.1 M'.2.2.1 none :: zGood := by rw [zwA.eq v9, v10]
  exact zrun C hl hS (va_runI (As := As) ⟨C.1, C.2.1, C.2.2.1, C.own, C.2.2.2.2.1⟩ (zMet (hct C.2.2.2.2.2.2.2.2.2.2.2)) (cwI As.length C.2.2.2.2.1 (zwA.sub (zwA.of v4)) hw9 rfl rfl (C.good v5) (C.good v1) (C.good v2) v3 ⟨v6, v7, v8⟩ (zroom hdp hL)) ⟨zPc.blind, zpre C hH hS⟩ rfl rfl hl.1 rfl (by show 2 * 0 + _ ≤ 8; omega) hd ⟨h1, h2⟩) kk
theorem go_objInit {index b : Nat} (hd : decode M.2.1 pc = .ok (.invokespecial index, 3)) (hl1 : Cond.methodLink M.1.cls index objectInit ∈ zGood) (hl2 : Cond.instanceMethod objectInit ∈ zGood) (hl3 : Cond.code objectInit ⟨#[0xb1]⟩ 1 none ∈ zGood) (hdp : 1 ≤ dp) (hst : (st.map fun v => v.category).sum ≤ 8) (kk : Go l Γ M dp mc ms Φ Ψ k n w (pc + 3) L st) : Go l Γ M dp mc ms Φ Ψ k n w pc L (.ref b :: st) := by
  intro p e s m args below meth c C H locs ls hl hH hS
  refine W.objInit C.1 C.2.1 C.own (C.good hl1) (C.good hl2) (C.good hl3) rfl (by rw [C.2.2.1]; exact hl.1) rfl hd hdp (by show 2 * 0 + _ + 12 ≤ 64 * dp; omega) ?_
  exact kk p e s m args below meth c C H locs ls hl hH hS
end GoCalls
end
