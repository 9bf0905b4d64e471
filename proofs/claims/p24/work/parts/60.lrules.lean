section LRules
variable {l : Launch} {Γ : ZG} {M M' : ZM} {dp mc ms d' mc' ms' : Nat} {Φ Φ' : Option Value → ZW → Prop} {Ψ Ψ' : String → ZW → Prop} {k n : Nat} {w w' : ZW} {pc : Nat} {L : ZL} {st : List Value}
/-- a reference, or null -/
theorem go_aloadQ {i : Nat} {r : Option Nat} (pc' : Nat) (hd : decode M.2.1 pc = .ok (.aload i, 2)) (h : lget L i = some (va_rf r)) (kk : Go l Γ M dp mc ms Φ Ψ k n w pc' L (va_rf r :: st)) (hp : pc + 2 = pc' := by rfl) : Go l Γ M dp mc ms Φ Ψ k n w pc L st := by
  subst hp
  cases r with
  | none => exact fun p e s m args below meth c C H locs ls hl hH hS => lv_aloadN C.1 C.2.1 hd (lget_at hl h) (kk p e s m args below meth c C H locs ls hl hH hS)
  | some x => exact fun p e s m args below meth c C H locs ls hl hH hS => lv_aload C.1 C.2.1 hd (lget_at hl h) (kk p e s m args below meth c C H locs ls hl hH hS)
theorem go_aload_nQ {i : Fin 4} {r : Option Nat} (pc' : Nat) (hd : decode M.2.1 pc = .ok (.aload_n i, 1)) (h : lget L (i : Nat) = some (va_rf r)) (kk : Go l Γ M dp mc ms Φ Ψ k n w pc' L (va_rf r :: st)) (hp : pc + 1 = pc' := by rfl) : Go l Γ M dp mc ms Φ Ψ k n w pc L st := by
  subst hp
  cases r with
  | none => exact fun p e s m args below meth c C H locs ls hl hH hS => lv_aload_nN C.1 C.2.1 hd rfl (lget_at hl h) (kk p e s m args below meth c C H locs ls hl hH hS)
  | some x => exact fun p e s m args below meth c C H locs ls hl hH hS => lv_aload_n C.1 C.2.1 hd rfl (lget_at hl h) (kk p e s m args below meth c C H locs ls hl hH hS)
theorem go_astoreQ {i : Nat} {r : Option Nat} (pc' : Nat) (hd : decode M.2.1 pc = .ok (.astore i, 2)) (h : i < M.2.2.1) (kk : Go l Γ M dp mc ms Φ Ψ k n w pc' (lset L i (va_rf r)) st) (hp : pc + 2 = pc' := by rfl) : Go l Γ M dp mc ms Φ Ψ k n w pc L (va_rf r :: st) := by
  subst hp
  cases r with
  | none => exact fun p e s m args below meth c C H locs ls hl hH hS => lv_astoreN C.1 C.2.1 hd hl h rfl (fun ls hl => kk p e s m args below meth c C H locs ls hl hH hS)
  | some x => exact fun p e s m args below meth c C H locs ls hl hH hS => lv_astore C.1 C.2.1 hd hl h rfl (fun ls hl => kk p e s m args below meth c C H locs ls hl hH hS)
theorem go_astore_nQ {i : Fin 4} {r : Option Nat} (pc' : Nat) (hd : decode M.2.1 pc = .ok (.astore_n i, 1)) (h : (i : Nat) < M.2.2.1) (kk : Go l Γ M dp mc ms Φ Ψ k n w pc' (lset L (i : Nat) (va_rf r)) st) (hp : pc + 1 = pc' := by rfl) : Go l Γ M dp mc ms Φ Ψ k n w pc L (va_rf r :: st) := by
  subst hp
  cases r with
  | none => exact fun p e s m args below meth c C H locs ls hl hH hS => lv_astore_nN C.1 C.2.1 hd rfl hl h rfl (fun ls hl => kk p e s m args below meth c C H locs ls hl hH hS)
  | some x => exact fun p e s m args below meth c C H locs ls hl hH hS => lv_astore_n C.1 C.2.1 hd rfl hl h rfl (fun ls hl => kk p e s m args below meth c C H locs ls hl hH hS)
theorem go_ifnullQ {r : Option Nat} {off : Int} (tgt pc' : Nat) (hd : decode M.2.1 pc = .ok (.ifnull off, 3)) (kt : r = none → Go l Γ M dp mc ms Φ Ψ k n w tgt L st) (kf : ∀ x, r = some x → Go l Γ M dp mc ms Φ Ψ k n w pc' L st) (ht : (pc : Int) + off = (tgt : Int) := by rfl) (hp : pc + 3 = pc' := by rfl) : Go l Γ M dp mc ms Φ Ψ k n w pc L (va_rf r :: st) := by
  subst hp
  cases r with
  | none => exact fun p e s m args below meth c C H locs ls hl hH hS => lv_ifnullN C.1 C.2.1 hd ht (kt rfl p e s m args below meth c C H locs ls hl hH hS)
  | some x => exact fun p e s m args below meth c C H locs ls hl hH hS => lv_ifnull C.1 C.2.1 hd (kf x rfl p e s m args below meth c C H locs ls hl hH hS)
theorem go_ifnonnullQ {r : Option Nat} {off : Int} (tgt pc' : Nat) (hd : decode M.2.1 pc = .ok (.ifnonnull off, 3)) (kt : ∀ x, r = some x → Go l Γ M dp mc ms Φ Ψ k n w tgt L st) (kf : r = none → Go l Γ M dp mc ms Φ Ψ k n w pc' L st) (ht : (pc : Int) + off = (tgt : Int) := by rfl) (hp : pc + 3 = pc' := by rfl) : Go l Γ M dp mc ms Φ Ψ k n w pc L (va_rf r :: st) := by
  subst hp
  cases r with
  | none => exact fun p e s m args below meth c C H locs ls hl hH hS => lv_ifnonnullN C.1 C.2.1 hd (kf rfl p e s m args below meth c C H locs ls hl hH hS)
  | some x => exact fun p e s m args below meth c C H locs ls hl hH hS => lv_ifnonnull C.1 C.2.1 hd ht (kt x rfl p e s m args below meth c C H locs ls hl hH hS)
theorem go_acmp_ne {x y : Nat} {off : Int} (tgt pc' : Nat) (hd : decode M.2.1 pc = .ok (.if_acmp .ne off, 3)) (kt : ¬ x = y → Go l Γ M dp mc ms Φ Ψ k n w tgt L st) (kf : x = y → Go l Γ M dp mc ms Φ Ψ k n w pc' L st) (ht : (pc : Int) + off = (tgt : Int) := by rfl) (hp : pc + 3 = pc' := by rfl) : Go l Γ M dp mc ms Φ Ψ k n w pc L (.ref y :: .ref x :: st) := by
  subst hp
  exact fun p e s m args below meth c C H locs ls hl hH hS => lv_acmp_ne (rx := some x) (ry := some y) C.1 C.2.1 hd ht (fun h => kt (fun q => h (by rw [q])) p e s m args below meth c C H locs ls hl hH hS) (fun h => kf (Option.some.inj h) p e s m args below meth c C H locs ls hl hH hS)
theorem go_arefQ {r : Option Nat} {t : FieldType} (hd : decode M.2.1 pc = .ok (.areturn, 1)) (hr : M.2.2.2.1 = some t) (h1 : k ≤ mc) (h2 : n ≤ ms) (hv : Φ (some (va_rf r)) w) (ht : t.isReference = true := by rfl) : Go l Γ M dp mc ms Φ Ψ k n w pc L [va_rf r] := by
  intro p e s m args below meth c C H locs ls hl hH hS
  have hlocks : meth.locks = false := C.2.2.2.2.2.2.1
  have ht' : (∃ nm, t = .object nm) ∨ ∃ t', t = .array t' := by cases t <;> first | exact Or.inl ⟨_, rfl⟩ | exact Or.inr ⟨_, rfl⟩ | cases ht
  have hv' : va_rf r = .null ∨ ∃ a, va_rf r = .ref a := by cases r <;> first | exact Or.inl rfl | exact Or.inr ⟨_, rfl⟩
  exact vx_ret (W.widen h1 h2 (W.aret C.1 C.2.1 (C.2.2.2.1.trans hr) ht' hv' (fun t ht _ => zEnd C.big hH hS hv ht) hS.2.2 hd))
theorem go_aref {a : Nat} {t : FieldType} (hd : decode M.2.1 pc = .ok (.areturn, 1)) (hr : M.2.2.2.1 = some t) (h1 : k ≤ mc) (h2 : n ≤ ms) (hv : Φ (some (.ref a)) w) (ht : t.isReference = true := by rfl) : Go l Γ M dp mc ms Φ Ψ k n w pc L [.ref a] := go_arefQ (r := some a) hd hr h1 h2 hv ht
theorem go_ixor {x y : Int32} (pc' : Nat) (hd : decode M.2.1 pc = .ok (.ixor, 1)) (kk : Go l Γ M dp mc ms Φ Ψ k n w pc' L (.int (x ^^^ y) :: st)) (hp : pc + 1 = pc' := by rfl) : Go l Γ M dp mc ms Φ Ψ k n w pc L (.int y :: .int x :: st) := by
  subst hp
  exact fun p e s m args below meth c C H locs ls hl hH hS => lv_ixor C.1 C.2.1 hd (kk p e s m args below meth c C H locs ls hl hH hS)
theorem go_idiv {x y : Int32} (pc' : Nat) (hd : decode M.2.1 pc = .ok (.idiv, 1)) (h : ¬ y = 0) (kk : Go l Γ M dp mc ms Φ Ψ k n w pc' L (.int (x / y) :: st)) (hp : pc + 1 = pc' := by rfl) : Go l Γ M dp mc ms Φ Ψ k n w pc L (.int y :: .int x :: st) := by
  subst hp
  exact fun p e s m args below meth c C H locs ls hl hH hS => lv_idiv C.1 C.2.1 hd h (kk p e s m args below meth c C H locs ls hl hH hS)
theorem go_dup_x1 {va vb : Value} (pc' : Nat) (hd : decode M.2.1 pc = .ok (.dup_x1, 1)) (h1 : va.category = 1) (h2 : vb.category = 1) (kk : Go l Γ M dp mc ms Φ Ψ k n w pc' L (va :: vb :: va :: st)) (hp : pc + 1 = pc' := by rfl) : Go l Γ M dp mc ms Φ Ψ k n w pc L (va :: vb :: st) := by
  subst hp
  exact fun p e s m args below meth c C H locs ls hl hH hS => lv_dup_x1 C.1 C.2.1 hd h1 h2 (kk p e s m args below meth c C H locs ls hl hH hS)
theorem asg_self {s : State} {c : ClassId} : s.vm.assignable c c = true := by
  unfold Vm.assignable
  rw [show (256 : Nat) = 255 + 1 from rfl, Vm.assignableAux]
  simp
theorem pos_mc {N : Nat} {i : Int32} (hi : i = nI N) (hN : N ≤ 65536) : ¬ i < 0 ∧ i.toNatClampNeg = N := by rw [hi]; exact ⟨nI_pos (by omega), nI_clamp (by omega)⟩
theorem va_aastN1 {p : Program} {l : Launch} {e : Env} {R : Room} {s : State} {m : MethodId} {args : Array Value} {below : List Frame} {meth : Method} {c : Code} {locs : List Loc} {cells slots : Nat} {T : State} (X : Stand p l e R s m args below meth c T locs cells slots) (hexec : p.tables.exec = Jvm.exec) {a : Addr} {cell : Cell} {t : FieldType} {j : Int32} (hcell : T.heap[a]? = some cell) (harr : s.isArrayOf cell (.array t)) (hknown : cell.vm ≠ .unknown)
    (hin : ¬ (j < 0 ∨ cell.slots.size ≤ j.toNatClampNeg))
    {g : JFrame} (hg : g.method = m) {rest : List Value} (hstack : g.stack = .null :: .int j :: .ref a :: rest) (hdg : decode c.code g.pc = .ok (.aastore, 1)) :
    Stand p l e R s m args below meth c (T.setCell a (cell.setSlot j.toNatClampNeg .null)) (locs ++ [⟨a, j.toNatClampNeg⟩]) cells slots ∧
      ∀ target, Steps p.tables e below ((T.setCell a (cell.setSlot j.toNatClampNeg .null)).setTop { g with pc := g.pc + 1, stack := rest }) target → Steps p.tables e below (T.setTop g) target := by
  have hT := State.isArrayOf_alike X.warmed.alike harr
  have hfit : T.fitsSlot cell.cls cell.vm j.toNatClampNeg .null = true := by
    obtain ⟨hobj, k, hk, comp, hkind⟩ := hT
    cases hvm : cell.vm <;> first | exact absurd hvm (hobj _) | simp [State.fitsSlot, State.slotType?, hk, hkind, fits]
  refine ⟨X.stored hcell _ _, fun target hrest => ?_⟩
  subst hg
  jvm_step X.here [hexec, hdg]
  refine aastore.wp_of_null (c := cell) (t := .array t) X.here.top hstack hcell hT hin hknown (Nat.not_le.mp fun q => hin (Or.inr q)) hfit ?_
  intro acts
  rw [afterInstr_ok]
  exact hrest
theorem va_WaastN1 {p : Program} {l : Launch} {e : Env} {R : Room} {s : State} {m : MethodId} {args : Array Value} {below : List Frame} {meth : Method} {c : Code} {H : Heap} {locs : List Loc} {cells slots : Nat} {Q : State → Prop} {cc : ByteArray} (hexec : p.tables.exec = Jvm.exec) (hb : c.code = cc) {a : Addr} {cell : Cell} {t : FieldType} {j : Int32} (hcell : H[a]? = some cell) (harr : s.isArrayOf cell (.array t)) (hknown : cell.vm ≠ .unknown) (hin : ¬ (j < 0 ∨ cell.slots.size ≤ j.toNatClampNeg))
    {g : JFrame} (hg : g.method = m) {rest : List Value} (hstack : g.stack = .null :: .int j :: .ref a :: rest) (hdg : decode cc g.pc = .ok (.aastore, 1))
    (kk : ∀ H' : Heap, H'[a]? = some (cell.setSlot j.toNatClampNeg .null) → H'.size = H.size → (∀ q, q ≠ a → H'[q]? = H[q]?) → W p l e R s m args below meth c H' (locs ++ [⟨a, j.toNatClampNeg⟩]) cells slots Q { g with pc := g.pc + 1, stack := rest }) :
    W p l e R s m args below meth c H locs cells slots Q g := by
  intro T hT X
  have hT' : T.heap[a]? = some cell := by rw [hT]; exact hcell
  obtain ⟨X', st⟩ := va_aastN1 X hexec hT' harr hknown hin hg hstack (by rw [hb]; exact hdg)
  have hlt : a < T.heap.size := (Array.getElem?_eq_some_iff.mp hT').1
  obtain ⟨t', a1, b1⟩ := kk _ (heapAt_setCell_self _ hlt) (by rw [size_setCell, hT]) (fun q hq => by rw [heapAt_setCell_ne _ (Ne.symm hq), hT]) (T.setCell a (cell.setSlot j.toNatClampNeg .null)) rfl X'
  exact ⟨t', st t' a1, b1⟩

theorem go_aald6 {a N : Nat} {f : Nat → Option Nat} {i : Int32} (pc' : Nat) (hd : decode M.2.1 pc = .ok (.aaload, 1)) (hw : w.2 a = some (.inl (Γ.2.2.1 6, N, .inr (.inr (.inr (.inr f)))))) (hin : vp_in i N) (kk : Go l Γ M dp mc ms Φ Ψ k n w pc' L (va_rf (f i.toNatClampNeg) :: st)) (hp : pc + 1 = pc' := by rfl) : Go l Γ M dp mc ms Φ Ψ k n w pc L (.int i :: .ref a :: st) := by
  subst hp
  exact fun p e s m args below meth c C H locs ls hl hH hS => va_aldq C.1 C.2.1 C.stat.1 (zH.one hH hw) 0 6 rfl rfl hin hd (kk p e s m args below meth c C H locs ls hl hH hS)
theorem go_aast6 {a b N : Nat} {fs : List Value} {f : Nat → Option Nat} {i : Int32} (pc' : Nat) (hd : decode M.2.1 pc = .ok (.aastore, 1)) (hw : w.2 a = some (.inl (Γ.2.2.1 6, N, .inr (.inr (.inr (.inr f)))))) (hv : w.2 b = some (.inr (6, fs))) (hin : vp_in i N) (kk : Go l Γ M dp mc ms Φ Ψ k n (wset w a (.inl (Γ.2.2.1 6, N, .inr (.inr (.inr (.inr (va_up f i.toNatClampNeg (some b)))))))) pc' L st) (hp : pc + 1 = pc' := by rfl) : Go l Γ M dp mc ms Φ Ψ k n w pc L (.ref b :: .int i :: .ref a :: st) := by
  subst hp
  intro p e s m args below meth c C H locs ls hl hH hS
  obtain ⟨haG, hat⟩ := hH.2.2 a _ hw
  obtain ⟨-, r', hr', cellV, g1, g2, g3, -⟩ := hH.2.2 b _ hv
  have hlt : i.toNatClampNeg < N := Nat.not_le.mp fun q => hin (Or.inr q)
  have h0 : ¬ i < 0 := fun q => hin (Or.inl q)
  have hcls := (C.stat.1.1 6 r' hr').2
  obtain ⟨kA, comp, k1, k2, k3, -⟩ := (C.arr 6 rfl).2
  have hr0 : r'.1 = RX6 := by cases hr'; rfl
  have hcomp : comp = Γ.2.1.1 6 := Option.some.inj (k3.symm.trans (by rw [← hr0]; exact hcls.1))
  subst hcomp
  obtain ⟨kC, hkC, -⟩ := hcls.2
  refine W.aast C.1 C.2.1 hat (fun q h => by cases h) (fun h => by cases h) k1 k2 rfl hkC ⟨h0, by show _ < (arrV _ _ _).slots.size; rw [arrV_size]; exact hlt⟩ g1 (fun q h => by rw [g3] at h; cases h) (by rw [g2]; exact hkC) (by rw [g2]; exact va_assign hcls) rfl rfl hd fun H1 e1 z oq => ?_
  refine kk p e s m args below meth c C H1 _ ls hl (hH.set haG ?_ z oq) (hS.put z oq haG)
  show H1[a]? = some (vp_cell _ _)
  rw [e1]
  rw [vp_cell_q, vp_cell_q, arrV_store]
  congr 2
  funext q
  by_cases hq : q = i.toNatClampNeg
  · subst hq
    simp [updV, va_up, va_rf]
  · simp [updV, va_up, hq]
theorem go_aast6N {a N : Nat} {f : Nat → Option Nat} {i : Int32} (pc' : Nat) (hd : decode M.2.1 pc = .ok (.aastore, 1)) (hw : w.2 a = some (.inl (Γ.2.2.1 6, N, .inr (.inr (.inr (.inr f)))))) (hin : vp_in i N) (kk : Go l Γ M dp mc ms Φ Ψ k n (wset w a (.inl (Γ.2.2.1 6, N, .inr (.inr (.inr (.inr (va_up f i.toNatClampNeg none))))))) pc' L st) (hp : pc + 1 = pc' := by rfl) : Go l Γ M dp mc ms Φ Ψ k n w pc L (.null :: .int i :: .ref a :: st) := by
  subst hp
  intro p e s m args below meth c C H locs ls hl hH hS
  obtain ⟨haG, hat⟩ := hH.2.2 a _ hw
  refine va_WaastN (C := RX6) C.1 C.2.1 hat ((C.arr 6 rfl).1 N (fun j => va_rf (f j))) (fun h => by cases h) (by show ¬ (i < 0 ∨ (arrV _ _ _).slots.size ≤ _); rw [arrV_size]; exact hin) rfl rfl hd fun H1 e1 z oq => ?_
  refine kk p e s m args below meth c C H1 _ ls hl (hH.set haG ?_ z oq) (hS.put z oq haG)
  show H1[a]? = some (vp_cell _ _)
  rw [e1]
  rw [vp_cell_q, vp_cell_q, arrV_store]
  congr 2
  funext q
  by_cases hq : q = i.toNatClampNeg
  · subst hq
    simp [updV, va_up, va_rf]
  · simp [updV, va_up, hq]
theorem go_anew6 {index : Nat} {i : Int32} {N : Nat} (pc' : Nat) (hd : decode M.2.1 pc = .ok (.anewarray index, 3)) (hcl : Cond.classLink M.1.cls index RX6 ∈ zGood) (hi : i = nI N) (hN : N ≤ 65536) (hc1 : k + 1 ≤ mc) (hs1 : n + N ≤ ms) (kk : Go l Γ M dp mc ms Φ Ψ (k + 1) (n + N) (wnew w (.inl (Γ.2.2.1 6, N, .inr (.inr (.inr (.inr (fun _ => none))))))) pc' L (.ref w.1 :: st)) (hp : pc + 3 = pc' := by rfl) : Go l Γ M dp mc ms Φ Ψ k n w pc L (.int i :: st) := by
  subst hp
  intro p e s m args below meth c C H locs ls hl hH hS
  obtain ⟨p0, eN⟩ := pos_mc hi hN
  refine W.anew C.1 C.2.1 C.own (C.good hcl) (va_AO.use C.stat.2.2.2.1.2.2.1) rfl hd rfl p0 (by rw [eN]; omega) hc1 (by rw [eN]; exact hs1) fun cA kA comp f1 f2 f3 f4 => ?_
  obtain ⟨-, -, -, -, -, f5⟩ := (C.arr 6 rfl).2
  have hcA : cA = Γ.2.2.1 6 := Option.some.inj (f1.symm.trans f5)
  subst hcA
  rw [eN]
  generalize hH1 : H.push ({ cls := Γ.2.2.1 6, slots := Array.replicate N .null, vm := .none } : Cell) = H1
  have z1 : H1.size = H.size + 1 := by rw [← hH1, Array.size_push]
  have e1 : H1[H.size]? = some (arrV (Γ.2.2.1 6) N (fun _ => .null)) := by rw [← hH1, Array.getElem?_push_size, ← arrV_new]
  have o1 : ∀ q : Nat, q < H.size → H1[q]? = H[q]? := fun q hq => by rw [← hH1, Array.getElem?_push, if_neg (Nat.ne_of_lt hq)]
  refine W.eq (g2 := F0 m (pc + 3) ls (.ref w.1 :: st)) (by rw [← hH.1]) ?_
  exact kk p e s m args below meth c C H1 _ ls hl (hH.push (by show H1[H.size]? = some (vp_cell _ _); rw [vp_cell_q]; exact e1) z1 o1) ⟨Nat.le_trans hS.1 (by omega), fun x g1 g2 => (o1 x (Nat.lt_of_lt_of_le g1 hS.1)).trans (hS.2.1 x g1 g2), hS.2.2⟩
theorem go_aald7 {a N : Nat} {f : Nat → Option Nat} {i : Int32} (pc' : Nat) (hd : decode M.2.1 pc = .ok (.aaload, 1)) (hw : w.2 a = some (.inl (Γ.2.2.1 7, N, .inr (.inr (.inr (.inr f)))))) (hin : vp_in i N) (kk : Go l Γ M dp mc ms Φ Ψ k n w pc' L (va_rf (f i.toNatClampNeg) :: st)) (hp : pc + 1 = pc' := by rfl) : Go l Γ M dp mc ms Φ Ψ k n w pc L (.int i :: .ref a :: st) := by
  subst hp
  exact fun p e s m args below meth c C H locs ls hl hH hS => va_aldq C.1 C.2.1 C.stat.1 (zH.one hH hw) 0 7 rfl rfl hin hd (kk p e s m args below meth c C H locs ls hl hH hS)
theorem go_aast7 {a b N : Nat} {fs : List Value} {f : Nat → Option Nat} {i : Int32} (pc' : Nat) (hd : decode M.2.1 pc = .ok (.aastore, 1)) (hw : w.2 a = some (.inl (Γ.2.2.1 7, N, .inr (.inr (.inr (.inr f)))))) (hv : w.2 b = some (.inr (7, fs))) (hin : vp_in i N) (kk : Go l Γ M dp mc ms Φ Ψ k n (wset w a (.inl (Γ.2.2.1 7, N, .inr (.inr (.inr (.inr (va_up f i.toNatClampNeg (some b)))))))) pc' L st) (hp : pc + 1 = pc' := by rfl) : Go l Γ M dp mc ms Φ Ψ k n w pc L (.ref b :: .int i :: .ref a :: st) := by
  subst hp
  intro p e s m args below meth c C H locs ls hl hH hS
  obtain ⟨haG, hat⟩ := hH.2.2 a _ hw
  obtain ⟨-, r', hr', cellV, g1, g2, g3, -⟩ := hH.2.2 b _ hv
  have hlt : i.toNatClampNeg < N := Nat.not_le.mp fun q => hin (Or.inr q)
  have h0 : ¬ i < 0 := fun q => hin (Or.inl q)
  have hcls := (C.stat.1.1 7 r' hr').2
  obtain ⟨kA, comp, k1, k2, k3, -⟩ := (C.arr 7 rfl).2
  have hr0 : r'.1 = RX7 := by cases hr'; rfl
  have hcomp : comp = Γ.2.1.1 7 := Option.some.inj (k3.symm.trans (by rw [← hr0]; exact hcls.1))
  subst hcomp
  obtain ⟨kC, hkC, -⟩ := hcls.2
  refine W.aast C.1 C.2.1 hat (fun q h => by cases h) (fun h => by cases h) k1 k2 rfl hkC ⟨h0, by show _ < (arrV _ _ _).slots.size; rw [arrV_size]; exact hlt⟩ g1 (fun q h => by rw [g3] at h; cases h) (by rw [g2]; exact hkC) (by rw [g2]; exact va_assign hcls) rfl rfl hd fun H1 e1 z oq => ?_
  refine kk p e s m args below meth c C H1 _ ls hl (hH.set haG ?_ z oq) (hS.put z oq haG)
  show H1[a]? = some (vp_cell _ _)
  rw [e1]
  rw [vp_cell_q, vp_cell_q, arrV_store]
  congr 2
  funext q
  by_cases hq : q = i.toNatClampNeg
  · subst hq
    simp [updV, va_up, va_rf]
  · simp [updV, va_up, hq]
theorem go_aast7N {a N : Nat} {f : Nat → Option Nat} {i : Int32} (pc' : Nat) (hd : decode M.2.1 pc = .ok (.aastore, 1)) (hw : w.2 a = some (.inl (Γ.2.2.1 7, N, .inr (.inr (.inr (.inr f)))))) (hin : vp_in i N) (kk : Go l Γ M dp mc ms Φ Ψ k n (wset w a (.inl (Γ.2.2.1 7, N, .inr (.inr (.inr (.inr (va_up f i.toNatClampNeg none))))))) pc' L st) (hp : pc + 1 = pc' := by rfl) : Go l Γ M dp mc ms Φ Ψ k n w pc L (.null :: .int i :: .ref a :: st) := by
  subst hp
  intro p e s m args below meth c C H locs ls hl hH hS
  obtain ⟨haG, hat⟩ := hH.2.2 a _ hw
  refine va_WaastN (C := RX7) C.1 C.2.1 hat ((C.arr 7 rfl).1 N (fun j => va_rf (f j))) (fun h => by cases h) (by show ¬ (i < 0 ∨ (arrV _ _ _).slots.size ≤ _); rw [arrV_size]; exact hin) rfl rfl hd fun H1 e1 z oq => ?_
  refine kk p e s m args below meth c C H1 _ ls hl (hH.set haG ?_ z oq) (hS.put z oq haG)
  show H1[a]? = some (vp_cell _ _)
  rw [e1]
  rw [vp_cell_q, vp_cell_q, arrV_store]
  congr 2
  funext q
  by_cases hq : q = i.toNatClampNeg
  · subst hq
    simp [updV, va_up, va_rf]
  · simp [updV, va_up, hq]
theorem go_anew7 {index : Nat} {i : Int32} {N : Nat} (pc' : Nat) (hd : decode M.2.1 pc = .ok (.anewarray index, 3)) (hcl : Cond.classLink M.1.cls index RX7 ∈ zGood) (hi : i = nI N) (hN : N ≤ 65536) (hc1 : k + 1 ≤ mc) (hs1 : n + N ≤ ms) (kk : Go l Γ M dp mc ms Φ Ψ (k + 1) (n + N) (wnew w (.inl (Γ.2.2.1 7, N, .inr (.inr (.inr (.inr (fun _ => none))))))) pc' L (.ref w.1 :: st)) (hp : pc + 3 = pc' := by rfl) : Go l Γ M dp mc ms Φ Ψ k n w pc L (.int i :: st) := by
  subst hp
  intro p e s m args below meth c C H locs ls hl hH hS
  obtain ⟨p0, eN⟩ := pos_mc hi hN
  refine W.anew C.1 C.2.1 C.own (C.good hcl) (va_AO.use C.stat.2.2.2.1.2.2.2.1) rfl hd rfl p0 (by rw [eN]; omega) hc1 (by rw [eN]; exact hs1) fun cA kA comp f1 f2 f3 f4 => ?_
  obtain ⟨-, -, -, -, -, f5⟩ := (C.arr 7 rfl).2
  have hcA : cA = Γ.2.2.1 7 := Option.some.inj (f1.symm.trans f5)
  subst hcA
  rw [eN]
  generalize hH1 : H.push ({ cls := Γ.2.2.1 7, slots := Array.replicate N .null, vm := .none } : Cell) = H1
  have z1 : H1.size = H.size + 1 := by rw [← hH1, Array.size_push]
  have e1 : H1[H.size]? = some (arrV (Γ.2.2.1 7) N (fun _ => .null)) := by rw [← hH1, Array.getElem?_push_size, ← arrV_new]
  have o1 : ∀ q : Nat, q < H.size → H1[q]? = H[q]? := fun q hq => by rw [← hH1, Array.getElem?_push, if_neg (Nat.ne_of_lt hq)]
  refine W.eq (g2 := F0 m (pc + 3) ls (.ref w.1 :: st)) (by rw [← hH.1]) ?_
  exact kk p e s m args below meth c C H1 _ ls hl (hH.push (by show H1[H.size]? = some (vp_cell _ _); rw [vp_cell_q]; exact e1) z1 o1) ⟨Nat.le_trans hS.1 (by omega), fun x g1 g2 => (o1 x (Nat.lt_of_lt_of_le g1 hS.1)).trans (hS.2.1 x g1 g2), hS.2.2⟩
theorem go_aald8 {a N : Nat} {f : Nat → Option Nat} {i : Int32} (pc' : Nat) (hd : decode M.2.1 pc = .ok (.aaload, 1)) (hw : w.2 a = some (.inl (Γ.2.2.1 8, N, .inr (.inr (.inr (.inr f)))))) (hin : vp_in i N) (kk : Go l Γ M dp mc ms Φ Ψ k n w pc' L (va_rf (f i.toNatClampNeg) :: st)) (hp : pc + 1 = pc' := by rfl) : Go l Γ M dp mc ms Φ Ψ k n w pc L (.int i :: .ref a :: st) := by
  subst hp
  exact fun p e s m args below meth c C H locs ls hl hH hS => va_aldq C.1 C.2.1 C.stat.1 (zH.one hH hw) 0 8 rfl rfl hin hd (kk p e s m args below meth c C H locs ls hl hH hS)
theorem go_aast8 {a b N : Nat} {fs : List Value} {f : Nat → Option Nat} {i : Int32} (pc' : Nat) (hd : decode M.2.1 pc = .ok (.aastore, 1)) (hw : w.2 a = some (.inl (Γ.2.2.1 8, N, .inr (.inr (.inr (.inr f)))))) (hv : w.2 b = some (.inr (10, fs))) (hin : vp_in i N) (kk : Go l Γ M dp mc ms Φ Ψ k n (wset w a (.inl (Γ.2.2.1 8, N, .inr (.inr (.inr (.inr (va_up f i.toNatClampNeg (some b)))))))) pc' L st) (hp : pc + 1 = pc' := by rfl) : Go l Γ M dp mc ms Φ Ψ k n w pc L (.ref b :: .int i :: .ref a :: st) := by
  subst hp
  intro p e s m args below meth c C H locs ls hl hH hS
  obtain ⟨haG, hat⟩ := hH.2.2 a _ hw
  obtain ⟨-, r', hr', cellV, g1, g2, g3, -⟩ := hH.2.2 b _ hv
  have hlt : i.toNatClampNeg < N := Nat.not_le.mp fun q => hin (Or.inr q)
  have h0 : ¬ i < 0 := fun q => hin (Or.inl q)
  have hcls := (C.stat.1.1 10 r' hr').2
  obtain ⟨kA, comp, k1, k2, k3, -⟩ := (C.arr 8 rfl).2
  have hr0 : r'.1 = RX10 := by cases hr'; rfl
  have hcomp : comp = Γ.2.1.1 10 := Option.some.inj (k3.symm.trans (by rw [← hr0]; exact hcls.1))
  subst hcomp
  obtain ⟨kC, hkC, -⟩ := hcls.2
  refine W.aast C.1 C.2.1 hat (fun q h => by cases h) (fun h => by cases h) k1 k2 rfl hkC ⟨h0, by show _ < (arrV _ _ _).slots.size; rw [arrV_size]; exact hlt⟩ g1 (fun q h => by rw [g3] at h; cases h) (by rw [g2]; exact hkC) (by rw [g2]; exact va_assign hcls) rfl rfl hd fun H1 e1 z oq => ?_
  refine kk p e s m args below meth c C H1 _ ls hl (hH.set haG ?_ z oq) (hS.put z oq haG)
  show H1[a]? = some (vp_cell _ _)
  rw [e1]
  rw [vp_cell_q, vp_cell_q, arrV_store]
  congr 2
  funext q
  by_cases hq : q = i.toNatClampNeg
  · subst hq
    simp [updV, va_up, va_rf]
  · simp [updV, va_up, hq]
theorem go_aast8N {a N : Nat} {f : Nat → Option Nat} {i : Int32} (pc' : Nat) (hd : decode M.2.1 pc = .ok (.aastore, 1)) (hw : w.2 a = some (.inl (Γ.2.2.1 8, N, .inr (.inr (.inr (.inr f)))))) (hin : vp_in i N) (kk : Go l Γ M dp mc ms Φ Ψ k n (wset w a (.inl (Γ.2.2.1 8, N, .inr (.inr (.inr (.inr (va_up f i.toNatClampNeg none))))))) pc' L st) (hp : pc + 1 = pc' := by rfl) : Go l Γ M dp mc ms Φ Ψ k n w pc L (.null :: .int i :: .ref a :: st) := by
  subst hp
  intro p e s m args below meth c C H locs ls hl hH hS
  obtain ⟨haG, hat⟩ := hH.2.2 a _ hw
  refine va_WaastN (C := RX10) C.1 C.2.1 hat ((C.arr 8 rfl).1 N (fun j => va_rf (f j))) (fun h => by cases h) (by show ¬ (i < 0 ∨ (arrV _ _ _).slots.size ≤ _); rw [arrV_size]; exact hin) rfl rfl hd fun H1 e1 z oq => ?_
  refine kk p e s m args below meth c C H1 _ ls hl (hH.set haG ?_ z oq) (hS.put z oq haG)
  show H1[a]? = some (vp_cell _ _)
  rw [e1]
  rw [vp_cell_q, vp_cell_q, arrV_store]
  congr 2
  funext q
  by_cases hq : q = i.toNatClampNeg
  · subst hq
    simp [updV, va_up, va_rf]
  · simp [updV, va_up, hq]
theorem go_anew8 {index : Nat} {i : Int32} {N : Nat} (pc' : Nat) (hd : decode M.2.1 pc = .ok (.anewarray index, 3)) (hcl : Cond.classLink M.1.cls index RX10 ∈ zGood) (hi : i = nI N) (hN : N ≤ 65536) (hc1 : k + 1 ≤ mc) (hs1 : n + N ≤ ms) (kk : Go l Γ M dp mc ms Φ Ψ (k + 1) (n + N) (wnew w (.inl (Γ.2.2.1 8, N, .inr (.inr (.inr (.inr (fun _ => none))))))) pc' L (.ref w.1 :: st)) (hp : pc + 3 = pc' := by rfl) : Go l Γ M dp mc ms Φ Ψ k n w pc L (.int i :: st) := by
  subst hp
  intro p e s m args below meth c C H locs ls hl hH hS
  obtain ⟨p0, eN⟩ := pos_mc hi hN
  refine W.anew C.1 C.2.1 C.own (C.good hcl) (va_AO.use C.stat.2.2.2.1.2.2.2.2.1) rfl hd rfl p0 (by rw [eN]; omega) hc1 (by rw [eN]; exact hs1) fun cA kA comp f1 f2 f3 f4 => ?_
  obtain ⟨-, -, -, -, -, f5⟩ := (C.arr 8 rfl).2
  have hcA : cA = Γ.2.2.1 8 := Option.some.inj (f1.symm.trans f5)
  subst hcA
  rw [eN]
  generalize hH1 : H.push ({ cls := Γ.2.2.1 8, slots := Array.replicate N .null, vm := .none } : Cell) = H1
  have z1 : H1.size = H.size + 1 := by rw [← hH1, Array.size_push]
  have e1 : H1[H.size]? = some (arrV (Γ.2.2.1 8) N (fun _ => .null)) := by rw [← hH1, Array.getElem?_push_size, ← arrV_new]
  have o1 : ∀ q : Nat, q < H.size → H1[q]? = H[q]? := fun q hq => by rw [← hH1, Array.getElem?_push, if_neg (Nat.ne_of_lt hq)]
  refine W.eq (g2 := F0 m (pc + 3) ls (.ref w.1 :: st)) (by rw [← hH.1]) ?_
  exact kk p e s m args below meth c C H1 _ ls hl (hH.push (by show H1[H.size]? = some (vp_cell _ _); rw [vp_cell_q]; exact e1) z1 o1) ⟨Nat.le_trans hS.1 (by omega), fun x g1 g2 => (o1 x (Nat.lt_of_lt_of_le g1 hS.1)).trans (hS.2.1 x g1 g2), hS.2.2⟩
theorem go_anewA {index : Nat} {i : Int32} {N : Nat} (pc' : Nat) (hd : decode M.2.1 pc = .ok (.anewarray index, 3)) (hcl : Cond.classLink M.1.cls index (FieldType.array .int).toString ∈ zGood) (hi : i = nI N) (hN : N ≤ 65536) (hc1 : k + 1 ≤ mc) (hs1 : n + N ≤ ms) (kk : Go l Γ M dp mc ms Φ Ψ (k + 1) (n + N) (wnew w (.inl (Γ.2.2.1 4, N, .inr (.inr (.inr (.inr (fun _ => none))))))) pc' L (.ref w.1 :: st)) (hp : pc + 3 = pc' := by rfl) : Go l Γ M dp mc ms Φ Ψ k n w pc L (.int i :: st) := by
  subst hp
  intro p e s m args below meth c C H locs ls hl hH hS
  obtain ⟨p0, eN⟩ := pos_mc hi hN
  refine W.anewA C.1 C.2.1 C.own (C.good hcl) (va_AOA.use C.stat.2.2.2.1.2.1) rfl hd rfl p0 (by rw [eN]; omega) hc1 (by rw [eN]; exact hs1) fun cA kA comp f1 f2 f3 f4 => ?_
  have f5 := (C.arr 4 rfl).2
  have hcA : cA = Γ.2.2.1 4 := Option.some.inj (f1.symm.trans f5)
  subst hcA
  rw [eN]
  generalize hH1 : H.push ({ cls := Γ.2.2.1 4, slots := Array.replicate N .null, vm := .none } : Cell) = H1
  have z1 : H1.size = H.size + 1 := by rw [← hH1, Array.size_push]
  have e1 : H1[H.size]? = some (arrV (Γ.2.2.1 4) N (fun _ => .null)) := by rw [← hH1, Array.getElem?_push_size, ← arrV_new]
  have o1 : ∀ q : Nat, q < H.size → H1[q]? = H[q]? := fun q hq => by rw [← hH1, Array.getElem?_push, if_neg (Nat.ne_of_lt hq)]
  refine W.eq (g2 := F0 m (pc + 3) ls (.ref w.1 :: st)) (by rw [← hH.1]) ?_
  exact kk p e s m args below meth c C H1 _ ls hl (hH.push (by show H1[H.size]? = some (vp_cell _ _); rw [vp_cell_q]; exact e1) z1 o1) ⟨Nat.le_trans hS.1 (by omega), fun x g1 g2 => (o1 x (Nat.lt_of_lt_of_le g1 hS.1)).trans (hS.2.1 x g1 g2), hS.2.2⟩
theorem go_aastA {a b N K : Nat} {g : Nat → Int32} {f : Nat → Option Nat} {i : Int32} (pc' : Nat) (hd : decode M.2.1 pc = .ok (.aastore, 1)) (hw : w.2 a = some (.inl (Γ.2.2.1 4, N, .inr (.inr (.inr (.inr f)))))) (hv : w.2 b = some (.inl (Γ.2.2.1 0, K, .inl g))) (hin : vp_in i N) (kk : Go l Γ M dp mc ms Φ Ψ k n (wset w a (.inl (Γ.2.2.1 4, N, .inr (.inr (.inr (.inr (va_up f i.toNatClampNeg (some b)))))))) pc' L st) (hp : pc + 1 = pc' := by rfl) : Go l Γ M dp mc ms Φ Ψ k n w pc L (.ref b :: .int i :: .ref a :: st) := by
  subst hp
  intro p e s m args below meth c C H locs ls hl hH hS
  obtain ⟨haG, hat⟩ := hH.2.2 a _ hw
  obtain ⟨-, hb⟩ := hH.2.2 b _ hv
  have hb : H[b]? = some (vp_cell (Γ.2.2.1 0) (K, .inl g)) := hb
  have hlt : i.toNatClampNeg < N := Nat.not_le.mp fun q => hin (Or.inr q)
  have h0 : ¬ i < 0 := fun q => hin (Or.inl q)
  obtain ⟨comp, cA, kA, hcomp, hkA, hkindA, hnameA⟩ := Cond.arrayOver_specA (va_AOA.use (A := args) C.stat.2.2.2.1.2.1)
  have hcA : cA = Γ.2.2.1 4 := Option.some.inj (hnameA.symm.trans (C.arr 4 rfl).2)
  subst hcA
  have hc0 : comp = Γ.2.2.1 0 := Option.some.inj (hcomp.symm.trans (C.arr 0 rfl).2)
  subst hc0
  obtain ⟨-, kC, hkC, -⟩ := (C.arr 0 rfl).1 0 (fun _ => .null)
  refine W.aast C.1 C.2.1 hat (fun q h => by cases h) (fun h => by cases h) hkA hkindA rfl hkC ⟨h0, by show _ < (arrV _ _ _).slots.size; rw [arrV_size]; exact hlt⟩ hb (fun q h => by cases h) hkC asg_self rfl rfl hd fun H1 e1 z oq => ?_
  refine kk p e s m args below meth c C H1 _ ls hl (hH.set haG ?_ z oq) (hS.put z oq haG)
  show H1[a]? = some (vp_cell _ _)
  rw [e1]
  rw [vp_cell_q, vp_cell_q, arrV_store]
  congr 2
  funext q
  by_cases hq : q = i.toNatClampNeg
  · subst hq
    simp [updV, va_up, va_rf]
  · simp [updV, va_up, hq]
theorem go_aastAN {a N : Nat} {f : Nat → Option Nat} {i : Int32} (pc' : Nat) (hd : decode M.2.1 pc = .ok (.aastore, 1)) (hw : w.2 a = some (.inl (Γ.2.2.1 4, N, .inr (.inr (.inr (.inr f)))))) (hin : vp_in i N) (kk : Go l Γ M dp mc ms Φ Ψ k n (wset w a (.inl (Γ.2.2.1 4, N, .inr (.inr (.inr (.inr (va_up f i.toNatClampNeg none))))))) pc' L st) (hp : pc + 1 = pc' := by rfl) : Go l Γ M dp mc ms Φ Ψ k n w pc L (.null :: .int i :: .ref a :: st) := by
  subst hp
  intro p e s m args below meth c C H locs ls hl hH hS
  obtain ⟨haG, hat⟩ := hH.2.2 a _ hw
  refine va_WaastN1 (t := .int) C.1 C.2.1 hat ((C.arr 4 rfl).1 N (fun j => va_rf (f j))) (fun h => by cases h) (by show ¬ (i < 0 ∨ (arrV _ _ _).slots.size ≤ _); rw [arrV_size]; exact hin) rfl rfl hd fun H1 e1 z oq => ?_
  refine kk p e s m args below meth c C H1 _ ls hl (hH.set haG ?_ z oq) (hS.put z oq haG)
  show H1[a]? = some (vp_cell _ _)
  rw [e1]
  rw [vp_cell_q, vp_cell_q, arrV_store]
  congr 2
  funext q
  by_cases hq : q = i.toNatClampNeg
  · subst hq
    simp [updV, va_up, va_rf]
  · simp [updV, va_up, hq]
/-- rows of truths -/
theorem go_zald {a N : Nat} {f : Nat → Int32} {i : Int32} (pc' : Nat) (hd : decode M.2.1 pc = .ok (.baload, 1)) (hw : w.2 a = some (.inl (Γ.2.2.1 5, N, .inl f))) (hin : vp_in i N) (kk : Go l Γ M dp mc ms Φ Ψ k n w pc' L (.int (f i.toNatClampNeg) :: st)) (hp : pc + 1 = pc' := by rfl) : Go l Γ M dp mc ms Φ Ψ k n w pc L (.int i :: .ref a :: st) := by
  subst hp
  exact fun p e s m args below meth c C H locs ls hl hH hS => va_zald C.1 C.2.1 C.stat.1 (zH.one hH hw) 0 5 rfl rfl hin hd (kk p e s m args below meth c C H locs ls hl hH hS)
theorem go_zast {a N : Nat} {f : Nat → Int32} {i : Int32} {x : Int32} (pc' : Nat) (hd : decode M.2.1 pc = .ok (.bastore, 1)) (hw : w.2 a = some (.inl (Γ.2.2.1 5, N, .inl f))) (hin : vp_in i N) (h01 : x = 0 ∨ x = 1) (kk : Go l Γ M dp mc ms Φ Ψ k n (wset w a (.inl (Γ.2.2.1 5, N, .inl (upd f i.toNatClampNeg x)))) pc' L st) (hp : pc + 1 = pc' := by rfl) : Go l Γ M dp mc ms Φ Ψ k n w pc L (.int x :: .int i :: .ref a :: st) := by
  subst hp
  intro p e s m args below meth c C H locs ls hl hH hS
  obtain ⟨haG, hat⟩ := hH.2.2 a _ hw
  have hn : vp_nar .boolean x = x := by rcases h01 with rfl | rfl <;> rfl
  have hn2 : narrow .boolean (.int x) = .int x := by rcases h01 with rfl | rfl <;> rfl
  refine W.zast C.1 C.2.1 hat ((C.arr 5 rfl).1 N (fun j => .int (f j))) (fun q => by cases q) (by show ¬ (i < 0 ∨ (arrV _ _ _).slots.size ≤ _); rw [arrV_size]; exact hin) rfl rfl hd fun H1 e1 z oq => ?_
  refine kk p e s m args below meth c C H1 _ ls hl (hH.set haG ?_ z oq) (hS.put z oq haG)
  show H1[a]? = some (vp_cell _ _)
  rw [e1, hn2]
  rw [vp_cell_i, vp_cell_i, arrV_store]
  congr 2
  funext q
  by_cases hq : q = i.toNatClampNeg
  · subst hq
    simp [updV, upd]
  · simp [updV, upd, hq]
theorem go_newarray_z {i : Int32} {N : Nat} (pc' : Nat) (hd : decode M.2.1 pc = .ok (.newarray .boolean, 2)) (hi : i = nI N) (hN : N ≤ 65536) (hc1 : k + 1 ≤ mc) (hs1 : n + N ≤ ms) (hg : Cond.arrayClass .boolean ∈ zGood) (kk : Go l Γ M dp mc ms Φ Ψ (k + 1) (n + N) (wnew w (.inl (Γ.2.2.1 5, N, .inl (fun _ => 0)))) pc' L (.ref w.1 :: st)) (hp : pc + 2 = pc' := by rfl) : Go l Γ M dp mc ms Φ Ψ k n w pc L (.int i :: st) := by
  subst hp
  intro p e s m args below meth c C H locs ls hl hH hS
  have hN2 : N < 2 ^ 31 := by omega
  refine va_newaK C.1 C.2.1 (atype := .boolean) (C.good hg) rfl hd rfl (by rw [hi]; exact nI_pos hN2) (by rw [hi]; exact nI_clamp hN2) (by show N * _ ≤ _; simp [newarray.typeOf, componentBytes]; try omega) hc1 hs1 rfl fun H1 cA e1 z1 o1 hT hNm => ?_
  have hcA : cA = Γ.2.2.1 5 := Option.some.inj (hNm.symm.trans (C.arr 5 rfl).2)
  subst hcA
  refine W.eq (g2 := F0 m (pc + 2) ls (.ref w.1 :: st)) (by rw [← hH.1]) ?_
  exact kk p e s m args below meth c C H1 _ ls hl (hH.push (by show H1[H.size]? = some (vp_cell _ _); rw [vp_cell_i]; exact e1) z1 o1) ⟨Nat.le_trans hS.1 (by omega), fun x g1 g2 => (o1 x (Nat.lt_of_lt_of_le g1 hS.1)).trans (hS.2.1 x g1 g2), hS.2.2⟩
end LRules
