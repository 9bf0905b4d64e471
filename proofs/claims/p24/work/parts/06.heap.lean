section GoHeap
variable {l : Launch} {Γ : ZG} {M : ZM} {dp mc ms : Nat} {Φ : Option Value → ZW → Prop} {Ψ : String → ZW → Prop} {k n : Nat} {w : ZW} {pc : Nat} {L : ZL} {st : List Value}
/-- the field reference at this entry of this class is slot j of class ci -/
def zF (own : String) (idx ci j : Nat) : Prop := ∃ (C : String) (T : u_T) (N : Nat), vwCl[ci]? = some (C, T, N) ∧ j < N ∧ (∀ w ∈ u_ws C T N, w ∈ zGood) ∧ (Cond.fieldLink own idx (T j).1 (T j).2.1 (T j).2.2.1 ∈ zGood ∨ ∃ host : String, Cond.fieldLinkNest own idx (T j).1 (T j).2.1 (T j).2.2.1 host ∈ zNest)
/-- .. and may be written, with values of this type -/
def zFp (own : String) (idx ci j : Nat) (ty : FieldType) : Prop := ∃ (C : String) (T : u_T) (N : Nat) (ty0 : Nat → FieldType), vwCl[ci]? = some (C, T, N) ∧ j < N ∧ (∀ w ∈ u_ws C T N, w ∈ zGood) ∧ (Cond.fieldLink own idx (T j).1 (T j).2.1 (T j).2.2.1 ∈ zGood ∨ ∃ host : String, Cond.fieldLinkNest own idx (T j).1 (T j).2.1 (T j).2.2.1 host ∈ zNest) ∧
  (∀ k, k < N → parseFieldDescriptor (T k).2.2.1 = some (ty0 k)) ∧ (∀ a, a < N → ∀ b, b < N → a ≠ b → (T a).2.1 ≠ (T b).2.1) ∧ (T j).2.2.2 = false ∧ parseFieldDescriptor (T j).2.2.1 = some ty
/-- a final field, written in its class's constructor -/
def zFf (own : String) (idx ci j : Nat) (ty : FieldType) : Prop := ∃ (C : String) (T : u_T) (N : Nat) (ty0 : Nat → FieldType), vwCl[ci]? = some (C, T, N) ∧ j < N ∧ (∀ w ∈ u_ws C T N, w ∈ zGood) ∧ Cond.fieldLink own idx (T j).1 (T j).2.1 (T j).2.2.1 ∈ zGood ∧
  (∀ k, k < N → parseFieldDescriptor (T k).2.2.1 = some (ty0 k)) ∧ (∀ a, a < N → ∀ b, b < N → a ≠ b → (T a).2.1 ≠ (T b).2.1) ∧ (T j).2.2.2 = true ∧ (T j).1 = own ∧ parseFieldDescriptor (T j).2.2.1 = some ty
/-- an object of class ci may be made from this entry: N slots, holding fs -/
def zNew (own : String) (idx ci N : Nat) (fs : List Value) : Prop := ∃ (C : String) (T : u_T) (ty0 : Nat → FieldType), vwCl[ci]? = some (C, T, N) ∧ (∀ w ∈ u_ws C T N, w ∈ zGood) ∧ (∀ k, k < N → parseFieldDescriptor (T k).2.2.1 = some (ty0 k)) ∧ Cond.classLink own idx C ∈ zGood ∧ Cond.instantiable C N ∈ zGood ∧ Cond.initialized C ∈ zGood ∧ ∀ j, j < N → defaultValue (ty0 j) = vp_V fs j
theorem zC.good {M : ZM} {p : Program} {s : State} {m : MethodId} {args : Array Value} {meth : Method} {c : Code} (C : zC l Γ M p s m args meth c) {w : Cond} (h : w ∈ zGood) : w.before args s = true := C.2.2.2.2.1 w (List.mem_cons_of_mem _ h)
theorem zC.own {M : ZM} {p : Program} {s : State} {m : MethodId} {args : Array Value} {meth : Method} {c : Code} (C : zC l Γ M p s m args meth c) : s.vm.findClass M.1.cls = some m.cls := C.2.2.2.2.2.1
theorem zC.stat {M : ZM} {p : Program} {s : State} {m : MethodId} {args : Array Value} {meth : Method} {c : Code} (C : zC l Γ M p s m args meth c) : zS Γ s s.heap := C.2.2.2.2.2.2.2.2.1
theorem zC.big {M : ZM} {p : Program} {s : State} {m : MethodId} {args : Array Value} {meth : Method} {c : Code} (C : zC l Γ M p s m args meth c) : Γ.1 ≤ s.heap.size := C.2.2.2.2.2.2.2.2.2.1
theorem zC.arr {M : ZM} {p : Program} {s : State} {m : MethodId} {args : Array Value} {meth : Method} {c : Code} (C : zC l Γ M p s m args meth c) (i : Nat) {q : ClassId × FieldType} (h : (zt Γ)[i]? = some q) : ArrOfT s q.1 q.2 ∧ va_RA s q.1 q.2 := C.stat.1.2 i q h
theorem go_get {index ci j a : Nat} {fs : List Value} {v : Value} (pc' : Nat) (hd : decode M.2.1 pc = .ok (.getfield index, 3)) (F : zF M.1.cls index ci j) (hw : w.2 a = some (.inr (ci, fs))) (hv : fs[j]? = some v) (kk : Go l Γ M dp mc ms Φ Ψ k n w pc' L (v :: st)) (hp : pc + 3 = pc' := by rfl) : Go l Γ M dp mc ms Φ Ψ k n w pc L (.ref a :: st) := by
  subst hp
  intro p e s m args below meth c C H locs ls hl hH hS
  obtain ⟨Cn, T, N, hc, hj, hin, hlink⟩ := F
  have hP := zH.one hH hw
  have k2 := kk p e s m args below meth c C H locs ls hl hH hS
  rcases hlink with h | ⟨host, h⟩
  · exact va_get C.1 C.2.1 (Ts := zGood) (fun w hw => C.good hw) hin C.own C.stat.1 hP 0 rfl hc j hj (C.good h) (fun _ h => h) hv hd k2
  · exact va_getN C.1 C.2.1 (Ts := zGood) (fun w hw => C.good hw) hin C.own C.stat.1 hP 0 rfl hc j hj (va_Nw.use rfl (C.stat.2.1 _ h)) (fun _ h => h) hv hd k2
theorem go_put {index ci j a : Nat} {fs : List Value} {v : Value} {ty : FieldType} (pc' : Nat) (hd : decode M.2.1 pc = .ok (.putfield index, 3)) (F : zFp M.1.cls index ci j ty) (hw : w.2 a = some (.inr (ci, fs))) (hl9 : j < fs.length) (hn : narrow ty v = v) (hfit : fits ty v = true) (kk : Go l Γ M dp mc ms Φ Ψ k n (wset w a (.inr (ci, fs.set j v))) pc' L st) (hp : pc + 3 = pc' := by rfl) : Go l Γ M dp mc ms Φ Ψ k n w pc L (v :: .ref a :: st) := by
  subst hp
  intro p e s m args below meth c C H locs ls hl hH hS
  obtain ⟨Cn, T, N, ty0, hc, hj, hin, hlink, hty, hnm, hfin, hpd⟩ := F
  have hK := C.stat.1
  have hts : ∀ w ∈ zGood, w.before args s = true := fun w hw => C.good hw
  have hap := va_apart (own := M.1.cls) hts hin ty0 hty hnm hK hc
  obtain ⟨haG, hat⟩ := hH.2.2 a _ hw
  obtain ⟨r, h1, cell, q1, q2, q3, q4⟩ := hat
  have hr : r = (Cn, T, N) := Option.some.inj (h1.symm.trans hc)
  subst hr
  obtain ⟨hSl, hfc, kC, hkC, hkind⟩ := hK.1 ci _ hc
  obtain ⟨cf, kf, fi, f, hi, hsl⟩ := hSl j hj
  have hlay := hts _ (hin _ (u_in_lay hj))
  unfold u_lay at hlay
  rw [if_neg (by rw [hfin]; decide)] at hlay
  have hst := (u_facts hfc hkC (u_lays hts hin hj) hi).1
  have h6 := u_store hfc hkC hkind hlay hi hpd hn hfit
  have fin9 : ∀ H' : Heap, H'[a]? = some (cell.setSlot f.slot v) → H'.size = H.size → (∀ q, q ≠ a → H'[q]? = H[q]?) → W p l e (zRm dp mc ms) s m args below meth c H' (locs ++ [⟨a, f.slot⟩]) k n (vx_MQ below (zQ Γ Φ) (zX Γ Ψ) args s mc ms (zA Γ)) (F0 m (pc + 3) ls st) := by
    intro H' e1 e2 e3
    rw [hsl] at e1 ⊢
    exact kk p e s m args below meth c C H' _ ls hl (hH.set haG ⟨_, hc, t_OB.to (V := updV (vp_V fs) j v) ⟨_, e1, q2, q3, t_set q4 hap hj v⟩ (fun i _ => vp_updV_set hl9 v i)⟩ e2 e3) (hS.put e2 e3 haG)
  rcases hlink with h | ⟨host, h⟩
  · exact W.putK C.1 C.2.1 (f := f) ⟨C.own, C.good h, ⟨_, _, _, hi⟩, hst⟩ (by rw [q2]; exact h6) q1 q3 (by rw [hsl]; exact k2_hasslot (q4 j hj)) rfl rfl hd fin9
  · exact va_WputK C.1 C.2.1 (f := f) C.own (va_Nw.use rfl (C.stat.2.1 _ h)) hi hst (by rw [q2]; exact h6) q1 q3 (by rw [hsl]; exact k2_hasslot (q4 j hj)) rfl rfl hd fin9
theorem go_putF {index ci j a : Nat} {fs : List Value} {v : Value} {ty : FieldType} (pc' : Nat) (hd : decode M.2.1 pc = .ok (.putfield index, 3)) (F : zFf M.1.cls index ci j ty) (hin2 : M.1.name = "<init>") (hw : w.2 a = some (.inr (ci, fs))) (hl9 : j < fs.length) (hn : narrow ty v = v) (hfit : fits ty v = true) (kk : Go l Γ M dp mc ms Φ Ψ k n (wset w a (.inr (ci, fs.set j v))) pc' L st) (hp : pc + 3 = pc' := by rfl) : Go l Γ M dp mc ms Φ Ψ k n w pc L (v :: .ref a :: st) := by
  subst hp
  intro p e s m args below meth c C H locs ls hl hH hS
  obtain ⟨Cn, T, N, ty0, hc, hj, hin, hlink, hty, hnm, hfin, hdecl, hpd⟩ := F
  have hK := C.stat.1
  have hts : ∀ w ∈ zGood, w.before args s = true := fun w hw => C.good hw
  have hap := va_apart (own := M.1.cls) hts hin ty0 hty hnm hK hc
  obtain ⟨haG, hat⟩ := hH.2.2 a _ hw
  obtain ⟨r, h1, cell, q1, q2, q3, q4⟩ := hat
  have hr : r = (Cn, T, N) := Option.some.inj (h1.symm.trans hc)
  subst hr
  obtain ⟨hSl, hfc, kC, hkC, hkind⟩ := hK.1 ci _ hc
  obtain ⟨cf, kf, fi, f, hi, hsl⟩ := hSl j hj
  have hlay := hts _ (hin _ (u_in_lay hj))
  unfold u_lay at hlay
  rw [if_pos hfin] at hlay
  have hst := (u_facts hfc hkC (u_lays hts hin hj) hi).1
  have hcf : m.cls = cf := by
    obtain ⟨_, _, c', _, _, _, -, -, hf', -, -, -, hown2, -⟩ := Cond.laysFinal_spec hlay
    have e1 : c' = cf := by have := hi.symm.trans hf'; simp at this; exact this.1.symm
    rw [hdecl] at hown2
    rw [← e1]; exact Option.some.inj (C.own.symm.trans hown2)
  have h6 := u_fits hfc hkC hkind (Or.inr hlay) hi hpd hn hfit
  refine W.putFinK C.1 C.2.1 C.own (C.good hlink) hi hst hcf (C.2.2.2.2.2.2.2.1.trans hin2) (by rw [q2]; exact h6) q1 q3 (by rw [hsl]; exact k2_hasslot (q4 j hj)) rfl rfl hd fun H' e1 e2 e3 => ?_
  rw [hsl] at e1 ⊢
  exact kk p e s m args below meth c C H' _ ls hl (hH.set haG ⟨_, hc, t_OB.to (V := updV (vp_V fs) j v) ⟨_, e1, q2, q3, t_set q4 hap hj v⟩ (fun i _ => vp_updV_set hl9 v i)⟩ e2 e3) (hS.put e2 e3 haG)
theorem go_iald {a N : Nat} {f : Nat → Int32} {i : Int32} (pc' : Nat) (hd : decode M.2.1 pc = .ok (.iaload, 1)) (hw : w.2 a = some (.inl (Γ.2.2.1 0, N, .inl f))) (hin : vp_in i N) (kk : Go l Γ M dp mc ms Φ Ψ k n w pc' L (.int (f i.toNatClampNeg) :: st)) (hp : pc + 1 = pc' := by rfl) : Go l Γ M dp mc ms Φ Ψ k n w pc L (.int i :: .ref a :: st) := by
  subst hp
  exact fun p e s m args below meth c C H locs ls hl hH hS => va_iald C.1 C.2.1 C.stat.1 (zH.one hH hw) 0 0 rfl rfl hin hd (kk p e s m args below meth c C H locs ls hl hH hS)
theorem go_bald {a N : Nat} {f : Nat → Int32} {i : Int32} (pc' : Nat) (hd : decode M.2.1 pc = .ok (.baload, 1)) (hw : w.2 a = some (.inl (Γ.2.2.1 1, N, .inl f))) (hin : vp_in i N) (kk : Go l Γ M dp mc ms Φ Ψ k n w pc' L (.int (f i.toNatClampNeg) :: st)) (hp : pc + 1 = pc' := by rfl) : Go l Γ M dp mc ms Φ Ψ k n w pc L (.int i :: .ref a :: st) := by
  subst hp
  exact fun p e s m args below meth c C H locs ls hl hH hS => va_bald C.1 C.2.1 C.stat.1 (zH.one hH hw) 0 1 rfl rfl hin hd (kk p e s m args below meth c C H locs ls hl hH hS)
theorem go_lald {a N : Nat} {f : Nat → Int64} {i : Int32} (pc' : Nat) (hd : decode M.2.1 pc = .ok (.laload, 1)) (hw : w.2 a = some (.inl (Γ.2.2.1 2, N, .inr (.inl f)))) (hin : vp_in i N) (kk : Go l Γ M dp mc ms Φ Ψ k n w pc' L (.long (f i.toNatClampNeg) :: st)) (hp : pc + 1 = pc' := by rfl) : Go l Γ M dp mc ms Φ Ψ k n w pc L (.int i :: .ref a :: st) := by
  subst hp
  exact fun p e s m args below meth c C H locs ls hl hH hS => va_lald C.1 C.2.1 C.stat.1 (zH.one hH hw) 0 2 rfl rfl hin hd (kk p e s m args below meth c C H locs ls hl hH hS)
theorem go_aald {a N : Nat} {f : Nat → Option Nat} {i : Int32} (pc' : Nat) (hd : decode M.2.1 pc = .ok (.aaload, 1)) (hw : w.2 a = some (.inl (Γ.2.2.1 3, N, .inr (.inr (.inr (.inr f)))))) (hin : vp_in i N) (kk : Go l Γ M dp mc ms Φ Ψ k n w pc' L (va_rf (f i.toNatClampNeg) :: st)) (hp : pc + 1 = pc' := by rfl) : Go l Γ M dp mc ms Φ Ψ k n w pc L (.int i :: .ref a :: st) := by
  subst hp
  exact fun p e s m args below meth c C H locs ls hl hH hS => va_aldq C.1 C.2.1 C.stat.1 (zH.one hH hw) 0 3 rfl rfl hin hd (kk p e s m args below meth c C H locs ls hl hH hS)
theorem go_aaldA {a N : Nat} {f : Nat → Option Nat} {i : Int32} (pc' : Nat) (hd : decode M.2.1 pc = .ok (.aaload, 1)) (hw : w.2 a = some (.inl (Γ.2.2.1 4, N, .inr (.inr (.inr (.inr f)))))) (hin : vp_in i N) (kk : Go l Γ M dp mc ms Φ Ψ k n w pc' L (va_rf (f i.toNatClampNeg) :: st)) (hp : pc + 1 = pc' := by rfl) : Go l Γ M dp mc ms Φ Ψ k n w pc L (.int i :: .ref a :: st) := by
  subst hp
  intro p e s m args below meth c C H locs ls hl hH hS
  have hlt : i.toNatClampNeg < N := Nat.not_le.mp fun q => hin (Or.inr q)
  exact W.aald (v := va_rf (f i.toNatClampNeg)) (ty := .array .int) C.1 C.2.1 (zH.one hH hw 0 _ rfl) ((C.arr 4 rfl).1 N (fun j => va_rf (f j))) rfl (fun q => by cases q) (by show ¬ (i < 0 ∨ (arrV _ _ _).slots.size ≤ _); rw [arrV_size]; exact hin) (by show (arrV _ _ _).slots[_]? = _; rw [arrV_read _ _ hlt]) rfl rfl hd (kk p e s m args below meth c C H locs ls hl hH hS)
theorem go_alen {a N t0 : Nat} {x : (Nat → Int32) ⊕ (Nat → Int64) ⊕ (Nat → UInt32) ⊕ (Nat → UInt64) ⊕ (Nat → Option Nat)} {ty : FieldType} {v : Int32} (pc' : Nat) (hd : decode M.2.1 pc = .ok (.arraylength, 1)) (hw : w.2 a = some (.inl (Γ.2.2.1 t0, N, x))) (ht : (zt Γ)[t0]? = some (Γ.2.2.1 t0, ty)) (hv : Int32.ofNat N = v) (kk : Go l Γ M dp mc ms Φ Ψ k n w pc' L (.int v :: st)) (hp : pc + 1 = pc' := by rfl) : Go l Γ M dp mc ms Φ Ψ k n w pc L (.ref a :: st) := by
  subst hp
  exact fun p e s m args below meth c C H locs ls hl hH hS => va_alen C.1 C.2.1 C.stat.1 (zH.one hH hw) 0 t0 rfl ht hv hd (kk p e s m args below meth c C H locs ls hl hH hS)
theorem go_sld {i : Int32} (pc' : Nat) (hd : decode M.2.1 pc = .ok (.iaload, 1)) (hin : vp_in i Γ.2.2.2.2.2.1) (kk : Go l Γ M dp mc ms Φ Ψ k n w pc' L (.int (Γ.2.2.2.2.2.2 i.toNatClampNeg) :: st)) (hp : pc + 1 = pc' := by rfl) : Go l Γ M dp mc ms Φ Ψ k n w pc L (.int i :: .ref Γ.2.2.2.2.1 :: st) := by
  subst hp
  exact fun p e s m args below meth c C H locs ls hl hH hS => va_sld C.1 C.2.1 C.stat.2.2.2.2.2.2.1 (Nat.lt_of_lt_of_le C.stat.2.2.2.2.2.2.2 C.big) (Nat.not_le.mpr C.stat.2.2.2.2.2.2.2) hS hin hd (kk p e s m args below meth c C H locs ls hl hH hS)
theorem go_slen (pc' : Nat) (hd : decode M.2.1 pc = .ok (.arraylength, 1)) (kk : Go l Γ M dp mc ms Φ Ψ k n w pc' L (.int (Int32.ofNat Γ.2.2.2.2.2.1) :: st)) (hp : pc + 1 = pc' := by rfl) : Go l Γ M dp mc ms Φ Ψ k n w pc L (.ref Γ.2.2.2.2.1 :: st) := by
  subst hp
  exact fun p e s m args below meth c C H locs ls hl hH hS => va_slen C.1 C.2.1 C.stat.2.2.2.2.2.2.1 (Nat.lt_of_lt_of_le C.stat.2.2.2.2.2.2.2 C.big) (Nat.not_le.mpr C.stat.2.2.2.2.2.2.2) hS hd (kk p e s m args below meth c C H locs ls hl hH hS)
theorem go_iast {a N : Nat} {f : Nat → Int32} {i : Int32} {x : Int32} (pc' : Nat) (hd : decode M.2.1 pc = .ok (.iastore, 1)) (hw : w.2 a = some (.inl (Γ.2.2.1 0, N, .inl (f)))) (hin : vp_in i N) (kk : Go l Γ M dp mc ms Φ Ψ k n (wset w a (.inl (Γ.2.2.1 0, N, .inl (upd f i.toNatClampNeg x)))) pc' L st) (hp : pc + 1 = pc' := by rfl) : Go l Γ M dp mc ms Φ Ψ k n w pc L (.int x :: .int i :: .ref a :: st) := by
  subst hp
  intro p e s m args below meth c C H locs ls hl hH hS
  obtain ⟨haG, hat⟩ := hH.2.2 a _ hw
  refine W.iast C.1 C.2.1 hat ((C.arr 0 rfl).1 N (fun j => .int (f j))) (fun q => by cases q) (by show ¬ (i < 0 ∨ (arrV _ _ _).slots.size ≤ _); rw [arrV_size]; exact hin) rfl rfl hd fun H1 e1 z oq => ?_
  refine kk p e s m args below meth c C H1 _ ls hl (hH.set haG ?_ z oq) (hS.put z oq haG)
  show H1[a]? = some (vp_cell _ _)
  rw [e1]
  rw [vp_cell_i, vp_cell_i, arrV_store]
  congr 2
  funext q
  by_cases hq : q = i.toNatClampNeg
  · subst hq
    simp [updV, upd]
    try rfl
  · simp [updV, upd, hq]
theorem go_bast {a N : Nat} {f : Nat → Int32} {i : Int32} {x : Int32} (pc' : Nat) (hd : decode M.2.1 pc = .ok (.bastore, 1)) (hw : w.2 a = some (.inl (Γ.2.2.1 1, N, .inl (f)))) (hin : vp_in i N) (kk : Go l Γ M dp mc ms Φ Ψ k n (wset w a (.inl (Γ.2.2.1 1, N, .inl (upd f i.toNatClampNeg (vp_nar .byte x))))) pc' L st) (hp : pc + 1 = pc' := by rfl) : Go l Γ M dp mc ms Φ Ψ k n w pc L (.int x :: .int i :: .ref a :: st) := by
  subst hp
  intro p e s m args below meth c C H locs ls hl hH hS
  obtain ⟨haG, hat⟩ := hH.2.2 a _ hw
  refine W.bast C.1 C.2.1 hat ((C.arr 1 rfl).1 N (fun j => .int (f j))) (fun q => by cases q) (by show ¬ (i < 0 ∨ (arrV _ _ _).slots.size ≤ _); rw [arrV_size]; exact hin) rfl rfl hd fun H1 e1 z oq => ?_
  refine kk p e s m args below meth c C H1 _ ls hl (hH.set haG ?_ z oq) (hS.put z oq haG)
  show H1[a]? = some (vp_cell _ _)
  rw [e1]
  rw [vp_cell_i, vp_cell_i, arrV_store]
  congr 2
  funext q
  by_cases hq : q = i.toNatClampNeg
  · subst hq
    simp [updV, upd, vp_nar]
    try rfl
  · simp [updV, upd, vp_nar, hq]
theorem go_last {a N : Nat} {f : Nat → Int64} {i : Int32} {x : Int64} (pc' : Nat) (hd : decode M.2.1 pc = .ok (.lastore, 1)) (hw : w.2 a = some (.inl (Γ.2.2.1 2, N, .inr (.inl (f))))) (hin : vp_in i N) (kk : Go l Γ M dp mc ms Φ Ψ k n (wset w a (.inl (Γ.2.2.1 2, N, .inr (.inl (vp_updL f i.toNatClampNeg x))))) pc' L st) (hp : pc + 1 = pc' := by rfl) : Go l Γ M dp mc ms Φ Ψ k n w pc L (.long x :: .int i :: .ref a :: st) := by
  subst hp
  intro p e s m args below meth c C H locs ls hl hH hS
  obtain ⟨haG, hat⟩ := hH.2.2 a _ hw
  refine W.last C.1 C.2.1 hat ((C.arr 2 rfl).1 N (fun j => .long (f j))) (fun q => by cases q) (by show ¬ (i < 0 ∨ (arrV _ _ _).slots.size ≤ _); rw [arrV_size]; exact hin) rfl rfl hd fun H1 e1 z oq => ?_
  refine kk p e s m args below meth c C H1 _ ls hl (hH.set haG ?_ z oq) (hS.put z oq haG)
  show H1[a]? = some (vp_cell _ _)
  rw [e1]
  rw [vp_cell_l, vp_cell_l, arrV_store]
  congr 2
  funext q
  by_cases hq : q = i.toNatClampNeg
  · subst hq
    simp [updV, vp_updL]
    try rfl
  · simp [updV, vp_updL, hq]
theorem go_new {index ci N : Nat} {fs : List Value} (pc' : Nat) (hd : decode M.2.1 pc = .ok (.new index, 3)) (F : zNew M.1.cls index ci N fs) (hc1 : k + 1 ≤ mc) (hs1 : n + N ≤ ms) (kk : Go l Γ M dp mc ms Φ Ψ (k + 1) (n + N) (wnew w (.inr (ci, fs))) pc' L (.ref w.1 :: st)) (hp : pc + 3 = pc' := by rfl) : Go l Γ M dp mc ms Φ Ψ k n w pc L st := by
  subst hp
  intro p e s m args below meth c C H locs ls hl hH hS
  obtain ⟨Cn, T, ty0, hc, hin, hty, h1, h2, h3, hfs⟩ := F
  have hts : ∀ w ∈ zGood, w.before args s = true := fun w hw => C.good hw
  have hKn := C.stat.1.1 ci _ hc
  refine W.newcK C.1 C.2.1 C.own (C.good h1) (C.good h2) (C.good h3) rfl hd hc1 hs1 hKn.2.1 rfl fun H1 kC hkC e1 z1 o1 => ?_
  have hz : H1.size = H.size + 1 := by first | exact z1 | omega
  refine W.eq (g2 := F0 m (pc + 3) ls (.ref w.1 :: st)) (by rw [← hH.1]) ?_
  exact kk p e s m args below meth c C H1 _ ls hl (hH.push ⟨_, hc, (u_born ty0 hts hin hKn hkC e1 hty).to hfs⟩ hz o1) ⟨Nat.le_trans hS.1 (by omega), fun x g1 g2 => (o1 x (Nat.lt_of_lt_of_le g1 hS.1)).trans (hS.2.1 x g1 g2), hS.2.2⟩
theorem go_newarray_i {i : Int32} {N : Nat} (pc' : Nat) (hd : decode M.2.1 pc = .ok (.newarray .int, 2)) (hi : i = nI N) (hN : N ≤ 65536) (hc1 : k + 1 ≤ mc) (hs1 : n + N ≤ ms) (hg : Cond.arrayClass .int ∈ zGood) (kk : Go l Γ M dp mc ms Φ Ψ (k + 1) (n + N) (wnew w (.inl (Γ.2.2.1 0, N, .inl (fun _ => 0)))) pc' L (.ref w.1 :: st)) (hp : pc + 2 = pc' := by rfl) : Go l Γ M dp mc ms Φ Ψ k n w pc L (.int i :: st) := by
  subst hp
  intro p e s m args below meth c C H locs ls hl hH hS
  have hN2 : N < 2 ^ 31 := by omega
  refine va_newaK C.1 C.2.1 (atype := .int) (C.good hg) rfl hd rfl (by rw [hi]; exact nI_pos hN2) (by rw [hi]; exact nI_clamp hN2) (by show N * _ ≤ _; simp [newarray.typeOf, componentBytes]; try omega) hc1 hs1 rfl fun H1 cA e1 z1 o1 hAr hNm => ?_
  have hcA : cA = Γ.2.2.1 0 := Option.some.inj (hNm.symm.trans (C.arr 0 rfl).2)
  subst hcA
  refine W.eq (g2 := F0 m (pc + 2) ls (.ref w.1 :: st)) (by rw [← hH.1]) ?_
  exact kk p e s m args below meth c C H1 _ ls hl (hH.push (by show H1[H.size]? = some (vp_cell _ _); rw [vp_cell_i]; exact e1) z1 o1) ⟨Nat.le_trans hS.1 (by omega), fun x g1 g2 => (o1 x (Nat.lt_of_lt_of_le g1 hS.1)).trans (hS.2.1 x g1 g2), hS.2.2⟩
theorem go_newarray_b {i : Int32} {N : Nat} (pc' : Nat) (hd : decode M.2.1 pc = .ok (.newarray .byte, 2)) (hi : i = nI N) (hN : N ≤ 65536) (hc1 : k + 1 ≤ mc) (hs1 : n + N ≤ ms) (hg : Cond.arrayClass .byte ∈ zGood) (kk : Go l Γ M dp mc ms Φ Ψ (k + 1) (n + N) (wnew w (.inl (Γ.2.2.1 1, N, .inl (fun _ => 0)))) pc' L (.ref w.1 :: st)) (hp : pc + 2 = pc' := by rfl) : Go l Γ M dp mc ms Φ Ψ k n w pc L (.int i :: st) := by
  subst hp
  intro p e s m args below meth c C H locs ls hl hH hS
  have hN2 : N < 2 ^ 31 := by omega
  refine va_newaK C.1 C.2.1 (atype := .byte) (C.good hg) rfl hd rfl (by rw [hi]; exact nI_pos hN2) (by rw [hi]; exact nI_clamp hN2) (by show N * _ ≤ _; simp [newarray.typeOf, componentBytes]; try omega) hc1 hs1 rfl fun H1 cA e1 z1 o1 hAr hNm => ?_
  have hcA : cA = Γ.2.2.1 1 := Option.some.inj (hNm.symm.trans (C.arr 1 rfl).2)
  subst hcA
  refine W.eq (g2 := F0 m (pc + 2) ls (.ref w.1 :: st)) (by rw [← hH.1]) ?_
  exact kk p e s m args below meth c C H1 _ ls hl (hH.push (by show H1[H.size]? = some (vp_cell _ _); rw [vp_cell_i]; exact e1) z1 o1) ⟨Nat.le_trans hS.1 (by omega), fun x g1 g2 => (o1 x (Nat.lt_of_lt_of_le g1 hS.1)).trans (hS.2.1 x g1 g2), hS.2.2⟩
theorem go_newarray_l {i : Int32} {N : Nat} (pc' : Nat) (hd : decode M.2.1 pc = .ok (.newarray .long, 2)) (hi : i = nI N) (hN : N ≤ 65536) (hc1 : k + 1 ≤ mc) (hs1 : n + N ≤ ms) (hg : Cond.arrayClass .long ∈ zGood) (kk : Go l Γ M dp mc ms Φ Ψ (k + 1) (n + N) (wnew w (.inl (Γ.2.2.1 2, N, .inr (.inl (fun _ => 0))))) pc' L (.ref w.1 :: st)) (hp : pc + 2 = pc' := by rfl) : Go l Γ M dp mc ms Φ Ψ k n w pc L (.int i :: st) := by
  subst hp
  intro p e s m args below meth c C H locs ls hl hH hS
  have hN2 : N < 2 ^ 31 := by omega
  refine va_newaK C.1 C.2.1 (atype := .long) (C.good hg) rfl hd rfl (by rw [hi]; exact nI_pos hN2) (by rw [hi]; exact nI_clamp hN2) (by show N * _ ≤ _; simp [newarray.typeOf, componentBytes]; try omega) hc1 hs1 rfl fun H1 cA e1 z1 o1 hAr hNm => ?_
  have hcA : cA = Γ.2.2.1 2 := Option.some.inj (hNm.symm.trans (C.arr 2 rfl).2)
  subst hcA
  refine W.eq (g2 := F0 m (pc + 2) ls (.ref w.1 :: st)) (by rw [← hH.1]) ?_
  exact kk p e s m args below meth c C H1 _ ls hl (hH.push (by show H1[H.size]? = some (vp_cell _ _); rw [vp_cell_l]; exact e1) z1 o1) ⟨Nat.le_trans hS.1 (by omega), fun x g1 g2 => (o1 x (Nat.lt_of_lt_of_le g1 hS.1)).trans (hS.2.1 x g1 g2), hS.2.2⟩
theorem zEnd {s t : State} {H : Heap} {locs : List Loc} {args : Array Value} {v : Option Value} (hg : Γ.1 ≤ s.heap.size) (hH : zH Γ w H) (hS : va_S (zA Γ) s.heap H locs) (hv : Φ v w) (ht : t.heap = H) : zQ Γ Φ args s (.returned v) t :=
  ⟨v, w, rfl, hv, by rw [ht]; exact hH, by rw [ht]; exact hS.1, fun q hq => by rw [ht]; exact hS.2.1 q (Nat.lt_of_lt_of_le hq hg) (Nat.not_le.mpr hq)⟩
theorem go_ireturn {v : Int32} (hd : decode M.2.1 pc = .ok (.ireturn, 1)) (hr : M.2.2.2.1 = some .int) (h1 : k ≤ mc) (h2 : n ≤ ms) (hv : Φ (some (.int v)) w) : Go l Γ M dp mc ms Φ Ψ k n w pc L [.int v] := by
  intro p e s m args below meth c C H locs ls hl hH hS
  have hlocks : meth.locks = false := C.2.2.2.2.2.2.1
  exact vx_ret (W.widen h1 h2 (W.iret C.1 C.2.1 (C.2.2.2.1.trans hr) (fun t ht _ => zEnd C.big hH hS hv ht) hS.2.2 hd))
theorem go_zreturn {v : Int32} (hd : decode M.2.1 pc = .ok (.ireturn, 1)) (hr : M.2.2.2.1 = some .boolean) (h1 : k ≤ mc) (h2 : n ≤ ms) (h01 : v = 0 ∨ v = 1) (hv : Φ (some (.int v)) w) : Go l Γ M dp mc ms Φ Ψ k n w pc L [.int v] := by
  intro p e s m args below meth c C H locs ls hl hH hS
  have hlocks : meth.locks = false := C.2.2.2.2.2.2.1
  have hn : narrow .boolean (.int v) = .int v := by rcases h01 with rfl | rfl <;> rfl
  exact vx_ret (W.widen h1 h2 (W.zret C.1 C.2.1 (C.2.2.2.1.trans hr) hn (fun t ht _ => zEnd C.big hH hS hv ht) hS.2.2 hd))
theorem go_lreturn {v : Int64} (hd : decode M.2.1 pc = .ok (.lreturn, 1)) (hr : M.2.2.2.1 = some .long) (h1 : k ≤ mc) (h2 : n ≤ ms) (hv : Φ (some (.long v)) w) : Go l Γ M dp mc ms Φ Ψ k n w pc L [.long v] := by
  intro p e s m args below meth c C H locs ls hl hH hS
  have hlocks : meth.locks = false := C.2.2.2.2.2.2.1
  exact vx_ret (W.widen h1 h2 (W.lret C.1 C.2.1 (C.2.2.2.1.trans hr) (fun t ht _ => zEnd C.big hH hS hv ht) hS.2.2 hd))
theorem go_return (hd : decode M.2.1 pc = .ok (.return_, 1)) (hr : M.2.2.2.1 = none) (h1 : k ≤ mc) (h2 : n ≤ ms) (hv : Φ none w) : Go l Γ M dp mc ms Φ Ψ k n w pc L [] := by
  intro p e s m args below meth c C H locs ls hl hH hS
  have hlocks : meth.locks = false := C.2.2.2.2.2.2.1
  exact vx_ret (W.widen h1 h2 (W.vret C.1 C.2.1 (C.2.2.2.1.trans hr) (fun t ht _ => zEnd C.big hH hS hv ht) hS.2.2 hd))
end GoHeap
