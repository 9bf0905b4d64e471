section GoRules
variable {l : Launch} {Γ : ZG} {M : ZM} {dp mc ms : Nat} {Φ : Option Value → ZW → Prop} {Ψ : String → ZW → Prop} {k n : Nat} {w : ZW} {pc : Nat} {L : ZL} {st : List Value}
def lget (L : ZL) (i : Nat) : Option Value := (L.find? (fun q => q.1 == i)).map (fun q => q.2)
def lset (L : ZL) (i : Nat) (v : Value) : ZL := (i, v) :: L.filter (fun q => !(q.1 == i) && !(q.1 + 1 == i && q.2.category == 2))
def lset2 (L : ZL) (i : Nat) (v : Value) : ZL := (i, v) :: L.filter (fun q => !(q.1 == i) && (!(q.1 == i + 1) && !(q.1 + 1 == i && q.2.category == 2)))
theorem lget_at {ls : Array Slot} {nL i : Nat} {v : Value} (h : lv_has ls nL L) (hl : lget L i = some v) : ls[i]? = some (.val v) := by
  unfold lget at hl
  cases hf : L.find? (fun q => q.1 == i) with
  | none => rw [hf] at hl; cases hl
  | some q =>
    rw [hf] at hl
    cases hl
    have h1 := List.find?_some hf
    have h2 : q.1 = i := by simpa using h1
    rw [← h2]
    exact h.2.2 q (List.mem_of_find?_eq_some hf)
theorem lv_lget {ls : Array Slot} {nL : Nat} {L' : ZL} (h : lv_has ls nL L) (hl : ∀ q ∈ L', lget L q.1 = some q.2) : lv_has ls nL L' := ⟨h.1, h.2.1, fun q hq => lget_at h (hl q hq)⟩
theorem lall {L L' : ZL} (h : L'.map (fun q => lget L q.1) = L'.map (fun q => some q.2)) : ∀ q ∈ L', lget L q.1 = some q.2 := by
  intro q hq
  have := List.map_inj_left.mp h
  exact this q hq
theorem go_locals (L' : ZL) (h : L'.map (fun q => lget L q.1) = L'.map (fun q => some q.2)) (kk : Go l Γ M dp mc ms Φ Ψ k n w pc L' st) : Go l Γ M dp mc ms Φ Ψ k n w pc L st :=
  fun p e s m args below meth c C H locs ls hl hH hS => kk p e s m args below meth c C H locs ls (lv_lget hl (lall h)) hH hS
theorem go_eq {L' : ZL} {st' : List Value} {w' : ZW} {pc' : Nat} (kk : Go l Γ M dp mc ms Φ Ψ k n w' pc' L' st') (h1 : w = w' := by rfl) (h2 : pc = pc' := by rfl) (h3 : L = L' := by rfl) (h4 : st = st' := by rfl) : Go l Γ M dp mc ms Φ Ψ k n w pc L st := by
  subst h1; subst h2; subst h3; subst h4; exact kk
theorem go_up {k' n' : Nat} (h1 : k ≤ k') (h2 : n ≤ n') (kk : Go l Γ M dp mc ms Φ Ψ k' n' w pc L st) : Go l Γ M dp mc ms Φ Ψ k n w pc L st :=
  fun p e s m args below meth c C H locs ls hl hH hS => W.widen h1 h2 (kk p e s m args below meth c C H locs ls hl hH hS)
theorem go_iconst {z : Int} {v : Int32} (pc' : Nat) (hd : decode M.2.1 pc = .ok (.iconst z, 1)) (hv : Int32.ofInt z = v) (kk : Go l Γ M dp mc ms Φ Ψ k n w pc' L (.int v :: st)) (hp : pc + 1 = pc' := by rfl) : Go l Γ M dp mc ms Φ Ψ k n w pc L st := by
  subst hp
  exact fun p e s m args below meth c C H locs ls hl hH hS => lv_iconst C.1 C.2.1 hd hv (kk p e s m args below meth c C H locs ls hl hH hS)
theorem go_bipush {z : Int} {v : Int32} (pc' : Nat) (hd : decode M.2.1 pc = .ok (.bipush z, 2)) (hv : (Int8.ofInt z).toInt32 = v) (kk : Go l Γ M dp mc ms Φ Ψ k n w pc' L (.int v :: st)) (hp : pc + 2 = pc' := by rfl) : Go l Γ M dp mc ms Φ Ψ k n w pc L st := by
  subst hp
  exact fun p e s m args below meth c C H locs ls hl hH hS => lv_bipush C.1 C.2.1 hd hv (kk p e s m args below meth c C H locs ls hl hH hS)
theorem go_sipush {z : Int} {v : Int32} (pc' : Nat) (hd : decode M.2.1 pc = .ok (.sipush z, 3)) (hv : (Int16.ofInt z).toInt32 = v) (kk : Go l Γ M dp mc ms Φ Ψ k n w pc' L (.int v :: st)) (hp : pc + 3 = pc' := by rfl) : Go l Γ M dp mc ms Φ Ψ k n w pc L st := by
  subst hp
  exact fun p e s m args below meth c C H locs ls hl hH hS => lv_sipush C.1 C.2.1 hd hv (kk p e s m args below meth c C H locs ls hl hH hS)
theorem go_lconst {z : Fin 2} {v : Int64} (pc' : Nat) (hd : decode M.2.1 pc = .ok (.lconst z, 1)) (hv : Int64.ofNat (z : Nat) = v) (kk : Go l Γ M dp mc ms Φ Ψ k n w pc' L (.long v :: st)) (hp : pc + 1 = pc' := by rfl) : Go l Γ M dp mc ms Φ Ψ k n w pc L st := by
  subst hp
  exact fun p e s m args below meth c C H locs ls hl hH hS => lv_lconst C.1 C.2.1 hd hv (kk p e s m args below meth c C H locs ls hl hH hS)
theorem go_null  (pc' : Nat) (hd : decode M.2.1 pc = .ok (.aconst_null, 1)) (kk : Go l Γ M dp mc ms Φ Ψ k n w pc' L (.null :: st)) (hp : pc + 1 = pc' := by rfl) : Go l Γ M dp mc ms Φ Ψ k n w pc L st := by
  subst hp
  exact fun p e s m args below meth c C H locs ls hl hH hS => lv_null C.1 C.2.1 hd (kk p e s m args below meth c C H locs ls hl hH hS)
theorem go_iload {i : Nat} {x : Int32} (pc' : Nat) (hd : decode M.2.1 pc = .ok (.iload i, 2)) (h : lget L i = some (.int x)) (kk : Go l Γ M dp mc ms Φ Ψ k n w pc' L (.int x :: st)) (hp : pc + 2 = pc' := by rfl) : Go l Γ M dp mc ms Φ Ψ k n w pc L st := by
  subst hp
  exact fun p e s m args below meth c C H locs ls hl hH hS => lv_iload C.1 C.2.1 hd (lget_at hl h) (kk p e s m args below meth c C H locs ls hl hH hS)
theorem go_iload_n {i : Fin 4} {x : Int32} (pc' : Nat) (hd : decode M.2.1 pc = .ok (.iload_n i, 1)) (h : lget L (i : Nat) = some (.int x)) (kk : Go l Γ M dp mc ms Φ Ψ k n w pc' L (.int x :: st)) (hp : pc + 1 = pc' := by rfl) : Go l Γ M dp mc ms Φ Ψ k n w pc L st := by
  subst hp
  exact fun p e s m args below meth c C H locs ls hl hH hS => lv_iload_n C.1 C.2.1 hd rfl (lget_at hl h) (kk p e s m args below meth c C H locs ls hl hH hS)
theorem go_istore {i : Nat} {x : Int32} (pc' : Nat) (hd : decode M.2.1 pc = .ok (.istore i, 2)) (h : i < M.2.2.1) (kk : Go l Γ M dp mc ms Φ Ψ k n w pc' (lset L i (.int x)) st) (hp : pc + 2 = pc' := by rfl) : Go l Γ M dp mc ms Φ Ψ k n w pc L (.int x :: st) := by
  subst hp
  exact fun p e s m args below meth c C H locs ls hl hH hS => lv_istore C.1 C.2.1 hd hl h rfl (fun ls hl => kk p e s m args below meth c C H locs ls hl hH hS)
theorem go_istore_n {i : Fin 4} {x : Int32} (pc' : Nat) (hd : decode M.2.1 pc = .ok (.istore_n i, 1)) (h : (i : Nat) < M.2.2.1) (kk : Go l Γ M dp mc ms Φ Ψ k n w pc' (lset L (i : Nat) (.int x)) st) (hp : pc + 1 = pc' := by rfl) : Go l Γ M dp mc ms Φ Ψ k n w pc L (.int x :: st) := by
  subst hp
  exact fun p e s m args below meth c C H locs ls hl hH hS => lv_istore_n C.1 C.2.1 hd rfl hl h rfl (fun ls hl => kk p e s m args below meth c C H locs ls hl hH hS)
theorem go_lload {i : Nat} {x : Int64} (pc' : Nat) (hd : decode M.2.1 pc = .ok (.lload i, 2)) (h : lget L i = some (.long x)) (kk : Go l Γ M dp mc ms Φ Ψ k n w pc' L (.long x :: st)) (hp : pc + 2 = pc' := by rfl) : Go l Γ M dp mc ms Φ Ψ k n w pc L st := by
  subst hp
  exact fun p e s m args below meth c C H locs ls hl hH hS => lv_lload C.1 C.2.1 hd (lget_at hl h) (kk p e s m args below meth c C H locs ls hl hH hS)
theorem go_lload_n {i : Fin 4} {x : Int64} (pc' : Nat) (hd : decode M.2.1 pc = .ok (.lload_n i, 1)) (h : lget L (i : Nat) = some (.long x)) (kk : Go l Γ M dp mc ms Φ Ψ k n w pc' L (.long x :: st)) (hp : pc + 1 = pc' := by rfl) : Go l Γ M dp mc ms Φ Ψ k n w pc L st := by
  subst hp
  exact fun p e s m args below meth c C H locs ls hl hH hS => lv_lload_n C.1 C.2.1 hd rfl (lget_at hl h) (kk p e s m args below meth c C H locs ls hl hH hS)
theorem go_lstore {i : Nat} {x : Int64} (pc' : Nat) (hd : decode M.2.1 pc = .ok (.lstore i, 2)) (h : i + 1 < M.2.2.1) (kk : Go l Γ M dp mc ms Φ Ψ k n w pc' (lset2 L i (.long x)) st) (hp : pc + 2 = pc' := by rfl) : Go l Γ M dp mc ms Φ Ψ k n w pc L (.long x :: st) := by
  subst hp
  exact fun p e s m args below meth c C H locs ls hl hH hS => lv_lstore C.1 C.2.1 hd hl h rfl (fun ls hl => kk p e s m args below meth c C H locs ls hl hH hS)
theorem go_lstore_n {i : Fin 4} {x : Int64} (pc' : Nat) (hd : decode M.2.1 pc = .ok (.lstore_n i, 1)) (h : (i : Nat) + 1 < M.2.2.1) (kk : Go l Γ M dp mc ms Φ Ψ k n w pc' (lset2 L (i : Nat) (.long x)) st) (hp : pc + 1 = pc' := by rfl) : Go l Γ M dp mc ms Φ Ψ k n w pc L (.long x :: st) := by
  subst hp
  exact fun p e s m args below meth c C H locs ls hl hH hS => lv_lstore_n C.1 C.2.1 hd rfl hl h rfl (fun ls hl => kk p e s m args below meth c C H locs ls hl hH hS)
theorem go_aload {i : Nat} {x : Nat} (pc' : Nat) (hd : decode M.2.1 pc = .ok (.aload i, 2)) (h : lget L i = some (.ref x)) (kk : Go l Γ M dp mc ms Φ Ψ k n w pc' L (.ref x :: st)) (hp : pc + 2 = pc' := by rfl) : Go l Γ M dp mc ms Φ Ψ k n w pc L st := by
  subst hp
  exact fun p e s m args below meth c C H locs ls hl hH hS => lv_aload C.1 C.2.1 hd (lget_at hl h) (kk p e s m args below meth c C H locs ls hl hH hS)
theorem go_aload_n {i : Fin 4} {x : Nat} (pc' : Nat) (hd : decode M.2.1 pc = .ok (.aload_n i, 1)) (h : lget L (i : Nat) = some (.ref x)) (kk : Go l Γ M dp mc ms Φ Ψ k n w pc' L (.ref x :: st)) (hp : pc + 1 = pc' := by rfl) : Go l Γ M dp mc ms Φ Ψ k n w pc L st := by
  subst hp
  exact fun p e s m args below meth c C H locs ls hl hH hS => lv_aload_n C.1 C.2.1 hd rfl (lget_at hl h) (kk p e s m args below meth c C H locs ls hl hH hS)
theorem go_astore {i : Nat} {x : Nat} (pc' : Nat) (hd : decode M.2.1 pc = .ok (.astore i, 2)) (h : i < M.2.2.1) (kk : Go l Γ M dp mc ms Φ Ψ k n w pc' (lset L i (.ref x)) st) (hp : pc + 2 = pc' := by rfl) : Go l Γ M dp mc ms Φ Ψ k n w pc L (.ref x :: st) := by
  subst hp
  exact fun p e s m args below meth c C H locs ls hl hH hS => lv_astore C.1 C.2.1 hd hl h rfl (fun ls hl => kk p e s m args below meth c C H locs ls hl hH hS)
theorem go_astore_n {i : Fin 4} {x : Nat} (pc' : Nat) (hd : decode M.2.1 pc = .ok (.astore_n i, 1)) (h : (i : Nat) < M.2.2.1) (kk : Go l Γ M dp mc ms Φ Ψ k n w pc' (lset L (i : Nat) (.ref x)) st) (hp : pc + 1 = pc' := by rfl) : Go l Γ M dp mc ms Φ Ψ k n w pc L (.ref x :: st) := by
  subst hp
  exact fun p e s m args below meth c C H locs ls hl hH hS => lv_astore_n C.1 C.2.1 hd rfl hl h rfl (fun ls hl => kk p e s m args below meth c C H locs ls hl hH hS)
theorem lget_mem {i : Nat} {v : Value} (h : lget L i = some v) : ∃ kq : Nat, L[kq]? = some (i, v) := by
  unfold lget at h
  cases hf : L.find? (fun q => q.1 == i) with
  | none => rw [hf] at h; cases h
  | some q =>
    rw [hf] at h
    cases h
    have h1 := List.find?_some hf
    have h2 : q.1 = i := by simpa using h1
    obtain ⟨j, hj⟩ := List.getElem?_of_mem (List.mem_of_find?_eq_some hf)
    exact ⟨j, by rw [hj, ← h2]⟩
theorem go_iinc {i : Nat} {z : Int} {x v : Int32} (pc' : Nat) (hd : decode M.2.1 pc = .ok (.iinc i z, 3)) (h : lget L i = some (.int x)) (hi : i < M.2.2.1) (hv : Int32.ofInt z = v) (kk : Go l Γ M dp mc ms Φ Ψ k n w pc' (lset L i (.int (x + v))) st) (hp : pc + 3 = pc' := by rfl) : Go l Γ M dp mc ms Φ Ψ k n w pc L st := by
  subst hp
  intro p e s m args below meth c C H locs ls hl hH hS
  obtain ⟨kq, hkq⟩ := lget_mem h
  exact lv_iinc C.1 C.2.1 hd hl hkq (by rw [hv]) hi rfl (fun ls hl => kk p e s m args below meth c C H locs ls hl hH hS)
theorem go_iadd {x y : Int32} (pc' : Nat) (hd : decode M.2.1 pc = .ok (.iadd, 1)) (kk : Go l Γ M dp mc ms Φ Ψ k n w pc' L (.int (x + y) :: st)) (hp : pc + 1 = pc' := by rfl) : Go l Γ M dp mc ms Φ Ψ k n w pc L (.int y :: .int x :: st) := by
  subst hp
  exact fun p e s m args below meth c C H locs ls hl hH hS => lv_iadd C.1 C.2.1 hd (kk p e s m args below meth c C H locs ls hl hH hS)
theorem go_isub {x y : Int32} (pc' : Nat) (hd : decode M.2.1 pc = .ok (.isub, 1)) (kk : Go l Γ M dp mc ms Φ Ψ k n w pc' L (.int (x - y) :: st)) (hp : pc + 1 = pc' := by rfl) : Go l Γ M dp mc ms Φ Ψ k n w pc L (.int y :: .int x :: st) := by
  subst hp
  exact fun p e s m args below meth c C H locs ls hl hH hS => lv_isub C.1 C.2.1 hd (kk p e s m args below meth c C H locs ls hl hH hS)
theorem go_imul {x y : Int32} (pc' : Nat) (hd : decode M.2.1 pc = .ok (.imul, 1)) (kk : Go l Γ M dp mc ms Φ Ψ k n w pc' L (.int (x * y) :: st)) (hp : pc + 1 = pc' := by rfl) : Go l Γ M dp mc ms Φ Ψ k n w pc L (.int y :: .int x :: st) := by
  subst hp
  exact fun p e s m args below meth c C H locs ls hl hH hS => lv_imul C.1 C.2.1 hd (kk p e s m args below meth c C H locs ls hl hH hS)
theorem go_iand {x y : Int32} (pc' : Nat) (hd : decode M.2.1 pc = .ok (.iand, 1)) (kk : Go l Γ M dp mc ms Φ Ψ k n w pc' L (.int (x &&& y) :: st)) (hp : pc + 1 = pc' := by rfl) : Go l Γ M dp mc ms Φ Ψ k n w pc L (.int y :: .int x :: st) := by
  subst hp
  exact fun p e s m args below meth c C H locs ls hl hH hS => lv_iand C.1 C.2.1 hd (kk p e s m args below meth c C H locs ls hl hH hS)
theorem go_ior {x y : Int32} (pc' : Nat) (hd : decode M.2.1 pc = .ok (.ior, 1)) (kk : Go l Γ M dp mc ms Φ Ψ k n w pc' L (.int (x ||| y) :: st)) (hp : pc + 1 = pc' := by rfl) : Go l Γ M dp mc ms Φ Ψ k n w pc L (.int y :: .int x :: st) := by
  subst hp
  exact fun p e s m args below meth c C H locs ls hl hH hS => lv_ior C.1 C.2.1 hd (kk p e s m args below meth c C H locs ls hl hH hS)
theorem go_ishl {x y : Int32} (pc' : Nat) (hd : decode M.2.1 pc = .ok (.ishl, 1)) (kk : Go l Γ M dp mc ms Φ Ψ k n w pc' L (.int (x <<< (y &&& 31)) :: st)) (hp : pc + 1 = pc' := by rfl) : Go l Γ M dp mc ms Φ Ψ k n w pc L (.int y :: .int x :: st) := by
  subst hp
  exact fun p e s m args below meth c C H locs ls hl hH hS => lv_ishl C.1 C.2.1 hd (kk p e s m args below meth c C H locs ls hl hH hS)
theorem go_ishr {x y : Int32} (pc' : Nat) (hd : decode M.2.1 pc = .ok (.ishr, 1)) (kk : Go l Γ M dp mc ms Φ Ψ k n w pc' L (.int (x >>> (y &&& 31)) :: st)) (hp : pc + 1 = pc' := by rfl) : Go l Γ M dp mc ms Φ Ψ k n w pc L (.int y :: .int x :: st) := by
  subst hp
  exact fun p e s m args below meth c C H locs ls hl hH hS => lv_ishr C.1 C.2.1 hd (kk p e s m args below meth c C H locs ls hl hH hS)
theorem go_iushr {x y : Int32} (pc' : Nat) (hd : decode M.2.1 pc = .ok (.iushr, 1)) (kk : Go l Γ M dp mc ms Φ Ψ k n w pc' L (.int ((x.toUInt32 >>> (y.toUInt32 &&& Int32.toUInt32 31)).toInt32) :: st)) (hp : pc + 1 = pc' := by rfl) : Go l Γ M dp mc ms Φ Ψ k n w pc L (.int y :: .int x :: st) := by
  subst hp
  exact fun p e s m args below meth c C H locs ls hl hH hS => lv_iushr C.1 C.2.1 hd rfl (kk p e s m args below meth c C H locs ls hl hH hS)
theorem go_irem {x y : Int32} (pc' : Nat) (hd : decode M.2.1 pc = .ok (.irem, 1)) (h : ¬ y = 0) (kk : Go l Γ M dp mc ms Φ Ψ k n w pc' L (.int (x - x / y * y) :: st)) (hp : pc + 1 = pc' := by rfl) : Go l Γ M dp mc ms Φ Ψ k n w pc L (.int y :: .int x :: st) := by
  subst hp
  exact fun p e s m args below meth c C H locs ls hl hH hS => lv_irem C.1 C.2.1 hd h (kk p e s m args below meth c C H locs ls hl hH hS)
theorem go_ladd {x y : Int64} (pc' : Nat) (hd : decode M.2.1 pc = .ok (.ladd, 1)) (kk : Go l Γ M dp mc ms Φ Ψ k n w pc' L (.long (x + y) :: st)) (hp : pc + 1 = pc' := by rfl) : Go l Γ M dp mc ms Φ Ψ k n w pc L (.long y :: .long x :: st) := by
  subst hp
  exact fun p e s m args below meth c C H locs ls hl hH hS => lv_ladd C.1 C.2.1 hd (kk p e s m args below meth c C H locs ls hl hH hS)
theorem go_lsub {x y : Int64} (pc' : Nat) (hd : decode M.2.1 pc = .ok (.lsub, 1)) (kk : Go l Γ M dp mc ms Φ Ψ k n w pc' L (.long (x - y) :: st)) (hp : pc + 1 = pc' := by rfl) : Go l Γ M dp mc ms Φ Ψ k n w pc L (.long y :: .long x :: st) := by
  subst hp
  exact fun p e s m args below meth c C H locs ls hl hH hS => lv_lsub C.1 C.2.1 hd (kk p e s m args below meth c C H locs ls hl hH hS)
theorem go_lmul {x y : Int64} (pc' : Nat) (hd : decode M.2.1 pc = .ok (.lmul, 1)) (kk : Go l Γ M dp mc ms Φ Ψ k n w pc' L (.long (x * y) :: st)) (hp : pc + 1 = pc' := by rfl) : Go l Γ M dp mc ms Φ Ψ k n w pc L (.long y :: .long x :: st) := by
  subst hp
  exact fun p e s m args below meth c C H locs ls hl hH hS => lv_lmul C.1 C.2.1 hd (kk p e s m args below meth c C H locs ls hl hH hS)
theorem go_land {x y : Int64} (pc' : Nat) (hd : decode M.2.1 pc = .ok (.land, 1)) (kk : Go l Γ M dp mc ms Φ Ψ k n w pc' L (.long (x &&& y) :: st)) (hp : pc + 1 = pc' := by rfl) : Go l Γ M dp mc ms Φ Ψ k n w pc L (.long y :: .long x :: st) := by
  subst hp
  exact fun p e s m args below meth c C H locs ls hl hH hS => lv_land C.1 C.2.1 hd (kk p e s m args below meth c C H locs ls hl hH hS)
theorem go_lor {x y : Int64} (pc' : Nat) (hd : decode M.2.1 pc = .ok (.lor, 1)) (kk : Go l Γ M dp mc ms Φ Ψ k n w pc' L (.long (x ||| y) :: st)) (hp : pc + 1 = pc' := by rfl) : Go l Γ M dp mc ms Φ Ψ k n w pc L (.long y :: .long x :: st) := by
  subst hp
  exact fun p e s m args below meth c C H locs ls hl hH hS => lv_lor C.1 C.2.1 hd (kk p e s m args below meth c C H locs ls hl hH hS)
theorem go_ldiv {x y : Int64} (pc' : Nat) (hd : decode M.2.1 pc = .ok (.ldiv, 1)) (h : ¬ y = 0) (kk : Go l Γ M dp mc ms Φ Ψ k n w pc' L (.long (x / y) :: st)) (hp : pc + 1 = pc' := by rfl) : Go l Γ M dp mc ms Φ Ψ k n w pc L (.long y :: .long x :: st) := by
  subst hp
  exact fun p e s m args below meth c C H locs ls hl hH hS => lv_ldiv C.1 C.2.1 hd h (kk p e s m args below meth c C H locs ls hl hH hS)
theorem go_lshl {x : Int64} {y : Int32} (pc' : Nat) (hd : decode M.2.1 pc = .ok (.lshl, 1)) (kk : Go l Γ M dp mc ms Φ Ψ k n w pc' L (.long (x <<< (y.toInt64 &&& 63)) :: st)) (hp : pc + 1 = pc' := by rfl) : Go l Γ M dp mc ms Φ Ψ k n w pc L (.int y :: .long x :: st) := by
  subst hp
  exact fun p e s m args below meth c C H locs ls hl hH hS => lv_lshl C.1 C.2.1 hd rfl (kk p e s m args below meth c C H locs ls hl hH hS)
theorem go_lshr {x : Int64} {y : Int32} (pc' : Nat) (hd : decode M.2.1 pc = .ok (.lshr, 1)) (kk : Go l Γ M dp mc ms Φ Ψ k n w pc' L (.long (x >>> (y.toInt64 &&& 63)) :: st)) (hp : pc + 1 = pc' := by rfl) : Go l Γ M dp mc ms Φ Ψ k n w pc L (.int y :: .long x :: st) := by
  subst hp
  exact fun p e s m args below meth c C H locs ls hl hH hS => lv_lshr C.1 C.2.1 hd rfl (kk p e s m args below meth c C H locs ls hl hH hS)
theorem go_i2l {x : Int32} (pc' : Nat) (hd : decode M.2.1 pc = .ok (.i2l, 1)) (kk : Go l Γ M dp mc ms Φ Ψ k n w pc' L (.long x.toInt64 :: st)) (hp : pc + 1 = pc' := by rfl) : Go l Γ M dp mc ms Φ Ψ k n w pc L (.int x :: st) := by
  subst hp
  exact fun p e s m args below meth c C H locs ls hl hH hS => lv_i2l C.1 C.2.1 hd rfl (kk p e s m args below meth c C H locs ls hl hH hS)
theorem go_l2i {x : Int64} (pc' : Nat) (hd : decode M.2.1 pc = .ok (.l2i, 1)) (kk : Go l Γ M dp mc ms Φ Ψ k n w pc' L (.int x.toInt32 :: st)) (hp : pc + 1 = pc' := by rfl) : Go l Γ M dp mc ms Φ Ψ k n w pc L (.long x :: st) := by
  subst hp
  exact fun p e s m args below meth c C H locs ls hl hH hS => lv_l2i C.1 C.2.1 hd rfl (kk p e s m args below meth c C H locs ls hl hH hS)
theorem go_i2b {x : Int32} (pc' : Nat) (hd : decode M.2.1 pc = .ok (.i2b, 1)) (kk : Go l Γ M dp mc ms Φ Ψ k n w pc' L (.int x.toInt8.toInt32 :: st)) (hp : pc + 1 = pc' := by rfl) : Go l Γ M dp mc ms Φ Ψ k n w pc L (.int x :: st) := by
  subst hp
  exact fun p e s m args below meth c C H locs ls hl hH hS => lv_i2b C.1 C.2.1 hd rfl (kk p e s m args below meth c C H locs ls hl hH hS)
theorem go_i2c {x : Int32} (pc' : Nat) (hd : decode M.2.1 pc = .ok (.i2c, 1)) (kk : Go l Γ M dp mc ms Φ Ψ k n w pc' L (.int (x.toUInt32 % 65536).toInt32 :: st)) (hp : pc + 1 = pc' := by rfl) : Go l Γ M dp mc ms Φ Ψ k n w pc L (.int x :: st) := by
  subst hp
  exact fun p e s m args below meth c C H locs ls hl hH hS => lv_i2c C.1 C.2.1 hd rfl (kk p e s m args below meth c C H locs ls hl hH hS)
theorem go_pop {v : Value} (pc' : Nat) (hd : decode M.2.1 pc = .ok (.pop, 1)) (h : v.category = 1) (kk : Go l Γ M dp mc ms Φ Ψ k n w pc' L st) (hp : pc + 1 = pc' := by rfl) : Go l Γ M dp mc ms Φ Ψ k n w pc L (v :: st) := by
  subst hp
  exact fun p e s m args below meth c C H locs ls hl hH hS => lv_pop C.1 C.2.1 hd h (kk p e s m args below meth c C H locs ls hl hH hS)
theorem go_dup {v : Value} (pc' : Nat) (hd : decode M.2.1 pc = .ok (.dup, 1)) (h : v.category = 1) (kk : Go l Γ M dp mc ms Φ Ψ k n w pc' L (v :: v :: st)) (hp : pc + 1 = pc' := by rfl) : Go l Γ M dp mc ms Φ Ψ k n w pc L (v :: st) := by
  subst hp
  exact fun p e s m args below meth c C H locs ls hl hH hS => lv_dup C.1 C.2.1 hd h (kk p e s m args below meth c C H locs ls hl hH hS)
theorem go_dup2 {v u : Value} (pc' : Nat) (hd : decode M.2.1 pc = .ok (.dup2, 1)) (h : v.category = 1) (h2 : u.category = 1) (kk : Go l Γ M dp mc ms Φ Ψ k n w pc' L (v :: u :: v :: u :: st)) (hp : pc + 1 = pc' := by rfl) : Go l Γ M dp mc ms Φ Ψ k n w pc L (v :: u :: st) := by
  subst hp
  exact fun p e s m args below meth c C H locs ls hl hH hS => lv_dup2_11 C.1 C.2.1 hd h h2 (kk p e s m args below meth c C H locs ls hl hH hS)
theorem go_if_eq {x : Int32} {off : Int} (tgt pc' : Nat) (hd : decode M.2.1 pc = .ok (.ifCond .eq off, 3)) (kt : x = 0 → Go l Γ M dp mc ms Φ Ψ k n w tgt L st) (kf : ¬ x = 0 → Go l Γ M dp mc ms Φ Ψ k n w pc' L st) (ht : (pc : Int) + off = (tgt : Int) := by rfl) (hp : pc + 3 = pc' := by rfl) : Go l Γ M dp mc ms Φ Ψ k n w pc L (.int x :: st) := by
  subst hp
  exact fun p e s m args below meth c C H locs ls hl hH hS => lv_if_eq C.1 C.2.1 hd ht (fun h => kt h p e s m args below meth c C H locs ls hl hH hS) (fun h => kf h p e s m args below meth c C H locs ls hl hH hS)
theorem go_icmp_eq {x y : Int32} {off : Int} (tgt pc' : Nat) (hd : decode M.2.1 pc = .ok (.if_icmp .eq off, 3)) (kt : x = y → Go l Γ M dp mc ms Φ Ψ k n w tgt L st) (kf : ¬ x = y → Go l Γ M dp mc ms Φ Ψ k n w pc' L st) (ht : (pc : Int) + off = (tgt : Int) := by rfl) (hp : pc + 3 = pc' := by rfl) : Go l Γ M dp mc ms Φ Ψ k n w pc L (.int y :: .int x :: st) := by
  subst hp
  exact fun p e s m args below meth c C H locs ls hl hH hS => lv_icmp_eq C.1 C.2.1 hd ht (fun h => kt h p e s m args below meth c C H locs ls hl hH hS) (fun h => kf h p e s m args below meth c C H locs ls hl hH hS)
theorem go_if_ne {x : Int32} {off : Int} (tgt pc' : Nat) (hd : decode M.2.1 pc = .ok (.ifCond .ne off, 3)) (kt : ¬ x = 0 → Go l Γ M dp mc ms Φ Ψ k n w tgt L st) (kf : x = 0 → Go l Γ M dp mc ms Φ Ψ k n w pc' L st) (ht : (pc : Int) + off = (tgt : Int) := by rfl) (hp : pc + 3 = pc' := by rfl) : Go l Γ M dp mc ms Φ Ψ k n w pc L (.int x :: st) := by
  subst hp
  exact fun p e s m args below meth c C H locs ls hl hH hS => lv_if_ne C.1 C.2.1 hd ht (fun h => kt h p e s m args below meth c C H locs ls hl hH hS) (fun h => kf h p e s m args below meth c C H locs ls hl hH hS)
theorem go_icmp_ne {x y : Int32} {off : Int} (tgt pc' : Nat) (hd : decode M.2.1 pc = .ok (.if_icmp .ne off, 3)) (kt : ¬ x = y → Go l Γ M dp mc ms Φ Ψ k n w tgt L st) (kf : x = y → Go l Γ M dp mc ms Φ Ψ k n w pc' L st) (ht : (pc : Int) + off = (tgt : Int) := by rfl) (hp : pc + 3 = pc' := by rfl) : Go l Γ M dp mc ms Φ Ψ k n w pc L (.int y :: .int x :: st) := by
  subst hp
  exact fun p e s m args below meth c C H locs ls hl hH hS => lv_icmp_ne C.1 C.2.1 hd ht (fun h => kt h p e s m args below meth c C H locs ls hl hH hS) (fun h => kf h p e s m args below meth c C H locs ls hl hH hS)
theorem go_if_lt {x : Int32} {off : Int} (tgt pc' : Nat) (hd : decode M.2.1 pc = .ok (.ifCond .lt off, 3)) (kt : x < 0 → Go l Γ M dp mc ms Φ Ψ k n w tgt L st) (kf : ¬ x < 0 → Go l Γ M dp mc ms Φ Ψ k n w pc' L st) (ht : (pc : Int) + off = (tgt : Int) := by rfl) (hp : pc + 3 = pc' := by rfl) : Go l Γ M dp mc ms Φ Ψ k n w pc L (.int x :: st) := by
  subst hp
  exact fun p e s m args below meth c C H locs ls hl hH hS => lv_if_lt C.1 C.2.1 hd ht (fun h => kt h p e s m args below meth c C H locs ls hl hH hS) (fun h => kf h p e s m args below meth c C H locs ls hl hH hS)
theorem go_icmp_lt {x y : Int32} {off : Int} (tgt pc' : Nat) (hd : decode M.2.1 pc = .ok (.if_icmp .lt off, 3)) (kt : x < y → Go l Γ M dp mc ms Φ Ψ k n w tgt L st) (kf : ¬ x < y → Go l Γ M dp mc ms Φ Ψ k n w pc' L st) (ht : (pc : Int) + off = (tgt : Int) := by rfl) (hp : pc + 3 = pc' := by rfl) : Go l Γ M dp mc ms Φ Ψ k n w pc L (.int y :: .int x :: st) := by
  subst hp
  exact fun p e s m args below meth c C H locs ls hl hH hS => lv_icmp_lt C.1 C.2.1 hd ht (fun h => kt h p e s m args below meth c C H locs ls hl hH hS) (fun h => kf h p e s m args below meth c C H locs ls hl hH hS)
theorem go_if_ge {x : Int32} {off : Int} (tgt pc' : Nat) (hd : decode M.2.1 pc = .ok (.ifCond .ge off, 3)) (kt : 0 ≤ x → Go l Γ M dp mc ms Φ Ψ k n w tgt L st) (kf : ¬ 0 ≤ x → Go l Γ M dp mc ms Φ Ψ k n w pc' L st) (ht : (pc : Int) + off = (tgt : Int) := by rfl) (hp : pc + 3 = pc' := by rfl) : Go l Γ M dp mc ms Φ Ψ k n w pc L (.int x :: st) := by
  subst hp
  exact fun p e s m args below meth c C H locs ls hl hH hS => lv_if_ge C.1 C.2.1 hd ht (fun h => kt h p e s m args below meth c C H locs ls hl hH hS) (fun h => kf h p e s m args below meth c C H locs ls hl hH hS)
theorem go_icmp_ge {x y : Int32} {off : Int} (tgt pc' : Nat) (hd : decode M.2.1 pc = .ok (.if_icmp .ge off, 3)) (kt : y ≤ x → Go l Γ M dp mc ms Φ Ψ k n w tgt L st) (kf : ¬ y ≤ x → Go l Γ M dp mc ms Φ Ψ k n w pc' L st) (ht : (pc : Int) + off = (tgt : Int) := by rfl) (hp : pc + 3 = pc' := by rfl) : Go l Γ M dp mc ms Φ Ψ k n w pc L (.int y :: .int x :: st) := by
  subst hp
  exact fun p e s m args below meth c C H locs ls hl hH hS => lv_icmp_ge C.1 C.2.1 hd ht (fun h => kt h p e s m args below meth c C H locs ls hl hH hS) (fun h => kf h p e s m args below meth c C H locs ls hl hH hS)
theorem go_if_gt {x : Int32} {off : Int} (tgt pc' : Nat) (hd : decode M.2.1 pc = .ok (.ifCond .gt off, 3)) (kt : 0 < x → Go l Γ M dp mc ms Φ Ψ k n w tgt L st) (kf : ¬ 0 < x → Go l Γ M dp mc ms Φ Ψ k n w pc' L st) (ht : (pc : Int) + off = (tgt : Int) := by rfl) (hp : pc + 3 = pc' := by rfl) : Go l Γ M dp mc ms Φ Ψ k n w pc L (.int x :: st) := by
  subst hp
  exact fun p e s m args below meth c C H locs ls hl hH hS => lv_if_gt C.1 C.2.1 hd ht (fun h => kt h p e s m args below meth c C H locs ls hl hH hS) (fun h => kf h p e s m args below meth c C H locs ls hl hH hS)
theorem go_icmp_gt {x y : Int32} {off : Int} (tgt pc' : Nat) (hd : decode M.2.1 pc = .ok (.if_icmp .gt off, 3)) (kt : y < x → Go l Γ M dp mc ms Φ Ψ k n w tgt L st) (kf : ¬ y < x → Go l Γ M dp mc ms Φ Ψ k n w pc' L st) (ht : (pc : Int) + off = (tgt : Int) := by rfl) (hp : pc + 3 = pc' := by rfl) : Go l Γ M dp mc ms Φ Ψ k n w pc L (.int y :: .int x :: st) := by
  subst hp
  exact fun p e s m args below meth c C H locs ls hl hH hS => lv_icmp_gt C.1 C.2.1 hd ht (fun h => kt h p e s m args below meth c C H locs ls hl hH hS) (fun h => kf h p e s m args below meth c C H locs ls hl hH hS)
theorem go_if_le {x : Int32} {off : Int} (tgt pc' : Nat) (hd : decode M.2.1 pc = .ok (.ifCond .le off, 3)) (kt : x ≤ 0 → Go l Γ M dp mc ms Φ Ψ k n w tgt L st) (kf : ¬ x ≤ 0 → Go l Γ M dp mc ms Φ Ψ k n w pc' L st) (ht : (pc : Int) + off = (tgt : Int) := by rfl) (hp : pc + 3 = pc' := by rfl) : Go l Γ M dp mc ms Φ Ψ k n w pc L (.int x :: st) := by
  subst hp
  exact fun p e s m args below meth c C H locs ls hl hH hS => lv_if_le C.1 C.2.1 hd ht (fun h => kt h p e s m args below meth c C H locs ls hl hH hS) (fun h => kf h p e s m args below meth c C H locs ls hl hH hS)
theorem go_icmp_le {x y : Int32} {off : Int} (tgt pc' : Nat) (hd : decode M.2.1 pc = .ok (.if_icmp .le off, 3)) (kt : x ≤ y → Go l Γ M dp mc ms Φ Ψ k n w tgt L st) (kf : ¬ x ≤ y → Go l Γ M dp mc ms Φ Ψ k n w pc' L st) (ht : (pc : Int) + off = (tgt : Int) := by rfl) (hp : pc + 3 = pc' := by rfl) : Go l Γ M dp mc ms Φ Ψ k n w pc L (.int y :: .int x :: st) := by
  subst hp
  exact fun p e s m args below meth c C H locs ls hl hH hS => lv_icmp_le C.1 C.2.1 hd ht (fun h => kt h p e s m args below meth c C H locs ls hl hH hS) (fun h => kf h p e s m args below meth c C H locs ls hl hH hS)
theorem go_goto {off : Int} (tgt : Nat) (hd : decode M.2.1 pc = .ok (.goto off, 3)) (kk : Go l Γ M dp mc ms Φ Ψ k n w tgt L st) (ht : (pc : Int) + off = (tgt : Int) := by rfl) : Go l Γ M dp mc ms Φ Ψ k n w pc L st := fun p e s m args below meth c C H locs ls hl hH hS => lv_goto C.1 C.2.1 hd ht (kk p e s m args below meth c C H locs ls hl hH hS)
theorem go_ifnonnull {x : Nat} {off : Int} (tgt : Nat) (hd : decode M.2.1 pc = .ok (.ifnonnull off, 3)) (kk : Go l Γ M dp mc ms Φ Ψ k n w tgt L st) (ht : (pc : Int) + off = (tgt : Int) := by rfl) : Go l Γ M dp mc ms Φ Ψ k n w pc L (.ref x :: st) := fun p e s m args below meth c C H locs ls hl hH hS => lv_ifnonnull C.1 C.2.1 hd ht (kk p e s m args below meth c C H locs ls hl hH hS)
theorem go_ifnonnullN {off : Int} (pc' : Nat) (hd : decode M.2.1 pc = .ok (.ifnonnull off, 3)) (kk : Go l Γ M dp mc ms Φ Ψ k n w pc' L st) (hp : pc + 3 = pc' := by rfl) : Go l Γ M dp mc ms Φ Ψ k n w pc L (.null :: st) := by
  subst hp
  exact fun p e s m args below meth c C H locs ls hl hH hS => lv_ifnonnullN C.1 C.2.1 hd (kk p e s m args below meth c C H locs ls hl hH hS)
theorem go_lcmp {x y : Int64} (pc' : Nat) (hd : decode M.2.1 pc = .ok (.lcmp, 1)) (kk : Go l Γ M dp mc ms Φ Ψ k n w pc' L (.int (lg_cmp x y) :: st)) (hp : pc + 1 = pc' := by rfl) : Go l Γ M dp mc ms Φ Ψ k n w pc L (.long y :: .long x :: st) := by
  subst hp
  exact fun p e s m args below meth c C H locs ls hl hH hS => W.lcmp C.1 C.2.1 hd (kk p e s m args below meth c C H locs ls hl hH hS)
end GoRules
