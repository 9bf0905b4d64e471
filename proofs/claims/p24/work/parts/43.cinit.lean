section CInit
/-! what is made: by constructors, in worlds of cells side by side *)-/
section
variable {l : Launch} {Γ : ZG} {M M' : ZM} {dp mc ms d' mc' ms' : Nat} {Φ : Option Value → ZW → Prop} {Ψ : String → ZW → Prop} {k n : Nat} {w0 : ZW} {o pc : Nat} {L : ZL} {st : List Value} {X : va_E} {rest : List va_E}
theorem l0_at {m : Nat} {c : va_E} (hm : rest.length + 1 = m) : (LW w0 o (X :: (rest ++ [c]))).2 (o + m) = some c := by
  refine LW_at ?_
  rw [← hm]
  show (rest ++ [c])[rest.length]? = some c
  rw [List.getElem?_append_right (Nat.le_refl _), Nat.sub_self]
  rfl
theorem l0_blk {m : Nat} {blk : List va_E} {c : va_E} (hm : rest.length + 1 = m) (hb : blk[0]? = some c) : (LW w0 o (X :: (rest ++ blk))).2 (o + m) = some c := by
  refine LW_at ?_
  rw [← hm]
  show (rest ++ blk)[rest.length]? = some c
  rw [List.getElem?_append_right (Nat.le_refl _), Nat.sub_self]
  exact hb
theorem l0_new {index ci N : Nat} {fs : List Value} (m pc' : Nat) (hd : decode M.2.1 pc = .ok (.new index, 3)) (F : zNew M.1.cls index ci N fs) (hm : rest.length + 1 = m) (hc1 : k + 1 ≤ mc) (hs1 : n + N ≤ ms) (kk : Go l Γ M dp mc ms Φ Ψ (k + 1) (n + N) (LW w0 o (X :: (rest ++ [.inr (ci, fs)]))) pc' L (.ref (o + m) :: st)) (hp : pc + 3 = pc' := by rfl) : Go l Γ M dp mc ms Φ Ψ k n (LW w0 o (X :: rest)) pc L st := by
  subst hm
  exact lw_new pc' hd F hc1 hs1 kk hp
theorem l0_newi {i : Int32} (N m pc' : Nat) (hd : decode M.2.1 pc = .ok (.newarray .int, 2)) (hi : i = nI N) (hN : N ≤ 65536) (hm : rest.length + 1 = m) (hc1 : k + 1 ≤ mc) (hs1 : n + N ≤ ms) (kk : Go l Γ M dp mc ms Φ Ψ (k + 1) (n + N) (LW w0 o (X :: (rest ++ [.inl (Γ.2.2.1 0, N, .inl (fun _ => 0))]))) pc' L (.ref (o + m) :: st)) (hp : pc + 2 = pc' := by rfl) : Go l Γ M dp mc ms Φ Ψ k n (LW w0 o (X :: rest)) pc L (.int i :: st) := by
  subst hm
  exact lw_newi N pc' hd hi hN hc1 hs1 kk hp
theorem l0_newb {i : Int32} (N m pc' : Nat) (hd : decode M.2.1 pc = .ok (.newarray .byte, 2)) (hi : i = nI N) (hN : N ≤ 65536) (hm : rest.length + 1 = m) (hc1 : k + 1 ≤ mc) (hs1 : n + N ≤ ms) (kk : Go l Γ M dp mc ms Φ Ψ (k + 1) (n + N) (LW w0 o (X :: (rest ++ [.inl (Γ.2.2.1 1, N, .inl (fun _ => 0))]))) pc' L (.ref (o + m) :: st)) (hp : pc + 2 = pc' := by rfl) : Go l Γ M dp mc ms Φ Ψ k n (LW w0 o (X :: rest)) pc L (.int i :: st) := by
  subst hm
  exact lw_newb N pc' hd hi hN hc1 hs1 kk hp
theorem l0_newl {i : Int32} (N m pc' : Nat) (hd : decode M.2.1 pc = .ok (.newarray .long, 2)) (hi : i = nI N) (hN : N ≤ 65536) (hm : rest.length + 1 = m) (hc1 : k + 1 ≤ mc) (hs1 : n + N ≤ ms) (kk : Go l Γ M dp mc ms Φ Ψ (k + 1) (n + N) (LW w0 o (X :: (rest ++ [.inl (Γ.2.2.1 2, N, .inr (.inl (fun _ => 0)))]))) pc' L (.ref (o + m) :: st)) (hp : pc + 2 = pc' := by rfl) : Go l Γ M dp mc ms Φ Ψ k n (LW w0 o (X :: rest)) pc L (.int i :: st) := by
  subst hm
  exact lw_newl N pc' hd hi hN hc1 hs1 kk hp
theorem l0_newx {index : Nat} {i : Int32} (N m pc' : Nat) (hd : decode M.2.1 pc = .ok (.anewarray index, 3)) (hcl : Cond.classLink M.1.cls index RX0 ∈ zGood) (hi : i = nI N) (hN : N ≤ 65536) (hm : rest.length + 1 = m) (hc1 : k + 1 ≤ mc) (hs1 : n + N ≤ ms) (kk : Go l Γ M dp mc ms Φ Ψ (k + 1) (n + N) (LW w0 o (X :: (rest ++ [.inl (Γ.2.2.1 3, N, .inr (.inr (.inr (.inr (fun _ => none)))))]))) pc' L (.ref (o + m) :: st)) (hp : pc + 3 = pc' := by rfl) : Go l Γ M dp mc ms Φ Ψ k n (LW w0 o (X :: rest)) pc L (.int i :: st) := by
  subst hm
  refine go_anewX pc' hd hcl hi hN hc1 hs1 ?_ hp
  rw [LW_new]
  exact kk
theorem l0_putF {index ci j : Nat} {fs : List Value} {v : Value} {ty : FieldType} (pc' : Nat) (hd : decode M.2.1 pc = .ok (.putfield index, 3)) (F : zFf M.1.cls index ci j ty) (hin2 : M.1.name = "<init>") (hl9 : j < fs.length) (hn : narrow ty v = v) (hfit : fits ty v = true) (kk : Go l Γ M dp mc ms Φ Ψ k n (LW w0 o (.inr (ci, fs.set j v) :: rest)) pc' L st) (hp : pc + 3 = pc' := by rfl) : Go l Γ M dp mc ms Φ Ψ k n (LW w0 o (.inr (ci, fs) :: rest)) pc L (v :: .ref o :: st) := lw_putF 0 pc' hd F hin2 rfl hl9 hn hfit kk hp
theorem l0_put {index ci j : Nat} {fs : List Value} {v : Value} {ty : FieldType} (pc' : Nat) (hd : decode M.2.1 pc = .ok (.putfield index, 3)) (F : zFp M.1.cls index ci j ty) (hl9 : j < fs.length) (hn : narrow ty v = v) (hfit : fits ty v = true) (kk : Go l Γ M dp mc ms Φ Ψ k n (LW w0 o (.inr (ci, fs.set j v) :: rest)) pc' L st) (hp : pc + 3 = pc' := by rfl) : Go l Γ M dp mc ms Φ Ψ k n (LW w0 o (.inr (ci, fs) :: rest)) pc L (v :: .ref o :: st) := lw_put 0 pc' hd F rfl hl9 hn hfit kk hp
theorem l0_get {index ci j : Nat} {fs : List Value} {v : Value} (pc' : Nat) (hd : decode M.2.1 pc = .ok (.getfield index, 3)) (F : zF M.1.cls index ci j) (hv : fs[j]? = some v) (kk : Go l Γ M dp mc ms Φ Ψ k n (LW w0 o (.inr (ci, fs) :: rest)) pc' L (v :: st)) (hp : pc + 3 = pc' := by rfl) : Go l Γ M dp mc ms Φ Ψ k n (LW w0 o (.inr (ci, fs) :: rest)) pc L (.ref o :: st) := lw_get 0 pc' hd F rfl hv kk hp
/-- a constructor that lays a block from its object on -/
def Blk (l : Launch) (Γ : ZG) (M' : ZM) (d' mc' ms' : Nat) (z : va_E) (blk : Nat → List va_E) : Prop := ∀ (w0 : ZW) (q : Nat), Ct l Γ M' d' mc' ms' [.ref q] (LW w0 q [z]) (fun v w2 => v = none ∧ w2 = LW w0 q (blk q)) zNo
theorem l0_init {index : Nat} {z : va_E} {blk : Nat → List va_E} (m pc' : Nat) (hd : decode M.2.1 pc = .ok (.invokespecial index, 3)) (V : zVi M.1.cls index M' 0) (hB : Blk l Γ M' d' mc' ms' z blk) (hm : rest.length + 1 = m) (hdp : d' + 1 ≤ dp) (hL : M'.2.2.1 ≤ 40) (h1 : k + mc' ≤ mc) (h2 : n + ms' ≤ ms) (hst : (st.map fun v => v.category).sum ≤ 8) (kk : Go l Γ M dp mc ms Φ Ψ (k + mc') (n + ms') (LW w0 o (X :: (rest ++ blk (o + m)))) pc' L st) (hp : pc + 3 = pc' := by rfl) : Go l Γ M dp mc ms Φ Ψ k n (LW w0 o (X :: (rest ++ [z]))) pc L (.ref (o + m) :: st) := by
  have e : ∀ ds, LW w0 o (X :: (rest ++ ds)) = LW (LW w0 o (X :: rest)) (o + m) ds := fun ds => by
    rw [← hm]
    exact (LW_LW (cs := X :: rest) (ds := ds)).symm
  rw [e]
  refine go_callI (As := []) pc' hd V (hB _ _) hdp hL h1 h2 hst ?_ hp
  rintro v w2 ⟨rfl, rfl⟩
  rw [← e]
  exact kk
theorem l0_initN {index : Nat} {z : va_E} {blk : Nat → List va_E} (m pc' : Nat) (hd : decode M.2.1 pc = .ok (.invokespecial index, 3)) (V : zVin M.1.cls index M' 0) (hB : Blk l Γ M' d' mc' ms' z blk) (hm : rest.length + 1 = m) (hdp : d' + 1 ≤ dp) (hL : M'.2.2.1 ≤ 40) (h1 : k + mc' ≤ mc) (h2 : n + ms' ≤ ms) (hst : (st.map fun v => v.category).sum ≤ 8) (kk : Go l Γ M dp mc ms Φ Ψ (k + mc') (n + ms') (LW w0 o (X :: (rest ++ blk (o + m)))) pc' L st) (hp : pc + 3 = pc' := by rfl) : Go l Γ M dp mc ms Φ Ψ k n (LW w0 o (X :: (rest ++ [z]))) pc L (.ref (o + m) :: st) := by
  have e : ∀ ds, LW w0 o (X :: (rest ++ ds)) = LW (LW w0 o (X :: rest)) (o + m) ds := fun ds => by
    rw [← hm]
    exact (LW_LW (cs := X :: rest) (ds := ds)).symm
  rw [e]
  refine go_callIN (As := []) pc' hd V (hB _ _) hdp hL h1 h2 hst ?_ hp
  rintro v w2 ⟨rfl, rfl⟩
  rw [← e]
  exact kk
theorem go_w {w w' : ZW} (h : w = w') (kk : Go l Γ M dp mc ms Φ Ψ k n w' pc L st) : Go l Γ M dp mc ms Φ Ψ k n w pc L st := by subst h; exact kk
theorem go_kn {w : ZW} {k' n' : Nat} (h1 : k = k') (h2 : n = n') (kk : Go l Γ M dp mc ms Φ Ψ k' n' w pc L st) : Go l Γ M dp mc ms Φ Ψ k n w pc L st := by subst h1; subst h2; exact kk
end
theorem nX0_9 : zNew RX0 9 4 3 [.null, .int 0, .int 0] := ⟨_, _, tyX4, rfl, uX4_ok, tyX4_ok, zGood.mem 88 (by decide +kernel) rfl, zGood.mem 89 (by decide +kernel) rfl, zGood.mem 46 (by decide +kernel) rfl, fun j hj => match j, hj with | 0, _ => rfl | 1, _ => rfl | 2, _ => rfl | j + 3, h => absurd h (by omega)⟩
theorem nX5_7 : zNew RX5 7 0 9 [.null, .null, .null, .null, .null, .int 0, .int 0, .int 0, .int 0] := ⟨_, _, tyX0, rfl, uX0_ok, tyX0_ok, zGood.mem 82 (by decide +kernel) rfl, zGood.mem 83 (by decide +kernel) rfl, zGood.mem 45 (by decide +kernel) rfl, fun j hj => match j, hj with | 0, _ => rfl | 1, _ => rfl | 2, _ => rfl | 3, _ => rfl | 4, _ => rfl | 5, _ => rfl | 6, _ => rfl | 7, _ => rfl | 8, _ => rfl | j + 9, h => absurd h (by omega)⟩
theorem nX5_19 : zNew RX5 19 1 3 [.null, .int 0, .int 0] := ⟨_, _, tyX1, rfl, uX1_ok, tyX1_ok, zGood.mem 157 (by decide +kernel) rfl, zGood.mem 158 (by decide +kernel) rfl, zGood.mem 47 (by decide +kernel) rfl, fun j hj => match j, hj with | 0, _ => rfl | 1, _ => rfl | 2, _ => rfl | j + 3, h => absurd h (by omega)⟩
theorem nX1_9 : zNew RX1 9 0 9 [.null, .null, .null, .null, .null, .int 0, .int 0, .int 0, .int 0] := ⟨_, _, tyX0, rfl, uX0_ok, tyX0_ok, zGood.mem 163 (by decide +kernel) rfl, zGood.mem 83 (by decide +kernel) rfl, zGood.mem 45 (by decide +kernel) rfl, fun j hj => match j, hj with | 0, _ => rfl | 1, _ => rfl | 2, _ => rfl | 3, _ => rfl | 4, _ => rfl | 5, _ => rfl | 6, _ => rfl | 7, _ => rfl | 8, _ => rfl | j + 9, h => absurd h (by omega)⟩
theorem nX5_26 : zNew RX5 26 3 15 [.null, .int 0, .null, .null, .int 0, .int 0, .int 0, .int 0, .int 0, .int 0, .int 0, .int 0, .int 0, .int 0, .int 0] := ⟨_, _, tyX3, rfl, uX3_ok, tyX3_ok, zGood.mem 176 (by decide +kernel) rfl, zGood.mem 177 (by decide +kernel) rfl, zGood.mem 48 (by decide +kernel) rfl, fun j hj => match j, hj with | 0, _ => rfl | 1, _ => rfl | 2, _ => rfl | 3, _ => rfl | 4, _ => rfl | 5, _ => rfl | 6, _ => rfl | 7, _ => rfl | 8, _ => rfl | 9, _ => rfl | 10, _ => rfl | 11, _ => rfl | 12, _ => rfl | 13, _ => rfl | 14, _ => rfl | j + 15, h => absurd h (by omega)⟩
theorem nX3_15 : zNew RX3 15 0 9 [.null, .null, .null, .null, .null, .int 0, .int 0, .int 0, .int 0] := ⟨_, _, tyX0, rfl, uX0_ok, tyX0_ok, zGood.mem 182 (by decide +kernel) rfl, zGood.mem 83 (by decide +kernel) rfl, zGood.mem 45 (by decide +kernel) rfl, fun j hj => match j, hj with | 0, _ => rfl | 1, _ => rfl | 2, _ => rfl | 3, _ => rfl | 4, _ => rfl | 5, _ => rfl | 6, _ => rfl | 7, _ => rfl | 8, _ => rfl | j + 9, h => absurd h (by omega)⟩
theorem nX3_81 : zNew RX3 81 2 3 [.null, .null, .int 0] := ⟨_, _, tyX2, rfl, uX2_ok, tyX2_ok, zGood.mem 739 (by decide +kernel) rfl, zGood.mem 740 (by decide +kernel) rfl, zGood.mem 70 (by decide +kernel) rfl, fun j hj => match j, hj with | 0, _ => rfl | 1, _ => rfl | 2, _ => rfl | j + 3, h => absurd h (by omega)⟩
theorem clX1_9 : Cond.classLink RX1 9 RX0 ∈ zGood := zGood.mem 163 (by decide +kernel) rfl
set_option maxRecDepth 100000 in
theorem ct_X4_init {l : Launch} {Γ : ZG} {w : ZW} {t a : Nat} {C : Int32} (hw : w.2 t = some (.inr (4, [.null, .int 0, .int 0]))) : Cm l Γ mX4_init 2 [.ref t, .ref a, .int C] w none (wset w t (.inr (4, [.ref a, .int C, .int 0]))) := by
  refine Cm.of (by decide) rfl (Nat.le_of_ble_eq_true rfl) ?_
  refine go_aload_n 1 dX4_init_0 rfl ?_
  refine go_objInit 4 dX4_init_1 oX4_3 oInst oCode (by decide) (by exact Nat.le_of_ble_eq_true rfl) ?_
  refine go_aload_n 5 dX4_init_4 rfl ?_
  refine go_aload_n 6 dX4_init_5 rfl ?_
  refine go_putF 9 dX4_init_6 qX4_9 rfl hw (Nat.le_of_ble_eq_true rfl) rfl rfl ?_
  refine go_aload_n 10 dX4_init_9 rfl ?_
  refine go_iload_n 11 dX4_init_10 rfl ?_
  refine go_putF 14 dX4_init_11 qX4_15 rfl wset_at (Nat.le_of_ble_eq_true rfl) rfl rfl ?_
  rw [wset_wset]
  exact go_return dX4_init_14 rfl (by omega) (by omega) ⟨rfl, rfl⟩
/-- a table's constructor, the table and its row being the last two cells -/
theorem l0_initT {l : Launch} {Γ : ZG} {M : ZM} {dp mc ms : Nat} {Φ : Option Value → ZW → Prop} {Ψ : String → ZW → Prop} {k n : Nat} {w0 : ZW} {o pc : Nat} {L : ZL} {st : List Value} {X A : va_E} {rest : List va_E} {index : Nat} {C : Int32} (m pc' : Nat) (hd : decode M.2.1 pc = .ok (.invokespecial index, 3)) (V : zVi M.1.cls index mX4_init 2) (hm : rest.length + 1 = m) (hdp : 3 ≤ dp) (h1 : k ≤ mc) (h2 : n ≤ ms) (hst : (st.map fun v => v.category).sum ≤ 8) (kk : Go l Γ M dp mc ms Φ Ψ k n (LW w0 o (X :: (rest ++ [.inr (4, [.ref (o + (m + 1)), .int C, .int 0]), A]))) pc' L st) (hp : pc + 3 = pc' := by rfl) : Go l Γ M dp mc ms Φ Ψ k n (LW w0 o (X :: ((rest ++ [.inr (4, [.null, .int 0, .int 0])]) ++ [A]))) pc L (.int C :: .ref (o + (m + 1)) :: .ref (o + m) :: st) := by
  have e : ∀ c : va_E, (X :: ((rest ++ [c]) ++ [A]))[m]? = some c := fun c => by
    rw [← hm, List.append_assoc]
    show (rest ++ ([c] ++ [A]))[rest.length]? = some c
    rw [List.getElem?_append_right (Nat.le_refl _), Nat.sub_self]
    rfl
  refine go_callI (As := [.ref (o + (m + 1)), .int C]) pc' hd V (ct_X4_init (LW_at (e _))) hdp (by decide) h1 h2 hst ?_ hp
  rintro v w2 ⟨rfl, rfl⟩
  rw [LW_set (by rw [← hm]; simp)]
  refine go_w ?_ kk
  congr 1
  rw [← hm, List.append_assoc]
  show X :: (rest ++ ([_] ++ [A])).set rest.length _ = _
  rw [List.set_append_right _ _ (Nat.le_refl _), Nat.sub_self]
  rfl
def z0 : ZD := fun _ => 0
/-- an exchange as it is made -/
def E00 : ES := (fun t => if t = 3 then zrow z0 0 7 else z0, fun t => if t = 3 then 1 else 0, fun j => if j = 6 then 3 else if j = 7 then 5 else if j = 8 then 20 else 0, none)
def exZ : va_E := .inr (0, [.null, .null, .null, .null, .null, .int 0, .int 0, .int 0, .int 0])
def exL (Γ : ZG) (e : Nat) : List va_E := [ecell Γ e E00 0, ecell Γ e E00 1, ecell Γ e E00 2, ecell Γ e E00 3, ecell Γ e E00 4, ecell Γ e E00 5, ecell Γ e E00 6, ecell Γ e E00 7, ecell Γ e E00 8]
set_option maxRecDepth 100000 in
set_option maxHeartbeats 4000000 in
theorem bk_X0 {l : Launch} {Γ : ZG} : Blk l Γ mX0_init 3 8 729 exZ (exL Γ) := by
  intro w0 o
  refine Ct.of (by decide) rfl (Nat.le_of_ble_eq_true rfl) ?_
  refine go_aload_n 1 dX0_init_0 rfl ?_
  refine go_objInit 4 dX0_init_1 oX0_3 oInst oCode (by decide) (by exact Nat.le_of_ble_eq_true rfl) ?_
  refine go_aload_n 5 dX0_init_4 rfl ?_
  refine l0_new 1 8 dX0_init_5 nX0_9 rfl (by decide) (by decide) ?_
  refine go_dup 9 dX0_init_8 rfl ?_
  refine go_bipush 11 dX0_init_9 zb_30 ?_
  refine l0_newi 30 2 13 dX0_init_11 rfl (by decide) rfl (by decide) (by decide) ?_
  refine go_iconst 14 dX0_init_13 zc_3 ?_
  refine l0_initT 1 17 dX0_init_14 vX0_11 rfl (by decide) (by decide) (by decide) (by exact Nat.le_of_ble_eq_true rfl) ?_
  refine l0_putF 20 dX0_init_17 qX0_14 rfl (Nat.le_of_ble_eq_true rfl) rfl rfl ?_
  refine go_aload_n 21 dX0_init_20 rfl ?_
  refine l0_new 3 24 dX0_init_21 nX0_9 rfl (by decide) (by decide) ?_
  refine go_dup 25 dX0_init_24 rfl ?_
  refine go_sipush 28 dX0_init_25 zs_160 ?_
  refine l0_newi 160 4 30 dX0_init_28 rfl (by decide) rfl (by decide) (by decide) ?_
  refine go_bipush 32 dX0_init_30 zb_8 ?_
  refine l0_initT 3 35 dX0_init_32 vX0_11 rfl (by decide) (by decide) (by decide) (by exact Nat.le_of_ble_eq_true rfl) ?_
  refine l0_putF 38 dX0_init_35 qX0_20 rfl (Nat.le_of_ble_eq_true rfl) rfl rfl ?_
  refine go_aload_n 39 dX0_init_38 rfl ?_
  refine l0_new 5 42 dX0_init_39 nX0_9 rfl (by decide) (by decide) ?_
  refine go_dup 43 dX0_init_42 rfl ?_
  refine go_sipush 46 dX0_init_43 zs_520 ?_
  refine l0_newi 520 6 48 dX0_init_46 rfl (by decide) rfl (by decide) (by decide) ?_
  refine go_bipush 50 dX0_init_48 zb_13 ?_
  refine l0_initT 5 53 dX0_init_50 vX0_11 rfl (by decide) (by decide) (by decide) (by exact Nat.le_of_ble_eq_true rfl) ?_
  refine l0_putF 56 dX0_init_53 qX0_23 rfl (Nat.le_of_ble_eq_true rfl) rfl rfl ?_
  refine go_aload_n 57 dX0_init_56 rfl ?_
  refine l0_new 7 60 dX0_init_57 nX0_9 rfl (by decide) (by decide) ?_
  refine go_dup 61 dX0_init_60 rfl ?_
  refine go_bipush 63 dX0_init_61 zb_7 ?_
  refine l0_newi 7 8 65 dX0_init_63 rfl (by decide) rfl (by decide) (by decide) ?_
  refine go_bipush 67 dX0_init_65 zb_7 ?_
  refine l0_initT 7 70 dX0_init_67 vX0_11 rfl (by decide) (by decide) (by decide) (by exact Nat.le_of_ble_eq_true rfl) ?_
  refine l0_putF 73 dX0_init_70 qX0_26 rfl (Nat.le_of_ble_eq_true rfl) rfl rfl ?_
  refine go_aload_n 74 dX0_init_73 rfl ?_
  refine go_iconst 75 dX0_init_74 zc_3 ?_
  refine l0_put 78 dX0_init_75 pX0_29 (Nat.le_of_ble_eq_true rfl) rfl rfl ?_
  refine go_aload_n 79 dX0_init_78 rfl ?_
  refine go_iconst 80 dX0_init_79 zc_5 ?_
  refine l0_put 83 dX0_init_80 pX0_33 (Nat.le_of_ble_eq_true rfl) rfl rfl ?_
  refine go_aload_n 84 dX0_init_83 rfl ?_
  refine go_bipush 86 dX0_init_84 zb_20 ?_
  refine l0_put 89 dX0_init_86 pX0_36 (Nat.le_of_ble_eq_true rfl) rfl rfl ?_
  refine go_aload_n 90 dX0_init_89 rfl ?_
  refine l0_get 93 dX0_init_90 fX0_26 rfl ?_
  refine gcV0 96 dX0_init_93 vX0_39 (LW_at (i := 7) rfl) rfl (ct_X4_addRow (N := 7) (C := 7) (R := 0) (LW_at (i := 7) rfl) (LW_at (i := 8) rfl) (by omega) (by decide) (by decide) (by decide) (by decide)) ?_
  rw [LW_set (i := 7) (Nat.le_of_ble_eq_true rfl), LW_set (i := 8) (Nat.le_of_ble_eq_true rfl)]
  refine go_pop 97 dX0_init_96 rfl ?_
  exact go_return dX0_init_97 rfl (by decide) (by decide) ⟨rfl, rfl⟩
def exB (Γ : ZG) (b : Nat) : Nat → List va_E
  | 0 => []
  | i + 1 => exB Γ b i ++ exL Γ (b + 9 * i)
theorem exB_len {Γ : ZG} {b : Nat} : ∀ i, (exB Γ b i).length = 9 * i
  | 0 => rfl
  | i + 1 => by
    show (exB Γ b i ++ exL Γ (b + 9 * i)).length = _
    rw [List.length_append, exB_len i]
    show 9 * i + 9 = _
    omega
def svF (o i : Nat) : Nat → Option Nat := fun j => if j < i then some (o + (2 + 9 * j)) else none
def svA (Γ : ZG) (o i : Nat) : va_E := .inl (Γ.2.2.1 3, 8, .inr (.inr (.inr (.inr (svF o i)))))
theorem svF_0 {o : Nat} : svF o 0 = fun _ => none := funext fun j => if_neg (Nat.not_lt_zero j)
theorem svF_s {o i : Nat} : va_up (svF o i) i (some (o + (2 + 9 * i))) = svF o (i + 1) := by
  funext j
  unfold svF
  by_cases h : j = i
  · subst h
    rw [if_pos (Nat.lt_succ_self j)]
    exact if_pos rfl
  · refine (if_neg h).trans ?_
    show (if j < i then some (o + (2 + 9 * j)) else none) = if j < i + 1 then some (o + (2 + 9 * j)) else none
    by_cases h2 : j < i
    · rw [if_pos h2, if_pos (by omega)]
    · rw [if_neg h2, if_neg (by omega)]
def hiL (Γ : ZG) (o : Nat) : List va_E := .inr (1, [.ref (o + 1), .int 0, .int 0]) :: (svA Γ o 8 :: exB Γ (o + 2) 8)
set_option maxRecDepth 100000 in
set_option maxHeartbeats 4000000 in
theorem lp_X1_init {l : Launch} {Γ : ZG} {w0 : ZW} {o : Nat} : ∀ (f i : Nat), i + f = 8 → Go l Γ mX1_init 4 73 5912 (fun v w2 => v = none ∧ w2 = LW w0 o (hiL Γ o)) zNo (1 + 9 * i) (8 + 738 * i) (LW w0 o (.inr (1, [.ref (o + 1), .int 0, .int 0]) :: (svA Γ o i :: exB Γ (o + 2) i))) 15 [(0, .ref o), (1, .int (nI i))] [] := by
  intro f
  induction f with
  | zero =>
    intro i hif
    have hi : i = 8 := by omega
    subst hi
    refine go_iload_n 16 dX1_init_15 rfl ?_
    refine go_aload_n 17 dX1_init_16 rfl ?_
    refine l0_get 20 dX1_init_17 fX1_11 rfl ?_
    refine go_alen (t0 := 3) (v := 8) 21 dX1_init_20 (LW_at (i := 1) rfl) rfl rfl ?_
    refine go_icmp_ge 43 24 dX1_init_21 (fun h21 => ?_) (fun h21 => ?_)
    · exact go_return dX1_init_43 rfl (by decide) (by decide) ⟨rfl, rfl⟩
    · exact absurd (by decide) h21
  | succ f ih =>
    intro i hif
    refine go_iload_n 16 dX1_init_15 rfl ?_
    refine go_aload_n 17 dX1_init_16 rfl ?_
    refine l0_get 20 dX1_init_17 fX1_11 rfl ?_
    refine go_alen (t0 := 3) (v := 8) 21 dX1_init_20 (LW_at (i := 1) rfl) rfl rfl ?_
    refine go_icmp_ge 43 24 dX1_init_21 (fun h21 => ?_) (fun h21 => ?_)
    · exact (lpG (a := 8) (N := 8) rfl (by decide) (by omega) h21).elim
    · refine go_aload_n 25 dX1_init_24 rfl ?_
      refine l0_get 28 dX1_init_25 fX1_11 rfl ?_
      refine go_iload_n 29 dX1_init_28 rfl ?_
      have hl : (svA Γ o i :: exB Γ (o + 2) i).length + 1 = 2 + 9 * i := by
        show (exB Γ (o + 2) i).length + 1 + 1 = _
        rw [exB_len]
        omega
      refine l0_new (2 + 9 * i) 32 dX1_init_29 nX1_9 hl (by omega) (by omega) ?_
      refine go_dup 33 dX1_init_32 rfl ?_
      refine l0_init (2 + 9 * i) 36 dX1_init_33 vX1_17 bk_X0 hl (by decide) (by decide) (by omega) (by omega) (by exact Nat.le_of_ble_eq_true rfl) ?_
      refine go_aast (f := svF o i) 37 dX1_init_36 (LW_at (i := 1) rfl) (fs := efs (o + (2 + 9 * i)) E00) (l0_blk hl rfl) (vp_in_nI (by omega) (by decide)) ?_
      rw [nI_clamp (by omega), svF_s, LW_set (i := 1) (by show 1 < _ + 1; simp)]
      refine go_iinc 40 dX1_init_37 rfl (by decide) zc_1 ?_
      refine go_goto 15 dX1_init_40 ?_
      rw [nI_1]
      refine go_kn (k' := 1 + 9 * (i + 1)) (n' := 8 + 738 * (i + 1)) (by omega) (by omega) ?_
      refine go_w ?_ (go_locals _ rfl (ih (i + 1) (by omega)))
      show LW w0 o (_ :: (svA Γ o (i + 1) :: (exB Γ (o + 2) i ++ exL Γ (o + (2 + 9 * i))))) = LW w0 o (_ :: (svA Γ o (i + 1) :: (exB Γ (o + 2) i ++ exL Γ (o + 2 + 9 * i))))
      rw [Nat.add_assoc]
set_option maxRecDepth 100000 in
set_option maxHeartbeats 4000000 in
theorem bk_X1 {l : Launch} {Γ : ZG} : Blk l Γ mX1_init 4 73 5912 (.inr (1, [.null, .int 0, .int 0])) (hiL Γ) := by
  intro w0 o
  refine Ct.of (by decide) rfl (Nat.le_of_ble_eq_true rfl) ?_
  refine go_aload_n 1 dX1_init_0 rfl ?_
  refine go_objInit 4 dX1_init_1 oX1_3 oInst oCode (by decide) (by exact Nat.le_of_ble_eq_true rfl) ?_
  refine go_aload_n 5 dX1_init_4 rfl ?_
  refine go_bipush 7 dX1_init_5 zb_8 ?_
  refine l0_newx 8 1 10 dX1_init_7 clX1_9 rfl (by decide) rfl (by decide) (by decide) ?_
  refine l0_putF 13 dX1_init_10 qX1_11 rfl (Nat.le_of_ble_eq_true rfl) rfl rfl ?_
  refine go_iconst 14 dX1_init_13 zc_0 ?_
  refine go_istore_n 15 dX1_init_14 (by decide) ?_
  refine go_w ?_ (go_locals _ rfl (lp_X1_init 8 0 rfl))
  show LW w0 o (_ :: [_]) = LW w0 o (_ :: [svA Γ o 0])
  unfold svA
  rw [svF_0]
  rfl
def rdL (Γ : ZG) (o : Nat) : List va_E := .inr (3, [.ref (o + 1), .int 0, .ref (o + 2), .ref (o + 11), .int 0, .int 0, .int 0, .int 0, .int 0, .int 0, .int 0, .int 0, .int 0, .int 0, .int 0]) :: (.inl (Γ.2.2.1 1, 600, .inl z0) :: (exL Γ (o + 2) ++ [.inl (Γ.2.2.1 0, 600, .inl z0)]))
set_option maxRecDepth 100000 in
set_option maxHeartbeats 4000000 in
theorem bk_X3 {l : Launch} {Γ : ZG} : Blk l Γ mX3_init 4 11 1938 (.inr (3, [.null, .int 0, .null, .null, .int 0, .int 0, .int 0, .int 0, .int 0, .int 0, .int 0, .int 0, .int 0, .int 0, .int 0])) (rdL Γ) := by
  intro w0 o
  refine Ct.of (by decide) rfl (Nat.le_of_ble_eq_true rfl) ?_
  refine go_aload_n 1 dX3_init_0 rfl ?_
  refine go_objInit 4 dX3_init_1 oX3_3 oInst oCode (by decide) (by exact Nat.le_of_ble_eq_true rfl) ?_
  refine go_aload_n 5 dX3_init_4 rfl ?_
  refine go_sipush 8 dX3_init_5 zs_600 ?_
  refine l0_newb 600 1 10 dX3_init_8 rfl (by decide) rfl (by decide) (by decide) ?_
  refine l0_putF 13 dX3_init_10 qX3_9 rfl (Nat.le_of_ble_eq_true rfl) rfl rfl ?_
  refine go_aload_n 14 dX3_init_13 rfl ?_
  refine l0_new 2 17 dX3_init_14 nX3_15 rfl (by decide) (by decide) ?_
  refine go_dup 18 dX3_init_17 rfl ?_
  refine l0_init 2 21 dX3_init_18 vX3_17 bk_X0 rfl (by decide) (by decide) (by decide) (by decide) (by exact Nat.le_of_ble_eq_true rfl) ?_
  refine l0_putF 24 dX3_init_21 qX3_18 rfl (Nat.le_of_ble_eq_true rfl) rfl rfl ?_
  refine go_aload_n 25 dX3_init_24 rfl ?_
  refine go_sipush 28 dX3_init_25 zs_600 ?_
  refine l0_newi 600 11 30 dX3_init_28 rfl (by decide) rfl (by decide) (by decide) ?_
  refine l0_putF 33 dX3_init_30 qX3_22 rfl (Nat.le_of_ble_eq_true rfl) rfl rfl ?_
  exact go_return dX3_init_33 rfl (by decide) (by decide) (⟨rfl, rfl⟩)
def cfL (Γ : ZG) (x : Nat) : List va_E := .inr (5, [.ref (x + 1), .ref (x + 10), .ref (x + 19), .ref (x + 93), .int (-1)]) :: (exL Γ (x + 1) ++ (exL Γ (x + 10) ++ (hiL Γ (x + 19) ++ rdL Γ (x + 93))))
set_option maxRecDepth 100000 in
set_option maxHeartbeats 4000000 in
theorem bk_X5 {l : Launch} {Γ : ZG} : Blk l Γ mX5_init 5 104 9344 (.inr (5, [.null, .null, .null, .null, .int 0])) (cfL Γ) := by
  intro w0 o
  refine Ct.of (by decide) rfl (Nat.le_of_ble_eq_true rfl) ?_
  refine go_aload_n 1 dX5_init_0 rfl ?_
  refine go_objInit 4 dX5_init_1 oX5_1 oInst oCode (by decide) (by exact Nat.le_of_ble_eq_true rfl) ?_
  refine go_aload_n 5 dX5_init_4 rfl ?_
  refine l0_new 1 8 dX5_init_5 nX5_7 rfl (by decide) (by decide) ?_
  refine go_dup 9 dX5_init_8 rfl ?_
  refine l0_init 1 12 dX5_init_9 vX5_9 bk_X0 rfl (by decide) (by decide) (by decide) (by decide) (by exact Nat.le_of_ble_eq_true rfl) ?_
  refine l0_putF 15 dX5_init_12 qX5_10 rfl (Nat.le_of_ble_eq_true rfl) rfl rfl ?_
  refine go_aload_n 16 dX5_init_15 rfl ?_
  refine l0_new 10 19 dX5_init_16 nX5_7 rfl (by decide) (by decide) ?_
  refine go_dup 20 dX5_init_19 rfl ?_
  refine l0_init 10 23 dX5_init_20 vX5_9 bk_X0 rfl (by decide) (by decide) (by decide) (by decide) (by exact Nat.le_of_ble_eq_true rfl) ?_
  refine l0_putF 26 dX5_init_23 qX5_16 rfl (Nat.le_of_ble_eq_true rfl) rfl rfl ?_
  refine go_aload_n 27 dX5_init_26 rfl ?_
  refine l0_new 19 30 dX5_init_27 nX5_19 rfl (by decide) (by decide) ?_
  refine go_dup 31 dX5_init_30 rfl ?_
  refine l0_init 19 34 dX5_init_31 vX5_21 bk_X1 rfl (by decide) (by decide) (by decide) (by decide) (by exact Nat.le_of_ble_eq_true rfl) ?_
  refine l0_putF 37 dX5_init_34 qX5_22 rfl (Nat.le_of_ble_eq_true rfl) rfl rfl ?_
  refine go_aload_n 38 dX5_init_37 rfl ?_
  refine l0_new 93 41 dX5_init_38 nX5_26 rfl (by decide) (by decide) ?_
  refine go_dup 42 dX5_init_41 rfl ?_
  refine l0_initN 93 45 dX5_init_42 vnX5_28 bk_X3 rfl (by decide) (by decide) (by decide) (by decide) (by exact Nat.le_of_ble_eq_true rfl) ?_
  refine l0_putF 48 dX5_init_45 qX5_29 rfl (Nat.le_of_ble_eq_true rfl) rfl rfl ?_
  refine go_aload_n 49 dX5_init_48 rfl ?_
  refine go_iconst 50 dX5_init_49 zc_m1 ?_
  refine l0_put 53 dX5_init_50 pX5_33 (Nat.le_of_ble_eq_true rfl) rfl rfl ?_
  exact go_return dX5_init_53 rfl (by decide) (by decide) (⟨rfl, rfl⟩)
theorem pow_bits : ∀ t, t < 10 → bN (nI (2 ^ t)) 0 10 = 1 ∧ ∀ j, j < 10 → bitOf (nI (2 ^ t)) j = 1 → j = t := by decide +kernel
set_option maxRecDepth 100000 in
set_option maxHeartbeats 4000000 in
theorem cx_X0_refer {D : ZD} {g : Option Nat} {sg : ZSg} {E : ES} {l : Launch} {Γ : ZG} {w : ZW} {e : Nat} {cs : List Int32} (h : CR D g sg E D) (hG : GI sg D) (hR : RG Γ w g cs) (hA : gAway g e 9) {k t q : Nat} {p : Int32} (hk : k < nL D) (ht : t < nP D) (hC : nC D < 20) (hL : nL D + 1 ≤ 40) (hq : (if clr D k = p then dL D k 1 else clr D k) = nI q ∧ q < nP D) : Ct l Γ mX0_referOtherParty 7 0 0 [.ref e, .int (nI k), .int p, .int (nI t)] (wE Γ w e E) (PvG Γ w e g (some (.int (begN (dropD (setL D k 2 2) k) (nI q) (nI (2 ^ t)) (ringV (nI (bN (nI (2 ^ t)) 0 10)) (nI q) 1 ((dropD (setL D k 2 2) k) 0) cs) (nI k)))) (fun E' => CR (begD (dropD (setL D k 2 2) k) (nI q) (nI (2 ^ t)) (ringV (nI (bN (nI (2 ^ t)) 0 10)) (nI q) 1 ((dropD (setL D k 2 2) k) 0) cs) (nI k)) g (sgN sg (dropD (setL D k 2 2) k) (bN (nI (2 ^ t)) 0 10)) E' (begD (dropD (setL D k 2 2) k) (nI q) (nI (2 ^ t)) (ringV (nI (bN (nI (2 ^ t)) 0 10)) (nI q) 1 ((dropD (setL D k 2 2) k) 0) cs) (nI k)))) zNo := by
  have hs : Same D (dropD (setL D k 2 2) k) := (sm_setL (by decide) (by decide)).trans sm_drop
  have ht10 : t < 10 := by have := h.P10; omega
  have hkr : nI k = nI (tN (nI k)) ∧ tN (nI k) < nL (dropD (setL D k 2 2) k) := by
    have e : tN (nI k) = k := nI_clamp (by omega)
    rw [e, sm_nL hs]
    exact ⟨rfl, hk⟩
  have hother : (if (1 : Int32) - nI (sdN D k p) = 0 then clr D k else dL D k 1) = nI q := by
    rw [← hq.1]
    unfold sdN
    by_cases c : clr D k = p
    · rw [if_pos c, if_pos c]; exact if_neg (by decide)
    · rw [if_neg c, if_neg c]; exact if_pos (by decide)
  refine Ct.of (by decide) rfl (Nat.le_of_ble_eq_true rfl) ?_
  refine go_aload_n 1 dX0_referOtherParty_0 rfl ?_
  refine go_iload_n 2 dX0_referOtherParty_1 rfl ?_
  refine go_iconst 3 dX0_referOtherParty_2 zc_1 ?_
  refine go_aload_n 4 dX0_referOtherParty_3 rfl ?_
  refine go_iload_n 5 dX0_referOtherParty_4 rfl ?_
  refine go_iload_n 6 dX0_referOtherParty_5 rfl ?_
  refine gcV2 9 dX0_referOtherParty_6 vX0_95 wE_at0 rfl (cx_X0_sideOf h rfl hk) ?_
  refine go_isub 10 dX0_referOtherParty_9 ?_
  refine gcV2 13 dX0_referOtherParty_10 vX0_98 wE_at0 rfl (cx_X0_partyOn h rfl hk) ?_
  rw [hother]
  refine go_istore 15 dX0_referOtherParty_13 (by decide) ?_
  refine go_aload_n 16 dX0_referOtherParty_15 rfl ?_
  refine xe_get 19 dX0_referOtherParty_16 fX0_23 rfl ?_
  refine go_iload_n 20 dX0_referOtherParty_19 rfl ?_
  refine go_iconst 21 dX0_referOtherParty_20 zc_2 ?_
  refine go_iconst 22 dX0_referOtherParty_21 zc_2 ?_
  refine gxX3v 25 dX0_referOtherParty_22 vX0_57 h.tL rfl (cs_L (k := k) (j := 2) h rfl rfl hk (by decide) (by decide)) (fun E22 r22 => ?_)
  refine go_aload_n 26 dX0_referOtherParty_25 rfl ?_
  refine go_iload_n 27 dX0_referOtherParty_26 rfl ?_
  refine gxX1v 30 dX0_referOtherParty_27 vX0_101 wE_at0 rfl (cx_X0_dropOffers r22 (k := k) rfl hk) (fun E27 r27 => ?_)
  refine go_aload_n 31 dX0_referOtherParty_30 rfl ?_
  refine go_iload 33 dX0_referOtherParty_31 rfl ?_
  refine go_iconst 34 dX0_referOtherParty_33 zc_1 ?_
  refine go_iload_n 35 dX0_referOtherParty_34 rfl ?_
  refine go_ishl 36 dX0_referOtherParty_35 ?_
  rw [(sh_pow t ht10).1]
  refine go_iload_n 37 dX0_referOtherParty_36 rfl ?_
  refine go_callV (As := [.int (nI q), .int (nI (2 ^ t)), .int (nI k)]) 40 dX0_referOtherParty_37 vX0_104 wE_at0 rfl (cx_X0_beginCall (rv := ringV (nI (bN (nI (2 ^ t)) 0 10)) (nI q) 1 ((dropD (setL D k 2 2) k) 0) cs) r27.base (hold_GI hG) hR hA (by rw [sm_nC hs]; exact hC) (by rw [sm_nP hs]; exact hq.2) (sh_pow t ht10).2 (fun j h1 h2 => by rw [sm_nP hs, (pow_bits t ht10).2 j h1 h2]; exact ht) (by rw [sm_nL hs, (pow_bits t ht10).1]; exact hL) (Or.inr hkr) (by rw [if_neg (nI_nm1 (by omega))]) rfl) (by decide) (by decide) (by omega) (by omega) (by exact Nat.le_of_ble_eq_true rfl) (fun u w2 hu => ?_)
  obtain ⟨rfl, h9, v9, E9, rfl, r9⟩ := hu
  exact go_ireturn dX0_referOtherParty_40 rfl (by omega) (by omega) ⟨rfl, h9, v9, E9, rfl, r9⟩
end CInit
