section MInit
/-! a world of cells side by side, as they were made -/
def LW (w0 : ZW) (o : Nat) (cs : List va_E) : ZW := (o + cs.length, fun q => if o ≤ q ∧ q < o + cs.length then cs[q - o]? else w0.2 q)
theorem LW_new {w0 : ZW} {o : Nat} {cs : List va_E} {e : va_E} : wnew (LW w0 o cs) e = LW w0 o (cs ++ [e]) := by
  refine Prod.ext (by show o + cs.length + 1 = o + (cs ++ [e]).length; rw [List.length_append]; rfl) (funext fun q => ?_)
  show (if q = o + cs.length then some e else if o ≤ q ∧ q < o + cs.length then cs[q - o]? else w0.2 q) = if o ≤ q ∧ q < o + (cs ++ [e]).length then (cs ++ [e])[q - o]? else w0.2 q
  have hl : (cs ++ [e]).length = cs.length + 1 := List.length_append
  rw [hl]
  by_cases h : q = o + cs.length
  · rw [if_pos h, if_pos (by omega), List.getElem?_append_right (by omega), show q - o - cs.length = 0 by omega]
    rfl
  · rw [if_neg h]
    by_cases g : o ≤ q ∧ q < o + cs.length
    · rw [if_pos g, if_pos (by omega), List.getElem?_append_left (by omega)]
    · rw [if_neg g, if_neg (by omega)]
theorem LW_set {w0 : ZW} {o i : Nat} {cs : List va_E} {e : va_E} (hi : i < cs.length) : wset (LW w0 o cs) (o + i) e = LW w0 o (cs.set i e) := by
  refine Prod.ext (by show o + cs.length = o + (cs.set i e).length; rw [List.length_set]) (funext fun q => ?_)
  show (if q = o + i then some e else if o ≤ q ∧ q < o + cs.length then cs[q - o]? else w0.2 q) = if o ≤ q ∧ q < o + (cs.set i e).length then (cs.set i e)[q - o]? else w0.2 q
  rw [List.length_set]
  by_cases h : q = o + i
  · rw [if_pos h, if_pos (by omega), show q - o = i by omega, List.getElem?_set_self hi]
  · rw [if_neg h]
    by_cases g : o ≤ q ∧ q < o + cs.length
    · rw [if_pos g, if_pos g, List.getElem?_set_ne (by omega)]
    · rw [if_neg g, if_neg g]
theorem LW_at {w0 : ZW} {o i : Nat} {cs : List va_E} {e : va_E} (h : cs[i]? = some e) : (LW w0 o cs).2 (o + i) = some e := by
  have hi : i < cs.length := (List.getElem?_eq_some_iff.mp h).1
  show (if o ≤ o + i ∧ o + i < o + cs.length then cs[o + i - o]? else w0.2 (o + i)) = _
  rw [if_pos (by omega), show o + i - o = i by omega, h]
theorem LW_out {w0 : ZW} {o q : Nat} {cs : List va_E} (h : q < o ∨ o + cs.length ≤ q) : (LW w0 o cs).2 q = w0.2 q := if_neg (by omega)
theorem LW_nil {w0 : ZW} : LW w0 w0.1 [] = w0 := Prod.ext rfl (funext fun q => if_neg (by show ¬ (w0.1 ≤ q ∧ q < w0.1 + 0); omega))
/-- cells made within cells: the outer world's list goes on -/
theorem LW_LW {w0 : ZW} {o : Nat} {cs ds : List va_E} : LW (LW w0 o cs) (o + cs.length) ds = LW w0 o (cs ++ ds) := by
  refine Prod.ext (by show o + cs.length + ds.length = o + (cs ++ ds).length; rw [List.length_append]; omega) (funext fun q => ?_)
  show (if o + cs.length ≤ q ∧ q < o + cs.length + ds.length then ds[q - (o + cs.length)]? else if o ≤ q ∧ q < o + cs.length then cs[q - o]? else w0.2 q) = if o ≤ q ∧ q < o + (cs ++ ds).length then (cs ++ ds)[q - o]? else w0.2 q
  have hl : (cs ++ ds).length = cs.length + ds.length := List.length_append
  rw [hl]
  by_cases h : o + cs.length ≤ q ∧ q < o + cs.length + ds.length
  · rw [if_pos h, if_pos (by omega), List.getElem?_append_right (by omega), show q - (o + cs.length) = q - o - cs.length by omega]
  · rw [if_neg h]
    by_cases g : o ≤ q ∧ q < o + cs.length
    · rw [if_pos g, if_pos (by omega), List.getElem?_append_left (by omega)]
    · rw [if_neg g, if_neg (by omega)]
section
variable {l : Launch} {Γ : ZG} {M M' : ZM} {dp mc ms d' : Nat} {Φ : Option Value → ZW → Prop} {Ψ : String → ZW → Prop} {k n : Nat} {w0 w : ZW} {o pc : Nat} {cs : List va_E} {L : ZL} {st : List Value}
theorem lw_newi {i : Int32} (N : Nat) (pc' : Nat) (hd : decode M.2.1 pc = .ok (.newarray .int, 2)) (hi : i = nI N) (hN : N ≤ 65536) (hc1 : k + 1 ≤ mc) (hs1 : n + N ≤ ms) (kk : Go l Γ M dp mc ms Φ Ψ (k + 1) (n + N) (LW w0 o (cs ++ [.inl (Γ.2.2.1 0, N, .inl (fun _ => 0))])) pc' L (.ref (o + cs.length) :: st)) (hp : pc + 2 = pc' := by rfl) : Go l Γ M dp mc ms Φ Ψ k n (LW w0 o cs) pc L (.int i :: st) := by
  refine go_newarray_i pc' hd hi hN hc1 hs1 ac_int ?_ hp
  rw [LW_new]
  exact kk
theorem lw_newl {i : Int32} (N : Nat) (pc' : Nat) (hd : decode M.2.1 pc = .ok (.newarray .long, 2)) (hi : i = nI N) (hN : N ≤ 65536) (hc1 : k + 1 ≤ mc) (hs1 : n + N ≤ ms) (kk : Go l Γ M dp mc ms Φ Ψ (k + 1) (n + N) (LW w0 o (cs ++ [.inl (Γ.2.2.1 2, N, .inr (.inl (fun _ => 0)))])) pc' L (.ref (o + cs.length) :: st)) (hp : pc + 2 = pc' := by rfl) : Go l Γ M dp mc ms Φ Ψ k n (LW w0 o cs) pc L (.int i :: st) := by
  refine go_newarray_l pc' hd hi hN hc1 hs1 ac_long ?_ hp
  rw [LW_new]
  exact kk
theorem lw_newb {i : Int32} (N : Nat) (pc' : Nat) (hd : decode M.2.1 pc = .ok (.newarray .byte, 2)) (hi : i = nI N) (hN : N ≤ 65536) (hc1 : k + 1 ≤ mc) (hs1 : n + N ≤ ms) (kk : Go l Γ M dp mc ms Φ Ψ (k + 1) (n + N) (LW w0 o (cs ++ [.inl (Γ.2.2.1 1, N, .inl (fun _ => 0))])) pc' L (.ref (o + cs.length) :: st)) (hp : pc + 2 = pc' := by rfl) : Go l Γ M dp mc ms Φ Ψ k n (LW w0 o cs) pc L (.int i :: st) := by
  refine go_newarray_b pc' hd hi hN hc1 hs1 ac_byte ?_ hp
  rw [LW_new]
  exact kk
theorem lw_new {index ci N : Nat} {fs : List Value} (pc' : Nat) (hd : decode M.2.1 pc = .ok (.new index, 3)) (F : zNew M.1.cls index ci N fs) (hc1 : k + 1 ≤ mc) (hs1 : n + N ≤ ms) (kk : Go l Γ M dp mc ms Φ Ψ (k + 1) (n + N) (LW w0 o (cs ++ [.inr (ci, fs)])) pc' L (.ref (o + cs.length) :: st)) (hp : pc + 3 = pc' := by rfl) : Go l Γ M dp mc ms Φ Ψ k n (LW w0 o cs) pc L st := by
  refine go_new pc' hd F hc1 hs1 ?_ hp
  rw [LW_new]
  exact kk
theorem lw_put {index ci j : Nat} {fs : List Value} {v : Value} {ty : FieldType} (i : Nat) (pc' : Nat) (hd : decode M.2.1 pc = .ok (.putfield index, 3)) (F : zFp M.1.cls index ci j ty) (hw : cs[i]? = some (.inr (ci, fs))) (hl9 : j < fs.length) (hn : narrow ty v = v) (hfit : fits ty v = true) (kk : Go l Γ M dp mc ms Φ Ψ k n (LW w0 o (cs.set i (.inr (ci, fs.set j v)))) pc' L st) (hp : pc + 3 = pc' := by rfl) : Go l Γ M dp mc ms Φ Ψ k n (LW w0 o cs) pc L (v :: .ref (o + i) :: st) := by
  refine go_put pc' hd F (LW_at hw) hl9 hn hfit ?_ hp
  rw [LW_set (List.getElem?_eq_some_iff.mp hw).1]
  exact kk
theorem lw_putF {index ci j : Nat} {fs : List Value} {v : Value} {ty : FieldType} (i : Nat) (pc' : Nat) (hd : decode M.2.1 pc = .ok (.putfield index, 3)) (F : zFf M.1.cls index ci j ty) (hin2 : M.1.name = "<init>") (hw : cs[i]? = some (.inr (ci, fs))) (hl9 : j < fs.length) (hn : narrow ty v = v) (hfit : fits ty v = true) (kk : Go l Γ M dp mc ms Φ Ψ k n (LW w0 o (cs.set i (.inr (ci, fs.set j v)))) pc' L st) (hp : pc + 3 = pc' := by rfl) : Go l Γ M dp mc ms Φ Ψ k n (LW w0 o cs) pc L (v :: .ref (o + i) :: st) := by
  refine go_putF pc' hd F hin2 (LW_at hw) hl9 hn hfit ?_ hp
  rw [LW_set (List.getElem?_eq_some_iff.mp hw).1]
  exact kk
theorem lw_get {index ci j : Nat} {fs : List Value} {v : Value} (i : Nat) (pc' : Nat) (hd : decode M.2.1 pc = .ok (.getfield index, 3)) (F : zF M.1.cls index ci j) (hw : cs[i]? = some (.inr (ci, fs))) (hv : fs[j]? = some v) (kk : Go l Γ M dp mc ms Φ Ψ k n (LW w0 o cs) pc' L (v :: st)) (hp : pc + 3 = pc' := by rfl) : Go l Γ M dp mc ms Φ Ψ k n (LW w0 o cs) pc L (.ref (o + i) :: st) := go_get pc' hd F (LW_at hw) hv kk hp
end
end MInit
