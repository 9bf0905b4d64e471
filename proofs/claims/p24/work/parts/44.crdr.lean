section CRdr
/-! the reader of a setup text: twelve cells from r on *)-/
/-- its numbers by their slots, its text, its exchange, its codes -/
abbrev RS : Type := (Nat → Int32) × ZD × ES × ZD
def rfs (r : Nat) (F : Nat → Int32) : List Value := [.ref (r + 1), .int (F 1), .ref (r + 2), .ref (r + 11), .int (F 4), .int (F 5), .int (F 6), .int (F 7), .int (F 8), .int (F 9), .int (F 10), .int (F 11), .int (F 12), .int (F 13), .int (F 14)]
def rcl (Γ : ZG) (r : Nat) (R : RS) (j : Nat) : va_E :=
  if j = 0 then .inr (3, rfs r R.1) else if j = 1 then .inl (Γ.2.2.1 1, 600, .inl R.2.1) else if j < 11 then ecell Γ (r + 2) R.2.2.1 (j - 2) else .inl (Γ.2.2.1 0, 600, .inl R.2.2.2)
def wZ (Γ : ZG) (w : ZW) (r : Nat) (R : RS) : ZW := (w.1, fun q => if r ≤ q ∧ q < r + 12 then some (rcl Γ r R (q - r)) else w.2 q)
def rF (R : RS) (j : Nat) (v : Int32) : RS := (upd R.1 j v, R.2)
def rE (R : RS) (E : ES) : RS := (R.1, R.2.1, E, R.2.2.2)
def rC (R : RS) (c : ZD) : RS := (R.1, R.2.1, R.2.2.1, c)
def rT (R : RS) (t : ZD) : RS := (R.1, t, R.2.2)
section
variable {Γ : ZG} {w : ZW} {r : Nat} {R R' : RS}
theorem wZ_at (j : Nat) (hj : j < 12) : (wZ Γ w r R).2 (r + j) = some (rcl Γ r R j) := by
  show (if r ≤ r + j ∧ r + j < r + 12 then some (rcl Γ r R (r + j - r)) else w.2 (r + j)) = _
  rw [if_pos ⟨by omega, by omega⟩, show r + j - r = j by omega]
theorem wZ_at0 : (wZ Γ w r R).2 r = some (.inr (3, rfs r R.1)) := wZ_at 0 (by decide)
theorem wZ_at1 : (wZ Γ w r R).2 (r + 1) = some (.inl (Γ.2.2.1 1, 600, .inl R.2.1)) := wZ_at 1 (by decide)
theorem wZ_at11 : (wZ Γ w r R).2 (r + 11) = some (.inl (Γ.2.2.1 0, 600, .inl R.2.2.2)) := wZ_at 11 (by decide)
theorem wZ_out {q : Nat} (h : q < r ∨ r + 12 ≤ q) : (wZ Γ w r R).2 q = w.2 q := if_neg (by omega)
theorem wZ_set {x : Nat} {c : va_E} (hx : x < 12) (he : rcl Γ r R' x = c) (ho : ∀ j, j < 12 → j ≠ x → rcl Γ r R' j = rcl Γ r R j) : wset (wZ Γ w r R) (r + x) c = wZ Γ w r R' := by
  refine Prod.ext rfl (funext fun q => ?_)
  show (if q = r + x then some c else if r ≤ q ∧ q < r + 12 then some (rcl Γ r R (q - r)) else w.2 q) = if r ≤ q ∧ q < r + 12 then some (rcl Γ r R' (q - r)) else w.2 q
  by_cases hq : q = r + x
  · rw [if_pos hq, if_pos ⟨by omega, by omega⟩, show q - r = x by omega, he]
  · rw [if_neg hq]
    by_cases hr : r ≤ q ∧ q < r + 12
    · rw [if_pos hr, if_pos hr, ho (q - r) (by omega) (by omega)]
    · rw [if_neg hr, if_neg hr]
theorem wZ_F {fs : List Value} {j : Nat} {v : Int32} (h : fs = rfs r (rF R j v).1) : wset (wZ Γ w r R) r (.inr (3, fs)) = wZ Γ w r (rF R j v) := by
  subst h
  refine wZ_set (x := 0) (by decide) rfl ?_
  intro j hj hne
  unfold rcl
  rw [if_neg hne, if_neg hne]
  rfl
theorem wZ_C {c : ZD} : wset (wZ Γ w r R) (r + 11) (.inl (Γ.2.2.1 0, 600, .inl c)) = wZ Γ w r (rC R c) := by
  refine wZ_set (x := 11) (by decide) rfl ?_
  intro j hj hne
  unfold rcl
  by_cases h0 : j = 0
  · rw [if_pos h0, if_pos h0]; rfl
  · rw [if_neg h0, if_neg h0]
    by_cases h1 : j = 1
    · rw [if_pos h1, if_pos h1]; rfl
    · rw [if_neg h1, if_neg h1, if_pos (by omega), if_pos (by omega)]; rfl
theorem wZ_T {t : ZD} : wset (wZ Γ w r R) (r + 1) (.inl (Γ.2.2.1 1, 600, .inl t)) = wZ Γ w r (rT R t) := by
  refine wZ_set (x := 1) (by decide) rfl ?_
  intro j hj hne
  unfold rcl
  by_cases h0 : j = 0
  · rw [if_pos h0, if_pos h0]; rfl
  · rw [if_neg h0, if_neg h0, if_neg hne, if_neg hne]
    rfl
/-- the reader's exchange, seen apart -/
theorem wZ_E {E : ES} : wE Γ (wZ Γ w r R) (r + 2) E = wZ Γ w r (rE R E) := by
  refine Prod.ext rfl (funext fun q => ?_)
  show (if r + 2 ≤ q ∧ q < r + 2 + 9 then some (ecell Γ (r + 2) E (q - (r + 2))) else if r ≤ q ∧ q < r + 12 then some (rcl Γ r R (q - r)) else w.2 q) = if r ≤ q ∧ q < r + 12 then some (rcl Γ r (rE R E) (q - r)) else w.2 q
  by_cases h : r + 2 ≤ q ∧ q < r + 2 + 9
  · rw [if_pos h, if_pos (by omega)]
    unfold rcl
    rw [if_neg (by omega), if_neg (by omega), if_pos (by omega), show q - r - 2 = q - (r + 2) by omega]
    rfl
  · rw [if_neg h]
    by_cases g : r ≤ q ∧ q < r + 12
    · rw [if_pos g, if_pos g]
      unfold rcl
      by_cases h0 : q - r = 0
      · rw [if_pos h0, if_pos h0]; rfl
      · rw [if_neg h0, if_neg h0]
        by_cases h1 : q - r = 1
        · rw [if_pos h1, if_pos h1]; rfl
        · rw [if_neg h1, if_neg h1, if_neg (by omega), if_neg (by omega)]; rfl
    · rw [if_neg g, if_neg g]
theorem wZ_self : wE Γ (wZ Γ w r R) (r + 2) R.2.2.1 = wZ Γ w r R := wZ_E
theorem rF_rF {j : Nat} {a b : Int32} : rF (rF R j a) j b = rF R j b := by
  refine Prod.ext (funext fun q => ?_) rfl
  show upd (upd R.1 j a) j b q = upd R.1 j b q
  by_cases h : q = j
  · subst h; rw [pk_us, pk_us]
  · rw [pk_un h, pk_un h, pk_un h]
end
section
variable {l : Launch} {Γ : ZG} {M : ZM} {dp mc ms : Nat} {Φ : Option Value → ZW → Prop} {Ψ : String → ZW → Prop} {k n : Nat} {w : ZW} {pc r : Nat} {L : ZL} {st : List Value} {R : RS}
theorem xs_get {index j : Nat} {v : Value} (pc' : Nat) (hd : decode M.2.1 pc = .ok (.getfield index, 3)) (F : zF M.1.cls index 3 j) (hv : (rfs r R.1)[j]? = some v) (kk : Go l Γ M dp mc ms Φ Ψ k n (wZ Γ w r R) pc' L (v :: st)) (hp : pc + 3 = pc' := by rfl) : Go l Γ M dp mc ms Φ Ψ k n (wZ Γ w r R) pc L (.ref r :: st) := go_get pc' hd F wZ_at0 hv kk hp
theorem rfs_set {j : Nat} {v : Int32} (hj : j = 1 ∨ (4 ≤ j ∧ j < 15)) : (rfs r R.1).set j (.int v) = rfs r (rF R j v).1 := by
  rcases (show j = 1 ∨ j = 4 ∨ j = 5 ∨ j = 6 ∨ j = 7 ∨ j = 8 ∨ j = 9 ∨ j = 10 ∨ j = 11 ∨ j = 12 ∨ j = 13 ∨ j = 14 by omega) with rfl | rfl | rfl | rfl | rfl | rfl | rfl | rfl | rfl | rfl | rfl | rfl <;> rfl
theorem xs_put {index : Nat} {v : Int32} {ty : FieldType} (j pc' : Nat) (hd : decode M.2.1 pc = .ok (.putfield index, 3)) (F : zFp M.1.cls index 3 j ty) (hj : j = 1 ∨ (4 ≤ j ∧ j < 15)) (hn : narrow ty (.int v) = .int v) (hf : fits ty (.int v) = true) (kk : Go l Γ M dp mc ms Φ Ψ k n (wZ Γ w r (rF R j v)) pc' L st) (hp : pc + 3 = pc' := by rfl) : Go l Γ M dp mc ms Φ Ψ k n (wZ Γ w r R) pc L (.int v :: .ref r :: st) := by
  refine go_put pc' hd F wZ_at0 (by show j < 15; omega) hn hf ?_ hp
  rw [wZ_F (rfs_set hj)]
  exact kk
end
theorem minStat : Cond.static Lib.Math.min.name ∈ zGood := zGood.mem 616 (by decide +kernel) rfl
theorem minCode : Cond.code Lib.Math.min.name Lib.Math.min.code 2 (some .int) ∈ zGood := zGood.mem 617 (by decide +kernel) rfl
theorem minIni : Cond.initialized "java/lang/Math" ∈ zGood := zGood.mem 57 (by decide +kernel) rfl
theorem gmX3_188 : Cond.methodLink RX3 188 Lib.Math.min.name ∈ zGood := zGood.mem 615 (by decide +kernel) rfl
theorem gmX1_29 : Cond.methodLink RX1 29 Lib.Math.min.name ∈ zGood := zGood.mem 768 (by decide +kernel) rfl
theorem gmJ7_304 : Cond.methodLink RJ7 304 Lib.Math.min.name ∈ zGood := zGood.mem 746 (by decide +kernel) rfl
theorem go_min {l : Launch} {Γ : ZG} {M : ZM} {dp mc ms : Nat} {Φ : Option Value → ZW → Prop} {Ψ : String → ZW → Prop} {k n : Nat} {w : ZW} {pc : Nat} {L : ZL} {st : List Value} {index : Nat} {x y : Int32} (pc' : Nat) (hd : decode M.2.1 pc = .ok (.invokestatic index, 3)) (hlk : Cond.methodLink M.1.cls index Lib.Math.min.name ∈ zGood) (hdp : 1 ≤ dp) (hk : k ≤ mc) (hn : n ≤ ms) (hst : (st.map fun v => v.category).sum ≤ 8) (kk : Go l Γ M dp mc ms Φ Ψ k n w pc' L (.int (if y < x then y else x) :: st)) (hp : pc + 3 = pc' := by rfl) : Go l Γ M dp mc ms Φ Ψ k n w pc L (.int y :: .int x :: st) := by
  subst hp
  intro p e s m args below meth c C H locs ls hl hH hS
  exact va_mmin C.1 C.2.1 (by rw [C.2.2.1]; exact hl.1.symm) C.own (C.good hlk) (C.good minStat) (C.good minIni) (C.good minCode) hdp (by show _ + 13 ≤ 64 * dp; omega) hk hn hd (kk p e s m args below meth c C H locs ls hl hH hS)
/-- the bytes of the text, as the class reads them -/
def BB (T : ZD) (n : Nat) : ZB := fun k => if k < n then T k &&& 255 else -1
def tk (B : ZB) (n q : Nat) : Nat := if isD B q = true then 2 else if isL B q = true then 1 else if q < n then 3 else 0
def ps (B : ZB) (n q : Nat) : Nat := if isD B q = true then ed B q else if isL B q = true then el B q else if q < n then q + 1 else q
/-- where the reader is: the token at q is read -/
def At (B : ZB) (n : Nat) (R : RS) (q : Nat) : Prop := R.1 8 = nI q ∧ R.1 7 = nI (tk B n q) ∧ R.1 6 = nI (ps B n q) ∧ (isD B q = true → R.1 9 = nI (min 100000 (valN B q)))
def T4 (R : RS) (a b c d : Int32) : RS := (fun j => if j = 6 then a else if j = 8 then b else if j = 7 then c else if j = 9 then d else R.1 j, R.2)
section
variable {R : RS} {a b c d x : Int32}
theorem T4_self : T4 R (R.1 6) (R.1 8) (R.1 7) (R.1 9) = R := by
  refine Prod.ext (funext fun j => ?_) rfl
  show (if j = 6 then R.1 6 else if j = 8 then R.1 8 else if j = 7 then R.1 7 else if j = 9 then R.1 9 else R.1 j) = R.1 j
  by_cases h : j = 6
  · rw [if_pos h, h]
  · rw [if_neg h]
    by_cases h : j = 8
    · rw [if_pos h, h]
    · rw [if_neg h]
      by_cases h : j = 7
      · rw [if_pos h, h]
      · rw [if_neg h]
        by_cases h : j = 9
        · rw [if_pos h, h]
        · rw [if_neg h]
theorem T4_6 : rF (T4 R a b c d) 6 x = T4 R x b c d := by
  refine Prod.ext (funext fun j => ?_) rfl
  show (if j = 6 then x else if j = 6 then a else _) = if j = 6 then x else _
  by_cases h : j = 6
  · rw [if_pos h, if_pos h]
  · rw [if_neg h, if_neg h, if_neg h]
theorem T4_8 : rF (T4 R a b c d) 8 x = T4 R a x c d := by
  refine Prod.ext (funext fun j => ?_) rfl
  show (if j = 8 then x else if j = 6 then a else if j = 8 then b else if j = 7 then c else if j = 9 then d else R.1 j) = if j = 6 then a else if j = 8 then x else if j = 7 then c else if j = 9 then d else R.1 j
  by_cases h : j = 8
  · subst h; rfl
  · rw [if_neg h, if_neg h, if_neg h]
theorem T4_7 : rF (T4 R a b c d) 7 x = T4 R a b x d := by
  refine Prod.ext (funext fun j => ?_) rfl
  show (if j = 7 then x else if j = 6 then a else if j = 8 then b else if j = 7 then c else if j = 9 then d else R.1 j) = if j = 6 then a else if j = 8 then b else if j = 7 then x else if j = 9 then d else R.1 j
  by_cases h : j = 7
  · subst h; rfl
  · rw [if_neg h, if_neg h, if_neg h]
theorem T4_9 : rF (T4 R a b c d) 9 x = T4 R a b c x := by
  refine Prod.ext (funext fun j => ?_) rfl
  show (if j = 9 then x else if j = 6 then a else if j = 8 then b else if j = 7 then c else if j = 9 then d else R.1 j) = if j = 6 then a else if j = 8 then b else if j = 7 then c else if j = 9 then x else R.1 j
  by_cases h : j = 9
  · subst h; rfl
  · rw [if_neg h, if_neg h, if_neg h]
end
/-- the token at q read -/
def tokR (B : ZB) (n : Nat) (R : RS) (q : Nat) : RS := T4 R (nI (ps B n q)) (nI q) (nI (tk B n q)) (if isD B q = true then nI (min 100000 (valN B q)) else R.1 9)
theorem tok_At {B : ZB} {n : Nat} {R : RS} {q : Nat} : At B n (tokR B n R q) q := ⟨rfl, rfl, rfl, fun h => by
  show (if isD B q = true then _ else _) = _
  rw [if_pos h]⟩
theorem tok_o {B : ZB} {n : Nat} {R : RS} {q j : Nat} (h : j ≠ 6 ∧ j ≠ 7 ∧ j ≠ 8 ∧ j ≠ 9) : (tokR B n R q).1 j = R.1 j := by
  show (if j = 6 then _ else if j = 8 then _ else if j = 7 then _ else if j = 9 then _ else R.1 j) = _
  rw [if_neg h.1, if_neg h.2.2.1, if_neg h.2.1, if_neg h.2.2.2]
theorem el_ge {B : ZB} {p : Nat} : p ≤ el B p := runW_ge _ _
theorem el_le {B : ZB} {n p : Nat} (h : TB B n) (hp : p ≤ n) : el B p ≤ n := runW_le (tb_l h) _ _ hp
theorem isL_ne {B : ZB} {p : Nat} (h : isL B p = true) : B p ≠ -1 := by
  intro q
  have := of_decide_eq_true h
  rw [q] at this
  exact absurd this.1 (by decide)
theorem ps_le {B : ZB} {n q : Nat} (h : TB B n) (hq : q ≤ n) : ps B n q ≤ n ∧ q ≤ ps B n q := by
  unfold ps
  split
  · exact ⟨ed_le h hq, ed_ge⟩
  · split
    · exact ⟨el_le h hq, el_ge⟩
    · split
      · omega
      · omega
theorem isDL {B : ZB} {q : Nat} (h : isD B q = true) : isL B q = false := by
  have := of_decide_eq_true h
  refine decide_eq_false fun z => ?_
  exact absurd (Int32.le_trans z.1 this.2) (by decide)
theorem nat_and255 {x : Int32} : 0 ≤ x &&& 255 := by
  have h := pk_and x (m := 255) 8 rfl
  rw [h]
  exact nI_pos' (by have := Nat.mod_lt x.toUInt32.toNat (show 0 < 2 ^ 8 by decide); omega)
set_option maxRecDepth 100000 in
set_option maxHeartbeats 4000000 in
theorem ct_X3_isDigit {l : Launch} {Γ : ZG} {w : ZW} {x : Int32} : Cm l Γ mX3_isDigit 1 [.int x] w (some (.int (zb (48 ≤ x ∧ x ≤ 57)))) w := by
  refine Cm.of (by decide) rfl (Nat.le_of_ble_eq_true rfl) ?_
  refine go_iload_n 1 dX3_isDigit_0 rfl ?_
  refine go_bipush 3 dX3_isDigit_1 zb_48 ?_
  refine go_icmp_lt 16 6 dX3_isDigit_3 (fun h3 => ?_) (fun h3 => ?_)
  · refine go_iconst 17 dX3_isDigit_16 zc_0 ?_
    exact go_zreturn dX3_isDigit_17 rfl (by omega) (by omega) (Or.inl rfl) (⟨by rw [zb_f (fun q => by first | exact absurd q.1 (Int32.not_le.mpr h3) | exact absurd q.2 (Int32.not_le.mpr h9))], rfl⟩)
  · refine go_iload_n 7 dX3_isDigit_6 rfl ?_
    refine go_bipush 9 dX3_isDigit_7 zb_57 ?_
    refine go_icmp_gt 16 12 dX3_isDigit_9 (fun h9 => ?_) (fun h9 => ?_)
    · refine go_iconst 17 dX3_isDigit_16 zc_0 ?_
      exact go_zreturn dX3_isDigit_17 rfl (by omega) (by omega) (Or.inl rfl) (⟨by rw [zb_f (fun q => by first | exact absurd q.1 (Int32.not_le.mpr h3) | exact absurd q.2 (Int32.not_le.mpr h9))], rfl⟩)
    · refine go_iconst 13 dX3_isDigit_12 zc_1 ?_
      refine go_goto 17 dX3_isDigit_13 ?_
      exact go_zreturn dX3_isDigit_17 rfl (by omega) (by omega) (Or.inr rfl) (⟨by rw [zb_t ⟨Int32.not_lt.mp h3, Int32.not_lt.mp h9⟩], rfl⟩)
set_option maxRecDepth 100000 in
set_option maxHeartbeats 4000000 in
theorem ct_X3_isLetter {l : Launch} {Γ : ZG} {w : ZW} {x : Int32} : Cm l Γ mX3_isLetter 1 [.int x] w (some (.int (zb (97 ≤ x ∧ x ≤ 122)))) w := by
  refine Cm.of (by decide) rfl (Nat.le_of_ble_eq_true rfl) ?_
  refine go_iload_n 1 dX3_isLetter_0 rfl ?_
  refine go_bipush 3 dX3_isLetter_1 zb_97 ?_
  refine go_icmp_lt 16 6 dX3_isLetter_3 (fun h3 => ?_) (fun h3 => ?_)
  · refine go_iconst 17 dX3_isLetter_16 zc_0 ?_
    exact go_zreturn dX3_isLetter_17 rfl (by omega) (by omega) (Or.inl rfl) (⟨by rw [zb_f (fun q => by first | exact absurd q.1 (Int32.not_le.mpr h3) | exact absurd q.2 (Int32.not_le.mpr h9))], rfl⟩)
  · refine go_iload_n 7 dX3_isLetter_6 rfl ?_
    refine go_bipush 9 dX3_isLetter_7 zb_122 ?_
    refine go_icmp_gt 16 12 dX3_isLetter_9 (fun h9 => ?_) (fun h9 => ?_)
    · refine go_iconst 17 dX3_isLetter_16 zc_0 ?_
      exact go_zreturn dX3_isLetter_17 rfl (by omega) (by omega) (Or.inl rfl) (⟨by rw [zb_f (fun q => by first | exact absurd q.1 (Int32.not_le.mpr h3) | exact absurd q.2 (Int32.not_le.mpr h9))], rfl⟩)
    · refine go_iconst 13 dX3_isLetter_12 zc_1 ?_
      refine go_goto 17 dX3_isLetter_13 ?_
      exact go_zreturn dX3_isLetter_17 rfl (by omega) (by omega) (Or.inr rfl) (⟨by rw [zb_t ⟨Int32.not_lt.mp h3, Int32.not_lt.mp h9⟩], rfl⟩)
set_option maxRecDepth 100000 in
set_option maxHeartbeats 4000000 in
theorem ct_X3_byteAt {l : Launch} {Γ : ZG} {w : ZW} {r : Nat} {R : RS} {B : ZB} {n : Nat} (hn : R.1 5 = nI n) (hB : BB R.2.1 n = B) (hT : TB B n) {k : Nat} {x : Int32} (hx : x = nI k) (hk : k < 5000) : Cm l Γ mX3_byteAt 1 [.ref r, .int x] (wZ Γ w r R) (some (.int (B k))) (wZ Γ w r R) := by
  have hn6 := hT.1
  refine Cm.of (by decide) rfl (Nat.le_of_ble_eq_true rfl) ?_
  refine go_iload_n 1 dX3_byteAt_0 rfl ?_
  refine go_if_lt 21 4 dX3_byteAt_1 (fun h1 => ?_) (fun h1 => ?_)
  · exact absurd h1 (by rw [hx]; exact nI_pos (by omega))
  · refine go_iload_n 5 dX3_byteAt_4 rfl ?_
    refine go_aload_n 6 dX3_byteAt_5 rfl ?_
    refine xs_get 9 dX3_byteAt_6 fX3_30 rfl ?_
    refine go_icmp_ge 21 12 dX3_byteAt_9 (fun h9 => ?_) (fun h9 => ?_)
    · have hk9 : ¬ k < n := fun q => by first | exact nI_ge q (by omega) (by rw [hx, hn] at h9; exact h9) | exact h18 (by rw [hx]; exact nI_lt (b := 600) (by omega) (by decide))
      refine go_iconst 22 dX3_byteAt_21 zc_m1 ?_
      exact go_ireturn dX3_byteAt_22 rfl (by omega) (by omega) (⟨by rw [← hB]; unfold BB; rw [if_neg hk9], rfl⟩)
    · refine go_iload_n 13 dX3_byteAt_12 rfl ?_
      refine go_aload_n 14 dX3_byteAt_13 rfl ?_
      refine xs_get 17 dX3_byteAt_14 fX3_9 rfl ?_
      refine go_alen (t0 := 1) (v := 600) 18 dX3_byteAt_17 wZ_at1 rfl rfl ?_
      refine go_icmp_lt 23 21 dX3_byteAt_18 (fun h18 => ?_) (fun h18 => ?_)
      · have hk9 : k < n := Nat.lt_of_not_le fun q => h9 (by rw [hx, hn]; exact nI_le q (by omega))
        refine go_aload_n 24 dX3_byteAt_23 rfl ?_
        refine xs_get 27 dX3_byteAt_24 fX3_9 rfl ?_
        refine go_iload_n 28 dX3_byteAt_27 rfl ?_
        refine go_bald 29 dX3_byteAt_28 wZ_at1 (by rw [hx]; exact vp_in_nI (N := 600) (by omega) (by omega)) ?_
        rw [hx, nI_clamp (by omega)]
        refine go_sipush 32 dX3_byteAt_29 zs_255 ?_
        refine go_iand 33 dX3_byteAt_32 ?_
        exact go_ireturn dX3_byteAt_33 rfl (by omega) (by omega) (⟨by rw [← hB]; unfold BB; rw [if_pos hk9], rfl⟩)
      · have hk9 : ¬ k < n := fun q => by first | exact nI_ge q (by omega) (by rw [hx, hn] at h9; exact h9) | exact h18 (by rw [hx]; exact nI_lt (b := 600) (by omega) (by decide))
        refine go_iconst 22 dX3_byteAt_21 zc_m1 ?_
        exact go_ireturn dX3_byteAt_22 rfl (by omega) (by omega) (⟨by rw [← hB]; unfold BB; rw [if_neg hk9], rfl⟩)
set_option maxRecDepth 100000 in
set_option maxHeartbeats 4000000 in
theorem lp_X3_space {l : Launch} {Γ : ZG} {w : ZW} {r : Nat} {R : RS} {B : ZB} {n : Nat} (hn : R.1 5 = nI n) (hB : BB R.2.1 n = B) (hT : TB B n) {Q : Nat} {b c d : Int32} {Φ : Option Value → ZW → Prop} (kk : Go l Γ mX3_nextToken 2 0 0 Φ zNo 0 0 (wZ Γ w r (T4 R (nI Q) b c d)) 37 [(0, .ref r)] []) : ∀ (f p : Nat), p + f = 601 → p ≤ n → runW (isSp B) f p = Q → Go l Γ mX3_nextToken 2 0 0 Φ zNo 0 0 (wZ Γ w r (T4 R (nI p) b c d)) 0 [(0, .ref r)] [] := by
  have hn6 := hT.1
  intro f
  induction f with
  | zero =>
    intro p h1 h2
    omega
  | succ f ih =>
    intro p hif hpn hq
    refine go_aload_n 1 dX3_nextToken_0 rfl ?_
    refine xs_get 4 dX3_nextToken_1 fX3_33 rfl ?_
    refine go_aload_n 5 dX3_nextToken_4 rfl ?_
    refine xs_get 8 dX3_nextToken_5 fX3_30 rfl ?_
    refine go_icmp_ge 37 11 dX3_nextToken_8 (fun h8 => ?_) (fun h8 => ?_)
    · have hsp : isSp B p = false := by
        first
        | exact decide_eq_false h21
        | (have e : p = n := by
            have h8b : nI n ≤ nI p := by rw [← hn]; exact h8
            have := (nI_leI (a := n) (b := p) (by omega) (by omega)).mp h8b
            omega
           rw [e]
           exact tb_sp hT)
      rw [runW_f hsp] at hq
      subst hq
      exact go_locals _ rfl kk
    · refine go_aload_n 12 dX3_nextToken_11 rfl ?_
      refine go_aload_n 13 dX3_nextToken_12 rfl ?_
      refine xs_get 16 dX3_nextToken_13 fX3_33 rfl ?_
      refine gcV1 19 dX3_nextToken_16 vX3_170 wZ_at0 rfl (ct_X3_byteAt (k := p) (R := T4 R _ _ _ _) hn hB hT rfl (by omega)) ?_
      refine go_bipush 21 dX3_nextToken_19 zb_32 ?_
      refine go_icmp_ne 37 24 dX3_nextToken_21 (fun h21 => ?_) (fun h21 => ?_)
      · have hsp : isSp B p = false := by
          first
          | exact decide_eq_false h21
          | (have e : p = n := by
              have h8b : nI n ≤ nI p := by rw [← hn]; exact h8
              have := (nI_leI (a := n) (b := p) (by omega) (by omega)).mp h8b
              omega
             rw [e]
             exact tb_sp hT)
        rw [runW_f hsp] at hq
        subst hq
        exact go_locals _ rfl kk
      · refine go_aload_n 25 dX3_nextToken_24 rfl ?_
        refine go_dup 26 dX3_nextToken_25 rfl ?_
        refine xs_get 29 dX3_nextToken_26 fX3_33 rfl ?_
        refine go_iconst 30 dX3_nextToken_29 zc_1 ?_
        refine go_iadd 31 dX3_nextToken_30 ?_
        refine xs_put 6 34 dX3_nextToken_31 pX3_33 (by decide) rfl rfl ?_
        rw [T4_6]
        refine go_goto 0 dX3_nextToken_34 ?_
        have hsp : isSp B p = true := decide_eq_true (by first | exact h21 | exact Classical.not_not.mp h21)
        have hlt : p < n := lt_of_B hT (by rw [of_decide_eq_true hsp]; decide)
        rw [runW_t hsp] at hq
        refine go_w (w' := wZ Γ w r (T4 R (nI (p + 1)) b c d)) (by rw [← nI_1]; rfl) ?_
        exact go_locals _ rfl (ih (p + 1) (by omega) (by omega) hq)
set_option maxRecDepth 100000 in
set_option maxHeartbeats 4000000 in
theorem lp_X3_letter {l : Launch} {Γ : ZG} {w : ZW} {r : Nat} {R : RS} {B : ZB} {n : Nat} (hn : R.1 5 = nI n) (hB : BB R.2.1 n = B) (hT : TB B n) {Q : Nat} {b c d : Int32} {Φ : Option Value → ZW → Prop} (kk : Go l Γ mX3_nextToken 2 0 0 Φ zNo 0 0 (wZ Γ w r (T4 R (nI Q) b c d)) 221 [(0, .ref r)] []) : ∀ (f p : Nat), p + f = 601 → p ≤ n → runW (isL B) f p = Q → Go l Γ mX3_nextToken 2 0 0 Φ zNo 0 0 (wZ Γ w r (T4 R (nI p) b c d)) 149 [(0, .ref r)] [] := by
  have hn6 := hT.1
  intro f
  induction f with
  | zero =>
    intro p h1 h2
    omega
  | succ f ih =>
    intro p hif hpn hq
    refine go_aload_n 150 dX3_nextToken_149 rfl ?_
    refine xs_get 153 dX3_nextToken_150 fX3_33 rfl ?_
    refine go_aload_n 154 dX3_nextToken_153 rfl ?_
    refine xs_get 157 dX3_nextToken_154 fX3_30 rfl ?_
    refine go_icmp_ge 221 160 dX3_nextToken_157 (fun h157 => ?_) (fun h157 => ?_)
    · have hsp : isL B p = false := by
        first
        | exact decide_eq_false (zb_0 h171)
        | exact decide_eq_false (zb_0 (Classical.not_not.mp h171))
        | (have e : p = n := by
            have h8b : nI n ≤ nI p := by rw [← hn]; exact h157
            have := (nI_leI (a := n) (b := p) (by omega) (by omega)).mp h8b
            omega
           rw [e]
           exact tb_l hT)
      rw [runW_f hsp] at hq
      subst hq
      exact go_locals _ rfl kk
    · refine go_aload_n 161 dX3_nextToken_160 rfl ?_
      refine go_aload_n 162 dX3_nextToken_161 rfl ?_
      refine xs_get 165 dX3_nextToken_162 fX3_33 rfl ?_
      refine gcV1 168 dX3_nextToken_165 vX3_170 wZ_at0 rfl (ct_X3_byteAt (k := p) (R := T4 R _ _ _ _) hn hB hT rfl (by omega)) ?_
      refine gcS1 171 dX3_nextToken_168 vX3_193 (ct_X3_isLetter) ?_
      refine go_if_eq 221 174 dX3_nextToken_171 (fun h171 => ?_) (fun h171 => ?_)
      · have hsp : isL B p = false := by
          first
          | exact decide_eq_false (zb_0 h171)
          | exact decide_eq_false (zb_0 (Classical.not_not.mp h171))
          | (have e : p = n := by
              have h8b : nI n ≤ nI p := by rw [← hn]; exact h157
              have := (nI_leI (a := n) (b := p) (by omega) (by omega)).mp h8b
              omega
             rw [e]
             exact tb_l hT)
        rw [runW_f hsp] at hq
        subst hq
        exact go_locals _ rfl kk
      · refine go_aload_n 175 dX3_nextToken_174 rfl ?_
        refine go_dup 176 dX3_nextToken_175 rfl ?_
        refine xs_get 179 dX3_nextToken_176 fX3_33 rfl ?_
        refine go_iconst 180 dX3_nextToken_179 zc_1 ?_
        refine go_iadd 181 dX3_nextToken_180 ?_
        refine xs_put 6 184 dX3_nextToken_181 pX3_33 (by decide) rfl rfl ?_
        rw [T4_6]
        refine go_goto 149 dX3_nextToken_184 ?_
        have hsp : isL B p = true := decide_eq_true (zb_1 h171)
        have hlt : p < n := lt_of_B hT (isL_ne hsp)
        rw [runW_t hsp] at hq
        refine go_w (w' := wZ Γ w r (T4 R (nI (p + 1)) b c d)) (by rw [← nI_1]; rfl) ?_
        exact go_locals _ rfl (ih (p + 1) (by omega) (by omega) hq)
set_option maxRecDepth 100000 in
set_option maxHeartbeats 4000000 in
theorem lp_X3_digit {l : Launch} {Γ : ZG} {w : ZW} {r : Nat} {R : RS} {B : ZB} {n : Nat} (hn : R.1 5 = nI n) (hB : BB R.2.1 n = B) (hT : TB B n) {Q V : Nat} {b c : Int32} {Φ : Option Value → ZW → Prop} (kk : Go l Γ mX3_nextToken 2 0 0 Φ zNo 0 0 (wZ Γ w r (T4 R (nI Q) b c (nI V))) 221 [(0, .ref r)] []) : ∀ (f p : Nat) (v : Nat), p + f = 601 → p ≤ n → v ≤ 100000 → vC 100000 B f p v = V → runW (isD B) f p = Q → Go l Γ mX3_nextToken 2 0 0 Φ zNo 0 0 (wZ Γ w r (T4 R (nI p) b c (nI v))) 71 [(0, .ref r)] [] := by
  have hn6 := hT.1
  intro f
  induction f with
  | zero =>
    intro p v h1 h2
    omega
  | succ f ih =>
    intro p v hif hpn hvm hV hq
    refine go_aload_n 72 dX3_nextToken_71 rfl ?_
    refine xs_get 75 dX3_nextToken_72 fX3_33 rfl ?_
    refine go_aload_n 76 dX3_nextToken_75 rfl ?_
    refine xs_get 79 dX3_nextToken_76 fX3_30 rfl ?_
    refine go_icmp_ge 221 82 dX3_nextToken_79 (fun h79 => ?_) (fun h79 => ?_)
    · have hsp : isD B p = false := by
        first
        | exact decide_eq_false (zb_0 h93)
        | exact decide_eq_false (zb_0 (Classical.not_not.mp h93))
        | (have e : p = n := by
            have h8b : nI n ≤ nI p := by rw [← hn]; exact h79
            have := (nI_leI (a := n) (b := p) (by omega) (by omega)).mp h8b
            omega
           rw [e]
           exact tb_d hT)
      rw [runW_f hsp] at hq
      have hv : v = V := by
        rw [← hV]
        unfold vC
        rw [if_neg (by rw [hsp]; decide)]
      subst hq
      subst hv
      exact go_locals _ rfl kk
    · refine go_aload_n 83 dX3_nextToken_82 rfl ?_
      refine go_aload_n 84 dX3_nextToken_83 rfl ?_
      refine xs_get 87 dX3_nextToken_84 fX3_33 rfl ?_
      refine gcV1 90 dX3_nextToken_87 vX3_170 wZ_at0 rfl (ct_X3_byteAt (k := p) (R := T4 R _ _ _ _) hn hB hT rfl (by omega)) ?_
      refine gcS1 93 dX3_nextToken_90 vX3_183 (ct_X3_isDigit) ?_
      refine go_if_eq 221 96 dX3_nextToken_93 (fun h93 => ?_) (fun h93 => ?_)
      · have hsp : isD B p = false := by
          first
          | exact decide_eq_false (zb_0 h93)
          | exact decide_eq_false (zb_0 (Classical.not_not.mp h93))
          | (have e : p = n := by
              have h8b : nI n ≤ nI p := by rw [← hn]; exact h79
              have := (nI_leI (a := n) (b := p) (by omega) (by omega)).mp h8b
              omega
             rw [e]
             exact tb_d hT)
        rw [runW_f hsp] at hq
        have hv : v = V := by
          rw [← hV]
          unfold vC
          rw [if_neg (by rw [hsp]; decide)]
        subst hq
        subst hv
        exact go_locals _ rfl kk
      · have hdg : isD B p = true := decide_eq_true (zb_1 h93)
        have hlt : p < n := lt_of_B hT (isD_ne hdg)
        obtain ⟨dg, d1, d2, d3⟩ := byte_dig (of_decide_eq_true hdg)
        refine go_aload_n 97 dX3_nextToken_96 rfl ?_
        refine go_bipush 99 dX3_nextToken_97 zb_10 ?_
        refine go_aload_n 100 dX3_nextToken_99 rfl ?_
        refine xs_get 103 dX3_nextToken_100 fX3_167 rfl ?_
        refine go_imul 104 dX3_nextToken_103 ?_
        refine go_aload_n 105 dX3_nextToken_104 rfl ?_
        refine go_aload_n 106 dX3_nextToken_105 rfl ?_
        refine xs_get 109 dX3_nextToken_106 fX3_33 rfl ?_
        refine gcV1 112 dX3_nextToken_109 vX3_170 wZ_at0 rfl (ct_X3_byteAt (k := p) (R := T4 R _ _ _ _) hn hB hT rfl (by omega)) ?_
        refine go_iadd 113 dX3_nextToken_112 ?_
        refine go_bipush 115 dX3_nextToken_113 zb_48 ?_
        refine go_isub 116 dX3_nextToken_115 ?_
        rw [show (T4 R (nI p) b c (nI v)).1 9 = nI v from rfl, d2, show (10 : Int32) = nI 10 from rfl, pk_mul, nI_add, show nI (10 * v + (48 + dg)) - 48 = nI (10 * v + dg) by
            rw [show 10 * v + (48 + dg) = (10 * v + dg) + 48 by omega, ← nI_add]
            exact Int32.add_sub_cancel _ _]
        refine go_ldc 118 dX3_nextToken_116 ciX3_187 ?_
        refine go_min 121 dX3_nextToken_118 gmX3_188 (by decide) (by omega) (by omega) (by exact Nat.le_of_ble_eq_true rfl) ?_
        rw [show (if (100000 : Int32) < nI (10 * v + dg) then (100000 : Int32) else nI (10 * v + dg)) = nI (min 100000 (10 * v + dg)) by
            by_cases hx : (100000 : Int32) < nI (10 * v + dg)
            · rw [if_pos hx, Nat.min_eq_left (Nat.le_of_lt ((nI_ltI (a := 100000) (by decide) (by omega)).mp hx))]
              rfl
            · rw [if_neg hx, Nat.min_eq_right (Nat.le_of_not_lt fun z => hx (nI_lt (a := 100000) z (by omega)))]]
        refine xs_put 9 124 dX3_nextToken_121 pX3_167 (by decide) rfl rfl ?_
        rw [T4_9]
        refine go_aload_n 125 dX3_nextToken_124 rfl ?_
        refine go_dup 126 dX3_nextToken_125 rfl ?_
        refine xs_get 129 dX3_nextToken_126 fX3_33 rfl ?_
        refine go_iconst 130 dX3_nextToken_129 zc_1 ?_
        refine go_iadd 131 dX3_nextToken_130 ?_
        refine xs_put 6 134 dX3_nextToken_131 pX3_33 (by decide) rfl rfl ?_
        rw [T4_6]
        refine go_goto 71 dX3_nextToken_134 ?_
        refine go_w (w' := wZ Γ w r (T4 R (nI (p + 1)) b c (nI (min 100000 (10 * v + dg))))) (by rw [← nI_1]; rfl) ?_
        rw [runW_t hdg] at hq
        unfold vC at hV
        rw [if_pos hdg, d3] at hV
        exact go_locals _ rfl (ih (p + 1) (min 100000 (10 * v + dg)) (by omega) (by omega) (by omega) hV hq)
set_option maxRecDepth 100000 in
set_option maxHeartbeats 4000000 in
theorem ct_X3_nextToken {l : Launch} {Γ : ZG} {w : ZW} {r : Nat} {R : RS} {B : ZB} {n : Nat} (hn : R.1 5 = nI n) (hB : BB R.2.1 n = B) (hT : TB B n) {p : Nat} (hp : R.1 6 = nI p) (hpn : p ≤ n) : Cm l Γ mX3_nextToken 2 [.ref r] (wZ Γ w r R) none (wZ Γ w r (tokR B n R (sp B p))) := by
  have hn6 := hT.1
  have hsn := sp_le hT hpn
  refine Cm.of (by decide) rfl (Nat.le_of_ble_eq_true rfl) ?_
  refine go_w (show wZ Γ w r R = wZ Γ w r (T4 R (nI p) (R.1 8) (R.1 7) (R.1 9)) by rw [← hp, T4_self]) ?_
  refine go_locals _ rfl (lp_X3_space hn hB hT (Q := sp B p) ?_ (601 - p) p (by omega) hpn rfl)
  refine go_aload_n 38 dX3_nextToken_37 rfl ?_
  refine go_aload_n 39 dX3_nextToken_38 rfl ?_
  refine xs_get 42 dX3_nextToken_39 fX3_33 rfl ?_
  refine xs_put 8 45 dX3_nextToken_42 pX3_164 (by decide) rfl rfl ?_
  rw [T4_8]
  refine go_aload_n 46 dX3_nextToken_45 rfl ?_
  refine go_aload_n 47 dX3_nextToken_46 rfl ?_
  refine xs_get 50 dX3_nextToken_47 fX3_33 rfl ?_
  refine gcV1 53 dX3_nextToken_50 vX3_170 wZ_at0 rfl (ct_X3_byteAt (k := sp B p) (R := T4 R _ _ _ _) hn hB hT rfl (by omega)) ?_
  refine go_istore_n 54 dX3_nextToken_53 (by decide) ?_
  refine go_iload_n 55 dX3_nextToken_54 rfl ?_
  refine gcS1 58 dX3_nextToken_55 vX3_183 (ct_X3_isDigit) ?_
  refine go_if_eq 137 61 dX3_nextToken_58 (fun h58 => ?_) (fun h58 => ?_)
  · have hdg : isD B (sp B p) = false := decide_eq_false (zb_0 (by first | exact h58 | exact Classical.not_not.mp h58))
    refine go_iload_n 138 dX3_nextToken_137 rfl ?_
    refine gcS1 141 dX3_nextToken_138 vX3_193 (ct_X3_isLetter) ?_
    refine go_if_eq 187 144 dX3_nextToken_141 (fun h141 => ?_) (fun h141 => ?_)
    · have hlt : isL B (sp B p) = false := decide_eq_false (zb_0 (by first | exact h141 | exact Classical.not_not.mp h141))
      refine go_aload_n 188 dX3_nextToken_187 rfl ?_
      refine xs_get 191 dX3_nextToken_188 fX3_33 rfl ?_
      refine go_aload_n 192 dX3_nextToken_191 rfl ?_
      refine xs_get 195 dX3_nextToken_192 fX3_30 rfl ?_
      refine go_icmp_ge 216 198 dX3_nextToken_195 (fun h195 => ?_) (fun h195 => ?_)
      · have hq9 : ¬ sp B p < n := fun z => by
          have e : R.1 5 ≤ nI (sp B p) := h195
          rw [hn] at e
          exact nI_ge z (by omega) e
        refine go_aload_n 217 dX3_nextToken_216 rfl ?_
        refine go_iconst 218 dX3_nextToken_217 zc_0 ?_
        refine xs_put 7 221 dX3_nextToken_218 pX3_75 (by decide) rfl rfl ?_
        rw [T4_7]
        refine go_w ?_ (go_return dX3_nextToken_221 rfl (by omega) (by omega) ⟨rfl, rfl⟩)
        unfold tokR ps tk
        first
        | (rw [if_neg (by rw [hdg]; decide), if_neg (by rw [hlt]; decide), if_pos (show sp B p < n from hq9), if_neg (by rw [hdg]; decide), if_neg (by rw [hlt]; decide), if_pos (show sp B p < n from hq9), if_neg (by rw [hdg]; decide), ← nI_1]; rfl)
        | (rw [if_neg (by rw [hdg]; decide), if_neg (by rw [hlt]; decide), if_neg (show ¬ sp B p < n from hq9), if_neg (by rw [hdg]; decide), if_neg (by rw [hlt]; decide), if_neg (show ¬ sp B p < n from hq9), if_neg (by rw [hdg]; decide)]; rfl)
      · have hq9 : sp B p < n := Nat.lt_of_not_le fun z => h195 (by
          have e : nI n ≤ nI (sp B p) := nI_le z (by omega)
          rw [← hn] at e
          exact e)
        refine go_aload_n 199 dX3_nextToken_198 rfl ?_
        refine go_iconst 200 dX3_nextToken_199 zc_3 ?_
        refine xs_put 7 203 dX3_nextToken_200 pX3_75 (by decide) rfl rfl ?_
        rw [T4_7]
        refine go_aload_n 204 dX3_nextToken_203 rfl ?_
        refine go_dup 205 dX3_nextToken_204 rfl ?_
        refine xs_get 208 dX3_nextToken_205 fX3_33 rfl ?_
        refine go_iconst 209 dX3_nextToken_208 zc_1 ?_
        refine go_iadd 210 dX3_nextToken_209 ?_
        refine xs_put 6 213 dX3_nextToken_210 pX3_33 (by decide) rfl rfl ?_
        rw [T4_6]
        refine go_goto 221 dX3_nextToken_213 ?_
        refine go_w ?_ (go_return dX3_nextToken_221 rfl (by omega) (by omega) ⟨rfl, rfl⟩)
        unfold tokR ps tk
        first
        | (rw [if_neg (by rw [hdg]; decide), if_neg (by rw [hlt]; decide), if_pos (show sp B p < n from hq9), if_neg (by rw [hdg]; decide), if_neg (by rw [hlt]; decide), if_pos (show sp B p < n from hq9), if_neg (by rw [hdg]; decide), ← nI_1]; rfl)
        | (rw [if_neg (by rw [hdg]; decide), if_neg (by rw [hlt]; decide), if_neg (show ¬ sp B p < n from hq9), if_neg (by rw [hdg]; decide), if_neg (by rw [hlt]; decide), if_neg (show ¬ sp B p < n from hq9), if_neg (by rw [hdg]; decide)]; rfl)
    · have hlt : isL B (sp B p) = true := decide_eq_true (zb_1 h141)
      refine go_aload_n 145 dX3_nextToken_144 rfl ?_
      refine go_iconst 146 dX3_nextToken_145 zc_1 ?_
      refine xs_put 7 149 dX3_nextToken_146 pX3_75 (by decide) rfl rfl ?_
      rw [T4_7]
      refine go_locals _ rfl (lp_X3_letter hn hB hT (Q := el B (sp B p)) ?_ (601 - sp B p) (sp B p) (by omega) hsn rfl)
      refine go_w ?_ (go_return dX3_nextToken_221 rfl (by omega) (by omega) ⟨rfl, rfl⟩)
      unfold tokR ps tk
      rw [if_neg (by rw [hdg]; decide), if_pos hlt, if_neg (by rw [hdg]; decide), if_pos hlt, if_neg (by rw [hdg]; decide)]
      rfl
  · have hdg : isD B (sp B p) = true := decide_eq_true (zb_1 h58)
    refine go_aload_n 62 dX3_nextToken_61 rfl ?_
    refine go_iconst 63 dX3_nextToken_62 zc_2 ?_
    refine xs_put 7 66 dX3_nextToken_63 pX3_75 (by decide) rfl rfl ?_
    rw [T4_7]
    refine go_aload_n 67 dX3_nextToken_66 rfl ?_
    refine go_iconst 68 dX3_nextToken_67 zc_0 ?_
    refine xs_put 9 71 dX3_nextToken_68 pX3_167 (by decide) rfl rfl ?_
    rw [T4_9]
    refine go_locals _ rfl (lp_X3_digit hn hB hT (Q := ed B (sp B p)) (V := min 100000 (valN B (sp B p))) ?_ (601 - sp B p) (sp B p) 0 (by omega) hsn (by decide) (by have := vC_eq (cap := 100000) (B := B) (601 - sp B p) (sp B p) 0; exact this) rfl)
    refine go_w ?_ (go_return dX3_nextToken_221 rfl (by omega) (by omega) ⟨rfl, rfl⟩)
    unfold tokR ps tk
    rw [if_pos hdg, if_pos hdg, if_pos hdg]
    rfl
end CRdr
