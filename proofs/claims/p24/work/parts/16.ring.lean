/-! ring expressions: the class's codes, the reference's, what they are worth; making legs -/
def mkG (k : Nat) (c ce : Int32) (D : ZD) : ZD := upd (dropD (setL (setL (setL D k 0 c) k 1 ce) k 2 0) k) 6 ((dropD (setL (setL (setL D k 0 c) k 1 ce) k 2 0) k) 6 + 1)
noncomputable def mkF (E : Prop) (k : Nat) (c ce : Int32) (D : ZD) : ZD := @ite _ E (Classical.propDecidable _) (endD (mkG k c ce D) k 1) (mkG k c ce D)
def zeroL (D : ZD) (k : Nat) : ZD := itr (fun j D => setL D k j 0) 0 13 D
noncomputable def mkD (D : ZD) (c ce : Int32) : ZD := mkF (eng D ce) (nL D) c ce (zeroL D (nL D))
/-- a code of the class as the reference's codes -/
def enc (c : Int32) : List Int32 := if 0 ≤ c then [0, c] else if -4 ≤ c then [1, -1 - c] else [-3 - c]
def okc (c : Int32) : Prop := (0 ≤ c ∧ c ≤ 9999) ∨ c = -1 ∨ c = -2 ∨ c = -3 ∨ c = -4 ∨ c = -5 ∨ c = -6 ∨ c = -7 ∨ c = -8
def isop (c : Int32) : Prop := c ≤ -5
def encs (cs : List Int32) : List Int32 := cs.flatMap enc
/-- the codes from i on are those of cs -/
def codesAt (D : ZD) (i : Nat) (cs : List Int32) : Prop := ∀ j, j < (encs cs).length → D (666 + (i + j)) = (encs cs).getD j 0
/-- an expression behind d values leaves one, and never more than 11 -/
def wfd : List Int32 → Nat → Prop
  | [], d => d = 1
  | c :: cs, d => okc c ∧ ((isop c ∧ 2 ≤ d ∧ wfd cs (d - 1)) ∨ (¬ isop c ∧ d < 11 ∧ wfd cs (d + 1)))
def lim (v : Int64) : Int64 := if lg_cmp v 1000000 ≤ 0 then (if 0 ≤ lg_cmp v (-1000000) then v else -1000000) else 1000000
def opv (c : Int32) (a b : Int64) : Int64 := if c = -8 then (if lg_cmp b 0 = 0 then 0 else a / b) else lim (if c = -5 then a + b else if c = -6 then a - b else a * b)
def evv (lg cl rf tm c : Int32) : Int32 := if 0 ≤ c then c else if c = -1 then lg else if c = -2 then cl else if c = -3 then rf else tm
def ev1 (lg cl rf tm c : Int32) (vs : List Int64) : List Int64 := if c ≤ -5 then (match vs with
  | b :: a :: r => opv c a b :: r
  | _ => vs) else (evv lg cl rf tm c).toInt64 :: vs
def evs (lg cl rf tm : Int32) : List Int32 → List Int64 → List Int64
  | [], vs => vs
  | c :: cs, vs => evs lg cl rf tm cs (ev1 lg cl rf tm c vs)
def rtv (x : Int64) : Int32 := if 0 ≤ lg_cmp x 1 then (if lg_cmp x 99 ≤ 0 then x.toInt32 else 99) else 1
/-- the ring time -/
def ringV (lg cl rf tm : Int32) (cs : List Int32) : Int32 := if cs = [] then 30 else rtv ((evs lg cl rf tm cs []).getD 0 0)
def RC (D : ZD) (cs : List Int32) : Prop := D 8 = nI (encs cs).length ∧ (encs cs).length ≤ 1000 ∧ codesAt D 0 cs ∧ (cs = [] ∨ wfd cs 0)
theorem encs_cons (c : Int32) (cs : List Int32) : encs (c :: cs) = enc c ++ encs cs := rfl
def stkOK (f : Nat → Int64) : List Int64 → Prop
  | [] => True
  | b :: r => f r.length = b ∧ stkOK f r
theorem stkOK_up {f : Nat → Int64} {m : Nat} {v : Int64} : ∀ {vs : List Int64}, vs.length ≤ m → stkOK f vs → stkOK (vp_updL f m v) vs
  | [], _, _ => trivial
  | b :: r, h, h2 => ⟨(if_neg (by have : (b :: r).length = r.length + 1 := rfl; omega)).trans h2.1, stkOK_up (by have : (b :: r).length = r.length + 1 := rfl; omega) h2.2⟩
theorem stkOK_push {f : Nat → Int64} {v : Int64} {vs : List Int64} (h : stkOK f vs) : stkOK (vp_updL f vs.length v) (v :: vs) := ⟨if_pos rfl, stkOK_up (Nat.le_refl _) h⟩
theorem codesAt_0 {D : ZD} {i : Nat} {c : Int32} {cs : List Int32} (h : codesAt D i (c :: cs)) {v : Int32} (hv : (enc c).head? = some v) : D (666 + i) = v := by
  have hne : (enc c).length ≠ 0 := by intro e; rw [List.length_eq_zero_iff.mp e] at hv; cases hv
  have h0 := h 0 (by rw [encs_cons, List.length_append]; omega)
  rw [Nat.add_zero] at h0
  rw [h0, encs_cons]
  cases he : enc c with
  | nil => rw [he] at hv; cases hv
  | cons a r => rw [he] at hv; cases hv; rfl
theorem codesAt_s {D : ZD} {i : Nat} {c : Int32} {cs : List Int32} (h : codesAt D i (c :: cs)) {n : Nat} (hn : (enc c).length = n) : codesAt D (i + n) cs := by
  intro j hj
  have h0 := h (n + j) (by rw [encs_cons, List.length_append]; omega)
  rw [show i + n + j = i + (n + j) by omega, h0, encs_cons]
  simp only [List.getD_eq_getElem?_getD]
  rw [List.getElem?_append_right (by omega), hn, Nat.add_sub_cancel_left]
theorem enc_lit {c : Int32} (h : 0 ≤ c) : enc c = [0, c] := if_pos h
theorem codesAt_1 {D : ZD} {i : Nat} {c a b : Int32} {cs : List Int32} (h : codesAt D i (c :: cs)) (he : enc c = [a, b]) : D (666 + (i + 1)) = b := by
  have h0 := h 1 (by rw [encs_cons, List.length_append, he]; simp; omega)
  rw [h0, encs_cons, he]
  rfl
def bitOf (x : Int32) (k : Nat) : Int32 := (x >>> (nI k &&& 31)) &&& 1
def bcnt (x : Int32) : Nat → Nat → Int32 → Int32
  | _, 0, a => a
  | k, f + 1, a => bcnt x (k + 1) f (a + bitOf x k)
def bN (x : Int32) : Nat → Nat → Nat
  | _, 0 => 0
  | k, f + 1 => (if bitOf x k = 1 then 1 else 0) + bN x (k + 1) f
theorem bit01 (x : Int32) (k : Nat) : bitOf x k = 0 ∨ bitOf x k = 1 := by
  have h := pk_and (x >>> (nI k &&& 31)) (m := 1) 1 rfl
  unfold bitOf
  rw [h]
  rcases Nat.mod_two_eq_zero_or_one (x >>> (nI k &&& 31)).toBitVec.toNat with e | e
  · left; rw [show 2 ^ 1 = 2 from rfl, e]; rfl
  · right; rw [show 2 ^ 1 = 2 from rfl, e]; rfl
theorem bcnt_eq {x : Int32} : ∀ (f k a : Nat), bcnt x k f (nI a) = nI (a + bN x k f)
  | 0, _, a => rfl
  | f + 1, k, a => by
    show bcnt x (k + 1) f (nI a + bitOf x k) = nI (a + ((if bitOf x k = 1 then 1 else 0) + bN x (k + 1) f))
    rcases bit01 x k with h | h
    · rw [h, if_neg (by decide), show nI a + 0 = nI a from Int32.add_zero _, bcnt_eq f (k + 1) a]
      congr 1; omega
    · rw [h, if_pos rfl, show nI a + 1 = nI (a + 1) from nI_1 a, bcnt_eq f (k + 1) (a + 1)]
      congr 1; omega
/-- a call's row is laid -/
def newC (D : ZD) (p rv ref : Int32) : ZD := upd (setC (setC (setC (setC (setC D (nC D) 0 p) (nC D) 1 ((setC D (nC D) 0 p) 0)) (nC D) 2 rv) (nC D) 3 ref) (nC D) 4 (-1)) 5 ((setC (setC (setC (setC (setC D (nC D) 0 p) (nC D) 1 ((setC D (nC D) 0 p) 0)) (nC D) 2 rv) (nC D) 3 ref) (nC D) 4 (-1)) 5 + 1)
noncomputable def bStep (x c : Int32) (k : Nat) (D : ZD) : ZD := if bitOf x k = 1 then mkD D c (nI k) else D
noncomputable def begB (D : ZD) (p x rv ref : Int32) : ZD := itr (bStep x (nI (nC D))) 0 10 (newC D p rv ref)
noncomputable def begN (D : ZD) (p x rv ref : Int32) : Int32 := zcnt (fun k => dL (begB D p x rv ref) k 2 = 0) (nL D) (bN x 0 10) 0
noncomputable def begD (D : ZD) (p x rv ref : Int32) : ZD := if begN D p x rv ref = 0 then failD (begB D p x rv ref) (nC D) else begB D p x rv ref
def Row (k : Nat) (D D' : ZD) : Prop := ∀ i, (i < 146 + 13 * k ∨ 159 + 13 * k ≤ i) → D' i = D i
theorem Row.trans {k : Nat} {D D' D'' : ZD} (h : Row k D D') (h2 : Row k D' D'') : Row k D D'' := fun i hi => (h2 i hi).trans (h i hi)
theorem row_setL {k j : Nat} {D : ZD} {v : Int32} (hj : j < 13) : Row k D (setL D k j v) := fun i hi => if_neg (by omega)
theorem row_zero {k : Nat} : ∀ (f j : Nat) (D D' : ZD), j + f ≤ 13 → Row k D D' → Row k D (itr (fun j D => setL D k j 0) j f D')
  | 0, _, _, _, _, h => h
  | f + 1, j, D, D', hf, h => row_zero f (j + 1) D (setL D' k j 0) (by omega) (h.trans (row_setL (by omega)))
theorem row_drop {k : Nat} {D : ZD} : Row k D (dropD D k) := ((row_setL (by decide)).trans (row_setL (by decide))).trans (row_setL (by decide))
theorem row_end {k : Nat} {D : ZD} {r : Int32} : Row k D (endD D k r) := ((row_setL (by decide)).trans (row_setL (by decide))).trans row_drop
/-- behind makeLeg: one leg more, with this call and this callee; all else as it was -/
theorem mk_what {D : ZD} {c ce : Int32} (hL : nL D < 40) : (∀ i, i ≠ 6 → (i < 146 + 13 * nL D ∨ 159 + 13 * nL D ≤ i) → mkD D c ce i = D i) ∧ mkD D c ce 6 = D 6 + 1 ∧ dL (mkD D c ce) (nL D) 0 = c ∧ dL (mkD D c ce) (nL D) 1 = ce := by
  have hr : Row (nL D) D (dropD (setL (setL (setL (zeroL D (nL D)) (nL D) 0 c) (nL D) 1 ce) (nL D) 2 0) (nL D)) := ((((row_zero 13 0 D D (by decide) (fun _ _ => rfl)).trans (row_setL (by decide))).trans (row_setL (by decide))).trans (row_setL (by decide))).trans row_drop
  have g1 : ∀ i, i ≠ 6 → (i < 146 + 13 * nL D ∨ 159 + 13 * nL D ≤ i) → mkG (nL D) c ce (zeroL D (nL D)) i = D i := fun i hi h => (if_neg hi).trans (hr i h)
  have g2 : mkG (nL D) c ce (zeroL D (nL D)) 6 = D 6 + 1 := by
    unfold mkG
    rw [pk_us, hr 6 (by omega)]
  have g3 : dL (mkG (nL D) c ce (zeroL D (nL D))) (nL D) 0 = c := by
    refine (if_neg (by omega)).trans ?_
    show dL (setL (setL (setL (setL (setL (setL _ (nL D) 0 c) (nL D) 1 ce) (nL D) 2 0) (nL D) 6 (-1)) (nL D) 9 (-1)) (nL D) 10 (-1)) (nL D) 0 = c
    rw [dL_setLn (by omega), dL_setLn (by omega), dL_setLn (by omega), dL_setLn (by omega), dL_setLn (by omega), dL_setL]
  have g4 : dL (mkG (nL D) c ce (zeroL D (nL D))) (nL D) 1 = ce := by
    refine (if_neg (by omega)).trans ?_
    show dL (setL (setL (setL (setL (setL (setL _ (nL D) 0 c) (nL D) 1 ce) (nL D) 2 0) (nL D) 6 (-1)) (nL D) 9 (-1)) (nL D) 10 (-1)) (nL D) 1 = ce
    rw [dL_setLn (by omega), dL_setLn (by omega), dL_setLn (by omega), dL_setLn (by omega), dL_setL]
  have he : Row (nL D) (mkG (nL D) c ce (zeroL D (nL D))) (endD (mkG (nL D) c ce (zeroL D (nL D))) (nL D) 1) := row_end
  have hs : Same (mkG (nL D) c ce (zeroL D (nL D))) (endD (mkG (nL D) c ce (zeroL D (nL D))) (nL D) 1) := sm_end_
  unfold mkD mkF
  split
  · exact ⟨fun i hi h => (he i h).trans (g1 i hi h), (hs.low (by decide)).trans g2, (hs.L (by decide)).trans g3, (hs.L (by decide)).trans g4⟩
  · exact ⟨g1, g2, g3, g4⟩
theorem nI_tN {v : Int32} {n : Nat} (h : v = nI n) (hn : n < 2 ^ 31) : v.toNatClampNeg = n := by rw [h, nI_clamp hn]
theorem mk_Iv {D : ZD} {c q : Nat} (hI : Iv D) (hL : nL D < 40) (hc : c < nC D) (hq : q < nP D) : Iv (mkD D (nI c) (nI q)) ∧ nL (mkD D (nI c) (nI q)) = nL D + 1 ∧ nC (mkD D (nI c) (nI q)) = nC D ∧ nP (mkD D (nI c) (nI q)) = nP D := by
  obtain ⟨w1, w2, w3, w4⟩ := mk_what (c := nI c) (ce := nI q) hL
  generalize mkD D (nI c) (nI q) = D' at w1 w2 w3 w4 ⊢
  obtain ⟨⟨⟨a1, a2⟩, ⟨b1, b2⟩, ⟨c1, c2⟩, d1⟩, e1, f1, g1⟩ := hI
  have low : ∀ i, i < 146 → i ≠ 6 → D' i = D i := fun i hi h6 => w1 i h6 (by omega)
  have hP : nP D' = nP D := by unfold nP; rw [low 4 (by decide) (by decide)]
  have hC : nC D' = nC D := by unfold nC; rw [low 5 (by decide) (by decide)]
  have h6 : D' 6 = nI (nL D + 1) := by rw [w2, c1, nI_1]
  have hL' : nL D' = nL D + 1 := nI_tN h6 (by omega)
  have old : ∀ k j, k < nL D → j < 13 → dL D' k j = dL D k j := fun k j hk hj => w1 _ (by omega) (by omega)
  have oldC : ∀ k j, k < 20 → j < 5 → dC D' k j = dC D k j := fun k j hk hj => low _ (by omega) (by omega)
  have hk' : ∀ k, k < nL D' → k < nL D ∨ k = nL D := fun k hk => by omega
  refine ⟨⟨⟨⟨?_, ?_⟩, ⟨?_, ?_⟩, ⟨?_, ?_⟩, fun k hk => ?_⟩, fun x hx => ?_, fun k hk => ?_, fun x hx => ?_⟩, hL', hC, hP⟩
  · rw [hP, low 4 (by decide) (by decide)]; exact a1
  · rw [hP]; exact a2
  · rw [hC, low 5 (by decide) (by decide)]; exact b1
  · rw [hC]; exact b2
  · rw [hL']; exact h6
  · omega
  · rw [hC]
    rcases hk' k hk with h | h
    · unfold ofN
      rw [old k 0 h (by decide)]
      exact d1 k h
    · subst h
      unfold ofN
      rw [w3, nI_clamp (by omega)]
      exact ⟨rfl, hc⟩
  · rw [hC] at hx
    unfold rf
    rw [oldC x 3 (by omega) (by decide), hL']
    exact (e1 x hx).imp_right (fun z => ⟨z.1, Nat.lt_succ_of_lt z.2⟩)
  · rw [hP]
    rcases hk' k hk with h | h
    · unfold ceN
      rw [old k 1 h (by decide)]
      exact f1 k h
    · subst h
      unfold ceN
      rw [w4, nI_clamp (by omega)]
      exact ⟨rfl, hq⟩
  · rw [hC] at hx
    unfold caN
    rw [oldC x 0 (by omega) (by decide), hP]
    exact g1 x hx
theorem newC_what {D : ZD} {p rv ref : Int32} (hC : nC D < 20) : (∀ i, i ≠ 5 → (i < 46 + 5 * nC D ∨ 51 + 5 * nC D ≤ i) → newC D p rv ref i = D i) ∧ newC D p rv ref 5 = D 5 + 1 ∧ dC (newC D p rv ref) (nC D) 0 = p ∧ dC (newC D p rv ref) (nC D) 1 = D 0 ∧ dC (newC D p rv ref) (nC D) 2 = rv ∧ dC (newC D p rv ref) (nC D) 3 = ref ∧ dC (newC D p rv ref) (nC D) 4 = -1 := by
  have e : ∀ i, newC D p rv ref i = if i = 5 then D 5 + 1 else if i = 46 + 5 * nC D + 4 then -1 else if i = 46 + 5 * nC D + 3 then ref else if i = 46 + 5 * nC D + 2 then rv else if i = 46 + 5 * nC D + 1 then D 0 else if i = 46 + 5 * nC D + 0 then p else D i := by
    intro i
    have h0 : (setC D (nC D) 0 p) 0 = D 0 := if_neg (by omega)
    have h5 : (setC (setC (setC (setC (setC D (nC D) 0 p) (nC D) 1 ((setC D (nC D) 0 p) 0)) (nC D) 2 rv) (nC D) 3 ref) (nC D) 4 (-1)) 5 = D 5 := by
      refine (if_neg (by omega)).trans ((if_neg (by omega)).trans ((if_neg (by omega)).trans ((if_neg (by omega)).trans (if_neg (by omega)))))
    show (if i = 5 then _ + 1 else _) = _
    rw [h5, h0]
    rfl
  refine ⟨fun i h h2 => ?_, ?_, ?_, ?_, ?_, ?_, ?_⟩
  · rw [e i, if_neg h, if_neg (by omega), if_neg (by omega), if_neg (by omega), if_neg (by omega), if_neg (by omega)]
  · rw [e 5, if_pos rfl]
  · unfold dC
    rw [e, if_neg (by omega), if_neg (by omega), if_neg (by omega), if_neg (by omega), if_neg (by omega), if_pos rfl]
  · unfold dC
    rw [e, if_neg (by omega), if_neg (by omega), if_neg (by omega), if_neg (by omega), if_pos rfl]
  · unfold dC
    rw [e, if_neg (by omega), if_neg (by omega), if_neg (by omega), if_pos rfl]
  · unfold dC
    rw [e, if_neg (by omega), if_neg (by omega), if_pos rfl]
  · unfold dC
    rw [e, if_neg (by omega), if_pos rfl]
theorem newC_Iv {D : ZD} {q : Nat} {rv ref : Int32} (hI : Iv D) (hC : nC D < 20) (hq : q < nP D) (hr : ref = -1 ∨ (ref = nI (tN ref) ∧ tN ref < nL D)) : Iv (newC D (nI q) rv ref) ∧ nL (newC D (nI q) rv ref) = nL D ∧ nC (newC D (nI q) rv ref) = nC D + 1 ∧ nP (newC D (nI q) rv ref) = nP D := by
  obtain ⟨w1, w2, w3, -, -, w6, -⟩ := newC_what (p := nI q) (rv := rv) (ref := ref) hC
  generalize newC D (nI q) rv ref = D' at w1 w2 w3 w6 ⊢
  obtain ⟨⟨⟨a1, a2⟩, ⟨b1, b2⟩, ⟨c1, c2⟩, d1⟩, e1, f1, g1⟩ := hI
  have hP : nP D' = nP D := by unfold nP; rw [w1 4 (by decide) (by omega)]
  have hL : nL D' = nL D := by unfold nL; rw [w1 6 (by decide) (by omega)]
  have h5 : D' 5 = nI (nC D + 1) := by rw [w2, b1, nI_1]
  have hC' : nC D' = nC D + 1 := nI_tN h5 (by omega)
  have old : ∀ k j, dL D' k j = dL D k j := fun k j => w1 _ (by omega) (by omega)
  have oldC : ∀ k j, k < nC D → j < 5 → dC D' k j = dC D k j := fun k j hk hj => w1 _ (by omega) (by omega)
  refine ⟨⟨⟨⟨?_, ?_⟩, ⟨?_, ?_⟩, ⟨?_, ?_⟩, fun k hk => ?_⟩, fun x hx => ?_, fun k hk => ?_, fun x hx => ?_⟩, hL, hC', hP⟩
  · rw [hP, w1 4 (by decide) (by omega)]; exact a1
  · rw [hP]; exact a2
  · rw [hC']; exact h5
  · omega
  · rw [hL, w1 6 (by decide) (by omega)]; exact c1
  · rw [hL]; exact c2
  · rw [hL] at hk
    unfold ofN
    rw [old, hC']
    exact ⟨(d1 k hk).1, Nat.lt_succ_of_lt (d1 k hk).2⟩
  · rw [hL]
    rcases (show x < nC D ∨ x = nC D by omega) with h | h
    · unfold rf
      rw [oldC x 3 h (by decide)]
      exact e1 x h
    · subst h
      unfold rf
      rw [w6]
      exact hr
  · rw [hL] at hk
    rw [hP]
    unfold ceN
    rw [old]
    exact f1 k hk
  · rw [hP]
    rcases (show x < nC D ∨ x = nC D by omega) with h | h
    · unfold caN
      rw [oldC x 0 h (by decide)]
      exact g1 x h
    · subst h
      unfold caN
      rw [w3, nI_clamp (by omega)]
      exact ⟨rfl, hq⟩
/-- all legs of a call: as many more as it has bits -/
theorem bst_Iv {x : Int32} {c : Nat} : ∀ (f k : Nat) (D : ZD), Iv D → c < nC D → (∀ j, k ≤ j → j < k + f → bitOf x j = 1 → j < nP D) → nL D + bN x k f ≤ 40 → Iv (itr (bStep x (nI c)) k f D) ∧ nL (itr (bStep x (nI c)) k f D) = nL D + bN x k f ∧ nC (itr (bStep x (nI c)) k f D) = nC D
  | 0, _, D, h, _, _, _ => ⟨h, rfl, rfl⟩
  | f + 1, k, D, h, hc, hb, hL => by
    show Iv (itr _ (k + 1) f (bStep x (nI c) k D)) ∧ nL (itr _ (k + 1) f (bStep x (nI c) k D)) = nL D + ((if bitOf x k = 1 then 1 else 0) + bN x (k + 1) f) ∧ nC (itr _ (k + 1) f (bStep x (nI c) k D)) = nC D
    have hL2 : nL D + ((if bitOf x k = 1 then 1 else 0) + bN x (k + 1) f) ≤ 40 := hL
    by_cases hk : bitOf x k = 1
    · rw [if_pos hk] at hL2
      obtain ⟨m1, m2, m3, m4⟩ := mk_Iv (D := D) (c := c) (q := k) h (by omega) hc (hb k (Nat.le_refl _) (by omega) hk)
      rw [show bStep x (nI c) k D = mkD D (nI c) (nI k) from if_pos hk, if_pos hk]
      obtain ⟨i1, i2, i3⟩ := bst_Iv (x := x) (c := c) f (k + 1) (mkD D (nI c) (nI k)) m1 (by rw [m3]; exact hc) (fun j h1 h2 h3 => by rw [m4]; exact hb j (by omega) (by omega) h3) (by rw [m2]; omega)
      exact ⟨i1, by rw [i2, m2]; omega, by rw [i3, m3]⟩
    · rw [if_neg hk] at hL2
      rw [show bStep x (nI c) k D = D from if_neg hk, if_neg hk]
      obtain ⟨i1, i2, i3⟩ := bst_Iv (x := x) (c := c) f (k + 1) D h hc (fun j h1 h2 h3 => hb j (by omega) (by omega) h3) (by omega)
      exact ⟨i1, by rw [i2]; omega, i3⟩
theorem RC_same {D D' : ZD} {cs : List Int32} (h : RC D cs) (e : ∀ i, i = 8 ∨ 666 ≤ i → D' i = D i) : RC D' cs := ⟨(e 8 (Or.inl rfl)).trans h.1, h.2.1, fun j hj => (e _ (Or.inr (by omega))).trans (h.2.2.1 j hj), h.2.2.2⟩
/-- glare -/
def glrD (D : ZD) (k o s : Nat) (v : Int32) : ZD :=
  let D2 := setL (setL D k (11 + o) (dL D k 7)) k (11 + s) v
  let D3 := setL D2 k 9 (D2 0 + D2 1)
  tally (setL (setL D3 k 10 (D3 0 + D3 2)) k 6 (-1)) 2
def sdN (D : ZD) (k : Nat) (p : Int32) : Nat := if clr D k = p then 0 else 1
def ckF (g : Nat → Int32) : Nat → Nat → Int64 → Int64
  | _, 0, v => v
  | j, f + 1, v => ckF g (j + 1) f (31 * v + (g j).toInt64)
noncomputable def ckP (D : ZD) (k : Nat) (v : Int64) : Int64 := ckF (tellP D k) 0 6 v
noncomputable def ckC (D : ZD) (k : Nat) (v : Int64) : Int64 := ckF (tellC D k) 0 6 v
def ckL (D : ZD) (k : Nat) (v : Int64) : Int64 := 31 * (31 * ckF (dL D k) 0 6 v + (dL D k 9).toInt64) + (dL D k 10).toInt64
/-- the checksum -/
noncomputable def chk (D : ZD) : Int64 := ckF (fun j => D (9 + j)) 0 7 (itr (ckL D) 0 (nL D) (itr (ckC D) 0 (nC D) (itr (ckP D) 0 (nP D) (D 0).toInt64)))
