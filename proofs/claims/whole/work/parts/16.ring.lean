/-! ring expressions: the class's codes, the reference's, what they are worth; making legs -/
def mkG (k : Nat) (c ce : Int32) (D : ZD) : ZD := upd (dropD (setL (setL (setL D k 0 c) k 1 ce) k 2 0) k) 6 ((dropD (setL (setL (setL D k 0 c) k 1 ce) k 2 0) k) 6 + 1)
noncomputable def mkF (E : Prop) (k : Nat) (c ce : Int32) (D : ZD) : ZD := @ite _ E (Classical.propDecidable _) (endD (mkG k c ce D) k 1) (mkG k c ce D)
def zeroL (D : ZD) (k : Nat) : ZD := itr (fun j D => setL D k j 0) 0 13 D
noncomputable def mkD (D : ZD) (c ce : Int32) : ZD := mkF (eng D ce) (nL D) c ce (zeroL D (nL D))
/-- a code of the class as the reference's codes -/
def enc (c : Int32) : List Int32 := if 0 ≤ c then [0, c] else if -4 ≤ c then [1, -1 - c] else [-3 - c]
def okc (c : Int32) : Prop := (0 ≤ c ∧ c ≤ 9999) ∨ c = -1 ∨ c = -2 ∨ c = -3 ∨ c = -4 ∨ c = -5 ∨ c = -6 ∨ c = -7 ∨ c = -8
def isop (c : Int32) : Prop := c ≤ -5
def encs (cs : List Int32) : List Int32 := cs.flatMap enc
/-- the codes from i on are those of cs -/
def codesAt (D : ZD) (i : Nat) (cs : List Int32) : Prop := ∀ j, j < (encs cs).length → D (666 + (i + j)) = (encs cs).getD j 0
/-- an expression behind d values leaves one, and never more than 11 -/
def wfd : List Int32 → Nat → Prop
  | [], d => d = 1
  | c :: cs, d => okc c ∧ ((isop c ∧ 2 ≤ d ∧ wfd cs (d - 1)) ∨ (¬ isop c ∧ d < 11 ∧ wfd cs (d + 1)))
def lim (v : Int64) : Int64 := if lg_cmp v 1000000 ≤ 0 then (if 0 ≤ lg_cmp v (-1000000) then v else -1000000) else 1000000
def opv (c : Int32) (a b : Int64) : Int64 := if c = -8 then (if lg_cmp b 0 = 0 then 0 else a / b) else lim (if c = -5 then a + b else if c = -6 then a - b else a * b)
def evv (lg cl rf tm c : Int32) : Int32 := if 0 ≤ c then c else if c = -1 then lg else if c = -2 then cl else if c = -3 then rf else tm
def ev1 (lg cl rf tm c : Int32) (vs : List Int64) : List Int64 := if c ≤ -5 then (match vs with
  | b :: a :: r => opv c a b :: r
  | _ => vs) else (evv lg cl rf tm c).toInt64 :: vs
def evs (lg cl rf tm : Int32) : List Int32 → List Int64 → List Int64
  | [], vs => vs
  | c :: cs, vs => evs lg cl rf tm cs (ev1 lg cl rf tm c vs)
def rtv (x : Int64) : Int32 := if 0 ≤ lg_cmp x 1 then (if lg_cmp x 99 ≤ 0 then x.toInt32 else 99) else 1
/-- the ring time -/
def ringV (lg cl rf tm : Int32) (cs : List Int32) : Int32 := if cs = [] then 30 else rtv ((evs lg cl rf tm cs []).getD 0 0)
def RC (D : ZD) (cs : List Int32) : Prop := D 8 = nI (encs cs).length ∧ (encs cs).length ≤ 1000 ∧ codesAt D 0 cs ∧ (cs = [] ∨ wfd cs 0)
theorem encs_cons (c : Int32) (cs : List Int32) : encs (c :: cs) = enc c ++ encs cs := rfl
