def zStr : List (String × Nat × String) := [("CallForks", 222, "a number is out of range"), ("CallForks$SetupReader", 61, "exchange"), ("CallForks$SetupReader", 96, "party"), ("CallForks$SetupReader", 101, "wait"), ("CallForks$SetupReader", 106, "patience"), ("CallForks$SetupReader", 111, "ring"), ("CallForks$SetupReader", 156, "legs"), ("CallForks$SetupReader", 158, "caller"), ("CallForks$SetupReader", 160, "referred"), ("CallForks$SetupReader", 162, "time"), ("CallForks", 220, "no such leg"), ("CallForks", 133, "no offer is pending"), ("CallForks", 218, "no such call"), ("CallForks", 142, "the time would be too late"), ("CallForks", 215, "no such party"), ("CallForks", 147, "not a set of other parties"), ("CallForks", 157, "no call can begin"), ("CallForks", 164, "no transfer can begin"), ("CallForks", 170, "the target is in the leg"), ("CallForks", 178, "the party is in no talking leg"), ("CallForksLaw", 113, "exchange;"), ("CallForksLaw", 126, "party"), ("CallForksLaw", 103, " "), ("CallForksLaw", 108, ";"), ("CallForksLaw", 138, "wait"), ("CallForksLaw", 143, "patience"), ("CallForksLaw", 154, "ring "), ("CallForksLaw$Node", 37, ""), ("java/util/Arrays", 337, " > "), ("CallForksLaw$Node", 60, "+"), ("CallForksLaw$Node", 62, " - "), ("CallForksLaw$Node", 64, "* "), ("CallForksLaw$Node", 66, "/"), ("CallForksLaw$Node", 68, "("), ("CallForksLaw$Node", 70, ")"), ("CallForksLaw", 160, " ;"), ("CallForks", 101, "what is out of range"), ("CallForksLaw", 294, "legs"), ("CallForksLaw", 295, "caller"), ("CallForksLaw", 296, "referred"), ("CallForksLaw", 298, "time")]
def zNcs : List (String × String) := [("CallForks", "java/lang/IllegalArgumentException"), ("CallForks$Exchange", "java/lang/IllegalArgumentException"), ("CallForks$Table", "java/lang/IllegalArgumentException"), ("CallForks$History", "java/lang/IllegalArgumentException"), ("CallForks$SetupReader", "java/lang/IllegalArgumentException"), ("CallForksLaw$Random", "java/lang/IllegalArgumentException"), ("CallForksLaw$Exchange", "java/lang/IllegalArgumentException"), ("java/lang/IndexOutOfBoundsException", "java/lang/IllegalArgumentException"), ("java/util/NoSuchElementException", "java/lang/IllegalArgumentException"), ("CallForksLaw$Node", "java/lang/IllegalArgumentException"), ("java/lang/StringBuilder", "java/lang/IllegalArgumentException"), ("java/lang/String", "java/lang/IllegalArgumentException"), ("CallForks$RingRule", "java/lang/IllegalArgumentException"), ("CallForksLaw$Talk", "java/lang/IllegalArgumentException"), ("CallForksLaw$Leg", "java/lang/IllegalArgumentException"), ("java/lang/IllegalStateException", "java/lang/IllegalArgumentException"), ("CallForks", "java/lang/IndexOutOfBoundsException"), ("CallForks$Exchange", "java/lang/IndexOutOfBoundsException"), ("CallForks$Table", "java/lang/IndexOutOfBoundsException"), ("CallForks$History", "java/lang/IndexOutOfBoundsException"), ("CallForks$SetupReader", "java/lang/IndexOutOfBoundsException"), ("CallForksLaw$Random", "java/lang/IndexOutOfBoundsException"), ("CallForksLaw$Exchange", "java/lang/IndexOutOfBoundsException"), ("java/lang/IllegalArgumentException", "java/lang/IndexOutOfBoundsException"), ("java/util/NoSuchElementException", "java/lang/IndexOutOfBoundsException"), ("CallForksLaw$Node", "java/lang/IndexOutOfBoundsException"), ("java/lang/StringBuilder", "java/lang/IndexOutOfBoundsException"), ("java/lang/String", "java/lang/IndexOutOfBoundsException"), ("CallForks$RingRule", "java/lang/IndexOutOfBoundsException"), ("CallForksLaw$Talk", "java/lang/IndexOutOfBoundsException"), ("CallForksLaw$Leg", "java/lang/IndexOutOfBoundsException"), ("java/lang/IllegalStateException", "java/lang/IndexOutOfBoundsException"), ("CallForks", "java/util/NoSuchElementException"), ("CallForks$Exchange", "java/util/NoSuchElementException"), ("CallForks$Table", "java/util/NoSuchElementException"), ("CallForks$History", "java/util/NoSuchElementException"), ("CallForks$SetupReader", "java/util/NoSuchElementException"), ("CallForksLaw$Random", "java/util/NoSuchElementException"), ("CallForksLaw$Exchange", "java/util/NoSuchElementException"), ("java/lang/IllegalArgumentException", "java/util/NoSuchElementException"), ("java/lang/IndexOutOfBoundsException", "java/util/NoSuchElementException"), ("CallForksLaw$Node", "java/util/NoSuchElementException"), ("java/lang/StringBuilder", "java/util/NoSuchElementException"), ("java/lang/String", "java/util/NoSuchElementException"), ("CallForks$RingRule", "java/util/NoSuchElementException"), ("CallForksLaw$Talk", "java/util/NoSuchElementException"), ("CallForksLaw$Leg", "java/util/NoSuchElementException"), ("java/lang/IllegalStateException", "java/util/NoSuchElementException"), ("CallForks", "java/lang/IllegalStateException"), ("CallForks$Exchange", "java/lang/IllegalStateException"), ("CallForks$Table", "java/lang/IllegalStateException"), ("CallForks$History", "java/lang/IllegalStateException"), ("CallForks$SetupReader", "java/lang/IllegalStateException"), ("CallForksLaw$Random", "java/lang/IllegalStateException"), ("CallForksLaw$Exchange", "java/lang/IllegalStateException"), ("java/lang/IllegalArgumentException", "java/lang/IllegalStateException"), ("java/lang/IndexOutOfBoundsException", "java/lang/IllegalStateException"), ("java/util/NoSuchElementException", "java/lang/IllegalStateException"), ("CallForksLaw$Node", "java/lang/IllegalStateException"), ("java/lang/StringBuilder", "java/lang/IllegalStateException"), ("java/lang/String", "java/lang/IllegalStateException"), ("CallForks$RingRule", "java/lang/IllegalStateException"), ("CallForksLaw$Talk", "java/lang/IllegalStateException"), ("CallForksLaw$Leg", "java/lang/IllegalStateException"), ("CallForks", "CallForks$Exchange"), ("CallForks$Table", "CallForks$Exchange"), ("CallForks$History", "CallForks$Exchange"), ("CallForks$SetupReader", "CallForks$Exchange"), ("CallForksLaw$Random", "CallForks$Exchange"), ("CallForksLaw$Exchange", "CallForks$Exchange"), ("java/lang/IllegalArgumentException", "CallForks$Exchange"), ("java/lang/IndexOutOfBoundsException", "CallForks$Exchange"), ("java/util/NoSuchElementException", "CallForks$Exchange"), ("CallForksLaw$Node", "CallForks$Exchange"), ("java/lang/StringBuilder", "CallForks$Exchange"), ("java/lang/String", "CallForks$Exchange"), ("CallForks$RingRule", "CallForks$Exchange"), ("CallForksLaw$Talk", "CallForks$Exchange"), ("CallForksLaw$Leg", "CallForks$Exchange"), ("java/lang/IllegalStateException", "CallForks$Exchange"), ("java/lang/Throwable", "CallForks$Exchange"), ("CallForks", "CallForksLaw$Talk"), ("CallForks$Exchange", "CallForksLaw$Talk"), ("CallForks$Table", "CallForksLaw$Talk"), ("CallForks$History", "CallForksLaw$Talk"), ("CallForks$SetupReader", "CallForksLaw$Talk"), ("CallForksLaw$Random", "CallForksLaw$Talk"), ("CallForksLaw$Exchange", "CallForksLaw$Talk"), ("java/lang/IllegalArgumentException", "CallForksLaw$Talk"), ("java/lang/IndexOutOfBoundsException", "CallForksLaw$Talk"), ("java/util/NoSuchElementException", "CallForksLaw$Talk"), ("CallForksLaw$Node", "CallForksLaw$Talk"), ("java/lang/StringBuilder", "CallForksLaw$Talk"), ("java/lang/String", "CallForksLaw$Talk"), ("CallForks$RingRule", "CallForksLaw$Talk"), ("CallForksLaw$Leg", "CallForksLaw$Talk"), ("java/lang/IllegalStateException", "CallForksLaw$Talk"), ("java/lang/Throwable", "CallForksLaw$Talk"), ("CallForks", "CallForksLaw$Leg"), ("CallForks$Exchange", "CallForksLaw$Leg"), ("CallForks$Table", "CallForksLaw$Leg"), ("CallForks$History", "CallForksLaw$Leg"), ("CallForks$SetupReader", "CallForksLaw$Leg"), ("CallForksLaw$Random", "CallForksLaw$Leg"), ("CallForksLaw$Exchange", "CallForksLaw$Leg"), ("java/lang/IllegalArgumentException", "CallForksLaw$Leg"), ("java/lang/IndexOutOfBoundsException", "CallForksLaw$Leg"), ("java/util/NoSuchElementException", "CallForksLaw$Leg"), ("CallForksLaw$Node", "CallForksLaw$Leg"), ("java/lang/StringBuilder", "CallForksLaw$Leg"), ("java/lang/String", "CallForksLaw$Leg"), ("CallForks$RingRule", "CallForksLaw$Leg"), ("CallForksLaw$Talk", "CallForksLaw$Leg"), ("java/lang/IllegalStateException", "CallForksLaw$Leg"), ("java/lang/Throwable", "CallForksLaw$Leg"), ("CallForks", "CallForksLaw$Exchange"), ("CallForks$Exchange", "CallForksLaw$Exchange"), ("CallForks$Table", "CallForksLaw$Exchange"), ("CallForks$History", "CallForksLaw$Exchange"), ("CallForks$SetupReader", "CallForksLaw$Exchange"), ("CallForksLaw$Random", "CallForksLaw$Exchange"), ("java/lang/IllegalArgumentException", "CallForksLaw$Exchange"), ("java/lang/IndexOutOfBoundsException", "CallForksLaw$Exchange"), ("java/util/NoSuchElementException", "CallForksLaw$Exchange"), ("CallForksLaw$Node", "CallForksLaw$Exchange"), ("java/lang/StringBuilder", "CallForksLaw$Exchange"), ("java/lang/String", "CallForksLaw$Exchange"), ("CallForks$RingRule", "CallForksLaw$Exchange"), ("CallForksLaw$Talk", "CallForksLaw$Exchange"), ("CallForksLaw$Leg", "CallForksLaw$Exchange"), ("java/lang/IllegalStateException", "CallForksLaw$Exchange"), ("java/lang/Throwable", "CallForksLaw$Exchange")]
/-! the judgement of this proof: a state of a method seen as a world (known cells by their addresses), locals and stack -/
/-- first own address; the tables' numbers; array classes (0 int[], 1 byte[], 2 long[], 3 Exchange[], 4 int[][]); String constants by owner and entry; the script's cell, length, values -/
abbrev ZG : Type := Nat × va_G × (Nat → ClassId) × (String → Nat → Nat) × Nat × Nat × (Nat → Int32)
/-- the heap's size; what is known of its cells -/
abbrev ZW : Type := Nat × (Nat → Option va_E)
abbrev ZL : Type := List (Nat × Value)
/-- a method: name, code, locals, what it returns, handlers -/
abbrev ZM : Type := MethodName × ByteArray × Nat × Option FieldType × List (Nat × Nat × Nat × Nat)
def zA (Γ : ZG) : Nat → Prop := fun q => Γ.1 ≤ q
def zt (Γ : ZG) : List (ClassId × FieldType) := [(Γ.2.2.1 0, .int), (Γ.2.2.1 1, .byte), (Γ.2.2.1 2, .long), (Γ.2.2.1 3, .object RX0), (Γ.2.2.1 4, .array .int), (Γ.2.2.1 5, .boolean), (Γ.2.2.1 6, .object RX6), (Γ.2.2.1 7, .object RX7), (Γ.2.2.1 8, .object RX10)]
def zWm : Cond → Bool
  | .fieldLinkNest _ _ _ _ _ _ => true
  | .methodLinkNest _ _ _ _ => true
  | .castable _ _ => true
  | .declares _ => true
  | .privateMethod _ => true
  | _ => false
def zNest : List Cond := tables_1.filter zWm
def zGood : List Cond := lw_tbl.filter goodWord
theorem zGood.mem (i : Nat) {w : Cond} (h : lw_tbl[i]? = some w) (hg : goodWord w = true) : w ∈ zGood := List.mem_filter.mpr ⟨List.mem_of_getElem? h, hg⟩
theorem zNest.mem (i : Nat) {w : Cond} (h : tables_1[i]? = some w) (hg : zWm w = true) : w ∈ zNest := List.mem_filter.mpr ⟨List.mem_of_getElem? h, hg⟩
theorem zNest.warm {w : Cond} {s U : State} (hw : zWm w = true) (hW : s.WarmedH U.vm) (h : va_Nw w s) : va_Nw w U := by
  cases w <;> first | exact va_Nw.warmF hW h | exact va_Nw.warmM hW h | exact va_Nw.warmC hW h | exact va_Nw.warmD hW h | exact Cond.privateMethod_warm (args := #[]) (args' := #[]) hW h | cases hw
/-- the signs of a text -/
def zch (tx : String) (j : Nat) : Int32 := nI ((tx.toList.map Char.toNat).getD j 0)
def zSa (Γ : ZG) (a v : Nat) (tx : String) (U : State) (H : Heap) : Prop :=
  va_O "java/lang/String" a (zA Γ) U H ∧ va_OF "java/lang/String" "coder" "B" (.int 0) a (zA Γ) U H ∧ va_OF "java/lang/String" "value" "[B" (.ref v) a (zA Γ) U H ∧ va_T .byte v tx.length (fun j => .int (zch tx j)) (zA Γ) U H
theorem zSa.go {Γ : ZG} {a v : Nat} {tx : String} {u U : State} {H H1 : Heap} (hvm : u.vm.Alike U.vm) (hq : ∀ q : Nat, q < H.size → ¬ zA Γ q → H1[q]? = H[q]?) (h : zSa Γ a v tx u H) : zSa Γ a v tx U H1 := by
  obtain ⟨h1, h2, h3, h4⟩ := h
  exact ⟨(va_O.moved hvm h1).kept hq, (va_OF.moved hvm h2).kept hq, (va_OF.moved hvm h3).kept hq, (va_T.moved hvm h4).kept hq⟩
/-- the law's four words, the digits' two rows -/
def zvIx (j : Nat) : Nat := if j = 0 then 294 else if j = 1 then 295 else if j = 2 then 296 else 298
def zXt (Γ : ZG) (U : State) (H : Heap) : Prop :=
  va_Z "CallForksLaw" "VARIABLES" "[Ljava/lang/String;" (.ref (Γ.2.2.2.1 "VARIABLES" 0)) (zA Γ) U H ∧ va_T (.object "java/lang/String") (Γ.2.2.2.1 "VARIABLES" 0) 4 (fun j => .ref (Γ.2.2.2.1 "CallForksLaw" (zvIx j))) (zA Γ) U H ∧
  va_Z "java/lang/Integer" "DigitOnes" "[B" (.ref (Γ.2.2.2.1 "DigitOnes" 0)) (zA Γ) U H ∧ va_T .byte (Γ.2.2.2.1 "DigitOnes" 0) 100 (fun j => .int (nI (48 + j % 10))) (zA Γ) U H ∧
  va_Z "java/lang/Integer" "DigitTens" "[B" (.ref (Γ.2.2.2.1 "DigitTens" 0)) (zA Γ) U H ∧ va_T .byte (Γ.2.2.2.1 "DigitTens" 0) 100 (fun j => .int (nI (48 + j / 10))) (zA Γ) U H
theorem zXt.go {Γ : ZG} {u U : State} {H H1 : Heap} (hvm : u.vm.Alike U.vm) (hq : ∀ q : Nat, q < H.size → ¬ zA Γ q → H1[q]? = H[q]?) (h : zXt Γ u H) : zXt Γ U H1 := by
  obtain ⟨h1, h2, h3, h4, h5, h6⟩ := h
  exact ⟨(va_Z.moved hvm h1).kept hq, (va_T.moved hvm h2).kept hq, (va_Z.moved hvm h3).kept hq, (va_T.moved hvm h4).kept hq, (va_Z.moved hvm h5).kept hq, (va_T.moved hvm h6).kept hq⟩
def zS (Γ : ZG) (U : State) (H : Heap) : Prop :=
  va_K Γ.2.1 vwCl (zt Γ) U ∧ (∀ w ∈ zNest, va_Nw w U) ∧ (∀ q ∈ zNcs, va_Nc q.1 q.2 U) ∧ (va_AO RX0 U ∧ va_AOA .int U ∧ va_AO RX6 U ∧ va_AO RX7 U ∧ va_AO RX10 U ∧ zXt Γ U H) ∧
  (vx_Zq Bundle.tN "UNASSIGNED_STACK" Bundle.steD (zA Γ) U H ∧ vx_Zq Bundle.tN "SUPPRESSED_SENTINEL" Bundle.listD (zA Γ) U H ∧ va_Z "java/lang/String" "COMPACT_STRINGS" "Z" (.int 1) (zA Γ) U H ∧ va_Zq "jdk/internal/util/Preconditions" "SIOOBE_FORMATTER" "Ljava/util/function/BiFunction;" (zA Γ) U H) ∧
  (∀ q ∈ zStr, vk_R q.1 q.2.1 q.2.2 (Γ.2.2.2.1 q.1 q.2.1) U ∧ zSa Γ (Γ.2.2.2.1 q.1 q.2.1) (Γ.2.2.2.1 q.1 (q.2.1 + 100000)) q.2.2 U H) ∧
  (va_X Γ.2.2.2.2.1 Γ.2.2.2.2.2.1 Γ.2.2.2.2.2.2 U H ∧ Γ.2.2.2.2.1 < Γ.1)
theorem zS.go {Γ : ZG} {s U : State} {H H1 : Heap} (hW : s.WarmedH U.vm) (h : zS Γ s H) (hn : Γ.1 ≤ H.size) (hq : ∀ q : Nat, q < Γ.1 → H1[q]? = H[q]?) : zS Γ U H1 := by
  have hq' : ∀ q : Nat, q < H.size → ¬ zA Γ q → H1[q]? = H[q]? := fun q _ h => hq q (Nat.lt_of_not_le h)
  have hvm := hW.alike
  obtain ⟨h1, h2, h3, ⟨h4, h5, h5a, h5b, h5c, h5d⟩, ⟨h6, h7, h6b, h7b⟩, h8, h9, h10⟩ := h
  exact ⟨va_K.moved hvm h1, fun w hw => zNest.warm (List.mem_filter.mp hw).2 hW (h2 w hw), fun q hw => (h3 q hw).moved hvm, ⟨h4.moved hvm, va_AOA.of (over_moved (a := #[]) (a' := #[]) hvm h5), h5a.moved hvm, h5b.moved hvm, h5c.moved hvm, h5d.go hvm hq'⟩,
    ⟨(vx_Zq.moved hvm h6).kept hq', (vx_Zq.moved hvm h7).kept hq', (va_Z.moved hvm h6b).kept hq', (va_Zq.moved hvm h7b).kept hq'⟩, fun q hw => ⟨vk_R.warm hW (h8 q hw).1, zSa.go hvm hq' (h8 q hw).2⟩, (va_X.moved hvm h9).kept (hq _ h10), h10⟩
def zH (Γ : ZG) (w : ZW) (H : Heap) : Prop := H.size = w.1 ∧ Γ.1 ≤ w.1 ∧ ∀ (a : Nat) (e : va_E), w.2 a = some e → Γ.1 ≤ a ∧ va_at Γ.2.1 vwCl (a, e) H
def wset (w : ZW) (a : Nat) (e : va_E) : ZW := (w.1, fun q => if q = a then some e else w.2 q)
def wnew (w : ZW) (e : va_E) : ZW := (w.1 + 1, fun q => if q = w.1 then some e else w.2 q)
theorem zH.set {Γ : ZG} {w : ZW} {H H1 : Heap} {a : Nat} {e : va_E} (h : zH Γ w H) (ha : Γ.1 ≤ a) (he : va_at Γ.2.1 vwCl (a, e) H1) (hz : H1.size = H.size) (oq : ∀ q : Nat, q ≠ a → H1[q]? = H[q]?) : zH Γ (wset w a e) H1 := by
  refine ⟨hz.trans h.1, h.2.1, fun q e' hq => ?_⟩
  by_cases hqa : q = a
  · subst hqa
    simp [wset] at hq
    subst hq
    exact ⟨ha, he⟩
  · have hq' : w.2 q = some e' := by simpa [wset, hqa] using hq
    exact ⟨(h.2.2 q e' hq').1, (h.2.2 q e' hq').2.kept (oq q hqa)⟩
theorem zH.push {Γ : ZG} {w : ZW} {H H1 : Heap} {e : va_E} (h : zH Γ w H) (he : va_at Γ.2.1 vwCl (H.size, e) H1) (hz : H1.size = H.size + 1) (oq : ∀ q : Nat, q < H.size → H1[q]? = H[q]?) : zH Γ (wnew w e) H1 := by
  refine ⟨by rw [hz, h.1]; rfl, Nat.le_succ_of_le h.2.1, fun q e' hq => ?_⟩
  by_cases hqa : q = w.1
  · subst hqa
    simp [wnew] at hq
    subst hq
    exact ⟨h.2.1, by rw [← h.1]; exact he⟩
  · have hq' : w.2 q = some e' := by simpa [wnew, hqa] using hq
    exact ⟨(h.2.2 q e' hq').1, (h.2.2 q e' hq').2.kept (oq q (h.2.2 q e' hq').2.lt)⟩
theorem zH.one {Γ : ZG} {w : ZW} {H : Heap} {a : Nat} {e : va_E} (h : zH Γ w H) (hw : w.2 a = some e) : va_P Γ.2.1 vwCl [(a, e)] H := by
  intro k q hk
  have hz : k < 1 := (List.getElem?_eq_some_iff.mp hk).1
  have hk0 : k = 0 := by omega
  subst hk0
  cases hk
  exact (h.2.2 a e hw).2
def zQ (Γ : ZG) (Φ : Option Value → ZW → Prop) : Array Value → State → Outcome → State → Prop := fun _ st o t => ∃ (v : Option Value) (w' : ZW), o = .returned v ∧ Φ v w' ∧ zH Γ w' t.heap ∧ st.heap.size ≤ t.heap.size ∧ ∀ q : Nat, q < Γ.1 → t.heap[q]? = st.heap[q]?
def zX (Γ : ZG) (Ψ : String → ZW → Prop) : String → State → State → Prop := fun E st t => ∃ w' : ZW, Ψ E w' ∧ zH Γ w' t.heap ∧ st.heap.size ≤ t.heap.size ∧ ∀ q : Nat, q < Γ.1 → t.heap[q]? = st.heap[q]?
def zRm (d mc ms : Nat) : Room := { frames := d, cells := mc, slots := ms, locals := 64 * d }
def zcode (M : ZM) : Cond := match M.2.2.2.2 with
  | [] => .code M.1 M.2.1 M.2.2.1 M.2.2.2.1
  | hh => .codeWith M.1 M.2.1 M.2.2.1 M.2.2.2.1 hh
def zwA (M : ZM) : List Cond := zcode M :: zGood
def zPc (Γ : ZG) (as : List Value) (w : ZW) : Array Value → State → Prop := va_Pc as (fun U => zS Γ U U.heap ∧ zH Γ w U.heap)
theorem zPc.blind {Γ : ZG} {as : List Value} {w : ZW} : FrameBlind (zPc Γ as w) := by
  intro a U g mk h
  exact ⟨h.1, zS.go (U := U.calling g mk a) (s := U) (State.WarmedH.refl U) h.2.1 (by rw [h.2.2.1]; exact h.2.2.2.1) (fun _ _ => rfl), h.2.2⟩
/-- a contract: from the arguments and the world, the method returns by Φ, or throws by Ψ -/
def Ct (l : Launch) (Γ : ZG) (M : ZM) (d mc ms : Nat) (as : List Value) (w : ZW) (Φ : Option Value → ZW → Prop) (Ψ : String → ZW → Prop) : Prop :=
  l.stackTraces = false → vx_Met l M.1 (zwA M) (zRm d mc ms) (zPc Γ as w) (zQ Γ Φ) (zX Γ Ψ) mc ms (zA Γ)
def zNo : String → ZW → Prop := fun _ _ => False
def zNv : Option Value → ZW → Prop := fun _ _ => False
def zC (l : Launch) (Γ : ZG) (M : ZM) (p : Program) (s : State) (m : MethodId) (args : Array Value) (meth : Method) (c : Code) : Prop :=
  p.tables.exec = Jvm.exec ∧ c.code = M.2.1 ∧ c.maxLocals = M.2.2.1 ∧ meth.sig.returnType = M.2.2.2.1 ∧ (∀ w ∈ zwA M, w.before args s = true) ∧ s.vm.findClass M.1.cls = some m.cls ∧ meth.locks = false ∧ meth.name = M.1.name ∧ zS Γ s s.heap ∧ Γ.1 ≤ s.heap.size ∧ c.exceptionTable.toList = tableOf M.2.2.2.2 ∧ l.stackTraces = false
/-- the machine at pc, with these locals and this stack, in this world, comes to an end by Φ or Ψ -/
def Go (l : Launch) (Γ : ZG) (M : ZM) (d mc ms : Nat) (Φ : Option Value → ZW → Prop) (Ψ : String → ZW → Prop) (k n : Nat) (w : ZW) (pc : Nat) (L : ZL) (st : List Value) : Prop :=
  ∀ (p : Program) (e : Env) (s : State) (m : MethodId) (args : Array Value) (below : List Frame) (meth : Method) (c : Code), zC l Γ M p s m args meth c →
    ∀ (H : Heap) (locs : List Loc) (ls : Array Slot), lv_has ls M.2.2.1 L → zH Γ w H → va_S (zA Γ) s.heap H locs →
      W p l e (zRm d mc ms) s m args below meth c H locs k n (vx_MQ below (zQ Γ Φ) (zX Γ Ψ) args s mc ms (zA Γ)) (F0 m pc ls st)
theorem Ct.of {l : Launch} {Γ : ZG} {M : ZM} {d mc ms : Nat} {as : List Value} {w : ZW} {Φ : Option Value → ZW → Prop} {Ψ : String → ZW → Prop} (hy : plainName M.1.cls = true) (hh : M.2.2.2.2 = []) (hn : (lg_sl as).length ≤ M.2.2.1)
    (h : Go l Γ M d mc ms Φ Ψ 0 0 w 0 (lv_args 0 as) []) : Ct l Γ M d mc ms as w Φ Ψ := by
  intro htr
  have hw : zwA M = Cond.code M.1 M.2.1 M.2.2.1 M.2.2.2.1 :: zGood := by unfold zwA zcode; rw [hh]
  refine vx_ofW (cc := M.2.1) (maxL := M.2.2.1) (ret := M.2.2.2.1) hy hw ?_
  intro p e s m args below meth c s₁ B hml hex hv
  obtain ⟨rfl, hS, hH⟩ := hv
  have h0 : Γ.1 ≤ s.heap.size := by rw [hH.1]; exact hH.2.1
  have hts : ∀ w ∈ zwA M, w.before as.toArray s = true := atoms_spec (ws := zwA M) B.pre
  have ht : c.exceptionTable.toList = tableOf M.2.2.2.2 := by
    rw [hh]
    exact List.eq_nil_iff_forall_not_mem.mpr fun x hx => hex x hx
  rw [lg_entry_eq]
  exact h p e s m as.toArray below meth c ⟨B.exec, B.bytes, hml, B.returns, hts, findClass_of_methodNamed B.named, B.notSynchronized, (name_of_methodNamed B.named B.method).1, hS, h0, ht, htr⟩ s.heap [] _ (lv_entry as hn) hH va_S.rf
