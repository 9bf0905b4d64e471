section LCopy
/-- the copy's parties, as far as they are made -/
def CPp (Γ : ZG) (w0 w : ZW) (T : LT) (AA : LA) (D : ZD) (i pa : Nat) : Prop := ∃ f, Nc w0 w T pa (q5 Γ 4 (nP D) f) 19 ∧ ∀ p, p < i → f p = some (AA 3 p) ∧ ∃ g, Nc w0 w T (AA 3 p) (i5 Γ 3 g) 0 ∧ ∀ j, j < 3 → g j = dP D p j
def CBk (Γ : ZG) (w0 w : ZW) (T : LT) (sg : ZSg) (AA : LA) (D : ZD) (c : Nat) : Prop := Nc w0 w T (AA 1 c) (.inr (10, [.int (dC D c 0), .int (dC D c 1), .int (dC D c 2), .null, .null, .ref (AA 4 c)])) (11 + 5 * c) ∧ Nc w0 w T (AA 4 c) (q5 Γ 7 ((sg c).2 - (sg c).1) (fun _ => none)) (13 + 5 * c)
def CFl (Γ : ZG) (w0 w : ZW) (T : LT) (sg : ZSg) (AA : LA) (D : ZD) (c : Nat) : Prop := Nc w0 w T (AA 1 c) (.inr (10, tFs AA D c)) (11 + 5 * c) ∧ ∃ g, Nc w0 w T (AA 4 c) (q5 Γ 7 ((sg c).2 - (sg c).1) g) (13 + 5 * c) ∧ ∀ j, j < (sg c).2 - (sg c).1 → g j = some (AA 0 ((sg c).1 + j))
def CPc (Γ : ZG) (w0 w : ZW) (T : LT) (sg : ZSg) (AA : LA) (D : ZD) (i s ca : Nat) : Prop := ∃ f, Nc w0 w T ca (q5 Γ 8 (nC D) f) 24 ∧ ∀ c, c < i → f c = some (AA 1 c) ∧ (c < s → CFl Γ w0 w T sg AA D c) ∧ (s ≤ c → CBk Γ w0 w T sg AA D c)
def VV (AA V : LA) : LA := fun i k => if i = 2 then AA 2 k else V i k
def CPl (Γ : ZG) (w0 w : ZW) (T : LT) (AA V : LA) (D : ZD) (i la : Nat) : Prop := ∃ f, Nc w0 w T la (q5 Γ 7 (nL D) f) 29 ∧ ∀ k, k < i → f k = some (AA 0 k) ∧ Nc w0 w T (AA 0 k) (.inr (7, lFs AA (VV AA V) D k)) (10 + 5 * k) ∧ Nc w0 w T (AA 2 k) (q5 Γ 4 2 (rpF V D k)) (12 + 5 * k)
section
variable {Γ : ZG} {w0 w w1 : ZW} {T T1 : LT} {sg : ZSg} {AA AA' V : LA} {D : ZD} {i s a : Nat} {P : Nat → Prop}
theorem CPp.go (h : CPp Γ w0 w T AA D i a) (k : Kq w T w1 T1 P) (h0 : P 0 ∧ P 19) (hA : ∀ p, p < i → AA' 3 p = AA 3 p) : CPp Γ w0 w1 T1 AA' D i a := by
  obtain ⟨f, f1, f2⟩ := h
  refine ⟨f, f1.go k h0.2, fun p hp => ?_⟩
  obtain ⟨g1, g, g2, g3⟩ := f2 p hp
  rw [hA p hp]
  exact ⟨g1, g, g2.go k h0.1, g3⟩
theorem CBk.go {c : Nat} (h : CBk Γ w0 w T sg AA D c) (k : Kq w T w1 T1 P) (h0 : P (11 + 5 * c) ∧ P (13 + 5 * c)) (hA : AA' 1 c = AA 1 c ∧ AA' 4 c = AA 4 c) : CBk Γ w0 w1 T1 sg AA' D c := by
  obtain ⟨h1, h2⟩ := h
  unfold CBk
  rw [hA.1, hA.2]
  exact ⟨h1.go k h0.1, h2.go k h0.2⟩
theorem CFl.go {c : Nat} (h : CFl Γ w0 w T sg AA D c) (k : Kq w T w1 T1 P) (h0 : P (11 + 5 * c) ∧ P (13 + 5 * c)) : CFl Γ w0 w1 T1 sg AA D c := by
  obtain ⟨h1, g, h2, h3⟩ := h
  exact ⟨h1.go k h0.1, g, h2.go k h0.2, h3⟩
theorem CPc.go (h : CPc Γ w0 w T sg AA D i s a) (k : Kq w T w1 T1 P) (h0 : P 24 ∧ ∀ c, c < i → P (11 + 5 * c) ∧ P (13 + 5 * c)) : CPc Γ w0 w1 T1 sg AA D i s a := by
  obtain ⟨f, f1, f2⟩ := h
  refine ⟨f, f1.go k h0.1, fun c hc => ?_⟩
  obtain ⟨g1, g2, g3⟩ := f2 c hc
  exact ⟨g1, fun z => (g2 z).go k (h0.2 c hc), fun z => (g3 z).go k (h0.2 c hc) ⟨rfl, rfl⟩⟩
theorem CPc.aa (h : CPc Γ w0 w T sg AA D i 0 a) (hA : ∀ c, c < i → AA' 1 c = AA 1 c ∧ AA' 4 c = AA 4 c) : CPc Γ w0 w T sg AA' D i 0 a := by
  obtain ⟨f, f1, f2⟩ := h
  refine ⟨f, f1, fun c hc => ?_⟩
  obtain ⟨g1, g2, g3⟩ := f2 c hc
  exact ⟨by rw [(hA c hc).1]; exact g1, fun z => absurd z (Nat.not_lt_zero _), fun z => (g3 z).go (P := fun _ => True) Kq.rf ⟨trivial, trivial⟩ (hA c hc)⟩
theorem CPl.go (h : CPl Γ w0 w T AA V D i a) (k : Kq w T w1 T1 P) (h0 : P 29 ∧ ∀ c, c < i → P (10 + 5 * c) ∧ P (12 + 5 * c)) : CPl Γ w0 w1 T1 AA V D i a := by
  obtain ⟨f, f1, f2⟩ := h
  refine ⟨f, f1.go k h0.1, fun c hc => ?_⟩
  obtain ⟨g1, g2, g3⟩ := f2 c hc
  exact ⟨g1, g2.go k (h0.2 c hc).1, g3.go k (h0.2 c hc).2⟩
theorem lFs_aa {c : Nat} (h2 : AA' 2 c = AA 2 c) (h1 : AA' 1 (ofN D c) = AA 1 (ofN D c)) : lFs AA' (VV AA' V) D c = lFs AA (VV AA V) D c := by
  have e : ofO (VV AA' V) D c = ofO (VV AA V) D c := rfl
  unfold lFs
  rw [e, h1, show VV AA' V 2 c = VV AA V 2 c from h2]
theorem CPl.aa (h : CPl Γ w0 w T AA V D i a) (hA : ∀ c, c < i → AA' 0 c = AA 0 c ∧ AA' 2 c = AA 2 c) (h1 : ∀ c, c < i → AA' 1 (ofN D c) = AA 1 (ofN D c)) : CPl Γ w0 w T AA' V D i a := by
  obtain ⟨f, f1, f2⟩ := h
  refine ⟨f, f1, fun c hc => ?_⟩
  obtain ⟨g1, g2, g3⟩ := f2 c hc
  refine ⟨by rw [(hA c hc).1]; exact g1, ?_, by rw [(hA c hc).2]; exact g3⟩
  rw [(hA c hc).1, lFs_aa (hA c hc).2 (h1 c hc)]
  exact g2
/-- the copy's own addresses -/
def AX (AA : LA) (pa ca la ta : Nat) : LA := fun i k => if i = 8 then (if k = 0 then pa else if k = 1 then ca else if k = 2 then la else ta) else AA i k
theorem ax_n {pa ca la ta j k : Nat} (h : j ≠ 8) : AX AA pa ca la ta j k = AA j k := if_neg h
def TZ (w0 : ZW) (T : LT) : LT := fun q => if q < w0.1 then T q else 0
theorem Nc.z {c : va_E} {t : Nat} (h : Nc w0 w T a c t) : w.2 a = some c ∧ TZ w0 T a = 0 := ⟨h.1, if_neg (by have := h.2.2; omega)⟩
set_option maxRecDepth 100000 in
set_option maxHeartbeats 4000000 in
/-- the copy, done: it never changes -/
theorem cp_lx {T0 : LT} {A : LA} {tm : Option Nat} {e x pa ca la ta : Nat} {g : Nat → Int32} (h : LX Γ w0 T0 1 sg A V tm e D) (hw : WF w0) (hI : Ix D) (b : BW w0 T0 w T) (hx : Nc w0 w T x (.inr (6, [.int (D 0), .int (D 1), .int (D 2), .int (D 3), .ref pa, .ref ca, .ref la, .ref ta, va_rf tm])) 14) (hp : CPp Γ w0 w T AA D (nP D) pa) (ht : Nc w0 w T ta (i5 Γ 7 g) 0) (hg : ∀ j, j < 7 → g j = D (9 + j)) (hc : CPc Γ w0 w T sg AA D (nC D) (nC D) ca) (hl : CPl Γ w0 w T AA V D (nL D) la) : BW w0 T0 w (TZ w0 T) ∧ LX Γ w (TZ w0 T) 0 sg (AX AA pa ca la ta) (VV AA V) tm x D := by
  refine ⟨⟨b.1, fun q hq => ⟨(b.2 q hq).1, (if_pos hq).trans (b.2 q hq).2⟩⟩, ?_⟩
  have hk : Kq w0 T0 w (TZ w0 T) (fun _ => True) := fun q c h1 _ => by
    have hq := hw q c h1
    exact ⟨(b.2 q hq).1.trans h1, (if_pos hq).trans (b.2 q hq).2⟩
  obtain ⟨fp, p1, p2⟩ := hp
  obtain ⟨fc, c1, c2⟩ := hc
  obtain ⟨fl, l1, l2⟩ := hl
  have z0 : ∀ n : Nat, 0 = 0 * n := fun n => (Nat.zero_mul n).symm
  have hPC : ∀ c, c < nC D → PC Γ w (TZ w0 T) 0 sg (AX AA pa ca la ta) D c := fun c hc => by
    obtain ⟨-, q1, -⟩ := c2 c hc
    obtain ⟨q2, g, q3, q4⟩ := q1 hc
    refine ⟨q2.z.1, q2.z.2.trans (z0 _), g, q3.z.1, q3.z.2, fun j hj => q4 j hj⟩
  have hPL : ∀ k, k < nL D → PL Γ w (TZ w0 T) 0 (AX AA pa ca la ta) (VV AA V) D k := fun k hk9 => by
    obtain ⟨-, q1, q2⟩ := l2 k hk9
    obtain ⟨-, -, o1, o2⟩ := h.l hk9
    refine ⟨⟨q1.z.1, q1.z.2.trans (z0 _)⟩, ⟨?_, q2.z.2.trans (z0 _)⟩, o1.go (hk.mono fun _ _ => trivial) (fun _ _ => rfl) rfl, fun s hs => (o2 s hs).go (hk.mono fun _ _ => trivial) ⟨rfl, rfl⟩ (if_neg (by omega))⟩
    rw [rpF_c (V := V) (V' := VV AA V) (fun _ _ => rfl) (fun s hs => if_neg (by omega))]
    exact q2.z.1
  refine ⟨⟨hx.z.1, hx.z.2.trans (z0 _)⟩, ⟨⟨fp, p1.z.1, p1.z.2, fun p hp => (p2 p hp).1⟩, fun p hp => ?_⟩, ⟨⟨fc, c1.z.1, c1.z.2, fun c hc => (c2 c hc).1⟩, fl, l1.z.1, l1.z.2, fun k hk => (l2 k hk).1⟩, ⟨g, ht.z.1, ht.z.2.trans (z0 _), hg⟩, hPC, hPL, fun k k' hk hk' hh => ?_, fun c c' hc hc' hh => ?_⟩
  · obtain ⟨-, g, q1, q2⟩ := p2 p hp
    exact ⟨g, q1.z.1, q1.z.2.trans (z0 _), q2⟩
  · have h1 := (l2 k hk).2.1.2.1
    have h2 := (l2 k' hk').2.1.2.1
    have hh : AA 0 k = AA 0 k' := hh
    rw [hh] at h1
    omega
  · have h1 := ((c2 c hc).2.1 hc).1.2.1
    have h2 := ((c2 c' hc').2.1 hc').1.2.1
    have hh : AA 1 c = AA 1 c' := hh
    rw [hh] at h1
    omega
end
section
variable {l : Launch} {Γ : ZG} {M M' : ZM} {dp mc ms : Nat} {Φ : Option Value → ZW → Prop} {Ψ : String → ZW → Prop} {k n : Nat} {w0 w : ZW} {pc : Nat} {L : ZL} {st : List Value}
variable {T0 T : LT} {a N : Nat}
/-- an exchange's constructor -/
theorem gx_iniX {index : Nat} (h : Nc w0 w T a (.inr (6, z6)) 14) (b : BW w0 T0 w T) (hct : (Φ' : Option Value → ZW → Prop) → Ct l Γ mX6_init 1 4 7 [.ref a] w Φ' zNo → (∀ v w', Φ' v w' → v = none ∧ Go l Γ M dp mc ms Φ Ψ (k + 4) (n + 7) w' (pc + 3) L st) → Go l Γ M dp mc ms Φ Ψ k n w pc L (.ref a :: st)) (kk : ∀ w' T' r, BW w0 T0 w' T' → Nc w0 w' T' a (.inr (6, [.int 0, .int 3, .int 5, .int 20, .ref r, .ref (r + 1), .ref (r + 2), .ref (r + 3), .null])) 14 → Nc w0 w' T' r (q5 Γ 4 0 (fun _ => none)) 5 → Nc w0 w' T' (r + 1) (q5 Γ 8 0 (fun _ => none)) 5 → Nc w0 w' T' (r + 2) (q5 Γ 7 0 (fun _ => none)) 5 → Nc w0 w' T' (r + 3) (i5 Γ 7 (fun _ => 0)) 5 → Kq w T w' T' (fun z => z ≠ 14) → Go l Γ M dp mc ms Φ Ψ (k + 4) (n + 7) w' (pc + 3) L st) : Go l Γ M dp mc ms Φ Ψ k n w pc L (.ref a :: st) := by
  refine go_wf fun hw => hct _ (ct_X6_init h.1) ?_
  rintro v w2 ⟨rfl, ha, z1, z2, z3, z4, z5, z6, z7⟩
  have hb := b.1
  have hT : (fun q => if w.1 ≤ q then 5 else T q) a = 14 := (if_neg (by omega)).trans h.2.1
  refine ⟨rfl, kk w2 (fun q => if w.1 ≤ q then 5 else T q) w.1 ⟨by omega, fun q hq => ?_⟩ ⟨z3, hT, h.2.2⟩ ⟨z4, if_pos (Nat.le_refl _), hb⟩ ⟨z5, if_pos (by omega), by omega⟩ ⟨z6, if_pos (by omega), by omega⟩ ⟨z7, if_pos (by omega), by omega⟩ (fun q c h3 h4 => ?_)⟩
  · have := h.2.2
    exact ⟨(z2 q (by omega) (by omega)).trans (b.2 q hq).1, (if_neg (by omega)).trans (b.2 q hq).2⟩
  · have hq := hw q c h3
    exact ⟨(z2 q (fun z => h4 (by rw [z]; exact h.2.1)) hq).trans h3, if_neg (by omega)⟩
theorem gn_iniX {index : Nat} (h : Nc w0 w T a (.inr (6, z6)) 14) (b : BW w0 T0 w T) (pc' : Nat) (hd : decode M.2.1 pc = .ok (.invokespecial index, 3)) (V : zVi M.1.cls index mX6_init 0 ∨ zVin M.1.cls index mX6_init 0) (hdp : 2 ≤ dp) (h1 : k + 4 ≤ mc) (h2 : n + 7 ≤ ms) (hst : (st.map fun v => v.category).sum ≤ 8) (kk : ∀ w' T' r, BW w0 T0 w' T' → Nc w0 w' T' a (.inr (6, [.int 0, .int 3, .int 5, .int 20, .ref r, .ref (r + 1), .ref (r + 2), .ref (r + 3), .null])) 14 → Nc w0 w' T' r (q5 Γ 4 0 (fun _ => none)) 5 → Nc w0 w' T' (r + 1) (q5 Γ 8 0 (fun _ => none)) 5 → Nc w0 w' T' (r + 2) (q5 Γ 7 0 (fun _ => none)) 5 → Nc w0 w' T' (r + 3) (i5 Γ 7 (fun _ => 0)) 5 → Kq w T w' T' (fun z => z ≠ 14) → Go l Γ M dp mc ms Φ Ψ (k + 4) (n + 7) w' pc' L st) (hp : pc + 3 = pc' := by rfl) : Go l Γ M dp mc ms Φ Ψ k n w pc L (.ref a :: st) := by
  subst hp
  refine gx_iniX (index := index) h b (fun Φ' hct hk => ?_) kk
  rcases V with V | V
  · refine go_callI (As := []) _ hd V hct hdp (by decide) h1 h2 hst ?_
    intro v w' hv
    obtain ⟨rfl, hg⟩ := hk v w' hv
    exact hg
  · refine go_callIN (As := []) _ hd V hct hdp (by decide) h1 h2 hst ?_
    intro v w' hv
    obtain ⟨rfl, hg⟩ := hk v w' hv
    exact hg
/-- a row's place gets a row, or none -/
theorem gn_astAQ {t i : Nat} {x : Int32} {r : Option Nat} {f : Nat → Option Nat} (h : Nc w0 w T a (q5 Γ 4 N f) t) (b : BW w0 T0 w T) (hv : ∀ c, r = some c → ∃ K g, w.2 c = some (i5 Γ K g)) (hx : x = nI i) (hi : i < N) (hN : N < 2 ^ 31) (pc' : Nat) (hd : decode M.2.1 pc = .ok (.aastore, 1)) (kk : ∀ w', BW w0 T0 w' T → Nc w0 w' T a (q5 Γ 4 N (va_up f i r)) t → Kq w T w' T (fun z => z ≠ t) → Go l Γ M dp mc ms Φ Ψ k n w' pc' L st) (hp : pc + 1 = pc' := by rfl) : Go l Γ M dp mc ms Φ Ψ k n w pc L (va_rf r :: .int x :: .ref a :: st) := by
  cases r with
  | none =>
    refine go_aastAN pc' hd h.1 (by rw [hx]; exact vp_in_nI hi hN) ?_ hp
    rw [hx, nI_clamp (by omega)]
    exact kk _ (b.put h.2.2) ⟨if_pos rfl, h.2⟩ (Kq.set h.2.1)
  | some c =>
    obtain ⟨K, g, hc⟩ := hv c rfl
    exact gn_astA h b hc hx hi hN pc' hd kk hp
end
end LCopy
