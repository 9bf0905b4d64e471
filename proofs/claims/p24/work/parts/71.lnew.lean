section LNew
/-- all cells of the earlier world are as they were -/
def BW (w0 : ZW) (T0 : LT) (w : ZW) (T : LT) : Prop := w0.1 ≤ w.1 ∧ ∀ q, q < w0.1 → w.2 q = w0.2 q ∧ T q = T0 q
/-- a cell made since -/
def Nc (w0 w : ZW) (T : LT) (a : Nat) (c : va_E) (t : Nat) : Prop := w.2 a = some c ∧ T a = t ∧ w0.1 ≤ a
section
variable {Γ : ZG} {w0 w w1 : ZW} {T0 T T1 : LT} {m : Nat} {sg : ZSg} {A V : LA} {tm : Option Nat} {e : Nat} {D : ZD} {a t : Nat} {c : va_E}
theorem BW.rf : BW w T w T := ⟨Nat.le_refl _, fun _ _ => ⟨rfl, rfl⟩⟩
theorem BW.lx (b : BW w0 T0 w T) (hw : WF w0) (h : LX Γ w0 T0 m sg A V tm e D) : LX Γ w T m sg A V tm e D := h.fr (fun q c h1 _ => by
  obtain ⟨b1, b2⟩ := b.2 q (hw q c h1)
  exact ⟨b1.trans h1, b2⟩)
theorem BW.FR (b : BW w0 T0 w T) : FR w0 T0 w T := ⟨b.1, fun q hq => (b.2 q hq).2, fun q hq _ => (b.2 q hq).1⟩
theorem BW.new (b : BW w0 T0 w T) : BW w0 T0 (wnew w c) (tset T w.1 t) := by
  have h1 := b.1
  exact ⟨Nat.le_succ_of_le h1, fun q hq => ⟨(if_neg (by omega)).trans (b.2 q hq).1, (if_neg (by omega)).trans (b.2 q hq).2⟩⟩
theorem BW.put (b : BW w0 T0 w T) (ha : w0.1 ≤ a) : BW w0 T0 (wset w a c) T := ⟨b.1, fun q hq => ⟨(if_neg (by omega)).trans (b.2 q hq).1, (b.2 q hq).2⟩⟩
theorem BW.tag (b : BW w0 T0 w T) (ha : w0.1 ≤ a) : BW w0 T0 w (tset T a t) := ⟨b.1, fun q hq => ⟨(b.2 q hq).1, (if_neg (by omega)).trans (b.2 q hq).2⟩⟩
theorem Kq.new (hw : WF w) {P : Nat → Prop} : Kq w T (wnew w c) (tset T w.1 t) P := fun q c' h1 _ => by
  have := hw q c' h1
  exact ⟨(if_neg (by omega)).trans h1, if_neg (by omega)⟩
theorem Kq.tg {t0 : Nat} (h : T a = t0) : Kq w T w (tset T a t) (fun z => z ≠ t0) := fun q c' h1 h2 => ⟨h1, if_neg (fun z => h2 (by rw [z]; exact h))⟩
theorem Kq.old (b : BW w0 T0 w T) (hw : WF w0) {P : Nat → Prop} : Kq w0 T0 w T P := fun q c h1 _ => ⟨(b.2 q (hw q c h1)).1.trans h1, (b.2 q (hw q c h1)).2⟩
theorem Nc.go {P : Nat → Prop} (h : Nc w0 w T a c t) (k : Kq w T w1 T1 P) (ht : P t) : Nc w0 w1 T1 a c t := by
  obtain ⟨h1, h2, h3⟩ := h
  obtain ⟨k1, k2⟩ := k a c h1 (by rw [h2]; exact ht)
  exact ⟨k1, k2.trans h2, h3⟩
theorem Nc.tag {t' : Nat} (h : Nc w0 w T a c t) : Nc w0 w (tset T a t') a c t' := ⟨h.1, if_pos rfl, h.2.2⟩
end
section
variable {l : Launch} {Γ : ZG} {M M' : ZM} {dp mc ms d' mc' ms' : Nat} {Φ : Option Value → ZW → Prop} {Ψ : String → ZW → Prop} {k n : Nat} {w0 w : ZW} {pc : Nat} {L : ZL} {st : List Value}
variable {T0 T : LT} {a ci j N : Nat} {fs : List Value}
theorem gn_new {index : Nat} (t : Nat) (b : BW w0 T0 w T) (pc' : Nat) (hd : decode M.2.1 pc = .ok (.new index, 3)) (F : zNew M.1.cls index ci N fs) (hc1 : k + 1 ≤ mc) (hs1 : n + N ≤ ms) (kk : ∀ w' T' a, BW w0 T0 w' T' → Nc w0 w' T' a (.inr (ci, fs)) t → Kq w T w' T' (fun _ => True) → Go l Γ M dp mc ms Φ Ψ (k + 1) (n + N) w' pc' L (.ref a :: st)) (hp : pc + 3 = pc' := by rfl) : Go l Γ M dp mc ms Φ Ψ k n w pc L st :=
  go_wf fun hw => go_new pc' hd F hc1 hs1 (kk _ (tset T w.1 t) w.1 b.new ⟨if_pos rfl, if_pos rfl, b.1⟩ (Kq.new hw)) hp
theorem gn_anew7 {index : Nat} {i : Int32} (t : Nat) (b : BW w0 T0 w T) (pc' : Nat) (hd : decode M.2.1 pc = .ok (.anewarray index, 3)) (hcl : Cond.classLink M.1.cls index RX7 ∈ zGood) (hi : i = nI N) (hN : N ≤ 65536) (hc1 : k + 1 ≤ mc) (hs1 : n + N ≤ ms) (kk : ∀ w' T' a, BW w0 T0 w' T' → Nc w0 w' T' a (q5 Γ 7 N (fun _ => none)) t → Kq w T w' T' (fun _ => True) → Go l Γ M dp mc ms Φ Ψ (k + 1) (n + N) w' pc' L (.ref a :: st)) (hp : pc + 3 = pc' := by rfl) : Go l Γ M dp mc ms Φ Ψ k n w pc L (.int i :: st) :=
  go_wf fun hw => go_anew7 pc' hd hcl hi hN hc1 hs1 (kk _ (tset T w.1 t) w.1 b.new ⟨if_pos rfl, if_pos rfl, b.1⟩ (Kq.new hw)) hp
theorem gn_anew8 {index : Nat} {i : Int32} (t : Nat) (b : BW w0 T0 w T) (pc' : Nat) (hd : decode M.2.1 pc = .ok (.anewarray index, 3)) (hcl : Cond.classLink M.1.cls index RX10 ∈ zGood) (hi : i = nI N) (hN : N ≤ 65536) (hc1 : k + 1 ≤ mc) (hs1 : n + N ≤ ms) (kk : ∀ w' T' a, BW w0 T0 w' T' → Nc w0 w' T' a (q5 Γ 8 N (fun _ => none)) t → Kq w T w' T' (fun _ => True) → Go l Γ M dp mc ms Φ Ψ (k + 1) (n + N) w' pc' L (.ref a :: st)) (hp : pc + 3 = pc' := by rfl) : Go l Γ M dp mc ms Φ Ψ k n w pc L (.int i :: st) :=
  go_wf fun hw => go_anew8 pc' hd hcl hi hN hc1 hs1 (kk _ (tset T w.1 t) w.1 b.new ⟨if_pos rfl, if_pos rfl, b.1⟩ (Kq.new hw)) hp
theorem gn_anewA {index : Nat} {i : Int32} (t : Nat) (b : BW w0 T0 w T) (pc' : Nat) (hd : decode M.2.1 pc = .ok (.anewarray index, 3)) (hcl : Cond.classLink M.1.cls index (FieldType.array .int).toString ∈ zGood) (hi : i = nI N) (hN : N ≤ 65536) (hc1 : k + 1 ≤ mc) (hs1 : n + N ≤ ms) (kk : ∀ w' T' a, BW w0 T0 w' T' → Nc w0 w' T' a (q5 Γ 4 N (fun _ => none)) t → Kq w T w' T' (fun _ => True) → Go l Γ M dp mc ms Φ Ψ (k + 1) (n + N) w' pc' L (.ref a :: st)) (hp : pc + 3 = pc' := by rfl) : Go l Γ M dp mc ms Φ Ψ k n w pc L (.int i :: st) :=
  go_wf fun hw => go_anewA pc' hd hcl hi hN hc1 hs1 (kk _ (tset T w.1 t) w.1 b.new ⟨if_pos rfl, if_pos rfl, b.1⟩ (Kq.new hw)) hp
theorem gn_newi {i : Int32} (N t : Nat) (b : BW w0 T0 w T) (pc' : Nat) (hd : decode M.2.1 pc = .ok (.newarray .int, 2)) (hi : i = nI N) (hN : N ≤ 65536) (hc1 : k + 1 ≤ mc) (hs1 : n + N ≤ ms) (kk : ∀ w' T' a, BW w0 T0 w' T' → Nc w0 w' T' a (i5 Γ N (fun _ => 0)) t → Kq w T w' T' (fun _ => True) → Go l Γ M dp mc ms Φ Ψ (k + 1) (n + N) w' pc' L (.ref a :: st)) (hp : pc + 2 = pc' := by rfl) : Go l Γ M dp mc ms Φ Ψ k n w pc L (.int i :: st) :=
  go_wf fun hw => go_newarray_i pc' hd hi hN hc1 hs1 ac_int (kk _ (tset T w.1 t) w.1 b.new ⟨if_pos rfl, if_pos rfl, b.1⟩ (Kq.new hw)) hp
def l5 (Γ : ZG) (N : Nat) (f : Nat → Int64) : va_E := .inl (Γ.2.2.1 2, N, .inr (.inl f))
theorem gn_newl {i : Int32} (N t : Nat) (b : BW w0 T0 w T) (pc' : Nat) (hd : decode M.2.1 pc = .ok (.newarray .long, 2)) (hi : i = nI N) (hN : N ≤ 65536) (hc1 : k + 1 ≤ mc) (hs1 : n + N ≤ ms) (kk : ∀ w' T' a, BW w0 T0 w' T' → Nc w0 w' T' a (l5 Γ N (fun _ => 0)) t → Kq w T w' T' (fun _ => True) → Go l Γ M dp mc ms Φ Ψ (k + 1) (n + N) w' pc' L (.ref a :: st)) (hp : pc + 2 = pc' := by rfl) : Go l Γ M dp mc ms Φ Ψ k n w pc L (.int i :: st) :=
  go_wf fun hw => go_newarray_l pc' hd hi hN hc1 hs1 ac_long (kk _ (tset T w.1 t) w.1 b.new ⟨if_pos rfl, if_pos rfl, b.1⟩ (Kq.new hw)) hp
theorem gn_put {index t : Nat} {v : Value} {ty : FieldType} (h : Nc w0 w T a (.inr (ci, fs)) t) (b : BW w0 T0 w T) (pc' : Nat) (hd : decode M.2.1 pc = .ok (.putfield index, 3)) (F : zFp M.1.cls index ci j ty) (hl9 : j < fs.length) (hn : narrow ty v = v) (hfit : fits ty v = true) (kk : ∀ w', BW w0 T0 w' T → Nc w0 w' T a (.inr (ci, fs.set j v)) t → Kq w T w' T (fun z => z ≠ t) → Go l Γ M dp mc ms Φ Ψ k n w' pc' L st) (hp : pc + 3 = pc' := by rfl) : Go l Γ M dp mc ms Φ Ψ k n w pc L (v :: .ref a :: st) :=
  go_put pc' hd F h.1 hl9 hn hfit (kk _ (b.put h.2.2) ⟨if_pos rfl, h.2⟩ (Kq.set h.2.1)) hp
theorem gn_ast7 {t i c : Nat} {x : Int32} {gs : List Value} {f : Nat → Option Nat} (h : Nc w0 w T a (q5 Γ 7 N f) t) (b : BW w0 T0 w T) (hv : w.2 c = some (.inr (7, gs))) (hx : x = nI i) (hi : i < N) (hN : N < 2 ^ 31) (pc' : Nat) (hd : decode M.2.1 pc = .ok (.aastore, 1)) (kk : ∀ w', BW w0 T0 w' T → Nc w0 w' T a (q5 Γ 7 N (va_up f i (some c))) t → Kq w T w' T (fun z => z ≠ t) → Go l Γ M dp mc ms Φ Ψ k n w' pc' L st) (hp : pc + 1 = pc' := by rfl) : Go l Γ M dp mc ms Φ Ψ k n w pc L (.ref c :: .int x :: .ref a :: st) := by
  refine go_aast7 pc' hd h.1 hv (by rw [hx]; exact vp_in_nI hi hN) ?_ hp
  rw [hx, nI_clamp (by omega)]
  exact kk _ (b.put h.2.2) ⟨if_pos rfl, h.2⟩ (Kq.set h.2.1)
theorem gn_ast8 {t i c : Nat} {x : Int32} {gs : List Value} {f : Nat → Option Nat} (h : Nc w0 w T a (q5 Γ 8 N f) t) (b : BW w0 T0 w T) (hv : w.2 c = some (.inr (10, gs))) (hx : x = nI i) (hi : i < N) (hN : N < 2 ^ 31) (pc' : Nat) (hd : decode M.2.1 pc = .ok (.aastore, 1)) (kk : ∀ w', BW w0 T0 w' T → Nc w0 w' T a (q5 Γ 8 N (va_up f i (some c))) t → Kq w T w' T (fun z => z ≠ t) → Go l Γ M dp mc ms Φ Ψ k n w' pc' L st) (hp : pc + 1 = pc' := by rfl) : Go l Γ M dp mc ms Φ Ψ k n w pc L (.ref c :: .int x :: .ref a :: st) := by
  refine go_aast8 pc' hd h.1 hv (by rw [hx]; exact vp_in_nI hi hN) ?_ hp
  rw [hx, nI_clamp (by omega)]
  exact kk _ (b.put h.2.2) ⟨if_pos rfl, h.2⟩ (Kq.set h.2.1)
theorem gn_astA {t i c K : Nat} {x : Int32} {g : Nat → Int32} {f : Nat → Option Nat} (h : Nc w0 w T a (q5 Γ 4 N f) t) (b : BW w0 T0 w T) (hv : w.2 c = some (i5 Γ K g)) (hx : x = nI i) (hi : i < N) (hN : N < 2 ^ 31) (pc' : Nat) (hd : decode M.2.1 pc = .ok (.aastore, 1)) (kk : ∀ w', BW w0 T0 w' T → Nc w0 w' T a (q5 Γ 4 N (va_up f i (some c))) t → Kq w T w' T (fun z => z ≠ t) → Go l Γ M dp mc ms Φ Ψ k n w' pc' L st) (hp : pc + 1 = pc' := by rfl) : Go l Γ M dp mc ms Φ Ψ k n w pc L (.ref c :: .int x :: .ref a :: st) := by
  refine go_aastA pc' hd h.1 hv (by rw [hx]; exact vp_in_nI hi hN) ?_ hp
  rw [hx, nI_clamp (by omega)]
  exact kk _ (b.put h.2.2) ⟨if_pos rfl, h.2⟩ (Kq.set h.2.1)
theorem gn_last {t : Nat} (i : Nat) {x : Int32} {v : Int64} {f : Nat → Int64} (h : Nc w0 w T a (l5 Γ N f) t) (b : BW w0 T0 w T) (hx : x = nI i) (hi : i < N) (hN : N < 2 ^ 31) (pc' : Nat) (hd : decode M.2.1 pc = .ok (.lastore, 1)) (kk : ∀ w', BW w0 T0 w' T → Nc w0 w' T a (l5 Γ N (vp_updL f i v)) t → Kq w T w' T (fun z => z ≠ t) → Go l Γ M dp mc ms Φ Ψ k n w' pc' L st) (hp : pc + 1 = pc' := by rfl) : Go l Γ M dp mc ms Φ Ψ k n w pc L (.long v :: .int x :: .ref a :: st) := by
  refine go_last pc' hd h.1 (by rw [hx]; exact vp_in_nI hi hN) ?_ hp
  rw [hx, nI_clamp (by omega)]
  exact kk _ (b.put h.2.2) ⟨if_pos rfl, h.2⟩ (Kq.set h.2.1)
theorem gn_iast {t : Nat} (i : Nat) {x v : Int32} {f : Nat → Int32} (h : Nc w0 w T a (i5 Γ N f) t) (b : BW w0 T0 w T) (hx : x = nI i) (hi : i < N) (hN : N < 2 ^ 31) (pc' : Nat) (hd : decode M.2.1 pc = .ok (.iastore, 1)) (kk : ∀ w', BW w0 T0 w' T → Nc w0 w' T a (i5 Γ N (upd f i v)) t → Kq w T w' T (fun z => z ≠ t) → Go l Γ M dp mc ms Φ Ψ k n w' pc' L st) (hp : pc + 1 = pc' := by rfl) : Go l Γ M dp mc ms Φ Ψ k n w pc L (.int v :: .int x :: .ref a :: st) := by
  refine go_iast pc' hd h.1 (by rw [hx]; exact vp_in_nI hi hN) ?_ hp
  rw [hx, nI_clamp (by omega)]
  exact kk _ (b.put h.2.2) ⟨if_pos rfl, h.2⟩ (Kq.set h.2.1)
/-- a new call's constructor -/
theorem gn_iniT {index c : Nat} (pc' : Nat) (hd : decode M.2.1 pc = .ok (.invokespecial index, 3)) (V : zVin M.1.cls index mX10_init 0) (hdp : 2 ≤ dp) (h1 : k ≤ mc) (h2 : n ≤ ms) (hst : (st.map fun v => v.category).sum ≤ 8) (kk : Go l Γ M dp mc ms Φ Ψ k n w pc' L st) (hp : pc + 3 = pc' := by rfl) : Go l Γ M dp mc ms Φ Ψ k n w pc L (.ref c :: st) := by
  refine go_callIN (As := []) pc' hd V ct_X10_init hdp (by decide) h1 h2 hst ?_ hp
  rintro v w2 ⟨rfl, rfl⟩
  exact kk
/-- a new leg's constructor -/
theorem gn_iniL {index t : Nat} (h : Nc w0 w T a (.inr (7, z7)) t) (b : BW w0 T0 w T) (ht : t ≠ 5) (pc' : Nat) (hd : decode M.2.1 pc = .ok (.invokespecial index, 3)) (V : zVin M.1.cls index mX7_init 0) (hdp : 2 ≤ dp) (h1 : k + 1 ≤ mc) (h2 : n + 2 ≤ ms) (hst : (st.map fun v => v.category).sum ≤ 8) (kk : ∀ w' T' r, BW w0 T0 w' T' → Nc w0 w' T' a (.inr (7, z7.set 7 (.ref r))) t → Nc w0 w' T' r (q5 Γ 4 2 (fun _ => none)) 5 → Kq w T w' T' (fun z => z ≠ t) → Go l Γ M dp mc ms Φ Ψ (k + 1) (n + 2) w' pc' L st) (hp : pc + 3 = pc' := by rfl) : Go l Γ M dp mc ms Φ Ψ k n w pc L (.ref a :: st) := by
  refine go_wf fun hw => go_callIN (As := []) pc' hd V (ct_X7_init h.1) hdp (by decide) h1 h2 hst ?_ hp
  rintro v w2 ⟨rfl, ha, rfl⟩
  have hT : tset T w.1 5 a = t := (if_neg (by omega)).trans h.2.1
  refine kk _ (tset T w.1 5) w.1 (b.new.put h.2.2) ⟨if_pos rfl, hT, h.2.2⟩ ⟨(if_neg (by omega)).trans (if_pos rfl), if_pos rfl, b.1⟩ ?_
  exact (Kq.new hw).trans (Kq.set hT)
/-- a leg that is being made is closed -/
theorem gn_close {index t t2 : Nat} {v0 v1 v6 v7 : Value} {i2 i3 i4 i5' s r : Int32} (h : Nc w0 w T a (.inr (7, [v0, v1, .int i2, .int i3, .int i4, .int i5', v6, v7])) t) (b : BW w0 T0 w T) (pc' : Nat) (hd : decode M.2.1 pc = .ok (.invokevirtual index, 3)) (V : zV M.1.cls index mX7_close 2) (hdp : 2 ≤ dp) (h1 : k + 1 ≤ mc) (h2 : n + 2 ≤ ms) (hst : (st.map fun v => v.category).sum ≤ 8) (kk : ∀ w' T' c, BW w0 T0 w' T' → Nc w0 w' T' a (.inr (7, [v0, v1, .int s, .int r, .int i4, .int i5', .null, .ref c])) t → Nc w0 w' T' c (q5 Γ 4 2 (fun _ => none)) t2 → Kq w T w' T' (fun z => z ≠ t) → Go l Γ M dp mc ms Φ Ψ (k + 1) (n + 2) w' pc' L st) (hp : pc + 3 = pc' := by rfl) : Go l Γ M dp mc ms Φ Ψ k n w pc L (.int r :: .int s :: .ref a :: st) := by
  refine go_wf fun hw => go_callV pc' [.int s, .int r] hd V h.1 rfl (ct_X7_close h.1) hdp (by decide) h1 h2 hst ?_ hp
  rintro v w2 ⟨rfl, ha, z1, z2, z3, z4⟩
  have hk : Kq w T w2 (tset T w.1 t2) (fun z => z ≠ t) := fun q c h3 h4 => by
    have hq := hw q c h3
    exact ⟨(z2 q (fun z => h4 (by rw [z]; exact h.2.1)) hq).trans h3, if_neg (by omega)⟩
  have hT : tset T w.1 t2 a = t := (if_neg (by omega)).trans h.2.1
  refine kk w2 (tset T w.1 t2) w.1 ⟨by have := b.1; omega, fun q hq => ?_⟩ ⟨z4, hT, h.2.2⟩ ⟨z3, if_pos rfl, b.1⟩ hk
  have h3 := h.2.2
  have h4 := b.1
  exact ⟨(z2 q (by omega) (by omega)).trans (b.2 q hq).1, (if_neg (by omega)).trans (b.2 q hq).2⟩
end
end LNew
