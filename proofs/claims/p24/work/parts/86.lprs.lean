section LPrs
/-! the written text, read again: pure -/
def Tx (B : ZB) : Nat → List Nat → Prop
  | _, [] => True
  | p, a :: s => B p = nI a ∧ Tx B (p + 1) s
theorem Tx.app {B : ZB} : ∀ {s t : List Nat} {p : Nat}, Tx B p (s ++ t) ↔ Tx B p s ∧ Tx B (p + s.length) t
  | [], t, p => by simp [Tx]
  | a :: s, t, p => by
    show (B p = nI a ∧ Tx B (p + 1) (s ++ t)) ↔ (B p = nI a ∧ Tx B (p + 1) s) ∧ Tx B (p + (s.length + 1)) t
    rw [Tx.app (s := s), and_assoc, show p + 1 + s.length = p + (s.length + 1) by omega]
theorem Tx.at {B : ZB} : ∀ {s : List Nat} {p : Nat}, Tx B p s → ∀ i, i < s.length → B (p + i) = nI (s.getD i 0)
  | [], p, _, i, hi => absurd hi (Nat.not_lt_zero _)
  | a :: s, p, h, 0, _ => h.1
  | a :: s, p, h, i + 1, hi => by
    have := Tx.at h.2 i (by simp at hi; omega)
    rw [show p + (i + 1) = p + 1 + i by omega, this]
    rfl
theorem getD_mem : ∀ (ds : List Nat) (i : Nat), i < ds.length → ds.getD i 0 ∈ ds
  | [], i, h => absurd h (Nat.not_lt_zero _)
  | a :: ds, 0, _ => List.mem_cons_self ..
  | a :: ds, i + 1, h => List.mem_cons_of_mem _ (getD_mem ds i (by simp at h; omega))
theorem s128 : ∀ a, a < 128 → decide (48 ≤ nI a ∧ nI a ≤ 57) = decide (48 ≤ a ∧ a ≤ 57) ∧ decide (97 ≤ nI a ∧ nI a ≤ 122) = decide (97 ≤ a ∧ a ≤ 122) ∧ (48 ≤ a → (nI a - 48).toNatClampNeg = a - 48) := by decide +kernel
theorem n128 {a b : Nat} (ha : a < 128) (hb : b < 128) (h : nI a = nI b) : a = b := by
  have := congrArg Int32.toNatClampNeg h
  rwa [nI_clamp (by omega), nI_clamp (by omega)] at this
theorem isD_n {B : ZB} {p a : Nat} (h : B p = nI a) (ha : a < 128) : isD B p = decide (48 ≤ a ∧ a ≤ 57) := by
  unfold isD; rw [h]; exact (s128 a ha).1
theorem isL_n {B : ZB} {p a : Nat} (h : B p = nI a) (ha : a < 128) : isL B p = decide (97 ≤ a ∧ a ≤ 122) := by
  unfold isL; rw [h]; exact (s128 a ha).2.1
theorem ne_n {B : ZB} {p a b : Nat} (h : B p = nI a) (ha : a < 128) (hb : b < 128) (hn : a ≠ b) : B p ≠ nI b := fun z => hn (n128 ha hb (h.symm.trans z))
theorem sp_0 {B : ZB} {p : Nat} (h : B p ≠ 32) : sp B p = p := runW_f (decide_eq_false h)
theorem sp_1 {B : ZB} {p : Nat} (hp : p ≤ 600) (h : B p = 32) (h2 : B (p + 1) ≠ 32) : sp B p = p + 1 := by
  unfold sp
  rw [show 601 - p = (600 - p) + 1 by omega, runW_t (decide_eq_true h), runW_f (decide_eq_false h2)]
/-! numbers -/
theorem vN_list {B : ZB} : ∀ (ds : List Nat) (p v f : Nat), Tx B p ds → (∀ a ∈ ds, 48 ≤ a ∧ a ≤ 57) → isD B (p + ds.length) = false → ds.length ≤ f → vN B f p v = ds.foldl (fun v a => 10 * v + (a - 48)) v
  | [], p, v, f, _, _, h, _ => by
    cases f with
    | zero => rfl
    | succ f =>
      show (if isD B p = true then _ else v) = v
      exact if_neg (by rw [show isD B p = false from h]; decide)
  | a :: ds, p, v, f, ht, ha, h, hf => by
    obtain ⟨f, rfl⟩ : ∃ g, f = g + 1 := ⟨f - 1, by simp at hf; omega⟩
    have h1 := ha a (List.mem_cons_self ..)
    have h2 : isD B p = true := by rw [isD_n ht.1 (by omega)]; exact decide_eq_true h1
    show (if isD B p = true then vN B f (p + 1) (10 * v + (B p - 48).toNatClampNeg) else v) = _
    rw [if_pos h2, ht.1, (s128 a (by omega)).2.2 h1.1]
    exact vN_list ds (p + 1) _ f ht.2 (fun b hb => ha b (List.mem_cons_of_mem _ hb)) (by rw [show p + 1 + ds.length = p + (ds.length + 1) by omega]; exact h) (by simp at hf; omega)
theorem ed_list {B : ZB} {ds : List Nat} {p : Nat} (ht : Tx B p ds) (ha : ∀ a ∈ ds, 48 ≤ a ∧ a ≤ 57) (h : isD B (p + ds.length) = false) (hp : p + ds.length ≤ 601) : ed B p = p + ds.length := by
  refine runW_is _ _ _ (by omega) (by omega) (fun i h1 h2 => ?_) h
  have h3 := ht.at (i - p) (by omega)
  rw [show p + (i - p) = i by omega] at h3
  have h4 : ds.getD (i - p) 0 ∈ ds := by
    exact getD_mem _ _ (by omega)
  have h5 := ha _ h4
  rw [isD_n h3 (by omega)]
  exact decide_eq_true h5
theorem dec_dig {x : Nat} (hx : x ≤ 9999) : ∀ a ∈ dec x, 48 ≤ a ∧ a ≤ 57 := by
  intro a ha
  unfold dec at ha
  split at ha
  · simp at ha; omega
  split at ha
  · simp at ha; omega
  split at ha
  · simp at ha; omega
  · simp at ha; omega
theorem dec_val {x : Nat} (hx : x ≤ 9999) : (dec x).foldl (fun v a => 10 * v + (a - 48)) 0 = x := by
  unfold dec
  split
  · simp
  split
  · simp; omega
  split
  · simp; omega
  · simp; omega
theorem dec_pos {x : Nat} : 1 ≤ (dec x).length ∧ (dec x).length ≤ 4 := by
  rw [dec_len]
  split
  · omega
  split
  · omega
  split
  · omega
  · omega
theorem num_dec {B : ZB} {x lo hi p : Nat} (ht : Tx B p (dec x)) (hx : x ≤ 9999) (h : isD B (p + (dec x).length) = false) (hp : p ≤ 590) (h1 : lo ≤ x) (h2 : x ≤ hi) : isD B p = true ∧ num B lo hi p = .inr (sp B (p + (dec x).length), x) := by
  have hl := dec_pos (x := x)
  have hd : isD B p = true := by
    have h3 := ht.at 0 (by omega)
    have h4 : (dec x).getD 0 0 ∈ dec x := by
      exact getD_mem _ _ (by omega)
    have h5 := dec_dig hx _ h4
    rw [show isD B p = _ from isD_n h3 (by omega)]
    exact decide_eq_true h5
  refine ⟨hd, ?_⟩
  have hv : valN B p = x := (vN_list (dec x) p 0 (601 - p) ht (dec_dig hx) h (by omega)).trans (dec_val hx)
  unfold num
  rw [if_pos hd, hv, if_pos ⟨h1, h2⟩, ed_list ht (dec_dig hx) h (by omega)]
/-! words -/
theorem wd_of {B : ZB} {p : Nat} {w : String} (ht : Tx B p (chs w)) (hl : (chs w).length = w.length) (h : isL B (p + w.length) = false) : wd B w p :=
  ⟨fun i hi => ht.at i (by omega), h⟩
theorem wd_no {B : ZB} {q a : Nat} {t : String} (hc : B q = nI a) (h0 : 0 < t.length) (h1 : zch t 0 ≠ nI a) : ¬ wd B t q := fun z => h1 ((z.1 0 h0).symm.trans hc)
/-! the tree, without its cells -/
def PLx (cs : List Int32) (tx : List Nat) (ow : Nat) : Prop := ow = 3 ∧ ∃ x, (x ≤ 9999 ∧ cs = [nI x] ∧ tx = dec x) ∨ (x < 4 ∧ cs = [-1 - nI x] ∧ tx = vrs x)
def PTx : Nat → List Int32 → List Nat → Nat → Prop
  | 0, cs, tx, ow => PLx cs tx ow
  | d + 1, cs, tx, ow => PLx cs tx ow ∨ ∃ (kd : Nat) (ca : List Int32) (ta : List Nat) (oa : Nat) (cb : List Int32) (tb : List Nat) (ob : Nat), (2 ≤ kd ∧ kd ≤ 5) ∧ PTx d ca ta oa ∧ PTx d cb tb ob ∧ cs = ca ++ (cb ++ [opc kd]) ∧ ow = (if kd < 4 then 1 else 2) ∧ tx = par' ow oa ta ++ (opt kd ++ par' (ow + 1) ob tb)
theorem pl_nd {w : ZW} {T : LT} {t ow : Nat} {cs : List Int32} {tx : List Nat} (h : NDL w T t cs tx ow) : PLx cs tx ow := by
  obtain ⟨kd, x, -, -, h3, h4⟩ := h
  rcases h4 with ⟨-, h5⟩ | ⟨-, h5⟩
  · exact ⟨h3, x, Or.inl h5⟩
  · exact ⟨h3, x, Or.inr h5⟩
theorem pt_nd {w : ZW} {T : LT} : ∀ {d t ow : Nat} {cs : List Int32} {tx : List Nat}, ND w T d t cs tx ow → PTx d cs tx ow
  | 0, _, _, _, _, h => pl_nd h
  | d + 1, _, _, _, _, h => by
    rcases h with h | ⟨kd, x, a, b, ca, ta, oa, cb, tb, ob, h0, h1, h2, h3, h4, h5⟩
    · exact Or.inl (pl_nd h)
    · exact Or.inr ⟨kd, ca, ta, oa, cb, tb, ob, h0, pt_nd h3, pt_nd h4, h5⟩
theorem pt_of {d : Nat} {cs : List Int32} {tx : List Nat} {ow : Nat} (h : PLx cs tx ow) : PTx d cs tx ow := by
  cases d with
  | zero => exact h
  | succ d => exact Or.inl h
def Hd (tx : List Nat) : Prop := ∃ a r, tx = a :: r ∧ a < 128 ∧ a ≠ 32
theorem Hd.ne {B : ZB} {p : Nat} {tx : List Nat} (h : Hd tx) (ht : Tx B p tx) : B p ≠ 32 := by
  obtain ⟨a, r, rfl, h1, h2⟩ := h
  exact ne_n (b := 32) ht.1 h1 (by decide) h2
theorem hd_app {s t : List Nat} (h : Hd s) : Hd (s ++ t) := by
  obtain ⟨a, r, rfl, h1, h2⟩ := h
  exact ⟨a, r ++ t, rfl, h1, h2⟩
theorem hd_par {lv ow : Nat} {tx : List Nat} (h : Hd tx) : Hd (par' lv ow tx) := by
  unfold par'
  split
  · exact ⟨40, _, rfl, by decide, by decide⟩
  · exact h
theorem hd_dec {x : Nat} (hx : x ≤ 9999) : Hd (dec x) := by
  have h := dec_dig hx
  have hl := dec_pos (x := x)
  cases hd : dec x with
  | nil => rw [hd] at hl; simp at hl
  | cons a r =>
    have := h a (by rw [hd]; exact List.mem_cons_self ..)
    exact ⟨a, r, rfl, by omega, by omega⟩
theorem hd_vrs {x : Nat} (hx : x < 4) : Hd (vrs x) := by
  rcases (show x = 0 ∨ x = 1 ∨ x = 2 ∨ x = 3 by omega) with rfl | rfl | rfl | rfl
  · exact ⟨108, chs "egs", by decide +kernel, by decide, by decide⟩
  · exact ⟨99, chs "aller", by decide +kernel, by decide, by decide⟩
  · exact ⟨114, chs "eferred", by decide +kernel, by decide, by decide⟩
  · exact ⟨116, chs "ime", by decide +kernel, by decide, by decide⟩
theorem hd_pl {cs : List Int32} {tx : List Nat} {ow : Nat} (h : PLx cs tx ow) : Hd tx := by
  obtain ⟨-, x, ⟨h1, -, rfl⟩ | ⟨h1, -, rfl⟩⟩ := h
  · exact hd_dec h1
  · exact hd_vrs h1
theorem hd_pt : ∀ {d : Nat} {cs : List Int32} {tx : List Nat} {ow : Nat}, PTx d cs tx ow → Hd tx
  | 0, _, _, _, h => hd_pl h
  | d + 1, _, _, _, h => by
    rcases h with h | ⟨kd, ca, ta, oa, cb, tb, ob, h0, h1, h2, -, -, rfl⟩
    · exact hd_pl h
    · exact hd_app (hd_par (hd_pt h1))
theorem ow_pt {d : Nat} {cs : List Int32} {tx : List Nat} {ow : Nat} (h : PTx d cs tx ow) : 1 ≤ ow ∧ ow ≤ 3 := by
  cases d with
  | zero => have := h.1; omega
  | succ d =>
    rcases h with h | ⟨kd, ca, ta, oa, cb, tb, ob, h0, h1, h2, -, rfl, -⟩
    · have := h.1; omega
    · split <;> decide
/-! factors -/
theorem fac_is {B : ZB} {D : Nat} : ∃ sub, fac B D = facS B sub := by
  cases D with
  | zero => exact ⟨_, rfl⟩
  | succ D => exact ⟨_, rfl⟩
theorem fac_leaf {B : ZB} {D p : Nat} {c0 cs : List Int32} {tx : List Nat} {ow : Nat} (h : PLx cs tx ow) (ht : Tx B p tx) (hp : p + tx.length ≤ 590) (h1 : isD B (p + tx.length) = false) (h2 : isL B (p + tx.length) = false) : fac B D (p, c0) = .inr (sp B (p + tx.length), c0 ++ cs) := by
  obtain ⟨sub, e⟩ := fac_is (B := B) (D := D)
  rw [e]
  obtain ⟨-, x, ⟨hx, rfl, rfl⟩ | ⟨hx, rfl, rfl⟩⟩ := h
  · obtain ⟨h3, h4⟩ := num_dec (lo := 0) (hi := 9999) ht hx h1 (by omega) (Nat.zero_le _) hx
    unfold facS
    rw [if_pos h3, h4]
  · rcases (show x = 0 ∨ x = 1 ∨ x = 2 ∨ x = 3 by omega) with rfl | rfl | rfl | rfl
    · have hv : vrs 0 = chs "legs" := by decide +kernel
      have hl : (chs "legs").length = 4 := by decide +kernel
      rw [hv] at ht h1 h2 hp ⊢
      rw [hl] at h1 h2 hp ⊢
      have hc : B p = nI 108 := (ht.at 0 (by rw [hl]; decide)).trans (by decide +kernel)
      have hw : wd B "legs" p := wd_of ht (by decide +kernel) h2
      unfold facS
      rw [if_neg (show ¬ isD B p = true by rw [isD_n hc (by decide)]; decide), if_pos hw, show -1 - nI 0 = -1 by decide]
    · have hv : vrs 1 = chs "caller" := by decide +kernel
      have hl : (chs "caller").length = 6 := by decide +kernel
      rw [hv] at ht h1 h2 hp ⊢
      rw [hl] at h1 h2 hp ⊢
      have hc : B p = nI 99 := (ht.at 0 (by rw [hl]; decide)).trans (by decide +kernel)
      have hw : wd B "caller" p := wd_of ht (by decide +kernel) h2
      unfold facS
      rw [if_neg (show ¬ isD B p = true by rw [isD_n hc (by decide)]; decide), if_neg (wd_no (t := "legs") hc (by decide +kernel) (by decide +kernel)), if_pos hw, show -1 - nI 1 = -2 by decide]
    · have hv : vrs 2 = chs "referred" := by decide +kernel
      have hl : (chs "referred").length = 8 := by decide +kernel
      rw [hv] at ht h1 h2 hp ⊢
      rw [hl] at h1 h2 hp ⊢
      have hc : B p = nI 114 := (ht.at 0 (by rw [hl]; decide)).trans (by decide +kernel)
      have hw : wd B "referred" p := wd_of ht (by decide +kernel) h2
      unfold facS
      rw [if_neg (show ¬ isD B p = true by rw [isD_n hc (by decide)]; decide), if_neg (wd_no (t := "legs") hc (by decide +kernel) (by decide +kernel)), if_neg (wd_no (t := "caller") hc (by decide +kernel) (by decide +kernel)), if_pos hw, show -1 - nI 2 = -3 by decide]
    · have hv : vrs 3 = chs "time" := by decide +kernel
      have hl : (chs "time").length = 4 := by decide +kernel
      rw [hv] at ht h1 h2 hp ⊢
      rw [hl] at h1 h2 hp ⊢
      have hc : B p = nI 116 := (ht.at 0 (by rw [hl]; decide)).trans (by decide +kernel)
      have hw : wd B "time" p := wd_of ht (by decide +kernel) h2
      unfold facS
      rw [if_neg (show ¬ isD B p = true by rw [isD_n hc (by decide)]; decide), if_neg (wd_no (t := "legs") hc (by decide +kernel) (by decide +kernel)), if_neg (wd_no (t := "caller") hc (by decide +kernel) (by decide +kernel)), if_neg (wd_no (t := "referred") hc (by decide +kernel) (by decide +kernel)), if_pos hw, show -1 - nI 3 = -4 by decide]
theorem fac_par {B : ZB} {D p q q2 : Nat} {c0 c1 : List Int32} (hb : B p = 40) (hp : p ≤ 590) (h1 : sp B (p + 1) = p + 1) (h2 : smm B (fac B D) (p + 1, c0) = .inr (q, c1)) (h3 : B q = 41) (h4 : sp B (q + 1) = q2) : fac B (D + 1) (p, c0) = .inr (q2, c1) := by
  have hc : B p = nI 40 := hb
  show facS B (some (smm B (fac B D))) (p, c0) = _
  unfold facS
  rw [if_neg (show ¬ isD B p = true by rw [isD_n hc (by decide)]; decide), if_neg (wd_no (t := "legs") hc (by decide +kernel) (by decide +kernel)), if_neg (wd_no (t := "caller") hc (by decide +kernel) (by decide +kernel)), if_neg (wd_no (t := "referred") hc (by decide +kernel) (by decide +kernel)), if_neg (wd_no (t := "time") hc (by decide +kernel) (by decide +kernel)), if_pos hb]
  dsimp only
  rw [h1, h2]
  dsimp only
  rw [if_pos h3, h4]
/-! chains -/
theorem opL_no {B : ZB} {o1 o2 c1 c2 : Int32} {F : XS → PR XS} {f : Nat} {s : XS} (h1 : B s.1 ≠ o1) (h2 : B s.1 ≠ o2) : opL B o1 o2 c1 c2 F f s = .inr s := by
  cases f with
  | zero => rfl
  | succ f => exact if_neg (fun z => z.elim h1 h2)
theorem opL_go {B : ZB} {o1 o2 c1 c2 : Int32} {F : XS → PR XS} {f q : Nat} {s s2 : XS} {c : Int32} (h1 : (B s.1 = o1 ∧ c = c1) ∨ (B s.1 = o2 ∧ B s.1 ≠ o1 ∧ c = c2)) (hq : sp B (s.1 + 1) = q) (h2 : F (q, s.2) = .inr s2) : opL B o1 o2 c1 c2 F (f + 1) s = opL B o1 o2 c1 c2 F f (s2.1, s2.2 ++ [c]) := by
  have h3 : B s.1 = o1 ∨ B s.1 = o2 := h1.elim (fun z => Or.inl z.1) (fun z => Or.inr z.1)
  show (if B s.1 = o1 ∨ B s.1 = o2 then _ else _) = _
  rw [if_pos h3, hq, h2]
  dsimp only
  rcases h1 with ⟨h4, rfl⟩ | ⟨h4, h5, rfl⟩
  · rw [if_pos h4]
  · rw [if_neg h5]
theorem op_sp {B : ZB} {kd p : Nat} (hk : 2 ≤ kd ∧ kd ≤ 5) (ht : Tx B p (opt kd)) (hp : p ≤ 590) (hn : B (p + (opt kd).length) ≠ 32) : (isD B p = false ∧ isL B p = false) ∧ ∃ s, sp B p = s ∧ sp B (s + 1) = p + (opt kd).length ∧ ((kd = 2 ∧ B s = 43) ∨ (kd = 3 ∧ B s = 45) ∨ (kd = 4 ∧ B s = 42) ∨ (kd = 5 ∧ B s = 47)) := by
  rcases (show kd = 2 ∨ kd = 3 ∨ kd = 4 ∨ kd = 5 by omega) with rfl | rfl | rfl | rfl
  · have h0 : B p = nI 43 := ht.1
    refine ⟨⟨by rw [isD_n h0 (by decide)]; decide, by rw [isL_n h0 (by decide)]; decide⟩, p, sp_0 (by rw [h0]; decide), sp_0 hn, Or.inl ⟨rfl, h0⟩⟩
  · have h0 : B p = nI 32 := ht.1
    have h1 : B (p + 1) = nI 45 := ht.2.1
    have h2 : B (p + 1 + 1) = nI 32 := ht.2.2.1
    refine ⟨⟨by rw [isD_n h0 (by decide)]; decide, by rw [isL_n h0 (by decide)]; decide⟩, p + 1, sp_1 (by omega) h0 (by rw [h1]; decide), sp_1 (by omega) h2 hn, Or.inr (Or.inl ⟨rfl, h1⟩)⟩
  · have h0 : B p = nI 42 := ht.1
    have h1 : B (p + 1) = nI 32 := ht.2.1
    refine ⟨⟨by rw [isD_n h0 (by decide)]; decide, by rw [isL_n h0 (by decide)]; decide⟩, p, sp_0 (by rw [h0]; decide), sp_1 (by omega) h1 hn, Or.inr (Or.inr (Or.inl ⟨rfl, h0⟩))⟩
  · have h0 : B p = nI 47 := ht.1
    refine ⟨⟨by rw [isD_n h0 (by decide)]; decide, by rw [isL_n h0 (by decide)]; decide⟩, p, sp_0 (by rw [h0]; decide), sp_0 hn, Or.inr (Or.inr (Or.inr ⟨rfl, h0⟩))⟩
def FF (B : ZB) (D d : Nat) : Prop := ∀ (p q : Nat) (c0 cs : List Int32) (tx : List Nat) (ow : Nat), PTx d cs tx ow → Tx B p (par' 3 ow tx) → q = p + (par' 3 ow tx).length → q ≤ 590 → isD B q = false → isL B q = false → fac B D (p, c0) = .inr (sp B q, c0 ++ cs)
def TR (B : ZB) (D d p q : Nat) (c0 cs : List Int32) : Prop := ∃ j, j ≤ d ∧ trm B (fac B D) (p, c0) = opL B 42 47 (-7) (-8) (fac B D) (601 - j) (sp B q, c0 ++ cs)
def TT (B : ZB) (D d : Nat) : Prop := ∀ (p q : Nat) (c0 cs : List Int32) (tx : List Nat) (ow : Nat), PTx d cs tx ow → 2 ≤ ow → Tx B p tx → q = p + tx.length → q ≤ 590 → isD B q = false → isL B q = false → TR B D d p q c0 cs
def SS (B : ZB) (D d : Nat) : Prop := ∀ (p q : Nat) (c0 cs : List Int32) (tx : List Nat) (ow : Nat), PTx d cs tx ow → Tx B p tx → q = p + tx.length → q ≤ 590 → isD B q = false → isL B q = false → B (sp B q) ≠ 42 → B (sp B q) ≠ 47 → ∃ j, j ≤ d ∧ smm B (fac B D) (p, c0) = opL B 43 45 (-5) (-6) (trm B (fac B D)) (601 - j) (sp B q, c0 ++ cs)
theorem tr_f {B : ZB} {D d p q : Nat} {c0 cs : List Int32} (h : fac B D (p, c0) = .inr (sp B q, c0 ++ cs)) : TR B D d p q c0 cs :=
  ⟨0, Nat.zero_le _, by unfold trm; rw [h]⟩
theorem tr_end {B : ZB} {D d p q : Nat} {c0 cs : List Int32} (h : TR B D d p q c0 cs) (h1 : B (sp B q) ≠ 42) (h2 : B (sp B q) ≠ 47) : trm B (fac B D) (p, c0) = .inr (sp B q, c0 ++ cs) := by
  obtain ⟨j, -, e⟩ := h
  rw [e]
  exact opL_no h1 h2
theorem sm_t {B : ZB} {D d p q : Nat} {c0 cs : List Int32} (h : TR B D d p q c0 cs) (h1 : B (sp B q) ≠ 42) (h2 : B (sp B q) ≠ 47) : ∃ j, j ≤ d ∧ smm B (fac B D) (p, c0) = opL B 43 45 (-5) (-6) (trm B (fac B D)) (601 - j) (sp B q, c0 ++ cs) :=
  ⟨0, Nat.zero_le _, by unfold smm; rw [tr_end h h1 h2]⟩
/-- a term, in parentheses if it needs them -/
theorem tt_par {B : ZB} {D d : Nat} (hF : FF B D d) (hT : TT B D d) (p q : Nat) (c0 cs : List Int32) (tx : List Nat) (ow : Nat) (h : PTx d cs tx ow) (ht : Tx B p (par' 2 ow tx)) (hq : q = p + (par' 2 ow tx).length) (hq2 : q ≤ 590) (h1 : isD B q = false) (h2 : isL B q = false) : TR B D d p q c0 cs := by
  by_cases h3 : ow < 2
  · have e : par' 2 ow tx = par' 3 ow tx := by unfold par'; rw [if_pos h3, if_pos (by omega)]
    rw [e] at ht hq
    exact tr_f (hF p q c0 cs tx ow h ht hq hq2 h1 h2)
  · have e : par' 2 ow tx = tx := if_neg h3
    rw [e] at ht hq
    exact hT p q c0 cs tx ow h (by omega) ht hq hq2 h1 h2
theorem tt_leaf {B : ZB} {D d p q : Nat} {c0 cs : List Int32} {tx : List Nat} {ow : Nat} (h : PLx cs tx ow) (ht : Tx B p tx) (hq : q = p + tx.length) (hq2 : q ≤ 590) (h1 : isD B q = false) (h2 : isL B q = false) : TR B D d p q c0 cs := by
  subst hq
  exact tr_f (fac_leaf h ht hq2 h1 h2)
theorem tt_node {B : ZB} {D d : Nat} (hd : d ≤ 100) (hF : FF B D d) (hT : TT B D d) {kd p q : Nat} {c0 ca cb : List Int32} {ta tb : List Nat} {oa ob : Nat} (hk : 4 ≤ kd ∧ kd ≤ 5) (ha : PTx d ca ta oa) (hb : PTx d cb tb ob) (ht : Tx B p (par' 2 oa ta ++ (opt kd ++ par' 3 ob tb))) (hq : q = p + (par' 2 oa ta ++ (opt kd ++ par' 3 ob tb)).length) (hq2 : q ≤ 590) (h1 : isD B q = false) (h2 : isL B q = false) : TR B D (d + 1) p q c0 (ca ++ (cb ++ [opc kd])) := by
  obtain ⟨t1, t2⟩ := Tx.app.mp ht
  obtain ⟨t3, t4⟩ := Tx.app.mp t2
  simp only [List.length_append] at hq
  obtain ⟨⟨g1, g2⟩, s, g3, g4, g5⟩ := op_sp ⟨by omega, hk.2⟩ t3 (by omega) ((hd_par (hd_pt hb)).ne t4)
  obtain ⟨j, hj, e1⟩ := tt_par hF hT p _ c0 ca ta oa ha t1 rfl (by omega) g1 g2
  have e2 := hF _ q (c0 ++ ca) cb tb ob hb t4 (by omega) hq2 h1 h2
  refine ⟨j + 1, by omega, ?_⟩
  rw [e1, show 601 - j = (601 - (j + 1)) + 1 by omega, g3]
  rw [opL_go (c := opc kd) (q := p + (par' 2 oa ta).length + (opt kd).length) (s2 := (sp B q, c0 ++ ca ++ cb)) (by
    rcases g5 with ⟨rfl, g⟩ | ⟨rfl, g⟩ | ⟨rfl, g⟩ | ⟨rfl, g⟩
    · omega
    · omega
    · exact Or.inl ⟨g, by decide⟩
    · exact Or.inr ⟨g, by rw [show B ((s, c0 ++ ca) : XS).1 = 47 from g]; decide, by decide⟩) g4 e2]
  simp only [List.append_assoc]
theorem ss_node {B : ZB} {D d : Nat} (hd : d ≤ 100) (hF : FF B D d) (hT : TT B D d) (hS : SS B D d) {kd p q : Nat} {c0 ca cb : List Int32} {ta tb : List Nat} {oa ob : Nat} (hk : 2 ≤ kd ∧ kd ≤ 3) (ha : PTx d ca ta oa) (hb : PTx d cb tb ob) (ht : Tx B p (ta ++ (opt kd ++ par' 2 ob tb))) (hq : q = p + (ta ++ (opt kd ++ par' 2 ob tb)).length) (hq2 : q ≤ 590) (h1 : isD B q = false) (h2 : isL B q = false) (h3 : B (sp B q) ≠ 42) (h4 : B (sp B q) ≠ 47) : ∃ j, j ≤ d + 1 ∧ smm B (fac B D) (p, c0) = opL B 43 45 (-5) (-6) (trm B (fac B D)) (601 - j) (sp B q, c0 ++ (ca ++ (cb ++ [opc kd]))) := by
  obtain ⟨t1, t2⟩ := Tx.app.mp ht
  obtain ⟨t3, t4⟩ := Tx.app.mp t2
  simp only [List.length_append] at hq
  obtain ⟨⟨g1, g2⟩, s, g3, g4, g5⟩ := op_sp ⟨hk.1, by omega⟩ t3 (by omega) ((hd_par (hd_pt hb)).ne t4)
  have g6 : B s ≠ 42 ∧ B s ≠ 47 := by
    rcases g5 with ⟨rfl, g⟩ | ⟨rfl, g⟩ | ⟨rfl, g⟩ | ⟨rfl, g⟩
    · rw [g]; decide
    · rw [g]; decide
    · omega
    · omega
  obtain ⟨j, hj, e1⟩ := hS p _ c0 ca ta oa ha t1 rfl (by omega) g1 g2 (by rw [g3]; exact g6.1) (by rw [g3]; exact g6.2)
  have e2 := tr_end (tt_par hF hT _ q (c0 ++ ca) cb tb ob hb t4 (by omega) hq2 h1 h2) h3 h4
  refine ⟨j + 1, by omega, ?_⟩
  rw [e1, show 601 - j = (601 - (j + 1)) + 1 by omega, g3]
  rw [opL_go (c := opc kd) (q := p + ta.length + (opt kd).length) (s2 := (sp B q, c0 ++ ca ++ cb)) (by
    rcases g5 with ⟨rfl, g⟩ | ⟨rfl, g⟩ | ⟨rfl, g⟩ | ⟨rfl, g⟩
    · exact Or.inl ⟨g, by decide⟩
    · exact Or.inr ⟨g, by rw [show B ((s, c0 ++ ca) : XS).1 = 45 from g]; decide, by decide⟩
    · omega
    · omega) g4 e2]
  simp only [List.append_assoc]
theorem pt_all {B : ZB} : ∀ (d : Nat), d ≤ 100 → (∀ D, d ≤ D + 1 → TT B D d ∧ SS B D d) ∧ ∀ D, d ≤ D → FF B D d := by
  intro d
  induction d with
  | zero =>
    intro _
    refine ⟨fun D _ => ⟨fun p q c0 cs tx ow h _ ht hq hq2 h1 h2 => tt_leaf h ht hq hq2 h1 h2, fun p q c0 cs tx ow h ht hq hq2 h1 h2 h3 h4 => sm_t (tt_leaf h ht hq hq2 h1 h2) h3 h4⟩, fun D _ p q c0 cs tx ow h ht hq hq2 h1 h2 => ?_⟩
    have e : par' 3 ow tx = tx := if_neg (by have := h.1; omega)
    rw [e] at ht hq
    subst hq
    exact fac_leaf h ht hq2 h1 h2
  | succ d ih =>
    intro hd
    obtain ⟨ih1, ih2⟩ := ih (by omega)
    have hTS : ∀ D, d + 1 ≤ D + 1 → TT B D (d + 1) ∧ SS B D (d + 1) := by
      intro D hD
      have hF := ih2 D (by omega)
      obtain ⟨hT, hS⟩ := ih1 D (by omega)
      have hTT : TT B D (d + 1) := by
        intro p q c0 cs tx ow h how ht hq hq2 h1 h2
        rcases h with h | ⟨kd, ca, ta, oa, cb, tb, ob, h0, ha, hb, rfl, rfl, rfl⟩
        · exact tt_leaf h ht hq hq2 h1 h2
        · have hk : ¬ kd < 4 := fun z => by rw [if_pos z] at how; omega
          rw [if_neg hk] at ht hq
          exact tt_node (by omega) hF hT ⟨by omega, h0.2⟩ ha hb ht hq hq2 h1 h2
      refine ⟨hTT, ?_⟩
      intro p q c0 cs tx ow h ht hq hq2 h1 h2 h3 h4
      by_cases how : 2 ≤ ow
      · exact sm_t (hTT p q c0 cs tx ow h how ht hq hq2 h1 h2) h3 h4
      · rcases h with h | ⟨kd, ca, ta, oa, cb, tb, ob, h0, ha, hb, rfl, rfl, rfl⟩
        · exact absurd h.1 (by omega)
        · have hk : kd < 4 := by
            refine Nat.lt_of_not_le (fun z => how ?_)
            rw [if_neg (by omega)]
            exact Nat.le_refl _
          rw [if_pos hk, show par' 1 oa ta = ta from if_neg (by have := ow_pt ha; omega)] at ht hq
          exact ss_node (by omega) hF hT hS ⟨h0.1, by omega⟩ ha hb ht hq hq2 h1 h2 h3 h4
    refine ⟨hTS, ?_⟩
    intro D hD p q c0 cs tx ow h ht hq hq2 h1 h2
    by_cases how : ow < 3
    · obtain ⟨D, rfl⟩ : ∃ E, D = E + 1 := ⟨D - 1, by omega⟩
      have e : par' 3 ow tx = 40 :: (tx ++ [41]) := if_pos how
      rw [e] at ht hq
      simp only [List.length_cons, List.length_append, List.length_nil] at hq
      obtain ⟨t1, t2⟩ := Tx.app.mp ht.2
      have c41 : B (p + 1 + tx.length) = nI 41 := t2.1
      have hs : sp B (p + 1 + tx.length) = p + 1 + tx.length := sp_0 (by rw [c41]; decide)
      obtain ⟨j, -, e1⟩ := (hTS D hD).2 (p + 1) _ c0 cs tx ow h t1 rfl (by omega) (by rw [isD_n c41 (by decide)]; decide) (by rw [isL_n c41 (by decide)]; decide) (by rw [hs, c41]; decide) (by rw [hs, c41]; decide)
      rw [opL_no (by rw [hs, c41]; decide) (by rw [hs, c41]; decide), hs] at e1
      refine fac_par ht.1 (by omega) (sp_0 ((hd_pt h).ne t1)) e1 c41 ?_
      rw [show p + 1 + tx.length + 1 = q by omega]
    · rcases h with h | ⟨kd, ca, ta, oa, cb, tb, ob, h0, ha, hb, rfl, rfl, rfl⟩
      · have e : par' 3 ow tx = tx := if_neg how
        rw [e] at ht hq
        subst hq
        exact fac_leaf h ht hq2 h1 h2
      · exact absurd (show (if kd < 4 then 1 else 2) < 3 by split <;> decide) how
/-- an expression of the law's -/
theorem smm_law {B : ZB} {d p q : Nat} {c0 cs : List Int32} {tx : List Nat} {ow : Nat} (hd : d ≤ 5) (h : PTx d cs tx ow) (ht : Tx B p tx) (hq : q = p + tx.length) (hq2 : q ≤ 590) (h1 : B q = 32) (h2 : B (q + 1) = 59) : smm B (fac B 4) (p, c0) = .inr (q + 1, c0 ++ cs) := by
  have c1 : B q = nI 32 := h1
  have hs : sp B q = q + 1 := sp_1 (by omega) h1 (by rw [h2]; decide)
  obtain ⟨j, -, e⟩ := ((pt_all (B := B) d (by omega)).1 4 (by omega)).2 p q c0 cs tx ow h ht hq hq2 (by rw [isD_n c1 (by decide)]; decide) (by rw [isL_n c1 (by decide)]; decide) (by rw [hs, h2]; decide) (by rw [hs, h2]; decide)
  rw [opL_no (by rw [hs, h2]; decide) (by rw [hs, h2]; decide), hs] at e
  exact e
end LPrs
