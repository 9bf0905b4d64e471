section LPrs
/-! the written text, read again: pure -/
def Tx (B : ZB) : Nat → List Nat → Prop
  | _, [] => True
  | p, a :: s => B p = nI a ∧ Tx B (p + 1) s
theorem Tx.app {B : ZB} : ∀ {s t : List Nat} {p : Nat}, Tx B p (s ++ t) ↔ Tx B p s ∧ Tx B (p + s.length) t
  | [], t, p => by simp [Tx]
  | a :: s, t, p => by
    show (B p = nI a ∧ Tx B (p + 1) (s ++ t)) ↔ (B p = nI a ∧ Tx B (p + 1) s) ∧ Tx B (p + (s.length + 1)) t
    rw [Tx.app (s := s), and_assoc, show p + 1 + s.length = p + (s.length + 1) by omega]
theorem Tx.at {B : ZB} : ∀ {s : List Nat} {p : Nat}, Tx B p s → ∀ i, i < s.length → B (p + i) = nI (s.getD i 0)
  | [], p, _, i, hi => absurd hi (Nat.not_lt_zero _)
  | a :: s, p, h, 0, _ => h.1
  | a :: s, p, h, i + 1, hi => by
    have := Tx.at h.2 i (by simp at hi; omega)
    rw [show p + (i + 1) = p + 1 + i by omega, this]
    rfl
theorem getD_mem : ∀ (ds : List Nat) (i : Nat), i < ds.length → ds.getD i 0 ∈ ds
  | [], i, h => absurd h (Nat.not_lt_zero _)
  | a :: ds, 0, _ => List.mem_cons_self ..
  | a :: ds, i + 1, h => List.mem_cons_of_mem _ (getD_mem ds i (by simp at h; omega))
theorem s128 : ∀ a, a < 128 → decide (48 ≤ nI a ∧ nI a ≤ 57) = decide (48 ≤ a ∧ a ≤ 57) ∧ decide (97 ≤ nI a ∧ nI a ≤ 122) = decide (97 ≤ a ∧ a ≤ 122) ∧ (48 ≤ a → (nI a - 48).toNatClampNeg = a - 48) := by decide +kernel
theorem n128 {a b : Nat} (ha : a < 128) (hb : b < 128) (h : nI a = nI b) : a = b := by
  have := congrArg Int32.toNatClampNeg h
  rwa [nI_clamp (by omega), nI_clamp (by omega)] at this
theorem isD_n {B : ZB} {p a : Nat} (h : B p = nI a) (ha : a < 128) : isD B p = decide (48 ≤ a ∧ a ≤ 57) := by
  unfold isD; rw [h]; exact (s128 a ha).1
theorem isL_n {B : ZB} {p a : Nat} (h : B p = nI a) (ha : a < 128) : isL B p = decide (97 ≤ a ∧ a ≤ 122) := by
  unfold isL; rw [h]; exact (s128 a ha).2.1
theorem ne_n {B : ZB} {p a b : Nat} (h : B p = nI a) (ha : a < 128) (hb : b < 128) (hn : a ≠ b) : B p ≠ nI b := fun z => hn (n128 ha hb (h.symm.trans z))
theorem sp_0 {B : ZB} {p : Nat} (h : B p ≠ 32) : sp B p = p := runW_f (decide_eq_false h)
theorem sp_1 {B : ZB} {p : Nat} (hp : p ≤ 600) (h : B p = 32) (h2 : B (p + 1) ≠ 32) : sp B p = p + 1 := by
  unfold sp
  rw [show 601 - p = (600 - p) + 1 by omega, runW_t (decide_eq_true h), runW_f (decide_eq_false h2)]
/-! numbers -/
theorem vN_list {B : ZB} : ∀ (ds : List Nat) (p v f : Nat), Tx B p ds → (∀ a ∈ ds, 48 ≤ a ∧ a ≤ 57) → isD B (p + ds.length) = false → ds.length ≤ f → vN B f p v = ds.foldl (fun v a => 10 * v + (a - 48)) v
  | [], p, v, f, _, _, h, _ => by
    cases f with
    | zero => rfl
    | succ f =>
      show (if isD B p = true then _ else v) = v
      exact if_neg (by rw [show isD B p = false from h]; decide)
  | a :: ds, p, v, f, ht, ha, h, hf => by
    obtain ⟨f, rfl⟩ : ∃ g, f = g + 1 := ⟨f - 1, by simp at hf; omega⟩
    have h1 := ha a (List.mem_cons_self ..)
    have h2 : isD B p = true := by rw [isD_n ht.1 (by omega)]; exact decide_eq_true h1
    show (if isD B p = true then vN B f (p + 1) (10 * v + (B p - 48).toNatClampNeg) else v) = _
    rw [if_pos h2, ht.1, (s128 a (by omega)).2.2 h1.1]
    exact vN_list ds (p + 1) _ f ht.2 (fun b hb => ha b (List.mem_cons_of_mem _ hb)) (by rw [show p + 1 + ds.length = p + (ds.length + 1) by omega]; exact h) (by simp at hf; omega)
theorem ed_list {B : ZB} {ds : List Nat} {p : Nat} (ht : Tx B p ds) (ha : ∀ a ∈ ds, 48 ≤ a ∧ a ≤ 57) (h : isD B (p + ds.length) = false) (hp : p + ds.length ≤ 601) : ed B p = p + ds.length := by
  refine runW_is _ _ _ (by omega) (by omega) (fun i h1 h2 => ?_) h
  have h3 := ht.at (i - p) (by omega)
  rw [show p + (i - p) = i by omega] at h3
  have h4 : ds.getD (i - p) 0 ∈ ds := by
    exact getD_mem _ _ (by omega)
  have h5 := ha _ h4
  rw [isD_n h3 (by omega)]
  exact decide_eq_true h5
theorem dec_dig {x : Nat} (hx : x ≤ 9999) : ∀ a ∈ dec x, 48 ≤ a ∧ a ≤ 57 := by
  intro a ha
  unfold dec at ha
  split at ha
  · simp at ha; omega
  split at ha
  · simp at ha; omega
  split at ha
  · simp at ha; omega
  · simp at ha; omega
theorem dec_val {x : Nat} (hx : x ≤ 9999) : (dec x).foldl (fun v a => 10 * v + (a - 48)) 0 = x := by
  unfold dec
  split
  · simp
  split
  · simp; omega
  split
  · simp; omega
  · simp; omega
theorem dec_pos {x : Nat} : 1 ≤ (dec x).length ∧ (dec x).length ≤ 4 := by
  rw [dec_len]
  split
  · omega
  split
  · omega
  split
  · omega
  · omega
theorem num_dec {B : ZB} {x lo hi p : Nat} (ht : Tx B p (dec x)) (hx : x ≤ 9999) (h : isD B (p + (dec x).length) = false) (hp : p ≤ 590) (h1 : lo ≤ x) (h2 : x ≤ hi) : isD B p = true ∧ num B lo hi p = .inr (sp B (p + (dec x).length), x) := by
  have hl := dec_pos (x := x)
  have hd : isD B p = true := by
    have h3 := ht.at 0 (by omega)
    have h4 : (dec x).getD 0 0 ∈ dec x := by
      exact getD_mem _ _ (by omega)
    have h5 := dec_dig hx _ h4
    rw [show isD B p = _ from isD_n h3 (by omega)]
    exact decide_eq_true h5
  refine ⟨hd, ?_⟩
  have hv : valN B p = x := (vN_list (dec x) p 0 (601 - p) ht (dec_dig hx) h (by omega)).trans (dec_val hx)
  unfold num
  rw [if_pos hd, hv, if_pos ⟨h1, h2⟩, ed_list ht (dec_dig hx) h (by omega)]
/-! words -/
theorem wd_of {B : ZB} {p : Nat} {w : String} (ht : Tx B p (chs w)) (hl : (chs w).length = w.length) (h : isL B (p + w.length) = false) : wd B w p :=
  ⟨fun i hi => ht.at i (by omega), h⟩
theorem wd_no {B : ZB} {q a : Nat} {t : String} (hc : B q = nI a) (h0 : 0 < t.length) (h1 : zch t 0 ≠ nI a) : ¬ wd B t q := fun z => h1 ((z.1 0 h0).symm.trans hc)
/-! the tree, without its cells -/
def PLx (cs : List Int32) (tx : List Nat) (ow : Nat) : Prop := ow = 3 ∧ ∃ x, (x ≤ 9999 ∧ cs = [nI x] ∧ tx = dec x) ∨ (x < 4 ∧ cs = [-1 - nI x] ∧ tx = vrs x)
def PTx : Nat → List Int32 → List Nat → Nat → Prop
  | 0, cs, tx, ow => PLx cs tx ow
  | d + 1, cs, tx, ow => PLx cs tx ow ∨ ∃ (kd : Nat) (ca : List Int32) (ta : List Nat) (oa : Nat) (cb : List Int32) (tb : List Nat) (ob : Nat), (2 ≤ kd ∧ kd ≤ 5) ∧ PTx d ca ta oa ∧ PTx d cb tb ob ∧ cs = ca ++ (cb ++ [opc kd]) ∧ ow = (if kd < 4 then 1 else 2) ∧ tx = par' ow oa ta ++ (opt kd ++ par' (ow + 1) ob tb)
theorem pl_nd {w : ZW} {T : LT} {t ow : Nat} {cs : List Int32} {tx : List Nat} (h : NDL w T t cs tx ow) : PLx cs tx ow := by
  obtain ⟨kd, x, -, -, h3, h4⟩ := h
  rcases h4 with ⟨-, h5⟩ | ⟨-, h5⟩
  · exact ⟨h3, x, Or.inl h5⟩
  · exact ⟨h3, x, Or.inr h5⟩
theorem pt_nd {w : ZW} {T : LT} : ∀ {d t ow : Nat} {cs : List Int32} {tx : List Nat}, ND w T d t cs tx ow → PTx d cs tx ow
  | 0, _, _, _, _, h => pl_nd h
  | d + 1, _, _, _, _, h => by
    rcases h with h | ⟨kd, x, a, b, ca, ta, oa, cb, tb, ob, h0, h1, h2, h3, h4, h5⟩
    · exact Or.inl (pl_nd h)
    · exact Or.inr ⟨kd, ca, ta, oa, cb, tb, ob, h0, pt_nd h3, pt_nd h4, h5⟩
theorem pt_of {d : Nat} {cs : List Int32} {tx : List Nat} {ow : Nat} (h : PLx cs tx ow) : PTx d cs tx ow := by
  cases d with
  | zero => exact h
  | succ d => exact Or.inl h
def Hd (tx : List Nat) : Prop := ∃ a r, tx = a :: r ∧ a < 128 ∧ a ≠ 32
theorem Hd.ne {B : ZB} {p : Nat} {tx : List Nat} (h : Hd tx) (ht : Tx B p tx) : B p ≠ 32 := by
  obtain ⟨a, r, rfl, h1, h2⟩ := h
  exact ne_n (b := 32) ht.1 h1 (by decide) h2
theorem hd_app {s t : List Nat} (h : Hd s) : Hd (s ++ t) := by
  obtain ⟨a, r, rfl, h1, h2⟩ := h
  exact ⟨a, r ++ t, rfl, h1, h2⟩
theorem hd_par {lv ow : Nat} {tx : List Nat} (h : Hd tx) : Hd (par' lv ow tx) := by
  unfold par'
  split
  · exact ⟨40, _, rfl, by decide, by decide⟩
  · exact h
theorem hd_dec {x : Nat} (hx : x ≤ 9999) : Hd (dec x) := by
  have h := dec_dig hx
  have hl := dec_pos (x := x)
  cases hd : dec x with
  | nil => rw [hd] at hl; simp at hl
  | cons a r =>
    have := h a (by rw [hd]; exact List.mem_cons_self ..)
    exact ⟨a, r, rfl, by omega, by omega⟩
theorem hd_vrs {x : Nat} (hx : x < 4) : Hd (vrs x) := by
  rcases (show x = 0 ∨ x = 1 ∨ x = 2 ∨ x = 3 by omega) with rfl | rfl | rfl | rfl
  · exact ⟨108, chs "egs", by decide +kernel, by decide, by decide⟩
  · exact ⟨99, chs "aller", by decide +kernel, by decide, by decide⟩
  · exact ⟨114, chs "eferred", by decide +kernel, by decide, by decide⟩
  · exact ⟨116, chs "ime", by decide +kernel, by decide, by decide⟩
theorem hd_pl {cs : List Int32} {tx : List Nat} {ow : Nat} (h : PLx cs tx ow) : Hd tx := by
  obtain ⟨-, x, ⟨h1, -, rfl⟩ | ⟨h1, -, rfl⟩⟩ := h
  · exact hd_dec h1
  · exact hd_vrs h1
theorem hd_pt : ∀ {d : Nat} {cs : List Int32} {tx : List Nat} {ow : Nat}, PTx d cs tx ow → Hd tx
  | 0, _, _, _, h => hd_pl h
  | d + 1, _, _, _, h => by
    rcases h with h | ⟨kd, ca, ta, oa, cb, tb, ob, h0, h1, h2, -, -, rfl⟩
    · exact hd_pl h
    · exact hd_app (hd_par (hd_pt h1))
theorem ow_pt {d : Nat} {cs : List Int32} {tx : List Nat} {ow : Nat} (h : PTx d cs tx ow) : 1 ≤ ow ∧ ow ≤ 3 := by
  cases d with
  | zero => have := h.1; omega
  | succ d =>
    rcases h with h | ⟨kd, ca, ta, oa, cb, tb, ob, h0, h1, h2, -, rfl, -⟩
    · have := h.1; omega
    · split <;> decide
/-! factors -/
theorem fac_is {B : ZB} {D : Nat} : ∃ sub, fac B D = facS B sub := by
  cases D with
  | zero => exact ⟨_, rfl⟩
  | succ D => exact ⟨_, rfl⟩
theorem fac_leaf {B : ZB} {D p : Nat} {c0 cs : List Int32} {tx : List Nat} {ow : Nat} (h : PLx cs tx ow) (ht : Tx B p tx) (hp : p + tx.length ≤ 590) (h1 : isD B (p + tx.length) = false) (h2 : isL B (p + tx.length) = false) : fac B D (p, c0) = .inr (sp B (p + tx.length), c0 ++ cs) := by
  obtain ⟨sub, e⟩ := fac_is (B := B) (D := D)
  rw [e]
  obtain ⟨-, x, ⟨hx, rfl, rfl⟩ | ⟨hx, rfl, rfl⟩⟩ := h
  · obtain ⟨h3, h4⟩ := num_dec (lo := 0) (hi := 9999) ht hx h1 (by omega) (Nat.zero_le _) hx
    unfold facS
    rw [if_pos h3, h4]
  · rcases (show x = 0 ∨ x = 1 ∨ x = 2 ∨ x = 3 by omega) with rfl | rfl | rfl | rfl
    · have hv : vrs 0 = chs "legs" := by decide +kernel
      have hl : (chs "legs").length = 4 := by decide +kernel
      rw [hv] at ht h1 h2 hp ⊢
      rw [hl] at h1 h2 hp ⊢
      have hc : B p = nI 108 := (ht.at 0 (by rw [hl]; decide)).trans (by decide +kernel)
      have hw : wd B "legs" p := wd_of ht (by decide +kernel) h2
      unfold facS
      rw [if_neg (show ¬ isD B p = true by rw [isD_n hc (by decide)]; decide), if_pos hw, show -1 - nI 0 = -1 by decide]
    · have hv : vrs 1 = chs "caller" := by decide +kernel
      have hl : (chs "caller").length = 6 := by decide +kernel
      rw [hv] at ht h1 h2 hp ⊢
      rw [hl] at h1 h2 hp ⊢
      have hc : B p = nI 99 := (ht.at 0 (by rw [hl]; decide)).trans (by decide +kernel)
      have hw : wd B "caller" p := wd_of ht (by decide +kernel) h2
      unfold facS
      rw [if_neg (show ¬ isD B p = true by rw [isD_n hc (by decide)]; decide), if_neg (wd_no (t := "legs") hc (by decide +kernel) (by decide +kernel)), if_pos hw, show -1 - nI 1 = -2 by decide]
    · have hv : vrs 2 = chs "referred" := by decide +kernel
      have hl : (chs "referred").length = 8 := by decide +kernel
      rw [hv] at ht h1 h2 hp ⊢
      rw [hl] at h1 h2 hp ⊢
      have hc : B p = nI 114 := (ht.at 0 (by rw [hl]; decide)).trans (by decide +kernel)
      have hw : wd B "referred" p := wd_of ht (by decide +kernel) h2
      unfold facS
      rw [if_neg (show ¬ isD B p = true by rw [isD_n hc (by decide)]; decide), if_neg (wd_no (t := "legs") hc (by decide +kernel) (by decide +kernel)), if_neg (wd_no (t := "caller") hc (by decide +kernel) (by decide +kernel)), if_pos hw, show -1 - nI 2 = -3 by decide]
    · have hv : vrs 3 = chs "time" := by decide +kernel
      have hl : (chs "time").length = 4 := by decide +kernel
      rw [hv] at ht h1 h2 hp ⊢
      rw [hl] at h1 h2 hp ⊢
      have hc : B p = nI 116 := (ht.at 0 (by rw [hl]; decide)).trans (by decide +kernel)
      have hw : wd B "time" p := wd_of ht (by decide +kernel) h2
      unfold facS
      rw [if_neg (show ¬ isD B p = true by rw [isD_n hc (by decide)]; decide), if_neg (wd_no (t := "legs") hc (by decide +kernel) (by decide +kernel)), if_neg (wd_no (t := "caller") hc (by decide +kernel) (by decide +kernel)), if_neg (wd_no (t := "referred") hc (by decide +kernel) (by decide +kernel)), if_pos hw, show -1 - nI 3 = -4 by decide]
end LPrs
