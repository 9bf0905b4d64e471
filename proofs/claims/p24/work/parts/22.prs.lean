section Prs
/-! the grammar of a setup text, as both sides read it: a place is that of the next sign that is no space -/
def runW (P : Nat → Bool) : Nat → Nat → Nat
  | 0, p => p
  | f + 1, p => if P p = true then runW P f (p + 1) else p
theorem runW_t {P : Nat → Bool} {f p : Nat} (h : P p = true) : runW P (f + 1) p = runW P f (p + 1) := if_pos h
theorem runW_f {P : Nat → Bool} {f p : Nat} (h : P p = false) : runW P f p = p := by
  cases f with
  | zero => rfl
  | succ f => exact if_neg (by rw [h]; decide)
theorem runW_ge {P : Nat → Bool} : ∀ (f p : Nat), p ≤ runW P f p
  | 0, p => Nat.le_refl _
  | f + 1, p => by
    cases h : P p with
    | true => rw [runW_t h]; exact Nat.le_trans (Nat.le_succ p) (runW_ge f (p + 1))
    | false => rw [runW_f h]; exact Nat.le_refl _
theorem runW_le {P : Nat → Bool} {n : Nat} (hn : P n = false) : ∀ (f p : Nat), p ≤ n → runW P f p ≤ n
  | 0, p, h => h
  | f + 1, p, h => by
    cases hp : P p with
    | true =>
      rw [runW_t hp]
      refine runW_le hn f (p + 1) ?_
      rcases Nat.eq_or_lt_of_le h with e | g
      · rw [e, hn] at hp; cases hp
      · exact g
    | false => rw [runW_f hp]; exact h
theorem runW_stop {P : Nat → Bool} {n : Nat} (hn : P n = false) : ∀ (f p : Nat), p ≤ n → n ≤ p + f → P (runW P f p) = false
  | 0, p, h, h2 => by
    have : p = n := by omega
    subst this
    exact hn
  | f + 1, p, h, h2 => by
    cases hp : P p with
    | true =>
      rw [runW_t hp]
      refine runW_stop hn f (p + 1) ?_ (by omega)
      rcases Nat.eq_or_lt_of_le h with e | g
      · rw [e, hn] at hp; cases hp
      · exact g
    | false => rw [runW_f hp]; exact hp
theorem runW_all {P : Nat → Bool} : ∀ (f p i : Nat), p ≤ i → i < runW P f p → P i = true
  | 0, p, i, h, h2 => by
    have : i < p := h2
    omega
  | f + 1, p, i, h, h2 => by
    cases hp : P p with
    | true =>
      rw [runW_t hp] at h2
      rcases Nat.eq_or_lt_of_le h with e | g
      · rw [← e]; exact hp
      · exact runW_all f (p + 1) i g h2
    | false =>
      rw [runW_f hp] at h2
      omega
/-- the run is what it is: no matter how one counts -/
theorem runW_is {P : Nat → Bool} : ∀ (f p q : Nat), p ≤ q → q ≤ p + f → (∀ i, p ≤ i → i < q → P i = true) → P q = false → runW P f p = q
  | 0, p, q, h, h2, _, _ => by
    show p = q
    omega
  | f + 1, p, q, h, h2, h3, h4 => by
    rcases Nat.eq_or_lt_of_le h with e | g
    · subst e; exact runW_f h4
    · rw [runW_t (h3 p (Nat.le_refl _) g)]
      exact runW_is f (p + 1) q g (by omega) (fun i a b => h3 i (by omega) b) h4
def bt (t : Nat → Int32) (n k : Nat) : Int32 := if k < n then t k else -1
abbrev ZB : Type := Nat → Int32
def isSp (B : ZB) (i : Nat) : Bool := decide (B i = 32)
def isD (B : ZB) (i : Nat) : Bool := decide (48 ≤ B i ∧ B i ≤ 57)
def isL (B : ZB) (i : Nat) : Bool := decide (97 ≤ B i ∧ B i ≤ 122)
def sp (B : ZB) (p : Nat) : Nat := runW (isSp B) (601 - p) p
def ed (B : ZB) (p : Nat) : Nat := runW (isD B) (601 - p) p
def el (B : ZB) (p : Nat) : Nat := runW (isL B) (601 - p) p
def vN (B : ZB) : Nat → Nat → Nat → Nat
  | 0, _, v => v
  | f + 1, p, v => if isD B p = true then vN B f (p + 1) (10 * v + (B p - 48).toNatClampNeg) else v
def valN (B : ZB) (p : Nat) : Nat := vN B (601 - p) p 0
abbrev PR (α : Type) : Type := Sum (Int32 × Nat) α
def num (B : ZB) (lo hi q : Nat) : PR (Nat × Nat) := if isD B q = true then (if lo ≤ valN B q ∧ valN B q ≤ hi then .inr (sp B (ed B q), valN B q) else .inl (-3, q)) else .inl (-2, q)
def wd (B : ZB) (w : String) (q : Nat) : Prop := (∀ i, i < w.length → B (q + i) = zch w i) ∧ isL B (q + w.length) = false
abbrev XS : Type := Nat × List Int32
noncomputable def facS (B : ZB) (sub : Option (XS → PR XS)) (s : XS) : PR XS :=
  if isD B s.1 = true then (match num B 0 9999 s.1 with
    | .inl e => .inl e
    | .inr r => .inr (r.1, s.2 ++ [nI r.2]))
  else @ite _ (wd B "legs" s.1) (Classical.propDecidable _) (.inr (sp B (s.1 + 4), s.2 ++ [-1])) (@ite _ (wd B "caller" s.1) (Classical.propDecidable _) (.inr (sp B (s.1 + 6), s.2 ++ [-2])) (@ite _ (wd B "referred" s.1) (Classical.propDecidable _) (.inr (sp B (s.1 + 8), s.2 ++ [-3])) (@ite _ (wd B "time" s.1) (Classical.propDecidable _) (.inr (sp B (s.1 + 4), s.2 ++ [-4]))
    (if B s.1 = 40 then (match sub with
      | none => .inl (-5, s.1)
      | some f => (match f (sp B (s.1 + 1), s.2) with
        | .inl e => .inl e
        | .inr s2 => if B s2.1 = 41 then .inr (sp B (s2.1 + 1), s2.2) else .inl (-2, s2.1)))
    else .inl (-2, s.1)))))
noncomputable def opL (B : ZB) (o1 o2 c1 c2 : Int32) (F : XS → PR XS) : Nat → XS → PR XS
  | 0, s => .inr s
  | f + 1, s => if B s.1 = o1 ∨ B s.1 = o2 then (match F (sp B (s.1 + 1), s.2) with
    | .inl e => .inl e
    | .inr s2 => opL B o1 o2 c1 c2 F f (s2.1, s2.2 ++ [if B s.1 = o1 then c1 else c2])) else .inr s
noncomputable def trm (B : ZB) (F : XS → PR XS) (s : XS) : PR XS := match F s with
  | .inl e => .inl e
  | .inr s2 => opL B 42 47 (-7) (-8) F 601 s2
noncomputable def smm (B : ZB) (F : XS → PR XS) (s : XS) : PR XS := match trm B F s with
  | .inl e => .inl e
  | .inr s2 => opL B 43 45 (-5) (-6) (trm B F) 601 s2
noncomputable def fac (B : ZB) : Nat → XS → PR XS
  | 0 => facS B none
  | d + 1 => facS B (some (smm B (fac B d)))
/-- where, the data, what was seen (wait, patience, ring), the codes -/
abbrev QS : Type := Nat × ZD × (Bool × Bool × Bool) × List Int32
def addP (G : ZD) (a r c : Int32) : ZD := upd (upd (upd (upd G (16 + 3 * nP G) a) (16 + 3 * nP G + 1) r) (16 + 3 * nP G + 2) c) 4 (G 4 + 1)
noncomputable def stm (B : ZB) (s : QS) : PR QS :=
  @ite _ (wd B "party" s.1) (Classical.propDecidable _) (if s.2.1 4 = 10 then .inl (-4, s.1) else (match num B 0 99 (sp B (s.1 + 5)) with
    | .inl e => .inl e
    | .inr r1 => (match num B 0 99 r1.1 with
      | .inl e => .inl e
      | .inr r2 => (match num B 0 999 r2.1 with
        | .inl e => .inl e
        | .inr r3 => .inr (r3.1, addP s.2.1 (nI r1.2) (nI r2.2) (nI r3.2), s.2.2)))))
  (@ite _ (wd B "wait" s.1 ∧ s.2.2.1.1 = false) (Classical.propDecidable _) (match num B 1 99 (sp B (s.1 + 4)) with
    | .inl e => .inl e
    | .inr r1 => (match num B 1 99 r1.1 with
      | .inl e => .inl e
      | .inr r2 => .inr (r2.1, upd (upd s.2.1 1 (nI r1.2)) 2 (nI r2.2), (true, s.2.2.1.2), s.2.2.2)))
  (@ite _ (wd B "patience" s.1 ∧ s.2.2.1.2.1 = false) (Classical.propDecidable _) (match num B 1 99 (sp B (s.1 + 8)) with
    | .inl e => .inl e
    | .inr r1 => .inr (r1.1, upd s.2.1 3 (nI r1.2), (s.2.2.1.1, true, s.2.2.1.2.2), s.2.2.2))
  (@ite _ (wd B "ring" s.1 ∧ s.2.2.1.2.2 = false) (Classical.propDecidable _) (match smm B (fac B 4) (sp B (s.1 + 4), s.2.2.2) with
    | .inl e => .inl e
    | .inr x => .inr (x.1, upd s.2.1 7 1, (s.2.2.1.1, s.2.2.1.2.1, true), x.2))
  (.inl (-2, s.1)))))
noncomputable def stms (B : ZB) : Nat → QS → PR QS
  | 0, s => .inr s
  | f + 1, s => if B s.1 = -1 then .inr s else (match stm B s with
    | .inl e => .inl e
    | .inr s2 => if B s2.1 = 59 then stms B f (sp B (s2.1 + 1), s2.2) else .inl (-2, s2.1))
def usual : ZD := upd (upd (upd (fun _ => 0) 1 3) 2 5) 3 20
noncomputable def prs (B : ZB) : PR QS := @ite _ (wd B "exchange" (sp B 0)) (Classical.propDecidable _) (if B (sp B (sp B 0 + 8)) = 59 then stms B 601 (sp B (sp B (sp B 0 + 8) + 1), usual, (false, false, false), []) else .inl (-2, sp B (sp B 0 + 8))) (.inl (-2, sp B 0))
/-- a text of n bytes -/
def TB (B : ZB) (n : Nat) : Prop := n ≤ 600 ∧ (∀ k, n ≤ k → B k = -1) ∧ ∀ k, k < n → 0 ≤ B k
theorem tb_sp {B : ZB} {n : Nat} (h : TB B n) : isSp B n = false := by
  unfold isSp; rw [h.2.1 n (Nat.le_refl _)]; rfl
theorem tb_d {B : ZB} {n : Nat} (h : TB B n) : isD B n = false := by
  unfold isD; rw [h.2.1 n (Nat.le_refl _)]; rfl
theorem tb_l {B : ZB} {n : Nat} (h : TB B n) : isL B n = false := by
  unfold isL; rw [h.2.1 n (Nat.le_refl _)]; rfl
theorem sp_ge {B : ZB} {p : Nat} : p ≤ sp B p := runW_ge _ _
theorem sp_le {B : ZB} {n p : Nat} (h : TB B n) (hp : p ≤ n) : sp B p ≤ n := runW_le (tb_sp h) _ _ hp
theorem sp_no {B : ZB} {n p : Nat} (h : TB B n) (hp : p ≤ n) : B (sp B p) ≠ 32 := by
  have h0 := h.1
  have h1 := runW_stop (tb_sp h) (601 - p) p hp (by omega)
  exact of_decide_eq_false h1
theorem sp_id {B : ZB} {p : Nat} (h : B p ≠ 32) : sp B p = p := runW_f (decide_eq_false h)
theorem sp_sp {B : ZB} {n p : Nat} (h : TB B n) (hp : p ≤ n) : sp B (sp B p) = sp B p := sp_id (sp_no h hp)
theorem ed_ge {B : ZB} {p : Nat} : p ≤ ed B p := runW_ge _ _
theorem ed_le {B : ZB} {n p : Nat} (h : TB B n) (hp : p ≤ n) : ed B p ≤ n := runW_le (tb_d h) _ _ hp
theorem lt_of_B {B : ZB} {n p : Nat} (h : TB B n) (hp : B p ≠ -1) : p < n := Nat.lt_of_not_le fun q => hp (h.2.1 p q)
theorem isD_ne {B : ZB} {p : Nat} (h : isD B p = true) : B p ≠ -1 := by
  have := of_decide_eq_true h
  intro e
  rw [e] at this
  exact absurd this.1 (by decide)
theorem ed_gt {B : ZB} {n p : Nat} (hT : TB B n) (h : isD B p = true) : p < ed B p := by
  have h1 := lt_of_B hT (isD_ne h)
  have h2 := hT.1
  unfold ed
  rw [show 601 - p = (600 - p) + 1 by omega, runW_t h]
  exact runW_ge _ _
theorem wd_pos {B : ZB} {n q : Nat} {w : String} (hT : TB B n) (h : wd B w q) (hw : ∀ i, i < w.length → zch w i ≠ -1) : ∀ i, i < w.length → q + i < n := fun i hi => lt_of_B hT (by rw [h.1 i hi]; exact hw i hi)
theorem num_what {B : ZB} {n lo hi q : Nat} {r : Nat × Nat} (hT : TB B n) (h : num B lo hi q = .inr r) : q < r.1 ∧ r.1 ≤ n ∧ B r.1 ≠ 32 ∧ lo ≤ r.2 ∧ r.2 ≤ hi ∧ isD B q = true ∧ r = (sp B (ed B q), valN B q) := by
  unfold num at h
  by_cases hd : isD B q = true
  · rw [if_pos hd] at h
    by_cases hr : lo ≤ valN B q ∧ valN B q ≤ hi
    · rw [if_pos hr] at h
      cases h
      have h1 := lt_of_B hT (isD_ne hd)
      have h2 := ed_le hT (Nat.le_of_lt h1)
      exact ⟨Nat.lt_of_lt_of_le (ed_gt hT hd) sp_ge, sp_le hT h2, sp_no hT h2, hr.1, hr.2, hd, rfl⟩
    · rw [if_neg hr] at h; cases h
  · rw [if_neg hd] at h; cases h
/-- what a piece of an expression that is read well does: it goes on, adds codes, and they are well formed -/
def Gd (B : ZB) (n k e : Nat) (F : XS → PR XS) : Prop := ∀ s s2, s.1 ≤ n → F s = .inr s2 → s.1 < s2.1 ∧ s2.1 ≤ n ∧ B s2.1 ≠ 32 ∧ ∃ ad, s2.2 = s.2 ++ ad ∧ ad ≠ [] ∧ 2 * (encs ad).length + 3 * s.1 ≤ 3 * s2.1 + 1 ∧ ∀ h r, h + k ≤ 11 → wfd r (h + 1) → wfd (ad ++ r) h
theorem encs_app (a b : List Int32) : encs (a ++ b) = encs a ++ encs b := List.flatMap_append
theorem encs_one (c : Int32) : encs [c] = enc c := by rw [encs_cons]; exact List.append_nil _
theorem wd_lit {B : ZB} {n k q m : Nat} {w : String} {v : Int32} {cs : List Int32} {s2 : XS} (hT : TB B n) (hm : w.length = m) (hm0 : 0 < m) (hw : ∀ i, i < w.length → zch w i ≠ -1) (h : wd B w q) (hk : 1 ≤ k) (hv : okc v ∧ ¬ isop v) (he : (enc v).length = 2) (h2 : (Sum.inr (sp B (q + m), cs ++ [v]) : PR XS) = .inr s2) :
    q < s2.1 ∧ s2.1 ≤ n ∧ B s2.1 ≠ 32 ∧ ∃ ad, s2.2 = cs ++ ad ∧ ad ≠ [] ∧ 2 * (encs ad).length + 3 * q ≤ 3 * s2.1 + 1 ∧ ∀ h r, h + k ≤ 11 → wfd r (h + 1) → wfd (ad ++ r) h := by
  cases h2
  have h1 := wd_pos hT h hw (m - 1) (by omega)
  have h3 : q + m ≤ n := by omega
  have h4 : q + m ≤ sp B (q + m) := sp_ge
  refine ⟨by show q < sp B (q + m); omega, sp_le hT h3, sp_no hT h3, [v], rfl, by simp, ?_, fun h r hh hr => ?_⟩
  · rw [encs_one, he]
    show 2 * 2 + 3 * q ≤ 3 * sp B (q + m) + 1
    omega
  · exact ⟨hv.1, Or.inr ⟨hv.2, by omega, hr⟩⟩
theorem facS_ok {B : ZB} {n k : Nat} {sub : Option (XS → PR XS)} (hT : TB B n) (hk : 1 ≤ k) (hs : ∀ f, sub = some f → Gd B n k 0 f) : Gd B n k 0 (facS B sub) := by
  intro s s2 hn h
  unfold facS at h
  by_cases hd : isD B s.1 = true
  · rw [if_pos hd] at h
    cases hq : num B 0 9999 s.1 with
    | inl e => rw [hq] at h; cases h
    | inr r =>
      rw [hq] at h
      obtain ⟨a1, a2, a3, a4, a5, a6, a7⟩ := num_what hT hq
      cases h
      have h9 : okc (nI r.2) := Or.inl ⟨(nI_pos' (by omega)), (by rw [show (9999 : Int32) = nI 9999 from rfl]; exact nI_le a5 (by decide))⟩
      have h0 : (0 : Int32) ≤ nI r.2 := nI_pos' (by omega)
      refine ⟨a1, a2, a3, [nI r.2], rfl, by simp, ?_, fun h r' hh hr => ?_⟩
      · rw [encs_one, enc_lit h0]
        show 2 * 2 + 3 * s.1 ≤ 3 * r.1 + 1
        omega
      · exact ⟨h9, Or.inr ⟨fun q => absurd (Int32.le_trans h0 q) (by decide), by omega, hr⟩⟩
  · rw [if_neg hd] at h
    by_cases w1 : wd B "legs" s.1
    · rw [if_pos w1] at h
      exact wd_lit hT (m := 4) rfl (by decide) (by decide +kernel) w1 hk (by unfold okc isop; decide) rfl h
    · rw [if_neg w1] at h
      by_cases w2 : wd B "caller" s.1
      · rw [if_pos w2] at h
        exact wd_lit hT (m := 6) rfl (by decide) (by decide +kernel) w2 hk (by unfold okc isop; decide) rfl h
      · rw [if_neg w2] at h
        by_cases w3 : wd B "referred" s.1
        · rw [if_pos w3] at h
          exact wd_lit hT (m := 8) rfl (by decide) (by decide +kernel) w3 hk (by unfold okc isop; decide) rfl h
        · rw [if_neg w3] at h
          by_cases w4 : wd B "time" s.1
          · rw [if_pos w4] at h
            exact wd_lit hT (m := 4) rfl (by decide) (by decide +kernel) w4 hk (by unfold okc isop; decide) rfl h
          · rw [if_neg w4] at h
            by_cases w5 : B s.1 = 40
            · rw [if_pos w5] at h
              cases hsub : sub with
              | none => rw [hsub] at h; cases h
              | some f =>
                rw [hsub] at h
                have hlt : s.1 < n := lt_of_B hT (by rw [w5]; decide)
                have g1 : s.1 + 1 ≤ sp B (s.1 + 1) := sp_ge
                have g2 : sp B (s.1 + 1) ≤ n := sp_le hT hlt
                cases hf : f (sp B (s.1 + 1), s.2) with
                | inl e => simp only [hf] at h; cases h
                | inr x =>
                  simp only [hf] at h
                  obtain ⟨b1, b2, b3, ad, b4, b5, b6, b7⟩ := hs f hsub (sp B (s.1 + 1), s.2) x g2 hf
                  have b6' : 2 * (encs ad).length + 3 * sp B (s.1 + 1) ≤ 3 * x.1 + 1 := b6
                  have b1' : sp B (s.1 + 1) < x.1 := b1
                  by_cases w6 : B x.1 = 41
                  · rw [if_pos w6] at h
                    cases h
                    have hlt2 : x.1 < n := lt_of_B hT (by rw [w6]; decide)
                    have g3 : x.1 + 1 ≤ sp B (x.1 + 1) := sp_ge
                    refine ⟨by show s.1 < sp B (x.1 + 1); omega, sp_le hT hlt2, sp_no hT hlt2, ad, b4, b5, ?_, b7⟩
                    show 2 * (encs ad).length + 3 * s.1 ≤ 3 * sp B (x.1 + 1) + 1
                    omega
                  · rw [if_neg w6] at h; cases h
            · rw [if_neg w5] at h; cases h
theorem opL_ok {B : ZB} {n k : Nat} {o1 o2 c1 c2 : Int32} {F : XS → PR XS} (hT : TB B n) (ho : o1 ≠ -1 ∧ o2 ≠ -1) (hc : (okc c1 ∧ isop c1 ∧ (enc c1).length = 1) ∧ (okc c2 ∧ isop c2 ∧ (enc c2).length = 1)) (hF : Gd B n k 0 F) : ∀ (f : Nat) (s s2 : XS), s.1 ≤ n → B s.1 ≠ 32 → opL B o1 o2 c1 c2 F f s = .inr s2 → s.1 ≤ s2.1 ∧ s2.1 ≤ n ∧ B s2.1 ≠ 32 ∧ ∃ ad, s2.2 = s.2 ++ ad ∧ 2 * (encs ad).length + 3 * s.1 ≤ 3 * s2.1 ∧ ∀ h r, h + 1 + k ≤ 11 → wfd r (h + 1) → wfd (ad ++ r) (h + 1) := by
  intro f
  induction f with
  | zero =>
    intro s s2 hn h32 h
    cases h
    exact ⟨Nat.le_refl _, hn, h32, [], (List.append_nil _).symm, by show 2 * 0 + 3 * s.1 ≤ 3 * s.1; omega, fun h r hh hr => hr⟩
  | succ f ih =>
    intro s s2 hn h32 h
    unfold opL at h
    by_cases w : B s.1 = o1 ∨ B s.1 = o2
    · rw [if_pos w] at h
      have hlt : s.1 < n := lt_of_B hT (w.elim (fun z => by rw [z]; exact ho.1) (fun z => by rw [z]; exact ho.2))
      have g1 : s.1 + 1 ≤ sp B (s.1 + 1) := sp_ge
      cases hf : F (sp B (s.1 + 1), s.2) with
      | inl e => simp only [hf] at h; cases h
      | inr x =>
        simp only [hf] at h
        obtain ⟨b1, b2, b3, ad, b4, b5, b6, b7⟩ := hF (sp B (s.1 + 1), s.2) x (sp_le hT hlt) hf
        have b6' : 2 * (encs ad).length + 3 * sp B (s.1 + 1) ≤ 3 * x.1 + 1 := b6
        have b1' : sp B (s.1 + 1) < x.1 := b1
        have b4' : x.2 = s.2 ++ ad := b4
        obtain ⟨d1, d2, d3, ad2, d4, d6, d7⟩ := ih (x.1, x.2 ++ [if B s.1 = o1 then c1 else c2]) s2 b2 b3 h
        have d1' : x.1 ≤ s2.1 := d1
        have d6' : 2 * (encs ad2).length + 3 * x.1 ≤ 3 * s2.1 := d6
        have hcc : ∃ c, (if B s.1 = o1 then c1 else c2) = c ∧ okc c ∧ isop c ∧ (enc c).length = 1 := by
          by_cases e : B s.1 = o1
          · exact ⟨c1, if_pos e, hc.1⟩
          · exact ⟨c2, if_neg e, hc.2⟩
        obtain ⟨c, e1, e2, e3, e4⟩ := hcc
        have d4 : s2.2 = (x.2 ++ [if B s.1 = o1 then c1 else c2]) ++ ad2 := d4
        rw [e1] at d4
        refine ⟨by omega, d2, d3, ad ++ ([c] ++ ad2), by rw [d4]; show (x.2 ++ [c]) ++ ad2 = _; rw [b4', List.append_assoc, List.append_assoc], ?_, fun h r hh hr => ?_⟩
        · rw [encs_app, encs_app, encs_one, List.length_append, List.length_append, e4]
          omega
        · rw [List.append_assoc, List.append_assoc]
          refine b7 (h + 1) _ (by omega) ?_
          exact ⟨e2, Or.inl ⟨e3, by omega, d7 h r hh hr⟩⟩
    · rw [if_neg w] at h
      cases h
      exact ⟨Nat.le_refl _, hn, h32, [], (List.append_nil _).symm, by show 2 * 0 + 3 * s.1 ≤ 3 * s.1; omega, fun h r hh hr => hr⟩
theorem opS_ok {B : ZB} {n k f : Nat} {o1 o2 c1 c2 : Int32} {F : XS → PR XS} (hT : TB B n) (ho : o1 ≠ -1 ∧ o2 ≠ -1) (hc : (okc c1 ∧ isop c1 ∧ (enc c1).length = 1) ∧ (okc c2 ∧ isop c2 ∧ (enc c2).length = 1)) (hF : Gd B n k 0 F) {G : XS → PR XS} (hG : ∀ s, G s = match F s with
    | .inl e => .inl e
    | .inr s2 => opL B o1 o2 c1 c2 F f s2) : Gd B n (k + 1) 0 G := by
  intro s s2 hn h
  rw [hG] at h
  cases hf : F s with
  | inl e => simp only [hf] at h; cases h
  | inr x =>
    simp only [hf] at h
    obtain ⟨b1, b2, b3, ad, b4, b5, b6, b7⟩ := hF s x hn hf
    obtain ⟨d1, d2, d3, ad2, d4, d6, d7⟩ := opL_ok hT ho hc hF f x s2 b2 b3 h
    refine ⟨by omega, d2, d3, ad ++ ad2, by rw [d4, b4, List.append_assoc], by simp [b5], ?_, fun h r hh hr => ?_⟩
    · rw [encs_app, List.length_append]
      omega
    · rw [List.append_assoc]
      exact b7 h _ (by omega) (d7 h r (by omega) hr)
theorem trm_ok {B : ZB} {n k : Nat} {F : XS → PR XS} (hT : TB B n) (hF : Gd B n k 0 F) : Gd B n (k + 1) 0 (trm B F) := opS_ok hT (by decide) (by unfold okc isop; decide) hF (fun _ => rfl)
theorem smm_ok {B : ZB} {n k : Nat} {F : XS → PR XS} (hT : TB B n) (hF : Gd B n k 0 F) : Gd B n (k + 2) 0 (smm B F) := opS_ok hT (by decide) (by unfold okc isop; decide) (trm_ok hT hF) (fun _ => rfl)
theorem fac_ok {B : ZB} {n : Nat} (hT : TB B n) : ∀ d, Gd B n (2 * d + 1) 0 (fac B d)
  | 0 => facS_ok hT (by omega) (fun f h => by cases h)
  | d + 1 => facS_ok hT (by omega) (fun f h => by cases h; exact smm_ok hT (fac_ok hT d))
end Prs
