section MLd
def snN (t : Bool × Bool × Bool) : Nat := (if t.1 = true then 1 else 0) + (if t.2.1 = true then 2 else 0) + (if t.2.2 = true then 4 else 0)
theorem sn_bit : ∀ a b c : Bool, ((nI (snN (a, b, c)) >>> ((0 : Int32) &&& 31)) &&& 1 = (if a = true then 1 else 0) ∧ nI (snN (a, b, c)) ||| ((1 : Int32) <<< ((0 : Int32) &&& 31)) = nI (snN (true, b, c))) ∧ ((nI (snN (a, b, c)) >>> ((1 : Int32) &&& 31)) &&& 1 = (if b = true then 1 else 0) ∧ nI (snN (a, b, c)) ||| ((1 : Int32) <<< ((1 : Int32) &&& 31)) = nI (snN (a, true, c))) ∧ ((nI (snN (a, b, c)) >>> ((2 : Int32) &&& 31)) &&& 1 = (if c = true then 1 else 0) ∧ nI (snN (a, b, c)) ||| ((1 : Int32) <<< ((2 : Int32) &&& 31)) = nI (snN (a, b, true))) := by decide +kernel
section
variable {B : ZB} {n : Nat} {q : Nat} {G : ZD} {es : List Int32} {ne sn : Nat} {l : Launch} {Γ : ZG} {w : ZW} {o : Nat} {D : ZD}
noncomputable def badv (B : ZB) (q : Nat) : Int32 := if isD B q = true then nI (min 1000000 (valN B q)) else 0
end
noncomputable def pty (B : ZB) (q a0 : Nat) (G : ZD) : PR (Nat × ZD) := if G 4 = 10 then .inl (-4, a0) else (match num B 0 99 q with
    | .inl e => .inl e
    | .inr r1 => (match num B 0 99 r1.1 with
      | .inl e => .inl e
      | .inr r2 => (match num B 0 999 r2.1 with
        | .inl e => .inl e
        | .inr r3 => .inr (r3.1, addP G (nI r1.2) (nI r2.2) (nI r3.2)))))
noncomputable def stq (B : ZB) (r : PR QS) : PR QS := match r with
  | .inl e => .inl e
  | .inr s2 => if B s2.1 = 59 then .inr (sp B (s2.1 + 1), s2.2) else .inl (-2, s2.1)
def qp (t : Bool × Bool × Bool) (cs : List Int32) (r : PR (Nat × ZD)) : PR QS := match r with
    | .inl e => .inl e
    | .inr x => .inr (x.1, x.2, t, cs)
theorem stm_party {B : ZB} {q : Nat} {G : ZD} {t : Bool × Bool × Bool} {cs : List Int32} (w0 : wd B "party" q) : stm B (q, G, t, cs) = qp t cs (pty B (sp B (q + 5)) q G) := by
  unfold stm
  rw [if_pos w0]
  unfold pty
  by_cases h10 : G 4 = 10
  · rw [if_pos h10, if_pos h10]
    rfl
  · rw [if_neg h10, if_neg h10]
    cases e1 : num B 0 99 (sp B (q + 5)) with
    | inl e => rfl
    | inr r1 =>
      cases e2 : num B 0 99 r1.1 with
      | inl e => simp only [e2, qp]
      | inr r2 =>
        cases e3 : num B 0 999 r2.1 with
        | inl e => simp only [e2, e3, qp]
        | inr r3 => simp only [e2, e3, qp]
theorem stm_wait {B : ZB} {q : Nat} {G : ZD} {b c : Bool} {cs : List Int32} (w0 : ¬ wd B "party" q) (w1 : wd B "wait" q) : stm B (q, G, (false, b, c), cs) = (match num B 1 99 (sp B (q + 4)) with
    | .inl e => .inl e
    | .inr r1 => (match num B 1 99 r1.1 with
      | .inl e => .inl e
      | .inr r2 => .inr (r2.1, upd (upd G 1 (nI r1.2)) 2 (nI r2.2), (true, (b, c)), cs))) := by
  unfold stm
  rw [if_neg w0, if_pos ⟨w1, rfl⟩]
  rfl
theorem stm_pat {B : ZB} {q : Nat} {G : ZD} {a c : Bool} {cs : List Int32} (w0 : ¬ wd B "party" q) (w1 : ¬ wd B "wait" q) (w2 : wd B "patience" q) : stm B (q, G, (a, false, c), cs) = (match num B 1 99 (sp B (q + 8)) with
    | .inl e => .inl e
    | .inr r1 => .inr (r1.1, upd G 3 (nI r1.2), (a, true, c), cs)) := by
  unfold stm
  rw [if_neg w0, if_neg (fun z => w1 z.1), if_pos ⟨w2, rfl⟩]
  rfl
theorem stm_ring {B : ZB} {q : Nat} {G : ZD} {a b : Bool} {cs : List Int32} (w0 : ¬ wd B "party" q) (w1 : ¬ wd B "wait" q) (w2 : ¬ wd B "patience" q) (w3 : wd B "ring" q) : stm B (q, G, (a, b, false), cs) = (match smm B (fac B 4) (sp B (q + 4), cs) with
    | .inl e => .inl e
    | .inr x => .inr (x.1, upd G 7 1, (a, b, true), x.2)) := by
  unfold stm
  rw [if_neg w0, if_neg (fun z => w1 z.1), if_neg (fun z => w2 z.1), if_pos ⟨w3, rfl⟩]
  rfl
theorem wd_two {B : ZB} {q : Nat} {t u : String} (h : wd B t q) (hu : wd B u q) (h0 : 0 < t.length) (h1 : 0 < u.length) (h2 : zch t 0 ≠ zch u 0) : False := h2 ((h.1 0 h0).symm.trans (hu.1 0 h1))
theorem stm_else {B : ZB} {q : Nat} {G : ZD} {a b c : Bool} {cs : List Int32} (w0 : ¬ wd B "party" q) (w1 : ¬ (wd B "wait" q ∧ a = false)) (w2 : ¬ (wd B "patience" q ∧ b = false)) (w3 : ¬ (wd B "ring" q ∧ c = false)) : stm B (q, G, (a, b, c), cs) = .inl (-2, q) := by
  unfold stm
  rw [if_neg w0, if_neg w1, if_neg w2, if_neg w3]
end MLd
