section MPx
theorem Ct.mono {l : Launch} {Γ : ZG} {M : ZM} {d mc ms : Nat} {as : List Value} {w : ZW} {Φ Φ' : Option Value → ZW → Prop} {Ψ Ψ' : String → ZW → Prop} (h : ∀ v w2, Φ v w2 → Φ' v w2) (hx : ∀ E w2, Ψ E w2 → Ψ' E w2) (c : Ct l Γ M d mc ms as w Φ Ψ) : Ct l Γ M d mc ms as w Φ' Ψ' := by
  intro htr p e ha hc hk s m args below hf happ hp hK
  obtain ⟨n, o, h1, h2, h3, h4⟩ := c htr p e ha hc hk s m args below hf happ hp hK
  refine ⟨n, o, h1, h2, h3, ?_⟩
  rcases h4 with ⟨⟨v, w', c1, c2, c3⟩, c4⟩ | ⟨q, c1, E, ce, L9, ⟨w', d1, d2⟩, c3⟩
  · exact Or.inl ⟨⟨v, w', c1, h _ _ c2, c3⟩, c4⟩
  · exact Or.inr ⟨q, c1, E, ce, L9, ⟨w', hx _ _ d1, d2⟩, c3⟩
section
variable {l : Launch} {Γ : ZG} {M M' : ZM} {dp mc ms d' : Nat} {Φ : Option Value → ZW → Prop} {Ψ : String → ZW → Prop} {k n : Nat} {w : ZW} {pc o : Nat} {L : ZL} {st : List Value} {D : ZD}
end
def rawAt (E : ZD) (es : List Int32) : Prop := E 8 = nI es.length ∧ ∀ j, j < es.length → E (666 + j) = es.getD j 0
theorem rawAt.app {E : ZD} {es : List Int32} {v : Int32} (h : rawAt E es) : rawAt (upd (upd E (666 + es.length) v) 8 (nI (es.length + 1))) (es ++ [v]) := by
  refine ⟨by rw [List.length_append]; exact if_pos rfl, fun j hj => ?_⟩
  rw [List.length_append] at hj
  have hj' : j < es.length + 1 := hj
  show (if 666 + j = 8 then _ else if 666 + j = 666 + es.length then v else E (666 + j)) = _
  rw [if_neg (by omega), List.getD_eq_getElem?_getD]
  rcases (show j < es.length ∨ j = es.length by omega) with hlt | heq
  · rw [if_neg (by omega), List.getElem?_append_left hlt, h.2 j hlt, List.getD_eq_getElem?_getD]
  · subst heq
    rw [if_pos rfl, List.getElem?_append_right (Nat.le_refl _), Nat.sub_self]
    rfl
section
variable {B : ZB} {n : Nat} {q : Nat} {G : ZD} {es : List Int32} {ne sn : Nat}
variable {l : Launch} {Γ : ZG} {w : ZW} {o : Nat} {D : ZD}
end
theorem wd_end {B : ZB} {n q : Nat} {t : String} (hT : TB B n) (h : wd B t q) (hw : ∀ i, i < t.length → zch t i ≠ -1) (h0 : 0 < t.length) : q + t.length ≤ n := by
  have := wd_pos hT h hw (t.length - 1) (by omega)
  omega
theorem wd_ne {B : ZB} {q : Nat} {t : String} {c : Int32} (hc : B q = c) (h0 : 0 < t.length) (h1 : zch t 0 ≠ c) : ¬ wd B t q := fun z => h1 ((z.1 0 h0).symm.trans hc)
noncomputable def smg (B : ZB) (F : XS → PR XS) (s : XS) : PR XS := match F s with
  | .inl e => .inl e
  | .inr s2 => opL B 43 45 (-5) (-6) F 601 s2
theorem smg_trm {B : ZB} {F : XS → PR XS} : smg B (trm B F) = smm B F := rfl
end MPx
