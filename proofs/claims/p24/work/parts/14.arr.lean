/-! arrays: only what lies within counts; copying; the reference's history -/
section Arr
variable {l : Launch} {Γ : ZG} {M M' : ZM} {dp mc ms d' : Nat} {Φ : Option Value → ZW → Prop} {Ψ : String → ZW → Prop} {k n : Nat} {w w' : ZW} {pc o : Nat} {L : ZL} {st : List Value} {D : ZD}
theorem go_conv {a N : Nat} {c : ClassId} {f g : Nat → Int32} (hw : w.2 a = some (.inl (c, N, .inl f))) (hfg : ∀ i, i < N → f i = g i) (kk : Go l Γ M dp mc ms Φ Ψ k n (wset w a (.inl (c, N, .inl g))) pc L st) : Go l Γ M dp mc ms Φ Ψ k n w pc L st := by
  intro p e s m args below meth cc C H locs ls hl hH hS
  refine kk p e s m args below meth cc C H locs ls hl ?_ hS
  obtain ⟨h1, h2⟩ := hH.2.2 a _ hw
  refine hH.set h1 ?_ rfl (fun _ _ => rfl)
  have h3 : H[a]? = some (vp_cell c (N, .inl f)) := h2
  show H[a]? = some (vp_cell c (N, .inl g))
  rw [h3, vp_cell_i, vp_cell_i]
  congr 1
  unfold arrV
  congr 1
  congr 1
  funext j
  exact congrArg Value.int (hfg j.val j.isLt)
theorem wset_wset {w : ZW} {a : Nat} {e e' : va_E} : wset (wset w a e) a e' = wset w a e' := by
  refine Prod.ext rfl (funext fun q => ?_)
  show (if q = a then some e' else if q = a then some e else w.2 q) = if q = a then some e' else w.2 q
  by_cases h : q = a
  · rw [if_pos h, if_pos h]
  · rw [if_neg h, if_neg h, if_neg h]
theorem wset_at {w : ZW} {a : Nat} {e : va_E} : (wset w a e).2 a = some e := if_pos rfl
theorem wset_ne {w : ZW} {a b : Nat} {e : va_E} (h : b ≠ a) : (wset w a e).2 b = w.2 b := if_neg h
/-- the first i of f, the rest of g -/
def cpi (f g : Nat → Int32) (i : Nat) : Nat → Int32 := fun j => if j < i then f j else g j
theorem cpi_s {f g : Nat → Int32} {i : Nat} : upd (cpi f g i) i (f i) = cpi f g (i + 1) := by
  funext j
  show (if j = i then f i else if j < i then f j else g j) = if j < i + 1 then f j else g j
  by_cases h : j = i
  · subst h; rw [if_pos rfl, if_pos (by omega)]
  · rw [if_neg h]
    by_cases h2 : j < i
    · rw [if_pos h2, if_pos (by omega)]
    · rw [if_neg h2, if_neg (by omega)]
theorem cpi_0 {f g : Nat → Int32} : cpi f g 0 = g := by
  funext j
  exact if_neg (by omega)
end Arr
theorem zfind_ok {P : Nat → Prop} {n : Nat} (hn : n < 2 ^ 31) (h : zfind P 0 n ≠ -1) : zfind P 0 n = nI (zfind P 0 n).toNatClampNeg ∧ (zfind P 0 n).toNatClampNeg < n ∧ P (zfind P 0 n).toNatClampNeg := by
  rcases zfind_spec (P := P) n 0 with ⟨h1, -⟩ | ⟨j, -, h2, h3, h4, -⟩
  · exact absurd h1 h
  · have hj : (nI j).toNatClampNeg = j := nI_clamp (by omega)
    rw [h4, hj]
    exact ⟨rfl, by omega, h3⟩
theorem nI_nm1 {j : Nat} (h : j < 2 ^ 31) : nI j ≠ -1 := by
  intro e
  have h1 := nI_pos h
  rw [e] at h1
  exact h1 (by decide)
noncomputable def stl (x : Int32) : Nat → ZD → Nat × ZD
  | 0, D => (0, D)
  | F + 1, D => @ite _ (rngs D x) (Classical.propDecidable _) ((stl x F (secD D)).1 + 1, (stl x F (secD D)).2) (0, D)
theorem stl_t {x : Int32} {F : Nat} {D : ZD} (h : rngs D x) : stl x (F + 1) D = ((stl x F (secD D)).1 + 1, (stl x F (secD D)).2) := by rw [stl]; exact if_pos h
theorem stl_f {x : Int32} {F : Nat} {D : ZD} (h : ¬ rngs D x) : stl x F D = (0, D) := by
  cases F with
  | zero => rfl
  | succ F => rw [stl]; exact if_neg h
theorem sm_sec {D : ZD} (hI : Iv D) : Same (upd D 0 (D 0 + 1)) (secD D) := by
  have hI' : Iv (upd D 0 (D 0 + 1)) := hI.sec0
  have h20 : ∀ k D', k < nL D → Same (upd D 0 (D 0 + 1)) D' → ofN D' k < 20 := fun k D' hk hs => by
    have := ((hI'.same hs).1.2.2.2 k (by rw [sm_nL hs, sec0_nL]; exact hk)).2
    have h2 := (hI'.same hs).1.2.1.2
    omega
  unfold secD
  refine sm_itr (nC D) (fun _ _ _ _ => sm_s4) _ _ _ (by omega) ?_
  refine sm_itr (nL D) (fun k D' hk hs => sm_s3 (h20 k D' hk hs)) _ _ _ (by omega) ?_
  refine sm_itr (nL D) (fun _ _ _ _ => sm_s2) _ _ _ (by omega) ?_
  exact sm_itr (nL D) (fun _ _ _ _ => sm_s1) _ _ _ (by omega) sm_rf
theorem Iv.sec {D : ZD} (hI : Iv D) : Iv (secD D) := hI.sec0.same (sm_sec hI)
theorem sec_nL {D : ZD} (hI : Iv D) : nL (secD D) = nL D := (sm_nL (sm_sec hI)).trans sec0_nL
theorem sec_nC {D : ZD} (hI : Iv D) : nC (secD D) = nC D := (sm_nC (sm_sec hI)).trans sec0_nC
theorem stl_iv {x : Int32} : ∀ {F : Nat} {D : ZD}, Iv D → Iv (stl x F D).2 ∧ nL (stl x F D).2 = nL D ∧ nC (stl x F D).2 = nC D
  | 0, _, h => ⟨h, rfl, rfl⟩
  | F + 1, D, h => by
    rcases Classical.em (rngs D x) with q | q
    · rw [stl_t q]
      have := stl_iv (x := x) (F := F) h.sec
      rw [sec_nL h, sec_nC h] at this
      exact this
    · rw [stl_f q]
      exact ⟨h, rfl, rfl⟩
def tN (v : Int32) : Nat := v.toNatClampNeg
noncomputable def hupD (D : ZD) (x : Int32) : Int32 × ZD :=
  if legW D x 1 ≠ -1 then (1, endD D (tN (legW D x 1)) 6) else if rngOf D x ≠ -1 then (2, takeB (endAllD D (rngOf D x) (-1) 4) (tN (rngOf D x)))
  else if legW D x 2 ≠ -1 then (3, endD D (tN (legW D x 2)) 6) else if rung D x = 0 then (0, D) else (4, endToD D x 5)
