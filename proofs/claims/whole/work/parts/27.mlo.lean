section MLo
/-- what holds of a setup as far as it is read -/
def QInv (s : QS) : Prop := (s.2.1 4 = nI (nP s.2.1) ∧ nP s.2.1 ≤ 10) ∧ (∀ i, (i = 0 ∨ i = 5 ∨ i = 6 ∨ (9 ≤ i ∧ i < 16)) → s.2.1 i = 0) ∧ (∀ p j, p < nP s.2.1 → j < 3 → 0 ≤ dP s.2.1 p j) ∧ (s.2.2.1.2.2 = false → s.2.2.2 = []) ∧ (s.2.2.2 = [] ∨ wfd s.2.2.2 0) ∧ (encs s.2.2.2).length ≤ 1000
theorem addP_at {G : ZD} {a r c : Int32} {i : Nat} (h4 : i ≠ 4) (h0 : i ≠ 16 + 3 * nP G) (h1 : i ≠ 16 + 3 * nP G + 1) (h2 : i ≠ 16 + 3 * nP G + 2) : addP G a r c i = G i := ((if_neg h4).trans (if_neg h2)).trans ((if_neg h1).trans (if_neg h0))
theorem addP_n {G : ZD} {a r c : Int32} (h : G 4 = nI (nP G)) (hn : nP G ≤ 10) : addP G a r c 4 = nI (nP G + 1) ∧ nP (addP G a r c) = nP G + 1 := by
  have e : addP G a r c 4 = nI (nP G + 1) := (show addP G a r c 4 = G 4 + 1 from pk_us).trans (by rw [h, nI_1])
  exact ⟨e, by unfold nP; rw [e]; exact nI_clamp (by omega)⟩
theorem nP_upd {G : ZD} {i : Nat} {v : Int32} (h : i ≠ 4) : nP (upd G i v) = nP G := by
  unfold nP
  rw [show upd G i v 4 = G 4 from if_neg (Ne.symm h)]
theorem qinv_low {s : QS} {q : Nat} {i : Nat} {v : Int32} {t : Bool × Bool × Bool} {cs : List Int32} (h : QInv s) (hi : i = 1 ∨ i = 2 ∨ i = 3 ∨ i = 7) (hcs : (t.2.2 = false → cs = []) ∧ (cs = [] ∨ wfd cs 0) ∧ (encs cs).length ≤ 1000) : QInv (q, upd s.2.1 i v, t, cs) := by
  obtain ⟨⟨a, b⟩, c, d, -⟩ := h
  refine ⟨⟨?_, ?_⟩, fun k hk => ?_, fun p j hp hj => ?_, hcs⟩
  · show upd s.2.1 i v 4 = nI (nP (upd s.2.1 i v))
    rw [nP_upd (by omega), show upd s.2.1 i v 4 = s.2.1 4 from if_neg (by omega)]
    exact a
  · show nP (upd s.2.1 i v) ≤ 10
    rw [nP_upd (by omega)]
    exact b
  · show upd s.2.1 i v k = 0
    rw [show upd s.2.1 i v k = s.2.1 k from if_neg (by omega)]
    exact c k hk
  · have hp' : p < nP s.2.1 := by rw [← nP_upd (v := v) (show i ≠ 4 by omega)]; exact hp
    show 0 ≤ upd s.2.1 i v (16 + 3 * p + j)
    rw [show upd s.2.1 i v (16 + 3 * p + j) = s.2.1 (16 + 3 * p + j) from if_neg (by omega)]
    exact d p j hp' hj
theorem stm_ok {B : ZB} {n : Nat} (hT : TB B n) {s s2 : QS} (hs : s.1 ≤ n) (hI : QInv s) (h : stm B s = .inr s2) : QInv s2 ∧ s.1 < s2.1 ∧ s2.1 ≤ n := by
  obtain ⟨q, G, ⟨a, b, c⟩, cs⟩ := s
  have hs : q ≤ n := hs
  by_cases w0 : wd B "party" q
  · rw [stm_party w0] at h
    have g0 : q + 5 ≤ n := wd_end hT w0 (by decide +kernel) (by decide +kernel)
    have g1 : q + 5 ≤ sp B (q + 5) := sp_ge
    unfold pty at h
    by_cases h10 : G 4 = 10
    · rw [if_pos h10] at h; cases h
    · rw [if_neg h10] at h
      cases e1 : num B 0 99 (sp B (q + 5)) with
      | inl e => simp only [e1, qp] at h; cases h
      | inr r1 =>
        cases e2 : num B 0 99 r1.1 with
        | inl e => simp only [e1, e2, qp] at h; cases h
        | inr r2 =>
          cases e3 : num B 0 999 r2.1 with
          | inl e => simp only [e1, e2, e3, qp] at h; cases h
          | inr r3 =>
            simp only [e1, e2, e3, qp] at h
            cases h
            obtain ⟨a1, a2, -, a4, a5, -⟩ := num_what hT e1
            obtain ⟨b1, b2, -, b4, b5, -⟩ := num_what hT e2
            obtain ⟨c1, c2, -, c4, c5, -⟩ := num_what hT e3
            obtain ⟨⟨i1, i2⟩, i3, i4, i5⟩ := hI
            have i1 : G 4 = nI (nP G) := i1
            have i2 : nP G ≤ 10 := i2
            have hlt : nP G < 10 := by
              rcases Nat.eq_or_lt_of_le i2 with e | g
              · exact absurd (i1.trans (by rw [e]; rfl)) h10
              · exact g
            obtain ⟨n1, n2⟩ := addP_n (a := nI r1.2) (r := nI r2.2) (c := nI r3.2) i1 i2
            refine ⟨⟨⟨?_, ?_⟩, fun k hk => ?_, fun p j hp hj => ?_, i5⟩, by show q < r3.1; omega, c2⟩
            · show (addP G (nI r1.2) (nI r2.2) (nI r3.2)) 4 = nI (nP (addP G (nI r1.2) (nI r2.2) (nI r3.2)))
              rw [n1, n2]
            · show nP (addP G (nI r1.2) (nI r2.2) (nI r3.2)) ≤ 10
              omega
            · show (addP G (nI r1.2) (nI r2.2) (nI r3.2)) k = 0
              rw [addP_at (by omega) (by omega) (by omega) (by omega)]
              exact i3 k hk
            · have hp : p < nP (addP G (nI r1.2) (nI r2.2) (nI r3.2)) := hp
              rw [n2] at hp
              rcases (show p < nP G ∨ p = nP G by omega) with g | g
              · show 0 ≤ (addP G (nI r1.2) (nI r2.2) (nI r3.2)) (16 + 3 * p + j)
                rw [addP_at (by omega) (by omega) (by omega) (by omega)]
                exact i4 p j g hj
              · subst g
                rcases (show j = 0 ∨ j = 1 ∨ j = 2 by omega) with rfl | rfl | rfl
                · have e : dP (addP G (nI r1.2) (nI r2.2) (nI r3.2)) (nP G) 0 = nI r1.2 := ((if_neg (by omega)).trans (if_neg (by omega))).trans ((if_neg (by omega)).trans (if_pos rfl))
                  show 0 ≤ dP (addP G (nI r1.2) (nI r2.2) (nI r3.2)) (nP G) 0
                  rw [e]; exact nI_pos' (by omega)
                · have e : dP (addP G (nI r1.2) (nI r2.2) (nI r3.2)) (nP G) 1 = nI r2.2 := ((if_neg (by omega)).trans (if_neg (by omega))).trans (if_pos rfl)
                  show 0 ≤ dP (addP G (nI r1.2) (nI r2.2) (nI r3.2)) (nP G) 1
                  rw [e]; exact nI_pos' (by omega)
                · have e : dP (addP G (nI r1.2) (nI r2.2) (nI r3.2)) (nP G) 2 = nI r3.2 := (if_neg (by omega)).trans (if_pos rfl)
                  show 0 ≤ dP (addP G (nI r1.2) (nI r2.2) (nI r3.2)) (nP G) 2
                  rw [e]; exact nI_pos' (by omega)
  by_cases w1 : wd B "wait" q ∧ a = false
  · obtain ⟨w1, rfl⟩ := w1
    rw [stm_wait w0 w1] at h
    have g0 : q + 4 ≤ n := wd_end hT w1 (by decide +kernel) (by decide +kernel)
    have g1 : q + 4 ≤ sp B (q + 4) := sp_ge
    cases e1 : num B 1 99 (sp B (q + 4)) with
    | inl e => simp only [e1] at h; cases h
    | inr r1 =>
      cases e2 : num B 1 99 r1.1 with
      | inl e => simp only [e1, e2] at h; cases h
      | inr r2 =>
        simp only [e1, e2] at h
        cases h
        obtain ⟨a1, a2, -⟩ := num_what hT e1
        obtain ⟨b1, b2, -⟩ := num_what hT e2
        have k1 := qinv_low (q := q) (v := nI r1.2) (t := (true, b, c)) (cs := cs) hI (Or.inl rfl) hI.2.2.2
        exact ⟨qinv_low (s := (q, upd G 1 (nI r1.2), (true, b, c), cs)) k1 (Or.inr (Or.inl rfl)) hI.2.2.2, by show q < r2.1; omega, b2⟩
  by_cases w2 : wd B "patience" q ∧ b = false
  · obtain ⟨w2, rfl⟩ := w2
    have w1' : ¬ wd B "wait" q := fun z => wd_two w2 z (by decide +kernel) (by decide +kernel) (by decide +kernel)
    rw [stm_pat w0 w1' w2] at h
    have g0 : q + 8 ≤ n := wd_end hT w2 (by decide +kernel) (by decide +kernel)
    have g1 : q + 8 ≤ sp B (q + 8) := sp_ge
    cases e1 : num B 1 99 (sp B (q + 8)) with
    | inl e => simp only [e1] at h; cases h
    | inr r1 =>
      simp only [e1] at h
      cases h
      obtain ⟨a1, a2, -⟩ := num_what hT e1
      exact ⟨qinv_low (s := (q, G, (a, false, c), cs)) hI (Or.inr (Or.inr (Or.inl rfl))) hI.2.2.2, by show q < r1.1; omega, a2⟩
  by_cases w3 : wd B "ring" q ∧ c = false
  · obtain ⟨w3, rfl⟩ := w3
    have w1' : ¬ wd B "wait" q := fun z => wd_two w3 z (by decide +kernel) (by decide +kernel) (by decide +kernel)
    have w2' : ¬ wd B "patience" q := fun z => wd_two w3 z (by decide +kernel) (by decide +kernel) (by decide +kernel)
    rw [stm_ring w0 w1' w2' w3] at h
    have hcs : cs = [] := hI.2.2.2.1 rfl
    subst hcs
    have g0 : q + 4 ≤ n := wd_end hT w3 (by decide +kernel) (by decide +kernel)
    have g1 : q + 4 ≤ sp B (q + 4) := sp_ge
    cases e1 : smm B (fac B 4) (sp B (q + 4), []) with
    | inl e => simp only [e1] at h; cases h
    | inr x =>
      simp only [e1] at h
      cases h
      obtain ⟨b1, b2, b3, ad, b4, b5, b6, b7⟩ := smm_ok hT (fac_ok hT 4) (sp B (q + 4), []) x (sp_le hT g0) e1
      have b4 : x.2 = ad := b4
      have b1 : sp B (q + 4) < x.1 := b1
      have b6 : 2 * (encs ad).length + 3 * sp B (q + 4) ≤ 3 * x.1 + 1 := b6
      have h6 := hT.1
      refine ⟨qinv_low (s := (q, G, (a, b, false), [])) (q := x.1) (t := (a, b, true)) (cs := x.2) hI (Or.inr (Or.inr (Or.inr rfl))) ⟨fun z => (by cases z), Or.inr ?_, ?_⟩, by show q < x.1; omega, b2⟩
      · have := b7 0 [] (by omega) rfl
        rw [List.append_nil] at this
        rw [b4]; exact this
      · rw [b4]; omega
  rw [stm_else w0 w1 w2 w3] at h
  cases h

set_option maxRecDepth 100000 in
set_option maxHeartbeats 4000000 in
theorem lp_X6_layUsual {l : Launch} {Γ : ZG} {w : ZW} {b : Nat} {g : Nat → Int32} : ∀ (n i : Nat), i + n = 1666 → Go l Γ mX6_layUsual 1 0 0 (fun v w2 => v = none ∧ w2 = wset w b (.inl (Γ.2.2.1 0, 1666, .inl usual))) zNo 0 0 (wset w b (.inl (Γ.2.2.1 0, 1666, .inl (cpi (fun _ => 0) g i)))) 2 [(0, .ref b), (1, .int (nI i))] [] := by
  intro n
  induction n with
  | zero =>
    intro i hif
    refine go_iload_n 3 dX6_layUsual_2 rfl ?_
    refine go_sipush 6 dX6_layUsual_3 zs_1666 ?_
    refine go_icmp_ge 19 9 dX6_layUsual_6 (fun h6 => ?_) (fun h6 => ?_)
    · refine go_conv (g := fun _ => 0) wset_at (fun j hj => if_pos (by omega)) ?_
      rw [wset_wset]
      refine go_aload_n 20 dX6_layUsual_19 rfl ?_
      refine go_iconst 21 dX6_layUsual_20 zc_1 ?_
      refine go_iconst 22 dX6_layUsual_21 zc_3 ?_
      refine go_iast 23 dX6_layUsual_22 wset_at (vp_in_nI (n := 1) (by decide) (by decide)) ?_
      rw [show ((1 : Int32)).toNatClampNeg = 1 from rfl, wset_wset]
      refine go_aload_n 24 dX6_layUsual_23 rfl ?_
      refine go_iconst 25 dX6_layUsual_24 zc_2 ?_
      refine go_iconst 26 dX6_layUsual_25 zc_5 ?_
      refine go_iast 27 dX6_layUsual_26 wset_at (vp_in_nI (n := 2) (by decide) (by decide)) ?_
      rw [show ((2 : Int32)).toNatClampNeg = 2 from rfl, wset_wset]
      refine go_aload_n 28 dX6_layUsual_27 rfl ?_
      refine go_iconst 29 dX6_layUsual_28 zc_3 ?_
      refine go_bipush 31 dX6_layUsual_29 zb_20 ?_
      refine go_iast 32 dX6_layUsual_31 wset_at (vp_in_nI (n := 3) (by decide) (by decide)) ?_
      rw [show ((3 : Int32)).toNatClampNeg = 3 from rfl, wset_wset]
      exact go_return dX6_layUsual_32 rfl (by omega) (by omega) (⟨rfl, rfl⟩)
    · exact (lpE (a := 1666) (N := 1666) rfl (by omega) h6).elim
  | succ n ih =>
    intro i hif
    refine go_iload_n 3 dX6_layUsual_2 rfl ?_
    refine go_sipush 6 dX6_layUsual_3 zs_1666 ?_
    refine go_icmp_ge 19 9 dX6_layUsual_6 (fun h6 => ?_) (fun h6 => ?_)
    · exact (lpG (a := 1666) (N := 1666) rfl (by decide) (by omega) h6).elim
    · refine go_aload_n 10 dX6_layUsual_9 rfl ?_
      refine go_iload_n 11 dX6_layUsual_10 rfl ?_
      refine go_iconst 12 dX6_layUsual_11 zc_0 ?_
      refine go_iast 13 dX6_layUsual_12 wset_at (vp_in_nI (n := i) (by omega) (by decide)) ?_
      rw [nI_clamp (by omega), wset_wset, show (0 : Int32) = (fun _ => 0 : Nat → Int32) i from rfl, cpi_s]
      refine go_iinc 16 dX6_layUsual_13 rfl (by decide) zc_1 ?_
      refine go_goto 2 dX6_layUsual_16 ?_
      rw [nI_1]
      exact go_locals _ rfl (ih (i + 1) (by omega))

set_option maxRecDepth 100000 in
set_option maxHeartbeats 4000000 in
theorem ct_X6_layUsual {l : Launch} {Γ : ZG} {w : ZW} {b : Nat} {g : Nat → Int32} (hb : w.2 b = some (.inl (Γ.2.2.1 0, 1666, .inl g))) : Cm l Γ mX6_layUsual 1 [.ref b] w none (wset w b (.inl (Γ.2.2.1 0, 1666, .inl usual))) := by
  refine Cm.of (by decide) rfl (Nat.le_of_ble_eq_true rfl) ?_
  refine go_iconst 1 dX6_layUsual_0 zc_0 ?_
  refine go_istore_n 2 dX6_layUsual_1 (by decide) ?_
  refine go_conv (g := cpi (fun _ => 0) g 0) hb (fun j hj => (if_neg (by omega)).symm) ?_
  exact go_locals _ rfl (lp_X6_layUsual (g := g) 1666 0 (by omega))

def byt (x : Int32) (r : Nat) : Int32 := (x >>> ((24 - 8 * nI r) &&& 31)) &&& 255
def wS (w0 w1 w2 w3 w4 : Int32) (k : Nat) : Int32 := if k < 4 then w0 else if k < 8 then w1 else if k < 12 then w2 else if k < 16 then w3 else w4
/-- a buffer with k more bytes from b on -/
def apT (t : ZD) (b : Nat) (w0 w1 w2 w3 w4 : Int32) (k : Nat) : ZD := fun i => if b ≤ i ∧ i < b + k then byt (wS w0 w1 w2 w3 w4 (i - b)) ((i - b) % 4) else t i
theorem apT_0 {t : ZD} {b : Nat} {w0 w1 w2 w3 w4 : Int32} : apT t b w0 w1 w2 w3 w4 0 = t := funext fun i => if_neg (by omega)
theorem apT_s {t : ZD} {b k : Nat} {w0 w1 w2 w3 w4 v : Int32} (h : wS w0 w1 w2 w3 w4 k = v) : upd (apT t b w0 w1 w2 w3 w4 k) (b + k) (byt v (k % 4)) = apT t b w0 w1 w2 w3 w4 (k + 1) := by
  funext i
  show (if i = b + k then _ else if b ≤ i ∧ i < b + k then _ else t i) = if b ≤ i ∧ i < b + (k + 1) then _ else t i
  by_cases e : i = b + k
  · rw [if_pos e, if_pos (by omega), e, show b + k - b = k by omega, h]
  · rw [if_neg e]
    by_cases g : b ≤ i ∧ i < b + k
    · rw [if_pos g, if_pos (by omega)]
    · rw [if_neg g, if_neg (by omega)]
theorem rem4 : ∀ k, k < 20 → nI k - nI k / 4 * 4 = nI (k % 4) := by decide +kernel
theorem byt_nn {x : Int32} {r : Nat} : 0 ≤ byt x r := by
  unfold byt
  rw [pk_and _ (m := 255) 8 rfl]
  have := Nat.mod_lt (x >>> ((24 - 8 * nI r) &&& 31)).toBitVec.toNat (show 0 < 2 ^ 8 by decide)
  exact nI_pos' (by omega)

theorem ap_w {Γ : ZG} {w : ZW} {o : Nat} {S : MS} {D : ZD} {T T2 : ZD} {a b : Int32} : wD Γ w o (mf (ma (mf (ma S 0 T) 2 a) 0 T2) 2 b) D = wD Γ w o (mf (ma S 0 T2) 2 b) D := by
  have e : mf (ma (mf (ma S 0 T) 2 a) 0 T2) 2 b = mf (ma S 0 T2) 2 b := by
    rw [show ma (mf (ma S 0 T) 2 a) 0 T2 = mf (ma (ma S 0 T) 0 T2) 2 a from rfl, ma_ma, mf_mf]
  rw [e]

set_option maxRecDepth 100000 in
set_option maxHeartbeats 4000000 in
theorem lp_X6_append {l : Launch} {Γ : ZG} {w : ZW} {o : Nat} {S : MS} {D : ZD} {t : ZD} {b : Nat} {w0 w1 w2 w3 w4 : Int32} (hb : b + 20 ≤ 600) : ∀ (n k : Nat), k + n = 20 → Go l Γ mX6_append 1 0 0 (fun v w9 => v = some (.int (nI (b + 20))) ∧ w9 = wD Γ w o (mf (ma S 0 (apT t b w0 w1 w2 w3 w4 20)) 2 (nI (b + 20))) D) zNo 0 0 (wD Γ w o (mf (ma S 0 (apT t b w0 w1 w2 w3 w4 k)) 2 (nI (b + k))) D) 23 [(0, .ref o), (1, .int w0), (2, .int w1), (3, .int w2), (4, .int w3), (5, .int w4), (6, .int (nI k))] [] := by
  intro n
  induction n with
  | zero =>
    intro k hif
    refine go_iload 25 dX6_append_23 rfl ?_
    refine go_bipush 27 dX6_append_25 zb_20 ?_
    refine go_icmp_ge 120 30 dX6_append_27 (fun h27 => ?_) (fun h27 => ?_)
    · refine go_aload_n 121 dX6_append_120 rfl ?_
      refine gd_get 124 dX6_append_121 fX6_42 rfl ?_
      exact go_ireturn dX6_append_124 rfl (by omega) (by omega) (⟨by rw [show k = 20 by omega]; rfl, by rw [show k = 20 by omega]⟩)
    · exact (lpE (a := 20) (N := 20) rfl (by omega) h27).elim
  | succ n ih =>
    intro k hif
    refine go_iload 25 dX6_append_23 rfl ?_
    refine go_bipush 27 dX6_append_25 zb_20 ?_
    refine go_icmp_ge 120 30 dX6_append_27 (fun h27 => ?_) (fun h27 => ?_)
    · exact (lpG (a := 20) (N := 20) rfl (by decide) (by omega) h27).elim
    · refine go_iload 32 dX6_append_30 rfl ?_
      refine go_iconst 33 dX6_append_32 zc_4 ?_
      refine go_icmp_ge 40 36 dX6_append_33 (fun h33 => ?_) (fun h33 => ?_)
      · have z4 : ¬ k < 4 := fun q => nI_ge (b := 4) q (by decide) h33
        refine go_iload 42 dX6_append_40 rfl ?_
        refine go_bipush 44 dX6_append_42 zb_8 ?_
        refine go_icmp_ge 51 47 dX6_append_44 (fun h44 => ?_) (fun h44 => ?_)
        · have z8 : ¬ k < 8 := fun q => nI_ge (b := 8) q (by decide) h44
          refine go_iload 53 dX6_append_51 rfl ?_
          refine go_bipush 55 dX6_append_53 zb_12 ?_
          refine go_icmp_ge 62 58 dX6_append_55 (fun h55 => ?_) (fun h55 => ?_)
          · have z12 : ¬ k < 12 := fun q => nI_ge (b := 12) q (by decide) h55
            refine go_iload 64 dX6_append_62 rfl ?_
            refine go_bipush 66 dX6_append_64 zb_16 ?_
            refine go_icmp_ge 74 69 dX6_append_66 (fun h66 => ?_) (fun h66 => ?_)
            · have z16 : ¬ k < 16 := fun q => nI_ge (b := 16) q (by decide) h66
              have hws : wS w0 w1 w2 w3 w4 k = w4 := (if_neg z4).trans ((if_neg z8).trans ((if_neg z12).trans (if_neg z16)))
              refine go_iload 76 dX6_append_74 rfl ?_
              refine go_istore 78 dX6_append_76 (by decide) ?_
              refine go_aload_n 79 dX6_append_78 rfl ?_
              refine gd_get 82 dX6_append_79 fX6_9 rfl ?_
              refine go_aload_n 83 dX6_append_82 rfl ?_
              refine gd_get 86 dX6_append_83 fX6_42 rfl ?_
              refine go_iload 88 dX6_append_86 rfl ?_
              refine go_bipush 90 dX6_append_88 zb_24 ?_
              refine go_bipush 92 dX6_append_90 zb_8 ?_
              refine go_iload 94 dX6_append_92 rfl ?_
              refine go_iconst 95 dX6_append_94 zc_4 ?_
              refine go_irem 96 dX6_append_95 (by decide) ?_
              rw [rem4 k (by omega)]
              refine go_imul 97 dX6_append_96 ?_
              refine go_isub 98 dX6_append_97 ?_
              refine go_ishr 99 dX6_append_98 ?_
              refine go_sipush 102 dX6_append_99 zs_255 ?_
              refine go_iand 103 dX6_append_102 ?_
              refine gd_iastx (x := 1) (a := 0) 104 (b + k) dX6_append_103 rfl (by decide) rfl (by show b + k < 600; omega) (by decide) ?_
              refine go_aload_n 105 dX6_append_104 rfl ?_
              refine go_dup 106 dX6_append_105 rfl ?_
              refine gd_get 109 dX6_append_106 fX6_42 rfl ?_
              refine go_iconst 110 dX6_append_109 zc_1 ?_
              refine go_iadd 111 dX6_append_110 ?_
              refine gd_put 114 dX6_append_111 pX6_42 rfl (by decide) ?_
              refine go_iinc 117 dX6_append_114 rfl (by decide) zc_1 ?_
              refine go_goto 23 dX6_append_117 ?_
              rw [nI_1]
              refine go_eq (w := _) (go_locals [(0, .ref o), (1, .int w0), (2, .int w1), (3, .int w2), (4, .int w3), (5, .int w4), (6, .int (nI (k + 1)))] rfl (ih (k + 1) (by omega))) ?_
              rw [← apT_s hws, show b + (k + 1) = (b + k) + 1 by omega, ← nI_1]
              exact ap_w
            · have z16 : k < 16 := Classical.byContradiction fun q => h66 (nI_le (a := 16) (by omega) (by omega))
              have hws : wS w0 w1 w2 w3 w4 k = w3 := (if_neg z4).trans ((if_neg z8).trans ((if_neg z12).trans (if_pos z16)))
              refine go_iload 71 dX6_append_69 rfl ?_
              refine go_goto 76 dX6_append_71 ?_
              refine go_istore 78 dX6_append_76 (by decide) ?_
              refine go_aload_n 79 dX6_append_78 rfl ?_
              refine gd_get 82 dX6_append_79 fX6_9 rfl ?_
              refine go_aload_n 83 dX6_append_82 rfl ?_
              refine gd_get 86 dX6_append_83 fX6_42 rfl ?_
              refine go_iload 88 dX6_append_86 rfl ?_
              refine go_bipush 90 dX6_append_88 zb_24 ?_
              refine go_bipush 92 dX6_append_90 zb_8 ?_
              refine go_iload 94 dX6_append_92 rfl ?_
              refine go_iconst 95 dX6_append_94 zc_4 ?_
              refine go_irem 96 dX6_append_95 (by decide) ?_
              rw [rem4 k (by omega)]
              refine go_imul 97 dX6_append_96 ?_
              refine go_isub 98 dX6_append_97 ?_
              refine go_ishr 99 dX6_append_98 ?_
              refine go_sipush 102 dX6_append_99 zs_255 ?_
              refine go_iand 103 dX6_append_102 ?_
              refine gd_iastx (x := 1) (a := 0) 104 (b + k) dX6_append_103 rfl (by decide) rfl (by show b + k < 600; omega) (by decide) ?_
              refine go_aload_n 105 dX6_append_104 rfl ?_
              refine go_dup 106 dX6_append_105 rfl ?_
              refine gd_get 109 dX6_append_106 fX6_42 rfl ?_
              refine go_iconst 110 dX6_append_109 zc_1 ?_
              refine go_iadd 111 dX6_append_110 ?_
              refine gd_put 114 dX6_append_111 pX6_42 rfl (by decide) ?_
              refine go_iinc 117 dX6_append_114 rfl (by decide) zc_1 ?_
              refine go_goto 23 dX6_append_117 ?_
              rw [nI_1]
              refine go_eq (w := _) (go_locals [(0, .ref o), (1, .int w0), (2, .int w1), (3, .int w2), (4, .int w3), (5, .int w4), (6, .int (nI (k + 1)))] rfl (ih (k + 1) (by omega))) ?_
              rw [← apT_s hws, show b + (k + 1) = (b + k) + 1 by omega, ← nI_1]
              exact ap_w
          · have z12 : k < 12 := Classical.byContradiction fun q => h55 (nI_le (a := 12) (by omega) (by omega))
            have hws : wS w0 w1 w2 w3 w4 k = w2 := (if_neg z4).trans ((if_neg z8).trans (if_pos z12))
            refine go_iload_n 59 dX6_append_58 rfl ?_
            refine go_goto 76 dX6_append_59 ?_
            refine go_istore 78 dX6_append_76 (by decide) ?_
            refine go_aload_n 79 dX6_append_78 rfl ?_
            refine gd_get 82 dX6_append_79 fX6_9 rfl ?_
            refine go_aload_n 83 dX6_append_82 rfl ?_
            refine gd_get 86 dX6_append_83 fX6_42 rfl ?_
            refine go_iload 88 dX6_append_86 rfl ?_
            refine go_bipush 90 dX6_append_88 zb_24 ?_
            refine go_bipush 92 dX6_append_90 zb_8 ?_
            refine go_iload 94 dX6_append_92 rfl ?_
            refine go_iconst 95 dX6_append_94 zc_4 ?_
            refine go_irem 96 dX6_append_95 (by decide) ?_
            rw [rem4 k (by omega)]
            refine go_imul 97 dX6_append_96 ?_
            refine go_isub 98 dX6_append_97 ?_
            refine go_ishr 99 dX6_append_98 ?_
            refine go_sipush 102 dX6_append_99 zs_255 ?_
            refine go_iand 103 dX6_append_102 ?_
            refine gd_iastx (x := 1) (a := 0) 104 (b + k) dX6_append_103 rfl (by decide) rfl (by show b + k < 600; omega) (by decide) ?_
            refine go_aload_n 105 dX6_append_104 rfl ?_
            refine go_dup 106 dX6_append_105 rfl ?_
            refine gd_get 109 dX6_append_106 fX6_42 rfl ?_
            refine go_iconst 110 dX6_append_109 zc_1 ?_
            refine go_iadd 111 dX6_append_110 ?_
            refine gd_put 114 dX6_append_111 pX6_42 rfl (by decide) ?_
            refine go_iinc 117 dX6_append_114 rfl (by decide) zc_1 ?_
            refine go_goto 23 dX6_append_117 ?_
            rw [nI_1]
            refine go_eq (w := _) (go_locals [(0, .ref o), (1, .int w0), (2, .int w1), (3, .int w2), (4, .int w3), (5, .int w4), (6, .int (nI (k + 1)))] rfl (ih (k + 1) (by omega))) ?_
            rw [← apT_s hws, show b + (k + 1) = (b + k) + 1 by omega, ← nI_1]
            exact ap_w
        · have z8 : k < 8 := Classical.byContradiction fun q => h44 (nI_le (a := 8) (by omega) (by omega))
          have hws : wS w0 w1 w2 w3 w4 k = w1 := (if_neg z4).trans (if_pos z8)
          refine go_iload_n 48 dX6_append_47 rfl ?_
          refine go_goto 76 dX6_append_48 ?_
          refine go_istore 78 dX6_append_76 (by decide) ?_
          refine go_aload_n 79 dX6_append_78 rfl ?_
          refine gd_get 82 dX6_append_79 fX6_9 rfl ?_
          refine go_aload_n 83 dX6_append_82 rfl ?_
          refine gd_get 86 dX6_append_83 fX6_42 rfl ?_
          refine go_iload 88 dX6_append_86 rfl ?_
          refine go_bipush 90 dX6_append_88 zb_24 ?_
          refine go_bipush 92 dX6_append_90 zb_8 ?_
          refine go_iload 94 dX6_append_92 rfl ?_
          refine go_iconst 95 dX6_append_94 zc_4 ?_
          refine go_irem 96 dX6_append_95 (by decide) ?_
          rw [rem4 k (by omega)]
          refine go_imul 97 dX6_append_96 ?_
          refine go_isub 98 dX6_append_97 ?_
          refine go_ishr 99 dX6_append_98 ?_
          refine go_sipush 102 dX6_append_99 zs_255 ?_
          refine go_iand 103 dX6_append_102 ?_
          refine gd_iastx (x := 1) (a := 0) 104 (b + k) dX6_append_103 rfl (by decide) rfl (by show b + k < 600; omega) (by decide) ?_
          refine go_aload_n 105 dX6_append_104 rfl ?_
          refine go_dup 106 dX6_append_105 rfl ?_
          refine gd_get 109 dX6_append_106 fX6_42 rfl ?_
          refine go_iconst 110 dX6_append_109 zc_1 ?_
          refine go_iadd 111 dX6_append_110 ?_
          refine gd_put 114 dX6_append_111 pX6_42 rfl (by decide) ?_
          refine go_iinc 117 dX6_append_114 rfl (by decide) zc_1 ?_
          refine go_goto 23 dX6_append_117 ?_
          rw [nI_1]
          refine go_eq (w := _) (go_locals [(0, .ref o), (1, .int w0), (2, .int w1), (3, .int w2), (4, .int w3), (5, .int w4), (6, .int (nI (k + 1)))] rfl (ih (k + 1) (by omega))) ?_
          rw [← apT_s hws, show b + (k + 1) = (b + k) + 1 by omega, ← nI_1]
          exact ap_w
      · have z4 : k < 4 := Classical.byContradiction fun q => h33 (nI_le (a := 4) (by omega) (by omega))
        have hws : wS w0 w1 w2 w3 w4 k = w0 := if_pos z4
        refine go_iload_n 37 dX6_append_36 rfl ?_
        refine go_goto 76 dX6_append_37 ?_
        refine go_istore 78 dX6_append_76 (by decide) ?_
        refine go_aload_n 79 dX6_append_78 rfl ?_
        refine gd_get 82 dX6_append_79 fX6_9 rfl ?_
        refine go_aload_n 83 dX6_append_82 rfl ?_
        refine gd_get 86 dX6_append_83 fX6_42 rfl ?_
        refine go_iload 88 dX6_append_86 rfl ?_
        refine go_bipush 90 dX6_append_88 zb_24 ?_
        refine go_bipush 92 dX6_append_90 zb_8 ?_
        refine go_iload 94 dX6_append_92 rfl ?_
        refine go_iconst 95 dX6_append_94 zc_4 ?_
        refine go_irem 96 dX6_append_95 (by decide) ?_
        rw [rem4 k (by omega)]
        refine go_imul 97 dX6_append_96 ?_
        refine go_isub 98 dX6_append_97 ?_
        refine go_ishr 99 dX6_append_98 ?_
        refine go_sipush 102 dX6_append_99 zs_255 ?_
        refine go_iand 103 dX6_append_102 ?_
        refine gd_iastx (x := 1) (a := 0) 104 (b + k) dX6_append_103 rfl (by decide) rfl (by show b + k < 600; omega) (by decide) ?_
        refine go_aload_n 105 dX6_append_104 rfl ?_
        refine go_dup 106 dX6_append_105 rfl ?_
        refine gd_get 109 dX6_append_106 fX6_42 rfl ?_
        refine go_iconst 110 dX6_append_109 zc_1 ?_
        refine go_iadd 111 dX6_append_110 ?_
        refine gd_put 114 dX6_append_111 pX6_42 rfl (by decide) ?_
        refine go_iinc 117 dX6_append_114 rfl (by decide) zc_1 ?_
        refine go_goto 23 dX6_append_117 ?_
        rw [nI_1]
        refine go_eq (w := _) (go_locals [(0, .ref o), (1, .int w0), (2, .int w1), (3, .int w2), (4, .int w3), (5, .int w4), (6, .int (nI (k + 1)))] rfl (ih (k + 1) (by omega))) ?_
        rw [← apT_s hws, show b + (k + 1) = (b + k) + 1 by omega, ← nI_1]
        exact ap_w

set_option maxRecDepth 100000 in
set_option maxHeartbeats 4000000 in
theorem ct_X6_append_1 {l : Launch} {Γ : ZG} {w : ZW} {o : Nat} {S : MS} {D : ZD} {w0 w1 w2 w3 w4 : Int32} {b : Nat} (hb : S.1 2 = nI b) (hb2 : b ≤ 600) (h : ¬ b + 20 ≤ 600) : Cm l Γ mX6_append 1 [.ref o, .int w0, .int w1, .int w2, .int w3, .int w4] (wD Γ w o S D) (some (.int (-1))) (wD Γ w o (mf S 0 0) D) := by
  refine Cm.of (by decide) rfl (Nat.le_of_ble_eq_true rfl) ?_
  refine go_aload_n 1 dX6_append_0 rfl ?_
  refine go_iconst 2 dX6_append_1 zc_0 ?_
  refine gd_put 5 dX6_append_2 pX6_39 rfl (by decide) ?_
  refine go_aload_n 6 dX6_append_5 rfl ?_
  refine gd_get 9 dX6_append_6 fX6_42 rfl ?_
  refine go_bipush 11 dX6_append_9 zb_20 ?_
  refine go_iadd 12 dX6_append_11 ?_
  refine go_sipush 15 dX6_append_12 zs_600 ?_
  rw [show (mf S 0 0).1 2 = nI b from hb, show (20 : Int32) = nI 20 from rfl, nI_add]
  refine go_icmp_le 20 18 dX6_append_15 (fun h15 => ?_) (fun h15 => ?_)
  · exact absurd ((nI_leI (b := 600) (by omega) (by decide)).mp h15) h
  · refine go_iconst 19 dX6_append_18 zc_m1 ?_
    exact go_ireturn dX6_append_19 rfl (by omega) (by omega) (⟨rfl, rfl⟩)

set_option maxRecDepth 100000 in
set_option maxHeartbeats 4000000 in
theorem ct_X6_append {l : Launch} {Γ : ZG} {w : ZW} {o : Nat} {S : MS} {D : ZD} {w0 w1 w2 w3 w4 : Int32} {b : Nat} (hb : S.1 2 = nI b) (h : b + 20 ≤ 600) : Cm l Γ mX6_append 1 [.ref o, .int w0, .int w1, .int w2, .int w3, .int w4] (wD Γ w o S D) (some (.int (nI (b + 20)))) (wD Γ w o (mf (ma (mf S 0 0) 0 (apT (S.2.1 0) b w0 w1 w2 w3 w4 20)) 2 (nI (b + 20))) D) := by
  refine Cm.of (by decide) rfl (Nat.le_of_ble_eq_true rfl) ?_
  refine go_aload_n 1 dX6_append_0 rfl ?_
  refine go_iconst 2 dX6_append_1 zc_0 ?_
  refine gd_put 5 dX6_append_2 pX6_39 rfl (by decide) ?_
  refine go_aload_n 6 dX6_append_5 rfl ?_
  refine gd_get 9 dX6_append_6 fX6_42 rfl ?_
  refine go_bipush 11 dX6_append_9 zb_20 ?_
  refine go_iadd 12 dX6_append_11 ?_
  refine go_sipush 15 dX6_append_12 zs_600 ?_
  rw [show (mf S 0 0).1 2 = nI b from hb, show (20 : Int32) = nI 20 from rfl, nI_add]
  refine go_icmp_le 20 18 dX6_append_15 (fun h15 => ?_) (fun h15 => ?_)
  · refine go_iconst 21 dX6_append_20 zc_0 ?_
    refine go_istore 23 dX6_append_21 (by decide) ?_
    have q := lp_X6_append (l := l) (Γ := Γ) (w := w) (o := o) (S := mf S 0 0) (D := D) (t := S.2.1 0) (w0 := w0) (w1 := w1) (w2 := w2) (w3 := w3) (w4 := w4) h 20 0 (by omega)
    rw [apT_0, show b + 0 = b from rfl, show ma (mf S 0 0) 0 (S.2.1 0) = mf S 0 0 from ma_self (mf S 0 0) 0, mf_self (S := mf S 0 0) (j := 2) (v := nI b) hb] at q
    exact go_locals _ rfl q
  · exact absurd (nI_le (b := 600) h (by decide)) h15

set_option maxRecDepth 100000 in
set_option maxHeartbeats 4000000 in
theorem ct_X6_load_1 {l : Launch} {Γ : ZG} {w : ZW} {o : Nat} {S : MS} {D : ZD} {x : Int32} (h : ¬ (0 ≤ x ∧ x ≤ S.1 2)) : Cm l Γ mX6_load 12 [.ref o, .int x] (wD Γ w o S D) (some (.int 0)) (wD Γ w o (mf (mf S 0 0) 0 1) D) := by
  refine Cm.of (by decide) rfl (Nat.le_of_ble_eq_true rfl) ?_
  refine go_aload_n 1 dX6_load_0 rfl ?_
  refine go_iconst 2 dX6_load_1 zc_0 ?_
  refine gd_put 5 dX6_load_2 pX6_39 rfl (by decide) ?_
  refine go_aload_n 6 dX6_load_5 rfl ?_
  refine go_iload_n 7 dX6_load_6 rfl ?_
  refine go_iconst 8 dX6_load_7 zc_0 ?_
  refine go_aload_n 9 dX6_load_8 rfl ?_
  refine gd_get 12 dX6_load_9 fX6_42 rfl ?_
  refine gcS3 15 dX6_load_12 vX6_61 (ct_X6_in) ?_
  refine go_if_ne 22 18 dX6_load_15 (fun h15 => ?_) (fun h15 => ?_)
  · exact (h (zb_1 h15)).elim
  · refine go_iconst 19 dX6_load_18 zc_1 ?_
    refine go_goto 23 dX6_load_19 ?_
    refine go_iconst 24 dX6_load_23 zc_1 ?_
    refine gdV2 27 dX6_load_24 vX6_149 (ct_X6_fails_y rfl (by decide)) ?_
    refine go_if_eq 32 30 dX6_load_27 (fun h27 => ?_) (fun h27 => ?_)
    · exact absurd h27 (by decide)
    · refine go_iconst 31 dX6_load_30 zc_0 ?_
      exact go_ireturn dX6_load_31 rfl (by omega) (by omega) (⟨rfl, rfl⟩)

def Kp (S S' : MS) : Prop := S'.1 0 = 0 ∧ S'.1 2 = 0 ∧ S'.1 12 = S.1 12 ∧ ∀ a, a ≠ 2 → S'.2.1 a = S.2.1 a
/-- behind load -/
def LdP (Γ : ZG) (w : ZW) (o : Nat) (S : MS) (D : ZD) (u : Nat) (R : PR QS) : Option Value → ZW → Prop := fun v w2 => match R with
  | .inl e => v = some (.int e.1) ∧ e.1 ≠ 0 ∧ ∃ S', w2 = wD Γ w o S' D ∧ S'.1 7 = nI e.2 ∧ Kp S S'
  | .inr s => v = some (.int (s.2.1 4)) ∧ ∃ S' D', w2 = wD Γ w o (remM S' D u) D' ∧ S'.1 7 = -1 ∧ Kp S S' ∧ (∀ i, i < 666 → i ≠ 8 → D' i = s.2.1 i) ∧ rawAt D' (encs s.2.2.2) ∧ QInv s
def ld0 (S : MS) (x : Int32) : MS := ma (mf (mf (mf (mf (mf (mf (mf (mf S 0 0) 2 0) 3 x) 4 0) 5 0) 6 (-1)) 14 0) 15 0) 2 usual
theorem fr_kp {S S' : MS} {x : Int32} (h : Fr (ld0 S x) S') {v : Int32} : Kp S (mf S' 7 v) :=
  ⟨(h.1 0 (by decide) (by decide) (by decide) (by decide) (by decide) (by decide)), (h.1 2 (by decide) (by decide) (by decide) (by decide) (by decide) (by decide)), (h.1 12 (by decide) (by decide) (by decide) (by decide) (by decide) (by decide)), fun a ha => (h.2.1 a ha).trans (if_neg ha)⟩
theorem remM_2 {S : MS} {D : ZD} {u : Nat} : (remM S D u).2.1 2 = S.2.1 2 := by
  unfold remM
  by_cases h : u = 8
  · rw [if_pos h]
    have : ∀ (f j : Nat) (S : MS), (itr (fun j S => ma S (4 + j) (S.2.1 (5 + j))) j f S).2.1 2 = S.2.1 2 := by
      intro f
      induction f with
      | zero => intro j S; rfl
      | succ f ih => intro j S; exact (ih (j + 1) _).trans (if_neg (by omega))
    exact (show (fin8 (shS S 0 7) D).2.1 2 = (shS S 0 7).2.1 2 from rfl).trans (this 7 0 S)
  · rw [if_neg h]
    exact if_neg (by omega)

set_option maxRecDepth 100000 in
set_option maxHeartbeats 4000000 in
theorem ld_bad {l : Launch} {Γ : ZG} {w : ZW} {o : Nat} {S9 S : MS} {D : ZD} {u dp : Nat} {x : Int32} {R : PR QS} (hdp : 3 ≤ dp) {e : Int32 × Nat} (hR : R = .inl e) (h : RPe (ld0 S9 x) S e) : Go l Γ mX6_load dp 0 0 (LdP Γ w o S9 D u R) zNo 0 0 (wD Γ w o S D) 121 [(0, .ref o)] [] := by
  subst hR
  refine go_aload_n 122 dX6_load_121 rfl ?_
  refine go_aload_n 123 dX6_load_122 rfl ?_
  refine gd_get 126 dX6_load_123 fX6_58 rfl ?_
  refine gd_put 129 dX6_load_126 pX6_13 rfl (by decide) ?_
  refine go_aload_n 130 dX6_load_129 rfl ?_
  refine gdV0 133 dX6_load_130 vX6_65 (ct_X6_isGood_n h.no) ?_ (hdp := by omega)
  refine go_if_ne 141 136 dX6_load_133 (fun h133 => ?_) (fun h133 => ?_)
  · exact absurd h133 (by decide)
  · refine go_aload_n 137 dX6_load_136 rfl ?_
    refine gd_get 140 dX6_load_137 fX6_55 rfl ?_
    exact go_ireturn dX6_load_140 rfl (by omega) (by omega) (⟨by rw [show (mf S 7 (S.1 6)).1 5 = e.1 from h.1], h.2.1, _, rfl, h.2.2.1, fr_kp h.2.2.2⟩)

set_option maxRecDepth 100000 in
set_option maxHeartbeats 4000000 in
theorem ld_good {l : Launch} {Γ : ZG} {w : ZW} {o : Nat} {S9 S : MS} {D : ZD} {u dp : Nat} {x : Int32} {R : PR QS} (hdp : 3 ≤ dp) {s : QS} {B : ZB} {n : Nat} {ne sn : Nat} (hU : S9.1 12 = nI u) (hu : u ≤ 8) (hR : R = .inr s) (h : RPs B n (ld0 S9 x) S s.1 s.2.1 (encs s.2.2.2) ne sn) (hq : QInv s) : Go l Γ mX6_load dp 0 0 (LdP Γ w o S9 D u R) zNo 0 0 (wD Γ w o S D) 121 [(0, .ref o)] [] := by
  subst hR
  have h12 : S.1 12 = nI u := (h.2.2.2.2.2.2.1 12 (by decide) (by decide) (by decide) (by decide) (by decide) (by decide)).trans hU
  refine go_aload_n 122 dX6_load_121 rfl ?_
  refine go_aload_n 123 dX6_load_122 rfl ?_
  refine gd_get 126 dX6_load_123 fX6_58 rfl ?_
  refine gd_put 129 dX6_load_126 pX6_13 rfl (by decide) ?_
  refine go_aload_n 130 dX6_load_129 rfl ?_
  refine gdV0 133 dX6_load_130 vX6_65 (ct_X6_isGood_y h.2.1) ?_ (hdp := by omega)
  refine go_if_ne 141 136 dX6_load_133 (fun h133 => ?_) (fun h133 => ?_)
  · refine go_aload_n 142 dX6_load_141 rfl ?_
    refine gdV0v 145 dX6_load_142 vX6_158 (ct_X6_remember (u := u) h12 hu) ?_ (hdp := by omega)
    refine go_aload_n 146 dX6_load_145 rfl ?_
    refine gd_get 149 dX6_load_146 fX6_20 rfl ?_
    refine go_aload_n 150 dX6_load_149 rfl ?_
    refine gd_get 153 dX6_load_150 fX6_17 rfl ?_
    refine gcS2v 156 dX6_load_153 vX6_161 (ct_X6_copy (a := o + 3) (b := o + 2) (wD_arr (x := 3) (a := 2) (by decide) (by decide) (by decide) (by decide) (by decide) (by decide) (by decide)) wD_data (by omega)) ?_ (hdp := by omega)
    rw [wD_setd, remM_2]
    refine go_aload_n 157 dX6_load_156 rfl ?_
    refine gd_get 160 dX6_load_157 fX6_17 rfl ?_
    refine go_iconst 161 dX6_load_160 zc_4 ?_
    refine gd_iald 162 (4) dX6_load_161 rfl (by decide) ?_
    exact go_ireturn dX6_load_162 rfl (by omega) (by omega) (⟨by rw [show (mf S 7 (S.1 6)).2.1 2 4 = s.2.1 4 from h.2.2.2.2.1.1 4 (by decide) (by decide)], _, _, rfl, h.2.2.1, fr_kp h.2.2.2.2.2.2, h.2.2.2.2.1.1, h.2.2.2.2.1.2, hq⟩)
  · exact absurd h133 (by decide)

set_option maxRecDepth 100000 in
set_option maxHeartbeats 4000000 in
theorem lp_ld_bad {l : Launch} {Γ : ZG} {w : ZW} {o : Nat} {S9 S : MS} {D : ZD} {u : Nat} {x : Int32} {e : Int32 × Nat} (h : RPe (ld0 S9 x) S e) : Go l Γ mX6_load 24 0 0 (LdP Γ w o S9 D u (.inl e)) zNo 0 0 (wD Γ w o S D) 99 [(0, .ref o)] [] := by
  refine go_aload_n 100 dX6_load_99 rfl ?_
  refine gdV0 103 dX6_load_100 vX6_65 (ct_X6_isGood_n h.no) ?_ (hdp := by omega)
  refine go_if_eq 121 106 dX6_load_103 (fun h103 => ?_) (fun h103 => ?_)
  · exact go_locals [(0, .ref o)] rfl (ld_bad (by omega) rfl h)
  · exact absurd h103 (by decide)

set_option maxRecDepth 100000 in
set_option maxHeartbeats 4000000 in
theorem lp_ld {l : Launch} {Γ : ZG} {w : ZW} {o : Nat} {S9 : MS} {D : ZD} {u : Nat} {x : Int32} {B : ZB} {n : Nat} (hT : TB B n) (hU : S9.1 12 = nI u) (hu : u ≤ 8) {R : PR QS} : ∀ (f : Nat) (S : MS) (q : Nat) (G : ZD) (a b c : Bool) (cs : List Int32), n ≤ q + f → RPs B n (ld0 S9 x) S q G (encs cs) 0 (snN (a, b, c)) → QInv (q, G, (a, b, c), cs) → stms B f (q, G, (a, b, c), cs) = R → Go l Γ mX6_load 24 0 0 (LdP Γ w o S9 D u R) zNo 0 0 (wD Γ w o S D) 99 [(0, .ref o)] [] := by
  intro f
  induction f with
  | zero =>
    intro S q G a b c cs hf h hq hR
    have hm1 : B q = -1 := hT.2.1 q (by omega)
    refine go_aload_n 100 dX6_load_99 rfl ?_
    refine gdV0 103 dX6_load_100 vX6_65 (ct_X6_isGood_y h.2.1) ?_ (hdp := by omega)
    refine go_if_eq 121 106 dX6_load_103 (fun h103 => ?_) (fun h103 => ?_)
    · exact absurd h103 (by decide)
    · refine go_aload_n 107 dX6_load_106 rfl ?_
      refine gdX0 110 dX6_load_107 vX6_69 (cn_next hT h) (fun S107 r107 => ?_) (hdp := by omega)
      refine go_iconst 111 dX6_load_110 zc_m1 ?_
      refine go_icmp_eq 121 114 dX6_load_111 (fun h111 => ?_) (fun h111 => ?_)
      · exact go_locals [(0, .ref o)] rfl (ld_good (by omega) hU hu (hR.symm) r107.1 hq)
      · exact (h111 hm1).elim
  | succ f ih =>
    intro S q G a b c cs hf h hq hR
    by_cases hm1 : B q = -1
    · rw [stms, if_pos hm1] at hR
      refine go_aload_n 100 dX6_load_99 rfl ?_
      refine gdV0 103 dX6_load_100 vX6_65 (ct_X6_isGood_y h.2.1) ?_ (hdp := by omega)
      refine go_if_eq 121 106 dX6_load_103 (fun h103 => ?_) (fun h103 => ?_)
      · exact absurd h103 (by decide)
      · refine go_aload_n 107 dX6_load_106 rfl ?_
        refine gdX0 110 dX6_load_107 vX6_69 (cn_next hT h) (fun S107 r107 => ?_) (hdp := by omega)
        refine go_iconst 111 dX6_load_110 zc_m1 ?_
        refine go_icmp_eq 121 114 dX6_load_111 (fun h111 => ?_) (fun h111 => ?_)
        · exact go_locals [(0, .ref o)] rfl (ld_good (by omega) hU hu (hR.symm) r107.1 hq)
        · exact (h111 hm1).elim
    · have hm1 := hm1
      refine go_aload_n 100 dX6_load_99 rfl ?_
      refine gdV0 103 dX6_load_100 vX6_65 (ct_X6_isGood_y h.2.1) ?_ (hdp := by omega)
      refine go_if_eq 121 106 dX6_load_103 (fun h103 => ?_) (fun h103 => ?_)
      · exact absurd h103 (by decide)
      · refine go_aload_n 107 dX6_load_106 rfl ?_
        refine gdX0 110 dX6_load_107 vX6_69 (cn_next hT h) (fun S107 r107 => ?_) (hdp := by omega)
        refine go_iconst 111 dX6_load_110 zc_m1 ?_
        refine go_icmp_eq 121 114 dX6_load_111 (fun h111 => ?_) (fun h111 => ?_)
        · exact absurd h111 hm1
        · refine go_aload_n 115 dX6_load_114 rfl ?_
          refine gdX0v 118 dX6_load_115 vX6_155 (cx_statement (q := q) (G := G) (a := a) (b := b) (c := c) (cs := cs) hT r107.1 hq.1.1 hq.1.2 hq.2.2.2.1) (fun S115 r115 => ?_) (hdp := by omega)
          refine go_goto 99 dX6_load_118 ?_
          rw [stms, if_neg hm1] at hR
          cases hst : stm B (q, G, (a, b, c), cs) with
          | inl e =>
            rw [hst] at r115 hR
            subst hR
            exact go_locals [(0, .ref o)] rfl (lp_ld_bad r115)
          | inr s2 =>
            rw [hst] at r115 hR
            obtain ⟨k1, k2, k3⟩ := stm_ok hT (h.qn hT).1 hq hst
            have k2 : q < s2.1 := k2
            by_cases h59 : B s2.1 = 59
            · simp only [h59, if_true] at hR
              have hlt : s2.1 < n := lt_of_B hT (by rw [h59]; decide)
              have g1 : s2.1 + 1 ≤ sp B (s2.1 + 1) := sp_ge
              have r115 : RQr B n (ld0 S9 x) S115 (stq B (.inr s2)) := r115
              rw [show stq B (.inr s2) = .inr (sp B (s2.1 + 1), s2.2) from if_pos h59] at r115
              exact go_locals [(0, .ref o)] rfl (ih S115 (sp B (s2.1 + 1)) s2.2.1 s2.2.2.1.1 s2.2.2.1.2.1 s2.2.2.1.2.2 s2.2.2.2 (by omega) r115 k1 hR)
            · simp only [h59, if_false] at hR
              subst hR
              have r115 : RQr B n (ld0 S9 x) S115 (stq B (.inr s2)) := r115
              rw [show stq B (.inr s2) = .inl (-2, s2.1) from if_neg h59] at r115
              exact go_locals [(0, .ref o)] rfl (lp_ld_bad r115)

theorem usual_q {q : Nat} : QInv (q, usual, (false, false, false), []) := by
  refine ⟨⟨rfl, by show nP usual ≤ 10; decide⟩, fun i hi => ?_, fun p j hp hj => ?_, fun _ => rfl, Or.inl rfl, by show (encs []).length ≤ 1000; decide⟩
  · exact (if_neg (by omega)).trans ((if_neg (by omega)).trans (if_neg (by omega)))
  · exact absurd hp (Nat.not_lt_zero p)
theorem ld_start {S : MS} {x : Int32} {n : Nat} {B : ZB} (hx : x = nI n) (hB : bt (S.2.1 0) n = B) : RPs B n (ld0 S x) (ld0 S x) (sp B 0) usual [] 0 0 :=
  ⟨⟨hx, hB⟩, rfl, rfl, ⟨0, rfl, Nat.zero_le _, rfl⟩, ⟨fun _ _ _ => rfl, rfl, fun j hj => absurd hj (Nat.not_lt_zero j)⟩, ⟨rfl, rfl⟩, Fr.rf⟩

set_option maxRecDepth 100000 in
set_option maxHeartbeats 4000000 in
theorem ct_X6_load {l : Launch} {Γ : ZG} {w : ZW} {o : Nat} {S : MS} {D : ZD} {x : Int32} {n u : Nat} {B : ZB} (hx : x = nI n) (hB : bt (S.2.1 0) n = B) (hT : TB B n) (hU : S.1 12 = nI u) (hu : u ≤ 8) (hin : 0 ≤ x ∧ x ≤ S.1 2) : Ct l Γ mX6_load 24 0 0 [.ref o, .int x] (wD Γ w o S D) (LdP Γ w o S D u (prs B)) zNo := by
  have hst := ld_start (S := S) hx hB
  have hn6 := hT.1
  refine Ct.of (by decide) rfl (Nat.le_of_ble_eq_true rfl) ?_
  by_cases hw : wd B "exchange" (sp B 0)
  · by_cases h59 : B (sp B (sp B 0 + 8)) = 59
    · have h59 := h59
      refine go_aload_n 1 dX6_load_0 rfl ?_
      refine go_iconst 2 dX6_load_1 zc_0 ?_
      refine gd_put 5 dX6_load_2 pX6_39 rfl (by decide) ?_
      refine go_aload_n 6 dX6_load_5 rfl ?_
      refine go_iload_n 7 dX6_load_6 rfl ?_
      refine go_iconst 8 dX6_load_7 zc_0 ?_
      refine go_aload_n 9 dX6_load_8 rfl ?_
      refine gd_get 12 dX6_load_9 fX6_42 rfl ?_
      refine gcS3 15 dX6_load_12 vX6_61 (ct_X6_in) ?_
      refine go_if_ne 22 18 dX6_load_15 (fun h15 => ?_) (fun h15 => ?_)
      · refine go_iconst 23 dX6_load_22 zc_0 ?_
        refine go_iconst 24 dX6_load_23 zc_1 ?_
        refine gdV2 27 dX6_load_24 vX6_149 (ct_X6_fails_n rfl) ?_
        refine go_if_eq 32 30 dX6_load_27 (fun h27 => ?_) (fun h27 => ?_)
        · refine go_aload_n 33 dX6_load_32 rfl ?_
          refine go_iconst 34 dX6_load_33 zc_0 ?_
          refine gd_put 37 dX6_load_34 pX6_42 rfl (by decide) ?_
          refine go_aload_n 38 dX6_load_37 rfl ?_
          refine go_iload_n 39 dX6_load_38 rfl ?_
          refine gd_put 42 dX6_load_39 pX6_45 rfl (by decide) ?_
          refine go_aload_n 43 dX6_load_42 rfl ?_
          refine go_iconst 44 dX6_load_43 zc_0 ?_
          refine gd_put 47 dX6_load_44 pX6_48 rfl (by decide) ?_
          refine go_aload_n 48 dX6_load_47 rfl ?_
          refine go_iconst 49 dX6_load_48 zc_0 ?_
          refine gd_put 52 dX6_load_49 pX6_55 rfl (by decide) ?_
          refine go_aload_n 53 dX6_load_52 rfl ?_
          refine go_iconst 54 dX6_load_53 zc_m1 ?_
          refine gd_put 57 dX6_load_54 pX6_58 rfl (by decide) ?_
          refine go_aload_n 58 dX6_load_57 rfl ?_
          refine go_iconst 59 dX6_load_58 zc_0 ?_
          refine gd_put 62 dX6_load_59 pX6_98 rfl (by decide) ?_
          refine go_aload_n 63 dX6_load_62 rfl ?_
          refine go_iconst 64 dX6_load_63 zc_0 ?_
          refine gd_put 67 dX6_load_64 pX6_132 rfl (by decide) ?_
          refine go_aload_n 68 dX6_load_67 rfl ?_
          refine gd_get 71 dX6_load_68 fX6_20 rfl ?_
          refine gcS1v 74 dX6_load_71 vX6_35 (ct_X6_layUsual (wD_arr (x := 3) (a := 2) (by decide) (by decide) (by decide) (by decide) (by decide) (by decide) (by decide))) ?_
          rw [wD_seta (x := 3) (a := 2) (by decide) (by decide) (by decide) (by decide) (by decide) (by decide) (by decide)]
          have h : RPs B n (ld0 S x) (ld0 S x) (sp B 0) usual [] 0 0 := hst
          show Go _ _ _ _ _ _ _ _ _ _ (wD Γ w o (ld0 S x) D) _ _ _
          refine go_aload_n 75 dX6_load_74 rfl ?_
          refine go_ldcS 77 dX6_load_75 sX6_153 ?_
          refine gdX1 80 dX6_load_77 vX6_110 (cn_word_y (t := (RX6, 153, "exchange")) sX6_153 hT h hw (wd_end hT hw (by decide +kernel) (by decide +kernel))) (fun S77 r77 => ?_)
          refine go_if_ne 93 83 dX6_load_80 (fun h80 => ?_) (fun h80 => ?_)
          · refine go_aload_n 94 dX6_load_93 rfl ?_
            refine go_bipush 96 dX6_load_94 zb_59 ?_
            refine gdX1v 99 dX6_load_96 vX6_104 (cn_expect_y hT r77 h59 (by decide)) (fun S96 r96 => ?_)
            rw [show prs B = stms B 601 (sp B (sp B (sp B 0 + 8) + 1), usual, (false, false, false), []) from (if_pos hw).trans (if_pos h59)]
            exact go_locals [(0, .ref o)] rfl (lp_ld hT hU hu 601 S96 _ usual false false false [] (by omega) r96 usual_q rfl)
          · exact absurd h80 (by decide)
        · exact absurd h27 (by decide)
      · exact (zb_0 h15 hin).elim
    · have h59 := h59
      refine go_aload_n 1 dX6_load_0 rfl ?_
      refine go_iconst 2 dX6_load_1 zc_0 ?_
      refine gd_put 5 dX6_load_2 pX6_39 rfl (by decide) ?_
      refine go_aload_n 6 dX6_load_5 rfl ?_
      refine go_iload_n 7 dX6_load_6 rfl ?_
      refine go_iconst 8 dX6_load_7 zc_0 ?_
      refine go_aload_n 9 dX6_load_8 rfl ?_
      refine gd_get 12 dX6_load_9 fX6_42 rfl ?_
      refine gcS3 15 dX6_load_12 vX6_61 (ct_X6_in) ?_
      refine go_if_ne 22 18 dX6_load_15 (fun h15 => ?_) (fun h15 => ?_)
      · refine go_iconst 23 dX6_load_22 zc_0 ?_
        refine go_iconst 24 dX6_load_23 zc_1 ?_
        refine gdV2 27 dX6_load_24 vX6_149 (ct_X6_fails_n rfl) ?_
        refine go_if_eq 32 30 dX6_load_27 (fun h27 => ?_) (fun h27 => ?_)
        · refine go_aload_n 33 dX6_load_32 rfl ?_
          refine go_iconst 34 dX6_load_33 zc_0 ?_
          refine gd_put 37 dX6_load_34 pX6_42 rfl (by decide) ?_
          refine go_aload_n 38 dX6_load_37 rfl ?_
          refine go_iload_n 39 dX6_load_38 rfl ?_
          refine gd_put 42 dX6_load_39 pX6_45 rfl (by decide) ?_
          refine go_aload_n 43 dX6_load_42 rfl ?_
          refine go_iconst 44 dX6_load_43 zc_0 ?_
          refine gd_put 47 dX6_load_44 pX6_48 rfl (by decide) ?_
          refine go_aload_n 48 dX6_load_47 rfl ?_
          refine go_iconst 49 dX6_load_48 zc_0 ?_
          refine gd_put 52 dX6_load_49 pX6_55 rfl (by decide) ?_
          refine go_aload_n 53 dX6_load_52 rfl ?_
          refine go_iconst 54 dX6_load_53 zc_m1 ?_
          refine gd_put 57 dX6_load_54 pX6_58 rfl (by decide) ?_
          refine go_aload_n 58 dX6_load_57 rfl ?_
          refine go_iconst 59 dX6_load_58 zc_0 ?_
          refine gd_put 62 dX6_load_59 pX6_98 rfl (by decide) ?_
          refine go_aload_n 63 dX6_load_62 rfl ?_
          refine go_iconst 64 dX6_load_63 zc_0 ?_
          refine gd_put 67 dX6_load_64 pX6_132 rfl (by decide) ?_
          refine go_aload_n 68 dX6_load_67 rfl ?_
          refine gd_get 71 dX6_load_68 fX6_20 rfl ?_
          refine gcS1v 74 dX6_load_71 vX6_35 (ct_X6_layUsual (wD_arr (x := 3) (a := 2) (by decide) (by decide) (by decide) (by decide) (by decide) (by decide) (by decide))) ?_
          rw [wD_seta (x := 3) (a := 2) (by decide) (by decide) (by decide) (by decide) (by decide) (by decide) (by decide)]
          have h : RPs B n (ld0 S x) (ld0 S x) (sp B 0) usual [] 0 0 := hst
          show Go _ _ _ _ _ _ _ _ _ _ (wD Γ w o (ld0 S x) D) _ _ _
          refine go_aload_n 75 dX6_load_74 rfl ?_
          refine go_ldcS 77 dX6_load_75 sX6_153 ?_
          refine gdX1 80 dX6_load_77 vX6_110 (cn_word_y (t := (RX6, 153, "exchange")) sX6_153 hT h hw (wd_end hT hw (by decide +kernel) (by decide +kernel))) (fun S77 r77 => ?_)
          refine go_if_ne 93 83 dX6_load_80 (fun h80 => ?_) (fun h80 => ?_)
          · refine go_aload_n 94 dX6_load_93 rfl ?_
            refine go_bipush 96 dX6_load_94 zb_59 ?_
            refine gdX1v 99 dX6_load_96 vX6_104 (cn_expect_n hT r77 h59) (fun S96 r96 => ?_)
            rw [show prs B = .inl (-2, sp B (sp B 0 + 8)) from (if_pos hw).trans (if_neg h59)]
            exact go_locals [(0, .ref o)] rfl (lp_ld_bad r96)
          · exact absurd h80 (by decide)
        · exact absurd h27 (by decide)
      · exact (zb_0 h15 hin).elim
  · have hw := hw
    refine go_aload_n 1 dX6_load_0 rfl ?_
    refine go_iconst 2 dX6_load_1 zc_0 ?_
    refine gd_put 5 dX6_load_2 pX6_39 rfl (by decide) ?_
    refine go_aload_n 6 dX6_load_5 rfl ?_
    refine go_iload_n 7 dX6_load_6 rfl ?_
    refine go_iconst 8 dX6_load_7 zc_0 ?_
    refine go_aload_n 9 dX6_load_8 rfl ?_
    refine gd_get 12 dX6_load_9 fX6_42 rfl ?_
    refine gcS3 15 dX6_load_12 vX6_61 (ct_X6_in) ?_
    refine go_if_ne 22 18 dX6_load_15 (fun h15 => ?_) (fun h15 => ?_)
    · refine go_iconst 23 dX6_load_22 zc_0 ?_
      refine go_iconst 24 dX6_load_23 zc_1 ?_
      refine gdV2 27 dX6_load_24 vX6_149 (ct_X6_fails_n rfl) ?_
      refine go_if_eq 32 30 dX6_load_27 (fun h27 => ?_) (fun h27 => ?_)
      · refine go_aload_n 33 dX6_load_32 rfl ?_
        refine go_iconst 34 dX6_load_33 zc_0 ?_
        refine gd_put 37 dX6_load_34 pX6_42 rfl (by decide) ?_
        refine go_aload_n 38 dX6_load_37 rfl ?_
        refine go_iload_n 39 dX6_load_38 rfl ?_
        refine gd_put 42 dX6_load_39 pX6_45 rfl (by decide) ?_
        refine go_aload_n 43 dX6_load_42 rfl ?_
        refine go_iconst 44 dX6_load_43 zc_0 ?_
        refine gd_put 47 dX6_load_44 pX6_48 rfl (by decide) ?_
        refine go_aload_n 48 dX6_load_47 rfl ?_
        refine go_iconst 49 dX6_load_48 zc_0 ?_
        refine gd_put 52 dX6_load_49 pX6_55 rfl (by decide) ?_
        refine go_aload_n 53 dX6_load_52 rfl ?_
        refine go_iconst 54 dX6_load_53 zc_m1 ?_
        refine gd_put 57 dX6_load_54 pX6_58 rfl (by decide) ?_
        refine go_aload_n 58 dX6_load_57 rfl ?_
        refine go_iconst 59 dX6_load_58 zc_0 ?_
        refine gd_put 62 dX6_load_59 pX6_98 rfl (by decide) ?_
        refine go_aload_n 63 dX6_load_62 rfl ?_
        refine go_iconst 64 dX6_load_63 zc_0 ?_
        refine gd_put 67 dX6_load_64 pX6_132 rfl (by decide) ?_
        refine go_aload_n 68 dX6_load_67 rfl ?_
        refine gd_get 71 dX6_load_68 fX6_20 rfl ?_
        refine gcS1v 74 dX6_load_71 vX6_35 (ct_X6_layUsual (wD_arr (x := 3) (a := 2) (by decide) (by decide) (by decide) (by decide) (by decide) (by decide) (by decide))) ?_
        rw [wD_seta (x := 3) (a := 2) (by decide) (by decide) (by decide) (by decide) (by decide) (by decide) (by decide)]
        have h : RPs B n (ld0 S x) (ld0 S x) (sp B 0) usual [] 0 0 := hst
        show Go _ _ _ _ _ _ _ _ _ _ (wD Γ w o (ld0 S x) D) _ _ _
        refine go_aload_n 75 dX6_load_74 rfl ?_
        refine go_ldcS 77 dX6_load_75 sX6_153 ?_
        refine gdX1 80 dX6_load_77 vX6_110 (cn_word_n (t := (RX6, 153, "exchange")) sX6_153 hT h hw) (fun S77 r77 => ?_)
        refine go_if_ne 93 83 dX6_load_80 (fun h80 => ?_) (fun h80 => ?_)
        · exact absurd h80 (by decide)
        · refine go_aload_n 84 dX6_load_83 rfl ?_
          refine go_bipush 86 dX6_load_84 zb_m2 ?_
          refine go_aload_n 87 dX6_load_86 rfl ?_
          refine gd_get 90 dX6_load_87 fX6_48 rfl ?_
          rw [r77.2.1]
          refine gdV2v 93 dX6_load_90 vX6_82 (ct_X6_report_n r77.1.2.1) ?_
          have hb := r77.1.rep (k := -2) (a := sp B 0) (by decide)
          refine go_aload_n 94 dX6_load_93 rfl ?_
          refine go_bipush 96 dX6_load_94 zb_59 ?_
          refine gdV1v 99 dX6_load_96 vX6_104 (ct_X6_expect_b hb.no) ?_
          rw [show prs B = .inl (-2, sp B 0) from if_neg hw]
          exact go_locals [(0, .ref o)] rfl (lp_ld_bad hb)
      · exact absurd h27 (by decide)
    · exact (zb_0 h15 hin).elim
end MLo
