section LRxe
/-- the class's object lies in w -/
def Cl (Γ : ZG) (w : ZW) (T : LT) (x : Nat) (C : CS) : Prop := (∀ j, j < 105 → w.2 (x + j) = some (ccl Γ x C j)) ∧ (∀ j, j < 105 → T (x + j) = 1) ∧ x + 105 ≤ w.1
/-- the class's ring rule lies in w -/
def Rg (Γ : ZG) (w : ZW) (T : LT) (x : Nat) (g : Option Nat) (cs : List Int32) : Prop := RG Γ w g cs ∧ ∀ r, g = some r → (r + 3 ≤ x ∨ x + 105 ≤ r) ∧ r + 3 ≤ w.1 ∧ ∀ j, j < 3 → T (r + j) = 1
/-- the random numbers -/
def Rn (w : ZW) (T : LT) (a : Nat) (s : Int32) : Prop := w.2 a = some (rnE s) ∧ T a = 2
/-- the class's history: i is the next place, u are kept -/
def Hc (C : CS) (i u : Nat) : Prop := C.2.2.1 = nI i ∧ i < 8 ∧ C.2.2.2.1 = nI u ∧ u ≤ 8
/-- both sides hold the same exchange -/
def Bo (Γ : ZG) (w : ZW) (T : LT) (x a e : Nat) (C : CS) (D : ZD) : Prop := ∃ (s : Int32) (g : Option Nat) (cs : List Int32) (sg : ZSg) (A V : LA) (tm : Option Nat), Cl Γ w T x C ∧ Rn w T a s ∧ Rg Γ w T x g cs ∧ LX Γ w T 1 sg A V tm e D ∧ TMR w T tm cs ∧ CR D g sg (C.1 0) D ∧ GI sg D ∧ JX D ∧ JW D ∧ C.2.1.1 1 = 0
def PvRX (Γ : ZG) (w0 : ZW) (x a : Nat) : Option Value → ZW → Prop := fun v w => ∃ e T C D i u, v = some (.ref e) ∧ Bo Γ w T x a e C D ∧ nP D ≤ 8 ∧ tmN D = 0 ∧ Hc C i u ∧ 1 ≤ u ∧ w0.1 ≤ w.1
theorem RG.eq {Γ : ZG} {w w' : ZW} {g : Option Nat} {cs : List Int32} (h : RG Γ w g cs) (hq : ∀ r, g = some r → ∀ j, j < 3 → w'.2 (r + j) = w.2 (r + j)) : RG Γ w' g cs := by
  cases g with
  | none => exact h
  | some r =>
    obtain ⟨h1, h2, h3, a, c, d, g0, g1, g2, g3⟩ := h
    exact ⟨h1, h2, h3, a, c, d, (hq r rfl 0 (by decide)).trans g0, (hq r rfl 1 (by decide)).trans g1, (hq r rfl 2 (by decide)).trans g2, g3⟩
section
variable {l : Launch} {Γ : ZG} {k n : Nat} {w0 w : ZW} {T0 T : LT} {x a b : Nat} {C : CS} {f : Nat → Int32} {s : Int32}
/-- a loaded exchange: what the class holds, and where -/
theorem ld_what {w2 : ZW} {v : Option Value} {R : RS} {f2 : Nat → Int32} {i u : Nat} {D0 : ZD} {q : QS} (hw : WF w) (ht : (∀ j, j < 105 → T (x + j) = 1) ∧ T b = 2) (hx : x + 105 ≤ w.1) (hi : i < 8) (hu : u ≤ 8) (hL : LdC Γ (wset w b (bu Γ f2)) x (cR C R) i u (nP D0) (nC D0) (nL D0) (.inr q) v w2) : v = some (.int (q.2.1 4)) ∧ QInv q ∧ ∃ T2 C2 g i2 u2, Cl Γ w2 T2 x C2 ∧ Rg Γ w2 T2 x g q.2.2.2 ∧ CR q.2.1 g (fun _ => (0, 0)) (C2.1 0) q.2.1 ∧ C2.2.1.1 1 = 0 ∧ Hc C2 i2 u2 ∧ 1 ≤ u2 ∧ w.1 ≤ w2.1 ∧ Kq w T w2 T2 (fun z => z ≠ 1 ∧ z ≠ 2) ∧ ∀ z, z < w.1 → z ≠ b → z < x ∨ x + 105 ≤ z → w2.2 z = w.2 z ∧ T2 z = T z := by
  obtain ⟨rfl, R', w9, g, rfl, hb0, hb1, ho, hE, hg, hN, hQ⟩ := hL
  have hC9 := qi_CR hQ hE (fun _ => (0, 0))
  have hc := hC9.cpy ((C3l (cR C R) R' i u (nP D0) (nC D0) (nL D0)).1 0)
  rw [(qi_nC hQ).1, (qi_nC hQ).2.1, hg] at hc
  have hw9 : w.1 ≤ w9.1 ∧ ∀ z, z < w.1 → w9.2 z = (wset w b (bu Γ f2)).2 z := by
    rcases hN with ⟨-, rfl, -⟩ | ⟨-, -, -, -, f9, rfl, -⟩
    · exact ⟨Nat.le_refl _, fun _ _ => rfl⟩
    · refine ⟨Nat.le_add_right _ 3, fun z hz => ?_⟩
      have hz' : z < (wset w b (bu Γ f2)).1 := hz
      exact (if_neg (by omega)).trans ((if_neg (by omega)).trans (if_neg (by omega)))
  have hold : ∀ z, z < w.1 → z ≠ b → z < x ∨ x + 105 ≤ z → (wC Γ w9 x (cE (C3l (cR C R) R' i u (nP D0) (nC D0) (nL D0)) 0 (cpE ((C3l (cR C R) R' i u (nP D0) (nC D0) (nL D0)).1 0) R'.2.2.1 (nP q.2.1) 0 0))).2 z = w.2 z ∧ (if w.1 ≤ z then 1 else T z) = T z := fun z h1 h2 h3 => ⟨(wC_out h3).trans ((hw9.2 z h1).trans (if_neg h2)), if_neg (by omega)⟩
  refine ⟨rfl, hQ, fun z => if w.1 ≤ z then 1 else T z, _, g, (if i + 1 = 8 then 0 else i + 1), (if u + 1 < 8 then u + 1 else 8), ⟨fun j hj => wC_at j hj, fun j hj => ?_, Nat.le_trans hx hw9.1⟩, ?_, hc, hb1, ⟨rfl, by split <;> omega, rfl, by split <;> omega⟩, by split <;> omega, hw9.1, fun z c h1 h2 => ?_, hold⟩
  · exact (if_neg (by omega)).trans (ht.1 j hj)
  · rcases hN with ⟨rfl, rfl, hcs⟩ | ⟨rfl, h2, h3, h4, f9, rfl, h6⟩
    · rw [hcs]
      exact ⟨rfl, fun r hr => by cases hr⟩
    · have hr : (wset w b (bu Γ f2)).1 = w.1 := rfl
      have hout : ∀ j, j < 3 → w.1 + j < x ∨ x + 105 ≤ w.1 + j := fun j hj => Or.inr (by omega)
      refine ⟨⟨h2, h4, by omega, 0, fun _ => 0, f9, (wC_out (hout 0 (by decide))).trans (if_pos rfl), (wC_out (hout 1 (by decide))).trans ((if_neg (by rw [hr]; omega)).trans (if_pos rfl)), (wC_out (hout 2 (by decide))).trans ((if_neg (by rw [hr]; omega)).trans ((if_neg (by rw [hr]; omega)).trans (if_pos rfl))), h6⟩, fun r hr' => ?_⟩
      cases hr'
      exact ⟨Or.inr (by rw [hr]; exact hx), Nat.le_refl _, fun j hj => if_pos (by rw [hr]; omega)⟩
  · have hz := hw z c h1
    have h3 : z ≠ b := fun h => h2.2 (by rw [h]; exact ht.2)
    have h4 : z < x ∨ x + 105 ≤ z := by
      by_cases hr : x ≤ z ∧ z < x + 105
      · have := ht.1 (z - x) (by omega)
        rw [show x + (z - x) = z by omega] at this
        exact absurd this h2.1
      · omega
    exact ⟨(hold z hz h3 h4).1.trans h1, (hold z hz h3 h4).2⟩
def AXr (pa r1 r2 r3 : Nat) (P : Nat → Nat) : LA := fun i k => if i = 8 then (if k = 0 then pa else if k = 1 then r1 else if k = 2 then r2 else r3) else P k
/-- from pc 266: the text is loaded -/
theorem rx_end {ps : List (Nat × Nat × Nat)} {wv : Option (Nat × Nat)} {pt : Option Nat} {rg : Option (List Int32 × List Nat)} {tm g0 : Option Nat} {e pa r1 r2 r3 ow i u : Nat} {P : Nat → Nat} {D0 : ZD} {sg0 : ZSg} (hR : Rx w0 T0 x a b) (bw : BW (bsW Γ w0 x a b C f s) T0 w T) (he : Nc w0 w T e (.inr (6, xFl wv pt pa r1 r2 r3 tm)) 14) (ho : RXo Γ w0 w T pa r1 r2 r3 ps.length P ps) (hW : WK C f (ltx ps wv pt rg)) (hps : PsOK ps) (h8 : ps.length ≤ 8) (hwv : ∀ z, wv = some z → (1 ≤ z.1 ∧ z.1 ≤ 99) ∧ 1 ≤ z.2 ∧ z.2 ≤ 99) (hpt : ∀ z, pt = some z → 1 ≤ z ∧ z ≤ 99) (hrg : ∀ z, rg = some z → PTx 2 z.1 z.2 ow) (hT : TMR w T tm (rcs rg)) (hC : CR D0 g0 sg0 (C.1 0) D0) (hh : Hc C i u) (hk : k + 3 ≤ 100) (hn : n + 614 ≤ 18000) : Go l Γ mL_randomExchange 36 100 18000 (PvRX Γ w0 x a) zNo k n w 266 [(0, .ref x), (1, .ref b), (2, .ref a), (3, .ref e)] [] := by
  have ht := bs_tag hR bw
  have hin := bs_in hR bw
  have hrn := bs_rn hR bw
  have hx9 : x + 105 ≤ w.1 := Nat.le_trans hR.1.1 bw.1
  have hll := ltx_len (wv := wv) (pa := pt) h8 (Nat.le_refl 2) hrg
  have hct := ct_L_loadText (l := l) (Γ := Γ) (w := w) (x := x) (b := b) hR.2.1 hW (by omega) (asc_ltx hps hwv hpt hrg) hC hh.1 hh.2.1 hh.2.2.1 hh.2.2.2 hx9
  rw [hin.self] at hct
  refine go_wf fun hw => ?_
  refine go_aload_n 267 dL_randomExchange_266 rfl ?_
  refine go_aload_n 268 dL_randomExchange_267 rfl ?_
  refine go_callS 271 [.ref x, .ref b] dL_randomExchange_268 vL_162 rfl hct (by decide) (by decide) (by omega) (by omega) (by exact Nat.le_of_ble_eq_true rfl) ?_
  rintro v w2 ⟨R, f2, hz, hRt, hL⟩
  rw [prs_wr hRt (by omega) hps (by omega) hwv hpt (by decide) hrg] at hL
  obtain ⟨rfl, hQ, T2, C2, g, i2, u2, k1, k2, k3, k4, k5, k6, k7, k8, k9⟩ := ld_what hw ⟨ht.1, ht.2.1⟩ hx9 hh.2.1 hh.2.2.2 hL
  replace hQ : QInv ((ltx ps wv pt rg).length, lgd ps wv pt rg, (wv.isSome, pt.isSome, rg.isSome), rcs rg) := hQ
  replace k2 : Rg Γ w2 T2 x g (rcs rg) := k2
  replace k3 : CR (lgd ps wv pt rg) g (fun _ => (0, 0)) (C2.1 0) (lgd ps wv pt rg) := k3
  have he2 := he.go k8 ⟨by decide, by decide⟩
  have ho2 := ho.go k8 (fun z hz => ⟨by omega, by omega⟩)
  have hn4 : nP (lgd ps wv pt rg) = ps.length := by
    unfold nP
    rw [lgd_4]
    exact nI_clamp (by omega)
  obtain ⟨q1, q2, q3⟩ := qi_nC hQ
  replace q1 : nC (lgd ps wv pt rg) = 0 := q1
  replace q2 : nL (lgd ps wv pt rg) = 0 := q2
  obtain ⟨hG, hJ, htm⟩ := qi_GI hQ
  replace hG : GI (fun _ => (0, 0)) (lgd ps wv pt rg) := hG
  replace hJ : JX (lgd ps wv pt rg) := hJ
  replace htm : tmN (lgd ps wv pt rg) = 0 := htm
  obtain ⟨⟨g5, e5, e6⟩, e7, e8, e9, e10⟩ := ho2
  show Go l Γ mL_randomExchange 36 100 18000 (PvRX Γ w0 x a) zNo _ _ w2 271 _ [.int (lgd ps wv pt rg 4)]
  rw [lgd_4]
  refine go_aload_n 272 dL_randomExchange_271 rfl ?_
  refine go_get 275 dL_randomExchange_272 fL_122 he2.1 rfl ?_
  refine go_alen (t0 := 4) 276 dL_randomExchange_275 e5.1 rfl rfl ?_
  refine go_icmp_ne 283 279 dL_randomExchange_276 (fun h => absurd rfl h) (fun _ => ?_)
  refine go_aload_n 280 dL_randomExchange_279 rfl ?_
  refine go_goto 284 dL_randomExchange_280 ?_
  have kt : Kq w2 T2 w2 (tset T2 pa 0) (fun z => z ≠ 6) := Kq.tg e5.2.1
  have kall : Kq w T w2 (tset T2 pa 0) (fun z => z ≠ 6 ∧ z ≠ 1 ∧ z ≠ 2) := (k8.mono (fun z hz => hz.2)).trans (kt.mono (fun z hz => hz.1))
  have hpx : ∀ j, j < 105 → x + j ≠ pa := fun j hj h => by
    have h1 := k1.2.1 j hj
    rw [h, e5.2.1] at h1
    exact absurd h1 (by decide)
  have hrn2 : Rn w2 (tset T2 pa 0) a s := by
    have h1 := k9 a (Nat.lt_of_lt_of_le hR.1.2.2 bw.1) hR.2.2.2.1 hR.2.2.1
    refine ⟨h1.1.trans hrn, (if_neg (fun h => ?_)).trans (h1.2.trans ht.2.2)⟩
    have h2 := h1.2.trans ht.2.2
    rw [h, e5.2.1] at h2
    exact absurd h2 (by decide)
  refine go_aref dL_randomExchange_284 rfl (by omega) (by omega) ⟨e, tset T2 pa 0, C2, lgd ps wv pt rg, i2, u2, rfl, ⟨s, g, rcs rg, fun _ => (0, 0), AXr pa r1 r2 r3 P, fun _ _ => 0, tm, ⟨k1.1, fun j hj => (if_neg (hpx j hj)).trans (k1.2.1 j hj), k1.2.2⟩, hrn2, ⟨k2.1, fun r hr => ⟨(k2.2 r hr).1, (k2.2 r hr).2.1, fun j hj => ?_⟩⟩, ?_, ?_, k3, hG, hJ, ?_, k4⟩, by omega, htm, k5, k6, Nat.le_trans bw.1 k7⟩
  · have h1 := (k2.2 r hr).2.2 j hj
    refine (if_neg (fun h => ?_)).trans h1
    rw [h, e5.2.1] at h1
    exact absurd h1 (by decide)
  · have t0 : ∀ {q t : Nat}, T2 q = t → t ≠ 6 → tset T2 pa 0 q = t := fun {q t} h1 h2 => (if_neg (fun h => h2 (by rw [← h1, h, e5.2.1]))).trans h1
    refine ⟨⟨?_, t0 he2.2.1 (by decide)⟩, ⟨⟨g5, ?_, if_pos rfl, fun p hp => e6 p (by omega)⟩, fun p hp => ?_⟩, ⟨⟨fun _ => none, ?_, t0 e8.2.1 (by decide), fun c hc => by omega⟩, ⟨fun _ => none, ?_, t0 e9.2.1 (by decide), fun c hc => by omega⟩⟩, ⟨fun _ => 0, e10.1, t0 e10.2.1 (by decide), fun j hj => ?_⟩, fun c hc => by omega, fun c hc => by omega, ⟨fun c c' hc => by omega, fun c c' hc => by omega⟩⟩
    · rw [he2.1]
      unfold xFl xFs
      rw [lgd_lo (by omega) (i := 0) (by decide), lgd_lo (by omega) (i := 1) (by decide), lgd_lo (by omega) (i := 2) (by decide), lgd_lo (by omega) (i := 3) (by decide)]
      rfl
    · rw [hn4]; exact e5.1
    · obtain ⟨g', f1, f2, f3, f4⟩ := e7 p (by omega)
      have hd := lgd_dP (wv := wv) (pt := pt) (rg := rg) (by omega) (show p < ps.length by omega)
      refine ⟨g', f1.1, by rw [Nat.one_mul]; exact t0 f1.2.1 (by omega), fun j hj => ?_⟩
      rcases (show j = 0 ∨ j = 1 ∨ j = 2 by omega) with rfl | rfl | rfl
      · rw [f2, hd.1]
      · rw [f3, hd.2.1]
      · rw [f4, hd.2.2]
    · rw [q1]; exact e8.1
    · rw [q2]; exact e9.1
    · exact (hQ.2.1 (9 + j) (Or.inr (Or.inr (Or.inr ⟨by omega, by omega⟩)))).symm
  · rcases hT with ⟨h1, h2⟩ | ⟨t, tx, ow9, h1, h2⟩
    · exact Or.inl ⟨h1, h2⟩
    · exact Or.inr ⟨t, tx, ow9, h1, h2.fr (kall.mono (fun z hz => by omega))⟩
  · have a1 := lgd_lo (ps := ps) (wv := wv) (pt := pt) (rg := rg) (by omega) (i := 1) (by decide)
    have a2 := lgd_lo (ps := ps) (wv := wv) (pt := pt) (rg := rg) (by omega) (i := 2) (by decide)
    have a3 : ∀ i, i < 3 → E4 wv pt i = wzz usual wv i := fun i hi => by
      cases pt with
      | none => rfl
      | some z => exact if_neg (by omega)
    rw [a3 1 (by decide)] at a1
    rw [a3 2 (by decide)] at a2
    cases wv with
    | none => exact ⟨3, 5, a1, by decide, a2, by decide⟩
    | some z => exact ⟨z.1, z.2, a1, (hwv z rfl).1.2, a2, (hwv z rfl).2.2⟩
end
end LRxe
