section LCls
/-! the class's changes, in the law's world -/
/-- behind a change: the answer, and where the class is now -/
def Pch (Γ : ZG) (w : ZW) (T : LT) (x i u : Nat) (C : CS) (D D' : ZD) (g : Option Nat) (cs : List Int32) (sg : ZSg) (R : Int32) : Option Value → ZW → Prop := fun v w2 => v = some (.int R) ∧ ∃ E', w2.1 = w.1 ∧ Cl Γ w2 T x (cE (puC C i u (nP D) (nC D) (nL D)) 0 E') ∧ Rg Γ w2 T x g cs ∧ Kq w T w2 T (fun z => z ≠ 1) ∧ CR D' g sg E' D'
section
variable {l : Launch} {Γ : ZG} {M5 : ZM} {w w' : ZW} {T : LT} {x i u d : Nat} {C C' : CS} {D D' : ZD} {g : Option Nat} {cs : List Int32} {sg sg' : ZSg} {R : Int32} {as : List Value} {Pp : ES → Prop}
theorem Cl.out (cl : Cl Γ w T x C) {q : Nat} (h : T q ≠ 1) : q < x ∨ x + 105 ≤ q := by
  by_cases hr : x ≤ q ∧ q < x + 105
  · have := cl.2.1 (q - x) (by omega)
    rw [show x + (q - x) = q by omega] at this
    exact absurd this h
  · omega
theorem Cl.wc (cl : Cl Γ w T x C) (h1 : w'.1 = w.1) : Cl Γ (wC Γ w' x C') T x C' := ⟨fun j hj => wC_at j hj, cl.2.1, by show x + 105 ≤ w'.1; rw [h1]; exact cl.2.2⟩
theorem Cl.kq (cl : Cl Γ w T x C) (hk : Kq w T w' T (fun z => z ≠ 1)) : Kq w T (wC Γ w' x C') T (fun z => z ≠ 1) := fun q c h1 h2 => ⟨(wC_out (cl.out h2)).trans (hk q c h1 h2).1, rfl⟩
theorem Rg.aw (h : Rg Γ w T x g cs) : gAway g x 105 := fun r hr => (h.2 r hr).1
theorem Rg.wc (h : Rg Γ w' T x g cs) : Rg Γ (wC Γ w' x C') T x g cs := ⟨h.1.out h.aw, h.2⟩
theorem Rg.gw (h : Rg Γ w T x g cs) (hh : Int32) (z : ZD) : Rg Γ (gW Γ w g hh z) T x g cs ∧ (gW Γ w g hh z).1 = w.1 ∧ Kq w T (gW Γ w g hh z) T (fun t => t ≠ 1) := by
  cases g with
  | none => exact ⟨h, rfl, Kq.rf⟩
  | some r =>
    obtain ⟨⟨h1, h2, h3, a, c, d, g0, g1, g2, g3⟩, hr⟩ := h
    refine ⟨⟨⟨h1, h2, h3, hh, z, d, if_pos rfl, ((if_neg (by omega)).trans (if_neg (by omega))).trans g1, (if_neg (by omega)).trans (if_pos rfl), g3⟩, hr⟩, rfl, fun q c e1 e2 => ⟨?_, rfl⟩⟩
    have t0 := (hr r rfl).2.2 0 (by decide)
    have t2 := (hr r rfl).2.2 2 (by decide)
    exact ((if_neg (fun e => e2 (by rw [e]; exact t0))).trans (if_neg (fun e => e2 (by rw [e]; exact t2)))).trans e1
theorem pch_i : ∀ v w2, Pch Γ w T x i u C D D' g cs sg R v w2 → ∃ r, v = some (.int r) := fun _ _ q => ⟨R, q.1⟩
theorem pch_C (cl : Cl Γ w T x C) (rg : Rg Γ w T x g cs) (c : Ct l Γ M5 d 0 0 as (wC Γ w x C) (PvC Γ w x (puC C i u (nP D) (nC D) (nL D)) 0 (some (.int R)) Pp) zNo) (hP : ∀ E, Pp E → CR D' g sg' E D') : Ct l Γ M5 d 0 0 as w (Pch Γ w T x i u C D D' g cs sg' R) zNo := by
  rw [cl.self] at c
  refine Ct.mono (fun v w2 q => ?_) (fun _ _ q => q) c
  obtain ⟨q1, E', rfl, q3⟩ := q
  exact ⟨q1, E', rfl, cl.wc rfl, rg.wc, cl.kq Kq.rf, hP E' q3⟩
theorem pch_D (cl : Cl Γ w T x C) (rg : Rg Γ w T x g cs) (c : Ct l Γ M5 d 0 0 as (wC Γ w x C) (PvD Γ w x (puC C i u (nP D) (nC D) (nL D)) g (some (.int R)) Pp) zNo) (hP : ∀ E, Pp E → CR D' g sg' E D') : Ct l Γ M5 d 0 0 as w (Pch Γ w T x i u C D D' g cs sg' R) zNo := by
  rw [cl.self] at c
  refine Ct.mono (fun v w2 q => ?_) (fun _ _ q => q) c
  obtain ⟨q1, hh, z, E', rfl, q3⟩ := q
  obtain ⟨r1, r2, r3⟩ := rg.gw hh z
  exact ⟨q1, E', r2, cl.wc r2, r1.wc, cl.kq r3, hP E' q3⟩
end
section
variable {l : Launch} {Γ : ZG} {w : ZW} {T : LT} {x i u : Nat} {C : CS} {D : ZD} {g : Option Nat} {cs : List Int32} {sg : ZSg}
theorem co_hangUp (cl : Cl Γ w T x C) (rg : Rg Γ w T x g cs) (hC : CR D g sg (C.1 0) D) (hG : GI sg D) (hh : Hc C i u) {p : Nat} (hp : p < nP D) : Ct l Γ mL_hangUp 32 0 0 [.ref x, .int (nI p)] w (Pch Γ w T x i u C D (hupD D (nI p)).2 g cs sg (hupD D (nI p)).1) zNo :=
  ct_L_hangUp_0 (pch_C cl rg (ct_X5_hangUp hC hG hh.1 hh.2.1 hh.2.2.1 hh.2.2.2 (hC.iP hp)) (fun _ hE => hE.base)) (by decide) cl.x5 pch_i
theorem co_offer (cl : Cl Γ w T x C) (rg : Rg Γ w T x g cs) (hC : CR D g sg (C.1 0) D) (hG : GI sg D) (hh : Hc C i u) {p v : Nat} (hp : p < nP D) (hv : v ≤ 999) (h4 : legW D (nI p) 1 ≠ -1) : Ct l Γ mL_offer 32 0 0 [.ref x, .int (nI p), .int (nI v)] w (Pch Γ w T x i u C D (offD D (tN (legW D (nI p) 1)) (nI p) (nI v)).2 g cs sg (offD D (tN (legW D (nI p) 1)) (nI p) (nI v)).1) zNo :=
  ct_L_offer_0 (pch_C cl rg (ct_X5_offer hC hG hh.1 hh.2.1 hh.2.2.1 hh.2.2.2 (hC.iP hp) (sml (m := 999) hv (by decide)) h4) (fun _ hE => hE.base)) (by decide) cl.x5 pch_i
theorem gi_off (hG : GI sg D) {p v : Int32} (h4 : legW D p 1 ≠ -1) {E : ES} (hE : CR D g sg E (offD D (tN (legW D p 1)) p v).2) : GI sg (offD D (tN (legW D p 1)) p v).2 := by
  obtain ⟨k1, k2, k3, k4⟩ := leg_ok hG.iv.1.2.2.1.2 h4
  exact hG.same hE.2.2.1 (jo_mkO hG.jo hE.2.2.1 k3 sdN_lt)
theorem co_setParty (cl : Cl Γ w T x C) (rg : Rg Γ w T x g cs) (hC : CR D g sg (C.1 0) D) (hh : Hc C i u) {p j v : Nat} (hp : p < nP D) (hj : j < 3) (hv : v ≤ (if j = 2 then 999 else 99)) : Ct l Γ mL_setParty 32 0 0 [.ref x, .int (nI p), .int (nI j), .int (nI v)] w (Pch Γ w T x i u C D (setP D p j (nI v)) g cs sg (dP D p j)) zNo := by
  have hb : v ≤ 999 := by
    split at hv <;> omega
  have h3 : 0 ≤ nI v ∧ nI v ≤ (if nI j = 2 then 999 else 99) := by
    refine ⟨(nI_leI (a := 0) (by decide) (by omega)).mpr (Nat.zero_le _), ?_⟩
    by_cases hj2 : j = 2
    · rw [if_pos (show nI j = 2 by rw [hj2]; rfl)]
      exact (nI_leI (b := 999) (by omega) (by decide)).mpr hb
    · rw [if_neg (show ¬ nI j = 2 from fun z => hj2 ((nI_eq (b := 2) (by omega) (by decide)).mp z))]
      rw [if_neg hj2] at hv
      exact (nI_leI (b := 99) (by omega) (by decide)).mpr hv
  refine ct_L_setParty_0 (pch_C cl rg (Ct.mono (fun v w2 q => ⟨q.1, _, q.2, rfl⟩) (fun _ _ q => q) (ct_X5_setParty hC hh.1 hh.2.1 hh.2.2.1 hh.2.2.2 (hC.iP hp) (sml (m := 2) (by omega) (by decide)) h3 rfl hp rfl hj)) (Pp := fun E => E = es ((puC C i u (nP D) (nC D) (nL D)).1 0) 0 (upd (((puC C i u (nP D) (nC D) (nL D)).1 0).1 0) (p * 3 + j) (nI v))) (fun E hE => ?_)) (by decide) cl.x5 pch_i
  subst hE
  exact sp_CR hp hj (by rw [puC_0]; exact hC)
theorem co_pass (cl : Cl Γ w T x C) (rg : Rg Γ w T x g cs) (hC : CR D g sg (C.1 0) D) (hG : GI sg D) (hh : Hc C i u) {N : Nat} (hN : 1 ≤ N ∧ N ≤ 30) (ht : tmN D + N ≤ 9999) : Ct l Γ mL_pass 32 0 0 [.ref x, .int (nI N)] w (Pch Γ w T x i u C D (itr (fun _ D => secD D) 0 N D) g cs sg (cntSt (itr (fun _ D => secD D) 0 N D) 1)) zNo := by
  refine ct_L_pass_0 (pch_C cl rg (ct_X5_pass hC hG hh.1 hh.2.1 hh.2.2.1 hh.2.2.2 rfl (by omega) ⟨(nI_leI (a := 1) (by decide) (by omega)).mpr hN.1, (nI_leI (b := 200) (by omega) (by decide)).mpr (by omega)⟩ ?_ (by omega)) (fun _ hE => hE)) (by decide) cl.x5 pch_i
  rw [hG.jt.1.1, nI_add]
  exact (nI_leI (b := 9999) (by omega) (by decide)).mpr ht
/-- what a ring's rule gives -/
def rvB (D : ZD) (y q : Nat) (rf : Int32) (cs : List Int32) : Int32 := ringV (nI (bN (nI y) 0 10)) (nI q) rf (D 0) cs
theorem co_dial (cl : Cl Γ w T x C) (rg : Rg Γ w T x g cs) (hC : CR D g sg (C.1 0) D) (hG : GI sg D) (hh : Hc C i u) {p y : Nat} (hp : p < nP D) (hy : y < 1024) (h2 : ¬ (nI y ≤ 0 ∨ (1 : Int32) <<< (D 4 &&& 31) ≤ nI y ∨ (nI y >>> (nI p &&& 31)) &&& 1 = 1)) (h3 : ¬ eng D (nI p)) (h4 : nC D < 20 ∧ nL D + bN (nI y) 0 10 ≤ 40) (hb : ∀ j, j < 10 → bitOf (nI y) j = 1 → j < nP D) : Ct l Γ mL_dial 32 0 0 [.ref x, .int (nI p), .int (nI y)] w (Pch Γ w T x i u C D (begD D (nI p) (nI y) (rvB D y p 0 cs) (-1)) g cs (sgN sg D (bN (nI y) 0 10)) (begN D (nI p) (nI y) (rvB D y p 0 cs) (-1))) zNo :=
  ct_L_dial_0 (pch_D cl rg (ct_X5_dial hC hG hh.1 hh.2.1 hh.2.2.1 hh.2.2.2 (hC.iP hp) rfl rfl hy h2 h3 h4 rg.1 rg.aw hp hb) (fun _ hE => hE)) (by decide) cl.x5 pch_i
theorem co_transfer (cl : Cl Γ w T x C) (rg : Rg Γ w T x g cs) (hC : CR D g sg (C.1 0) D) (hG : GI sg D) (hh : Hc C i u) {p t k q : Nat} (hp : p < nP D) (ht : t < nP D) (hk : legW D (nI p) 1 = nI k) (hkL : k < nL D) (h3 : nC D < 20 ∧ nL D + 1 ≤ 40) (h5 : ¬ inLeg D (nI t) k) (hq : (if clr D k = nI p then dL D k 1 else clr D k) = nI q ∧ q < nP D) : Ct l Γ mL_transfer 32 0 0 [.ref x, .int (nI p), .int (nI t)] w (Pch Γ w T x i u C D (begD (dropD (setL D k 2 2) k) (nI q) (nI (2 ^ t)) (rvB (dropD (setL D k 2 2) k) (2 ^ t) q 1 cs) (nI k)) g cs (sgN sg (dropD (setL D k 2 2) k) (bN (nI (2 ^ t)) 0 10)) (begN (dropD (setL D k 2 2) k) (nI q) (nI (2 ^ t)) (rvB (dropD (setL D k 2 2) k) (2 ^ t) q 1 cs) (nI k))) zNo :=
  ct_L_transfer_0 (pch_D cl rg (ct_X5_transfer hC hG hh.1 hh.2.1 hh.2.2.1 hh.2.2.2 (hC.iP hp) (hC.iP ht) hk hkL h3 h5 rg.1 rg.aw rfl ht hq) (fun _ hE => hE)) (by decide) cl.x5 pch_i
end
end LCls
