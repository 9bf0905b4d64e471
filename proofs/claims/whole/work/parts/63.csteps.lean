section CSteps3
/-! dial, transfer, load on both objects -/
theorem sh_all : ∀ n, n < 11 → (1 : Int32) <<< (nI n &&& 31) = nI (2 ^ n) ∧ 2 ^ n ≤ 1024 := by decide +kernel
theorem bits_lt : ∀ n, n < 11 → ∀ xn, xn < 2 ^ n → ∀ j, j < 10 → bitOf (nI xn) j = 1 → j < n := by decide +kernel
theorem dial_x {n : Nat} (hn : n ≤ 10) {y : Int32} (h0 : ¬ y ≤ 0) (h1 : ¬ (1 : Int32) <<< (nI n &&& 31) ≤ y) : ∃ xn, y = nI xn ∧ xn < 1024 ∧ ∀ j, j < 10 → bitOf (nI xn) j = 1 → j < n := by
  obtain ⟨e, hm⟩ := sh_all n (by omega)
  have hb := bits_lt n (by omega)
  rw [e] at h1
  generalize 2 ^ n = m at h1 hm hb
  rw [Int32.le_iff_toInt_le, nI_toInt (by omega)] at h1
  rw [Int32.le_iff_toInt_le] at h0
  have h0 : ¬ y.toInt ≤ 0 := h0
  refine ⟨y.toInt.toNat, Int32.toInt_inj.mp (by rw [nI_toInt (by omega)]; omega), by omega, hb _ (by omega)⟩
section
variable {l : Launch} {Γ : ZG} {P : Nat} {b b' : ZW} {x : Nat} {C C' : CS} {o : Nat} {S S' : MS} {D D' G : ZD} {p : Nat} {E : ES} {g : Option Nat} {sg : ZSg} {cs : List Int32}
theorem room_iff (hI : Ix D) {m : Nat} (hm : m ≤ 10) : (nC D < 20 ∧ nL D + m ≤ 40) ↔ ¬ (D 5 = 20 ∨ ¬ D 6 + nI m ≤ 40) := by
  obtain ⟨-, ⟨c1, c2⟩, ⟨d1, d2⟩, -⟩ := hI
  have e : D 6 + nI m = nI (nL D + m) := by rw [d1, nI_add]
  have e5 : D 5 = 20 ↔ nC D = 20 := by rw [c1]; exact nI_eq (b := 20) (by omega) (by decide)
  have e6 : D 6 + nI m ≤ 40 ↔ nL D + m ≤ 40 := by
    rw [e]
    exact ⟨fun q => i_le (c := 40) (by omega) (by decide) q, fun q => nI_le (b := 40) q (by decide)⟩
  rw [e5, e6]
  omega
theorem xiB {q : Nat} {y rv ref : Int32} (hG : GI sg D) (hRC : RC D cs) (hRG : RG Γ b g cs) (hgo : gOK P b g) (htm : tmN D ≤ 9999) (hC : nC D < 20) (hq : q < nP D) (hr : ref = -1 ∨ (ref = nI (tN ref) ∧ tN ref < nL D)) (hv : RvOK rv) (hb : ∀ j, j < 10 → bitOf y j = 1 → j < nP D) (hL : nL D + bN y 0 10 ≤ 40) (hE : CR (begD D (nI q) y rv ref) g (sgN sg D (bN y 0 10)) E (begD D (nI q) y rv ref)) : XI Γ b P E (begD D (nI q) y rv ref) := by
  have hi := hi_beg hG hC hq hr hv hb hL
  refine ⟨g, _, cs, hE, begD_GI hG hC hq hr hv hb hL, RC.hs hRC (hi 8 (Or.inr (Or.inl rfl))) (fun i h => hi i (Or.inl h)), hRG, hgo, ?_⟩
  have e : tmN (begD D (nI q) y rv ref) = tmN D := by
    unfold tmN
    rw [hi 0 (Or.inr (Or.inr rfl))]
  rw [e]
  exact htm
/-- a row read anew -/
theorem agr {s : QS} (hQ : QInv s) (ha : ∀ i, i < 666 → i ≠ 8 → D' i = s.2.1 i) (hE : CR s.2.1 g sg E s.2.1) : CR D' g sg E D' ∧ GI sg D' ∧ tmN D' = 0 := by
  obtain ⟨z1, z2, z3⟩ := qi_nC hQ
  have n1 : nP D' = nP s.2.1 := by unfold nP; rw [ha 4 (by decide) (by decide)]
  have n2 : nC D' = 0 := by rw [← z1]; unfold nC; rw [ha 5 (by decide) (by decide)]
  have n3 : nL D' = 0 := by rw [← z2]; unfold nL; rw [ha 6 (by decide) (by decide)]
  have n4 : tmN D' = 0 := by rw [← z3]; unfold tmN; rw [ha 0 (by decide) (by decide)]
  have h10 := hQ.1.2
  have hI : Iv D' := by
    refine ⟨⟨⟨?_, by omega⟩, ⟨?_, by omega⟩, ⟨?_, by omega⟩, fun k hk => by omega⟩, fun c hc => by omega, fun k hk => by omega, fun c hc => by omega⟩
    · rw [n1, ha 4 (by decide) (by decide)]; exact hQ.1.1
    · rw [n2, ha 5 (by decide) (by decide)]; exact hQ.2.1 5 (Or.inr (Or.inl rfl))
    · rw [n3, ha 6 (by decide) (by decide)]; exact hQ.2.1 6 (Or.inr (Or.inr (Or.inl rfl)))
  have h0 : D' 0 = 0 := by rw [ha 0 (by decide) (by decide)]; exact hQ.2.1 0 (Or.inl rfl)
  obtain ⟨⟨a1, a2, a3, a4, a5, a6, a7⟩, -, -, d, -⟩ := hE
  refine ⟨⟨⟨?_, ?_, fun q i hq hi => ?_, fun q i hq hi => by omega, fun q hq => by omega, fun k i hk hi => by omega, fun i hi => ?_⟩, hI, sm_rf, d, fun q hq => by omega⟩, ⟨fun c hc => by omega, ⟨fun c hc => by omega, ?_⟩, hI, fun k k' h1 h2 => by omega, fun k hk => by omega, fun q i hq hi => ?_, ⟨?_, by omega⟩, fun c hc => by omega⟩, n4⟩
  · rw [ha 4 (by decide) (by decide), ha 5 (by decide) (by decide), ha 6 (by decide) (by decide)]; exact a1
  · rw [ha 0 (by decide) (by decide), ha 1 (by decide) (by decide), ha 2 (by decide) (by decide), ha 3 (by decide) (by decide)]; exact a2
  · rw [n1] at hq
    show _ = D' (16 + 3 * q + i)
    rw [ha _ (by omega) (by omega)]
    exact a3 q i hq hi
  · rw [ha _ (by omega) (by omega)]; exact a7 i hi
  · rw [n2, n3]; rfl
  · rw [n1] at hq
    show 0 ≤ D' (16 + 3 * q + i)
    rw [ha _ (by omega) (by omega)]
    exact hQ.2.2.1 q i hq hi
  · rw [n4]; exact h0
theorem byte0 (v : Int32) : 0 ≤ v &&& 255 := by
  obtain ⟨j, hj, e⟩ := pk_andE v (m := 255) 8 rfl
  rw [e]
  exact nI_le (a := 0) (Nat.zero_le _) (by omega)
end

set_option maxRecDepth 100000 in
set_option maxHeartbeats 4000000 in
theorem op_dial {l : Launch} {Γ : ZG} {P : Nat} {b : ZW} {x : Nat} {C : CS} {o : Nat} {S : MS} {D : ZD} {p : Nat} (h : LI Γ P b x C o S D p) {y0 y1 : Int32} : OpS l Γ P b x C o S D p mL_dial mX6_dial [.int y0, .int y1] := by
  obtain ⟨g, sg, cs, hC, hG, hRC, hRG, hgo, htm⟩ := h.2.2.1
  have hx := h.1.1
  have hp := h.1.2.1
  obtain ⟨i, u, hH⟩ := h.2.2.2.1
  obtain ⟨hn, hi, hu, hu8, hU, -⟩ := id hH
  by_cases h1 : 0 ≤ y0 ∧ y0 ≤ D 4 - 1
  · by_cases h2 : y1 ≤ 0 ∨ (1 : Int32) <<< (D 4 &&& 31) ≤ y1 ∨ (y1 >>> (y0 &&& 31)) &&& 1 = 1
    · exact opX h (k := 2) (by decide) (ct_L_dial_2 (ct_X5_dial_2 hC h1 h2) (by decide) LI.w5) (by decide) (fun w => ct_X6_dial_2 h1 h2)
    · obtain ⟨q, hq, hqP⟩ := hC.kP h1
      obtain ⟨xn, hxe, hxn, hb⟩ := dial_x hC.P10 (y := y1) (fun z => h2 (Or.inl z)) (fun z => h2 (Or.inr (Or.inl (by rw [hC.D4]; exact z))))
      have hbn := bN_le (x := nI xn) 10 0
      have hri := room_iff hG.iv.1 (m := bN (nI xn) 0 10) hbn
      by_cases h3 : eng D y0 ∨ ¬ (nC D < 20 ∧ nL D + bN (nI xn) 0 10 ≤ 40)
      · have h3' : eng D y0 ∨ D 5 = 20 ∨ ¬ D 6 + nI (bN y1 0 10) ≤ 40 := by
          rcases h3 with z | z
          · exact Or.inl z
          · right
            rw [hxe]
            exact Classical.not_not.mp (fun z2 => z (hri.mpr z2))
        exact opX h (k := 3) (by decide) (ct_L_dial_3 (ct_X5_dial_3 hC hG h1 hq hxe hxn h2 h3) (by decide) LI.w5) (by decide) (fun w => ct_X6_dial_3 hG.iv h1 h2 h3')
      · have h3e : ¬ eng D y0 := fun z => h3 (Or.inl z)
        have h4 : nC D < 20 ∧ nL D + bN (nI xn) 0 10 ≤ 40 := Classical.not_not.mp (fun z => h3 (Or.inr z))
        have h3' : ¬ (eng D y0 ∨ D 5 = 20 ∨ ¬ D 6 + nI (bN y1 0 10) ≤ 40) := by
          rintro (z | z)
          · exact h3e z
          · rw [hxe] at z
            exact hri.mp h4 z
        have aw := h.away hgo
        have cm : ∀ w, Ct l Γ mX6_dial 9 0 0 (.ref o :: [.int y0, .int y1]) (wD Γ w o S D) (fun v w2 => v = some (.int (begN D (nI q) (nI xn) (ringV (nI (bN (nI xn) 0 10)) (nI q) 0 (D 0) cs) (-1))) ∧ ∃ gg, w2 = wD Γ w o (ml (remM (mf S 0 0) D u) gg) (begD D (nI q) (nI xn) (ringV (nI (bN (nI xn) 0 10)) (nI q) 0 (D 0) cs) (-1))) zNo := fun w => by
          have c := ct_X6_dial (l := l) (Γ := Γ) (w := w) (o := o) (S := S) (x := y1) hG.iv hU hu8 hq hqP h4.1 hRC (by rw [hxe]; exact hb) (by rw [hxe]; exact h4.2) h1 h2 h3'
          rw [hq, hxe] at c
          rw [hq, hxe]
          exact c
        exact opM h hH (ct_L_dial_0 (cD h hRG hgo (ct_X5_dial hC hG hn hi hu hu8 h1 hq hxe hxn h2 h3e h4 (hRG.outD aw.2) aw.1 hqP hb) (fun E b3 e hE => xiB hG hRC (e.2 g cs hgo hRG) (hgo.ext e) htm h4.1 hqP (Or.inl rfl) ringV_ok hb h4.2 hE)) (by decide) LI.w5 (oP hx hp)) (by decide) cm
  · exact opX h (k := 1) (by decide) (ct_L_dial_1 (ct_X5_dial_1 hC h1) (by decide) LI.w5) (by decide) (fun w => ct_X6_dial_1 h1)

set_option maxRecDepth 100000 in
set_option maxHeartbeats 4000000 in
theorem op_transfer {l : Launch} {Γ : ZG} {P : Nat} {b : ZW} {x : Nat} {C : CS} {o : Nat} {S : MS} {D : ZD} {p : Nat} (h : LI Γ P b x C o S D p) {y0 y1 : Int32} : OpS l Γ P b x C o S D p mL_transfer mX6_transfer [.int y0, .int y1] := by
  obtain ⟨g, sg, cs, hC, hG, hRC, hRG, hgo, htm⟩ := h.2.2.1
  have hx := h.1.1
  have hp := h.1.2.1
  obtain ⟨i, u, hH⟩ := h.2.2.2.1
  obtain ⟨hn, hi, hu, hu8, hU, -⟩ := id hH
  by_cases h1 : 0 ≤ y0 ∧ y0 ≤ D 4 - 1
  · by_cases h2 : 0 ≤ y1 ∧ y1 ≤ D 4 - 1
    · have hb1 : nI 1 = (1 : Int32) := rfl
      have e5 : D 5 = 20 ↔ nC D = 20 := by rw [hC.D5]; exact nI_eq (b := 20) (by have := hC.C20; omega) (by decide)
      have e6 : D 6 = 40 ↔ nL D = 40 := by rw [hC.D6]; exact nI_eq (b := 40) (by have := hC.L40; omega) (by decide)
      have h20 := hC.C20
      have h40 := hC.L40
      by_cases h4 : legW D y0 1 = -1 ∨ ¬ (nC D < 20 ∧ nL D + 1 ≤ 40)
      · have h4' : legW D y0 1 = -1 ∨ D 5 = 20 ∨ D 6 = 40 := by
          rcases h4 with z | z
          · exact Or.inl z
          · right
            rw [e5, e6]
            omega
        exact opX h (k := 2) (by decide) (ct_L_transfer_2 (ct_X5_transfer_2 hC h1 h2 h4) (by decide) LI.w5) (by decide) (fun w => ct_X6_transfer_2 hG.iv h1 h2 h4')
      · have h4a : legW D y0 1 ≠ -1 := fun z => h4 (Or.inl z)
        have h3 : nC D < 20 ∧ nL D + 1 ≤ 40 := Classical.not_not.mp (fun z => h4 (Or.inr z))
        have h4' : ¬ (legW D y0 1 = -1 ∨ D 5 = 20 ∨ D 6 = 40) := by
          rw [e5, e6]
          rintro (z | z)
          · exact h4a z
          · omega
        obtain ⟨k1, k2, k3, k4⟩ := leg_ok h40 h4a
        by_cases h5 : inLeg D y1 (tN (legW D y0 1))
        · exact opX h (k := 3) (by decide) (ct_L_transfer_3 (ct_X5_transfer_3 hC h1 h2 h4a h3 h5) (by decide) LI.w5) (by decide) (fun w => ct_X6_transfer_3 hG.iv h1 h2 h4' h5)
        · obtain ⟨t, ht, htP⟩ := hC.kP h2
          have h10 := hC.P10
          obtain ⟨q, hq⟩ : ∃ q, (if clr D (tN (legW D y0 1)) = y0 then dL D (tN (legW D y0 1)) 1 else clr D (tN (legW D y0 1))) = nI q ∧ q < nP D := by
            have c1 := hC.ca (hC.of k2).2
            have c2 := hC.ce k2
            split
            · exact ⟨_, c2⟩
            · exact ⟨_, c1⟩
          have pb := pow_bits t (by omega)
          have hb : ∀ j, j < 10 → bitOf (nI (2 ^ t)) j = 1 → j < nP D := fun j hj z => by rw [pb.2 j hj z]; exact htP
          have hL : nL D + bN (nI (2 ^ t)) 0 10 ≤ 40 := by rw [pb.1]; exact h3.2
          have hsm : Same D (dropD (setL D (tN (legW D y0 1)) 2 2) (tN (legW D y0 1))) := (sm_setL (by decide) (by decide)).trans sm_drop
          have hhs : Hs D (dropD (setL D (tN (legW D y0 1)) 2 2) (tN (legW D y0 1))) := hs_drop (hs_set Hs.rf (by decide) (by decide) (by omega)) (by omega)
          have aw := h.away hgo
          have tk : tN (nI (tN (legW D y0 1))) = tN (legW D y0 1) := nI_clamp (by omega)
          have cm : ∀ w, Ct l Γ mX6_transfer 9 0 0 (.ref o :: [.int y0, .int y1]) (wD Γ w o S D) (fun v w2 => v = some (.int (begN (dropD (setL D (tN (legW D y0 1)) 2 2) (tN (legW D y0 1))) (nI q) (nI (2 ^ t)) (ringV (nI (bN (nI (2 ^ t)) 0 10)) (nI q) 1 ((dropD (setL D (tN (legW D y0 1)) 2 2) (tN (legW D y0 1))) 0) cs) (nI (tN (legW D y0 1))))) ∧ ∃ gg, w2 = wD Γ w o (ml (remM (mf S 0 0) D u) gg) (begD (dropD (setL D (tN (legW D y0 1)) 2 2) (tN (legW D y0 1))) (nI q) (nI (2 ^ t)) (ringV (nI (bN (nI (2 ^ t)) 0 10)) (nI q) 1 ((dropD (setL D (tN (legW D y0 1)) 2 2) (tN (legW D y0 1))) 0) cs) (nI (tN (legW D y0 1))))) zNo := fun w => by
            have sp := (sh_pow t (by omega)).1
            have c := ct_X6_transfer (l := l) (Γ := Γ) (w := w) (o := o) (S := S) (p := y0) (t := y1) hG.iv hU hu8 hq h3.1 hRC (by rw [ht, sp]; exact hb) (by rw [ht, sp]; exact hL) h1 h2 h4' h5
            rw [ht, sp] at c
            rw [ht]
            exact c
          exact opM h hH (ct_L_transfer_0 (cD h hRG hgo (ct_X5_transfer hC hG hn hi hu hu8 h1 h2 k1 k2 h3 h5 (hRG.outD aw.2) aw.1 ht htP hq) (fun E b3 e hE => xiB (hold_GI hG) (hRC.hs' hhs) (e.2 g cs hgo hRG) (hgo.ext e) (by rw [tm_same hsm]; exact htm) (by rw [sm_nC hsm]; exact h3.1) (by rw [sm_nP hsm]; exact hq.2) (Or.inr ⟨by rw [tk], by rw [tk, sm_nL hsm]; exact k2⟩) ringV_ok (by rw [sm_nP hsm]; exact hb) (by rw [sm_nL hsm]; exact hL) hE)) (by decide) LI.w5 (oP hx hp)) (by decide) cm
    · exact opX h (k := 1) (by decide) (ct_L_transfer_1 (ct_X5_transfer_1b hC h1 h2) (by decide) LI.w5) (by decide) (fun w => ct_X6_transfer_1b h1 h2)
  · exact opX h (k := 1) (by decide) (ct_L_transfer_1 (ct_X5_transfer_1 hC h1) (by decide) LI.w5) (by decide) (fun w => ct_X6_transfer_1 h1)
end CSteps3
