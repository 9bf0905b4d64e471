section CAdd
/-! what grows: a call's row, its legs' rows -/
theorem go_ldcw {l : Launch} {Γ : ZG} {M : ZM} {dp mc ms : Nat} {Φ : Option Value → ZW → Prop} {Ψ : String → ZW → Prop} {k n : Nat} {w : ZW} {pc : Nat} {L : ZL} {st : List Value} {index : Nat} {v : Int32} (pc' : Nat) (hd : decode M.2.1 pc = .ok (.ldc_w index, 3)) (hc : Cond.constant M.1.cls index v ∈ zGood) (kk : Go l Γ M dp mc ms Φ Ψ k n w pc' L (.int v :: st)) (hp : pc + 3 = pc' := by rfl) : Go l Γ M dp mc ms Φ Ψ k n w pc L st := by
  subst hp
  exact fun p e s m args below meth c C H locs ls hl hH hS => lv_ldcw C.1 C.2.1 C.own (C.good hc) hd (kk p e s m args below meth c C H locs ls hl hH hS)
def us (x y : Int32) : Int32 := (x.toUInt32 >>> (y.toUInt32 &&& Int32.toUInt32 31)).toInt32
def bc1 (x : Int32) : Int32 := x - (us x 1 &&& 1431655765)
def bc2 (x : Int32) : Int32 := (x &&& 858993459) + (us x 2 &&& 858993459)
def bc3 (x : Int32) : Int32 := (x + us x 4) &&& 252645135
def bc4 (x : Int32) : Int32 := x + us x 8
def bc5 (x : Int32) : Int32 := x + us x 16
def bitC (x : Int32) : Int32 := bc5 (bc4 (bc3 (bc2 (bc1 x)))) &&& 63
theorem bitC_ok : ∀ n, n < 1024 → bitC (nI n) = nI (bN (nI n) 0 10) := by decide +kernel
theorem itr_zero {b : Nat} {i : Nat} : ∀ (n s : Nat) (g : ZD), itr (fun c g => upd g (b + c) 0) s n g i = if b + s ≤ i ∧ i < b + s + n then 0 else g i
  | 0, s, g => by
    show g i = _
    rw [if_neg (by omega)]
  | n + 1, s, g => by
    show itr (fun c g => upd g (b + c) 0) (s + 1) n (upd g (b + s) 0) i = _
    rw [itr_zero n (s + 1)]
    by_cases h : i = b + s
    · subst h
      rw [if_neg (by omega), if_pos (by omega), pk_us]
    · rw [pk_un h]
      by_cases h2 : b + (s + 1) ≤ i ∧ i < b + (s + 1) + n
      · rw [if_pos h2, if_pos (by omega)]
      · rw [if_neg h2, if_neg (by omega)]
def zrow (g : ZD) (b C : Nat) : ZD := itr (fun c g => upd g (b + c) 0) 0 C g
theorem zrow_i {g : ZD} {b C i : Nat} (h : b ≤ i ∧ i < b + C) : zrow g b C i = 0 := by
  unfold zrow
  rw [itr_zero]
  exact if_pos (by omega)
theorem zrow_o {g : ZD} {b C i : Nat} (h : i < b ∨ b + C ≤ i) : zrow g b C i = g i := by
  unfold zrow
  rw [itr_zero]
  exact if_neg (by omega)
theorem zeroL_eq {D : ZD} {k : Nat} : zeroL D k = zrow D (146 + 13 * k) 13 := rfl
section
variable {l : Launch} {Γ : ZG} {w : ZW} {e : Nat} {E : ES} {m : Nat}
theorem ca_L (hR : E.2.1 2 = nI m) (hm : m < 40) : Cm l Γ mX4_addRow 2 [.ref (e + 5)] (wE Γ w e E) (some (.int (nI m))) (wE Γ w e (es (er E 2 (nI (m + 1))) 2 (zrow (E.1 2) (m * 13) 13))) := by
  have ht : (wE Γ w e E).2 (e + 5) = some (.inr (4, [.ref (e + 6), .int (nI 13), .int (nI m)])) := by
    refine (wE_tab (t := 2) (by decide)).trans ?_
    rw [hR]; rfl
  have c := ct_X4_addRow (l := l) (N := 520) ht (wE_arr (t := 2) (by decide)) (by omega) (by omega) (by decide) (by omega) (by decide)
  have e1 : wset (wE Γ w e E) (e + 5) (.inr (4, [.ref (e + 6), .int (nI 13), .int (nI (m + 1))])) = wE Γ w e (er E 2 (nI (m + 1))) := wE_setR (t := 2) (by decide)
  have e2 : wset (wE Γ w e (er E 2 (nI (m + 1)))) (e + 6) (.inl (Γ.2.2.1 0, 520, .inl (zrow (E.1 2) (m * 13) 13))) = wE Γ w e (es (er E 2 (nI (m + 1))) 2 (zrow (E.1 2) (m * 13) 13)) := wE_setT (t := 2) (by decide)
  have c : Cm _ _ _ _ _ _ _ (wset (wset (wE Γ w e E) (e + 5) (.inr (4, [.ref (e + 6), .int (nI 13), .int (nI (m + 1))]))) (e + 6) (.inl (Γ.2.2.1 0, 520, .inl (zrow (E.1 2) (m * 13) 13)))) := c
  rw [e1, e2] at c
  exact c
theorem ca_C (hR : E.2.1 1 = nI m) (hm : m < 20) : Cm l Γ mX4_addRow 2 [.ref (e + 3)] (wE Γ w e E) (some (.int (nI m))) (wE Γ w e (es (er E 1 (nI (m + 1))) 1 (zrow (E.1 1) (m * 8) 8))) := by
  have ht : (wE Γ w e E).2 (e + 3) = some (.inr (4, [.ref (e + 4), .int (nI 8), .int (nI m)])) := by
    refine (wE_tab (t := 1) (by decide)).trans ?_
    rw [hR]; rfl
  have c := ct_X4_addRow (l := l) (N := 160) ht (wE_arr (t := 1) (by decide)) (by omega) (by omega) (by decide) (by omega) (by decide)
  have e1 : wset (wE Γ w e E) (e + 3) (.inr (4, [.ref (e + 4), .int (nI 8), .int (nI (m + 1))])) = wE Γ w e (er E 1 (nI (m + 1))) := wE_setR (t := 1) (by decide)
  have e2 : wset (wE Γ w e (er E 1 (nI (m + 1)))) (e + 4) (.inl (Γ.2.2.1 0, 160, .inl (zrow (E.1 1) (m * 8) 8))) = wE Γ w e (es (er E 1 (nI (m + 1))) 1 (zrow (E.1 1) (m * 8) 8)) := wE_setT (t := 1) (by decide)
  have c : Cm _ _ _ _ _ _ _ (wset (wset (wE Γ w e E) (e + 3) (.inr (4, [.ref (e + 4), .int (nI 8), .int (nI (m + 1))]))) (e + 4) (.inl (Γ.2.2.1 0, 160, .inl (zrow (E.1 1) (m * 8) 8)))) := c
  rw [e1, e2] at c
  exact c
theorem ca_P (hR : E.2.1 0 = nI m) (hm : m < 10) : Cm l Γ mX4_addRow 2 [.ref (e + 1)] (wE Γ w e E) (some (.int (nI m))) (wE Γ w e (es (er E 0 (nI (m + 1))) 0 (zrow (E.1 0) (m * 3) 3))) := by
  have ht : (wE Γ w e E).2 (e + 1) = some (.inr (4, [.ref (e + 2), .int (nI 3), .int (nI m)])) := by
    refine (wE_tab (t := 0) (by decide)).trans ?_
    rw [hR]; rfl
  have c := ct_X4_addRow (l := l) (N := 30) ht (wE_arr (t := 0) (by decide)) (by omega) (by omega) (by decide) (by omega) (by decide)
  have e1 : wset (wE Γ w e E) (e + 1) (.inr (4, [.ref (e + 2), .int (nI 3), .int (nI (m + 1))])) = wE Γ w e (er E 0 (nI (m + 1))) := wE_setR (t := 0) (by decide)
  have e2 : wset (wE Γ w e (er E 0 (nI (m + 1)))) (e + 2) (.inl (Γ.2.2.1 0, 30, .inl (zrow (E.1 0) (m * 3) 3))) = wE Γ w e (es (er E 0 (nI (m + 1))) 0 (zrow (E.1 0) (m * 3) 3)) := wE_setT (t := 0) (by decide)
  have c : Cm _ _ _ _ _ _ _ (wset (wset (wE Γ w e E) (e + 1) (.inr (4, [.ref (e + 2), .int (nI 3), .int (nI (m + 1))]))) (e + 2) (.inl (Γ.2.2.1 0, 30, .inl (zrow (E.1 0) (m * 3) 3)))) := c
  rw [e1, e2] at c
  exact c
theorem cr_L {r c : Nat} {v : Int32} (hR : E.2.1 2 = nI m) (hm : m ≤ 40) (hr : r < m) (hc : c < 13) : Cm l Γ mX4_set 1 [.ref (e + 5), .int (nI r), .int (nI c), .int v] (wE Γ w e E) none (wE Γ w e (es E 2 (upd (E.1 2) (r * 13 + c) v))) := by
  have ht : (wE Γ w e E).2 (e + 5) = some (.inr (4, [.ref (e + 6), .int (nI 13), .int (nI m)])) := by
    refine (wE_tab (t := 2) (by decide)).trans ?_
    rw [hR]; rfl
  have q := ct_X4_set (l := l) (N := 520) (v := v) ht (wE_arr (t := 2) (by decide)) (r := r) (c := c) rfl rfl hr hc (by omega) (by decide) (by omega) (by decide)
  have e9 : wset (wE Γ w e E) (e + 6) (.inl (Γ.2.2.1 0, 520, .inl (upd (E.1 2) (r * 13 + c) v))) = wE Γ w e (es E 2 (upd (E.1 2) (r * 13 + c) v)) := wE_setT (t := 2) (by decide)
  have q : Cm _ _ _ _ _ _ _ (wset (wE Γ w e E) (e + 6) (.inl (Γ.2.2.1 0, 520, .inl (upd (E.1 2) (r * 13 + c) v)))) := q
  rw [e9] at q
  exact q
theorem cr_C {r c : Nat} {v : Int32} (hR : E.2.1 1 = nI m) (hm : m ≤ 20) (hr : r < m) (hc : c < 8) : Cm l Γ mX4_set 1 [.ref (e + 3), .int (nI r), .int (nI c), .int v] (wE Γ w e E) none (wE Γ w e (es E 1 (upd (E.1 1) (r * 8 + c) v))) := by
  have ht : (wE Γ w e E).2 (e + 3) = some (.inr (4, [.ref (e + 4), .int (nI 8), .int (nI m)])) := by
    refine (wE_tab (t := 1) (by decide)).trans ?_
    rw [hR]; rfl
  have q := ct_X4_set (l := l) (N := 160) (v := v) ht (wE_arr (t := 1) (by decide)) (r := r) (c := c) rfl rfl hr hc (by omega) (by decide) (by omega) (by decide)
  have e9 : wset (wE Γ w e E) (e + 4) (.inl (Γ.2.2.1 0, 160, .inl (upd (E.1 1) (r * 8 + c) v))) = wE Γ w e (es E 1 (upd (E.1 1) (r * 8 + c) v)) := wE_setT (t := 1) (by decide)
  have q : Cm _ _ _ _ _ _ _ (wset (wE Γ w e E) (e + 4) (.inl (Γ.2.2.1 0, 160, .inl (upd (E.1 1) (r * 8 + c) v)))) := q
  rw [e9] at q
  exact q
theorem cr_P {r c : Nat} {v : Int32} (hR : E.2.1 0 = nI m) (hm : m ≤ 10) (hr : r < m) (hc : c < 3) : Cm l Γ mX4_set 1 [.ref (e + 1), .int (nI r), .int (nI c), .int v] (wE Γ w e E) none (wE Γ w e (es E 0 (upd (E.1 0) (r * 3 + c) v))) := by
  have ht : (wE Γ w e E).2 (e + 1) = some (.inr (4, [.ref (e + 2), .int (nI 3), .int (nI m)])) := by
    refine (wE_tab (t := 0) (by decide)).trans ?_
    rw [hR]; rfl
  have q := ct_X4_set (l := l) (N := 30) (v := v) ht (wE_arr (t := 0) (by decide)) (r := r) (c := c) rfl rfl hr hc (by omega) (by decide) (by omega) (by decide)
  have e9 : wset (wE Γ w e E) (e + 2) (.inl (Γ.2.2.1 0, 30, .inl (upd (E.1 0) (r * 3 + c) v))) = wE Γ w e (es E 0 (upd (E.1 0) (r * 3 + c) v)) := wE_setT (t := 0) (by decide)
  have q : Cm _ _ _ _ _ _ _ (wset (wE Γ w e E) (e + 2) (.inl (Γ.2.2.1 0, 30, .inl (upd (E.1 0) (r * 3 + c) v)))) := q
  rw [e9] at q
  exact q
end
/-- a leg's row put on, its offers not yet dropped -/
def mk3 (D : ZD) (c ce : Int32) : ZD := upd (setL (setL (setL (zeroL D (nL D)) (nL D) 0 c) (nL D) 1 ce) (nL D) 2 0) 6 (D 6 + 1)
theorem drop_upd {D : ZD} {k i : Nat} {v : Int32} (h : i < 146 + 13 * k ∨ 159 + 13 * k ≤ i) : dropD (upd D i v) k = upd (dropD D k) i v := by
  unfold dropD setL
  rw [upd_comm (f := D) (by omega), upd_comm (i := i) (by omega), upd_comm (i := i) (by omega)]
theorem mk3_6 {D : ZD} {c ce : Int32} : dropD (mk3 D c ce) (nL D) = mkG (nL D) c ce (zeroL D (nL D)) := by
  unfold mk3 mkG
  rw [drop_upd (by omega)]
  have h : dropD (setL (setL (setL (zeroL D (nL D)) (nL D) 0 c) (nL D) 1 ce) (nL D) 2 0) (nL D) 6 = D 6 :=
    ((row_drop 6 (by omega)).trans ((row_setL (by decide) 6 (by omega)).trans ((row_setL (by decide) 6 (by omega)).trans ((row_setL (by decide) 6 (by omega)).trans (by rw [zeroL_eq]; exact zrow_o (by omega))))))
  rw [h]
theorem mkD_3 {D : ZD} {c ce : Int32} : mkD D c ce = @ite _ (eng D ce) (Classical.propDecidable _) (endD (dropD (mk3 D c ce) (nL D)) (nL D) 1) (dropD (mk3 D c ce) (nL D)) := by
  unfold mkD mkF
  rw [mk3_6]
theorem sm_mk3 {D : ZD} {c ce : Int32} : Same (mk3 D c ce) (mkD D c ce) := by
  rw [mkD_3]
  split
  · exact sm_drop.trans sm_end_
  · exact sm_drop
theorem Same.symm {D D' : ZD} (h : Same D D') : Same D' D := fun i hi => (h i hi).symm
theorem mk3_6v {D : ZD} {c ce : Int32} : mk3 D c ce 6 = D 6 + 1 := pk_us
theorem mk3_lo {D : ZD} {c ce : Int32} {i : Nat} (h6 : i ≠ 6) (h : i < 146 + 13 * nL D ∨ 159 + 13 * nL D ≤ i) : mk3 D c ce i = D i := by
  unfold mk3 setL
  rw [pk_un h6, pk_un (by omega), pk_un (by omega), pk_un (by omega), zeroL_eq, zrow_o (by omega)]
theorem mk3_row {D : ZD} {c ce : Int32} {j : Nat} (hj : j < 13) : dL (mk3 D c ce) (nL D) j = if j = 0 then c else if j = 1 then ce else 0 := by
  unfold dL mk3 setL
  rw [pk_un (by omega)]
  by_cases h2 : j = 2
  · subst h2
    rw [pk_us]
    rfl
  · rw [pk_un (by omega)]
    by_cases h1 : j = 1
    · subst h1
      rw [pk_us]
      rfl
    · rw [pk_un (by omega)]
      by_cases h0 : j = 0
      · subst h0
        rw [pk_us]
        rfl
      · rw [pk_un (by omega), zeroL_eq, zrow_i (by omega), if_neg h0, if_neg h1]
def E3 (E : ES) (m : Nat) (c ce : Int32) : ES :=
  let E1 := es (er E 2 (nI (m + 1))) 2 (zrow (E.1 2) (m * 13) 13)
  let Ea := es E1 2 (upd (E1.1 2) (m * 13 + 0) c)
  let Eb := es Ea 2 (upd (Ea.1 2) (m * 13 + 1) ce)
  es Eb 2 (upd (Eb.1 2) (m * 13 + 2) 0)
theorem E3_2 {E : ES} {m : Nat} {c ce : Int32} : (E3 E m c ce).1 2 = upd (upd (upd (zrow (E.1 2) (m * 13) 13) (m * 13 + 0) c) (m * 13 + 1) ce) (m * 13 + 2) 0 := rfl
theorem E3_o {E : ES} {m t : Nat} {c ce : Int32} (h : t ≠ 2) : (E3 E m c ce).1 t = E.1 t ∧ (E3 E m c ce).2.1 t = E.2.1 t := by
  refine ⟨?_, if_neg h⟩
  unfold E3
  simp only [es_ne h]
  rfl
theorem E3_row {E : ES} {m j : Nat} {c ce : Int32} (hj : j < 13) : (E3 E m c ce).1 2 (m * 13 + j) = if j = 0 then c else if j = 1 then ce else 0 := by
  rw [E3_2]
  by_cases h2 : j = 2
  · subst h2
    rw [pk_us]
    rfl
  · rw [pk_un (by omega)]
    by_cases h1 : j = 1
    · subst h1
      rw [pk_us]
      rfl
    · rw [pk_un (by omega)]
      by_cases h0 : j = 0
      · subst h0
        rw [pk_us]
        rfl
      · rw [pk_un (by omega), zrow_i (by omega), if_neg h0, if_neg h1]
theorem E3_lo {E : ES} {m i : Nat} {c ce : Int32} (h : i < m * 13) : (E3 E m c ce).1 2 i = E.1 2 i := by
  rw [E3_2, pk_un (by omega), pk_un (by omega), pk_un (by omega), zrow_o (Or.inl h)]
theorem mk3_n {D : ZD} {c ce : Int32} (hI : Ix D) (hL : nL D < 40) : nL (mk3 D c ce) = nL D + 1 ∧ nC (mk3 D c ce) = nC D ∧ nP (mk3 D c ce) = nP D := by
  refine ⟨?_, ?_, ?_⟩
  · have e : D 6 + 1 = nI (nL D + 1) := by rw [hI.2.2.1.1]; exact nI_1 _
    show (mk3 D c ce 6).toNatClampNeg = nL D + 1
    rw [mk3_6v, e]
    exact nI_clamp (by omega)
  · unfold nC; rw [mk3_lo (by decide) (by omega)]
  · unfold nP; rw [mk3_lo (by decide) (by omega)]
theorem CR.addL {D : ZD} {g : Option Nat} {sg : ZSg} {E : ES} (h : CR D g sg E D) {c q : Nat} (hL : nL D < 40) (hc : c < nC D) (hq : q < nP D) : CR (mk3 D (nI c) (nI q)) g sg (E3 E (nL D) (nI c) (nI q)) (mk3 D (nI c) (nI q)) := by
  have hI := h.2.1
  obtain ⟨n1, n2, n3⟩ := mk3_n (c := nI c) (ce := nI q) hI.1 hL
  have hIv : Iv (mk3 D (nI c) (nI q)) := (mk_Iv hI hL hc hq).1.same sm_mk3.symm
  have h10 := hI.1.1.2
  have h20 := hI.1.2.1.2
  obtain ⟨⟨a1, a2, a3, a4, a5, a6, a7⟩, b, c9, d, f⟩ := h
  refine ⟨⟨⟨?_, ?_, ?_, ?_⟩, ⟨?_, ?_, ?_, ?_⟩, fun p i hp hi => ?_, fun p i hp hi => ?_, fun p hp => ?_, fun k i hk hi => ?_, fun i hi => ?_⟩, hIv, sm_rf, d, fun p hp => ?_⟩
  · rw [(E3_o (by decide)).2, mk3_lo (by decide) (by omega)]; exact a1.1
  · rw [(E3_o (by decide)).2, mk3_lo (by decide) (by omega)]; exact a1.2.1
  · rw [mk3_6v, hI.1.2.2.1.1, nI_1]; rfl
  · rw [(E3_o (by decide)).2]; exact a1.2.2.2
  · rw [mk3_lo (by decide) (by omega)]; exact a2.1
  · rw [mk3_lo (by decide) (by omega)]; exact a2.2.1
  · rw [mk3_lo (by decide) (by omega)]; exact a2.2.2.1
  · rw [mk3_lo (by decide) (by omega)]; exact a2.2.2.2
  · rw [n3] at hp
    rw [(E3_o (by decide)).1, show dP (mk3 D (nI c) (nI q)) p i = dP D p i from mk3_lo (by omega) (by omega)]
    exact a3 p i hp hi
  · rw [n2] at hp
    rw [(E3_o (by decide)).1, show dC (mk3 D (nI c) (nI q)) p i = dC D p i from mk3_lo (by omega) (by omega)]
    exact a4 p i hp hi
  · rw [n2] at hp
    rw [(E3_o (by decide)).1, show dC (mk3 D (nI c) (nI q)) p 4 = dC D p 4 from mk3_lo (by omega) (by omega)]
    exact a5 p hp
  · rw [n1] at hk
    by_cases e : k = nL D
    · subst e
      rw [mk3_row hi]
      exact E3_row hi
    · rw [show dL (mk3 D (nI c) (nI q)) k i = dL D k i from mk3_lo (by omega) (by omega), E3_lo (by omega)]
      exact a6 k i (by omega) hi
  · rw [(E3_o (by decide)).1, mk3_lo (by omega) (by omega)]
    exact a7 i hi
  · rw [n2] at hp
    rw [(E3_o (by decide)).1]
    exact f p hp
set_option maxRecDepth 100000 in
set_option maxHeartbeats 4000000 in
theorem ct_J6_bitCount {l : Launch} {Γ : ZG} {w : ZW} {n : Nat} (hn : n < 1024) : Cm l Γ mJ6_bitCount_0f7a4 1 [.int (nI n)] w (some (.int (nI (bN (nI n) 0 10)))) w := by
  rw [← bitC_ok n hn]
  refine Cm.of (by decide) rfl (Nat.le_of_ble_eq_true rfl) ?_
  refine go_iload_n 1 dJ6_bitCount_0f7a4_0 rfl ?_
  refine go_iload_n 2 dJ6_bitCount_0f7a4_1 rfl ?_
  refine go_iconst 3 dJ6_bitCount_0f7a4_2 zc_1 ?_
  refine go_iushr 4 dJ6_bitCount_0f7a4_3 ?_
  refine go_ldcw 7 dJ6_bitCount_0f7a4_4 ciJ6_265 ?_
  refine go_iand 8 dJ6_bitCount_0f7a4_7 ?_
  refine go_isub 9 dJ6_bitCount_0f7a4_8 ?_
  refine go_istore_n 10 dJ6_bitCount_0f7a4_9 (by decide) ?_
  refine go_iload_n 11 dJ6_bitCount_0f7a4_10 rfl ?_
  refine go_ldcw 14 dJ6_bitCount_0f7a4_11 ciJ6_266 ?_
  refine go_iand 15 dJ6_bitCount_0f7a4_14 ?_
  refine go_iload_n 16 dJ6_bitCount_0f7a4_15 rfl ?_
  refine go_iconst 17 dJ6_bitCount_0f7a4_16 zc_2 ?_
  refine go_iushr 18 dJ6_bitCount_0f7a4_17 ?_
  refine go_ldcw 21 dJ6_bitCount_0f7a4_18 ciJ6_266 ?_
  refine go_iand 22 dJ6_bitCount_0f7a4_21 ?_
  refine go_iadd 23 dJ6_bitCount_0f7a4_22 ?_
  refine go_istore_n 24 dJ6_bitCount_0f7a4_23 (by decide) ?_
  refine go_iload_n 25 dJ6_bitCount_0f7a4_24 rfl ?_
  refine go_iload_n 26 dJ6_bitCount_0f7a4_25 rfl ?_
  refine go_iconst 27 dJ6_bitCount_0f7a4_26 zc_4 ?_
  refine go_iushr 28 dJ6_bitCount_0f7a4_27 ?_
  refine go_iadd 29 dJ6_bitCount_0f7a4_28 ?_
  refine go_ldcw 32 dJ6_bitCount_0f7a4_29 ciJ6_267 ?_
  refine go_iand 33 dJ6_bitCount_0f7a4_32 ?_
  refine go_istore_n 34 dJ6_bitCount_0f7a4_33 (by decide) ?_
  refine go_iload_n 35 dJ6_bitCount_0f7a4_34 rfl ?_
  refine go_iload_n 36 dJ6_bitCount_0f7a4_35 rfl ?_
  refine go_bipush 38 dJ6_bitCount_0f7a4_36 zb_8 ?_
  refine go_iushr 39 dJ6_bitCount_0f7a4_38 ?_
  refine go_iadd 40 dJ6_bitCount_0f7a4_39 ?_
  refine go_istore_n 41 dJ6_bitCount_0f7a4_40 (by decide) ?_
  refine go_iload_n 42 dJ6_bitCount_0f7a4_41 rfl ?_
  refine go_iload_n 43 dJ6_bitCount_0f7a4_42 rfl ?_
  refine go_bipush 45 dJ6_bitCount_0f7a4_43 zb_16 ?_
  refine go_iushr 46 dJ6_bitCount_0f7a4_45 ?_
  refine go_iadd 47 dJ6_bitCount_0f7a4_46 ?_
  refine go_istore_n 48 dJ6_bitCount_0f7a4_47 (by decide) ?_
  refine go_iload_n 49 dJ6_bitCount_0f7a4_48 rfl ?_
  refine go_bipush 51 dJ6_bitCount_0f7a4_49 zb_63 ?_
  refine go_iand 52 dJ6_bitCount_0f7a4_51 ?_
  exact go_ireturn dJ6_bitCount_0f7a4_52 rfl (by omega) (by omega) (⟨rfl, rfl⟩)
set_option maxRecDepth 100000 in
set_option maxHeartbeats 4000000 in
theorem cx_X0_addLeg {D : ZD} {g : Option Nat} {sg : ZSg} {E : ES} {l : Launch} {Γ : ZG} {w : ZW} {e : Nat} (h : CR D g sg E D) (hS : StI D) {c q : Nat} (hL : nL D < 40) (hc : c < nC D) (hq : q < nP D) : Ct l Γ mX0_addLeg 4 0 0 [.ref e, .int (nI c), .int (nI q)] (wE Γ w e E) (PvE Γ w e (some (.int (zb (¬ eng D (nI q))))) (fun E' => CR (mkD D (nI c) (nI q)) g sg E' (mkD D (nI c) (nI q)))) zNo := by
  have hR : E.2.1 2 = nI (nL D) := h.1.1.2.2.1.trans h.D6
  refine Ct.of (by decide) rfl (Nat.le_of_ble_eq_true rfl) ?_
  refine go_aload_n 1 dX0_addLeg_0 rfl ?_
  refine go_iload_n 2 dX0_addLeg_1 rfl ?_
  refine gcV1 5 dX0_addLeg_2 vX0_161 wE_at0 rfl (cx_X0_isEngaged h hS) ?_
  refine go_istore_n 6 dX0_addLeg_5 (by decide) ?_
  refine go_aload_n 7 dX0_addLeg_6 rfl ?_
  refine xe_get 10 dX0_addLeg_7 fX0_23 rfl ?_
  refine gcV0 13 dX0_addLeg_10 vX0_39 (wE_tab (t := 2) (by decide)) rfl (ca_L hR hL) ?_
  refine go_istore 15 dX0_addLeg_13 (by decide) ?_
  refine go_aload_n 16 dX0_addLeg_15 rfl ?_
  refine xe_get 19 dX0_addLeg_16 fX0_23 rfl ?_
  refine go_iload 21 dX0_addLeg_19 rfl ?_
  refine go_iconst 22 dX0_addLeg_21 zc_0 ?_
  refine go_iload_n 23 dX0_addLeg_22 rfl ?_
  refine gcV3v 26 dX0_addLeg_23 vX0_57 (wE_tab (t := 2) (by decide)) rfl (cr_L (m := nL D + 1) (r := nL D) (c := 0) rfl (by omega) (by omega) (by decide)) ?_
  refine go_aload_n 27 dX0_addLeg_26 rfl ?_
  refine xe_get 30 dX0_addLeg_27 fX0_23 rfl ?_
  refine go_iload 32 dX0_addLeg_30 rfl ?_
  refine go_iconst 33 dX0_addLeg_32 zc_1 ?_
  refine go_iload_n 34 dX0_addLeg_33 rfl ?_
  refine gcV3v 37 dX0_addLeg_34 vX0_57 (wE_tab (t := 2) (by decide)) rfl (cr_L (m := nL D + 1) (r := nL D) (c := 1) rfl (by omega) (by omega) (by decide)) ?_
  refine go_aload_n 38 dX0_addLeg_37 rfl ?_
  refine xe_get 41 dX0_addLeg_38 fX0_23 rfl ?_
  refine go_iload 43 dX0_addLeg_41 rfl ?_
  refine go_iconst 44 dX0_addLeg_43 zc_2 ?_
  refine go_iconst 45 dX0_addLeg_44 zc_0 ?_
  refine gcV3v 48 dX0_addLeg_45 vX0_57 (wE_tab (t := 2) (by decide)) rfl (cr_L (m := nL D + 1) (r := nL D) (c := 2) rfl (by omega) (by omega) (by decide)) ?_
  have r := h.addL hL hc hq
  change Go l Γ mX0_addLeg 4 0 0 _ zNo 0 0 (wE Γ w e (E3 E (nL D) (nI c) (nI q))) 48 _ []
  refine go_aload_n 49 dX0_addLeg_48 rfl ?_
  refine go_iload 51 dX0_addLeg_49 rfl ?_
  refine gxX1v 54 dX0_addLeg_51 vX0_101 wE_at0 rfl (cx_X0_dropOffers r (k := nL D) rfl (by rw [(mk3_n h.2.1.1 hL).1]; omega)) (fun E51 r51 => ?_)
  refine go_iload_n 55 dX0_addLeg_54 rfl ?_
  refine go_if_eq 65 58 dX0_addLeg_55 (fun h55 => ?_) (fun h55 => ?_)
  · refine go_iload_n 66 dX0_addLeg_65 rfl ?_
    refine go_if_eq 73 69 dX0_addLeg_66 (fun h66 => ?_) (fun h66 => ?_)
    · refine go_iconst 74 dX0_addLeg_73 zc_1 ?_
      exact go_ireturn dX0_addLeg_74 rfl (by omega) (by omega) (⟨by rw [zb_t (zb_0 h55)], _, rfl, by rw [mkD_3, if_neg (zb_0 h55)]; exact r51.base⟩)
    · refine go_iconst 70 dX0_addLeg_69 zc_0 ?_
      refine go_goto 74 dX0_addLeg_70 ?_
      exact go_ireturn dX0_addLeg_74 rfl (by omega) (by omega) (absurd h55 h66)
  · refine go_aload_n 59 dX0_addLeg_58 rfl ?_
    refine go_iload 61 dX0_addLeg_59 rfl ?_
    refine go_iconst 62 dX0_addLeg_61 zc_1 ?_
    refine gxX2v 65 dX0_addLeg_62 vX0_110 wE_at0 rfl (cx_X0_endLeg r51 (k := nL D) rfl (by rw [(mk3_n h.2.1.1 hL).1]; omega)) (fun E62 r62 => ?_)
    refine go_iload_n 66 dX0_addLeg_65 rfl ?_
    refine go_if_eq 73 69 dX0_addLeg_66 (fun h66 => ?_) (fun h66 => ?_)
    · refine go_iconst 74 dX0_addLeg_73 zc_1 ?_
      exact go_ireturn dX0_addLeg_74 rfl (by omega) (by omega) (absurd h66 h55)
    · refine go_iconst 70 dX0_addLeg_69 zc_0 ?_
      refine go_goto 74 dX0_addLeg_70 ?_
      exact go_ireturn dX0_addLeg_74 rfl (by omega) (by omega) (⟨by rw [zb_f (fun q => q (zb_1 h55))], _, rfl, by rw [mkD_3, if_pos (zb_1 h55)]; exact r62.base⟩)
end CAdd
