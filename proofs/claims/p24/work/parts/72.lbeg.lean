section LBeg
/-- the addresses behind a call begun -/
def A2 (A : LA) (D : ZD) (t rw nt nl : Nat) (B : Nat → Nat) : LA := fun i k => if i = 0 ∧ nL D ≤ k then B k else if i = 1 ∧ k = nC D then t else if i = 4 ∧ k = nC D then rw else if i = 8 ∧ k = 1 then nt else if i = 8 ∧ k = 2 then nl else A i k
def V2 (V : LA) (D : ZD) (R : Nat → Nat) : LA := fun i k => if i = 2 ∧ nL D ≤ k then R k else V i k
section
variable {A V : LA} {D : ZD} {t rw nt nl : Nat} {B R : Nat → Nat}
theorem a2_0 {k : Nat} (h : k < nL D) : A2 A D t rw nt nl B 0 k = A 0 k := by unfold A2; simp; omega
theorem a2_0n {k : Nat} (h : nL D ≤ k) : A2 A D t rw nt nl B 0 k = B k := if_pos ⟨rfl, h⟩
theorem a2_1 {k : Nat} (h : k < nC D) : A2 A D t rw nt nl B 1 k = A 1 k := by unfold A2; simp; omega
theorem a2_1n : A2 A D t rw nt nl B 1 (nC D) = t := by unfold A2; simp
theorem a2_3 {k : Nat} : A2 A D t rw nt nl B 3 k = A 3 k := by unfold A2; simp
theorem a2_4 {k : Nat} (h : k < nC D) : A2 A D t rw nt nl B 4 k = A 4 k := by unfold A2; simp; omega
theorem a2_4n : A2 A D t rw nt nl B 4 (nC D) = rw := by unfold A2; simp
theorem a2_80 : A2 A D t rw nt nl B 8 0 = A 8 0 := by unfold A2; simp
theorem a2_81 : A2 A D t rw nt nl B 8 1 = nt := by unfold A2; simp
theorem a2_82 : A2 A D t rw nt nl B 8 2 = nl := by unfold A2; simp
theorem a2_83 : A2 A D t rw nt nl B 8 3 = A 8 3 := by unfold A2; simp
theorem v2_2 {k : Nat} (h : k < nL D) : V2 V D R 2 k = V 2 k := if_neg (by omega)
theorem v2_2n {k : Nat} (h : nL D ≤ k) : V2 V D R 2 k = R k := if_pos ⟨rfl, h⟩
theorem v2_o {i k : Nat} (h : i ≠ 2) : V2 V D R i k = V i k := if_neg (fun q => h q.1)
end
/-- a leg made, not yet held -/
def BL (Γ : ZG) (w0 w : ZW) (T : LT) (t b r : Nat) (D' : ZD) (K : Nat) : Prop := Nc w0 w T b (.inr (7, [.ref t, .int (dL D' K 1), .int (dL D' K 2), .int (dL D' K 3), .int 0, .int 0, .null, .ref r])) (10 + 5 * K) ∧ Nc w0 w T r (q5 Γ 4 2 (fun _ => none)) (12 + 5 * K) ∧ dL D' K 4 = 0 ∧ dL D' K 5 = 0 ∧ dL D' K 6 = -1 ∧ dL D' K 9 = -1 ∧ dL D' K 10 = -1
theorem BL.go {Γ : ZG} {w0 w w1 : ZW} {T T1 : LT} {t b r K : Nat} {D' D'' : ZD} {P : Nat → Prop} (h : BL Γ w0 w T t b r D' K) (k : Kq w T w1 T1 P) (h1 : P (10 + 5 * K)) (h2 : P (12 + 5 * K)) (hD : ∀ j, j < 13 → dL D'' K j = dL D' K j) : BL Γ w0 w1 T1 t b r D'' K := by
  obtain ⟨a1, a2, a3⟩ := h
  refine ⟨?_, a2.go k h2, by rw [hD 4 (by decide), hD 5 (by decide), hD 6 (by decide), hD 9 (by decide), hD 10 (by decide)]; exact a3⟩
  rw [hD 1 (by decide), hD 2 (by decide), hD 3 (by decide)]
  exact a1.go k h1
/-- all that is made for a call: the call, its legs' row, the longer rows -/
def BG (Γ : ZG) (w0 : ZW) (w : ZW) (T : LT) (A : LA) (D : ZD) (N t rw nt nl : Nat) (tf : List Value) (B R : Nat → Nat) (D' : ZD) : Prop :=
  Nc w0 w T t (.inr (10, tf)) (11 + 5 * nC D) ∧ (∃ f, Nc w0 w T rw (q5 Γ 7 N f) 6 ∧ ∀ K, nL D ≤ K → K < nL D' → f (K - nL D) = some (B K)) ∧ (∃ g, Nc w0 w T nl (q5 Γ 7 (nL D + N) g) 7 ∧ (∀ k, k < nL D → g k = some (A 0 k)) ∧ ∀ K, nL D ≤ K → K < nL D' → g K = some (B K)) ∧ (∃ h, Nc w0 w T nt (q5 Γ 8 (nC D + 1) h) 0 ∧ (∀ c, c < nC D → h c = some (A 1 c)) ∧ h (nC D) = some t) ∧ ∀ K, nL D ≤ K → K < nL D' → BL Γ w0 w T t (B K) (R K) D' K
theorem BG.go {Γ : ZG} {w0 w w1 : ZW} {T T1 : LT} {A : LA} {D D' : ZD} {N t rw nt nl : Nat} {tf : List Value} {B R : Nat → Nat} {P : Nat → Prop} (h : BG Γ w0 w T A D N t rw nt nl tf B R D') (k : Kq w T w1 T1 P) (h0 : P 0 ∧ P 6 ∧ P 7 ∧ P (11 + 5 * nC D) ∧ ∀ K, nL D ≤ K → K < nL D' → P (10 + 5 * K) ∧ P (12 + 5 * K)) : BG Γ w0 w1 T1 A D N t rw nt nl tf B R D' := by
  obtain ⟨a1, ⟨f, f1, f2⟩, ⟨g, g1, g2⟩, ⟨h9, e1, e2⟩, a5⟩ := h
  exact ⟨a1.go k h0.2.2.2.1, ⟨f, f1.go k h0.2.1, f2⟩, ⟨g, g1.go k h0.2.2.1, g2⟩, ⟨h9, e1.go k h0.1, e2⟩, fun K h1 h2 => (a5 K h1 h2).go k (h0.2.2.2.2 K h1 h2).1 (h0.2.2.2.2 K h1 h2).2 (fun _ _ => rfl)⟩
def tfB (q : Nat) (D : ZD) (rv : Int32) (r : Option Nat) (rw : Nat) : List Value := [.int (nI q), .int (D 0), .int rv, va_rf r, .null, .ref rw]
theorem ofO_0 {V : LA} {D : ZD} {k : Nat} (h : dL D k 6 = -1) : ofO V D k = none := if_pos h
theorem rpF_0 {V : LA} {D : ZD} {k : Nat} (h1 : dL D k 9 = -1) (h2 : dL D k 10 = -1) : rpF V D k = fun _ => none := by
  funext s
  unfold rpF rpO
  by_cases h : s < 2
  · rw [if_pos h]
    rcases (show s = 0 ∨ s = 1 by omega) with rfl | rfl
    · rw [if_pos h1]
    · rw [if_pos h2]
  · rw [if_neg h]
set_option maxRecDepth 100000 in
set_option maxHeartbeats 4000000 in
/-- held at last -/
theorem bg_lx {Γ : ZG} {w0 w : ZW} {T : LT} {sg : ZSg} {A V : LA} {tm : Option Nat} {e : Nat} {D D' : ZD} {N t rw nt nl q j : Nat} {rv ref : Int32} {B R : Nat → Nat} (h : LX Γ w T 1 sg A V tm e D) (hI : Iv D) (hJ : JX D) (hs : SegD sg D) (hC : nC D < 20) (hr : ref = -1 ∨ (ref = nI (tN ref) ∧ tN ref < nL D)) (hb : GB D (nC D) j D') (hnC : nC D' = nC D + 1) (hnL : nL D' = nL D + N) (od : OD (newC D (nI q) rv ref) D' (nL D)) (bg : BG Γ w0 w T A D N t rw nt nl (tfB q D rv (lgO A ref) rw) B R D') : LX Γ (wset w e (.inr (6, xFs (A2 A D t rw nt nl B) tm D'))) (tset (tset T rw 0) nl 0) 1 (sgN sg D N) (A2 A D t rw nt nl B) (V2 V D R) tm e D' := by
  have w9 := newC_what (p := nI q) (rv := rv) (ref := ref) hC
  have h20 := hI.1.2.1.2
  have h40 := hI.1.2.2.1.2
  have h10 := hI.1.1.2
  have h40' := hb.1.1.2.2.1.2
  have ob := hb.2.2.2.2.2.2.2.2.1
  have nb := hb.2.2.2.2.2.2.2.2.2
  have lo : ∀ i, i ≠ 5 → i ≠ 6 → i < 46 → D' i = D i := fun i a b c => (od _ b (by omega)).trans (w9.1 _ a (by omega))
  have l : ∀ k i, k < nL D → i < 13 → dL D' k i = dL D k i := fun k i hk hi => (od _ (by omega) (by omega)).trans (w9.1 _ (by omega) (by omega))
  have cc : ∀ c i, c < nC D → i < 5 → dC D' c i = dC D c i := fun c i hk hi => (od _ (by omega) (by omega)).trans (w9.1 _ (by omega) (by omega))
  have cn : ∀ i, i < 5 → dC D' (nC D) i = dC (newC D (nI q) rv ref) (nC D) i := fun i hi => od _ (by omega) (by omega)
  have n4 : nP D' = nP D := by unfold nP; rw [lo 4 (by decide) (by decide) (by decide)]
  obtain ⟨t1, ⟨f, f1, f2⟩, ⟨g, g1, g2, g3⟩, ⟨h9, e1, e2, e3⟩, a5⟩ := bg
  obtain ⟨x1, x2⟩ := h.x
  have ne1 : e ≠ rw := fun z => by rw [z] at x2; have := f1.2.1; omega
  have ne2 : e ≠ nl := fun z => by rw [z] at x2; have := g1.2.1; omega
  have kq : Kq w T (wset w e (.inr (6, xFs (A2 A D t rw nt nl B) tm D'))) (tset (tset T rw 0) nl 0) (fun z => z ≠ 14 ∧ z ≠ 6 ∧ z ≠ 7) := fun z c h1 h2 => ⟨(if_neg (fun y => h2.1 (by rw [y]; exact x2))).trans h1, (if_neg (fun y => h2.2.2 (by rw [y]; exact g1.2.1))).trans (if_neg (fun y => h2.2.1 (by rw [y]; exact f1.2.1)))⟩
  have lg0 : ∀ v : Int32, (v = -1 ∨ (v = nI (tN v) ∧ tN v < nL D)) → lgO (A2 A D t rw nt nl B) v = lgO A v := fun v hv => by
    unfold lgO
    rcases hv with rfl | ⟨-, hv⟩
    · rw [if_pos rfl, if_pos rfl]
    · by_cases hz : v = -1
      · rw [if_pos hz, if_pos hz]
      · rw [if_neg hz, if_neg hz, a2_0 hv]
  have hPC : ∀ c, c < nC D' → PC Γ (wset w e (.inr (6, xFs (A2 A D t rw nt nl B) tm D'))) (tset (tset T rw 0) nl 0) 1 (sgN sg D N) (A2 A D t rw nt nl B) D' c := fun c hc => by
    rw [hnC] at hc
    by_cases hcn : c = nC D
    · rw [hcn]
      have t2 := t1.go kq ⟨by omega, by omega, by omega⟩
      refine ⟨?_, by rw [a2_1n, t2.2.1, Nat.one_mul], f, ?_, by rw [a2_4n]; exact (if_neg (fun y => by have := f1.2.1; rw [y, g1.2.1] at this; omega)).trans (if_pos rfl), fun i hi => ?_⟩
      · rw [a2_1n, t2.1]
        have e0 : tFs (A2 A D t rw nt nl B) D' (nC D) = tfB q D rv (lgO A ref) rw := by
          unfold tFs tfB
          rw [cn 0 (by decide), cn 1 (by decide), cn 2 (by decide), cn 3 (by decide), cn 4 (by decide), w9.2.2.1, w9.2.2.2.1, w9.2.2.2.2.1, w9.2.2.2.2.2.1, w9.2.2.2.2.2.2, lg0 ref hr, a2_4n]
          rfl
        rw [e0]
      · rw [a2_4n]
        show (if rw = e then _ else w.2 rw) = _
        rw [if_neg (fun y => ne1 y.symm), f1.1]
        unfold sgN
        rw [if_pos rfl]
        show _ = some (q5 Γ 7 (nL D + N - nL D) f)
        rw [Nat.add_sub_cancel_left]
      · unfold sgN at hi ⊢
        rw [if_pos rfl] at hi ⊢
        have hi' : i < nL D + N - nL D := hi
        have := f2 (nL D + i) (by omega) (by omega)
        rw [Nat.add_sub_cancel_left] at this
        rw [this]
        exact congrArg some (a2_0n (by show nL D ≤ nL D + i; omega)).symm
    · have hc' : c < nC D := by omega
      obtain ⟨c1, c2, f', c3, c4, c5⟩ := h.c hc'
      obtain ⟨k1, k2⟩ := kq _ _ c1 (by rw [c2]; omega)
      obtain ⟨k3, k4⟩ := kq _ _ c3 (by rw [c4]; omega)
      have sgc : sgN sg D N c = sg c := if_neg hcn
      refine ⟨?_, by rw [a2_1 hc']; exact k2.trans c2, f', by rw [a2_4 hc', sgc]; exact k3, by rw [a2_4 hc']; exact k4.trans c4, fun i hi => ?_⟩
      · rw [a2_1 hc', k1]
        have e0 : tFs (A2 A D t rw nt nl B) D' c = tFs A D c := by
          unfold tFs
          rw [cc c 0 hc' (by decide), cc c 1 hc' (by decide), cc c 2 hc' (by decide), cc c 3 hc' (by decide), cc c 4 hc' (by decide), lg0 _ (hI.2.1 c hc'), lg0 _ (hJ.1 c hc'), a2_4 hc']
        rw [e0]
      · rw [sgc] at hi ⊢
        rw [c5 i hi]
        have := (hs c hc').2.1
        have := (hs c hc').1
        rw [a2_0 (by omega)]
  have hPL : ∀ k, k < nL D' → PL Γ (wset w e (.inr (6, xFs (A2 A D t rw nt nl B) tm D'))) (tset (tset T rw 0) nl 0) 1 (A2 A D t rw nt nl B) (V2 V D R) D' k := fun k hk => by
    by_cases hkn : k < nL D
    · obtain ⟨⟨l1, l2⟩, ⟨l3, l4⟩, l5, l6⟩ := h.l hkn
      obtain ⟨k1, k2⟩ := kq _ _ l1 (by rw [l2]; omega)
      obtain ⟨k3, k4⟩ := kq _ _ l3 (by rw [l4]; omega)
      have k0 : Kq w T (wset w e (.inr (6, xFs (A2 A D t rw nt nl B) tm D'))) (tset (tset T rw 0) nl 0) (fun z => z = 0) := kq.mono (fun z hz => by omega)
      refine ⟨⟨?_, by rw [a2_0 hkn]; exact k2.trans l2⟩, ⟨?_, by rw [v2_2 hkn]; exact k4.trans l4⟩, l5.go k0 (fun i hi => l k _ hkn (by omega)) (v2_o (by decide)), fun s hs9 => (l6 s hs9).go k0 ⟨l k _ hkn (by omega), l k _ hkn (by omega)⟩ (v2_o (by omega))⟩
      · rw [a2_0 hkn, k1]
        have e0 : lFs (A2 A D t rw nt nl B) (V2 V D R) D' k = lFs A V D k := by
          unfold lFs
          rw [(ob k hkn).1, a2_1 (ob k hkn).2, l k 1 hkn (by decide), l k 2 hkn (by decide), l k 3 hkn (by decide), l k 4 hkn (by decide), l k 5 hkn (by decide), ofO_c (l k 6 hkn (by decide)) (v2_o (by decide)), v2_2 hkn]
        rw [e0]
      · rw [v2_2 hkn, k3, rpF_c (fun s hs9 => l k _ hkn (by omega)) (fun s hs9 => v2_o (by omega))]
    · have hkn' : nL D ≤ k := by omega
      obtain ⟨b1, b2, d4, d5, d6, d9, d10⟩ := a5 k hkn' hk
      have c1 := b1.go kq ⟨by omega, by omega, by omega⟩
      have c2 := b2.go kq ⟨by omega, by omega, by omega⟩
      refine ⟨⟨?_, by rw [a2_0n hkn', c1.2.1, Nat.one_mul]⟩, ⟨?_, by rw [v2_2n hkn', c2.2.1, Nat.one_mul]⟩, fun z => absurd d6 z, fun s hs9 => ?_⟩
      · rw [a2_0n hkn', c1.1]
        have e0 : lFs (A2 A D t rw nt nl B) (V2 V D R) D' k = [.ref t, .int (dL D' k 1), .int (dL D' k 2), .int (dL D' k 3), .int 0, .int 0, .null, .ref (R k)] := by
          unfold lFs
          rw [(nb k hkn' hk).1, a2_1n, d4, d5, ofO_0 d6, v2_2n hkn']
          rfl
        rw [e0]
      · rw [v2_2n hkn', c2.1, rpF_0 d9 d10]
      · rcases (show s = 0 ∨ s = 1 by omega) with rfl | rfl
        · exact fun z => absurd d9 z
        · exact fun z => absurd d10 z
  refine ⟨⟨if_pos rfl, (if_neg ne2).trans ((if_neg ne1).trans x2)⟩, h.p.go (kq.mono fun z hz => ?_) n4 (fun p i hp hi => lo _ (by omega) (by omega) (by omega)) a2_80 (fun _ => a2_3), ⟨⟨h9, ?_, ?_, fun c hc => ?_⟩, g, ?_, ?_, fun k hk => ?_⟩, h.t.go (kq.mono fun z hz => by omega) (fun i hi => lo _ (by omega) (by omega) (by omega)) a2_83, hPC, hPL, fun k k' hk hk' hh => ?_, fun c c' hc hc' hh => ?_⟩
  · rcases hz with hz | ⟨p, hz⟩ <;> omega
  · rw [a2_81, hnC]; exact (e1.go kq ⟨by omega, by omega, by omega⟩).1
  · rw [a2_81]; exact (e1.go kq ⟨by omega, by omega, by omega⟩).2.1
  · rw [hnC] at hc
    by_cases hcn : c = nC D
    · rw [hcn, a2_1n]; exact e3
    · rw [a2_1 (by omega)]; exact e2 c (by omega)
  · rw [a2_82, hnL]
    exact (if_neg (fun y => ne2 y.symm)).trans g1.1
  · rw [a2_82]; exact if_pos rfl
  · by_cases hkn : k < nL D
    · rw [a2_0 hkn]; exact g2 k hkn
    · rw [a2_0n (by omega)]; exact g3 k (by omega) hk
  · have := (hPL k hk).1.2
    have := (hPL k' hk').1.2
    rw [hh] at *
    omega
  · have := (hPC c hc).2.1
    have := (hPC c' hc').2.1
    rw [hh] at *
    omega

end LBeg
