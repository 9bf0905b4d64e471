section MPrs
theorem mf_mf (S : MS) (j : Nat) (a b : Int32) : mf (mf S j a) j b = mf S j b := by
  refine Prod.ext (funext fun i => ?_) rfl
  show (if i = j then b else if i = j then a else S.1 i) = if i = j then b else S.1 i
  by_cases h : i = j
  · rw [if_pos h, if_pos h]
  · rw [if_neg h, if_neg h, if_neg h]
theorem mf_self {S : MS} {j : Nat} {v : Int32} (h : S.1 j = v) : mf S j v = S := by
  refine Prod.ext (funext fun i => ?_) rfl
  show (if i = j then v else S.1 i) = S.1 i
  by_cases hi : i = j
  · rw [if_pos hi, hi, h]
  · rw [if_neg hi]
theorem byte_dig {x : Int32} (h : 48 ≤ x ∧ x ≤ 57) : ∃ d, d ≤ 9 ∧ x = nI (48 + d) ∧ (x - 48).toNatClampNeg = d := by
  have h1 : (48 : Int) ≤ x.toInt := Int32.le_iff_toInt_le.mp h.1
  have h2 : x.toInt ≤ 57 := Int32.le_iff_toInt_le.mp h.2
  obtain ⟨d, hd⟩ : ∃ d : Nat, x.toInt = ((48 + d : Nat) : Int) := ⟨x.toInt.toNat - 48, by omega⟩
  have hd9 : d ≤ 9 := by omega
  have e : x = nI (48 + d) := by
    apply Int32.toInt_inj.mp
    rw [hd]
    exact (Int32.toInt_ofNat_of_lt (by omega)).symm
  have e2 : x - 48 = nI d := by
    rw [e, Nat.add_comm 48 d, ← nI_add]
    exact Int32.add_sub_cancel _ _
  exact ⟨d, hd9, e, by rw [e2, nI_clamp (by omega)]⟩
/-- the saturated value -/
def vC (cap : Nat) (B : ZB) : Nat → Nat → Nat → Nat
  | 0, _, v => v
  | f + 1, p, v => if isD B p = true then vC cap B f (p + 1) (min cap (10 * v + (B p - 48).toNatClampNeg)) else v
theorem vC_eq {cap : Nat} {B : ZB} : ∀ (f p v : Nat), vC cap B f p (min cap v) = min cap (vN B f p v)
  | 0, _, _ => rfl
  | f + 1, p, v => by
    unfold vC vN
    by_cases h : isD B p = true
    · rw [if_pos h, if_pos h, show min cap (10 * min cap v + (B p - 48).toNatClampNeg) = min cap (10 * v + (B p - 48).toNatClampNeg) by omega]
      exact vC_eq f (p + 1) _
    · rw [if_neg h, if_neg h]

set_option maxRecDepth 100000 in
set_option maxHeartbeats 4000000 in
theorem ct_X6_byteAt {l : Launch} {Γ : ZG} {w : ZW} {o : Nat} {S : MS} {D : ZD} {B : ZB} {n k : Nat} {x : Int32} (hn : S.1 3 = nI n) (hB : bt (S.2.1 0) n = B) (hT : TB B n) (hx : x = nI k) (hk : k < 5000) : Cm l Γ mX6_byteAt 1 [.ref o, .int x] (wD Γ w o S D) (some (.int (B k))) (wD Γ w o S D) := by
  have hn6 := hT.1
  refine Cm.of (by decide) rfl (Nat.le_of_ble_eq_true rfl) ?_
  refine go_iload_n 1 dX6_byteAt_0 rfl ?_
  refine go_aload_n 2 dX6_byteAt_1 rfl ?_
  refine gd_get 5 dX6_byteAt_2 fX6_45 rfl ?_
  refine go_icmp_ge 17 8 dX6_byteAt_5 (fun h5 => ?_) (fun h5 => ?_)
  · have h9 : ¬ k < n := fun q => nI_ge q (by omega) (by rw [hx, hn] at h5; exact h5)
    refine go_iconst 18 dX6_byteAt_17 zc_m1 ?_
    exact go_ireturn dX6_byteAt_18 rfl (by omega) (by omega) (⟨by rw [← hB]; unfold bt; first | rw [if_pos h9] | rw [if_neg h9], rfl⟩)
  · have h9 : k < n := Classical.byContradiction fun q => h5 (by rw [hx, hn]; exact nI_le (by omega) (by omega))
    refine go_aload_n 9 dX6_byteAt_8 rfl ?_
    refine gd_get 12 dX6_byteAt_9 fX6_9 rfl ?_
    refine go_iload_n 13 dX6_byteAt_12 rfl ?_
    refine gd_ialdx (x := 1) (a := 0) 14 (k) dX6_byteAt_13 rfl hx (by show k < 600; omega) (by decide) ?_
    refine go_goto 18 dX6_byteAt_14 ?_
    exact go_ireturn dX6_byteAt_18 rfl (by omega) (by omega) (⟨by rw [← hB]; unfold bt; first | rw [if_pos h9] | rw [if_neg h9], rfl⟩)

set_option maxRecDepth 100000 in
set_option maxHeartbeats 4000000 in
theorem lp_X6_next {l : Launch} {Γ : ZG} {w : ZW} {o : Nat} {S : MS} {D : ZD} {B : ZB} {n : Nat} (hn : S.1 3 = nI n) (hB : bt (S.2.1 0) n = B) (hT : TB B n) : ∀ (f p : Nat), p + f = 601 → p ≤ n → Go l Γ mX6_next 2 0 0 (fun v w2 => v = some (.int (B (runW (isSp B) f p))) ∧ w2 = wD Γ w o (mf S 4 (nI (runW (isSp B) f p))) D) zNo 0 0 (wD Γ w o (mf S 4 (nI p)) D) 0 [(0, .ref o)] [] := by
  have hn6 := hT.1
  intro f
  induction f with
  | zero =>
    intro p h1 h2
    omega
  | succ f ih =>
    intro p h1 h2
    refine go_aload_n 1 dX6_next_0 rfl ?_
    refine go_aload_n 2 dX6_next_1 rfl ?_
    refine gd_get 5 dX6_next_2 fX6_48 rfl ?_
    refine gdV1 8 dX6_next_5 vX6_51 (ct_X6_byteAt (k := p) hn hB hT rfl (by omega)) ?_
    refine go_bipush 10 dX6_next_8 zb_32 ?_
    refine go_icmp_ne 26 13 dX6_next_10 (fun h10 => ?_) (fun h10 => ?_)
    · rw [runW_f (f := f + 1) (show isSp B p = false from decide_eq_false h10)]
      refine go_aload_n 27 dX6_next_26 rfl ?_
      refine go_aload_n 28 dX6_next_27 rfl ?_
      refine gd_get 31 dX6_next_28 fX6_48 rfl ?_
      refine gdV1 34 dX6_next_31 vX6_51 (ct_X6_byteAt (k := p) hn hB hT rfl (by omega)) ?_
      exact go_ireturn dX6_next_34 rfl (by omega) (by omega) (⟨rfl, rfl⟩)
    · have hlt := lt_of_B hT (p := p) (by rw [(by first | exact h10 | exact Classical.not_not.mp h10 : B p = 32)]; decide)
      refine go_aload_n 14 dX6_next_13 rfl ?_
      refine go_dup 15 dX6_next_14 rfl ?_
      refine gd_get 18 dX6_next_15 fX6_48 rfl ?_
      refine go_iconst 19 dX6_next_18 zc_1 ?_
      refine go_iadd 20 dX6_next_19 ?_
      refine gd_put 23 dX6_next_20 pX6_48 rfl (by decide) ?_
      refine go_goto 0 dX6_next_23 ?_
      rw [mf_mf, show (mf S 4 (nI p)).1 4 + 1 = nI (p + 1) from nI_1 p, runW_t (show isSp B p = true from decide_eq_true (by first | exact h10 | exact Classical.not_not.mp h10))]
      exact go_locals _ rfl (ih (p + 1) (by omega) (by omega))

set_option maxRecDepth 100000 in
set_option maxHeartbeats 4000000 in
theorem ct_X6_next {l : Launch} {Γ : ZG} {w : ZW} {o : Nat} {S : MS} {D : ZD} {B : ZB} {n : Nat} (hn : S.1 3 = nI n) (hB : bt (S.2.1 0) n = B) (hT : TB B n) {p : Nat} (hp : S.1 4 = nI p) (hpn : p ≤ n) : Cm l Γ mX6_next 2 [.ref o] (wD Γ w o S D) (some (.int (B (sp B p)))) (wD Γ w o (mf S 4 (nI (sp B p))) D) := by
  have hn6 := hT.1
  refine Cm.of (by decide) rfl (Nat.le_of_ble_eq_true rfl) ?_
  have q := lp_X6_next (l := l) (Γ := Γ) (w := w) (o := o) (S := S) (D := D) hn hB hT (601 - p) p (by omega) hpn
  rw [mf_self hp] at q
  exact go_locals _ rfl q

set_option maxRecDepth 100000 in
set_option maxHeartbeats 4000000 in
theorem ct_X6_isGood_y {l : Launch} {Γ : ZG} {w : ZW} {o : Nat} {S : MS} {D : ZD} (h : S.1 5 = 0) : Cm l Γ mX6_isGood 1 [.ref o] (wD Γ w o S D) (some (.int 1)) (wD Γ w o S D) := by
  refine Cm.of (by decide) rfl (Nat.le_of_ble_eq_true rfl) ?_
  refine go_aload_n 1 dX6_isGood_0 rfl ?_
  refine gd_get 4 dX6_isGood_1 fX6_55 rfl ?_
  refine go_if_ne 11 7 dX6_isGood_4 (fun h4 => ?_) (fun h4 => ?_)
  · exact absurd h h4
  · refine go_iconst 8 dX6_isGood_7 zc_1 ?_
    refine go_goto 12 dX6_isGood_8 ?_
    exact go_zreturn dX6_isGood_12 rfl (by omega) (by omega) (Or.inr rfl) (⟨rfl, rfl⟩)

set_option maxRecDepth 100000 in
set_option maxHeartbeats 4000000 in
theorem ct_X6_isGood_n {l : Launch} {Γ : ZG} {w : ZW} {o : Nat} {S : MS} {D : ZD} (h : ¬ S.1 5 = 0) : Cm l Γ mX6_isGood 1 [.ref o] (wD Γ w o S D) (some (.int 0)) (wD Γ w o S D) := by
  refine Cm.of (by decide) rfl (Nat.le_of_ble_eq_true rfl) ?_
  refine go_aload_n 1 dX6_isGood_0 rfl ?_
  refine gd_get 4 dX6_isGood_1 fX6_55 rfl ?_
  refine go_if_ne 11 7 dX6_isGood_4 (fun h4 => ?_) (fun h4 => ?_)
  · refine go_iconst 12 dX6_isGood_11 zc_0 ?_
    exact go_zreturn dX6_isGood_12 rfl (by omega) (by omega) (Or.inl rfl) (⟨rfl, rfl⟩)
  · exact absurd (by first | exact h4 | exact Classical.not_not.mp h4) h

set_option maxRecDepth 100000 in
set_option maxHeartbeats 4000000 in
theorem ct_X6_report_n {l : Launch} {Γ : ZG} {w : ZW} {o : Nat} {S : MS} {D : ZD} {x y : Int32} (h : S.1 5 = 0) : Cm l Γ mX6_report 1 [.ref o, .int x, .int y] (wD Γ w o S D) (none) (wD Γ w o (mf (mf S 5 x) 6 y) D) := by
  refine Cm.of (by decide) rfl (Nat.le_of_ble_eq_true rfl) ?_
  refine go_aload_n 1 dX6_report_0 rfl ?_
  refine gd_get 4 dX6_report_1 fX6_55 rfl ?_
  refine go_if_eq 8 7 dX6_report_4 (fun h4 => ?_) (fun h4 => ?_)
  · refine go_aload_n 9 dX6_report_8 rfl ?_
    refine go_iload_n 10 dX6_report_9 rfl ?_
    refine gd_put 13 dX6_report_10 pX6_55 rfl (by decide) ?_
    refine go_aload_n 14 dX6_report_13 rfl ?_
    refine go_iload_n 15 dX6_report_14 rfl ?_
    refine gd_put 18 dX6_report_15 pX6_58 rfl (by decide) ?_
    exact go_return dX6_report_18 rfl (by omega) (by omega) (⟨rfl, rfl⟩)
  · exact absurd h h4

set_option maxRecDepth 100000 in
set_option maxHeartbeats 4000000 in
theorem ct_X6_report_y {l : Launch} {Γ : ZG} {w : ZW} {o : Nat} {S : MS} {D : ZD} {x y : Int32} (h : ¬ S.1 5 = 0) : Cm l Γ mX6_report 1 [.ref o, .int x, .int y] (wD Γ w o S D) (none) (wD Γ w o S D) := by
  refine Cm.of (by decide) rfl (Nat.le_of_ble_eq_true rfl) ?_
  refine go_aload_n 1 dX6_report_0 rfl ?_
  refine gd_get 4 dX6_report_1 fX6_55 rfl ?_
  refine go_if_eq 8 7 dX6_report_4 (fun h4 => ?_) (fun h4 => ?_)
  · exact absurd h4 h
  · exact go_return dX6_report_7 rfl (by omega) (by omega) (⟨rfl, rfl⟩)

set_option maxRecDepth 100000 in
set_option maxHeartbeats 4000000 in
theorem ct_X6_isDigit {l : Launch} {Γ : ZG} {w : ZW} {x : Int32} : Cm l Γ mX6_isDigit 2 [.int x] (w) (some (.int (zb (48 ≤ x ∧ x ≤ 57)))) (w) := by
  refine Cm.of (by decide) rfl (Nat.le_of_ble_eq_true rfl) ?_
  refine go_iload_n 1 dX6_isDigit_0 rfl ?_
  refine go_bipush 3 dX6_isDigit_1 zb_48 ?_
  refine go_bipush 5 dX6_isDigit_3 zb_57 ?_
  refine gcS3 8 dX6_isDigit_5 vX6_61 (ct_X6_in) ?_
  exact go_zreturn dX6_isDigit_8 rfl (by omega) (by omega) (zb_01 _) (⟨rfl, rfl⟩)

set_option maxRecDepth 100000 in
set_option maxHeartbeats 4000000 in
theorem ct_X6_emit_n {l : Launch} {Γ : ZG} {w : ZW} {o : Nat} {S : MS} {D : ZD} {x : Int32} (h5 : ¬ S.1 5 = 0) : Cm l Γ mX6_emit 2 [.ref o, .int x] (wD Γ w o S D) (none) (wD Γ w o S D) := by
  refine Cm.of (by decide) rfl (Nat.le_of_ble_eq_true rfl) ?_
  refine go_aload_n 1 dX6_emit_0 rfl ?_
  refine gdV0 4 dX6_emit_1 vX6_65 (ct_X6_isGood_n h5) ?_
  refine go_if_ne 8 7 dX6_emit_4 (fun h4 => ?_) (fun h4 => ?_)
  · exact absurd h4 (by decide)
  · exact go_return dX6_emit_7 rfl (by omega) (by omega) (⟨rfl, rfl⟩)

set_option maxRecDepth 100000 in
set_option maxHeartbeats 4000000 in
theorem ct_X6_emit {l : Launch} {Γ : ZG} {w : ZW} {o : Nat} {S : MS} {D : ZD} {x : Int32} {k : Nat} (h5 : S.1 5 = 0) (hk : S.2.1 2 8 = nI k) (hk2 : k < 1000) : Cm l Γ mX6_emit 2 [.ref o, .int x] (wD Γ w o S D) (none) (wD Γ w o (ma S 2 (upd (upd (S.2.1 2) (666 + k) x) 8 (nI (k + 1)))) D) := by
  refine Cm.of (by decide) rfl (Nat.le_of_ble_eq_true rfl) ?_
  refine go_aload_n 1 dX6_emit_0 rfl ?_
  refine gdV0 4 dX6_emit_1 vX6_65 (ct_X6_isGood_y h5) ?_
  refine go_if_ne 8 7 dX6_emit_4 (fun h4 => ?_) (fun h4 => ?_)
  · refine go_aload_n 9 dX6_emit_8 rfl ?_
    refine gd_get 12 dX6_emit_9 fX6_20 rfl ?_
    refine go_sipush 15 dX6_emit_12 zs_666 ?_
    refine go_aload_n 16 dX6_emit_15 rfl ?_
    refine gd_get 19 dX6_emit_16 fX6_20 rfl ?_
    refine go_bipush 21 dX6_emit_19 zb_8 ?_
    refine gd_ialdx (x := 3) (a := 2) 22 (8) dX6_emit_21 rfl rfl (by decide) (by decide) ?_
    refine go_iadd 23 dX6_emit_22 ?_
    refine go_iload_n 24 dX6_emit_23 rfl ?_
    refine gd_iastx (x := 3) (a := 2) 25 (666 + k) dX6_emit_24 rfl (by decide) (by rw [hk]; exact ix2 666 k _ rfl) (by show 666 + k < 1666; omega) (by decide) ?_
    refine go_aload_n 26 dX6_emit_25 rfl ?_
    refine gd_get 29 dX6_emit_26 fX6_20 rfl ?_
    refine go_bipush 31 dX6_emit_29 zb_8 ?_
    refine go_dup2 32 dX6_emit_31 rfl rfl ?_
    refine gd_ialdx (x := 3) (a := 2) 33 (8) dX6_emit_32 rfl rfl (by decide) (by decide) ?_
    refine go_iconst 34 dX6_emit_33 zc_1 ?_
    refine go_iadd 35 dX6_emit_34 ?_
    refine gd_iastx (x := 3) (a := 2) 36 (8) dX6_emit_35 rfl (by decide) rfl (by decide) (by decide) ?_
    exact go_return dX6_emit_36 rfl (by omega) (by omega) (⟨rfl, by
          show wD Γ w o (ma (ma S 2 (upd (S.2.1 2) (666 + k) x)) 2 (upd (upd (S.2.1 2) (666 + k) x) 8 (upd (S.2.1 2) (666 + k) x 8 + 1))) D = _
          rw [ma_ma, show upd (S.2.1 2) (666 + k) x 8 = nI k from (if_neg (by omega)).trans hk, nI_1]⟩)
  · exact absurd h4 (by decide)

set_option maxRecDepth 100000 in
set_option maxHeartbeats 4000000 in
theorem ct_X6_expect_b {l : Launch} {Γ : ZG} {w : ZW} {o : Nat} {S : MS} {D : ZD} {x : Int32} (h5 : ¬ S.1 5 = 0) : Cm l Γ mX6_expect 3 [.ref o, .int x] (wD Γ w o S D) (none) (wD Γ w o S D) := by
  refine Cm.of (by decide) rfl (Nat.le_of_ble_eq_true rfl) ?_
  refine go_aload_n 1 dX6_expect_0 rfl ?_
  refine gdV0 4 dX6_expect_1 vX6_65 (ct_X6_isGood_n h5) ?_
  refine go_if_ne 8 7 dX6_expect_4 (fun h4 => ?_) (fun h4 => ?_)
  · exact absurd h4 (by decide)
  · exact go_return dX6_expect_7 rfl (by omega) (by omega) (⟨rfl, rfl⟩)

set_option maxRecDepth 100000 in
set_option maxHeartbeats 4000000 in
theorem ct_X6_expect_y {l : Launch} {Γ : ZG} {w : ZW} {o : Nat} {S : MS} {D : ZD} {x : Int32} (h5 : S.1 5 = 0) {B : ZB} {n : Nat} (hn : S.1 3 = nI n) (hB : bt (S.2.1 0) n = B) (hT : TB B n) {p : Nat} (hp : S.1 4 = nI p) (hpn : p ≤ n) (hc : B (sp B p) = x) : Cm l Γ mX6_expect 3 [.ref o, .int x] (wD Γ w o S D) (none) (wD Γ w o (mf S 4 (nI (sp B p + 1))) D) := by
  refine Cm.of (by decide) rfl (Nat.le_of_ble_eq_true rfl) ?_
  refine go_aload_n 1 dX6_expect_0 rfl ?_
  refine gdV0 4 dX6_expect_1 vX6_65 (ct_X6_isGood_y h5) ?_
  refine go_if_ne 8 7 dX6_expect_4 (fun h4 => ?_) (fun h4 => ?_)
  · refine go_aload_n 9 dX6_expect_8 rfl ?_
    refine gdV0 12 dX6_expect_9 vX6_69 (ct_X6_next hn hB hT hp hpn) ?_
    refine go_iload_n 13 dX6_expect_12 rfl ?_
    refine go_icmp_ne 29 16 dX6_expect_13 (fun h13 => ?_) (fun h13 => ?_)
    · exact absurd hc h13
    · refine go_aload_n 17 dX6_expect_16 rfl ?_
      refine go_dup 18 dX6_expect_17 rfl ?_
      refine gd_get 21 dX6_expect_18 fX6_48 rfl ?_
      refine go_iconst 22 dX6_expect_21 zc_1 ?_
      refine go_iadd 23 dX6_expect_22 ?_
      refine gd_put 26 dX6_expect_23 pX6_48 rfl (by decide) ?_
      refine go_goto 39 dX6_expect_26 ?_
      exact go_return dX6_expect_39 rfl (by omega) (by omega) (⟨rfl, by rw [mf_mf]; show wD Γ w o (mf S 4 (nI (sp B p) + 1)) D = _; rw [nI_1]⟩)
  · exact absurd h4 (by decide)

set_option maxRecDepth 100000 in
set_option maxHeartbeats 4000000 in
theorem ct_X6_expect_n {l : Launch} {Γ : ZG} {w : ZW} {o : Nat} {S : MS} {D : ZD} {x : Int32} (h5 : S.1 5 = 0) {B : ZB} {n : Nat} (hn : S.1 3 = nI n) (hB : bt (S.2.1 0) n = B) (hT : TB B n) {p : Nat} (hp : S.1 4 = nI p) (hpn : p ≤ n) (hc : ¬ B (sp B p) = x) : Cm l Γ mX6_expect 3 [.ref o, .int x] (wD Γ w o S D) (none) (wD Γ w o (mf (mf (mf S 4 (nI (sp B p))) 5 (-2)) 6 (nI (sp B p))) D) := by
  refine Cm.of (by decide) rfl (Nat.le_of_ble_eq_true rfl) ?_
  refine go_aload_n 1 dX6_expect_0 rfl ?_
  refine gdV0 4 dX6_expect_1 vX6_65 (ct_X6_isGood_y h5) ?_
  refine go_if_ne 8 7 dX6_expect_4 (fun h4 => ?_) (fun h4 => ?_)
  · refine go_aload_n 9 dX6_expect_8 rfl ?_
    refine gdV0 12 dX6_expect_9 vX6_69 (ct_X6_next hn hB hT hp hpn) ?_
    refine go_iload_n 13 dX6_expect_12 rfl ?_
    refine go_icmp_ne 29 16 dX6_expect_13 (fun h13 => ?_) (fun h13 => ?_)
    · refine go_aload_n 30 dX6_expect_29 rfl ?_
      refine go_bipush 32 dX6_expect_30 zb_m2 ?_
      refine go_aload_n 33 dX6_expect_32 rfl ?_
      refine gd_get 36 dX6_expect_33 fX6_48 rfl ?_
      refine gdV2v 39 dX6_expect_36 vX6_82 (ct_X6_report_n h5) ?_
      exact go_return dX6_expect_39 rfl (by omega) (by omega) (⟨rfl, rfl⟩)
    · exact absurd (by first | exact h13 | exact Classical.not_not.mp h13) hc
  · exact absurd h4 (by decide)

set_option maxRecDepth 100000 in
set_option maxHeartbeats 4000000 in
theorem ct_X6_takeWord_b {l : Launch} {Γ : ZG} {w : ZW} {o : Nat} {S : MS} {D : ZD} {q : String × Nat × String} (hq : q ∈ zStr) (h5 : ¬ S.1 5 = 0) : Cm l Γ mX6_takeWord 7 [.ref o, .ref (Γ.2.2.2.1 q.1 q.2.1)] (wD Γ w o S D) (some (.int 0)) (wD Γ w o S D) := by
  refine Cm.of (by decide) rfl (Nat.le_of_ble_eq_true rfl) ?_
  refine go_aload_n 1 dX6_takeWord_0 rfl ?_
  refine gdV0 4 dX6_takeWord_1 vX6_65 (ct_X6_isGood_n h5) ?_
  refine go_if_ne 9 7 dX6_takeWord_4 (fun h4 => ?_) (fun h4 => ?_)
  · exact absurd h4 (by decide)
  · refine go_iconst 8 dX6_takeWord_7 zc_0 ?_
    exact go_zreturn dX6_takeWord_8 rfl (by omega) (by omega) (Or.inl rfl) (⟨rfl, rfl⟩)

set_option maxRecDepth 100000 in
set_option maxHeartbeats 4000000 in
theorem lp_X6_takeWord {l : Launch} {Γ : ZG} {w : ZW} {o : Nat} {S : MS} {D : ZD} {B : ZB} {n : Nat} (hn : S.1 3 = nI n) (hB : bt (S.2.1 0) n = B) (hT : TB B n) {q : String × Nat × String} (hq : q ∈ zStr) {a : Nat} (hpa : S.1 4 = nI a) (ha : a ≤ n) {r : Int32} {S9 : MS} (hy : wd B q.2.2 a → r = 1 ∧ S9 = mf S 4 (nI (a + q.2.2.length))) (hw : ¬ wd B q.2.2 a → r = 0 ∧ S9 = S) : ∀ (f k : Nat), k + f = q.2.2.length → (∀ i, i < k → B (a + i) = zch q.2.2 i) → Go l Γ mX6_takeWord 7 0 0 (fun v w2 => v = some (.int r) ∧ w2 = wD Γ w o (S9) D) zNo 0 0 (wD Γ w o S D) 16 [(0, .ref o), (1, .ref (Γ.2.2.2.1 q.1 q.2.1)), (2, .int (nI k))] [] := by
  have hn6 := hT.1
  have hlen := zStr_len q hq
  intro f
  induction f with
  | zero =>
    intro k hif hm
    refine go_iload_n 17 dX6_takeWord_16 rfl ?_
    refine go_aload_n 18 dX6_takeWord_17 rfl ?_
    refine gcVS0 21 dX6_takeWord_18 vX6_73 hq (ct_J0_length hq) ?_
    refine go_icmp_ge 48 24 dX6_takeWord_21 (fun h21 => ?_) (fun h21 => ?_)
    · refine go_iload_n 49 dX6_takeWord_48 rfl ?_
      refine go_aload_n 50 dX6_takeWord_49 rfl ?_
      refine gcVS0 53 dX6_takeWord_50 vX6_73 hq (ct_J0_length hq) ?_
      refine go_icmp_lt 76 56 dX6_takeWord_53 (fun h53 => ?_) (fun h53 => ?_)
      · exact (Int32.lt_irrefl (by have z := h53; rw [show k = q.2.2.length by omega] at z; exact z)).elim
      · refine go_aload_n 57 dX6_takeWord_56 rfl ?_
        refine go_aload_n 58 dX6_takeWord_57 rfl ?_
        refine gd_get 61 dX6_takeWord_58 fX6_48 rfl ?_
        refine go_iload_n 62 dX6_takeWord_61 rfl ?_
        refine go_iadd 63 dX6_takeWord_62 ?_
        refine gdV1 66 dX6_takeWord_63 vX6_51 (ct_X6_byteAt (k := a + k) hn hB hT (by first | exact ix2 a k _ rfl | (rw [hpa, nI_add])) (by omega)) ?_
        refine go_bipush 68 dX6_takeWord_66 zb_97 ?_
        refine go_bipush 70 dX6_takeWord_68 zb_122 ?_
        refine gcS3 73 dX6_takeWord_70 vX6_61 (ct_X6_in) ?_
        refine go_if_eq 78 76 dX6_takeWord_73 (fun h73 => ?_) (fun h73 => ?_)
        · have hl9 : isL B (a + k) = false := decide_eq_false (zb_0 (by first | exact h73 | exact Classical.not_not.mp h73))
          obtain ⟨rfl, rfl⟩ := hy ⟨fun i hi => hm i (by omega), by rw [show a + q.2.2.length = a + k by omega]; exact hl9⟩
          refine go_aload_n 79 dX6_takeWord_78 rfl ?_
          refine go_dup 80 dX6_takeWord_79 rfl ?_
          refine gd_get 83 dX6_takeWord_80 fX6_48 rfl ?_
          refine go_iload_n 84 dX6_takeWord_83 rfl ?_
          refine go_iadd 85 dX6_takeWord_84 ?_
          refine gd_put 88 dX6_takeWord_85 pX6_48 rfl (by decide) ?_
          refine go_iconst 89 dX6_takeWord_88 zc_1 ?_
          exact go_zreturn dX6_takeWord_89 rfl (by omega) (by omega) (Or.inr rfl) (⟨rfl, by rw [show S.1 4 + nI k = nI (a + q.2.2.length) by rw [hpa, nI_add, show k = q.2.2.length by omega]]⟩)
        · have hl9 : isL B (a + k) = true := decide_eq_true (zb_1 (by first | exact h73 | exact fun z => h73 z))
          obtain ⟨rfl, rfl⟩ := hw (fun z => by have z2 := z.2; rw [show a + q.2.2.length = a + k by omega, hl9] at z2; cases z2)
          refine go_iconst 77 dX6_takeWord_76 zc_0 ?_
          exact go_zreturn dX6_takeWord_77 rfl (by omega) (by omega) (Or.inl rfl) (⟨rfl, rfl⟩)
    · exact (lpE (a := nI q.2.2.length) (N := q.2.2.length) rfl (by omega) h21).elim
  | succ f ih =>
    intro k hif hm
    refine go_iload_n 17 dX6_takeWord_16 rfl ?_
    refine go_aload_n 18 dX6_takeWord_17 rfl ?_
    refine gcVS0 21 dX6_takeWord_18 vX6_73 hq (ct_J0_length hq) ?_
    refine go_icmp_ge 48 24 dX6_takeWord_21 (fun h21 => ?_) (fun h21 => ?_)
    · exact (lpG (a := nI q.2.2.length) (N := q.2.2.length) rfl (by omega) (by omega) h21).elim
    · refine go_aload_n 25 dX6_takeWord_24 rfl ?_
      refine go_aload_n 26 dX6_takeWord_25 rfl ?_
      refine gd_get 29 dX6_takeWord_26 fX6_48 rfl ?_
      refine go_iload_n 30 dX6_takeWord_29 rfl ?_
      refine go_iadd 31 dX6_takeWord_30 ?_
      refine gdV1 34 dX6_takeWord_31 vX6_51 (ct_X6_byteAt (k := a + k) hn hB hT (by first | exact ix2 a k _ rfl | (rw [hpa, nI_add])) (by omega)) ?_
      refine go_aload_n 35 dX6_takeWord_34 rfl ?_
      refine go_iload_n 36 dX6_takeWord_35 rfl ?_
      refine gcVS1 39 dX6_takeWord_36 vX6_78 hq (ct_J0_charAt hq (i := k) (by omega)) ?_
      refine go_icmp_ne 48 42 dX6_takeWord_39 (fun h39 => ?_) (fun h39 => ?_)
      · obtain ⟨rfl, rfl⟩ := hw (fun z => h39 (z.1 k (by omega)))
        refine go_iload_n 49 dX6_takeWord_48 rfl ?_
        refine go_aload_n 50 dX6_takeWord_49 rfl ?_
        refine gcVS0 53 dX6_takeWord_50 vX6_73 hq (ct_J0_length hq) ?_
        refine go_icmp_lt 76 56 dX6_takeWord_53 (fun h53 => ?_) (fun h53 => ?_)
        · refine go_iconst 77 dX6_takeWord_76 zc_0 ?_
          exact go_zreturn dX6_takeWord_77 rfl (by omega) (by omega) (Or.inl rfl) (⟨rfl, rfl⟩)
        · exact (h53 (nI_lt (by omega) (by omega))).elim
      · refine go_iinc 45 dX6_takeWord_42 rfl (by decide) zc_1 ?_
        refine go_goto 16 dX6_takeWord_45 ?_
        rw [nI_1]
        exact go_locals _ rfl (ih (k + 1) (by omega) (fun i hi => (Nat.lt_succ_iff_lt_or_eq.mp hi).elim (hm i) (fun e => by rw [e]; first | exact h39 | exact Classical.not_not.mp h39)))

set_option maxRecDepth 100000 in
set_option maxHeartbeats 4000000 in
theorem ct_X6_takeWord_y {l : Launch} {Γ : ZG} {w : ZW} {o : Nat} {S : MS} {D : ZD} (h5 : S.1 5 = 0) {B : ZB} {n : Nat} (hn : S.1 3 = nI n) (hB : bt (S.2.1 0) n = B) (hT : TB B n) {p : Nat} (hp : S.1 4 = nI p) (hpn : p ≤ n) {q : String × Nat × String} (hq : q ∈ zStr) (hw : wd B q.2.2 (sp B p)) : Cm l Γ mX6_takeWord 7 [.ref o, .ref (Γ.2.2.2.1 q.1 q.2.1)] (wD Γ w o S D) (some (.int 1)) (wD Γ w o (mf S 4 (nI (sp B p + q.2.2.length))) D) := by
  refine Cm.of (by decide) rfl (Nat.le_of_ble_eq_true rfl) ?_
  refine go_aload_n 1 dX6_takeWord_0 rfl ?_
  refine gdV0 4 dX6_takeWord_1 vX6_65 (ct_X6_isGood_y h5) ?_
  refine go_if_ne 9 7 dX6_takeWord_4 (fun h4 => ?_) (fun h4 => ?_)
  · refine go_aload_n 10 dX6_takeWord_9 rfl ?_
    refine gdV0 13 dX6_takeWord_10 vX6_69 (ct_X6_next hn hB hT hp hpn) ?_
    refine go_pop 14 dX6_takeWord_13 rfl ?_
    refine go_iconst 15 dX6_takeWord_14 zc_0 ?_
    refine go_istore_n 16 dX6_takeWord_15 (by decide) ?_
    exact go_locals _ rfl (lp_X6_takeWord (S := mf S 4 (nI (sp B p))) (a := sp B p) (r := 1) (S9 := mf S 4 (nI (sp B p + q.2.2.length))) hn hB hT hq rfl (sp_le hT hpn) (fun _ => ⟨rfl, by rw [mf_mf]⟩) (fun z => absurd hw z) q.2.2.length 0 (by omega) (fun i hi => by omega))
  · exact absurd h4 (by decide)

set_option maxRecDepth 100000 in
set_option maxHeartbeats 4000000 in
theorem ct_X6_takeWord_n {l : Launch} {Γ : ZG} {w : ZW} {o : Nat} {S : MS} {D : ZD} (h5 : S.1 5 = 0) {B : ZB} {n : Nat} (hn : S.1 3 = nI n) (hB : bt (S.2.1 0) n = B) (hT : TB B n) {p : Nat} (hp : S.1 4 = nI p) (hpn : p ≤ n) {q : String × Nat × String} (hq : q ∈ zStr) (hw : ¬ wd B q.2.2 (sp B p)) : Cm l Γ mX6_takeWord 7 [.ref o, .ref (Γ.2.2.2.1 q.1 q.2.1)] (wD Γ w o S D) (some (.int 0)) (wD Γ w o (mf S 4 (nI (sp B p))) D) := by
  refine Cm.of (by decide) rfl (Nat.le_of_ble_eq_true rfl) ?_
  refine go_aload_n 1 dX6_takeWord_0 rfl ?_
  refine gdV0 4 dX6_takeWord_1 vX6_65 (ct_X6_isGood_y h5) ?_
  refine go_if_ne 9 7 dX6_takeWord_4 (fun h4 => ?_) (fun h4 => ?_)
  · refine go_aload_n 10 dX6_takeWord_9 rfl ?_
    refine gdV0 13 dX6_takeWord_10 vX6_69 (ct_X6_next hn hB hT hp hpn) ?_
    refine go_pop 14 dX6_takeWord_13 rfl ?_
    refine go_iconst 15 dX6_takeWord_14 zc_0 ?_
    refine go_istore_n 16 dX6_takeWord_15 (by decide) ?_
    exact go_locals _ rfl (lp_X6_takeWord (S := mf S 4 (nI (sp B p))) (a := sp B p) (r := 0) (S9 := mf S 4 (nI (sp B p))) hn hB hT hq rfl (sp_le hT hpn) (fun z => absurd z hw) (fun _ => ⟨rfl, rfl⟩) q.2.2.length 0 (by omega) (fun i hi => by omega))
  · exact absurd h4 (by decide)

set_option maxRecDepth 100000 in
set_option maxHeartbeats 4000000 in
theorem ct_X6_number_b {l : Launch} {Γ : ZG} {w : ZW} {o : Nat} {S : MS} {D : ZD} {x y : Int32} (h5 : ¬ S.1 5 = 0) : Cm l Γ mX6_number 3 [.ref o, .int x, .int y] (wD Γ w o S D) (some (.int 0)) (wD Γ w o S D) := by
  refine Cm.of (by decide) rfl (Nat.le_of_ble_eq_true rfl) ?_
  refine go_aload_n 1 dX6_number_0 rfl ?_
  refine gdV0 4 dX6_number_1 vX6_65 (ct_X6_isGood_n h5) ?_
  refine go_if_ne 9 7 dX6_number_4 (fun h4 => ?_) (fun h4 => ?_)
  · exact absurd h4 (by decide)
  · refine go_iconst 8 dX6_number_7 zc_0 ?_
    exact go_ireturn dX6_number_8 rfl (by omega) (by omega) (⟨rfl, rfl⟩)

set_option maxRecDepth 100000 in
set_option maxHeartbeats 4000000 in
theorem ct_X6_number_n {l : Launch} {Γ : ZG} {w : ZW} {o : Nat} {S : MS} {D : ZD} {x y : Int32} (h5 : S.1 5 = 0) {B : ZB} {n : Nat} (hn : S.1 3 = nI n) (hB : bt (S.2.1 0) n = B) (hT : TB B n) {p : Nat} (hp : S.1 4 = nI p) (hpn : p ≤ n) (hd : isD B (sp B p) = false) : Cm l Γ mX6_number 3 [.ref o, .int x, .int y] (wD Γ w o S D) (some (.int 0)) (wD Γ w o (mf (mf (mf S 4 (nI (sp B p))) 5 (-2)) 6 (nI (sp B p))) D) := by
  refine Cm.of (by decide) rfl (Nat.le_of_ble_eq_true rfl) ?_
  refine go_aload_n 1 dX6_number_0 rfl ?_
  refine gdV0 4 dX6_number_1 vX6_65 (ct_X6_isGood_y h5) ?_
  refine go_if_ne 9 7 dX6_number_4 (fun h4 => ?_) (fun h4 => ?_)
  · refine go_aload_n 10 dX6_number_9 rfl ?_
    refine gdV0 13 dX6_number_10 vX6_69 (ct_X6_next hn hB hT hp hpn) ?_
    refine gcS1 16 dX6_number_13 vX6_86 (ct_X6_isDigit) ?_
    refine go_if_ne 31 19 dX6_number_16 (fun h16 => ?_) (fun h16 => ?_)
    · exact (absurd (zb_1 h16) (of_decide_eq_false hd))
    · refine go_aload_n 20 dX6_number_19 rfl ?_
      refine go_bipush 22 dX6_number_20 zb_m2 ?_
      refine go_aload_n 23 dX6_number_22 rfl ?_
      refine gd_get 26 dX6_number_23 fX6_48 rfl ?_
      refine gdV2v 29 dX6_number_26 vX6_82 (ct_X6_report_n h5) ?_
      refine go_iconst 30 dX6_number_29 zc_0 ?_
      exact go_ireturn dX6_number_30 rfl (by omega) (by omega) (⟨rfl, rfl⟩)
  · exact absurd h4 (by decide)

set_option maxRecDepth 100000 in
set_option maxHeartbeats 4000000 in
theorem lp_X6_number_y {l : Launch} {Γ : ZG} {w : ZW} {o : Nat} {S : MS} {D : ZD} {B : ZB} {n : Nat} (hn : S.1 3 = nI n) (hB : bt (S.2.1 0) n = B) (hT : TB B n) {lo hi V Q : Nat} (hlo : lo < 2 ^ 31) (hhi : hi < 2 ^ 31) (h5 : S.1 5 = 0) (hg : ∀ v : Nat, v = V → lo ≤ v ∧ v ≤ hi) : ∀ (f i v : Nat), i + f = 601 → i ≤ n → v ≤ 1000000 → vC 1000000 B f i v = V → runW (isD B) f i = Q → Go l Γ mX6_number 3 0 0 (fun v w2 => v = some (.int (nI V)) ∧ w2 = wD Γ w o (mf S 4 (nI Q)) D) zNo 0 0 (wD Γ w o (mf S 4 (nI i)) D) 41 [(0, .ref o), (1, .int (nI lo)), (2, .int (nI hi)), (3, .int (nI v))] [] := by
  have hn6 := hT.1
  intro f
  induction f with
  | zero =>
    intro i v h1 h2
    omega
  | succ f ih =>
    intro i v hif hin hvm hV hq
    refine go_aload_n 42 dX6_number_41 rfl ?_
    refine go_aload_n 43 dX6_number_42 rfl ?_
    refine gd_get 46 dX6_number_43 fX6_48 rfl ?_
    refine gdV1 49 dX6_number_46 vX6_51 (ct_X6_byteAt (k := i) hn hB hT rfl (by omega)) ?_
    refine gcS1 52 dX6_number_49 vX6_86 (ct_X6_isDigit) ?_
    refine go_if_eq 90 55 dX6_number_52 (fun h52 => ?_) (fun h52 => ?_)
    · have hnd : isD B i = false := decide_eq_false (zb_0 (by first | exact h52 | exact Classical.not_not.mp h52))
      rw [runW_f hnd] at hq
      subst hq
      have hv : v = V := by
        rw [← hV]
        unfold vC
        rw [if_neg (by rw [hnd]; decide)]
      refine go_iload_n 91 dX6_number_90 rfl ?_
      refine go_iload_n 92 dX6_number_91 rfl ?_
      refine go_iload_n 93 dX6_number_92 rfl ?_
      refine gcS3 96 dX6_number_93 vX6_61 (ct_X6_in) ?_
      refine go_if_ne 109 99 dX6_number_96 (fun h96 => ?_) (fun h96 => ?_)
      · refine go_iload_n 110 dX6_number_109 rfl ?_
        exact go_ireturn dX6_number_110 rfl (by omega) (by omega) (⟨by rw [hv], rfl⟩)
      · exact (zb_0 h96 (by first | exact ⟨nI_le (hg v hv).1 (by omega), nI_le (hg v hv).2 (by omega)⟩)).elim
    · have hdg : isD B i = true := decide_eq_true (zb_1 h52)
      have hlt := lt_of_B hT (isD_ne hdg)
      obtain ⟨d, d1, d2, d3⟩ := byte_dig (of_decide_eq_true hdg)
      refine go_ldc 57 dX6_number_55 ciX6_93 ?_
      refine go_bipush 59 dX6_number_57 zb_10 ?_
      refine go_iload_n 60 dX6_number_59 rfl ?_
      refine go_imul 61 dX6_number_60 ?_
      refine go_aload_n 62 dX6_number_61 rfl ?_
      refine go_aload_n 63 dX6_number_62 rfl ?_
      refine gd_get 66 dX6_number_63 fX6_48 rfl ?_
      refine gdV1 69 dX6_number_66 vX6_51 (ct_X6_byteAt (k := i) hn hB hT rfl (by omega)) ?_
      refine go_iadd 70 dX6_number_69 ?_
      refine go_bipush 72 dX6_number_70 zb_48 ?_
      refine go_isub 73 dX6_number_72 ?_
      rw [d2, show (10 : Int32) = nI 10 from rfl, pk_mul, nI_add, show nI (10 * v + (48 + d)) - 48 = nI (10 * v + d) by
          rw [show 10 * v + (48 + d) = (10 * v + d) + 48 by omega, ← nI_add]
          exact Int32.add_sub_cancel _ _]
      refine gcS2 76 dX6_number_73 vX6_94 (ct_X6_min) ?_
      rw [show (@ite _ ((1000000 : Int32) < nI (10 * v + d)) (Classical.propDecidable _) (1000000 : Int32) (nI (10 * v + d))) = nI (min 1000000 (10 * v + d)) by
          by_cases hx : (1000000 : Int32) < nI (10 * v + d)
          · rw [if_pos hx, Nat.min_eq_left (Nat.le_of_lt ((nI_ltI (a := 1000000) (by decide) (by omega)).mp hx))]
            rfl
          · rw [if_neg hx, Nat.min_eq_right (Nat.le_of_not_lt fun z => hx (nI_lt (a := 1000000) z (by omega)))]]
      refine go_istore_n 77 dX6_number_76 (by decide) ?_
      refine go_aload_n 78 dX6_number_77 rfl ?_
      refine go_dup 79 dX6_number_78 rfl ?_
      refine gd_get 82 dX6_number_79 fX6_48 rfl ?_
      refine go_iconst 83 dX6_number_82 zc_1 ?_
      refine go_iadd 84 dX6_number_83 ?_
      refine gd_put 87 dX6_number_84 pX6_48 rfl (by decide) ?_
      refine go_goto 41 dX6_number_87 ?_
      rw [mf_mf, show (mf S 4 (nI i)).1 4 + 1 = nI (i + 1) from nI_1 i]
      exact go_locals _ rfl (ih (i + 1) (min 1000000 (10 * v + d)) (by omega) (by omega) (by omega) (by rw [← hV]; show _ = vC _ _ (f + 1) _ _; rw [vC, if_pos hdg, d3]) (by rw [← hq, runW_t hdg]))

set_option maxRecDepth 100000 in
set_option maxHeartbeats 4000000 in
theorem ct_X6_number_y {l : Launch} {Γ : ZG} {w : ZW} {o : Nat} {S : MS} {D : ZD} {lo hi : Nat} (hlo : lo ≤ 9999) (hhi : hi ≤ 9999) (h5 : S.1 5 = 0) {B : ZB} {n : Nat} (hn : S.1 3 = nI n) (hB : bt (S.2.1 0) n = B) (hT : TB B n) {p : Nat} (hp : S.1 4 = nI p) (hpn : p ≤ n) (hd : isD B (sp B p) = true) (hv : lo ≤ valN B (sp B p) ∧ valN B (sp B p) ≤ hi) : Cm l Γ mX6_number 3 [.ref o, .int (nI lo), .int (nI hi)] (wD Γ w o S D) (some (.int (nI (min 1000000 (valN B (sp B p)))))) (wD Γ w o (mf (mf (mf S 4 (nI (sp B p))) 13 (nI (sp B p))) 4 (nI (ed B (sp B p)))) D) := by
  refine Cm.of (by decide) rfl (Nat.le_of_ble_eq_true rfl) ?_
  refine go_aload_n 1 dX6_number_0 rfl ?_
  refine gdV0 4 dX6_number_1 vX6_65 (ct_X6_isGood_y h5) ?_
  refine go_if_ne 9 7 dX6_number_4 (fun h4 => ?_) (fun h4 => ?_)
  · refine go_aload_n 10 dX6_number_9 rfl ?_
    refine gdV0 13 dX6_number_10 vX6_69 (ct_X6_next hn hB hT hp hpn) ?_
    refine gcS1 16 dX6_number_13 vX6_86 (ct_X6_isDigit) ?_
    refine go_if_ne 31 19 dX6_number_16 (fun h16 => ?_) (fun h16 => ?_)
    · refine go_aload_n 32 dX6_number_31 rfl ?_
      refine go_aload_n 33 dX6_number_32 rfl ?_
      refine gd_get 36 dX6_number_33 fX6_48 rfl ?_
      refine gd_put 39 dX6_number_36 pX6_90 rfl (by decide) ?_
      refine go_iconst 40 dX6_number_39 zc_0 ?_
      refine go_istore_n 41 dX6_number_40 (by decide) ?_
      have hsn := sp_le hT hpn
      have hn6 := hT.1
      have e0 := vC_eq (cap := 1000000) (B := B) (601 - sp B p) (sp B p) 0
      have q := lp_X6_number_y (l := l) (Γ := Γ) (w := w) (o := o) (S := mf (mf S 4 (nI (sp B p))) 13 (nI (sp B p))) (D := D) (lo := lo) (hi := hi) (V := min 1000000 (valN B (sp B p))) (Q := ed B (sp B p)) hn hB hT (by omega) (by omega) h5 (fun v e => by rw [e]; omega) (601 - sp B p) (sp B p) 0 (by omega) hsn (by omega) e0 rfl
      rw [mf_self (S := mf (mf S 4 (nI (sp B p))) 13 (nI (sp B p))) (j := 4) (v := nI (sp B p)) rfl] at q
      exact go_locals _ rfl q
    · exact (zb_0 (by first | exact h16 | exact Classical.not_not.mp h16) (of_decide_eq_true hd)).elim
  · exact absurd h4 (by decide)

set_option maxRecDepth 100000 in
set_option maxHeartbeats 4000000 in
theorem lp_X6_number_o {l : Launch} {Γ : ZG} {w : ZW} {o : Nat} {S : MS} {D : ZD} {B : ZB} {n : Nat} (hn : S.1 3 = nI n) (hB : bt (S.2.1 0) n = B) (hT : TB B n) {lo hi V Q : Nat} (hlo : lo < 2 ^ 31) (hhi : hi < 2 ^ 31) (h5 : S.1 5 = 0) (hg : ∀ v : Nat, v = V → ¬ (lo ≤ v ∧ v ≤ hi)) : ∀ (f i v : Nat), i + f = 601 → i ≤ n → v ≤ 1000000 → vC 1000000 B f i v = V → runW (isD B) f i = Q → Go l Γ mX6_number 3 0 0 (fun v w2 => v = some (.int (nI V)) ∧ w2 = wD Γ w o (mf (mf (mf S 4 (nI Q)) 5 (-3)) 6 (S.1 13)) D) zNo 0 0 (wD Γ w o (mf S 4 (nI i)) D) 41 [(0, .ref o), (1, .int (nI lo)), (2, .int (nI hi)), (3, .int (nI v))] [] := by
  have hn6 := hT.1
  intro f
  induction f with
  | zero =>
    intro i v h1 h2
    omega
  | succ f ih =>
    intro i v hif hin hvm hV hq
    refine go_aload_n 42 dX6_number_41 rfl ?_
    refine go_aload_n 43 dX6_number_42 rfl ?_
    refine gd_get 46 dX6_number_43 fX6_48 rfl ?_
    refine gdV1 49 dX6_number_46 vX6_51 (ct_X6_byteAt (k := i) hn hB hT rfl (by omega)) ?_
    refine gcS1 52 dX6_number_49 vX6_86 (ct_X6_isDigit) ?_
    refine go_if_eq 90 55 dX6_number_52 (fun h52 => ?_) (fun h52 => ?_)
    · have hnd : isD B i = false := decide_eq_false (zb_0 (by first | exact h52 | exact Classical.not_not.mp h52))
      rw [runW_f hnd] at hq
      subst hq
      have hv : v = V := by
        rw [← hV]
        unfold vC
        rw [if_neg (by rw [hnd]; decide)]
      refine go_iload_n 91 dX6_number_90 rfl ?_
      refine go_iload_n 92 dX6_number_91 rfl ?_
      refine go_iload_n 93 dX6_number_92 rfl ?_
      refine gcS3 96 dX6_number_93 vX6_61 (ct_X6_in) ?_
      refine go_if_ne 109 99 dX6_number_96 (fun h96 => ?_) (fun h96 => ?_)
      · exact (hg v hv ⟨(nI_leI (by omega) (by omega)).mp (zb_1 h96).1, (nI_leI (by omega) (by omega)).mp (zb_1 h96).2⟩).elim
      · refine go_aload_n 100 dX6_number_99 rfl ?_
        refine go_bipush 102 dX6_number_100 zb_m3 ?_
        refine go_aload_n 103 dX6_number_102 rfl ?_
        refine gd_get 106 dX6_number_103 fX6_90 rfl ?_
        refine gdV2v 109 dX6_number_106 vX6_82 (ct_X6_report_n h5) ?_
        refine go_iload_n 110 dX6_number_109 rfl ?_
        exact go_ireturn dX6_number_110 rfl (by omega) (by omega) (⟨by rw [hv], rfl⟩)
    · have hdg : isD B i = true := decide_eq_true (zb_1 h52)
      have hlt := lt_of_B hT (isD_ne hdg)
      obtain ⟨d, d1, d2, d3⟩ := byte_dig (of_decide_eq_true hdg)
      refine go_ldc 57 dX6_number_55 ciX6_93 ?_
      refine go_bipush 59 dX6_number_57 zb_10 ?_
      refine go_iload_n 60 dX6_number_59 rfl ?_
      refine go_imul 61 dX6_number_60 ?_
      refine go_aload_n 62 dX6_number_61 rfl ?_
      refine go_aload_n 63 dX6_number_62 rfl ?_
      refine gd_get 66 dX6_number_63 fX6_48 rfl ?_
      refine gdV1 69 dX6_number_66 vX6_51 (ct_X6_byteAt (k := i) hn hB hT rfl (by omega)) ?_
      refine go_iadd 70 dX6_number_69 ?_
      refine go_bipush 72 dX6_number_70 zb_48 ?_
      refine go_isub 73 dX6_number_72 ?_
      rw [d2, show (10 : Int32) = nI 10 from rfl, pk_mul, nI_add, show nI (10 * v + (48 + d)) - 48 = nI (10 * v + d) by
          rw [show 10 * v + (48 + d) = (10 * v + d) + 48 by omega, ← nI_add]
          exact Int32.add_sub_cancel _ _]
      refine gcS2 76 dX6_number_73 vX6_94 (ct_X6_min) ?_
      rw [show (@ite _ ((1000000 : Int32) < nI (10 * v + d)) (Classical.propDecidable _) (1000000 : Int32) (nI (10 * v + d))) = nI (min 1000000 (10 * v + d)) by
          by_cases hx : (1000000 : Int32) < nI (10 * v + d)
          · rw [if_pos hx, Nat.min_eq_left (Nat.le_of_lt ((nI_ltI (a := 1000000) (by decide) (by omega)).mp hx))]
            rfl
          · rw [if_neg hx, Nat.min_eq_right (Nat.le_of_not_lt fun z => hx (nI_lt (a := 1000000) z (by omega)))]]
      refine go_istore_n 77 dX6_number_76 (by decide) ?_
      refine go_aload_n 78 dX6_number_77 rfl ?_
      refine go_dup 79 dX6_number_78 rfl ?_
      refine gd_get 82 dX6_number_79 fX6_48 rfl ?_
      refine go_iconst 83 dX6_number_82 zc_1 ?_
      refine go_iadd 84 dX6_number_83 ?_
      refine gd_put 87 dX6_number_84 pX6_48 rfl (by decide) ?_
      refine go_goto 41 dX6_number_87 ?_
      rw [mf_mf, show (mf S 4 (nI i)).1 4 + 1 = nI (i + 1) from nI_1 i]
      exact go_locals _ rfl (ih (i + 1) (min 1000000 (10 * v + d)) (by omega) (by omega) (by omega) (by rw [← hV]; show _ = vC _ _ (f + 1) _ _; rw [vC, if_pos hdg, d3]) (by rw [← hq, runW_t hdg]))

set_option maxRecDepth 100000 in
set_option maxHeartbeats 4000000 in
theorem ct_X6_number_o {l : Launch} {Γ : ZG} {w : ZW} {o : Nat} {S : MS} {D : ZD} {lo hi : Nat} (hlo : lo ≤ 9999) (hhi : hi ≤ 9999) (h5 : S.1 5 = 0) {B : ZB} {n : Nat} (hn : S.1 3 = nI n) (hB : bt (S.2.1 0) n = B) (hT : TB B n) {p : Nat} (hp : S.1 4 = nI p) (hpn : p ≤ n) (hd : isD B (sp B p) = true) (hv : ¬ (lo ≤ valN B (sp B p) ∧ valN B (sp B p) ≤ hi)) : Cm l Γ mX6_number 3 [.ref o, .int (nI lo), .int (nI hi)] (wD Γ w o S D) (some (.int (nI (min 1000000 (valN B (sp B p)))))) (wD Γ w o (mf (mf (mf (mf (mf S 4 (nI (sp B p))) 13 (nI (sp B p))) 4 (nI (ed B (sp B p)))) 5 (-3)) 6 (nI (sp B p))) D) := by
  refine Cm.of (by decide) rfl (Nat.le_of_ble_eq_true rfl) ?_
  refine go_aload_n 1 dX6_number_0 rfl ?_
  refine gdV0 4 dX6_number_1 vX6_65 (ct_X6_isGood_y h5) ?_
  refine go_if_ne 9 7 dX6_number_4 (fun h4 => ?_) (fun h4 => ?_)
  · refine go_aload_n 10 dX6_number_9 rfl ?_
    refine gdV0 13 dX6_number_10 vX6_69 (ct_X6_next hn hB hT hp hpn) ?_
    refine gcS1 16 dX6_number_13 vX6_86 (ct_X6_isDigit) ?_
    refine go_if_ne 31 19 dX6_number_16 (fun h16 => ?_) (fun h16 => ?_)
    · refine go_aload_n 32 dX6_number_31 rfl ?_
      refine go_aload_n 33 dX6_number_32 rfl ?_
      refine gd_get 36 dX6_number_33 fX6_48 rfl ?_
      refine gd_put 39 dX6_number_36 pX6_90 rfl (by decide) ?_
      refine go_iconst 40 dX6_number_39 zc_0 ?_
      refine go_istore_n 41 dX6_number_40 (by decide) ?_
      have hsn := sp_le hT hpn
      have hn6 := hT.1
      have e0 := vC_eq (cap := 1000000) (B := B) (601 - sp B p) (sp B p) 0
      have q := lp_X6_number_o (l := l) (Γ := Γ) (w := w) (o := o) (S := mf (mf S 4 (nI (sp B p))) 13 (nI (sp B p))) (D := D) (lo := lo) (hi := hi) (V := min 1000000 (valN B (sp B p))) (Q := ed B (sp B p)) hn hB hT (by omega) (by omega) h5 (fun v e => by rw [e]; omega) (601 - sp B p) (sp B p) 0 (by omega) hsn (by omega) e0 rfl
      rw [mf_self (S := mf (mf S 4 (nI (sp B p))) 13 (nI (sp B p))) (j := 4) (v := nI (sp B p)) rfl] at q
      exact go_locals _ rfl q
    · exact (zb_0 (by first | exact h16 | exact Classical.not_not.mp h16) (of_decide_eq_true hd)).elim
  · exact absurd h4 (by decide)
end MPrs
