section CDial
/-! dial, append, checksum -/
theorem bN_le {x : Int32} : ∀ (f k : Nat), bN x k f ≤ f
  | 0, _ => Nat.le_refl 0
  | f + 1, k => by
    rw [bN_s]
    have := bN_le (x := x) f (k + 1)
    split <;> omega
theorem and1_ne {x : Int32} {k : Nat} (h : ¬ bitOf x k = 1) : bitOf x k = 0 := (bit01 x k).resolve_right h
section
variable {l : Launch} {Γ : ZG} {w : ZW} {x : Nat} {C : CS} {R' : RS} {M : ZM} {d : Nat} {as : List Value} {r : Option Value}
theorem XRm (c : Cm l Γ M d as (wZ Γ (wC Γ w x C) (x + 93) C.2.1) r (wZ Γ (wC Γ w x C) (x + 93) R')) : Cm l Γ M d as (wC Γ w x C) r (wC Γ w x (cR C R')) := by rw [wC_Rs, wC_R] at c; exact c
theorem XRs (c : Cm l Γ M d as (wZ Γ (wC Γ w x C) (x + 93) C.2.1) r (wZ Γ (wC Γ w x C) (x + 93) C.2.1)) : Cm l Γ M d as (wC Γ w x C) r (wC Γ w x C) := by rw [wC_Rs] at c; exact c
end
/-- a word added to the reader's text -/
def awR (R : RS) (b : Nat) (v : Int32) : RS := rF (rT R (apB R.2.1 b v)) 1 (nI (b + 4))
def apR (R : RS) (b : Nat) (v0 v1 v2 v3 v4 : Int32) : RS := awR (awR (awR (awR (awR R b v0) (b + 4) v1) (b + 4 + 4) v2) (b + 4 + 4 + 4) v3) (b + 4 + 4 + 4 + 4) v4
set_option maxRecDepth 100000 in
set_option maxHeartbeats 4000000 in
theorem ct_X5_dial_1 {l : Launch} {Γ : ZG} {w : ZW} {x : Nat} {C : CS} {D : ZD} {g : Option Nat} {sg : ZSg} (h : CR D g sg (C.1 0) D) {y0 y1 : Int32} (h1 : ¬ (0 ≤ y0 ∧ y0 ≤ D 4 - 1)) : Ct l Γ mX5_dial 7 1 6 [.ref x, .int y0, .int y1] (wC Γ w x C) zNv (ThP "java/lang/IndexOutOfBoundsException" (wC Γ w x C)) := by
  refine Ct.of (by decide) rfl (Nat.le_of_ble_eq_true rfl) ?_
  refine go_aload_n 1 dX5_dial_0 rfl ?_
  refine go_iload_n 2 dX5_dial_1 rfl ?_
  exact gt_V1 5 dX5_dial_2 vX5_106 wC_at0 rfl (ct_X5_requireParty_n h h1) (fun w' a b => ⟨rfl, a, b⟩)
set_option maxRecDepth 100000 in
set_option maxHeartbeats 4000000 in
theorem ct_X5_dial_2 {l : Launch} {Γ : ZG} {w : ZW} {x : Nat} {C : CS} {D : ZD} {g : Option Nat} {sg : ZSg} (h : CR D g sg (C.1 0) D) {y0 y1 : Int32} (h1 : 0 ≤ y0 ∧ y0 ≤ D 4 - 1) (h2 : y1 ≤ 0 ∨ (1 : Int32) <<< (D 4 &&& 31) ≤ y1 ∨ (y1 >>> (y0 &&& 31)) &&& 1 = 1) : Ct l Γ mX5_dial 7 1 6 [.ref x, .int y0, .int y1] (wC Γ w x C) zNv (ThP "java/lang/IllegalArgumentException" (wC Γ w x C)) := by
  refine Ct.of (by decide) rfl (Nat.le_of_ble_eq_true rfl) ?_
  refine go_aload_n 1 dX5_dial_0 rfl ?_
  refine go_iload_n 2 dX5_dial_1 rfl ?_
  refine gcV1v 5 dX5_dial_2 vX5_106 wC_at0 rfl (ct_X5_requireParty_y h h1) ?_
  refine go_iload_n 6 dX5_dial_5 rfl ?_
  refine go_if_le 33 9 dX5_dial_6 (fun h6 => ?_) (fun h6 => ?_)
  · exact go_throw (thI "not a set of other parties" 147 (by decide +kernel)) dX5_dial_33 dX5_dial_36 dX5_dial_37 dX5_dial_39 dX5_dial_42 rfl (by decide) (by decide) (by decide) (Nat.le_of_ble_eq_true rfl) (fun w' a b => ⟨rfl, a, b⟩)
  · refine go_iload_n 10 dX5_dial_9 rfl ?_
    refine go_iconst 11 dX5_dial_10 zc_1 ?_
    refine go_aload_n 12 dX5_dial_11 rfl ?_
    refine go_get 15 dX5_dial_12 fX5_10 wC_at0 rfl ?_
    refine go_get 18 dX5_dial_15 fX5_69 xc_now rfl ?_
    refine go_get 21 dX5_dial_18 fX5_73 (xwP h) rfl ?_
    rw [← h.D4]
    refine go_ishl 22 dX5_dial_21 ?_
    refine go_icmp_ge 33 25 dX5_dial_22 (fun h22 => ?_) (fun h22 => ?_)
    · exact go_throw (thI "not a set of other parties" 147 (by decide +kernel)) dX5_dial_33 dX5_dial_36 dX5_dial_37 dX5_dial_39 dX5_dial_42 rfl (by decide) (by decide) (by decide) (Nat.le_of_ble_eq_true rfl) (fun w' a b => ⟨rfl, a, b⟩)
    · refine go_iload_n 26 dX5_dial_25 rfl ?_
      refine go_iload_n 27 dX5_dial_26 rfl ?_
      refine go_ishr 28 dX5_dial_27 ?_
      refine go_iconst 29 dX5_dial_28 zc_1 ?_
      refine go_iand 30 dX5_dial_29 ?_
      refine go_if_eq 43 33 dX5_dial_30 (fun h30 => ?_) (fun h30 => ?_)
      · rcases h2 with q | q | q; exact absurd q h6; exact absurd q h22; rw [q] at h30; exact absurd h30 (by decide)
      · exact go_throw (thI "not a set of other parties" 147 (by decide +kernel)) dX5_dial_33 dX5_dial_36 dX5_dial_37 dX5_dial_39 dX5_dial_42 rfl (by decide) (by decide) (by decide) (Nat.le_of_ble_eq_true rfl) (fun w' a b => ⟨rfl, a, b⟩)
set_option maxRecDepth 100000 in
set_option maxHeartbeats 4000000 in
theorem ct_X5_dial_3 {l : Launch} {Γ : ZG} {w : ZW} {x : Nat} {C : CS} {D : ZD} {g : Option Nat} {sg : ZSg} (h : CR D g sg (C.1 0) D) (hG : GI sg D) {y0 y1 : Int32} (h1 : 0 ≤ y0 ∧ y0 ≤ D 4 - 1) {q xn : Nat} (hq : y0 = nI q) (hx : y1 = nI xn) (hxn : xn < 1024) (h2 : ¬ (y1 ≤ 0 ∨ (1 : Int32) <<< (D 4 &&& 31) ≤ y1 ∨ (y1 >>> (y0 &&& 31)) &&& 1 = 1)) (h3 : eng D y0 ∨ ¬ (nC D < 20 ∧ nL D + bN (nI xn) 0 10 ≤ 40)) : Ct l Γ mX5_dial 7 1 6 [.ref x, .int y0, .int y1] (wC Γ w x C) zNv (ThP "java/lang/IllegalStateException" (wC Γ w x C)) := by
  refine Ct.of (by decide) rfl (Nat.le_of_ble_eq_true rfl) ?_
  refine go_aload_n 1 dX5_dial_0 rfl ?_
  refine go_iload_n 2 dX5_dial_1 rfl ?_
  refine gcV1v 5 dX5_dial_2 vX5_106 wC_at0 rfl (ct_X5_requireParty_y h h1) ?_
  refine go_iload_n 6 dX5_dial_5 rfl ?_
  refine go_if_le 33 9 dX5_dial_6 (fun h6 => ?_) (fun h6 => ?_)
  · exact absurd (Or.inl h6) h2
  · refine go_iload_n 10 dX5_dial_9 rfl ?_
    refine go_iconst 11 dX5_dial_10 zc_1 ?_
    refine go_aload_n 12 dX5_dial_11 rfl ?_
    refine go_get 15 dX5_dial_12 fX5_10 wC_at0 rfl ?_
    refine go_get 18 dX5_dial_15 fX5_69 xc_now rfl ?_
    refine go_get 21 dX5_dial_18 fX5_73 (xwP h) rfl ?_
    rw [← h.D4]
    refine go_ishl 22 dX5_dial_21 ?_
    refine go_icmp_ge 33 25 dX5_dial_22 (fun h22 => ?_) (fun h22 => ?_)
    · exact absurd (Or.inr (Or.inl h22)) h2
    · refine go_iload_n 26 dX5_dial_25 rfl ?_
      refine go_iload_n 27 dX5_dial_26 rfl ?_
      refine go_ishr 28 dX5_dial_27 ?_
      refine go_iconst 29 dX5_dial_28 zc_1 ?_
      refine go_iand 30 dX5_dial_29 ?_
      refine go_if_eq 43 33 dX5_dial_30 (fun h30 => ?_) (fun h30 => ?_)
      · refine go_aload_n 44 dX5_dial_43 rfl ?_
        refine go_get 47 dX5_dial_44 fX5_10 wC_at0 rfl ?_
        refine go_iload_n 48 dX5_dial_47 rfl ?_
        refine gcV1 51 dX5_dial_48 vX5_109 xc_now rfl (XCm0 (cx_X0_isEngaged h hG.jo.st)) ?_
        refine go_if_ne 68 54 dX5_dial_51 (fun h51 => ?_) (fun h51 => ?_)
        · exact go_throw (thS "no call can begin" 157 (by decide +kernel)) dX5_dial_68 dX5_dial_71 dX5_dial_72 dX5_dial_74 dX5_dial_77 rfl (by decide) (by decide) (by decide) (Nat.le_of_ble_eq_true rfl) (fun w' a b => ⟨rfl, a, b⟩)
        · refine go_aload_n 55 dX5_dial_54 rfl ?_
          refine go_get 58 dX5_dial_55 fX5_10 wC_at0 rfl ?_
          refine go_iload_n 59 dX5_dial_58 rfl ?_
          refine gcS1 62 dX5_dial_59 vX5_149 (by rw [hx]; exact ct_J6_bitCount hxn) ?_
          refine gcV1 65 dX5_dial_62 vX5_154 xc_now rfl (XCm0 (cx_X0_hasRoomFor h (by have := bN_le (x := nI xn) 10 0; omega))) ?_
          rw [zb_f (h3.resolve_left (fun z => by rw [zb_t z] at h51; exact absurd (show (1 : Int32) = 0 by first | exact h51 | exact Classical.not_not.mp h51) (by decide)))]
          refine go_if_ne 78 68 dX5_dial_65 (fun h65 => ?_) (fun h65 => ?_)
          · exact absurd h65 (by decide)
          · exact go_throw (thS "no call can begin" 157 (by decide +kernel)) dX5_dial_68 dX5_dial_71 dX5_dial_72 dX5_dial_74 dX5_dial_77 rfl (by decide) (by decide) (by decide) (Nat.le_of_ble_eq_true rfl) (fun w' a b => ⟨rfl, a, b⟩)
      · exact absurd (and1_ne (x := y1) (k := q) (fun z => h2 (Or.inr (Or.inr (by rw [hq]; exact z))))) (by rw [hq] at h30; exact h30)
set_option maxRecDepth 100000 in
set_option maxHeartbeats 4000000 in
theorem ct_X5_dial {l : Launch} {Γ : ZG} {w : ZW} {x : Nat} {C : CS} {D : ZD} {g : Option Nat} {sg : ZSg} (h : CR D g sg (C.1 0) D) (hG : GI sg D) {i u : Nat} (hn : C.2.2.1 = nI i) (hi : i < 8) (hu : C.2.2.2.1 = nI u) (hu8 : u ≤ 8) {y0 y1 : Int32} (h1 : 0 ≤ y0 ∧ y0 ≤ D 4 - 1) {q xn : Nat} (hq : y0 = nI q) (hx : y1 = nI xn) (hxn : xn < 1024) (h2 : ¬ (y1 ≤ 0 ∨ (1 : Int32) <<< (D 4 &&& 31) ≤ y1 ∨ (y1 >>> (y0 &&& 31)) &&& 1 = 1)) (h3 : ¬ eng D y0) (h4 : nC D < 20 ∧ nL D + bN (nI xn) 0 10 ≤ 40) {cs : List Int32} (hR : RG Γ w g cs) (hA : gAway g x 105) (hqP : q < nP D) (hb : ∀ j, j < 10 → bitOf (nI xn) j = 1 → j < nP D) : Ct l Γ mX5_dial 9 0 0 [.ref x, .int y0, .int y1] (wC Γ w x C) (PvD Γ w x (puC C i u (nP D) (nC D) (nL D)) g (some (.int (begN D (nI q) (nI xn) (ringV (nI (bN (nI xn) 0 10)) (nI q) 0 (D 0) cs) (-1)))) (fun E => CR (begD D (nI q) (nI xn) (ringV (nI (bN (nI xn) 0 10)) (nI q) 0 (D 0) cs) (-1)) g (sgN sg D (bN (nI xn) 0 10)) E (begD D (nI q) (nI xn) (ringV (nI (bN (nI xn) 0 10)) (nI q) 0 (D 0) cs) (-1)))) zNo := by
  have hp : CR D g sg ((puC C i u (nP D) (nC D) (nL D)).1 0) D := by rw [puC_0]; exact h
  refine Ct.of (by decide) rfl (Nat.le_of_ble_eq_true rfl) ?_
  refine go_aload_n 1 dX5_dial_0 rfl ?_
  refine go_iload_n 2 dX5_dial_1 rfl ?_
  refine gcV1v 5 dX5_dial_2 vX5_106 wC_at0 rfl (ct_X5_requireParty_y h h1) ?_
  refine go_iload_n 6 dX5_dial_5 rfl ?_
  refine go_if_le 33 9 dX5_dial_6 (fun h6 => ?_) (fun h6 => ?_)
  · exact absurd (Or.inl h6) h2
  · refine go_iload_n 10 dX5_dial_9 rfl ?_
    refine go_iconst 11 dX5_dial_10 zc_1 ?_
    refine go_aload_n 12 dX5_dial_11 rfl ?_
    refine go_get 15 dX5_dial_12 fX5_10 wC_at0 rfl ?_
    refine go_get 18 dX5_dial_15 fX5_69 xc_now rfl ?_
    refine go_get 21 dX5_dial_18 fX5_73 (xwP h) rfl ?_
    rw [← h.D4]
    refine go_ishl 22 dX5_dial_21 ?_
    refine go_icmp_ge 33 25 dX5_dial_22 (fun h22 => ?_) (fun h22 => ?_)
    · exact absurd (Or.inr (Or.inl h22)) h2
    · refine go_iload_n 26 dX5_dial_25 rfl ?_
      refine go_iload_n 27 dX5_dial_26 rfl ?_
      refine go_ishr 28 dX5_dial_27 ?_
      refine go_iconst 29 dX5_dial_28 zc_1 ?_
      refine go_iand 30 dX5_dial_29 ?_
      refine go_if_eq 43 33 dX5_dial_30 (fun h30 => ?_) (fun h30 => ?_)
      · refine go_aload_n 44 dX5_dial_43 rfl ?_
        refine go_get 47 dX5_dial_44 fX5_10 wC_at0 rfl ?_
        refine go_iload_n 48 dX5_dial_47 rfl ?_
        refine gcV1 51 dX5_dial_48 vX5_109 xc_now rfl (XCm0 (cx_X0_isEngaged h hG.jo.st)) ?_
        rw [zb_f h3]
        refine go_if_ne 68 54 dX5_dial_51 (fun h51 => ?_) (fun h51 => ?_)
        · exact absurd h51 (by decide)
        · refine go_aload_n 55 dX5_dial_54 rfl ?_
          refine go_get 58 dX5_dial_55 fX5_10 wC_at0 rfl ?_
          refine go_iload_n 59 dX5_dial_58 rfl ?_
          refine gcS1 62 dX5_dial_59 vX5_149 (by rw [hx]; exact ct_J6_bitCount hxn) ?_
          refine gcV1 65 dX5_dial_62 vX5_154 xc_now rfl (XCm0 (cx_X0_hasRoomFor h (by have := bN_le (x := nI xn) 10 0; omega))) ?_
          rw [zb_t h4]
          refine go_if_ne 78 68 dX5_dial_65 (fun h65 => ?_) (fun h65 => ?_)
          · refine go_aload_n 79 dX5_dial_78 rfl ?_
            refine go_get 82 dX5_dial_79 fX5_22 wC_at0 rfl ?_
            refine go_aload_n 83 dX5_dial_82 rfl ?_
            refine go_get 86 dX5_dial_83 fX5_10 wC_at0 rfl ?_
            refine gcV1v 89 dX5_dial_86 vX5_59 wC_at19 rfl (ct_X1_push hn hi hu hu8 h.rb) ?_
            refine go_aload_n 90 dX5_dial_89 rfl ?_
            refine go_get 93 dX5_dial_90 fX5_10 wC_at0 rfl ?_
            refine go_iload_n 94 dX5_dial_93 rfl ?_
            refine go_iload_n 95 dX5_dial_94 rfl ?_
            refine go_iconst 96 dX5_dial_95 zc_m1 ?_
            refine go_callV 99 [.int y0, .int y1, .int (-1)] dX5_dial_96 vX5_160 xc_now rfl (by rw [hq, hx]; exact XPg0 hA (cx_X0_beginCall hp hG (hR.out hA) (fun r hr => by have := hA r hr; omega) h4.1 hqP hxn hb h4.2 (Or.inl rfl) rfl rfl)) (by decide) (by decide) (by omega) (by omega) (Nat.le_of_ble_eq_true rfl) ?_
            intro v9 w9 q9
            obtain ⟨rfl, h9, z9, E9, rfl, hE9⟩ := q9
            exact go_ireturn dX5_dial_99 rfl (by omega) (by omega) ⟨rfl, h9, z9, E9, rfl, hE9⟩
          · exact absurd h65 (by decide)
      · exact absurd (and1_ne (x := y1) (k := q) (fun z => h2 (Or.inr (Or.inr (by rw [hq]; exact z))))) (by rw [hq] at h30; exact h30)
set_option maxRecDepth 100000 in
set_option maxHeartbeats 4000000 in
theorem ct_X5_append_1 {l : Launch} {Γ : ZG} {w : ZW} {x : Nat} {C : CS} {b : Nat} (hb : C.2.1.1 1 = nI b) {y0 y1 y2 y3 y4 : Int32} (hb6 : 600 < b + 20) (hb9 : b ≤ 600) : Cm l Γ mX5_append 2 [.ref x, .int y0, .int y1, .int y2, .int y3, .int y4] (wC Γ w x C) (some (.int (-1))) (wC Γ w x C) := by
  refine Cm.of (by decide) rfl (Nat.le_of_ble_eq_true rfl) ?_
  refine go_aload_n 1 dX5_append_0 rfl ?_
  refine go_get 4 dX5_append_1 fX5_29 wC_at0 rfl ?_
  refine go_bipush 6 dX5_append_4 zb_20 ?_
  refine gcV1 9 dX5_append_6 vX5_37 xc_rd rfl (XRs ct_X3_hasRoomFor) ?_
  rw [zb_f (by rw [hb, show (20 : Int32) = nI 20 from rfl, nI_add]; exact nI_ge (a := 600) (by omega) (by omega))]
  refine go_if_ne 14 12 dX5_append_9 (fun h9 => ?_) (fun h9 => ?_)
  · exact absurd h9 (by decide)
  · refine go_iconst 13 dX5_append_12 zc_m1 ?_
    exact go_ireturn dX5_append_13 rfl (by omega) (by omega) (⟨rfl, rfl⟩)
set_option maxRecDepth 100000 in
set_option maxHeartbeats 4000000 in
theorem ct_X5_append {l : Launch} {Γ : ZG} {w : ZW} {x : Nat} {C : CS} {b : Nat} (hb : C.2.1.1 1 = nI b) {y0 y1 y2 y3 y4 : Int32} (hb6 : b + 20 ≤ 600) : Cm l Γ mX5_append 2 [.ref x, .int y0, .int y1, .int y2, .int y3, .int y4] (wC Γ w x C) (some (.int (nI (b + 20)))) (wC Γ w x (cR C (apR C.2.1 b y0 y1 y2 y3 y4))) := by
  refine Cm.of (by decide) rfl (Nat.le_of_ble_eq_true rfl) ?_
  refine go_aload_n 1 dX5_append_0 rfl ?_
  refine go_get 4 dX5_append_1 fX5_29 wC_at0 rfl ?_
  refine go_bipush 6 dX5_append_4 zb_20 ?_
  refine gcV1 9 dX5_append_6 vX5_37 xc_rd rfl (XRs ct_X3_hasRoomFor) ?_
  rw [zb_t (by rw [hb, show (20 : Int32) = nI 20 from rfl, nI_add]; exact nI_le (b := 600) (by omega) (by decide))]
  refine go_if_ne 14 12 dX5_append_9 (fun h9 => ?_) (fun h9 => ?_)
  · refine go_aload_n 15 dX5_append_14 rfl ?_
    refine go_get 18 dX5_append_15 fX5_29 wC_at0 rfl ?_
    refine go_iload_n 19 dX5_append_18 rfl ?_
    refine gcV1v 22 dX5_append_19 vX5_41 xc_rd rfl (XRm (ct_X3_addWord (b := b) hb (by omega))) ?_
    refine go_aload_n 23 dX5_append_22 rfl ?_
    refine go_get 26 dX5_append_23 fX5_29 wC_at0 rfl ?_
    refine go_iload_n 27 dX5_append_26 rfl ?_
    refine gcV1v 30 dX5_append_27 vX5_41 xc_rd rfl (XRm (ct_X3_addWord (b := b + 4) rfl (by omega))) ?_
    refine go_aload_n 31 dX5_append_30 rfl ?_
    refine go_get 34 dX5_append_31 fX5_29 wC_at0 rfl ?_
    refine go_iload_n 35 dX5_append_34 rfl ?_
    refine gcV1v 38 dX5_append_35 vX5_41 xc_rd rfl (XRm (ct_X3_addWord (b := b + 4 + 4) rfl (by omega))) ?_
    refine go_aload_n 39 dX5_append_38 rfl ?_
    refine go_get 42 dX5_append_39 fX5_29 wC_at0 rfl ?_
    refine go_iload 44 dX5_append_42 rfl ?_
    refine gcV1v 47 dX5_append_44 vX5_41 xc_rd rfl (XRm (ct_X3_addWord (b := b + 4 + 4 + 4) rfl (by omega))) ?_
    refine go_aload_n 48 dX5_append_47 rfl ?_
    refine go_get 51 dX5_append_48 fX5_29 wC_at0 rfl ?_
    refine go_iload 53 dX5_append_51 rfl ?_
    refine gcV1v 56 dX5_append_53 vX5_41 xc_rd rfl (XRm (ct_X3_addWord (b := b + 4 + 4 + 4 + 4) rfl (by omega))) ?_
    refine go_aload_n 57 dX5_append_56 rfl ?_
    refine go_get 60 dX5_append_57 fX5_29 wC_at0 rfl ?_
    refine go_get 63 dX5_append_60 fX5_45 xc_rd rfl ?_
    exact go_ireturn dX5_append_63 rfl (by omega) (by omega) (⟨rfl, rfl⟩)
  · exact absurd h9 (by decide)
set_option maxRecDepth 100000 in
set_option maxHeartbeats 4000000 in
theorem lpi_cc_P {l : Launch} {Γ : ZG} {w : ZW} {x : Nat} {C : CS} {D : ZD} {g : Option Nat} {sg : ZSg} (h : CR D g sg (C.1 0) D) (hG : GI sg D) {Φ : Option Value → ZW → Prop} {k : Nat} (hk : k < nP D) {R : Int64} (kk : Go l Γ mX5_checksum 7 0 0 Φ zNo 0 0 (wC Γ w x C) 55 [(0, .ref x), (1, .long R), (3, .int (nI k))] []) : ∀ (f j : Nat) (v : Int64), j + f = 6 → ckF (tellP D k) j f v = R → Go l Γ mX5_checksum 7 0 0 Φ zNo 0 0 (wC Γ w x C) 28 [(0, .ref x), (1, .long v), (3, .int (nI k)), (4, .int (nI j))] [] := by
  have hp10 := h.P10
  have hl40 := h.L40
  have hc20 := h.C20
  intro f
  induction f with
  | zero =>
    intro j v hif he
    refine go_iload 30 dX5_checksum_28 rfl ?_
    refine go_iconst 31 dX5_checksum_30 zc_5 ?_
    refine go_icmp_gt 55 34 dX5_checksum_31 (fun h31 => ?_) (fun h31 => ?_)
    · have he2 : v = R := he
      subst he2
      exact go_locals _ rfl kk
    · exact absurd (show (5 : Int32) < nI j by rw [show j = 6 by omega]; decide) h31
  | succ f ih =>
    intro j v hif he
    refine go_iload 30 dX5_checksum_28 rfl ?_
    refine go_iconst 31 dX5_checksum_30 zc_5 ?_
    refine go_icmp_gt 55 34 dX5_checksum_31 (fun h31 => ?_) (fun h31 => ?_)
    · exact absurd h31 (nI_nlt (a := 5) (by omega) (by omega))
    · refine go_ldc2 37 dX5_checksum_34 clX5_193 ?_
      refine go_lload_n 38 dX5_checksum_37 rfl ?_
      refine go_lmul 39 dX5_checksum_38 ?_
      refine go_aload_n 40 dX5_checksum_39 rfl ?_
      refine go_iload_n 41 dX5_checksum_40 rfl ?_
      refine go_iload 43 dX5_checksum_41 rfl ?_
      refine gcV2 46 dX5_checksum_43 vX5_195 wC_at0 rfl (ct_X5_party h hG rfl hk rfl (by omega) (h.inP.mpr ⟨Int32.not_lt.mp (nI_pos (by omega)), nI_lt hk (by omega)⟩)) ?_
      refine go_i2l 47 dX5_checksum_46 ?_
      refine go_ladd 48 dX5_checksum_47 ?_
      refine go_lstore_n 49 dX5_checksum_48 (by decide) ?_
      refine go_iinc 52 dX5_checksum_49 rfl (by decide) zc_1 ?_
      refine go_goto 28 dX5_checksum_52 ?_
      rw [nI_1]
      exact go_locals _ rfl (ih (j + 1) _ (by omega) he)
set_option maxRecDepth 100000 in
set_option maxHeartbeats 4000000 in
theorem lpi_cc_C {l : Launch} {Γ : ZG} {w : ZW} {x : Nat} {C : CS} {D : ZD} {g : Option Nat} {sg : ZSg} (h : CR D g sg (C.1 0) D) (hG : GI sg D) {Φ : Option Value → ZW → Prop} {k : Nat} (hk : k < nC D) {R : Int64} (kk : Go l Γ mX5_checksum 7 0 0 Φ zNo 0 0 (wC Γ w x C) 107 [(0, .ref x), (1, .long R), (3, .int (nI k))] []) : ∀ (f j : Nat) (v : Int64), j + f = 6 → ckF (tellC D k) j f v = R → Go l Γ mX5_checksum 7 0 0 Φ zNo 0 0 (wC Γ w x C) 80 [(0, .ref x), (1, .long v), (3, .int (nI k)), (4, .int (nI j))] [] := by
  have hp10 := h.P10
  have hl40 := h.L40
  have hc20 := h.C20
  intro f
  induction f with
  | zero =>
    intro j v hif he
    refine go_iload 82 dX5_checksum_80 rfl ?_
    refine go_iconst 83 dX5_checksum_82 zc_5 ?_
    refine go_icmp_gt 107 86 dX5_checksum_83 (fun h83 => ?_) (fun h83 => ?_)
    · have he2 : v = R := he
      subst he2
      exact go_locals _ rfl kk
    · exact absurd (show (5 : Int32) < nI j by rw [show j = 6 by omega]; decide) h83
  | succ f ih =>
    intro j v hif he
    refine go_iload 82 dX5_checksum_80 rfl ?_
    refine go_iconst 83 dX5_checksum_82 zc_5 ?_
    refine go_icmp_gt 107 86 dX5_checksum_83 (fun h83 => ?_) (fun h83 => ?_)
    · exact absurd h83 (nI_nlt (a := 5) (by omega) (by omega))
    · refine go_ldc2 89 dX5_checksum_86 clX5_193 ?_
      refine go_lload_n 90 dX5_checksum_89 rfl ?_
      refine go_lmul 91 dX5_checksum_90 ?_
      refine go_aload_n 92 dX5_checksum_91 rfl ?_
      refine go_iload_n 93 dX5_checksum_92 rfl ?_
      refine go_iload 95 dX5_checksum_93 rfl ?_
      refine gcV2 98 dX5_checksum_95 vX5_198 wC_at0 rfl (ct_X5_call h hG rfl hk rfl (by omega) (h.inC.mpr ⟨Int32.not_lt.mp (nI_pos (by omega)), nI_lt hk (by omega)⟩)) ?_
      refine go_i2l 99 dX5_checksum_98 ?_
      refine go_ladd 100 dX5_checksum_99 ?_
      refine go_lstore_n 101 dX5_checksum_100 (by decide) ?_
      refine go_iinc 104 dX5_checksum_101 rfl (by decide) zc_1 ?_
      refine go_goto 80 dX5_checksum_104 ?_
      rw [nI_1]
      exact go_locals _ rfl (ih (j + 1) _ (by omega) he)
set_option maxRecDepth 100000 in
set_option maxHeartbeats 4000000 in
theorem lpi_cc_L {l : Launch} {Γ : ZG} {w : ZW} {x : Nat} {C : CS} {D : ZD} {g : Option Nat} {sg : ZSg} (h : CR D g sg (C.1 0) D) (hG : GI sg D) {Φ : Option Value → ZW → Prop} {k : Nat} (hk : k < nL D) {R : Int64} (kk : Go l Γ mX5_checksum 7 0 0 Φ zNo 0 0 (wC Γ w x C) 159 [(0, .ref x), (1, .long R), (3, .int (nI k))] []) : ∀ (f j : Nat) (v : Int64), j + f = 6 → ckF (dL D k) j f v = R → Go l Γ mX5_checksum 7 0 0 Φ zNo 0 0 (wC Γ w x C) 132 [(0, .ref x), (1, .long v), (3, .int (nI k)), (4, .int (nI j))] [] := by
  have hp10 := h.P10
  have hl40 := h.L40
  have hc20 := h.C20
  intro f
  induction f with
  | zero =>
    intro j v hif he
    refine go_iload 134 dX5_checksum_132 rfl ?_
    refine go_iconst 135 dX5_checksum_134 zc_5 ?_
    refine go_icmp_gt 159 138 dX5_checksum_135 (fun h135 => ?_) (fun h135 => ?_)
    · have he2 : v = R := he
      subst he2
      exact go_locals _ rfl kk
    · exact absurd (show (5 : Int32) < nI j by rw [show j = 6 by omega]; decide) h135
  | succ f ih =>
    intro j v hif he
    refine go_iload 134 dX5_checksum_132 rfl ?_
    refine go_iconst 135 dX5_checksum_134 zc_5 ?_
    refine go_icmp_gt 159 138 dX5_checksum_135 (fun h135 => ?_) (fun h135 => ?_)
    · exact absurd h135 (nI_nlt (a := 5) (by omega) (by omega))
    · refine go_ldc2 141 dX5_checksum_138 clX5_193 ?_
      refine go_lload_n 142 dX5_checksum_141 rfl ?_
      refine go_lmul 143 dX5_checksum_142 ?_
      refine go_aload_n 144 dX5_checksum_143 rfl ?_
      refine go_iload_n 145 dX5_checksum_144 rfl ?_
      refine go_iload 147 dX5_checksum_145 rfl ?_
      refine gcV2 150 dX5_checksum_147 vX5_201 wC_at0 rfl (ct_X5_leg h rfl hk rfl (by omega) (h.inL.mpr ⟨Int32.not_lt.mp (nI_pos (by omega)), nI_lt hk (by omega)⟩) ⟨Int32.not_lt.mp (nI_pos (by omega)), nI_le (b := 5) (by omega) (by decide)⟩) ?_
      refine go_i2l 151 dX5_checksum_150 ?_
      refine go_ladd 152 dX5_checksum_151 ?_
      refine go_lstore_n 153 dX5_checksum_152 (by decide) ?_
      refine go_iinc 156 dX5_checksum_153 rfl (by decide) zc_1 ?_
      refine go_goto 132 dX5_checksum_156 ?_
      rw [nI_1]
      exact go_locals _ rfl (ih (j + 1) _ (by omega) he)
set_option maxRecDepth 100000 in
set_option maxHeartbeats 4000000 in
theorem lpo_cc_P {l : Launch} {Γ : ZG} {w : ZW} {x : Nat} {C : CS} {D : ZD} {g : Option Nat} {sg : ZSg} (h : CR D g sg (C.1 0) D) (hG : GI sg D) {Φ : Option Value → ZW → Prop} {R : Int64} (kk : Go l Γ mX5_checksum 7 0 0 Φ zNo 0 0 (wC Γ w x C) 61 [(0, .ref x), (1, .long R)] []) : ∀ (f k : Nat) (v : Int64), k + f = nP D → itr (ckP D) k f v = R → Go l Γ mX5_checksum 7 0 0 Φ zNo 0 0 (wC Γ w x C) 11 [(0, .ref x), (1, .long v), (3, .int (nI k))] [] := by
  have hp10 := h.P10
  have hl40 := h.L40
  have hc20 := h.C20
  intro f
  induction f with
  | zero =>
    intro k v hif he
    refine go_iload_n 12 dX5_checksum_11 rfl ?_
    refine go_aload_n 13 dX5_checksum_12 rfl ?_
    refine go_get 16 dX5_checksum_13 fX5_10 wC_at0 rfl ?_
    refine go_get 19 dX5_checksum_16 fX5_69 xc_now rfl ?_
    refine go_get 22 dX5_checksum_19 fX5_73 (xwP h) rfl ?_
    refine go_icmp_ge 61 25 dX5_checksum_22 (fun h22 => ?_) (fun h22 => ?_)
    · have he2 : v = R := he
      subst he2
      exact go_locals _ rfl kk
    · exact absurd (show nI (nP D) ≤ nI k from nI_le (by omega) (by omega)) h22
  | succ f ih =>
    intro k v hif he
    refine go_iload_n 12 dX5_checksum_11 rfl ?_
    refine go_aload_n 13 dX5_checksum_12 rfl ?_
    refine go_get 16 dX5_checksum_13 fX5_10 wC_at0 rfl ?_
    refine go_get 19 dX5_checksum_16 fX5_69 xc_now rfl ?_
    refine go_get 22 dX5_checksum_19 fX5_73 (xwP h) rfl ?_
    refine go_icmp_ge 61 25 dX5_checksum_22 (fun h22 => ?_) (fun h22 => ?_)
    · exact absurd h22 (nI_ge (by omega) (by omega))
    · refine go_iconst 26 dX5_checksum_25 zc_0 ?_
      refine go_istore 28 dX5_checksum_26 (by decide) ?_
      have hk : k < nP D := by omega
      refine go_locals [(0, .ref x), (1, .long v), (3, .int (nI k)), (4, .int (nI 0))] rfl ?_
      refine lpi_cc_P h hG (k := k) (R := ckF (tellP D k) 0 6 v) (by omega) ?_ 6 0 v (by omega) rfl
      refine go_iinc 58 dX5_checksum_55 rfl (by decide) zc_1 ?_
      refine go_goto 11 dX5_checksum_58 ?_
      rw [nI_1]
      exact go_locals _ rfl (ih (k + 1) _ (by omega) he)
set_option maxRecDepth 100000 in
set_option maxHeartbeats 4000000 in
theorem lpo_cc_C {l : Launch} {Γ : ZG} {w : ZW} {x : Nat} {C : CS} {D : ZD} {g : Option Nat} {sg : ZSg} (h : CR D g sg (C.1 0) D) (hG : GI sg D) {Φ : Option Value → ZW → Prop} {R : Int64} (kk : Go l Γ mX5_checksum 7 0 0 Φ zNo 0 0 (wC Γ w x C) 113 [(0, .ref x), (1, .long R)] []) : ∀ (f k : Nat) (v : Int64), k + f = nC D → itr (ckC D) k f v = R → Go l Γ mX5_checksum 7 0 0 Φ zNo 0 0 (wC Γ w x C) 63 [(0, .ref x), (1, .long v), (3, .int (nI k))] [] := by
  have hp10 := h.P10
  have hl40 := h.L40
  have hc20 := h.C20
  intro f
  induction f with
  | zero =>
    intro k v hif he
    refine go_iload_n 64 dX5_checksum_63 rfl ?_
    refine go_aload_n 65 dX5_checksum_64 rfl ?_
    refine go_get 68 dX5_checksum_65 fX5_10 wC_at0 rfl ?_
    refine go_get 71 dX5_checksum_68 fX5_81 xc_now rfl ?_
    refine go_get 74 dX5_checksum_71 fX5_73 (xwC h) rfl ?_
    refine go_icmp_ge 113 77 dX5_checksum_74 (fun h74 => ?_) (fun h74 => ?_)
    · have he2 : v = R := he
      subst he2
      exact go_locals _ rfl kk
    · exact absurd (show nI (nC D) ≤ nI k from nI_le (by omega) (by omega)) h74
  | succ f ih =>
    intro k v hif he
    refine go_iload_n 64 dX5_checksum_63 rfl ?_
    refine go_aload_n 65 dX5_checksum_64 rfl ?_
    refine go_get 68 dX5_checksum_65 fX5_10 wC_at0 rfl ?_
    refine go_get 71 dX5_checksum_68 fX5_81 xc_now rfl ?_
    refine go_get 74 dX5_checksum_71 fX5_73 (xwC h) rfl ?_
    refine go_icmp_ge 113 77 dX5_checksum_74 (fun h74 => ?_) (fun h74 => ?_)
    · exact absurd h74 (nI_ge (by omega) (by omega))
    · refine go_iconst 78 dX5_checksum_77 zc_0 ?_
      refine go_istore 80 dX5_checksum_78 (by decide) ?_
      have hk : k < nC D := by omega
      refine go_locals [(0, .ref x), (1, .long v), (3, .int (nI k)), (4, .int (nI 0))] rfl ?_
      refine lpi_cc_C h hG (k := k) (R := ckF (tellC D k) 0 6 v) (by omega) ?_ 6 0 v (by omega) rfl
      refine go_iinc 110 dX5_checksum_107 rfl (by decide) zc_1 ?_
      refine go_goto 63 dX5_checksum_110 ?_
      rw [nI_1]
      exact go_locals _ rfl (ih (k + 1) _ (by omega) he)
set_option maxRecDepth 100000 in
set_option maxHeartbeats 4000000 in
theorem lpo_cc_L {l : Launch} {Γ : ZG} {w : ZW} {x : Nat} {C : CS} {D : ZD} {g : Option Nat} {sg : ZSg} (h : CR D g sg (C.1 0) D) (hG : GI sg D) {Φ : Option Value → ZW → Prop} {R : Int64} (kk : Go l Γ mX5_checksum 7 0 0 Φ zNo 0 0 (wC Γ w x C) 193 [(0, .ref x), (1, .long R)] []) : ∀ (f k : Nat) (v : Int64), k + f = nL D → itr (ckL D) k f v = R → Go l Γ mX5_checksum 7 0 0 Φ zNo 0 0 (wC Γ w x C) 115 [(0, .ref x), (1, .long v), (3, .int (nI k))] [] := by
  have hp10 := h.P10
  have hl40 := h.L40
  have hc20 := h.C20
  intro f
  induction f with
  | zero =>
    intro k v hif he
    refine go_iload_n 116 dX5_checksum_115 rfl ?_
    refine go_aload_n 117 dX5_checksum_116 rfl ?_
    refine go_get 120 dX5_checksum_117 fX5_10 wC_at0 rfl ?_
    refine go_get 123 dX5_checksum_120 fX5_84 xc_now rfl ?_
    refine go_get 126 dX5_checksum_123 fX5_73 (xwL h) rfl ?_
    refine go_icmp_ge 193 129 dX5_checksum_126 (fun h126 => ?_) (fun h126 => ?_)
    · have he2 : v = R := he
      subst he2
      exact go_locals _ rfl kk
    · exact absurd (show nI (nL D) ≤ nI k from nI_le (by omega) (by omega)) h126
  | succ f ih =>
    intro k v hif he
    refine go_iload_n 116 dX5_checksum_115 rfl ?_
    refine go_aload_n 117 dX5_checksum_116 rfl ?_
    refine go_get 120 dX5_checksum_117 fX5_10 wC_at0 rfl ?_
    refine go_get 123 dX5_checksum_120 fX5_84 xc_now rfl ?_
    refine go_get 126 dX5_checksum_123 fX5_73 (xwL h) rfl ?_
    refine go_icmp_ge 193 129 dX5_checksum_126 (fun h126 => ?_) (fun h126 => ?_)
    · exact absurd h126 (nI_ge (by omega) (by omega))
    · refine go_iconst 130 dX5_checksum_129 zc_0 ?_
      refine go_istore 132 dX5_checksum_130 (by decide) ?_
      have hk : k < nL D := by omega
      refine go_locals [(0, .ref x), (1, .long v), (3, .int (nI k)), (4, .int (nI 0))] rfl ?_
      refine lpi_cc_L h hG (k := k) (R := ckF (dL D k) 0 6 v) (by omega) ?_ 6 0 v (by omega) rfl
      refine go_ldc2 162 dX5_checksum_159 clX5_193 ?_
      refine go_lload_n 163 dX5_checksum_162 rfl ?_
      refine go_lmul 164 dX5_checksum_163 ?_
      refine go_aload_n 165 dX5_checksum_164 rfl ?_
      refine go_iload_n 166 dX5_checksum_165 rfl ?_
      refine go_iconst 167 dX5_checksum_166 zc_0 ?_
      refine gcV2 170 dX5_checksum_167 vX5_204 wC_at0 rfl (ct_X5_repetition (j := 0) h rfl hk rfl (by decide) (h.inL.mpr ⟨Int32.not_lt.mp (nI_pos (by omega)), nI_lt hk (by omega)⟩) (by decide)) ?_
      refine go_i2l 171 dX5_checksum_170 ?_
      refine go_ladd 172 dX5_checksum_171 ?_
      refine go_lstore_n 173 dX5_checksum_172 (by decide) ?_
      refine go_ldc2 176 dX5_checksum_173 clX5_193 ?_
      refine go_lload_n 177 dX5_checksum_176 rfl ?_
      refine go_lmul 178 dX5_checksum_177 ?_
      refine go_aload_n 179 dX5_checksum_178 rfl ?_
      refine go_iload_n 180 dX5_checksum_179 rfl ?_
      refine go_iconst 181 dX5_checksum_180 zc_1 ?_
      refine gcV2 184 dX5_checksum_181 vX5_204 wC_at0 rfl (ct_X5_repetition (j := 1) h rfl hk rfl (by decide) (h.inL.mpr ⟨Int32.not_lt.mp (nI_pos (by omega)), nI_lt hk (by omega)⟩) (by decide)) ?_
      refine go_i2l 185 dX5_checksum_184 ?_
      refine go_ladd 186 dX5_checksum_185 ?_
      refine go_lstore_n 187 dX5_checksum_186 (by decide) ?_
      refine go_iinc 190 dX5_checksum_187 rfl (by decide) zc_1 ?_
      refine go_goto 115 dX5_checksum_190 ?_
      rw [nI_1]
      exact go_locals _ rfl (ih (k + 1) _ (by omega) he)
set_option maxRecDepth 100000 in
set_option maxHeartbeats 4000000 in
theorem lpo_cc_T {l : Launch} {Γ : ZG} {w : ZW} {x : Nat} {C : CS} {D : ZD} {g : Option Nat} {sg : ZSg} (h : CR D g sg (C.1 0) D) (hG : GI sg D) {Φ : Option Value → ZW → Prop} {R : Int64} (kk : Go l Γ mX5_checksum 7 0 0 Φ zNo 0 0 (wC Γ w x C) 220 [(0, .ref x), (1, .long R)] []) : ∀ (f k : Nat) (v : Int64), k + f = 7 → ckF (fun j => D (9 + j)) k f v = R → Go l Γ mX5_checksum 7 0 0 Φ zNo 0 0 (wC Γ w x C) 195 [(0, .ref x), (1, .long v), (3, .int (nI k))] [] := by
  intro f
  induction f with
  | zero =>
    intro k v hif he
    refine go_iload_n 196 dX5_checksum_195 rfl ?_
    refine go_bipush 198 dX5_checksum_196 zb_7 ?_
    refine go_icmp_ge 220 201 dX5_checksum_198 (fun h198 => ?_) (fun h198 => ?_)
    · have he2 : v = R := he
      subst he2
      exact go_locals _ rfl kk
    · exact absurd (show nI 7 ≤ nI k from nI_le (by omega) (by omega)) h198
  | succ f ih =>
    intro k v hif he
    refine go_iload_n 196 dX5_checksum_195 rfl ?_
    refine go_bipush 198 dX5_checksum_196 zb_7 ?_
    refine go_icmp_ge 220 201 dX5_checksum_198 (fun h198 => ?_) (fun h198 => ?_)
    · exact absurd h198 (nI_ge (b := 7) (by omega) (by decide))
    · refine go_ldc2 204 dX5_checksum_201 clX5_193 ?_
      refine go_lload_n 205 dX5_checksum_204 rfl ?_
      refine go_lmul 206 dX5_checksum_205 ?_
      refine go_aload_n 207 dX5_checksum_206 rfl ?_
      refine go_iload_n 208 dX5_checksum_207 rfl ?_
      refine gcV1 211 dX5_checksum_208 vX5_207 wC_at0 rfl (ct_X5_total h rfl (by omega) ⟨Int32.not_lt.mp (nI_pos (by omega)), nI_le (b := 6) (by omega) (by decide)⟩) ?_
      refine go_i2l 212 dX5_checksum_211 ?_
      refine go_ladd 213 dX5_checksum_212 ?_
      refine go_lstore_n 214 dX5_checksum_213 (by decide) ?_
      refine go_iinc 217 dX5_checksum_214 rfl (by decide) zc_1 ?_
      refine go_goto 195 dX5_checksum_217 ?_
      rw [nI_1]
      exact go_locals _ rfl (ih (k + 1) _ (by omega) he)
set_option maxRecDepth 100000 in
set_option maxHeartbeats 4000000 in
theorem ct_X5_checksum {l : Launch} {Γ : ZG} {w : ZW} {x : Nat} {C : CS} {D : ZD} {g : Option Nat} {sg : ZSg} (h : CR D g sg (C.1 0) D) (hG : GI sg D) : Cm l Γ mX5_checksum 7 [.ref x] (wC Γ w x C) (some (.long (chk D))) (wC Γ w x C) := by
  refine Cm.of (by decide) rfl (Nat.le_of_ble_eq_true rfl) ?_
  refine go_aload_n 1 dX5_checksum_0 rfl ?_
  refine go_get 4 dX5_checksum_1 fX5_10 wC_at0 rfl ?_
  refine go_get 7 dX5_checksum_4 fX5_78 xc_now rfl ?_
  rw [h.1.2.1.1]
  refine go_i2l 8 dX5_checksum_7 ?_
  refine go_lstore_n 9 dX5_checksum_8 (by decide) ?_
  refine go_iconst 10 dX5_checksum_9 zc_0 ?_
  refine go_istore_n 11 dX5_checksum_10 (by decide) ?_
  refine go_locals [(0, .ref x), (1, .long _), (3, .int (nI 0))] rfl ?_
  refine lpo_cc_P h hG ?_ (nP D) 0 _ (by omega) rfl
  refine go_iconst 62 dX5_checksum_61 zc_0 ?_
  refine go_istore_n 63 dX5_checksum_62 (by decide) ?_
  refine go_locals [(0, .ref x), (1, .long _), (3, .int (nI 0))] rfl ?_
  refine lpo_cc_C h hG ?_ (nC D) 0 _ (by omega) rfl
  refine go_iconst 114 dX5_checksum_113 zc_0 ?_
  refine go_istore_n 115 dX5_checksum_114 (by decide) ?_
  refine go_locals [(0, .ref x), (1, .long _), (3, .int (nI 0))] rfl ?_
  refine lpo_cc_L h hG ?_ (nL D) 0 _ (by omega) rfl
  refine go_iconst 194 dX5_checksum_193 zc_0 ?_
  refine go_istore_n 195 dX5_checksum_194 (by decide) ?_
  refine go_locals [(0, .ref x), (1, .long _), (3, .int (nI 0))] rfl ?_
  refine lpo_cc_T h hG ?_ 7 0 _ (by omega) rfl
  refine go_lload_n 221 dX5_checksum_220 rfl ?_
  exact go_lreturn dX5_checksum_221 rfl (by omega) (by omega) (⟨rfl, rfl⟩)
end CDial
