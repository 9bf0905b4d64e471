section MOps
set_option maxRecDepth 100000 in
set_option maxHeartbeats 4000000 in
theorem lp_X6_dial {l : Launch} {Γ : ZG} {w : ZW} {o : Nat} {S : MS} {D : ZD} {Φ : Option Value → ZW → Prop} {p x : Int32} (kk : Go l Γ mX6_dial 9 0 0 Φ zNo 0 0 (wD Γ w o S D) 80 [(0, .ref o), (1, .int p), (2, .int x), (3, .int (nI (bN x 0 10)))] []) : ∀ (f k : Nat) (a : Int32), k + f = 10 → bcnt x k f a = nI (bN x 0 10) → Go l Γ mX6_dial 9 0 0 Φ zNo 0 0 (wD Γ w o S D) 58 [(0, .ref o), (1, .int p), (2, .int x), (3, .int a), (4, .int (nI k))] [] := by
  intro f
  induction f with
  | zero =>
    intro k a hif he
    refine go_iload 60 dX6_dial_58 rfl ?_
    refine go_bipush 62 dX6_dial_60 zb_10 ?_
    refine go_icmp_ge 80 65 dX6_dial_62 (fun h62 => ?_) (fun h62 => ?_)
    · have he2 : a = nI (bN x 0 10) := he
      subst he2
      exact go_locals _ rfl kk
    · exact (lpE (a := 10) (N := 10) rfl (by omega) h62).elim
  | succ f ih =>
    intro k a hif he
    refine go_iload 60 dX6_dial_58 rfl ?_
    refine go_bipush 62 dX6_dial_60 zb_10 ?_
    refine go_icmp_ge 80 65 dX6_dial_62 (fun h62 => ?_) (fun h62 => ?_)
    · exact (lpG (a := 10) (N := 10) rfl (by decide) (by omega) h62).elim
    · refine go_iload_n 66 dX6_dial_65 rfl ?_
      refine go_iload_n 67 dX6_dial_66 rfl ?_
      refine go_iload 69 dX6_dial_67 rfl ?_
      refine go_ishr 70 dX6_dial_69 ?_
      refine go_iconst 71 dX6_dial_70 zc_1 ?_
      refine go_iand 72 dX6_dial_71 ?_
      refine go_iadd 73 dX6_dial_72 ?_
      refine go_istore_n 74 dX6_dial_73 (by decide) ?_
      refine go_iinc 77 dX6_dial_74 rfl (by decide) zc_1 ?_
      refine go_goto 58 dX6_dial_77 ?_
      rw [nI_1]
      exact go_locals _ rfl (ih (k + 1) (a + bitOf x k) (by omega) he)

set_option maxRecDepth 100000 in
set_option maxHeartbeats 4000000 in
theorem ct_X6_dial_1 {l : Launch} {Γ : ZG} {w : ZW} {o : Nat} {S : MS} {D : ZD} {p x : Int32} (h1 : ¬ (0 ≤ p ∧ p ≤ D 4 - 1)) : Cm l Γ mX6_dial 9 [.ref o, .int p, .int x] (wD Γ w o S D) (some (.int 0)) (wD Γ w o (mf (mf S 0 0) 0 1) D) := by
  refine Cm.of (by decide) rfl (Nat.le_of_ble_eq_true rfl) ?_
  refine go_aload_n 1 dX6_dial_0 rfl ?_
  refine go_iconst 2 dX6_dial_1 zc_0 ?_
  refine gd_put 5 dX6_dial_2 pX6_39 rfl (by decide) ?_
  refine go_aload_n 6 dX6_dial_5 rfl ?_
  refine go_iload_n 7 dX6_dial_6 rfl ?_
  refine gdV1 10 dX6_dial_7 vX6_274 (ct_X6_noParty_y h1 rfl) ?_
  refine go_if_ne 51 13 dX6_dial_10 (fun h10 => ?_) (fun h10 => ?_)
  · refine go_iconst 52 dX6_dial_51 zc_0 ?_
    exact go_ireturn dX6_dial_52 rfl (by omega) (by omega) (⟨rfl, rfl⟩)
  · exact absurd h10 (by decide)

set_option maxRecDepth 100000 in
set_option maxHeartbeats 4000000 in
theorem ct_X6_dial_2 {l : Launch} {Γ : ZG} {w : ZW} {o : Nat} {S : MS} {D : ZD} {p x : Int32} (h1 : 0 ≤ p ∧ p ≤ D 4 - 1) (h2 : (x ≤ 0 ∨ (1 : Int32) <<< (D 4 &&& 31) ≤ x ∨ (x >>> (p &&& 31)) &&& 1 = 1)) : Cm l Γ mX6_dial 9 [.ref o, .int p, .int x] (wD Γ w o S D) (some (.int 0)) (wD Γ w o (mf (mf S 0 0) 0 2) D) := by
  refine Cm.of (by decide) rfl (Nat.le_of_ble_eq_true rfl) ?_
  refine go_aload_n 1 dX6_dial_0 rfl ?_
  refine go_iconst 2 dX6_dial_1 zc_0 ?_
  refine gd_put 5 dX6_dial_2 pX6_39 rfl (by decide) ?_
  refine go_aload_n 6 dX6_dial_5 rfl ?_
  refine go_iload_n 7 dX6_dial_6 rfl ?_
  refine gdV1 10 dX6_dial_7 vX6_274 (ct_X6_noParty_n h1 rfl) ?_
  refine go_if_ne 51 13 dX6_dial_10 (fun h10 => ?_) (fun h10 => ?_)
  · exact absurd h10 (by decide)
  · refine go_aload_n 14 dX6_dial_13 rfl ?_
    refine go_iload_n 15 dX6_dial_14 rfl ?_
    refine go_if_le 39 18 dX6_dial_15 (fun h15 => ?_) (fun h15 => ?_)
    · refine go_iconst 40 dX6_dial_39 zc_1 ?_
      refine go_goto 44 dX6_dial_40 ?_
      refine go_iconst 45 dX6_dial_44 zc_2 ?_
      refine gdV2 48 dX6_dial_45 vX6_149 (ct_X6_fails_y rfl (by decide)) ?_
      refine go_if_eq 53 51 dX6_dial_48 (fun h48 => ?_) (fun h48 => ?_)
      · exact absurd h48 (by decide)
      · refine go_iconst 52 dX6_dial_51 zc_0 ?_
        exact go_ireturn dX6_dial_52 rfl (by omega) (by omega) (⟨rfl, rfl⟩)
    · refine go_iload_n 19 dX6_dial_18 rfl ?_
      refine go_iconst 20 dX6_dial_19 zc_1 ?_
      refine go_aload_n 21 dX6_dial_20 rfl ?_
      refine gd_get 24 dX6_dial_21 fX6_17 rfl ?_
      refine go_iconst 25 dX6_dial_24 zc_4 ?_
      refine gd_iald 26 (4) dX6_dial_25 rfl (by decide) ?_
      refine go_ishl 27 dX6_dial_26 ?_
      refine go_icmp_ge 39 30 dX6_dial_27 (fun h27 => ?_) (fun h27 => ?_)
      · refine go_iconst 40 dX6_dial_39 zc_1 ?_
        refine go_goto 44 dX6_dial_40 ?_
        refine go_iconst 45 dX6_dial_44 zc_2 ?_
        refine gdV2 48 dX6_dial_45 vX6_149 (ct_X6_fails_y rfl (by decide)) ?_
        refine go_if_eq 53 51 dX6_dial_48 (fun h48 => ?_) (fun h48 => ?_)
        · exact absurd h48 (by decide)
        · refine go_iconst 52 dX6_dial_51 zc_0 ?_
          exact go_ireturn dX6_dial_52 rfl (by omega) (by omega) (⟨rfl, rfl⟩)
      · refine go_iload_n 31 dX6_dial_30 rfl ?_
        refine go_iload_n 32 dX6_dial_31 rfl ?_
        refine go_ishr 33 dX6_dial_32 ?_
        refine go_iconst 34 dX6_dial_33 zc_1 ?_
        refine go_iand 35 dX6_dial_34 ?_
        refine go_iconst 36 dX6_dial_35 zc_1 ?_
        refine go_icmp_ne 43 39 dX6_dial_36 (fun h36 => ?_) (fun h36 => ?_)
        · exact (h2.elim h15 (fun q => q.elim h27 h36)).elim
        · refine go_iconst 40 dX6_dial_39 zc_1 ?_
          refine go_goto 44 dX6_dial_40 ?_
          refine go_iconst 45 dX6_dial_44 zc_2 ?_
          refine gdV2 48 dX6_dial_45 vX6_149 (ct_X6_fails_y rfl (by decide)) ?_
          refine go_if_eq 53 51 dX6_dial_48 (fun h48 => ?_) (fun h48 => ?_)
          · exact absurd h48 (by decide)
          · refine go_iconst 52 dX6_dial_51 zc_0 ?_
            exact go_ireturn dX6_dial_52 rfl (by omega) (by omega) (⟨rfl, rfl⟩)

set_option maxRecDepth 100000 in
set_option maxHeartbeats 4000000 in
theorem ct_X6_dial_3 {l : Launch} {Γ : ZG} {w : ZW} {o : Nat} {S : MS} {D : ZD} (hI : Iv D) {p x : Int32} (h1 : 0 ≤ p ∧ p ≤ D 4 - 1) (h2 : ¬ (x ≤ 0 ∨ (1 : Int32) <<< (D 4 &&& 31) ≤ x ∨ (x >>> (p &&& 31)) &&& 1 = 1)) (h3 : (eng D p ∨ D 5 = 20 ∨ ¬ D 6 + nI (bN x 0 10) ≤ 40)) : Cm l Γ mX6_dial 9 [.ref o, .int p, .int x] (wD Γ w o S D) (some (.int 0)) (wD Γ w o (mf (mf S 0 0) 0 3) D) := by
  refine Cm.of (by decide) rfl (Nat.le_of_ble_eq_true rfl) ?_
  refine go_aload_n 1 dX6_dial_0 rfl ?_
  refine go_iconst 2 dX6_dial_1 zc_0 ?_
  refine gd_put 5 dX6_dial_2 pX6_39 rfl (by decide) ?_
  refine go_aload_n 6 dX6_dial_5 rfl ?_
  refine go_iload_n 7 dX6_dial_6 rfl ?_
  refine gdV1 10 dX6_dial_7 vX6_274 (ct_X6_noParty_n h1 rfl) ?_
  refine go_if_ne 51 13 dX6_dial_10 (fun h10 => ?_) (fun h10 => ?_)
  · exact absurd h10 (by decide)
  · refine go_aload_n 14 dX6_dial_13 rfl ?_
    refine go_iload_n 15 dX6_dial_14 rfl ?_
    refine go_if_le 39 18 dX6_dial_15 (fun h15 => ?_) (fun h15 => ?_)
    · exact (h2 (Or.inl h15)).elim
    · refine go_iload_n 19 dX6_dial_18 rfl ?_
      refine go_iconst 20 dX6_dial_19 zc_1 ?_
      refine go_aload_n 21 dX6_dial_20 rfl ?_
      refine gd_get 24 dX6_dial_21 fX6_17 rfl ?_
      refine go_iconst 25 dX6_dial_24 zc_4 ?_
      refine gd_iald 26 (4) dX6_dial_25 rfl (by decide) ?_
      refine go_ishl 27 dX6_dial_26 ?_
      refine go_icmp_ge 39 30 dX6_dial_27 (fun h27 => ?_) (fun h27 => ?_)
      · exact (h2 (Or.inr (Or.inl h27))).elim
      · refine go_iload_n 31 dX6_dial_30 rfl ?_
        refine go_iload_n 32 dX6_dial_31 rfl ?_
        refine go_ishr 33 dX6_dial_32 ?_
        refine go_iconst 34 dX6_dial_33 zc_1 ?_
        refine go_iand 35 dX6_dial_34 ?_
        refine go_iconst 36 dX6_dial_35 zc_1 ?_
        refine go_icmp_ne 43 39 dX6_dial_36 (fun h36 => ?_) (fun h36 => ?_)
        · refine go_iconst 44 dX6_dial_43 zc_0 ?_
          refine go_iconst 45 dX6_dial_44 zc_2 ?_
          refine gdV2 48 dX6_dial_45 vX6_149 (ct_X6_fails_n rfl) ?_
          refine go_if_eq 53 51 dX6_dial_48 (fun h48 => ?_) (fun h48 => ?_)
          · refine go_iconst 54 dX6_dial_53 zc_0 ?_
            refine go_istore_n 55 dX6_dial_54 (by decide) ?_
            refine go_iconst 56 dX6_dial_55 zc_0 ?_
            refine go_istore 58 dX6_dial_56 (by decide) ?_
            refine go_locals [(0, .ref o), (1, .int p), (2, .int x), (3, .int 0), (4, .int (nI 0))] rfl ?_
            refine lp_X6_dial ?_ 10 0 0 (by omega) (by have := bcnt_eq (x := x) 10 0 0; rw [Nat.zero_add] at this; exact this)
            refine go_aload_n 81 dX6_dial_80 rfl ?_
            refine go_aload_n 82 dX6_dial_81 rfl ?_
            refine go_iload_n 83 dX6_dial_82 rfl ?_
            refine gdV1 86 dX6_dial_83 vX6_234 (ct_X6_isEngaged hI.1) ?_
            refine go_if_ne 114 89 dX6_dial_86 (fun h86 => ?_) (fun h86 => ?_)
            · refine go_iconst 115 dX6_dial_114 zc_1 ?_
              refine go_goto 119 dX6_dial_115 ?_
              refine go_iconst 120 dX6_dial_119 zc_3 ?_
              refine gdV2 123 dX6_dial_120 vX6_149 (ct_X6_fails_y rfl (by decide)) ?_
              refine go_if_eq 128 126 dX6_dial_123 (fun h123 => ?_) (fun h123 => ?_)
              · exact absurd h123 (by decide)
              · refine go_iconst 127 dX6_dial_126 zc_0 ?_
                exact go_ireturn dX6_dial_127 rfl (by omega) (by omega) (⟨rfl, rfl⟩)
            · refine go_aload_n 90 dX6_dial_89 rfl ?_
              refine gd_get 93 dX6_dial_90 fX6_17 rfl ?_
              refine go_iconst 94 dX6_dial_93 zc_5 ?_
              refine gd_iald 95 (5) dX6_dial_94 rfl (by decide) ?_
              refine go_bipush 97 dX6_dial_95 zb_20 ?_
              refine go_icmp_eq 114 100 dX6_dial_97 (fun h97 => ?_) (fun h97 => ?_)
              · refine go_iconst 115 dX6_dial_114 zc_1 ?_
                refine go_goto 119 dX6_dial_115 ?_
                refine go_iconst 120 dX6_dial_119 zc_3 ?_
                refine gdV2 123 dX6_dial_120 vX6_149 (ct_X6_fails_y rfl (by decide)) ?_
                refine go_if_eq 128 126 dX6_dial_123 (fun h123 => ?_) (fun h123 => ?_)
                · exact absurd h123 (by decide)
                · refine go_iconst 127 dX6_dial_126 zc_0 ?_
                  exact go_ireturn dX6_dial_127 rfl (by omega) (by omega) (⟨rfl, rfl⟩)
              · refine go_aload_n 101 dX6_dial_100 rfl ?_
                refine gd_get 104 dX6_dial_101 fX6_17 rfl ?_
                refine go_bipush 106 dX6_dial_104 zb_6 ?_
                refine gd_iald 107 (6) dX6_dial_106 rfl (by decide) ?_
                refine go_iload_n 108 dX6_dial_107 rfl ?_
                refine go_iadd 109 dX6_dial_108 ?_
                refine go_bipush 111 dX6_dial_109 zb_40 ?_
                refine go_icmp_le 118 114 dX6_dial_111 (fun h111 => ?_) (fun h111 => ?_)
                · exact (h3.elim (fun q => by first | exact zb_0 h86 q | exact zb_0 (Classical.not_not.mp h86) q) (fun q => q.elim h97 (fun q => q h111))).elim
                · refine go_iconst 115 dX6_dial_114 zc_1 ?_
                  refine go_goto 119 dX6_dial_115 ?_
                  refine go_iconst 120 dX6_dial_119 zc_3 ?_
                  refine gdV2 123 dX6_dial_120 vX6_149 (ct_X6_fails_y rfl (by decide)) ?_
                  refine go_if_eq 128 126 dX6_dial_123 (fun h123 => ?_) (fun h123 => ?_)
                  · exact absurd h123 (by decide)
                  · refine go_iconst 127 dX6_dial_126 zc_0 ?_
                    exact go_ireturn dX6_dial_127 rfl (by omega) (by omega) (⟨rfl, rfl⟩)
          · exact absurd h48 (by decide)
        · exact (h2 (Or.inr (Or.inr h36))).elim

set_option maxRecDepth 100000 in
set_option maxHeartbeats 4000000 in
theorem ct_X6_dial {l : Launch} {Γ : ZG} {w : ZW} {o : Nat} {S : MS} {D : ZD} (hI : Iv D) {cs : List Int32} {q : Nat} {p x : Int32} {u : Nat} (hU : S.1 12 = nI u) (hu : u ≤ 8) (hp : p = nI q) (hq : q < nP D) (hC : nC D < 20) (hR : RC D cs) (hb : ∀ j, j < 10 → bitOf x j = 1 → j < nP D) (hL : nL D + bN x 0 10 ≤ 40) (h1 : 0 ≤ p ∧ p ≤ D 4 - 1) (h2 : ¬ (x ≤ 0 ∨ (1 : Int32) <<< (D 4 &&& 31) ≤ x ∨ (x >>> (p &&& 31)) &&& 1 = 1)) (h3 : ¬ (eng D p ∨ D 5 = 20 ∨ ¬ D 6 + nI (bN x 0 10) ≤ 40)) : Ct l Γ mX6_dial 9 0 0 [.ref o, .int p, .int x] (wD Γ w o S D) (fun v w2 => v = some (.int (begN D p x (ringV (nI (bN x 0 10)) p 0 (D 0) cs) (-1))) ∧ ∃ g, w2 = wD Γ w o (ml (remM (mf S 0 0) D u) g) (begD D p x (ringV (nI (bN x 0 10)) p 0 (D 0) cs) (-1))) zNo := by
  subst hp
  refine Ct.of (by decide) rfl (Nat.le_of_ble_eq_true rfl) ?_
  refine go_aload_n 1 dX6_dial_0 rfl ?_
  refine go_iconst 2 dX6_dial_1 zc_0 ?_
  refine gd_put 5 dX6_dial_2 pX6_39 rfl (by decide) ?_
  refine go_aload_n 6 dX6_dial_5 rfl ?_
  refine go_iload_n 7 dX6_dial_6 rfl ?_
  refine gdV1 10 dX6_dial_7 vX6_274 (ct_X6_noParty_n h1 rfl) ?_
  refine go_if_ne 51 13 dX6_dial_10 (fun h10 => ?_) (fun h10 => ?_)
  · exact absurd h10 (by decide)
  · refine go_aload_n 14 dX6_dial_13 rfl ?_
    refine go_iload_n 15 dX6_dial_14 rfl ?_
    refine go_if_le 39 18 dX6_dial_15 (fun h15 => ?_) (fun h15 => ?_)
    · exact (h2 (Or.inl h15)).elim
    · refine go_iload_n 19 dX6_dial_18 rfl ?_
      refine go_iconst 20 dX6_dial_19 zc_1 ?_
      refine go_aload_n 21 dX6_dial_20 rfl ?_
      refine gd_get 24 dX6_dial_21 fX6_17 rfl ?_
      refine go_iconst 25 dX6_dial_24 zc_4 ?_
      refine gd_iald 26 (4) dX6_dial_25 rfl (by decide) ?_
      refine go_ishl 27 dX6_dial_26 ?_
      refine go_icmp_ge 39 30 dX6_dial_27 (fun h27 => ?_) (fun h27 => ?_)
      · exact (h2 (Or.inr (Or.inl h27))).elim
      · refine go_iload_n 31 dX6_dial_30 rfl ?_
        refine go_iload_n 32 dX6_dial_31 rfl ?_
        refine go_ishr 33 dX6_dial_32 ?_
        refine go_iconst 34 dX6_dial_33 zc_1 ?_
        refine go_iand 35 dX6_dial_34 ?_
        refine go_iconst 36 dX6_dial_35 zc_1 ?_
        refine go_icmp_ne 43 39 dX6_dial_36 (fun h36 => ?_) (fun h36 => ?_)
        · refine go_iconst 44 dX6_dial_43 zc_0 ?_
          refine go_iconst 45 dX6_dial_44 zc_2 ?_
          refine gdV2 48 dX6_dial_45 vX6_149 (ct_X6_fails_n rfl) ?_
          refine go_if_eq 53 51 dX6_dial_48 (fun h48 => ?_) (fun h48 => ?_)
          · refine go_iconst 54 dX6_dial_53 zc_0 ?_
            refine go_istore_n 55 dX6_dial_54 (by decide) ?_
            refine go_iconst 56 dX6_dial_55 zc_0 ?_
            refine go_istore 58 dX6_dial_56 (by decide) ?_
            refine go_locals [(0, .ref o), (1, .int (nI q)), (2, .int x), (3, .int 0), (4, .int (nI 0))] rfl ?_
            refine lp_X6_dial ?_ 10 0 0 (by omega) (by have := bcnt_eq (x := x) 10 0 0; rw [Nat.zero_add] at this; exact this)
            refine go_aload_n 81 dX6_dial_80 rfl ?_
            refine go_aload_n 82 dX6_dial_81 rfl ?_
            refine go_iload_n 83 dX6_dial_82 rfl ?_
            refine gdV1 86 dX6_dial_83 vX6_234 (ct_X6_isEngaged hI.1) ?_
            refine go_if_ne 114 89 dX6_dial_86 (fun h86 => ?_) (fun h86 => ?_)
            · exact (h3 (Or.inl (zb_1 h86))).elim
            · refine go_aload_n 90 dX6_dial_89 rfl ?_
              refine gd_get 93 dX6_dial_90 fX6_17 rfl ?_
              refine go_iconst 94 dX6_dial_93 zc_5 ?_
              refine gd_iald 95 (5) dX6_dial_94 rfl (by decide) ?_
              refine go_bipush 97 dX6_dial_95 zb_20 ?_
              refine go_icmp_eq 114 100 dX6_dial_97 (fun h97 => ?_) (fun h97 => ?_)
              · exact (h3 (Or.inr (Or.inl h97))).elim
              · refine go_aload_n 101 dX6_dial_100 rfl ?_
                refine gd_get 104 dX6_dial_101 fX6_17 rfl ?_
                refine go_bipush 106 dX6_dial_104 zb_6 ?_
                refine gd_iald 107 (6) dX6_dial_106 rfl (by decide) ?_
                refine go_iload_n 108 dX6_dial_107 rfl ?_
                refine go_iadd 109 dX6_dial_108 ?_
                refine go_bipush 111 dX6_dial_109 zb_40 ?_
                refine go_icmp_le 118 114 dX6_dial_111 (fun h111 => ?_) (fun h111 => ?_)
                · refine go_iconst 119 dX6_dial_118 zc_0 ?_
                  refine go_iconst 120 dX6_dial_119 zc_3 ?_
                  refine gdV2 123 dX6_dial_120 vX6_149 (ct_X6_fails_n rfl) ?_
                  refine go_if_eq 128 126 dX6_dial_123 (fun h123 => ?_) (fun h123 => ?_)
                  · refine go_aload_n 129 dX6_dial_128 rfl ?_
                    refine gdV0v 132 dX6_dial_129 vX6_158 (ct_X6_remember (u := u) hU hu) ?_
                    refine go_aload_n 133 dX6_dial_132 rfl ?_
                    refine go_iload_n 134 dX6_dial_133 rfl ?_
                    refine go_iload_n 135 dX6_dial_134 rfl ?_
                    refine go_iconst 136 dX6_dial_135 zc_m1 ?_
                    refine gdVE3 139 dX6_dial_136 vX6_298 (ct_X6_beginCall_a (cs := cs) hI hC hq hR hb hL) (fun g136 => ?_)
                    exact go_ireturn dX6_dial_139 rfl (by omega) (by omega) (⟨rfl, g136, rfl⟩)
                  · exact absurd h123 (by decide)
                · exact (h3 (Or.inr (Or.inr h111))).elim
          · exact absurd h48 (by decide)
        · exact (h2 (Or.inr (Or.inr h36))).elim

set_option maxRecDepth 100000 in
set_option maxHeartbeats 4000000 in
theorem ct_X6_transfer_1 {l : Launch} {Γ : ZG} {w : ZW} {o : Nat} {S : MS} {D : ZD} {p t : Int32} (h1 : ¬ (0 ≤ p ∧ p ≤ D 4 - 1)) : Cm l Γ mX6_transfer 9 [.ref o, .int p, .int t] (wD Γ w o S D) (some (.int 0)) (wD Γ w o (mf (mf S 0 0) 0 1) D) := by
  refine Cm.of (by decide) rfl (Nat.le_of_ble_eq_true rfl) ?_
  refine go_aload_n 1 dX6_transfer_0 rfl ?_
  refine go_iconst 2 dX6_transfer_1 zc_0 ?_
  refine gd_put 5 dX6_transfer_2 pX6_39 rfl (by decide) ?_
  refine go_aload_n 6 dX6_transfer_5 rfl ?_
  refine go_iload_n 7 dX6_transfer_6 rfl ?_
  refine gdV1 10 dX6_transfer_7 vX6_274 (ct_X6_noParty_y h1 rfl) ?_
  refine go_if_ne 21 13 dX6_transfer_10 (fun h10 => ?_) (fun h10 => ?_)
  · refine go_iconst 22 dX6_transfer_21 zc_0 ?_
    exact go_ireturn dX6_transfer_22 rfl (by omega) (by omega) (⟨rfl, rfl⟩)
  · exact absurd h10 (by decide)

set_option maxRecDepth 100000 in
set_option maxHeartbeats 4000000 in
theorem ct_X6_transfer_1b {l : Launch} {Γ : ZG} {w : ZW} {o : Nat} {S : MS} {D : ZD} {p t : Int32} (h1 : 0 ≤ p ∧ p ≤ D 4 - 1) (h2 : ¬ (0 ≤ t ∧ t ≤ D 4 - 1)) : Cm l Γ mX6_transfer 9 [.ref o, .int p, .int t] (wD Γ w o S D) (some (.int 0)) (wD Γ w o (mf (mf S 0 0) 0 1) D) := by
  refine Cm.of (by decide) rfl (Nat.le_of_ble_eq_true rfl) ?_
  refine go_aload_n 1 dX6_transfer_0 rfl ?_
  refine go_iconst 2 dX6_transfer_1 zc_0 ?_
  refine gd_put 5 dX6_transfer_2 pX6_39 rfl (by decide) ?_
  refine go_aload_n 6 dX6_transfer_5 rfl ?_
  refine go_iload_n 7 dX6_transfer_6 rfl ?_
  refine gdV1 10 dX6_transfer_7 vX6_274 (ct_X6_noParty_n h1 rfl) ?_
  refine go_if_ne 21 13 dX6_transfer_10 (fun h10 => ?_) (fun h10 => ?_)
  · exact absurd h10 (by decide)
  · refine go_aload_n 14 dX6_transfer_13 rfl ?_
    refine go_iload_n 15 dX6_transfer_14 rfl ?_
    refine gdV1 18 dX6_transfer_15 vX6_274 (ct_X6_noParty_y h2 rfl) ?_
    refine go_if_eq 23 21 dX6_transfer_18 (fun h18 => ?_) (fun h18 => ?_)
    · exact absurd h18 (by decide)
    · refine go_iconst 22 dX6_transfer_21 zc_0 ?_
      exact go_ireturn dX6_transfer_22 rfl (by omega) (by omega) (⟨rfl, rfl⟩)

set_option maxRecDepth 100000 in
set_option maxHeartbeats 4000000 in
theorem ct_X6_transfer_2 {l : Launch} {Γ : ZG} {w : ZW} {o : Nat} {S : MS} {D : ZD} (hI : Iv D) {p t : Int32} (h1 : 0 ≤ p ∧ p ≤ D 4 - 1) (h2 : 0 ≤ t ∧ t ≤ D 4 - 1) (h4 : (legW D p 1 = -1 ∨ D 5 = 20 ∨ D 6 = 40)) : Cm l Γ mX6_transfer 9 [.ref o, .int p, .int t] (wD Γ w o S D) (some (.int 0)) (wD Γ w o (mf (mf S 0 0) 0 2) D) := by
  refine Cm.of (by decide) rfl (Nat.le_of_ble_eq_true rfl) ?_
  refine go_aload_n 1 dX6_transfer_0 rfl ?_
  refine go_iconst 2 dX6_transfer_1 zc_0 ?_
  refine gd_put 5 dX6_transfer_2 pX6_39 rfl (by decide) ?_
  refine go_aload_n 6 dX6_transfer_5 rfl ?_
  refine go_iload_n 7 dX6_transfer_6 rfl ?_
  refine gdV1 10 dX6_transfer_7 vX6_274 (ct_X6_noParty_n h1 rfl) ?_
  refine go_if_ne 21 13 dX6_transfer_10 (fun h10 => ?_) (fun h10 => ?_)
  · exact absurd h10 (by decide)
  · refine go_aload_n 14 dX6_transfer_13 rfl ?_
    refine go_iload_n 15 dX6_transfer_14 rfl ?_
    refine gdV1 18 dX6_transfer_15 vX6_274 (ct_X6_noParty_n h2 rfl) ?_
    refine go_if_eq 23 21 dX6_transfer_18 (fun h18 => ?_) (fun h18 => ?_)
    · refine go_aload_n 24 dX6_transfer_23 rfl ?_
      refine go_iload_n 25 dX6_transfer_24 rfl ?_
      refine go_iconst 26 dX6_transfer_25 zc_1 ?_
      refine gdV2 29 dX6_transfer_26 vX6_190 (ct_X6_legWith hI.1) ?_
      refine go_istore_n 30 dX6_transfer_29 (by decide) ?_
      refine go_aload_n 31 dX6_transfer_30 rfl ?_
      refine go_iload_n 32 dX6_transfer_31 rfl ?_
      refine go_iconst 33 dX6_transfer_32 zc_m1 ?_
      refine go_icmp_eq 59 36 dX6_transfer_33 (fun h33 => ?_) (fun h33 => ?_)
      · refine go_iconst 60 dX6_transfer_59 zc_1 ?_
        refine go_goto 64 dX6_transfer_60 ?_
        refine go_iconst 65 dX6_transfer_64 zc_2 ?_
        refine gdV2 68 dX6_transfer_65 vX6_149 (ct_X6_fails_y rfl (by decide)) ?_
        refine go_if_ne 85 71 dX6_transfer_68 (fun h68 => ?_) (fun h68 => ?_)
        · refine go_iconst 86 dX6_transfer_85 zc_0 ?_
          exact go_ireturn dX6_transfer_86 rfl (by omega) (by omega) (⟨rfl, rfl⟩)
        · exact absurd h68 (by decide)
      · refine go_aload_n 37 dX6_transfer_36 rfl ?_
        refine gd_get 40 dX6_transfer_37 fX6_17 rfl ?_
        refine go_iconst 41 dX6_transfer_40 zc_5 ?_
        refine gd_iald 42 (5) dX6_transfer_41 rfl (by decide) ?_
        refine go_bipush 44 dX6_transfer_42 zb_20 ?_
        refine go_icmp_eq 59 47 dX6_transfer_44 (fun h44 => ?_) (fun h44 => ?_)
        · refine go_iconst 60 dX6_transfer_59 zc_1 ?_
          refine go_goto 64 dX6_transfer_60 ?_
          refine go_iconst 65 dX6_transfer_64 zc_2 ?_
          refine gdV2 68 dX6_transfer_65 vX6_149 (ct_X6_fails_y rfl (by decide)) ?_
          refine go_if_ne 85 71 dX6_transfer_68 (fun h68 => ?_) (fun h68 => ?_)
          · refine go_iconst 86 dX6_transfer_85 zc_0 ?_
            exact go_ireturn dX6_transfer_86 rfl (by omega) (by omega) (⟨rfl, rfl⟩)
          · exact absurd h68 (by decide)
        · refine go_aload_n 48 dX6_transfer_47 rfl ?_
          refine gd_get 51 dX6_transfer_48 fX6_17 rfl ?_
          refine go_bipush 53 dX6_transfer_51 zb_6 ?_
          refine gd_iald 54 (6) dX6_transfer_53 rfl (by decide) ?_
          refine go_bipush 56 dX6_transfer_54 zb_40 ?_
          refine go_icmp_ne 63 59 dX6_transfer_56 (fun h56 => ?_) (fun h56 => ?_)
          · exact (h4.elim h33 (fun q => q.elim h44 h56)).elim
          · refine go_iconst 60 dX6_transfer_59 zc_1 ?_
            refine go_goto 64 dX6_transfer_60 ?_
            refine go_iconst 65 dX6_transfer_64 zc_2 ?_
            refine gdV2 68 dX6_transfer_65 vX6_149 (ct_X6_fails_y rfl (by decide)) ?_
            refine go_if_ne 85 71 dX6_transfer_68 (fun h68 => ?_) (fun h68 => ?_)
            · refine go_iconst 86 dX6_transfer_85 zc_0 ?_
              exact go_ireturn dX6_transfer_86 rfl (by omega) (by omega) (⟨rfl, rfl⟩)
            · exact absurd h68 (by decide)
    · exact absurd h18 (by decide)

set_option maxRecDepth 100000 in
set_option maxHeartbeats 4000000 in
theorem ct_X6_transfer_3 {l : Launch} {Γ : ZG} {w : ZW} {o : Nat} {S : MS} {D : ZD} (hI : Iv D) {p t : Int32} (h1 : 0 ≤ p ∧ p ≤ D 4 - 1) (h2 : 0 ≤ t ∧ t ≤ D 4 - 1) (h4 : ¬ (legW D p 1 = -1 ∨ D 5 = 20 ∨ D 6 = 40)) (h5 : inLeg D t (tN (legW D p 1))) : Cm l Γ mX6_transfer 9 [.ref o, .int p, .int t] (wD Γ w o S D) (some (.int 0)) (wD Γ w o (mf (mf S 0 0) 0 3) D) := by
  have hl40 : nL D ≤ 40 := hI.1.2.2.1.2
  have hc20 : nC D ≤ 20 := hI.1.2.1.2
  have hk : legW D p 1 = nI (tN (legW D p 1)) ∧ tN (legW D p 1) < nL D ∧ dL D (tN (legW D p 1)) 2 = 1 ∧ inLeg D p (tN (legW D p 1)) := zfind_ok (n := nL D) (by omega) (fun q => h4 (Or.inl q))
  refine Cm.of (by decide) rfl (Nat.le_of_ble_eq_true rfl) ?_
  refine go_aload_n 1 dX6_transfer_0 rfl ?_
  refine go_iconst 2 dX6_transfer_1 zc_0 ?_
  refine gd_put 5 dX6_transfer_2 pX6_39 rfl (by decide) ?_
  refine go_aload_n 6 dX6_transfer_5 rfl ?_
  refine go_iload_n 7 dX6_transfer_6 rfl ?_
  refine gdV1 10 dX6_transfer_7 vX6_274 (ct_X6_noParty_n h1 rfl) ?_
  refine go_if_ne 21 13 dX6_transfer_10 (fun h10 => ?_) (fun h10 => ?_)
  · exact absurd h10 (by decide)
  · refine go_aload_n 14 dX6_transfer_13 rfl ?_
    refine go_iload_n 15 dX6_transfer_14 rfl ?_
    refine gdV1 18 dX6_transfer_15 vX6_274 (ct_X6_noParty_n h2 rfl) ?_
    refine go_if_eq 23 21 dX6_transfer_18 (fun h18 => ?_) (fun h18 => ?_)
    · refine go_aload_n 24 dX6_transfer_23 rfl ?_
      refine go_iload_n 25 dX6_transfer_24 rfl ?_
      refine go_iconst 26 dX6_transfer_25 zc_1 ?_
      refine gdV2 29 dX6_transfer_26 vX6_190 (ct_X6_legWith hI.1) ?_
      refine go_istore_n 30 dX6_transfer_29 (by decide) ?_
      refine go_aload_n 31 dX6_transfer_30 rfl ?_
      refine go_iload_n 32 dX6_transfer_31 rfl ?_
      refine go_iconst 33 dX6_transfer_32 zc_m1 ?_
      refine go_icmp_eq 59 36 dX6_transfer_33 (fun h33 => ?_) (fun h33 => ?_)
      · exact (h4 (Or.inl h33)).elim
      · refine go_aload_n 37 dX6_transfer_36 rfl ?_
        refine gd_get 40 dX6_transfer_37 fX6_17 rfl ?_
        refine go_iconst 41 dX6_transfer_40 zc_5 ?_
        refine gd_iald 42 (5) dX6_transfer_41 rfl (by decide) ?_
        refine go_bipush 44 dX6_transfer_42 zb_20 ?_
        refine go_icmp_eq 59 47 dX6_transfer_44 (fun h44 => ?_) (fun h44 => ?_)
        · exact (h4 (Or.inr (Or.inl h44))).elim
        · refine go_aload_n 48 dX6_transfer_47 rfl ?_
          refine gd_get 51 dX6_transfer_48 fX6_17 rfl ?_
          refine go_bipush 53 dX6_transfer_51 zb_6 ?_
          refine gd_iald 54 (6) dX6_transfer_53 rfl (by decide) ?_
          refine go_bipush 56 dX6_transfer_54 zb_40 ?_
          refine go_icmp_ne 63 59 dX6_transfer_56 (fun h56 => ?_) (fun h56 => ?_)
          · refine go_iconst 64 dX6_transfer_63 zc_0 ?_
            refine go_iconst 65 dX6_transfer_64 zc_2 ?_
            refine gdV2 68 dX6_transfer_65 vX6_149 (ct_X6_fails_n rfl) ?_
            refine go_if_ne 85 71 dX6_transfer_68 (fun h68 => ?_) (fun h68 => ?_)
            · exact absurd h68 (by decide)
            · refine go_aload_n 72 dX6_transfer_71 rfl ?_
              refine go_aload_n 73 dX6_transfer_72 rfl ?_
              refine go_iload_n 74 dX6_transfer_73 rfl ?_
              refine go_iload_n 75 dX6_transfer_74 rfl ?_
              refine gdV2 78 dX6_transfer_75 vX6_184 (ct_X6_isIn hI.1 hk.1 hk.2.1) ?_
              refine go_iconst 79 dX6_transfer_78 zc_3 ?_
              rw [zb_t h5]
              refine gdV2 82 dX6_transfer_79 vX6_149 (ct_X6_fails_y rfl (by decide)) ?_
              refine go_if_eq 87 85 dX6_transfer_82 (fun h82 => ?_) (fun h82 => ?_)
              · exact absurd h82 (by decide)
              · refine go_iconst 86 dX6_transfer_85 zc_0 ?_
                exact go_ireturn dX6_transfer_86 rfl (by omega) (by omega) (⟨rfl, rfl⟩)
          · exact (h4 (Or.inr (Or.inr h56))).elim
    · exact absurd h18 (by decide)

set_option maxRecDepth 100000 in
set_option maxHeartbeats 4000000 in
theorem ct_X6_transfer {l : Launch} {Γ : ZG} {w : ZW} {o : Nat} {S : MS} {D : ZD} (hI : Iv D) {cs : List Int32} {q : Nat} {p t : Int32} {u : Nat} (hU : S.1 12 = nI u) (hu : u ≤ 8) (hq : (if clr D (tN (legW D p 1)) = p then dL D (tN (legW D p 1)) 1 else clr D (tN (legW D p 1))) = nI q ∧ q < nP D) (hC : nC D < 20) (hR : RC D cs) (hb : ∀ j, j < 10 → bitOf ((1 : Int32) <<< (t &&& 31)) j = 1 → j < nP D) (hL : nL D + bN ((1 : Int32) <<< (t &&& 31)) 0 10 ≤ 40) (h1 : 0 ≤ p ∧ p ≤ D 4 - 1) (h2 : 0 ≤ t ∧ t ≤ D 4 - 1) (h4 : ¬ (legW D p 1 = -1 ∨ D 5 = 20 ∨ D 6 = 40)) (h5 : ¬ inLeg D t (tN (legW D p 1))) : Ct l Γ mX6_transfer 9 0 0 [.ref o, .int p, .int t] (wD Γ w o S D) (fun v w2 => v = some (.int (begN (dropD (setL D (tN (legW D p 1)) 2 2) (tN (legW D p 1))) (nI q) ((1 : Int32) <<< (t &&& 31)) (ringV (nI (bN ((1 : Int32) <<< (t &&& 31)) 0 10)) (nI q) 1 ((dropD (setL D (tN (legW D p 1)) 2 2) (tN (legW D p 1))) 0) cs) (nI (tN (legW D p 1))))) ∧ ∃ g, w2 = wD Γ w o (ml (remM (mf S 0 0) D u) g) (begD (dropD (setL D (tN (legW D p 1)) 2 2) (tN (legW D p 1))) (nI q) ((1 : Int32) <<< (t &&& 31)) (ringV (nI (bN ((1 : Int32) <<< (t &&& 31)) 0 10)) (nI q) 1 ((dropD (setL D (tN (legW D p 1)) 2 2) (tN (legW D p 1))) 0) cs) (nI (tN (legW D p 1))))) zNo := by
  have hl40 : nL D ≤ 40 := hI.1.2.2.1.2
  have hc20 : nC D ≤ 20 := hI.1.2.1.2
  have hk : legW D p 1 = nI (tN (legW D p 1)) ∧ tN (legW D p 1) < nL D ∧ dL D (tN (legW D p 1)) 2 = 1 ∧ inLeg D p (tN (legW D p 1)) := zfind_ok (n := nL D) (by omega) (fun q => h4 (Or.inl q))
  have hsm : Same D (dropD (setL D (tN (legW D p 1)) 2 2) (tN (legW D p 1))) := (sm_setL (by decide) (by decide)).trans sm_drop
  have hbc := ct_X6_beginCall_b (l := l) (Γ := Γ) (w := w) (o := o) (S := remM (mf S 0 0) D u) (cs := cs) (q := q) (r := (tN (legW D p 1))) (x := ((1 : Int32) <<< (t &&& 31))) (hI.same hsm) (by rw [sm_nC hsm]; exact hC) (by rw [sm_nP hsm]; exact hq.2) (by rw [sm_nL hsm]; exact hk.2.1) (RC_same hR (fun i hi => by
    have hk2 : (tN (legW D p 1)) < 40 := Nat.lt_of_lt_of_le hk.2.1 hl40
    unfold dropD setL upd
    rw [if_neg (by omega), if_neg (by omega), if_neg (by omega), if_neg (by omega)])) (fun j h1 h2 => by rw [sm_nP hsm]; exact hb j h1 h2) (by rw [sm_nL hsm]; exact hL)
  refine Ct.of (by decide) rfl (Nat.le_of_ble_eq_true rfl) ?_
  refine go_aload_n 1 dX6_transfer_0 rfl ?_
  refine go_iconst 2 dX6_transfer_1 zc_0 ?_
  refine gd_put 5 dX6_transfer_2 pX6_39 rfl (by decide) ?_
  refine go_aload_n 6 dX6_transfer_5 rfl ?_
  refine go_iload_n 7 dX6_transfer_6 rfl ?_
  refine gdV1 10 dX6_transfer_7 vX6_274 (ct_X6_noParty_n h1 rfl) ?_
  refine go_if_ne 21 13 dX6_transfer_10 (fun h10 => ?_) (fun h10 => ?_)
  · exact absurd h10 (by decide)
  · refine go_aload_n 14 dX6_transfer_13 rfl ?_
    refine go_iload_n 15 dX6_transfer_14 rfl ?_
    refine gdV1 18 dX6_transfer_15 vX6_274 (ct_X6_noParty_n h2 rfl) ?_
    refine go_if_eq 23 21 dX6_transfer_18 (fun h18 => ?_) (fun h18 => ?_)
    · refine go_aload_n 24 dX6_transfer_23 rfl ?_
      refine go_iload_n 25 dX6_transfer_24 rfl ?_
      refine go_iconst 26 dX6_transfer_25 zc_1 ?_
      refine gdV2 29 dX6_transfer_26 vX6_190 (ct_X6_legWith hI.1) ?_
      refine go_istore_n 30 dX6_transfer_29 (by decide) ?_
      refine go_aload_n 31 dX6_transfer_30 rfl ?_
      refine go_iload_n 32 dX6_transfer_31 rfl ?_
      refine go_iconst 33 dX6_transfer_32 zc_m1 ?_
      refine go_icmp_eq 59 36 dX6_transfer_33 (fun h33 => ?_) (fun h33 => ?_)
      · exact (h4 (Or.inl h33)).elim
      · refine go_aload_n 37 dX6_transfer_36 rfl ?_
        refine gd_get 40 dX6_transfer_37 fX6_17 rfl ?_
        refine go_iconst 41 dX6_transfer_40 zc_5 ?_
        refine gd_iald 42 (5) dX6_transfer_41 rfl (by decide) ?_
        refine go_bipush 44 dX6_transfer_42 zb_20 ?_
        refine go_icmp_eq 59 47 dX6_transfer_44 (fun h44 => ?_) (fun h44 => ?_)
        · exact (h4 (Or.inr (Or.inl h44))).elim
        · refine go_aload_n 48 dX6_transfer_47 rfl ?_
          refine gd_get 51 dX6_transfer_48 fX6_17 rfl ?_
          refine go_bipush 53 dX6_transfer_51 zb_6 ?_
          refine gd_iald 54 (6) dX6_transfer_53 rfl (by decide) ?_
          refine go_bipush 56 dX6_transfer_54 zb_40 ?_
          refine go_icmp_ne 63 59 dX6_transfer_56 (fun h56 => ?_) (fun h56 => ?_)
          · refine go_iconst 64 dX6_transfer_63 zc_0 ?_
            refine go_iconst 65 dX6_transfer_64 zc_2 ?_
            refine gdV2 68 dX6_transfer_65 vX6_149 (ct_X6_fails_n rfl) ?_
            refine go_if_ne 85 71 dX6_transfer_68 (fun h68 => ?_) (fun h68 => ?_)
            · exact absurd h68 (by decide)
            · refine go_aload_n 72 dX6_transfer_71 rfl ?_
              refine go_aload_n 73 dX6_transfer_72 rfl ?_
              refine go_iload_n 74 dX6_transfer_73 rfl ?_
              refine go_iload_n 75 dX6_transfer_74 rfl ?_
              refine gdV2 78 dX6_transfer_75 vX6_184 (ct_X6_isIn hI.1 hk.1 hk.2.1) ?_
              refine go_iconst 79 dX6_transfer_78 zc_3 ?_
              rw [zb_f h5]
              refine gdV2 82 dX6_transfer_79 vX6_149 (ct_X6_fails_n rfl) ?_
              refine go_if_eq 87 85 dX6_transfer_82 (fun h82 => ?_) (fun h82 => ?_)
              · refine go_aload_n 88 dX6_transfer_87 rfl ?_
                refine gdV0v 91 dX6_transfer_88 vX6_158 (ct_X6_remember (u := u) hU hu) ?_
                refine go_aload_n 92 dX6_transfer_91 rfl ?_
                refine go_iload_n 93 dX6_transfer_92 rfl ?_
                refine gdV1 96 dX6_transfer_93 vX6_177 (ct_X6_callerOf hI.1 hk.1 hk.2.1) ?_
                refine go_iload_n 97 dX6_transfer_96 rfl ?_
                refine go_icmp_ne 109 100 dX6_transfer_97 (fun h97 => ?_) (fun h97 => ?_)
                · refine go_aload_n 110 dX6_transfer_109 rfl ?_
                  refine go_iload_n 111 dX6_transfer_110 rfl ?_
                  refine gdV1 114 dX6_transfer_111 vX6_177 (ct_X6_callerOf hI.1 hk.1 hk.2.1) ?_
                  refine go_istore 116 dX6_transfer_114 (by decide) ?_
                  refine go_aload_n 117 dX6_transfer_116 rfl ?_
                  refine gd_get 120 dX6_transfer_117 fX6_17 rfl ?_
                  refine go_iload_n 121 dX6_transfer_120 rfl ?_
                  refine gcS1 124 dX6_transfer_121 vX6_168 (ct_X6_legAt hk.1) ?_
                  refine go_iconst 125 dX6_transfer_124 zc_2 ?_
                  refine go_iadd 126 dX6_transfer_125 ?_
                  refine go_iconst 127 dX6_transfer_126 zc_2 ?_
                  refine gd_iast 128 (146 + 13 * (tN (legW D p 1)) + 2) dX6_transfer_127 (ix2 _ 2 _ rfl) (by omega) ?_
                  refine go_aload_n 129 dX6_transfer_128 rfl ?_
                  refine go_iload_n 130 dX6_transfer_129 rfl ?_
                  refine gdV1v 133 dX6_transfer_130 vX6_196 (ct_X6_withoutOffers hk.1 (by omega)) ?_
                  have hoq : (if clr D (tN (legW D p 1)) = p then dL D (tN (legW D p 1)) 1 else clr D (tN (legW D p 1))) = nI q := hq.1
                  refine go_locals [(0, .ref o), (1, .int p), (2, .int t), (3, .int (nI (tN (legW D p 1)))), (4, .int (nI q))] (by first | (rw [← hoq, if_pos (by first | exact h97 | exact Classical.not_not.mp h97), ← hk.1]; rfl) | (rw [← hoq, if_neg h97, ← hk.1]; rfl)) ?_
                  refine go_aload_n 134 dX6_transfer_133 rfl ?_
                  refine go_iload 136 dX6_transfer_134 rfl ?_
                  refine go_iconst 137 dX6_transfer_136 zc_1 ?_
                  refine go_iload_n 138 dX6_transfer_137 rfl ?_
                  refine go_ishl 139 dX6_transfer_138 ?_
                  refine go_iload_n 140 dX6_transfer_139 rfl ?_
                  refine gdVE3 143 dX6_transfer_140 vX6_298 (hbc) (fun g140 => ?_)
                  exact go_ireturn dX6_transfer_143 rfl (by omega) (by omega) (⟨rfl, g140, rfl⟩)
                · refine go_aload_n 101 dX6_transfer_100 rfl ?_
                  refine go_iload_n 102 dX6_transfer_101 rfl ?_
                  refine go_iconst 103 dX6_transfer_102 zc_1 ?_
                  refine gdV2 106 dX6_transfer_103 vX6_171 (ct_X6_ofLeg (j := 1) hk.1 rfl (by omega)) ?_
                  refine go_goto 114 dX6_transfer_106 ?_
                  refine go_istore 116 dX6_transfer_114 (by decide) ?_
                  refine go_aload_n 117 dX6_transfer_116 rfl ?_
                  refine gd_get 120 dX6_transfer_117 fX6_17 rfl ?_
                  refine go_iload_n 121 dX6_transfer_120 rfl ?_
                  refine gcS1 124 dX6_transfer_121 vX6_168 (ct_X6_legAt hk.1) ?_
                  refine go_iconst 125 dX6_transfer_124 zc_2 ?_
                  refine go_iadd 126 dX6_transfer_125 ?_
                  refine go_iconst 127 dX6_transfer_126 zc_2 ?_
                  refine gd_iast 128 (146 + 13 * (tN (legW D p 1)) + 2) dX6_transfer_127 (ix2 _ 2 _ rfl) (by omega) ?_
                  refine go_aload_n 129 dX6_transfer_128 rfl ?_
                  refine go_iload_n 130 dX6_transfer_129 rfl ?_
                  refine gdV1v 133 dX6_transfer_130 vX6_196 (ct_X6_withoutOffers hk.1 (by omega)) ?_
                  have hoq : (if clr D (tN (legW D p 1)) = p then dL D (tN (legW D p 1)) 1 else clr D (tN (legW D p 1))) = nI q := hq.1
                  refine go_locals [(0, .ref o), (1, .int p), (2, .int t), (3, .int (nI (tN (legW D p 1)))), (4, .int (nI q))] (by first | (rw [← hoq, if_pos (by first | exact h97 | exact Classical.not_not.mp h97), ← hk.1]; rfl) | (rw [← hoq, if_neg h97, ← hk.1]; rfl)) ?_
                  refine go_aload_n 134 dX6_transfer_133 rfl ?_
                  refine go_iload 136 dX6_transfer_134 rfl ?_
                  refine go_iconst 137 dX6_transfer_136 zc_1 ?_
                  refine go_iload_n 138 dX6_transfer_137 rfl ?_
                  refine go_ishl 139 dX6_transfer_138 ?_
                  refine go_iload_n 140 dX6_transfer_139 rfl ?_
                  refine gdVE3 143 dX6_transfer_140 vX6_298 (hbc) (fun g140 => ?_)
                  exact go_ireturn dX6_transfer_143 rfl (by omega) (by omega) (⟨rfl, g140, rfl⟩)
              · exact absurd h82 (by decide)
          · exact (h4 (Or.inr (Or.inr h56))).elim
    · exact absurd h18 (by decide)
end MOps
