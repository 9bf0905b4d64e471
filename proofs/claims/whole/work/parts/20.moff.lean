section MOff
set_option maxRecDepth 100000 in
set_option maxHeartbeats 4000000 in
theorem ct_X6_offer_1 {l : Launch} {Γ : ZG} {w : ZW} {o : Nat} {S : MS} {D : ZD} {p v : Int32} (h1 : ¬ (0 ≤ p ∧ p ≤ D 4 - 1)) : Cm l Γ mX6_offer 6 [.ref o, .int p, .int v] (wD Γ w o S D) (some (.int 0)) (wD Γ w o (mf (mf S 0 0) 0 1) D) := by
  refine Cm.of (by decide) rfl (Nat.le_of_ble_eq_true rfl) ?_
  refine go_aload_n 1 dX6_offer_0 rfl ?_
  refine go_iconst 2 dX6_offer_1 zc_0 ?_
  refine gd_put 5 dX6_offer_2 pX6_39 rfl (by decide) ?_
  refine go_aload_n 6 dX6_offer_5 rfl ?_
  refine go_iload_n 7 dX6_offer_6 rfl ?_
  refine gdV1 10 dX6_offer_7 vX6_274 (ct_X6_noParty_y h1 rfl) ?_
  refine go_if_ne 37 13 dX6_offer_10 (fun h10 => ?_) (fun h10 => ?_)
  · refine go_iconst 38 dX6_offer_37 zc_0 ?_
    exact go_ireturn dX6_offer_38 rfl (by omega) (by omega) (⟨rfl, rfl⟩)
  · exact absurd h10 (by decide)

set_option maxRecDepth 100000 in
set_option maxHeartbeats 4000000 in
theorem ct_X6_offer_2 {l : Launch} {Γ : ZG} {w : ZW} {o : Nat} {S : MS} {D : ZD} {p v : Int32} (h1 : 0 ≤ p ∧ p ≤ D 4 - 1) (h2 : ¬ (0 ≤ v ∧ v ≤ 999)) : Cm l Γ mX6_offer 6 [.ref o, .int p, .int v] (wD Γ w o S D) (some (.int 0)) (wD Γ w o (mf (mf S 0 0) 0 2) D) := by
  refine Cm.of (by decide) rfl (Nat.le_of_ble_eq_true rfl) ?_
  refine go_aload_n 1 dX6_offer_0 rfl ?_
  refine go_iconst 2 dX6_offer_1 zc_0 ?_
  refine gd_put 5 dX6_offer_2 pX6_39 rfl (by decide) ?_
  refine go_aload_n 6 dX6_offer_5 rfl ?_
  refine go_iload_n 7 dX6_offer_6 rfl ?_
  refine gdV1 10 dX6_offer_7 vX6_274 (ct_X6_noParty_n h1 rfl) ?_
  refine go_if_ne 37 13 dX6_offer_10 (fun h10 => ?_) (fun h10 => ?_)
  · exact absurd h10 (by decide)
  · refine go_aload_n 14 dX6_offer_13 rfl ?_
    refine go_iload_n 15 dX6_offer_14 rfl ?_
    refine go_iconst 16 dX6_offer_15 zc_0 ?_
    refine go_sipush 19 dX6_offer_16 zs_999 ?_
    refine gcS3 22 dX6_offer_19 vX6_61 (ct_X6_in) ?_
    refine go_if_ne 29 25 dX6_offer_22 (fun h22 => ?_) (fun h22 => ?_)
    · exact (h2 (zb_1 h22)).elim
    · refine go_iconst 26 dX6_offer_25 zc_1 ?_
      refine go_goto 30 dX6_offer_26 ?_
      refine go_iconst 31 dX6_offer_30 zc_2 ?_
      refine gdV2 34 dX6_offer_31 vX6_149 (ct_X6_fails_y rfl (by decide)) ?_
      refine go_if_eq 39 37 dX6_offer_34 (fun h34 => ?_) (fun h34 => ?_)
      · exact absurd h34 (by decide)
      · refine go_iconst 38 dX6_offer_37 zc_0 ?_
        exact go_ireturn dX6_offer_38 rfl (by omega) (by omega) (⟨rfl, rfl⟩)

set_option maxRecDepth 100000 in
set_option maxHeartbeats 4000000 in
theorem ct_X6_offer_3 {l : Launch} {Γ : ZG} {w : ZW} {o : Nat} {S : MS} {D : ZD} (hI : Iv D) {p v : Int32} (h1 : 0 ≤ p ∧ p ≤ D 4 - 1) (h2 : 0 ≤ v ∧ v ≤ 999) (h4 : legW D p 1 = -1) : Cm l Γ mX6_offer 6 [.ref o, .int p, .int v] (wD Γ w o S D) (some (.int 0)) (wD Γ w o (mf (mf S 0 0) 0 3) D) := by
  refine Cm.of (by decide) rfl (Nat.le_of_ble_eq_true rfl) ?_
  refine go_aload_n 1 dX6_offer_0 rfl ?_
  refine go_iconst 2 dX6_offer_1 zc_0 ?_
  refine gd_put 5 dX6_offer_2 pX6_39 rfl (by decide) ?_
  refine go_aload_n 6 dX6_offer_5 rfl ?_
  refine go_iload_n 7 dX6_offer_6 rfl ?_
  refine gdV1 10 dX6_offer_7 vX6_274 (ct_X6_noParty_n h1 rfl) ?_
  refine go_if_ne 37 13 dX6_offer_10 (fun h10 => ?_) (fun h10 => ?_)
  · exact absurd h10 (by decide)
  · refine go_aload_n 14 dX6_offer_13 rfl ?_
    refine go_iload_n 15 dX6_offer_14 rfl ?_
    refine go_iconst 16 dX6_offer_15 zc_0 ?_
    refine go_sipush 19 dX6_offer_16 zs_999 ?_
    refine gcS3 22 dX6_offer_19 vX6_61 (ct_X6_in) ?_
    refine go_if_ne 29 25 dX6_offer_22 (fun h22 => ?_) (fun h22 => ?_)
    · refine go_iconst 30 dX6_offer_29 zc_0 ?_
      refine go_iconst 31 dX6_offer_30 zc_2 ?_
      refine gdV2 34 dX6_offer_31 vX6_149 (ct_X6_fails_n rfl) ?_
      refine go_if_eq 39 37 dX6_offer_34 (fun h34 => ?_) (fun h34 => ?_)
      · refine go_aload_n 40 dX6_offer_39 rfl ?_
        refine go_iload_n 41 dX6_offer_40 rfl ?_
        refine go_iconst 42 dX6_offer_41 zc_1 ?_
        refine gdV2 45 dX6_offer_42 vX6_190 (ct_X6_legWith hI.1) ?_
        refine go_istore_n 46 dX6_offer_45 (by decide) ?_
        refine go_aload_n 47 dX6_offer_46 rfl ?_
        refine go_iload_n 48 dX6_offer_47 rfl ?_
        refine go_iconst 49 dX6_offer_48 zc_m1 ?_
        refine go_icmp_ne 56 52 dX6_offer_49 (fun h49 => ?_) (fun h49 => ?_)
        · exact absurd h4 h49
        · refine go_iconst 53 dX6_offer_52 zc_1 ?_
          refine go_goto 57 dX6_offer_53 ?_
          refine go_iconst 58 dX6_offer_57 zc_3 ?_
          refine gdV2 61 dX6_offer_58 vX6_149 (ct_X6_fails_y rfl (by decide)) ?_
          refine go_if_eq 66 64 dX6_offer_61 (fun h61 => ?_) (fun h61 => ?_)
          · exact absurd h61 (by decide)
          · refine go_iconst 65 dX6_offer_64 zc_0 ?_
            exact go_ireturn dX6_offer_65 rfl (by omega) (by omega) (⟨rfl, rfl⟩)
      · exact absurd h34 (by decide)
    · exact (zb_0 h22 h2).elim

set_option maxRecDepth 100000 in
set_option maxHeartbeats 4000000 in
theorem ct_X6_offer_4_0 {l : Launch} {Γ : ZG} {w : ZW} {o : Nat} {S : MS} {D : ZD} (hI : Iv D) {p v : Int32} {u : Nat} (hU : S.1 12 = nI u) (hu : u ≤ 8) (h1 : 0 ≤ p ∧ p ≤ D 4 - 1) (h2 : 0 ≤ v ∧ v ≤ 999) (h4 : legW D p 1 ≠ -1) (hs : clr D (tN (legW D p 1)) = p) (h5 : dL D (tN (legW D p 1)) 6 = 0) : Cm l Γ mX6_offer 6 [.ref o, .int p, .int v] (wD Γ w o S D) (some (.int 0)) (wD Γ w o (remM (mf S 0 0) D u) D) := by
  have hl40 : nL D ≤ 40 := hI.1.2.2.1.2
  have hc20 : nC D ≤ 20 := hI.1.2.1.2
  have hk : legW D p 1 = nI (tN (legW D p 1)) ∧ (tN (legW D p 1)) < nL D ∧ dL D (tN (legW D p 1)) 2 = 1 ∧ inLeg D p (tN (legW D p 1)) := zfind_ok (n := nL D) (by omega) h4
  refine Cm.of (by decide) rfl (Nat.le_of_ble_eq_true rfl) ?_
  refine go_aload_n 1 dX6_offer_0 rfl ?_
  refine go_iconst 2 dX6_offer_1 zc_0 ?_
  refine gd_put 5 dX6_offer_2 pX6_39 rfl (by decide) ?_
  refine go_aload_n 6 dX6_offer_5 rfl ?_
  refine go_iload_n 7 dX6_offer_6 rfl ?_
  refine gdV1 10 dX6_offer_7 vX6_274 (ct_X6_noParty_n h1 rfl) ?_
  refine go_if_ne 37 13 dX6_offer_10 (fun h10 => ?_) (fun h10 => ?_)
  · exact absurd h10 (by decide)
  · refine go_aload_n 14 dX6_offer_13 rfl ?_
    refine go_iload_n 15 dX6_offer_14 rfl ?_
    refine go_iconst 16 dX6_offer_15 zc_0 ?_
    refine go_sipush 19 dX6_offer_16 zs_999 ?_
    refine gcS3 22 dX6_offer_19 vX6_61 (ct_X6_in) ?_
    refine go_if_ne 29 25 dX6_offer_22 (fun h22 => ?_) (fun h22 => ?_)
    · refine go_iconst 30 dX6_offer_29 zc_0 ?_
      refine go_iconst 31 dX6_offer_30 zc_2 ?_
      refine gdV2 34 dX6_offer_31 vX6_149 (ct_X6_fails_n rfl) ?_
      refine go_if_eq 39 37 dX6_offer_34 (fun h34 => ?_) (fun h34 => ?_)
      · refine go_aload_n 40 dX6_offer_39 rfl ?_
        refine go_iload_n 41 dX6_offer_40 rfl ?_
        refine go_iconst 42 dX6_offer_41 zc_1 ?_
        refine gdV2 45 dX6_offer_42 vX6_190 (ct_X6_legWith hI.1) ?_
        refine go_istore_n 46 dX6_offer_45 (by decide) ?_
        refine go_aload_n 47 dX6_offer_46 rfl ?_
        refine go_iload_n 48 dX6_offer_47 rfl ?_
        refine go_iconst 49 dX6_offer_48 zc_m1 ?_
        refine go_icmp_ne 56 52 dX6_offer_49 (fun h49 => ?_) (fun h49 => ?_)
        · refine go_iconst 57 dX6_offer_56 zc_0 ?_
          refine go_iconst 58 dX6_offer_57 zc_3 ?_
          refine gdV2 61 dX6_offer_58 vX6_149 (ct_X6_fails_n rfl) ?_
          refine go_if_eq 66 64 dX6_offer_61 (fun h61 => ?_) (fun h61 => ?_)
          · refine go_aload_n 67 dX6_offer_66 rfl ?_
            refine gdV0v 70 dX6_offer_67 vX6_158 (ct_X6_remember (u := u) hU hu) ?_
            refine go_iload_n 71 dX6_offer_70 rfl ?_
            refine gcS1 74 dX6_offer_71 vX6_168 (ct_X6_legAt hk.1) ?_
            refine go_istore 76 dX6_offer_74 (by decide) ?_
            refine go_aload_n 77 dX6_offer_76 rfl ?_
            refine go_iload_n 78 dX6_offer_77 rfl ?_
            refine gdV1 81 dX6_offer_78 vX6_177 (ct_X6_callerOf hI.1 hk.1 hk.2.1) ?_
            refine go_iload_n 82 dX6_offer_81 rfl ?_
            refine go_icmp_ne 89 85 dX6_offer_82 (fun h82 => ?_) (fun h82 => ?_)
            · exact absurd hs h82
            · refine go_iconst 86 dX6_offer_85 zc_0 ?_
              refine go_goto 90 dX6_offer_86 ?_
              refine go_istore 92 dX6_offer_90 (by decide) ?_
              refine go_aload_n 93 dX6_offer_92 rfl ?_
              refine gd_get 96 dX6_offer_93 fX6_17 rfl ?_
              refine go_iload 98 dX6_offer_96 rfl ?_
              refine go_bipush 100 dX6_offer_98 zb_6 ?_
              refine go_iadd 101 dX6_offer_100 ?_
              refine gd_iald 102 (146 + 13 * (tN (legW D p 1)) + 6) dX6_offer_101 (ix2 _ 6 _ rfl) (by omega) ?_
              refine go_istore 104 dX6_offer_102 (by decide) ?_
              refine go_iload 106 dX6_offer_104 rfl ?_
              refine go_iload 108 dX6_offer_106 rfl ?_
              refine go_icmp_ne 113 111 dX6_offer_108 (fun h108 => ?_) (fun h108 => ?_)
              · exact absurd h5 h108
              · refine go_iconst 112 dX6_offer_111 zc_0 ?_
                exact go_ireturn dX6_offer_112 rfl (by omega) (by omega) (⟨rfl, rfl⟩)
          · exact absurd h61 (by decide)
        · exact absurd h49 h4
      · exact absurd h34 (by decide)
    · exact (zb_0 h22 h2).elim

set_option maxRecDepth 100000 in
set_option maxHeartbeats 4000000 in
theorem ct_X6_offer_5_0 {l : Launch} {Γ : ZG} {w : ZW} {o : Nat} {S : MS} {D : ZD} (hI : Iv D) {p v : Int32} {u : Nat} (hU : S.1 12 = nI u) (hu : u ≤ 8) (h1 : 0 ≤ p ∧ p ≤ D 4 - 1) (h2 : 0 ≤ v ∧ v ≤ 999) (h4 : legW D p 1 ≠ -1) (hs : clr D (tN (legW D p 1)) = p) (h5 : dL D (tN (legW D p 1)) 6 = -1) : Cm l Γ mX6_offer 6 [.ref o, .int p, .int v] (wD Γ w o S D) (some (.int 1)) (wD Γ w o (remM (mf S 0 0) D u) (layD D (tN (legW D p 1)) 0 v)) := by
  have hl40 : nL D ≤ 40 := hI.1.2.2.1.2
  have hc20 : nC D ≤ 20 := hI.1.2.1.2
  have hk : legW D p 1 = nI (tN (legW D p 1)) ∧ (tN (legW D p 1)) < nL D ∧ dL D (tN (legW D p 1)) 2 = 1 ∧ inLeg D p (tN (legW D p 1)) := zfind_ok (n := nL D) (by omega) h4
  refine Cm.of (by decide) rfl (Nat.le_of_ble_eq_true rfl) ?_
  refine go_aload_n 1 dX6_offer_0 rfl ?_
  refine go_iconst 2 dX6_offer_1 zc_0 ?_
  refine gd_put 5 dX6_offer_2 pX6_39 rfl (by decide) ?_
  refine go_aload_n 6 dX6_offer_5 rfl ?_
  refine go_iload_n 7 dX6_offer_6 rfl ?_
  refine gdV1 10 dX6_offer_7 vX6_274 (ct_X6_noParty_n h1 rfl) ?_
  refine go_if_ne 37 13 dX6_offer_10 (fun h10 => ?_) (fun h10 => ?_)
  · exact absurd h10 (by decide)
  · refine go_aload_n 14 dX6_offer_13 rfl ?_
    refine go_iload_n 15 dX6_offer_14 rfl ?_
    refine go_iconst 16 dX6_offer_15 zc_0 ?_
    refine go_sipush 19 dX6_offer_16 zs_999 ?_
    refine gcS3 22 dX6_offer_19 vX6_61 (ct_X6_in) ?_
    refine go_if_ne 29 25 dX6_offer_22 (fun h22 => ?_) (fun h22 => ?_)
    · refine go_iconst 30 dX6_offer_29 zc_0 ?_
      refine go_iconst 31 dX6_offer_30 zc_2 ?_
      refine gdV2 34 dX6_offer_31 vX6_149 (ct_X6_fails_n rfl) ?_
      refine go_if_eq 39 37 dX6_offer_34 (fun h34 => ?_) (fun h34 => ?_)
      · refine go_aload_n 40 dX6_offer_39 rfl ?_
        refine go_iload_n 41 dX6_offer_40 rfl ?_
        refine go_iconst 42 dX6_offer_41 zc_1 ?_
        refine gdV2 45 dX6_offer_42 vX6_190 (ct_X6_legWith hI.1) ?_
        refine go_istore_n 46 dX6_offer_45 (by decide) ?_
        refine go_aload_n 47 dX6_offer_46 rfl ?_
        refine go_iload_n 48 dX6_offer_47 rfl ?_
        refine go_iconst 49 dX6_offer_48 zc_m1 ?_
        refine go_icmp_ne 56 52 dX6_offer_49 (fun h49 => ?_) (fun h49 => ?_)
        · refine go_iconst 57 dX6_offer_56 zc_0 ?_
          refine go_iconst 58 dX6_offer_57 zc_3 ?_
          refine gdV2 61 dX6_offer_58 vX6_149 (ct_X6_fails_n rfl) ?_
          refine go_if_eq 66 64 dX6_offer_61 (fun h61 => ?_) (fun h61 => ?_)
          · refine go_aload_n 67 dX6_offer_66 rfl ?_
            refine gdV0v 70 dX6_offer_67 vX6_158 (ct_X6_remember (u := u) hU hu) ?_
            refine go_iload_n 71 dX6_offer_70 rfl ?_
            refine gcS1 74 dX6_offer_71 vX6_168 (ct_X6_legAt hk.1) ?_
            refine go_istore 76 dX6_offer_74 (by decide) ?_
            refine go_aload_n 77 dX6_offer_76 rfl ?_
            refine go_iload_n 78 dX6_offer_77 rfl ?_
            refine gdV1 81 dX6_offer_78 vX6_177 (ct_X6_callerOf hI.1 hk.1 hk.2.1) ?_
            refine go_iload_n 82 dX6_offer_81 rfl ?_
            refine go_icmp_ne 89 85 dX6_offer_82 (fun h82 => ?_) (fun h82 => ?_)
            · exact absurd hs h82
            · refine go_iconst 86 dX6_offer_85 zc_0 ?_
              refine go_goto 90 dX6_offer_86 ?_
              refine go_istore 92 dX6_offer_90 (by decide) ?_
              refine go_aload_n 93 dX6_offer_92 rfl ?_
              refine gd_get 96 dX6_offer_93 fX6_17 rfl ?_
              refine go_iload 98 dX6_offer_96 rfl ?_
              refine go_bipush 100 dX6_offer_98 zb_6 ?_
              refine go_iadd 101 dX6_offer_100 ?_
              refine gd_iald 102 (146 + 13 * (tN (legW D p 1)) + 6) dX6_offer_101 (ix2 _ 6 _ rfl) (by omega) ?_
              refine go_istore 104 dX6_offer_102 (by decide) ?_
              refine go_iload 106 dX6_offer_104 rfl ?_
              refine go_iload 108 dX6_offer_106 rfl ?_
              refine go_icmp_ne 113 111 dX6_offer_108 (fun h108 => ?_) (fun h108 => ?_)
              · refine go_iload 115 dX6_offer_113 rfl ?_
                refine go_iconst 116 dX6_offer_115 zc_m1 ?_
                refine go_icmp_ne 129 119 dX6_offer_116 (fun h116 => ?_) (fun h116 => ?_)
                · exact absurd h5 h116
                · refine go_aload_n 120 dX6_offer_119 rfl ?_
                  refine go_iload_n 121 dX6_offer_120 rfl ?_
                  refine go_iload 123 dX6_offer_121 rfl ?_
                  refine go_iload_n 124 dX6_offer_123 rfl ?_
                  refine gdV3v 127 dX6_offer_124 vX6_244 (ct_X6_layOffer hk.1 (by omega)) ?_
                  refine go_iconst 128 dX6_offer_127 zc_1 ?_
                  exact go_ireturn dX6_offer_128 rfl (by omega) (by omega) (⟨rfl, rfl⟩)
              · exact absurd (h5.symm.trans (by first | exact h108 | exact Classical.not_not.mp h108)) (by decide)
          · exact absurd h61 (by decide)
        · exact absurd h49 h4
      · exact absurd h34 (by decide)
    · exact (zb_0 h22 h2).elim

set_option maxRecDepth 100000 in
set_option maxHeartbeats 4000000 in
theorem ct_X6_offer_6_0 {l : Launch} {Γ : ZG} {w : ZW} {o : Nat} {S : MS} {D : ZD} (hI : Iv D) {p v : Int32} {u : Nat} (hU : S.1 12 = nI u) (hu : u ≤ 8) (h1 : 0 ≤ p ∧ p ≤ D 4 - 1) (h2 : 0 ≤ v ∧ v ≤ 999) (h4 : legW D p 1 ≠ -1) (hs : clr D (tN (legW D p 1)) = p) (h5 : dL D (tN (legW D p 1)) 6 = nI 1) : Cm l Γ mX6_offer 6 [.ref o, .int p, .int v] (wD Γ w o S D) (some (.int (-1))) (wD Γ w o (remM (mf S 0 0) D u) (glrD D (tN (legW D p 1)) 1 0 v)) := by
  have hl40 : nL D ≤ 40 := hI.1.2.2.1.2
  have hc20 : nC D ≤ 20 := hI.1.2.1.2
  have hk : legW D p 1 = nI (tN (legW D p 1)) ∧ (tN (legW D p 1)) < nL D ∧ dL D (tN (legW D p 1)) 2 = 1 ∧ inLeg D p (tN (legW D p 1)) := zfind_ok (n := nL D) (by omega) h4
  refine Cm.of (by decide) rfl (Nat.le_of_ble_eq_true rfl) ?_
  refine go_aload_n 1 dX6_offer_0 rfl ?_
  refine go_iconst 2 dX6_offer_1 zc_0 ?_
  refine gd_put 5 dX6_offer_2 pX6_39 rfl (by decide) ?_
  refine go_aload_n 6 dX6_offer_5 rfl ?_
  refine go_iload_n 7 dX6_offer_6 rfl ?_
  refine gdV1 10 dX6_offer_7 vX6_274 (ct_X6_noParty_n h1 rfl) ?_
  refine go_if_ne 37 13 dX6_offer_10 (fun h10 => ?_) (fun h10 => ?_)
  · exact absurd h10 (by decide)
  · refine go_aload_n 14 dX6_offer_13 rfl ?_
    refine go_iload_n 15 dX6_offer_14 rfl ?_
    refine go_iconst 16 dX6_offer_15 zc_0 ?_
    refine go_sipush 19 dX6_offer_16 zs_999 ?_
    refine gcS3 22 dX6_offer_19 vX6_61 (ct_X6_in) ?_
    refine go_if_ne 29 25 dX6_offer_22 (fun h22 => ?_) (fun h22 => ?_)
    · refine go_iconst 30 dX6_offer_29 zc_0 ?_
      refine go_iconst 31 dX6_offer_30 zc_2 ?_
      refine gdV2 34 dX6_offer_31 vX6_149 (ct_X6_fails_n rfl) ?_
      refine go_if_eq 39 37 dX6_offer_34 (fun h34 => ?_) (fun h34 => ?_)
      · refine go_aload_n 40 dX6_offer_39 rfl ?_
        refine go_iload_n 41 dX6_offer_40 rfl ?_
        refine go_iconst 42 dX6_offer_41 zc_1 ?_
        refine gdV2 45 dX6_offer_42 vX6_190 (ct_X6_legWith hI.1) ?_
        refine go_istore_n 46 dX6_offer_45 (by decide) ?_
        refine go_aload_n 47 dX6_offer_46 rfl ?_
        refine go_iload_n 48 dX6_offer_47 rfl ?_
        refine go_iconst 49 dX6_offer_48 zc_m1 ?_
        refine go_icmp_ne 56 52 dX6_offer_49 (fun h49 => ?_) (fun h49 => ?_)
        · refine go_iconst 57 dX6_offer_56 zc_0 ?_
          refine go_iconst 58 dX6_offer_57 zc_3 ?_
          refine gdV2 61 dX6_offer_58 vX6_149 (ct_X6_fails_n rfl) ?_
          refine go_if_eq 66 64 dX6_offer_61 (fun h61 => ?_) (fun h61 => ?_)
          · refine go_aload_n 67 dX6_offer_66 rfl ?_
            refine gdV0v 70 dX6_offer_67 vX6_158 (ct_X6_remember (u := u) hU hu) ?_
            refine go_iload_n 71 dX6_offer_70 rfl ?_
            refine gcS1 74 dX6_offer_71 vX6_168 (ct_X6_legAt hk.1) ?_
            refine go_istore 76 dX6_offer_74 (by decide) ?_
            refine go_aload_n 77 dX6_offer_76 rfl ?_
            refine go_iload_n 78 dX6_offer_77 rfl ?_
            refine gdV1 81 dX6_offer_78 vX6_177 (ct_X6_callerOf hI.1 hk.1 hk.2.1) ?_
            refine go_iload_n 82 dX6_offer_81 rfl ?_
            refine go_icmp_ne 89 85 dX6_offer_82 (fun h82 => ?_) (fun h82 => ?_)
            · exact absurd hs h82
            · refine go_iconst 86 dX6_offer_85 zc_0 ?_
              refine go_goto 90 dX6_offer_86 ?_
              refine go_istore 92 dX6_offer_90 (by decide) ?_
              refine go_aload_n 93 dX6_offer_92 rfl ?_
              refine gd_get 96 dX6_offer_93 fX6_17 rfl ?_
              refine go_iload 98 dX6_offer_96 rfl ?_
              refine go_bipush 100 dX6_offer_98 zb_6 ?_
              refine go_iadd 101 dX6_offer_100 ?_
              refine gd_iald 102 (146 + 13 * (tN (legW D p 1)) + 6) dX6_offer_101 (ix2 _ 6 _ rfl) (by omega) ?_
              refine go_istore 104 dX6_offer_102 (by decide) ?_
              refine go_iload 106 dX6_offer_104 rfl ?_
              refine go_iload 108 dX6_offer_106 rfl ?_
              refine go_icmp_ne 113 111 dX6_offer_108 (fun h108 => ?_) (fun h108 => ?_)
              · refine go_iload 115 dX6_offer_113 rfl ?_
                refine go_iconst 116 dX6_offer_115 zc_m1 ?_
                refine go_icmp_ne 129 119 dX6_offer_116 (fun h116 => ?_) (fun h116 => ?_)
                · refine go_aload_n 130 dX6_offer_129 rfl ?_
                  refine gd_get 133 dX6_offer_130 fX6_17 rfl ?_
                  refine go_iload 135 dX6_offer_133 rfl ?_
                  refine go_bipush 137 dX6_offer_135 zb_11 ?_
                  refine go_iadd 138 dX6_offer_137 ?_
                  refine go_iload 140 dX6_offer_138 rfl ?_
                  refine go_iadd 141 dX6_offer_140 ?_
                  refine go_aload_n 142 dX6_offer_141 rfl ?_
                  refine gd_get 145 dX6_offer_142 fX6_17 rfl ?_
                  refine go_iload 147 dX6_offer_145 rfl ?_
                  refine go_bipush 149 dX6_offer_147 zb_7 ?_
                  refine go_iadd 150 dX6_offer_149 ?_
                  refine gd_iald 151 (146 + 13 * (tN (legW D p 1)) + 7) dX6_offer_150 (ix2 _ 7 _ rfl) (by omega) ?_
                  refine gd_iast 152 (146 + 13 * (tN (legW D p 1)) + (11 + 1)) dX6_offer_151 (by rw [show D (146 + 13 * (tN (legW D p 1)) + 6) = nI 1 from h5]; exact ix3 _ 11 1 _ rfl) (by omega) ?_
                  refine go_aload_n 153 dX6_offer_152 rfl ?_
                  refine gd_get 156 dX6_offer_153 fX6_17 rfl ?_
                  refine go_iload 158 dX6_offer_156 rfl ?_
                  refine go_bipush 160 dX6_offer_158 zb_11 ?_
                  refine go_iadd 161 dX6_offer_160 ?_
                  refine go_iload 163 dX6_offer_161 rfl ?_
                  refine go_iadd 164 dX6_offer_163 ?_
                  refine go_iload_n 165 dX6_offer_164 rfl ?_
                  refine gd_iast 166 (146 + 13 * (tN (legW D p 1)) + (11 + 0)) dX6_offer_165 (ix3 _ 11 0 _ rfl) (by omega) ?_
                  refine go_aload_n 167 dX6_offer_166 rfl ?_
                  refine gd_get 170 dX6_offer_167 fX6_17 rfl ?_
                  refine go_iload 172 dX6_offer_170 rfl ?_
                  refine go_bipush 174 dX6_offer_172 zb_9 ?_
                  refine go_iadd 175 dX6_offer_174 ?_
                  refine go_aload_n 176 dX6_offer_175 rfl ?_
                  refine gd_get 179 dX6_offer_176 fX6_17 rfl ?_
                  refine go_iconst 180 dX6_offer_179 zc_0 ?_
                  refine gd_iald 181 (0) dX6_offer_180 rfl (by decide) ?_
                  refine go_aload_n 182 dX6_offer_181 rfl ?_
                  refine gd_get 185 dX6_offer_182 fX6_17 rfl ?_
                  refine go_iconst 186 dX6_offer_185 zc_1 ?_
                  refine gd_iald 187 (1) dX6_offer_186 rfl (by decide) ?_
                  refine go_iadd 188 dX6_offer_187 ?_
                  refine gd_iast 189 (146 + 13 * (tN (legW D p 1)) + 9) dX6_offer_188 (ix2 _ 9 _ rfl) (by omega) ?_
                  refine go_aload_n 190 dX6_offer_189 rfl ?_
                  refine gd_get 193 dX6_offer_190 fX6_17 rfl ?_
                  refine go_iload 195 dX6_offer_193 rfl ?_
                  refine go_bipush 197 dX6_offer_195 zb_9 ?_
                  refine go_iadd 198 dX6_offer_197 ?_
                  refine go_iconst 199 dX6_offer_198 zc_1 ?_
                  refine go_iadd 200 dX6_offer_199 ?_
                  refine go_aload_n 201 dX6_offer_200 rfl ?_
                  refine gd_get 204 dX6_offer_201 fX6_17 rfl ?_
                  refine go_iconst 205 dX6_offer_204 zc_0 ?_
                  refine gd_iald 206 (0) dX6_offer_205 rfl (by decide) ?_
                  refine go_aload_n 207 dX6_offer_206 rfl ?_
                  refine gd_get 210 dX6_offer_207 fX6_17 rfl ?_
                  refine go_iconst 211 dX6_offer_210 zc_2 ?_
                  refine gd_iald 212 (2) dX6_offer_211 rfl (by decide) ?_
                  refine go_iadd 213 dX6_offer_212 ?_
                  refine gd_iast 214 (146 + 13 * (tN (legW D p 1)) + 10) dX6_offer_213 (ix3 _ 9 1 _ rfl) (by omega) ?_
                  refine go_aload_n 215 dX6_offer_214 rfl ?_
                  refine gd_get 218 dX6_offer_215 fX6_17 rfl ?_
                  refine go_iload 220 dX6_offer_218 rfl ?_
                  refine go_bipush 222 dX6_offer_220 zb_6 ?_
                  refine go_iadd 223 dX6_offer_222 ?_
                  refine go_iconst 224 dX6_offer_223 zc_m1 ?_
                  refine gd_iast 225 (146 + 13 * (tN (legW D p 1)) + 6) dX6_offer_224 (ix2 _ 6 _ rfl) (by omega) ?_
                  refine go_aload_n 226 dX6_offer_225 rfl ?_
                  refine go_iconst 227 dX6_offer_226 zc_2 ?_
                  refine gdV1v 230 dX6_offer_227 vX6_199 (ct_X6_adds (t := 2) rfl (by decide)) ?_
                  refine go_iconst 231 dX6_offer_230 zc_m1 ?_
                  exact go_ireturn dX6_offer_231 rfl (by omega) (by omega) (⟨rfl, rfl⟩)
                · exact absurd (h5.symm.trans (by first | exact h116 | exact Classical.not_not.mp h116)) (by decide)
              · exact absurd (h5.symm.trans (by first | exact h108 | exact Classical.not_not.mp h108)) (by decide)
          · exact absurd h61 (by decide)
        · exact absurd h49 h4
      · exact absurd h34 (by decide)
    · exact (zb_0 h22 h2).elim

set_option maxRecDepth 100000 in
set_option maxHeartbeats 4000000 in
theorem ct_X6_offer_4_1 {l : Launch} {Γ : ZG} {w : ZW} {o : Nat} {S : MS} {D : ZD} (hI : Iv D) {p v : Int32} {u : Nat} (hU : S.1 12 = nI u) (hu : u ≤ 8) (h1 : 0 ≤ p ∧ p ≤ D 4 - 1) (h2 : 0 ≤ v ∧ v ≤ 999) (h4 : legW D p 1 ≠ -1) (hs : ¬ clr D (tN (legW D p 1)) = p) (h5 : dL D (tN (legW D p 1)) 6 = 1) : Cm l Γ mX6_offer 6 [.ref o, .int p, .int v] (wD Γ w o S D) (some (.int 0)) (wD Γ w o (remM (mf S 0 0) D u) D) := by
  have hl40 : nL D ≤ 40 := hI.1.2.2.1.2
  have hc20 : nC D ≤ 20 := hI.1.2.1.2
  have hk : legW D p 1 = nI (tN (legW D p 1)) ∧ (tN (legW D p 1)) < nL D ∧ dL D (tN (legW D p 1)) 2 = 1 ∧ inLeg D p (tN (legW D p 1)) := zfind_ok (n := nL D) (by omega) h4
  refine Cm.of (by decide) rfl (Nat.le_of_ble_eq_true rfl) ?_
  refine go_aload_n 1 dX6_offer_0 rfl ?_
  refine go_iconst 2 dX6_offer_1 zc_0 ?_
  refine gd_put 5 dX6_offer_2 pX6_39 rfl (by decide) ?_
  refine go_aload_n 6 dX6_offer_5 rfl ?_
  refine go_iload_n 7 dX6_offer_6 rfl ?_
  refine gdV1 10 dX6_offer_7 vX6_274 (ct_X6_noParty_n h1 rfl) ?_
  refine go_if_ne 37 13 dX6_offer_10 (fun h10 => ?_) (fun h10 => ?_)
  · exact absurd h10 (by decide)
  · refine go_aload_n 14 dX6_offer_13 rfl ?_
    refine go_iload_n 15 dX6_offer_14 rfl ?_
    refine go_iconst 16 dX6_offer_15 zc_0 ?_
    refine go_sipush 19 dX6_offer_16 zs_999 ?_
    refine gcS3 22 dX6_offer_19 vX6_61 (ct_X6_in) ?_
    refine go_if_ne 29 25 dX6_offer_22 (fun h22 => ?_) (fun h22 => ?_)
    · refine go_iconst 30 dX6_offer_29 zc_0 ?_
      refine go_iconst 31 dX6_offer_30 zc_2 ?_
      refine gdV2 34 dX6_offer_31 vX6_149 (ct_X6_fails_n rfl) ?_
      refine go_if_eq 39 37 dX6_offer_34 (fun h34 => ?_) (fun h34 => ?_)
      · refine go_aload_n 40 dX6_offer_39 rfl ?_
        refine go_iload_n 41 dX6_offer_40 rfl ?_
        refine go_iconst 42 dX6_offer_41 zc_1 ?_
        refine gdV2 45 dX6_offer_42 vX6_190 (ct_X6_legWith hI.1) ?_
        refine go_istore_n 46 dX6_offer_45 (by decide) ?_
        refine go_aload_n 47 dX6_offer_46 rfl ?_
        refine go_iload_n 48 dX6_offer_47 rfl ?_
        refine go_iconst 49 dX6_offer_48 zc_m1 ?_
        refine go_icmp_ne 56 52 dX6_offer_49 (fun h49 => ?_) (fun h49 => ?_)
        · refine go_iconst 57 dX6_offer_56 zc_0 ?_
          refine go_iconst 58 dX6_offer_57 zc_3 ?_
          refine gdV2 61 dX6_offer_58 vX6_149 (ct_X6_fails_n rfl) ?_
          refine go_if_eq 66 64 dX6_offer_61 (fun h61 => ?_) (fun h61 => ?_)
          · refine go_aload_n 67 dX6_offer_66 rfl ?_
            refine gdV0v 70 dX6_offer_67 vX6_158 (ct_X6_remember (u := u) hU hu) ?_
            refine go_iload_n 71 dX6_offer_70 rfl ?_
            refine gcS1 74 dX6_offer_71 vX6_168 (ct_X6_legAt hk.1) ?_
            refine go_istore 76 dX6_offer_74 (by decide) ?_
            refine go_aload_n 77 dX6_offer_76 rfl ?_
            refine go_iload_n 78 dX6_offer_77 rfl ?_
            refine gdV1 81 dX6_offer_78 vX6_177 (ct_X6_callerOf hI.1 hk.1 hk.2.1) ?_
            refine go_iload_n 82 dX6_offer_81 rfl ?_
            refine go_icmp_ne 89 85 dX6_offer_82 (fun h82 => ?_) (fun h82 => ?_)
            · refine go_iconst 90 dX6_offer_89 zc_1 ?_
              refine go_istore 92 dX6_offer_90 (by decide) ?_
              refine go_aload_n 93 dX6_offer_92 rfl ?_
              refine gd_get 96 dX6_offer_93 fX6_17 rfl ?_
              refine go_iload 98 dX6_offer_96 rfl ?_
              refine go_bipush 100 dX6_offer_98 zb_6 ?_
              refine go_iadd 101 dX6_offer_100 ?_
              refine gd_iald 102 (146 + 13 * (tN (legW D p 1)) + 6) dX6_offer_101 (ix2 _ 6 _ rfl) (by omega) ?_
              refine go_istore 104 dX6_offer_102 (by decide) ?_
              refine go_iload 106 dX6_offer_104 rfl ?_
              refine go_iload 108 dX6_offer_106 rfl ?_
              refine go_icmp_ne 113 111 dX6_offer_108 (fun h108 => ?_) (fun h108 => ?_)
              · exact absurd h5 h108
              · refine go_iconst 112 dX6_offer_111 zc_0 ?_
                exact go_ireturn dX6_offer_112 rfl (by omega) (by omega) (⟨rfl, rfl⟩)
            · exact absurd (by first | exact h82 | exact Classical.not_not.mp h82) hs
          · exact absurd h61 (by decide)
        · exact absurd h49 h4
      · exact absurd h34 (by decide)
    · exact (zb_0 h22 h2).elim

set_option maxRecDepth 100000 in
set_option maxHeartbeats 4000000 in
theorem ct_X6_offer_5_1 {l : Launch} {Γ : ZG} {w : ZW} {o : Nat} {S : MS} {D : ZD} (hI : Iv D) {p v : Int32} {u : Nat} (hU : S.1 12 = nI u) (hu : u ≤ 8) (h1 : 0 ≤ p ∧ p ≤ D 4 - 1) (h2 : 0 ≤ v ∧ v ≤ 999) (h4 : legW D p 1 ≠ -1) (hs : ¬ clr D (tN (legW D p 1)) = p) (h5 : dL D (tN (legW D p 1)) 6 = -1) : Cm l Γ mX6_offer 6 [.ref o, .int p, .int v] (wD Γ w o S D) (some (.int 1)) (wD Γ w o (remM (mf S 0 0) D u) (layD D (tN (legW D p 1)) 1 v)) := by
  have hl40 : nL D ≤ 40 := hI.1.2.2.1.2
  have hc20 : nC D ≤ 20 := hI.1.2.1.2
  have hk : legW D p 1 = nI (tN (legW D p 1)) ∧ (tN (legW D p 1)) < nL D ∧ dL D (tN (legW D p 1)) 2 = 1 ∧ inLeg D p (tN (legW D p 1)) := zfind_ok (n := nL D) (by omega) h4
  refine Cm.of (by decide) rfl (Nat.le_of_ble_eq_true rfl) ?_
  refine go_aload_n 1 dX6_offer_0 rfl ?_
  refine go_iconst 2 dX6_offer_1 zc_0 ?_
  refine gd_put 5 dX6_offer_2 pX6_39 rfl (by decide) ?_
  refine go_aload_n 6 dX6_offer_5 rfl ?_
  refine go_iload_n 7 dX6_offer_6 rfl ?_
  refine gdV1 10 dX6_offer_7 vX6_274 (ct_X6_noParty_n h1 rfl) ?_
  refine go_if_ne 37 13 dX6_offer_10 (fun h10 => ?_) (fun h10 => ?_)
  · exact absurd h10 (by decide)
  · refine go_aload_n 14 dX6_offer_13 rfl ?_
    refine go_iload_n 15 dX6_offer_14 rfl ?_
    refine go_iconst 16 dX6_offer_15 zc_0 ?_
    refine go_sipush 19 dX6_offer_16 zs_999 ?_
    refine gcS3 22 dX6_offer_19 vX6_61 (ct_X6_in) ?_
    refine go_if_ne 29 25 dX6_offer_22 (fun h22 => ?_) (fun h22 => ?_)
    · refine go_iconst 30 dX6_offer_29 zc_0 ?_
      refine go_iconst 31 dX6_offer_30 zc_2 ?_
      refine gdV2 34 dX6_offer_31 vX6_149 (ct_X6_fails_n rfl) ?_
      refine go_if_eq 39 37 dX6_offer_34 (fun h34 => ?_) (fun h34 => ?_)
      · refine go_aload_n 40 dX6_offer_39 rfl ?_
        refine go_iload_n 41 dX6_offer_40 rfl ?_
        refine go_iconst 42 dX6_offer_41 zc_1 ?_
        refine gdV2 45 dX6_offer_42 vX6_190 (ct_X6_legWith hI.1) ?_
        refine go_istore_n 46 dX6_offer_45 (by decide) ?_
        refine go_aload_n 47 dX6_offer_46 rfl ?_
        refine go_iload_n 48 dX6_offer_47 rfl ?_
        refine go_iconst 49 dX6_offer_48 zc_m1 ?_
        refine go_icmp_ne 56 52 dX6_offer_49 (fun h49 => ?_) (fun h49 => ?_)
        · refine go_iconst 57 dX6_offer_56 zc_0 ?_
          refine go_iconst 58 dX6_offer_57 zc_3 ?_
          refine gdV2 61 dX6_offer_58 vX6_149 (ct_X6_fails_n rfl) ?_
          refine go_if_eq 66 64 dX6_offer_61 (fun h61 => ?_) (fun h61 => ?_)
          · refine go_aload_n 67 dX6_offer_66 rfl ?_
            refine gdV0v 70 dX6_offer_67 vX6_158 (ct_X6_remember (u := u) hU hu) ?_
            refine go_iload_n 71 dX6_offer_70 rfl ?_
            refine gcS1 74 dX6_offer_71 vX6_168 (ct_X6_legAt hk.1) ?_
            refine go_istore 76 dX6_offer_74 (by decide) ?_
            refine go_aload_n 77 dX6_offer_76 rfl ?_
            refine go_iload_n 78 dX6_offer_77 rfl ?_
            refine gdV1 81 dX6_offer_78 vX6_177 (ct_X6_callerOf hI.1 hk.1 hk.2.1) ?_
            refine go_iload_n 82 dX6_offer_81 rfl ?_
            refine go_icmp_ne 89 85 dX6_offer_82 (fun h82 => ?_) (fun h82 => ?_)
            · refine go_iconst 90 dX6_offer_89 zc_1 ?_
              refine go_istore 92 dX6_offer_90 (by decide) ?_
              refine go_aload_n 93 dX6_offer_92 rfl ?_
              refine gd_get 96 dX6_offer_93 fX6_17 rfl ?_
              refine go_iload 98 dX6_offer_96 rfl ?_
              refine go_bipush 100 dX6_offer_98 zb_6 ?_
              refine go_iadd 101 dX6_offer_100 ?_
              refine gd_iald 102 (146 + 13 * (tN (legW D p 1)) + 6) dX6_offer_101 (ix2 _ 6 _ rfl) (by omega) ?_
              refine go_istore 104 dX6_offer_102 (by decide) ?_
              refine go_iload 106 dX6_offer_104 rfl ?_
              refine go_iload 108 dX6_offer_106 rfl ?_
              refine go_icmp_ne 113 111 dX6_offer_108 (fun h108 => ?_) (fun h108 => ?_)
              · refine go_iload 115 dX6_offer_113 rfl ?_
                refine go_iconst 116 dX6_offer_115 zc_m1 ?_
                refine go_icmp_ne 129 119 dX6_offer_116 (fun h116 => ?_) (fun h116 => ?_)
                · exact absurd h5 h116
                · refine go_aload_n 120 dX6_offer_119 rfl ?_
                  refine go_iload_n 121 dX6_offer_120 rfl ?_
                  refine go_iload 123 dX6_offer_121 rfl ?_
                  refine go_iload_n 124 dX6_offer_123 rfl ?_
                  refine gdV3v 127 dX6_offer_124 vX6_244 (ct_X6_layOffer hk.1 (by omega)) ?_
                  refine go_iconst 128 dX6_offer_127 zc_1 ?_
                  exact go_ireturn dX6_offer_128 rfl (by omega) (by omega) (⟨rfl, rfl⟩)
              · exact absurd (h5.symm.trans (by first | exact h108 | exact Classical.not_not.mp h108)) (by decide)
            · exact absurd (by first | exact h82 | exact Classical.not_not.mp h82) hs
          · exact absurd h61 (by decide)
        · exact absurd h49 h4
      · exact absurd h34 (by decide)
    · exact (zb_0 h22 h2).elim

set_option maxRecDepth 100000 in
set_option maxHeartbeats 4000000 in
theorem ct_X6_offer_6_1 {l : Launch} {Γ : ZG} {w : ZW} {o : Nat} {S : MS} {D : ZD} (hI : Iv D) {p v : Int32} {u : Nat} (hU : S.1 12 = nI u) (hu : u ≤ 8) (h1 : 0 ≤ p ∧ p ≤ D 4 - 1) (h2 : 0 ≤ v ∧ v ≤ 999) (h4 : legW D p 1 ≠ -1) (hs : ¬ clr D (tN (legW D p 1)) = p) (h5 : dL D (tN (legW D p 1)) 6 = nI 0) : Cm l Γ mX6_offer 6 [.ref o, .int p, .int v] (wD Γ w o S D) (some (.int (-1))) (wD Γ w o (remM (mf S 0 0) D u) (glrD D (tN (legW D p 1)) 0 1 v)) := by
  have hl40 : nL D ≤ 40 := hI.1.2.2.1.2
  have hc20 : nC D ≤ 20 := hI.1.2.1.2
  have hk : legW D p 1 = nI (tN (legW D p 1)) ∧ (tN (legW D p 1)) < nL D ∧ dL D (tN (legW D p 1)) 2 = 1 ∧ inLeg D p (tN (legW D p 1)) := zfind_ok (n := nL D) (by omega) h4
  refine Cm.of (by decide) rfl (Nat.le_of_ble_eq_true rfl) ?_
  refine go_aload_n 1 dX6_offer_0 rfl ?_
  refine go_iconst 2 dX6_offer_1 zc_0 ?_
  refine gd_put 5 dX6_offer_2 pX6_39 rfl (by decide) ?_
  refine go_aload_n 6 dX6_offer_5 rfl ?_
  refine go_iload_n 7 dX6_offer_6 rfl ?_
  refine gdV1 10 dX6_offer_7 vX6_274 (ct_X6_noParty_n h1 rfl) ?_
  refine go_if_ne 37 13 dX6_offer_10 (fun h10 => ?_) (fun h10 => ?_)
  · exact absurd h10 (by decide)
  · refine go_aload_n 14 dX6_offer_13 rfl ?_
    refine go_iload_n 15 dX6_offer_14 rfl ?_
    refine go_iconst 16 dX6_offer_15 zc_0 ?_
    refine go_sipush 19 dX6_offer_16 zs_999 ?_
    refine gcS3 22 dX6_offer_19 vX6_61 (ct_X6_in) ?_
    refine go_if_ne 29 25 dX6_offer_22 (fun h22 => ?_) (fun h22 => ?_)
    · refine go_iconst 30 dX6_offer_29 zc_0 ?_
      refine go_iconst 31 dX6_offer_30 zc_2 ?_
      refine gdV2 34 dX6_offer_31 vX6_149 (ct_X6_fails_n rfl) ?_
      refine go_if_eq 39 37 dX6_offer_34 (fun h34 => ?_) (fun h34 => ?_)
      · refine go_aload_n 40 dX6_offer_39 rfl ?_
        refine go_iload_n 41 dX6_offer_40 rfl ?_
        refine go_iconst 42 dX6_offer_41 zc_1 ?_
        refine gdV2 45 dX6_offer_42 vX6_190 (ct_X6_legWith hI.1) ?_
        refine go_istore_n 46 dX6_offer_45 (by decide) ?_
        refine go_aload_n 47 dX6_offer_46 rfl ?_
        refine go_iload_n 48 dX6_offer_47 rfl ?_
        refine go_iconst 49 dX6_offer_48 zc_m1 ?_
        refine go_icmp_ne 56 52 dX6_offer_49 (fun h49 => ?_) (fun h49 => ?_)
        · refine go_iconst 57 dX6_offer_56 zc_0 ?_
          refine go_iconst 58 dX6_offer_57 zc_3 ?_
          refine gdV2 61 dX6_offer_58 vX6_149 (ct_X6_fails_n rfl) ?_
          refine go_if_eq 66 64 dX6_offer_61 (fun h61 => ?_) (fun h61 => ?_)
          · refine go_aload_n 67 dX6_offer_66 rfl ?_
            refine gdV0v 70 dX6_offer_67 vX6_158 (ct_X6_remember (u := u) hU hu) ?_
            refine go_iload_n 71 dX6_offer_70 rfl ?_
            refine gcS1 74 dX6_offer_71 vX6_168 (ct_X6_legAt hk.1) ?_
            refine go_istore 76 dX6_offer_74 (by decide) ?_
            refine go_aload_n 77 dX6_offer_76 rfl ?_
            refine go_iload_n 78 dX6_offer_77 rfl ?_
            refine gdV1 81 dX6_offer_78 vX6_177 (ct_X6_callerOf hI.1 hk.1 hk.2.1) ?_
            refine go_iload_n 82 dX6_offer_81 rfl ?_
            refine go_icmp_ne 89 85 dX6_offer_82 (fun h82 => ?_) (fun h82 => ?_)
            · refine go_iconst 90 dX6_offer_89 zc_1 ?_
              refine go_istore 92 dX6_offer_90 (by decide) ?_
              refine go_aload_n 93 dX6_offer_92 rfl ?_
              refine gd_get 96 dX6_offer_93 fX6_17 rfl ?_
              refine go_iload 98 dX6_offer_96 rfl ?_
              refine go_bipush 100 dX6_offer_98 zb_6 ?_
              refine go_iadd 101 dX6_offer_100 ?_
              refine gd_iald 102 (146 + 13 * (tN (legW D p 1)) + 6) dX6_offer_101 (ix2 _ 6 _ rfl) (by omega) ?_
              refine go_istore 104 dX6_offer_102 (by decide) ?_
              refine go_iload 106 dX6_offer_104 rfl ?_
              refine go_iload 108 dX6_offer_106 rfl ?_
              refine go_icmp_ne 113 111 dX6_offer_108 (fun h108 => ?_) (fun h108 => ?_)
              · refine go_iload 115 dX6_offer_113 rfl ?_
                refine go_iconst 116 dX6_offer_115 zc_m1 ?_
                refine go_icmp_ne 129 119 dX6_offer_116 (fun h116 => ?_) (fun h116 => ?_)
                · refine go_aload_n 130 dX6_offer_129 rfl ?_
                  refine gd_get 133 dX6_offer_130 fX6_17 rfl ?_
                  refine go_iload 135 dX6_offer_133 rfl ?_
                  refine go_bipush 137 dX6_offer_135 zb_11 ?_
                  refine go_iadd 138 dX6_offer_137 ?_
                  refine go_iload 140 dX6_offer_138 rfl ?_
                  refine go_iadd 141 dX6_offer_140 ?_
                  refine go_aload_n 142 dX6_offer_141 rfl ?_
                  refine gd_get 145 dX6_offer_142 fX6_17 rfl ?_
                  refine go_iload 147 dX6_offer_145 rfl ?_
                  refine go_bipush 149 dX6_offer_147 zb_7 ?_
                  refine go_iadd 150 dX6_offer_149 ?_
                  refine gd_iald 151 (146 + 13 * (tN (legW D p 1)) + 7) dX6_offer_150 (ix2 _ 7 _ rfl) (by omega) ?_
                  refine gd_iast 152 (146 + 13 * (tN (legW D p 1)) + (11 + 0)) dX6_offer_151 (by rw [show D (146 + 13 * (tN (legW D p 1)) + 6) = nI 0 from h5]; exact ix3 _ 11 0 _ rfl) (by omega) ?_
                  refine go_aload_n 153 dX6_offer_152 rfl ?_
                  refine gd_get 156 dX6_offer_153 fX6_17 rfl ?_
                  refine go_iload 158 dX6_offer_156 rfl ?_
                  refine go_bipush 160 dX6_offer_158 zb_11 ?_
                  refine go_iadd 161 dX6_offer_160 ?_
                  refine go_iload 163 dX6_offer_161 rfl ?_
                  refine go_iadd 164 dX6_offer_163 ?_
                  refine go_iload_n 165 dX6_offer_164 rfl ?_
                  refine gd_iast 166 (146 + 13 * (tN (legW D p 1)) + (11 + 1)) dX6_offer_165 (ix3 _ 11 1 _ rfl) (by omega) ?_
                  refine go_aload_n 167 dX6_offer_166 rfl ?_
                  refine gd_get 170 dX6_offer_167 fX6_17 rfl ?_
                  refine go_iload 172 dX6_offer_170 rfl ?_
                  refine go_bipush 174 dX6_offer_172 zb_9 ?_
                  refine go_iadd 175 dX6_offer_174 ?_
                  refine go_aload_n 176 dX6_offer_175 rfl ?_
                  refine gd_get 179 dX6_offer_176 fX6_17 rfl ?_
                  refine go_iconst 180 dX6_offer_179 zc_0 ?_
                  refine gd_iald 181 (0) dX6_offer_180 rfl (by decide) ?_
                  refine go_aload_n 182 dX6_offer_181 rfl ?_
                  refine gd_get 185 dX6_offer_182 fX6_17 rfl ?_
                  refine go_iconst 186 dX6_offer_185 zc_1 ?_
                  refine gd_iald 187 (1) dX6_offer_186 rfl (by decide) ?_
                  refine go_iadd 188 dX6_offer_187 ?_
                  refine gd_iast 189 (146 + 13 * (tN (legW D p 1)) + 9) dX6_offer_188 (ix2 _ 9 _ rfl) (by omega) ?_
                  refine go_aload_n 190 dX6_offer_189 rfl ?_
                  refine gd_get 193 dX6_offer_190 fX6_17 rfl ?_
                  refine go_iload 195 dX6_offer_193 rfl ?_
                  refine go_bipush 197 dX6_offer_195 zb_9 ?_
                  refine go_iadd 198 dX6_offer_197 ?_
                  refine go_iconst 199 dX6_offer_198 zc_1 ?_
                  refine go_iadd 200 dX6_offer_199 ?_
                  refine go_aload_n 201 dX6_offer_200 rfl ?_
                  refine gd_get 204 dX6_offer_201 fX6_17 rfl ?_
                  refine go_iconst 205 dX6_offer_204 zc_0 ?_
                  refine gd_iald 206 (0) dX6_offer_205 rfl (by decide) ?_
                  refine go_aload_n 207 dX6_offer_206 rfl ?_
                  refine gd_get 210 dX6_offer_207 fX6_17 rfl ?_
                  refine go_iconst 211 dX6_offer_210 zc_2 ?_
                  refine gd_iald 212 (2) dX6_offer_211 rfl (by decide) ?_
                  refine go_iadd 213 dX6_offer_212 ?_
                  refine gd_iast 214 (146 + 13 * (tN (legW D p 1)) + 10) dX6_offer_213 (ix3 _ 9 1 _ rfl) (by omega) ?_
                  refine go_aload_n 215 dX6_offer_214 rfl ?_
                  refine gd_get 218 dX6_offer_215 fX6_17 rfl ?_
                  refine go_iload 220 dX6_offer_218 rfl ?_
                  refine go_bipush 222 dX6_offer_220 zb_6 ?_
                  refine go_iadd 223 dX6_offer_222 ?_
                  refine go_iconst 224 dX6_offer_223 zc_m1 ?_
                  refine gd_iast 225 (146 + 13 * (tN (legW D p 1)) + 6) dX6_offer_224 (ix2 _ 6 _ rfl) (by omega) ?_
                  refine go_aload_n 226 dX6_offer_225 rfl ?_
                  refine go_iconst 227 dX6_offer_226 zc_2 ?_
                  refine gdV1v 230 dX6_offer_227 vX6_199 (ct_X6_adds (t := 2) rfl (by decide)) ?_
                  refine go_iconst 231 dX6_offer_230 zc_m1 ?_
                  exact go_ireturn dX6_offer_231 rfl (by omega) (by omega) (⟨rfl, rfl⟩)
                · exact absurd (h5.symm.trans (by first | exact h116 | exact Classical.not_not.mp h116)) (by decide)
              · exact absurd (h5.symm.trans (by first | exact h108 | exact Classical.not_not.mp h108)) (by decide)
            · exact absurd (by first | exact h82 | exact Classical.not_not.mp h82) hs
          · exact absurd h61 (by decide)
        · exact absurd h49 h4
      · exact absurd h34 (by decide)
    · exact (zb_0 h22 h2).elim

noncomputable def offD (D : ZD) (k : Nat) (p v : Int32) : Int32 × ZD := if dL D k 6 = nI (sdN D k p) then (0, D) else if dL D k 6 = -1 then (1, layD D k (nI (sdN D k p)) v) else (-1, glrD D k (1 - sdN D k p) (sdN D k p) v)

set_option maxRecDepth 100000 in
set_option maxHeartbeats 4000000 in
theorem ct_X6_offer {l : Launch} {Γ : ZG} {w : ZW} {o : Nat} {S : MS} {D : ZD} (hI : Iv D) {p v : Int32} {u : Nat} (hU : S.1 12 = nI u) (hu : u ≤ 8) (h1 : 0 ≤ p ∧ p ≤ D 4 - 1) (h2 : 0 ≤ v ∧ v ≤ 999) (h4 : legW D p 1 ≠ -1) (h6 : dL D (tN (legW D p 1)) 6 = -1 ∨ dL D (tN (legW D p 1)) 6 = 0 ∨ dL D (tN (legW D p 1)) 6 = 1) : Cm l Γ mX6_offer 6 [.ref o, .int p, .int v] (wD Γ w o S D) (some (.int (offD D (tN (legW D p 1)) p v).1)) (wD Γ w o (remM (mf S 0 0) D u) (offD D (tN (legW D p 1)) p v).2) := by
  unfold offD
  rcases Classical.em (clr D (tN (legW D p 1)) = p) with hs | hs
  · rw [show sdN D (tN (legW D p 1)) p = 0 from if_pos hs, show nI 0 = 0 from rfl]
    rcases h6 with h5 | h5 | h5
    · rw [if_neg (fun q => absurd (h5.symm.trans q) (by decide)), if_pos h5]
      exact ct_X6_offer_5_0 hI hU hu h1 h2 h4 hs h5
    · rw [if_pos h5]
      exact ct_X6_offer_4_0 hI hU hu h1 h2 h4 hs h5
    · rw [if_neg (fun q => absurd (h5.symm.trans q) (by decide)), if_neg (fun q => absurd (h5.symm.trans q) (by decide))]
      exact ct_X6_offer_6_0 hI hU hu h1 h2 h4 hs h5
  · rw [show sdN D (tN (legW D p 1)) p = 1 from if_neg hs, show nI 1 = 1 from rfl]
    rcases h6 with h5 | h5 | h5
    · rw [if_neg (fun q => absurd (h5.symm.trans q) (by decide)), if_pos h5]
      exact ct_X6_offer_5_1 hI hU hu h1 h2 h4 hs h5
    · rw [if_neg (fun q => absurd (h5.symm.trans q) (by decide)), if_neg (fun q => absurd (h5.symm.trans q) (by decide))]
      exact ct_X6_offer_6_1 hI hU hu h1 h2 h4 hs h5
    · rw [if_pos h5]
      exact ct_X6_offer_4_1 hI hU hu h1 h2 h4 hs h5
end MOff
