section LAns
theorem ft_n1 {D X : ZD} {c : Nat} (h : ¬ rngs D (nI c)) : ftL D c X = X := if_neg (fun q => h q.1)
theorem ft_n2 {D X : ZD} {c : Nat} (h : rngs X (nI c)) : ftL D c X = X := if_neg (fun q => q.2 h)
theorem ft_y {D X : ZD} {c : Nat} (h1 : rngs D (nI c)) (h2 : ¬ rngs X (nI c)) : ftL D c X = failD X c := if_pos ⟨h1, h2⟩
theorem en_n {p r : Int32} {k : Nat} {X : ZD} (h : ¬ (dL X k 2 = 0 ∧ dL X k 1 = p)) : enS p r k X = X := if_neg h
theorem en_y {p r : Int32} {k : Nat} {X : ZD} (h1 : dL X k 2 = 0) (h2 : dL X k 1 = p) : enS p r k X = endD X k r := if_pos ⟨h1, h2⟩
theorem pot_ens {D : ZD} {p r : Int32} : ∀ (f i : Nat) (X : ZD), Same D X → i + f ≤ nL D → pot (itr (enS p r) i f X) ≤ pot X
  | 0, _, _, _, _ => Nat.le_refl _
  | f + 1, i, X, hs, hf => Nat.le_trans (pot_ens f (i + 1) (enS p r i X) (hs.trans sm_en) (by omega)) (pot_en (by rw [sm_nL hs]; omega))
theorem pot_ftI {D : ZD} : ∀ (f i : Nat) (X : ZD), pot (itr (ftL D) i f X) = pot X
  | 0, _, _ => rfl
  | f + 1, i, X => by
    show pot (itr (ftL D) (i + 1) f (ftL D i X)) = pot X
    rw [pot_ftI f (i + 1)]
    unfold ftL
    split
    · exact pot_fail
    · rfl

set_option maxRecDepth 100000 in
set_option maxHeartbeats 4000000 in
theorem lp3_endsTo {l : Launch} {Γ : ZG} {w0 : ZW} {T0 : LT} {sg : ZSg} {A : LA} {tm : Option Nat} {e : Nat} {D DF : ZD} (hV : Iv D) (hs : SegD sg D) {p r : Int32} {a mc : Nat} {ms : Nat} {g : Nat → Int32} (hg : ∀ j, j < nC D → g j = zb (rngs D (nI j))) : ∀ (f i : Nat) (w : ZW) (T : LT) (V : LA) (X : ZD) (k n : Nat), i + f = nC D → Same D X → LX Γ w T 1 sg A V tm e X → FR w0 T0 w T → w.2 a = some (.inl (Γ.2.2.1 5, nC D, .inl g)) → T a = 5 → k ≤ mc → n ≤ ms → itr (ftL D) i f X = DF → Go l Γ mX6_endsTo 3 mc ms (PvL Γ w0 T0 sg A tm e none DF) zNo k n w 102 [(0, .ref e), (1, .int p), (2, .int r), (3, .ref a), (4, .int (nI i))] [] := by
  have h20 := hV.1.2.1.2
  intro f
  induction f with
  | zero =>
    intro i w T V X k n hi hX h fr ha hTa hk hn hDF
    refine go_iload 104 dX6_endsTo_102 rfl ?_
    refine go_aload_n 105 dX6_endsTo_104 rfl ?_
    refine gl_x h 108 dX6_endsTo_105 fX6_27 rfl ?_
    refine gl_nC h 109 dX6_endsTo_108 ?_
    refine go_icmp_ge 149 112 dX6_endsTo_109 (fun h109 => ?_) (fun h109 => ?_)
    · exact go_return dX6_endsTo_149 rfl (by omega) (by omega) (⟨rfl, T, V, fr, hDF ▸ h⟩)
    · exact (lpE rfl (by rw [sm_nC hX]; omega) h109).elim
  | succ f ih =>
    intro i w T V X k n hi hX h fr ha hTa hk hn hDF
    refine go_wf fun hw => ?_
    refine go_iload 104 dX6_endsTo_102 rfl ?_
    refine go_aload_n 105 dX6_endsTo_104 rfl ?_
    refine gl_x h 108 dX6_endsTo_105 fX6_27 rfl ?_
    refine gl_nC h 109 dX6_endsTo_108 ?_
    refine go_icmp_ge 149 112 dX6_endsTo_109 (fun h109 => ?_) (fun h109 => ?_)
    · exact (lpG rfl (by rw [sm_nC hX]; omega) (by rw [sm_nC hX]; omega) h109).elim
    · refine go_aload_n 113 dX6_endsTo_112 rfl ?_
      refine go_iload 115 dX6_endsTo_113 rfl ?_
      refine go_zald 116 dX6_endsTo_115 ha (vp_in_nI (show i < nC D by omega) (by omega)) ?_
      rw [nI_clamp (by omega), hg i (by omega)]
      refine go_if_eq 143 119 dX6_endsTo_116 (fun h116 => ?_) (fun h116 => ?_)
      · refine go_iinc 146 dX6_endsTo_143 rfl (by decide) zc_1 ?_
        refine go_goto 102 dX6_endsTo_146 ?_
        rw [nI_1]
        exact go_locals _ rfl (ih (i + 1) w T V X k n (by omega) hX h fr ha hTa hk hn (by rw [← hDF]; exact congrArg (fun Z => itr (ftL D) (i + 1) f Z) (ft_n1 (zb_0 h116)).symm))
      · refine go_aload_n 120 dX6_endsTo_119 rfl ?_
        refine gl_x h 123 dX6_endsTo_120 fX6_27 rfl ?_
        refine go_iload 125 dX6_endsTo_123 rfl ?_
        refine gl_ca h (hV.1.same hX) rfl (show i < nC X by rw [sm_nC hX]; omega) 126 dX6_endsTo_125 ?_
        refine gcV0 129 dX6_endsTo_126 vX6_104 (h.c (show i < nC X by rw [sm_nC hX]; omega)).1 rfl (cl_rings h (hV.1.same hX) (hs.same hX) (show i < nC X by rw [sm_nC hX]; omega)) ?_
        refine go_if_ne 143 132 dX6_endsTo_129 (fun h129 => ?_) (fun h129 => ?_)
        · refine go_iinc 146 dX6_endsTo_143 rfl (by decide) zc_1 ?_
          refine go_goto 102 dX6_endsTo_146 ?_
          rw [nI_1]
          exact go_locals _ rfl (ih (i + 1) w T V X k n (by omega) hX h fr ha hTa hk hn (by rw [← hDF]; exact congrArg (fun Z => itr (ftL D) (i + 1) f Z) (ft_n2 (zb_1 h129)).symm))
        · refine go_aload_n 133 dX6_endsTo_132 rfl ?_
          refine go_aload_n 134 dX6_endsTo_133 rfl ?_
          refine gl_x h 137 dX6_endsTo_134 fX6_27 rfl ?_
          refine go_iload 139 dX6_endsTo_137 rfl ?_
          refine gl_ca h (hV.1.same hX) rfl (show i < nC X by rw [sm_nC hX]; omega) 140 dX6_endsTo_139 ?_
          refine gl_call fr 143 [.ref (A 1 i)] dX6_endsTo_140 vX6_124 h.x.1 rfl (cl_fails h (hV.same hX) (show i < nC X by rw [sm_nC hX]; omega)) (by decide) (by decide) (by omega) (by omega) (by exact Nat.le_of_ble_eq_true rfl) (fun w_140 T_140 V_140 h_140 f_140 g_140 => ?_)
          refine go_iinc 146 dX6_endsTo_143 rfl (by decide) zc_1 ?_
          refine go_goto 102 dX6_endsTo_146 ?_
          rw [nI_1]
          exact go_locals _ rfl (ih (i + 1) w_140 T_140 V_140 (failD X i) k n (by omega) (hX.trans sm_fail) h_140 f_140 ((g_140.2.2 a (hw a _ ha) (by rw [hTa]; decide)).trans ha) ((g_140.2.1 a (hw a _ ha)).trans hTa) hk hn (by rw [← hDF]; exact congrArg (fun Z => itr (ftL D) (i + 1) f Z) (ft_y (zb_1 h116) (zb_0 h129)).symm))

set_option maxRecDepth 100000 in
set_option maxHeartbeats 4000000 in
theorem lp2_endsTo {l : Launch} {Γ : ZG} {w0 : ZW} {T0 : LT} {sg : ZSg} {A : LA} {tm : Option Nat} {e : Nat} {D DF : ZD} (hV : Iv D) (hs : SegD sg D) {p r : Int32} {a mc : Nat} {D1 : ZD} {g : Nat → Int32} (hg : ∀ j, j < nC D → g j = zb (rngs D (nI j))) (hFF : itr (ftL D) 0 (nC D) D1 = DF) : ∀ (f i : Nat) (w : ZW) (T : LT) (V : LA) (X : ZD) (k n : Nat), i + f = nL D → Same D X → LX Γ w T 1 sg A V tm e X → FR w0 T0 w T → w.2 a = some (.inl (Γ.2.2.1 5, nC D, .inl g)) → T a = 5 → k + pot X ≤ mc + pot DF → n ≤ 20 * k → itr (enS p r) i f X = D1 → Go l Γ mX6_endsTo 3 mc (20 * mc) (PvL Γ w0 T0 sg A tm e none DF) zNo k n w 55 [(0, .ref e), (1, .int p), (2, .int r), (3, .ref a), (4, .ref (A 8 2)), (5, .int (nI (nL D))), (6, .int (nI i))] [] := by
  have h40 := hV.1.2.2.1.2
  intro f
  induction f with
  | zero =>
    intro i w T V X k n hi hX h fr ha hTa hk hn hDF
    refine go_iload 57 dX6_endsTo_55 rfl ?_
    refine go_iload 59 dX6_endsTo_57 rfl ?_
    refine go_icmp_ge 99 62 dX6_endsTo_59 (fun h59 => ?_) (fun h59 => ?_)
    · refine go_iconst 100 dX6_endsTo_99 zc_0 ?_
      refine go_istore 102 dX6_endsTo_100 (by decide) ?_
      have hp9 : pot X = pot DF := by rw [← hFF, pot_ftI, ← hDF]; rfl
      have hXD : X = D1 := hDF
      exact go_locals _ rfl (lp3_endsTo hV hs hg (nC D) 0 w T V X k n (Nat.zero_add _) hX h fr ha hTa (by omega) (by omega) (by rw [hXD]; exact hFF))
    · exact (lpE rfl (by omega) h59).elim
  | succ f ih =>
    intro i w T V X k n hi hX h fr ha hTa hk hn hDF
    refine go_wf fun hw => ?_
    refine go_iload 57 dX6_endsTo_55 rfl ?_
    refine go_iload 59 dX6_endsTo_57 rfl ?_
    refine go_icmp_ge 99 62 dX6_endsTo_59 (fun h59 => ?_) (fun h59 => ?_)
    · exact (lpG rfl (by omega) (by omega) h59).elim
    · refine go_aload 64 dX6_endsTo_62 rfl ?_
      refine go_iload 66 dX6_endsTo_64 rfl ?_
      refine gl_la h (hV.1.same hX) rfl (show i < nL X by rw [sm_nL hX]; omega) 67 dX6_endsTo_66 ?_
      refine go_astore 69 dX6_endsTo_67 (by decide) ?_
      refine go_aload 71 dX6_endsTo_69 rfl ?_
      refine gl_l h (show i < nL X by rw [sm_nL hX]; omega) 74 dX6_endsTo_71 fX6_75 rfl ?_
      refine go_if_ne 93 77 dX6_endsTo_74 (fun h74 => ?_) (fun h74 => ?_)
      · refine go_iinc 96 dX6_endsTo_93 rfl (by decide) zc_1 ?_
        refine go_goto 55 dX6_endsTo_96 ?_
        rw [nI_1]
        exact go_locals _ rfl (ih (i + 1) w T V X k n (by omega) hX h fr ha hTa hk hn (by rw [← hDF]; exact congrArg (fun Z => itr (enS p r) (i + 1) f Z) (en_n (fun q => h74 q.1)).symm))
      · refine go_aload 79 dX6_endsTo_77 rfl ?_
        refine gl_l h (show i < nL X by rw [sm_nL hX]; omega) 82 dX6_endsTo_79 fX6_72 rfl ?_
        refine go_iload_n 83 dX6_endsTo_82 rfl ?_
        refine go_icmp_ne 93 86 dX6_endsTo_83 (fun h83 => ?_) (fun h83 => ?_)
        · refine go_iinc 96 dX6_endsTo_93 rfl (by decide) zc_1 ?_
          refine go_goto 55 dX6_endsTo_96 ?_
          rw [nI_1]
          exact go_locals _ rfl (ih (i + 1) w T V X k n (by omega) hX h fr ha hTa hk hn (by rw [← hDF]; exact congrArg (fun Z => itr (enS p r) (i + 1) f Z) (en_n (fun q => h83 q.2)).symm))
        · have hp9 := pot_end (D := X) (k := i) (r := r) (show i < nL X by rw [sm_nL hX]; omega) (by rw [h74]; decide)
          have hm9 : pot DF ≤ pot (endD X i r) := by
            rw [← hFF, pot_ftI, ← hDF, show itr (enS p r) i (f + 1) X = itr (enS p r) (i + 1) f (endD X i r) from congrArg (fun Z => itr (enS p r) (i + 1) f Z) (en_y h74 h83)]
            exact pot_ens f (i + 1) _ (hX.trans sm_end_) (by omega)
          refine go_aload 88 dX6_endsTo_86 rfl ?_
          refine go_iconst 89 dX6_endsTo_88 zc_3 ?_
          refine go_iload_n 90 dX6_endsTo_89 rfl ?_
          refine gl_call fr 93 [.int 3, .int r] dX6_endsTo_90 vX6_120 (h.l (show i < nL X by rw [sm_nL hX]; omega)).1.1 rfl (cl_close h (hV.1.same hX) (show i < nL X by rw [sm_nL hX]; omega)) (by decide) (by decide) (by omega) (by omega) (by exact Nat.le_of_ble_eq_true rfl) (fun w_90 T_90 V_90 h_90 f_90 g_90 => ?_)
          refine go_iinc 96 dX6_endsTo_93 rfl (by decide) zc_1 ?_
          refine go_goto 55 dX6_endsTo_96 ?_
          rw [nI_1]
          exact go_locals _ rfl (ih (i + 1) w_90 T_90 V_90 (endD X i r) (k + 1) (n + 2) (by omega) (hX.trans sm_end_) h_90 f_90 ((g_90.2.2 a (hw a _ ha) (by rw [hTa]; decide)).trans ha) ((g_90.2.1 a (hw a _ ha)).trans hTa) (by omega) (by omega) (by rw [← hDF]; exact congrArg (fun Z => itr (enS p r) (i + 1) f Z) (en_y h74 h83).symm))

set_option maxRecDepth 100000 in
set_option maxHeartbeats 4000000 in
theorem lp1_endsTo {l : Launch} {Γ : ZG} {w0 : ZW} {T0 : LT} {sg : ZSg} {A : LA} {tm : Option Nat} {e : Nat} {D : ZD} (hV : Iv D) (hs : SegD sg D) {p r : Int32} {a mc : Nat} {T : LT} {V : LA} {k n : Nat} (hTa : T a = 5) (hb : w0.1 ≤ a) (hk : k + pot D ≤ mc + pot (endToD D p r)) (hn : n ≤ 20 * k) : ∀ (f i : Nat) (w : ZW) (g : Nat → Int32), i + f = nC D → LX Γ w T 1 sg A V tm e D → FR w0 T0 w T → w.2 a = some (.inl (Γ.2.2.1 5, nC D, .inl g)) → (∀ j, j < i → g j = zb (rngs D (nI j))) → Go l Γ mX6_endsTo 3 mc (20 * mc) (PvL Γ w0 T0 sg A tm e none (endToD D p r)) zNo k n w 11 [(0, .ref e), (1, .int p), (2, .int r), (3, .ref a), (4, .int (nI i))] [] := by
  have h20 := hV.1.2.1.2
  have hle := pot_endTo hV (p := p) (r := r)
  intro f
  induction f with
  | zero =>
    intro i w g hi h fr ha hg
    refine go_iload 13 dX6_endsTo_11 rfl ?_
    refine go_aload_n 14 dX6_endsTo_13 rfl ?_
    refine gl_x h 17 dX6_endsTo_14 fX6_27 rfl ?_
    refine gl_nC h 18 dX6_endsTo_17 ?_
    refine go_icmp_ge 41 21 dX6_endsTo_18 (fun h18 => ?_) (fun h18 => ?_)
    · refine go_aload_n 42 dX6_endsTo_41 rfl ?_
      refine gl_x h 45 dX6_endsTo_42 fX6_33 rfl ?_
      refine go_astore 47 dX6_endsTo_45 (by decide) ?_
      refine go_aload 49 dX6_endsTo_47 rfl ?_
      refine gl_nL h 50 dX6_endsTo_49 ?_
      refine go_istore 52 dX6_endsTo_50 (by decide) ?_
      refine go_iconst 53 dX6_endsTo_52 zc_0 ?_
      refine go_istore 55 dX6_endsTo_53 (by decide) ?_
      exact go_locals _ rfl (lp2_endsTo hV hs (fun j hj => hg j (by omega)) (ends_eq hV) (nL D) 0 w T V D k n (Nat.zero_add _) sm_rf h fr ha hTa hk hn rfl)
    · exact (lpE rfl (by omega) h18).elim
  | succ f ih =>
    intro i w g hi h fr ha hg
    refine go_iload 13 dX6_endsTo_11 rfl ?_
    refine go_aload_n 14 dX6_endsTo_13 rfl ?_
    refine gl_x h 17 dX6_endsTo_14 fX6_27 rfl ?_
    refine gl_nC h 18 dX6_endsTo_17 ?_
    refine go_icmp_ge 41 21 dX6_endsTo_18 (fun h18 => ?_) (fun h18 => ?_)
    · exact (lpG rfl (by omega) (by omega) h18).elim
    · refine go_aload_n 22 dX6_endsTo_21 rfl ?_
      refine go_iload 24 dX6_endsTo_22 rfl ?_
      refine go_aload_n 25 dX6_endsTo_24 rfl ?_
      refine gl_x h 28 dX6_endsTo_25 fX6_27 rfl ?_
      refine go_iload 30 dX6_endsTo_28 rfl ?_
      refine gl_ca h hV.1 rfl (show i < nC D by omega) 31 dX6_endsTo_30 ?_
      refine gcV0 34 dX6_endsTo_31 vX6_104 (h.c (show i < nC D by omega)).1 rfl (cl_rings h hV.1 hs (show i < nC D by omega)) ?_
      refine go_zast 35 dX6_endsTo_34 ha (vp_in_nI (show i < nC D by omega) (by omega)) (zb_01 _) ?_
      rw [nI_clamp (by omega)]
      refine go_iinc 38 dX6_endsTo_35 rfl (by decide) zc_1 ?_
      refine go_goto 11 dX6_endsTo_38 ?_
      rw [nI_1]
      refine go_locals _ rfl (ih (i + 1) _ _ (by omega) (h.flux hTa) (fr.new hb) (if_pos rfl) (fun j hj => ?_))
      show (if j = i then _ else g j) = _
      by_cases hji : j = i
      · rw [if_pos hji, hji]
      · rw [if_neg hji]; exact hg j (by omega)

set_option maxRecDepth 100000 in
set_option maxHeartbeats 4000000 in
theorem cl_endsTo {l : Launch} {Γ : ZG} {w : ZW} {T : LT} {sg : ZSg} {A V : LA} {tm : Option Nat} {e : Nat} {D : ZD} (h : LX Γ w T 1 sg A V tm e D) (hV : Iv D) (hs : SegD sg D) {p r : Int32} {mc : Nat} (hm : 1 + pot D ≤ mc + pot (endToD D p r)) : Ct l Γ mX6_endsTo 3 mc (20 * mc) [.ref e, .int p, .int r] w (PvL Γ w T sg A tm e none (endToD D p r)) zNo := by
  have h20 := hV.1.2.1.2
  have hle := pot_endTo hV (p := p) (r := r)
  refine Ct.of (by decide) rfl (Nat.le_of_ble_eq_true rfl) ?_
  refine go_aload_n 1 dX6_endsTo_0 rfl ?_
  refine gl_x h 4 dX6_endsTo_1 fX6_27 rfl ?_
  refine gl_nC h 5 dX6_endsTo_4 ?_
  refine gl_newz h FR.rf 7 dX6_endsTo_5 rfl (by omega) (by omega) (by omega) (fun w_5 T_5 a_5 h_5 f_5 x_5 t_5 b_5 => ?_)
  refine go_astore_n 8 dX6_endsTo_7 (by decide) ?_
  refine go_iconst 9 dX6_endsTo_8 zc_0 ?_
  refine go_istore 11 dX6_endsTo_9 (by decide) ?_
  exact go_locals _ rfl (lp1_endsTo hV hs t_5 b_5 (by omega) (by omega) (nC D) 0 w_5 _ (Nat.zero_add _) h_5 f_5 x_5 (fun j hj => absurd hj (Nat.not_lt_zero j)))

theorem ans3_2 {D : ZD} {K : Nat} (h : ofN D K < 20) : dL (ans3 D K) K 2 = 1 := by
  unfold ans3
  rw [tally_L (by decide), show dL (setC (setL D K 2 1) (ofN D K) 4 (nI K)) K 2 = dL (setL D K 2 1) K 2 from if_neg (by omega), dL_setL]
theorem pot_ans3 {D : ZD} {K : Nat} (h : ofN D K < 20) (hk : K < nL D) (h0 : dL D K 2 = 0) : pot (ans3 D K) + 2 = pot D := by
  have h1 := pot_set (D' := ans3 D K) hk (sm_nL (sm_ans3 h)) (fun k' q => by
    unfold ans3
    rw [tally_L (by decide), show dL (setC (setL D K 2 1) (ofN D K) 4 (nI K)) k' 2 = dL (setL D K 2 1) k' 2 from if_neg (by omega), dL_setLn (by omega)])
  rw [ans3_2 h, h0] at h1
  have a : wt 0 = 3 := rfl
  have b : wt 1 = 1 := rfl
  omega
theorem er_y {r : Int32} {k : Nat} {X : ZD} (h : dL X k 2 = 0) : erS r k X = endD X k r := if_pos h
theorem er_n {r : Int32} {k : Nat} {X : ZD} (h : ¬ dL X k 2 = 0) : erS r k X = X := if_neg h

set_option maxRecDepth 100000 in
set_option maxHeartbeats 4000000 in
theorem lpA_answers {l : Launch} {Γ : ZG} {w0 : ZW} {T0 : LT} {sg : ZSg} {A : LA} {tm : Option Nat} {e : Nat} {D DF : ZD} (hV : Iv D) (hs : SegD sg D) {c mc B : Nat} (hc : c < nC D) (hB : B ≤ mc + pot DF) {K : Nat} {Φ : Option Value → ZW → Prop} (kx : ∀ (w : ZW) (T : LT) (V : LA) (k n : Nat), LX Γ w T 1 sg A V tm e DF → FR w0 T0 w T → k + pot DF ≤ B → n ≤ 20 * k → Go l Γ mX6_answers 4 mc (20 * mc) Φ zNo k n w 71 [(0, .ref e), (1, .ref (A 0 K)), (2, .ref (A 1 c))] []) : ∀ (f i : Nat) (w : ZW) (T : LT) (V : LA) (X : ZD) (k n : Nat), i + f = (sg c).2 - (sg c).1 → Same D X → LX Γ w T 1 sg A V tm e X → FR w0 T0 w T → k + pot X ≤ B → n ≤ 20 * k → itr (erS 2) ((sg c).1 + i) f X = DF → Go l Γ mX6_answers 4 mc (20 * mc) Φ zNo k n w 37 [(0, .ref e), (1, .ref (A 0 K)), (2, .ref (A 1 c)), (3, .ref (A 4 c)), (4, .int (nI ((sg c).2 - (sg c).1))), (5, .int (nI i))] [] := by
  have h40 := hV.1.2.2.1.2
  have hsc := hs c hc
  intro f
  induction f with
  | zero =>
    intro i w T V X k n hi hX h fr hk hn hDF
    have hDF : X = DF := hDF
    refine go_iload 39 dX6_answers_37 rfl ?_
    refine go_iload 41 dX6_answers_39 rfl ?_
    refine go_icmp_ge 71 44 dX6_answers_41 (fun h41 => ?_) (fun h41 => ?_)
    · exact go_locals _ rfl (kx w T V k n (by rw [← hDF]; exact h) fr (by rw [← hDF]; exact hk) hn)
    · exact (lpE rfl (by omega) h41).elim
  | succ f ih =>
    intro i w T V X k n hi hX h fr hk hn hDF
    refine go_iload 39 dX6_answers_37 rfl ?_
    refine go_iload 41 dX6_answers_39 rfl ?_
    refine go_icmp_ge 71 44 dX6_answers_41 (fun h41 => ?_) (fun h41 => ?_)
    · exact (lpG rfl (by omega) (by omega) h41).elim
    · refine go_aload_n 45 dX6_answers_44 rfl ?_
      refine go_iload 47 dX6_answers_45 rfl ?_
      refine gl_tl h (lt_smC hX hc) rfl (show i < (sg c).2 - (sg c).1 by omega) (by omega) 48 dX6_answers_47 ?_
      refine go_astore 50 dX6_answers_48 (by decide) ?_
      refine go_aload 52 dX6_answers_50 rfl ?_
      refine gl_l h (show (sg c).1 + i < nL X by rw [sm_nL hX]; omega) 55 dX6_answers_52 fX6_75 rfl ?_
      refine go_if_ne 65 58 dX6_answers_55 (fun h55 => ?_) (fun h55 => ?_)
      · refine go_iinc 68 dX6_answers_65 rfl (by decide) zc_1 ?_
        refine go_goto 37 dX6_answers_68 ?_
        rw [nI_1]
        exact go_locals _ rfl (ih (i + 1) w T V X k n (by omega) hX h fr hk hn (by rw [← hDF]; exact congrArg (fun Z => itr (erS 2) ((sg c).1 + i + 1) f Z) (er_n h55).symm))
      · have hp9 := pot_end (D := X) (k := (sg c).1 + i) (r := 2) (show (sg c).1 + i < nL X by rw [sm_nL hX]; omega) (by rw [h55]; decide)
        have hm9 : pot DF ≤ pot (endD X ((sg c).1 + i) 2) := by
          rw [← hDF, show itr (erS 2) ((sg c).1 + i) (f + 1) X = itr (erS 2) ((sg c).1 + i + 1) f (endD X ((sg c).1 + i) 2) from congrArg (fun Z => itr (erS 2) ((sg c).1 + i + 1) f Z) (er_y h55)]
          exact pot_ers f ((sg c).1 + i + 1) _ (hX.trans sm_end_) (by omega)
        refine go_aload 60 dX6_answers_58 rfl ?_
        refine go_iconst 61 dX6_answers_60 zc_3 ?_
        refine go_iconst 62 dX6_answers_61 zc_2 ?_
        refine gl_call fr 65 [.int 3, .int 2] dX6_answers_62 vX6_120 (h.l (show (sg c).1 + i < nL X by rw [sm_nL hX]; omega)).1.1 rfl (cl_close h (hV.1.same hX) (show (sg c).1 + i < nL X by rw [sm_nL hX]; omega)) (by decide) (by decide) (by omega) (by omega) (by exact Nat.le_of_ble_eq_true rfl) (fun w_62 T_62 V_62 h_62 f_62 g_62 => ?_)
        refine go_iinc 68 dX6_answers_65 rfl (by decide) zc_1 ?_
        refine go_goto 37 dX6_answers_68 ?_
        rw [nI_1]
        exact go_locals _ rfl (ih (i + 1) w_62 T_62 V_62 (endD X ((sg c).1 + i) 2) (k + 1) (n + 2) (by omega) (hX.trans sm_end_) h_62 f_62 (by omega) (by omega) (by rw [← hDF]; exact congrArg (fun Z => itr (erS 2) ((sg c).1 + i + 1) f Z) (er_y h55).symm))

theorem fA_0 {D : ZD} {K : Nat} (hV : Iv D) (hk : K < nL D) : dC (ans5 D K) (ofN D K) 3 = dC D (ofN D K) 3 := by
  have hc := (hV.1.2.2.2 K hk).2
  have h20 := hV.1.2.1.2
  exact (sm_ans5 (by omega)).C (by omega) (by decide)
theorem fA_1 {D : ZD} {K : Nat} (hV : Iv D) (hk : K < nL D) (h : dC (ans5 D K) (ofN D K) 3 = -1) : ansD D K = ans5 D K := if_pos ((fA_0 hV hk).symm.trans h)
theorem fA_2 {D : ZD} {K : Nat} (hV : Iv D) (hk : K < nL D) (h : dC (ans5 D K) (ofN D K) 3 ≠ -1) (h2 : ¬ dL (ans5 D K) (tN (dC (ans5 D K) (ofN D K) 3)) 2 = 2) : ansD D K = ans5 D K := by
  rw [fA_0 hV hk] at h h2
  exact (if_neg h).trans (if_neg h2)
theorem fA_3 {D : ZD} {K : Nat} (hV : Iv D) (hk : K < nL D) (h : dC (ans5 D K) (ofN D K) 3 ≠ -1) (h2 : dL (ans5 D K) (tN (dC (ans5 D K) (ofN D K) 3)) 2 = 2) : ansD D K = tally (endD (ans5 D K) (tN (dC (ans5 D K) (ofN D K) 3)) 7) 6 := by
  rw [fA_0 hV hk] at h h2 ⊢
  exact (if_neg h).trans (if_pos h2)
theorem pot_ans5 {D : ZD} {K : Nat} (hV : Iv D) (hk : K < nL D) : pot (ansD D K) ≤ pot (ans5 D K) := by
  by_cases h : dC (ans5 D K) (ofN D K) 3 = -1
  · rw [fA_1 hV hk h]; exact Nat.le_refl _
  · by_cases h2 : dL (ans5 D K) (tN (dC (ans5 D K) (ofN D K) 3)) 2 = 2
    · have hc := (hV.1.2.2.2 K hk).2
      have h20 := hV.1.2.1.2
      have s5 : Same D (ans5 D K) := sm_ans5 (by omega)
      have hp9 := pot_end (D := ans5 D K) (r := 7) (rfK (hV.same s5) (lt_smC s5 hc) h) (by rw [h2]; decide)
      rw [fA_3 hV hk h h2, pot_tally (by decide)]
      omega
    · rw [fA_2 hV hk h h2]; exact Nat.le_refl _

set_option maxRecDepth 100000 in
set_option maxHeartbeats 4000000 in
theorem cl_answers {l : Launch} {Γ : ZG} {w : ZW} {T : LT} {sg : ZSg} {A V : LA} {tm : Option Nat} {e : Nat} {D : ZD} (h : LX Γ w T 1 sg A V tm e D) (hV : Iv D) (hs : SegD sg D) {K : Nat} (hk : K < nL D) (h0 : dL D K 2 = 0) {mc : Nat} (hm : pot D ≤ mc + pot (ansD D K)) : Ct l Γ mX6_answers 4 mc (20 * mc) [.ref e, .ref (A 0 K)] w (PvL Γ w T sg A tm e none (ansD D K)) zNo := by
  have hI := hV.1
  have h20 := hI.2.1.2
  have h40 := hI.2.2.1.2
  have hc := (hI.2.2.2 K hk).2
  have c20 : ofN D K < 20 := by omega
  have s3 : Same D (ans3 D K) := sm_ans3 c20
  have s4 : Same D (ans4 D K) := sm_ans4 c20
  have s5 : Same D (ans5 D K) := sm_ans5 c20
  have e4 : itr (erS 2) (sg (ofN D K)).1 ((sg (ofN D K)).2 - (sg (ofN D K)).1) (ans3 D K) = ans4 D K := by
    rw [er_eq hs hI s3 hc (Or.inr ⟨K, rfl, hk, by rw [ans3_2 c20]; decide⟩)]
    unfold ans4
    rw [(hI.2.2.2 K hk).1]
  have p3 := pot_ans3 c20 hk h0
  have p4 : pot (ans4 D K) ≤ pot (ans3 D K) := by rw [← e4]; exact pot_ers _ _ _ s3 (by have := hs _ hc; omega)
  have p5 : pot (ans5 D K) ≤ pot (ans4 D K) := pot_endTo (hV.same s4)
  have pF := pot_ans5 hV hk
  have K71 : ∀ (w' : ZW) (T' : LT) (V' : LA) (k n : Nat), LX Γ w' T' 1 sg A V' tm e (ans4 D K) → FR w T w' T' → k + pot (ans4 D K) ≤ mc + pot (ansD D K) - 2 → n ≤ 20 * k → Go l Γ mX6_answers 4 mc (20 * mc) (PvL Γ w T sg A tm e none (ansD D K)) zNo k n w' 71 [(0, .ref e), (1, .ref (A 0 K)), (2, .ref (A 1 (ofN D K)))] [] := by
    intro w T V k n h fr hk9 hn9
    refine go_aload_n 72 dX6_answers_71 rfl ?_
    refine go_aload_n 73 dX6_answers_72 rfl ?_
    refine gl_l h (lt_sm s4 hk) 76 dX6_answers_73 fX6_72 rfl ?_
    refine go_iconst 77 dX6_answers_76 zc_1 ?_
    refine gl_call fr 80 [.int (dL (ans4 D K) K 1), .int 1] dX6_answers_77 vX6_127 h.x.1 rfl (cl_endsTo (mc := 1 + pot (ans4 D K) - pot (ans5 D K)) h (hV.same s4) (hs.same s4) (by unfold ans5 at p5 ⊢; omega)) (by decide) (by decide) (by omega) (by omega) (by exact Nat.le_of_ble_eq_true rfl) (fun w_77 T_77 V_77 h_77 f_77 g_77 => ?_)
    have h_77 : LX Γ w_77 T_77 1 sg A V_77 tm e (ans5 D K) := h_77
    refine go_aload_n 81 dX6_answers_80 rfl ?_
    refine gl_t h_77 (lt_smC s5 hc) 84 dX6_answers_81 fX6_97 rfl ?_
    refine go_ifnullQ 98 87 dX6_answers_84 (fun n84 => ?_) (fun x84 n84 => ?_)
    · have o84 := lgO_n n84
      exact go_return dX6_answers_98 rfl (by omega) (by omega) (by rw [fA_1 hV hk o84]; exact ⟨rfl, _, _, f_77, h_77⟩)
    · have o84 := lgO_s n84
      refine go_aload_n 88 dX6_answers_87 rfl ?_
      refine gl_t h_77 (lt_smC s5 hc) 91 dX6_answers_88 fX6_97 (tFs3 o84) ?_
      refine gl_l h_77 (rfK (hV.same s5) (lt_smC s5 hc) o84) 94 dX6_answers_91 fX6_75 rfl ?_
      refine go_iconst 95 dX6_answers_94 zc_2 ?_
      refine go_icmp_eq 99 98 dX6_answers_95 (fun h95 => ?_) (fun h95 => ?_)
      · have hp9 := pot_end (D := ans5 D K) (r := 7) (rfK (hV.same s5) (lt_smC s5 hc) o84) (by rw [h95]; decide)
        have eF : pot (ansD D K) + 1 ≤ pot (ans5 D K) := by rw [fA_3 hV hk o84 h95, pot_tally (by decide)]; exact hp9
        refine go_aload_n 100 dX6_answers_99 rfl ?_
        refine gl_t h_77 (lt_smC s5 hc) 103 dX6_answers_100 fX6_97 (tFs3 o84) ?_
        refine go_iconst 104 dX6_answers_103 zc_3 ?_
        refine go_bipush 106 dX6_answers_104 zb_7 ?_
        refine gl_call f_77 109 [.int 3, .int 7] dX6_answers_106 vX6_120 (h_77.l (rfK (hV.same s5) (lt_smC s5 hc) o84)).1.1 rfl (cl_close h_77 (hI.same s5) (rfK (hV.same s5) (lt_smC s5 hc) o84)) (by decide) (by decide) (by omega) (by omega) (by exact Nat.le_of_ble_eq_true rfl) (fun w_106 T_106 V_106 h_106 f_106 g_106 => ?_)
        refine go_aload_n 110 dX6_answers_109 rfl ?_
        refine gl_x h_106 113 dX6_answers_110 fX6_37 rfl ?_
        refine go_bipush 115 dX6_answers_113 zb_6 ?_
        refine go_dup2 116 dX6_answers_115 rfl rfl ?_
        refine gl_ti h_106 rfl (by decide) 117 dX6_answers_116 ?_
        refine go_iconst 118 dX6_answers_117 zc_1 ?_
        refine go_iadd 119 dX6_answers_118 ?_
        refine gl_tot h_106 ((hI.same s5).same sm_end_) f_106 rfl (by decide) rfl 120 dX6_answers_119 (fun w_119 h_119 f_119 z_119 => ?_)
        exact go_return dX6_answers_120 rfl (by omega) (by omega) (by rw [fA_3 hV hk o84 h95]; exact ⟨rfl, _, _, f_119, h_119⟩)
      · exact go_return dX6_answers_98 rfl (by omega) (by omega) (by rw [fA_2 hV hk o84 h95]; exact ⟨rfl, _, _, f_77, h_77⟩)
  refine Ct.of (by decide) rfl (Nat.le_of_ble_eq_true rfl) ?_
  refine go_aload_n 1 dX6_answers_0 rfl ?_
  refine gl_l h hk 4 dX6_answers_1 fX6_64 rfl ?_
  refine go_astore_n 5 dX6_answers_4 (by decide) ?_
  refine go_aload_n 6 dX6_answers_5 rfl ?_
  refine go_iconst 7 dX6_answers_6 zc_1 ?_
  refine gl_lput h hI hk FR.rf (by decide) 10 dX6_answers_7 pX6_75 (fun w_7 h_7 f_7 z_7 => ?_)
  refine go_aload_n 11 dX6_answers_10 rfl ?_
  refine go_aload_n 12 dX6_answers_11 rfl ?_
  refine gl_ans h_7 (hI.same (sm_setL (by decide) (by decide))) (lt_smC (sm_setL (by decide) (by decide)) hc) (by omega) f_7 15 dX6_answers_12 pX6_101 (fun w_12 h_12 f_12 z_12 => ?_)
  refine go_aload_n 16 dX6_answers_15 rfl ?_
  refine gl_x h_12 19 dX6_answers_16 fX6_37 rfl ?_
  refine go_iconst 20 dX6_answers_19 zc_4 ?_
  refine go_dup2 21 dX6_answers_20 rfl rfl ?_
  refine gl_ti h_12 rfl (by decide) 22 dX6_answers_21 ?_
  refine go_iconst 23 dX6_answers_22 zc_1 ?_
  refine go_iadd 24 dX6_answers_23 ?_
  refine gl_tot h_12 (hI.same ((sm_setL (by decide) (by decide)).trans (sm_setC c20))) f_12 rfl (by decide) rfl 25 dX6_answers_24 (fun w_24 h_24 f_24 z_24 => ?_)
  refine go_aload_n 26 dX6_answers_25 rfl ?_
  refine gl_t h_24 (lt_smC (((sm_setL (by decide) (by decide)).trans (sm_setC c20)).trans (sm_tally (by decide))) hc) 29 dX6_answers_26 fX6_62 rfl ?_
  refine go_astore_n 30 dX6_answers_29 (by decide) ?_
  refine go_aload_n 31 dX6_answers_30 rfl ?_
  refine gl_nS h_24 (lt_smC (((sm_setL (by decide) (by decide)).trans (sm_setC c20)).trans (sm_tally (by decide))) hc) 32 dX6_answers_31 ?_
  refine go_istore 34 dX6_answers_32 (by decide) ?_
  refine go_iconst 35 dX6_answers_34 zc_0 ?_
  refine go_istore 37 dX6_answers_35 (by decide) ?_
  exact go_locals _ rfl (lpA_answers hV hs hc (by omega) K71 _ 0 _ _ _ (ans3 D K) 0 0 (Nat.zero_add _) s3 h_24 f_24 (by omega) (by omega) e4)

end LAns
