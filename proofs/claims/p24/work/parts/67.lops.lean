section LOps
theorem hu_1 {D : ZD} {x : Int32} (h : legW D x 1 ≠ -1) : hupD D x = (1, endD D (tN (legW D x 1)) 6) := if_pos h
theorem hu_2 {D : ZD} {x : Int32} (h : legW D x 1 = -1) (h2 : rngOf D x ≠ -1) : hupD D x = (2, takeB (endAllD D (rngOf D x) (-1) 4) (tN (rngOf D x))) := (if_neg (fun q => q h)).trans (if_pos h2)
theorem hu_3 {D : ZD} {x : Int32} (h : legW D x 1 = -1) (h2 : rngOf D x = -1) (h3 : legW D x 2 ≠ -1) : hupD D x = (3, endD D (tN (legW D x 2)) 6) := (if_neg (fun q => q h)).trans ((if_neg (fun q => q h2)).trans (if_pos h3))
theorem hu_4 {D : ZD} {x : Int32} (h : legW D x 1 = -1) (h2 : rngOf D x = -1) (h3 : legW D x 2 = -1) (h4 : rung D x = 0) : hupD D x = (0, D) := (if_neg (fun q => q h)).trans ((if_neg (fun q => q h2)).trans ((if_neg (fun q => q h3)).trans (if_pos h4)))
theorem hu_5 {D : ZD} {x : Int32} (h : legW D x 1 = -1) (h2 : rngOf D x = -1) (h3 : legW D x 2 = -1) (h4 : ¬ rung D x = 0) : hupD D x = (4, endToD D x 5) := (if_neg (fun q => q h)).trans ((if_neg (fun q => q h2)).trans ((if_neg (fun q => q h3)).trans (if_neg h4)))
theorem va_rf_cat {r : Option Nat} : (va_rf r).category = 1 := by cases r <;> rfl
theorem set_comm {D : ZD} {k i j : Nat} {a b : Int32} (h : i ≠ j) : setL (setL D k i a) k j b = setL (setL D k j b) k i a := upd_comm (by omega)
theorem glr_0 {D : ZD} {k : Nat} {v : Int32} : tally (setL (setL (setL (setL (setL D k 9 (D 0 + D 1)) k 11 v) k 10 (D 0 + D 2)) k 12 (dL D k 7)) k 6 (-1)) 2 = glrD D k 1 0 v := by
  unfold glrD
  simp only
  refine congrArg (fun X => tally X 2) (congrArg (fun X => setL X k 6 (-1)) ?_)
  rw [low_setL (D := setL D k (11 + 1) (dL D k 7)) (by decide), low_setL (D := setL D k (11 + 1) (dL D k 7)) (by decide), low_setL (D := D) (j := 11 + 1) (by decide), low_setL (D := D) (j := 11 + 1) (by decide), low_setL (j := 9) (by decide), low_setL (j := 9) (by decide), low_setL (D := setL D k (11 + 1) (dL D k 7)) (by decide), low_setL (D := setL D k (11 + 1) (dL D k 7)) (by decide), low_setL (D := D) (j := 11 + 1) (by decide), low_setL (D := D) (j := 11 + 1) (by decide)]
  rw [set_comm (D := D) (i := 11 + 1) (j := 11 + 0) (by decide), set_comm (D := setL D k (11 + 0) v) (i := 11 + 1) (j := 9) (by decide), set_comm (D := setL (setL D k (11 + 0) v) k 9 (D 0 + D 1)) (i := 11 + 1) (j := 10) (by decide), set_comm (D := D) (i := 11 + 0) (j := 9) (by decide)]
theorem glr_1 {D : ZD} {k : Nat} {v : Int32} : tally (setL (setL (setL (setL (setL D k 10 (D 0 + D 2)) k 12 v) k 9 (D 0 + D 1)) k 11 (dL D k 7)) k 6 (-1)) 2 = glrD D k 0 1 v := by
  unfold glrD
  simp only
  refine congrArg (fun X => tally X 2) (congrArg (fun X => setL X k 6 (-1)) ?_)
  rw [low_setL (D := setL D k (11 + 0) (dL D k 7)) (by decide), low_setL (D := setL D k (11 + 0) (dL D k 7)) (by decide), low_setL (D := D) (j := 11 + 0) (by decide), low_setL (D := D) (j := 11 + 0) (by decide), low_setL (j := 9) (by decide), low_setL (j := 9) (by decide), low_setL (D := setL D k (11 + 0) (dL D k 7)) (by decide), low_setL (D := setL D k (11 + 0) (dL D k 7)) (by decide), low_setL (D := D) (j := 11 + 0) (by decide), low_setL (D := D) (j := 11 + 0) (by decide)]
  rw [set_comm (D := D) (i := 11 + 0) (j := 11 + 1) (by decide), set_comm (D := setL D k (11 + 1) v) (i := 11 + 0) (j := 9) (by decide), set_comm (D := setL (setL D k (11 + 1) v) k 9 (D 0 + D 1)) (i := 11 + 0) (j := 10) (by decide), set_comm (D := setL D k (11 + 1) v) (i := 9) (j := 10) (by decide), set_comm (D := D) (i := 11 + 1) (j := 10) (by decide)]
/-- the waits are small -/
def JW (D : ZD) : Prop := ∃ a b, D 1 = nI a ∧ a ≤ 99 ∧ D 2 = nI b ∧ b ≤ 99
theorem of_0 {D : ZD} {k : Nat} {p v : Int32} (h : dL D k 6 = nI (sdN D k p)) : offD D k p v = (0, D) := if_pos h
theorem of_1 {D : ZD} {k : Nat} {p v : Int32} (h : dL D k 6 = -1) (hb : sdN D k p < 2) : offD D k p v = (1, layD D k (nI (sdN D k p)) v) := (if_neg (fun q => nI_nm1 (by omega) (q.symm.trans h))).trans (if_pos h)
theorem of_2 {D : ZD} {k : Nat} {p v : Int32} (h0 : ¬ dL D k 6 = nI (sdN D k p)) (h : dL D k 6 ≠ -1) : offD D k p v = (-1, glrD D k (1 - sdN D k p) (sdN D k p) v) := (if_neg h0).trans (if_neg h)

set_option maxRecDepth 100000 in
set_option maxHeartbeats 4000000 in
theorem lpH_hangsUp {l : Launch} {Γ : ZG} {w0 : ZW} {T0 : LT} {sg : ZSg} {A : LA} {tm : Option Nat} {e : Nat} {D DF : ZD} (hV : Iv D) (hs : SegD sg D) {c mc B : Nat} (hc : c < nC D) (hB : B ≤ mc + pot DF) {p : Int32} {Φ : Option Value → ZW → Prop} (kx : ∀ (w : ZW) (T : LT) (V : LA) (k n : Nat), LX Γ w T 1 sg A V tm e DF → FR w0 T0 w T → k + pot DF ≤ B → n ≤ 20 * k → Go l Γ mX6_hangsUp 6 mc (20 * mc) Φ zNo k n w 87 [(0, .ref e), (1, .int p), (3, .ref (A 1 c))] []) : ∀ (f i : Nat) (w : ZW) (T : LT) (V : LA) (X : ZD) (k n : Nat), i + f = (sg c).2 - (sg c).1 → Same D X → LX Γ w T 1 sg A V tm e X → FR w0 T0 w T → k + pot X ≤ B → n ≤ 20 * k → itr (erS 4) ((sg c).1 + i) f X = DF → Go l Γ mX6_hangsUp 6 mc (20 * mc) Φ zNo k n w 52 [(0, .ref e), (1, .int p), (3, .ref (A 1 c)), (5, .ref (A 4 c)), (6, .int (nI ((sg c).2 - (sg c).1))), (7, .int (nI i))] [] := by
  have h40 := hV.1.2.2.1.2
  have hsc := hs c hc
  intro f
  induction f with
  | zero =>
    intro i w T V X k n hi hX h fr hk hn hDF
    have hDF : X = DF := hDF
    refine go_iload 54 dX6_hangsUp_52 rfl ?_
    refine go_iload 56 dX6_hangsUp_54 rfl ?_
    refine go_icmp_ge 87 59 dX6_hangsUp_56 (fun h56 => ?_) (fun h56 => ?_)
    · exact go_locals _ rfl (kx w T V k n (by rw [← hDF]; exact h) fr (by rw [← hDF]; exact hk) hn)
    · exact (lpE rfl (by omega) h56).elim
  | succ f ih =>
    intro i w T V X k n hi hX h fr hk hn hDF
    refine go_iload 54 dX6_hangsUp_52 rfl ?_
    refine go_iload 56 dX6_hangsUp_54 rfl ?_
    refine go_icmp_ge 87 59 dX6_hangsUp_56 (fun h56 => ?_) (fun h56 => ?_)
    · exact (lpG rfl (by omega) (by omega) h56).elim
    · refine go_aload 61 dX6_hangsUp_59 rfl ?_
      refine go_iload 63 dX6_hangsUp_61 rfl ?_
      refine gl_tl h (lt_smC hX hc) rfl (show i < (sg c).2 - (sg c).1 by omega) (by omega) 64 dX6_hangsUp_63 ?_
      refine go_astore 66 dX6_hangsUp_64 (by decide) ?_
      refine go_aload 68 dX6_hangsUp_66 rfl ?_
      refine gl_l h (show (sg c).1 + i < nL X by rw [sm_nL hX]; omega) 71 dX6_hangsUp_68 fX6_75 rfl ?_
      refine go_if_ne 81 74 dX6_hangsUp_71 (fun h71 => ?_) (fun h71 => ?_)
      · refine go_iinc 84 dX6_hangsUp_81 rfl (by decide) zc_1 ?_
        refine go_goto 52 dX6_hangsUp_84 ?_
        rw [nI_1]
        exact go_locals _ rfl (ih (i + 1) w T V X k n (by omega) hX h fr hk hn (by rw [← hDF]; exact congrArg (fun Z => itr (erS 4) ((sg c).1 + i + 1) f Z) (er_n h71).symm))
      · have hp9 := pot_end (D := X) (k := (sg c).1 + i) (r := 4) (show (sg c).1 + i < nL X by rw [sm_nL hX]; omega) (by rw [h71]; decide)
        have hm9 : pot DF ≤ pot (endD X ((sg c).1 + i) 4) := by
          rw [← hDF, show itr (erS 4) ((sg c).1 + i) (f + 1) X = itr (erS 4) ((sg c).1 + i + 1) f (endD X ((sg c).1 + i) 4) from congrArg (fun Z => itr (erS 4) ((sg c).1 + i + 1) f Z) (er_y h71)]
          exact pot_ers f ((sg c).1 + i + 1) _ (hX.trans sm_end_) (by omega)
        refine go_aload 76 dX6_hangsUp_74 rfl ?_
        refine go_iconst 77 dX6_hangsUp_76 zc_3 ?_
        refine go_iconst 78 dX6_hangsUp_77 zc_4 ?_
        refine gl_call fr 81 [.int 3, .int 4] dX6_hangsUp_78 vX6_120 (h.l (show (sg c).1 + i < nL X by rw [sm_nL hX]; omega)).1.1 rfl (cl_close h (hV.1.same hX) (show (sg c).1 + i < nL X by rw [sm_nL hX]; omega)) (by decide) (by decide) (by omega) (by omega) (by exact Nat.le_of_ble_eq_true rfl) (fun w_78 T_78 V_78 h_78 f_78 g_78 => ?_)
        refine go_iinc 84 dX6_hangsUp_81 rfl (by decide) zc_1 ?_
        refine go_goto 52 dX6_hangsUp_84 ?_
        rw [nI_1]
        exact go_locals _ rfl (ih (i + 1) w_78 T_78 V_78 (endD X ((sg c).1 + i) 4) (k + 1) (n + 2) (by omega) (hX.trans sm_end_) h_78 f_78 (by omega) (by omega) (by rw [← hDF]; exact congrArg (fun Z => itr (erS 4) ((sg c).1 + i + 1) f Z) (er_y h71).symm))

set_option maxRecDepth 100000 in
set_option maxHeartbeats 4000000 in
theorem cl_hangsUp {l : Launch} {Γ : ZG} {w : ZW} {T : LT} {sg : ZSg} {A V : LA} {tm : Option Nat} {e : Nat} {D : ZD} (h : LX Γ w T 1 sg A V tm e D) (hV : Iv D) (hs : SegD sg D) {p : Int32} {mc : Nat} (hm : 1 + pot D ≤ mc) : Ct l Γ mX6_hangsUp 6 mc (20 * mc) [.ref e, .int p] w (PvL Γ w T sg A tm e (some (.int (hupD D p).1)) (hupD D p).2) zNo := by
  have hI := hV.1
  have h20 := hI.2.1.2
  have h40 := hI.2.2.1.2
  refine Ct.of (by decide) rfl (Nat.le_of_ble_eq_true rfl) ?_
  refine go_aload_n 1 dX6_hangsUp_0 rfl ?_
  refine go_iload_n 2 dX6_hangsUp_1 rfl ?_
  refine go_iconst 3 dX6_hangsUp_2 zc_1 ?_
  refine gcV2 6 dX6_hangsUp_3 vX6_108 h.x.1 rfl (cl_with h hI) ?_
  rcases Classical.em (legW D p 1 = -1) with o3 | o3
  · rw [show lgO A (legW D p 1) = none from if_pos o3, show va_rf none = .null from rfl]
    refine go_astore_nQ (r := none) 7 dX6_hangsUp_6 (by decide) ?_
    refine go_aload_n 8 dX6_hangsUp_7 rfl ?_
    refine go_iload_n 9 dX6_hangsUp_8 rfl ?_
    refine gcV1 12 dX6_hangsUp_9 vX6_112 h.x.1 rfl (cl_calling h hI hs) ?_
    rcases Classical.em (rngOf D p = -1) with o9 | o9
    · rw [show tkO A (rngOf D p) = none from if_pos o9, show va_rf none = .null from rfl]
      refine go_astore_nQ (r := none) 13 dX6_hangsUp_12 (by decide) ?_
      refine go_aload_n 14 dX6_hangsUp_13 rfl ?_
      refine go_iload_n 15 dX6_hangsUp_14 rfl ?_
      refine go_iconst 16 dX6_hangsUp_15 zc_2 ?_
      refine gcV2 19 dX6_hangsUp_16 vX6_108 h.x.1 rfl (cl_with h hI) ?_
      rcases Classical.em (legW D p 2 = -1) with o16 | o16
      · rw [show lgO A (legW D p 2) = none from if_pos o16, show va_rf none = .null from rfl]
        refine go_astoreQ (r := none) 21 dX6_hangsUp_19 (by decide) ?_
        refine go_aload_nQ (r := none) 22 dX6_hangsUp_21 rfl ?_
        refine go_ifnullQ (r := none) 34 25 dX6_hangsUp_22 (fun _ => ?_) (fun _ h => nomatch h)
        refine go_aload_nQ (r := none) 35 dX6_hangsUp_34 rfl ?_
        refine go_ifnullQ (r := none) 94 38 dX6_hangsUp_35 (fun _ => ?_) (fun _ h => nomatch h)
        refine go_aloadQ (r := none) 96 dX6_hangsUp_94 rfl ?_
        refine go_ifnullQ (r := none) 109 99 dX6_hangsUp_96 (fun _ => ?_) (fun _ h => nomatch h)
        refine go_aload_n 110 dX6_hangsUp_109 rfl ?_
        refine go_iload_n 111 dX6_hangsUp_110 rfl ?_
        refine gcV1 114 dX6_hangsUp_111 vX6_161 h.x.1 rfl (cl_rung h hI) ?_
        refine go_if_ne 119 117 dX6_hangsUp_114 (fun h114 => ?_) (fun h114 => ?_)
        · refine go_aload_n 120 dX6_hangsUp_119 rfl ?_
          refine go_iload_n 121 dX6_hangsUp_120 rfl ?_
          refine go_iconst 122 dX6_hangsUp_121 zc_5 ?_
          refine gl_call FR.rf 125 [.int p, .int 5] dX6_hangsUp_122 vX6_127 h.x.1 rfl (cl_endsTo (mc := 1 + pot D) h hV hs (by omega)) (by decide) (by decide) (by omega) (by omega) (by exact Nat.le_of_ble_eq_true rfl) (fun w_122 T_122 V_122 h_122 f_122 g_122 => ?_)
          refine go_iconst 126 dX6_hangsUp_125 zc_4 ?_
          exact go_ireturn dX6_hangsUp_126 rfl (by omega) (by omega) (by rw [hu_5 o3 o9 o16 h114]; exact ⟨rfl, _, _, f_122, h_122⟩)
        · refine go_iconst 118 dX6_hangsUp_117 zc_0 ?_
          exact go_ireturn dX6_hangsUp_118 rfl (by omega) (by omega) (by rw [hu_4 o3 o9 o16 h114]; exact ⟨rfl, _, _, FR.rf, h⟩)
      · rw [lgO_e o16, show va_rf (some (A 0 (tN (legW D p 2)))) = .ref (A 0 (tN (legW D p 2))) from rfl]
        refine go_astore 21 dX6_hangsUp_19 (by decide) ?_
        refine go_aload_nQ (r := none) 22 dX6_hangsUp_21 rfl ?_
        refine go_ifnullQ (r := none) 34 25 dX6_hangsUp_22 (fun _ => ?_) (fun _ h => nomatch h)
        refine go_aload_nQ (r := none) 35 dX6_hangsUp_34 rfl ?_
        refine go_ifnullQ (r := none) 94 38 dX6_hangsUp_35 (fun _ => ?_) (fun _ h => nomatch h)
        refine go_aload 96 dX6_hangsUp_94 rfl ?_
        refine go_ifnullQ (r := some _) 109 99 dX6_hangsUp_96 (fun h => nomatch h) (fun _ _ => ?_)
        refine go_aload 101 dX6_hangsUp_99 rfl ?_
        refine go_iconst 102 dX6_hangsUp_101 zc_3 ?_
        refine go_bipush 104 dX6_hangsUp_102 zb_6 ?_
        refine gl_call FR.rf 107 [.int 3, .int 6] dX6_hangsUp_104 vX6_120 (h.l (leg_ok h40 o16).2.1).1.1 rfl (cl_close h hI (leg_ok h40 o16).2.1) (by decide) (by decide) (by omega) (by omega) (by exact Nat.le_of_ble_eq_true rfl) (fun w_104 T_104 V_104 h_104 f_104 g_104 => ?_)
        refine go_iconst 108 dX6_hangsUp_107 zc_3 ?_
        exact go_ireturn dX6_hangsUp_108 rfl (by omega) (by omega) (by rw [hu_3 o3 o9 o16]; exact ⟨rfl, _, _, f_104, h_104⟩)
    · rw [tkO_e o9, show va_rf (some (A 1 (tN (rngOf D p)))) = .ref (A 1 (tN (rngOf D p))) from rfl]
      refine go_astore_n 13 dX6_hangsUp_12 (by decide) ?_
      refine go_aload_n 14 dX6_hangsUp_13 rfl ?_
      refine go_iload_n 15 dX6_hangsUp_14 rfl ?_
      refine go_iconst 16 dX6_hangsUp_15 zc_2 ?_
      refine gcV2 19 dX6_hangsUp_16 vX6_108 h.x.1 rfl (cl_with h hI) ?_
      rcases Classical.em (legW D p 2 = -1) with o16 | o16
      · rw [show lgO A (legW D p 2) = none from if_pos o16, show va_rf none = .null from rfl]
        refine go_astoreQ (r := none) 21 dX6_hangsUp_19 (by decide) ?_
        refine go_aload_nQ (r := none) 22 dX6_hangsUp_21 rfl ?_
        refine go_ifnullQ (r := none) 34 25 dX6_hangsUp_22 (fun _ => ?_) (fun _ h => nomatch h)
        refine go_aload_n 35 dX6_hangsUp_34 rfl ?_
        refine go_ifnullQ (r := some _) 94 38 dX6_hangsUp_35 (fun h => nomatch h) (fun _ _ => ?_)
        refine go_aload_n 39 dX6_hangsUp_38 rfl ?_
        refine gl_t h (rng_ok h20 o9).2 42 dX6_hangsUp_39 fX6_62 rfl ?_
        refine go_astore 44 dX6_hangsUp_42 (by decide) ?_
        refine go_aload 46 dX6_hangsUp_44 rfl ?_
        refine gl_nS h (rng_ok h20 o9).2 47 dX6_hangsUp_46 ?_
        refine go_istore 49 dX6_hangsUp_47 (by decide) ?_
        refine go_iconst 50 dX6_hangsUp_49 zc_0 ?_
        refine go_istore 52 dX6_hangsUp_50 (by decide) ?_
        obtain ⟨rc1, rc2⟩ := rng_ok h20 o9
        have hXe : Same D (endAllD D (rngOf D p) (-1) 4) := sm_endAll
        have K87 : ∀ (w' : ZW) (T' : LT) (V' : LA) (k n : Nat), LX Γ w' T' 1 sg A V' tm e (endAllD D (rngOf D p) (-1) 4) → FR w T w' T' → k + pot (endAllD D (rngOf D p) (-1) 4) ≤ mc → n ≤ 20 * k → Go l Γ mX6_hangsUp 6 mc (20 * mc) (PvL Γ w T sg A tm e (some (.int (hupD D p).1)) (hupD D p).2) zNo k n w' 87 [(0, .ref e), (1, .int p), (3, .ref (A 1 (tN (rngOf D p))))] [] := by
          intro w T V k n h fr hk hn
          refine go_aload_n 88 dX6_hangsUp_87 rfl ?_
          refine go_aload_n 89 dX6_hangsUp_88 rfl ?_
          refine gl_call fr 92 [.ref (A 1 (tN (rngOf D p)))] dX6_hangsUp_89 vX6_116 h.x.1 rfl (cl_takeBack h (hV.same hXe) (lt_smC hXe rc2)) (by decide) (by decide) (by omega) (by omega) (by exact Nat.le_of_ble_eq_true rfl) (fun w_89 T_89 V_89 h_89 f_89 g_89 => ?_)
          refine go_iconst 93 dX6_hangsUp_92 zc_2 ?_
          exact go_ireturn dX6_hangsUp_93 rfl (by omega) (by omega) (by rw [hu_2 o3 o9]; exact ⟨rfl, _, _, f_89, h_89⟩)
        exact go_locals _ rfl (lpH_hangsUp hV hs rc2 (by omega) K87 _ 0 w T V D 0 0 (Nat.zero_add _) sm_rf h FR.rf (by omega) (by omega) (by rw [Nat.add_zero, er_eq hs hI sm_rf rc2 (Or.inl (fun k hk => nI_nm1 (by omega)))]; exact congrArg (fun z => endAllD D z (-1) 4) rc1.symm))
      · rw [lgO_e o16, show va_rf (some (A 0 (tN (legW D p 2)))) = .ref (A 0 (tN (legW D p 2))) from rfl]
        refine go_astore 21 dX6_hangsUp_19 (by decide) ?_
        refine go_aload_nQ (r := none) 22 dX6_hangsUp_21 rfl ?_
        refine go_ifnullQ (r := none) 34 25 dX6_hangsUp_22 (fun _ => ?_) (fun _ h => nomatch h)
        refine go_aload_n 35 dX6_hangsUp_34 rfl ?_
        refine go_ifnullQ (r := some _) 94 38 dX6_hangsUp_35 (fun h => nomatch h) (fun _ _ => ?_)
        refine go_aload_n 39 dX6_hangsUp_38 rfl ?_
        refine gl_t h (rng_ok h20 o9).2 42 dX6_hangsUp_39 fX6_62 rfl ?_
        refine go_astore 44 dX6_hangsUp_42 (by decide) ?_
        refine go_aload 46 dX6_hangsUp_44 rfl ?_
        refine gl_nS h (rng_ok h20 o9).2 47 dX6_hangsUp_46 ?_
        refine go_istore 49 dX6_hangsUp_47 (by decide) ?_
        refine go_iconst 50 dX6_hangsUp_49 zc_0 ?_
        refine go_istore 52 dX6_hangsUp_50 (by decide) ?_
        obtain ⟨rc1, rc2⟩ := rng_ok h20 o9
        have hXe : Same D (endAllD D (rngOf D p) (-1) 4) := sm_endAll
        have K87 : ∀ (w' : ZW) (T' : LT) (V' : LA) (k n : Nat), LX Γ w' T' 1 sg A V' tm e (endAllD D (rngOf D p) (-1) 4) → FR w T w' T' → k + pot (endAllD D (rngOf D p) (-1) 4) ≤ mc → n ≤ 20 * k → Go l Γ mX6_hangsUp 6 mc (20 * mc) (PvL Γ w T sg A tm e (some (.int (hupD D p).1)) (hupD D p).2) zNo k n w' 87 [(0, .ref e), (1, .int p), (3, .ref (A 1 (tN (rngOf D p))))] [] := by
          intro w T V k n h fr hk hn
          refine go_aload_n 88 dX6_hangsUp_87 rfl ?_
          refine go_aload_n 89 dX6_hangsUp_88 rfl ?_
          refine gl_call fr 92 [.ref (A 1 (tN (rngOf D p)))] dX6_hangsUp_89 vX6_116 h.x.1 rfl (cl_takeBack h (hV.same hXe) (lt_smC hXe rc2)) (by decide) (by decide) (by omega) (by omega) (by exact Nat.le_of_ble_eq_true rfl) (fun w_89 T_89 V_89 h_89 f_89 g_89 => ?_)
          refine go_iconst 93 dX6_hangsUp_92 zc_2 ?_
          exact go_ireturn dX6_hangsUp_93 rfl (by omega) (by omega) (by rw [hu_2 o3 o9]; exact ⟨rfl, _, _, f_89, h_89⟩)
        exact go_locals _ rfl (lpH_hangsUp hV hs rc2 (by omega) K87 _ 0 w T V D 0 0 (Nat.zero_add _) sm_rf h FR.rf (by omega) (by omega) (by rw [Nat.add_zero, er_eq hs hI sm_rf rc2 (Or.inl (fun k hk => nI_nm1 (by omega)))]; exact congrArg (fun z => endAllD D z (-1) 4) rc1.symm))
  · rw [lgO_e o3, show va_rf (some (A 0 (tN (legW D p 1)))) = .ref (A 0 (tN (legW D p 1))) from rfl]
    refine go_astore_n 7 dX6_hangsUp_6 (by decide) ?_
    refine go_aload_n 8 dX6_hangsUp_7 rfl ?_
    refine go_iload_n 9 dX6_hangsUp_8 rfl ?_
    refine gcV1 12 dX6_hangsUp_9 vX6_112 h.x.1 rfl (cl_calling h hI hs) ?_
    rcases Classical.em (rngOf D p = -1) with o9 | o9
    · rw [show tkO A (rngOf D p) = none from if_pos o9, show va_rf none = .null from rfl]
      refine go_astore_nQ (r := none) 13 dX6_hangsUp_12 (by decide) ?_
      refine go_aload_n 14 dX6_hangsUp_13 rfl ?_
      refine go_iload_n 15 dX6_hangsUp_14 rfl ?_
      refine go_iconst 16 dX6_hangsUp_15 zc_2 ?_
      refine gcV2 19 dX6_hangsUp_16 vX6_108 h.x.1 rfl (cl_with h hI) ?_
      rcases Classical.em (legW D p 2 = -1) with o16 | o16
      · rw [show lgO A (legW D p 2) = none from if_pos o16, show va_rf none = .null from rfl]
        refine go_astoreQ (r := none) 21 dX6_hangsUp_19 (by decide) ?_
        refine go_aload_n 22 dX6_hangsUp_21 rfl ?_
        refine go_ifnullQ (r := some _) 34 25 dX6_hangsUp_22 (fun h => nomatch h) (fun _ _ => ?_)
        refine go_aload_n 26 dX6_hangsUp_25 rfl ?_
        refine go_iconst 27 dX6_hangsUp_26 zc_3 ?_
        refine go_bipush 29 dX6_hangsUp_27 zb_6 ?_
        refine gl_call FR.rf 32 [.int 3, .int 6] dX6_hangsUp_29 vX6_120 (h.l (leg_ok h40 o3).2.1).1.1 rfl (cl_close h hI (leg_ok h40 o3).2.1) (by decide) (by decide) (by omega) (by omega) (by exact Nat.le_of_ble_eq_true rfl) (fun w_29 T_29 V_29 h_29 f_29 g_29 => ?_)
        refine go_iconst 33 dX6_hangsUp_32 zc_1 ?_
        exact go_ireturn dX6_hangsUp_33 rfl (by omega) (by omega) (by rw [hu_1 o3]; exact ⟨rfl, _, _, f_29, h_29⟩)
      · rw [lgO_e o16, show va_rf (some (A 0 (tN (legW D p 2)))) = .ref (A 0 (tN (legW D p 2))) from rfl]
        refine go_astore 21 dX6_hangsUp_19 (by decide) ?_
        refine go_aload_n 22 dX6_hangsUp_21 rfl ?_
        refine go_ifnullQ (r := some _) 34 25 dX6_hangsUp_22 (fun h => nomatch h) (fun _ _ => ?_)
        refine go_aload_n 26 dX6_hangsUp_25 rfl ?_
        refine go_iconst 27 dX6_hangsUp_26 zc_3 ?_
        refine go_bipush 29 dX6_hangsUp_27 zb_6 ?_
        refine gl_call FR.rf 32 [.int 3, .int 6] dX6_hangsUp_29 vX6_120 (h.l (leg_ok h40 o3).2.1).1.1 rfl (cl_close h hI (leg_ok h40 o3).2.1) (by decide) (by decide) (by omega) (by omega) (by exact Nat.le_of_ble_eq_true rfl) (fun w_29 T_29 V_29 h_29 f_29 g_29 => ?_)
        refine go_iconst 33 dX6_hangsUp_32 zc_1 ?_
        exact go_ireturn dX6_hangsUp_33 rfl (by omega) (by omega) (by rw [hu_1 o3]; exact ⟨rfl, _, _, f_29, h_29⟩)
    · rw [tkO_e o9, show va_rf (some (A 1 (tN (rngOf D p)))) = .ref (A 1 (tN (rngOf D p))) from rfl]
      refine go_astore_n 13 dX6_hangsUp_12 (by decide) ?_
      refine go_aload_n 14 dX6_hangsUp_13 rfl ?_
      refine go_iload_n 15 dX6_hangsUp_14 rfl ?_
      refine go_iconst 16 dX6_hangsUp_15 zc_2 ?_
      refine gcV2 19 dX6_hangsUp_16 vX6_108 h.x.1 rfl (cl_with h hI) ?_
      rcases Classical.em (legW D p 2 = -1) with o16 | o16
      · rw [show lgO A (legW D p 2) = none from if_pos o16, show va_rf none = .null from rfl]
        refine go_astoreQ (r := none) 21 dX6_hangsUp_19 (by decide) ?_
        refine go_aload_n 22 dX6_hangsUp_21 rfl ?_
        refine go_ifnullQ (r := some _) 34 25 dX6_hangsUp_22 (fun h => nomatch h) (fun _ _ => ?_)
        refine go_aload_n 26 dX6_hangsUp_25 rfl ?_
        refine go_iconst 27 dX6_hangsUp_26 zc_3 ?_
        refine go_bipush 29 dX6_hangsUp_27 zb_6 ?_
        refine gl_call FR.rf 32 [.int 3, .int 6] dX6_hangsUp_29 vX6_120 (h.l (leg_ok h40 o3).2.1).1.1 rfl (cl_close h hI (leg_ok h40 o3).2.1) (by decide) (by decide) (by omega) (by omega) (by exact Nat.le_of_ble_eq_true rfl) (fun w_29 T_29 V_29 h_29 f_29 g_29 => ?_)
        refine go_iconst 33 dX6_hangsUp_32 zc_1 ?_
        exact go_ireturn dX6_hangsUp_33 rfl (by omega) (by omega) (by rw [hu_1 o3]; exact ⟨rfl, _, _, f_29, h_29⟩)
      · rw [lgO_e o16, show va_rf (some (A 0 (tN (legW D p 2)))) = .ref (A 0 (tN (legW D p 2))) from rfl]
        refine go_astore 21 dX6_hangsUp_19 (by decide) ?_
        refine go_aload_n 22 dX6_hangsUp_21 rfl ?_
        refine go_ifnullQ (r := some _) 34 25 dX6_hangsUp_22 (fun h => nomatch h) (fun _ _ => ?_)
        refine go_aload_n 26 dX6_hangsUp_25 rfl ?_
        refine go_iconst 27 dX6_hangsUp_26 zc_3 ?_
        refine go_bipush 29 dX6_hangsUp_27 zb_6 ?_
        refine gl_call FR.rf 32 [.int 3, .int 6] dX6_hangsUp_29 vX6_120 (h.l (leg_ok h40 o3).2.1).1.1 rfl (cl_close h hI (leg_ok h40 o3).2.1) (by decide) (by decide) (by omega) (by omega) (by exact Nat.le_of_ble_eq_true rfl) (fun w_29 T_29 V_29 h_29 f_29 g_29 => ?_)
        refine go_iconst 33 dX6_hangsUp_32 zc_1 ?_
        exact go_ireturn dX6_hangsUp_33 rfl (by omega) (by omega) (by rw [hu_1 o3]; exact ⟨rfl, _, _, f_29, h_29⟩)

set_option maxRecDepth 100000 in
set_option maxHeartbeats 4000000 in
theorem cl_offers {l : Launch} {Γ : ZG} {w : ZW} {T : LT} {sg : ZSg} {A V : LA} {tm : Option Nat} {e : Nat} {D : ZD} (h : LX Γ w T 1 sg A V tm e D) (hV : Iv D) (hw : JW D) (htm : D 0 = nI (tmN D) ∧ tmN D ≤ 20000) {p v : Int32} (ho : legW D p 1 ≠ -1) : Ct l Γ mX6_offers 2 2 4 [.ref e, .int p, .int v] w (PvL Γ w T sg A tm e (some (.int (offD D (tN (legW D p 1)) p v).1)) (offD D (tN (legW D p 1)) p v).2) zNo := by
  have hI := hV.1
  have h20 := hI.2.1.2
  have h40' := hI.2.2.1.2
  have hk : tN (legW D p 1) < nL D := (leg_ok h40' ho).2.1
  obtain ⟨a, b, wa, wa9, wb, wb9⟩ := hw
  have hw1 : D 0 + D 1 ≠ -1 := by rw [htm.1, wa, nI_add]; exact nI_nm1 (by omega)
  have hw2 : D 0 + D 2 ≠ -1 := by rw [htm.1, wb, nI_add]; exact nI_nm1 (by omega)
  refine Ct.of (by decide) rfl (Nat.le_of_ble_eq_true rfl) ?_
  refine go_aload_n 1 dX6_offers_0 rfl ?_
  refine go_iload_n 2 dX6_offers_1 rfl ?_
  refine go_iconst 3 dX6_offers_2 zc_1 ?_
  refine gcV2 6 dX6_offers_3 vX6_108 h.x.1 rfl (cl_with h hI) ?_
  rw [lgO_e ho, show va_rf (some (A 0 (tN (legW D p 1)))) = .ref (A 0 (tN (legW D p 1))) from rfl]
  refine go_astore_n 7 dX6_offers_6 (by decide) ?_
  refine go_aload_n 8 dX6_offers_7 rfl ?_
  refine gl_l h hk 11 dX6_offers_8 fX6_64 rfl ?_
  refine gl_t h (hI.2.2.2 (tN (legW D p 1)) hk).2 14 dX6_offers_11 fX6_53 rfl ?_
  refine go_iload_n 15 dX6_offers_14 rfl ?_
  refine go_icmp_ne 22 18 dX6_offers_15 (fun h15 => ?_) (fun h15 => ?_)
  · refine go_iconst 23 dX6_offers_22 zc_1 ?_
    refine go_istore 25 dX6_offers_23 (by decide) ?_
    have hsd : sdN D (tN (legW D p 1)) p = 1 := if_neg h15
    refine go_aload_n 26 dX6_offers_25 rfl ?_
    refine gl_l h hk 29 dX6_offers_26 fX6_87 rfl ?_
    refine go_ifnullQ 45 32 dX6_offers_29 (fun n29 => ?_) (fun x29 n29 => ?_)
    · have o29 := ofO_n n29
      refine go_aload_n 46 dX6_offers_45 rfl ?_
      refine gl_l h hk 49 dX6_offers_46 fX6_87 rfl ?_
      refine go_ifnonnullQ 77 52 dX6_offers_49 (fun x49 n49 => ?_) (fun n49 => ?_)
      · have o49 := ofO_s n49
        exact absurd o29 o49
      · have o49 := ofO_n n49
        refine go_aload_n 53 dX6_offers_52 rfl ?_
        refine go_iconst 54 dX6_offers_53 zc_3 ?_
        refine gl_newi (N := 3) h FR.rf 56 dX6_offers_54 rfl (by decide) (by omega) (by omega) (fun w_54 T_54 a_54 h_54 f_54 x_54 t_54 b_54 => ?_)
        refine go_dup 57 dX6_offers_56 rfl ?_
        refine go_iconst 58 dX6_offers_57 zc_0 ?_
        refine go_iload 60 dX6_offers_58 rfl ?_
        refine gl_fst (j := 0) h_54 f_54 x_54 t_54 b_54 rfl (by decide) (by decide) 61 dX6_offers_60 (fun w_60 h_60 f_60 x_60 z_60 => ?_)
        refine go_dup 62 dX6_offers_61 rfl ?_
        refine go_iconst 63 dX6_offers_62 zc_1 ?_
        refine go_iload_n 64 dX6_offers_63 rfl ?_
        refine gl_fst (j := 1) h_60 f_60 x_60 t_54 b_54 rfl (by decide) (by decide) 65 dX6_offers_64 (fun w_64 h_64 f_64 x_64 z_64 => ?_)
        refine go_dup 66 dX6_offers_65 rfl ?_
        refine go_iconst 67 dX6_offers_66 zc_2 ?_
        refine go_aload_n 68 dX6_offers_67 rfl ?_
        refine gl_x h_64 71 dX6_offers_68 fX6_41 rfl ?_
        refine gl_fst (j := 2) h_64 f_64 x_64 t_54 b_54 rfl (by decide) (by decide) 72 dX6_offers_71 (fun w_71 h_71 f_71 x_71 z_71 => ?_)
        refine gl_offN h_71 hI hk f_71 x_71 t_54 (nI_nm1 (by decide)) b_54 75 dX6_offers_72 pX6_87 (fun w_72 T_72 V_72 h_72 f_72 => ?_)
        refine go_iconst 76 dX6_offers_75 zc_1 ?_
        exact go_ireturn dX6_offers_76 rfl (by omega) (by omega) (by rw [of_1 o29 (by rw [hsd]; decide), hsd, ← lay_eq]; exact ⟨rfl, _, _, f_72, h_72⟩)
    · have o29 := ofO_s n29
      refine go_aload_n 33 dX6_offers_32 rfl ?_
      refine gl_l h hk 36 dX6_offers_33 fX6_87 (lFs6 o29) ?_
      refine go_iconst 37 dX6_offers_36 zc_0 ?_
      refine gl_oi h hk o29 rfl (by decide) 38 dX6_offers_37 ?_
      refine go_iload 40 dX6_offers_38 rfl ?_
      refine go_icmp_ne 45 43 dX6_offers_40 (fun h40 => ?_) (fun h40 => ?_)
      · refine go_aload_n 46 dX6_offers_45 rfl ?_
        refine gl_l h hk 49 dX6_offers_46 fX6_87 (lFs6 o29) ?_
        refine go_ifnonnull 77 dX6_offers_49 ?_
        refine go_aload_n 78 dX6_offers_77 rfl ?_
        refine gl_l h hk 81 dX6_offers_78 fX6_90 rfl ?_
        refine go_iload 83 dX6_offers_81 rfl ?_
        refine go_iconst 84 dX6_offers_83 zc_2 ?_
        refine gl_newi (N := 2) h FR.rf 86 dX6_offers_84 rfl (by decide) (by omega) (by omega) (fun w_84 T_84 a_84 h_84 f_84 x_84 t_84 b_84 => ?_)
        refine go_dup 87 dX6_offers_86 rfl ?_
        refine go_iconst 88 dX6_offers_87 zc_0 ?_
        refine go_iload_n 89 dX6_offers_88 rfl ?_
        refine gl_fst (j := 0) h_84 f_84 x_84 t_84 b_84 rfl (by decide) (by decide) 90 dX6_offers_89 (fun w_89 h_89 f_89 x_89 z_89 => ?_)
        refine go_dup 91 dX6_offers_90 rfl ?_
        refine go_iconst 92 dX6_offers_91 zc_1 ?_
        refine go_aload_n 93 dX6_offers_92 rfl ?_
        refine gl_x h_89 96 dX6_offers_93 fX6_41 rfl ?_
        refine go_iload 98 dX6_offers_96 rfl ?_
        refine go_if_ne 108 101 dX6_offers_98 (fun h98 => ?_) (fun h98 => ?_)
        · refine go_aload_n 109 dX6_offers_108 rfl ?_
          refine gl_x h_89 112 dX6_offers_109 fX6_13 rfl ?_
          refine go_iadd 113 dX6_offers_112 ?_
          refine gl_fst (j := 1) h_89 f_89 x_89 t_84 b_84 rfl (by decide) (by decide) 114 dX6_offers_113 (fun w_113 h_113 f_113 x_113 z_113 => ?_)
          refine gl_repN (s := 1) h_113 hI hk f_113 rfl (by decide) x_113 t_84 hw2 b_84 115 dX6_offers_114 (fun w_114 T_114 V_114 v2_114 v5_114 h_114 f_114 => ?_)
          have h_114 : LX Γ w_114 T_114 1 sg A V_114 tm e (setL (setL D (tN (legW D p 1)) 10 (D 0 + D 2)) (tN (legW D p 1)) 12 v) := h_114
          have o115 : dL (setL (setL D (tN (legW D p 1)) 10 (D 0 + D 2)) (tN (legW D p 1)) 12 v) (tN (legW D p 1)) 6 ≠ -1 := by rw [dL_setLn (by omega), dL_setLn (by omega)]; exact o29
          refine go_aload_n 116 dX6_offers_115 rfl ?_
          refine gl_l h_114 (lt_sm ((sm_setL (by omega) (by omega)).trans (sm_setL (by omega) (by omega))) hk) 119 dX6_offers_116 fX6_90 rfl ?_
          refine go_iconst 120 dX6_offers_119 zc_1 ?_
          refine go_iload 122 dX6_offers_120 rfl ?_
          refine go_isub 123 dX6_offers_122 ?_
          refine go_iconst 124 dX6_offers_123 zc_2 ?_
          refine gl_newi (N := 2) h_114 f_114 126 dX6_offers_124 rfl (by decide) (by omega) (by omega) (fun w_124 T_124 a_124 h_124 f_124 x_124 t_124 b_124 => ?_)
          refine go_dup 127 dX6_offers_126 rfl ?_
          refine go_iconst 128 dX6_offers_127 zc_0 ?_
          refine go_aload_n 129 dX6_offers_128 rfl ?_
          refine gl_l h_124 (lt_sm ((sm_setL (by omega) (by omega)).trans (sm_setL (by omega) (by omega))) hk) 132 dX6_offers_129 fX6_87 (lFs6 o115) ?_
          refine go_iconst 133 dX6_offers_132 zc_1 ?_
          refine gl_oi h_124 (lt_sm ((sm_setL (by omega) (by omega)).trans (sm_setL (by omega) (by omega))) hk) o115 rfl (by decide) 134 dX6_offers_133 ?_
          refine gl_fst (j := 0) h_124 f_124 x_124 t_124 b_124 rfl (by decide) (by decide) 135 dX6_offers_134 (fun w_134 h_134 f_134 x_134 z_134 => ?_)
          refine go_dup 136 dX6_offers_135 rfl ?_
          refine go_iconst 137 dX6_offers_136 zc_1 ?_
          refine go_aload_n 138 dX6_offers_137 rfl ?_
          refine gl_x h_134 141 dX6_offers_138 fX6_41 rfl ?_
          refine go_iload 143 dX6_offers_141 rfl ?_
          refine go_if_ne 153 146 dX6_offers_143 (fun h143 => ?_) (fun h143 => ?_)
          · refine go_aload_n 154 dX6_offers_153 rfl ?_
            refine gl_x h_134 157 dX6_offers_154 fX6_7 rfl ?_
            refine go_iadd 158 dX6_offers_157 ?_
            refine gl_fst (j := 1) h_134 f_134 x_134 t_124 b_124 rfl (by decide) (by decide) 159 dX6_offers_158 (fun w_158 h_158 f_158 x_158 z_158 => ?_)
            refine gl_repN (s := 0) h_158 (hI.same ((sm_setL (by omega) (by omega)).trans (sm_setL (by omega) (by omega)))) (lt_sm ((sm_setL (by omega) (by omega)).trans (sm_setL (by omega) (by omega))) hk) f_158 rfl (by decide) x_158 t_124 (by rw [low_setL (by decide), low_setL (by decide), low_setL (by decide), low_setL (by decide)]; exact hw1) b_124 160 dX6_offers_159 (fun w_159 T_159 V_159 v2_159 v5_159 h_159 f_159 => ?_)
            have h_159 : LX Γ w_159 T_159 1 sg A V_159 tm e (setL (setL (setL (setL D (tN (legW D p 1)) 10 (D 0 + D 2)) (tN (legW D p 1)) 12 v) (tN (legW D p 1)) 9 ((setL (setL D (tN (legW D p 1)) 10 (D 0 + D 2)) (tN (legW D p 1)) 12 v) 0 + (setL (setL D (tN (legW D p 1)) 10 (D 0 + D 2)) (tN (legW D p 1)) 12 v) 1)) (tN (legW D p 1)) 11 (dL (setL (setL D (tN (legW D p 1)) 10 (D 0 + D 2)) (tN (legW D p 1)) 12 v) (tN (legW D p 1)) 7)) := h_159
            rw [show (setL (setL D (tN (legW D p 1)) 10 (D 0 + D 2)) (tN (legW D p 1)) 12 v) 0 = D 0 by rw [low_setL (by decide), low_setL (by decide)], show (setL (setL D (tN (legW D p 1)) 10 (D 0 + D 2)) (tN (legW D p 1)) 12 v) 1 = D 1 by rw [low_setL (by decide), low_setL (by decide)], show dL (setL (setL D (tN (legW D p 1)) 10 (D 0 + D 2)) (tN (legW D p 1)) 12 v) (tN (legW D p 1)) 7 = dL D (tN (legW D p 1)) 7 by rw [dL_setLn (by omega), dL_setLn (by omega)]] at h_159
            refine go_aload_n 161 dX6_offers_160 rfl ?_
            refine go_null 162 dX6_offers_161 ?_
            refine gl_off0 h_159 (hI.same (((sm_setL (by omega) (by omega)).trans (sm_setL (by omega) (by omega))).trans ((sm_setL (by omega) (by omega)).trans (sm_setL (by omega) (by omega))))) (lt_sm (((sm_setL (by omega) (by omega)).trans (sm_setL (by omega) (by omega))).trans ((sm_setL (by omega) (by omega)).trans (sm_setL (by omega) (by omega)))) hk) f_159 165 dX6_offers_162 pX6_87 (fun w_162 h_162 f_162 z_162 => ?_)
            refine go_aload_n 166 dX6_offers_165 rfl ?_
            refine gl_x h_162 169 dX6_offers_166 fX6_37 rfl ?_
            refine go_iconst 170 dX6_offers_169 zc_2 ?_
            refine go_dup2 171 dX6_offers_170 rfl rfl ?_
            refine gl_ti h_162 rfl (by decide) 172 dX6_offers_171 ?_
            refine go_iconst 173 dX6_offers_172 zc_1 ?_
            refine go_iadd 174 dX6_offers_173 ?_
            refine gl_tot h_162 (hI.same ((((sm_setL (by omega) (by omega)).trans (sm_setL (by omega) (by omega))).trans ((sm_setL (by omega) (by omega)).trans (sm_setL (by omega) (by omega)))).trans (sm_setL (by decide) (by decide)))) f_162 rfl (by decide) rfl 175 dX6_offers_174 (fun w_174 h_174 f_174 z_174 => ?_)
            refine go_iconst 176 dX6_offers_175 zc_m1 ?_
            exact go_ireturn dX6_offers_176 rfl (by omega) (by omega) (by rw [of_2 (by rw [hsd]; exact h40) o29, hsd]; exact ⟨rfl, _, _, f_174, by rw [← glr_1]; exact h_174⟩)
          · exact absurd h143 (by decide)
        · exact absurd h98 (by decide)
      · refine go_iconst 44 dX6_offers_43 zc_0 ?_
        exact go_ireturn dX6_offers_44 rfl (by omega) (by omega) (by rw [of_0 (by rw [hsd]; exact h40)]; exact ⟨rfl, _, _, FR.rf, h⟩)
  · refine go_iconst 19 dX6_offers_18 zc_0 ?_
    refine go_goto 23 dX6_offers_19 ?_
    refine go_istore 25 dX6_offers_23 (by decide) ?_
    have hsd : sdN D (tN (legW D p 1)) p = 0 := if_pos h15
    refine go_aload_n 26 dX6_offers_25 rfl ?_
    refine gl_l h hk 29 dX6_offers_26 fX6_87 rfl ?_
    refine go_ifnullQ 45 32 dX6_offers_29 (fun n29 => ?_) (fun x29 n29 => ?_)
    · have o29 := ofO_n n29
      refine go_aload_n 46 dX6_offers_45 rfl ?_
      refine gl_l h hk 49 dX6_offers_46 fX6_87 rfl ?_
      refine go_ifnonnullQ 77 52 dX6_offers_49 (fun x49 n49 => ?_) (fun n49 => ?_)
      · have o49 := ofO_s n49
        exact absurd o29 o49
      · have o49 := ofO_n n49
        refine go_aload_n 53 dX6_offers_52 rfl ?_
        refine go_iconst 54 dX6_offers_53 zc_3 ?_
        refine gl_newi (N := 3) h FR.rf 56 dX6_offers_54 rfl (by decide) (by omega) (by omega) (fun w_54 T_54 a_54 h_54 f_54 x_54 t_54 b_54 => ?_)
        refine go_dup 57 dX6_offers_56 rfl ?_
        refine go_iconst 58 dX6_offers_57 zc_0 ?_
        refine go_iload 60 dX6_offers_58 rfl ?_
        refine gl_fst (j := 0) h_54 f_54 x_54 t_54 b_54 rfl (by decide) (by decide) 61 dX6_offers_60 (fun w_60 h_60 f_60 x_60 z_60 => ?_)
        refine go_dup 62 dX6_offers_61 rfl ?_
        refine go_iconst 63 dX6_offers_62 zc_1 ?_
        refine go_iload_n 64 dX6_offers_63 rfl ?_
        refine gl_fst (j := 1) h_60 f_60 x_60 t_54 b_54 rfl (by decide) (by decide) 65 dX6_offers_64 (fun w_64 h_64 f_64 x_64 z_64 => ?_)
        refine go_dup 66 dX6_offers_65 rfl ?_
        refine go_iconst 67 dX6_offers_66 zc_2 ?_
        refine go_aload_n 68 dX6_offers_67 rfl ?_
        refine gl_x h_64 71 dX6_offers_68 fX6_41 rfl ?_
        refine gl_fst (j := 2) h_64 f_64 x_64 t_54 b_54 rfl (by decide) (by decide) 72 dX6_offers_71 (fun w_71 h_71 f_71 x_71 z_71 => ?_)
        refine gl_offN h_71 hI hk f_71 x_71 t_54 (nI_nm1 (by decide)) b_54 75 dX6_offers_72 pX6_87 (fun w_72 T_72 V_72 h_72 f_72 => ?_)
        refine go_iconst 76 dX6_offers_75 zc_1 ?_
        exact go_ireturn dX6_offers_76 rfl (by omega) (by omega) (by rw [of_1 o29 (by rw [hsd]; decide), hsd, ← lay_eq]; exact ⟨rfl, _, _, f_72, h_72⟩)
    · have o29 := ofO_s n29
      refine go_aload_n 33 dX6_offers_32 rfl ?_
      refine gl_l h hk 36 dX6_offers_33 fX6_87 (lFs6 o29) ?_
      refine go_iconst 37 dX6_offers_36 zc_0 ?_
      refine gl_oi h hk o29 rfl (by decide) 38 dX6_offers_37 ?_
      refine go_iload 40 dX6_offers_38 rfl ?_
      refine go_icmp_ne 45 43 dX6_offers_40 (fun h40 => ?_) (fun h40 => ?_)
      · refine go_aload_n 46 dX6_offers_45 rfl ?_
        refine gl_l h hk 49 dX6_offers_46 fX6_87 (lFs6 o29) ?_
        refine go_ifnonnull 77 dX6_offers_49 ?_
        refine go_aload_n 78 dX6_offers_77 rfl ?_
        refine gl_l h hk 81 dX6_offers_78 fX6_90 rfl ?_
        refine go_iload 83 dX6_offers_81 rfl ?_
        refine go_iconst 84 dX6_offers_83 zc_2 ?_
        refine gl_newi (N := 2) h FR.rf 86 dX6_offers_84 rfl (by decide) (by omega) (by omega) (fun w_84 T_84 a_84 h_84 f_84 x_84 t_84 b_84 => ?_)
        refine go_dup 87 dX6_offers_86 rfl ?_
        refine go_iconst 88 dX6_offers_87 zc_0 ?_
        refine go_iload_n 89 dX6_offers_88 rfl ?_
        refine gl_fst (j := 0) h_84 f_84 x_84 t_84 b_84 rfl (by decide) (by decide) 90 dX6_offers_89 (fun w_89 h_89 f_89 x_89 z_89 => ?_)
        refine go_dup 91 dX6_offers_90 rfl ?_
        refine go_iconst 92 dX6_offers_91 zc_1 ?_
        refine go_aload_n 93 dX6_offers_92 rfl ?_
        refine gl_x h_89 96 dX6_offers_93 fX6_41 rfl ?_
        refine go_iload 98 dX6_offers_96 rfl ?_
        refine go_if_ne 108 101 dX6_offers_98 (fun h98 => ?_) (fun h98 => ?_)
        · exact absurd h98 (by decide)
        · refine go_aload_n 102 dX6_offers_101 rfl ?_
          refine gl_x h_89 105 dX6_offers_102 fX6_7 rfl ?_
          refine go_goto 112 dX6_offers_105 ?_
          refine go_iadd 113 dX6_offers_112 ?_
          refine gl_fst (j := 1) h_89 f_89 x_89 t_84 b_84 rfl (by decide) (by decide) 114 dX6_offers_113 (fun w_113 h_113 f_113 x_113 z_113 => ?_)
          refine gl_repN (s := 0) h_113 hI hk f_113 rfl (by decide) x_113 t_84 hw1 b_84 115 dX6_offers_114 (fun w_114 T_114 V_114 v2_114 v5_114 h_114 f_114 => ?_)
          have h_114 : LX Γ w_114 T_114 1 sg A V_114 tm e (setL (setL D (tN (legW D p 1)) 9 (D 0 + D 1)) (tN (legW D p 1)) 11 v) := h_114
          have o115 : dL (setL (setL D (tN (legW D p 1)) 9 (D 0 + D 1)) (tN (legW D p 1)) 11 v) (tN (legW D p 1)) 6 ≠ -1 := by rw [dL_setLn (by omega), dL_setLn (by omega)]; exact o29
          refine go_aload_n 116 dX6_offers_115 rfl ?_
          refine gl_l h_114 (lt_sm ((sm_setL (by omega) (by omega)).trans (sm_setL (by omega) (by omega))) hk) 119 dX6_offers_116 fX6_90 rfl ?_
          refine go_iconst 120 dX6_offers_119 zc_1 ?_
          refine go_iload 122 dX6_offers_120 rfl ?_
          refine go_isub 123 dX6_offers_122 ?_
          refine go_iconst 124 dX6_offers_123 zc_2 ?_
          refine gl_newi (N := 2) h_114 f_114 126 dX6_offers_124 rfl (by decide) (by omega) (by omega) (fun w_124 T_124 a_124 h_124 f_124 x_124 t_124 b_124 => ?_)
          refine go_dup 127 dX6_offers_126 rfl ?_
          refine go_iconst 128 dX6_offers_127 zc_0 ?_
          refine go_aload_n 129 dX6_offers_128 rfl ?_
          refine gl_l h_124 (lt_sm ((sm_setL (by omega) (by omega)).trans (sm_setL (by omega) (by omega))) hk) 132 dX6_offers_129 fX6_87 (lFs6 o115) ?_
          refine go_iconst 133 dX6_offers_132 zc_1 ?_
          refine gl_oi h_124 (lt_sm ((sm_setL (by omega) (by omega)).trans (sm_setL (by omega) (by omega))) hk) o115 rfl (by decide) 134 dX6_offers_133 ?_
          refine gl_fst (j := 0) h_124 f_124 x_124 t_124 b_124 rfl (by decide) (by decide) 135 dX6_offers_134 (fun w_134 h_134 f_134 x_134 z_134 => ?_)
          refine go_dup 136 dX6_offers_135 rfl ?_
          refine go_iconst 137 dX6_offers_136 zc_1 ?_
          refine go_aload_n 138 dX6_offers_137 rfl ?_
          refine gl_x h_134 141 dX6_offers_138 fX6_41 rfl ?_
          refine go_iload 143 dX6_offers_141 rfl ?_
          refine go_if_ne 153 146 dX6_offers_143 (fun h143 => ?_) (fun h143 => ?_)
          · exact absurd h143 (by decide)
          · refine go_aload_n 147 dX6_offers_146 rfl ?_
            refine gl_x h_134 150 dX6_offers_147 fX6_13 rfl ?_
            refine go_goto 157 dX6_offers_150 ?_
            refine go_iadd 158 dX6_offers_157 ?_
            refine gl_fst (j := 1) h_134 f_134 x_134 t_124 b_124 rfl (by decide) (by decide) 159 dX6_offers_158 (fun w_158 h_158 f_158 x_158 z_158 => ?_)
            refine gl_repN (s := 1) h_158 (hI.same ((sm_setL (by omega) (by omega)).trans (sm_setL (by omega) (by omega)))) (lt_sm ((sm_setL (by omega) (by omega)).trans (sm_setL (by omega) (by omega))) hk) f_158 rfl (by decide) x_158 t_124 (by rw [low_setL (by decide), low_setL (by decide), low_setL (by decide), low_setL (by decide)]; exact hw2) b_124 160 dX6_offers_159 (fun w_159 T_159 V_159 v2_159 v5_159 h_159 f_159 => ?_)
            have h_159 : LX Γ w_159 T_159 1 sg A V_159 tm e (setL (setL (setL (setL D (tN (legW D p 1)) 9 (D 0 + D 1)) (tN (legW D p 1)) 11 v) (tN (legW D p 1)) 10 ((setL (setL D (tN (legW D p 1)) 9 (D 0 + D 1)) (tN (legW D p 1)) 11 v) 0 + (setL (setL D (tN (legW D p 1)) 9 (D 0 + D 1)) (tN (legW D p 1)) 11 v) 2)) (tN (legW D p 1)) 12 (dL (setL (setL D (tN (legW D p 1)) 9 (D 0 + D 1)) (tN (legW D p 1)) 11 v) (tN (legW D p 1)) 7)) := h_159
            rw [show (setL (setL D (tN (legW D p 1)) 9 (D 0 + D 1)) (tN (legW D p 1)) 11 v) 0 = D 0 by rw [low_setL (by decide), low_setL (by decide)], show (setL (setL D (tN (legW D p 1)) 9 (D 0 + D 1)) (tN (legW D p 1)) 11 v) 2 = D 2 by rw [low_setL (by decide), low_setL (by decide)], show dL (setL (setL D (tN (legW D p 1)) 9 (D 0 + D 1)) (tN (legW D p 1)) 11 v) (tN (legW D p 1)) 7 = dL D (tN (legW D p 1)) 7 by rw [dL_setLn (by omega), dL_setLn (by omega)]] at h_159
            refine go_aload_n 161 dX6_offers_160 rfl ?_
            refine go_null 162 dX6_offers_161 ?_
            refine gl_off0 h_159 (hI.same (((sm_setL (by omega) (by omega)).trans (sm_setL (by omega) (by omega))).trans ((sm_setL (by omega) (by omega)).trans (sm_setL (by omega) (by omega))))) (lt_sm (((sm_setL (by omega) (by omega)).trans (sm_setL (by omega) (by omega))).trans ((sm_setL (by omega) (by omega)).trans (sm_setL (by omega) (by omega)))) hk) f_159 165 dX6_offers_162 pX6_87 (fun w_162 h_162 f_162 z_162 => ?_)
            refine go_aload_n 166 dX6_offers_165 rfl ?_
            refine gl_x h_162 169 dX6_offers_166 fX6_37 rfl ?_
            refine go_iconst 170 dX6_offers_169 zc_2 ?_
            refine go_dup2 171 dX6_offers_170 rfl rfl ?_
            refine gl_ti h_162 rfl (by decide) 172 dX6_offers_171 ?_
            refine go_iconst 173 dX6_offers_172 zc_1 ?_
            refine go_iadd 174 dX6_offers_173 ?_
            refine gl_tot h_162 (hI.same ((((sm_setL (by omega) (by omega)).trans (sm_setL (by omega) (by omega))).trans ((sm_setL (by omega) (by omega)).trans (sm_setL (by omega) (by omega)))).trans (sm_setL (by decide) (by decide)))) f_162 rfl (by decide) rfl 175 dX6_offers_174 (fun w_174 h_174 f_174 z_174 => ?_)
            refine go_iconst 176 dX6_offers_175 zc_m1 ?_
            exact go_ireturn dX6_offers_176 rfl (by omega) (by omega) (by rw [of_2 (by rw [hsd]; exact h40) o29, hsd]; exact ⟨rfl, _, _, f_174, by rw [← glr_0]; exact h_174⟩)
      · refine go_iconst 44 dX6_offers_43 zc_0 ?_
        exact go_ireturn dX6_offers_44 rfl (by omega) (by omega) (by rw [of_0 (by rw [hsd]; exact h40)]; exact ⟨rfl, _, _, FR.rf, h⟩)

end LOps
