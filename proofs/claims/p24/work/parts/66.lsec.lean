section LSec
theorem rp_n {X : ZD} {k s : Nat} (h : ¬ dL X k (9 + s) = X 0) : repD X k s = X := if_neg h
theorem rp_l {X : ZD} {k s : Nat} (h : dL X k (9 + s) = X 0) (h6 : dL (setL X k (9 + s) (-1)) k 6 = -1) : repD X k s = layD (setL X k (9 + s) (-1)) k (nI s) (dL (setL X k (9 + s) (-1)) k (11 + s)) := (if_pos h).trans (if_pos h6)
theorem rp_t {X : ZD} {k s : Nat} (h : dL X k (9 + s) = X 0) (h6 : dL (setL X k (9 + s) (-1)) k 6 ≠ -1) : repD X k s = tally (setL X k (9 + s) (-1)) 3 := (if_pos h).trans (if_neg h6)
theorem lay_eq {D : ZD} {k : Nat} {x v : Int32} : setL (setL (setL D k 6 x) k 7 v) k 8 (D 0) = layD D k x v := by
  unfold layD
  rw [low_setL (by decide), low_setL (by decide)]
theorem rep_2 {X : ZD} {k s k' : Nat} (hs : s < 2) : dL (repD X k s) k' 2 = dL X k' 2 := by
  unfold repD
  split
  · split
    · unfold layD
      rw [dL_setLn (by omega), dL_setLn (by omega), dL_setLn (by omega), dL_setLn (by omega)]
    · rw [tally_L (by decide), dL_setLn (by omega)]
  · rfl
theorem pot_s1 {X : ZD} {k : Nat} : pot (s1Step k X) = pot X := pot_o (sm_nL sm_s1) (fun k' => by
  unfold s1Step
  split
  · rw [rep_2 (by decide), rep_2 (by decide)]
  · rfl)
theorem repl_2 {X : ZD} {k k' : Nat} : dL (replD X k) k' 2 = dL X k' 2 := by
  unfold replD
  split
  · rfl
  · split
    · rfl
    · split
      · rw [tally_L (by decide), dL_setLn (by omega), dL_setLn (by omega), dL_setLn (by omega)]
      · rw [tally_L (by decide), dL_setLn (by omega)]
theorem pot_s2 {X : ZD} {k : Nat} : pot (s2Step k X) = pot X := pot_o (sm_nL sm_s2) (fun k' => by
  unfold s2Step
  split
  · rw [repl_2]
  · rfl)
theorem pot_ans {X : ZD} {K : Nat} (hV : Iv X) (hs : ∃ sg, SegD sg X) (hk : K < nL X) (h0 : dL X K 2 = 0) : pot (ansD X K) + 1 ≤ pot X := by
  obtain ⟨sg, hs⟩ := hs
  have hI := hV.1
  have h20 := hI.2.1.2
  have hc := (hI.2.2.2 K hk).2
  have c20 : ofN X K < 20 := by omega
  have s3 : Same X (ans3 X K) := sm_ans3 c20
  have s4 : Same X (ans4 X K) := sm_ans4 c20
  have e4 : itr (erS 2) (sg (ofN X K)).1 ((sg (ofN X K)).2 - (sg (ofN X K)).1) (ans3 X K) = ans4 X K := by
    rw [er_eq hs hI s3 hc (Or.inr ⟨K, rfl, hk, by rw [ans3_2 c20]; decide⟩)]
    unfold ans4
    rw [(hI.2.2.2 K hk).1]
  have p3 := pot_ans3 c20 hk h0
  have p4 : pot (ans4 X K) ≤ pot (ans3 X K) := by rw [← e4]; exact pot_ers _ _ _ s3 (by have := hs _ hc; omega)
  have p5 : pot (ans5 X K) ≤ pot (ans4 X K) := pot_endTo (hV.same s4)
  have pF := pot_ans5 hV hk
  omega
theorem pot_s3 {X : ZD} {K : Nat} (hV : Iv X) (hs : ∃ sg, SegD sg X) (hk : K < nL X) : pot (s3Step K X) ≤ pot X := by
  unfold s3Step
  split
  · rename_i h0
    unfold mayD
    split
    · have := pot_ans hV hs hk h0
      omega
    · exact Nat.le_refl _
  · exact Nat.le_refl _
theorem pot_s4 {D X : ZD} {sg : ZSg} (hs : SegD sg D) (hV : Iv D) (hX : Same D X) {c : Nat} (hc : c < nC D) : pot (s4Step c X) ≤ pot X := by
  unfold s4Step
  split
  · rename_i h
    rw [pot_fail, ← er_eq hs hV.1 hX hc (Or.inl (fun k hk => nI_nm1 (by have := hV.1.2.2.1.2; omega)))]
    exact pot_ers _ _ _ hX (by have := hs c hc; omega)
  · exact Nat.le_refl _
theorem pot_itr {g : Nat → ZD → ZD} {D : ZD} (N : Nat) (hg : ∀ k X, k < N → Same D X → Same X (g k X) ∧ pot (g k X) ≤ pot X) : ∀ (f i : Nat) (X : ZD), i + f ≤ N → Same D X → pot (itr g i f X) ≤ pot X
  | 0, _, _, _, _ => Nat.le_refl _
  | f + 1, i, X, hN, hs => by
    obtain ⟨a, b⟩ := hg i X (by omega) hs
    exact Nat.le_trans (pot_itr N hg f (i + 1) (g i X) (by omega) (hs.trans a)) b
theorem othr_P {D : ZD} (hI : Iv D) {k : Nat} (hk : k < nL D) : othr D k < nP D := by
  have ho := hI.1.2.2.2 k hk
  have h1 := hI.2.2.2 _ ho.2
  have h2 := hI.2.2.1 k hk
  unfold othr
  split
  · exact h1.2
  · exact h2.2
theorem s1_n {X : ZD} {k : Nat} (h : ¬ dL X k 2 = 1) : s1Step k X = X := if_neg h
theorem s1_y {X : ZD} {k : Nat} (h : dL X k 2 = 1) : s1Step k X = repD (repD X k 0) k 1 := if_pos h
theorem s2_n {X : ZD} {k : Nat} (h : ¬ dL X k 2 = 1) : s2Step k X = X := if_neg h
theorem s2_o {X : ZD} {k : Nat} (h : dL X k 6 = -1) : s2Step k X = X := (Classical.em (dL X k 2 = 1)).elim (fun q => (if_pos q).trans (if_pos h)) (fun q => if_neg q)
theorem s2_k {X : ZD} {k : Nat} (h1 : dL X k 2 = 1) (h6 : dL X k 6 ≠ -1) (hr : ¬ replied X k) (hp : X 0 - dL X k 8 < X 3) : s2Step k X = X := by
  unfold s2Step replD
  rw [if_pos h1, if_neg h6, if_pos ⟨hr, hp⟩]
theorem s2_a {X : ZD} {k : Nat} (h1 : dL X k 2 = 1) (h6 : dL X k 6 ≠ -1) (hr : replied X k) (hp : dL X k 7 ≤ dP X (othr X k) 2) : s2Step k X = tally (setL (setL (setL X k 4 (dL X k 7)) k 5 (dL X k 5 + 1)) k 6 (-1)) 0 := by
  unfold s2Step replD
  rw [if_pos h1, if_neg h6, if_neg (fun q => q.1 hr), if_pos ⟨hr, hp⟩, acc_eq]
theorem s2_b {X : ZD} {k : Nat} (h1 : dL X k 2 = 1) (h6 : dL X k 6 ≠ -1) (hr : replied X k ∨ ¬ X 0 - dL X k 8 < X 3) (hp : ¬ (replied X k ∧ dL X k 7 ≤ dP X (othr X k) 2)) : s2Step k X = tally (setL X k 6 (-1)) 1 := by
  unfold s2Step replD
  rw [if_pos h1, if_neg h6, if_neg (fun q => hr.elim q.1 (fun z => z q.2)), if_neg hp]
theorem rpl_y {X : ZD} {k : Nat} (hP : 0 ≤ dP X (othr X k) 1) (h0 : ¬ dP X (othr X k) 1 = 0) (h : X 0 - dL X k 8 = dP X (othr X k) 1) : replied X k := ⟨Int32.lt_of_le_of_ne hP (fun q => h0 q.symm), h⟩
theorem s3_n0 {X : ZD} {k : Nat} (h : ¬ dL X k 2 = 0) : s3Step k X = X := if_neg h
theorem s3_n {X : ZD} {k : Nat} (h : ¬ (0 < dP X (ceN X k) 0 ∧ X 0 - dC X (ofN X k) 1 = dP X (ceN X k) 0 ∧ ¬ eng X (dL X k 1))) : s3Step k X = X := (Classical.em (dL X k 2 = 0)).elim (fun q => (if_pos q).trans (if_neg h)) (fun q => if_neg q)
theorem s3_y {X : ZD} {k : Nat} (h0 : dL X k 2 = 0) (h : 0 < dP X (ceN X k) 0 ∧ X 0 - dC X (ofN X k) 1 = dP X (ceN X k) 0 ∧ ¬ eng X (dL X k 1)) : s3Step k X = ansD X k := by
  unfold s3Step mayD
  rw [if_pos h0, if_pos h]
theorem s4_n {X : ZD} {c : Nat} (h : ¬ (rngs X (nI c) ∧ ¬ X 0 - dC X c 1 < dC X c 2)) : s4Step c X = X := if_neg h

set_option maxRecDepth 100000 in
set_option maxHeartbeats 4000000 in
theorem cl_party {l : Launch} {Γ : ZG} {w : ZW} {T : LT} {sg : ZSg} {A V : LA} {tm : Option Nat} {e : Nat} {D : ZD} (h : LX Γ w T 1 sg A V tm e D) (hI : Ix D) {K : Nat} (hk : K < nL D) {x : Int32} : Cm l Γ mX7_party 1 [.ref (A 0 K), .int x] w (some (.int (if x = 0 then clr D K else dL D K 1))) w := by
  refine Cm.of (by decide) rfl (Nat.le_of_ble_eq_true rfl) ?_
  refine go_iload_n 1 dX7_party_0 rfl ?_
  refine go_if_ne 14 4 dX7_party_1 (fun h1 => ?_) (fun h1 => ?_)
  · refine go_aload_n 15 dX7_party_14 rfl ?_
    refine gl_l h hk 18 dX7_party_15 fX7_34 rfl ?_
    exact go_ireturn dX7_party_18 rfl (by omega) (by omega) (⟨by rw [if_neg h1], rfl⟩)
  · refine go_aload_n 5 dX7_party_4 rfl ?_
    refine gl_l h hk 8 dX7_party_5 fX7_25 rfl ?_
    refine gl_t h (hI.2.2.2 K hk).2 11 dX7_party_8 fX7_29 rfl ?_
    refine go_goto 18 dX7_party_11 ?_
    exact go_ireturn dX7_party_18 rfl (by omega) (by omega) (⟨by rw [if_pos h1]; rfl, rfl⟩)

set_option maxRecDepth 100000 in
set_option maxHeartbeats 4000000 in
theorem sB_second {l : Launch} {Γ : ZG} {w0 : ZW} {T0 : LT} {sg : ZSg} {A : LA} {tm : Option Nat} {e : Nat} {w : ZW} {T : LT} {V : LA} {D : ZD} (h : LX Γ w T 1 sg A V tm e D) (hI : Ix D) (ht : D 0 ≠ -1) {K N i s k n mc ms : Nat} (hk : K < nL D) (h2 : dL D K 2 = 1) (hs : s < 2) (fr : FR w0 T0 w T) (hm : k + 1 ≤ mc) (hn : n + 3 ≤ ms) {Φ : Option Value → ZW → Prop} (kx : ∀ (w : ZW) (T : LT) (V : LA) (k9 n9 : Nat), LX Γ w T 1 sg A V tm e (repD D K s) → FR w0 T0 w T → k ≤ k9 ∧ k9 ≤ k + 1 → n9 + 20 * k ≤ n + 20 * k9 → Go l Γ mX6_second 5 mc ms Φ zNo k9 n9 w 33 [(0, .ref e), (1, .ref (A 8 2)), (2, .int (nI N)), (3, .int (nI i)), (4, .ref (A 0 K)), (5, .int (nI (s + 1)))] []) : Go l Γ mX6_second 5 mc ms Φ zNo k n w 33 [(0, .ref e), (1, .ref (A 8 2)), (2, .int (nI N)), (3, .int (nI i)), (4, .ref (A 0 K)), (5, .int (nI s))] [] := by
  have h40 := hI.2.2.1.2
  refine go_wf fun hw => ?_
  refine go_iload 35 dX6_second_33 rfl ?_
  refine go_iconst 36 dX6_second_35 zc_2 ?_
  refine go_icmp_ge 140 39 dX6_second_36 (fun h36 => ?_) (fun h36 => ?_)
  · exact absurd h36 (by rw [show (2 : Int32) = nI 2 from rfl]; exact nI_ge hs (by decide))
  · refine go_aload 41 dX6_second_39 rfl ?_
    refine gl_l h hk 44 dX6_second_41 fX6_75 rfl ?_
    refine go_iconst 45 dX6_second_44 zc_1 ?_
    refine go_icmp_ne 140 48 dX6_second_45 (fun h45 => ?_) (fun h45 => ?_)
    · exact absurd h2 h45
    · refine go_aload 50 dX6_second_48 rfl ?_
      refine gl_l h hk 53 dX6_second_50 fX6_90 rfl ?_
      refine go_iload 55 dX6_second_53 rfl ?_
      refine gl_rp h hk rfl hs 56 dX6_second_55 ?_
      refine go_astoreQ 58 dX6_second_56 (by decide) ?_
      refine go_aloadQ 60 dX6_second_58 rfl ?_
      refine go_ifnullQ 134 63 dX6_second_60 (fun n60 => ?_) (fun x60 n60 => ?_)
      · have o60 := rpO_n n60
        refine go_iinc 137 dX6_second_134 rfl (by decide) zc_1 ?_
        refine go_goto 33 dX6_second_137 ?_
        rw [nI_1]
        exact go_locals _ rfl (kx _ _ _ _ _ (by rw [rp_n (fun q => ht (q.symm.trans o60))]; exact h) fr (by omega) (by omega))
      · have o60 := rpO_s n60
        refine go_aload 65 dX6_second_63 (rpO_lv o60 rfl) ?_
        refine go_iconst 66 dX6_second_65 zc_1 ?_
        refine gl_ri h hk hs o60 rfl (by decide) 67 dX6_second_66 ?_
        refine go_aload_n 68 dX6_second_67 rfl ?_
        refine gl_x h 71 dX6_second_68 fX6_41 rfl ?_
        refine go_icmp_eq 77 74 dX6_second_71 (fun h71 => ?_) (fun h71 => ?_)
        · obtain ⟨rg, rg1, rg2, rg3, rg4⟩ := (h.l hk).2.2.2 s hs o60
          refine go_aload 79 dX6_second_77 rfl ?_
          refine gl_l h hk 82 dX6_second_79 fX6_90 rfl ?_
          refine go_iload 84 dX6_second_82 rfl ?_
          refine go_null 85 dX6_second_84 ?_
          refine gl_rep0 h hI hk FR.rf rfl hs 86 dX6_second_85 (fun w_85 h_85 f_85 z_85 => ?_)
          refine go_aload 88 dX6_second_86 rfl ?_
          refine gl_l h_85 (lt_sm (sm_setL (by omega) (by omega)) hk) 91 dX6_second_88 fX6_87 rfl ?_
          refine go_ifnonnullQ 124 94 dX6_second_91 (fun x91 n91 => ?_) (fun n91 => ?_)
          · have o91 := ofO_s n91
            refine go_aload_n 125 dX6_second_124 rfl ?_
            refine gl_x h_85 128 dX6_second_125 fX6_37 rfl ?_
            refine go_iconst 129 dX6_second_128 zc_3 ?_
            refine go_dup2 130 dX6_second_129 rfl rfl ?_
            refine gl_ti h_85 rfl (by decide) 131 dX6_second_130 ?_
            refine go_iconst 132 dX6_second_131 zc_1 ?_
            refine go_iadd 133 dX6_second_132 ?_
            refine gl_tot h_85 (hI.same (sm_setL (by omega) (by omega))) f_85 rfl (by decide) rfl 134 dX6_second_133 (fun w_133 h_133 f_133 z_133 => ?_)
            refine go_iinc 137 dX6_second_134 rfl (by decide) zc_1 ?_
            refine go_goto 33 dX6_second_137 ?_
            rw [nI_1]
            exact go_locals _ rfl (kx _ _ _ _ _ (by rw [rp_t h71 o91]; exact h_133) (fr.trans f_133) (by omega) (by omega))
          · have o91 := ofO_n n91
            refine go_aload 96 dX6_second_94 rfl ?_
            refine go_iconst 97 dX6_second_96 zc_3 ?_
            refine gl_newi (N := 3) h_85 f_85 99 dX6_second_97 rfl (by decide) (by omega) (by omega) (fun w_97 T_97 a_97 h_97 f_97 x_97 t_97 b_97 => ?_)
            refine go_dup 100 dX6_second_99 rfl ?_
            refine go_iconst 101 dX6_second_100 zc_0 ?_
            refine go_iload 103 dX6_second_101 rfl ?_
            refine gl_fst (j := 0) h_97 f_97 x_97 t_97 b_97 rfl (by decide) (by decide) 104 dX6_second_103 (fun w_103 h_103 f_103 x_103 z_103 => ?_)
            refine go_dup 105 dX6_second_104 rfl ?_
            refine go_iconst 106 dX6_second_105 zc_1 ?_
            refine go_aload 108 dX6_second_106 (rpO_lv o60 rfl) ?_
            refine go_iconst 109 dX6_second_108 zc_0 ?_
            refine go_iald 110 dX6_second_109 ((f_103.2.2 _ (hw _ _ rg1) (by rw [rg2]; decide)).trans rg1) (vp_in_nI (n := 0) (by decide) (by decide)) ?_
            rw [show (Int32.toNatClampNeg 0) = 0 from rfl, rg3]
            refine gl_fst (j := 1) h_103 f_103 x_103 t_97 b_97 rfl (by decide) (by decide) 111 dX6_second_110 (fun w_110 h_110 f_110 x_110 z_110 => ?_)
            refine go_dup 112 dX6_second_111 rfl ?_
            refine go_iconst 113 dX6_second_112 zc_2 ?_
            refine go_aload_n 114 dX6_second_113 rfl ?_
            refine gl_x h_110 117 dX6_second_114 fX6_41 rfl ?_
            refine gl_fst (j := 2) h_110 f_110 x_110 t_97 b_97 rfl (by decide) (by decide) 118 dX6_second_117 (fun w_117 h_117 f_117 x_117 z_117 => ?_)
            refine gl_offN h_117 (hI.same (sm_setL (by omega) (by omega))) (lt_sm (sm_setL (by omega) (by omega)) hk) f_117 x_117 t_97 (nI_nm1 (by omega)) b_97 121 dX6_second_118 pX6_87 (fun w_118 T_118 V_118 h_118 f_118 => ?_)
            refine go_goto 134 dX6_second_121 ?_
            refine go_iinc 137 dX6_second_134 rfl (by decide) zc_1 ?_
            refine go_goto 33 dX6_second_137 ?_
            rw [nI_1]
            exact go_locals _ rfl (kx _ _ _ _ _ (by rw [rp_l h71 o91, show dL (setL D K (9 + s) (-1)) K (11 + s) = dL D K (11 + s) from dL_setLn (by omega), ← lay_eq]; exact h_118) (fr.trans f_118) (by omega) (by omega))
        · refine go_goto 134 dX6_second_74 ?_
          refine go_iinc 137 dX6_second_134 rfl (by decide) zc_1 ?_
          refine go_goto 33 dX6_second_137 ?_
          rw [nI_1]
          exact go_locals _ rfl (kx _ _ _ _ _ (by rw [rp_n h71]; exact h) fr (by omega) (by omega))

set_option maxRecDepth 100000 in
set_option maxHeartbeats 4000000 in
theorem lq1_second {l : Launch} {Γ : ZG} {w0 : ZW} {T0 : LT} {sg : ZSg} {A : LA} {tm : Option Nat} {e : Nat} {D DF : ZD} (hV : Iv D) (ht : D 0 ≠ -1) {mc B : Nat} (hB : B ≤ mc + pot DF) {Φ : Option Value → ZW → Prop} (kx : ∀ (w : ZW) (T : LT) (V : LA) (k n : Nat), LX Γ w T 1 sg A V tm e DF → FR w0 T0 w T → k + pot DF ≤ B → n ≤ 20 * k → Go l Γ mX6_second 5 mc (20 * mc) Φ zNo k n w 146 [(0, .ref e)] []) : ∀ (f i : Nat) (w : ZW) (T : LT) (V : LA) (X : ZD) (k n : Nat), i + f = nL D → Same D X → LX Γ w T 1 sg A V tm e X → FR w0 T0 w T → k + 2 * f + pot X ≤ B → n ≤ 20 * k → itr s1Step i f X = DF → Go l Γ mX6_second 5 mc (20 * mc) Φ zNo k n w 20 [(0, .ref e), (1, .ref (A 8 2)), (2, .int (nI (nL D))), (3, .int (nI i))] [] := by
  have h40 := hV.1.2.2.1.2
  have h20 := hV.1.2.1.2
  intro f
  induction f with
  | zero =>
    intro i w T V X k n hi hX h fr hk hn hDF
    have hDF : X = DF := hDF
    refine go_iload_n 21 dX6_second_20 rfl ?_
    refine go_iload_n 22 dX6_second_21 rfl ?_
    refine go_icmp_ge 146 25 dX6_second_22 (fun h22 => ?_) (fun h22 => ?_)
    · exact go_locals _ rfl (kx w T V k n (by rw [← hDF]; exact h) fr (by rw [← hDF]; omega) hn)
    · exact (lpE rfl (by omega) h22).elim
  | succ f ih =>
    intro i w T V X k n hi hX h fr hk hn hDF
    have hp9 : pot DF ≤ pot X := by rw [← hDF]; exact pot_itr (D := D) (nL D) (fun k Y _ _ => ⟨sm_s1, Nat.le_of_eq pot_s1⟩) (f + 1) i X (by omega) hX
    refine go_iload_n 21 dX6_second_20 rfl ?_
    refine go_iload_n 22 dX6_second_21 rfl ?_
    refine go_icmp_ge 146 25 dX6_second_22 (fun h22 => ?_) (fun h22 => ?_)
    · exact (lpG rfl (by omega) (by omega) h22).elim
    · refine go_aload_n 26 dX6_second_25 rfl ?_
      refine go_iload_n 27 dX6_second_26 rfl ?_
      refine gl_la h (hV.1.same hX) rfl (show i < nL X by rw [sm_nL hX]; omega) 28 dX6_second_27 ?_
      refine go_astore 30 dX6_second_28 (by decide) ?_
      refine go_iconst 31 dX6_second_30 zc_0 ?_
      refine go_istore 33 dX6_second_31 (by decide) ?_
      by_cases hq : dL X i 2 = 1
      · refine go_locals _ rfl (sB_second (K := i) (s := 0) h (hV.1.same hX) (by rw [hX.low (by decide)]; exact ht) (show i < nL X by rw [sm_nL hX]; omega) hq (by decide) fr (by omega) (by omega) (fun w1 T1 V1 k1 n1 h1 f1 a1 b1 => sB_second (K := i) (s := 1) h1 ((hV.1.same hX).same (sm_rep (by decide))) (by rw [(sm_rep (by decide)).low (by decide), hX.low (by decide)]; exact ht) (lt_sm (sm_rep (by decide)) (show i < nL X by rw [sm_nL hX]; omega)) (by rw [rep_2 (by decide)]; exact hq) (by decide) f1 (by omega) (by omega) (fun w2 T2 V2 k2 n2 h2 f2 a2 b2 => ?_)))
        refine go_iload 35 dX6_second_33 rfl ?_
        refine go_iconst 36 dX6_second_35 zc_2 ?_
        refine go_icmp_ge 140 39 dX6_second_36 (fun h36 => ?_) (fun h36 => ?_)
        · refine go_iinc 143 dX6_second_140 rfl (by decide) zc_1 ?_
          refine go_goto 20 dX6_second_143 ?_
          rw [nI_1]
          exact go_locals _ rfl (ih (i + 1) w2 T2 V2 (s1Step i X) k2 n2 (by omega) (hX.trans sm_s1) (by rw [s1_y hq]; exact h2) f2 (by rw [pot_s1]; omega) (by omega) hDF)
        · exact absurd h36 (by decide)
      · refine go_iload 35 dX6_second_33 rfl ?_
        refine go_iconst 36 dX6_second_35 zc_2 ?_
        refine go_icmp_ge 140 39 dX6_second_36 (fun h36 => ?_) (fun h36 => ?_)
        · exact absurd h36 (by decide)
        · refine go_aload 41 dX6_second_39 rfl ?_
          refine gl_l h (show i < nL X by rw [sm_nL hX]; omega) 44 dX6_second_41 fX6_75 rfl ?_
          refine go_iconst 45 dX6_second_44 zc_1 ?_
          refine go_icmp_ne 140 48 dX6_second_45 (fun h45 => ?_) (fun h45 => ?_)
          · refine go_iinc 143 dX6_second_140 rfl (by decide) zc_1 ?_
            refine go_goto 20 dX6_second_143 ?_
            rw [nI_1]
            exact go_locals _ rfl (ih (i + 1) w T V (s1Step i X) k n (by omega) (hX.trans sm_s1) (by rw [s1_n hq]; exact h) fr (by rw [pot_s1]; omega) hn hDF)
          · exact absurd h45 hq

set_option maxRecDepth 100000 in
set_option maxHeartbeats 4000000 in
theorem lq2_second {l : Launch} {Γ : ZG} {w0 : ZW} {T0 : LT} {sg : ZSg} {A : LA} {tm : Option Nat} {e : Nat} {D DF : ZD} (hV : Iv D) (hP : JP D) {mc B : Nat} (hB : B ≤ mc + pot DF) {Φ : Option Value → ZW → Prop} (kx : ∀ (w : ZW) (T : LT) (V : LA) (k n : Nat), LX Γ w T 1 sg A V tm e DF → FR w0 T0 w T → k + pot DF ≤ B → n ≤ 20 * k → Go l Γ mX6_second 5 mc (20 * mc) Φ zNo k n w 340 [(0, .ref e)] []) : ∀ (f i : Nat) (w : ZW) (T : LT) (V : LA) (X : ZD) (k n : Nat), i + f = nL D → Same D X → LX Γ w T 1 sg A V tm e X → FR w0 T0 w T → k + pot X ≤ B → n ≤ 20 * k → itr s2Step i f X = DF → Go l Γ mX6_second 5 mc (20 * mc) Φ zNo k n w 156 [(0, .ref e), (1, .ref (A 8 2)), (2, .int (nI (nL D))), (3, .int (nI i))] [] := by
  have h40 := hV.1.2.2.1.2
  have h20 := hV.1.2.1.2
  intro f
  induction f with
  | zero =>
    intro i w T V X k n hi hX h fr hk hn hDF
    have hDF : X = DF := hDF
    refine go_iload_n 157 dX6_second_156 rfl ?_
    refine go_iload_n 158 dX6_second_157 rfl ?_
    refine go_icmp_ge 340 161 dX6_second_158 (fun h158 => ?_) (fun h158 => ?_)
    · exact go_locals _ rfl (kx w T V k n (by rw [← hDF]; exact h) fr (by rw [← hDF]; omega) hn)
    · exact (lpE rfl (by omega) h158).elim
  | succ f ih =>
    intro i w T V X k n hi hX h fr hk hn hDF
    have hp8 : pot DF ≤ pot X := by rw [← hDF]; exact pot_itr (D := D) (nL D) (fun k Y hk9 hY => ⟨sm_s2, Nat.le_of_eq pot_s2⟩) (f + 1) i X (by omega) hX
    refine go_iload_n 157 dX6_second_156 rfl ?_
    refine go_iload_n 158 dX6_second_157 rfl ?_
    refine go_icmp_ge 340 161 dX6_second_158 (fun h158 => ?_) (fun h158 => ?_)
    · exact (lpG rfl (by omega) (by omega) h158).elim
    · refine go_aload_n 162 dX6_second_161 rfl ?_
      refine go_iload_n 163 dX6_second_162 rfl ?_
      refine gl_la h (hV.1.same hX) rfl (show i < nL X by rw [sm_nL hX]; omega) 164 dX6_second_163 ?_
      refine go_astore 166 dX6_second_164 (by decide) ?_
      refine go_aload 168 dX6_second_166 rfl ?_
      refine gl_l h (show i < nL X by rw [sm_nL hX]; omega) 171 dX6_second_168 fX6_75 rfl ?_
      refine go_iconst 172 dX6_second_171 zc_1 ?_
      refine go_icmp_ne 334 175 dX6_second_172 (fun h172 => ?_) (fun h172 => ?_)
      · refine go_iinc 337 dX6_second_334 rfl (by decide) zc_1 ?_
        refine go_goto 156 dX6_second_337 ?_
        rw [nI_1]
        exact go_locals _ rfl (ih (i + 1) w T V (s2Step i X) k n (by omega) (hX.trans sm_s2) (by rw [s2_n h172]; exact h) fr (by rw [pot_s2]; exact hk) hn hDF)
      · refine go_aload 177 dX6_second_175 rfl ?_
        refine gl_l h (show i < nL X by rw [sm_nL hX]; omega) 180 dX6_second_177 fX6_87 rfl ?_
        refine go_ifnonnullQ 186 183 dX6_second_180 (fun x180 n180 => ?_) (fun n180 => ?_)
        · have o180 := ofO_s n180
          refine go_aload_n 187 dX6_second_186 rfl ?_
          refine gl_x h 190 dX6_second_187 fX6_21 rfl ?_
          refine go_aload 192 dX6_second_190 rfl ?_
          refine go_iconst 193 dX6_second_192 zc_1 ?_
          refine go_aload 195 dX6_second_193 rfl ?_
          refine gl_l h (show i < nL X by rw [sm_nL hX]; omega) 198 dX6_second_195 fX6_87 (lFs6 o180) ?_
          refine go_iconst 199 dX6_second_198 zc_0 ?_
          refine gl_oi h (show i < nL X by rw [sm_nL hX]; omega) o180 rfl (by decide) 200 dX6_second_199 ?_
          refine go_isub 201 dX6_second_200 ?_
          refine gcV1 204 dX6_second_201 vX6_153 (h.l (show i < nL X by rw [sm_nL hX]; omega)).1.1 rfl (cl_party h (hV.1.same hX) (show i < nL X by rw [sm_nL hX]; omega)) ?_
          rw [show (if 1 - dL X i (6 + 0) = 0 then clr X i else dL X i 1) = nI (othr X i) from (othr_ok (hV.same hX) (show i < nL X by rw [sm_nL hX]; omega)).1]
          refine gl_pa h (hV.1.same hX) rfl (othr_P (hV.same hX) (show i < nL X by rw [sm_nL hX]; omega)) 205 dX6_second_204 ?_
          refine go_astore 207 dX6_second_205 (by decide) ?_
          have hP0 : 0 ≤ dP X (othr X i) 1 := by rw [show dP X (othr X i) 1 = dP D (othr X i) 1 from hX.P (by have := (othr_P (hV.same hX) (show i < nL X by rw [sm_nL hX]; omega)); have := (hV.same hX).1.1.2; omega) (by decide)]; exact (hP (othr X i) 1 (by have := othr_P (hV.same hX) (show i < nL X by rw [sm_nL hX]; omega); rw [sm_nP hX] at this; exact this) (by decide))
          refine go_aload_n 208 dX6_second_207 rfl ?_
          refine gl_x h 211 dX6_second_208 fX6_41 rfl ?_
          refine go_aload 213 dX6_second_211 rfl ?_
          refine gl_l h (show i < nL X by rw [sm_nL hX]; omega) 216 dX6_second_213 fX6_87 (lFs6 o180) ?_
          refine go_iconst 217 dX6_second_216 zc_2 ?_
          refine gl_oi h (show i < nL X by rw [sm_nL hX]; omega) o180 rfl (by decide) 218 dX6_second_217 ?_
          refine go_isub 219 dX6_second_218 ?_
          refine go_istore 221 dX6_second_219 (by decide) ?_
          have K318 : (replied X i ∨ ¬ X 0 - dL X i 8 < X 3) → ¬ (replied X i ∧ dL X i 7 ≤ dP X (othr X i) 2) → Go l Γ mX6_second 5 mc (20 * mc) Φ zNo k n w 318 [(0, .ref e), (1, .ref (A 8 2)), (2, .int (nI (nL D))), (3, .int (nI i)), (4, .ref (A 0 i)), (5, .ref (A 3 (othr X i))), (6, .int (X 0 - dL X i (6 + 2)))] [] := by
            intro hr hp
            refine go_aload 320 dX6_second_318 rfl ?_
            refine go_null 321 dX6_second_320 ?_
            refine gl_off0 h (hV.1.same hX) (show i < nL X by rw [sm_nL hX]; omega) fr 324 dX6_second_321 pX6_87 (fun w_321 h_321 f_321 z_321 => ?_)
            refine go_aload_n 325 dX6_second_324 rfl ?_
            refine gl_x h_321 328 dX6_second_325 fX6_37 rfl ?_
            refine go_iconst 329 dX6_second_328 zc_1 ?_
            refine go_dup2 330 dX6_second_329 rfl rfl ?_
            refine gl_ti h_321 rfl (by decide) 331 dX6_second_330 ?_
            refine go_iconst 332 dX6_second_331 zc_1 ?_
            refine go_iadd 333 dX6_second_332 ?_
            refine gl_tot h_321 ((hV.1.same hX).same (sm_setL (by decide) (by decide))) f_321 rfl (by decide) rfl 334 dX6_second_333 (fun w_333 h_333 f_333 z_333 => ?_)
            refine go_iinc 337 dX6_second_334 rfl (by decide) zc_1 ?_
            refine go_goto 156 dX6_second_337 ?_
            rw [nI_1]
            exact go_locals _ rfl (ih (i + 1) w_333 T V (s2Step i X) k n (by omega) (hX.trans sm_s2) (by rw [s2_b h172 o180 hr hp]; exact h_333) f_333 (by rw [pot_s2]; exact hk) hn hDF)
          have K293 : ¬ (replied X i ∧ dL X i 7 ≤ dP X (othr X i) 2) → Go l Γ mX6_second 5 mc (20 * mc) Φ zNo k n w 293 [(0, .ref e), (1, .ref (A 8 2)), (2, .int (nI (nL D))), (3, .int (nI i)), (4, .ref (A 0 i)), (5, .ref (A 3 (othr X i))), (6, .int (X 0 - dL X i (6 + 2)))] [] := by
            intro hp
            refine go_aload 295 dX6_second_293 rfl ?_
            refine go_iconst 296 dX6_second_295 zc_1 ?_
            refine gl_pi h (othr_P (hV.same hX) (show i < nL X by rw [sm_nL hX]; omega)) rfl (by decide) 297 dX6_second_296 ?_
            refine go_if_eq 309 300 dX6_second_297 (fun h297 => ?_) (fun h297 => ?_)
            · refine go_iload 311 dX6_second_309 rfl ?_
              refine go_aload_n 312 dX6_second_311 rfl ?_
              refine gl_x h 315 dX6_second_312 fX6_16 rfl ?_
              refine go_icmp_lt 334 318 dX6_second_315 (fun h315 => ?_) (fun h315 => ?_)
              · refine go_iinc 337 dX6_second_334 rfl (by decide) zc_1 ?_
                refine go_goto 156 dX6_second_337 ?_
                rw [nI_1]
                exact go_locals _ rfl (ih (i + 1) w T V (s2Step i X) k n (by omega) (hX.trans sm_s2) (by rw [s2_k h172 o180 (fun q => absurd q.1 (by rw [h297]; decide)) h315]; exact h) fr (by rw [pot_s2]; exact hk) hn hDF)
              · exact go_locals _ rfl (K318 (Or.inr h315) hp)
            · refine go_iload 302 dX6_second_300 rfl ?_
              refine go_aload 304 dX6_second_302 rfl ?_
              refine go_iconst 305 dX6_second_304 zc_1 ?_
              refine gl_pi h (othr_P (hV.same hX) (show i < nL X by rw [sm_nL hX]; omega)) rfl (by decide) 306 dX6_second_305 ?_
              refine go_icmp_eq 318 309 dX6_second_306 (fun h306 => ?_) (fun h306 => ?_)
              · exact go_locals _ rfl (K318 (Or.inl (rpl_y hP0 h297 h306)) hp)
              · refine go_iload 311 dX6_second_309 rfl ?_
                refine go_aload_n 312 dX6_second_311 rfl ?_
                refine gl_x h 315 dX6_second_312 fX6_16 rfl ?_
                refine go_icmp_lt 334 318 dX6_second_315 (fun h315 => ?_) (fun h315 => ?_)
                · refine go_iinc 337 dX6_second_334 rfl (by decide) zc_1 ?_
                  refine go_goto 156 dX6_second_337 ?_
                  rw [nI_1]
                  exact go_locals _ rfl (ih (i + 1) w T V (s2Step i X) k n (by omega) (hX.trans sm_s2) (by rw [s2_k h172 o180 (fun q => h306 q.2) h315]; exact h) fr (by rw [pot_s2]; exact hk) hn hDF)
                · exact go_locals _ rfl (K318 (Or.inr h315) hp)
          refine go_aload 223 dX6_second_221 rfl ?_
          refine go_iconst 224 dX6_second_223 zc_1 ?_
          refine gl_pi h (othr_P (hV.same hX) (show i < nL X by rw [sm_nL hX]; omega)) rfl (by decide) 225 dX6_second_224 ?_
          refine go_if_eq 293 228 dX6_second_225 (fun h225 => ?_) (fun h225 => ?_)
          · exact go_locals _ rfl (K293 (fun q => absurd q.1.1 (by rw [h225]; decide)))
          · refine go_iload 230 dX6_second_228 rfl ?_
            refine go_aload 232 dX6_second_230 rfl ?_
            refine go_iconst 233 dX6_second_232 zc_1 ?_
            refine gl_pi h (othr_P (hV.same hX) (show i < nL X by rw [sm_nL hX]; omega)) rfl (by decide) 234 dX6_second_233 ?_
            refine go_icmp_ne 293 237 dX6_second_234 (fun h234 => ?_) (fun h234 => ?_)
            · exact go_locals _ rfl (K293 (fun q => h234 q.1.2))
            · refine go_aload 239 dX6_second_237 rfl ?_
              refine gl_l h (show i < nL X by rw [sm_nL hX]; omega) 242 dX6_second_239 fX6_87 (lFs6 o180) ?_
              refine go_iconst 243 dX6_second_242 zc_1 ?_
              refine gl_oi h (show i < nL X by rw [sm_nL hX]; omega) o180 rfl (by decide) 244 dX6_second_243 ?_
              refine go_aload 246 dX6_second_244 rfl ?_
              refine go_iconst 247 dX6_second_246 zc_2 ?_
              refine gl_pi h (othr_P (hV.same hX) (show i < nL X by rw [sm_nL hX]; omega)) rfl (by decide) 248 dX6_second_247 ?_
              refine go_icmp_gt 293 251 dX6_second_248 (fun h248 => ?_) (fun h248 => ?_)
              · exact go_locals _ rfl (K293 (fun q => absurd q.2 (Int32.not_le.mpr h248)))
              · refine go_aload 253 dX6_second_251 rfl ?_
                refine go_aload 255 dX6_second_253 rfl ?_
                refine gl_l h (show i < nL X by rw [sm_nL hX]; omega) 258 dX6_second_255 fX6_87 (lFs6 o180) ?_
                refine go_iconst 259 dX6_second_258 zc_1 ?_
                refine gl_oi h (show i < nL X by rw [sm_nL hX]; omega) o180 rfl (by decide) 260 dX6_second_259 ?_
                refine gl_lput h (hV.1.same hX) (show i < nL X by rw [sm_nL hX]; omega) fr (by decide) 263 dX6_second_260 pX6_81 (fun w_260 h_260 f_260 z_260 => ?_)
                refine go_aload 265 dX6_second_263 rfl ?_
                refine go_dup 266 dX6_second_265 rfl ?_
                refine gl_l h_260 (lt_sm (sm_setL (by decide) (by decide)) (show i < nL X by rw [sm_nL hX]; omega)) 269 dX6_second_266 fX6_84 rfl ?_
                refine go_iconst 270 dX6_second_269 zc_1 ?_
                refine go_iadd 271 dX6_second_270 ?_
                refine gl_lput h_260 ((hV.1.same hX).same (sm_setL (by decide) (by decide))) (lt_sm (sm_setL (by decide) (by decide)) (show i < nL X by rw [sm_nL hX]; omega)) f_260 (by decide) 274 dX6_second_271 pX6_84 (fun w_271 h_271 f_271 z_271 => ?_)
                refine go_aload 276 dX6_second_274 rfl ?_
                refine go_null 277 dX6_second_276 ?_
                refine gl_off0 h_271 ((hV.1.same hX).same ((sm_setL (by decide) (by decide)).trans (sm_setL (by decide) (by decide)))) (lt_sm ((sm_setL (by decide) (by decide)).trans (sm_setL (by decide) (by decide))) (show i < nL X by rw [sm_nL hX]; omega)) f_271 280 dX6_second_277 pX6_87 (fun w_277 h_277 f_277 z_277 => ?_)
                refine go_aload_n 281 dX6_second_280 rfl ?_
                refine gl_x h_277 284 dX6_second_281 fX6_37 rfl ?_
                refine go_iconst 285 dX6_second_284 zc_0 ?_
                refine go_dup2 286 dX6_second_285 rfl rfl ?_
                refine gl_ti h_277 rfl (by decide) 287 dX6_second_286 ?_
                refine go_iconst 288 dX6_second_287 zc_1 ?_
                refine go_iadd 289 dX6_second_288 ?_
                refine gl_tot h_277 ((hV.1.same hX).same (((sm_setL (by decide) (by decide)).trans (sm_setL (by decide) (by decide))).trans (sm_setL (by decide) (by decide)))) f_277 rfl (by decide) rfl 290 dX6_second_289 (fun w_289 h_289 f_289 z_289 => ?_)
                refine go_goto 334 dX6_second_290 ?_
                refine go_iinc 337 dX6_second_334 rfl (by decide) zc_1 ?_
                refine go_goto 156 dX6_second_337 ?_
                rw [nI_1]
                exact go_locals _ rfl (ih (i + 1) w_289 T V (s2Step i X) k n (by omega) (hX.trans sm_s2) (by rw [s2_a h172 o180 (rpl_y hP0 h225 h234) (Int32.not_lt.mp h248), ← show dL (setL X i 4 (dL X i 7)) i 5 = dL X i 5 from dL_setLn (by omega)]; exact h_289) f_289 (by rw [pot_s2]; exact hk) hn hDF)
        · have o180 := ofO_n n180
          refine go_goto 334 dX6_second_183 ?_
          refine go_iinc 337 dX6_second_334 rfl (by decide) zc_1 ?_
          refine go_goto 156 dX6_second_337 ?_
          rw [nI_1]
          exact go_locals _ rfl (ih (i + 1) w T V (s2Step i X) k n (by omega) (hX.trans sm_s2) (by rw [s2_o o180]; exact h) fr (by rw [pot_s2]; exact hk) hn hDF)

set_option maxRecDepth 100000 in
set_option maxHeartbeats 4000000 in
theorem lq3_second {l : Launch} {Γ : ZG} {w0 : ZW} {T0 : LT} {sg : ZSg} {A : LA} {tm : Option Nat} {e : Nat} {D DF : ZD} (hV : Iv D) (hs : SegD sg D) (hP : JP D) {mc B : Nat} (hB : B ≤ mc + pot DF) {Φ : Option Value → ZW → Prop} (kx : ∀ (w : ZW) (T : LT) (V : LA) (k n : Nat), LX Γ w T 1 sg A V tm e DF → FR w0 T0 w T → k + pot DF ≤ B → n ≤ 20 * k → Go l Γ mX6_second 5 mc (20 * mc) Φ zNo k n w 435 [(0, .ref e)] []) : ∀ (f i : Nat) (w : ZW) (T : LT) (V : LA) (X : ZD) (k n : Nat), i + f = nL D → Same D X → LX Γ w T 1 sg A V tm e X → FR w0 T0 w T → k + pot X ≤ B → n ≤ 20 * k → itr s3Step i f X = DF → Go l Γ mX6_second 5 mc (20 * mc) Φ zNo k n w 350 [(0, .ref e), (1, .ref (A 8 2)), (2, .int (nI (nL D))), (3, .int (nI i))] [] := by
  have h40 := hV.1.2.2.1.2
  have h20 := hV.1.2.1.2
  intro f
  induction f with
  | zero =>
    intro i w T V X k n hi hX h fr hk hn hDF
    have hDF : X = DF := hDF
    refine go_iload_n 351 dX6_second_350 rfl ?_
    refine go_iload_n 352 dX6_second_351 rfl ?_
    refine go_icmp_ge 435 355 dX6_second_352 (fun h352 => ?_) (fun h352 => ?_)
    · exact go_locals _ rfl (kx w T V k n (by rw [← hDF]; exact h) fr (by rw [← hDF]; omega) hn)
    · exact (lpE rfl (by omega) h352).elim
  | succ f ih =>
    intro i w T V X k n hi hX h fr hk hn hDF
    have hp8 : pot DF ≤ pot X := by rw [← hDF]; exact pot_itr (D := D) (nL D) (fun k Y hk9 hY => ⟨sm_s3 (of20 hV hY hk9), pot_s3 (hV.same hY) ⟨sg, hs.same hY⟩ (by rw [sm_nL hY]; exact hk9)⟩) (f + 1) i X (by omega) hX
    refine go_iload_n 351 dX6_second_350 rfl ?_
    refine go_iload_n 352 dX6_second_351 rfl ?_
    refine go_icmp_ge 435 355 dX6_second_352 (fun h352 => ?_) (fun h352 => ?_)
    · exact (lpG rfl (by omega) (by omega) h352).elim
    · refine go_aload_n 356 dX6_second_355 rfl ?_
      refine go_iload_n 357 dX6_second_356 rfl ?_
      refine gl_la h (hV.1.same hX) rfl (show i < nL X by rw [sm_nL hX]; omega) 358 dX6_second_357 ?_
      refine go_astore 360 dX6_second_358 (by decide) ?_
      refine go_aload 362 dX6_second_360 rfl ?_
      refine gl_l h (show i < nL X by rw [sm_nL hX]; omega) 365 dX6_second_362 fX6_75 rfl ?_
      refine go_if_ne 429 368 dX6_second_365 (fun h365 => ?_) (fun h365 => ?_)
      · refine go_iinc 432 dX6_second_429 rfl (by decide) zc_1 ?_
        refine go_goto 350 dX6_second_432 ?_
        rw [nI_1]
        exact go_locals _ rfl (ih (i + 1) w T V (s3Step i X) k n (by omega) (hX.trans (sm_s3 (of20 hV hX (show i < nL D by omega)))) (by rw [s3_n0 h365]; exact h) fr (by rw [s3_n0 h365]; exact hk) hn hDF)
      · refine go_aload_n 369 dX6_second_368 rfl ?_
        refine gl_x h 372 dX6_second_369 fX6_21 rfl ?_
        refine go_aload 374 dX6_second_372 rfl ?_
        refine gl_l h (show i < nL X by rw [sm_nL hX]; omega) 377 dX6_second_374 fX6_72 rfl ?_
        refine gl_pa h (hV.1.same hX) ((hV.same hX).2.2.1 i (show i < nL X by rw [sm_nL hX]; omega)).1 ((hV.same hX).2.2.1 i (show i < nL X by rw [sm_nL hX]; omega)).2 378 dX6_second_377 ?_
        refine go_iconst 379 dX6_second_378 zc_0 ?_
        refine gl_pi h ((hV.same hX).2.2.1 i (show i < nL X by rw [sm_nL hX]; omega)).2 rfl (by decide) 380 dX6_second_379 ?_
        refine go_if_eq 429 383 dX6_second_380 (fun h380 => ?_) (fun h380 => ?_)
        · refine go_iinc 432 dX6_second_429 rfl (by decide) zc_1 ?_
          refine go_goto 350 dX6_second_432 ?_
          rw [nI_1]
          exact go_locals _ rfl (ih (i + 1) w T V (s3Step i X) k n (by omega) (hX.trans (sm_s3 (of20 hV hX (show i < nL D by omega)))) (by rw [s3_n (fun q => absurd q.1 (by rw [h380]; decide))]; exact h) fr (by rw [s3_n (fun q => absurd q.1 (by rw [h380]; decide))]; exact hk) hn hDF)
        · refine go_aload_n 384 dX6_second_383 rfl ?_
          refine gl_x h 387 dX6_second_384 fX6_41 rfl ?_
          refine go_aload 389 dX6_second_387 rfl ?_
          refine gl_l h (show i < nL X by rw [sm_nL hX]; omega) 392 dX6_second_389 fX6_64 rfl ?_
          refine gl_t h ((hV.1.same hX).2.2.2 i (show i < nL X by rw [sm_nL hX]; omega)).2 395 dX6_second_392 fX6_56 rfl ?_
          refine go_isub 396 dX6_second_395 ?_
          refine go_aload_n 397 dX6_second_396 rfl ?_
          refine gl_x h 400 dX6_second_397 fX6_21 rfl ?_
          refine go_aload 402 dX6_second_400 rfl ?_
          refine gl_l h (show i < nL X by rw [sm_nL hX]; omega) 405 dX6_second_402 fX6_72 rfl ?_
          refine gl_pa h (hV.1.same hX) ((hV.same hX).2.2.1 i (show i < nL X by rw [sm_nL hX]; omega)).1 ((hV.same hX).2.2.1 i (show i < nL X by rw [sm_nL hX]; omega)).2 406 dX6_second_405 ?_
          refine go_iconst 407 dX6_second_406 zc_0 ?_
          refine gl_pi h ((hV.same hX).2.2.1 i (show i < nL X by rw [sm_nL hX]; omega)).2 rfl (by decide) 408 dX6_second_407 ?_
          refine go_icmp_ne 429 411 dX6_second_408 (fun h408 => ?_) (fun h408 => ?_)
          · refine go_iinc 432 dX6_second_429 rfl (by decide) zc_1 ?_
            refine go_goto 350 dX6_second_432 ?_
            rw [nI_1]
            exact go_locals _ rfl (ih (i + 1) w T V (s3Step i X) k n (by omega) (hX.trans (sm_s3 (of20 hV hX (show i < nL D by omega)))) (by rw [s3_n (fun q => h408 q.2.1)]; exact h) fr (by rw [s3_n (fun q => h408 q.2.1)]; exact hk) hn hDF)
          · refine go_aload_n 412 dX6_second_411 rfl ?_
            refine go_aload 414 dX6_second_412 rfl ?_
            refine gl_l h (show i < nL X by rw [sm_nL hX]; omega) 417 dX6_second_414 fX6_72 rfl ?_
            refine gcV1 420 dX6_second_417 vX6_149 h.x.1 rfl (cl_isEngaged h (hV.1.same hX) (hs.same hX)) ?_
            refine go_if_ne 429 423 dX6_second_420 (fun h420 => ?_) (fun h420 => ?_)
            · refine go_iinc 432 dX6_second_429 rfl (by decide) zc_1 ?_
              refine go_goto 350 dX6_second_432 ?_
              rw [nI_1]
              exact go_locals _ rfl (ih (i + 1) w T V (s3Step i X) k n (by omega) (hX.trans (sm_s3 (of20 hV hX (show i < nL D by omega)))) (by rw [s3_n (fun q => q.2.2 (zb_1 h420))]; exact h) fr (by rw [s3_n (fun q => q.2.2 (zb_1 h420))]; exact hk) hn hDF)
            · have hp9 := pot_ans (hV.same hX) ⟨sg, hs.same hX⟩ (show i < nL X by rw [sm_nL hX]; omega) h365
              have hp0 : 0 < dP X (ceN X i) 0 := Int32.lt_of_le_of_ne (by rw [show dP X (ceN X i) 0 = dP D (ceN X i) 0 from hX.P (by have := ((hV.same hX).2.2.1 i (show i < nL X by rw [sm_nL hX]; omega)).2; have := (hV.same hX).1.1.2; omega) (by decide)]; exact hP (ceN X i) 0 (by have := ((hV.same hX).2.2.1 i (show i < nL X by rw [sm_nL hX]; omega)).2; rw [sm_nP hX] at this; exact this) (by decide)) (fun q => h380 q.symm)
              have e9 : s3Step i X = ansD X i := s3_y h365 ⟨hp0, h408, zb_0 h420⟩
              have hm9 : pot DF ≤ pot (ansD X i) := by
                rw [← hDF, show itr s3Step i (f + 1) X = itr s3Step (i + 1) f (ansD X i) from congrArg (fun Z => itr s3Step (i + 1) f Z) e9]
                exact pot_itr (D := D) (nL D) (fun k Y hk9 hY => ⟨sm_s3 (of20 hV hY hk9), pot_s3 (hV.same hY) ⟨sg, hs.same hY⟩ (by rw [sm_nL hY]; exact hk9)⟩) f (i + 1) _ (by omega) (hX.trans (sm_ans (of20 hV hX (show i < nL D by omega))))
              refine go_aload_n 424 dX6_second_423 rfl ?_
              refine go_aload 426 dX6_second_424 rfl ?_
              refine gl_call fr 429 [.ref (A 0 i)] dX6_second_426 vX6_157 h.x.1 rfl (cl_answers (mc := pot X - pot (ansD X i)) h (hV.same hX) (hs.same hX) (show i < nL X by rw [sm_nL hX]; omega) h365 (by omega)) (by decide) (by decide) (by omega) (by omega) (by exact Nat.le_of_ble_eq_true rfl) (fun w_426 T_426 V_426 h_426 f_426 g_426 => ?_)
              refine go_iinc 432 dX6_second_429 rfl (by decide) zc_1 ?_
              refine go_goto 350 dX6_second_432 ?_
              rw [nI_1]
              exact go_locals _ rfl (ih (i + 1) w_426 T_426 V_426 (s3Step i X) _ _ (by omega) (hX.trans (sm_s3 (of20 hV hX (show i < nL D by omega)))) (by rw [e9]; exact h_426) f_426 (by rw [e9]; omega) (by omega) hDF)

set_option maxRecDepth 100000 in
set_option maxHeartbeats 4000000 in
theorem lpS_second {l : Launch} {Γ : ZG} {w0 : ZW} {T0 : LT} {sg : ZSg} {A : LA} {tm : Option Nat} {e : Nat} {D DF : ZD} (hV : Iv D) (hs : SegD sg D) {c mc B : Nat} (hc : c < nC D) (hB : B ≤ mc + pot DF) {N q : Nat} {Φ : Option Value → ZW → Prop} (kx : ∀ (w : ZW) (T : LT) (V : LA) (k n : Nat), LX Γ w T 1 sg A V tm e DF → FR w0 T0 w T → k + pot DF ≤ B → n ≤ 20 * k → Go l Γ mX6_second 5 mc (20 * mc) Φ zNo k n w 534 [(0, .ref e), (1, .ref (A 8 1)), (2, .int (nI N)), (3, .int (nI q)), (4, .ref (A 1 c))] []) : ∀ (f i : Nat) (w : ZW) (T : LT) (V : LA) (X : ZD) (k n : Nat), i + f = (sg c).2 - (sg c).1 → Same D X → LX Γ w T 1 sg A V tm e X → FR w0 T0 w T → k + pot X ≤ B → n ≤ 20 * k → itr (erS 3) ((sg c).1 + i) f X = DF → Go l Γ mX6_second 5 mc (20 * mc) Φ zNo k n w 499 [(0, .ref e), (1, .ref (A 8 1)), (2, .int (nI N)), (3, .int (nI q)), (4, .ref (A 1 c)), (5, .ref (A 4 c)), (6, .int (nI ((sg c).2 - (sg c).1))), (7, .int (nI i))] [] := by
  have h40 := hV.1.2.2.1.2
  have hsc := hs c hc
  intro f
  induction f with
  | zero =>
    intro i w T V X k n hi hX h fr hk hn hDF
    have hDF : X = DF := hDF
    refine go_iload 501 dX6_second_499 rfl ?_
    refine go_iload 503 dX6_second_501 rfl ?_
    refine go_icmp_ge 534 506 dX6_second_503 (fun h503 => ?_) (fun h503 => ?_)
    · exact go_locals _ rfl (kx w T V k n (by rw [← hDF]; exact h) fr (by rw [← hDF]; exact hk) hn)
    · exact (lpE rfl (by omega) h503).elim
  | succ f ih =>
    intro i w T V X k n hi hX h fr hk hn hDF
    refine go_iload 501 dX6_second_499 rfl ?_
    refine go_iload 503 dX6_second_501 rfl ?_
    refine go_icmp_ge 534 506 dX6_second_503 (fun h503 => ?_) (fun h503 => ?_)
    · exact (lpG rfl (by omega) (by omega) h503).elim
    · refine go_aload 508 dX6_second_506 rfl ?_
      refine go_iload 510 dX6_second_508 rfl ?_
      refine gl_tl h (lt_smC hX hc) rfl (show i < (sg c).2 - (sg c).1 by omega) (by omega) 511 dX6_second_510 ?_
      refine go_astore 513 dX6_second_511 (by decide) ?_
      refine go_aload 515 dX6_second_513 rfl ?_
      refine gl_l h (show (sg c).1 + i < nL X by rw [sm_nL hX]; omega) 518 dX6_second_515 fX6_75 rfl ?_
      refine go_if_ne 528 521 dX6_second_518 (fun h518 => ?_) (fun h518 => ?_)
      · refine go_iinc 531 dX6_second_528 rfl (by decide) zc_1 ?_
        refine go_goto 499 dX6_second_531 ?_
        rw [nI_1]
        exact go_locals _ rfl (ih (i + 1) w T V X k n (by omega) hX h fr hk hn (by rw [← hDF]; exact congrArg (fun Z => itr (erS 3) ((sg c).1 + i + 1) f Z) (er_n h518).symm))
      · have hp9 := pot_end (D := X) (k := (sg c).1 + i) (r := 3) (show (sg c).1 + i < nL X by rw [sm_nL hX]; omega) (by rw [h518]; decide)
        have hm9 : pot DF ≤ pot (endD X ((sg c).1 + i) 3) := by
          rw [← hDF, show itr (erS 3) ((sg c).1 + i) (f + 1) X = itr (erS 3) ((sg c).1 + i + 1) f (endD X ((sg c).1 + i) 3) from congrArg (fun Z => itr (erS 3) ((sg c).1 + i + 1) f Z) (er_y h518)]
          exact pot_ers f ((sg c).1 + i + 1) _ (hX.trans sm_end_) (by omega)
        refine go_aload 523 dX6_second_521 rfl ?_
        refine go_iconst 524 dX6_second_523 zc_3 ?_
        refine go_iconst 525 dX6_second_524 zc_3 ?_
        refine gl_call fr 528 [.int 3, .int 3] dX6_second_525 vX6_120 (h.l (show (sg c).1 + i < nL X by rw [sm_nL hX]; omega)).1.1 rfl (cl_close h (hV.1.same hX) (show (sg c).1 + i < nL X by rw [sm_nL hX]; omega)) (by decide) (by decide) (by omega) (by omega) (by exact Nat.le_of_ble_eq_true rfl) (fun w_525 T_525 V_525 h_525 f_525 g_525 => ?_)
        refine go_iinc 531 dX6_second_528 rfl (by decide) zc_1 ?_
        refine go_goto 499 dX6_second_531 ?_
        rw [nI_1]
        exact go_locals _ rfl (ih (i + 1) w_525 T_525 V_525 (endD X ((sg c).1 + i) 3) (k + 1) (n + 2) (by omega) (hX.trans sm_end_) h_525 f_525 (by omega) (by omega) (by rw [← hDF]; exact congrArg (fun Z => itr (erS 3) ((sg c).1 + i + 1) f Z) (er_y h518).symm))

set_option maxRecDepth 100000 in
set_option maxHeartbeats 4000000 in
theorem lq4_second {l : Launch} {Γ : ZG} {w0 : ZW} {T0 : LT} {sg : ZSg} {A : LA} {tm : Option Nat} {e : Nat} {D DF : ZD} (hV : Iv D) (hs : SegD sg D) {mc B : Nat} (hB : B ≤ mc + pot DF) {Φ : Option Value → ZW → Prop} (kx : ∀ (w : ZW) (T : LT) (V : LA) (k n : Nat), LX Γ w T 1 sg A V tm e DF → FR w0 T0 w T → k + pot DF ≤ B → n ≤ 20 * k → Go l Γ mX6_second 5 mc (20 * mc) Φ zNo k n w 546 [(0, .ref e)] []) : ∀ (f i : Nat) (w : ZW) (T : LT) (V : LA) (X : ZD) (k n : Nat), i + f = nC D → Same D X → LX Γ w T 1 sg A V tm e X → FR w0 T0 w T → k + pot X ≤ B → n ≤ 20 * k → itr s4Step i f X = DF → Go l Γ mX6_second 5 mc (20 * mc) Φ zNo k n w 445 [(0, .ref e), (1, .ref (A 8 1)), (2, .int (nI (nC D))), (3, .int (nI i))] [] := by
  have h40 := hV.1.2.2.1.2
  have h20 := hV.1.2.1.2
  intro f
  induction f with
  | zero =>
    intro i w T V X k n hi hX h fr hk hn hDF
    have hDF : X = DF := hDF
    refine go_iload_n 446 dX6_second_445 rfl ?_
    refine go_iload_n 447 dX6_second_446 rfl ?_
    refine go_icmp_ge 546 450 dX6_second_447 (fun h447 => ?_) (fun h447 => ?_)
    · exact go_locals _ rfl (kx w T V k n (by rw [← hDF]; exact h) fr (by rw [← hDF]; omega) hn)
    · exact (lpE rfl (by omega) h447).elim
  | succ f ih =>
    intro i w T V X k n hi hX h fr hk hn hDF
    have hp8 : pot DF ≤ pot X := by rw [← hDF]; exact pot_itr (D := D) (nC D) (fun k Y hk9 hY => ⟨sm_s4, pot_s4 hs hV hY hk9⟩) (f + 1) i X (by omega) hX
    refine go_iload_n 446 dX6_second_445 rfl ?_
    refine go_iload_n 447 dX6_second_446 rfl ?_
    refine go_icmp_ge 546 450 dX6_second_447 (fun h447 => ?_) (fun h447 => ?_)
    · exact (lpG rfl (by omega) (by omega) h447).elim
    · refine go_aload_n 451 dX6_second_450 rfl ?_
      refine go_iload_n 452 dX6_second_451 rfl ?_
      refine gl_ca h (hV.1.same hX) rfl (show i < nC X by rw [sm_nC hX]; omega) 453 dX6_second_452 ?_
      refine go_astore 455 dX6_second_453 (by decide) ?_
      refine go_aload 457 dX6_second_455 rfl ?_
      refine gcV0 460 dX6_second_457 vX6_104 (h.c (show i < nC X by rw [sm_nC hX]; omega)).1 rfl (cl_rings h (hV.1.same hX) (hs.same hX) (show i < nC X by rw [sm_nC hX]; omega)) ?_
      refine go_if_eq 540 463 dX6_second_460 (fun h460 => ?_) (fun h460 => ?_)
      · refine go_iinc 543 dX6_second_540 rfl (by decide) zc_1 ?_
        refine go_goto 445 dX6_second_543 ?_
        rw [nI_1]
        exact go_locals _ rfl (ih (i + 1) w T V (s4Step i X) k n (by omega) (hX.trans sm_s4) (by rw [s4_n (fun q => zb_0 h460 q.1)]; exact h) fr (by rw [s4_n (fun q => zb_0 h460 q.1)]; exact hk) hn hDF)
      · refine go_aload_n 464 dX6_second_463 rfl ?_
        refine gl_x h 467 dX6_second_464 fX6_41 rfl ?_
        refine go_aload 469 dX6_second_467 rfl ?_
        refine gl_t h (show i < nC X by rw [sm_nC hX]; omega) 472 dX6_second_469 fX6_56 rfl ?_
        refine go_isub 473 dX6_second_472 ?_
        refine go_aload 475 dX6_second_473 rfl ?_
        refine gl_t h (show i < nC X by rw [sm_nC hX]; omega) 478 dX6_second_475 fX6_59 rfl ?_
        refine go_icmp_ge 484 481 dX6_second_478 (fun h478 => ?_) (fun h478 => ?_)
        · have hX4 : Same D (itr (erS 3) (sg i).1 ((sg i).2 - (sg i).1) X) := sm_itr (nL D) (fun _ _ _ _ => sm_er) _ _ _ (by have := hs i (by omega); omega) hX
          have e9 : s4Step i X = failD (itr (erS 3) (sg i).1 ((sg i).2 - (sg i).1) X) i := (s4_t hs hV hX (show i < nC D by omega) (zb_1 h460) (Int32.not_lt.mpr h478)).symm
          have hm9 : pot DF ≤ pot (itr (erS 3) (sg i).1 ((sg i).2 - (sg i).1) X) := by
            rw [← hDF, show itr s4Step i (f + 1) X = itr s4Step (i + 1) f (failD (itr (erS 3) (sg i).1 ((sg i).2 - (sg i).1) X) i) from congrArg (fun Z => itr s4Step (i + 1) f Z) e9]
            refine Nat.le_trans (pot_itr (D := D) (nC D) (fun k Y hk9 hY => ⟨sm_s4, pot_s4 hs hV hY hk9⟩) f (i + 1) _ (by omega) (hX4.trans sm_fail)) ?_
            rw [pot_fail]
            exact Nat.le_refl _
          have K534 : ∀ (w : ZW) (T : LT) (V : LA) (k n : Nat), LX Γ w T 1 sg A V tm e (itr (erS 3) (sg i).1 ((sg i).2 - (sg i).1) X) → FR w0 T0 w T → k + pot (itr (erS 3) (sg i).1 ((sg i).2 - (sg i).1) X) ≤ B → n ≤ 20 * k → Go l Γ mX6_second 5 mc (20 * mc) Φ zNo k n w 534 [(0, .ref e), (1, .ref (A 8 1)), (2, .int (nI (nC D))), (3, .int (nI i)), (4, .ref (A 1 i))] [] := by
            intro w T V k n h fr hk hn
            refine go_aload_n 535 dX6_second_534 rfl ?_
            refine go_aload 537 dX6_second_535 rfl ?_
            refine gl_call fr 540 [.ref (A 1 i)] dX6_second_537 vX6_124 h.x.1 rfl (cl_fails h (hV.same hX4) (lt_smC hX4 (show i < nC D by omega))) (by decide) (by decide) (by omega) (by omega) (by exact Nat.le_of_ble_eq_true rfl) (fun w_537 T_537 V_537 h_537 f_537 g_537 => ?_)
            refine go_iinc 543 dX6_second_540 rfl (by decide) zc_1 ?_
            refine go_goto 445 dX6_second_543 ?_
            rw [nI_1]
            exact go_locals _ rfl (ih (i + 1) w_537 T_537 V_537 (s4Step i X) _ _ (by omega) (hX.trans sm_s4) (by rw [e9]; exact h_537) f_537 (by rw [e9, pot_fail]; exact hk) hn hDF)
          refine go_aload 486 dX6_second_484 rfl ?_
          refine gl_t h (show i < nC X by rw [sm_nC hX]; omega) 489 dX6_second_486 fX6_62 rfl ?_
          refine go_astore 491 dX6_second_489 (by decide) ?_
          refine go_aload 493 dX6_second_491 rfl ?_
          refine gl_nS h (show i < nC X by rw [sm_nC hX]; omega) 494 dX6_second_493 ?_
          refine go_istore 496 dX6_second_494 (by decide) ?_
          refine go_iconst 497 dX6_second_496 zc_0 ?_
          refine go_istore 499 dX6_second_497 (by decide) ?_
          exact go_locals _ rfl (lpS_second hV hs (show i < nC D by omega) (by omega) K534 _ 0 w T V X k n (Nat.zero_add _) hX h fr hk hn rfl)
        · refine go_goto 540 dX6_second_481 ?_
          refine go_iinc 543 dX6_second_540 rfl (by decide) zc_1 ?_
          refine go_goto 445 dX6_second_543 ?_
          rw [nI_1]
          exact go_locals _ rfl (ih (i + 1) w T V (s4Step i X) k n (by omega) (hX.trans sm_s4) (by rw [s4_n (fun q => q.2 (Int32.not_le.mp h478))]; exact h) fr (by rw [s4_n (fun q => q.2 (Int32.not_le.mp h478))]; exact hk) hn hDF)

set_option maxRecDepth 100000 in
set_option maxHeartbeats 4000000 in
theorem cl_second {l : Launch} {Γ : ZG} {w : ZW} {T : LT} {sg : ZSg} {A V : LA} {tm : Option Nat} {e : Nat} {D : ZD} (h : LX Γ w T 1 sg A V tm e D) (hG : GI sg D) (htm : tmN D < 20000) {mc : Nat} (hm : 2 * nL D + pot D ≤ mc + pot (secD D)) : Ct l Γ mX6_second 5 mc (20 * mc) [.ref e] w (PvL Γ w T sg A tm e none (secD D)) zNo := by
  have hI := hG.iv.1
  obtain ⟨hG1, ht1⟩ := hG.sec0 htm
  generalize hD1 : upd D 0 (D 0 + 1) = D1 at hG1 ht1
  have hV := hG1.iv
  have hs := hG1.seg
  have hP := hG1.jp
  have p1 : pot D1 = pot D := by rw [← hD1]; exact pot_o sec0_nL (fun k => by rw [sec0_dL])
  have nL1 : nL D = nL D1 := by rw [← hD1]; exact sec0_nL.symm
  have nC1 : nC D = nC D1 := by rw [← hD1]; exact sec0_nC.symm
  have s1 : Same D1 (itr s1Step 0 (nL D1) D1) := sm_itr (nL D1) (fun _ _ _ _ => sm_s1) _ _ _ (by omega) sm_rf
  have s2 : Same D1 (itr s2Step 0 (nL D1) (itr s1Step 0 (nL D1) D1)) := sm_itr (D := D1) (nL D1) (fun _ _ _ _ => sm_s2) _ _ _ (by omega) s1
  have s3 : Same D1 (itr s3Step 0 (nL D1) (itr s2Step 0 (nL D1) (itr s1Step 0 (nL D1) D1))) := sm_itr (D := D1) (nL D1) (fun k X hk hX => sm_s3 (of20 hV hX hk)) _ _ _ (by omega) s2
  have e4 : itr s4Step 0 (nC D1) (itr s3Step 0 (nL D1) (itr s2Step 0 (nL D1) (itr s1Step 0 (nL D1) D1))) = secD D := by unfold secD; rw [hD1, nL1, nC1]
  have q4 : pot (secD D) ≤ pot (itr s3Step 0 (nL D1) (itr s2Step 0 (nL D1) (itr s1Step 0 (nL D1) D1))) := by
    rw [← e4]; exact pot_itr (D := D1) (nC D1) (fun k Y hk9 hY => ⟨sm_s4, pot_s4 hs hV hY hk9⟩) _ _ _ (by omega) s3
  have q3 : pot (itr s3Step 0 (nL D1) (itr s2Step 0 (nL D1) (itr s1Step 0 (nL D1) D1))) ≤ pot (itr s2Step 0 (nL D1) (itr s1Step 0 (nL D1) D1)) := pot_itr (D := D1) (nL D1) (fun k Y hk9 hY => ⟨sm_s3 (of20 hV hY hk9), pot_s3 (hV.same hY) ⟨sg, hs.same hY⟩ (by rw [sm_nL hY]; exact hk9)⟩) _ _ _ (by omega) s2
  have q2 : pot (itr s2Step 0 (nL D1) (itr s1Step 0 (nL D1) D1)) ≤ pot (itr s1Step 0 (nL D1) D1) := pot_itr (D := D1) (nL D1) (fun k Y _ _ => ⟨sm_s2, Nat.le_of_eq pot_s2⟩) _ _ _ (by omega) s1
  have K546 : ∀ (w' : ZW) (T' : LT) (V' : LA) (k n : Nat), LX Γ w' T' 1 sg A V' tm e (secD D) → FR w T w' T' → k + pot (secD D) ≤ mc + pot (secD D) → n ≤ 20 * k → Go l Γ mX6_second 5 mc (20 * mc) (PvL Γ w T sg A tm e none (secD D)) zNo k n w' 546 [(0, .ref e)] [] := by
    intro w T V k n h fr hk hn
    exact go_return dX6_second_546 rfl (by omega) (by omega) ⟨rfl, _, _, fr, h⟩
  have K435 : ∀ (w' : ZW) (T' : LT) (V' : LA) (k n : Nat), LX Γ w' T' 1 sg A V' tm e (itr s3Step 0 (nL D1) (itr s2Step 0 (nL D1) (itr s1Step 0 (nL D1) D1))) → FR w T w' T' → k + pot (itr s3Step 0 (nL D1) (itr s2Step 0 (nL D1) (itr s1Step 0 (nL D1) D1))) ≤ mc + pot (secD D) → n ≤ 20 * k → Go l Γ mX6_second 5 mc (20 * mc) (PvL Γ w T sg A tm e none (secD D)) zNo k n w' 435 [(0, .ref e)] [] := by
    intro w T V k n h fr hk hn
    have i9 := hV.1.same s3
    refine go_aload_n 436 dX6_second_435 rfl ?_
    refine gl_x h 439 dX6_second_436 fX6_27 rfl ?_
    refine go_astore_n 440 dX6_second_439 (by decide) ?_
    refine go_aload_n 441 dX6_second_440 rfl ?_
    refine gl_nC h 442 dX6_second_441 ?_
    refine go_istore_n 443 dX6_second_442 (by decide) ?_
    refine go_iconst 444 dX6_second_443 zc_0 ?_
    refine go_istore_n 445 dX6_second_444 (by decide) ?_
    exact go_locals _ (by rw [sm_nC s3]; rfl) (lq4_second hV hs (DF := secD D) (Nat.le_refl _) K546 _ 0 w T V _ k n (Nat.zero_add _) s3 h fr hk hn e4)
  have K340 : ∀ (w' : ZW) (T' : LT) (V' : LA) (k n : Nat), LX Γ w' T' 1 sg A V' tm e (itr s2Step 0 (nL D1) (itr s1Step 0 (nL D1) D1)) → FR w T w' T' → k + pot (itr s2Step 0 (nL D1) (itr s1Step 0 (nL D1) D1)) ≤ mc + pot (secD D) → n ≤ 20 * k → Go l Γ mX6_second 5 mc (20 * mc) (PvL Γ w T sg A tm e none (secD D)) zNo k n w' 340 [(0, .ref e)] [] := by
    intro w T V k n h fr hk hn
    have i9 := hV.1.same s2
    refine go_aload_n 341 dX6_second_340 rfl ?_
    refine gl_x h 344 dX6_second_341 fX6_33 rfl ?_
    refine go_astore_n 345 dX6_second_344 (by decide) ?_
    refine go_aload_n 346 dX6_second_345 rfl ?_
    refine gl_nL h 347 dX6_second_346 ?_
    refine go_istore_n 348 dX6_second_347 (by decide) ?_
    refine go_iconst 349 dX6_second_348 zc_0 ?_
    refine go_istore_n 350 dX6_second_349 (by decide) ?_
    exact go_locals _ (by rw [sm_nL s2]; rfl) (lq3_second hV hs hP (by omega) K435 _ 0 w T V _ k n (Nat.zero_add _) s2 h fr hk hn rfl)
  have K146 : ∀ (w' : ZW) (T' : LT) (V' : LA) (k n : Nat), LX Γ w' T' 1 sg A V' tm e (itr s1Step 0 (nL D1) D1) → FR w T w' T' → k + pot (itr s1Step 0 (nL D1) D1) ≤ mc + pot (secD D) → n ≤ 20 * k → Go l Γ mX6_second 5 mc (20 * mc) (PvL Γ w T sg A tm e none (secD D)) zNo k n w' 146 [(0, .ref e)] [] := by
    intro w T V k n h fr hk hn
    have i9 := hV.1.same s1
    refine go_aload_n 147 dX6_second_146 rfl ?_
    refine gl_x h 150 dX6_second_147 fX6_33 rfl ?_
    refine go_astore_n 151 dX6_second_150 (by decide) ?_
    refine go_aload_n 152 dX6_second_151 rfl ?_
    refine gl_nL h 153 dX6_second_152 ?_
    refine go_istore_n 154 dX6_second_153 (by decide) ?_
    refine go_iconst 155 dX6_second_154 zc_0 ?_
    refine go_istore_n 156 dX6_second_155 (by decide) ?_
    exact go_locals _ (by rw [sm_nL s1]; rfl) (lq2_second hV hP (by omega) K340 _ 0 w T V _ k n (Nat.zero_add _) s1 h fr hk hn rfl)
  refine Ct.of (by decide) rfl (Nat.le_of_ble_eq_true rfl) ?_
  refine go_aload_n 1 dX6_second_0 rfl ?_
  refine go_dup 2 dX6_second_1 rfl ?_
  refine gl_x h 5 dX6_second_2 fX6_41 rfl ?_
  refine go_iconst 6 dX6_second_5 zc_1 ?_
  refine go_iadd 7 dX6_second_6 ?_
  refine gl_time h hI FR.rf 10 dX6_second_7 pX6_41 (fun w_7 h_7 f_7 z_7 => ?_)
  rw [hD1] at h_7
  refine go_aload_n 11 dX6_second_10 rfl ?_
  refine gl_x h_7 14 dX6_second_11 fX6_33 rfl ?_
  refine go_astore_n 15 dX6_second_14 (by decide) ?_
  refine go_aload_n 16 dX6_second_15 rfl ?_
  refine gl_nL h_7 17 dX6_second_16 ?_
  refine go_istore_n 18 dX6_second_17 (by decide) ?_
  refine go_iconst 19 dX6_second_18 zc_0 ?_
  refine go_istore_n 20 dX6_second_19 (by decide) ?_
  exact go_locals _ rfl (lq1_second hV hG1.tne (by omega) K146 _ 0 w_7 T V D1 0 0 (Nat.zero_add _) sm_rf h_7 f_7 (by omega) (by omega) rfl)

end LSec
