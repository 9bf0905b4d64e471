section MBeg
theorem RC_newC {D : ZD} {cs : List Int32} {p : Int32} {c : Nat} {v : Int32} (h : RC D cs) (hc : c < 20 := by omega) : RC (setC (setC D c 0 p) c 1 v) cs := by
  have e : ∀ i, i < 9 ∨ 146 ≤ i → (setC (setC D c 0 p) c 1 v) i = D i := fun i hi => (if_neg (by omega)).trans (if_neg (by omega))
  refine ⟨(e 8 (by omega)).trans h.1, h.2.1, fun j hj => (e _ (by omega)).trans (h.2.2.1 j hj), h.2.2.2⟩
theorem newC_t {D : ZD} {c : Nat} {p v : Int32} : (setC (setC D c 0 p) c 1 v) 0 = D 0 := by
  unfold setC upd
  rw [if_neg (by omega), if_neg (by omega)]
set_option maxRecDepth 100000 in
set_option maxHeartbeats 4000000 in
theorem lp1_X6_beginCall {l : Launch} {Γ : ZG} {w : ZW} {o : Nat} {S : MS} {D : ZD} {Φ : Option Value → ZW → Prop} {p x rr y4 y5 : Int32} (kk : Go l Γ mX6_beginCall 8 0 0 Φ zNo 0 0 (wD Γ w o S D) 48 [(0, .ref o), (1, .int p), (2, .int x), (3, .int rr), (4, .int y4), (5, .int y5), (6, .int (nI (bN x 0 10))), (7, .int 0)] []) : ∀ (f k : Nat) (a : Int32), k + f = 10 → bcnt x k f a = nI (bN x 0 10) → Go l Γ mX6_beginCall 8 0 0 Φ zNo 0 0 (wD Γ w o S D) 24 [(0, .ref o), (1, .int p), (2, .int x), (3, .int rr), (4, .int y4), (5, .int y5), (6, .int a), (7, .int 0), (8, .int (nI k))] [] := by
  intro f
  induction f with
  | zero =>
    intro k a hif he
    refine go_iload 26 dX6_beginCall_24 rfl ?_
    refine go_bipush 28 dX6_beginCall_26 zb_10 ?_
    refine go_icmp_ge 48 31 dX6_beginCall_28 (fun h28 => ?_) (fun h28 => ?_)
    · have he2 : a = nI (bN x 0 10) := he
      subst he2
      exact go_locals _ rfl kk
    · exact (lpE (a := 10) (N := 10) rfl (by omega) h28).elim
  | succ f ih =>
    intro k a hif he
    refine go_iload 26 dX6_beginCall_24 rfl ?_
    refine go_bipush 28 dX6_beginCall_26 zb_10 ?_
    refine go_icmp_ge 48 31 dX6_beginCall_28 (fun h28 => ?_) (fun h28 => ?_)
    · exact (lpG (a := 10) (N := 10) rfl (by decide) (by omega) h28).elim
    · refine go_iload 33 dX6_beginCall_31 rfl ?_
      refine go_iload_n 34 dX6_beginCall_33 rfl ?_
      refine go_iload 36 dX6_beginCall_34 rfl ?_
      refine go_ishr 37 dX6_beginCall_36 ?_
      refine go_iconst 38 dX6_beginCall_37 zc_1 ?_
      refine go_iand 39 dX6_beginCall_38 ?_
      refine go_iadd 40 dX6_beginCall_39 ?_
      refine go_istore 42 dX6_beginCall_40 (by decide) ?_
      refine go_iinc 45 dX6_beginCall_42 rfl (by decide) zc_1 ?_
      refine go_goto 24 dX6_beginCall_45 ?_
      rw [nI_1]
      exact go_locals _ rfl (ih (k + 1) (a + bitOf x k) (by omega) he)

set_option maxRecDepth 100000 in
set_option maxHeartbeats 4000000 in
theorem lp2_X6_beginCall {l : Launch} {Γ : ZG} {w : ZW} {o c : Nat} {S : MS} {DF : ZD} {Φ : Option Value → ZW → Prop} {p x rr y5 : Int32} (kk : Go l Γ mX6_beginCall 8 0 0 Φ zNo 0 0 (wD Γ w o S DF) 163 [(0, .ref o), (1, .int p), (2, .int x), (3, .int rr), (4, .int (nI c)), (5, .int y5), (6, .int (nI (bN x 0 10))), (7, .int 0)] []) : ∀ (f k : Nat) (D' : ZD), k + f = 10 → Iv D' → c < nC D' → (∀ j, k ≤ j → j < k + f → bitOf x j = 1 → j < nP D') → nL D' + bN x k f ≤ 40 → itr (bStep x (nI c)) k f D' = DF → Go l Γ mX6_beginCall 8 0 0 Φ zNo 0 0 (wD Γ w o S D') 132 [(0, .ref o), (1, .int p), (2, .int x), (3, .int rr), (4, .int (nI c)), (5, .int y5), (6, .int (nI (bN x 0 10))), (7, .int 0), (8, .int (nI k))] [] := by
  intro f
  induction f with
  | zero =>
    intro k D' hif hI hc hb hL he
    refine go_iload 134 dX6_beginCall_132 rfl ?_
    refine go_bipush 136 dX6_beginCall_134 zb_10 ?_
    refine go_icmp_ge 163 139 dX6_beginCall_136 (fun h136 => ?_) (fun h136 => ?_)
    · have he2 : D' = DF := he
      subst he2
      exact go_locals _ rfl kk
    · exact (lpE (a := 10) (N := 10) rfl (by omega) h136).elim
  | succ f ih =>
    intro k D' hif hI hc hb hL he
    refine go_iload 134 dX6_beginCall_132 rfl ?_
    refine go_bipush 136 dX6_beginCall_134 zb_10 ?_
    refine go_icmp_ge 163 139 dX6_beginCall_136 (fun h136 => ?_) (fun h136 => ?_)
    · exact (lpG (a := 10) (N := 10) rfl (by decide) (by omega) h136).elim
    · refine go_iload_n 140 dX6_beginCall_139 rfl ?_
      refine go_iload 142 dX6_beginCall_140 rfl ?_
      refine go_ishr 143 dX6_beginCall_142 ?_
      refine go_iconst 144 dX6_beginCall_143 zc_1 ?_
      refine go_iand 145 dX6_beginCall_144 ?_
      refine go_iconst 146 dX6_beginCall_145 zc_1 ?_
      refine go_icmp_ne 157 149 dX6_beginCall_146 (fun h146 => ?_) (fun h146 => ?_)
      · refine go_iinc 160 dX6_beginCall_157 rfl (by decide) zc_1 ?_
        refine go_goto 132 dX6_beginCall_160 ?_
        rw [nI_1]
        have hL2 : nL D' + ((if bitOf x k = 1 then 1 else 0) + bN x (k + 1) f) ≤ 40 := hL
        first
          | exact go_locals _ rfl (ih (k + 1) (mkD D' (nI c) (nI k)) (by omega) m1 (by rw [m3]; exact hc) (fun j h1 h2 h3 => by rw [m4]; exact hb j (by omega) (by omega) h3) (by rw [m2]; rw [if_pos (show bitOf x k = 1 from h146)] at hL2; omega) (by rw [← e9]; exact he))
          | exact go_locals _ rfl (ih (k + 1) D' (by omega) hI hc (fun j h1 h2 h3 => hb j (by omega) (by omega) h3) (by rw [if_neg (show ¬ bitOf x k = 1 from h146)] at hL2; omega) (by rw [← show bStep x (nI c) k D' = D' from if_neg (show ¬ bitOf x k = 1 from h146)]; exact he))
      · have hlt : nL D' < 40 := by have hL2 : nL D' + ((if bitOf x k = 1 then 1 else 0) + bN x (k + 1) f) ≤ 40 := hL; rw [if_pos (show bitOf x k = 1 from h146)] at hL2; omega
        obtain ⟨m1, m2, m3, m4⟩ := mk_Iv (D := D') (c := c) (q := k) hI hlt hc (hb k (Nat.le_refl _) (by omega) h146)
        have e9 : bStep x (nI c) k D' = mkD D' (nI c) (nI k) := if_pos (show bitOf x k = 1 from h146)
        refine go_aload_n 150 dX6_beginCall_149 rfl ?_
        refine go_iload 152 dX6_beginCall_150 rfl ?_
        refine go_iload 154 dX6_beginCall_152 rfl ?_
        refine gdV2v 157 dX6_beginCall_154 vX6_241 (ct_X6_makeLeg hI.1 hlt) ?_
        refine go_iinc 160 dX6_beginCall_157 rfl (by decide) zc_1 ?_
        refine go_goto 132 dX6_beginCall_160 ?_
        rw [nI_1]
        have hL2 : nL D' + ((if bitOf x k = 1 then 1 else 0) + bN x (k + 1) f) ≤ 40 := hL
        first
          | exact go_locals _ rfl (ih (k + 1) (mkD D' (nI c) (nI k)) (by omega) m1 (by rw [m3]; exact hc) (fun j h1 h2 h3 => by rw [m4]; exact hb j (by omega) (by omega) h3) (by rw [m2]; rw [if_pos (show bitOf x k = 1 from h146)] at hL2; omega) (by rw [← e9]; exact he))
          | exact go_locals _ rfl (ih (k + 1) D' (by omega) hI hc (fun j h1 h2 h3 => hb j (by omega) (by omega) h3) (by rw [if_neg (show ¬ bitOf x k = 1 from h146)] at hL2; omega) (by rw [← show bStep x (nI c) k D' = D' from if_neg (show ¬ bitOf x k = 1 from h146)]; exact he))

set_option maxRecDepth 100000 in
set_option maxHeartbeats 4000000 in
theorem lp3_X6_beginCall {l : Launch} {Γ : ZG} {w : ZW} {o N : Nat} {S : MS} {D : ZD} {Φ : Option Value → ZW → Prop} {p x rr y4 y5 y6 e : Int32} (hN : D 6 = nI N) (hN40 : N ≤ 40) (kk : ∀ a : Int32, a = e → Go l Γ mX6_beginCall 8 0 0 Φ zNo 0 0 (wD Γ w o S D) 213 [(0, .ref o), (1, .int p), (2, .int x), (3, .int rr), (4, .int y4), (5, .int y5), (6, .int y6), (7, .int a)] []) : ∀ (f k : Nat) (a : Int32), k + f = N → zcnt (fun k => dL D k 2 = 0) k f a = e → Go l Γ mX6_beginCall 8 0 0 Φ zNo 0 0 (wD Γ w o S D) 175 [(0, .ref o), (1, .int p), (2, .int x), (3, .int rr), (4, .int y4), (5, .int y5), (6, .int y6), (7, .int a), (8, .int (nI k))] [] := by
  intro f
  induction f with
  | zero =>
    intro k a hif he
    refine go_iload 177 dX6_beginCall_175 rfl ?_
    refine go_aload_n 178 dX6_beginCall_177 rfl ?_
    refine gd_get 181 dX6_beginCall_178 fX6_17 rfl ?_
    refine go_bipush 183 dX6_beginCall_181 zb_6 ?_
    refine gd_iald 184 (6) dX6_beginCall_183 rfl (by decide) ?_
    refine go_icmp_ge 213 187 dX6_beginCall_184 (fun h184 => ?_) (fun h184 => ?_)
    · exact go_locals _ rfl (kk a he)
    · exact (lpE hN (by omega) h184).elim
  | succ f ih =>
    intro k a hif he
    refine go_iload 177 dX6_beginCall_175 rfl ?_
    refine go_aload_n 178 dX6_beginCall_177 rfl ?_
    refine gd_get 181 dX6_beginCall_178 fX6_17 rfl ?_
    refine go_bipush 183 dX6_beginCall_181 zb_6 ?_
    refine gd_iald 184 (6) dX6_beginCall_183 rfl (by decide) ?_
    refine go_icmp_ge 213 187 dX6_beginCall_184 (fun h184 => ?_) (fun h184 => ?_)
    · exact (lpG hN (by omega) (by omega) h184).elim
    · refine go_iload 189 dX6_beginCall_187 rfl ?_
      refine go_aload_n 190 dX6_beginCall_189 rfl ?_
      refine go_iload 192 dX6_beginCall_190 rfl ?_
      refine go_iconst 193 dX6_beginCall_192 zc_0 ?_
      refine gdV2 196 dX6_beginCall_193 vX6_180 (ct_X6_is rfl (by omega)) ?_
      refine go_if_eq 203 199 dX6_beginCall_196 (fun h196 => ?_) (fun h196 => ?_)
      · refine go_iconst 204 dX6_beginCall_203 zc_0 ?_
        refine go_iadd 205 dX6_beginCall_204 ?_
        refine go_istore 207 dX6_beginCall_205 (by decide) ?_
        refine go_iinc 210 dX6_beginCall_207 rfl (by decide) zc_1 ?_
        refine go_goto 175 dX6_beginCall_210 ?_
        rw [nI_1]
        first
          | (rw [show a + 1 = a + zb (dL D k 2 = 0) by rw [zb_t (zb_1 h196)]]; exact go_locals _ rfl (ih (k + 1) _ (by omega) he))
          | (rw [show a + 0 = a + zb (dL D k 2 = 0) by rw [zb_f (zb_0 h196)]]; exact go_locals _ rfl (ih (k + 1) _ (by omega) he))
      · refine go_iconst 200 dX6_beginCall_199 zc_1 ?_
        refine go_goto 204 dX6_beginCall_200 ?_
        refine go_iadd 205 dX6_beginCall_204 ?_
        refine go_istore 207 dX6_beginCall_205 (by decide) ?_
        refine go_iinc 210 dX6_beginCall_207 rfl (by decide) zc_1 ?_
        refine go_goto 175 dX6_beginCall_210 ?_
        rw [nI_1]
        first
          | (rw [show a + 1 = a + zb (dL D k 2 = 0) by rw [zb_t (zb_1 h196)]]; exact go_locals _ rfl (ih (k + 1) _ (by omega) he))
          | (rw [show a + 0 = a + zb (dL D k 2 = 0) by rw [zb_f (zb_0 h196)]]; exact go_locals _ rfl (ih (k + 1) _ (by omega) he))

set_option maxRecDepth 100000 in
set_option maxHeartbeats 4000000 in
theorem ct_X6_beginCall_a {l : Launch} {Γ : ZG} {w : ZW} {o : Nat} {S : MS} {D : ZD} {cs : List Int32} {q : Nat} {x : Int32} (hI : Iv D) (hC : nC D < 20) (hq : q < nP D) (hR : RC D cs) (hb : ∀ j, j < 10 → bitOf x j = 1 → j < nP D) (hL : nL D + bN x 0 10 ≤ 40) : Ct l Γ mX6_beginCall 8 0 0 [.ref o, .int (nI q), .int x, .int (-1)] (wD Γ w o S D) (fun v w2 => v = some (.int (begN D (nI q) x (ringV (nI (bN x 0 10)) (nI q) 0 (D 0) cs) (-1))) ∧ ∃ g, w2 = wD Γ w o (ml S g) (begD D (nI q) x (ringV (nI (bN x 0 10)) (nI q) 0 (D 0) cs) (-1))) zNo := by
  have hl40 : nL D ≤ 40 := hI.1.2.2.1.2
  obtain ⟨hn1, hn2, hn3, hn4⟩ := newC_Iv (rv := (ringV (nI (bN x 0 10)) (nI q) 0 (D 0) cs)) (ref := -1) hI hC hq (Or.inl rfl)
  refine Ct.of (by decide) rfl (Nat.le_of_ble_eq_true rfl) ?_
  refine go_aload_n 1 dX6_beginCall_0 rfl ?_
  refine gd_get 4 dX6_beginCall_1 fX6_17 rfl ?_
  refine go_iconst 5 dX6_beginCall_4 zc_5 ?_
  refine gd_iald 6 (5) dX6_beginCall_5 rfl (by decide) ?_
  rw [hI.1.2.1.1]
  refine go_istore 8 dX6_beginCall_6 (by decide) ?_
  refine go_iload 10 dX6_beginCall_8 rfl ?_
  refine gcS1 13 dX6_beginCall_10 vX6_165 (ct_X6_callAt rfl) ?_
  refine go_istore 15 dX6_beginCall_13 (by decide) ?_
  refine go_iconst 16 dX6_beginCall_15 zc_0 ?_
  refine go_istore 18 dX6_beginCall_16 (by decide) ?_
  refine go_iconst 19 dX6_beginCall_18 zc_0 ?_
  refine go_istore 21 dX6_beginCall_19 (by decide) ?_
  refine go_iconst 22 dX6_beginCall_21 zc_0 ?_
  refine go_istore 24 dX6_beginCall_22 (by decide) ?_
  refine go_locals [(0, .ref o), (1, .int (nI q)), (2, .int x), (3, .int (-1)), (4, .int (nI (nC D))), (5, .int (nI (46 + 5 * nC D))), (6, .int 0), (7, .int 0), (8, .int (nI 0))] rfl ?_
  refine lp1_X6_beginCall ?_ 10 0 0 (by omega) (by have := bcnt_eq (x := x) 10 0 0; rw [Nat.zero_add] at this; exact this)
  refine go_aload_n 49 dX6_beginCall_48 rfl ?_
  refine gd_get 52 dX6_beginCall_49 fX6_17 rfl ?_
  refine go_iload 54 dX6_beginCall_52 rfl ?_
  refine go_iconst 55 dX6_beginCall_54 zc_0 ?_
  refine go_iadd 56 dX6_beginCall_55 ?_
  refine go_iload_n 57 dX6_beginCall_56 rfl ?_
  refine gd_iast 58 (46 + 5 * nC D + 0) dX6_beginCall_57 (ix2 _ 0 _ rfl) (by omega) ?_
  refine go_aload_n 59 dX6_beginCall_58 rfl ?_
  refine gd_get 62 dX6_beginCall_59 fX6_17 rfl ?_
  refine go_iload 64 dX6_beginCall_62 rfl ?_
  refine go_iconst 65 dX6_beginCall_64 zc_1 ?_
  refine go_iadd 66 dX6_beginCall_65 ?_
  refine go_aload_n 67 dX6_beginCall_66 rfl ?_
  refine gd_get 70 dX6_beginCall_67 fX6_17 rfl ?_
  refine go_iconst 71 dX6_beginCall_70 zc_0 ?_
  refine gd_iald 72 (0) dX6_beginCall_71 rfl (by decide) ?_
  refine gd_iast 73 (46 + 5 * nC D + 1) dX6_beginCall_72 (ix2 _ 1 _ rfl) (by omega) ?_
  refine go_aload_n 74 dX6_beginCall_73 rfl ?_
  refine gd_get 77 dX6_beginCall_74 fX6_17 rfl ?_
  refine go_iload 79 dX6_beginCall_77 rfl ?_
  refine go_iconst 80 dX6_beginCall_79 zc_2 ?_
  refine go_iadd 81 dX6_beginCall_80 ?_
  refine go_aload_n 82 dX6_beginCall_81 rfl ?_
  refine go_iload 84 dX6_beginCall_82 rfl ?_
  refine go_iload_n 85 dX6_beginCall_84 rfl ?_
  refine go_iload_n 86 dX6_beginCall_85 rfl ?_
  refine go_iconst 87 dX6_beginCall_86 zc_m1 ?_
  refine go_icmp_ne 94 90 dX6_beginCall_87 (fun h87 => ?_) (fun h87 => ?_)
  · exact absurd h87 (by decide)
  · refine go_iconst 91 dX6_beginCall_90 zc_0 ?_
    refine go_goto 95 dX6_beginCall_91 ?_
    refine gdVE3 98 dX6_beginCall_95 vX6_237 (ct_X6_ringTime (D := setC (setC D (nC D) 0 (nI q)) (nC D) 1 ((setC D (nC D) 0 (nI q)) 0)) (cs := cs) (RC_newC hR)) (fun g95 => ?_)
    rw [newC_t]
    refine gd_iast 99 (46 + 5 * nC D + 2) dX6_beginCall_98 (ix2 _ 2 _ rfl) (by omega) ?_
    refine go_aload_n 100 dX6_beginCall_99 rfl ?_
    refine gd_get 103 dX6_beginCall_100 fX6_17 rfl ?_
    refine go_iload 105 dX6_beginCall_103 rfl ?_
    refine go_iconst 106 dX6_beginCall_105 zc_3 ?_
    refine go_iadd 107 dX6_beginCall_106 ?_
    refine go_iload_n 108 dX6_beginCall_107 rfl ?_
    refine gd_iast 109 (46 + 5 * nC D + 3) dX6_beginCall_108 (ix2 _ 3 _ rfl) (by omega) ?_
    refine go_aload_n 110 dX6_beginCall_109 rfl ?_
    refine gd_get 113 dX6_beginCall_110 fX6_17 rfl ?_
    refine go_iload 115 dX6_beginCall_113 rfl ?_
    refine go_iconst 116 dX6_beginCall_115 zc_4 ?_
    refine go_iadd 117 dX6_beginCall_116 ?_
    refine go_iconst 118 dX6_beginCall_117 zc_m1 ?_
    refine gd_iast 119 (46 + 5 * nC D + 4) dX6_beginCall_118 (ix2 _ 4 _ rfl) (by omega) ?_
    refine go_aload_n 120 dX6_beginCall_119 rfl ?_
    refine gd_get 123 dX6_beginCall_120 fX6_17 rfl ?_
    refine go_iconst 124 dX6_beginCall_123 zc_5 ?_
    refine go_dup2 125 dX6_beginCall_124 rfl rfl ?_
    refine gd_iald 126 (5) dX6_beginCall_125 rfl (by decide) ?_
    refine go_iconst 127 dX6_beginCall_126 zc_1 ?_
    refine go_iadd 128 dX6_beginCall_127 ?_
    refine gd_iast 129 (5) dX6_beginCall_128 rfl (by decide) ?_
    refine go_iconst 130 dX6_beginCall_129 zc_0 ?_
    refine go_istore 132 dX6_beginCall_130 (by decide) ?_
    have hB := bst_Iv (x := x) (c := nC D) 10 0 (newC D (nI q) (ringV (nI (bN x 0 10)) (nI q) 0 (D 0) cs) (-1)) hn1 (by omega) (fun j h1 h2 h3 => by rw [hn4]; exact hb j (by omega) h3) (by rw [hn2]; exact hL)
    have hN6 : begB D (nI q) x (ringV (nI (bN x 0 10)) (nI q) 0 (D 0) cs) (-1) 6 = nI (nL D + bN x 0 10) := by have h9 := hB.1.1.2.2.1.1; rw [hB.2.1, hn2] at h9; exact h9
    refine go_locals [(0, .ref o), (1, .int (nI q)), (2, .int x), (3, .int (-1)), (4, .int (nI (nC D))), (5, .int (nI (46 + 5 * nC D))), (6, .int (nI (bN x 0 10))), (7, .int 0), (8, .int (nI 0))] rfl ?_
    refine lp2_X6_beginCall (DF := begB D (nI q) x (ringV (nI (bN x 0 10)) (nI q) 0 (D 0) cs) (-1)) ?_ 10 0 (newC D (nI q) (ringV (nI (bN x 0 10)) (nI q) 0 (D 0) cs) (-1)) (by omega) hn1 (by omega) (fun j h1 h2 h3 => by rw [hn4]; exact hb j (by omega) h3) (by rw [hn2]; exact hL) (by unfold begB; exact rfl)
    refine go_aload_n 164 dX6_beginCall_163 rfl ?_
    refine gd_get 167 dX6_beginCall_164 fX6_17 rfl ?_
    refine go_bipush 169 dX6_beginCall_167 zb_6 ?_
    refine gd_iald 170 (6) dX6_beginCall_169 rfl (by decide) ?_
    refine go_iload 172 dX6_beginCall_170 rfl ?_
    refine go_isub 173 dX6_beginCall_172 ?_
    refine go_istore 175 dX6_beginCall_173 (by decide) ?_
    rw [show begB D (nI q) x (ringV (nI (bN x 0 10)) (nI q) 0 (D 0) cs) (-1) 6 = nI (nL D + bN x 0 10) from hN6, pk_sub (by omega), Nat.add_sub_cancel]
    refine go_locals [(0, .ref o), (1, .int (nI q)), (2, .int x), (3, .int (-1)), (4, .int (nI (nC D))), (5, .int (nI (46 + 5 * nC D))), (6, .int (nI (bN x 0 10))), (7, .int 0), (8, .int (nI (nL D)))] rfl ?_
    refine lp3_X6_beginCall (e := begN D (nI q) x (ringV (nI (bN x 0 10)) (nI q) 0 (D 0) cs) (-1)) hN6 (by omega) (fun a ha => ?_) (bN x 0 10) (nL D) 0 rfl (by unfold begN; exact rfl)
    refine go_iload 215 dX6_beginCall_213 rfl ?_
    refine go_if_ne 224 218 dX6_beginCall_215 (fun h215 => ?_) (fun h215 => ?_)
    · refine go_iload 226 dX6_beginCall_224 rfl ?_
      exact go_ireturn dX6_beginCall_226 rfl (by omega) (by omega) (⟨by rw [ha], g95, congrArg (wD Γ w o (ml S g95)) (by unfold begD; first | exact (if_neg (by rw [← ha]; exact h215)).symm | exact (if_pos (by rw [← ha]; first | exact h215 | exact Classical.not_not.mp h215)).symm)⟩)
    · refine go_aload_n 219 dX6_beginCall_218 rfl ?_
      refine go_iload 221 dX6_beginCall_219 rfl ?_
      refine gdV1v 224 dX6_beginCall_221 vX6_208 (ct_X6_failCall hB.1 rfl (by rw [hB.2.2]; omega)) ?_
      refine go_iload 226 dX6_beginCall_224 rfl ?_
      exact go_ireturn dX6_beginCall_226 rfl (by omega) (by omega) (⟨by rw [ha], g95, congrArg (wD Γ w o (ml S g95)) (by unfold begD; first | exact (if_neg (by rw [← ha]; exact h215)).symm | exact (if_pos (by rw [← ha]; first | exact h215 | exact Classical.not_not.mp h215)).symm)⟩)

set_option maxRecDepth 100000 in
set_option maxHeartbeats 4000000 in
theorem ct_X6_beginCall_b {l : Launch} {Γ : ZG} {w : ZW} {o : Nat} {S : MS} {D : ZD} {cs : List Int32} {q r : Nat} {x : Int32} (hI : Iv D) (hC : nC D < 20) (hq : q < nP D) (hr : r < nL D) (hR : RC D cs) (hb : ∀ j, j < 10 → bitOf x j = 1 → j < nP D) (hL : nL D + bN x 0 10 ≤ 40) : Ct l Γ mX6_beginCall 8 0 0 [.ref o, .int (nI q), .int x, .int (nI r)] (wD Γ w o S D) (fun v w2 => v = some (.int (begN D (nI q) x (ringV (nI (bN x 0 10)) (nI q) 1 (D 0) cs) (nI r))) ∧ ∃ g, w2 = wD Γ w o (ml S g) (begD D (nI q) x (ringV (nI (bN x 0 10)) (nI q) 1 (D 0) cs) (nI r))) zNo := by
  have hl40 : nL D ≤ 40 := hI.1.2.2.1.2
  obtain ⟨hn1, hn2, hn3, hn4⟩ := newC_Iv (rv := (ringV (nI (bN x 0 10)) (nI q) 1 (D 0) cs)) (ref := nI r) hI hC hq (Or.inr ⟨by unfold tN; rw [nI_clamp (by omega)], by unfold tN; rw [nI_clamp (by omega)]; exact hr⟩)
  refine Ct.of (by decide) rfl (Nat.le_of_ble_eq_true rfl) ?_
  refine go_aload_n 1 dX6_beginCall_0 rfl ?_
  refine gd_get 4 dX6_beginCall_1 fX6_17 rfl ?_
  refine go_iconst 5 dX6_beginCall_4 zc_5 ?_
  refine gd_iald 6 (5) dX6_beginCall_5 rfl (by decide) ?_
  rw [hI.1.2.1.1]
  refine go_istore 8 dX6_beginCall_6 (by decide) ?_
  refine go_iload 10 dX6_beginCall_8 rfl ?_
  refine gcS1 13 dX6_beginCall_10 vX6_165 (ct_X6_callAt rfl) ?_
  refine go_istore 15 dX6_beginCall_13 (by decide) ?_
  refine go_iconst 16 dX6_beginCall_15 zc_0 ?_
  refine go_istore 18 dX6_beginCall_16 (by decide) ?_
  refine go_iconst 19 dX6_beginCall_18 zc_0 ?_
  refine go_istore 21 dX6_beginCall_19 (by decide) ?_
  refine go_iconst 22 dX6_beginCall_21 zc_0 ?_
  refine go_istore 24 dX6_beginCall_22 (by decide) ?_
  refine go_locals [(0, .ref o), (1, .int (nI q)), (2, .int x), (3, .int (nI r)), (4, .int (nI (nC D))), (5, .int (nI (46 + 5 * nC D))), (6, .int 0), (7, .int 0), (8, .int (nI 0))] rfl ?_
  refine lp1_X6_beginCall ?_ 10 0 0 (by omega) (by have := bcnt_eq (x := x) 10 0 0; rw [Nat.zero_add] at this; exact this)
  refine go_aload_n 49 dX6_beginCall_48 rfl ?_
  refine gd_get 52 dX6_beginCall_49 fX6_17 rfl ?_
  refine go_iload 54 dX6_beginCall_52 rfl ?_
  refine go_iconst 55 dX6_beginCall_54 zc_0 ?_
  refine go_iadd 56 dX6_beginCall_55 ?_
  refine go_iload_n 57 dX6_beginCall_56 rfl ?_
  refine gd_iast 58 (46 + 5 * nC D + 0) dX6_beginCall_57 (ix2 _ 0 _ rfl) (by omega) ?_
  refine go_aload_n 59 dX6_beginCall_58 rfl ?_
  refine gd_get 62 dX6_beginCall_59 fX6_17 rfl ?_
  refine go_iload 64 dX6_beginCall_62 rfl ?_
  refine go_iconst 65 dX6_beginCall_64 zc_1 ?_
  refine go_iadd 66 dX6_beginCall_65 ?_
  refine go_aload_n 67 dX6_beginCall_66 rfl ?_
  refine gd_get 70 dX6_beginCall_67 fX6_17 rfl ?_
  refine go_iconst 71 dX6_beginCall_70 zc_0 ?_
  refine gd_iald 72 (0) dX6_beginCall_71 rfl (by decide) ?_
  refine gd_iast 73 (46 + 5 * nC D + 1) dX6_beginCall_72 (ix2 _ 1 _ rfl) (by omega) ?_
  refine go_aload_n 74 dX6_beginCall_73 rfl ?_
  refine gd_get 77 dX6_beginCall_74 fX6_17 rfl ?_
  refine go_iload 79 dX6_beginCall_77 rfl ?_
  refine go_iconst 80 dX6_beginCall_79 zc_2 ?_
  refine go_iadd 81 dX6_beginCall_80 ?_
  refine go_aload_n 82 dX6_beginCall_81 rfl ?_
  refine go_iload 84 dX6_beginCall_82 rfl ?_
  refine go_iload_n 85 dX6_beginCall_84 rfl ?_
  refine go_iload_n 86 dX6_beginCall_85 rfl ?_
  refine go_iconst 87 dX6_beginCall_86 zc_m1 ?_
  refine go_icmp_ne 94 90 dX6_beginCall_87 (fun h87 => ?_) (fun h87 => ?_)
  · refine go_iconst 95 dX6_beginCall_94 zc_1 ?_
    refine gdVE3 98 dX6_beginCall_95 vX6_237 (ct_X6_ringTime (D := setC (setC D (nC D) 0 (nI q)) (nC D) 1 ((setC D (nC D) 0 (nI q)) 0)) (cs := cs) (RC_newC hR)) (fun g95 => ?_)
    rw [newC_t]
    refine gd_iast 99 (46 + 5 * nC D + 2) dX6_beginCall_98 (ix2 _ 2 _ rfl) (by omega) ?_
    refine go_aload_n 100 dX6_beginCall_99 rfl ?_
    refine gd_get 103 dX6_beginCall_100 fX6_17 rfl ?_
    refine go_iload 105 dX6_beginCall_103 rfl ?_
    refine go_iconst 106 dX6_beginCall_105 zc_3 ?_
    refine go_iadd 107 dX6_beginCall_106 ?_
    refine go_iload_n 108 dX6_beginCall_107 rfl ?_
    refine gd_iast 109 (46 + 5 * nC D + 3) dX6_beginCall_108 (ix2 _ 3 _ rfl) (by omega) ?_
    refine go_aload_n 110 dX6_beginCall_109 rfl ?_
    refine gd_get 113 dX6_beginCall_110 fX6_17 rfl ?_
    refine go_iload 115 dX6_beginCall_113 rfl ?_
    refine go_iconst 116 dX6_beginCall_115 zc_4 ?_
    refine go_iadd 117 dX6_beginCall_116 ?_
    refine go_iconst 118 dX6_beginCall_117 zc_m1 ?_
    refine gd_iast 119 (46 + 5 * nC D + 4) dX6_beginCall_118 (ix2 _ 4 _ rfl) (by omega) ?_
    refine go_aload_n 120 dX6_beginCall_119 rfl ?_
    refine gd_get 123 dX6_beginCall_120 fX6_17 rfl ?_
    refine go_iconst 124 dX6_beginCall_123 zc_5 ?_
    refine go_dup2 125 dX6_beginCall_124 rfl rfl ?_
    refine gd_iald 126 (5) dX6_beginCall_125 rfl (by decide) ?_
    refine go_iconst 127 dX6_beginCall_126 zc_1 ?_
    refine go_iadd 128 dX6_beginCall_127 ?_
    refine gd_iast 129 (5) dX6_beginCall_128 rfl (by decide) ?_
    refine go_iconst 130 dX6_beginCall_129 zc_0 ?_
    refine go_istore 132 dX6_beginCall_130 (by decide) ?_
    have hB := bst_Iv (x := x) (c := nC D) 10 0 (newC D (nI q) (ringV (nI (bN x 0 10)) (nI q) 1 (D 0) cs) (nI r)) hn1 (by omega) (fun j h1 h2 h3 => by rw [hn4]; exact hb j (by omega) h3) (by rw [hn2]; exact hL)
    have hN6 : begB D (nI q) x (ringV (nI (bN x 0 10)) (nI q) 1 (D 0) cs) (nI r) 6 = nI (nL D + bN x 0 10) := by have h9 := hB.1.1.2.2.1.1; rw [hB.2.1, hn2] at h9; exact h9
    refine go_locals [(0, .ref o), (1, .int (nI q)), (2, .int x), (3, .int (nI r)), (4, .int (nI (nC D))), (5, .int (nI (46 + 5 * nC D))), (6, .int (nI (bN x 0 10))), (7, .int 0), (8, .int (nI 0))] rfl ?_
    refine lp2_X6_beginCall (DF := begB D (nI q) x (ringV (nI (bN x 0 10)) (nI q) 1 (D 0) cs) (nI r)) ?_ 10 0 (newC D (nI q) (ringV (nI (bN x 0 10)) (nI q) 1 (D 0) cs) (nI r)) (by omega) hn1 (by omega) (fun j h1 h2 h3 => by rw [hn4]; exact hb j (by omega) h3) (by rw [hn2]; exact hL) (by unfold begB; exact rfl)
    refine go_aload_n 164 dX6_beginCall_163 rfl ?_
    refine gd_get 167 dX6_beginCall_164 fX6_17 rfl ?_
    refine go_bipush 169 dX6_beginCall_167 zb_6 ?_
    refine gd_iald 170 (6) dX6_beginCall_169 rfl (by decide) ?_
    refine go_iload 172 dX6_beginCall_170 rfl ?_
    refine go_isub 173 dX6_beginCall_172 ?_
    refine go_istore 175 dX6_beginCall_173 (by decide) ?_
    rw [show begB D (nI q) x (ringV (nI (bN x 0 10)) (nI q) 1 (D 0) cs) (nI r) 6 = nI (nL D + bN x 0 10) from hN6, pk_sub (by omega), Nat.add_sub_cancel]
    refine go_locals [(0, .ref o), (1, .int (nI q)), (2, .int x), (3, .int (nI r)), (4, .int (nI (nC D))), (5, .int (nI (46 + 5 * nC D))), (6, .int (nI (bN x 0 10))), (7, .int 0), (8, .int (nI (nL D)))] rfl ?_
    refine lp3_X6_beginCall (e := begN D (nI q) x (ringV (nI (bN x 0 10)) (nI q) 1 (D 0) cs) (nI r)) hN6 (by omega) (fun a ha => ?_) (bN x 0 10) (nL D) 0 rfl (by unfold begN; exact rfl)
    refine go_iload 215 dX6_beginCall_213 rfl ?_
    refine go_if_ne 224 218 dX6_beginCall_215 (fun h215 => ?_) (fun h215 => ?_)
    · refine go_iload 226 dX6_beginCall_224 rfl ?_
      exact go_ireturn dX6_beginCall_226 rfl (by omega) (by omega) (⟨by rw [ha], g95, congrArg (wD Γ w o (ml S g95)) (by unfold begD; first | exact (if_neg (by rw [← ha]; exact h215)).symm | exact (if_pos (by rw [← ha]; first | exact h215 | exact Classical.not_not.mp h215)).symm)⟩)
    · refine go_aload_n 219 dX6_beginCall_218 rfl ?_
      refine go_iload 221 dX6_beginCall_219 rfl ?_
      refine gdV1v 224 dX6_beginCall_221 vX6_208 (ct_X6_failCall hB.1 rfl (by rw [hB.2.2]; omega)) ?_
      refine go_iload 226 dX6_beginCall_224 rfl ?_
      exact go_ireturn dX6_beginCall_226 rfl (by omega) (by omega) (⟨by rw [ha], g95, congrArg (wD Γ w o (ml S g95)) (by unfold begD; first | exact (if_neg (by rw [← ha]; exact h215)).symm | exact (if_pos (by rw [← ha]; first | exact h215 | exact Classical.not_not.mp h215)).symm)⟩)
  · exact absurd h87 (nI_nm1 (by omega))
end MBeg
