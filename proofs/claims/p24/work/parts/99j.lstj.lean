section LStJ
/-! a step -/
set_option maxRecDepth 100000 in
set_option maxHeartbeats 4000000 in
theorem st_187 {l : Launch} {Γ : ZG} {Φ : Option Value → ZW → Prop} {x a e bf dn nn ii kM nM : Nat} {w : ZW} {T : LT} {C : CS} {D : ZD} {i u k n : Nat} (hnn : nn < 45) (hkM : kM + 130 ≤ 1036902) (hnM : nM + 800 ≤ 5990994) (KN : ∀ (w : ZW) (T : LT) (C : CS) (D : ZD) (i u dn k n : Nat), Bo Γ w T x a e C D → nP D ≤ 8 → tmN D ≤ 30 * nn + 30 → Hb Γ w T bf C i u dn → dn ≤ nn + 1 → k ≤ kM + 130 → n ≤ nM + 800 → Go l Γ mLaw 1312 1036902 5990994 Φ zNo k n w 187 [(0, .ref Γ.2.2.2.2.1), (1, .int 1), (2, .int (nI ii)), (3, .ref x), (5, .ref a), (6, .ref e), (7, .ref bf), (8, .int (nI dn)), (9, .int (nI (nn + 1)))] []) (hB : Bo Γ w T x a e C D) (hP : nP D ≤ 8) (ht : tmN D ≤ 30 * nn) (hH : Hb Γ w T bf C i u dn) (hd : dn ≤ nn) (hk : k + 2700 ≤ kM) (hn : n + 50500 ≤ nM) : Go l Γ mLaw 1312 1036902 5990994 Φ zNo k n w 187 [(0, .ref Γ.2.2.2.2.1), (1, .int 1), (2, .int (nI ii)), (3, .ref x), (5, .ref a), (6, .ref e), (7, .ref bf), (8, .int (nI dn)), (9, .int (nI nn))] [] := by
  obtain ⟨s, g, cs, sg, A, V, tm, cl, rn, rg, h, tr, hC, hG, hJ, hW, hz⟩ := id hB
  refine go_iload 189 dL_law_187 rfl ?_
  refine go_bipush 191 dL_law_189 zb_45 ?_
  refine go_icmp_ge 1158 194 dL_law_191 (fun z => absurd ((nI_leI (a := 45) (b := nn) (by decide) (by omega)).mp z) (by omega)) (fun _ => ?_)
  refine go_iload_n 195 dL_law_194 rfl ?_
  refine go_if_eq 1158 198 dL_law_195 (fun z => absurd z (by decide)) (fun _ => ?_)
  refine go_aload 200 dL_law_198 rfl ?_
  refine go_wf fun hw => go_callV 203 [] dL_law_200 vL_245 h.x.1 rfl (cl_copy h hw hG.iv hJ hG.1) (by decide) (by decide) (by omega) (by omega) (by exact Nat.le_of_ble_eq_true rfl) ?_
  rintro _ w0 ⟨y, T0, A0, V0, rfl, b0, l0, h0⟩
  have kq0 : Kq w T w0 T0 (fun _ => True) := Kq.old b0 hw
  have hB0 := hB.go kq0 b0.1
  have hH0 := hH.go kq0 trivial trivial
  have hF0 : Fy Γ w0 T0 (C.1 0) D y := ⟨g, sg, A0, V0, tm, hC, hG, hJ, h0⟩
  have hX0 := b0.lx hw h
  refine go_astore 205 dL_law_203 (by decide) ?_
  refine go_iconst 206 dL_law_205 zc_1 ?_
  refine go_istore 208 dL_law_206 (by decide) ?_
  refine go_ldc 210 dL_law_208 ciL_52 ?_
  refine go_istore 212 dL_law_210 (by decide) ?_
  refine go_aload 214 dL_law_212 rfl ?_
  refine gl_x hX0 217 dL_law_214 fL_122 rfl ?_
  refine gl_nP hX0 218 dL_law_217 ?_
  refine go_istore 220 dL_law_218 (by decide) ?_
  refine go_aload 222 dL_law_220 rfl ?_
  refine go_iload 224 dL_law_222 rfl ?_
  refine go_aload 226 dL_law_224 rfl ?_
  refine go_bipush 228 dL_law_226 zb_15 ?_
  refine gb_below (B := 15) hB0 231 dL_law_228 _ rfl (by decide) (by decide) (by omega) (by omega) (by exact Nat.le_of_ble_eq_true rfl) (fun w1 j1 hj1 hB1 kq1 el1 => ?_)
  have hH1 := hH0.go kq1 (by decide) (by decide)
  have hF1 := hF0.go kq1 (by decide)
  have K245 : ∀ B, 0 < B → B ≤ nP D + 1 → Go l Γ mLaw 1312 1036902 5990994 Φ zNo (k + 140) (n + 1500) w1 245 [(0, .ref Γ.2.2.2.2.1), (1, .int 1), (2, .int (nI ii)), (3, .ref x), (5, .ref a), (6, .ref e), (7, .ref bf), (8, .int (nI dn)), (9, .int (nI nn)), (10, .ref y), (12, .int (-2000000097)), (13, .int (nI (nP D)))] [.int (nI B), .ref a] := by
    intro B hBB hB9
    refine gb_below (B := B) hB1 248 dL_law_245 _ rfl hBB (by omega) (by omega) (by omega) (by exact Nat.le_of_ble_eq_true rfl) (fun w2 p hp hB2 kq2 el2 => ?_)
    have hH2 := hH1.go kq2 (by decide) (by decide)
    have hF2 := hF1.go kq2 (by decide)
    have K264 : ∀ (ip : Int32), ((ip = 1 ∧ p < nP D) ∨ (ip = 0 ∧ nP D ≤ p)) → Go l Γ mLaw 1312 1036902 5990994 Φ zNo (k + 140) (n + 1500) w2 264 [(0, .ref Γ.2.2.2.2.1), (1, .int 1), (2, .int (nI ii)), (3, .ref x), (5, .ref a), (6, .ref e), (7, .ref bf), (8, .int (nI dn)), (9, .int (nI nn)), (10, .ref y), (12, .int (-2000000097)), (13, .int (nI (nP D))), (14, .int (nI p)), (15, .int ip)] [] := by
      intro ip hip
      have KK := fun (w : ZW) (T : LT) (c : Int32) (k n : Nat) (hA : Aft Γ w T x a e bf y C D i u dn nn c) (h1 : k ≤ kM) (h2 : n ≤ nM) => st_1092 (l := l) (Φ := Φ) (ii := ii) hkM hnM KN hd hA h1 h2
      refine go_aload 266 dL_law_264 rfl ?_
      refine go_bipush 268 dL_law_266 zb_10 ?_
      refine gb_below (B := 10) hB2 271 dL_law_268 _ rfl (by decide) (by decide) (by omega) (by omega) (by exact Nat.le_of_ble_eq_true rfl) (fun w3 sw hsw hB3 kq3 el3 => ?_)
      have hH3 := hH2.go kq3 (by decide) (by decide)
      have hF3 := hF2.go kq3 (by decide)
      rcases (show sw = 0 ∨ sw = 1 ∨ sw = 2 ∨ sw = 3 ∨ sw = 4 ∨ sw = 5 ∨ sw = 6 ∨ sw = 7 ∨ sw = 8 ∨ sw = 9 by omega) with rfl | rfl | rfl | rfl | rfl | rfl | rfl | rfl | rfl | rfl
      · refine go_tableIn 312 dL_law_271 (by decide) (by decide) rfl rfl ?_
        exact go_locals _ rfl (br_dial hB3 hH3 hF3 hP ht (by omega) (by omega) hip (by omega) (by omega) (by omega) (by omega) KK)
      · refine go_tableIn 312 dL_law_271 (by decide) (by decide) rfl rfl ?_
        exact go_locals _ rfl (br_dial hB3 hH3 hF3 hP ht (by omega) (by omega) hip (by omega) (by omega) (by omega) (by omega) KK)
      · refine go_tableIn 312 dL_law_271 (by decide) (by decide) rfl rfl ?_
        exact go_locals _ rfl (br_dial hB3 hH3 hF3 hP ht (by omega) (by omega) hip (by omega) (by omega) (by omega) (by omega) KK)
      · refine go_tableIn 500 dL_law_271 (by decide) (by decide) rfl rfl ?_
        exact go_locals _ rfl (br_tr hB3 hH3 hF3 hP ht (by omega) (by omega) hip (by omega) (by omega) (by omega) (by omega) KK)
      · refine go_tableIn 699 dL_law_271 (by decide) (by decide) rfl rfl ?_
        exact go_locals _ rfl (br_hang hB3 hH3 hF3 hP ht (by omega) (by omega) hip (by omega) (by omega) (by omega) (by omega) KK)
      · refine go_tableIn 737 dL_law_271 (by decide) (by decide) rfl rfl ?_
        exact go_locals _ rfl (br_off hB3 hH3 hF3 hP ht (by omega) (by omega) hip (by omega) (by omega) (by omega) (by omega) KK)
      · refine go_tableIn 855 dL_law_271 (by decide) (by decide) rfl rfl ?_
        exact go_locals _ rfl (br_set hB3 hH3 hF3 hP ht (by omega) (by omega) hip (by omega) (by omega) (by omega) (by omega) KK)
      · refine go_tableOut 1006 dL_law_271 (Or.inr (by decide)) rfl ?_
        exact go_locals _ rfl (br_pass hB3 hH3 hF3 hP ht (by omega) (by omega) hip (by omega) (by omega) (by omega) (by omega) KK)
      · refine go_tableOut 1006 dL_law_271 (Or.inr (by decide)) rfl ?_
        exact go_locals _ rfl (br_pass hB3 hH3 hF3 hP ht (by omega) (by omega) hip (by omega) (by omega) (by omega) (by omega) KK)
      · refine go_tableOut 1006 dL_law_271 (Or.inr (by decide)) rfl ?_
        exact go_locals _ rfl (br_pass hB3 hH3 hF3 hP ht (by omega) (by omega) hip (by omega) (by omega) (by omega) (by omega) KK)
    refine go_istore 250 dL_law_248 (by decide) ?_
    refine go_iload 252 dL_law_250 rfl ?_
    refine go_iload 254 dL_law_252 rfl ?_
    by_cases hp9 : p < nP D
    · refine go_icmp_ge 261 257 dL_law_254 (fun z => absurd ((nI_leI (by omega) (by omega)).mp z) (by omega)) (fun _ => ?_)
      refine go_iconst 258 dL_law_257 zc_1 ?_
      refine go_goto 262 dL_law_258 ?_
      refine go_istore 264 dL_law_262 (by decide) ?_
      exact go_locals _ rfl (K264 1 (Or.inl ⟨rfl, hp9⟩))
    · refine go_icmp_ge 261 257 dL_law_254 (fun _ => ?_) (fun z => absurd ((nI_leI (by omega) (by omega)).mpr (by omega)) z)
      refine go_iconst 262 dL_law_261 zc_0 ?_
      refine go_istore 264 dL_law_262 (by decide) ?_
      exact go_locals _ rfl (K264 0 (Or.inr ⟨rfl, by omega⟩))
  by_cases hj0 : j1 = 0
  · refine go_if_eq 239 234 dL_law_231 (fun _ => ?_) (fun z => absurd (show nI j1 = 0 by rw [hj0]; rfl) z)
    refine go_iconst 240 dL_law_239 zc_1 ?_
    refine go_goto 244 dL_law_240 ?_
    refine go_iadd 245 dL_law_244 ?_
    rw [show nI (nP D) + 1 = nI (nP D + 1) from nI_add _ 1]
    exact go_locals _ rfl (K245 (nP D + 1) (by omega) (Nat.le_refl _))
  · refine go_if_eq 239 234 dL_law_231 (fun z => absurd z (nI_ne0 (by omega) (by omega))) (fun _ => ?_)
    refine go_iload 236 dL_law_234 rfl ?_
    by_cases hn0 : nP D = 0
    · refine go_if_ne 243 239 dL_law_236 (fun z => absurd (show nI (nP D) = 0 by rw [hn0]; rfl) z) (fun _ => ?_)
      refine go_iconst 240 dL_law_239 zc_1 ?_
      refine go_goto 244 dL_law_240 ?_
      refine go_iadd 245 dL_law_244 ?_
      rw [show nI (nP D) + 1 = nI (nP D + 1) from nI_add _ 1]
      exact go_locals _ rfl (K245 (nP D + 1) (by omega) (Nat.le_refl _))
    · refine go_if_ne 243 239 dL_law_236 (fun _ => ?_) (fun z => absurd z (nI_ne0 (by omega) (by omega)))
      refine go_iconst 244 dL_law_243 zc_0 ?_
      refine go_iadd 245 dL_law_244 ?_
      rw [Int32.add_zero]
      exact go_locals _ rfl (K245 (nP D) (by omega) (by omega))
set_option maxRecDepth 100000 in
set_option maxHeartbeats 4000000 in
theorem lp_steps {l : Launch} {Γ : ZG} {Φ : Option Value → ZW → Prop} {x a e bf ii KB NB : Nat} (hKB : KB ≤ 1036902) (hNB : NB ≤ 5990994) (kk : ∀ (w : ZW) (T : LT) (C : CS) (D : ZD) (i u dn k n : Nat), Bo Γ w T x a e C D → Hb Γ w T bf C i u dn → dn ≤ 45 → k ≤ KB → n ≤ NB → Go l Γ mLaw 1312 1036902 5990994 Φ zNo k n w 1158 [(0, .ref Γ.2.2.2.2.1), (1, .int 1), (2, .int (nI ii)), (3, .ref x), (7, .ref bf), (8, .int (nI dn))] []) : ∀ (m nn : Nat), nn + m = 45 → ∀ (w : ZW) (T : LT) (C : CS) (D : ZD) (i u dn k n : Nat), Bo Γ w T x a e C D → nP D ≤ 8 → tmN D ≤ 30 * nn → Hb Γ w T bf C i u dn → dn ≤ nn → k + 2830 * m ≤ KB → n + 51300 * m ≤ NB → Go l Γ mLaw 1312 1036902 5990994 Φ zNo k n w 187 [(0, .ref Γ.2.2.2.2.1), (1, .int 1), (2, .int (nI ii)), (3, .ref x), (5, .ref a), (6, .ref e), (7, .ref bf), (8, .int (nI dn)), (9, .int (nI nn))] [] := by
  intro m
  induction m with
  | zero =>
    intro nn hm w T C D i u dn k n hB hP ht hH hd hk hn
    obtain rfl : nn = 45 := by omega
    refine go_iload 189 dL_law_187 rfl ?_
    refine go_bipush 191 dL_law_189 zb_45 ?_
    refine go_icmp_ge 1158 194 dL_law_191 (fun _ => ?_) (fun z => absurd (show (45 : Int32) ≤ nI 45 by decide) z)
    exact go_locals _ rfl (kk w T C D i u dn k n hB hH hd (by omega) (by omega))
  | succ m ih =>
    intro nn hm w T C D i u dn k n hB hP ht hH hd hk hn
    obtain ⟨kM, ekM⟩ : ∃ q, q = k + 2700 := ⟨_, rfl⟩
    obtain ⟨nM, enM⟩ : ∃ q, q = n + 50500 := ⟨_, rfl⟩
    have hnn : nn < 45 := by omega
    have h1 : kM + 130 ≤ 1036902 := by omega
    have h2 : nM + 800 ≤ 5990994 := by omega
    exact st_187 (kM := kM) (nM := nM) hnn h1 h2 (fun w T C D i u dn k' n' hB' hP' ht' hH' hd' hk' hn' => ih (nn + 1) (by omega) w T C D i u dn k' n' hB' hP' (by omega) hH' hd' (by omega) (by omega)) hB hP ht hH hd (Nat.le_of_eq ekM.symm) (Nat.le_of_eq enM.symm)
end LStJ
