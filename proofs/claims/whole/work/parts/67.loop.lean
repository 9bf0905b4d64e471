section LLoop
/-! the law's loop -/
theorem sw_in {v : Int32} {j : Nat} (h : v = nI j) (hj : j < 1000) : v.toInt = (j : Int) := by rw [h, nI_toInt (by omega)]
set_option maxRecDepth 100000 in
set_option maxHeartbeats 4000000 in
theorem lp_law {l : Launch} {Γ : ZG} {P x o p : Nat} (hL : Γ.2.2.2.2.2.1 ≤ 3072) {Φ : Option Value → ZW → Prop} (hΦ : ∀ w, Φ (some (.int 1)) w) : ∀ (f t : Nat) (b : ZW) (C : CS) (S : MS) (D : ZD) (k n : Nat), LI Γ P b x C o S D p → t + f = 513 → k + 3 * f ≤ 601024 → n + 614 * f ≤ 7293034 →
    Go l Γ mLaw 1312 601024 7293034 Φ zNo k n (WL Γ b x C o S D) 23 [(0, .ref Γ.2.2.2.2.1), (1, .ref x), (2, .ref o), (3, .ref p), (4, .int (nI (6 * t)))] [] := by
  intro f
  induction f with
  | zero =>
    intro t b C S D k n h ht hk hn
    refine go_iload 25 dL_law_23 rfl ?_
    refine go_aload_n 26 dL_law_25 rfl ?_
    refine go_slen 27 dL_law_26 ?_
    refine go_bipush 29 dL_law_27 zb_6 ?_
    refine go_isub 30 dL_law_29 ?_
    refine go_icmp_gt 1288 33 dL_law_30 (fun h30 => ?_) (fun h30 => ?_)
    · refine go_iconst 1289 dL_law_1288 zc_1 ?_
      exact go_zreturn dL_law_1289 rfl (by omega) (by omega) (Or.inr rfl) (hΦ _)
    · exfalso
      refine h30 ?_
      rw [Int32.lt_iff_toInt_lt, nI_toInt (by omega)]
      have e : (Int32.ofNat Γ.2.2.2.2.2.1 - 6).toInt = (Γ.2.2.2.2.2.1 : Int) - 6 := by
        rw [Int32.toInt_sub, show (Int32.ofNat Γ.2.2.2.2.2.1).toInt = (Γ.2.2.2.2.2.1 : Int) from nI_toInt (n := Γ.2.2.2.2.2.1) (by omega), show (6 : Int32).toInt = 6 from rfl]
        exact Int.bmod_eq_of_le (by omega) (by omega)
      rw [e]
      omega
  | succ f ih =>
    intro t b C S D k n h ht hk hn
    have e : (Int32.ofNat Γ.2.2.2.2.2.1 - 6).toInt = (Γ.2.2.2.2.2.1 : Int) - 6 := by
      rw [Int32.toInt_sub, show (Int32.ofNat Γ.2.2.2.2.2.1).toInt = (Γ.2.2.2.2.2.1 : Int) from nI_toInt (n := Γ.2.2.2.2.2.1) (by omega), show (6 : Int32).toInt = 6 from rfl]
      exact Int.bmod_eq_of_le (by omega) (by omega)
    refine go_iload 25 dL_law_23 rfl ?_
    refine go_aload_n 26 dL_law_25 rfl ?_
    refine go_slen 27 dL_law_26 ?_
    refine go_bipush 29 dL_law_27 zb_6 ?_
    refine go_isub 30 dL_law_29 ?_
    refine go_icmp_gt 1288 33 dL_law_30 (fun h30 => ?_) (fun h30 => ?_)
    · refine go_iconst 1289 dL_law_1288 zc_1 ?_
      exact go_zreturn dL_law_1289 rfl (by omega) (by omega) (Or.inr rfl) (hΦ _)
    · have hle : 6 * t + 6 ≤ Γ.2.2.2.2.2.1 := by
        rw [Int32.lt_iff_toInt_lt, e, nI_toInt (by omega)] at h30
        omega
      have hin : ∀ q, q < 6 → vp_in (nI (6 * t) + nI q) Γ.2.2.2.2.2.1 := fun q hq => by
        rw [nI_add]
        exact vp_in_nI (by omega) (by omega)
      have hin0 : vp_in (nI (6 * t)) Γ.2.2.2.2.2.1 := vp_in_nI (by omega) (by omega)
      have K : ∀ (b' : ZW) (C' : CS) (S' : MS) (D' : ZD) (k' n' : Nat), LI Γ P b' x C' o S' D' p → k' ≤ k + 3 → n' ≤ n + 614 → Go l Γ mLaw 1312 601024 7293034 Φ zNo k' n' (WL Γ b' x C' o S' D') 1282 [(0, .ref Γ.2.2.2.2.1), (1, .ref x), (2, .ref o), (3, .ref p), (4, .int (nI (6 * t)))] [] := by
        intro b' C' S' D' k' n' h' hk' hn'
        refine go_iinc 1285 dL_law_1282 rfl (by decide) zc_6 ?_
        refine go_goto 23 dL_law_1285 ?_
        rw [show nI (6 * t) + 6 = nI (6 * (t + 1)) from (nI_add (6 * t) 6).trans (by rw [Nat.mul_add])]
        exact go_locals _ rfl (ih (t + 1) b' C' S' D' k' n' h' (by omega) (by omega) (by omega))
      refine go_aload_n 34 dL_law_33 rfl ?_
      refine go_iload 36 dL_law_34 rfl ?_
      refine go_sld 37 dL_law_36 hin0 ?_
      refine go_bipush 39 dL_law_37 zb_31 ?_
      refine go_iand 40 dL_law_39 ?_
      obtain ⟨j, hj, hv⟩ := pk_andE (Γ.2.2.2.2.2.2 (nI (6 * t)).toNatClampNeg) (m := 31) 5 rfl
      rw [hv]
      have hk3 : k + 3 ≤ 601024 := by omega
      have hn3 : n + 614 ≤ 7293034 := by omega
      have hi : (nI j).toInt = (j : Int) := nI_toInt (by omega)
      by_cases h20 : j ≤ 20
      · rcases (show j = 0 ∨ j = 1 ∨ j = 2 ∨ j = 3 ∨ j = 4 ∨ j = 5 ∨ j = 6 ∨ j = 7 ∨ j = 8 ∨ j = 9 ∨ j = 10 ∨ j = 11 ∨ j = 12 ∨ j = 13 ∨ j = 14 ∨ j = 15 ∨ j = 16 ∨ j = 17 ∨ j = 18 ∨ j = 19 ∨ j = 20 by omega) with rfl | rfl | rfl | rfl | rfl | rfl | rfl | rfl | rfl | rfl | rfl | rfl | rfl | rfl | rfl | rfl | rfl | rfl | rfl | rfl | rfl
        · exact go_tableIn 140 dL_law_40 (by decide) (by decide) rfl rfl (br_0 h hin hk3 hn3 K)
        · exact go_tableIn 213 dL_law_40 (by decide) (by decide) rfl rfl (br_1 h hin hk3 hn3 K)
        · exact go_tableIn 269 dL_law_40 (by decide) (by decide) rfl rfl (br_2 h hin hk3 hn3 K)
        · exact go_tableIn 282 dL_law_40 (by decide) (by decide) rfl rfl (br_3 h hin hk3 hn3 K)
        · exact go_tableIn 295 dL_law_40 (by decide) (by decide) rfl rfl (br_4 h hin hk3 hn3 K)
        · exact go_tableIn 351 dL_law_40 (by decide) (by decide) rfl rfl (br_5 h hin hk3 hn3 K)
        · exact go_tableIn 419 dL_law_40 (by decide) (by decide) rfl rfl (br_6 h hin hk3 hn3 K)
        · exact go_tableIn 487 dL_law_40 (by decide) (by decide) rfl rfl (br_7 h hin hk3 hn3 K)
        · exact go_tableIn 555 dL_law_40 (by decide) (by decide) rfl rfl (br_8 h hin hk3 hn3 K)
        · exact go_tableIn 623 dL_law_40 (by decide) (by decide) rfl rfl (br_9 h hin hk3 hn3 K)
        · exact go_tableIn 691 dL_law_40 (by decide) (by decide) rfl rfl (br_10 h hin hk3 hn3 K)
        · exact go_tableIn 747 dL_law_40 (by decide) (by decide) rfl rfl (br_11 h hin hk3 hn3 K)
        · exact go_tableIn 803 dL_law_40 (by decide) (by decide) rfl rfl (br_12 h hin hk3 hn3 K)
        · exact go_tableIn 859 dL_law_40 (by decide) (by decide) rfl rfl (br_13 h hin hk3 hn3 K)
        · exact go_tableIn 915 dL_law_40 (by decide) (by decide) rfl rfl (br_14 h hin hk3 hn3 K)
        · exact go_tableIn 983 dL_law_40 (by decide) (by decide) rfl rfl (br_15 h hin hk3 hn3 K)
        · exact go_tableIn 1051 dL_law_40 (by decide) (by decide) rfl rfl (br_16 h hin hk3 hn3 K)
        · exact go_tableIn 1107 dL_law_40 (by decide) (by decide) rfl rfl (br_17 h hin hk3 hn3 K)
        · exact go_tableIn 1175 dL_law_40 (by decide) (by decide) rfl rfl (br_18 h hin hk3 hn3 K)
        · exact go_tableIn 1255 dL_law_40 (by decide) (by decide) rfl rfl (br_19 h hin hk3 hn3 K)
        · exact go_tableIn 1268 dL_law_40 (by decide) (by decide) rfl rfl (br_20 h hin hk3 hn3 K)
      · refine go_tableOut 1282 dL_law_40 (Or.inr (by rw [hi]; omega)) rfl ?_
        exact K b C S D k n h (by omega) (by omega)
end LLoop
