section LSbn

theorem ng_i {y : Nat} (hy : y ≤ 100000) : (-nI y).toInt = -(y : Int) := by
  rw [← Int32.zero_sub, show (0 : Int32) = nI 0 from rfl, pk_sub_toInt (by omega) (by omega)]
  omega
theorem ng_lt {x c : Nat} (hx : x ≤ 100000) (hc : c ≤ 100000) : -nI c < -nI x ↔ x < c := by
  rw [Int32.lt_iff_toInt_lt, ng_i hx, ng_i hc]
  omega
theorem ng_div {x : Nat} (hx : x ≤ 9999) : -nI x / 100 = -nI (x / 100) := by
  apply Int32.toInt_inj.mp
  rw [Int32.toInt_div_of_ne_right _ _ (by decide), ng_i (by omega), ng_i (by omega), show (100 : Int32).toInt = 100 from by decide, Int.neg_tdiv]
  rfl
theorem ng_mod {x : Nat} (hx : x ≤ 9999) : -nI (x / 100) * 100 - -nI x = nI (x % 100) := by
  apply Int32.toInt_inj.mp
  have h1 : -nI (x / 100) * 100 = -nI (x / 100 * 100) := by rw [Int32.neg_mul, show (100 : Int32) = nI 100 from rfl, pk_mul]
  rw [h1, Int32.sub_eq_add_neg, Int32.neg_neg, Int32.add_comm, ← Int32.sub_eq_add_neg, pk_sub_toInt (by omega) (by omega), nI_toInt (by omega)]
  omega
theorem nI_dec {q : Nat} (h : 1 ≤ q) : nI q + -1 = nI (q - 1) := by
  rw [← Int32.sub_eq_add_neg, show (1 : Int32) = nI 1 from rfl, nI_sub h]
section
variable {l : Launch} {Γ : ZG} {M : ZM} {dp mc ms : Nat} {Φ : Option Value → ZW → Prop} {Ψ : String → ZW → Prop} {k n : Nat} {w : ZW} {pc : Nat} {L : ZL} {st : List Value}
theorem go_getDO {index : Nat} (pc' : Nat) (hd : decode M.2.1 pc = .ok (.getstatic index, 3)) (hl9 : Cond.fieldLink M.1.cls index "java/lang/Integer" "DigitOnes" "[B" ∈ zGood) (kk : Go l Γ M dp mc ms Φ Ψ k n w pc' L (.ref (Γ.2.2.2.1 "DigitOnes" 0) :: st)) (hp : pc + 3 = pc' := by rfl) : Go l Γ M dp mc ms Φ Ψ k n w pc L st := by
  subst hp
  exact fun p e s m args below meth c C H locs ls hl hH hS => va_gets C.1 C.2.1 C.stat.2.2.2.1.2.2.2.2.2.2.2.1 hS C.own (C.good hl9) (fun _ h => h) hd (kk p e s m args below meth c C H locs ls hl hH hS)
theorem go_getDT {index : Nat} (pc' : Nat) (hd : decode M.2.1 pc = .ok (.getstatic index, 3)) (hl9 : Cond.fieldLink M.1.cls index "java/lang/Integer" "DigitTens" "[B" ∈ zGood) (kk : Go l Γ M dp mc ms Φ Ψ k n w pc' L (.ref (Γ.2.2.2.1 "DigitTens" 0) :: st)) (hp : pc + 3 = pc' := by rfl) : Go l Γ M dp mc ms Φ Ψ k n w pc L st := by
  subst hp
  exact fun p e s m args below meth c C H locs ls hl hH hS => va_gets C.1 C.2.1 C.stat.2.2.2.1.2.2.2.2.2.2.2.2.2.1 hS C.own (C.good hl9) (fun _ h => h) hd (kk p e s m args below meth c C H locs ls hl hH hS)
theorem go_baldO {i : Nat} (pc' : Nat) (hd : decode M.2.1 pc = .ok (.baload, 1)) (hi : i < 100) (kk : Go l Γ M dp mc ms Φ Ψ k n w pc' L (.int (nI (48 + i % 10)) :: st)) (hp : pc + 1 = pc' := by rfl) : Go l Γ M dp mc ms Φ Ψ k n w pc L (.int (nI i) :: .ref (Γ.2.2.2.1 "DigitOnes" 0) :: st) := by
  subst hp
  exact fun p e s m args below meth c C H locs ls hl hH hS => va_tb C.1 C.2.1 C.stat.2.2.2.1.2.2.2.2.2.2.2.2.1 hS (vp_in_nI hi (by decide)) (by rw [nI_clamp (by omega)]) hd (kk p e s m args below meth c C H locs ls hl hH hS)
theorem go_baldT {i : Nat} (pc' : Nat) (hd : decode M.2.1 pc = .ok (.baload, 1)) (hi : i < 100) (kk : Go l Γ M dp mc ms Φ Ψ k n w pc' L (.int (nI (48 + i / 10)) :: st)) (hp : pc + 1 = pc' := by rfl) : Go l Γ M dp mc ms Φ Ψ k n w pc L (.int (nI i) :: .ref (Γ.2.2.2.1 "DigitTens" 0) :: st) := by
  subst hp
  exact fun p e s m args below meth c C H locs ls hl hH hS => va_tb C.1 C.2.1 C.stat.2.2.2.1.2.2.2.2.2.2.2.2.2.2 hS (vp_in_nI hi (by decide)) (by rw [nI_clamp (by omega)]) hd (kk p e s m args below meth c C H locs ls hl hH hS)
theorem nar_asc {c : Nat} (h : c < 128) : vp_nar .byte (nI c) = nI c := by
  have : ∀ c, c < 128 → vp_nar .byte (nI c) = nI c := by decide +kernel
  exact this c h
theorem go_bastA {a N i c : Nat} {f : Nat → Int32} (pc' : Nat) (hd : decode M.2.1 pc = .ok (.bastore, 1)) (hw : w.2 a = some (b5 Γ N f)) (hi : i < N) (hN : N < 2 ^ 31) (hc : c < 128) (kk : Go l Γ M dp mc ms Φ Ψ k n (wset w a (b5 Γ N (upd f i (nI c)))) pc' L st) (hp : pc + 1 = pc' := by rfl) : Go l Γ M dp mc ms Φ Ψ k n w pc L (.int (nI c) :: .int (nI i) :: .ref a :: st) := by
  refine go_bast pc' hd hw (vp_in_nI hi hN) ?_ hp
  rw [nar_asc hc, nI_clamp (by omega)]
  exact kk
end
def put2 (f : Nat → Int32) (p x : Nat) : Nat → Int32 := if x < 10 then upd f (p - 1) (nI (48 + x % 10)) else upd (upd f (p - 1) (nI (48 + x % 10))) (p - 2) (nI (48 + x / 10))

set_option maxRecDepth 100000 in
set_option maxHeartbeats 4000000 in
theorem gc_last {l : Launch} {Γ : ZG} {w : ZW} {Φ : Option Value → ZW → Prop} {a m p x : Nat} {f : Nat → Int32} (ha : w.2 a = some (b5 Γ m f)) (hm : m ≤ 200) (hx : x < 100) (hp : p ≤ m) (hp2 : (if x < 10 then 1 else 2) ≤ p) (kk : ∀ (w1 : ZW) (v : Int32), w1 = wset w a (b5 Γ m (put2 f p x)) → Go l Γ mJ6_getChars_ba4f3 2 0 0 Φ zNo 0 0 w1 104 [(5, .int v), (6, .int 0)] []) : Go l Γ mJ6_getChars_ba4f3 2 0 0 Φ zNo 0 0 w 72 [(0, .int (-nI x)), (2, .ref a), (5, .int (nI p)), (6, .int 0)] [] := by
  have hp1 : 1 ≤ p := by split at hp2 <;> omega
  refine go_aload_n 73 dJ6_getChars_ba4f3_72 rfl ?_
  refine go_iinc 76 dJ6_getChars_ba4f3_73 rfl (by decide) zc_m1 ?_
  rw [show nI (p) + -1 = nI (p - 1) from nI_dec (by omega)]
  refine go_iload 78 dJ6_getChars_ba4f3_76 rfl ?_
  refine go_getDO 81 dJ6_getChars_ba4f3_78 gJ6_83 ?_
  refine go_iload_n 82 dJ6_getChars_ba4f3_81 rfl ?_
  refine go_ineg 83 dJ6_getChars_ba4f3_82 ?_
  rw [Int32.neg_neg]
  refine go_baldO (i := x) 84 dJ6_getChars_ba4f3_83 hx ?_
  refine go_bastA (i := p - 1) 85 dJ6_getChars_ba4f3_84 ha (by omega) (by omega) (by omega) ?_
  refine go_iload_n 86 dJ6_getChars_ba4f3_85 rfl ?_
  refine go_bipush 88 dJ6_getChars_ba4f3_86 zb_m9 ?_
  refine go_icmp_ge 104 91 dJ6_getChars_ba4f3_88 (fun h88 => ?_) (fun h88 => ?_)
  · have h9 : x < 10 := by have := (ng_le (x := 9) (c := x) (by omega) (by omega)).mp h88; omega
    exact go_locals _ rfl (kk _ _ (by unfold put2; rw [if_pos h9]))
  · have h9 : ¬ x < 10 := fun z => h88 ((ng_le (x := 9) (c := x) (by omega) (by omega)).mpr (by omega))
    rw [if_neg h9] at hp2
    refine go_aload_n 92 dJ6_getChars_ba4f3_91 rfl ?_
    refine go_iinc 95 dJ6_getChars_ba4f3_92 rfl (by decide) zc_m1 ?_
    rw [show nI (p - 1) + -1 = nI (p - 1 - 1) from nI_dec (by omega)]
    refine go_iload 97 dJ6_getChars_ba4f3_95 rfl ?_
    refine go_getDT 100 dJ6_getChars_ba4f3_97 gJ6_87 ?_
    refine go_iload_n 101 dJ6_getChars_ba4f3_100 rfl ?_
    refine go_ineg 102 dJ6_getChars_ba4f3_101 ?_
    rw [Int32.neg_neg]
    refine go_baldT (i := x) 103 dJ6_getChars_ba4f3_102 hx ?_
    refine go_bastA (i := p - 1 - 1) 104 dJ6_getChars_ba4f3_103 wset_at (by omega) (by omega) (by omega) ?_
    rw [wset_wset]
    exact go_locals _ rfl (kk _ _ (by unfold put2; rw [if_neg h9]; rfl))

/-- a number's digits, put before place q -/
def putN (f : Nat → Int32) (q x : Nat) : Nat → Int32 := if x < 100 then put2 f q x else put2 (upd (upd f (q - 1) (nI (48 + x % 100 % 10))) (q - 2) (nI (48 + x % 100 / 10))) (q - 2) (x / 100)
theorem fit_upd {f : Nat → Int32} {i c : Nat} (h : sb_Fit f) (hc : c < 128) : sb_Fit (upd f i (nI c)) := sb_fitU h (fit_asc hc)
theorem fit_put2 {f : Nat → Int32} {p x : Nat} (h : sb_Fit f) (hx : x < 100) : sb_Fit (put2 f p x) := by
  unfold put2
  split
  · exact fit_upd h (by omega)
  · exact fit_upd (fit_upd h (by omega)) (by omega)
theorem fit_putN {f : Nat → Int32} {p x : Nat} (h : sb_Fit f) (hx : x ≤ 9999) : sb_Fit (putN f p x) := by
  unfold putN
  split
  · exact fit_put2 h (by omega)
  · exact fit_put2 (fit_upd (fit_upd h (by omega)) (by omega)) (by omega)
theorem putN_lo {f : Nat → Int32} {q x j : Nat} (hx : x ≤ 9999) (hq : (dec x).length ≤ q) (hj : j < q - (dec x).length) : putN f q x j = f j := by
  rw [dec_len] at hq hj
  unfold putN put2 upd
  split <;> split <;> (repeat' split at hq) <;> (repeat' split at hj) <;> (first | omega | (dsimp only; rw [if_neg (by omega)]; try rw [if_neg (by omega)]; try rw [if_neg (by omega)]; try rw [if_neg (by omega)]))
theorem putN_hi {f : Nat → Int32} {q x j : Nat} (hx : x ≤ 9999) (hq : (dec x).length ≤ q) (hj : j < (dec x).length) : putN f q x (q - (dec x).length + j) = nI ((dec x).getD j 0) := by
  have hl := dec_len (x := x)
  by_cases h1 : x < 10
  · rw [if_pos h1] at hl
    have hj0 : j = 0 := by omega
    subst hj0
    have hd : dec x = [48 + x] := if_pos h1
    rw [hl, hd] at *
    unfold putN put2 upd
    rw [if_pos (by omega), if_pos h1, if_pos (by omega)]
    show nI (48 + x % 10) = nI (48 + x)
    congr 1; omega
  · rw [if_neg h1] at hl
    by_cases h2 : x < 100
    · rw [if_pos h2] at hl
      have hd : dec x = [48 + x / 10, 48 + x % 10] := by unfold dec; rw [if_neg h1, if_pos h2]
      rw [hl] at hq hj ⊢
      rw [hd]
      unfold putN put2 upd
      rw [if_pos h2, if_neg h1]
      rcases (show j = 0 ∨ j = 1 by omega) with rfl | rfl
      · rw [if_pos (by omega)]; rfl
      · rw [if_neg (by omega), if_pos (by omega)]; rfl
    · rw [if_neg h2] at hl
      by_cases h3 : x < 1000
      · rw [if_pos h3] at hl
        have hd : dec x = [48 + x / 100, 48 + x / 10 % 10, 48 + x % 10] := by unfold dec; rw [if_neg h1, if_neg h2, if_pos h3]
        rw [hl] at hq hj ⊢
        rw [hd]
        unfold putN put2 upd
        rw [if_neg h2, if_pos (by omega)]
        rcases (show j = 0 ∨ j = 1 ∨ j = 2 by omega) with rfl | rfl | rfl
        · rw [if_pos (by omega)]; show nI (48 + x / 100 % 10) = nI (48 + x / 100); congr 1; omega
        · rw [if_neg (by omega), if_pos (by omega)]; show nI (48 + x % 100 / 10) = nI (48 + x / 10 % 10); congr 1; omega
        · rw [if_neg (by omega), if_neg (by omega), if_pos (by omega)]; show nI (48 + x % 100 % 10) = nI (48 + x % 10); congr 1; omega
      · rw [if_neg h3] at hl
        have hd : dec x = [48 + x / 1000, 48 + x / 100 % 10, 48 + x / 10 % 10, 48 + x % 10] := by unfold dec; rw [if_neg h1, if_neg h2, if_neg h3]
        rw [hl] at hq hj ⊢
        rw [hd]
        unfold putN put2 upd
        rw [if_neg h2, if_neg (by omega)]
        rcases (show j = 0 ∨ j = 1 ∨ j = 2 ∨ j = 3 by omega) with rfl | rfl | rfl | rfl
        · rw [if_pos (by omega)]; show nI (48 + x / 100 / 10) = nI (48 + x / 1000); congr 1; omega
        · rw [if_neg (by omega), if_pos (by omega)]; show nI (48 + x / 100 % 10) = nI (48 + x / 100 % 10); rfl
        · rw [if_neg (by omega), if_neg (by omega), if_pos (by omega)]; show nI (48 + x % 100 / 10) = nI (48 + x / 10 % 10); congr 1; omega
        · rw [if_neg (by omega), if_neg (by omega), if_neg (by omega), if_pos (by omega)]; show nI (48 + x % 100 % 10) = nI (48 + x % 10); congr 1; omega

set_option maxRecDepth 100000 in
set_option maxHeartbeats 4000000 in
theorem gc_22 {l : Launch} {Γ : ZG} {w : ZW} {Φ : Option Value → ZW → Prop} {a m p x : Nat} {f : Nat → Int32} (ha : w.2 a = some (b5 Γ m f)) (hm : m ≤ 200) (hx : x < 100) (hp : p ≤ m) (hp2 : (if x < 10 then 1 else 2) ≤ p) (kk : ∀ (w1 : ZW) (v : Int32), w1 = wset w a (b5 Γ m (put2 f p x)) → Go l Γ mJ6_getChars_ba4f3 2 0 0 Φ zNo 0 0 w1 104 [(5, .int v), (6, .int 0)] []) : Go l Γ mJ6_getChars_ba4f3 2 0 0 Φ zNo 0 0 w 22 [(0, .int (-nI x)), (2, .ref a), (5, .int (nI p)), (6, .int 0)] [] := by
  refine go_iload_n 23 dJ6_getChars_ba4f3_22 rfl ?_
  refine go_bipush 25 dJ6_getChars_ba4f3_23 zb_m100 ?_
  refine go_icmp_gt 72 28 dJ6_getChars_ba4f3_25 (fun h25 => ?_) (fun h25 => ?_)
  · exact go_locals _ rfl (gc_last ha hm hx hp hp2 kk)
  · exact absurd ((ng_lt (c := 100) (by omega) (by decide)).mpr hx) h25

set_option maxRecDepth 100000 in
set_option maxHeartbeats 4000000 in
theorem ct_J6_getChars {l : Launch} {Γ : ZG} {w : ZW} {a m q x : Nat} {f : Nat → Int32} (ha : w.2 a = some (b5 Γ m f)) (hm : m ≤ 200) (hx : x ≤ 9999) (hq : q ≤ m) (hq2 : (dec x).length ≤ q) : Ct l Γ mJ6_getChars_ba4f3 2 0 0 [.int (nI x), .int (nI q), .ref a] w (fun v w2 => (∃ z, v = some (.int z)) ∧ w2 = wset w a (b5 Γ m (putN f q x))) zNo := by
  rw [dec_len] at hq2
  have K22 : Go l Γ mJ6_getChars_ba4f3 2 0 0 (fun v w2 => (∃ z, v = some (.int z)) ∧ w2 = wset w a (b5 Γ m (putN f q x))) zNo 0 0 w 22 [(0, .int (-nI x)), (2, .ref a), (5, .int (nI q)), (6, .int 0)] [] := by
    refine go_iload_n 23 dJ6_getChars_ba4f3_22 rfl ?_
    refine go_bipush 25 dJ6_getChars_ba4f3_23 zb_m100 ?_
    refine go_icmp_gt 72 28 dJ6_getChars_ba4f3_25 (fun h25 => ?_) (fun h25 => ?_)
    · have h9 : x < 100 := (ng_lt (c := 100) (by omega) (by decide)).mp h25
      refine go_locals _ rfl (gc_last ha hm h9 hq (by rw [if_pos h9] at hq2; exact hq2) ?_)
      intro w1 v hw1
      refine go_iload 106 dJ6_getChars_ba4f3_104 rfl ?_
      refine go_if_eq 118 109 dJ6_getChars_ba4f3_106 (fun h106 => ?_) (fun h106 => ?_)
      · refine go_iload 120 dJ6_getChars_ba4f3_118 rfl ?_
        exact go_ireturn dJ6_getChars_ba4f3_120 rfl (by omega) (by omega) (⟨⟨_, rfl⟩, by rw [hw1]; unfold putN; rw [if_pos h9]⟩)
      · exact absurd h106 (by decide)
    · have h9 : ¬ x < 100 := fun z => h25 ((ng_lt (c := 100) (by omega) (by decide)).mpr z)
      have hq3 : 3 ≤ q := by split at hq2 <;> (try split at hq2) <;> (try split at hq2) <;> omega
      refine go_iload_n 29 dJ6_getChars_ba4f3_28 rfl ?_
      refine go_bipush 31 dJ6_getChars_ba4f3_29 zb_100 ?_
      refine go_idiv 32 dJ6_getChars_ba4f3_31 (by decide) ?_
      rw [ng_div hx]
      refine go_istore_n 33 dJ6_getChars_ba4f3_32 (by decide) ?_
      refine go_iload_n 34 dJ6_getChars_ba4f3_33 rfl ?_
      refine go_bipush 36 dJ6_getChars_ba4f3_34 zb_100 ?_
      refine go_imul 37 dJ6_getChars_ba4f3_36 ?_
      refine go_iload_n 38 dJ6_getChars_ba4f3_37 rfl ?_
      refine go_isub 39 dJ6_getChars_ba4f3_38 ?_
      rw [ng_mod hx]
      refine go_istore 41 dJ6_getChars_ba4f3_39 (by decide) ?_
      refine go_iload_n 42 dJ6_getChars_ba4f3_41 rfl ?_
      refine go_istore_n 43 dJ6_getChars_ba4f3_42 (by decide) ?_
      refine go_aload_n 44 dJ6_getChars_ba4f3_43 rfl ?_
      refine go_iinc 47 dJ6_getChars_ba4f3_44 rfl (by decide) zc_m1 ?_
      rw [show nI (q) + -1 = nI (q - 1) from nI_dec (by omega)]
      refine go_iload 49 dJ6_getChars_ba4f3_47 rfl ?_
      refine go_getDO 52 dJ6_getChars_ba4f3_49 gJ6_83 ?_
      refine go_iload 54 dJ6_getChars_ba4f3_52 rfl ?_
      refine go_baldO (i := x % 100) 55 dJ6_getChars_ba4f3_54 (by omega) ?_
      refine go_bastA (i := q - 1) 56 dJ6_getChars_ba4f3_55 ha (by omega) (by omega) (by omega) ?_
      refine go_aload_n 57 dJ6_getChars_ba4f3_56 rfl ?_
      refine go_iinc 60 dJ6_getChars_ba4f3_57 rfl (by decide) zc_m1 ?_
      rw [show nI (q - 1) + -1 = nI (q - 1 - 1) from nI_dec (by omega)]
      refine go_iload 62 dJ6_getChars_ba4f3_60 rfl ?_
      refine go_getDT 65 dJ6_getChars_ba4f3_62 gJ6_87 ?_
      refine go_iload 67 dJ6_getChars_ba4f3_65 rfl ?_
      refine go_baldT (i := x % 100) 68 dJ6_getChars_ba4f3_67 (by omega) ?_
      refine go_bastA (i := q - 1 - 1) 69 dJ6_getChars_ba4f3_68 wset_at (by omega) (by omega) (by omega) ?_
      rw [wset_wset]
      refine go_goto 22 dJ6_getChars_ba4f3_69 ?_
      refine go_locals _ rfl (gc_22 wset_at hm (show x / 100 < 100 by omega) (show q - 1 - 1 ≤ m by omega) (by (repeat' split at hq2) <;> split <;> omega) ?_)
      intro w1 v hw1
      refine go_iload 106 dJ6_getChars_ba4f3_104 rfl ?_
      refine go_if_eq 118 109 dJ6_getChars_ba4f3_106 (fun h106 => ?_) (fun h106 => ?_)
      · refine go_iload 120 dJ6_getChars_ba4f3_118 rfl ?_
        exact go_ireturn dJ6_getChars_ba4f3_120 rfl (by omega) (by omega) (⟨⟨_, rfl⟩, by rw [hw1, wset_wset]; unfold putN; rw [if_neg h9]; rfl⟩)
      · exact absurd h106 (by decide)
  refine Ct.of (by decide) rfl (Nat.le_of_ble_eq_true rfl) ?_
  refine go_iload_n 1 dJ6_getChars_ba4f3_0 rfl ?_
  refine go_istore 3 dJ6_getChars_ba4f3_1 (by decide) ?_
  refine go_iload_n 4 dJ6_getChars_ba4f3_3 rfl ?_
  refine go_if_ge 11 7 dJ6_getChars_ba4f3_4 (fun h4 => ?_) (fun h4 => ?_)
  · refine go_iconst 12 dJ6_getChars_ba4f3_11 zc_0 ?_
    refine go_istore 14 dJ6_getChars_ba4f3_12 (by decide) ?_
    refine go_iload 16 dJ6_getChars_ba4f3_14 rfl ?_
    refine go_if_ne 22 19 dJ6_getChars_ba4f3_16 (fun h16 => ?_) (fun h16 => ?_)
    · exact absurd h16 (by decide)
    · refine go_iload_n 20 dJ6_getChars_ba4f3_19 rfl ?_
      refine go_ineg 21 dJ6_getChars_ba4f3_20 ?_
      refine go_istore_n 22 dJ6_getChars_ba4f3_21 (by decide) ?_
      exact go_locals _ rfl K22
  · exact absurd (nI_pos' (by omega)) h4

end LSbn
