section CExS
/-! what holds of the row at any time: places of the calls' legs, indexes, legs, parties, times -/
def tmN (D : ZD) : Nat := (D 0).toNatClampNeg
def JT (D : ZD) : Prop := (D 0 = nI (tmN D) ∧ tmN D ≤ 20000) ∧ ∀ c, c < nC D → ∃ b r, dC D c 1 = nI b ∧ b ≤ tmN D ∧ dC D c 2 = nI r ∧ 1 ≤ r ∧ r ≤ 99
def GI (sg : ZSg) (D : ZD) : Prop := SegD sg D ∧ Ctg sg D ∧ Iv D ∧ JS D ∧ JO D ∧ JP D ∧ JT D
section
variable {sg : ZSg} {D D' : ZD}
theorem GI.seg (h : GI sg D) : SegD sg D := h.1
theorem GI.ctg (h : GI sg D) : Ctg sg D := h.2.1
theorem GI.iv (h : GI sg D) : Iv D := h.2.2.1
theorem GI.js (h : GI sg D) : JS D := h.2.2.2.1
theorem GI.jo (h : GI sg D) : JO D := h.2.2.2.2.1
theorem GI.jp (h : GI sg D) : JP D := h.2.2.2.2.2.1
theorem GI.jt (h : GI sg D) : JT D := h.2.2.2.2.2.2
theorem GI.tne (h : GI sg D) : D 0 ≠ -1 := by
  have := h.jt.1
  rw [this.1]
  exact nI_nm1 (by omega)
theorem SegD.same (h : SegD sg D) (s : Same D D') : SegD sg D' := fun c hc => by
  rw [sm_nC s] at hc
  have := h c hc
  rw [sm_nL s]
  refine ⟨this.1, this.2.1, fun k hk => ?_⟩
  rw [sm_ofN s]
  exact this.2.2 k hk
theorem Ctg.same (h : Ctg sg D) (s : Same D D') : Ctg sg D' := by
  unfold Ctg
  rw [sm_nC s, sm_nL s]
  exact h
theorem tm_same (s : Same D D') : tmN D' = tmN D := by unfold tmN; rw [s.low (by decide)]
theorem JT.same (h : JT D) (hI : Ix D) (s : Same D D') : JT D' := by
  have h20 := hI.2.1.2
  refine ⟨?_, fun c hc => ?_⟩
  · rw [tm_same s, s.low (by decide)]; exact h.1
  · rw [sm_nC s] at hc
    rw [s.C (by omega) (by decide), s.C (by omega) (by decide), tm_same s]
    exact h.2 c hc
theorem GI.same (h : GI sg D) (s : Same D D') (hj : JO D') : GI sg D' := ⟨h.seg.same s, h.ctg.same s, h.iv.same s, h.js.same s, hj, h.jp.same h.iv.1 s, h.jt.same h.iv.1 s⟩
theorem sec0_ofN {v : Int32} {k : Nat} : ofN (upd D 0 v) k = ofN D k := by unfold ofN; rw [sec0_dL]
theorem sec0_ceN {v : Int32} {k : Nat} : ceN (upd D 0 v) k = ceN D k := by unfold ceN; rw [sec0_dL]
theorem GI.sec0 (h : GI sg D) (ht : tmN D < 20000) : GI sg (upd D 0 (D 0 + 1)) ∧ tmN (upd D 0 (D 0 + 1)) = tmN D + 1 := by
  obtain ⟨a, b, c, d, e, f, t⟩ := h
  have h0 : upd D 0 (D 0 + 1) 0 = nI (tmN D + 1) := by
    show D 0 + 1 = _
    rw [t.1.1, nI_1]
  have ht1 : tmN (upd D 0 (D 0 + 1)) = tmN D + 1 := by
    unfold tmN
    rw [h0]
    exact nI_clamp (by omega)
  refine ⟨⟨fun q hq => ?_, b, c.sec0, fun k k' h1 h2 h3 => ?_, fun k hk => ?_, fun p j hp hj => ?_, ?_, fun q hq => ?_⟩, ht1⟩
  · have := a q hq
    refine ⟨this.1, this.2.1, fun k hk => ?_⟩
    rw [sec0_ofN]
    exact this.2.2 k hk
  · rw [sec0_ofN, sec0_ofN] at h3
    rw [sec0_ceN, sec0_ceN]
    exact d k k' h1 h2 h3
  · exact rowOK_c (fun j hj => sec0_dL) (e k hk)
  · rw [sec0_dP]
    exact f p j hp hj
  · rw [ht1]
    exact ⟨h0, ht⟩
  · obtain ⟨x, y, h1, h2, h3⟩ := t.2 q hq
    rw [ht1, sec0_dC, sec0_dC]
    exact ⟨x, y, h1, Nat.le_succ_of_le h2, h3⟩
theorem jo_itr {G : Nat → ZD → ZD} {D0 : ZD} (N : Nat) (hg : ∀ k X, k < N → Same D0 X → JO X → Same X (G k X) ∧ JO (G k X)) : ∀ (f i : Nat) (X : ZD), i + f ≤ N → Same D0 X → JO X → Same D0 (itr G i f X) ∧ JO (itr G i f X)
  | 0, _, _, _, h, hj => ⟨h, hj⟩
  | f + 1, i, X, hN, h, hj => by
    have := hg i X (by omega) h hj
    exact jo_itr N hg f (i + 1) (G i X) (by omega) (h.trans this.1) this.2
theorem of20 {D0 X : ZD} (hI : Iv D0) (s : Same D0 X) {k : Nat} (hk : k < nL D0) : ofN X k < 20 := by
  have h1 := ((hI.same s).1.2.2.2 k (by rw [sm_nL s]; exact hk)).2
  have h2 := (hI.same s).1.2.1.2
  omega
theorem S1_what {sg : ZSg} {D1 : ZD} (h : GI sg D1) : Same D1 (itr s1Step 0 (nL D1) D1) ∧ JO (itr s1Step 0 (nL D1) D1) :=
  jo_itr (nL D1) (fun k X hk s hj => ⟨sm_s1, jo_s1 hj (by rw [sm_nL s]; exact hk) (by rw [s.low (by decide)]; exact h.tne)⟩) _ _ _ (by omega) sm_rf h.jo
theorem S2_what {sg : ZSg} {D1 : ZD} (h : GI sg D1) : Same D1 (itr s2Step 0 (nL D1) (itr s1Step 0 (nL D1) D1)) ∧ JO (itr s2Step 0 (nL D1) (itr s1Step 0 (nL D1) D1)) :=
  jo_itr (nL D1) (fun k X hk s hj => ⟨sm_s2, jo_s2 hj⟩) _ _ _ (by omega) (S1_what h).1 (S1_what h).2
theorem S3_what {sg : ZSg} {D1 : ZD} (h : GI sg D1) : Same D1 (itr s3Step 0 (nL D1) (itr s2Step 0 (nL D1) (itr s1Step 0 (nL D1) D1))) ∧ JO (itr s3Step 0 (nL D1) (itr s2Step 0 (nL D1) (itr s1Step 0 (nL D1) D1))) :=
  jo_itr (nL D1) (fun k X hk s hj => ⟨sm_s3 (of20 h.iv s hk), jo_s3 hj (of20 h.iv s hk)⟩) _ _ _ (by omega) (S2_what h).1 (S2_what h).2
theorem S4_what {sg : ZSg} {D1 : ZD} (h : GI sg D1) : Same D1 (itr s4Step 0 (nC D1) (itr s3Step 0 (nL D1) (itr s2Step 0 (nL D1) (itr s1Step 0 (nL D1) D1)))) ∧ JO (itr s4Step 0 (nC D1) (itr s3Step 0 (nL D1) (itr s2Step 0 (nL D1) (itr s1Step 0 (nL D1) D1)))) :=
  jo_itr (nC D1) (fun k X hk s hj => ⟨sm_s4, jo_s4 hj⟩) _ _ _ (by omega) (S3_what h).1 (S3_what h).2
theorem jo_S1 {v : Int32} (h : GI sg (upd D 0 v)) : JO (itr s1Step 0 (nL D) (upd D 0 v)) := (S1_what h).2
theorem jo_S2 {v : Int32} (h : GI sg (upd D 0 v)) : JO (itr s2Step 0 (nL D) (itr s1Step 0 (nL D) (upd D 0 v))) := (S2_what h).2
theorem GI.sec (h : GI sg D) (ht : tmN D < 20000) : GI sg (secD D) ∧ tmN (secD D) = tmN D + 1 := by
  have h1 := h.sec0 ht
  have h4 := S4_what h1.1
  have e : itr s4Step 0 (nC (upd D 0 (D 0 + 1))) (itr s3Step 0 (nL (upd D 0 (D 0 + 1))) (itr s2Step 0 (nL (upd D 0 (D 0 + 1))) (itr s1Step 0 (nL (upd D 0 (D 0 + 1))) (upd D 0 (D 0 + 1))))) = secD D := rfl
  rw [e] at h4
  exact ⟨h1.1.same h4.1 h4.2, (tm_same h4.1).trans h1.2⟩
end
theorem CR.tick {D0 D : ZD} {g : Option Nat} {sg : ZSg} {E : ES} (h : CR D0 g sg E D) {v : Int32} : CR (upd D 0 v) g sg (ef E 5 v) (upd D 0 v) := by
  obtain ⟨⟨a1, a2, a3, a4, a5, a6, a7⟩, b, c, d, f⟩ := h.base
  refine ⟨⟨a1, ⟨rfl, a2.2⟩, fun p j hp hj => ?_, fun q j hq hj => ?_, fun q hq => ?_, fun k j hk hj => ?_, fun j hj => (a7 j hj).trans (if_neg (by omega)).symm⟩, b.sec0, sm_rf, d, f⟩
  · rw [sec0_dP]; exact a3 p j hp hj
  · rw [sec0_dC]; exact a4 q j hq hj
  · rw [sec0_dC]; exact a5 q hq
  · rw [sec0_dL]; exact a6 k j hk hj
theorem xe_put {l : Launch} {Γ : ZG} {M : ZM} {dp mc ms : Nat} {Φ : Option Value → ZW → Prop} {Ψ : String → ZW → Prop} {k n : Nat} {w : ZW} {pc e : Nat} {L : ZL} {st : List Value} {E : ES} {index : Nat} {v : Int32} (j : Nat) (pc' : Nat) (hd : decode M.2.1 pc = .ok (.putfield index, 3)) (F : zFp M.1.cls index 0 j .int) (hj : j = 5 ∨ j = 6 ∨ j = 7 ∨ j = 8) (kk : Go l Γ M dp mc ms Φ Ψ k n (wE Γ w e (ef E j v)) pc' L st) (hp : pc + 3 = pc' := by rfl) : Go l Γ M dp mc ms Φ Ψ k n (wE Γ w e E) pc L (.int v :: .ref e :: st) := by
  refine go_put pc' hd F wE_at0 (by show j < 9; omega) rfl rfl ?_ hp
  have e9 : wset (wE Γ w e E) e (.inr (0, (efs e E).set j (.int v))) = wE Γ w e (ef E j v) := wE_setF (by rcases hj with rfl | rfl | rfl | rfl <;> rfl) rfl rfl
  rw [e9]
  exact kk
set_option maxRecDepth 100000 in
set_option maxHeartbeats 4000000 in
theorem lp1_X0_passSecond {D0 : ZD} {g : Option Nat} {sg : ZSg} {l : Launch} {Γ : ZG} {w : ZW} {e : Nat} {DF : ZD} {Φ : Option Value → ZW → Prop} (ht0 : D0 0 ≠ -1) (kk : ∀ E', CR D0 g sg E' DF → Go l Γ mX0_passSecond 6 0 0 Φ zNo 0 0 (wE Γ w e E') 41 [(0, .ref e)] []) : ∀ (f i : Nat) (E : ES) (D : ZD), CR D0 g sg E D → JO D → i + f = nL D0 → itr s1Step i f D = DF → Go l Γ mX0_passSecond 6 0 0 Φ zNo 0 0 (wE Γ w e E) 12 [(0, .ref e), (1, .int (nI i))] [] := by
  intro f
  induction f with
  | zero =>
    intro i E D h hJ hif he
    have h40 := h.L40
    have h20 := h.C20
    refine go_iload_n 13 dX0_passSecond_12 rfl ?_
    refine go_aload_n 14 dX0_passSecond_13 rfl ?_
    refine xe_get 17 dX0_passSecond_14 fX0_23 rfl ?_
    refine xe_rL 20 h dX0_passSecond_17 fX0_61 ?_
    refine go_icmp_ge 41 23 dX0_passSecond_20 (fun h20 => ?_) (fun h20 => ?_)
    · exact go_locals _ rfl (kk E (by rw [show DF = D from he.symm]; exact h))
    · exact (lpE (a := nI (nL D0)) (N := nL D0) rfl (by omega) h20).elim
  | succ f ih =>
    intro i E D h hJ hif he
    have h40 := h.L40
    have h20 := h.C20
    have hi : i < nL D := by rw [h.eqL]; omega
    have ht : D 0 ≠ -1 := by rw [h.2.2.1.low (by decide)]; exact ht0
    refine go_iload_n 13 dX0_passSecond_12 rfl ?_
    refine go_aload_n 14 dX0_passSecond_13 rfl ?_
    refine xe_get 17 dX0_passSecond_14 fX0_23 rfl ?_
    refine xe_rL 20 h dX0_passSecond_17 fX0_61 ?_
    refine go_icmp_ge 41 23 dX0_passSecond_20 (fun h20 => ?_) (fun h20 => ?_)
    · exact (lpG (a := nI (nL D0)) (N := nL D0) rfl (by omega) (by omega) h20).elim
    · refine go_aload_n 24 dX0_passSecond_23 rfl ?_
      refine go_iload_n 25 dX0_passSecond_24 rfl ?_
      refine go_iconst 26 dX0_passSecond_25 zc_0 ?_
      refine gxX2v 29 dX0_passSecond_26 vX0_135 wE_at0 rfl (cx_X0_repeatOffer (s := 0) h rfl (by omega) rfl (by decide)) (fun E26 r26 => ?_)
      refine go_aload_n 30 dX0_passSecond_29 rfl ?_
      refine go_iload_n 31 dX0_passSecond_30 rfl ?_
      refine go_iconst 32 dX0_passSecond_31 zc_1 ?_
      refine gxX2v 35 dX0_passSecond_32 vX0_135 wE_at0 rfl (cx_X0_repeatOffer (s := 1) r26 rfl (by omega) rfl (by decide)) (fun E32 r32 => ?_)
      refine go_iinc 38 dX0_passSecond_35 rfl (by decide) zc_1 ?_
      refine go_goto 12 dX0_passSecond_38 ?_
      rw [nI_1]
      have e1 := s1_eq hJ hi ht
      rw [e1] at r32
      exact go_locals _ rfl (ih (i + 1) _ _ r32 (jo_s1 hJ hi ht) (by omega) he)
set_option maxRecDepth 100000 in
set_option maxHeartbeats 4000000 in
theorem lp2_X0_passSecond {D0 : ZD} {g : Option Nat} {sg : ZSg} {l : Launch} {Γ : ZG} {w : ZW} {e : Nat} {DF : ZD} {Φ : Option Value → ZW → Prop} (hP : JP D0) (hI0 : Ix D0) (kk : ∀ E', CR D0 g sg E' DF → Go l Γ mX0_passSecond 6 0 0 Φ zNo 0 0 (wE Γ w e E') 65 [(0, .ref e)] []) : ∀ (f i : Nat) (E : ES) (D : ZD), CR D0 g sg E D → JO D → i + f = nL D0 → itr s2Step i f D = DF → Go l Γ mX0_passSecond 6 0 0 Φ zNo 0 0 (wE Γ w e E) 43 [(0, .ref e), (1, .int (nI i))] [] := by
  intro f
  induction f with
  | zero =>
    intro i E D h hJ hif he
    have h40 := h.L40
    have h20 := h.C20
    refine go_iload_n 44 dX0_passSecond_43 rfl ?_
    refine go_aload_n 45 dX0_passSecond_44 rfl ?_
    refine xe_get 48 dX0_passSecond_45 fX0_23 rfl ?_
    refine xe_rL 51 h dX0_passSecond_48 fX0_61 ?_
    refine go_icmp_ge 65 54 dX0_passSecond_51 (fun h51 => ?_) (fun h51 => ?_)
    · exact go_locals _ rfl (kk E (by rw [show DF = D from he.symm]; exact h))
    · exact (lpE (a := nI (nL D0)) (N := nL D0) rfl (by omega) h51).elim
  | succ f ih =>
    intro i E D h hJ hif he
    have h40 := h.L40
    have h20 := h.C20
    have hi : i < nL D := by rw [h.eqL]; omega
    refine go_iload_n 44 dX0_passSecond_43 rfl ?_
    refine go_aload_n 45 dX0_passSecond_44 rfl ?_
    refine xe_get 48 dX0_passSecond_45 fX0_23 rfl ?_
    refine xe_rL 51 h dX0_passSecond_48 fX0_61 ?_
    refine go_icmp_ge 65 54 dX0_passSecond_51 (fun h51 => ?_) (fun h51 => ?_)
    · exact (lpG (a := nI (nL D0)) (N := nL D0) rfl (by omega) (by omega) h51).elim
    · refine go_aload_n 55 dX0_passSecond_54 rfl ?_
      refine go_iload_n 56 dX0_passSecond_55 rfl ?_
      refine gxX1v 59 dX0_passSecond_56 vX0_138 wE_at0 rfl (cx_X0_settleOffer h rfl (by omega)) (fun E56 r56 => ?_)
      refine go_iinc 62 dX0_passSecond_59 rfl (by decide) zc_1 ?_
      refine go_goto 43 dX0_passSecond_62 ?_
      rw [nI_1]
      have e1 := s2_eq hJ h.2.1 (hP.same hI0 h.2.2.1) hi
      rw [e1] at r56
      exact go_locals _ rfl (ih (i + 1) _ _ r56 (jo_s2 hJ) (by omega) he)
set_option maxRecDepth 100000 in
set_option maxHeartbeats 4000000 in
theorem lp3_X0_passSecond {D0 : ZD} {g : Option Nat} {sg : ZSg} {l : Launch} {Γ : ZG} {w : ZW} {e : Nat} {DF : ZD} {Φ : Option Value → ZW → Prop} (hP : JP D0) (hI0 : Iv D0) (hs : SegD sg D0) (hg : Ctg sg D0) (hJS : JS D0) (kk : ∀ E', CR D0 g sg E' DF → Go l Γ mX0_passSecond 6 0 0 Φ zNo 0 0 (wE Γ w e E') 97 [(0, .ref e)] []) : ∀ (f i : Nat) (E : ES) (D : ZD), CR D0 g sg E D → JO D → i + f = nL D0 → itr s3Step i f D = DF → Go l Γ mX0_passSecond 6 0 0 Φ zNo 0 0 (wE Γ w e E) 67 [(0, .ref e), (1, .int (nI i))] [] := by
  intro f
  induction f with
  | zero =>
    intro i E D h hJ hif he
    have h40 := h.L40
    have h20 := h.C20
    refine go_iload_n 68 dX0_passSecond_67 rfl ?_
    refine go_aload_n 69 dX0_passSecond_68 rfl ?_
    refine xe_get 72 dX0_passSecond_69 fX0_23 rfl ?_
    refine xe_rL 75 h dX0_passSecond_72 fX0_61 ?_
    refine go_icmp_ge 97 78 dX0_passSecond_75 (fun h75 => ?_) (fun h75 => ?_)
    · exact go_locals _ rfl (kk E (by rw [show DF = D from he.symm]; exact h))
    · exact (lpE (a := nI (nL D0)) (N := nL D0) rfl (by omega) h75).elim
  | succ f ih =>
    intro i E D h hJ hif he
    have h40 := h.L40
    have h20 := h.C20
    have hi : i < nL D := by rw [h.eqL]; omega
    have hc : ofN D i < 20 := by have := h.of (k := i) (by omega); omega
    refine go_iload_n 68 dX0_passSecond_67 rfl ?_
    refine go_aload_n 69 dX0_passSecond_68 rfl ?_
    refine xe_get 72 dX0_passSecond_69 fX0_23 rfl ?_
    refine xe_rL 75 h dX0_passSecond_72 fX0_61 ?_
    refine go_icmp_ge 97 78 dX0_passSecond_75 (fun h75 => ?_) (fun h75 => ?_)
    · exact (lpG (a := nI (nL D0)) (N := nL D0) rfl (by omega) (by omega) h75).elim
    · refine go_aload_n 79 dX0_passSecond_78 rfl ?_
      refine go_iload_n 80 dX0_passSecond_79 rfl ?_
      refine gcV1 83 dX0_passSecond_80 vX0_141 wE_at0 rfl (cx_X0_isAnsweredNow h hJ.st rfl (by omega)) ?_
      refine go_if_eq 91 86 dX0_passSecond_83 (fun h83 => ?_) (fun h83 => ?_)
      · refine go_iinc 94 dX0_passSecond_91 rfl (by decide) zc_1 ?_
        refine go_goto 67 dX0_passSecond_94 ?_
        rw [nI_1]
        have e1 : s3Step i D = D := s3_f (zb_0 (by first | exact h83 | exact Classical.not_not.mp h83))
        exact go_locals _ rfl (ih (i + 1) _ D h hJ (by omega) (by rw [← he]; show itr s3Step (i + 1) f D = itr s3Step (i + 1) f (s3Step i D); rw [e1]))
      · refine go_aload_n 87 dX0_passSecond_86 rfl ?_
        refine go_iload_n 88 dX0_passSecond_87 rfl ?_
        refine gxX1v 91 dX0_passSecond_88 vX0_145 wE_at0 rfl (cx_X0_answer h hs rfl (by omega)) (fun E88 r88 => ?_)
        refine go_iinc 94 dX0_passSecond_91 rfl (by decide) zc_1 ?_
        refine go_goto 67 dX0_passSecond_94 ?_
        rw [nI_1]
        have e1 := s3_t hs hg hI0 hJS hP h.2.2.1 (k := i) (by omega) (zb_1 h83)
        rw [e1] at r88
        exact go_locals _ rfl (ih (i + 1) _ _ r88 (jo_s3 hJ hc) (by omega) he)
set_option maxRecDepth 100000 in
set_option maxHeartbeats 4000000 in
theorem lp4_X0_passSecond {D0 : ZD} {g : Option Nat} {sg : ZSg} {l : Launch} {Γ : ZG} {w : ZW} {e : Nat} {DF : ZD} {Φ : Option Value → ZW → Prop} (hI0 : Iv D0) (hs : SegD sg D0) (kk : ∀ E', CR D0 g sg E' DF → Go l Γ mX0_passSecond 6 0 0 Φ zNo 0 0 (wE Γ w e E') 161 [(0, .ref e)] []) : ∀ (f i : Nat) (E : ES) (D : ZD), CR D0 g sg E D → True → i + f = nC D0 → itr s4Step i f D = DF → Go l Γ mX0_passSecond 6 0 0 Φ zNo 0 0 (wE Γ w e E) 99 [(0, .ref e), (1, .int (nI i))] [] := by
  intro f
  induction f with
  | zero =>
    intro i E D h hJ hif he
    have h40 := h.L40
    have h20 := h.C20
    refine go_iload_n 100 dX0_passSecond_99 rfl ?_
    refine go_aload_n 101 dX0_passSecond_100 rfl ?_
    refine xe_get 104 dX0_passSecond_101 fX0_20 rfl ?_
    refine xe_rC 107 h dX0_passSecond_104 fX0_61 ?_
    refine go_icmp_ge 161 110 dX0_passSecond_107 (fun h107 => ?_) (fun h107 => ?_)
    · exact go_locals _ rfl (kk E (by rw [show DF = D from he.symm]; exact h))
    · exact (lpE (a := nI (nC D0)) (N := nC D0) rfl (by omega) h107).elim
  | succ f ih =>
    intro i E D h hJ hif he
    have h40 := h.L40
    have h20 := h.C20
    refine go_iload_n 100 dX0_passSecond_99 rfl ?_
    refine go_aload_n 101 dX0_passSecond_100 rfl ?_
    refine xe_get 104 dX0_passSecond_101 fX0_20 rfl ?_
    refine xe_rC 107 h dX0_passSecond_104 fX0_61 ?_
    refine go_icmp_ge 161 110 dX0_passSecond_107 (fun h107 => ?_) (fun h107 => ?_)
    · exact (lpG (a := nI (nC D0)) (N := nC D0) rfl (by omega) (by omega) h107).elim
    · refine go_aload_n 111 dX0_passSecond_110 rfl ?_
      refine xe_fld 5 0 114 h dX0_passSecond_111 fX0_50 (by decide) ?_
      refine go_aload_n 115 dX0_passSecond_114 rfl ?_
      refine xe_get 118 dX0_passSecond_115 fX0_20 rfl ?_
      refine go_iload_n 119 dX0_passSecond_118 rfl ?_
      refine go_iconst 120 dX0_passSecond_119 zc_1 ?_
      refine gcV2 123 dX0_passSecond_120 vX0_64 h.tC rfl (cg_C (k := i) (j := 1) h rfl rfl (by omega) (by decide)) ?_
      refine go_isub 124 dX0_passSecond_123 ?_
      refine go_aload_n 125 dX0_passSecond_124 rfl ?_
      refine xe_get 128 dX0_passSecond_125 fX0_20 rfl ?_
      refine go_iload_n 129 dX0_passSecond_128 rfl ?_
      refine go_iconst 130 dX0_passSecond_129 zc_2 ?_
      refine gcV2 133 dX0_passSecond_130 vX0_64 h.tC rfl (cg_C (k := i) (j := 2) h rfl rfl (by omega) (by decide)) ?_
      refine go_icmp_lt 155 136 dX0_passSecond_133 (fun h133 => ?_) (fun h133 => ?_)
      · refine go_iinc 158 dX0_passSecond_155 rfl (by decide) zc_1 ?_
        refine go_goto 99 dX0_passSecond_158 ?_
        rw [nI_1]
        have e1 : s4Step i D = D := if_neg (fun q => by first | exact q.2 h133 | exact zb_0 (by first | exact h141 | exact Classical.not_not.mp h141) q.1)
        exact go_locals _ rfl (ih (i + 1) _ D h trivial (by omega) (by rw [← he]; show itr s4Step (i + 1) f D = itr s4Step (i + 1) f (s4Step i D); rw [e1]))
      · refine go_aload_n 137 dX0_passSecond_136 rfl ?_
        refine go_iload_n 138 dX0_passSecond_137 rfl ?_
        refine gcV1 141 dX0_passSecond_138 vX0_148 wE_at0 rfl (cx_X0_rings h hs rfl (by omega)) ?_
        refine go_if_eq 155 144 dX0_passSecond_141 (fun h141 => ?_) (fun h141 => ?_)
        · refine go_iinc 158 dX0_passSecond_155 rfl (by decide) zc_1 ?_
          refine go_goto 99 dX0_passSecond_158 ?_
          rw [nI_1]
          have e1 : s4Step i D = D := if_neg (fun q => by first | exact q.2 h133 | exact zb_0 (by first | exact h141 | exact Classical.not_not.mp h141) q.1)
          exact go_locals _ rfl (ih (i + 1) _ D h trivial (by omega) (by rw [← he]; show itr s4Step (i + 1) f D = itr s4Step (i + 1) f (s4Step i D); rw [e1]))
        · refine go_aload_n 145 dX0_passSecond_144 rfl ?_
          refine go_iload_n 146 dX0_passSecond_145 rfl ?_
          refine go_iconst 147 dX0_passSecond_146 zc_3 ?_
          refine gxX2v 150 dX0_passSecond_147 vX0_117 wE_at0 rfl (cx_X0_endRinging h hs rfl (by omega)) (fun E147 r147 => ?_)
          refine go_aload_n 151 dX0_passSecond_150 rfl ?_
          refine go_iload_n 152 dX0_passSecond_151 rfl ?_
          refine gxX1v 155 dX0_passSecond_152 vX0_91 wE_at0 rfl (cx_X0_failCall r147 rfl (by omega)) (fun E152 r152 => ?_)
          refine go_iinc 158 dX0_passSecond_155 rfl (by decide) zc_1 ?_
          refine go_goto 99 dX0_passSecond_158 ?_
          rw [nI_1]
          have e1 := s4_t hs hI0 h.2.2.1 (c := i) (by omega) (zb_1 h141) (Int32.not_lt.mpr (by first | exact h133 | exact Int32.not_lt.mp h133))
          rw [e1] at r152
          exact go_locals _ rfl (ih (i + 1) _ _ r152 trivial (by omega) he)
set_option maxRecDepth 100000 in
set_option maxHeartbeats 4000000 in
theorem cx_X0_passSecond {D : ZD} {g : Option Nat} {sg : ZSg} {E : ES} {l : Launch} {Γ : ZG} {w : ZW} {e : Nat} (h : CR D g sg E D) (hG : GI sg D) (htm : tmN D < 20000) : Ct l Γ mX0_passSecond 6 0 0 [.ref e] (wE Γ w e E) (PvE Γ w e none (fun E' => CR (secD D) g sg E' (secD D))) zNo := by
  refine Ct.of (by decide) rfl (Nat.le_of_ble_eq_true rfl) ?_
  refine go_aload_n 1 dX0_passSecond_0 rfl ?_
  refine go_dup 2 dX0_passSecond_1 rfl ?_
  refine xe_fld 5 0 5 h dX0_passSecond_2 fX0_50 (by decide) ?_
  refine go_iconst 6 dX0_passSecond_5 zc_1 ?_
  refine go_iadd 7 dX0_passSecond_6 ?_
  refine xe_put 5 10 dX0_passSecond_7 pX0_50 (by decide) ?_
  have h := h.tick (v := D 0 + 1)
  have hG1 := hG.sec0 htm
  have h40 := h.L40
  have h20 := h.C20
  refine go_iconst 11 dX0_passSecond_10 zc_0 ?_
  refine go_istore_n 12 dX0_passSecond_11 (by decide) ?_
  refine go_locals _ rfl (lp1_X0_passSecond (DF := itr s1Step 0 (nL D) (upd D 0 (D 0 + 1))) hG1.1.tne (fun E1 r1 => ?_) (nL D) 0 _ _ h hG1.1.jo (by rw [sec0_nL, Nat.zero_add]) rfl)
  refine go_iconst 42 dX0_passSecond_41 zc_0 ?_
  refine go_istore_n 43 dX0_passSecond_42 (by decide) ?_
  refine go_locals _ rfl (lp2_X0_passSecond (DF := itr s2Step 0 (nL D) (itr s1Step 0 (nL D) (upd D 0 (D 0 + 1)))) hG1.1.jp hG1.1.iv.1 (fun E2 r2 => ?_) (nL D) 0 _ _ r1 (jo_S1 hG1.1) (by rw [sec0_nL, Nat.zero_add]) rfl)
  refine go_iconst 66 dX0_passSecond_65 zc_0 ?_
  refine go_istore_n 67 dX0_passSecond_66 (by decide) ?_
  refine go_locals _ rfl (lp3_X0_passSecond (DF := itr s3Step 0 (nL D) (itr s2Step 0 (nL D) (itr s1Step 0 (nL D) (upd D 0 (D 0 + 1))))) hG1.1.jp hG1.1.iv hG1.1.seg hG1.1.ctg hG1.1.js (fun E3 r3 => ?_) (nL D) 0 _ _ r2 (jo_S2 hG1.1) (by rw [sec0_nL, Nat.zero_add]) rfl)
  refine go_iconst 98 dX0_passSecond_97 zc_0 ?_
  refine go_istore_n 99 dX0_passSecond_98 (by decide) ?_
  refine go_locals _ rfl (lp4_X0_passSecond (DF := secD D) hG1.1.iv hG1.1.seg (fun E4 r4 => ?_) (nC D) 0 _ _ r3 trivial (by rw [sec0_nC, Nat.zero_add]) rfl)
  exact go_return dX0_passSecond_161 rfl (by omega) (by omega) ⟨rfl, _, rfl, r4.base⟩
end CExS
