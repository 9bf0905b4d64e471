section CLoad
/-! a setup text read whole; bytes put on *)-/
theorem stm_ne {B : ZB} {n : Nat} (hT : TB B n) {s s2 : QS} (hs : s.1 ≤ n) (h : stm B s = .inr s2) (hi : s.2.2.1.2.2 = true → s.2.2.2 ≠ []) : s2.2.2.1.2.2 = true → s2.2.2.2 ≠ [] := by
  obtain ⟨q, G, ⟨a, b, c⟩, cs⟩ := s
  have hs : q ≤ n := hs
  unfold stm at h
  dsimp only at h
  by_cases w0 : wd B "party" q
  · rw [if_pos w0] at h
    by_cases h10 : G 4 = 10
    · rw [if_pos h10] at h; cases h
    · rw [if_neg h10] at h
      cases e1 : num B 0 99 (sp B (q + 5)) with
      | inl e => rw [e1] at h; cases h
      | inr r1 =>
        rw [e1] at h
        dsimp only at h
        cases e2 : num B 0 99 r1.1 with
        | inl e => rw [e2] at h; cases h
        | inr r2 =>
          rw [e2] at h
          dsimp only at h
          cases e3 : num B 0 999 r2.1 with
          | inl e => rw [e3] at h; cases h
          | inr r3 =>
            rw [e3] at h
            cases h
            exact hi
  · rw [if_neg w0] at h
    by_cases w1 : wd B "wait" q ∧ a = false
    · rw [if_pos w1] at h
      cases e1 : num B 1 99 (sp B (q + 4)) with
      | inl e => rw [e1] at h; cases h
      | inr r1 =>
        rw [e1] at h
        dsimp only at h
        cases e2 : num B 1 99 r1.1 with
        | inl e => rw [e2] at h; cases h
        | inr r2 =>
          rw [e2] at h
          cases h
          exact hi
    · rw [if_neg w1] at h
      by_cases w2 : wd B "patience" q ∧ b = false
      · rw [if_pos w2] at h
        cases e1 : num B 1 99 (sp B (q + 8)) with
        | inl e => rw [e1] at h; cases h
        | inr r1 =>
          rw [e1] at h
          cases h
          exact hi
      · rw [if_neg w2] at h
        by_cases w3 : wd B "ring" q ∧ c = false
        · rw [if_pos w3] at h
          cases e1 : smm B (fac B 4) (sp B (q + 4), cs) with
          | inl e => rw [e1] at h; cases h
          | inr x =>
            rw [e1] at h
            cases h
            intro _
            have hl := ps_wd hT lt_ring w3.1
            have hq5 : q + 4 ≤ n := by have := (ps_le hT hs).1; rw [hl.1] at this; exact this
            obtain ⟨-, -, -, ad, hd, hne, -⟩ := smm_ok hT (fac_ok hT 4) (sp B (q + 4), cs) x (sp_le hT hq5) e1
            intro z
            have z : x.2 = [] := z
            rw [hd] at z
            exact hne (List.append_eq_nil_iff.mp z).2
        · rw [if_neg w3] at h; cases h
theorem wnew_set {w : ZW} {c c' : va_E} : wset (wnew w c) w.1 c' = wnew w c' := by
  refine Prod.ext rfl (funext fun q => ?_)
  show (if q = w.1 then some c' else if q = w.1 then some c else w.2 q) = if q = w.1 then some c' else w.2 q
  by_cases h : q = w.1
  · rw [if_pos h, if_pos h]
  · rw [if_neg h, if_neg h, if_neg h]
theorem wnew_at {w : ZW} {c : va_E} : (wnew w c).2 w.1 = some c := if_pos rfl
theorem wnew_o {w : ZW} {c : va_E} {q : Nat} (h : q ≠ w.1) : (wnew w c).2 q = w.2 q := if_neg h
set_option maxRecDepth 100000 in
theorem ct_J7_copyOf {l : Launch} {Γ : ZG} {w : ZW} {a K : Nat} {f : ZD} (ha : w.2 a = some (.inl (Γ.2.2.1 0, 600, .inl f))) (hK : K < 600) (haw : a ≠ w.1) : Ct l Γ mJ7_copyOf_59c91 2 1 600 [.ref a, .int (nI K)] w (fun v w2 => v = some (.ref w.1) ∧ w2 = wnew w (.inl (Γ.2.2.1 0, K, .inl (va_cpy f (fun _ => 0) 0 0 K)))) zNo := by
  refine Ct.of (by decide) rfl (Nat.le_of_ble_eq_true rfl) ?_
  refine go_iload_n 1 dJ7_copyOf_59c91_0 rfl ?_
  refine go_aload_n 2 dJ7_copyOf_59c91_1 rfl ?_
  refine go_alen (t0 := 0) (v := 600) 3 dJ7_copyOf_59c91_2 ha rfl rfl ?_
  refine go_icmp_ne 14 6 dJ7_copyOf_59c91_3 (fun h3 => ?_) (fun h3 => ?_)
  · refine go_iload_n 15 dJ7_copyOf_59c91_14 rfl ?_
    refine go_newarray_i (N := K) 17 dJ7_copyOf_59c91_15 rfl (by omega) (by decide) (by omega) ac_int ?_
    refine go_astore_n 18 dJ7_copyOf_59c91_17 (by decide) ?_
    refine go_aload_n 19 dJ7_copyOf_59c91_18 rfl ?_
    refine go_iconst 20 dJ7_copyOf_59c91_19 zc_0 ?_
    refine go_aload_n 21 dJ7_copyOf_59c91_20 rfl ?_
    refine go_iconst 22 dJ7_copyOf_59c91_21 zc_0 ?_
    refine go_aload_n 23 dJ7_copyOf_59c91_22 rfl ?_
    refine go_alen (t0 := 0) (v := 600) 24 dJ7_copyOf_59c91_23 ((wnew_o haw).trans ha) rfl rfl ?_
    refine go_iload_n 25 dJ7_copyOf_59c91_24 rfl ?_
    refine go_min 28 dJ7_copyOf_59c91_25 gmJ7_304 (by decide) (by omega) (by omega) (by exact Nat.le_of_ble_eq_true rfl) ?_
    rw [if_pos (show nI K < 600 from nI_lt (b := 600) hK (by decide))]
    refine go_copy (K := K) 31 rfl dJ7_copyOf_59c91_28 ((wnew_o haw).trans ha) wnew_at (by omega) (Nat.le_refl _) (by omega) (by decide) (by exact Nat.le_of_ble_eq_true rfl) ?_
    rw [wnew_set]
    refine go_aload_n 32 dJ7_copyOf_59c91_31 rfl ?_
    exact go_areturn dJ7_copyOf_59c91_32 rfl (by omega) (by omega) ⟨rfl, rfl⟩
  · exact absurd ((nI_eq (a := K) (b := 600) (by omega) (by decide)).mp (by first | exact h3 | exact Classical.not_not.mp h3)) (by omega)
set_option maxRecDepth 100000 in
theorem ct_X2_init {l : Launch} {Γ : ZG} {w : ZW} {t a : Nat} (hw : w.2 t = some (.inr (2, [.null, .null, .int 0]))) (ht : t ≠ w.1) : Ct l Γ mX2_init 2 1 11 [.ref t, .ref a] w (fun v w2 => v = none ∧ w2 = wset (wnew w (.inl (Γ.2.2.1 0, 11, .inl (fun _ => 0)))) t (.inr (2, [.ref a, .ref w.1, .int 0]))) zNo := by
  refine Ct.of (by decide) rfl (Nat.le_of_ble_eq_true rfl) ?_
  refine go_aload_n 1 dX2_init_0 rfl ?_
  refine go_objInit 4 dX2_init_1 oX2_3 oInst oCode (by decide) (by exact Nat.le_of_ble_eq_true rfl) ?_
  refine go_aload_n 5 dX2_init_4 rfl ?_
  refine go_bipush 7 dX2_init_5 zb_11 ?_
  refine go_newarray_i (N := 11) 9 dX2_init_7 rfl (by decide) (by decide) (by decide) ac_int ?_
  refine go_putF 12 dX2_init_9 qX2_11 rfl ((wnew_o ht).trans hw) (Nat.le_of_ble_eq_true rfl) rfl rfl ?_
  refine go_aload_n 13 dX2_init_12 rfl ?_
  refine go_aload_n 14 dX2_init_13 rfl ?_
  refine go_putF 17 dX2_init_14 qX2_15 rfl wset_at (Nat.le_of_ble_eq_true rfl) rfl rfl ?_
  rw [wset_wset]
  exact go_return dX2_init_17 rfl (by decide) (by decide) ⟨rfl, rfl⟩
/-- a world with a ring rule made -/
def rgN (Γ : ZG) (w : ZW) (K : Nat) (f : ZD) : ZW := (w.1 + 3, fun q => if q = w.1 then some (.inr (2, [.ref (w.1 + 1), .ref (w.1 + 2), .int 0])) else if q = w.1 + 1 then some (.inl (Γ.2.2.1 0, K, .inl f)) else if q = w.1 + 2 then some (.inl (Γ.2.2.1 0, 11, .inl (fun _ => 0))) else w.2 q)
theorem rgN_eq {Γ : ZG} {w : ZW} {r K : Nat} {R : RS} {f : ZD} {z : va_E} (hr : r + 12 ≤ w.1) : wset (wnew (wnew (wnew (wZ Γ w r R) z) (.inl (Γ.2.2.1 0, K, .inl f))) (.inl (Γ.2.2.1 0, 11, .inl (fun _ => 0)))) w.1 (.inr (2, [.ref (w.1 + 1), .ref (w.1 + 2), .int 0])) = wZ Γ (rgN Γ w K f) r R := by
  refine Prod.ext rfl (funext fun q => ?_)
  show (if q = w.1 then _ else if q = w.1 + 2 then _ else if q = w.1 + 1 then _ else if q = w.1 then _ else if r ≤ q ∧ q < r + 12 then _ else w.2 q) = if r ≤ q ∧ q < r + 12 then _ else if q = w.1 then _ else if q = w.1 + 1 then _ else if q = w.1 + 2 then _ else w.2 q
  by_cases h0 : q = w.1
  · rw [if_pos h0, if_neg (by omega), if_pos h0]
  · rw [if_neg h0]
    by_cases h2 : q = w.1 + 2
    · rw [if_pos h2, if_neg (by omega), if_neg h0, if_neg (by omega), if_pos h2]
    · rw [if_neg h2]
      by_cases h1 : q = w.1 + 1
      · rw [if_pos h1, if_neg (by omega), if_neg h0, if_pos h1]
      · rw [if_neg h1, if_neg h0]
        by_cases hq : r ≤ q ∧ q < r + 12
        · rw [if_pos hq, if_pos hq]
        · rw [if_neg hq, if_neg hq, if_neg h0, if_neg h1, if_neg h2]
def NewR (Γ : ZG) (w w' : ZW) (g : Option Nat) (cs : List Int32) : Prop := (g = none ∧ w' = w ∧ cs = []) ∨ (g = some w.1 ∧ cs ≠ [] ∧ cs.length ≤ 600 ∧ wfd cs 0 ∧ ∃ f, w' = rgN Γ w cs.length f ∧ ∀ j, j < cs.length → f j = cs.getD j 0)
def RdP (Γ : ZG) (w : ZW) (r : Nat) (T : ZD) (pr : PR QS) : Option Value → ZW → Prop := fun v w2 => match pr with
  | .inl e => v = some (.int e.1) ∧ e.1 ≠ 0 ∧ ∃ R', w2 = wZ Γ w r R' ∧ R'.2.1 = T ∧ R'.1 1 = 0 ∧ R'.1 14 = nI e.2
  | .inr s => v = some (.int 0) ∧ ∃ R' w' g, w2 = wZ Γ w' r R' ∧ R'.2.1 = T ∧ R'.1 1 = 0 ∧ R'.1 14 = -1 ∧ RelE R'.2.2.1 s.2.1 ∧ R'.2.2.1.2.2.2 = g ∧ NewR Γ w w' g s.2.2.2 ∧ QInv s
section
variable {B : ZB} {n q : Nat} {T : ZD} {R : RS} {G : ZD} {t : Bool × Bool × Bool} {cs : List Int32} {e : Int32 × Nat}
theorem OkQ.tok (h : OkQ B n T R q G t cs) {q2 : Nat} (h1 : q ≤ q2) (h2 : q2 ≤ n) : OkQ B n T (tokR B n R q2) q2 G t cs := by
  obtain ⟨⟨t1, t2, t3⟩, -, ⟨e1, e2⟩, hR, ⟨c1, c2, c3⟩, f1, f2, f3⟩ := h
  exact ⟨⟨t1, (tok_o (by decide)).trans t2, (tok_o (by decide)).trans t3⟩, ⟨tok_At, h2⟩, ⟨(tok_o (by decide)).trans e1, (tok_o (by decide)).trans e2⟩, hR, ⟨(tok_o (by decide)).trans c1, by omega, c3⟩, (tok_o (by decide)).trans f1, (tok_o (by decide)).trans f2, (tok_o (by decide)).trans f3⟩
theorem OkQ.fail (h : OkQ B n T R q G t cs) {c : Int32} (hc : c ≠ 0) : ErQ B n T (failC R c) (c, q) := by
  obtain ⟨⟨t1, t2, t3⟩, ⟨hA, hq⟩, ⟨e1, e2⟩, -⟩ := h
  have ef : failC R c = rF (rF R 13 c) 14 (R.1 8) := if_pos e1
  refine ⟨⟨by rw [fail_snd]; exact t1, (fail_j (by decide)).trans t2, (fail_j (by decide)).trans t3⟩, ⟨q, hq, hA.fail⟩, ?_, hc, ?_⟩
  · rw [ef]; exact (rF_n (by decide)).trans rF_s
  · rw [ef]; exact rF_s.trans hA.1
theorem ErQ.tok (h : ErQ B n T R e) {q2 : Nat} (h2 : q2 ≤ n) : ErQ B n T (tokR B n R q2) e := by
  obtain ⟨⟨t1, t2, t3⟩, -, e1, e2, e3⟩ := h
  exact ⟨⟨t1, (tok_o (by decide)).trans t2, (tok_o (by decide)).trans t3⟩, ⟨q2, h2, tok_At⟩, (tok_o (by decide)).trans e1, e2, (tok_o (by decide)).trans e3⟩
theorem ErQ.fail (h : ErQ B n T R e) {c : Int32} : failC R c = R := if_neg (by rw [h.2.2.1]; exact h.2.2.2.1)
end
theorem byte255 (y : Int32) : y.toInt8.toInt32.toInt8.toInt32 &&& 255 = y &&& 255 := by
  apply Int32.toBitVec_inj.mp
  rw [Int32.toBitVec_and, Int32.toBitVec_and, Int8.toBitVec_toInt32, Int32.toBitVec_toInt8, Int8.toBitVec_toInt32, Int32.toBitVec_toInt8]
  apply BitVec.eq_of_getLsbD_eq
  intro i hi
  rw [BitVec.getLsbD_and, BitVec.getLsbD_and]
  have h255 : ∀ i, i < 32 → ((255 : Int32).toBitVec.getLsbD i = decide (i < 8)) := by decide
  rw [h255 i hi]
  by_cases h8 : i < 8
  · simp only [BitVec.getLsbD_signExtend, h8, hi, if_true, decide_true, Bool.true_and, Bool.and_true]
  · simp [h8]
/-- a byte as the class keeps it -/
def cby (x : Int32) (s : Int32) : Int32 := (x >>> (s &&& 31)).toInt8.toInt32.toInt8.toInt32
def apB (T : ZD) (b : Nat) (x : Int32) : ZD := upd (upd (upd (upd T b (cby x 24)) (b + 1) (cby x 16)) (b + 2) (cby x 8)) (b + 3) (cby x 0)
set_option maxRecDepth 100000 in
set_option maxHeartbeats 4000000 in
theorem le_X3_readSetup {l : Launch} {Γ : ZG} {w : ZW} {r : Nat} {B : ZB} {n : Nat} {T : ZD} (hB : BB T n = B) (hT : TB B n) (hr : r + 12 ≤ w.1) {e : Int32 × Nat} {R : RS} {x : Int32} (h : ErQ B n T R e) : Go l Γ mX3_readSetup 24 3 614 (RdP Γ w r T (.inl e)) zNo 0 0 (wZ Γ w r R) 88 [(0, .ref r), (2, .int x)] [] := by
  refine go_iload_n 89 dX3_readSetup_88 rfl ?_
  refine go_aload_n 90 dX3_readSetup_89 rfl ?_
  refine xs_get 93 dX3_readSetup_90 fX3_30 rfl ?_
  refine go_icmp_ge 126 96 dX3_readSetup_93 (fun h93 => ?_) (fun h93 => ?_)
  · refine go_aload_n 127 dX3_readSetup_126 rfl ?_
    refine xs_get 130 dX3_readSetup_127 fX3_49 rfl ?_
    refine go_if_ne 184 133 dX3_readSetup_130 (fun h130 => ?_) (fun h130 => ?_)
    · refine go_aload_n 185 dX3_readSetup_184 rfl ?_
      refine xs_get 188 dX3_readSetup_185 fX3_49 rfl ?_
      exact go_ireturn dX3_readSetup_188 rfl (by omega) (by omega) (⟨congrArg (fun z => some (Value.int z)) h.2.2.1, h.2.2.2.1, R, rfl, h.1.1, h.1.2.1, h.2.2.2.2⟩)
    · exact absurd (by first | exact h130 | exact Classical.not_not.mp h130) (by rw [h.2.2.1]; exact h.2.2.2.1)
  · refine go_aload_n 97 dX3_readSetup_96 rfl ?_
    refine xs_get 100 dX3_readSetup_97 fX3_49 rfl ?_
    refine go_if_ne 126 103 dX3_readSetup_100 (fun h100 => ?_) (fun h100 => ?_)
    · refine go_aload_n 127 dX3_readSetup_126 rfl ?_
      refine xs_get 130 dX3_readSetup_127 fX3_49 rfl ?_
      refine go_if_ne 184 133 dX3_readSetup_130 (fun h130 => ?_) (fun h130 => ?_)
      · refine go_aload_n 185 dX3_readSetup_184 rfl ?_
        refine xs_get 188 dX3_readSetup_185 fX3_49 rfl ?_
        exact go_ireturn dX3_readSetup_188 rfl (by omega) (by omega) (⟨congrArg (fun z => some (Value.int z)) h.2.2.1, h.2.2.2.1, R, rfl, h.1.1, h.1.2.1, h.2.2.2.2⟩)
      · exact absurd (by first | exact h130 | exact Classical.not_not.mp h130) (by rw [h.2.2.1]; exact h.2.2.2.1)
    · exact absurd (by first | exact h100 | exact Classical.not_not.mp h100) (by rw [h.2.2.1]; exact h.2.2.2.1)
set_option maxRecDepth 100000 in
set_option maxHeartbeats 4000000 in
theorem lf_X3_readSetup {l : Launch} {Γ : ZG} {w : ZW} {r : Nat} {B : ZB} {n : Nat} {T : ZD} (hB : BB T n = B) (hT : TB B n) (hr : r + 12 ≤ w.1) {R : RS} {q : Nat} {G : ZD} {a b c : Bool} {cs : List Int32} (h : OkQ B n T R q G (a, b, c) cs) (hq : QInv (q, G, (a, b, c), cs)) (hne : c = true → cs ≠ []) : Go l Γ mX3_readSetup 24 3 614 (RdP Γ w r T (.inr (q, G, (a, b, c), cs))) zNo 0 0 (wZ Γ w r R) 126 [(0, .ref r)] [] := by
  have hn6 := hT.1
  refine go_aload_n 127 dX3_readSetup_126 rfl ?_
  refine xs_get 130 dX3_readSetup_127 fX3_49 rfl ?_
  refine go_if_ne 184 133 dX3_readSetup_130 (fun h130 => ?_) (fun h130 => ?_)
  · exact absurd h.2.2.1.1 h130
  · refine go_aload_n 134 dX3_readSetup_133 rfl ?_
    refine xs_get 137 dX3_readSetup_134 fX3_46 rfl ?_
    refine go_if_eq 184 140 dX3_readSetup_137 (fun h137 => ?_) (fun h137 => ?_)
    · refine go_aload_n 185 dX3_readSetup_184 rfl ?_
      refine xs_get 188 dX3_readSetup_185 fX3_49 rfl ?_
      exact go_ireturn dX3_readSetup_188 rfl (by omega) (by omega) (⟨congrArg (fun z => some (Value.int z)) h.2.2.1.1, R, w, none, rfl, h.1.1, h.1.2.1, h.2.2.1.2, h.2.2.2.1.1, h.2.2.2.1.2, Or.inl ⟨rfl, rfl, hq.2.2.2.1 (bI_f (h.2.2.2.2.2.2.2.symm.trans (by first | exact h137 | exact Classical.not_not.mp h137)))⟩, hq⟩)
    · refine go_aload_n 141 dX3_readSetup_140 rfl ?_
      refine xs_get 144 dX3_readSetup_141 fX3_36 rfl ?_
      refine go_if_lt 184 147 dX3_readSetup_144 (fun h144 => ?_) (fun h144 => ?_)
      · exact absurd h144 (by rw [h.2.2.2.2.1.1]; exact nI_pos (by have := h.2.2.2.2.1.2.1; have := h.2.1.2; omega))
      · refine go_aload_n 148 dX3_readSetup_147 rfl ?_
        refine xs_get 151 dX3_readSetup_148 fX3_36 rfl ?_
        refine go_aload_n 152 dX3_readSetup_151 rfl ?_
        refine xs_get 155 dX3_readSetup_152 fX3_22 rfl ?_
        refine go_alen (t0 := 0) (v := 600) 156 dX3_readSetup_155 wZ_at11 rfl rfl ?_
        refine go_icmp_gt 184 159 dX3_readSetup_156 (fun h156 => ?_) (fun h156 => ?_)
        · exact absurd h156 (by rw [h.2.2.2.2.1.1]; exact Int32.not_lt.mpr (nI_le (b := 600) (by have := h.2.2.2.2.1.2.1; have := h.2.1.2; omega) (by decide)))
        · have hc : c = true := by
            cases c with
            | true => rfl
            | false => exact absurd h.2.2.2.2.2.2.2 h137
          have hcn := hne hc
          have hl := h.2.2.2.2.1
          have hq9 := h.2.1.2
          have hK : cs.length < 600 := by omega
          refine go_aload_n 160 dX3_readSetup_159 rfl ?_
          refine xs_get 163 dX3_readSetup_160 fX3_18 rfl ?_
          refine go_new (N := 3) 166 dX3_readSetup_163 nX3_81 (by decide) (by decide) ?_
          refine go_dup 167 dX3_readSetup_166 rfl ?_
          refine go_aload_n 168 dX3_readSetup_167 rfl ?_
          refine go_get 171 dX3_readSetup_168 fX3_22 ((wnew_o (by show r ≠ w.1; omega)).trans wZ_at0) rfl ?_
          refine go_aload_n 172 dX3_readSetup_171 rfl ?_
          refine go_get 175 dX3_readSetup_172 fX3_36 ((wnew_o (by show r ≠ w.1; omega)).trans wZ_at0) rfl ?_
          rw [hl.1]
          refine go_callS (As := [.ref (r + 11), .int (nI cs.length)]) 178 dX3_readSetup_175 vX3_83 rfl (ct_J7_copyOf (f := R.2.2.2) ((wnew_o (by show r + 11 ≠ w.1; omega)).trans wZ_at11) hK (by show r + 11 ≠ w.1 + 1; omega)) (by decide) (by decide) (by decide) (by decide) (by exact Nat.le_of_ble_eq_true rfl) (fun v9 w9 h9 => ?_)
          obtain ⟨rfl, rfl⟩ := h9
          refine go_callI (As := [.ref (w.1 + 1)]) 181 dX3_readSetup_178 vX3_89 (ct_X2_init ((wnew_o (by show w.1 ≠ w.1 + 1; omega)).trans wnew_at) (by show w.1 ≠ w.1 + 1 + 1; omega)) (by decide) (by decide) (by decide) (by decide) (by exact Nat.le_of_ble_eq_true rfl) (fun v9 w9 h9 => ?_)
          obtain ⟨rfl, rfl⟩ := h9
          refine go_w (rgN_eq hr) ?_
          refine go_w wZ_self.symm (xe_putR (some w.1) 184 dX3_readSetup_181 pX3_92 ?_)
          rw [wZ_E]
          refine go_aload_n 185 dX3_readSetup_184 rfl ?_
          refine xs_get 188 dX3_readSetup_185 fX3_49 rfl ?_
          refine go_ireturn dX3_readSetup_188 rfl (by decide) (by decide) ⟨congrArg (fun z => some (Value.int z)) h.2.2.1.1, _, rgN Γ w cs.length (va_cpy R.2.2.2 (fun _ => 0) 0 0 cs.length), some w.1, rfl, h.1.1, h.1.2.1, h.2.2.1.2, h.2.2.2.1.1, rfl, Or.inr ⟨rfl, hcn, (show cs.length ≤ 600 by omega), hq.2.2.2.2.1.resolve_left hcn, _, rfl, fun j hj => ?_⟩, hq⟩
          have hj : j < cs.length := hj
          show _ = cs.getD j 0
          rw [← hl.2.2 j hj]
          show (if 0 ≤ j ∧ j < 0 + cs.length then R.2.2.2 (0 + (j - 0)) else 0) = _
          rw [if_pos (by omega), Nat.zero_add, Nat.sub_zero]
set_option maxRecDepth 100000 in
set_option maxHeartbeats 4000000 in
theorem lp_X3_readSetup {l : Launch} {Γ : ZG} {w : ZW} {r : Nat} {B : ZB} {n : Nat} {T : ZD} (hB : BB T n = B) (hT : TB B n) (hr : r + 12 ≤ w.1) {Rs : PR QS} : ∀ (f i : Nat) (R : RS) (q : Nat) (G : ZD) (a b c : Bool) (cs : List Int32), OkQ B n T R q G (a, b, c) cs → QInv (q, G, (a, b, c), cs) → (c = true → cs ≠ []) → i ≤ q → 601 ≤ q + f → stms B f (q, G, (a, b, c), cs) = Rs → Go l Γ mX3_readSetup 24 3 614 (RdP Γ w r T Rs) zNo 0 0 (wZ Γ w r R) 88 [(0, .ref r), (2, .int (nI i))] [] := by
  have hn6 := hT.1
  intro f
  induction f with
  | zero =>
    intro i R q G a b c cs h hq hne hi hf he
    have := h.2.1.2
    omega
  | succ f ih =>
    intro i R q G a b c cs h hq hne hi hf he
    have hqn := h.2.1.2
    refine go_iload_n 89 dX3_readSetup_88 rfl ?_
    refine go_aload_n 90 dX3_readSetup_89 rfl ?_
    refine xs_get 93 dX3_readSetup_90 fX3_30 rfl ?_
    refine go_icmp_ge 126 96 dX3_readSetup_93 (fun h93 => ?_) (fun h93 => ?_)
    · have hb0 : B q = -1 := by
        first
        | exact (tk_0 hT).mp ((tk_eq h.2.1.1 (k := 0) (by decide)).mp (by first | exact h107 | exact Classical.not_not.mp h107))
        | exact hT.2.1 q (by
            have z : R.1 5 ≤ nI i := by first | exact h93 | exact Classical.not_not.mp h93
            rw [h.1.2.2] at z
            have := (nI_leI (by omega) (by omega)).mp z
            omega)
      have hs0 : stms B (f + 1) (q, G, (a, b, c), cs) = .inr (q, G, (a, b, c), cs) := if_pos hb0
      rw [hs0] at he
      subst he
      exact go_locals [(0, .ref r)] rfl (lf_X3_readSetup hB hT hr h hq hne)
    · refine go_aload_n 97 dX3_readSetup_96 rfl ?_
      refine xs_get 100 dX3_readSetup_97 fX3_49 rfl ?_
      refine go_if_ne 126 103 dX3_readSetup_100 (fun h100 => ?_) (fun h100 => ?_)
      · exact absurd h.2.2.1.1 h100
      · refine go_aload_n 104 dX3_readSetup_103 rfl ?_
        refine xs_get 107 dX3_readSetup_104 fX3_75 rfl ?_
        refine go_if_eq 126 110 dX3_readSetup_107 (fun h107 => ?_) (fun h107 => ?_)
        · have hb0 : B q = -1 := by
            first
            | exact (tk_0 hT).mp ((tk_eq h.2.1.1 (k := 0) (by decide)).mp (by first | exact h107 | exact Classical.not_not.mp h107))
            | exact hT.2.1 q (by
                have z : R.1 5 ≤ nI i := by first | exact h93 | exact Classical.not_not.mp h93
                rw [h.1.2.2] at z
                have := (nI_leI (by omega) (by omega)).mp z
                omega)
          have hs0 : stms B (f + 1) (q, G, (a, b, c), cs) = .inr (q, G, (a, b, c), cs) := if_pos hb0
          rw [hs0] at he
          subst he
          exact go_locals [(0, .ref r)] rfl (lf_X3_readSetup hB hT hr h hq hne)
        · have hb0 : ¬ B q = -1 := fun z => h107 (h.2.1.1.2.1.trans (congrArg nI ((tk_0 hT).mpr z)))
          refine go_aload_n 111 dX3_readSetup_110 rfl ?_
          refine gz0v 114 dX3_readSetup_111 vX3_78 rfl (cx_X3_readStatement hB hT h hq.1.1 hq.1.2 ⟨hq.2.1 5 (by omega), hq.2.1 6 (by omega)⟩) (fun R2 r2 => ?_) (by decide)
          refine go_aload_n 115 dX3_readSetup_114 rfl ?_
          refine go_bipush 117 dX3_readSetup_115 zb_59 ?_
          have hs0 : stms B (f + 1) (q, G, (a, b, c), cs) = (match stm B (q, G, (a, b, c), cs) with
            | .inl e => .inl e
            | .inr s2 => if B s2.1 = 59 then stms B f (sp B (s2.1 + 1), s2.2) else .inl (-2, s2.1)) := if_neg hb0
          rw [hs0] at he
          cases hst : stm B (q, G, (a, b, c), cs) with
          | inl e =>
            rw [hst] at r2 he
            have r2 : ErQ B n T R2 e := r2
            have he : (Sum.inl e : PR QS) = Rs := he
            subst he
            obtain ⟨q9, hq9, hA9⟩ := r2.2.1
            refine gcV1v 120 dX3_readSetup_117 vX3_71 wZ_at0 rfl (ct_X3_takeSign (q := q9) r2.1.2.2 (by rw [r2.1.1]; exact hB) hT hA9 hq9 sg_59) ?_
            refine go_iinc 123 dX3_readSetup_120 rfl (by decide) zc_1 ?_
            refine go_goto 88 dX3_readSetup_123 ?_
            rw [r2.fail]
            refine go_locals _ rfl (le_X3_readSetup hB hT hr (e := e) ?_)
            split
            · exact r2.tok (sp_le hT (ps_le hT hq9).1)
            · exact r2.tok (sp_le hT (ps_le hT hq9).1)
          | inr s2 =>
            obtain ⟨q2, G2, ⟨a2, b2, c2⟩, cs2⟩ := s2
            rw [hst] at r2 he
            have r2 : OkQ B n T R2 q2 G2 (a2, b2, c2) cs2 := r2
            have he : (if B q2 = 59 then stms B f (sp B (q2 + 1), G2, (a2, b2, c2), cs2) else .inl (-2, q2)) = Rs := he
            obtain ⟨hq2, hlt, hn2⟩ := stm_ok hT (show (q, G, (a, b, c), cs).1 ≤ n from h.2.1.2) hq hst
            have hlt : q < q2 := hlt
            have hn2 : q2 ≤ n := hn2
            have hne2 := stm_ne hT (show (q, G, (a, b, c), cs).1 ≤ n from h.2.1.2) hst hne
            refine gcV1v 120 dX3_readSetup_117 vX3_71 wZ_at0 rfl (ct_X3_takeSign (q := q2) r2.1.2.2 (by rw [r2.1.1]; exact hB) hT r2.2.1.1 r2.2.1.2 sg_59) ?_
            refine go_iinc 123 dX3_readSetup_120 rfl (by decide) zc_1 ?_
            refine go_goto 88 dX3_readSetup_123 ?_
            by_cases hs9 : B q2 = 59
            · rw [if_pos hs9]
              rw [if_pos hs9] at he
              have hps := ps_sgn hT sg_59 hs9
              have hsn := sp_le hT (show q2 + 1 ≤ n by omega)
              have hsg := sp_ge (B := B) (p := q2 + 1)
              rw [hps.1, nI_1]
              exact go_locals [(0, .ref r), (2, .int (nI (i + 1)))] rfl (ih (i + 1) _ (sp B (q2 + 1)) G2 a2 b2 c2 cs2 (r2.tok (by omega) hsn) hq2 hne2 (by omega) (by omega) he)
            · rw [if_neg hs9]
              rw [if_neg hs9] at he
              subst he
              exact go_locals [(0, .ref r), (2, .int (nI i + 1))] rfl (le_X3_readSetup hB hT hr (((r2.fail (c := -2) (by decide))).tok (sp_le hT (ps_le hT hn2).1)))
set_option maxRecDepth 100000 in
set_option maxHeartbeats 4000000 in
theorem cx_X3_readSetup {l : Launch} {Γ : ZG} {w : ZW} {r : Nat} {B : ZB} {n : Nat} {R : RS} (hB : BB R.2.1 n = B) (hT : TB B n) (hr : r + 12 ≤ w.1) : Ct l Γ mX3_readSetup 24 3 614 [.ref r, .int (nI n)] (wZ Γ w r R) (RdP Γ w r R.2.1 (prs B)) zNo := by
  have hn6 := hT.1
  have hs0 := sp_le hT (Nat.zero_le n)
  refine Ct.of (by decide) rfl (Nat.le_of_ble_eq_true rfl) ?_
  refine go_aload_n 1 dX3_readSetup_0 rfl ?_
  refine go_iconst 2 dX3_readSetup_1 zc_0 ?_
  refine xs_put 1 5 dX3_readSetup_2 pX3_26 (by decide) rfl rfl ?_
  refine go_aload_n 6 dX3_readSetup_5 rfl ?_
  refine go_iload_n 7 dX3_readSetup_6 rfl ?_
  refine xs_put 5 10 dX3_readSetup_7 pX3_30 (by decide) rfl rfl ?_
  refine go_aload_n 11 dX3_readSetup_10 rfl ?_
  refine go_iconst 12 dX3_readSetup_11 zc_0 ?_
  refine xs_put 6 15 dX3_readSetup_12 pX3_33 (by decide) rfl rfl ?_
  refine go_aload_n 16 dX3_readSetup_15 rfl ?_
  refine go_iconst 17 dX3_readSetup_16 zc_0 ?_
  refine xs_put 4 20 dX3_readSetup_17 pX3_36 (by decide) rfl rfl ?_
  refine go_aload_n 21 dX3_readSetup_20 rfl ?_
  refine go_iconst 22 dX3_readSetup_21 zc_0 ?_
  refine xs_put 10 25 dX3_readSetup_22 pX3_39 (by decide) rfl rfl ?_
  refine go_aload_n 26 dX3_readSetup_25 rfl ?_
  refine go_iconst 27 dX3_readSetup_26 zc_0 ?_
  refine xs_put 11 30 dX3_readSetup_27 pX3_43 (by decide) rfl rfl ?_
  refine go_aload_n 31 dX3_readSetup_30 rfl ?_
  refine go_iconst 32 dX3_readSetup_31 zc_0 ?_
  refine xs_put 12 35 dX3_readSetup_32 pX3_46 (by decide) rfl rfl ?_
  refine go_aload_n 36 dX3_readSetup_35 rfl ?_
  refine go_iconst 37 dX3_readSetup_36 zc_0 ?_
  refine xs_put 13 40 dX3_readSetup_37 pX3_49 (by decide) rfl rfl ?_
  refine go_aload_n 41 dX3_readSetup_40 rfl ?_
  refine go_iconst 42 dX3_readSetup_41 zc_m1 ?_
  refine xs_put 14 45 dX3_readSetup_42 pX3_52 (by decide) rfl rfl ?_
  refine go_aload_n 46 dX3_readSetup_45 rfl ?_
  refine xs_get 49 dX3_readSetup_46 fX3_18 rfl ?_
  refine gcV0v 52 dX3_readSetup_49 vX3_55 (wZ_ex 0 (by decide)) rfl (by rw [← wZ_self]; exact cx_X0_clear) ?_
  rw [wZ_E]
  refine go_aload_n 53 dX3_readSetup_52 rfl ?_
  refine gcV0v 56 dX3_readSetup_53 vX3_58 wZ_at0 rfl (ct_X3_nextToken (R := (rE (rF (rF (rF (rF (rF (rF (rF (rF (rF R 1 0) 5 (nI n)) 6 0) 4 0) 10 0) 11 0) 12 0) 13 0) 14 (-1)) (clE R.2.2.1))) (p := 0) rfl hB hT rfl (Nat.zero_le _)) ?_
  refine go_aload_n 57 dX3_readSetup_56 rfl ?_
  refine go_ldcS 59 dX3_readSetup_57 sX3_61 ?_
  refine gcV1 62 dX3_readSetup_59 vX3_63 wZ_at0 rfl (ct_X3_atWord (R := (tokR B n (rE (rF (rF (rF (rF (rF (rF (rF (rF (rF R 1 0) 5 (nI n)) 6 0) 4 0) 10 0) 11 0) 12 0) 13 0) 14 (-1)) (clE R.2.2.1)) (sp B 0))) rfl hB hT tok_At hs0 sX3_61 lt_exchange) ?_
  refine go_if_ne 76 65 dX3_readSetup_62 (fun h62 => ?_) (fun h62 => ?_)
  · have hw := zb_1 h62
    have hpw := ps_wd hT lt_exchange hw
    have hq5 : sp B 0 + 8 ≤ n := by have := (ps_le hT hs0).1; rw [hpw.1] at this; exact this
    have hs1 := sp_le hT hq5
    have hg1 := sp_ge (B := B) (p := sp B 0 + 8)
    have hR3 : ((tokR B n (rE (rF (rF (rF (rF (rF (rF (rF (rF (rF R 1 0) 5 (nI n)) 6 0) 4 0) 10 0) 11 0) 12 0) 13 0) 14 (-1)) (clE R.2.2.1)) (sp B 0))).1 6 = nI (sp B 0 + 8) := (tok_At (B := B)).2.2.1.trans (congrArg nI hpw.1)
    refine go_aload_n 77 dX3_readSetup_76 rfl ?_
    refine gcV0v 80 dX3_readSetup_77 vX3_58 wZ_at0 rfl (ct_X3_nextToken (R := (tokR B n (rE (rF (rF (rF (rF (rF (rF (rF (rF (rF R 1 0) 5 (nI n)) 6 0) 4 0) 10 0) 11 0) 12 0) 13 0) 14 (-1)) (clE R.2.2.1)) (sp B 0))) (p := sp B 0 + 8) rfl hB hT hR3 hq5) ?_
    refine go_aload_n 81 dX3_readSetup_80 rfl ?_
    refine go_bipush 83 dX3_readSetup_81 zb_59 ?_
    have ok1 : OkQ B n R.2.1 (tokR B n (tokR B n (rE (rF (rF (rF (rF (rF (rF (rF (rF (rF R 1 0) 5 (nI n)) 6 0) 4 0) 10 0) 11 0) 12 0) 13 0) 14 (-1)) (clE R.2.2.1)) (sp B 0)) (sp B (sp B 0 + 8))) (sp B (sp B 0 + 8)) usual (false, false, false) [] := ⟨⟨rfl, rfl, rfl⟩, ⟨tok_At, hs1⟩, ⟨rfl, rfl⟩, clE_rel, ⟨rfl, by show 0 + 1 ≤ _; omega, fun j hj => absurd hj (Nat.not_lt_zero j)⟩, rfl, rfl, rfl⟩
    refine gcV1v 86 dX3_readSetup_83 vX3_71 wZ_at0 rfl (ct_X3_takeSign (q := sp B (sp B 0 + 8)) ok1.1.2.2 hB hT ok1.2.1.1 hs1 sg_59) ?_
    refine go_iconst 87 dX3_readSetup_86 zc_0 ?_
    refine go_istore_n 88 dX3_readSetup_87 (by decide) ?_
    have hpr : prs B = (if B (sp B (sp B 0 + 8)) = 59 then stms B 601 (sp B (sp B (sp B 0 + 8) + 1), usual, (false, false, false), []) else .inl (-2, sp B (sp B 0 + 8))) := if_pos hw
    rw [hpr]
    by_cases hs9 : B (sp B (sp B 0 + 8)) = 59
    · rw [if_pos hs9, if_pos hs9]
      have hps := ps_sgn hT sg_59 hs9
      have hsn := sp_le hT (show sp B (sp B 0 + 8) + 1 ≤ n by omega)
      have hsg := sp_ge (B := B) (p := sp B (sp B 0 + 8) + 1)
      rw [hps.1]
      exact go_locals [(0, .ref r), (2, .int (nI 0))] rfl (lp_X3_readSetup hB hT hr 601 0 _ _ usual false false false [] (ok1.tok (by omega) hsn) usual_q (fun z => absurd z (by decide)) (Nat.zero_le _) (by omega) rfl)
    · rw [if_neg hs9, if_neg hs9]
      exact go_locals [(0, .ref r), (2, .int 0)] rfl (le_X3_readSetup hB hT hr ((ok1.fail (c := -2) (by decide)).tok (sp_le hT (ps_le hT hs1).1)))
  · refine go_aload_n 66 dX3_readSetup_65 rfl ?_
    refine go_bipush 68 dX3_readSetup_66 zb_m2 ?_
    refine gcV1v 71 dX3_readSetup_68 vX3_67 wZ_at0 rfl (ct_X3_fail) ?_
    refine go_aload_n 72 dX3_readSetup_71 rfl ?_
    refine xs_get 75 dX3_readSetup_72 fX3_49 rfl ?_
    exact go_ireturn dX3_readSetup_75 rfl (by decide) (by decide) (by
      have hpr : prs B = .inl (-2, sp B 0) := if_neg (zb_0 (by first | exact h62 | exact Classical.not_not.mp h62))
      rw [hpr]
      have ef : failC (tokR B n (rE (rF (rF (rF (rF (rF (rF (rF (rF (rF R 1 0) 5 (nI n)) 6 0) 4 0) 10 0) 11 0) 12 0) 13 0) 14 (-1)) (clE R.2.2.1)) (sp B 0)) (-2) = rF (rF (tokR B n (rE (rF (rF (rF (rF (rF (rF (rF (rF (rF R 1 0) 5 (nI n)) 6 0) 4 0) 10 0) 11 0) 12 0) 13 0) 14 (-1)) (clE R.2.2.1)) (sp B 0)) 13 (-2)) 14 ((tokR B n (rE (rF (rF (rF (rF (rF (rF (rF (rF (rF R 1 0) 5 (nI n)) 6 0) 4 0) 10 0) 11 0) 12 0) 13 0) 14 (-1)) (clE R.2.2.1)) (sp B 0)).1 8) := if_pos rfl
      rw [ef]
      exact ⟨rfl, (show (-2 : Int32) ≠ 0 by decide), _, rfl, rfl, rfl, rfl⟩)
set_option maxRecDepth 100000 in
set_option maxHeartbeats 4000000 in
theorem st_X3_addWord {l : Launch} {Γ : ZG} {w : ZW} {r b : Nat} {R : RS} {x s : Int32} {Φ : Option Value → ZW → Prop} (hb : R.1 1 = nI b) (hb6 : b < 600) (hs : ¬ s < 0) (kk : Go l Γ mX3_addWord 1 0 0 Φ zNo 0 0 (wZ Γ w r (rF (rT R (upd R.2.1 b (cby x s))) 1 (nI (b + 1)))) 3 [(0, .ref r), (1, .int x), (2, .int (s + -8))] []) : Go l Γ mX3_addWord 1 0 0 Φ zNo 0 0 (wZ Γ w r R) 3 [(0, .ref r), (1, .int x), (2, .int s)] [] := by
  refine go_iload_n 4 dX3_addWord_3 rfl ?_
  refine go_if_lt 55 7 dX3_addWord_4 (fun h4 => ?_) (fun h4 => ?_)
  · exact absurd h4 hs
  · refine go_aload_n 8 dX3_addWord_7 rfl ?_
    refine xs_get 11 dX3_addWord_8 fX3_26 rfl ?_
    refine go_if_lt 49 14 dX3_addWord_11 (fun h11 => ?_) (fun h11 => ?_)
    · exact absurd h11 (by rw [hb]; exact nI_pos (by omega))
    · refine go_aload_n 15 dX3_addWord_14 rfl ?_
      refine xs_get 18 dX3_addWord_15 fX3_26 rfl ?_
      refine go_aload_n 19 dX3_addWord_18 rfl ?_
      refine xs_get 22 dX3_addWord_19 fX3_9 rfl ?_
      refine go_alen (t0 := 1) (v := 600) 23 dX3_addWord_22 wZ_at1 rfl rfl ?_
      refine go_icmp_ge 49 26 dX3_addWord_23 (fun h23 => ?_) (fun h23 => ?_)
      · exact absurd h23 (by rw [hb]; exact nI_ge (b := 600) hb6 (by decide))
      · refine go_aload_n 27 dX3_addWord_26 rfl ?_
        refine xs_get 30 dX3_addWord_27 fX3_9 rfl ?_
        refine go_aload_n 31 dX3_addWord_30 rfl ?_
        refine xs_get 34 dX3_addWord_31 fX3_26 rfl ?_
        refine go_iload_n 35 dX3_addWord_34 rfl ?_
        refine go_iload_n 36 dX3_addWord_35 rfl ?_
        refine go_ishr 37 dX3_addWord_36 ?_
        refine go_i2b 38 dX3_addWord_37 ?_
        rw [hb]
        refine go_bast 39 dX3_addWord_38 wZ_at1 (vp_in_nI hb6 (by decide)) ?_
        rw [nI_clamp (by omega), vp_nar_byte, wZ_T]
        refine go_aload_n 40 dX3_addWord_39 rfl ?_
        refine go_dup 41 dX3_addWord_40 rfl ?_
        refine xs_get 44 dX3_addWord_41 fX3_26 rfl ?_
        refine go_iconst 45 dX3_addWord_44 zc_1 ?_
        refine go_iadd 46 dX3_addWord_45 ?_
        refine xs_put 1 49 dX3_addWord_46 pX3_26 (by decide) rfl rfl ?_
        refine go_iinc 52 dX3_addWord_49 rfl (by decide) zb_m8 ?_
        refine go_goto 3 dX3_addWord_52 ?_
        refine go_w (w' := wZ Γ w r (rF (rT R (upd R.2.1 b (cby x s))) 1 (nI (b + 1)))) (by rw [← nI_1, ← hb]; rfl) (go_locals [(0, .ref r), (1, .int x), (2, .int (s + -8))] rfl kk)
set_option maxRecDepth 100000 in
set_option maxHeartbeats 4000000 in
theorem ct_X3_addWord {l : Launch} {Γ : ZG} {w : ZW} {r b : Nat} {R : RS} {x : Int32} (hb : R.1 1 = nI b) (hb6 : b + 4 ≤ 600) : Cm l Γ mX3_addWord 1 [.ref r, .int x] (wZ Γ w r R) none (wZ Γ w r (rF (rT R (apB R.2.1 b x)) 1 (nI (b + 4)))) := by
  refine Cm.of (by decide) rfl (Nat.le_of_ble_eq_true rfl) ?_
  refine go_bipush 2 dX3_addWord_0 zb_24 ?_
  refine go_istore_n 3 dX3_addWord_2 (by decide) ?_
  refine go_locals [(0, .ref r), (1, .int x), (2, .int 24)] rfl (st_X3_addWord hb (by omega) (by decide) ?_)
  refine go_locals [(0, .ref r), (1, .int x), (2, .int 16)] rfl (st_X3_addWord (b := b + 1) rfl (by omega) (by decide) ?_)
  refine go_locals [(0, .ref r), (1, .int x), (2, .int 8)] rfl (st_X3_addWord (b := b + 2) rfl (by omega) (by decide) ?_)
  refine go_locals [(0, .ref r), (1, .int x), (2, .int 0)] rfl (st_X3_addWord (b := b + 3) rfl (by omega) (by decide) ?_)
  refine go_iload_n 4 dX3_addWord_3 rfl ?_
  refine go_if_lt 55 7 dX3_addWord_4 (fun h4 => ?_) (fun h4 => ?_)
  · refine go_w ?_ (go_return dX3_addWord_55 rfl (by omega) (by omega) ⟨rfl, rfl⟩)
    congr 1
    refine Prod.ext (funext fun j => ?_) rfl
    show upd (upd (upd (upd R.1 1 (nI (b + 1))) 1 (nI (b + 2))) 1 (nI (b + 3))) 1 (nI (b + 4)) j = upd R.1 1 (nI (b + 4)) j
    by_cases h : j = 1
    · subst h; rw [pk_us, pk_us]
    · rw [pk_un h, pk_un h, pk_un h, pk_un h, pk_un h]
  · exact absurd (by decide) h4
set_option maxRecDepth 100000 in
set_option maxHeartbeats 4000000 in
theorem ct_X3_hasRoomFor {l : Launch} {Γ : ZG} {w : ZW} {r : Nat} {R : RS} {x : Int32} : Cm l Γ mX3_hasRoomFor 1 [.ref r, .int x] (wZ Γ w r R) (some (.int (zb (R.1 1 + x ≤ 600)))) (wZ Γ w r R) := by
  refine Cm.of (by decide) rfl (Nat.le_of_ble_eq_true rfl) ?_
  refine go_aload_n 1 dX3_hasRoomFor_0 rfl ?_
  refine xs_get 4 dX3_hasRoomFor_1 fX3_26 rfl ?_
  refine go_iload_n 5 dX3_hasRoomFor_4 rfl ?_
  refine go_iadd 6 dX3_hasRoomFor_5 ?_
  refine go_aload_n 7 dX3_hasRoomFor_6 rfl ?_
  refine xs_get 10 dX3_hasRoomFor_7 fX3_9 rfl ?_
  refine go_alen (t0 := 1) (v := 600) 11 dX3_hasRoomFor_10 wZ_at1 rfl rfl ?_
  refine go_icmp_gt 18 14 dX3_hasRoomFor_11 (fun h11 => ?_) (fun h11 => ?_)
  · refine go_iconst 19 dX3_hasRoomFor_18 zc_0 ?_
    exact go_zreturn dX3_hasRoomFor_19 rfl (by omega) (by omega) (Or.inl rfl) (⟨by rw [zb_f (Int32.not_le.mpr h11)], rfl⟩)
  · refine go_iconst 15 dX3_hasRoomFor_14 zc_1 ?_
    refine go_goto 19 dX3_hasRoomFor_15 ?_
    exact go_zreturn dX3_hasRoomFor_19 rfl (by omega) (by omega) (Or.inr rfl) (⟨by rw [zb_t (Int32.not_lt.mp h11)], rfl⟩)
end CLoad
