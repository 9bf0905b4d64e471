section LBegM
/-- the longer row of calls -/
def NTp (Γ : ZG) (w0 w : ZW) (T : LT) (A : LA) (D : ZD) (t nt : Nat) : Prop := ∃ h9, Nc w0 w T nt (q5 Γ 8 (nC D + 1) h9) 0 ∧ (∀ c, c < nC D → h9 c = some (A 1 c)) ∧ h9 (nC D) = some t
theorem NTp.go {Γ : ZG} {w0 w w1 : ZW} {T T1 : LT} {A : LA} {D : ZD} {t nt : Nat} {P : Nat → Prop} (h : NTp Γ w0 w T A D t nt) (k : Kq w T w1 T1 P) (h0 : P 0) : NTp Γ w0 w1 T1 A D t nt := by
  obtain ⟨h9, n1, n2⟩ := h
  exact ⟨h9, n1.go k h0, n2⟩

set_option maxRecDepth 100000 in
set_option maxHeartbeats 4000000 in
theorem lp1_begins {l : Launch} {Γ : ZG} {e t k n : Nat} {p x : Int32} {r : Value} {w : ZW} {Φ : Option Value → ZW → Prop} {F : Int32} (kk : Go l Γ mX6_begins 4 40 210 Φ zNo k n w 39 [(0, .ref e), (1, .int p), (2, .int x), (3, r), (4, .ref t), (5, .int F)] []) : ∀ (f i : Nat) (a : Int32), i + f = 10 → bcnt x i f a = F → k ≤ 40 → n ≤ 210 → Go l Γ mX6_begins 4 40 210 Φ zNo k n w 15 [(0, .ref e), (1, .int p), (2, .int x), (3, r), (4, .ref t), (5, .int a), (6, .int (nI i))] [] := by
  intro f
  induction f with
  | zero =>
    intro i a hi hF hk hn
    have hF : a = F := hF
    refine go_iload 17 dX6_begins_15 rfl ?_
    refine go_bipush 19 dX6_begins_17 zb_10 ?_
    refine go_icmp_ge 39 22 dX6_begins_19 (fun h19 => ?_) (fun h19 => ?_)
    · subst hF
      exact go_locals _ rfl kk
    · refine go_iload 24 dX6_begins_22 rfl ?_
      refine go_iload_n 25 dX6_begins_24 rfl ?_
      refine go_iload 27 dX6_begins_25 rfl ?_
      refine go_ishr 28 dX6_begins_27 ?_
      refine go_iconst 29 dX6_begins_28 zc_1 ?_
      refine go_iand 30 dX6_begins_29 ?_
      refine go_iadd 31 dX6_begins_30 ?_
      refine go_istore 33 dX6_begins_31 (by decide) ?_
      refine go_iinc 36 dX6_begins_33 rfl (by decide) zc_1 ?_
      refine go_goto 15 dX6_begins_36 ?_
      exact (lpE (a := 10) (N := 10) rfl (by omega) h19).elim
  | succ f ih =>
    intro i a hi hF hk hn
    refine go_iload 17 dX6_begins_15 rfl ?_
    refine go_bipush 19 dX6_begins_17 zb_10 ?_
    refine go_icmp_ge 39 22 dX6_begins_19 (fun h19 => ?_) (fun h19 => ?_)
    · exact (lpG (a := 10) (N := 10) rfl (by decide) (by omega) h19).elim
    · refine go_iload 24 dX6_begins_22 rfl ?_
      refine go_iload_n 25 dX6_begins_24 rfl ?_
      refine go_iload 27 dX6_begins_25 rfl ?_
      refine go_ishr 28 dX6_begins_27 ?_
      refine go_iconst 29 dX6_begins_28 zc_1 ?_
      refine go_iand 30 dX6_begins_29 ?_
      refine go_iadd 31 dX6_begins_30 ?_
      refine go_istore 33 dX6_begins_31 (by decide) ?_
      refine go_iinc 36 dX6_begins_33 rfl (by decide) zc_1 ?_
      refine go_goto 15 dX6_begins_36 ?_
      rw [nI_1]
      refine go_locals _ rfl (ih (i + 1) (a + bitOf x i) (by omega) hF hk hn)

set_option maxRecDepth 100000 in
set_option maxHeartbeats 4000000 in
theorem lp2_begins {l : Launch} {Γ : ZG} {w0 : ZW} {T0 : LT} {sg : ZSg} {A V : LA} {tm : Option Nat} {e : Nat} {D : ZD} (h0 : LX Γ w0 T0 1 sg A V tm e D) (hw : WF w0) (hI : Ix D) {t rw nt N q : Nat} {x : Int32} {tf : List Value} {f : Nat → Option Nat} {Φ : Option Value → ZW → Prop} (kk : ∀ (w : ZW) (T : LT) (k n : Nat) (g : Nat → Option Nat), BW w0 T0 w T → Nc w0 w T t (.inr (10, tf)) (11 + 5 * nC D) → Nc w0 w T rw (q5 Γ 7 N f) 6 → Nc w0 w T nt (q5 Γ 8 (nC D + 1) g) 0 → (∀ c, c < nC D → g c = some (A 1 c)) → k ≤ 4 → n ≤ 50 → Go l Γ mX6_begins 4 40 210 Φ zNo k n w 187 [(0, .ref e), (1, .int (nI q)), (2, .int x), (4, .ref t), (5, .int (nI N)), (8, .ref nt)] []) : ∀ (f9 i : Nat) (w : ZW) (T : LT) (k n : Nat) (g : Nat → Option Nat), i + f9 = nC D → BW w0 T0 w T → Nc w0 w T t (.inr (10, tf)) (11 + 5 * nC D) → Nc w0 w T rw (q5 Γ 7 N f) 6 → Nc w0 w T nt (q5 Γ 8 (nC D + 1) g) 0 → (∀ c, c < i → g c = some (A 1 c)) → k ≤ 4 → n ≤ 50 → Go l Γ mX6_begins 4 40 210 Φ zNo k n w 159 [(0, .ref e), (1, .int (nI q)), (2, .int x), (4, .ref t), (5, .int (nI N)), (8, .ref nt), (9, .int (nI i))] [] := by
  have h20 := hI.2.1.2
  intro f9
  induction f9 with
  | zero =>
    intro i w T k n g hi b0 t0 rw0 nt0 hg hk hn
    refine go_iload 161 dX6_begins_159 rfl ?_
    refine go_aload_n 162 dX6_begins_161 rfl ?_
    refine gl_x (b0.lx hw h0) 165 dX6_begins_162 fX6_27 rfl ?_
    refine gl_nC (b0.lx hw h0) 166 dX6_begins_165 ?_
    refine go_icmp_ge 187 169 dX6_begins_166 (fun h166 => ?_) (fun h166 => ?_)
    · exact go_locals _ rfl (kk w T k n g b0 t0 rw0 nt0 (fun c hc => hg c (by omega)) hk hn)
    · exact (lpE (a := nI (nC D)) (N := nC D) rfl (by omega) h166).elim
  | succ f9 ih =>
    intro i w T k n g hi b0 t0 rw0 nt0 hg hk hn
    refine go_iload 161 dX6_begins_159 rfl ?_
    refine go_aload_n 162 dX6_begins_161 rfl ?_
    refine gl_x (b0.lx hw h0) 165 dX6_begins_162 fX6_27 rfl ?_
    refine gl_nC (b0.lx hw h0) 166 dX6_begins_165 ?_
    refine go_icmp_ge 187 169 dX6_begins_166 (fun h166 => ?_) (fun h166 => ?_)
    · exact (lpG (a := nI (nC D)) (N := nC D) rfl (by omega) (by omega) h166).elim
    · refine go_aload 171 dX6_begins_169 rfl ?_
      refine go_iload 173 dX6_begins_171 rfl ?_
      refine go_aload_n 174 dX6_begins_173 rfl ?_
      refine gl_x (b0.lx hw h0) 177 dX6_begins_174 fX6_27 rfl ?_
      refine go_iload 179 dX6_begins_177 rfl ?_
      refine gl_ca (b0.lx hw h0) hI rfl (show i < nC D by omega) 180 dX6_begins_179 ?_
      refine gn_ast8 (i := i) nt0 b0 ((b0.lx hw h0).c (show i < nC D by omega)).1 rfl (show i < nC D + 1 by omega) (by omega) 181 dX6_begins_180 (fun w_180 b_180 nt_180 q_180 => ?_)
      have t_180 := t0.go q_180 (by first | trivial | decide | omega)
      have rw_180 := rw0.go q_180 (by first | trivial | decide | omega)
      refine go_iinc 184 dX6_begins_181 rfl (by decide) zc_1 ?_
      refine go_goto 159 dX6_begins_184 ?_
      rw [nI_1]
      refine go_locals _ rfl (ih (i + 1) w_180 T k n _ (by omega) b_180 t_180 rw_180 nt_180 (fun c hc => ?_) hk hn)
      show va_up g i (some (A 1 i)) c = some (A 1 c)
      unfold va_up
      by_cases hci : c = i
      · rw [if_pos hci, hci]
      · rw [if_neg hci]; exact hg c (by omega)

set_option maxRecDepth 100000 in
set_option maxHeartbeats 4000000 in
theorem lp3_begins {l : Launch} {Γ : ZG} {w0 : ZW} {T0 : LT} {sg : ZSg} {A V : LA} {tm : Option Nat} {e : Nat} {D : ZD} (h0 : LX Γ w0 T0 1 sg A V tm e D) (hw : WF w0) (hI : Ix D) {t rw nt nl N q : Nat} {x : Int32} {tf : List Value} {f : Nat → Option Nat} {Φ : Option Value → ZW → Prop} (hN : nL D + N ≤ 40) (kk : ∀ (w : ZW) (T : LT) (k n : Nat) (g : Nat → Option Nat), BW w0 T0 w T → Nc w0 w T t (.inr (10, tf)) (11 + 5 * nC D) → Nc w0 w T rw (q5 Γ 7 N f) 6 → NTp Γ w0 w T A D t nt → Nc w0 w T nl (q5 Γ 7 (nL D + N) g) 7 → (∀ k, k < nL D → g k = some (A 0 k)) → k ≤ 5 → n ≤ 90 → Go l Γ mX6_begins 4 40 210 Φ zNo k n w 241 [(0, .ref e), (1, .int (nI q)), (2, .int x), (4, .ref t), (5, .int (nI N)), (8, .ref nt), (9, .ref nl)] []) : ∀ (f9 i : Nat) (w : ZW) (T : LT) (k n : Nat) (g : Nat → Option Nat), i + f9 = nL D → BW w0 T0 w T → Nc w0 w T t (.inr (10, tf)) (11 + 5 * nC D) → Nc w0 w T rw (q5 Γ 7 N f) 6 → NTp Γ w0 w T A D t nt → Nc w0 w T nl (q5 Γ 7 (nL D + N) g) 7 → (∀ k, k < i → g k = some (A 0 k)) → k ≤ 5 → n ≤ 90 → Go l Γ mX6_begins 4 40 210 Φ zNo k n w 213 [(0, .ref e), (1, .int (nI q)), (2, .int x), (4, .ref t), (5, .int (nI N)), (8, .ref nt), (9, .ref nl), (10, .int (nI i))] [] := by
  have h40 := hI.2.2.1.2
  intro f9
  induction f9 with
  | zero =>
    intro i w T k n g hi b0 t0 rw0 nt0 nl0 hg hk hn
    refine go_iload 215 dX6_begins_213 rfl ?_
    refine go_aload_n 216 dX6_begins_215 rfl ?_
    refine gl_x (b0.lx hw h0) 219 dX6_begins_216 fX6_33 rfl ?_
    refine gl_nL (b0.lx hw h0) 220 dX6_begins_219 ?_
    refine go_icmp_ge 241 223 dX6_begins_220 (fun h220 => ?_) (fun h220 => ?_)
    · exact go_locals _ rfl (kk w T k n g b0 t0 rw0 nt0 nl0 (fun c hc => hg c (by omega)) hk hn)
    · exact (lpE (a := nI (nL D)) (N := nL D) rfl (by omega) h220).elim
  | succ f9 ih =>
    intro i w T k n g hi b0 t0 rw0 nt0 nl0 hg hk hn
    refine go_iload 215 dX6_begins_213 rfl ?_
    refine go_aload_n 216 dX6_begins_215 rfl ?_
    refine gl_x (b0.lx hw h0) 219 dX6_begins_216 fX6_33 rfl ?_
    refine gl_nL (b0.lx hw h0) 220 dX6_begins_219 ?_
    refine go_icmp_ge 241 223 dX6_begins_220 (fun h220 => ?_) (fun h220 => ?_)
    · exact (lpG (a := nI (nL D)) (N := nL D) rfl (by omega) (by omega) h220).elim
    · refine go_aload 225 dX6_begins_223 rfl ?_
      refine go_iload 227 dX6_begins_225 rfl ?_
      refine go_aload_n 228 dX6_begins_227 rfl ?_
      refine gl_x (b0.lx hw h0) 231 dX6_begins_228 fX6_33 rfl ?_
      refine go_iload 233 dX6_begins_231 rfl ?_
      refine gl_la (b0.lx hw h0) hI rfl (show i < nL D by omega) 234 dX6_begins_233 ?_
      refine gn_ast7 (i := i) nl0 b0 ((b0.lx hw h0).l (show i < nL D by omega)).1.1 rfl (show i < nL D + N by omega) (by omega) 235 dX6_begins_234 (fun w_234 b_234 nl_234 q_234 => ?_)
      have t_234 := t0.go q_234 (by first | trivial | decide | omega)
      have rw_234 := rw0.go q_234 (by first | trivial | decide | omega)
      have nt_234 := nt0.go q_234 (by decide)
      refine go_iinc 238 dX6_begins_235 rfl (by decide) zc_1 ?_
      refine go_goto 213 dX6_begins_238 ?_
      rw [nI_1]
      refine go_locals _ rfl (ih (i + 1) w_234 T k n _ (by omega) b_234 t_234 rw_234 nt_234 nl_234 (fun c hc => ?_) hk hn)
      show va_up g i (some (A 0 i)) c = some (A 0 c)
      unfold va_up
      by_cases hci : c = i
      · rw [if_pos hci, hci]
      · rw [if_neg hci]; exact hg c (by omega)

end LBegM
