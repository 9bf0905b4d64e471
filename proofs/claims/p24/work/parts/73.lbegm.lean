section LBegM
/-- the longer row of calls -/
def NTp (Γ : ZG) (w0 w : ZW) (T : LT) (A : LA) (D : ZD) (t nt : Nat) : Prop := ∃ h9, Nc w0 w T nt (q5 Γ 8 (nC D + 1) h9) 0 ∧ (∀ c, c < nC D → h9 c = some (A 1 c)) ∧ h9 (nC D) = some t
theorem NTp.go {Γ : ZG} {w0 w w1 : ZW} {T T1 : LT} {A : LA} {D : ZD} {t nt : Nat} {P : Nat → Prop} (h : NTp Γ w0 w T A D t nt) (k : Kq w T w1 T1 P) (h0 : P 0) : NTp Γ w0 w1 T1 A D t nt := by
  obtain ⟨h9, n1, n2⟩ := h
  exact ⟨h9, n1.go k h0, n2⟩

set_option maxRecDepth 100000 in
set_option maxHeartbeats 4000000 in
theorem lp1_begins {l : Launch} {Γ : ZG} {e t k n : Nat} {p x : Int32} {r : Value} {w : ZW} {Φ : Option Value → ZW → Prop} {F : Int32} (kk : Go l Γ mX6_begins 4 40 210 Φ zNo k n w 39 [(0, .ref e), (1, .int p), (2, .int x), (3, r), (4, .ref t), (5, .int F)] []) : ∀ (f i : Nat) (a : Int32), i + f = 10 → bcnt x i f a = F → k ≤ 40 → n ≤ 210 → Go l Γ mX6_begins 4 40 210 Φ zNo k n w 15 [(0, .ref e), (1, .int p), (2, .int x), (3, r), (4, .ref t), (5, .int a), (6, .int (nI i))] [] := by
  intro f
  induction f with
  | zero =>
    intro i a hi hF hk hn
    have hF : a = F := hF
    refine go_iload 17 dX6_begins_15 rfl ?_
    refine go_bipush 19 dX6_begins_17 zb_10 ?_
    refine go_icmp_ge 39 22 dX6_begins_19 (fun h19 => ?_) (fun h19 => ?_)
    · subst hF
      exact go_locals _ rfl kk
    · refine go_iload 24 dX6_begins_22 rfl ?_
      refine go_iload_n 25 dX6_begins_24 rfl ?_
      refine go_iload 27 dX6_begins_25 rfl ?_
      refine go_ishr 28 dX6_begins_27 ?_
      refine go_iconst 29 dX6_begins_28 zc_1 ?_
      refine go_iand 30 dX6_begins_29 ?_
      refine go_iadd 31 dX6_begins_30 ?_
      refine go_istore 33 dX6_begins_31 (by decide) ?_
      refine go_iinc 36 dX6_begins_33 rfl (by decide) zc_1 ?_
      refine go_goto 15 dX6_begins_36 ?_
      exact (lpE (a := 10) (N := 10) rfl (by omega) h19).elim
  | succ f ih =>
    intro i a hi hF hk hn
    refine go_iload 17 dX6_begins_15 rfl ?_
    refine go_bipush 19 dX6_begins_17 zb_10 ?_
    refine go_icmp_ge 39 22 dX6_begins_19 (fun h19 => ?_) (fun h19 => ?_)
    · exact (lpG (a := 10) (N := 10) rfl (by decide) (by omega) h19).elim
    · refine go_iload 24 dX6_begins_22 rfl ?_
      refine go_iload_n 25 dX6_begins_24 rfl ?_
      refine go_iload 27 dX6_begins_25 rfl ?_
      refine go_ishr 28 dX6_begins_27 ?_
      refine go_iconst 29 dX6_begins_28 zc_1 ?_
      refine go_iand 30 dX6_begins_29 ?_
      refine go_iadd 31 dX6_begins_30 ?_
      refine go_istore 33 dX6_begins_31 (by decide) ?_
      refine go_iinc 36 dX6_begins_33 rfl (by decide) zc_1 ?_
      refine go_goto 15 dX6_begins_36 ?_
      rw [nI_1]
      refine go_locals _ rfl (ih (i + 1) (a + bitOf x i) (by omega) hF hk hn)

set_option maxRecDepth 100000 in
set_option maxHeartbeats 4000000 in
theorem lp2_begins {l : Launch} {Γ : ZG} {w0 : ZW} {T0 : LT} {sg : ZSg} {A V : LA} {tm : Option Nat} {e : Nat} {D : ZD} (h0 : LX Γ w0 T0 1 sg A V tm e D) (hw : WF w0) (hI : Ix D) {t rw nt N q : Nat} {x : Int32} {tf : List Value} {f : Nat → Option Nat} {Φ : Option Value → ZW → Prop} (kk : ∀ (w : ZW) (T : LT) (k n : Nat) (g : Nat → Option Nat), BW w0 T0 w T → Nc w0 w T t (.inr (10, tf)) (11 + 5 * nC D) → Nc w0 w T rw (q5 Γ 7 N f) 6 → Nc w0 w T nt (q5 Γ 8 (nC D + 1) g) 0 → (∀ c, c < nC D → g c = some (A 1 c)) → k ≤ 4 → n ≤ 50 → Go l Γ mX6_begins 4 40 210 Φ zNo k n w 187 [(0, .ref e), (1, .int (nI q)), (2, .int x), (4, .ref t), (5, .int (nI N)), (8, .ref nt)] []) : ∀ (f9 i : Nat) (w : ZW) (T : LT) (k n : Nat) (g : Nat → Option Nat), i + f9 = nC D → BW w0 T0 w T → Nc w0 w T t (.inr (10, tf)) (11 + 5 * nC D) → Nc w0 w T rw (q5 Γ 7 N f) 6 → Nc w0 w T nt (q5 Γ 8 (nC D + 1) g) 0 → (∀ c, c < i → g c = some (A 1 c)) → k ≤ 4 → n ≤ 50 → Go l Γ mX6_begins 4 40 210 Φ zNo k n w 159 [(0, .ref e), (1, .int (nI q)), (2, .int x), (4, .ref t), (5, .int (nI N)), (8, .ref nt), (9, .int (nI i))] [] := by
  have h20 := hI.2.1.2
  intro f9
  induction f9 with
  | zero =>
    intro i w T k n g hi b0 t0 rw0 nt0 hg hk hn
    refine go_iload 161 dX6_begins_159 rfl ?_
    refine go_aload_n 162 dX6_begins_161 rfl ?_
    refine gl_x (b0.lx hw h0) 165 dX6_begins_162 fX6_27 rfl ?_
    refine gl_nC (b0.lx hw h0) 166 dX6_begins_165 ?_
    refine go_icmp_ge 187 169 dX6_begins_166 (fun h166 => ?_) (fun h166 => ?_)
    · exact go_locals _ rfl (kk w T k n g b0 t0 rw0 nt0 (fun c hc => hg c (by omega)) hk hn)
    · exact (lpE (a := nI (nC D)) (N := nC D) rfl (by omega) h166).elim
  | succ f9 ih =>
    intro i w T k n g hi b0 t0 rw0 nt0 hg hk hn
    refine go_iload 161 dX6_begins_159 rfl ?_
    refine go_aload_n 162 dX6_begins_161 rfl ?_
    refine gl_x (b0.lx hw h0) 165 dX6_begins_162 fX6_27 rfl ?_
    refine gl_nC (b0.lx hw h0) 166 dX6_begins_165 ?_
    refine go_icmp_ge 187 169 dX6_begins_166 (fun h166 => ?_) (fun h166 => ?_)
    · exact (lpG (a := nI (nC D)) (N := nC D) rfl (by omega) (by omega) h166).elim
    · refine go_aload 171 dX6_begins_169 rfl ?_
      refine go_iload 173 dX6_begins_171 rfl ?_
      refine go_aload_n 174 dX6_begins_173 rfl ?_
      refine gl_x (b0.lx hw h0) 177 dX6_begins_174 fX6_27 rfl ?_
      refine go_iload 179 dX6_begins_177 rfl ?_
      refine gl_ca (b0.lx hw h0) hI rfl (show i < nC D by omega) 180 dX6_begins_179 ?_
      refine gn_ast8 (i := i) nt0 b0 ((b0.lx hw h0).c (show i < nC D by omega)).1 rfl (show i < nC D + 1 by omega) (by omega) 181 dX6_begins_180 (fun w_180 b_180 nt_180 q_180 => ?_)
      have t_180 := t0.go q_180 (by first | trivial | decide | omega)
      have rw_180 := rw0.go q_180 (by first | trivial | decide | omega)
      refine go_iinc 184 dX6_begins_181 rfl (by decide) zc_1 ?_
      refine go_goto 159 dX6_begins_184 ?_
      rw [nI_1]
      refine go_locals _ rfl (ih (i + 1) w_180 T k n _ (by omega) b_180 t_180 rw_180 nt_180 (fun c hc => ?_) hk hn)
      show va_up g i (some (A 1 i)) c = some (A 1 c)
      unfold va_up
      by_cases hci : c = i
      · rw [if_pos hci, hci]
      · rw [if_neg hci]; exact hg c (by omega)

set_option maxRecDepth 100000 in
set_option maxHeartbeats 4000000 in
theorem lp3_begins {l : Launch} {Γ : ZG} {w0 : ZW} {T0 : LT} {sg : ZSg} {A V : LA} {tm : Option Nat} {e : Nat} {D : ZD} (h0 : LX Γ w0 T0 1 sg A V tm e D) (hw : WF w0) (hI : Ix D) {t rw nt nl N q : Nat} {x : Int32} {tf : List Value} {f : Nat → Option Nat} {Φ : Option Value → ZW → Prop} (hN : nL D + N ≤ 40) (kk : ∀ (w : ZW) (T : LT) (k n : Nat) (g : Nat → Option Nat), BW w0 T0 w T → Nc w0 w T t (.inr (10, tf)) (11 + 5 * nC D) → Nc w0 w T rw (q5 Γ 7 N f) 6 → NTp Γ w0 w T A D t nt → Nc w0 w T nl (q5 Γ 7 (nL D + N) g) 7 → (∀ k, k < nL D → g k = some (A 0 k)) → k ≤ 5 → n ≤ 90 → Go l Γ mX6_begins 4 40 210 Φ zNo k n w 241 [(0, .ref e), (1, .int (nI q)), (2, .int x), (4, .ref t), (5, .int (nI N)), (8, .ref nt), (9, .ref nl)] []) : ∀ (f9 i : Nat) (w : ZW) (T : LT) (k n : Nat) (g : Nat → Option Nat), i + f9 = nL D → BW w0 T0 w T → Nc w0 w T t (.inr (10, tf)) (11 + 5 * nC D) → Nc w0 w T rw (q5 Γ 7 N f) 6 → NTp Γ w0 w T A D t nt → Nc w0 w T nl (q5 Γ 7 (nL D + N) g) 7 → (∀ k, k < i → g k = some (A 0 k)) → k ≤ 5 → n ≤ 90 → Go l Γ mX6_begins 4 40 210 Φ zNo k n w 213 [(0, .ref e), (1, .int (nI q)), (2, .int x), (4, .ref t), (5, .int (nI N)), (8, .ref nt), (9, .ref nl), (10, .int (nI i))] [] := by
  have h40 := hI.2.2.1.2
  intro f9
  induction f9 with
  | zero =>
    intro i w T k n g hi b0 t0 rw0 nt0 nl0 hg hk hn
    refine go_iload 215 dX6_begins_213 rfl ?_
    refine go_aload_n 216 dX6_begins_215 rfl ?_
    refine gl_x (b0.lx hw h0) 219 dX6_begins_216 fX6_33 rfl ?_
    refine gl_nL (b0.lx hw h0) 220 dX6_begins_219 ?_
    refine go_icmp_ge 241 223 dX6_begins_220 (fun h220 => ?_) (fun h220 => ?_)
    · exact go_locals _ rfl (kk w T k n g b0 t0 rw0 nt0 nl0 (fun c hc => hg c (by omega)) hk hn)
    · exact (lpE (a := nI (nL D)) (N := nL D) rfl (by omega) h220).elim
  | succ f9 ih =>
    intro i w T k n g hi b0 t0 rw0 nt0 nl0 hg hk hn
    refine go_iload 215 dX6_begins_213 rfl ?_
    refine go_aload_n 216 dX6_begins_215 rfl ?_
    refine gl_x (b0.lx hw h0) 219 dX6_begins_216 fX6_33 rfl ?_
    refine gl_nL (b0.lx hw h0) 220 dX6_begins_219 ?_
    refine go_icmp_ge 241 223 dX6_begins_220 (fun h220 => ?_) (fun h220 => ?_)
    · exact (lpG (a := nI (nL D)) (N := nL D) rfl (by omega) (by omega) h220).elim
    · refine go_aload 225 dX6_begins_223 rfl ?_
      refine go_iload 227 dX6_begins_225 rfl ?_
      refine go_aload_n 228 dX6_begins_227 rfl ?_
      refine gl_x (b0.lx hw h0) 231 dX6_begins_228 fX6_33 rfl ?_
      refine go_iload 233 dX6_begins_231 rfl ?_
      refine gl_la (b0.lx hw h0) hI rfl (show i < nL D by omega) 234 dX6_begins_233 ?_
      refine gn_ast7 (i := i) nl0 b0 ((b0.lx hw h0).l (show i < nL D by omega)).1.1 rfl (show i < nL D + N by omega) (by omega) 235 dX6_begins_234 (fun w_234 b_234 nl_234 q_234 => ?_)
      have t_234 := t0.go q_234 (by first | trivial | decide | omega)
      have rw_234 := rw0.go q_234 (by first | trivial | decide | omega)
      have nt_234 := nt0.go q_234 (by decide)
      refine go_iinc 238 dX6_begins_235 rfl (by decide) zc_1 ?_
      refine go_goto 213 dX6_begins_238 ?_
      rw [nI_1]
      refine go_locals _ rfl (ih (i + 1) w_234 T k n _ (by omega) b_234 t_234 rw_234 nt_234 nl_234 (fun c hc => ?_) hk hn)
      show va_up g i (some (A 0 i)) c = some (A 0 c)
      unfold va_up
      by_cases hci : c = i
      · rw [if_pos hci, hci]
      · rw [if_neg hci]; exact hg c (by omega)

theorem zb_n0 {p : Prop} (h : zb p = 0) : zb (¬ p) = 1 := zb_t (fun q => by rw [zb_t q] at h; exact absurd h (by decide))
theorem zb_n1 {p : Prop} (h : ¬ zb p = 0) : zb p = 1 ∧ zb (¬ p) = 0 := by
  have hp : p := Classical.byContradiction (fun q => h (zb_f q))
  exact ⟨zb_t hp, zb_f (fun q => q hp)⟩

set_option maxRecDepth 100000 in
set_option maxHeartbeats 4000000 in
theorem lp4_begins {l : Launch} {Γ : ZG} {w0 : ZW} {T0 : LT} {sg : ZSg} {A V : LA} {tm : Option Nat} {e : Nat} {D : ZD} (h0 : LX Γ w0 T0 1 sg A V tm e D) (hw : WF w0) (hI : Ix D) {t rw nt nl N q : Nat} {x rv ref : Int32} {DF : ZD} {Φ : Option Value → ZW → Prop} (hs : SegD sg D) (hC : nC D < 20) (hN : nL D + N ≤ 40) (hxb : ∀ j, j < 10 → bitOf x j = 1 → j < nP D) (hxq : bitOf x q ≠ 1) (hq10 : q < 10) (kk : ∀ (w : ZW) (T : LT) (k n : Nat) (B R : Nat → Nat), BW w0 T0 w T → GB D (nC D) 10 DF → nC DF = nC D + 1 → nL DF = nL D + N → OD (newC D (nI q) rv ref) DF (nL D) → BG Γ w0 w T A D N t rw nt nl (tfB q D rv (lgO A ref) rw) B R DF → k ≤ 35 → n ≤ 210 → Go l Γ mX6_begins 4 40 210 Φ zNo k n w 346 [(0, .ref e), (2, .int x), (4, .ref t), (8, .ref nt), (9, .ref nl), (11, .int (zcnt (fun i => dL DF i 2 = 0) (nL D) (nL DF - nL D) 0))] []) : ∀ (f9 i : Nat) (w : ZW) (T : LT) (k n : Nat) (D' : ZD) (a : Int32) (B R : Nat → Nat), i + f9 = 10 → BW w0 T0 w T → GB D (nC D) i D' → nC D' = nC D + 1 → OD (newC D (nI q) rv ref) D' (nL D) → NS D D' → nL D' + bN x i f9 = nL D + N → BG Γ w0 w T A D N t rw nt nl (tfB q D rv (lgO A ref) rw) B R D' → itr (bStep x (nI (nC D))) i f9 D' = DF → a = zcnt (fun i => dL D' i 2 = 0) (nL D) (nL D' - nL D) 0 → k ≤ 5 + 3 * i → n ≤ 90 + 12 * i → Go l Γ mX6_begins 4 40 210 Φ zNo k n w 250 [(0, .ref e), (2, .int x), (4, .ref t), (8, .ref nt), (9, .ref nl), (10, .int (nI (nL D' - nL D))), (11, .int a), (12, .int (nI i))] [] := by
  have h40 := hI.2.2.1.2
  have h20 := hI.2.1.2
  intro f9
  induction f9 with
  | zero =>
    intro i w T k n D' a B R hi b0 hb hc ho hn9 hl G0 hF ha hk hn
    have hF : D' = DF := hF
    subst hF
    have hl' : nL D' = nL D + N := hl
    have hi' : i = 10 := hi
    subst hi'
    subst ha
    refine go_iload 252 dX6_begins_250 rfl ?_
    refine go_bipush 254 dX6_begins_252 zb_10 ?_
    refine go_icmp_ge 346 257 dX6_begins_254 (fun h254 => ?_) (fun h254 => ?_)
    · exact go_locals _ rfl (kk w T k n B R b0 hb hc hl' ho G0 (by omega) (by omega))
    · exact (lpE (a := 10) (N := 10) rfl (by omega) h254).elim
  | succ f9 ih =>
    intro i w T k n D' a B R hi b0 hb hc ho hn9 hl G0 hF ha hk hn
    have hm := hb.2.2.2.2.2.2.2.1
    have K314 : bitOf x i = 1 → ∀ (w : ZW) (T : LT) (b r k n : Nat) (a' : Int32), BW w0 T0 w T → BG Γ w0 w T A D N t rw nt nl (tfB q D rv (lgO A ref) rw) B R D' → Nc w0 w T b (.inr (7, [.ref t, .int (nI i), .int (if zb (eng D (nI i)) = 1 then 3 else 0), .int (if zb (eng D (nI i)) = 1 then 1 else 0), .int 0, .int 0, .null, .ref r])) (10 + 5 * nL D') → Nc w0 w T r (q5 Γ 4 2 (fun _ => none)) (12 + 5 * nL D') → a' = a + zb (¬ eng D (nI i)) → k ≤ 5 + 3 * (i + 1) → n ≤ 90 + 12 * (i + 1) → Go l Γ mX6_begins 4 40 210 Φ zNo k n w 314 [(0, .ref e), (2, .int x), (4, .ref t), (8, .ref nt), (9, .ref nl), (10, .int (nI (nL D' - nL D))), (11, .int a'), (12, .int (nI i)), (13, .ref b)] [] := by
      intro hx1 w T b r k n a' b0 G0 bb br ha' hk hn
      obtain ⟨t3, ⟨f, rw3, f2⟩, ⟨g, nl3, g1, g2⟩, nt3, l3⟩ := G0
      have nt3 : NTp Γ w0 w T A D t nt := nt3
      have hbn : bN x i (f9 + 1) = 1 + bN x (i + 1) f9 := by rw [bN_s, if_pos hx1]
      refine go_aload 316 dX6_begins_314 rfl ?_
      refine go_get 319 dX6_begins_316 fX6_62 t3.1 rfl ?_
      refine go_iload 321 dX6_begins_319 rfl ?_
      refine go_aload 323 dX6_begins_321 rfl ?_
      refine gn_ast7 (i := nL D' - nL D) rw3 b0 bb.1 rfl (by omega) (by omega) 324 dX6_begins_323 (fun w_323 b_323 rw_323 q_323 => ?_)
      have t_323 := t3.go q_323 (by first | trivial | decide | omega)
      have nl_323 := nl3.go q_323 (by first | trivial | decide | omega)
      have nt_323 := nt3.go q_323 (by decide)
      have l_323 := fun K h1 h2 => (l3 K h1 h2).go q_323 (by omega) (by omega) (fun _ _ => rfl)
      have lg_323 := bb.go q_323 (by first | trivial | decide | omega)
      have lgr_323 := br.go q_323 (by first | trivial | decide | omega)
      refine go_aload 326 dX6_begins_324 rfl ?_
      refine go_aload_n 327 dX6_begins_326 rfl ?_
      refine gl_x (b_323.lx hw h0) 330 dX6_begins_327 fX6_33 rfl ?_
      refine gl_nL (b_323.lx hw h0) 331 dX6_begins_330 ?_
      refine go_iload 333 dX6_begins_331 rfl ?_
      refine go_iadd 334 dX6_begins_333 ?_
      refine go_aload 336 dX6_begins_334 rfl ?_
      refine gn_ast7 (i := nL D') nl_323 b_323 lg_323.1 (by rw [nI_add, show nL D + (nL D' - nL D) = nL D' by omega]) (by omega) (by omega) 337 dX6_begins_336 (fun w_336 b_336 nl_336 q_336 => ?_)
      have t_336 := t_323.go q_336 (by first | trivial | decide | omega)
      have rw_336 := rw_323.go q_336 (by first | trivial | decide | omega)
      have nt_336 := nt_323.go q_336 (by decide)
      have l_336 := fun K h1 h2 => (l_323 K h1 h2).go q_336 (by omega) (by omega) (fun _ _ => rfl)
      have lg_336 := lg_323.go q_336 (by first | trivial | decide | omega)
      have lgr_336 := lgr_323.go q_336 (by first | trivial | decide | omega)
      refine go_iinc 340 dX6_begins_337 rfl (by decide) zc_1 ?_
      refine go_iinc 343 dX6_begins_340 rfl (by decide) zc_1 ?_
      refine go_goto 250 dX6_begins_343 ?_
      have gm := gb_mk hb (j := i) (by omega) (hxb i (by omega) hx1)
      have e1 := mk_what (D := D') (c := nI (nC D)) (ce := nI i) (by omega)
      have hen : eng D' (nI i) ↔ eng D (nI i) := eng_beg hI hC hb hc ho hn9 (fun z => hxq (by rw [← (nI_eq (by omega) (by omega)).mp z]; exact hx1))
      have mn := mk_n (D := D') (c := nI (nC D)) (ce := nI i)
      rw [zb_congr hen] at mn
      rw [nI_1, show (1 : Int32) = nI 1 from rfl, nI_add, show nL D' - nL D + 1 = nL (mkD D' (nI (nC D)) (nI i)) - nL D by rw [gm.2.1]; omega]
      refine go_locals _ rfl (ih (i + 1) w_336 T k n (mkD D' (nI (nC D)) (nI i)) a' (fun z => if z = nL D' then b else B z) (fun z => if z = nL D' then r else R z) (by omega) b_336 gm.1 (by rw [gm.2.2.1]; exact hc) (ho.mk hm (by omega)) (hn9.mk hm (by omega) gm.2.1) (by rw [gm.2.1]; omega) ⟨t_336, ⟨_, rw_336, fun K h1 h2 => ?_⟩, ⟨_, nl_336, fun c hc9 => ?_, fun K h1 h2 => ?_⟩, nt_336, fun K h1 h2 => ?_⟩ (by rw [← hF]; show itr (bStep x (nI (nC D))) (i + 1) f9 _ = itr (bStep x (nI (nC D))) (i + 1) f9 (bStep x (nI (nC D)) i D'); rw [show bStep x (nI (nC D)) i D' = mkD D' (nI (nC D)) (nI i) from if_pos hx1]) ?_ (by omega) (by omega))
      · rw [gm.2.1] at h2
        show va_up f (nL D' - nL D) (some b) (K - nL D) = some (if K = nL D' then b else B K)
        unfold va_up
        by_cases hK : K = nL D'
        · rw [if_pos (by omega), if_pos hK]
        · rw [if_neg (by omega), if_neg hK]; exact f2 K h1 (by omega)
      · show va_up g (nL D') (some b) c = _
        unfold va_up
        rw [if_neg (by omega)]
        exact g1 c hc9
      · rw [gm.2.1] at h2
        show va_up g (nL D') (some b) K = some (if K = nL D' then b else B K)
        unfold va_up
        by_cases hK : K = nL D'
        · rw [if_pos hK, if_pos hK]
        · rw [if_neg hK, if_neg hK]; exact g2 K h1 (by omega)
      · rw [gm.2.1] at h2
        show BL Γ w0 w_336 T t (if K = nL D' then b else B K) (if K = nL D' then r else R K) _ K
        by_cases hK : K = nL D'
        · rw [if_pos hK, if_pos hK, hK]
          refine ⟨?_, lgr_336, mn.2.2⟩
          rw [e1.2.2.2, mn.1, mn.2.1]
          exact lg_336
        · rw [if_neg hK, if_neg hK]
          exact (l_336 K h1 (by omega)).go (P := fun _ => True) Kq.rf trivial trivial (fun j hj => e1.1 _ (by omega) (by omega))
      · have hz : zcnt (fun j => dL (mkD D' (nI (nC D)) (nI i)) j 2 = 0) (nL D) (nL D' - nL D) 0 = zcnt (fun j => dL D' j 2 = 0) (nL D) (nL D' - nL D) 0 := zcnt_congr _ _ _ (fun j h1 h2 => by rw [gm.2.2.2 j (by omega)])
        rw [gm.2.1, show nL D' + 1 - nL D = (nL D' - nL D) + 1 by omega, zcnt_last, hz, ← ha, show nL D + (nL D' - nL D) = nL D' by omega, ha']
        exact congrArg (fun z => a + z) ((zb_congr (not_congr hen.symm)).trans (zb_congr mk_row.2.symm))
    refine go_iload 252 dX6_begins_250 rfl ?_
    refine go_bipush 254 dX6_begins_252 zb_10 ?_
    refine go_icmp_ge 346 257 dX6_begins_254 (fun h254 => ?_) (fun h254 => ?_)
    · exact (lpG (a := 10) (N := 10) rfl (by decide) (by omega) h254).elim
    · refine go_iload_n 258 dX6_begins_257 rfl ?_
      refine go_iload 260 dX6_begins_258 rfl ?_
      refine go_ishr 261 dX6_begins_260 ?_
      refine go_iconst 262 dX6_begins_261 zc_1 ?_
      refine go_iand 263 dX6_begins_262 ?_
      refine go_if_ne 269 266 dX6_begins_263 (fun h263 => ?_) (fun h263 => ?_)
      · have hx1 : bitOf x i = 1 := (bit01 x i).resolve_left h263
        refine gn_new ((10 + 5 * nL D')) b0 272 dX6_begins_269 nX6_31 (by omega) (by omega) (fun w_269 T_269 lg b_269 lg_269 q_269 => ?_)
        have G_269 := G0.go q_269 (by first | exact ⟨trivial, trivial, trivial, trivial, fun _ _ _ => ⟨trivial, trivial⟩⟩ | exact ⟨by omega, by omega, by omega, by omega, fun K _ _ => ⟨by omega, by omega⟩⟩)
        refine go_dup 273 dX6_begins_272 rfl ?_
        refine gn_iniL lg_269 b_269 (by omega) 276 dX6_begins_273 vnX6_63 (by decide) (by omega) (by omega) (by exact Nat.le_of_ble_eq_true rfl) (fun w_273 T_273 lgr b_273 lg_273 lgr_273 q_273 => ?_)
        have G_273 := G_269.go q_273 (by first | exact ⟨trivial, trivial, trivial, trivial, fun _ _ _ => ⟨trivial, trivial⟩⟩ | exact ⟨by omega, by omega, by omega, by omega, fun K _ _ => ⟨by omega, by omega⟩⟩)
        refine go_astore 278 dX6_begins_276 (by decide) ?_
        refine go_aload 280 dX6_begins_278 rfl ?_
        refine go_aload 282 dX6_begins_280 rfl ?_
        refine gn_put lg_273 b_273 285 dX6_begins_282 pX6_64 (by exact Nat.le_of_ble_eq_true rfl) rfl rfl (fun w_282 b_282 lg_282 q_282 => ?_)
        have G_282 := G_273.go q_282 (by first | exact ⟨trivial, trivial, trivial, trivial, fun _ _ _ => ⟨trivial, trivial⟩⟩ | exact ⟨by omega, by omega, by omega, by omega, fun K _ _ => ⟨by omega, by omega⟩⟩)
        have lgr_282 := lgr_273.go q_282 (by first | trivial | decide | omega)
        refine go_aload 287 dX6_begins_285 rfl ?_
        refine go_iload 289 dX6_begins_287 rfl ?_
        refine gn_put lg_282 b_282 292 dX6_begins_289 pX6_72 (by exact Nat.le_of_ble_eq_true rfl) rfl rfl (fun w_289 b_289 lg_289 q_289 => ?_)
        have G_289 := G_282.go q_289 (by first | exact ⟨trivial, trivial, trivial, trivial, fun _ _ _ => ⟨trivial, trivial⟩⟩ | exact ⟨by omega, by omega, by omega, by omega, fun K _ _ => ⟨by omega, by omega⟩⟩)
        have lgr_289 := lgr_282.go q_289 (by first | trivial | decide | omega)
        refine go_aload_n 293 dX6_begins_292 rfl ?_
        refine go_iload 295 dX6_begins_293 rfl ?_
        refine gcV1 298 dX6_begins_295 vX6_149 (b_289.lx hw h0).x.1 rfl (cl_isEngaged (b_289.lx hw h0) hI hs) ?_
        refine go_if_eq 311 301 dX6_begins_298 (fun h298 => ?_) (fun h298 => ?_)
        · refine go_iinc 314 dX6_begins_311 rfl (by decide) zc_1 ?_
          
          have e9 : zb (eng D (nI i)) = 0 := h298
          exact go_locals _ rfl (K314 hx1 w_289 (tset T_273 lgr (12 + 5 * nL D')) lg lgr _ _ (a + 1) (b_289.tag lgr_289.2.2) (G_289.go (Kq.tg lgr_289.2.1) (by first | exact ⟨trivial, trivial, trivial, trivial, fun _ _ _ => ⟨trivial, trivial⟩⟩ | exact ⟨by omega, by omega, by omega, by omega, fun K _ _ => ⟨by omega, by omega⟩⟩)) (by rw [e9]; exact lg_289.go (Kq.tg lgr_289.2.1) (by omega)) lgr_289.tag (by rw [(zb_n0 e9)]) (by omega) (by omega))
        · refine go_aload 303 dX6_begins_301 rfl ?_
          refine go_iconst 304 dX6_begins_303 zc_3 ?_
          refine go_iconst 305 dX6_begins_304 zc_1 ?_
          refine gn_close (t2 := 12 + 5 * nL D') lg_289 b_289 308 dX6_begins_305 vX6_120 (by decide) (by omega) (by omega) (by exact Nat.le_of_ble_eq_true rfl) (fun w_305 T_305 c9 b_305 l_305 c_305 q_305 => ?_)
          have G_305 := G_289.go q_305 (by first | exact ⟨trivial, trivial, trivial, trivial, fun _ _ _ => ⟨trivial, trivial⟩⟩ | exact ⟨by omega, by omega, by omega, by omega, fun K _ _ => ⟨by omega, by omega⟩⟩)
          refine go_goto 314 dX6_begins_308 ?_
          
          have e9 := zb_n1 h298
          exact go_locals _ rfl (K314 hx1 w_305 T_305 lg c9 _ _ a b_305 G_305 (by rw [e9.1]; exact l_305) c_305 (by rw [e9.2, Int32.add_zero]) (by omega) (by omega))
      · refine go_goto 340 dX6_begins_266 ?_
        refine go_iinc 343 dX6_begins_340 rfl (by decide) zc_1 ?_
        refine go_goto 250 dX6_begins_343 ?_
        have hx0 : ¬ bitOf x i = 1 := fun z => by rw [show bitOf x i = 0 from h263] at z; exact absurd z (by decide)
        rw [nI_1]
        refine go_locals _ rfl (ih (i + 1) w T k n D' a B R (by omega) b0 hb.up hc ho hn9 (by rw [bN_s, if_neg hx0] at hl; omega) G0 (by rw [← hF]; show itr (bStep x (nI (nC D))) (i + 1) f9 _ = itr (bStep x (nI (nC D))) (i + 1) f9 (bStep x (nI (nC D)) i D'); rw [show bStep x (nI (nC D)) i D' = D' from if_neg hx0]) ha (by omega) (by omega))

/-- the law's own expression -/
def TMR (w : ZW) (T : LT) (tm : Option Nat) (cs : List Int32) : Prop := (tm = none ∧ cs = []) ∨ ∃ t tx ow, tm = some t ∧ ND w T 2 t cs tx ow
/-- behind a call begun -/
def PvB (Γ : ZG) (w : ZW) (T : LT) (sg : ZSg) (tm : Option Nat) (e : Nat) (r : Value) (D' : ZD) : Option Value → ZW → Prop := fun v w' => v = some r ∧ ∃ T' A' V', FR w T w' T' ∧ LX Γ w' T' 1 sg A' V' tm e D'
theorem ring_0 {lg cl rf tm : Int32} : (clmp 1 99 30).toInt32 = ringV lg cl rf tm [] := by
  unfold ringV
  rw [if_pos rfl]
  decide
theorem B6_0 : B6 (0 : Int64) ∧ B6 (1 : Int64) := by unfold B6; decide
theorem lg_ref {A : LA} {ref : Int32} : (lgO A ref = none ↔ ref = -1) := ⟨lgO_n, fun h => by rw [h]; rfl⟩

set_option maxRecDepth 100000 in
set_option maxHeartbeats 4000000 in
theorem cl_begins {l : Launch} {Γ : ZG} {w0 : ZW} {T0 : LT} {sg : ZSg} {A V : LA} {tm : Option Nat} {e : Nat} {D : ZD} (h0 : LX Γ w0 T0 1 sg A V tm e D) (hw : WF w0) (hG : GI sg D) (hJ : JX D) {cs : List Int32} (hT : TMR w0 T0 tm cs) {q : Nat} {x ref rv : Int32} (hC : nC D < 20) (hq : q < nP D) (hxb : ∀ j, j < 10 → bitOf x j = 1 → j < nP D) (hxq : bitOf x q ≠ 1) (hL : nL D + bN x 0 10 ≤ 40) (hr : ref = -1 ∨ (ref = nI (tN ref) ∧ tN ref < nL D)) (hv9 : RvOK rv) (hrv : rv = ringV (nI (bN x 0 10)) (nI q) (if ref = -1 then 0 else 1) (D 0) cs) : Ct l Γ mX6_begins 4 40 210 [.ref e, .int (nI q), .int x, va_rf (lgO A ref)] w0 (PvB Γ w0 T0 (sgN sg D (bN x 0 10)) tm e (.int (begN D (nI q) x rv ref)) (begD D (nI q) x rv ref)) zNo := by
  have hI : Ix D := hG.iv.1
  have h20 := hI.2.1.2
  have h40 := hI.2.2.1.2
  have h10 := hI.1.2
  have hbn := bN_le (x := x) 10 0
  have hs := hG.seg
  have h0t := hG.jt.1
  obtain ⟨gi1, gi2, gi3⟩ := gi_newC hG (rv := rv) hC hq hr hv9
  have K346 : ∀ (t rw nt nl : Nat) (w : ZW) (T : LT) (k n : Nat) (B R : Nat → Nat), BW w0 T0 w T → GB D (nC D) 10 (begB D (nI q) x rv ref) → nC (begB D (nI q) x rv ref) = nC D + 1 → nL (begB D (nI q) x rv ref) = nL D + bN x 0 10 → OD (newC D (nI q) rv ref) (begB D (nI q) x rv ref) (nL D) → BG Γ w0 w T A D (bN x 0 10) t rw nt nl (tfB q D rv (lgO A ref) rw) B R (begB D (nI q) x rv ref) → k ≤ 35 → n ≤ 210 → Go l Γ mX6_begins 4 40 210 (PvB Γ w0 T0 (sgN sg D (bN x 0 10)) tm e (.int (begN D (nI q) x rv ref)) (begD D (nI q) x rv ref)) zNo k n w 346 [(0, .ref e), (2, .int x), (4, .ref t), (8, .ref nt), (9, .ref nl), (11, .int (zcnt (fun i => dL (begB D (nI q) x rv ref) i 2 = 0) (nL D) (nL (begB D (nI q) x rv ref) - nL D) 0))] [] := by
    intro t rw nt nl w T k n B R b0 hb hc hl ho G0 hk hn
    have hx := (b0.lx hw h0).x
    refine go_aload_n 347 dX6_begins_346 rfl ?_
    refine go_aload 349 dX6_begins_347 rfl ?_
    refine go_put 352 dX6_begins_349 pX6_27 hx.1 (show 5 < 9 by decide) rfl rfl ?_
    refine go_aload_n 353 dX6_begins_352 rfl ?_
    refine go_aload 355 dX6_begins_353 rfl ?_
    refine go_put 358 dX6_begins_355 pX6_33 wset_at (by exact (show 6 < 9 by decide)) rfl rfl ?_
    rw [wset_wset]
    have w9 := newC_what (p := nI q) (rv := rv) (ref := ref) hC
    have lo : ∀ i, i < 4 → (begB D (nI q) x rv ref) i = D i := fun i hi => (ho i (by omega) (by omega)).trans (w9.1 i (by omega) (by omega))
    have e9 : ((xFs A tm D).set 5 (.ref nt)).set 6 (.ref nl) = xFs (A2 A D t rw nt nl B) tm (begB D (nI q) x rv ref) := by
      unfold xFs
      rw [lo 0 (by decide), lo 1 (by decide), lo 2 (by decide), lo 3 (by decide), a2_80, a2_81, a2_82, a2_83]
      rfl
    rw [e9]
    have hX := bg_lx (b0.lx hw h0) hG.iv hJ hs hC hr hb hc hl ho G0
    have f9 : FR w0 T0 (wset w e (.inr (6, xFs (A2 A D t rw nt nl B) tm (begB D (nI q) x rv ref)))) (tset (tset T rw 0) nl 0) := by
      obtain ⟨-, ⟨f, f1, -⟩, ⟨g, g1, -⟩, -⟩ := G0
      exact ((b0.FR.own hx.2 (by decide)).tag f1.2.2).tag g1.2.2
    generalize wset w e (.inr (6, xFs (A2 A D t rw nt nl B) tm (begB D (nI q) x rv ref))) = w1 at hX f9 ⊢
    generalize tset (tset T rw 0) nl 0 = T1 at hX f9 ⊢
    have ez : zcnt (fun i => dL (begB D (nI q) x rv ref) i 2 = 0) (nL D) (nL (begB D (nI q) x rv ref) - nL D) 0 = begN D (nI q) x rv ref := by
      rw [hl, Nat.add_sub_cancel_left]
      rfl
    rw [ez]
    refine go_iload 360 dX6_begins_358 rfl ?_
    refine go_if_ne 369 363 dX6_begins_360 (fun h360 => ?_) (fun h360 => ?_)
    · refine go_iload 371 dX6_begins_369 rfl ?_
      refine go_ireturn dX6_begins_371 rfl (by omega) (by omega) ⟨rfl, T1, A2 A D t rw nt nl B, V2 V D R, f9, by rw [show begD D (nI q) x rv ref = begB D (nI q) x rv ref from if_neg h360]; exact hX⟩
    · have h360 : begN D (nI q) x rv ref = 0 := h360
      rw [show (Value.ref t) = .ref (A2 A D t rw nt nl B 1 (nC D)) by rw [a2_1n]]
      refine go_aload_n 364 dX6_begins_363 rfl ?_
      refine go_aload 366 dX6_begins_364 rfl ?_
      refine gl_call f9 369 [.ref (A2 A D t rw nt nl B 1 (nC D))] dX6_begins_366 vX6_124 hX.x.1 rfl (cl_fails hX hb.1 (by rw [hc]; omega)) (by decide) (by decide) (by omega) (by omega) (by exact Nat.le_of_ble_eq_true rfl) (fun w2 T2 V2' hX2 f2 g2 => ?_)
      refine go_iload 371 dX6_begins_369 rfl ?_
      refine go_ireturn dX6_begins_371 rfl (by omega) (by omega) ⟨rfl, T2, A2 A D t rw nt nl B, V2', f2, by rw [show begD D (nI q) x rv ref = failD (begB D (nI q) x rv ref) (nC D) from if_pos h360]; exact hX2⟩
  have K241 : ∀ (t rw nt nl : Nat) (f : Nat → Option Nat) (w : ZW) (T : LT) (k n : Nat) (g : Nat → Option Nat), BW w0 T0 w T → Nc w0 w T t (.inr (10, tfB q D rv (lgO A ref) rw)) (11 + 5 * nC D) → Nc w0 w T rw (q5 Γ 7 (bN x 0 10) f) 6 → NTp Γ w0 w T A D t nt → Nc w0 w T nl (q5 Γ 7 (nL D + bN x 0 10) g) 7 → (∀ k, k < nL D → g k = some (A 0 k)) → k ≤ 5 → n ≤ 90 → Go l Γ mX6_begins 4 40 210 (PvB Γ w0 T0 (sgN sg D (bN x 0 10)) tm e (.int (begN D (nI q) x rv ref)) (begD D (nI q) x rv ref)) zNo k n w 241 [(0, .ref e), (1, .int (nI q)), (2, .int x), (4, .ref t), (5, .int (nI (bN x 0 10))), (8, .ref nt), (9, .ref nl)] [] := by
    intro t rw nt nl f w T k n g b0 t0 rw0 nt0 nl0 hg hk hn
    refine go_iconst 242 dX6_begins_241 zc_0 ?_
    refine go_istore 244 dX6_begins_242 (by decide) ?_
    refine go_iconst 245 dX6_begins_244 zc_0 ?_
    refine go_istore 247 dX6_begins_245 (by decide) ?_
    refine go_iconst 248 dX6_begins_247 zc_0 ?_
    refine go_istore 250 dX6_begins_248 (by decide) ?_
    have L4 := lp4_begins (l := l) h0 hw hI (t := t) (rw := rw) (nt := nt) (nl := nl) (N := bN x 0 10) (q := q) (x := x) (rv := rv) (ref := ref) (DF := begB D (nI q) x rv ref) hs hC hL hxb hxq (by omega) (K346 t rw nt nl) 10 0 w T k n (newC D (nI q) rv ref) 0 (fun _ => 0) (fun _ => 0) rfl b0 gi1 gi3 OD.rf (fun j h1 h2 => absurd h2 (by rw [gi2]; omega)) (by rw [gi2]) ⟨t0, ⟨f, rw0, fun j h1 h2 => absurd h2 (by rw [gi2]; omega)⟩, ⟨g, nl0, hg, fun j h1 h2 => absurd h2 (by rw [gi2]; omega)⟩, nt0, fun j h1 h2 => absurd h2 (by rw [gi2]; omega)⟩ rfl (by rw [gi2, Nat.sub_self]; rfl) (by omega) (by omega)
    rw [show nI (nL (newC D (nI q) rv ref) - nL D) = 0 by rw [gi2, Nat.sub_self]; rfl] at L4
    exact go_locals _ rfl L4
  have K187 : ∀ (t rw nt : Nat) (f : Nat → Option Nat) (w : ZW) (T : LT) (k n : Nat) (g : Nat → Option Nat), BW w0 T0 w T → Nc w0 w T t (.inr (10, tfB q D rv (lgO A ref) rw)) (11 + 5 * nC D) → Nc w0 w T rw (q5 Γ 7 (bN x 0 10) f) 6 → Nc w0 w T nt (q5 Γ 8 (nC D + 1) g) 0 → (∀ c, c < nC D → g c = some (A 1 c)) → k ≤ 4 → n ≤ 50 → Go l Γ mX6_begins 4 40 210 (PvB Γ w0 T0 (sgN sg D (bN x 0 10)) tm e (.int (begN D (nI q) x rv ref)) (begD D (nI q) x rv ref)) zNo k n w 187 [(0, .ref e), (1, .int (nI q)), (2, .int x), (4, .ref t), (5, .int (nI (bN x 0 10))), (8, .ref nt)] [] := by
    intro t rw nt f w T k n g b0 t0 rw0 nt0 hg hk hn
    refine go_aload 189 dX6_begins_187 rfl ?_
    refine go_aload_n 190 dX6_begins_189 rfl ?_
    refine gl_x (b0.lx hw h0) 193 dX6_begins_190 fX6_27 rfl ?_
    refine gl_nC (b0.lx hw h0) 194 dX6_begins_193 ?_
    refine go_aload 196 dX6_begins_194 rfl ?_
    refine gn_ast8 (i := nC D) nt0 b0 t0.1 rfl (by omega) (by omega) 197 dX6_begins_196 (fun w_196 b_196 nt_196 q_196 => ?_)
    have t_196 := t0.go q_196 (by first | trivial | decide | omega)
    have rw_196 := rw0.go q_196 (by first | trivial | decide | omega)
    refine go_aload_n 198 dX6_begins_197 rfl ?_
    refine gl_x (b_196.lx hw h0) 201 dX6_begins_198 fX6_33 rfl ?_
    refine gl_nL (b_196.lx hw h0) 202 dX6_begins_201 ?_
    refine go_iload 204 dX6_begins_202 rfl ?_
    refine go_iadd 205 dX6_begins_204 ?_
    refine gn_anew7 7 b_196 208 dX6_begins_205 al_X6_31 (nI_add _ _) (by omega) (by omega) (by omega) (fun w_205 T_205 nl b_205 nl_205 q_205 => ?_)
    have t_205 := t_196.go q_205 (by first | trivial | decide | omega)
    have rw_205 := rw_196.go q_205 (by first | trivial | decide | omega)
    have nt_205 := nt_196.go q_205 (by first | trivial | decide | omega)
    refine go_astore 210 dX6_begins_208 (by decide) ?_
    refine go_iconst 211 dX6_begins_210 zc_0 ?_
    refine go_istore 213 dX6_begins_211 (by decide) ?_
    refine go_locals _ rfl (lp3_begins h0 hw hI hL (K241 t rw nt nl f) (nL D) 0 w_205 T_205 _ _ _ (Nat.zero_add _) b_205 t_205 rw_205 ⟨_, nt_205, fun c hc => ?_, ?_⟩ nl_205 (fun _ z => absurd z (Nat.not_lt_zero _)) (by omega) (by omega))
    · unfold va_up
      rw [if_neg (by omega)]
      exact hg c hc
    · unfold va_up
      rw [if_pos rfl]
  have K124 : ∀ (t rw : Nat) (f : Nat → Option Nat) (w : ZW) (T : LT) (k n : Nat) (v : Int64), BW w0 T0 w T → Nc w0 w T t (.inr (10, [.int (nI q), .int (D 0), .int 0, va_rf (lgO A ref), .null, .ref rw])) (11 + 5 * nC D) → Nc w0 w T rw (q5 Γ 7 (bN x 0 10) f) 6 → (clmp 1 99 v).toInt32 = rv → k ≤ 3 → n ≤ 28 → Go l Γ mX6_begins 4 40 210 (PvB Γ w0 T0 (sgN sg D (bN x 0 10)) tm e (.int (begN D (nI q) x rv ref)) (begD D (nI q) x rv ref)) zNo k n w 124 [(0, .ref e), (1, .int (nI q)), (2, .int x), (3, va_rf (lgO A ref)), (4, .ref t), (5, .int (nI (bN x 0 10)))] [.long v] := by
    intro t rw f w T k n v b0 t0 rw0 hv hk hn
    refine go_lstore 126 dX6_begins_124 (by decide) ?_
    refine go_aload 128 dX6_begins_126 rfl ?_
    refine go_lconst 129 dX6_begins_128 zl_1 ?_
    refine go_ldc2 132 dX6_begins_129 clX6_138 ?_
    refine go_lload 134 dX6_begins_132 rfl ?_
    refine go_minL 137 dX6_begins_134 mlX6_140 (by decide) (by omega) (by omega) (by exact Nat.le_of_ble_eq_true rfl) ?_
    refine go_maxL 140 dX6_begins_137 mlX6_146 (by decide) (by omega) (by omega) (by exact Nat.le_of_ble_eq_true rfl) ?_
    refine go_l2i 141 dX6_begins_140 ?_
    rw [show (if (if v < 99 then v else 99) < 1 then (1 : Int64) else (if v < 99 then v else 99)).toInt32 = rv from hv]
    refine gn_put t0 b0 144 dX6_begins_141 pX6_59 (by exact Nat.le_of_ble_eq_true rfl) rfl rfl (fun w_141 b_141 t_141 q_141 => ?_)
    have rw_141 := rw0.go q_141 (by first | trivial | decide | omega)
    refine go_aload_n 145 dX6_begins_144 rfl ?_
    refine gl_x (b_141.lx hw h0) 148 dX6_begins_145 fX6_27 rfl ?_
    refine gl_nC (b_141.lx hw h0) 149 dX6_begins_148 ?_
    refine go_iconst 150 dX6_begins_149 zc_1 ?_
    refine go_iadd 151 dX6_begins_150 ?_
    refine gn_anew8 0 b_141 154 dX6_begins_151 al_X6_25 (by rw [nI_1]) (by omega) (by omega) (by omega) (fun w_151 T_151 nt b_151 nt_151 q_151 => ?_)
    have t_151 := t_141.go q_151 (by first | trivial | decide | omega)
    have rw_151 := rw_141.go q_151 (by first | trivial | decide | omega)
    refine go_astore 156 dX6_begins_154 (by decide) ?_
    refine go_iconst 157 dX6_begins_156 zc_0 ?_
    refine go_istore 159 dX6_begins_157 (by decide) ?_
    exact go_locals _ rfl (lp2_begins h0 hw hI (K187 t rw nt f) (nC D) 0 w_151 T_151 _ _ _ (Nat.zero_add _) b_151 t_151 rw_151 nt_151 (fun _ z => absurd z (Nat.not_lt_zero _)) (by omega) (by omega))
  have K112 : ∀ (tm' d ow : Nat) (tx : List Nat), tm = some tm' → ND w0 T0 2 tm' cs tx ow → ∀ (t rw ar : Nat) (f : Nat → Option Nat) (g : Nat → Int64) (w : ZW) (T : LT) (k n : Nat) (v2 : Int64), BW w0 T0 w T → Nc w0 w T t (.inr (10, [.int (nI q), .int (D 0), .int 0, va_rf (lgO A ref), .null, .ref rw])) (11 + 5 * nC D) → Nc w0 w T rw (q5 Γ 7 (bN x 0 10) f) 6 → Nc w0 w T ar (l5 Γ 4 g) 9 → g 0 = (nI (bN x 0 10)).toInt64 → g 1 = (nI q).toInt64 → v2 = (if ref = -1 then (0 : Int32) else 1).toInt64 → k ≤ 3 → n ≤ 28 → Go l Γ mX6_begins 4 40 210 (PvB Γ w0 T0 (sgN sg D (bN x 0 10)) tm e (.int (begN D (nI q) x rv ref)) (begD D (nI q) x rv ref)) zNo k n w 112 [(0, .ref e), (1, .int (nI q)), (2, .int x), (3, va_rf (lgO A ref)), (4, .ref t), (5, .int (nI (bN x 0 10)))] [.long v2, .int 2, .ref ar, .ref ar, .ref tm'] := by
    intro tm' d9 ow tx htm hN0 t rw ar f g w T k n v2 b0 t0 rw0 ar0 g0 g1 hv2 hk hn
    refine gn_last 2 ar0 b0 rfl (by decide) (by decide) 113 dX6_begins_112 (fun w_112 b_112 ar_112 q_112 => ?_)
    have t_112 := t0.go q_112 (by first | trivial | decide | omega)
    have rw_112 := rw0.go q_112 (by first | trivial | decide | omega)
    refine go_dup 114 dX6_begins_113 rfl ?_
    refine go_iconst 115 dX6_begins_114 zc_3 ?_
    refine go_aload_n 116 dX6_begins_115 rfl ?_
    refine gl_x (b_112.lx hw h0) 119 dX6_begins_116 fX6_41 rfl ?_
    refine go_i2l 120 dX6_begins_119 ?_
    refine gn_last 3 ar_112 b_112 rfl (by decide) (by decide) 121 dX6_begins_120 (fun w_120 b_120 ar_120 q_120 => ?_)
    have t_120 := t_112.go q_120 (by first | trivial | decide | omega)
    have rw_120 := rw_112.go q_120 (by first | trivial | decide | omega)
    have hN9 := hN0.fr (Kq.old b_120 hw)
    obtain ⟨-, fs, htf⟩ := nd_val (l := l) (Γ := Γ) (w := w_120) (a := ar) (lg := nI (bN x 0 10)) (cl := nI q) (rf := if ref = -1 then 0 else 1) (tm := D 0) ⟨_, ar_120.1, ⟨g0, g1, hv2, rfl⟩, B6_nI (by omega), B6_nI (by omega), by split <;> (unfold B6; decide), by rw [h0t.1]; exact B6_nI (by omega)⟩ hN9
    obtain ⟨v, hv, hv3⟩ := vn_ring (nd_ne hN9) (nd_val (l := l) (Γ := Γ) (w := w_120) (a := ar) (lg := nI (bN x 0 10)) (cl := nI q) (rf := if ref = -1 then 0 else 1) (tm := D 0) ⟨_, ar_120.1, ⟨g0, g1, hv2, rfl⟩, B6_nI (by omega), B6_nI (by omega), by split <;> (unfold B6; decide), by rw [h0t.1]; exact B6_nI (by omega)⟩ hN9).1
    refine gcV1 (hdp := by decide) 124 dX6_begins_121 vX6_132 htf rfl hv ?_
    exact K124 t rw f w_120 T _ _ v b_120 t_120 rw_120 (hv3.trans hrv.symm) (by omega) (by omega)
  have K70 : ∀ (t rw : Nat) (f : Nat → Option Nat) (w : ZW) (T : LT) (k n : Nat), BW w0 T0 w T → Nc w0 w T t (.inr (10, [.int (nI q), .int (D 0), .int 0, va_rf (lgO A ref), .null, .ref rw])) (11 + 5 * nC D) → Nc w0 w T rw (q5 Γ 7 (bN x 0 10) f) 6 → k ≤ 2 → n ≤ 20 → Go l Γ mX6_begins 4 40 210 (PvB Γ w0 T0 (sgN sg D (bN x 0 10)) tm e (.int (begN D (nI q) x rv ref)) (begD D (nI q) x rv ref)) zNo k n w 70 [(0, .ref e), (1, .int (nI q)), (2, .int x), (3, va_rf (lgO A ref)), (4, .ref t), (5, .int (nI (bN x 0 10)))] [] := by
    intro t rw f w T k n b0 t0 rw0 hk hn
    refine go_aload_n 71 dX6_begins_70 rfl ?_
    refine gl_x (b0.lx hw h0) 74 dX6_begins_71 fX6_44 rfl ?_
    rcases hT with ⟨rfl, rfl⟩ | ⟨tm', tx, ow, rfl, hN0⟩
    · refine go_ifnonnullN 77 dX6_begins_74 ?_
      refine go_ldc2 80 dX6_begins_77 clX6_130 ?_
      refine go_goto 124 dX6_begins_80 ?_
      exact K124 t rw f w T _ _ 30 b0 t0 rw0 (ring_0.trans hrv.symm) (by omega) (by omega)
    · refine go_ifnonnull 83 dX6_begins_74 ?_
      refine go_aload_n 84 dX6_begins_83 rfl ?_
      refine gl_x (b0.lx hw h0) 87 dX6_begins_84 fX6_44 rfl ?_
      refine go_iconst 88 dX6_begins_87 zc_4 ?_
      refine gn_newl 4 9 b0 90 dX6_begins_88 rfl (by decide) (by omega) (by omega) (fun w_88 T_88 ar b_88 ar_88 q_88 => ?_)
      have t_88 := t0.go q_88 (by first | trivial | decide | omega)
      have rw_88 := rw0.go q_88 (by first | trivial | decide | omega)
      refine go_dup 91 dX6_begins_90 rfl ?_
      refine go_iconst 92 dX6_begins_91 zc_0 ?_
      refine go_iload 94 dX6_begins_92 rfl ?_
      refine go_i2l 95 dX6_begins_94 ?_
      refine gn_last 0 ar_88 b_88 rfl (by decide) (by decide) 96 dX6_begins_95 (fun w_95 b_95 ar_95 q_95 => ?_)
      have t_95 := t_88.go q_95 (by first | trivial | decide | omega)
      have rw_95 := rw_88.go q_95 (by first | trivial | decide | omega)
      refine go_dup 97 dX6_begins_96 rfl ?_
      refine go_iconst 98 dX6_begins_97 zc_1 ?_
      refine go_iload_n 99 dX6_begins_98 rfl ?_
      refine go_i2l 100 dX6_begins_99 ?_
      refine gn_last 1 ar_95 b_95 rfl (by decide) (by decide) 101 dX6_begins_100 (fun w_100 b_100 ar_100 q_100 => ?_)
      have t_100 := t_95.go q_100 (by first | trivial | decide | omega)
      have rw_100 := rw_95.go q_100 (by first | trivial | decide | omega)
      refine go_dup 102 dX6_begins_101 rfl ?_
      refine go_iconst 103 dX6_begins_102 zc_2 ?_
      refine go_aload_nQ 104 dX6_begins_103 rfl ?_
      refine go_ifnonnullQ 111 107 dX6_begins_104 (fun x104 n104 => ?_) (fun n104 => ?_)
      · have o104 := n104
        refine go_lconst 112 dX6_begins_111 zl_1 ?_
        exact K112 tm' 0 ow tx rfl hN0 t rw ar f _ w_100 T_88 _ _ 1 b_100 t_100 rw_100 ar_100 rfl rfl (by rw [if_neg (lgO_s o104)]; rfl) (by omega) (by omega)
      · have o104 := n104
        refine go_lconst 108 dX6_begins_107 zl_0 ?_
        refine go_goto 112 dX6_begins_108 ?_
        exact K112 tm' 0 ow tx rfl hN0 t rw ar f _ w_100 T_88 _ _ 0 b_100 t_100 rw_100 ar_100 rfl rfl (by rw [if_pos (lgO_n o104)]; rfl) (by omega) (by omega)
  refine Ct.of (by decide) rfl (by cases lgO A ref <;> exact Nat.le_of_ble_eq_true rfl) ?_
  refine gn_new ((11 + 5 * nC D)) (BW.rf (T := T0)) 3 dX6_begins_0 nX6_25 (by omega) (by omega) (fun w_0 T_0 t b_0 t_0 q_0 => ?_)
  refine go_dup 4 dX6_begins_3 rfl ?_
  refine gn_iniT 7 dX6_begins_4 vnX6_52 (by decide) (by omega) (by omega) (by exact Nat.le_of_ble_eq_true rfl) ?_
  refine go_astore 9 dX6_begins_7 (by decide) ?_
  refine go_iconst 10 dX6_begins_9 zc_0 ?_
  refine go_istore 12 dX6_begins_10 (by decide) ?_
  refine go_iconst 13 dX6_begins_12 zc_0 ?_
  refine go_istore 15 dX6_begins_13 (by decide) ?_
  refine go_locals _ (by cases lgO A ref <;> rfl) (lp1_begins (e := e) (t := t) (F := nI (bN x 0 10)) (r := va_rf (lgO A ref)) (p := nI q) ?_ 10 0 0 rfl ((bcnt_eq 10 0 0).trans (by rw [Nat.zero_add])) (by omega) (by omega))
  have b0 := b_0
  refine go_aload 41 dX6_begins_39 rfl ?_
  refine go_iload_n 42 dX6_begins_41 rfl ?_
  refine gn_put t_0 b0 45 dX6_begins_42 pX6_53 (by exact Nat.le_of_ble_eq_true rfl) rfl rfl (fun w_42 b_42 t_42 q_42 => ?_)
  refine go_aload 47 dX6_begins_45 rfl ?_
  refine go_aload_n 48 dX6_begins_47 rfl ?_
  refine gl_x (b_42.lx hw h0) 51 dX6_begins_48 fX6_41 rfl ?_
  refine gn_put t_42 b_42 54 dX6_begins_51 pX6_56 (by exact Nat.le_of_ble_eq_true rfl) rfl rfl (fun w_51 b_51 t_51 q_51 => ?_)
  refine go_aload 56 dX6_begins_54 rfl ?_
  refine go_aload_nQ 57 dX6_begins_56 rfl ?_
  refine gn_put t_51 b_51 60 dX6_begins_57 pX6_97 (by exact Nat.le_of_ble_eq_true rfl) (by cases lgO A ref <;> rfl) (by cases lgO A ref <;> rfl) (fun w_57 b_57 t_57 q_57 => ?_)
  refine go_aload 62 dX6_begins_60 rfl ?_
  refine go_iload 64 dX6_begins_62 rfl ?_
  refine gn_anew7 6 b_57 67 dX6_begins_64 al_X6_31 rfl (by omega) (by omega) (by omega) (fun w_64 T_64 rw b_64 rw_64 q_64 => ?_)
  have t_64 := t_57.go q_64 (by first | trivial | decide | omega)
  refine gn_put t_64 b_64 70 dX6_begins_67 pX6_62 (by exact Nat.le_of_ble_eq_true rfl) rfl rfl (fun w_67 b_67 t_67 q_67 => ?_)
  have rw_67 := rw_64.go q_67 (by first | trivial | decide | omega)
  exact K70 t rw _ w_67 T_64 _ _ b_67 t_67 rw_67 (by omega) (by omega)

end LBegM
