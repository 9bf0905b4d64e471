section LCopyM
def CPf (Γ : ZG) (w0 w : ZW) (T : LT) (AA : LA) (D : ZD) (i : Nat) (f : Nat → Option Nat) : Prop := ∀ p, p < i → f p = some (AA 3 p) ∧ ∃ g, Nc w0 w T (AA 3 p) (i5 Γ 3 g) 0 ∧ ∀ j, j < 3 → g j = dP D p j
theorem CPf.go {Γ : ZG} {w0 w w1 : ZW} {T T1 : LT} {AA : LA} {D : ZD} {i : Nat} {f : Nat → Option Nat} {P : Nat → Prop} (h : CPf Γ w0 w T AA D i f) (k : Kq w T w1 T1 P) (h0 : P 0) : CPf Γ w0 w1 T1 AA D i f := fun p hp => by
  obtain ⟨g1, g, g2, g3⟩ := h p hp
  exact ⟨g1, g, g2.go k h0, g3⟩
def CCf (Γ : ZG) (w0 w : ZW) (T : LT) (sg : ZSg) (AA : LA) (D : ZD) (i s : Nat) (f : Nat → Option Nat) : Prop := ∀ c, c < i → f c = some (AA 1 c) ∧ (c < s → CFl Γ w0 w T sg AA D c) ∧ (s ≤ c → CBk Γ w0 w T sg AA D c)
theorem CCf.go {Γ : ZG} {w0 w w1 : ZW} {T T1 : LT} {sg : ZSg} {AA : LA} {D : ZD} {i s : Nat} {f : Nat → Option Nat} {P : Nat → Prop} (h : CCf Γ w0 w T sg AA D i s f) (k : Kq w T w1 T1 P) (h0 : ∀ c, c < i → P (11 + 5 * c) ∧ P (13 + 5 * c)) : CCf Γ w0 w1 T1 sg AA D i s f := fun c hc => by
  obtain ⟨g1, g2, g3⟩ := h c hc
  exact ⟨g1, fun z => (g2 z).go k (h0 c hc), fun z => (g3 z).go k (h0 c hc) ⟨rfl, rfl⟩⟩
def CLf (Γ : ZG) (w0 w : ZW) (T : LT) (AA V : LA) (D : ZD) (i : Nat) (f : Nat → Option Nat) : Prop := ∀ k, k < i → f k = some (AA 0 k) ∧ Nc w0 w T (AA 0 k) (.inr (7, lFs AA (VV AA V) D k)) (10 + 5 * k) ∧ Nc w0 w T (AA 2 k) (q5 Γ 4 2 (rpF V D k)) (12 + 5 * k)
theorem CLf.go {Γ : ZG} {w0 w w1 : ZW} {T T1 : LT} {AA V : LA} {D : ZD} {i : Nat} {f : Nat → Option Nat} {P : Nat → Prop} (h : CLf Γ w0 w T AA V D i f) (k : Kq w T w1 T1 P) (h0 : ∀ c, c < i → P (10 + 5 * c) ∧ P (12 + 5 * c)) : CLf Γ w0 w1 T1 AA V D i f := fun c hc => by
  obtain ⟨g1, g2, g3⟩ := h c hc
  exact ⟨g1, g2.go k (h0 c hc).1, g3.go k (h0 c hc).2⟩

set_option maxRecDepth 100000 in
set_option maxHeartbeats 4000000 in
theorem lpP_copy {l : Launch} {Γ : ZG} {w0 : ZW} {T0 : LT} {sg : ZSg} {A V : LA} {tm : Option Nat} {e : Nat} {D : ZD} (h0 : LX Γ w0 T0 1 sg A V tm e D) (hw : WF w0) (hI : Ix D) {x pa r r2 ta : Nat} {g7 : Nat → Int32} {Φ : Option Value → ZW → Prop} (kk : ∀ (w : ZW) (T : LT) (k n : Nat) (AA : LA), BW w0 T0 w T → Nc w0 w T x (.inr (6, [.int (D 0), .int (D 1), .int (D 2), .int (D 3), .ref pa, .ref r, .ref r2, .ref ta, va_rf tm])) 14 → Nc w0 w T ta (i5 Γ 7 g7) 0 → CPp Γ w0 w T AA D (nP D) pa → k ≤ 18 → n ≤ 70 → Go l Γ mX6_copy 2 140 1500 Φ zNo k n w 109 [(0, .ref e), (1, .ref x)] []) : ∀ (f9 i : Nat) (w : ZW) (T : LT) (k n : Nat) (AA : LA), i + f9 = nP D → BW w0 T0 w T → Nc w0 w T x (.inr (6, [.int (D 0), .int (D 1), .int (D 2), .int (D 3), .ref pa, .ref r, .ref r2, .ref ta, va_rf tm])) 14 → Nc w0 w T ta (i5 Γ 7 g7) 0 → CPp Γ w0 w T AA D i pa → k ≤ 8 + i → n ≤ 33 + 3 * i → Go l Γ mX6_copy 2 140 1500 Φ zNo k n w 76 [(0, .ref e), (1, .ref x), (2, .int (nI i))] [] := by
  have h10 := hI.1.2
  intro f9
  induction f9 with
  | zero =>
    intro i w T k n AA hi9 b0 x0 ta0 P0 hk hn
    have hi9 : i = nP D := hi9
    subst hi9
    obtain ⟨fp, p1, p2⟩ := P0
    have p2 : CPf Γ w0 w T AA D (nP D) fp := p2
    refine go_iload_n 77 dX6_copy_76 rfl ?_
    refine go_aload_n 78 dX6_copy_77 rfl ?_
    refine gl_x (b0.lx hw h0) 81 dX6_copy_78 fX6_21 rfl ?_
    refine gl_nP (b0.lx hw h0) 82 dX6_copy_81 ?_
    refine go_icmp_ge 109 85 dX6_copy_82 (fun h82 => ?_) (fun h82 => ?_)
    · exact go_locals _ rfl (kk w T k n AA b0 x0 ta0 ⟨fp, p1, p2⟩ (by omega) (by omega))
    · exact (lpE (a := nI (nP D)) (N := nP D) rfl (by omega) h82).elim
  | succ f9 ih =>
    intro i w T k n AA hi9 b0 x0 ta0 P0 hk hn
    have hi : i < nP D := by omega
    obtain ⟨fp, p1, p2⟩ := P0
    have p2 : CPf Γ w0 w T AA D i fp := p2
    refine go_iload_n 77 dX6_copy_76 rfl ?_
    refine go_aload_n 78 dX6_copy_77 rfl ?_
    refine gl_x (b0.lx hw h0) 81 dX6_copy_78 fX6_21 rfl ?_
    refine gl_nP (b0.lx hw h0) 82 dX6_copy_81 ?_
    refine go_icmp_ge 109 85 dX6_copy_82 (fun h82 => ?_) (fun h82 => ?_)
    · exact (lpG (a := nI (nP D)) (N := nP D) rfl (by omega) (by omega) h82).elim
    · refine go_aload_n 86 dX6_copy_85 rfl ?_
      refine go_get 89 dX6_copy_86 fX6_21 x0.1 rfl ?_
      refine go_iload_n 90 dX6_copy_89 rfl ?_
      refine go_aload_n 91 dX6_copy_90 rfl ?_
      refine gl_x (b0.lx hw h0) 94 dX6_copy_91 fX6_21 rfl ?_
      refine go_iload_n 95 dX6_copy_94 rfl ?_
      refine gl_pa (b0.lx hw h0) hI rfl hi 96 dX6_copy_95 ?_
      obtain ⟨g9, g91, g92, g93⟩ := (b0.lx hw h0).p.2 i hi
      refine gn_clone 0 b0 g91 99 102 dX6_copy_96 dX6_copy_99 rfl (by decide) (by omega) (by omega) (by exact Nat.le_of_ble_eq_true rfl) (fun w_96 T_96 cl b_96 cl_96 q_96 => ?_)
      have x_96 := x0.go q_96 (by first | trivial | decide | omega)
      have pa_96 := p1.go q_96 (by first | trivial | decide | omega)
      have f_96 := p2.go q_96 (by first | trivial | decide)
      have ta_96 := ta0.go q_96 (by first | trivial | decide | omega)
      refine gn_astA (i := i) pa_96 b_96 cl_96.1 rfl hi (by omega) 103 dX6_copy_102 (fun w_102 b_102 pa_102 q_102 => ?_)
      have x_102 := x_96.go q_102 (by first | trivial | decide | omega)
      have f_102 := f_96.go q_102 (by first | trivial | decide)
      have ta_102 := ta_96.go q_102 (by first | trivial | decide | omega)
      have cl_102 := cl_96.go q_102 (by first | trivial | decide | omega)
      refine go_iinc 106 dX6_copy_103 rfl (by decide) zc_1 ?_
      refine go_goto 76 dX6_copy_106 ?_
      rw [nI_1]
      refine go_locals _ rfl (ih (i + 1) w_102 _ _ _ (aset AA 3 i cl) (by omega) b_102 x_102 ta_102 ⟨_, pa_102, fun p hp => ?_⟩ (by omega) (by omega))
      by_cases hpi : p = i
      · rw [hpi, aset_s]
        exact ⟨if_pos rfl, g9, cl_102, g93⟩
      · rw [aset_n (Or.inr hpi)]
        obtain ⟨z1, z2⟩ := f_102 p (by omega)
        exact ⟨(if_neg hpi).trans z1, z2⟩

set_option maxRecDepth 100000 in
set_option maxHeartbeats 4000000 in
theorem lpC_copy {l : Launch} {Γ : ZG} {w0 : ZW} {T0 : LT} {sg : ZSg} {A V : LA} {tm : Option Nat} {e : Nat} {D : ZD} (h0 : LX Γ w0 T0 1 sg A V tm e D) (hw : WF w0) (hI : Ix D) (hs : SegD sg D) {x pa ca la ta : Nat} {g7 : Nat → Int32} {Φ : Option Value → ZW → Prop} (kk : ∀ (w : ZW) (T : LT) (k n : Nat) (AA : LA), BW w0 T0 w T → Nc w0 w T x (.inr (6, [.int (D 0), .int (D 1), .int (D 2), .int (D 3), .ref pa, .ref ca, .ref la, .ref ta, va_rf tm])) 14 → Nc w0 w T ta (i5 Γ 7 g7) 0 → CPp Γ w0 w T AA D (nP D) pa → Nc w0 w T la (q5 Γ 7 (nL D) (fun _ => none)) 29 → CPc Γ w0 w T sg AA D (nC D) 0 ca → k ≤ 60 → n ≤ 1050 → Go l Γ mX6_copy 2 140 1500 Φ zNo k n w 221 [(0, .ref e), (1, .ref x)] []) : ∀ (f9 i : Nat) (w : ZW) (T : LT) (k n : Nat) (AA : LA), i + f9 = nC D → BW w0 T0 w T → Nc w0 w T x (.inr (6, [.int (D 0), .int (D 1), .int (D 2), .int (D 3), .ref pa, .ref ca, .ref la, .ref ta, va_rf tm])) 14 → Nc w0 w T ta (i5 Γ 7 g7) 0 → CPp Γ w0 w T AA D (nP D) pa → Nc w0 w T la (q5 Γ 7 (nL D) (fun _ => none)) 29 → CPc Γ w0 w T sg AA D i 0 ca → k ≤ 20 + 2 * i → n ≤ 130 + 46 * i → Go l Γ mX6_copy 2 140 1500 Φ zNo k n w 135 [(0, .ref e), (1, .ref x), (2, .int (nI i))] [] := by
  have h20 := hI.2.1.2
  have h40 := hI.2.2.1.2
  intro f9
  induction f9 with
  | zero =>
    intro i w T k n AA hi9 b0 x0 ta0 P0 la0 C0 hk hn
    have hi9 : i = nC D := hi9
    subst hi9
    obtain ⟨fc, c1, c2⟩ := C0
    have c2 : CCf Γ w0 w T sg AA D (nC D) 0 fc := c2
    refine go_iload_n 136 dX6_copy_135 rfl ?_
    refine go_aload_n 137 dX6_copy_136 rfl ?_
    refine gl_x (b0.lx hw h0) 140 dX6_copy_137 fX6_27 rfl ?_
    refine gl_nC (b0.lx hw h0) 141 dX6_copy_140 ?_
    refine go_icmp_ge 221 144 dX6_copy_141 (fun h141 => ?_) (fun h141 => ?_)
    · exact go_locals _ rfl (kk w T k n AA b0 x0 ta0 P0 la0 ⟨fc, c1, c2⟩ (by omega) (by omega))
    · exact (lpE (a := nI (nC D)) (N := nC D) rfl (by omega) h141).elim
  | succ f9 ih =>
    intro i w T k n AA hi9 b0 x0 ta0 P0 la0 C0 hk hn
    have hi : i < nC D := by omega
    have hsi := hs i hi
    obtain ⟨fc, c1, c2⟩ := C0
    have c2 : CCf Γ w0 w T sg AA D i 0 fc := c2
    refine go_iload_n 136 dX6_copy_135 rfl ?_
    refine go_aload_n 137 dX6_copy_136 rfl ?_
    refine gl_x (b0.lx hw h0) 140 dX6_copy_137 fX6_27 rfl ?_
    refine gl_nC (b0.lx hw h0) 141 dX6_copy_140 ?_
    refine go_icmp_ge 221 144 dX6_copy_141 (fun h141 => ?_) (fun h141 => ?_)
    · exact (lpG (a := nI (nC D)) (N := nC D) rfl (by omega) (by omega) h141).elim
    · refine gn_new ((11 + 5 * i)) b0 147 dX6_copy_144 nX6_25 (by omega) (by omega) (fun w_144 T_144 t b_144 t_144 q_144 => ?_)
      have x_144 := x0.go q_144 (by first | trivial | decide | omega)
      have ca_144 := c1.go q_144 (by first | trivial | decide | omega)
      have f_144 := c2.go q_144 (by first | exact fun _ _ => ⟨trivial, trivial⟩ | exact fun c hc => ⟨by omega, by omega⟩)
      have P_144 := P0.go q_144 (by first | exact ⟨trivial, trivial⟩ | exact ⟨by omega, by omega⟩) (fun _ _ => rfl)
      have la_144 := la0.go q_144 (by first | trivial | decide | omega)
      have ta_144 := ta0.go q_144 (by first | trivial | decide | omega)
      refine go_dup 148 dX6_copy_147 rfl ?_
      refine gn_iniT 151 dX6_copy_148 vnX6_52 (by decide) (by omega) (by omega) (by exact Nat.le_of_ble_eq_true rfl) ?_
      refine go_astore_n 152 dX6_copy_151 (by decide) ?_
      refine go_aload_n 153 dX6_copy_152 rfl ?_
      refine go_aload_n 154 dX6_copy_153 rfl ?_
      refine gl_x (b_144.lx hw h0) 157 dX6_copy_154 fX6_27 rfl ?_
      refine go_iload_n 158 dX6_copy_157 rfl ?_
      refine gl_ca (b_144.lx hw h0) hI rfl hi 159 dX6_copy_158 ?_
      refine gl_t (b_144.lx hw h0) hi 162 dX6_copy_159 fX6_53 rfl ?_
      refine gn_put t_144 b_144 165 dX6_copy_162 pX6_53 (by exact Nat.le_of_ble_eq_true rfl) rfl rfl (fun w_162 b_162 t_162 q_162 => ?_)
      have x_162 := x_144.go q_162 (by first | trivial | decide | omega)
      have ca_162 := ca_144.go q_162 (by first | trivial | decide | omega)
      have f_162 := f_144.go q_162 (by first | exact fun _ _ => ⟨trivial, trivial⟩ | exact fun c hc => ⟨by omega, by omega⟩)
      have P_162 := P_144.go q_162 (by first | exact ⟨trivial, trivial⟩ | exact ⟨by omega, by omega⟩) (fun _ _ => rfl)
      have la_162 := la_144.go q_162 (by first | trivial | decide | omega)
      have ta_162 := ta_144.go q_162 (by first | trivial | decide | omega)
      refine go_aload_n 166 dX6_copy_165 rfl ?_
      refine go_aload_n 167 dX6_copy_166 rfl ?_
      refine gl_x (b_162.lx hw h0) 170 dX6_copy_167 fX6_27 rfl ?_
      refine go_iload_n 171 dX6_copy_170 rfl ?_
      refine gl_ca (b_162.lx hw h0) hI rfl hi 172 dX6_copy_171 ?_
      refine gl_t (b_162.lx hw h0) hi 175 dX6_copy_172 fX6_56 rfl ?_
      refine gn_put t_162 b_162 178 dX6_copy_175 pX6_56 (by exact Nat.le_of_ble_eq_true rfl) rfl rfl (fun w_175 b_175 t_175 q_175 => ?_)
      have x_175 := x_162.go q_175 (by first | trivial | decide | omega)
      have ca_175 := ca_162.go q_175 (by first | trivial | decide | omega)
      have f_175 := f_162.go q_175 (by first | exact fun _ _ => ⟨trivial, trivial⟩ | exact fun c hc => ⟨by omega, by omega⟩)
      have P_175 := P_162.go q_175 (by first | exact ⟨trivial, trivial⟩ | exact ⟨by omega, by omega⟩) (fun _ _ => rfl)
      have la_175 := la_162.go q_175 (by first | trivial | decide | omega)
      have ta_175 := ta_162.go q_175 (by first | trivial | decide | omega)
      refine go_aload_n 179 dX6_copy_178 rfl ?_
      refine go_aload_n 180 dX6_copy_179 rfl ?_
      refine gl_x (b_175.lx hw h0) 183 dX6_copy_180 fX6_27 rfl ?_
      refine go_iload_n 184 dX6_copy_183 rfl ?_
      refine gl_ca (b_175.lx hw h0) hI rfl hi 185 dX6_copy_184 ?_
      refine gl_t (b_175.lx hw h0) hi 188 dX6_copy_185 fX6_59 rfl ?_
      refine gn_put t_175 b_175 191 dX6_copy_188 pX6_59 (by exact Nat.le_of_ble_eq_true rfl) rfl rfl (fun w_188 b_188 t_188 q_188 => ?_)
      have x_188 := x_175.go q_188 (by first | trivial | decide | omega)
      have ca_188 := ca_175.go q_188 (by first | trivial | decide | omega)
      have f_188 := f_175.go q_188 (by first | exact fun _ _ => ⟨trivial, trivial⟩ | exact fun c hc => ⟨by omega, by omega⟩)
      have P_188 := P_175.go q_188 (by first | exact ⟨trivial, trivial⟩ | exact ⟨by omega, by omega⟩) (fun _ _ => rfl)
      have la_188 := la_175.go q_188 (by first | trivial | decide | omega)
      have ta_188 := ta_175.go q_188 (by first | trivial | decide | omega)
      refine go_aload_n 192 dX6_copy_191 rfl ?_
      refine go_aload_n 193 dX6_copy_192 rfl ?_
      refine gl_x (b_188.lx hw h0) 196 dX6_copy_193 fX6_27 rfl ?_
      refine go_iload_n 197 dX6_copy_196 rfl ?_
      refine gl_ca (b_188.lx hw h0) hI rfl hi 198 dX6_copy_197 ?_
      refine gl_t (b_188.lx hw h0) hi 201 dX6_copy_198 fX6_62 rfl ?_
      refine gl_nS (b_188.lx hw h0) hi 202 dX6_copy_201 ?_
      refine gn_anew7 ((13 + 5 * i)) b_188 205 dX6_copy_202 al_X6_31 rfl (by omega) (by omega) (by omega) (fun w_202 T_202 rw' b_202 rw'_202 q_202 => ?_)
      have x_202 := x_188.go q_202 (by first | trivial | decide | omega)
      have ca_202 := ca_188.go q_202 (by first | trivial | decide | omega)
      have f_202 := f_188.go q_202 (by first | exact fun _ _ => ⟨trivial, trivial⟩ | exact fun c hc => ⟨by omega, by omega⟩)
      have P_202 := P_188.go q_202 (by first | exact ⟨trivial, trivial⟩ | exact ⟨by omega, by omega⟩) (fun _ _ => rfl)
      have la_202 := la_188.go q_202 (by first | trivial | decide | omega)
      have ta_202 := ta_188.go q_202 (by first | trivial | decide | omega)
      have t_202 := t_188.go q_202 (by first | trivial | decide | omega)
      refine gn_put t_202 b_202 208 dX6_copy_205 pX6_62 (by exact Nat.le_of_ble_eq_true rfl) rfl rfl (fun w_205 b_205 t_205 q_205 => ?_)
      have x_205 := x_202.go q_205 (by first | trivial | decide | omega)
      have ca_205 := ca_202.go q_205 (by first | trivial | decide | omega)
      have f_205 := f_202.go q_205 (by first | exact fun _ _ => ⟨trivial, trivial⟩ | exact fun c hc => ⟨by omega, by omega⟩)
      have P_205 := P_202.go q_205 (by first | exact ⟨trivial, trivial⟩ | exact ⟨by omega, by omega⟩) (fun _ _ => rfl)
      have la_205 := la_202.go q_205 (by first | trivial | decide | omega)
      have ta_205 := ta_202.go q_205 (by first | trivial | decide | omega)
      have rw'_205 := rw'_202.go q_205 (by first | trivial | decide | omega)
      refine go_aload_n 209 dX6_copy_208 rfl ?_
      refine go_get 212 dX6_copy_209 fX6_27 x_205.1 rfl ?_
      refine go_iload_n 213 dX6_copy_212 rfl ?_
      refine go_aload_n 214 dX6_copy_213 rfl ?_
      refine gn_ast8 (i := i) ca_205 b_205 t_205.1 rfl hi (by omega) 215 dX6_copy_214 (fun w_214 b_214 ca_214 q_214 => ?_)
      have x_214 := x_205.go q_214 (by first | trivial | decide | omega)
      have f_214 := f_205.go q_214 (by first | exact fun _ _ => ⟨trivial, trivial⟩ | exact fun c hc => ⟨by omega, by omega⟩)
      have P_214 := P_205.go q_214 (by first | exact ⟨trivial, trivial⟩ | exact ⟨by omega, by omega⟩) (fun _ _ => rfl)
      have la_214 := la_205.go q_214 (by first | trivial | decide | omega)
      have ta_214 := ta_205.go q_214 (by first | trivial | decide | omega)
      have t_214 := t_205.go q_214 (by first | trivial | decide | omega)
      have rw'_214 := rw'_205.go q_214 (by first | trivial | decide | omega)
      refine go_iinc 218 dX6_copy_215 rfl (by decide) zc_1 ?_
      refine go_goto 135 dX6_copy_218 ?_
      rw [nI_1]
      refine go_locals _ rfl (ih (i + 1) w_214 _ _ _ (aset (aset AA 1 i t) 4 i rw') (by omega) b_214 x_214 ta_214 (P_214.go (P := fun _ => True) Kq.rf ⟨trivial, trivial⟩ (fun p hp => (aset_n (Or.inl (by decide))).trans (aset_n (Or.inl (by decide))))) la_214 ⟨_, ca_214, fun c hc => ?_⟩ (by omega) (by omega))
      have a1 : ∀ c, c ≠ i → aset (aset AA 1 i t) 4 i rw' 1 c = AA 1 c ∧ aset (aset AA 1 i t) 4 i rw' 4 c = AA 4 c := fun c hc => ⟨(aset_n (Or.inl (by decide))).trans (aset_n (Or.inr hc)), (aset_n (Or.inr hc)).trans (aset_n (Or.inr hc))⟩
      have a2 : aset (aset AA 1 i t) 4 i rw' 1 i = t := (aset_n (Or.inl (by decide))).trans aset_s
      have a3 : aset (aset AA 1 i t) 4 i rw' 4 i = rw' := aset_s
      by_cases hci : c = i
      · rw [hci, a2]
        refine ⟨if_pos rfl, fun z => absurd z (Nat.not_lt_zero _), fun _ => ?_⟩
        unfold CBk
        rw [a2, a3]
        exact ⟨t_214, rw'_214⟩
      · obtain ⟨z1, -, z3⟩ := f_214 c (by omega)
        rw [(a1 c hci).1]
        exact ⟨(if_neg hci).trans z1, fun z => absurd z (Nat.not_lt_zero _), fun z => (z3 z).go (P := fun _ => True) Kq.rf ⟨trivial, trivial⟩ (a1 c hci)⟩

theorem rp_ex {Γ : ZG} {w : ZW} {T : LT} {m : Nat} {sg : ZSg} {A V : LA} {tm : Option Nat} {e : Nat} {D : ZD} (h : LX Γ w T m sg A V tm e D) {k s : Nat} (hk : k < nL D) (hs : s < 2) : ∀ c, rpO V D k s = some c → ∃ K g, w.2 c = some (i5 Γ K g) := fun c hc => by
  have h9 := rpO_s hc
  obtain ⟨f, f1, -⟩ := (h.l hk).2.2.2 s hs h9
  unfold rpO at hc
  rw [if_neg h9] at hc
  cases hc
  exact ⟨2, f, f1⟩
theorem rpF_2 {V : LA} {D : ZD} {k : Nat} : va_up (va_up (fun _ => none) 0 (rpO V D k 0)) 1 (rpO V D k 1) = rpF V D k := by
  funext s
  unfold va_up rpF
  by_cases h1 : s = 1
  · rw [if_pos h1, if_pos (by omega), h1]
  · rw [if_neg h1]
    by_cases h0 : s = 0
    · rw [if_pos h0, if_pos (by omega), h0]
    · rw [if_neg h0, if_neg (by omega)]

set_option maxRecDepth 100000 in
set_option maxHeartbeats 4000000 in
theorem lpL_copy {l : Launch} {Γ : ZG} {w0 : ZW} {T0 : LT} {sg : ZSg} {A V : LA} {tm : Option Nat} {e : Nat} {D : ZD} (h0 : LX Γ w0 T0 1 sg A V tm e D) (hw : WF w0) (hI : Ix D) {x pa ca la ta : Nat} {g7 : Nat → Int32} {Φ : Option Value → ZW → Prop} (kk : ∀ (w : ZW) (T : LT) (k n : Nat) (AA : LA), BW w0 T0 w T → Nc w0 w T x (.inr (6, [.int (D 0), .int (D 1), .int (D 2), .int (D 3), .ref pa, .ref ca, .ref la, .ref ta, va_rf tm])) 14 → Nc w0 w T ta (i5 Γ 7 g7) 0 → CPp Γ w0 w T AA D (nP D) pa → CPc Γ w0 w T sg AA D (nC D) 0 ca → CPl Γ w0 w T AA V D (nL D) la → k ≤ 140 → n ≤ 1450 → Go l Γ mX6_copy 2 140 1500 Φ zNo k n w 387 [(0, .ref e), (1, .ref x)] []) : ∀ (f9 i : Nat) (w : ZW) (T : LT) (k n : Nat) (AA : LA), i + f9 = nL D → BW w0 T0 w T → Nc w0 w T x (.inr (6, [.int (D 0), .int (D 1), .int (D 2), .int (D 3), .ref pa, .ref ca, .ref la, .ref ta, va_rf tm])) 14 → Nc w0 w T ta (i5 Γ 7 g7) 0 → CPp Γ w0 w T AA D (nP D) pa → CPc Γ w0 w T sg AA D (nC D) 0 ca → CPl Γ w0 w T AA V D i la → k ≤ 60 + 2 * i → n ≤ 1050 + 10 * i → Go l Γ mX6_copy 2 140 1500 Φ zNo k n w 223 [(0, .ref e), (1, .ref x), (2, .int (nI i))] [] := by
  have h20 := hI.2.1.2
  have h40 := hI.2.2.1.2
  intro f9
  induction f9 with
  | zero =>
    intro i w T k n AA hi9 b0 x0 ta0 P0 C0 L0 hk hn
    have hi9 : i = nL D := hi9
    subst hi9
    obtain ⟨fc, d1, d2⟩ := C0
    have d2 : CCf Γ w0 w T sg AA D (nC D) 0 fc := d2
    obtain ⟨fl, l1, l2⟩ := L0
    have l2 : CLf Γ w0 w T AA V D (nL D) fl := l2
    refine go_iload_n 224 dX6_copy_223 rfl ?_
    refine go_aload_n 225 dX6_copy_224 rfl ?_
    refine gl_x (b0.lx hw h0) 228 dX6_copy_225 fX6_33 rfl ?_
    refine gl_nL (b0.lx hw h0) 229 dX6_copy_228 ?_
    refine go_icmp_ge 387 232 dX6_copy_229 (fun h229 => ?_) (fun h229 => ?_)
    · exact go_locals _ rfl (kk w T k n AA b0 x0 ta0 P0 ⟨fc, d1, d2⟩ ⟨fl, l1, l2⟩ (by omega) (by omega))
    · exact (lpE (a := nI (nL D)) (N := nL D) rfl (by omega) h229).elim
  | succ f9 ih =>
    intro i w T k n AA hi9 b0 x0 ta0 P0 C0 L0 hk hn
    have hi : i < nL D := by omega
    obtain ⟨fc, d1, d2⟩ := C0
    have d2 : CCf Γ w0 w T sg AA D (nC D) 0 fc := d2
    obtain ⟨fl, l1, l2⟩ := L0
    have l2 : CLf Γ w0 w T AA V D i fl := l2
    refine go_iload_n 224 dX6_copy_223 rfl ?_
    refine go_aload_n 225 dX6_copy_224 rfl ?_
    refine gl_x (b0.lx hw h0) 228 dX6_copy_225 fX6_33 rfl ?_
    refine gl_nL (b0.lx hw h0) 229 dX6_copy_228 ?_
    refine go_icmp_ge 387 232 dX6_copy_229 (fun h229 => ?_) (fun h229 => ?_)
    · exact (lpG (a := nI (nL D)) (N := nL D) rfl (by omega) (by omega) h229).elim
    · refine gn_new ((10 + 5 * i)) b0 235 dX6_copy_232 nX6_31 (by omega) (by omega) (fun w_232 T_232 lg b_232 lg_232 q_232 => ?_)
      have x_232 := x0.go q_232 (by first | trivial | decide | omega)
      have ca_232 := d1.go q_232 (by first | trivial | decide | omega)
      have fc_232 := d2.go q_232 (by first | exact fun _ _ => ⟨trivial, trivial⟩ | exact fun c hc => ⟨by omega, by omega⟩)
      have P_232 := P0.go q_232 (by first | exact ⟨trivial, trivial⟩ | exact ⟨by omega, by omega⟩) (fun _ _ => rfl)
      have la_232 := l1.go q_232 (by first | trivial | decide | omega)
      have f_232 := l2.go q_232 (by first | exact fun _ _ => ⟨trivial, trivial⟩ | exact fun c hc => ⟨by omega, by omega⟩)
      have ta_232 := ta0.go q_232 (by first | trivial | decide | omega)
      refine go_dup 236 dX6_copy_235 rfl ?_
      refine gn_iniL lg_232 b_232 (by omega) 239 dX6_copy_236 vnX6_63 (by decide) (by omega) (by omega) (by exact Nat.le_of_ble_eq_true rfl) (fun w_236 T_236 lgr b_236 lg_236 lgr_236 q_236 => ?_)
      have x_236 := x_232.go q_236 (by first | trivial | decide | omega)
      have ca_236 := ca_232.go q_236 (by first | trivial | decide | omega)
      have fc_236 := fc_232.go q_236 (by first | exact fun _ _ => ⟨trivial, trivial⟩ | exact fun c hc => ⟨by omega, by omega⟩)
      have P_236 := P_232.go q_236 (by first | exact ⟨trivial, trivial⟩ | exact ⟨by omega, by omega⟩) (fun _ _ => rfl)
      have la_236 := la_232.go q_236 (by first | trivial | decide | omega)
      have f_236 := f_232.go q_236 (by first | exact fun _ _ => ⟨trivial, trivial⟩ | exact fun c hc => ⟨by omega, by omega⟩)
      have ta_236 := ta_232.go q_236 (by first | trivial | decide | omega)
      refine go_astore_n 240 dX6_copy_239 (by decide) ?_
      refine go_aload_n 241 dX6_copy_240 rfl ?_
      refine go_aload_n 242 dX6_copy_241 rfl ?_
      refine go_get 245 dX6_copy_242 fX6_27 x_236.1 rfl ?_
      refine go_aload_n 246 dX6_copy_245 rfl ?_
      refine go_aload_n 247 dX6_copy_246 rfl ?_
      refine gl_x (b_236.lx hw h0) 250 dX6_copy_247 fX6_33 rfl ?_
      refine go_iload_n 251 dX6_copy_250 rfl ?_
      refine gl_la (b_236.lx hw h0) hI rfl hi 252 dX6_copy_251 ?_
      refine gl_l (b_236.lx hw h0) hi 255 dX6_copy_252 fX6_64 rfl ?_
      refine gcV1 258 dX6_copy_255 vX6_68 (b_236.lx hw h0).x.1 rfl (cl_place (b_236.lx hw h0) hI (hI.2.2.2 i hi).2) ?_
      refine go_aald8 259 dX6_copy_258 ca_236.1 (vp_in_nI (hI.2.2.2 i hi).2 (by omega)) ?_
      rw [nI_clamp (by have := (hI.2.2.2 i hi).2; omega), (fc_236 _ (hI.2.2.2 i hi).2).1, show va_rf (some (AA 1 (ofN D i))) = .ref (AA 1 (ofN D i)) from rfl]
      refine gn_put lg_236 b_236 262 dX6_copy_259 pX6_64 (by exact Nat.le_of_ble_eq_true rfl) rfl rfl (fun w_259 b_259 lg_259 q_259 => ?_)
      have x_259 := x_236.go q_259 (by first | trivial | decide | omega)
      have ca_259 := ca_236.go q_259 (by first | trivial | decide | omega)
      have fc_259 := fc_236.go q_259 (by first | exact fun _ _ => ⟨trivial, trivial⟩ | exact fun c hc => ⟨by omega, by omega⟩)
      have P_259 := P_236.go q_259 (by first | exact ⟨trivial, trivial⟩ | exact ⟨by omega, by omega⟩) (fun _ _ => rfl)
      have la_259 := la_236.go q_259 (by first | trivial | decide | omega)
      have f_259 := f_236.go q_259 (by first | exact fun _ _ => ⟨trivial, trivial⟩ | exact fun c hc => ⟨by omega, by omega⟩)
      have ta_259 := ta_236.go q_259 (by first | trivial | decide | omega)
      have lgr_259 := lgr_236.go q_259 (by first | trivial | decide | omega)
      refine go_aload_n 263 dX6_copy_262 rfl ?_
      refine go_aload_n 264 dX6_copy_263 rfl ?_
      refine gl_x (b_259.lx hw h0) 267 dX6_copy_264 fX6_33 rfl ?_
      refine go_iload_n 268 dX6_copy_267 rfl ?_
      refine gl_la (b_259.lx hw h0) hI rfl hi 269 dX6_copy_268 ?_
      refine gl_l (b_259.lx hw h0) hi 272 dX6_copy_269 fX6_72 rfl ?_
      refine gn_put lg_259 b_259 275 dX6_copy_272 pX6_72 (by exact Nat.le_of_ble_eq_true rfl) rfl rfl (fun w_272 b_272 lg_272 q_272 => ?_)
      have x_272 := x_259.go q_272 (by first | trivial | decide | omega)
      have ca_272 := ca_259.go q_272 (by first | trivial | decide | omega)
      have fc_272 := fc_259.go q_272 (by first | exact fun _ _ => ⟨trivial, trivial⟩ | exact fun c hc => ⟨by omega, by omega⟩)
      have P_272 := P_259.go q_272 (by first | exact ⟨trivial, trivial⟩ | exact ⟨by omega, by omega⟩) (fun _ _ => rfl)
      have la_272 := la_259.go q_272 (by first | trivial | decide | omega)
      have f_272 := f_259.go q_272 (by first | exact fun _ _ => ⟨trivial, trivial⟩ | exact fun c hc => ⟨by omega, by omega⟩)
      have ta_272 := ta_259.go q_272 (by first | trivial | decide | omega)
      have lgr_272 := lgr_259.go q_272 (by first | trivial | decide | omega)
      refine go_aload_n 276 dX6_copy_275 rfl ?_
      refine go_aload_n 277 dX6_copy_276 rfl ?_
      refine gl_x (b_272.lx hw h0) 280 dX6_copy_277 fX6_33 rfl ?_
      refine go_iload_n 281 dX6_copy_280 rfl ?_
      refine gl_la (b_272.lx hw h0) hI rfl hi 282 dX6_copy_281 ?_
      refine gl_l (b_272.lx hw h0) hi 285 dX6_copy_282 fX6_75 rfl ?_
      refine gn_put lg_272 b_272 288 dX6_copy_285 pX6_75 (by exact Nat.le_of_ble_eq_true rfl) rfl rfl (fun w_285 b_285 lg_285 q_285 => ?_)
      have x_285 := x_272.go q_285 (by first | trivial | decide | omega)
      have ca_285 := ca_272.go q_285 (by first | trivial | decide | omega)
      have fc_285 := fc_272.go q_285 (by first | exact fun _ _ => ⟨trivial, trivial⟩ | exact fun c hc => ⟨by omega, by omega⟩)
      have P_285 := P_272.go q_285 (by first | exact ⟨trivial, trivial⟩ | exact ⟨by omega, by omega⟩) (fun _ _ => rfl)
      have la_285 := la_272.go q_285 (by first | trivial | decide | omega)
      have f_285 := f_272.go q_285 (by first | exact fun _ _ => ⟨trivial, trivial⟩ | exact fun c hc => ⟨by omega, by omega⟩)
      have ta_285 := ta_272.go q_285 (by first | trivial | decide | omega)
      have lgr_285 := lgr_272.go q_285 (by first | trivial | decide | omega)
      refine go_aload_n 289 dX6_copy_288 rfl ?_
      refine go_aload_n 290 dX6_copy_289 rfl ?_
      refine gl_x (b_285.lx hw h0) 293 dX6_copy_290 fX6_33 rfl ?_
      refine go_iload_n 294 dX6_copy_293 rfl ?_
      refine gl_la (b_285.lx hw h0) hI rfl hi 295 dX6_copy_294 ?_
      refine gl_l (b_285.lx hw h0) hi 298 dX6_copy_295 fX6_78 rfl ?_
      refine gn_put lg_285 b_285 301 dX6_copy_298 pX6_78 (by exact Nat.le_of_ble_eq_true rfl) rfl rfl (fun w_298 b_298 lg_298 q_298 => ?_)
      have x_298 := x_285.go q_298 (by first | trivial | decide | omega)
      have ca_298 := ca_285.go q_298 (by first | trivial | decide | omega)
      have fc_298 := fc_285.go q_298 (by first | exact fun _ _ => ⟨trivial, trivial⟩ | exact fun c hc => ⟨by omega, by omega⟩)
      have P_298 := P_285.go q_298 (by first | exact ⟨trivial, trivial⟩ | exact ⟨by omega, by omega⟩) (fun _ _ => rfl)
      have la_298 := la_285.go q_298 (by first | trivial | decide | omega)
      have f_298 := f_285.go q_298 (by first | exact fun _ _ => ⟨trivial, trivial⟩ | exact fun c hc => ⟨by omega, by omega⟩)
      have ta_298 := ta_285.go q_298 (by first | trivial | decide | omega)
      have lgr_298 := lgr_285.go q_298 (by first | trivial | decide | omega)
      refine go_aload_n 302 dX6_copy_301 rfl ?_
      refine go_aload_n 303 dX6_copy_302 rfl ?_
      refine gl_x (b_298.lx hw h0) 306 dX6_copy_303 fX6_33 rfl ?_
      refine go_iload_n 307 dX6_copy_306 rfl ?_
      refine gl_la (b_298.lx hw h0) hI rfl hi 308 dX6_copy_307 ?_
      refine gl_l (b_298.lx hw h0) hi 311 dX6_copy_308 fX6_81 rfl ?_
      refine gn_put lg_298 b_298 314 dX6_copy_311 pX6_81 (by exact Nat.le_of_ble_eq_true rfl) rfl rfl (fun w_311 b_311 lg_311 q_311 => ?_)
      have x_311 := x_298.go q_311 (by first | trivial | decide | omega)
      have ca_311 := ca_298.go q_311 (by first | trivial | decide | omega)
      have fc_311 := fc_298.go q_311 (by first | exact fun _ _ => ⟨trivial, trivial⟩ | exact fun c hc => ⟨by omega, by omega⟩)
      have P_311 := P_298.go q_311 (by first | exact ⟨trivial, trivial⟩ | exact ⟨by omega, by omega⟩) (fun _ _ => rfl)
      have la_311 := la_298.go q_311 (by first | trivial | decide | omega)
      have f_311 := f_298.go q_311 (by first | exact fun _ _ => ⟨trivial, trivial⟩ | exact fun c hc => ⟨by omega, by omega⟩)
      have ta_311 := ta_298.go q_311 (by first | trivial | decide | omega)
      have lgr_311 := lgr_298.go q_311 (by first | trivial | decide | omega)
      refine go_aload_n 315 dX6_copy_314 rfl ?_
      refine go_aload_n 316 dX6_copy_315 rfl ?_
      refine gl_x (b_311.lx hw h0) 319 dX6_copy_316 fX6_33 rfl ?_
      refine go_iload_n 320 dX6_copy_319 rfl ?_
      refine gl_la (b_311.lx hw h0) hI rfl hi 321 dX6_copy_320 ?_
      refine gl_l (b_311.lx hw h0) hi 324 dX6_copy_321 fX6_84 rfl ?_
      refine gn_put lg_311 b_311 327 dX6_copy_324 pX6_84 (by exact Nat.le_of_ble_eq_true rfl) rfl rfl (fun w_324 b_324 lg_324 q_324 => ?_)
      have x_324 := x_311.go q_324 (by first | trivial | decide | omega)
      have ca_324 := ca_311.go q_324 (by first | trivial | decide | omega)
      have fc_324 := fc_311.go q_324 (by first | exact fun _ _ => ⟨trivial, trivial⟩ | exact fun c hc => ⟨by omega, by omega⟩)
      have P_324 := P_311.go q_324 (by first | exact ⟨trivial, trivial⟩ | exact ⟨by omega, by omega⟩) (fun _ _ => rfl)
      have la_324 := la_311.go q_324 (by first | trivial | decide | omega)
      have f_324 := f_311.go q_324 (by first | exact fun _ _ => ⟨trivial, trivial⟩ | exact fun c hc => ⟨by omega, by omega⟩)
      have ta_324 := ta_311.go q_324 (by first | trivial | decide | omega)
      have lgr_324 := lgr_311.go q_324 (by first | trivial | decide | omega)
      refine go_aload_n 328 dX6_copy_327 rfl ?_
      refine go_aload_n 329 dX6_copy_328 rfl ?_
      refine gl_x (b_324.lx hw h0) 332 dX6_copy_329 fX6_33 rfl ?_
      refine go_iload_n 333 dX6_copy_332 rfl ?_
      refine gl_la (b_324.lx hw h0) hI rfl hi 334 dX6_copy_333 ?_
      refine gl_l (b_324.lx hw h0) hi 337 dX6_copy_334 fX6_87 rfl ?_
      refine gn_put lg_324 b_324 340 dX6_copy_337 pX6_87 (by exact Nat.le_of_ble_eq_true rfl) (by cases ofO V D i <;> rfl) (by cases ofO V D i <;> rfl) (fun w_337 b_337 lg_337 q_337 => ?_)
      have x_337 := x_324.go q_337 (by first | trivial | decide | omega)
      have ca_337 := ca_324.go q_337 (by first | trivial | decide | omega)
      have fc_337 := fc_324.go q_337 (by first | exact fun _ _ => ⟨trivial, trivial⟩ | exact fun c hc => ⟨by omega, by omega⟩)
      have P_337 := P_324.go q_337 (by first | exact ⟨trivial, trivial⟩ | exact ⟨by omega, by omega⟩) (fun _ _ => rfl)
      have la_337 := la_324.go q_337 (by first | trivial | decide | omega)
      have f_337 := f_324.go q_337 (by first | exact fun _ _ => ⟨trivial, trivial⟩ | exact fun c hc => ⟨by omega, by omega⟩)
      have ta_337 := ta_324.go q_337 (by first | trivial | decide | omega)
      have lgr_337 := lgr_324.go q_337 (by first | trivial | decide | omega)
      refine go_aload_n 341 dX6_copy_340 rfl ?_
      refine go_get 344 dX6_copy_341 fX6_90 lg_337.1 rfl ?_
      refine go_iconst 345 dX6_copy_344 zc_0 ?_
      refine go_aload_n 346 dX6_copy_345 rfl ?_
      refine gl_x (b_337.lx hw h0) 349 dX6_copy_346 fX6_33 rfl ?_
      refine go_iload_n 350 dX6_copy_349 rfl ?_
      refine gl_la (b_337.lx hw h0) hI rfl hi 351 dX6_copy_350 ?_
      refine gl_l (b_337.lx hw h0) hi 354 dX6_copy_351 fX6_90 rfl ?_
      refine go_iconst 355 dX6_copy_354 zc_0 ?_
      refine gl_rp (b_337.lx hw h0) hi rfl (by decide) 356 dX6_copy_355 ?_
      refine gn_astAQ (i := 0) (r := rpO V D i 0) lgr_337 b_337 (rp_ex (b_337.lx hw h0) hi (by decide)) rfl (by decide) (by decide) 357 dX6_copy_356 (fun w_356 b_356 lgr_356 q_356 => ?_)
      have x_356 := x_337.go q_356 (by first | trivial | decide | omega)
      have ca_356 := ca_337.go q_356 (by first | trivial | decide | omega)
      have fc_356 := fc_337.go q_356 (by first | exact fun _ _ => ⟨trivial, trivial⟩ | exact fun c hc => ⟨by omega, by omega⟩)
      have P_356 := P_337.go q_356 (by first | exact ⟨trivial, trivial⟩ | exact ⟨by omega, by omega⟩) (fun _ _ => rfl)
      have la_356 := la_337.go q_356 (by first | trivial | decide | omega)
      have f_356 := f_337.go q_356 (by first | exact fun _ _ => ⟨trivial, trivial⟩ | exact fun c hc => ⟨by omega, by omega⟩)
      have ta_356 := ta_337.go q_356 (by first | trivial | decide | omega)
      have lg_356 := lg_337.go q_356 (by first | trivial | decide | omega)
      refine go_aload_n 358 dX6_copy_357 rfl ?_
      refine go_get 361 dX6_copy_358 fX6_90 lg_356.1 rfl ?_
      refine go_iconst 362 dX6_copy_361 zc_1 ?_
      refine go_aload_n 363 dX6_copy_362 rfl ?_
      refine gl_x (b_356.lx hw h0) 366 dX6_copy_363 fX6_33 rfl ?_
      refine go_iload_n 367 dX6_copy_366 rfl ?_
      refine gl_la (b_356.lx hw h0) hI rfl hi 368 dX6_copy_367 ?_
      refine gl_l (b_356.lx hw h0) hi 371 dX6_copy_368 fX6_90 rfl ?_
      refine go_iconst 372 dX6_copy_371 zc_1 ?_
      refine gl_rp (b_356.lx hw h0) hi rfl (by decide) 373 dX6_copy_372 ?_
      refine gn_astAQ (i := 1) (r := rpO V D i 1) lgr_356 b_356 (rp_ex (b_356.lx hw h0) hi (by decide)) rfl (by decide) (by decide) 374 dX6_copy_373 (fun w_373 b_373 lgr_373 q_373 => ?_)
      have x_373 := x_356.go q_373 (by first | trivial | decide | omega)
      have ca_373 := ca_356.go q_373 (by first | trivial | decide | omega)
      have fc_373 := fc_356.go q_373 (by first | exact fun _ _ => ⟨trivial, trivial⟩ | exact fun c hc => ⟨by omega, by omega⟩)
      have P_373 := P_356.go q_373 (by first | exact ⟨trivial, trivial⟩ | exact ⟨by omega, by omega⟩) (fun _ _ => rfl)
      have la_373 := la_356.go q_373 (by first | trivial | decide | omega)
      have f_373 := f_356.go q_373 (by first | exact fun _ _ => ⟨trivial, trivial⟩ | exact fun c hc => ⟨by omega, by omega⟩)
      have ta_373 := ta_356.go q_373 (by first | trivial | decide | omega)
      have lg_373 := lg_356.go q_373 (by first | trivial | decide | omega)
      refine go_aload_n 375 dX6_copy_374 rfl ?_
      refine go_get 378 dX6_copy_375 fX6_33 x_373.1 rfl ?_
      refine go_iload_n 379 dX6_copy_378 rfl ?_
      refine go_aload_n 380 dX6_copy_379 rfl ?_
      refine gn_ast7 (i := i) la_373 b_373 lg_373.1 rfl hi (by omega) 381 dX6_copy_380 (fun w_380 b_380 la_380 q_380 => ?_)
      have x_380 := x_373.go q_380 (by first | trivial | decide | omega)
      have ca_380 := ca_373.go q_380 (by first | trivial | decide | omega)
      have fc_380 := fc_373.go q_380 (by first | exact fun _ _ => ⟨trivial, trivial⟩ | exact fun c hc => ⟨by omega, by omega⟩)
      have P_380 := P_373.go q_380 (by first | exact ⟨trivial, trivial⟩ | exact ⟨by omega, by omega⟩) (fun _ _ => rfl)
      have f_380 := f_373.go q_380 (by first | exact fun _ _ => ⟨trivial, trivial⟩ | exact fun c hc => ⟨by omega, by omega⟩)
      have ta_380 := ta_373.go q_380 (by first | trivial | decide | omega)
      have lg_380 := lg_373.go q_380 (by first | trivial | decide | omega)
      have lgr_380 := lgr_373.go q_380 (by first | trivial | decide | omega)
      refine go_iinc 384 dX6_copy_381 rfl (by decide) zc_1 ?_
      refine go_goto 223 dX6_copy_384 ?_
      rw [nI_1]
      have a0 : ∀ j k, j ≠ 0 → j ≠ 2 → aset (aset AA 0 i lg) 2 i lgr j k = AA j k := fun j k h1 h2 => (aset_n (Or.inl h2)).trans (aset_n (Or.inl h1))
      have a1 : ∀ c, c ≠ i → aset (aset AA 0 i lg) 2 i lgr 0 c = AA 0 c ∧ aset (aset AA 0 i lg) 2 i lgr 2 c = AA 2 c := fun c hc => ⟨(aset_n (Or.inl (by decide))).trans (aset_n (Or.inr hc)), (aset_n (Or.inr hc)).trans (aset_n (Or.inl (by decide)))⟩
      have a2 : aset (aset AA 0 i lg) 2 i lgr 0 i = lg := (aset_n (Or.inl (by decide))).trans aset_s
      have a3 : aset (aset AA 0 i lg) 2 i lgr 2 i = lgr := aset_s
      have kt : Kq w_380 T_236 w_380 (tset T_236 lgr (12 + 5 * i)) (fun z => z ≠ 5) := Kq.tg lgr_380.2.1
      refine go_locals _ rfl (ih (i + 1) w_380 (tset T_236 lgr (12 + 5 * i)) _ _ (aset (aset AA 0 i lg) 2 i lgr) (by omega) (b_380.tag lgr_380.2.2) (x_380.go kt (by decide)) (ta_380.go kt (by decide)) (P_380.go kt ⟨by decide, by decide⟩ (fun p hp => a0 _ _ (by decide) (by decide))) (CPc.aa (AA := AA) ⟨fc, ca_380.go kt (by decide), fc_380.go kt (fun c hc => ⟨by omega, by omega⟩)⟩ (fun c hc => ⟨a0 _ _ (by decide) (by decide), a0 _ _ (by decide) (by decide)⟩)) ⟨_, la_380.go kt (by decide), fun c hc => ?_⟩ (by omega) (by omega))
      by_cases hci : c = i
      · rw [hci, a2, a3]
        refine ⟨if_pos rfl, ?_, ?_⟩
        · have e9 : lFs (aset (aset AA 0 i lg) 2 i lgr) (VV (aset (aset AA 0 i lg) 2 i lgr) V) D i = [.ref (AA 1 (ofN D i)), .int (dL D i 1), .int (dL D i 2), .int (dL D i 3), .int (dL D i 4), .int (dL D i 5), va_rf (ofO V D i), .ref lgr] := by
            unfold lFs
            rw [a0 1 _ (by decide) (by decide), show VV (aset (aset AA 0 i lg) 2 i lgr) V 2 i = lgr from a3]
            rfl
          rw [e9]
          exact lg_380.go kt (by omega)
        · rw [← rpF_2]
          exact lgr_380.tag
      · obtain ⟨z1, z2, z3⟩ := f_380 c (by omega)
        rw [(a1 c hci).1, (a1 c hci).2, lFs_aa (a1 c hci).2 (a0 _ _ (by decide) (by decide))]
        exact ⟨(if_neg hci).trans z1, z2.go kt (by omega), z3.go kt (by omega)⟩

end LCopyM
