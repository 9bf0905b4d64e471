section LRxw
/-- what is known of the class while the text is written -/
def Hx (C : CS) : Prop := ∃ D0 g0 sg0 i u, CR D0 g0 sg0 (C.1 0) D0 ∧ Hc C i u
theorem mcN_3 : ∀ d, d < 3 → mcN d ≤ 7 := by decide
theorem nd_2 {w : ZW} {T : LT} {d t ow : Nat} {cs : List Int32} {tx : List Nat} (hd : d < 3) (h : ND w T d t cs tx ow) : ND w T 2 t cs tx ow := by
  rcases (show d = 0 ∨ d = 1 ∨ d = 2 by omega) with rfl | rfl | rfl
  · exact nd_up (nd_up h)
  · exact nd_up h
  · exact h
section
variable {l : Launch} {Γ : ZG} {w0 : ZW} {T0 : LT} {x a b : Nat} {e pa r1 r2 r3 : Nat} {P : Nat → Nat} {ps : List (Nat × Nat × Nat)}
def LRX (x a b e : Nat) : ZL := [(0, .ref x), (1, .ref b), (2, .ref a), (3, .ref e)]
/-- from pc 218: the ring's rule -/
theorem rx_218 {wv : Option (Nat × Nat)} {pt : Option Nat} (hR : Rx w0 T0 x a b) (hps : PsOK ps) (h8 : ps.length ≤ 8) (hwv : ∀ z, wv = some z → (1 ≤ z.1 ∧ z.1 ≤ 99) ∧ 1 ≤ z.2 ∧ z.2 ≤ 99) (hpt : ∀ z, pt = some z → 1 ≤ z ∧ z ≤ 99) {w : ZW} {T : LT} {C : CS} {f : Nat → Int32} {s : Int32} {k n : Nat} (bw : BW (bsW Γ w0 x a b C f s) T0 w T) (he : Nc w0 w T e (.inr (6, xFl wv pt pa r1 r2 r3 none)) 14) (ho : RXo Γ w0 w T pa r1 r2 r3 ps.length P ps) (hW : WK C f (ltx ps wv pt none)) (hH : Hx C) (hk : k ≤ 20) (hn : n ≤ 100) : Go l Γ mL_randomExchange 36 100 18000 (PvRX Γ w0 x a) zNo k n w 218 (LRX x a b e) [] := by
  have hll := ltx_len (ps := ps) (wv := wv) (pa := pt) (rg := none) (d := 2) (ow := 0) h8 (Nat.le_refl 2) (fun z hz => by cases hz)
  refine go_aload_n 219 dL_randomExchange_218 rfl ?_
  refine go_iconst 220 dL_randomExchange_219 zc_2 ?_
  refine gx_below (B := 2) hR bw 223 dL_randomExchange_220 _ rfl (by decide) (by decide) (by omega) (by omega) (by exact Nat.le_of_ble_eq_true rfl) (fun w_2 j s_2 hj b_2 q_2 => ?_)
  have e_2 := he.go q_2 (by decide)
  have o_2 := ho.go q_2 (fun z hz => by omega)
  refine go_if_ne 266 226 dL_randomExchange_223 (fun h223 => ?_) (fun h223 => ?_)
  · obtain ⟨D0, g0, sg0, i, u, hC, hh⟩ := hH
    exact go_locals _ rfl (rx_end (rg := none) (ow := 0) hR b_2 e_2 o_2 hW hps h8 hwv hpt (fun z hz => by cases hz) (Or.inl ⟨rfl, rfl⟩) hC hh (by omega) (by omega))
  · refine go_aload_n 227 dL_randomExchange_226 rfl ?_
    refine go_aload_n 228 dL_randomExchange_227 rfl ?_
    refine go_aload_n 229 dL_randomExchange_228 rfl ?_
    refine go_iconst 230 dL_randomExchange_229 zc_3 ?_
    refine gx_below (B := 3) hR b_2 233 dL_randomExchange_230 _ rfl (by decide) (by decide) (by omega) (by omega) (by exact Nat.le_of_ble_eq_true rfl) (fun w_3 d s_3 hd b_3 q_3 => ?_)
    have e_3 := e_2.go q_3 (by decide)
    have o_3 := o_2.go q_3 (fun z hz => by omega)
    have hm := mcN_3 d hd
    have t_3 := bs_tag hR b_3
    have a_3 : a < w_3.1 := Nat.lt_of_lt_of_le hR.1.2.2 b_3.1
    refine go_wf fun wf_3 => go_callS 236 [.ref a, .int (nI d)] dL_randomExchange_233 vL_144 rfl (ct_X8_random d (by omega) w_3 T s_3 a (bs_rn hR b_3) a_3 t_3.2.2) (by omega) (by decide) (by omega) (by omega) (by exact Nat.le_of_ble_eq_true rfl) ?_
    rintro _ w_4 ⟨t, s_4, T_4, cs, tx, ow, rfl, b_4c, l_4, nd0⟩
    have nd_4 := nd_2 hd nd0
    have q_4 := kq_rn wf_3 b_4c t_3.2.2
    have b_4 : BW (bsW Γ w0 x a b C f s_4) T0 w_4 T_4 := bw_tr (w0 := wWr Γ w0 x C b f) b_3 b_4c
    have e_4 := e_3.go q_4 (by decide)
    have o_4 := o_3.go q_4 (fun z hz => by omega)
    have hP := pt_nd nd_4
    have hlt := pt_len hP
    have h53 : lenB 2 = 53 := rfl
    refine gn_put (e_4.b (by exact rfl)) b_4 239 dL_randomExchange_236 pL_150 (by exact Nat.le_of_ble_eq_true rfl) rfl rfl (fun w_5 b_5 e_5 q_5 => ?_)
    have o_5 := o_4.go q_5 (fun z hz => by omega)
    have nd_5 := nd_4.fr (q_5.mono (fun z hz => by omega))
    replace e_5 : Nc w0 w_5 T_4 e (.inr (6, xFl wv pt pa r1 r2 r3 (some t))) 14 := e_5.b (by exact rfl)
    refine go_aload_n 240 dL_randomExchange_239 rfl ?_
    refine go_aload_n 241 dL_randomExchange_240 rfl ?_
    refine go_ldcS 243 dL_randomExchange_241 sL_154 ?_
    refine gx_lit (ty := chs "ring ") hR b_5 hW 246 dL_randomExchange_243 sL_154 rfl (by decide +kernel) (by rw [show (chs "ring ").length = 5 by decide +kernel]; omega) rfl (by omega) (by omega) (by exact Nat.le_of_ble_eq_true rfl) (fun w_6 R_6 f_6 b_6 q_6 W_6 => ?_)
    have e_6 := e_5.go q_6 ⟨by decide, by decide⟩
    have o_6 := o_5.go q_6 (fun z hz => by omega)
    have nd_6 := nd_5.fr (q_6.mono (fun z hz => by omega))
    obtain ⟨fs_6, ob_6⟩ := nd_obj nd_6
    refine go_aload_n 247 dL_randomExchange_246 rfl ?_
    refine go_aload_n 248 dL_randomExchange_247 rfl ?_
    refine go_aload_n 249 dL_randomExchange_248 rfl ?_
    refine go_get 252 dL_randomExchange_249 fL_150 e_6.1 rfl ?_
    refine go_iconst 253 dL_randomExchange_252 zc_0 ?_
    have p0 : par' 0 ow tx = tx := if_neg (Nat.not_lt_zero _)
    have hct := ct_X8_text (l := l) (Γ := Γ) 2 w_6 T_4 t ow 0 cs tx (by decide) nd_6 (by rw [p0]; omega)
    rw [p0] at hct
    have t66 : txC 2 = 66 := rfl
    refine go_callV 256 [.int (nI 0)] dL_randomExchange_253 vL_156 ob_6 rfl hct (by decide) (by decide) (by omega) (by omega) (by exact Nat.le_of_ble_eq_true rfl) ?_
    rintro _ w_7 ⟨r, T_7, rfl, b_7c, st_7, q_7⟩
    have b_7 := b_6.tr b_7c
    have e_7 := e_6.go q_7 (by decide)
    have o_7 := o_6.go q_7 (fun z hz => by omega)
    have nd_7 := nd_6.fr (q_7.mono (fun z hz => by omega))
    refine gx_txt hR b_7 W_6 259 dL_randomExchange_256 st_7 (by simp only [List.length_append, show (chs "ring ").length = 5 by decide +kernel]; omega) rfl (by omega) (by omega) (by exact Nat.le_of_ble_eq_true rfl) (fun w_8 R_8 f_8 b_8 q_8 W_8 => ?_)
    have e_8 := e_7.go q_8 ⟨by decide, by decide⟩
    have o_8 := o_7.go q_8 (fun z hz => by omega)
    have nd_8 := nd_7.fr (q_8.mono (fun z hz => by omega))
    refine go_aload_n 260 dL_randomExchange_259 rfl ?_
    refine go_aload_n 261 dL_randomExchange_260 rfl ?_
    refine go_ldcS 263 dL_randomExchange_261 sL_160 ?_
    refine gx_lit (ty := chs " ;") hR b_8 W_8 266 dL_randomExchange_263 sL_160 rfl (by decide +kernel) (by simp only [List.length_append, show (chs "ring ").length = 5 by decide +kernel, show (chs " ;").length = 2 by decide +kernel]; omega) (ltx_zr (cs := cs)) (by omega) (by omega) (by exact Nat.le_of_ble_eq_true rfl) (fun w_9 R_9 f_9 b_9 q_9 W_9 => ?_)
    have e_9 := e_8.go q_9 ⟨by decide, by decide⟩
    have o_9 := o_8.go q_9 (fun z hz => by omega)
    have nd_9 := nd_8.fr (q_9.mono (fun z hz => by omega))
    obtain ⟨D0, g0, sg0, i, u, hC, hh⟩ := hH
    exact go_locals _ rfl (rx_end (rg := some (cs, tx)) (ow := ow) hR b_9 e_9 o_9 W_9 hps h8 hwv hpt (fun z hz => by cases hz; exact hP) (Or.inr ⟨t, tx, ow, rfl, nd_9⟩) hC hh (by omega) (by omega))
/-- from pc 181: patience -/
theorem rx_181 {wv : Option (Nat × Nat)} (hR : Rx w0 T0 x a b) (hps : PsOK ps) (h8 : ps.length ≤ 8) (hwv : ∀ z, wv = some z → (1 ≤ z.1 ∧ z.1 ≤ 99) ∧ 1 ≤ z.2 ∧ z.2 ≤ 99) {w : ZW} {T : LT} {C : CS} {f : Nat → Int32} {s : Int32} {k n : Nat} (bw : BW (bsW Γ w0 x a b C f s) T0 w T) (he : Nc w0 w T e (.inr (6, xFl wv none pa r1 r2 r3 none)) 14) (ho : RXo Γ w0 w T pa r1 r2 r3 ps.length P ps) (hW : WK C f (ltx ps wv none none)) (hH : Hx C) (hk : k ≤ 19) (hn : n ≤ 90) : Go l Γ mL_randomExchange 36 100 18000 (PvRX Γ w0 x a) zNo k n w 181 (LRX x a b e) [] := by
  have hll := ltx_len (ps := ps) (wv := wv) (pa := none) (rg := none) (d := 2) (ow := 0) h8 (Nat.le_refl 2) (fun z hz => by cases hz)
  refine go_aload_n 182 dL_randomExchange_181 rfl ?_
  refine go_iconst 183 dL_randomExchange_182 zc_2 ?_
  refine gx_below (B := 2) hR bw 186 dL_randomExchange_183 _ rfl (by decide) (by decide) (by omega) (by omega) (by exact Nat.le_of_ble_eq_true rfl) (fun w_2 j s_2 hj b_2 q_2 => ?_)
  have e_2 := he.go q_2 (by decide)
  have o_2 := ho.go q_2 (fun z hz => by omega)
  refine go_if_ne 218 189 dL_randomExchange_186 (fun h => ?_) (fun h => ?_)
  · exact go_locals _ rfl (rx_218 hR hps h8 hwv (fun z hz => by cases hz) b_2 e_2 o_2 hW hH (by omega) (by omega))
  · refine go_aload_n 190 dL_randomExchange_189 rfl ?_
    refine go_iconst 191 dL_randomExchange_190 zc_1 ?_
    refine go_aload_n 192 dL_randomExchange_191 rfl ?_
    refine go_bipush 194 dL_randomExchange_192 zb_9 ?_
    refine gx_below (B := 9) hR b_2 197 dL_randomExchange_194 _ rfl (by decide) (by decide) (by omega) (by omega) (by exact Nat.le_of_ble_eq_true rfl) (fun w_3 y s_3 hy b_3 q_3 => ?_)
    have e_3 := e_2.go q_3 (by decide)
    have o_3 := o_2.go q_3 (fun z hz => by omega)
    refine go_iadd 198 dL_randomExchange_197 ?_
    rw [show (1 : Int32) + nI y = nI (1 + y) from nI_add 1 y]
    refine gn_put (e_3.b (by exact rfl)) b_3 201 dL_randomExchange_198 pL_140 (by exact Nat.le_of_ble_eq_true rfl) rfl rfl (fun w_4 b_4 e_4 q_4 => ?_)
    have o_4 := o_3.go q_4 (fun z hz => by omega)
    replace e_4 : Nc w0 w_4 T e (.inr (6, xFl wv (some (1 + y)) pa r1 r2 r3 none)) 14 := e_4.b (by exact rfl)
    refine go_aload_n 202 dL_randomExchange_201 rfl ?_
    refine go_aload_n 203 dL_randomExchange_202 rfl ?_
    refine go_ldcS 205 dL_randomExchange_203 sL_143 ?_
    refine go_iconst 206 dL_randomExchange_205 zc_1 ?_
    refine gn_newi 1 7 b_4 208 dL_randomExchange_206 rfl (by decide) (by omega) (by omega) (fun w_5 T_5 c b_5 c_5 q_5 => ?_)
    have e_5 := e_4.go q_5 trivial
    have o_5 := o_4.go q_5 (fun z hz => trivial)
    refine go_dup 209 dL_randomExchange_208 rfl ?_
    refine go_iconst 210 dL_randomExchange_209 zc_0 ?_
    refine go_aload_n 211 dL_randomExchange_210 rfl ?_
    refine go_get 214 dL_randomExchange_211 fL_140 e_5.1 rfl ?_
    refine gn_iast 0 c_5 b_5 rfl (by decide) (by decide) 215 dL_randomExchange_214 (fun w_6 b_6 c_6 q_6 => ?_)
    have e_6 := e_5.go q_6 (by decide)
    have o_6 := o_5.go q_6 (fun z hz => by omega)
    refine gx_nums (ns := [1 + y]) (m := 1) hR b_6 hW 218 dL_randomExchange_215 sL_143 (by decide +kernel) c_6.1 c_6.2.1 (by decide) (by decide) rfl (fun j hj => ?_) (fun c hc => ?_) (by decide) (by rw [show (chs "patience").length = 8 by decide +kernel]; omega) ltx_za (by omega) (by omega) (by exact Nat.le_of_ble_eq_true rfl) (fun w_7 R_7 f_7 b_7 q_7 W_7 => ?_)
    · obtain rfl : j = 0 := by omega
      exact if_pos rfl
    · rw [List.mem_singleton.mp hc]; omega
    have e_7 := e_6.go q_7 ⟨by decide, by decide⟩
    have o_7 := o_6.go q_7 (fun z hz => by omega)
    exact go_locals _ rfl (rx_218 hR hps h8 hwv (fun z hz => by cases hz; omega) b_7 e_7 o_7 W_7 hH (by omega) (by omega))
/-- from pc 125: the waits -/
theorem rx_125 (hR : Rx w0 T0 x a b) (hps : PsOK ps) (h8 : ps.length ≤ 8) {w : ZW} {T : LT} {C : CS} {f : Nat → Int32} {s : Int32} {k n : Nat} (bw : BW (bsW Γ w0 x a b C f s) T0 w T) (he : Nc w0 w T e (.inr (6, xFl none none pa r1 r2 r3 none)) 14) (ho : RXo Γ w0 w T pa r1 r2 r3 ps.length P ps) (hW : WK C f (ltx ps none none none)) (hH : Hx C) (hk : k ≤ 18) (hn : n ≤ 80) : Go l Γ mL_randomExchange 36 100 18000 (PvRX Γ w0 x a) zNo k n w 125 (LRX x a b e) [] := by
  have hll := ltx_len (ps := ps) (wv := none) (pa := none) (rg := none) (d := 2) (ow := 0) h8 (Nat.le_refl 2) (fun z hz => by cases hz)
  refine go_aload_n 126 dL_randomExchange_125 rfl ?_
  refine go_iconst 127 dL_randomExchange_126 zc_2 ?_
  refine gx_below (B := 2) hR bw 130 dL_randomExchange_127 _ rfl (by decide) (by decide) (by omega) (by omega) (by exact Nat.le_of_ble_eq_true rfl) (fun w_2 j s_2 hj b_2 q_2 => ?_)
  have e_2 := he.go q_2 (by decide)
  have o_2 := ho.go q_2 (fun z hz => by omega)
  refine go_if_ne 181 133 dL_randomExchange_130 (fun h => ?_) (fun h => ?_)
  · exact go_locals _ rfl (rx_181 hR hps h8 (fun z hz => by cases hz) b_2 e_2 o_2 hW hH (by omega) (by omega))
  · refine go_aload_n 134 dL_randomExchange_133 rfl ?_
    refine go_iconst 135 dL_randomExchange_134 zc_1 ?_
    refine go_aload_n 136 dL_randomExchange_135 rfl ?_
    refine go_bipush 138 dL_randomExchange_136 zb_6 ?_
    refine gx_below (B := 6) hR b_2 141 dL_randomExchange_138 _ rfl (by decide) (by decide) (by omega) (by omega) (by exact Nat.le_of_ble_eq_true rfl) (fun w_3 y s_3 hy b_3 q_3 => ?_)
    have e_3 := e_2.go q_3 (by decide)
    have o_3 := o_2.go q_3 (fun z hz => by omega)
    refine go_iadd 142 dL_randomExchange_141 ?_
    rw [show (1 : Int32) + nI y = nI (1 + y) from nI_add 1 y]
    refine gn_put (e_3.b (by exact rfl)) b_3 145 dL_randomExchange_142 pL_131 (by exact Nat.le_of_ble_eq_true rfl) rfl rfl (fun w_4 b_4 e_4 q_4 => ?_)
    have o_4 := o_3.go q_4 (fun z hz => by omega)
    refine go_aload_n 146 dL_randomExchange_145 rfl ?_
    refine go_iconst 147 dL_randomExchange_146 zc_1 ?_
    refine go_aload_n 148 dL_randomExchange_147 rfl ?_
    refine go_bipush 150 dL_randomExchange_148 zb_6 ?_
    refine gx_below (B := 6) hR b_4 153 dL_randomExchange_150 _ rfl (by decide) (by decide) (by omega) (by omega) (by exact Nat.le_of_ble_eq_true rfl) (fun w_5 z s_5 hz b_5 q_5 => ?_)
    have e_5 := e_4.go q_5 (by decide)
    have o_5 := o_4.go q_5 (fun z hz => by omega)
    refine go_iadd 154 dL_randomExchange_153 ?_
    rw [show (1 : Int32) + nI z = nI (1 + z) from nI_add 1 z]
    refine gn_put (e_5.b (by exact rfl)) b_5 157 dL_randomExchange_154 pL_135 (by exact Nat.le_of_ble_eq_true rfl) rfl rfl (fun w_6 b_6 e_6 q_6 => ?_)
    have o_6 := o_5.go q_6 (fun z hz => by omega)
    replace e_6 : Nc w0 w_6 T e (.inr (6, xFl (some (1 + y, 1 + z)) none pa r1 r2 r3 none)) 14 := e_6.b (by exact rfl)
    refine go_aload_n 158 dL_randomExchange_157 rfl ?_
    refine go_aload_n 159 dL_randomExchange_158 rfl ?_
    refine go_ldcS 161 dL_randomExchange_159 sL_138 ?_
    refine go_iconst 162 dL_randomExchange_161 zc_2 ?_
    refine gn_newi 2 7 b_6 164 dL_randomExchange_162 rfl (by decide) (by omega) (by omega) (fun w_7 T_7 c b_7 c_7 q_7 => ?_)
    have e_7 := e_6.go q_7 trivial
    have o_7 := o_6.go q_7 (fun z hz => trivial)
    refine go_dup 165 dL_randomExchange_164 rfl ?_
    refine go_iconst 166 dL_randomExchange_165 zc_0 ?_
    refine go_aload_n 167 dL_randomExchange_166 rfl ?_
    refine go_get 170 dL_randomExchange_167 fL_131 e_7.1 rfl ?_
    refine gn_iast 0 c_7 b_7 rfl (by decide) (by decide) 171 dL_randomExchange_170 (fun w_8 b_8 c_8 q_8 => ?_)
    have e_8 := e_7.go q_8 (by decide)
    have o_8 := o_7.go q_8 (fun z hz => by omega)
    refine go_dup 172 dL_randomExchange_171 rfl ?_
    refine go_iconst 173 dL_randomExchange_172 zc_1 ?_
    refine go_aload_n 174 dL_randomExchange_173 rfl ?_
    refine go_get 177 dL_randomExchange_174 fL_135 e_8.1 rfl ?_
    refine gn_iast 1 c_8 b_8 rfl (by decide) (by decide) 178 dL_randomExchange_177 (fun w_9 b_9 c_9 q_9 => ?_)
    have e_9 := e_8.go q_9 (by decide)
    have o_9 := o_8.go q_9 (fun z hz => by omega)
    refine gx_nums (ns := [1 + y, 1 + z]) (m := 2) hR b_9 hW 181 dL_randomExchange_178 sL_138 (by decide +kernel) c_9.1 c_9.2.1 (by decide) (by decide) rfl (fun j hj => ?_) (fun c hc => ?_) (by decide) (by rw [show (chs "wait").length = 4 by decide +kernel]; omega) ltx_zw (by omega) (by omega) (by exact Nat.le_of_ble_eq_true rfl) (fun w_10 R_10 f_10 b_10 q_10 W_10 => ?_)
    · rcases (show j = 0 ∨ j = 1 by omega) with rfl | rfl
      · exact (if_neg (by decide)).trans (if_pos rfl)
      · exact if_pos rfl
    · simp only [List.mem_cons, List.not_mem_nil, or_false] at hc
      omega
    have e_10 := e_9.go q_10 ⟨by decide, by decide⟩
    have o_10 := o_9.go q_10 (fun z hz => by omega)
    exact go_locals _ rfl (rx_181 hR hps h8 (fun z hz => by cases hz; exact ⟨⟨by omega, by omega⟩, by omega, by omega⟩) b_10 e_10 o_10 W_10 hH (by omega) (by omega))
end
end LRxw
