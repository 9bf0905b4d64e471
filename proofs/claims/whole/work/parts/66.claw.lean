section CLaw
/-! the law's switch -/
abbrev mLaw : ZM := (yL_law, cL_law, 7, some .boolean, [])
theorem lg_self (a : Int64) : lg_cmp a a = 0 := by
  unfold lg_cmp
  rw [if_neg (show ¬ a > a by simp), if_pos rfl]
section
variable {l : Launch} {Γ : ZG} {b : ZW} {x : Nat} {C : CS} {o : Nat} {S : MS} {D : ZD}
theorem WL_o (hx : x + 105 ≤ o) : (WL Γ b x C o S D).2 o = some (.inr (6, mfs o (ma S 1 D).1)) := by
  rw [WL_sw hx]
  exact wM_at0
theorem WL_t (hx : x + 105 ≤ o) : Cm l Γ mX6_thrown 1 [.ref o] (WL Γ b x C o S D) (some (.int (S.1 0))) (WL Γ b x C o S D) := mdlM hx ct_X6_thrown
end

set_option maxRecDepth 100000 in
set_option maxHeartbeats 4000000 in
theorem br_0 {l : Launch} {Γ : ZG} {P : Nat} {b : ZW} {x : Nat} {C : CS} {o : Nat} {S : MS} {D : ZD} {p t k n : Nat} {Φ : Option Value → ZW → Prop} (h : LI Γ P b x C o S D p) (hin : ∀ q, q < 6 → vp_in (nI (6 * t) + nI q) Γ.2.2.2.2.2.1) (hk : k + 3 ≤ 601024) (hn : n + 614 ≤ 7293034)
    (K : ∀ (b' : ZW) (C' : CS) (S' : MS) (D' : ZD) (k' n' : Nat), LI Γ P b' x C' o S' D' p → k' ≤ k + 3 → n' ≤ n + 614 → Go l Γ mLaw 1312 601024 7293034 Φ zNo k' n' (WL Γ b' x C' o S' D') 1282 [(0, .ref Γ.2.2.2.2.1), (1, .ref x), (2, .ref o), (3, .ref p), (4, .int (nI (6 * t)))] []) : Go l Γ mLaw 1312 601024 7293034 Φ zNo k n (WL Γ b x C o S D) 140 [(0, .ref Γ.2.2.2.2.1), (1, .ref x), (2, .ref o), (3, .ref p), (4, .int (nI (6 * t)))] [] := by
  have hx := h.1.1
  have hp := h.1.2.1
  refine go_aload_n 141 dL_law_140 rfl ?_
  refine go_aload_n 142 dL_law_141 rfl ?_
  refine go_iload 144 dL_law_142 rfl ?_
  refine go_iconst 145 dL_law_144 zc_1 ?_
  refine go_iadd 146 dL_law_145 ?_
  refine go_sld 147 dL_law_146 (hin 1 (by decide)) ?_
  refine go_aload_n 148 dL_law_147 rfl ?_
  refine go_iload 150 dL_law_148 rfl ?_
  refine go_iconst 151 dL_law_150 zc_2 ?_
  refine go_iadd 152 dL_law_151 ?_
  refine go_sld 153 dL_law_152 (hin 2 (by decide)) ?_
  refine go_aload_n 154 dL_law_153 rfl ?_
  refine go_iload 156 dL_law_154 rfl ?_
  refine go_iconst 157 dL_law_156 zc_3 ?_
  refine go_iadd 158 dL_law_157 ?_
  refine go_sld 159 dL_law_158 (hin 3 (by decide)) ?_
  refine go_aload_n 160 dL_law_159 rfl ?_
  refine go_iload 162 dL_law_160 rfl ?_
  refine go_iconst 163 dL_law_162 zc_4 ?_
  refine go_iadd 164 dL_law_163 ?_
  refine go_sld 165 dL_law_164 (hin 4 (by decide)) ?_
  refine go_aload_n 166 dL_law_165 rfl ?_
  refine go_iload 168 dL_law_166 rfl ?_
  refine go_iconst 169 dL_law_168 zc_5 ?_
  refine go_iadd 170 dL_law_169 ?_
  refine go_sld 171 dL_law_170 (hin 5 (by decide)) ?_
  obtain ⟨rr, d5, d6, C8, S8, D8, hd5, hd6, hc5, hc6, hL8⟩ := od_append (l := l) h (y0 := (Γ.2.2.2.2.2.2 (nI (6 * t) + 1).toNatClampNeg)) (y1 := (Γ.2.2.2.2.2.2 (nI (6 * t) + 2).toNatClampNeg)) (y2 := (Γ.2.2.2.2.2.2 (nI (6 * t) + 3).toNatClampNeg)) (y3 := (Γ.2.2.2.2.2.2 (nI (6 * t) + 4).toNatClampNeg)) (y4 := (Γ.2.2.2.2.2.2 (nI (6 * t) + 5).toNatClampNeg))
  refine gcV5 174 dL_law_171 vL_72 LI.w5 rfl hc5 ?_ (hdp := by omega)
  refine go_aload_n 175 dL_law_174 rfl ?_
  refine go_aload_n 176 dL_law_175 rfl ?_
  refine go_iload 178 dL_law_176 rfl ?_
  refine go_iconst 179 dL_law_178 zc_1 ?_
  refine go_iadd 180 dL_law_179 ?_
  refine go_sld 181 dL_law_180 (hin 1 (by decide)) ?_
  refine go_aload_n 182 dL_law_181 rfl ?_
  refine go_iload 184 dL_law_182 rfl ?_
  refine go_iconst 185 dL_law_184 zc_2 ?_
  refine go_iadd 186 dL_law_185 ?_
  refine go_sld 187 dL_law_186 (hin 2 (by decide)) ?_
  refine go_aload_n 188 dL_law_187 rfl ?_
  refine go_iload 190 dL_law_188 rfl ?_
  refine go_iconst 191 dL_law_190 zc_3 ?_
  refine go_iadd 192 dL_law_191 ?_
  refine go_sld 193 dL_law_192 (hin 3 (by decide)) ?_
  refine go_aload_n 194 dL_law_193 rfl ?_
  refine go_iload 196 dL_law_194 rfl ?_
  refine go_iconst 197 dL_law_196 zc_4 ?_
  refine go_iadd 198 dL_law_197 ?_
  refine go_sld 199 dL_law_198 (hin 4 (by decide)) ?_
  refine go_aload_n 200 dL_law_199 rfl ?_
  refine go_iload 202 dL_law_200 rfl ?_
  refine go_iconst 203 dL_law_202 zc_5 ?_
  refine go_iadd 204 dL_law_203 ?_
  refine go_sld 205 dL_law_204 (hin 5 (by decide)) ?_
  refine gcV5 208 dL_law_205 vL_76 (WL_o hx) rfl hc6 ?_ (hdp := by omega)
  refine go_icmp_eq 1282 211 dL_law_208 (fun h208 => ?_) (fun h208 => ?_)
  · exact go_locals _ rfl (K _ _ _ _ _ _ hL8 (by omega) (by omega))
  · exact absurd rfl h208

set_option maxRecDepth 100000 in
set_option maxHeartbeats 4000000 in
theorem br_1 {l : Launch} {Γ : ZG} {P : Nat} {b : ZW} {x : Nat} {C : CS} {o : Nat} {S : MS} {D : ZD} {p t k n : Nat} {Φ : Option Value → ZW → Prop} (h : LI Γ P b x C o S D p) (hin : ∀ q, q < 6 → vp_in (nI (6 * t) + nI q) Γ.2.2.2.2.2.1) (hk : k + 3 ≤ 601024) (hn : n + 614 ≤ 7293034)
    (K : ∀ (b' : ZW) (C' : CS) (S' : MS) (D' : ZD) (k' n' : Nat), LI Γ P b' x C' o S' D' p → k' ≤ k + 3 → n' ≤ n + 614 → Go l Γ mLaw 1312 601024 7293034 Φ zNo k' n' (WL Γ b' x C' o S' D') 1282 [(0, .ref Γ.2.2.2.2.1), (1, .ref x), (2, .ref o), (3, .ref p), (4, .int (nI (6 * t)))] []) : Go l Γ mLaw 1312 601024 7293034 Φ zNo k n (WL Γ b x C o S D) 213 [(0, .ref Γ.2.2.2.2.1), (1, .ref x), (2, .ref o), (3, .ref p), (4, .int (nI (6 * t)))] [] := by
  have hx := h.1.1
  have hp := h.1.2.1
  refine go_aload_n 214 dL_law_213 rfl ?_
  refine go_aload_n 215 dL_law_214 rfl ?_
  refine go_iload 217 dL_law_215 rfl ?_
  refine go_iconst 218 dL_law_217 zc_1 ?_
  refine go_iadd 219 dL_law_218 ?_
  refine go_sld 220 dL_law_219 (hin 1 (by decide)) ?_
  refine go_aload_n 221 dL_law_220 rfl ?_
  obtain ⟨mc, ms, hmc, hms, hc⟩ := op_load (l := l) h (y0 := (Γ.2.2.2.2.2.2 (nI (6 * t) + 1).toNatClampNeg))
  refine go_callSW 224 [.ref x, .int (Γ.2.2.2.2.2.2 (nI (6 * t) + 1).toNatClampNeg), .ref p] dL_law_221 vL_77 rfl hc (by decide) (by decide) (by omega) (by omega) (Nat.le_of_ble_eq_true rfl) ?_
  intro v9 w9 q9
  obtain ⟨kk, rr, b9, C9, d9, rfl, rfl, ⟨ff, hff, hfk⟩, hd9, hcm⟩ := q9
  refine go_istore 226 dL_law_224 (by decide) ?_
  refine go_aload_n 227 dL_law_226 rfl ?_
  refine go_aload_n 228 dL_law_227 rfl ?_
  refine go_iload 230 dL_law_228 rfl ?_
  refine go_iconst 231 dL_law_230 zc_1 ?_
  refine go_iadd 232 dL_law_231 ?_
  refine go_sld 233 dL_law_232 (hin 1 (by decide)) ?_
  refine go_callV 236 [.int (Γ.2.2.2.2.2.2 (nI (6 * t) + 1).toNatClampNeg)] dL_law_233 vL_82 (WL_o hx) rfl hcm (by omega) (by decide) (by omega) (by omega) (Nat.le_of_ble_eq_true rfl) ?_
  intro v8 w8 q8
  obtain ⟨bb, S8, D8, rfl, hbb, rfl, hk0, hL8⟩ := q8
  refine go_istore 238 dL_law_236 (by decide) ?_
  refine go_aload_n 239 dL_law_238 rfl ?_
  refine gcV0 242 dL_law_239 vL_83 (WL_o hx) rfl (WL_t hx) ?_
  refine go_iload 244 dL_law_242 rfl ?_
  refine go_icmp_eq 249 247 dL_law_244 (fun h244 => ?_) (fun h244 => ?_)
  · refine go_iload 251 dL_law_249 rfl ?_
    refine go_if_ne 266 254 dL_law_251 (fun h251 => ?_) (fun h251 => ?_)
    · refine go_goto 1282 dL_law_266 ?_
      exact go_locals _ rfl (K _ _ _ _ _ _ hL8 (by omega) (by omega))
    · refine go_aload_n 255 dL_law_254 rfl ?_
      refine go_iconst 256 dL_law_255 zc_0 ?_
      refine go_lald 257 dL_law_256 ((WL_at hx hp).trans hff) (vp_in_nI (n := 0) (N := 1) (by decide) (by decide)) ?_
      refine go_iload 259 dL_law_257 rfl ?_
      refine go_i2l 260 dL_law_259 ?_
      refine go_lcmp 261 dL_law_260 ?_
      refine go_if_eq 266 264 dL_law_261 (fun h261 => ?_) (fun h261 => ?_)
      · refine go_goto 1282 dL_law_266 ?_
        exact go_locals _ rfl (K _ _ _ _ _ _ hL8 (by omega) (by omega))
      · exact absurd (by rw [show ff ((0 : Int32).toNatClampNeg) = bb.toInt64 from (hfk (by first | exact h251 | exact Classical.not_not.mp h251)).trans (by rw [hbb (by first | exact h251 | exact Classical.not_not.mp h251)])]; exact lg_self _) h261
  · exact absurd hk0 h244

set_option maxRecDepth 100000 in
set_option maxHeartbeats 4000000 in
theorem br_2 {l : Launch} {Γ : ZG} {P : Nat} {b : ZW} {x : Nat} {C : CS} {o : Nat} {S : MS} {D : ZD} {p t k n : Nat} {Φ : Option Value → ZW → Prop} (h : LI Γ P b x C o S D p) (hin : ∀ q, q < 6 → vp_in (nI (6 * t) + nI q) Γ.2.2.2.2.2.1) (hk : k + 3 ≤ 601024) (hn : n + 614 ≤ 7293034)
    (K : ∀ (b' : ZW) (C' : CS) (S' : MS) (D' : ZD) (k' n' : Nat), LI Γ P b' x C' o S' D' p → k' ≤ k + 3 → n' ≤ n + 614 → Go l Γ mLaw 1312 601024 7293034 Φ zNo k' n' (WL Γ b' x C' o S' D') 1282 [(0, .ref Γ.2.2.2.2.1), (1, .ref x), (2, .ref o), (3, .ref p), (4, .int (nI (6 * t)))] []) : Go l Γ mLaw 1312 601024 7293034 Φ zNo k n (WL Γ b x C o S D) 269 [(0, .ref Γ.2.2.2.2.1), (1, .ref x), (2, .ref o), (3, .ref p), (4, .int (nI (6 * t)))] [] := by
  have hx := h.1.1
  have hp := h.1.2.1
  refine go_aload_n 270 dL_law_269 rfl ?_
  obtain ⟨rr, d5, d6, C8, S8, D8, hd5, hd6, hc5, hc6, hL8⟩ := od_error (l := l) h 
  refine gcV0 273 dL_law_270 vL_87 LI.w5 rfl hc5 ?_ (hdp := by omega)
  refine go_aload_n 274 dL_law_273 rfl ?_
  refine gcV0 277 dL_law_274 vL_90 (WL_o hx) rfl hc6 ?_ (hdp := by omega)
  refine go_icmp_eq 1282 280 dL_law_277 (fun h277 => ?_) (fun h277 => ?_)
  · exact go_locals _ rfl (K _ _ _ _ _ _ hL8 (by omega) (by omega))
  · exact absurd rfl h277

set_option maxRecDepth 100000 in
set_option maxHeartbeats 4000000 in
theorem br_3 {l : Launch} {Γ : ZG} {P : Nat} {b : ZW} {x : Nat} {C : CS} {o : Nat} {S : MS} {D : ZD} {p t k n : Nat} {Φ : Option Value → ZW → Prop} (h : LI Γ P b x C o S D p) (hin : ∀ q, q < 6 → vp_in (nI (6 * t) + nI q) Γ.2.2.2.2.2.1) (hk : k + 3 ≤ 601024) (hn : n + 614 ≤ 7293034)
    (K : ∀ (b' : ZW) (C' : CS) (S' : MS) (D' : ZD) (k' n' : Nat), LI Γ P b' x C' o S' D' p → k' ≤ k + 3 → n' ≤ n + 614 → Go l Γ mLaw 1312 601024 7293034 Φ zNo k' n' (WL Γ b' x C' o S' D') 1282 [(0, .ref Γ.2.2.2.2.1), (1, .ref x), (2, .ref o), (3, .ref p), (4, .int (nI (6 * t)))] []) : Go l Γ mLaw 1312 601024 7293034 Φ zNo k n (WL Γ b x C o S D) 282 [(0, .ref Γ.2.2.2.2.1), (1, .ref x), (2, .ref o), (3, .ref p), (4, .int (nI (6 * t)))] [] := by
  have hx := h.1.1
  have hp := h.1.2.1
  refine go_aload_n 283 dL_law_282 rfl ?_
  obtain ⟨rr, d5, d6, C8, S8, D8, hd5, hd6, hc5, hc6, hL8⟩ := od_time (l := l) h 
  refine gcV0 286 dL_law_283 vL_91 LI.w5 rfl hc5 ?_ (hdp := by omega)
  refine go_aload_n 287 dL_law_286 rfl ?_
  refine gcV0 290 dL_law_287 vL_94 (WL_o hx) rfl hc6 ?_ (hdp := by omega)
  refine go_icmp_eq 1282 293 dL_law_290 (fun h290 => ?_) (fun h290 => ?_)
  · exact go_locals _ rfl (K _ _ _ _ _ _ hL8 (by omega) (by omega))
  · exact absurd rfl h290

set_option maxRecDepth 100000 in
set_option maxHeartbeats 4000000 in
theorem br_4 {l : Launch} {Γ : ZG} {P : Nat} {b : ZW} {x : Nat} {C : CS} {o : Nat} {S : MS} {D : ZD} {p t k n : Nat} {Φ : Option Value → ZW → Prop} (h : LI Γ P b x C o S D p) (hin : ∀ q, q < 6 → vp_in (nI (6 * t) + nI q) Γ.2.2.2.2.2.1) (hk : k + 3 ≤ 601024) (hn : n + 614 ≤ 7293034)
    (K : ∀ (b' : ZW) (C' : CS) (S' : MS) (D' : ZD) (k' n' : Nat), LI Γ P b' x C' o S' D' p → k' ≤ k + 3 → n' ≤ n + 614 → Go l Γ mLaw 1312 601024 7293034 Φ zNo k' n' (WL Γ b' x C' o S' D') 1282 [(0, .ref Γ.2.2.2.2.1), (1, .ref x), (2, .ref o), (3, .ref p), (4, .int (nI (6 * t)))] []) : Go l Γ mLaw 1312 601024 7293034 Φ zNo k n (WL Γ b x C o S D) 295 [(0, .ref Γ.2.2.2.2.1), (1, .ref x), (2, .ref o), (3, .ref p), (4, .int (nI (6 * t)))] [] := by
  have hx := h.1.1
  have hp := h.1.2.1
  refine go_aload_n 296 dL_law_295 rfl ?_
  refine go_aload_n 297 dL_law_296 rfl ?_
  refine go_iload 299 dL_law_297 rfl ?_
  refine go_iconst 300 dL_law_299 zc_1 ?_
  refine go_iadd 301 dL_law_300 ?_
  refine go_sld 302 dL_law_301 (hin 1 (by decide)) ?_
  refine go_aload_n 303 dL_law_302 rfl ?_
  obtain ⟨mc, ms, hmc, hms, hc⟩ := op_count (l := l) h (y0 := (Γ.2.2.2.2.2.2 (nI (6 * t) + 1).toNatClampNeg))
  refine go_callSW 306 [.ref x, .int (Γ.2.2.2.2.2.2 (nI (6 * t) + 1).toNatClampNeg), .ref p] dL_law_303 vL_95 rfl hc (by decide) (by decide) (by omega) (by omega) (Nat.le_of_ble_eq_true rfl) ?_
  intro v9 w9 q9
  obtain ⟨kk, rr, b9, C9, d9, rfl, rfl, ⟨ff, hff, hfk⟩, hd9, hcm⟩ := q9
  refine go_istore 308 dL_law_306 (by decide) ?_
  refine go_aload_n 309 dL_law_308 rfl ?_
  refine go_aload_n 310 dL_law_309 rfl ?_
  refine go_iload 312 dL_law_310 rfl ?_
  refine go_iconst 313 dL_law_312 zc_1 ?_
  refine go_iadd 314 dL_law_313 ?_
  refine go_sld 315 dL_law_314 (hin 1 (by decide)) ?_
  refine go_callV 318 [.int (Γ.2.2.2.2.2.2 (nI (6 * t) + 1).toNatClampNeg)] dL_law_315 vL_97 (WL_o hx) rfl hcm (by omega) (by decide) (by omega) (by omega) (Nat.le_of_ble_eq_true rfl) ?_
  intro v8 w8 q8
  obtain ⟨bb, S8, D8, rfl, hbb, rfl, hk0, hL8⟩ := q8
  refine go_istore 320 dL_law_318 (by decide) ?_
  refine go_aload_n 321 dL_law_320 rfl ?_
  refine gcV0 324 dL_law_321 vL_83 (WL_o hx) rfl (WL_t hx) ?_
  refine go_iload 326 dL_law_324 rfl ?_
  refine go_icmp_eq 331 329 dL_law_326 (fun h326 => ?_) (fun h326 => ?_)
  · refine go_iload 333 dL_law_331 rfl ?_
    refine go_if_ne 348 336 dL_law_333 (fun h333 => ?_) (fun h333 => ?_)
    · refine go_goto 1282 dL_law_348 ?_
      exact go_locals _ rfl (K _ _ _ _ _ _ hL8 (by omega) (by omega))
    · refine go_aload_n 337 dL_law_336 rfl ?_
      refine go_iconst 338 dL_law_337 zc_0 ?_
      refine go_lald 339 dL_law_338 ((WL_at hx hp).trans hff) (vp_in_nI (n := 0) (N := 1) (by decide) (by decide)) ?_
      refine go_iload 341 dL_law_339 rfl ?_
      refine go_i2l 342 dL_law_341 ?_
      refine go_lcmp 343 dL_law_342 ?_
      refine go_if_eq 348 346 dL_law_343 (fun h343 => ?_) (fun h343 => ?_)
      · refine go_goto 1282 dL_law_348 ?_
        exact go_locals _ rfl (K _ _ _ _ _ _ hL8 (by omega) (by omega))
      · exact absurd (by rw [show ff ((0 : Int32).toNatClampNeg) = bb.toInt64 from (hfk (by first | exact h333 | exact Classical.not_not.mp h333)).trans (by rw [hbb (by first | exact h333 | exact Classical.not_not.mp h333)])]; exact lg_self _) h343
  · exact absurd hk0 h326

set_option maxRecDepth 100000 in
set_option maxHeartbeats 4000000 in
theorem br_5 {l : Launch} {Γ : ZG} {P : Nat} {b : ZW} {x : Nat} {C : CS} {o : Nat} {S : MS} {D : ZD} {p t k n : Nat} {Φ : Option Value → ZW → Prop} (h : LI Γ P b x C o S D p) (hin : ∀ q, q < 6 → vp_in (nI (6 * t) + nI q) Γ.2.2.2.2.2.1) (hk : k + 3 ≤ 601024) (hn : n + 614 ≤ 7293034)
    (K : ∀ (b' : ZW) (C' : CS) (S' : MS) (D' : ZD) (k' n' : Nat), LI Γ P b' x C' o S' D' p → k' ≤ k + 3 → n' ≤ n + 614 → Go l Γ mLaw 1312 601024 7293034 Φ zNo k' n' (WL Γ b' x C' o S' D') 1282 [(0, .ref Γ.2.2.2.2.1), (1, .ref x), (2, .ref o), (3, .ref p), (4, .int (nI (6 * t)))] []) : Go l Γ mLaw 1312 601024 7293034 Φ zNo k n (WL Γ b x C o S D) 351 [(0, .ref Γ.2.2.2.2.1), (1, .ref x), (2, .ref o), (3, .ref p), (4, .int (nI (6 * t)))] [] := by
  have hx := h.1.1
  have hp := h.1.2.1
  refine go_aload_n 352 dL_law_351 rfl ?_
  refine go_aload_n 353 dL_law_352 rfl ?_
  refine go_iload 355 dL_law_353 rfl ?_
  refine go_iconst 356 dL_law_355 zc_1 ?_
  refine go_iadd 357 dL_law_356 ?_
  refine go_sld 358 dL_law_357 (hin 1 (by decide)) ?_
  refine go_aload_n 359 dL_law_358 rfl ?_
  refine go_iload 361 dL_law_359 rfl ?_
  refine go_iconst 362 dL_law_361 zc_2 ?_
  refine go_iadd 363 dL_law_362 ?_
  refine go_sld 364 dL_law_363 (hin 2 (by decide)) ?_
  refine go_aload_n 365 dL_law_364 rfl ?_
  obtain ⟨mc, ms, hmc, hms, hc⟩ := op_party (l := l) h (y0 := (Γ.2.2.2.2.2.2 (nI (6 * t) + 1).toNatClampNeg)) (y1 := (Γ.2.2.2.2.2.2 (nI (6 * t) + 2).toNatClampNeg))
  refine go_callSW 368 [.ref x, .int (Γ.2.2.2.2.2.2 (nI (6 * t) + 1).toNatClampNeg), .int (Γ.2.2.2.2.2.2 (nI (6 * t) + 2).toNatClampNeg), .ref p] dL_law_365 vL_98 rfl hc (by decide) (by decide) (by omega) (by omega) (Nat.le_of_ble_eq_true rfl) ?_
  intro v9 w9 q9
  obtain ⟨kk, rr, b9, C9, d9, rfl, rfl, ⟨ff, hff, hfk⟩, hd9, hcm⟩ := q9
  refine go_istore 370 dL_law_368 (by decide) ?_
  refine go_aload_n 371 dL_law_370 rfl ?_
  refine go_aload_n 372 dL_law_371 rfl ?_
  refine go_iload 374 dL_law_372 rfl ?_
  refine go_iconst 375 dL_law_374 zc_1 ?_
  refine go_iadd 376 dL_law_375 ?_
  refine go_sld 377 dL_law_376 (hin 1 (by decide)) ?_
  refine go_aload_n 378 dL_law_377 rfl ?_
  refine go_iload 380 dL_law_378 rfl ?_
  refine go_iconst 381 dL_law_380 zc_2 ?_
  refine go_iadd 382 dL_law_381 ?_
  refine go_sld 383 dL_law_382 (hin 2 (by decide)) ?_
  refine go_callV 386 [.int (Γ.2.2.2.2.2.2 (nI (6 * t) + 1).toNatClampNeg), .int (Γ.2.2.2.2.2.2 (nI (6 * t) + 2).toNatClampNeg)] dL_law_383 vL_101 (WL_o hx) rfl hcm (by omega) (by decide) (by omega) (by omega) (Nat.le_of_ble_eq_true rfl) ?_
  intro v8 w8 q8
  obtain ⟨bb, S8, D8, rfl, hbb, rfl, hk0, hL8⟩ := q8
  refine go_istore 388 dL_law_386 (by decide) ?_
  refine go_aload_n 389 dL_law_388 rfl ?_
  refine gcV0 392 dL_law_389 vL_83 (WL_o hx) rfl (WL_t hx) ?_
  refine go_iload 394 dL_law_392 rfl ?_
  refine go_icmp_eq 399 397 dL_law_394 (fun h394 => ?_) (fun h394 => ?_)
  · refine go_iload 401 dL_law_399 rfl ?_
    refine go_if_ne 416 404 dL_law_401 (fun h401 => ?_) (fun h401 => ?_)
    · refine go_goto 1282 dL_law_416 ?_
      exact go_locals _ rfl (K _ _ _ _ _ _ hL8 (by omega) (by omega))
    · refine go_aload_n 405 dL_law_404 rfl ?_
      refine go_iconst 406 dL_law_405 zc_0 ?_
      refine go_lald 407 dL_law_406 ((WL_at hx hp).trans hff) (vp_in_nI (n := 0) (N := 1) (by decide) (by decide)) ?_
      refine go_iload 409 dL_law_407 rfl ?_
      refine go_i2l 410 dL_law_409 ?_
      refine go_lcmp 411 dL_law_410 ?_
      refine go_if_eq 416 414 dL_law_411 (fun h411 => ?_) (fun h411 => ?_)
      · refine go_goto 1282 dL_law_416 ?_
        exact go_locals _ rfl (K _ _ _ _ _ _ hL8 (by omega) (by omega))
      · exact absurd (by rw [show ff ((0 : Int32).toNatClampNeg) = bb.toInt64 from (hfk (by first | exact h401 | exact Classical.not_not.mp h401)).trans (by rw [hbb (by first | exact h401 | exact Classical.not_not.mp h401)])]; exact lg_self _) h411
  · exact absurd hk0 h394

set_option maxRecDepth 100000 in
set_option maxHeartbeats 4000000 in
theorem br_6 {l : Launch} {Γ : ZG} {P : Nat} {b : ZW} {x : Nat} {C : CS} {o : Nat} {S : MS} {D : ZD} {p t k n : Nat} {Φ : Option Value → ZW → Prop} (h : LI Γ P b x C o S D p) (hin : ∀ q, q < 6 → vp_in (nI (6 * t) + nI q) Γ.2.2.2.2.2.1) (hk : k + 3 ≤ 601024) (hn : n + 614 ≤ 7293034)
    (K : ∀ (b' : ZW) (C' : CS) (S' : MS) (D' : ZD) (k' n' : Nat), LI Γ P b' x C' o S' D' p → k' ≤ k + 3 → n' ≤ n + 614 → Go l Γ mLaw 1312 601024 7293034 Φ zNo k' n' (WL Γ b' x C' o S' D') 1282 [(0, .ref Γ.2.2.2.2.1), (1, .ref x), (2, .ref o), (3, .ref p), (4, .int (nI (6 * t)))] []) : Go l Γ mLaw 1312 601024 7293034 Φ zNo k n (WL Γ b x C o S D) 419 [(0, .ref Γ.2.2.2.2.1), (1, .ref x), (2, .ref o), (3, .ref p), (4, .int (nI (6 * t)))] [] := by
  have hx := h.1.1
  have hp := h.1.2.1
  refine go_aload_n 420 dL_law_419 rfl ?_
  refine go_aload_n 421 dL_law_420 rfl ?_
  refine go_iload 423 dL_law_421 rfl ?_
  refine go_iconst 424 dL_law_423 zc_1 ?_
  refine go_iadd 425 dL_law_424 ?_
  refine go_sld 426 dL_law_425 (hin 1 (by decide)) ?_
  refine go_aload_n 427 dL_law_426 rfl ?_
  refine go_iload 429 dL_law_427 rfl ?_
  refine go_iconst 430 dL_law_429 zc_2 ?_
  refine go_iadd 431 dL_law_430 ?_
  refine go_sld 432 dL_law_431 (hin 2 (by decide)) ?_
  refine go_aload_n 433 dL_law_432 rfl ?_
  obtain ⟨mc, ms, hmc, hms, hc⟩ := op_call (l := l) h (y0 := (Γ.2.2.2.2.2.2 (nI (6 * t) + 1).toNatClampNeg)) (y1 := (Γ.2.2.2.2.2.2 (nI (6 * t) + 2).toNatClampNeg))
  refine go_callSW 436 [.ref x, .int (Γ.2.2.2.2.2.2 (nI (6 * t) + 1).toNatClampNeg), .int (Γ.2.2.2.2.2.2 (nI (6 * t) + 2).toNatClampNeg), .ref p] dL_law_433 vL_102 rfl hc (by decide) (by decide) (by omega) (by omega) (Nat.le_of_ble_eq_true rfl) ?_
  intro v9 w9 q9
  obtain ⟨kk, rr, b9, C9, d9, rfl, rfl, ⟨ff, hff, hfk⟩, hd9, hcm⟩ := q9
  refine go_istore 438 dL_law_436 (by decide) ?_
  refine go_aload_n 439 dL_law_438 rfl ?_
  refine go_aload_n 440 dL_law_439 rfl ?_
  refine go_iload 442 dL_law_440 rfl ?_
  refine go_iconst 443 dL_law_442 zc_1 ?_
  refine go_iadd 444 dL_law_443 ?_
  refine go_sld 445 dL_law_444 (hin 1 (by decide)) ?_
  refine go_aload_n 446 dL_law_445 rfl ?_
  refine go_iload 448 dL_law_446 rfl ?_
  refine go_iconst 449 dL_law_448 zc_2 ?_
  refine go_iadd 450 dL_law_449 ?_
  refine go_sld 451 dL_law_450 (hin 2 (by decide)) ?_
  refine go_callV 454 [.int (Γ.2.2.2.2.2.2 (nI (6 * t) + 1).toNatClampNeg), .int (Γ.2.2.2.2.2.2 (nI (6 * t) + 2).toNatClampNeg)] dL_law_451 vL_104 (WL_o hx) rfl hcm (by omega) (by decide) (by omega) (by omega) (Nat.le_of_ble_eq_true rfl) ?_
  intro v8 w8 q8
  obtain ⟨bb, S8, D8, rfl, hbb, rfl, hk0, hL8⟩ := q8
  refine go_istore 456 dL_law_454 (by decide) ?_
  refine go_aload_n 457 dL_law_456 rfl ?_
  refine gcV0 460 dL_law_457 vL_83 (WL_o hx) rfl (WL_t hx) ?_
  refine go_iload 462 dL_law_460 rfl ?_
  refine go_icmp_eq 467 465 dL_law_462 (fun h462 => ?_) (fun h462 => ?_)
  · refine go_iload 469 dL_law_467 rfl ?_
    refine go_if_ne 484 472 dL_law_469 (fun h469 => ?_) (fun h469 => ?_)
    · refine go_goto 1282 dL_law_484 ?_
      exact go_locals _ rfl (K _ _ _ _ _ _ hL8 (by omega) (by omega))
    · refine go_aload_n 473 dL_law_472 rfl ?_
      refine go_iconst 474 dL_law_473 zc_0 ?_
      refine go_lald 475 dL_law_474 ((WL_at hx hp).trans hff) (vp_in_nI (n := 0) (N := 1) (by decide) (by decide)) ?_
      refine go_iload 477 dL_law_475 rfl ?_
      refine go_i2l 478 dL_law_477 ?_
      refine go_lcmp 479 dL_law_478 ?_
      refine go_if_eq 484 482 dL_law_479 (fun h479 => ?_) (fun h479 => ?_)
      · refine go_goto 1282 dL_law_484 ?_
        exact go_locals _ rfl (K _ _ _ _ _ _ hL8 (by omega) (by omega))
      · exact absurd (by rw [show ff ((0 : Int32).toNatClampNeg) = bb.toInt64 from (hfk (by first | exact h469 | exact Classical.not_not.mp h469)).trans (by rw [hbb (by first | exact h469 | exact Classical.not_not.mp h469)])]; exact lg_self _) h479
  · exact absurd hk0 h462

set_option maxRecDepth 100000 in
set_option maxHeartbeats 4000000 in
theorem br_7 {l : Launch} {Γ : ZG} {P : Nat} {b : ZW} {x : Nat} {C : CS} {o : Nat} {S : MS} {D : ZD} {p t k n : Nat} {Φ : Option Value → ZW → Prop} (h : LI Γ P b x C o S D p) (hin : ∀ q, q < 6 → vp_in (nI (6 * t) + nI q) Γ.2.2.2.2.2.1) (hk : k + 3 ≤ 601024) (hn : n + 614 ≤ 7293034)
    (K : ∀ (b' : ZW) (C' : CS) (S' : MS) (D' : ZD) (k' n' : Nat), LI Γ P b' x C' o S' D' p → k' ≤ k + 3 → n' ≤ n + 614 → Go l Γ mLaw 1312 601024 7293034 Φ zNo k' n' (WL Γ b' x C' o S' D') 1282 [(0, .ref Γ.2.2.2.2.1), (1, .ref x), (2, .ref o), (3, .ref p), (4, .int (nI (6 * t)))] []) : Go l Γ mLaw 1312 601024 7293034 Φ zNo k n (WL Γ b x C o S D) 487 [(0, .ref Γ.2.2.2.2.1), (1, .ref x), (2, .ref o), (3, .ref p), (4, .int (nI (6 * t)))] [] := by
  have hx := h.1.1
  have hp := h.1.2.1
  refine go_aload_n 488 dL_law_487 rfl ?_
  refine go_aload_n 489 dL_law_488 rfl ?_
  refine go_iload 491 dL_law_489 rfl ?_
  refine go_iconst 492 dL_law_491 zc_1 ?_
  refine go_iadd 493 dL_law_492 ?_
  refine go_sld 494 dL_law_493 (hin 1 (by decide)) ?_
  refine go_aload_n 495 dL_law_494 rfl ?_
  refine go_iload 497 dL_law_495 rfl ?_
  refine go_iconst 498 dL_law_497 zc_2 ?_
  refine go_iadd 499 dL_law_498 ?_
  refine go_sld 500 dL_law_499 (hin 2 (by decide)) ?_
  refine go_aload_n 501 dL_law_500 rfl ?_
  obtain ⟨mc, ms, hmc, hms, hc⟩ := op_leg (l := l) h (y0 := (Γ.2.2.2.2.2.2 (nI (6 * t) + 1).toNatClampNeg)) (y1 := (Γ.2.2.2.2.2.2 (nI (6 * t) + 2).toNatClampNeg))
  refine go_callSW 504 [.ref x, .int (Γ.2.2.2.2.2.2 (nI (6 * t) + 1).toNatClampNeg), .int (Γ.2.2.2.2.2.2 (nI (6 * t) + 2).toNatClampNeg), .ref p] dL_law_501 vL_105 rfl hc (by decide) (by decide) (by omega) (by omega) (Nat.le_of_ble_eq_true rfl) ?_
  intro v9 w9 q9
  obtain ⟨kk, rr, b9, C9, d9, rfl, rfl, ⟨ff, hff, hfk⟩, hd9, hcm⟩ := q9
  refine go_istore 506 dL_law_504 (by decide) ?_
  refine go_aload_n 507 dL_law_506 rfl ?_
  refine go_aload_n 508 dL_law_507 rfl ?_
  refine go_iload 510 dL_law_508 rfl ?_
  refine go_iconst 511 dL_law_510 zc_1 ?_
  refine go_iadd 512 dL_law_511 ?_
  refine go_sld 513 dL_law_512 (hin 1 (by decide)) ?_
  refine go_aload_n 514 dL_law_513 rfl ?_
  refine go_iload 516 dL_law_514 rfl ?_
  refine go_iconst 517 dL_law_516 zc_2 ?_
  refine go_iadd 518 dL_law_517 ?_
  refine go_sld 519 dL_law_518 (hin 2 (by decide)) ?_
  refine go_callV 522 [.int (Γ.2.2.2.2.2.2 (nI (6 * t) + 1).toNatClampNeg), .int (Γ.2.2.2.2.2.2 (nI (6 * t) + 2).toNatClampNeg)] dL_law_519 vL_107 (WL_o hx) rfl hcm (by omega) (by decide) (by omega) (by omega) (Nat.le_of_ble_eq_true rfl) ?_
  intro v8 w8 q8
  obtain ⟨bb, S8, D8, rfl, hbb, rfl, hk0, hL8⟩ := q8
  refine go_istore 524 dL_law_522 (by decide) ?_
  refine go_aload_n 525 dL_law_524 rfl ?_
  refine gcV0 528 dL_law_525 vL_83 (WL_o hx) rfl (WL_t hx) ?_
  refine go_iload 530 dL_law_528 rfl ?_
  refine go_icmp_eq 535 533 dL_law_530 (fun h530 => ?_) (fun h530 => ?_)
  · refine go_iload 537 dL_law_535 rfl ?_
    refine go_if_ne 552 540 dL_law_537 (fun h537 => ?_) (fun h537 => ?_)
    · refine go_goto 1282 dL_law_552 ?_
      exact go_locals _ rfl (K _ _ _ _ _ _ hL8 (by omega) (by omega))
    · refine go_aload_n 541 dL_law_540 rfl ?_
      refine go_iconst 542 dL_law_541 zc_0 ?_
      refine go_lald 543 dL_law_542 ((WL_at hx hp).trans hff) (vp_in_nI (n := 0) (N := 1) (by decide) (by decide)) ?_
      refine go_iload 545 dL_law_543 rfl ?_
      refine go_i2l 546 dL_law_545 ?_
      refine go_lcmp 547 dL_law_546 ?_
      refine go_if_eq 552 550 dL_law_547 (fun h547 => ?_) (fun h547 => ?_)
      · refine go_goto 1282 dL_law_552 ?_
        exact go_locals _ rfl (K _ _ _ _ _ _ hL8 (by omega) (by omega))
      · exact absurd (by rw [show ff ((0 : Int32).toNatClampNeg) = bb.toInt64 from (hfk (by first | exact h537 | exact Classical.not_not.mp h537)).trans (by rw [hbb (by first | exact h537 | exact Classical.not_not.mp h537)])]; exact lg_self _) h547
  · exact absurd hk0 h530

set_option maxRecDepth 100000 in
set_option maxHeartbeats 4000000 in
theorem br_8 {l : Launch} {Γ : ZG} {P : Nat} {b : ZW} {x : Nat} {C : CS} {o : Nat} {S : MS} {D : ZD} {p t k n : Nat} {Φ : Option Value → ZW → Prop} (h : LI Γ P b x C o S D p) (hin : ∀ q, q < 6 → vp_in (nI (6 * t) + nI q) Γ.2.2.2.2.2.1) (hk : k + 3 ≤ 601024) (hn : n + 614 ≤ 7293034)
    (K : ∀ (b' : ZW) (C' : CS) (S' : MS) (D' : ZD) (k' n' : Nat), LI Γ P b' x C' o S' D' p → k' ≤ k + 3 → n' ≤ n + 614 → Go l Γ mLaw 1312 601024 7293034 Φ zNo k' n' (WL Γ b' x C' o S' D') 1282 [(0, .ref Γ.2.2.2.2.1), (1, .ref x), (2, .ref o), (3, .ref p), (4, .int (nI (6 * t)))] []) : Go l Γ mLaw 1312 601024 7293034 Φ zNo k n (WL Γ b x C o S D) 555 [(0, .ref Γ.2.2.2.2.1), (1, .ref x), (2, .ref o), (3, .ref p), (4, .int (nI (6 * t)))] [] := by
  have hx := h.1.1
  have hp := h.1.2.1
  refine go_aload_n 556 dL_law_555 rfl ?_
  refine go_aload_n 557 dL_law_556 rfl ?_
  refine go_iload 559 dL_law_557 rfl ?_
  refine go_iconst 560 dL_law_559 zc_1 ?_
  refine go_iadd 561 dL_law_560 ?_
  refine go_sld 562 dL_law_561 (hin 1 (by decide)) ?_
  refine go_aload_n 563 dL_law_562 rfl ?_
  refine go_iload 565 dL_law_563 rfl ?_
  refine go_iconst 566 dL_law_565 zc_2 ?_
  refine go_iadd 567 dL_law_566 ?_
  refine go_sld 568 dL_law_567 (hin 2 (by decide)) ?_
  refine go_aload_n 569 dL_law_568 rfl ?_
  obtain ⟨mc, ms, hmc, hms, hc⟩ := op_pending (l := l) h (y0 := (Γ.2.2.2.2.2.2 (nI (6 * t) + 1).toNatClampNeg)) (y1 := (Γ.2.2.2.2.2.2 (nI (6 * t) + 2).toNatClampNeg))
  refine go_callSW 572 [.ref x, .int (Γ.2.2.2.2.2.2 (nI (6 * t) + 1).toNatClampNeg), .int (Γ.2.2.2.2.2.2 (nI (6 * t) + 2).toNatClampNeg), .ref p] dL_law_569 vL_108 rfl hc (by decide) (by decide) (by omega) (by omega) (Nat.le_of_ble_eq_true rfl) ?_
  intro v9 w9 q9
  obtain ⟨kk, rr, b9, C9, d9, rfl, rfl, ⟨ff, hff, hfk⟩, hd9, hcm⟩ := q9
  refine go_istore 574 dL_law_572 (by decide) ?_
  refine go_aload_n 575 dL_law_574 rfl ?_
  refine go_aload_n 576 dL_law_575 rfl ?_
  refine go_iload 578 dL_law_576 rfl ?_
  refine go_iconst 579 dL_law_578 zc_1 ?_
  refine go_iadd 580 dL_law_579 ?_
  refine go_sld 581 dL_law_580 (hin 1 (by decide)) ?_
  refine go_aload_n 582 dL_law_581 rfl ?_
  refine go_iload 584 dL_law_582 rfl ?_
  refine go_iconst 585 dL_law_584 zc_2 ?_
  refine go_iadd 586 dL_law_585 ?_
  refine go_sld 587 dL_law_586 (hin 2 (by decide)) ?_
  refine go_callV 590 [.int (Γ.2.2.2.2.2.2 (nI (6 * t) + 1).toNatClampNeg), .int (Γ.2.2.2.2.2.2 (nI (6 * t) + 2).toNatClampNeg)] dL_law_587 vL_110 (WL_o hx) rfl hcm (by omega) (by decide) (by omega) (by omega) (Nat.le_of_ble_eq_true rfl) ?_
  intro v8 w8 q8
  obtain ⟨bb, S8, D8, rfl, hbb, rfl, hk0, hL8⟩ := q8
  refine go_istore 592 dL_law_590 (by decide) ?_
  refine go_aload_n 593 dL_law_592 rfl ?_
  refine gcV0 596 dL_law_593 vL_83 (WL_o hx) rfl (WL_t hx) ?_
  refine go_iload 598 dL_law_596 rfl ?_
  refine go_icmp_eq 603 601 dL_law_598 (fun h598 => ?_) (fun h598 => ?_)
  · refine go_iload 605 dL_law_603 rfl ?_
    refine go_if_ne 620 608 dL_law_605 (fun h605 => ?_) (fun h605 => ?_)
    · refine go_goto 1282 dL_law_620 ?_
      exact go_locals _ rfl (K _ _ _ _ _ _ hL8 (by omega) (by omega))
    · refine go_aload_n 609 dL_law_608 rfl ?_
      refine go_iconst 610 dL_law_609 zc_0 ?_
      refine go_lald 611 dL_law_610 ((WL_at hx hp).trans hff) (vp_in_nI (n := 0) (N := 1) (by decide) (by decide)) ?_
      refine go_iload 613 dL_law_611 rfl ?_
      refine go_i2l 614 dL_law_613 ?_
      refine go_lcmp 615 dL_law_614 ?_
      refine go_if_eq 620 618 dL_law_615 (fun h615 => ?_) (fun h615 => ?_)
      · refine go_goto 1282 dL_law_620 ?_
        exact go_locals _ rfl (K _ _ _ _ _ _ hL8 (by omega) (by omega))
      · exact absurd (by rw [show ff ((0 : Int32).toNatClampNeg) = bb.toInt64 from (hfk (by first | exact h605 | exact Classical.not_not.mp h605)).trans (by rw [hbb (by first | exact h605 | exact Classical.not_not.mp h605)])]; exact lg_self _) h615
  · exact absurd hk0 h598

set_option maxRecDepth 100000 in
set_option maxHeartbeats 4000000 in
theorem br_9 {l : Launch} {Γ : ZG} {P : Nat} {b : ZW} {x : Nat} {C : CS} {o : Nat} {S : MS} {D : ZD} {p t k n : Nat} {Φ : Option Value → ZW → Prop} (h : LI Γ P b x C o S D p) (hin : ∀ q, q < 6 → vp_in (nI (6 * t) + nI q) Γ.2.2.2.2.2.1) (hk : k + 3 ≤ 601024) (hn : n + 614 ≤ 7293034)
    (K : ∀ (b' : ZW) (C' : CS) (S' : MS) (D' : ZD) (k' n' : Nat), LI Γ P b' x C' o S' D' p → k' ≤ k + 3 → n' ≤ n + 614 → Go l Γ mLaw 1312 601024 7293034 Φ zNo k' n' (WL Γ b' x C' o S' D') 1282 [(0, .ref Γ.2.2.2.2.1), (1, .ref x), (2, .ref o), (3, .ref p), (4, .int (nI (6 * t)))] []) : Go l Γ mLaw 1312 601024 7293034 Φ zNo k n (WL Γ b x C o S D) 623 [(0, .ref Γ.2.2.2.2.1), (1, .ref x), (2, .ref o), (3, .ref p), (4, .int (nI (6 * t)))] [] := by
  have hx := h.1.1
  have hp := h.1.2.1
  refine go_aload_n 624 dL_law_623 rfl ?_
  refine go_aload_n 625 dL_law_624 rfl ?_
  refine go_iload 627 dL_law_625 rfl ?_
  refine go_iconst 628 dL_law_627 zc_1 ?_
  refine go_iadd 629 dL_law_628 ?_
  refine go_sld 630 dL_law_629 (hin 1 (by decide)) ?_
  refine go_aload_n 631 dL_law_630 rfl ?_
  refine go_iload 633 dL_law_631 rfl ?_
  refine go_iconst 634 dL_law_633 zc_2 ?_
  refine go_iadd 635 dL_law_634 ?_
  refine go_sld 636 dL_law_635 (hin 2 (by decide)) ?_
  refine go_aload_n 637 dL_law_636 rfl ?_
  obtain ⟨mc, ms, hmc, hms, hc⟩ := op_repetition (l := l) h (y0 := (Γ.2.2.2.2.2.2 (nI (6 * t) + 1).toNatClampNeg)) (y1 := (Γ.2.2.2.2.2.2 (nI (6 * t) + 2).toNatClampNeg))
  refine go_callSW 640 [.ref x, .int (Γ.2.2.2.2.2.2 (nI (6 * t) + 1).toNatClampNeg), .int (Γ.2.2.2.2.2.2 (nI (6 * t) + 2).toNatClampNeg), .ref p] dL_law_637 vL_111 rfl hc (by decide) (by decide) (by omega) (by omega) (Nat.le_of_ble_eq_true rfl) ?_
  intro v9 w9 q9
  obtain ⟨kk, rr, b9, C9, d9, rfl, rfl, ⟨ff, hff, hfk⟩, hd9, hcm⟩ := q9
  refine go_istore 642 dL_law_640 (by decide) ?_
  refine go_aload_n 643 dL_law_642 rfl ?_
  refine go_aload_n 644 dL_law_643 rfl ?_
  refine go_iload 646 dL_law_644 rfl ?_
  refine go_iconst 647 dL_law_646 zc_1 ?_
  refine go_iadd 648 dL_law_647 ?_
  refine go_sld 649 dL_law_648 (hin 1 (by decide)) ?_
  refine go_aload_n 650 dL_law_649 rfl ?_
  refine go_iload 652 dL_law_650 rfl ?_
  refine go_iconst 653 dL_law_652 zc_2 ?_
  refine go_iadd 654 dL_law_653 ?_
  refine go_sld 655 dL_law_654 (hin 2 (by decide)) ?_
  refine go_callV 658 [.int (Γ.2.2.2.2.2.2 (nI (6 * t) + 1).toNatClampNeg), .int (Γ.2.2.2.2.2.2 (nI (6 * t) + 2).toNatClampNeg)] dL_law_655 vL_113 (WL_o hx) rfl hcm (by omega) (by decide) (by omega) (by omega) (Nat.le_of_ble_eq_true rfl) ?_
  intro v8 w8 q8
  obtain ⟨bb, S8, D8, rfl, hbb, rfl, hk0, hL8⟩ := q8
  refine go_istore 660 dL_law_658 (by decide) ?_
  refine go_aload_n 661 dL_law_660 rfl ?_
  refine gcV0 664 dL_law_661 vL_83 (WL_o hx) rfl (WL_t hx) ?_
  refine go_iload 666 dL_law_664 rfl ?_
  refine go_icmp_eq 671 669 dL_law_666 (fun h666 => ?_) (fun h666 => ?_)
  · refine go_iload 673 dL_law_671 rfl ?_
    refine go_if_ne 688 676 dL_law_673 (fun h673 => ?_) (fun h673 => ?_)
    · refine go_goto 1282 dL_law_688 ?_
      exact go_locals _ rfl (K _ _ _ _ _ _ hL8 (by omega) (by omega))
    · refine go_aload_n 677 dL_law_676 rfl ?_
      refine go_iconst 678 dL_law_677 zc_0 ?_
      refine go_lald 679 dL_law_678 ((WL_at hx hp).trans hff) (vp_in_nI (n := 0) (N := 1) (by decide) (by decide)) ?_
      refine go_iload 681 dL_law_679 rfl ?_
      refine go_i2l 682 dL_law_681 ?_
      refine go_lcmp 683 dL_law_682 ?_
      refine go_if_eq 688 686 dL_law_683 (fun h683 => ?_) (fun h683 => ?_)
      · refine go_goto 1282 dL_law_688 ?_
        exact go_locals _ rfl (K _ _ _ _ _ _ hL8 (by omega) (by omega))
      · exact absurd (by rw [show ff ((0 : Int32).toNatClampNeg) = bb.toInt64 from (hfk (by first | exact h673 | exact Classical.not_not.mp h673)).trans (by rw [hbb (by first | exact h673 | exact Classical.not_not.mp h673)])]; exact lg_self _) h683
  · exact absurd hk0 h666

set_option maxRecDepth 100000 in
set_option maxHeartbeats 4000000 in
theorem br_10 {l : Launch} {Γ : ZG} {P : Nat} {b : ZW} {x : Nat} {C : CS} {o : Nat} {S : MS} {D : ZD} {p t k n : Nat} {Φ : Option Value → ZW → Prop} (h : LI Γ P b x C o S D p) (hin : ∀ q, q < 6 → vp_in (nI (6 * t) + nI q) Γ.2.2.2.2.2.1) (hk : k + 3 ≤ 601024) (hn : n + 614 ≤ 7293034)
    (K : ∀ (b' : ZW) (C' : CS) (S' : MS) (D' : ZD) (k' n' : Nat), LI Γ P b' x C' o S' D' p → k' ≤ k + 3 → n' ≤ n + 614 → Go l Γ mLaw 1312 601024 7293034 Φ zNo k' n' (WL Γ b' x C' o S' D') 1282 [(0, .ref Γ.2.2.2.2.1), (1, .ref x), (2, .ref o), (3, .ref p), (4, .int (nI (6 * t)))] []) : Go l Γ mLaw 1312 601024 7293034 Φ zNo k n (WL Γ b x C o S D) 691 [(0, .ref Γ.2.2.2.2.1), (1, .ref x), (2, .ref o), (3, .ref p), (4, .int (nI (6 * t)))] [] := by
  have hx := h.1.1
  have hp := h.1.2.1
  refine go_aload_n 692 dL_law_691 rfl ?_
  refine go_aload_n 693 dL_law_692 rfl ?_
  refine go_iload 695 dL_law_693 rfl ?_
  refine go_iconst 696 dL_law_695 zc_1 ?_
  refine go_iadd 697 dL_law_696 ?_
  refine go_sld 698 dL_law_697 (hin 1 (by decide)) ?_
  refine go_aload_n 699 dL_law_698 rfl ?_
  obtain ⟨mc, ms, hmc, hms, hc⟩ := op_total (l := l) h (y0 := (Γ.2.2.2.2.2.2 (nI (6 * t) + 1).toNatClampNeg))
  refine go_callSW 702 [.ref x, .int (Γ.2.2.2.2.2.2 (nI (6 * t) + 1).toNatClampNeg), .ref p] dL_law_699 vL_114 rfl hc (by decide) (by decide) (by omega) (by omega) (Nat.le_of_ble_eq_true rfl) ?_
  intro v9 w9 q9
  obtain ⟨kk, rr, b9, C9, d9, rfl, rfl, ⟨ff, hff, hfk⟩, hd9, hcm⟩ := q9
  refine go_istore 704 dL_law_702 (by decide) ?_
  refine go_aload_n 705 dL_law_704 rfl ?_
  refine go_aload_n 706 dL_law_705 rfl ?_
  refine go_iload 708 dL_law_706 rfl ?_
  refine go_iconst 709 dL_law_708 zc_1 ?_
  refine go_iadd 710 dL_law_709 ?_
  refine go_sld 711 dL_law_710 (hin 1 (by decide)) ?_
  refine go_callV 714 [.int (Γ.2.2.2.2.2.2 (nI (6 * t) + 1).toNatClampNeg)] dL_law_711 vL_116 (WL_o hx) rfl hcm (by omega) (by decide) (by omega) (by omega) (Nat.le_of_ble_eq_true rfl) ?_
  intro v8 w8 q8
  obtain ⟨bb, S8, D8, rfl, hbb, rfl, hk0, hL8⟩ := q8
  refine go_istore 716 dL_law_714 (by decide) ?_
  refine go_aload_n 717 dL_law_716 rfl ?_
  refine gcV0 720 dL_law_717 vL_83 (WL_o hx) rfl (WL_t hx) ?_
  refine go_iload 722 dL_law_720 rfl ?_
  refine go_icmp_eq 727 725 dL_law_722 (fun h722 => ?_) (fun h722 => ?_)
  · refine go_iload 729 dL_law_727 rfl ?_
    refine go_if_ne 744 732 dL_law_729 (fun h729 => ?_) (fun h729 => ?_)
    · refine go_goto 1282 dL_law_744 ?_
      exact go_locals _ rfl (K _ _ _ _ _ _ hL8 (by omega) (by omega))
    · refine go_aload_n 733 dL_law_732 rfl ?_
      refine go_iconst 734 dL_law_733 zc_0 ?_
      refine go_lald 735 dL_law_734 ((WL_at hx hp).trans hff) (vp_in_nI (n := 0) (N := 1) (by decide) (by decide)) ?_
      refine go_iload 737 dL_law_735 rfl ?_
      refine go_i2l 738 dL_law_737 ?_
      refine go_lcmp 739 dL_law_738 ?_
      refine go_if_eq 744 742 dL_law_739 (fun h739 => ?_) (fun h739 => ?_)
      · refine go_goto 1282 dL_law_744 ?_
        exact go_locals _ rfl (K _ _ _ _ _ _ hL8 (by omega) (by omega))
      · exact absurd (by rw [show ff ((0 : Int32).toNatClampNeg) = bb.toInt64 from (hfk (by first | exact h729 | exact Classical.not_not.mp h729)).trans (by rw [hbb (by first | exact h729 | exact Classical.not_not.mp h729)])]; exact lg_self _) h739
  · exact absurd hk0 h722

set_option maxRecDepth 100000 in
set_option maxHeartbeats 4000000 in
theorem br_11 {l : Launch} {Γ : ZG} {P : Nat} {b : ZW} {x : Nat} {C : CS} {o : Nat} {S : MS} {D : ZD} {p t k n : Nat} {Φ : Option Value → ZW → Prop} (h : LI Γ P b x C o S D p) (hin : ∀ q, q < 6 → vp_in (nI (6 * t) + nI q) Γ.2.2.2.2.2.1) (hk : k + 3 ≤ 601024) (hn : n + 614 ≤ 7293034)
    (K : ∀ (b' : ZW) (C' : CS) (S' : MS) (D' : ZD) (k' n' : Nat), LI Γ P b' x C' o S' D' p → k' ≤ k + 3 → n' ≤ n + 614 → Go l Γ mLaw 1312 601024 7293034 Φ zNo k' n' (WL Γ b' x C' o S' D') 1282 [(0, .ref Γ.2.2.2.2.1), (1, .ref x), (2, .ref o), (3, .ref p), (4, .int (nI (6 * t)))] []) : Go l Γ mLaw 1312 601024 7293034 Φ zNo k n (WL Γ b x C o S D) 747 [(0, .ref Γ.2.2.2.2.1), (1, .ref x), (2, .ref o), (3, .ref p), (4, .int (nI (6 * t)))] [] := by
  have hx := h.1.1
  have hp := h.1.2.1
  refine go_aload_n 748 dL_law_747 rfl ?_
  refine go_aload_n 749 dL_law_748 rfl ?_
  refine go_iload 751 dL_law_749 rfl ?_
  refine go_iconst 752 dL_law_751 zc_1 ?_
  refine go_iadd 753 dL_law_752 ?_
  refine go_sld 754 dL_law_753 (hin 1 (by decide)) ?_
  refine go_aload_n 755 dL_law_754 rfl ?_
  obtain ⟨mc, ms, hmc, hms, hc⟩ := op_settlesIn (l := l) h (y0 := (Γ.2.2.2.2.2.2 (nI (6 * t) + 1).toNatClampNeg))
  refine go_callSW 758 [.ref x, .int (Γ.2.2.2.2.2.2 (nI (6 * t) + 1).toNatClampNeg), .ref p] dL_law_755 vL_117 rfl hc (by decide) (by decide) (by omega) (by omega) (Nat.le_of_ble_eq_true rfl) ?_
  intro v9 w9 q9
  obtain ⟨kk, rr, b9, C9, d9, rfl, rfl, ⟨ff, hff, hfk⟩, hd9, hcm⟩ := q9
  refine go_istore 760 dL_law_758 (by decide) ?_
  refine go_aload_n 761 dL_law_760 rfl ?_
  refine go_aload_n 762 dL_law_761 rfl ?_
  refine go_iload 764 dL_law_762 rfl ?_
  refine go_iconst 765 dL_law_764 zc_1 ?_
  refine go_iadd 766 dL_law_765 ?_
  refine go_sld 767 dL_law_766 (hin 1 (by decide)) ?_
  refine go_callV 770 [.int (Γ.2.2.2.2.2.2 (nI (6 * t) + 1).toNatClampNeg)] dL_law_767 vL_119 (WL_o hx) rfl hcm (by omega) (by decide) (by omega) (by omega) (Nat.le_of_ble_eq_true rfl) ?_
  intro v8 w8 q8
  obtain ⟨bb, S8, D8, rfl, hbb, rfl, hk0, hL8⟩ := q8
  refine go_istore 772 dL_law_770 (by decide) ?_
  refine go_aload_n 773 dL_law_772 rfl ?_
  refine gcV0 776 dL_law_773 vL_83 (WL_o hx) rfl (WL_t hx) ?_
  refine go_iload 778 dL_law_776 rfl ?_
  refine go_icmp_eq 783 781 dL_law_778 (fun h778 => ?_) (fun h778 => ?_)
  · refine go_iload 785 dL_law_783 rfl ?_
    refine go_if_ne 800 788 dL_law_785 (fun h785 => ?_) (fun h785 => ?_)
    · refine go_goto 1282 dL_law_800 ?_
      exact go_locals _ rfl (K _ _ _ _ _ _ hL8 (by omega) (by omega))
    · refine go_aload_n 789 dL_law_788 rfl ?_
      refine go_iconst 790 dL_law_789 zc_0 ?_
      refine go_lald 791 dL_law_790 ((WL_at hx hp).trans hff) (vp_in_nI (n := 0) (N := 1) (by decide) (by decide)) ?_
      refine go_iload 793 dL_law_791 rfl ?_
      refine go_i2l 794 dL_law_793 ?_
      refine go_lcmp 795 dL_law_794 ?_
      refine go_if_eq 800 798 dL_law_795 (fun h795 => ?_) (fun h795 => ?_)
      · refine go_goto 1282 dL_law_800 ?_
        exact go_locals _ rfl (K _ _ _ _ _ _ hL8 (by omega) (by omega))
      · exact absurd (by rw [show ff ((0 : Int32).toNatClampNeg) = bb.toInt64 from (hfk (by first | exact h785 | exact Classical.not_not.mp h785)).trans (by rw [hbb (by first | exact h785 | exact Classical.not_not.mp h785)])]; exact lg_self _) h795
  · exact absurd hk0 h778

set_option maxRecDepth 100000 in
set_option maxHeartbeats 4000000 in
theorem br_12 {l : Launch} {Γ : ZG} {P : Nat} {b : ZW} {x : Nat} {C : CS} {o : Nat} {S : MS} {D : ZD} {p t k n : Nat} {Φ : Option Value → ZW → Prop} (h : LI Γ P b x C o S D p) (hin : ∀ q, q < 6 → vp_in (nI (6 * t) + nI q) Γ.2.2.2.2.2.1) (hk : k + 3 ≤ 601024) (hn : n + 614 ≤ 7293034)
    (K : ∀ (b' : ZW) (C' : CS) (S' : MS) (D' : ZD) (k' n' : Nat), LI Γ P b' x C' o S' D' p → k' ≤ k + 3 → n' ≤ n + 614 → Go l Γ mLaw 1312 601024 7293034 Φ zNo k' n' (WL Γ b' x C' o S' D') 1282 [(0, .ref Γ.2.2.2.2.1), (1, .ref x), (2, .ref o), (3, .ref p), (4, .int (nI (6 * t)))] []) : Go l Γ mLaw 1312 601024 7293034 Φ zNo k n (WL Γ b x C o S D) 803 [(0, .ref Γ.2.2.2.2.1), (1, .ref x), (2, .ref o), (3, .ref p), (4, .int (nI (6 * t)))] [] := by
  have hx := h.1.1
  have hp := h.1.2.1
  refine go_aload_n 804 dL_law_803 rfl ?_
  refine go_aload_n 805 dL_law_804 rfl ?_
  refine go_iload 807 dL_law_805 rfl ?_
  refine go_iconst 808 dL_law_807 zc_1 ?_
  refine go_iadd 809 dL_law_808 ?_
  refine go_sld 810 dL_law_809 (hin 1 (by decide)) ?_
  refine go_aload_n 811 dL_law_810 rfl ?_
  obtain ⟨mc, ms, hmc, hms, hc⟩ := op_answeredBy (l := l) h (y0 := (Γ.2.2.2.2.2.2 (nI (6 * t) + 1).toNatClampNeg))
  refine go_callSW 814 [.ref x, .int (Γ.2.2.2.2.2.2 (nI (6 * t) + 1).toNatClampNeg), .ref p] dL_law_811 vL_120 rfl hc (by decide) (by decide) (by omega) (by omega) (Nat.le_of_ble_eq_true rfl) ?_
  intro v9 w9 q9
  obtain ⟨kk, rr, b9, C9, d9, rfl, rfl, ⟨ff, hff, hfk⟩, hd9, hcm⟩ := q9
  refine go_istore 816 dL_law_814 (by decide) ?_
  refine go_aload_n 817 dL_law_816 rfl ?_
  refine go_aload_n 818 dL_law_817 rfl ?_
  refine go_iload 820 dL_law_818 rfl ?_
  refine go_iconst 821 dL_law_820 zc_1 ?_
  refine go_iadd 822 dL_law_821 ?_
  refine go_sld 823 dL_law_822 (hin 1 (by decide)) ?_
  refine go_callV 826 [.int (Γ.2.2.2.2.2.2 (nI (6 * t) + 1).toNatClampNeg)] dL_law_823 vL_122 (WL_o hx) rfl hcm (by omega) (by decide) (by omega) (by omega) (Nat.le_of_ble_eq_true rfl) ?_
  intro v8 w8 q8
  obtain ⟨bb, S8, D8, rfl, hbb, rfl, hk0, hL8⟩ := q8
  refine go_istore 828 dL_law_826 (by decide) ?_
  refine go_aload_n 829 dL_law_828 rfl ?_
  refine gcV0 832 dL_law_829 vL_83 (WL_o hx) rfl (WL_t hx) ?_
  refine go_iload 834 dL_law_832 rfl ?_
  refine go_icmp_eq 839 837 dL_law_834 (fun h834 => ?_) (fun h834 => ?_)
  · refine go_iload 841 dL_law_839 rfl ?_
    refine go_if_ne 856 844 dL_law_841 (fun h841 => ?_) (fun h841 => ?_)
    · refine go_goto 1282 dL_law_856 ?_
      exact go_locals _ rfl (K _ _ _ _ _ _ hL8 (by omega) (by omega))
    · refine go_aload_n 845 dL_law_844 rfl ?_
      refine go_iconst 846 dL_law_845 zc_0 ?_
      refine go_lald 847 dL_law_846 ((WL_at hx hp).trans hff) (vp_in_nI (n := 0) (N := 1) (by decide) (by decide)) ?_
      refine go_iload 849 dL_law_847 rfl ?_
      refine go_i2l 850 dL_law_849 ?_
      refine go_lcmp 851 dL_law_850 ?_
      refine go_if_eq 856 854 dL_law_851 (fun h851 => ?_) (fun h851 => ?_)
      · refine go_goto 1282 dL_law_856 ?_
        exact go_locals _ rfl (K _ _ _ _ _ _ hL8 (by omega) (by omega))
      · exact absurd (by rw [show ff ((0 : Int32).toNatClampNeg) = bb.toInt64 from (hfk (by first | exact h841 | exact Classical.not_not.mp h841)).trans (by rw [hbb (by first | exact h841 | exact Classical.not_not.mp h841)])]; exact lg_self _) h851
  · exact absurd hk0 h834

set_option maxRecDepth 100000 in
set_option maxHeartbeats 4000000 in
theorem br_13 {l : Launch} {Γ : ZG} {P : Nat} {b : ZW} {x : Nat} {C : CS} {o : Nat} {S : MS} {D : ZD} {p t k n : Nat} {Φ : Option Value → ZW → Prop} (h : LI Γ P b x C o S D p) (hin : ∀ q, q < 6 → vp_in (nI (6 * t) + nI q) Γ.2.2.2.2.2.1) (hk : k + 3 ≤ 601024) (hn : n + 614 ≤ 7293034)
    (K : ∀ (b' : ZW) (C' : CS) (S' : MS) (D' : ZD) (k' n' : Nat), LI Γ P b' x C' o S' D' p → k' ≤ k + 3 → n' ≤ n + 614 → Go l Γ mLaw 1312 601024 7293034 Φ zNo k' n' (WL Γ b' x C' o S' D') 1282 [(0, .ref Γ.2.2.2.2.1), (1, .ref x), (2, .ref o), (3, .ref p), (4, .int (nI (6 * t)))] []) : Go l Γ mLaw 1312 601024 7293034 Φ zNo k n (WL Γ b x C o S D) 859 [(0, .ref Γ.2.2.2.2.1), (1, .ref x), (2, .ref o), (3, .ref p), (4, .int (nI (6 * t)))] [] := by
  have hx := h.1.1
  have hp := h.1.2.1
  refine go_aload_n 860 dL_law_859 rfl ?_
  refine go_aload_n 861 dL_law_860 rfl ?_
  refine go_iload 863 dL_law_861 rfl ?_
  refine go_iconst 864 dL_law_863 zc_1 ?_
  refine go_iadd 865 dL_law_864 ?_
  refine go_sld 866 dL_law_865 (hin 1 (by decide)) ?_
  refine go_aload_n 867 dL_law_866 rfl ?_
  obtain ⟨mc, ms, hmc, hms, hc⟩ := op_pass (l := l) h (y0 := (Γ.2.2.2.2.2.2 (nI (6 * t) + 1).toNatClampNeg))
  refine go_callSW 870 [.ref x, .int (Γ.2.2.2.2.2.2 (nI (6 * t) + 1).toNatClampNeg), .ref p] dL_law_867 vL_123 rfl hc (by decide) (by decide) (by omega) (by omega) (Nat.le_of_ble_eq_true rfl) ?_
  intro v9 w9 q9
  obtain ⟨kk, rr, b9, C9, d9, rfl, rfl, ⟨ff, hff, hfk⟩, hd9, hcm⟩ := q9
  refine go_istore 872 dL_law_870 (by decide) ?_
  refine go_aload_n 873 dL_law_872 rfl ?_
  refine go_aload_n 874 dL_law_873 rfl ?_
  refine go_iload 876 dL_law_874 rfl ?_
  refine go_iconst 877 dL_law_876 zc_1 ?_
  refine go_iadd 878 dL_law_877 ?_
  refine go_sld 879 dL_law_878 (hin 1 (by decide)) ?_
  refine go_callV 882 [.int (Γ.2.2.2.2.2.2 (nI (6 * t) + 1).toNatClampNeg)] dL_law_879 vL_125 (WL_o hx) rfl hcm (by omega) (by decide) (by omega) (by omega) (Nat.le_of_ble_eq_true rfl) ?_
  intro v8 w8 q8
  obtain ⟨bb, S8, D8, rfl, hbb, rfl, hk0, hL8⟩ := q8
  refine go_istore 884 dL_law_882 (by decide) ?_
  refine go_aload_n 885 dL_law_884 rfl ?_
  refine gcV0 888 dL_law_885 vL_83 (WL_o hx) rfl (WL_t hx) ?_
  refine go_iload 890 dL_law_888 rfl ?_
  refine go_icmp_eq 895 893 dL_law_890 (fun h890 => ?_) (fun h890 => ?_)
  · refine go_iload 897 dL_law_895 rfl ?_
    refine go_if_ne 912 900 dL_law_897 (fun h897 => ?_) (fun h897 => ?_)
    · refine go_goto 1282 dL_law_912 ?_
      exact go_locals _ rfl (K _ _ _ _ _ _ hL8 (by omega) (by omega))
    · refine go_aload_n 901 dL_law_900 rfl ?_
      refine go_iconst 902 dL_law_901 zc_0 ?_
      refine go_lald 903 dL_law_902 ((WL_at hx hp).trans hff) (vp_in_nI (n := 0) (N := 1) (by decide) (by decide)) ?_
      refine go_iload 905 dL_law_903 rfl ?_
      refine go_i2l 906 dL_law_905 ?_
      refine go_lcmp 907 dL_law_906 ?_
      refine go_if_eq 912 910 dL_law_907 (fun h907 => ?_) (fun h907 => ?_)
      · refine go_goto 1282 dL_law_912 ?_
        exact go_locals _ rfl (K _ _ _ _ _ _ hL8 (by omega) (by omega))
      · exact absurd (by rw [show ff ((0 : Int32).toNatClampNeg) = bb.toInt64 from (hfk (by first | exact h897 | exact Classical.not_not.mp h897)).trans (by rw [hbb (by first | exact h897 | exact Classical.not_not.mp h897)])]; exact lg_self _) h907
  · exact absurd hk0 h890

set_option maxRecDepth 100000 in
set_option maxHeartbeats 4000000 in
theorem br_14 {l : Launch} {Γ : ZG} {P : Nat} {b : ZW} {x : Nat} {C : CS} {o : Nat} {S : MS} {D : ZD} {p t k n : Nat} {Φ : Option Value → ZW → Prop} (h : LI Γ P b x C o S D p) (hin : ∀ q, q < 6 → vp_in (nI (6 * t) + nI q) Γ.2.2.2.2.2.1) (hk : k + 3 ≤ 601024) (hn : n + 614 ≤ 7293034)
    (K : ∀ (b' : ZW) (C' : CS) (S' : MS) (D' : ZD) (k' n' : Nat), LI Γ P b' x C' o S' D' p → k' ≤ k + 3 → n' ≤ n + 614 → Go l Γ mLaw 1312 601024 7293034 Φ zNo k' n' (WL Γ b' x C' o S' D') 1282 [(0, .ref Γ.2.2.2.2.1), (1, .ref x), (2, .ref o), (3, .ref p), (4, .int (nI (6 * t)))] []) : Go l Γ mLaw 1312 601024 7293034 Φ zNo k n (WL Γ b x C o S D) 915 [(0, .ref Γ.2.2.2.2.1), (1, .ref x), (2, .ref o), (3, .ref p), (4, .int (nI (6 * t)))] [] := by
  have hx := h.1.1
  have hp := h.1.2.1
  refine go_aload_n 916 dL_law_915 rfl ?_
  refine go_aload_n 917 dL_law_916 rfl ?_
  refine go_iload 919 dL_law_917 rfl ?_
  refine go_iconst 920 dL_law_919 zc_1 ?_
  refine go_iadd 921 dL_law_920 ?_
  refine go_sld 922 dL_law_921 (hin 1 (by decide)) ?_
  refine go_aload_n 923 dL_law_922 rfl ?_
  refine go_iload 925 dL_law_923 rfl ?_
  refine go_iconst 926 dL_law_925 zc_2 ?_
  refine go_iadd 927 dL_law_926 ?_
  refine go_sld 928 dL_law_927 (hin 2 (by decide)) ?_
  refine go_aload_n 929 dL_law_928 rfl ?_
  obtain ⟨mc, ms, hmc, hms, hc⟩ := op_dial (l := l) h (y0 := (Γ.2.2.2.2.2.2 (nI (6 * t) + 1).toNatClampNeg)) (y1 := (Γ.2.2.2.2.2.2 (nI (6 * t) + 2).toNatClampNeg))
  refine go_callSW 932 [.ref x, .int (Γ.2.2.2.2.2.2 (nI (6 * t) + 1).toNatClampNeg), .int (Γ.2.2.2.2.2.2 (nI (6 * t) + 2).toNatClampNeg), .ref p] dL_law_929 vL_126 rfl hc (by decide) (by decide) (by omega) (by omega) (Nat.le_of_ble_eq_true rfl) ?_
  intro v9 w9 q9
  obtain ⟨kk, rr, b9, C9, d9, rfl, rfl, ⟨ff, hff, hfk⟩, hd9, hcm⟩ := q9
  refine go_istore 934 dL_law_932 (by decide) ?_
  refine go_aload_n 935 dL_law_934 rfl ?_
  refine go_aload_n 936 dL_law_935 rfl ?_
  refine go_iload 938 dL_law_936 rfl ?_
  refine go_iconst 939 dL_law_938 zc_1 ?_
  refine go_iadd 940 dL_law_939 ?_
  refine go_sld 941 dL_law_940 (hin 1 (by decide)) ?_
  refine go_aload_n 942 dL_law_941 rfl ?_
  refine go_iload 944 dL_law_942 rfl ?_
  refine go_iconst 945 dL_law_944 zc_2 ?_
  refine go_iadd 946 dL_law_945 ?_
  refine go_sld 947 dL_law_946 (hin 2 (by decide)) ?_
  refine go_callV 950 [.int (Γ.2.2.2.2.2.2 (nI (6 * t) + 1).toNatClampNeg), .int (Γ.2.2.2.2.2.2 (nI (6 * t) + 2).toNatClampNeg)] dL_law_947 vL_128 (WL_o hx) rfl hcm (by omega) (by decide) (by omega) (by omega) (Nat.le_of_ble_eq_true rfl) ?_
  intro v8 w8 q8
  obtain ⟨bb, S8, D8, rfl, hbb, rfl, hk0, hL8⟩ := q8
  refine go_istore 952 dL_law_950 (by decide) ?_
  refine go_aload_n 953 dL_law_952 rfl ?_
  refine gcV0 956 dL_law_953 vL_83 (WL_o hx) rfl (WL_t hx) ?_
  refine go_iload 958 dL_law_956 rfl ?_
  refine go_icmp_eq 963 961 dL_law_958 (fun h958 => ?_) (fun h958 => ?_)
  · refine go_iload 965 dL_law_963 rfl ?_
    refine go_if_ne 980 968 dL_law_965 (fun h965 => ?_) (fun h965 => ?_)
    · refine go_goto 1282 dL_law_980 ?_
      exact go_locals _ rfl (K _ _ _ _ _ _ hL8 (by omega) (by omega))
    · refine go_aload_n 969 dL_law_968 rfl ?_
      refine go_iconst 970 dL_law_969 zc_0 ?_
      refine go_lald 971 dL_law_970 ((WL_at hx hp).trans hff) (vp_in_nI (n := 0) (N := 1) (by decide) (by decide)) ?_
      refine go_iload 973 dL_law_971 rfl ?_
      refine go_i2l 974 dL_law_973 ?_
      refine go_lcmp 975 dL_law_974 ?_
      refine go_if_eq 980 978 dL_law_975 (fun h975 => ?_) (fun h975 => ?_)
      · refine go_goto 1282 dL_law_980 ?_
        exact go_locals _ rfl (K _ _ _ _ _ _ hL8 (by omega) (by omega))
      · exact absurd (by rw [show ff ((0 : Int32).toNatClampNeg) = bb.toInt64 from (hfk (by first | exact h965 | exact Classical.not_not.mp h965)).trans (by rw [hbb (by first | exact h965 | exact Classical.not_not.mp h965)])]; exact lg_self _) h975
  · exact absurd hk0 h958

set_option maxRecDepth 100000 in
set_option maxHeartbeats 4000000 in
theorem br_15 {l : Launch} {Γ : ZG} {P : Nat} {b : ZW} {x : Nat} {C : CS} {o : Nat} {S : MS} {D : ZD} {p t k n : Nat} {Φ : Option Value → ZW → Prop} (h : LI Γ P b x C o S D p) (hin : ∀ q, q < 6 → vp_in (nI (6 * t) + nI q) Γ.2.2.2.2.2.1) (hk : k + 3 ≤ 601024) (hn : n + 614 ≤ 7293034)
    (K : ∀ (b' : ZW) (C' : CS) (S' : MS) (D' : ZD) (k' n' : Nat), LI Γ P b' x C' o S' D' p → k' ≤ k + 3 → n' ≤ n + 614 → Go l Γ mLaw 1312 601024 7293034 Φ zNo k' n' (WL Γ b' x C' o S' D') 1282 [(0, .ref Γ.2.2.2.2.1), (1, .ref x), (2, .ref o), (3, .ref p), (4, .int (nI (6 * t)))] []) : Go l Γ mLaw 1312 601024 7293034 Φ zNo k n (WL Γ b x C o S D) 983 [(0, .ref Γ.2.2.2.2.1), (1, .ref x), (2, .ref o), (3, .ref p), (4, .int (nI (6 * t)))] [] := by
  have hx := h.1.1
  have hp := h.1.2.1
  refine go_aload_n 984 dL_law_983 rfl ?_
  refine go_aload_n 985 dL_law_984 rfl ?_
  refine go_iload 987 dL_law_985 rfl ?_
  refine go_iconst 988 dL_law_987 zc_1 ?_
  refine go_iadd 989 dL_law_988 ?_
  refine go_sld 990 dL_law_989 (hin 1 (by decide)) ?_
  refine go_aload_n 991 dL_law_990 rfl ?_
  refine go_iload 993 dL_law_991 rfl ?_
  refine go_iconst 994 dL_law_993 zc_2 ?_
  refine go_iadd 995 dL_law_994 ?_
  refine go_sld 996 dL_law_995 (hin 2 (by decide)) ?_
  refine go_aload_n 997 dL_law_996 rfl ?_
  obtain ⟨mc, ms, hmc, hms, hc⟩ := op_transfer (l := l) h (y0 := (Γ.2.2.2.2.2.2 (nI (6 * t) + 1).toNatClampNeg)) (y1 := (Γ.2.2.2.2.2.2 (nI (6 * t) + 2).toNatClampNeg))
  refine go_callSW 1000 [.ref x, .int (Γ.2.2.2.2.2.2 (nI (6 * t) + 1).toNatClampNeg), .int (Γ.2.2.2.2.2.2 (nI (6 * t) + 2).toNatClampNeg), .ref p] dL_law_997 vL_129 rfl hc (by decide) (by decide) (by omega) (by omega) (Nat.le_of_ble_eq_true rfl) ?_
  intro v9 w9 q9
  obtain ⟨kk, rr, b9, C9, d9, rfl, rfl, ⟨ff, hff, hfk⟩, hd9, hcm⟩ := q9
  refine go_istore 1002 dL_law_1000 (by decide) ?_
  refine go_aload_n 1003 dL_law_1002 rfl ?_
  refine go_aload_n 1004 dL_law_1003 rfl ?_
  refine go_iload 1006 dL_law_1004 rfl ?_
  refine go_iconst 1007 dL_law_1006 zc_1 ?_
  refine go_iadd 1008 dL_law_1007 ?_
  refine go_sld 1009 dL_law_1008 (hin 1 (by decide)) ?_
  refine go_aload_n 1010 dL_law_1009 rfl ?_
  refine go_iload 1012 dL_law_1010 rfl ?_
  refine go_iconst 1013 dL_law_1012 zc_2 ?_
  refine go_iadd 1014 dL_law_1013 ?_
  refine go_sld 1015 dL_law_1014 (hin 2 (by decide)) ?_
  refine go_callV 1018 [.int (Γ.2.2.2.2.2.2 (nI (6 * t) + 1).toNatClampNeg), .int (Γ.2.2.2.2.2.2 (nI (6 * t) + 2).toNatClampNeg)] dL_law_1015 vL_131 (WL_o hx) rfl hcm (by omega) (by decide) (by omega) (by omega) (Nat.le_of_ble_eq_true rfl) ?_
  intro v8 w8 q8
  obtain ⟨bb, S8, D8, rfl, hbb, rfl, hk0, hL8⟩ := q8
  refine go_istore 1020 dL_law_1018 (by decide) ?_
  refine go_aload_n 1021 dL_law_1020 rfl ?_
  refine gcV0 1024 dL_law_1021 vL_83 (WL_o hx) rfl (WL_t hx) ?_
  refine go_iload 1026 dL_law_1024 rfl ?_
  refine go_icmp_eq 1031 1029 dL_law_1026 (fun h1026 => ?_) (fun h1026 => ?_)
  · refine go_iload 1033 dL_law_1031 rfl ?_
    refine go_if_ne 1048 1036 dL_law_1033 (fun h1033 => ?_) (fun h1033 => ?_)
    · refine go_goto 1282 dL_law_1048 ?_
      exact go_locals _ rfl (K _ _ _ _ _ _ hL8 (by omega) (by omega))
    · refine go_aload_n 1037 dL_law_1036 rfl ?_
      refine go_iconst 1038 dL_law_1037 zc_0 ?_
      refine go_lald 1039 dL_law_1038 ((WL_at hx hp).trans hff) (vp_in_nI (n := 0) (N := 1) (by decide) (by decide)) ?_
      refine go_iload 1041 dL_law_1039 rfl ?_
      refine go_i2l 1042 dL_law_1041 ?_
      refine go_lcmp 1043 dL_law_1042 ?_
      refine go_if_eq 1048 1046 dL_law_1043 (fun h1043 => ?_) (fun h1043 => ?_)
      · refine go_goto 1282 dL_law_1048 ?_
        exact go_locals _ rfl (K _ _ _ _ _ _ hL8 (by omega) (by omega))
      · exact absurd (by rw [show ff ((0 : Int32).toNatClampNeg) = bb.toInt64 from (hfk (by first | exact h1033 | exact Classical.not_not.mp h1033)).trans (by rw [hbb (by first | exact h1033 | exact Classical.not_not.mp h1033)])]; exact lg_self _) h1043
  · exact absurd hk0 h1026

set_option maxRecDepth 100000 in
set_option maxHeartbeats 4000000 in
theorem br_16 {l : Launch} {Γ : ZG} {P : Nat} {b : ZW} {x : Nat} {C : CS} {o : Nat} {S : MS} {D : ZD} {p t k n : Nat} {Φ : Option Value → ZW → Prop} (h : LI Γ P b x C o S D p) (hin : ∀ q, q < 6 → vp_in (nI (6 * t) + nI q) Γ.2.2.2.2.2.1) (hk : k + 3 ≤ 601024) (hn : n + 614 ≤ 7293034)
    (K : ∀ (b' : ZW) (C' : CS) (S' : MS) (D' : ZD) (k' n' : Nat), LI Γ P b' x C' o S' D' p → k' ≤ k + 3 → n' ≤ n + 614 → Go l Γ mLaw 1312 601024 7293034 Φ zNo k' n' (WL Γ b' x C' o S' D') 1282 [(0, .ref Γ.2.2.2.2.1), (1, .ref x), (2, .ref o), (3, .ref p), (4, .int (nI (6 * t)))] []) : Go l Γ mLaw 1312 601024 7293034 Φ zNo k n (WL Γ b x C o S D) 1051 [(0, .ref Γ.2.2.2.2.1), (1, .ref x), (2, .ref o), (3, .ref p), (4, .int (nI (6 * t)))] [] := by
  have hx := h.1.1
  have hp := h.1.2.1
  refine go_aload_n 1052 dL_law_1051 rfl ?_
  refine go_aload_n 1053 dL_law_1052 rfl ?_
  refine go_iload 1055 dL_law_1053 rfl ?_
  refine go_iconst 1056 dL_law_1055 zc_1 ?_
  refine go_iadd 1057 dL_law_1056 ?_
  refine go_sld 1058 dL_law_1057 (hin 1 (by decide)) ?_
  refine go_aload_n 1059 dL_law_1058 rfl ?_
  obtain ⟨mc, ms, hmc, hms, hc⟩ := op_hangUp (l := l) h (y0 := (Γ.2.2.2.2.2.2 (nI (6 * t) + 1).toNatClampNeg))
  refine go_callSW 1062 [.ref x, .int (Γ.2.2.2.2.2.2 (nI (6 * t) + 1).toNatClampNeg), .ref p] dL_law_1059 vL_132 rfl hc (by decide) (by decide) (by omega) (by omega) (Nat.le_of_ble_eq_true rfl) ?_
  intro v9 w9 q9
  obtain ⟨kk, rr, b9, C9, d9, rfl, rfl, ⟨ff, hff, hfk⟩, hd9, hcm⟩ := q9
  refine go_istore 1064 dL_law_1062 (by decide) ?_
  refine go_aload_n 1065 dL_law_1064 rfl ?_
  refine go_aload_n 1066 dL_law_1065 rfl ?_
  refine go_iload 1068 dL_law_1066 rfl ?_
  refine go_iconst 1069 dL_law_1068 zc_1 ?_
  refine go_iadd 1070 dL_law_1069 ?_
  refine go_sld 1071 dL_law_1070 (hin 1 (by decide)) ?_
  refine go_callV 1074 [.int (Γ.2.2.2.2.2.2 (nI (6 * t) + 1).toNatClampNeg)] dL_law_1071 vL_134 (WL_o hx) rfl hcm (by omega) (by decide) (by omega) (by omega) (Nat.le_of_ble_eq_true rfl) ?_
  intro v8 w8 q8
  obtain ⟨bb, S8, D8, rfl, hbb, rfl, hk0, hL8⟩ := q8
  refine go_istore 1076 dL_law_1074 (by decide) ?_
  refine go_aload_n 1077 dL_law_1076 rfl ?_
  refine gcV0 1080 dL_law_1077 vL_83 (WL_o hx) rfl (WL_t hx) ?_
  refine go_iload 1082 dL_law_1080 rfl ?_
  refine go_icmp_eq 1087 1085 dL_law_1082 (fun h1082 => ?_) (fun h1082 => ?_)
  · refine go_iload 1089 dL_law_1087 rfl ?_
    refine go_if_ne 1104 1092 dL_law_1089 (fun h1089 => ?_) (fun h1089 => ?_)
    · refine go_goto 1282 dL_law_1104 ?_
      exact go_locals _ rfl (K _ _ _ _ _ _ hL8 (by omega) (by omega))
    · refine go_aload_n 1093 dL_law_1092 rfl ?_
      refine go_iconst 1094 dL_law_1093 zc_0 ?_
      refine go_lald 1095 dL_law_1094 ((WL_at hx hp).trans hff) (vp_in_nI (n := 0) (N := 1) (by decide) (by decide)) ?_
      refine go_iload 1097 dL_law_1095 rfl ?_
      refine go_i2l 1098 dL_law_1097 ?_
      refine go_lcmp 1099 dL_law_1098 ?_
      refine go_if_eq 1104 1102 dL_law_1099 (fun h1099 => ?_) (fun h1099 => ?_)
      · refine go_goto 1282 dL_law_1104 ?_
        exact go_locals _ rfl (K _ _ _ _ _ _ hL8 (by omega) (by omega))
      · exact absurd (by rw [show ff ((0 : Int32).toNatClampNeg) = bb.toInt64 from (hfk (by first | exact h1089 | exact Classical.not_not.mp h1089)).trans (by rw [hbb (by first | exact h1089 | exact Classical.not_not.mp h1089)])]; exact lg_self _) h1099
  · exact absurd hk0 h1082

set_option maxRecDepth 100000 in
set_option maxHeartbeats 4000000 in
theorem br_17 {l : Launch} {Γ : ZG} {P : Nat} {b : ZW} {x : Nat} {C : CS} {o : Nat} {S : MS} {D : ZD} {p t k n : Nat} {Φ : Option Value → ZW → Prop} (h : LI Γ P b x C o S D p) (hin : ∀ q, q < 6 → vp_in (nI (6 * t) + nI q) Γ.2.2.2.2.2.1) (hk : k + 3 ≤ 601024) (hn : n + 614 ≤ 7293034)
    (K : ∀ (b' : ZW) (C' : CS) (S' : MS) (D' : ZD) (k' n' : Nat), LI Γ P b' x C' o S' D' p → k' ≤ k + 3 → n' ≤ n + 614 → Go l Γ mLaw 1312 601024 7293034 Φ zNo k' n' (WL Γ b' x C' o S' D') 1282 [(0, .ref Γ.2.2.2.2.1), (1, .ref x), (2, .ref o), (3, .ref p), (4, .int (nI (6 * t)))] []) : Go l Γ mLaw 1312 601024 7293034 Φ zNo k n (WL Γ b x C o S D) 1107 [(0, .ref Γ.2.2.2.2.1), (1, .ref x), (2, .ref o), (3, .ref p), (4, .int (nI (6 * t)))] [] := by
  have hx := h.1.1
  have hp := h.1.2.1
  refine go_aload_n 1108 dL_law_1107 rfl ?_
  refine go_aload_n 1109 dL_law_1108 rfl ?_
  refine go_iload 1111 dL_law_1109 rfl ?_
  refine go_iconst 1112 dL_law_1111 zc_1 ?_
  refine go_iadd 1113 dL_law_1112 ?_
  refine go_sld 1114 dL_law_1113 (hin 1 (by decide)) ?_
  refine go_aload_n 1115 dL_law_1114 rfl ?_
  refine go_iload 1117 dL_law_1115 rfl ?_
  refine go_iconst 1118 dL_law_1117 zc_2 ?_
  refine go_iadd 1119 dL_law_1118 ?_
  refine go_sld 1120 dL_law_1119 (hin 2 (by decide)) ?_
  refine go_aload_n 1121 dL_law_1120 rfl ?_
  obtain ⟨mc, ms, hmc, hms, hc⟩ := op_offer (l := l) h (y0 := (Γ.2.2.2.2.2.2 (nI (6 * t) + 1).toNatClampNeg)) (y1 := (Γ.2.2.2.2.2.2 (nI (6 * t) + 2).toNatClampNeg))
  refine go_callSW 1124 [.ref x, .int (Γ.2.2.2.2.2.2 (nI (6 * t) + 1).toNatClampNeg), .int (Γ.2.2.2.2.2.2 (nI (6 * t) + 2).toNatClampNeg), .ref p] dL_law_1121 vL_135 rfl hc (by decide) (by decide) (by omega) (by omega) (Nat.le_of_ble_eq_true rfl) ?_
  intro v9 w9 q9
  obtain ⟨kk, rr, b9, C9, d9, rfl, rfl, ⟨ff, hff, hfk⟩, hd9, hcm⟩ := q9
  refine go_istore 1126 dL_law_1124 (by decide) ?_
  refine go_aload_n 1127 dL_law_1126 rfl ?_
  refine go_aload_n 1128 dL_law_1127 rfl ?_
  refine go_iload 1130 dL_law_1128 rfl ?_
  refine go_iconst 1131 dL_law_1130 zc_1 ?_
  refine go_iadd 1132 dL_law_1131 ?_
  refine go_sld 1133 dL_law_1132 (hin 1 (by decide)) ?_
  refine go_aload_n 1134 dL_law_1133 rfl ?_
  refine go_iload 1136 dL_law_1134 rfl ?_
  refine go_iconst 1137 dL_law_1136 zc_2 ?_
  refine go_iadd 1138 dL_law_1137 ?_
  refine go_sld 1139 dL_law_1138 (hin 2 (by decide)) ?_
  refine go_callV 1142 [.int (Γ.2.2.2.2.2.2 (nI (6 * t) + 1).toNatClampNeg), .int (Γ.2.2.2.2.2.2 (nI (6 * t) + 2).toNatClampNeg)] dL_law_1139 vL_137 (WL_o hx) rfl hcm (by omega) (by decide) (by omega) (by omega) (Nat.le_of_ble_eq_true rfl) ?_
  intro v8 w8 q8
  obtain ⟨bb, S8, D8, rfl, hbb, rfl, hk0, hL8⟩ := q8
  refine go_istore 1144 dL_law_1142 (by decide) ?_
  refine go_aload_n 1145 dL_law_1144 rfl ?_
  refine gcV0 1148 dL_law_1145 vL_83 (WL_o hx) rfl (WL_t hx) ?_
  refine go_iload 1150 dL_law_1148 rfl ?_
  refine go_icmp_eq 1155 1153 dL_law_1150 (fun h1150 => ?_) (fun h1150 => ?_)
  · refine go_iload 1157 dL_law_1155 rfl ?_
    refine go_if_ne 1172 1160 dL_law_1157 (fun h1157 => ?_) (fun h1157 => ?_)
    · refine go_goto 1282 dL_law_1172 ?_
      exact go_locals _ rfl (K _ _ _ _ _ _ hL8 (by omega) (by omega))
    · refine go_aload_n 1161 dL_law_1160 rfl ?_
      refine go_iconst 1162 dL_law_1161 zc_0 ?_
      refine go_lald 1163 dL_law_1162 ((WL_at hx hp).trans hff) (vp_in_nI (n := 0) (N := 1) (by decide) (by decide)) ?_
      refine go_iload 1165 dL_law_1163 rfl ?_
      refine go_i2l 1166 dL_law_1165 ?_
      refine go_lcmp 1167 dL_law_1166 ?_
      refine go_if_eq 1172 1170 dL_law_1167 (fun h1167 => ?_) (fun h1167 => ?_)
      · refine go_goto 1282 dL_law_1172 ?_
        exact go_locals _ rfl (K _ _ _ _ _ _ hL8 (by omega) (by omega))
      · exact absurd (by rw [show ff ((0 : Int32).toNatClampNeg) = bb.toInt64 from (hfk (by first | exact h1157 | exact Classical.not_not.mp h1157)).trans (by rw [hbb (by first | exact h1157 | exact Classical.not_not.mp h1157)])]; exact lg_self _) h1167
  · exact absurd hk0 h1150

set_option maxRecDepth 100000 in
set_option maxHeartbeats 4000000 in
theorem br_18 {l : Launch} {Γ : ZG} {P : Nat} {b : ZW} {x : Nat} {C : CS} {o : Nat} {S : MS} {D : ZD} {p t k n : Nat} {Φ : Option Value → ZW → Prop} (h : LI Γ P b x C o S D p) (hin : ∀ q, q < 6 → vp_in (nI (6 * t) + nI q) Γ.2.2.2.2.2.1) (hk : k + 3 ≤ 601024) (hn : n + 614 ≤ 7293034)
    (K : ∀ (b' : ZW) (C' : CS) (S' : MS) (D' : ZD) (k' n' : Nat), LI Γ P b' x C' o S' D' p → k' ≤ k + 3 → n' ≤ n + 614 → Go l Γ mLaw 1312 601024 7293034 Φ zNo k' n' (WL Γ b' x C' o S' D') 1282 [(0, .ref Γ.2.2.2.2.1), (1, .ref x), (2, .ref o), (3, .ref p), (4, .int (nI (6 * t)))] []) : Go l Γ mLaw 1312 601024 7293034 Φ zNo k n (WL Γ b x C o S D) 1175 [(0, .ref Γ.2.2.2.2.1), (1, .ref x), (2, .ref o), (3, .ref p), (4, .int (nI (6 * t)))] [] := by
  have hx := h.1.1
  have hp := h.1.2.1
  refine go_aload_n 1176 dL_law_1175 rfl ?_
  refine go_aload_n 1177 dL_law_1176 rfl ?_
  refine go_iload 1179 dL_law_1177 rfl ?_
  refine go_iconst 1180 dL_law_1179 zc_1 ?_
  refine go_iadd 1181 dL_law_1180 ?_
  refine go_sld 1182 dL_law_1181 (hin 1 (by decide)) ?_
  refine go_aload_n 1183 dL_law_1182 rfl ?_
  refine go_iload 1185 dL_law_1183 rfl ?_
  refine go_iconst 1186 dL_law_1185 zc_2 ?_
  refine go_iadd 1187 dL_law_1186 ?_
  refine go_sld 1188 dL_law_1187 (hin 2 (by decide)) ?_
  refine go_aload_n 1189 dL_law_1188 rfl ?_
  refine go_iload 1191 dL_law_1189 rfl ?_
  refine go_iconst 1192 dL_law_1191 zc_3 ?_
  refine go_iadd 1193 dL_law_1192 ?_
  refine go_sld 1194 dL_law_1193 (hin 3 (by decide)) ?_
  refine go_aload_n 1195 dL_law_1194 rfl ?_
  obtain ⟨mc, ms, hmc, hms, hc⟩ := op_setParty (l := l) h (y0 := (Γ.2.2.2.2.2.2 (nI (6 * t) + 1).toNatClampNeg)) (y1 := (Γ.2.2.2.2.2.2 (nI (6 * t) + 2).toNatClampNeg)) (y2 := (Γ.2.2.2.2.2.2 (nI (6 * t) + 3).toNatClampNeg))
  refine go_callSW 1198 [.ref x, .int (Γ.2.2.2.2.2.2 (nI (6 * t) + 1).toNatClampNeg), .int (Γ.2.2.2.2.2.2 (nI (6 * t) + 2).toNatClampNeg), .int (Γ.2.2.2.2.2.2 (nI (6 * t) + 3).toNatClampNeg), .ref p] dL_law_1195 vL_138 rfl hc (by decide) (by decide) (by omega) (by omega) (Nat.le_of_ble_eq_true rfl) ?_
  intro v9 w9 q9
  obtain ⟨kk, rr, b9, C9, d9, rfl, rfl, ⟨ff, hff, hfk⟩, hd9, hcm⟩ := q9
  refine go_istore 1200 dL_law_1198 (by decide) ?_
  refine go_aload_n 1201 dL_law_1200 rfl ?_
  refine go_aload_n 1202 dL_law_1201 rfl ?_
  refine go_iload 1204 dL_law_1202 rfl ?_
  refine go_iconst 1205 dL_law_1204 zc_1 ?_
  refine go_iadd 1206 dL_law_1205 ?_
  refine go_sld 1207 dL_law_1206 (hin 1 (by decide)) ?_
  refine go_aload_n 1208 dL_law_1207 rfl ?_
  refine go_iload 1210 dL_law_1208 rfl ?_
  refine go_iconst 1211 dL_law_1210 zc_2 ?_
  refine go_iadd 1212 dL_law_1211 ?_
  refine go_sld 1213 dL_law_1212 (hin 2 (by decide)) ?_
  refine go_aload_n 1214 dL_law_1213 rfl ?_
  refine go_iload 1216 dL_law_1214 rfl ?_
  refine go_iconst 1217 dL_law_1216 zc_3 ?_
  refine go_iadd 1218 dL_law_1217 ?_
  refine go_sld 1219 dL_law_1218 (hin 3 (by decide)) ?_
  refine go_callV 1222 [.int (Γ.2.2.2.2.2.2 (nI (6 * t) + 1).toNatClampNeg), .int (Γ.2.2.2.2.2.2 (nI (6 * t) + 2).toNatClampNeg), .int (Γ.2.2.2.2.2.2 (nI (6 * t) + 3).toNatClampNeg)] dL_law_1219 vL_141 (WL_o hx) rfl hcm (by omega) (by decide) (by omega) (by omega) (Nat.le_of_ble_eq_true rfl) ?_
  intro v8 w8 q8
  obtain ⟨bb, S8, D8, rfl, hbb, rfl, hk0, hL8⟩ := q8
  refine go_istore 1224 dL_law_1222 (by decide) ?_
  refine go_aload_n 1225 dL_law_1224 rfl ?_
  refine gcV0 1228 dL_law_1225 vL_83 (WL_o hx) rfl (WL_t hx) ?_
  refine go_iload 1230 dL_law_1228 rfl ?_
  refine go_icmp_eq 1235 1233 dL_law_1230 (fun h1230 => ?_) (fun h1230 => ?_)
  · refine go_iload 1237 dL_law_1235 rfl ?_
    refine go_if_ne 1252 1240 dL_law_1237 (fun h1237 => ?_) (fun h1237 => ?_)
    · refine go_goto 1282 dL_law_1252 ?_
      exact go_locals _ rfl (K _ _ _ _ _ _ hL8 (by omega) (by omega))
    · refine go_aload_n 1241 dL_law_1240 rfl ?_
      refine go_iconst 1242 dL_law_1241 zc_0 ?_
      refine go_lald 1243 dL_law_1242 ((WL_at hx hp).trans hff) (vp_in_nI (n := 0) (N := 1) (by decide) (by decide)) ?_
      refine go_iload 1245 dL_law_1243 rfl ?_
      refine go_i2l 1246 dL_law_1245 ?_
      refine go_lcmp 1247 dL_law_1246 ?_
      refine go_if_eq 1252 1250 dL_law_1247 (fun h1247 => ?_) (fun h1247 => ?_)
      · refine go_goto 1282 dL_law_1252 ?_
        exact go_locals _ rfl (K _ _ _ _ _ _ hL8 (by omega) (by omega))
      · exact absurd (by rw [show ff ((0 : Int32).toNatClampNeg) = bb.toInt64 from (hfk (by first | exact h1237 | exact Classical.not_not.mp h1237)).trans (by rw [hbb (by first | exact h1237 | exact Classical.not_not.mp h1237)])]; exact lg_self _) h1247
  · exact absurd hk0 h1230

set_option maxRecDepth 100000 in
set_option maxHeartbeats 4000000 in
theorem br_19 {l : Launch} {Γ : ZG} {P : Nat} {b : ZW} {x : Nat} {C : CS} {o : Nat} {S : MS} {D : ZD} {p t k n : Nat} {Φ : Option Value → ZW → Prop} (h : LI Γ P b x C o S D p) (hin : ∀ q, q < 6 → vp_in (nI (6 * t) + nI q) Γ.2.2.2.2.2.1) (hk : k + 3 ≤ 601024) (hn : n + 614 ≤ 7293034)
    (K : ∀ (b' : ZW) (C' : CS) (S' : MS) (D' : ZD) (k' n' : Nat), LI Γ P b' x C' o S' D' p → k' ≤ k + 3 → n' ≤ n + 614 → Go l Γ mLaw 1312 601024 7293034 Φ zNo k' n' (WL Γ b' x C' o S' D') 1282 [(0, .ref Γ.2.2.2.2.1), (1, .ref x), (2, .ref o), (3, .ref p), (4, .int (nI (6 * t)))] []) : Go l Γ mLaw 1312 601024 7293034 Φ zNo k n (WL Γ b x C o S D) 1255 [(0, .ref Γ.2.2.2.2.1), (1, .ref x), (2, .ref o), (3, .ref p), (4, .int (nI (6 * t)))] [] := by
  have hx := h.1.1
  have hp := h.1.2.1
  refine go_aload_n 1256 dL_law_1255 rfl ?_
  obtain ⟨rr, d5, d6, C8, S8, D8, hd5, hd6, hc5, hc6, hL8⟩ := od_undo (l := l) h 
  refine gcV0 1259 dL_law_1256 vL_142 LI.w5 rfl hc5 ?_ (hdp := by omega)
  refine go_aload_n 1260 dL_law_1259 rfl ?_
  refine gcV0 1263 dL_law_1260 vL_145 (WL_o hx) rfl hc6 ?_ (hdp := by omega)
  refine go_icmp_eq 1282 1266 dL_law_1263 (fun h1263 => ?_) (fun h1263 => ?_)
  · exact go_locals _ rfl (K _ _ _ _ _ _ hL8 (by omega) (by omega))
  · exact absurd rfl h1263

set_option maxRecDepth 100000 in
set_option maxHeartbeats 4000000 in
theorem br_20 {l : Launch} {Γ : ZG} {P : Nat} {b : ZW} {x : Nat} {C : CS} {o : Nat} {S : MS} {D : ZD} {p t k n : Nat} {Φ : Option Value → ZW → Prop} (h : LI Γ P b x C o S D p) (hin : ∀ q, q < 6 → vp_in (nI (6 * t) + nI q) Γ.2.2.2.2.2.1) (hk : k + 3 ≤ 601024) (hn : n + 614 ≤ 7293034)
    (K : ∀ (b' : ZW) (C' : CS) (S' : MS) (D' : ZD) (k' n' : Nat), LI Γ P b' x C' o S' D' p → k' ≤ k + 3 → n' ≤ n + 614 → Go l Γ mLaw 1312 601024 7293034 Φ zNo k' n' (WL Γ b' x C' o S' D') 1282 [(0, .ref Γ.2.2.2.2.1), (1, .ref x), (2, .ref o), (3, .ref p), (4, .int (nI (6 * t)))] []) : Go l Γ mLaw 1312 601024 7293034 Φ zNo k n (WL Γ b x C o S D) 1268 [(0, .ref Γ.2.2.2.2.1), (1, .ref x), (2, .ref o), (3, .ref p), (4, .int (nI (6 * t)))] [] := by
  have hx := h.1.1
  have hp := h.1.2.1
  refine go_aload_n 1269 dL_law_1268 rfl ?_
  obtain ⟨rr, d5, d6, C8, S8, D8, hd5, hd6, hc5, hc6, hL8⟩ := od_check (l := l) h 
  refine gcV0 1272 dL_law_1269 vL_146 LI.w5 rfl hc5 ?_ (hdp := by omega)
  refine go_aload_n 1273 dL_law_1272 rfl ?_
  refine gcV0 1276 dL_law_1273 vL_150 (WL_o hx) rfl hc6 ?_ (hdp := by omega)
  refine go_lcmp 1277 dL_law_1276 ?_
  refine go_if_eq 1282 1280 dL_law_1277 (fun h1277 => ?_) (fun h1277 => ?_)
  · exact go_locals _ rfl (K _ _ _ _ _ _ hL8 (by omega) (by omega))
  · exact absurd (lg_self _) h1277
end CLaw
