section LAgr
theorem Cl.self {Γ : ZG} {w : ZW} {T : LT} {x : Nat} {C : CS} (h : Cl Γ w T x C) : wC Γ w x C = w := by
  refine Prod.ext rfl (funext fun q => ?_)
  show (if x ≤ q ∧ q < x + 105 then some (ccl Γ x C (q - x)) else w.2 q) = w.2 q
  by_cases hr : x ≤ q ∧ q < x + 105
  · have := h.1 (q - x) (by omega)
    rw [if_pos hr, ← this, show x + (q - x) = q by omega]
  · rw [if_neg hr]
section
variable {l : Launch} {Γ : ZG} {M M' : ZM} {dp mc ms d' mc' ms' : Nat} {Φ Φ' : Option Value → ZW → Prop} {Ψ : String → ZW → Prop} {k n : Nat} {w w' : ZW} {T : LT} {pc x : Nat} {L : ZL} {st as : List Value} {C : CS} {r : Option Value} {E : String}
theorem Cl.x5 (h : Cl Γ w T x C) : w.2 x = some (.inr (5, [.ref (x + 1), .ref (x + 10), .ref (x + 19), .ref (x + 93), .int C.2.2.2.2])) := h.1 0 (by decide)
theorem Cl.cm (h : Cl Γ w T x C) (c : Cm l Γ M d' as (wC Γ w x C) r (wC Γ w x C)) : Cm l Γ M d' as w r w := by
  rw [h.self] at c
  exact c
theorem Cl.th (h : Cl Γ w T x C) (c : Ct l Γ M d' mc ms as (wC Γ w x C) zNv (ThP E (wC Γ w x C))) : Ct l Γ M d' mc ms as w zNv (ThP E w) := by
  rw [h.self] at c
  exact c
theorem Cl.bp (h : Cl Γ w T x C) (e : w'.2 = w.2) (hl : w.1 ≤ w'.1) : Cl Γ w' T x C := ⟨fun j hj => by rw [e]; exact h.1 j hj, h.2.1, Nat.le_trans h.2.2 hl⟩
theorem Kq.bp {P : Nat → Prop} (e : w'.2 = w.2) : Kq w T w' T P := fun q c h _ => ⟨by rw [e]; exact h, rfl⟩
theorem lwr_i {y : Int32} : ∀ (v : Option Value) (w2 : ZW), (v = some (.int y) ∧ w2 = w) → ∃ z : Int32, v = some (.int z) := fun _ _ q => ⟨y, q.1⟩
/-- a wrapper that returns -/
theorem gw_S {index : Nat} {h0 : Nat × Nat × Nat × Nat} {hh : List (Nat × Nat × Nat × Nat)} {y : Value} (pc' : Nat) (As : List Value) (hd : decode M.2.1 pc = .ok (.invokestatic index, 3)) (V : zVs M.1.cls index M' As.length) (hh' : M'.2.2.2.2 = h0 :: hh) (hct : Ct l Γ M' 32 0 0 As w (fun v w2 => v = some y ∧ w2 = w) zNo) (hL : M'.2.2.1 ≤ 40) (hst : (st.map fun v => v.category).sum ≤ 8) (hdp : 33 ≤ dp) (hk : k ≤ mc) (hn : n ≤ ms) (kk : Go l Γ M dp mc ms Φ Ψ k n w pc' L (y :: st)) (hp : pc + 3 = pc' := by rfl) : Go l Γ M dp mc ms Φ Ψ k n w pc L (As.reverse ++ st) := by
  refine go_callSW pc' As hd V hh' hct (by omega) hL (by omega) (by omega) hst ?_ hp
  rintro v w2 ⟨rfl, rfl⟩
  exact kk
/-- a wrapper that catches -/
theorem gw_X {index : Nat} {h0 : Nat × Nat × Nat × Nat} {hh : List (Nat × Nat × Nat × Nat)} {y : Int32} (pc' : Nat) (As : List Value) (hd : decode M.2.1 pc = .ok (.invokestatic index, 3)) (V : zVs M.1.cls index M' As.length) (hh' : M'.2.2.2.2 = h0 :: hh) (hct : Ct l Γ M' 32 1 6 As w (OutX w y) zNo) (hL : M'.2.2.1 ≤ 40) (hst : (st.map fun v => v.category).sum ≤ 8) (hdp : 33 ≤ dp) (hk : k + 1 ≤ mc) (hn : n + 6 ≤ ms) (kk : ∀ w', w'.2 = w.2 → w.1 ≤ w'.1 → Go l Γ M dp mc ms Φ Ψ (k + 1) (n + 6) w' pc' L (.int y :: st)) (hp : pc + 3 = pc' := by rfl) : Go l Γ M dp mc ms Φ Ψ k n w pc L (As.reverse ++ st) := by
  refine go_callSW pc' As hd V hh' hct (by omega) hL hk hn hst ?_ hp
  rintro v w2 ⟨rfl, e, hl⟩
  exact kk w2 e hl
end
section
variable {D : ZD} {g : Option Nat} {sg : ZSg} {E : ES}
theorem CR.iP (h : CR D g sg E D) {k : Nat} (hk : k < nP D) : 0 ≤ nI k ∧ nI k ≤ D 4 - 1 := h.inP.mpr ⟨(nI_leI (a := 0) (by decide) (by have := h.P10; omega)).mpr (Nat.zero_le _), (nI_ltI (by have := h.P10; omega) (by have := h.P10; omega)).mpr hk⟩
theorem CR.iC (h : CR D g sg E D) {k : Nat} (hk : k < nC D) : 0 ≤ nI k ∧ nI k ≤ D 5 - 1 := h.inC.mpr ⟨(nI_leI (a := 0) (by decide) (by have := h.C20; omega)).mpr (Nat.zero_le _), (nI_ltI (by have := h.C20; omega) (by have := h.C20; omega)).mpr hk⟩
theorem CR.iL (h : CR D g sg E D) {k : Nat} (hk : k < nL D) : 0 ≤ nI k ∧ nI k ≤ D 6 - 1 := h.inL.mpr ⟨(nI_leI (a := 0) (by decide) (by have := h.L40; omega)).mpr (Nat.zero_le _), (nI_ltI (by have := h.L40; omega) (by have := h.L40; omega)).mpr hk⟩
theorem CR.oP (h : CR D g sg E D) {k : Nat} (hk : nP D ≤ k) (h9 : k < 2 ^ 31) : ¬ (0 ≤ nI k ∧ nI k ≤ D 4 - 1) := fun z => absurd ((nI_ltI h9 (by have := h.P10; omega)).mp (h.inP.mp z).2) (by omega)
theorem CR.oC (h : CR D g sg E D) {k : Nat} (hk : nC D ≤ k) (h9 : k < 2 ^ 31) : ¬ (0 ≤ nI k ∧ nI k ≤ D 5 - 1) := fun z => absurd ((nI_ltI h9 (by have := h.C20; omega)).mp (h.inC.mp z).2) (by omega)
theorem CR.oL (h : CR D g sg E D) {k : Nat} (hk : nL D ≤ k) (h9 : k < 2 ^ 31) : ¬ (0 ≤ nI k ∧ nI k ≤ D 6 - 1) := fun z => absurd ((nI_ltI h9 (by have := h.L40; omega)).mp (h.inL.mp z).2) (by omega)
theorem sml {j m : Nat} (hj : j ≤ m) (hm : m < 2 ^ 31) : 0 ≤ nI j ∧ nI j ≤ nI m := ⟨(nI_leI (a := 0) (by decide) (by omega)).mpr (Nat.zero_le _), (nI_leI (by omega) hm).mpr hj⟩
end
section
variable {l : Launch} {Γ : ZG} {w0 : ZW} {T : LT} {x e m : Nat} {C : CS} {D : ZD} {g : Option Nat} {sg : ZSg} {A V : LA} {tm : Option Nat}
def AgR (l : Launch) (Γ : ZG) (w0 : ZW) (k n : Nat) (w : ZW) (pc : Nat) (L : ZL) (st : List Value) : Prop := Go l Γ mL_agrees 33 130 800 (OutX w0 1) zNo k n w pc L st
set_option maxRecDepth 100000 in
set_option maxHeartbeats 4000000 in
theorem lai_P {w : ZW} (cl : Cl Γ w T x C) (hC : CR D g sg (C.1 0) D) (hG : GI sg D) (hJ : JX D) (h : LX Γ w T m sg A V tm e D) {Φ : Option Value → ZW → Prop} {a k n : Nat} (ha : a < nP D) (hk : k ≤ 130) (hn : n ≤ 800) (kk : Go l Γ mL_agrees 33 130 800 Φ zNo k n w 190 [(0, .ref x), (1, .ref e), (2, .int 1), (3, .int (nI a))] []) : ∀ (f j : Nat), j + f = 6 → Go l Γ mL_agrees 33 130 800 Φ zNo k n w 150 [(0, .ref x), (1, .ref e), (2, .int 1), (3, .int (nI a)), (4, .int (nI j))] [] := by
  intro f
  induction f with
  | zero =>
    intro j hj
    obtain rfl : j = 6 := by omega
    refine go_iload 152 dL_agrees_150 rfl ?_
    refine go_bipush 154 dL_agrees_152 zb_6 ?_
    refine go_icmp_ge 190 157 dL_agrees_154 (fun h => ?_) (fun h => absurd (show (6 : Int32) ≤ nI 6 by decide) h)
    exact go_locals _ rfl kk
  | succ f ih =>
    intro j hj
    refine go_iload 152 dL_agrees_150 rfl ?_
    refine go_bipush 154 dL_agrees_152 zb_6 ?_
    refine go_icmp_ge 190 157 dL_agrees_154 (fun h => absurd ((nI_leI (a := 6) (by decide) (by omega)).mp h) (by omega)) (fun h6 => ?_)
    refine go_iload_n 158 dL_agrees_157 rfl ?_
    refine go_if_eq 190 161 dL_agrees_158 (fun h => absurd h (by decide)) (fun _ => ?_)
    refine go_aload_n 162 dL_agrees_161 rfl ?_
    refine go_iload_n 163 dL_agrees_162 rfl ?_
    refine go_iload 165 dL_agrees_163 rfl ?_
    refine gw_S 168 [.ref x, .int (nI a), .int (nI j)] dL_agrees_165 vL_189 rfl (ct_L_party_0 (cl.cm (ct_X5_party hC hG (j := j) rfl ha rfl (by omega) (hC.iP ha))) (by decide) cl.x5 lwr_i) (by decide) (by exact Nat.le_of_ble_eq_true rfl) (by omega) (by omega) (by omega) ?_
    refine go_aload_n 169 dL_agrees_168 rfl ?_
    refine go_iload_n 170 dL_agrees_169 rfl ?_
    refine go_iload 172 dL_agrees_170 rfl ?_
    refine gcV2 175 dL_agrees_172 vL_192 h.x.1 rfl (cl_tellParty h hG.iv.1 hG.1 ha (j := j) (by omega)) ?_
    refine go_icmp_ne 182 178 dL_agrees_175 (fun h => absurd rfl h) (fun _ => ?_)
    refine go_iconst 179 dL_agrees_178 zc_1 ?_
    refine go_goto 183 dL_agrees_179 ?_
    refine go_istore_n 184 dL_agrees_183 (by decide) ?_
    refine go_iinc 187 dL_agrees_184 rfl (by decide) (show Int32.ofInt 1 = nI 1 from rfl) ?_
    refine go_goto 150 dL_agrees_187 ?_
    rw [nI_add]
    exact go_locals _ rfl (ih (j + 1) (by omega))
set_option maxRecDepth 100000 in
set_option maxHeartbeats 4000000 in
theorem lai_C {w : ZW} (cl : Cl Γ w T x C) (hC : CR D g sg (C.1 0) D) (hG : GI sg D) (hJ : JX D) (h : LX Γ w T m sg A V tm e D) {Φ : Option Value → ZW → Prop} {a k n : Nat} (ha : a < nC D) (hk : k ≤ 130) (hn : n ≤ 800) (kk : Go l Γ mL_agrees 33 130 800 Φ zNo k n w 254 [(0, .ref x), (1, .ref e), (2, .int 1), (3, .int (nI a))] []) : ∀ (f j : Nat), j + f = 6 → Go l Γ mL_agrees 33 130 800 Φ zNo k n w 214 [(0, .ref x), (1, .ref e), (2, .int 1), (3, .int (nI a)), (4, .int (nI j))] [] := by
  intro f
  induction f with
  | zero =>
    intro j hj
    obtain rfl : j = 6 := by omega
    refine go_iload 216 dL_agrees_214 rfl ?_
    refine go_bipush 218 dL_agrees_216 zb_6 ?_
    refine go_icmp_ge 254 221 dL_agrees_218 (fun h => ?_) (fun h => absurd (show (6 : Int32) ≤ nI 6 by decide) h)
    exact go_locals _ rfl kk
  | succ f ih =>
    intro j hj
    refine go_iload 216 dL_agrees_214 rfl ?_
    refine go_bipush 218 dL_agrees_216 zb_6 ?_
    refine go_icmp_ge 254 221 dL_agrees_218 (fun h => absurd ((nI_leI (a := 6) (by decide) (by omega)).mp h) (by omega)) (fun h6 => ?_)
    refine go_iload_n 222 dL_agrees_221 rfl ?_
    refine go_if_eq 254 225 dL_agrees_222 (fun h => absurd h (by decide)) (fun _ => ?_)
    refine go_aload_n 226 dL_agrees_225 rfl ?_
    refine go_iload_n 227 dL_agrees_226 rfl ?_
    refine go_iload 229 dL_agrees_227 rfl ?_
    refine gw_S 232 [.ref x, .int (nI a), .int (nI j)] dL_agrees_229 vL_195 rfl (ct_L_call_0 (cl.cm (ct_X5_call hC hG (j := j) rfl ha rfl (by omega) (hC.iC ha))) (by decide) cl.x5 lwr_i) (by decide) (by exact Nat.le_of_ble_eq_true rfl) (by omega) (by omega) (by omega) ?_
    refine go_aload_n 233 dL_agrees_232 rfl ?_
    refine go_iload_n 234 dL_agrees_233 rfl ?_
    refine go_iload 236 dL_agrees_234 rfl ?_
    refine gcV2 239 dL_agrees_236 vL_197 h.x.1 rfl (cl_tellCall h hG.iv hJ hG.1 ha (j := j) (by omega)) ?_
    refine go_icmp_ne 246 242 dL_agrees_239 (fun h => absurd rfl h) (fun _ => ?_)
    refine go_iconst 243 dL_agrees_242 zc_1 ?_
    refine go_goto 247 dL_agrees_243 ?_
    refine go_istore_n 248 dL_agrees_247 (by decide) ?_
    refine go_iinc 251 dL_agrees_248 rfl (by decide) (show Int32.ofInt 1 = nI 1 from rfl) ?_
    refine go_goto 214 dL_agrees_251 ?_
    rw [nI_add]
    exact go_locals _ rfl (ih (j + 1) (by omega))
set_option maxRecDepth 100000 in
set_option maxHeartbeats 4000000 in
theorem lai_L {w : ZW} (cl : Cl Γ w T x C) (hC : CR D g sg (C.1 0) D) (hG : GI sg D) (hJ : JX D) (h : LX Γ w T m sg A V tm e D) {Φ : Option Value → ZW → Prop} {a k n : Nat} (ha : a < nL D) (hk : k ≤ 130) (hn : n ≤ 800) (kk : Go l Γ mL_agrees 33 130 800 Φ zNo k n w 318 [(0, .ref x), (1, .ref e), (2, .int 1), (3, .int (nI a))] []) : ∀ (f j : Nat), j + f = 6 → Go l Γ mL_agrees 33 130 800 Φ zNo k n w 278 [(0, .ref x), (1, .ref e), (2, .int 1), (3, .int (nI a)), (4, .int (nI j))] [] := by
  intro f
  induction f with
  | zero =>
    intro j hj
    obtain rfl : j = 6 := by omega
    refine go_iload 280 dL_agrees_278 rfl ?_
    refine go_bipush 282 dL_agrees_280 zb_6 ?_
    refine go_icmp_ge 318 285 dL_agrees_282 (fun h => ?_) (fun h => absurd (show (6 : Int32) ≤ nI 6 by decide) h)
    exact go_locals _ rfl kk
  | succ f ih =>
    intro j hj
    refine go_iload 280 dL_agrees_278 rfl ?_
    refine go_bipush 282 dL_agrees_280 zb_6 ?_
    refine go_icmp_ge 318 285 dL_agrees_282 (fun h => absurd ((nI_leI (a := 6) (by decide) (by omega)).mp h) (by omega)) (fun h6 => ?_)
    refine go_iload_n 286 dL_agrees_285 rfl ?_
    refine go_if_eq 318 289 dL_agrees_286 (fun h => absurd h (by decide)) (fun _ => ?_)
    refine go_aload_n 290 dL_agrees_289 rfl ?_
    refine go_iload_n 291 dL_agrees_290 rfl ?_
    refine go_iload 293 dL_agrees_291 rfl ?_
    refine gw_S 296 [.ref x, .int (nI a), .int (nI j)] dL_agrees_293 vL_200 rfl (ct_L_leg_0 (cl.cm (ct_X5_leg hC (j := j) rfl ha rfl (by omega) (hC.iL ha) (sml (m := 5) (by omega) (by decide)))) (by decide) cl.x5 lwr_i) (by decide) (by exact Nat.le_of_ble_eq_true rfl) (by omega) (by omega) (by omega) ?_
    refine go_aload_n 297 dL_agrees_296 rfl ?_
    refine go_iload_n 298 dL_agrees_297 rfl ?_
    refine go_iload 300 dL_agrees_298 rfl ?_
    refine gcV2 303 dL_agrees_300 vL_202 h.x.1 rfl (cl_tellLeg h hG.iv.1 ha (j := j) (by omega)) ?_
    refine go_icmp_ne 310 306 dL_agrees_303 (fun h => absurd rfl h) (fun _ => ?_)
    refine go_iconst 307 dL_agrees_306 zc_1 ?_
    refine go_goto 311 dL_agrees_307 ?_
    refine go_istore_n 312 dL_agrees_311 (by decide) ?_
    refine go_iinc 315 dL_agrees_312 rfl (by decide) (show Int32.ofInt 1 = nI 1 from rfl) ?_
    refine go_goto 278 dL_agrees_315 ?_
    rw [nI_add]
    exact go_locals _ rfl (ih (j + 1) (by omega))
set_option maxRecDepth 100000 in
set_option maxHeartbeats 4000000 in
theorem lao_P {w : ZW} (cl : Cl Γ w T x C) (hC : CR D g sg (C.1 0) D) (hG : GI sg D) (hJ : JX D) (h : LX Γ w T m sg A V tm e D) {Φ : Option Value → ZW → Prop} {k n : Nat} (hk : k ≤ 130) (hn : n ≤ 800) (kk : Go l Γ mL_agrees 33 130 800 Φ zNo k n w 196 [(0, .ref x), (1, .ref e), (2, .int 1)] []) : ∀ (f i : Nat), i + f = nP D → Go l Γ mL_agrees 33 130 800 Φ zNo k n w 134 [(0, .ref x), (1, .ref e), (2, .int 1), (3, .int (nI i))] [] := by
  have hI : Ix D := hG.iv.1
  have i4 := hI.1.2
  have i5 := hI.2.1.2
  have i6 := hI.2.2.1.2
  intro f
  induction f with
  | zero =>
    intro i hi
    obtain rfl : i = nP D := by omega
    refine go_iload_n 135 dL_agrees_134 rfl ?_
    refine go_aload_n 136 dL_agrees_135 rfl ?_
    refine gl_x h 139 dL_agrees_136 fL_122 rfl ?_
    refine gl_nP h 140 dL_agrees_139 ?_
    refine go_icmp_ge 196 143 dL_agrees_140 (fun z => ?_) (fun z => absurd (Int32.le_refl _) z)
    exact go_locals _ rfl kk
  | succ f ih =>
    intro i hi
    refine go_iload_n 135 dL_agrees_134 rfl ?_
    refine go_aload_n 136 dL_agrees_135 rfl ?_
    refine gl_x h 139 dL_agrees_136 fL_122 rfl ?_
    refine gl_nP h 140 dL_agrees_139 ?_
    refine go_icmp_ge 196 143 dL_agrees_140 (fun z => absurd ((nI_leI (by omega) (by omega)).mp z) (by omega)) (fun z => ?_)
    refine go_iload_n 144 dL_agrees_143 rfl ?_
    refine go_if_eq 196 147 dL_agrees_144 (fun z => absurd z (by decide)) (fun _ => ?_)
    refine go_iconst 148 dL_agrees_147 zc_0 ?_
    refine go_istore 150 dL_agrees_148 (by decide) ?_
    refine go_locals [(0, .ref x), (1, .ref e), (2, .int 1), (3, .int (nI i)), (4, .int (nI 0))] rfl (lai_P cl hC hG hJ h (show i < nP D by omega) hk hn ?_ 6 0 rfl)
    refine go_iinc 193 dL_agrees_190 rfl (by decide) (show Int32.ofInt 1 = nI 1 from rfl) ?_
    refine go_goto 134 dL_agrees_193 ?_
    rw [nI_add]
    exact go_locals _ rfl (ih (i + 1) (by omega))
set_option maxRecDepth 100000 in
set_option maxHeartbeats 4000000 in
theorem lao_C {w : ZW} (cl : Cl Γ w T x C) (hC : CR D g sg (C.1 0) D) (hG : GI sg D) (hJ : JX D) (h : LX Γ w T m sg A V tm e D) {Φ : Option Value → ZW → Prop} {k n : Nat} (hk : k ≤ 130) (hn : n ≤ 800) (kk : Go l Γ mL_agrees 33 130 800 Φ zNo k n w 260 [(0, .ref x), (1, .ref e), (2, .int 1)] []) : ∀ (f i : Nat), i + f = nC D → Go l Γ mL_agrees 33 130 800 Φ zNo k n w 198 [(0, .ref x), (1, .ref e), (2, .int 1), (3, .int (nI i))] [] := by
  have hI : Ix D := hG.iv.1
  have i4 := hI.1.2
  have i5 := hI.2.1.2
  have i6 := hI.2.2.1.2
  intro f
  induction f with
  | zero =>
    intro i hi
    obtain rfl : i = nC D := by omega
    refine go_iload_n 199 dL_agrees_198 rfl ?_
    refine go_aload_n 200 dL_agrees_199 rfl ?_
    refine gl_x h 203 dL_agrees_200 fL_173 rfl ?_
    refine gl_nC h 204 dL_agrees_203 ?_
    refine go_icmp_ge 260 207 dL_agrees_204 (fun z => ?_) (fun z => absurd (Int32.le_refl _) z)
    exact go_locals _ rfl kk
  | succ f ih =>
    intro i hi
    refine go_iload_n 199 dL_agrees_198 rfl ?_
    refine go_aload_n 200 dL_agrees_199 rfl ?_
    refine gl_x h 203 dL_agrees_200 fL_173 rfl ?_
    refine gl_nC h 204 dL_agrees_203 ?_
    refine go_icmp_ge 260 207 dL_agrees_204 (fun z => absurd ((nI_leI (by omega) (by omega)).mp z) (by omega)) (fun z => ?_)
    refine go_iload_n 208 dL_agrees_207 rfl ?_
    refine go_if_eq 260 211 dL_agrees_208 (fun z => absurd z (by decide)) (fun _ => ?_)
    refine go_iconst 212 dL_agrees_211 zc_0 ?_
    refine go_istore 214 dL_agrees_212 (by decide) ?_
    refine go_locals [(0, .ref x), (1, .ref e), (2, .int 1), (3, .int (nI i)), (4, .int (nI 0))] rfl (lai_C cl hC hG hJ h (show i < nC D by omega) hk hn ?_ 6 0 rfl)
    refine go_iinc 257 dL_agrees_254 rfl (by decide) (show Int32.ofInt 1 = nI 1 from rfl) ?_
    refine go_goto 198 dL_agrees_257 ?_
    rw [nI_add]
    exact go_locals _ rfl (ih (i + 1) (by omega))
set_option maxRecDepth 100000 in
set_option maxHeartbeats 4000000 in
theorem lao_S {w : ZW} (cl : Cl Γ w T x C) (hC : CR D g sg (C.1 0) D) (hG : GI sg D) (hJ : JX D) (h : LX Γ w T m sg A V tm e D) {Φ : Option Value → ZW → Prop} {a k n : Nat} (ha : a < nL D) (h6 : ¬ dL D a 6 = -1) (hk : k ≤ 130) (hn : n ≤ 800) (kk : Go l Γ mL_agrees 33 130 800 Φ zNo k n w 379 [(0, .ref x), (1, .ref e), (2, .int 1), (3, .int (nI a))] []) : ∀ (f j : Nat), j + f = 3 → Go l Γ mL_agrees 33 130 800 Φ zNo k n w 332 [(0, .ref x), (1, .ref e), (2, .int 1), (3, .int (nI a)), (4, .ref (V 5 a)), (5, .int (nI j))] [] := by
  intro f
  induction f with
  | zero =>
    intro j hj
    obtain rfl : j = 3 := by omega
    refine go_iload 334 dL_agrees_332 rfl ?_
    refine go_iconst 335 dL_agrees_334 zc_3 ?_
    refine go_icmp_ge 379 338 dL_agrees_335 (fun h => ?_) (fun h => absurd (show (3 : Int32) ≤ nI 3 by decide) h)
    exact go_locals _ rfl kk
  | succ f ih =>
    intro j hj
    refine go_iload 334 dL_agrees_332 rfl ?_
    refine go_iconst 335 dL_agrees_334 zc_3 ?_
    refine go_icmp_ge 379 338 dL_agrees_335 (fun h => absurd ((nI_leI (a := 3) (by decide) (by omega)).mp h) (by omega)) (fun _ => ?_)
    refine go_iload_n 339 dL_agrees_338 rfl ?_
    refine go_if_eq 379 342 dL_agrees_339 (fun h => absurd h (by decide)) (fun _ => ?_)
    refine go_aload_n 343 dL_agrees_342 rfl ?_
    refine go_iload_n 344 dL_agrees_343 rfl ?_
    refine go_iload 346 dL_agrees_344 rfl ?_
    refine gw_S 349 [.ref x, .int (nI a), .int (nI j)] dL_agrees_346 vL_209 rfl (ct_L_pending_0 (cl.cm (ct_X5_pending hC (j := j) rfl ha rfl (by omega) (hC.iL ha) h6 (sml (m := 2) (by omega) (by decide)))) (by decide) cl.x5 lwr_i) (by decide) (by exact Nat.le_of_ble_eq_true rfl) (by omega) (by omega) (by omega) ?_
    refine go_aload 351 dL_agrees_349 rfl ?_
    refine go_ifnonnull 359 dL_agrees_351 ?_
    refine go_aload 361 dL_agrees_359 rfl ?_
    refine go_iload 363 dL_agrees_361 rfl ?_
    refine gl_oi h ha h6 (j := j) rfl (by omega) 364 dL_agrees_363 ?_
    refine go_icmp_ne 371 367 dL_agrees_364 (fun h => absurd rfl h) (fun _ => ?_)
    refine go_iconst 368 dL_agrees_367 zc_1 ?_
    refine go_goto 372 dL_agrees_368 ?_
    refine go_istore_n 373 dL_agrees_372 (by decide) ?_
    refine go_iinc 376 dL_agrees_373 rfl (by decide) (show Int32.ofInt 1 = nI 1 from rfl) ?_
    refine go_goto 332 dL_agrees_376 ?_
    rw [nI_add]
    exact go_locals _ rfl (ih (j + 1) (by omega))
set_option maxRecDepth 100000 in
set_option maxHeartbeats 4000000 in
theorem lao_N {w : ZW} {a K N : Nat} {Φ : Option Value → ZW → Prop} (hC : CR D g sg (C.1 0) D) (ha : a < nL D) (h6 : dL D a 6 = -1) (hK : K + 3 ≤ 130) (hN : N + 18 ≤ 800) (kk : ∀ w', w'.2 = w.2 → w.1 ≤ w'.1 → Go l Γ mL_agrees 33 130 800 Φ zNo (K + 3) (N + 18) w' 379 [(0, .ref x), (1, .ref e), (2, .int 1), (3, .int (nI a))] []) : ∀ (f j : Nat) (w' : ZW), j + f = 3 → Cl Γ w' T x C → w'.2 = w.2 → w.1 ≤ w'.1 → Go l Γ mL_agrees 33 130 800 Φ zNo (K + j) (N + 6 * j) w' 332 [(0, .ref x), (1, .ref e), (2, .int 1), (3, .int (nI a)), (4, .null), (5, .int (nI j))] [] := by
  intro f
  induction f with
  | zero =>
    intro j w' hj cl hb1 hb2
    obtain rfl : j = 3 := by omega
    refine go_iload 334 dL_agrees_332 rfl ?_
    refine go_iconst 335 dL_agrees_334 zc_3 ?_
    refine go_icmp_ge 379 338 dL_agrees_335 (fun h => ?_) (fun h => absurd (show (3 : Int32) ≤ nI 3 by decide) h)
    exact go_locals _ rfl (kk w' hb1 hb2)
  | succ f ih =>
    intro j w' hj cl hb1 hb2
    refine go_iload 334 dL_agrees_332 rfl ?_
    refine go_iconst 335 dL_agrees_334 zc_3 ?_
    refine go_icmp_ge 379 338 dL_agrees_335 (fun h => absurd ((nI_leI (a := 3) (by decide) (by omega)).mp h) (by omega)) (fun _ => ?_)
    refine go_iload_n 339 dL_agrees_338 rfl ?_
    refine go_if_eq 379 342 dL_agrees_339 (fun h => absurd h (by decide)) (fun _ => ?_)
    refine go_aload_n 343 dL_agrees_342 rfl ?_
    refine go_iload_n 344 dL_agrees_343 rfl ?_
    refine go_iload 346 dL_agrees_344 rfl ?_
    refine gw_X 349 [.ref x, .int (nI a), .int (nI j)] dL_agrees_346 vL_209 rfl (ct_L_pending_2 (cl.th (ct_X5_pending_2 hC rfl ha (hC.iL ha) h6)) (by decide) cl.x5) (by decide) (by exact Nat.le_of_ble_eq_true rfl) (by omega) (by omega) (by omega) (fun w2 e2 l2 => ?_)
    refine go_aloadQ (r := none) 351 dL_agrees_349 rfl ?_
    refine go_ifnonnullN 354 dL_agrees_351 ?_
    refine go_ldc 356 dL_agrees_354 ciL_64 ?_
    refine go_goto 364 dL_agrees_356 ?_
    refine go_icmp_ne 371 367 dL_agrees_364 (fun h => absurd rfl h) (fun _ => ?_)
    refine go_iconst 368 dL_agrees_367 zc_1 ?_
    refine go_goto 372 dL_agrees_368 ?_
    refine go_istore_n 373 dL_agrees_372 (by decide) ?_
    refine go_iinc 376 dL_agrees_373 rfl (by decide) (show Int32.ofInt 1 = nI 1 from rfl) ?_
    refine go_goto 332 dL_agrees_376 ?_
    rw [nI_add]
    exact go_locals _ rfl (ih (j + 1) w2 (by omega) (cl.bp e2 l2) (e2.trans hb1) (Nat.le_trans hb2 l2))
set_option maxRecDepth 100000 in
set_option maxHeartbeats 4000000 in
theorem lae_L {w : ZW} (cl : Cl Γ w T x C) (hC : CR D g sg (C.1 0) D) (hG : GI sg D) (hJ : JX D) (h : LX Γ w T m sg A V tm e D) {Φ : Option Value → ZW → Prop} {a k n : Nat} (ha : a < nL D) (hk : k ≤ 130) (hn : n ≤ 800) (kk : Go l Γ mL_agrees 33 130 800 Φ zNo k n w 262 [(0, .ref x), (1, .ref e), (2, .int 1), (3, .int (nI (a + 1)))] []) : Go l Γ mL_agrees 33 130 800 Φ zNo k n w 379 [(0, .ref x), (1, .ref e), (2, .int 1), (3, .int (nI a))] [] := by
  have i6 := hG.iv.1.2.2.1.2
  refine go_iload_n 380 dL_agrees_379 rfl ?_
  refine go_if_eq 417 383 dL_agrees_380 (fun h => absurd h (by decide)) (fun _ => ?_)
  refine go_aload_n 384 dL_agrees_383 rfl ?_
  refine go_iload_n 385 dL_agrees_384 rfl ?_
  refine go_iconst 386 dL_agrees_385 zc_0 ?_
  refine gw_S 389 [.ref x, .int (nI a), .int (nI 0)] dL_agrees_386 vL_211 rfl (ct_L_repetition_0 (cl.cm (ct_X5_repetition hC (j := 0) rfl ha rfl (by decide) (hC.iL ha) (sml (m := 1) (by decide) (by decide)))) (by decide) cl.x5 lwr_i) (by decide) (by exact Nat.le_of_ble_eq_true rfl) (by omega) (by omega) (by omega) ?_
  refine go_aload_n 390 dL_agrees_389 rfl ?_
  refine go_iload_n 391 dL_agrees_390 rfl ?_
  refine go_iconst 392 dL_agrees_391 zc_0 ?_
  refine gcV2 (x2 := .int (nI 0)) 395 dL_agrees_392 vL_213 h.x.1 rfl (cl_due h hG.iv.1 (s := 0) ha (by decide)) ?_
  refine go_icmp_ne 417 398 dL_agrees_395 (fun h => absurd rfl h) (fun _ => ?_)
  refine go_aload_n 399 dL_agrees_398 rfl ?_
  refine go_iload_n 400 dL_agrees_399 rfl ?_
  refine go_iconst 401 dL_agrees_400 zc_1 ?_
  refine gw_S 404 [.ref x, .int (nI a), .int (nI 1)] dL_agrees_401 vL_211 rfl (ct_L_repetition_0 (cl.cm (ct_X5_repetition hC (j := 1) rfl ha rfl (by decide) (hC.iL ha) (sml (m := 1) (by decide) (by decide)))) (by decide) cl.x5 lwr_i) (by decide) (by exact Nat.le_of_ble_eq_true rfl) (by omega) (by omega) (by omega) ?_
  refine go_aload_n 405 dL_agrees_404 rfl ?_
  refine go_iload_n 406 dL_agrees_405 rfl ?_
  refine go_iconst 407 dL_agrees_406 zc_1 ?_
  refine gcV2 (x2 := .int (nI 1)) 410 dL_agrees_407 vL_213 h.x.1 rfl (cl_due h hG.iv.1 (s := 1) ha (by decide)) ?_
  refine go_icmp_ne 417 413 dL_agrees_410 (fun h => absurd rfl h) (fun _ => ?_)
  refine go_iconst 414 dL_agrees_413 zc_1 ?_
  refine go_goto 418 dL_agrees_414 ?_
  refine go_istore_n 419 dL_agrees_418 (by decide) ?_
  refine go_iinc 422 dL_agrees_419 rfl (by decide) (show Int32.ofInt 1 = nI 1 from rfl) ?_
  refine go_goto 262 dL_agrees_422 ?_
  rw [nI_add]
  exact go_locals _ rfl kk
set_option maxRecDepth 100000 in
set_option maxHeartbeats 4000000 in
theorem lao_L {w0 : ZW} (hC : CR D g sg (C.1 0) D) (hG : GI sg D) (hJ : JX D) {Φ : Option Value → ZW → Prop} (kk : ∀ (w : ZW) (k n : Nat), Cl Γ w T x C → LX Γ w T m sg A V tm e D → w.2 = w0.2 → w0.1 ≤ w.1 → k ≤ 120 → n ≤ 720 → Go l Γ mL_agrees 33 130 800 Φ zNo k n w 425 [(0, .ref x), (1, .ref e), (2, .int 1)] []) : ∀ (f i : Nat) (w : ZW) (k n : Nat), i + f = nL D → Cl Γ w T x C → LX Γ w T m sg A V tm e D → w.2 = w0.2 → w0.1 ≤ w.1 → k ≤ 3 * i → n ≤ 18 * i → Go l Γ mL_agrees 33 130 800 Φ zNo k n w 262 [(0, .ref x), (1, .ref e), (2, .int 1), (3, .int (nI i))] [] := by
  have hI : Ix D := hG.iv.1
  have i6 := hI.2.2.1.2
  intro f
  induction f with
  | zero =>
    intro i w k n hi cl h hb1 hb2 hk hn
    obtain rfl : i = nL D := by omega
    refine go_iload_n 263 dL_agrees_262 rfl ?_
    refine go_aload_n 264 dL_agrees_263 rfl ?_
    refine gl_x h 267 dL_agrees_264 fL_177 rfl ?_
    refine gl_nL h 268 dL_agrees_267 ?_
    refine go_icmp_ge 425 271 dL_agrees_268 (fun z => ?_) (fun z => absurd (Int32.le_refl _) z)
    exact go_locals _ rfl (kk w k n cl h hb1 hb2 (by omega) (by omega))
  | succ f ih =>
    intro i w k n hi cl h hb1 hb2 hk hn
    have ha : i < nL D := by omega
    refine go_iload_n 263 dL_agrees_262 rfl ?_
    refine go_aload_n 264 dL_agrees_263 rfl ?_
    refine gl_x h 267 dL_agrees_264 fL_177 rfl ?_
    refine gl_nL h 268 dL_agrees_267 ?_
    refine go_icmp_ge 425 271 dL_agrees_268 (fun z => absurd ((nI_leI (by omega) (by omega)).mp z) (by omega)) (fun z => ?_)
    refine go_iload_n 272 dL_agrees_271 rfl ?_
    refine go_if_eq 425 275 dL_agrees_272 (fun z => absurd z (by decide)) (fun _ => ?_)
    refine go_iconst 276 dL_agrees_275 zc_0 ?_
    refine go_istore 278 dL_agrees_276 (by decide) ?_
    refine go_locals [(0, .ref x), (1, .ref e), (2, .int 1), (3, .int (nI i)), (4, .int (nI 0))] rfl (lai_L cl hC hG hJ h ha (by omega) (by omega) ?_ 6 0 rfl)
    refine go_aload_n 319 dL_agrees_318 rfl ?_
    refine gl_x h 322 dL_agrees_319 fL_177 rfl ?_
    refine go_iload_n 323 dL_agrees_322 rfl ?_
    refine gl_la h hI rfl ha 324 dL_agrees_323 ?_
    refine gl_l h ha 327 dL_agrees_324 fL_205 rfl ?_
    refine go_astoreQ 329 dL_agrees_327 (by decide) ?_
    refine go_iconst 330 dL_agrees_329 zc_0 ?_
    refine go_istore 332 dL_agrees_330 (by decide) ?_
    by_cases h6 : dL D i 6 = -1
    · rw [show ofO V D i = none from if_pos h6]
      have h9 := lao_N (l := l) (Φ := Φ) (w := w) (T := T) (Γ := Γ) (x := x) (e := e) (C := C) (K := k) (N := n) hC ha h6 (by omega) (by omega) (fun w2 e2 l2 => lae_L (cl.bp e2 l2) hC hG hJ (h.fr (Kq.bp e2)) ha (by omega) (by omega) (ih (i + 1) w2 (k + 3) (n + 18) (by omega) (cl.bp e2 l2) (h.fr (Kq.bp e2)) (e2.trans hb1) (Nat.le_trans hb2 l2) (by omega) (by omega))) 3 0 w rfl cl rfl (Nat.le_refl _)
      exact go_locals _ rfl h9
    · rw [show ofO V D i = some (V 5 i) from if_neg h6]
      exact go_locals _ rfl (lao_S cl hC hG hJ h ha h6 (by omega) (by omega) (lae_L cl hC hG hJ h ha (by omega) (by omega) (ih (i + 1) w k n (by omega) cl h hb1 hb2 (by omega) (by omega))) 3 0 rfl)
set_option maxRecDepth 100000 in
set_option maxHeartbeats 4000000 in
theorem lao_T {w : ZW} (cl : Cl Γ w T x C) (hC : CR D g sg (C.1 0) D) (hG : GI sg D) (hJ : JX D) (h : LX Γ w T m sg A V tm e D) {Φ : Option Value → ZW → Prop} {k n : Nat} (hk : k ≤ 130) (hn : n ≤ 800) (kk : Go l Γ mL_agrees 33 130 800 Φ zNo k n w 463 [(0, .ref x), (1, .ref e), (2, .int 1)] []) : ∀ (f j : Nat), j + f = 7 → Go l Γ mL_agrees 33 130 800 Φ zNo k n w 427 [(0, .ref x), (1, .ref e), (2, .int 1), (3, .int (nI j))] [] := by
  intro f
  induction f with
  | zero =>
    intro j hj
    obtain rfl : j = 7 := by omega
    refine go_iload_n 428 dL_agrees_427 rfl ?_
    refine go_bipush 430 dL_agrees_428 zb_7 ?_
    refine go_icmp_ge 463 433 dL_agrees_430 (fun h => ?_) (fun h => absurd (show (7 : Int32) ≤ nI 7 by decide) h)
    exact go_locals _ rfl kk
  | succ f ih =>
    intro j hj
    refine go_iload_n 428 dL_agrees_427 rfl ?_
    refine go_bipush 430 dL_agrees_428 zb_7 ?_
    refine go_icmp_ge 463 433 dL_agrees_430 (fun h => absurd ((nI_leI (a := 7) (by decide) (by omega)).mp h) (by omega)) (fun _ => ?_)
    refine go_iload_n 434 dL_agrees_433 rfl ?_
    refine go_if_eq 463 437 dL_agrees_434 (fun h => absurd h (by decide)) (fun _ => ?_)
    refine go_aload_n 438 dL_agrees_437 rfl ?_
    refine go_iload_n 439 dL_agrees_438 rfl ?_
    refine gw_S 442 [.ref x, .int (nI j)] dL_agrees_439 vL_216 rfl (ct_L_total_0 (cl.cm (ct_X5_total hC (j := j) rfl (by omega) (sml (m := 6) (by omega) (by decide)))) (by decide) cl.x5 lwr_i) (by decide) (by exact Nat.le_of_ble_eq_true rfl) (by omega) (by omega) (by omega) ?_
    refine go_aload_n 443 dL_agrees_442 rfl ?_
    refine gl_x h 446 dL_agrees_443 fL_218 rfl ?_
    refine go_iload_n 447 dL_agrees_446 rfl ?_
    refine gl_ti h (j := j) rfl (by omega) 448 dL_agrees_447 ?_
    refine go_icmp_ne 455 451 dL_agrees_448 (fun h => absurd rfl h) (fun _ => ?_)
    refine go_iconst 452 dL_agrees_451 zc_1 ?_
    refine go_goto 456 dL_agrees_452 ?_
    refine go_istore_n 457 dL_agrees_456 (by decide) ?_
    refine go_iinc 460 dL_agrees_457 rfl (by decide) (show Int32.ofInt 1 = nI 1 from rfl) ?_
    refine go_goto 427 dL_agrees_460 ?_
    rw [nI_add]
    exact go_locals _ rfl (ih (j + 1) (by omega))
set_option maxRecDepth 100000 in
set_option maxHeartbeats 4000000 in
theorem lae_A {w0 w : ZW} (cl : Cl Γ w T x C) (hC : CR D g sg (C.1 0) D) (hG : GI sg D) (hJ : JX D) (h : LX Γ w T m sg A V tm e D) {k n : Nat} (hb1 : w.2 = w0.2) (hb2 : w0.1 ≤ w.1) (hk : k ≤ 120) (hn : n ≤ 720) : Go l Γ mL_agrees 33 130 800 (OutX w0 1) zNo k n w 463 [(0, .ref x), (1, .ref e), (2, .int 1)] [] := by
  have i4 := hG.iv.1.1.2
  have i5 := hG.iv.1.2.1.2
  have i6 := hG.iv.1.2.2.1.2
  refine go_iload_n 464 dL_agrees_463 rfl ?_
  refine go_if_eq 516 467 dL_agrees_464 (fun z => absurd z (by decide)) (fun _ => ?_)
  refine go_aload_n 468 dL_agrees_467 rfl ?_
  refine go_aload_n 469 dL_agrees_468 rfl ?_
  refine gl_x h 472 dL_agrees_469 fL_122 rfl ?_
  refine gl_nP h 473 dL_agrees_472 ?_
  refine go_iconst 474 dL_agrees_473 zc_0 ?_
  refine gw_X 477 [.ref x, .int (nI (nP D)), .int 0] dL_agrees_474 vL_189 rfl (ct_L_party_1 (cl.th (ct_X5_party_1 hC (hC.oP (Nat.le_refl _) (by omega)))) (by decide) cl.x5) (by decide) (by exact Nat.le_of_ble_eq_true rfl) (by omega) (by omega) (by omega) (fun w2 e2 l2 => ?_)
  have cl2 := cl.bp e2 l2
  have h2 := h.fr (Kq.bp (T := T) e2)
  refine go_ldc 479 dL_agrees_477 ciL_52 ?_
  refine go_icmp_ne 516 482 dL_agrees_479 (fun h => absurd rfl h) (fun _ => ?_)
  refine go_aload_n 483 dL_agrees_482 rfl ?_
  refine go_aload_n 484 dL_agrees_483 rfl ?_
  refine gl_x h2 487 dL_agrees_484 fL_173 rfl ?_
  refine gl_nC h2 488 dL_agrees_487 ?_
  refine go_iconst 489 dL_agrees_488 zc_0 ?_
  refine gw_X 492 [.ref x, .int (nI (nC D)), .int 0] dL_agrees_489 vL_195 rfl (ct_L_call_1 (cl2.th (ct_X5_call_1 hC (hC.oC (Nat.le_refl _) (by omega)))) (by decide) cl2.x5) (by decide) (by exact Nat.le_of_ble_eq_true rfl) (by omega) (by omega) (by omega) (fun w3 e3 l3 => ?_)
  have cl3 := cl2.bp e3 l3
  have h3 := h2.fr (Kq.bp (T := T) e3)
  refine go_ldc 494 dL_agrees_492 ciL_52 ?_
  refine go_icmp_ne 516 497 dL_agrees_494 (fun h => absurd rfl h) (fun _ => ?_)
  refine go_aload_n 498 dL_agrees_497 rfl ?_
  refine go_aload_n 499 dL_agrees_498 rfl ?_
  refine gl_x h3 502 dL_agrees_499 fL_177 rfl ?_
  refine gl_nL h3 503 dL_agrees_502 ?_
  refine go_iconst 504 dL_agrees_503 zc_0 ?_
  refine gw_X 507 [.ref x, .int (nI (nL D)), .int 0] dL_agrees_504 vL_200 rfl (ct_L_leg_1 (cl3.th (ct_X5_leg_1 hC (hC.oL (Nat.le_refl _) (by omega)))) (by decide) cl3.x5) (by decide) (by exact Nat.le_of_ble_eq_true rfl) (by omega) (by omega) (by omega) (fun w4 e4 l4 => ?_)
  refine go_ldc 509 dL_agrees_507 ciL_52 ?_
  refine go_icmp_ne 516 512 dL_agrees_509 (fun h => absurd rfl h) (fun _ => ?_)
  refine go_iconst 513 dL_agrees_512 zc_1 ?_
  refine go_goto 517 dL_agrees_513 ?_
  exact go_zreturn dL_agrees_517 rfl (by omega) (by omega) (Or.inr rfl) ⟨rfl, e4.trans (e3.trans (e2.trans hb1)), Nat.le_trans hb2 (Nat.le_trans l2 (Nat.le_trans l3 l4))⟩
set_option maxRecDepth 100000 in
set_option maxHeartbeats 4000000 in
/-- class and law's exchange tell the same -/
theorem ct_L_agrees {w : ZW} (cl : Cl Γ w T x C) (hC : CR D g sg (C.1 0) D) (hG : GI sg D) (hJ : JX D) (h : LX Γ w T m sg A V tm e D) : Ct l Γ mL_agrees 33 130 800 [.ref x, .ref e] w (OutX w 1) zNo := by
  have hI : Ix D := hG.iv.1
  refine Ct.of (by decide) rfl (Nat.le_of_ble_eq_true rfl) ?_
  refine go_aload_n 1 dL_agrees_0 rfl ?_
  refine gcV0 4 dL_agrees_1 vL_166 cl.x5 rfl (cl.cm (ct_X5_time hC)) ?_
  refine go_aload_n 5 dL_agrees_4 rfl ?_
  refine gl_x h 8 dL_agrees_5 fL_169 rfl ?_
  refine go_icmp_ne 130 11 dL_agrees_8 (fun z => absurd rfl z) (fun _ => ?_)
  refine go_aload_n 12 dL_agrees_11 rfl ?_
  refine go_iconst 13 dL_agrees_12 zc_0 ?_
  refine gw_S 16 [.ref x, .int 0] dL_agrees_13 vL_171 rfl (ct_L_count_0 (cl.cm (ct_X5_count_0 hC rfl)) (by decide) cl.x5 lwr_i) (by decide) (by exact Nat.le_of_ble_eq_true rfl) (by omega) (by omega) (by omega) ?_
  refine go_aload_n 17 dL_agrees_16 rfl ?_
  refine gl_x h 20 dL_agrees_17 fL_122 rfl ?_
  refine gl_nP h 21 dL_agrees_20 ?_
  refine go_icmp_ne 130 24 dL_agrees_21 (fun z => absurd hI.1.1 z) (fun _ => ?_)
  refine go_aload_n 25 dL_agrees_24 rfl ?_
  refine go_iconst 26 dL_agrees_25 zc_1 ?_
  refine gw_S 29 [.ref x, .int 1] dL_agrees_26 vL_171 rfl (ct_L_count_0 (cl.cm (ct_X5_count_1 hC rfl)) (by decide) cl.x5 lwr_i) (by decide) (by exact Nat.le_of_ble_eq_true rfl) (by omega) (by omega) (by omega) ?_
  refine go_aload_n 30 dL_agrees_29 rfl ?_
  refine gl_x h 33 dL_agrees_30 fL_173 rfl ?_
  refine gl_nC h 34 dL_agrees_33 ?_
  refine go_icmp_ne 130 37 dL_agrees_34 (fun z => absurd hI.2.1.1 z) (fun _ => ?_)
  refine go_aload_n 38 dL_agrees_37 rfl ?_
  refine go_iconst 39 dL_agrees_38 zc_2 ?_
  refine gw_S 42 [.ref x, .int 2] dL_agrees_39 vL_171 rfl (ct_L_count_0 (cl.cm (ct_X5_count_2 hC rfl)) (by decide) cl.x5 lwr_i) (by decide) (by exact Nat.le_of_ble_eq_true rfl) (by omega) (by omega) (by omega) ?_
  refine go_aload_n 43 dL_agrees_42 rfl ?_
  refine gl_x h 46 dL_agrees_43 fL_177 rfl ?_
  refine gl_nL h 47 dL_agrees_46 ?_
  refine go_icmp_ne 130 50 dL_agrees_47 (fun z => absurd hI.2.2.1.1 z) (fun _ => ?_)
  refine go_aload_n 51 dL_agrees_50 rfl ?_
  refine go_iconst 52 dL_agrees_51 zc_3 ?_
  refine gw_S 55 [.ref x, .int 3] dL_agrees_52 vL_171 rfl (ct_L_count_0 (cl.cm (ct_X5_count_3 hC rfl)) (by decide) cl.x5 lwr_i) (by decide) (by exact Nat.le_of_ble_eq_true rfl) (by omega) (by omega) (by omega) ?_
  refine go_aload_n 56 dL_agrees_55 rfl ?_
  refine go_iconst 57 dL_agrees_56 zc_1 ?_
  refine gcV1 60 dL_agrees_57 vL_181 h.x.1 rfl (cl_count h hI) ?_
  refine go_icmp_ne 130 63 dL_agrees_60 (fun z => absurd rfl z) (fun _ => ?_)
  refine go_aload_n 64 dL_agrees_63 rfl ?_
  refine go_iconst 65 dL_agrees_64 zc_4 ?_
  refine gw_S 68 [.ref x, .int 4] dL_agrees_65 vL_171 rfl (ct_L_count_0 (cl.cm (ct_X5_count_4 hC rfl)) (by decide) cl.x5 lwr_i) (by decide) (by exact Nat.le_of_ble_eq_true rfl) (by omega) (by omega) (by omega) ?_
  refine go_aload_n 69 dL_agrees_68 rfl ?_
  refine go_iconst 70 dL_agrees_69 zc_0 ?_
  refine gcV1 73 dL_agrees_70 vL_181 h.x.1 rfl (cl_count h hI) ?_
  refine go_icmp_ne 130 76 dL_agrees_73 (fun z => absurd rfl z) (fun _ => ?_)
  refine go_aload_n 77 dL_agrees_76 rfl ?_
  refine go_iconst 78 dL_agrees_77 zc_5 ?_
  refine gw_S 81 [.ref x, .int 5] dL_agrees_78 vL_171 rfl (ct_L_count_0 (cl.cm (ct_X5_count_5 hC rfl)) (by decide) cl.x5 lwr_i) (by decide) (by exact Nat.le_of_ble_eq_true rfl) (by omega) (by omega) (by omega) ?_
  refine go_aload_n 82 dL_agrees_81 rfl ?_
  refine gl_x h 85 dL_agrees_82 fL_131 rfl ?_
  refine go_icmp_ne 130 88 dL_agrees_85 (fun z => absurd rfl z) (fun _ => ?_)
  refine go_aload_n 89 dL_agrees_88 rfl ?_
  refine go_bipush 91 dL_agrees_89 zb_6 ?_
  refine gw_S 94 [.ref x, .int 6] dL_agrees_91 vL_171 rfl (ct_L_count_0 (cl.cm (ct_X5_count_6 hC rfl)) (by decide) cl.x5 lwr_i) (by decide) (by exact Nat.le_of_ble_eq_true rfl) (by omega) (by omega) (by omega) ?_
  refine go_aload_n 95 dL_agrees_94 rfl ?_
  refine gl_x h 98 dL_agrees_95 fL_135 rfl ?_
  refine go_icmp_ne 130 101 dL_agrees_98 (fun z => absurd rfl z) (fun _ => ?_)
  refine go_aload_n 102 dL_agrees_101 rfl ?_
  refine go_bipush 104 dL_agrees_102 zb_7 ?_
  refine gw_S 107 [.ref x, .int 7] dL_agrees_104 vL_171 rfl (ct_L_count_0 (cl.cm (ct_X5_count_7 hC rfl)) (by decide) cl.x5 lwr_i) (by decide) (by exact Nat.le_of_ble_eq_true rfl) (by omega) (by omega) (by omega) ?_
  refine go_aload_n 108 dL_agrees_107 rfl ?_
  refine gl_x h 111 dL_agrees_108 fL_140 rfl ?_
  refine go_icmp_ne 130 114 dL_agrees_111 (fun z => absurd rfl z) (fun _ => ?_)
  refine go_aload_n 115 dL_agrees_114 rfl ?_
  refine gcV0 118 dL_agrees_115 vL_182 cl.x5 rfl (cl.cm (ct_X5_checksum hC hG)) ?_
  refine go_aload_n 119 dL_agrees_118 rfl ?_
  refine gcV0 122 dL_agrees_119 vL_186 h.x.1 rfl (cl_sum h hG.iv hJ hG.1) ?_
  refine go_lcmp 123 dL_agrees_122 ?_
  refine go_if_ne 130 126 dL_agrees_123 (fun z => absurd ((lg_cmp_eq _ _).mpr rfl) z) (fun _ => ?_)
  refine go_iconst 127 dL_agrees_126 zc_1 ?_
  refine go_goto 131 dL_agrees_127 ?_
  refine go_istore_n 132 dL_agrees_131 (by decide) ?_
  refine go_iconst 133 dL_agrees_132 zc_0 ?_
  refine go_istore_n 134 dL_agrees_133 (by decide) ?_
  refine go_locals [(0, .ref x), (1, .ref e), (2, .int 1), (3, .int (nI 0))] rfl (lao_P cl hC hG hJ h (by omega) (by omega) ?_ (nP D) 0 (Nat.zero_add _))
  refine go_iconst 197 dL_agrees_196 zc_0 ?_
  refine go_istore_n 198 dL_agrees_197 (by decide) ?_
  refine go_locals [(0, .ref x), (1, .ref e), (2, .int 1), (3, .int (nI 0))] rfl (lao_C cl hC hG hJ h (by omega) (by omega) ?_ (nC D) 0 (Nat.zero_add _))
  refine go_iconst 261 dL_agrees_260 zc_0 ?_
  refine go_istore_n 262 dL_agrees_261 (by decide) ?_
  refine go_locals [(0, .ref x), (1, .ref e), (2, .int 1), (3, .int (nI 0))] rfl (lao_L (w0 := w) hC hG hJ (fun w2 k n cl2 h2 e2 l2 hk hn => ?_) (nL D) 0 w 0 0 (Nat.zero_add _) cl h rfl (Nat.le_refl _) (Nat.zero_le _) (Nat.zero_le _))
  refine go_iconst 426 dL_agrees_425 zc_0 ?_
  refine go_istore_n 427 dL_agrees_426 (by decide) ?_
  exact go_locals _ rfl (lao_T cl2 hC hG hJ h2 (by omega) (by omega) (lae_A cl2 hC hG hJ h2 e2 l2 hk hn) 7 0 rfl)
end
end LAgr
