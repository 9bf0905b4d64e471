section LStK
/-! what was done is undone -/
def Hu (Γ : ZG) (w : ZW) (T : LT) (bf : Nat) (C : CS) (i u dn q : Nat) : Prop := Hc C i u ∧ (8 ≤ u + q ∨ dn ≤ u + q) ∧ ∃ f, w.2 bf = some (q5 Γ 6 9 f) ∧ T bf = 3 ∧ ∀ j, q ≤ j → j < 8 → j < dn → ∃ y, f j = some y ∧ Fz Γ w T (C.1 (2 + (i + 7 - (j - q)) % 8)) y
theorem Hb.hu {Γ : ZG} {w : ZW} {T : LT} {bf i u dn : Nat} {C : CS} (h : Hb Γ w T bf C i u dn) : Hu Γ w T bf C i u dn 0 := by
  obtain ⟨a1, a2, f, f1, f2, f3, f4⟩ := h
  exact ⟨a1, a2, f, f1, f2, fun j _ h2 h3 => f4 j h2 h3⟩
set_option maxRecDepth 100000 in
set_option maxHeartbeats 4000000 in
theorem lp_undo {l : Launch} {Γ : ZG} {Φ : Option Value → ZW → Prop} {x bf ii dn KB NB : Nat} (hdn : dn ≤ 45) (hKB : KB ≤ 1036902) (hNB : NB ≤ 5990994) (kk : ∀ (w : ZW) (T : LT) (C : CS) (k n : Nat), Cl Γ w T x C → (∃ D g sg, CR D g sg (C.1 0) D) → C.2.1.1 1 = 0 → k ≤ KB → n ≤ NB → Go l Γ mLaw 1312 1036902 5990994 Φ zNo k n w 1210 [(0, .ref Γ.2.2.2.2.1), (1, .int 1), (2, .int (nI ii)), (3, .ref x)] []) : ∀ (m q : Nat), q + m = 8 → ∀ (w : ZW) (T : LT) (C : CS) (i u k n : Nat), Cl Γ w T x C → (∃ D g sg, CR D g sg (C.1 0) D) → C.2.1.1 1 = 0 → Hu Γ w T bf C i u dn q → k + 130 * m ≤ KB → n + 800 * m ≤ NB → Go l Γ mLaw 1312 1036902 5990994 Φ zNo k n w 1161 [(0, .ref Γ.2.2.2.2.1), (1, .int 1), (2, .int (nI ii)), (3, .ref x), (7, .ref bf), (8, .int (nI dn)), (9, .int (nI q))] [] := by
  intro m
  induction m with
  | zero =>
    intro q hq w T C i u k n cl hC hz hH hk hn
    obtain rfl : q = 8 := by omega
    refine go_iload 1163 dL_law_1161 rfl ?_
    refine go_bipush 1165 dL_law_1163 zb_8 ?_
    refine go_icmp_ge 1210 1168 dL_law_1165 (fun _ => ?_) (fun z => absurd (show (8 : Int32) ≤ nI 8 by decide) z)
    exact go_locals _ rfl (kk w T C k n cl hC hz (by omega) (by omega))
  | succ m ih =>
    intro q hq w T C i u k n cl hC hz hH hk hn
    refine go_iload 1163 dL_law_1161 rfl ?_
    refine go_bipush 1165 dL_law_1163 zb_8 ?_
    refine go_icmp_ge 1210 1168 dL_law_1165 (fun z => absurd ((nI_leI (a := 8) (b := q) (by omega) (by omega)).mp z) (by omega)) (fun _ => ?_)
    refine go_iload 1170 dL_law_1168 rfl ?_
    refine go_iload 1172 dL_law_1170 rfl ?_
    by_cases hqd : dn ≤ q
    · refine go_icmp_ge 1210 1175 dL_law_1172 (fun _ => ?_) (fun z => absurd ((nI_leI (a := dn) (b := q) (by omega) (by omega)).mpr hqd) z)
      exact go_locals _ rfl (kk w T C k n cl hC hz (by omega) (by omega))
    · refine go_icmp_ge 1210 1175 dL_law_1172 (fun z => absurd ((nI_leI (a := dn) (b := q) (by omega) (by omega)).mp z) hqd) (fun _ => ?_)
      obtain ⟨⟨b1, b2, b3, b4⟩, a2, f, f1, f2, f4⟩ := hH
      obtain ⟨u', rfl⟩ : ∃ u', u = u' + 1 := ⟨u - 1, by omega⟩
      obtain ⟨y, hy, D, g, sg, A, V, tm, c1, c2, c3, c4⟩ := f4 q (Nat.le_refl _) (by omega) (by omega)
      have hs : (i + 7 - (q - q)) % 8 = slt i := by
        unfold slt
        split <;> omega
      have hsl : slt i < 8 := by
        unfold slt
        split <;> omega
      rw [hs] at c1
      have hu := ct_X5_undo (l := l) (Γ := Γ) (w := w) (x := x) b1 b2 b3 (by omega) c1.rb
      rw [cl.self] at hu
      have cl1 : Cl Γ (wC Γ w x (poC C i u' (nP D) (nC D) (nL D))) T x (poC C i u' (nP D) (nC D) (nL D)) := cl.wc rfl
      have kq : Kq w T (wC Γ w x (poC C i u' (nP D) (nC D) (nL D))) T (fun z => z ≠ 1) := cl.kq Kq.rf
      have hC1 : CR D g sg ((poC C i u' (nP D) (nC D) (nL D)).1 0) D := by
        show CR D g sg (if 0 = 0 then cpE (C.1 0) (C.1 (2 + slt i)) (nP D) (nC D) (nL D) else C.1 0) D
        rw [if_pos rfl]
        exact c1.cpy _
      have hz1 : (poC C i u' (nP D) (nC D) (nL D)).2.1.1 1 = 0 := hz
      refine go_iload_n 1176 dL_law_1175 rfl ?_
      refine go_if_eq 1210 1179 dL_law_1176 (fun z => absurd z (by decide)) (fun _ => ?_)
      refine go_aload_n 1180 dL_law_1179 rfl ?_
      refine gcV0 1183 dL_law_1180 vL_232 cl.x5 rfl hu ?_
      refine go_if_lt 1202 1186 dL_law_1183 (fun z => absurd z (nI_pos (by omega))) (fun _ => ?_)
      refine go_aload_n 1187 dL_law_1186 rfl ?_
      refine go_aload 1189 dL_law_1187 rfl ?_
      refine go_iload 1191 dL_law_1189 rfl ?_
      refine go_aald6 1192 dL_law_1191 (kq _ _ f1 (by rw [f2]; decide)).1 (vp_in_nI (by omega) (by decide)) ?_
      rw [nI_clamp (by omega), hy]
      refine go_callS 1195 [.ref x, .ref y] dL_law_1192 vL_225 rfl (ct_L_agrees cl1 hC1 c2 c3 (lx_fz c4 kq (by decide))) (by decide) (by decide) (by omega) (by omega) (by exact Nat.le_of_ble_eq_true rfl) ?_
      rintro v w2 ⟨rfl, e2, l2⟩
      have kq2 : Kq w T w2 T (fun z => z ≠ 1) := kq.trans (Kq.bp e2)
      refine go_if_eq 1202 1198 dL_law_1195 (fun z => absurd z (by decide)) (fun _ => ?_)
      refine go_iconst 1199 dL_law_1198 zc_1 ?_
      refine go_goto 1203 dL_law_1199 ?_
      refine go_istore_n 1204 dL_law_1203 (by decide) ?_
      refine go_iinc 1207 dL_law_1204 rfl (by decide) (show Int32.ofInt 1 = nI 1 from rfl) ?_
      refine go_goto 1161 dL_law_1207 ?_
      rw [nI_add]
      refine go_locals _ rfl (ih (q + 1) (by omega) w2 T (poC C i u' (nP D) (nC D) (nL D)) (slt i) u' _ _ (cl1.bp e2 l2) ⟨D, g, sg, hC1⟩ hz1 ⟨⟨rfl, hsl, rfl, by omega⟩, by omega, f, (kq2 _ _ f1 (by rw [f2]; decide)).1, f2, fun j h1 h2 h3 => ?_⟩ (by omega) (by omega))
      obtain ⟨y', e1, hz9⟩ := f4 j (by omega) h2 h3
      refine ⟨y', e1, ?_⟩
      have e3 : (slt i + 7 - (j - (q + 1))) % 8 = (i + 7 - (j - q)) % 8 := by
        unfold slt
        split <;> omega
      rw [e3]
      have e4 : (poC C i u' (nP D) (nC D) (nL D)).1 (2 + (i + 7 - (j - q)) % 8) = C.1 (2 + (i + 7 - (j - q)) % 8) := if_neg (by omega)
      rw [e4]
      exact hz9.go kq2 (by decide)
set_option maxRecDepth 100000 in
set_option maxHeartbeats 4000000 in
theorem st_1210 {l : Launch} {Γ : ZG} {Φ : Option Value → ZW → Prop} {w : ZW} {T : LT} {x ii k n KB NB : Nat} {C : CS} {D : ZD} {g : Option Nat} {sg : ZSg} (hKB : KB ≤ 1036902) (hNB : NB ≤ 5990994) (kk : ∀ (w : ZW) (k n : Nat), k ≤ KB → n ≤ NB → Go l Γ mLaw 1312 1036902 5990994 Φ zNo k n w 4 [(0, .ref Γ.2.2.2.2.1), (1, .int 1), (2, .int (nI (ii + 1)))] []) (cl : Cl Γ w T x C) (hC : CR D g sg (C.1 0) D) (hz : C.2.1.1 1 = 0) (hk : k + 5 ≤ KB) (hn : n + 30 ≤ NB) : Go l Γ mLaw 1312 1036902 5990994 Φ zNo k n w 1210 [(0, .ref Γ.2.2.2.2.1), (1, .int 1), (2, .int (nI ii)), (3, .ref x)] [] := by
  refine go_iload_n 1211 dL_law_1210 rfl ?_
  refine go_if_eq 1274 1214 dL_law_1211 (fun z => absurd z (by decide)) (fun _ => ?_)
  refine go_aload_n 1215 dL_law_1214 rfl ?_
  refine go_iconst 1216 dL_law_1215 zc_1 ?_
  refine gw_X 1219 [.ref x, .int 1] dL_law_1216 vL_19 rfl (ct_L_load_1 (cl.th (ct_X5_load_1 (fun z => absurd z.2 (by rw [hz]; decide)))) (by decide) cl.x5) (by decide) (by exact Nat.le_of_ble_eq_true rfl) (by omega) (by omega) (by omega) (fun w1 e1 l1 => ?_)
  have cl1 := cl.bp e1 l1
  refine go_ldc 1221 dL_law_1219 ciL_42 ?_
  refine go_icmp_ne 1274 1224 dL_law_1221 (fun z => absurd rfl z) (fun _ => ?_)
  refine go_aload_n 1225 dL_law_1224 rfl ?_
  refine go_bipush 1227 dL_law_1225 zb_7 ?_
  refine gw_X 1230 [.ref x, .int 7] dL_law_1227 vL_216 rfl (ct_L_total_1 (cl1.th (ct_X5_total_x (fun z => absurd z.2 (by decide)))) (by decide) cl1.x5) (by decide) (by exact Nat.le_of_ble_eq_true rfl) (by omega) (by omega) (by omega) (fun w2 e2 l2 => ?_)
  have cl2 := cl1.bp e2 l2
  refine go_ldc 1232 dL_law_1230 ciL_42 ?_
  refine go_icmp_ne 1274 1235 dL_law_1232 (fun z => absurd rfl z) (fun _ => ?_)
  refine go_aload_n 1236 dL_law_1235 rfl ?_
  refine go_iconst 1237 dL_law_1236 zc_m1 ?_
  refine go_bipush 1239 dL_law_1237 zb_9 ?_
  refine gw_X 1242 [.ref x, .int (-1), .int 9] dL_law_1239 vL_209 rfl (ct_L_pending_1 (cl2.th (ct_X5_pending_1 hC (fun z => absurd z.1 (by decide)))) (by decide) cl2.x5) (by decide) (by exact Nat.le_of_ble_eq_true rfl) (by omega) (by omega) (by omega) (fun w3 e3 l3 => ?_)
  have cl3 := cl2.bp e3 l3
  refine go_ldc 1244 dL_law_1242 ciL_52 ?_
  refine go_icmp_ne 1274 1247 dL_law_1244 (fun z => absurd rfl z) (fun _ => ?_)
  refine go_aload_n 1248 dL_law_1247 rfl ?_
  refine go_bipush 1250 dL_law_1248 zb_40 ?_
  refine go_iconst 1251 dL_law_1250 zc_0 ?_
  refine gw_X 1254 [.ref x, .int (nI 40), .int 0] dL_law_1251 vL_211 rfl (ct_L_repetition_1 (cl3.th (ct_X5_repetition_1 hC (hC.oL (k := 40) hC.L40 (by decide)))) (by decide) cl3.x5) (by decide) (by exact Nat.le_of_ble_eq_true rfl) (by omega) (by omega) (by omega) (fun w4 e4 l4 => ?_)
  have cl4 := cl3.bp e4 l4
  refine go_ldc 1256 dL_law_1254 ciL_52 ?_
  refine go_icmp_ne 1274 1259 dL_law_1256 (fun z => absurd rfl z) (fun _ => ?_)
  refine go_aload_n 1260 dL_law_1259 rfl ?_
  refine go_iconst 1261 dL_law_1260 zc_m1 ?_
  refine go_iconst 1262 dL_law_1261 zc_m1 ?_
  refine gw_X 1265 [.ref x, .int (-1), .int (-1)] dL_law_1262 vL_286 rfl (ct_L_offer_1 (cl4.th (ct_X5_offer_1 hC (fun z => absurd z.1 (by decide)))) (by decide) cl4.x5) (by decide) (by exact Nat.le_of_ble_eq_true rfl) (by omega) (by omega) (by omega) (fun w5 e5 l5 => ?_)
  have cl5 := cl4.bp e5 l5
  refine go_ldc 1267 dL_law_1265 ciL_52 ?_
  refine go_icmp_ne 1274 1270 dL_law_1267 (fun z => absurd rfl z) (fun _ => ?_)
  refine go_iconst 1271 dL_law_1270 zc_1 ?_
  refine go_goto 1275 dL_law_1271 ?_
  refine go_istore_n 1276 dL_law_1275 (by decide) ?_
  refine go_iinc 1279 dL_law_1276 rfl (by decide) (show Int32.ofInt 1 = nI 1 from rfl) ?_
  refine go_goto 4 dL_law_1279 ?_
  rw [nI_add]
  exact go_locals _ rfl (kk w5 _ _ (by omega) (by omega))
end LStK
