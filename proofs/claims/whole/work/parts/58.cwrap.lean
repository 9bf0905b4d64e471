section CWrap
/-- behind a wrapper whose call returned -/
def OutP (Γ : ZG) (p : Nat) (P : Int32 → ZW → Prop) : Option Value → ZW → Prop := fun v w2 => v = some (.int 0) ∧ ∃ r w3 f, P r w3 ∧ w2 = wset w3 p (lcell Γ f) ∧ f 0 = r.toInt64
def OutX (w : ZW) (k : Int32) : Option Value → ZW → Prop := fun v w2 => v = some (.int k) ∧ w2.2 = w.2 ∧ w.1 ≤ w2.1

set_option maxRecDepth 100000 in
set_option maxHeartbeats 4000000 in
theorem ct_L_load_0 {l : Launch} {Γ : ZG} {w : ZW} {x p : Nat} {y0 : Int32} {fs : List Value} {d' mc' ms' : Nat} {P : Int32 → ZW → Prop} (c : Ct l Γ mX5_load d' mc' ms' [.ref x, .int y0] w (fun v w2 => ∃ r, v = some (.int r) ∧ P r w2) zNo) (hd : d' ≤ 30) (hx : w.2 x = some (.inr (5, fs))) (ho : ∀ r w2, P r w2 → ∃ f, w2.2 p = some (lcell Γ f)) : Ct l Γ mL_load 32 mc' ms' [.ref x, .int y0, .ref p] w (OutP Γ p P) zNo := by
  refine Ct.ofH (by decide) rfl (Nat.le_of_ble_eq_true rfl) ?_
  refine go_aload_n 1 dL_load_0 rfl ?_
  refine go_iconst 2 dL_load_1 zc_0 ?_
  refine go_aload_n 3 dL_load_2 rfl ?_
  refine go_iload_n 4 dL_load_3 rfl ?_
  refine go_callV 7 [.int y0] dL_load_4 vL_7 hx rfl c (by omega) (by decide) (by omega) (by omega) (Nat.le_of_ble_eq_true rfl) ?_
  intro v9 w9 q9
  obtain ⟨r, rfl, hP⟩ := q9
  obtain ⟨f, hf⟩ := ho r w9 hP
  refine go_i2l 8 dL_load_7 ?_
  refine go_last 9 dL_load_8 hf (vp_in_nI (n := 0) (N := 1) (by decide) (by decide)) ?_
  refine go_goto 15 dL_load_9 ?_
  refine go_iconst 16 dL_load_15 zc_0 ?_
  exact go_ireturn dL_load_16 rfl (by omega) (by omega) ⟨rfl, r, w9, _, hP, rfl, rfl⟩

set_option maxRecDepth 100000 in
set_option maxHeartbeats 4000000 in
theorem ct_L_load_1 {l : Launch} {Γ : ZG} {w : ZW} {x p : Nat} {y0 : Int32} {fs : List Value} {d' : Nat} (c : Ct l Γ mX5_load d' 1 6 [.ref x, .int y0] w zNv (ThP "java/lang/IllegalArgumentException" w)) (hd : d' ≤ 30) (hx : w.2 x = some (.inr (5, fs))) : Ct l Γ mL_load 32 1 6 [.ref x, .int y0, .ref p] w (OutX w 1) zNo := by
  refine Ct.ofH (by decide) rfl (Nat.le_of_ble_eq_true rfl) ?_
  refine go_aload_n 1 dL_load_0 rfl ?_
  refine go_iconst 2 dL_load_1 zc_0 ?_
  refine go_aload_n 3 dL_load_2 rfl ?_
  refine go_iload_n 4 dL_load_3 rfl ?_
  refine go_callVH (E := "java/lang/IllegalArgumentException") 7 [.int y0] dL_load_4 vL_7 hx rfl c (by omega) (by decide) (by omega) (by omega) (Nat.le_of_ble_eq_true rfl) [] (0, 9, 12, 13) [] rfl (fun E' w' q => q.1) (fun z hz => nomatch hz) (by decide) (by decide) (zGood.mem 496 (by decide +kernel) rfl) (zNest.mem 325 (by decide +kernel) rfl) (fun v w' q => q.elim) ?_
  intro w9 q9 h9
  refine go_astore_n 13 dL_load_12 (by decide) ?_
  refine go_iconst 14 dL_load_13 zc_1 ?_
  exact go_ireturn dL_load_14 rfl (by omega) (by omega) ⟨rfl, h9.2⟩

set_option maxRecDepth 100000 in
set_option maxHeartbeats 4000000 in
theorem ct_L_count_0 {l : Launch} {Γ : ZG} {w : ZW} {x p : Nat} {y0 : Int32} {fs : List Value} {d' mc' ms' : Nat} {P : Int32 → ZW → Prop} (c : Ct l Γ mX5_count d' mc' ms' [.ref x, .int y0] w (fun v w2 => ∃ r, v = some (.int r) ∧ P r w2) zNo) (hd : d' ≤ 30) (hx : w.2 x = some (.inr (5, fs))) (ho : ∀ r w2, P r w2 → ∃ f, w2.2 p = some (lcell Γ f)) : Ct l Γ mL_count 32 mc' ms' [.ref x, .int y0, .ref p] w (OutP Γ p P) zNo := by
  refine Ct.ofH (by decide) rfl (Nat.le_of_ble_eq_true rfl) ?_
  refine go_aload_n 1 dL_count_0 rfl ?_
  refine go_iconst 2 dL_count_1 zc_0 ?_
  refine go_aload_n 3 dL_count_2 rfl ?_
  refine go_iload_n 4 dL_count_3 rfl ?_
  refine go_callV 7 [.int y0] dL_count_4 vL_15 hx rfl c (by omega) (by decide) (by omega) (by omega) (Nat.le_of_ble_eq_true rfl) ?_
  intro v9 w9 q9
  obtain ⟨r, rfl, hP⟩ := q9
  obtain ⟨f, hf⟩ := ho r w9 hP
  refine go_i2l 8 dL_count_7 ?_
  refine go_last 9 dL_count_8 hf (vp_in_nI (n := 0) (N := 1) (by decide) (by decide)) ?_
  refine go_goto 15 dL_count_9 ?_
  refine go_iconst 16 dL_count_15 zc_0 ?_
  exact go_ireturn dL_count_16 rfl (by omega) (by omega) ⟨rfl, r, w9, _, hP, rfl, rfl⟩

set_option maxRecDepth 100000 in
set_option maxHeartbeats 4000000 in
theorem ct_L_count_1 {l : Launch} {Γ : ZG} {w : ZW} {x p : Nat} {y0 : Int32} {fs : List Value} {d' : Nat} (c : Ct l Γ mX5_count d' 1 6 [.ref x, .int y0] w zNv (ThP "java/lang/IllegalArgumentException" w)) (hd : d' ≤ 30) (hx : w.2 x = some (.inr (5, fs))) : Ct l Γ mL_count 32 1 6 [.ref x, .int y0, .ref p] w (OutX w 1) zNo := by
  refine Ct.ofH (by decide) rfl (Nat.le_of_ble_eq_true rfl) ?_
  refine go_aload_n 1 dL_count_0 rfl ?_
  refine go_iconst 2 dL_count_1 zc_0 ?_
  refine go_aload_n 3 dL_count_2 rfl ?_
  refine go_iload_n 4 dL_count_3 rfl ?_
  refine go_callVH (E := "java/lang/IllegalArgumentException") 7 [.int y0] dL_count_4 vL_15 hx rfl c (by omega) (by decide) (by omega) (by omega) (Nat.le_of_ble_eq_true rfl) [] (0, 9, 12, 13) [] rfl (fun E' w' q => q.1) (fun z hz => nomatch hz) (by decide) (by decide) (zGood.mem 496 (by decide +kernel) rfl) (zNest.mem 325 (by decide +kernel) rfl) (fun v w' q => q.elim) ?_
  intro w9 q9 h9
  refine go_astore_n 13 dL_count_12 (by decide) ?_
  refine go_iconst 14 dL_count_13 zc_1 ?_
  exact go_ireturn dL_count_14 rfl (by omega) (by omega) ⟨rfl, h9.2⟩

set_option maxRecDepth 100000 in
set_option maxHeartbeats 4000000 in
theorem ct_L_party_0 {l : Launch} {Γ : ZG} {w : ZW} {x p : Nat} {y0 y1 : Int32} {fs : List Value} {d' mc' ms' : Nat} {P : Int32 → ZW → Prop} (c : Ct l Γ mX5_party d' mc' ms' [.ref x, .int y0, .int y1] w (fun v w2 => ∃ r, v = some (.int r) ∧ P r w2) zNo) (hd : d' ≤ 30) (hx : w.2 x = some (.inr (5, fs))) (ho : ∀ r w2, P r w2 → ∃ f, w2.2 p = some (lcell Γ f)) : Ct l Γ mL_party 32 mc' ms' [.ref x, .int y0, .int y1, .ref p] w (OutP Γ p P) zNo := by
  refine Ct.ofH (by decide) rfl (Nat.le_of_ble_eq_true rfl) ?_
  refine go_aload_n 1 dL_party_0 rfl ?_
  refine go_iconst 2 dL_party_1 zc_0 ?_
  refine go_aload_n 3 dL_party_2 rfl ?_
  refine go_iload_n 4 dL_party_3 rfl ?_
  refine go_iload_n 5 dL_party_4 rfl ?_
  refine go_callV 8 [.int y0, .int y1] dL_party_5 vL_18 hx rfl c (by omega) (by decide) (by omega) (by omega) (Nat.le_of_ble_eq_true rfl) ?_
  intro v9 w9 q9
  obtain ⟨r, rfl, hP⟩ := q9
  obtain ⟨f, hf⟩ := ho r w9 hP
  refine go_i2l 9 dL_party_8 ?_
  refine go_last 10 dL_party_9 hf (vp_in_nI (n := 0) (N := 1) (by decide) (by decide)) ?_
  refine go_goto 21 dL_party_10 ?_
  refine go_iconst 22 dL_party_21 zc_0 ?_
  exact go_ireturn dL_party_22 rfl (by omega) (by omega) ⟨rfl, r, w9, _, hP, rfl, rfl⟩

set_option maxRecDepth 100000 in
set_option maxHeartbeats 4000000 in
theorem ct_L_party_1 {l : Launch} {Γ : ZG} {w : ZW} {x p : Nat} {y0 y1 : Int32} {fs : List Value} {d' : Nat} (c : Ct l Γ mX5_party d' 1 6 [.ref x, .int y0, .int y1] w zNv (ThP "java/lang/IndexOutOfBoundsException" w)) (hd : d' ≤ 30) (hx : w.2 x = some (.inr (5, fs))) : Ct l Γ mL_party 32 1 6 [.ref x, .int y0, .int y1, .ref p] w (OutX w 1) zNo := by
  refine Ct.ofH (by decide) rfl (Nat.le_of_ble_eq_true rfl) ?_
  refine go_aload_n 1 dL_party_0 rfl ?_
  refine go_iconst 2 dL_party_1 zc_0 ?_
  refine go_aload_n 3 dL_party_2 rfl ?_
  refine go_iload_n 4 dL_party_3 rfl ?_
  refine go_iload_n 5 dL_party_4 rfl ?_
  refine go_callVH (E := "java/lang/IndexOutOfBoundsException") 8 [.int y0, .int y1] dL_party_5 vL_18 hx rfl c (by omega) (by decide) (by omega) (by omega) (Nat.le_of_ble_eq_true rfl) [] (0, 10, 13, 22) [(0, 10, 17, 13)] rfl (fun E' w' q => q.1) (fun z hz => nomatch hz) (by decide) (by decide) (zGood.mem 700 (by decide +kernel) rfl) (zNest.mem 254 (by decide +kernel) rfl) (fun v w' q => q.elim) ?_
  intro w9 q9 h9
  refine go_astore 15 dL_party_13 (by decide) ?_
  refine go_iconst 16 dL_party_15 zc_1 ?_
  exact go_ireturn dL_party_16 rfl (by omega) (by omega) ⟨rfl, h9.2⟩

set_option maxRecDepth 100000 in
set_option maxHeartbeats 4000000 in
theorem ct_L_party_2 {l : Launch} {Γ : ZG} {w : ZW} {x p : Nat} {y0 y1 : Int32} {fs : List Value} {d' : Nat} (c : Ct l Γ mX5_party d' 1 6 [.ref x, .int y0, .int y1] w zNv (ThP "java/lang/IllegalArgumentException" w)) (hd : d' ≤ 30) (hx : w.2 x = some (.inr (5, fs))) : Ct l Γ mL_party 32 1 6 [.ref x, .int y0, .int y1, .ref p] w (OutX w 2) zNo := by
  refine Ct.ofH (by decide) rfl (Nat.le_of_ble_eq_true rfl) ?_
  refine go_aload_n 1 dL_party_0 rfl ?_
  refine go_iconst 2 dL_party_1 zc_0 ?_
  refine go_aload_n 3 dL_party_2 rfl ?_
  refine go_iload_n 4 dL_party_3 rfl ?_
  refine go_iload_n 5 dL_party_4 rfl ?_
  refine go_callVH (E := "java/lang/IllegalArgumentException") 8 [.int y0, .int y1] dL_party_5 vL_18 hx rfl c (by omega) (by decide) (by omega) (by omega) (Nat.le_of_ble_eq_true rfl) [(0, 10, 13, 22)] (0, 10, 17, 13) [] rfl (fun E' w' q => q.1) (List.forall_mem_singleton.mpr ⟨by decide, "java/lang/IndexOutOfBoundsException", zGood.mem 700 (by decide +kernel) rfl, by decide +kernel⟩) (by decide) (by decide) (zGood.mem 496 (by decide +kernel) rfl) (zNest.mem 325 (by decide +kernel) rfl) (fun v w' q => q.elim) ?_
  intro w9 q9 h9
  refine go_astore 19 dL_party_17 (by decide) ?_
  refine go_iconst 20 dL_party_19 zc_2 ?_
  exact go_ireturn dL_party_20 rfl (by omega) (by omega) ⟨rfl, h9.2⟩

set_option maxRecDepth 100000 in
set_option maxHeartbeats 4000000 in
theorem ct_L_call_0 {l : Launch} {Γ : ZG} {w : ZW} {x p : Nat} {y0 y1 : Int32} {fs : List Value} {d' mc' ms' : Nat} {P : Int32 → ZW → Prop} (c : Ct l Γ mX5_call d' mc' ms' [.ref x, .int y0, .int y1] w (fun v w2 => ∃ r, v = some (.int r) ∧ P r w2) zNo) (hd : d' ≤ 30) (hx : w.2 x = some (.inr (5, fs))) (ho : ∀ r w2, P r w2 → ∃ f, w2.2 p = some (lcell Γ f)) : Ct l Γ mL_call 32 mc' ms' [.ref x, .int y0, .int y1, .ref p] w (OutP Γ p P) zNo := by
  refine Ct.ofH (by decide) rfl (Nat.le_of_ble_eq_true rfl) ?_
  refine go_aload_n 1 dL_call_0 rfl ?_
  refine go_iconst 2 dL_call_1 zc_0 ?_
  refine go_aload_n 3 dL_call_2 rfl ?_
  refine go_iload_n 4 dL_call_3 rfl ?_
  refine go_iload_n 5 dL_call_4 rfl ?_
  refine go_callV 8 [.int y0, .int y1] dL_call_5 vL_24 hx rfl c (by omega) (by decide) (by omega) (by omega) (Nat.le_of_ble_eq_true rfl) ?_
  intro v9 w9 q9
  obtain ⟨r, rfl, hP⟩ := q9
  obtain ⟨f, hf⟩ := ho r w9 hP
  refine go_i2l 9 dL_call_8 ?_
  refine go_last 10 dL_call_9 hf (vp_in_nI (n := 0) (N := 1) (by decide) (by decide)) ?_
  refine go_goto 21 dL_call_10 ?_
  refine go_iconst 22 dL_call_21 zc_0 ?_
  exact go_ireturn dL_call_22 rfl (by omega) (by omega) ⟨rfl, r, w9, _, hP, rfl, rfl⟩

set_option maxRecDepth 100000 in
set_option maxHeartbeats 4000000 in
theorem ct_L_call_1 {l : Launch} {Γ : ZG} {w : ZW} {x p : Nat} {y0 y1 : Int32} {fs : List Value} {d' : Nat} (c : Ct l Γ mX5_call d' 1 6 [.ref x, .int y0, .int y1] w zNv (ThP "java/lang/IndexOutOfBoundsException" w)) (hd : d' ≤ 30) (hx : w.2 x = some (.inr (5, fs))) : Ct l Γ mL_call 32 1 6 [.ref x, .int y0, .int y1, .ref p] w (OutX w 1) zNo := by
  refine Ct.ofH (by decide) rfl (Nat.le_of_ble_eq_true rfl) ?_
  refine go_aload_n 1 dL_call_0 rfl ?_
  refine go_iconst 2 dL_call_1 zc_0 ?_
  refine go_aload_n 3 dL_call_2 rfl ?_
  refine go_iload_n 4 dL_call_3 rfl ?_
  refine go_iload_n 5 dL_call_4 rfl ?_
  refine go_callVH (E := "java/lang/IndexOutOfBoundsException") 8 [.int y0, .int y1] dL_call_5 vL_24 hx rfl c (by omega) (by decide) (by omega) (by omega) (Nat.le_of_ble_eq_true rfl) [] (0, 10, 13, 22) [(0, 10, 17, 13)] rfl (fun E' w' q => q.1) (fun z hz => nomatch hz) (by decide) (by decide) (zGood.mem 700 (by decide +kernel) rfl) (zNest.mem 254 (by decide +kernel) rfl) (fun v w' q => q.elim) ?_
  intro w9 q9 h9
  refine go_astore 15 dL_call_13 (by decide) ?_
  refine go_iconst 16 dL_call_15 zc_1 ?_
  exact go_ireturn dL_call_16 rfl (by omega) (by omega) ⟨rfl, h9.2⟩

set_option maxRecDepth 100000 in
set_option maxHeartbeats 4000000 in
theorem ct_L_call_2 {l : Launch} {Γ : ZG} {w : ZW} {x p : Nat} {y0 y1 : Int32} {fs : List Value} {d' : Nat} (c : Ct l Γ mX5_call d' 1 6 [.ref x, .int y0, .int y1] w zNv (ThP "java/lang/IllegalArgumentException" w)) (hd : d' ≤ 30) (hx : w.2 x = some (.inr (5, fs))) : Ct l Γ mL_call 32 1 6 [.ref x, .int y0, .int y1, .ref p] w (OutX w 2) zNo := by
  refine Ct.ofH (by decide) rfl (Nat.le_of_ble_eq_true rfl) ?_
  refine go_aload_n 1 dL_call_0 rfl ?_
  refine go_iconst 2 dL_call_1 zc_0 ?_
  refine go_aload_n 3 dL_call_2 rfl ?_
  refine go_iload_n 4 dL_call_3 rfl ?_
  refine go_iload_n 5 dL_call_4 rfl ?_
  refine go_callVH (E := "java/lang/IllegalArgumentException") 8 [.int y0, .int y1] dL_call_5 vL_24 hx rfl c (by omega) (by decide) (by omega) (by omega) (Nat.le_of_ble_eq_true rfl) [(0, 10, 13, 22)] (0, 10, 17, 13) [] rfl (fun E' w' q => q.1) (List.forall_mem_singleton.mpr ⟨by decide, "java/lang/IndexOutOfBoundsException", zGood.mem 700 (by decide +kernel) rfl, by decide +kernel⟩) (by decide) (by decide) (zGood.mem 496 (by decide +kernel) rfl) (zNest.mem 325 (by decide +kernel) rfl) (fun v w' q => q.elim) ?_
  intro w9 q9 h9
  refine go_astore 19 dL_call_17 (by decide) ?_
  refine go_iconst 20 dL_call_19 zc_2 ?_
  exact go_ireturn dL_call_20 rfl (by omega) (by omega) ⟨rfl, h9.2⟩

set_option maxRecDepth 100000 in
set_option maxHeartbeats 4000000 in
theorem ct_L_leg_0 {l : Launch} {Γ : ZG} {w : ZW} {x p : Nat} {y0 y1 : Int32} {fs : List Value} {d' mc' ms' : Nat} {P : Int32 → ZW → Prop} (c : Ct l Γ mX5_leg d' mc' ms' [.ref x, .int y0, .int y1] w (fun v w2 => ∃ r, v = some (.int r) ∧ P r w2) zNo) (hd : d' ≤ 30) (hx : w.2 x = some (.inr (5, fs))) (ho : ∀ r w2, P r w2 → ∃ f, w2.2 p = some (lcell Γ f)) : Ct l Γ mL_leg 32 mc' ms' [.ref x, .int y0, .int y1, .ref p] w (OutP Γ p P) zNo := by
  refine Ct.ofH (by decide) rfl (Nat.le_of_ble_eq_true rfl) ?_
  refine go_aload_n 1 dL_leg_0 rfl ?_
  refine go_iconst 2 dL_leg_1 zc_0 ?_
  refine go_aload_n 3 dL_leg_2 rfl ?_
  refine go_iload_n 4 dL_leg_3 rfl ?_
  refine go_iload_n 5 dL_leg_4 rfl ?_
  refine go_callV 8 [.int y0, .int y1] dL_leg_5 vL_27 hx rfl c (by omega) (by decide) (by omega) (by omega) (Nat.le_of_ble_eq_true rfl) ?_
  intro v9 w9 q9
  obtain ⟨r, rfl, hP⟩ := q9
  obtain ⟨f, hf⟩ := ho r w9 hP
  refine go_i2l 9 dL_leg_8 ?_
  refine go_last 10 dL_leg_9 hf (vp_in_nI (n := 0) (N := 1) (by decide) (by decide)) ?_
  refine go_goto 21 dL_leg_10 ?_
  refine go_iconst 22 dL_leg_21 zc_0 ?_
  exact go_ireturn dL_leg_22 rfl (by omega) (by omega) ⟨rfl, r, w9, _, hP, rfl, rfl⟩

set_option maxRecDepth 100000 in
set_option maxHeartbeats 4000000 in
theorem ct_L_leg_1 {l : Launch} {Γ : ZG} {w : ZW} {x p : Nat} {y0 y1 : Int32} {fs : List Value} {d' : Nat} (c : Ct l Γ mX5_leg d' 1 6 [.ref x, .int y0, .int y1] w zNv (ThP "java/lang/IndexOutOfBoundsException" w)) (hd : d' ≤ 30) (hx : w.2 x = some (.inr (5, fs))) : Ct l Γ mL_leg 32 1 6 [.ref x, .int y0, .int y1, .ref p] w (OutX w 1) zNo := by
  refine Ct.ofH (by decide) rfl (Nat.le_of_ble_eq_true rfl) ?_
  refine go_aload_n 1 dL_leg_0 rfl ?_
  refine go_iconst 2 dL_leg_1 zc_0 ?_
  refine go_aload_n 3 dL_leg_2 rfl ?_
  refine go_iload_n 4 dL_leg_3 rfl ?_
  refine go_iload_n 5 dL_leg_4 rfl ?_
  refine go_callVH (E := "java/lang/IndexOutOfBoundsException") 8 [.int y0, .int y1] dL_leg_5 vL_27 hx rfl c (by omega) (by decide) (by omega) (by omega) (Nat.le_of_ble_eq_true rfl) [] (0, 10, 13, 22) [(0, 10, 17, 13)] rfl (fun E' w' q => q.1) (fun z hz => nomatch hz) (by decide) (by decide) (zGood.mem 700 (by decide +kernel) rfl) (zNest.mem 254 (by decide +kernel) rfl) (fun v w' q => q.elim) ?_
  intro w9 q9 h9
  refine go_astore 15 dL_leg_13 (by decide) ?_
  refine go_iconst 16 dL_leg_15 zc_1 ?_
  exact go_ireturn dL_leg_16 rfl (by omega) (by omega) ⟨rfl, h9.2⟩

set_option maxRecDepth 100000 in
set_option maxHeartbeats 4000000 in
theorem ct_L_leg_2 {l : Launch} {Γ : ZG} {w : ZW} {x p : Nat} {y0 y1 : Int32} {fs : List Value} {d' : Nat} (c : Ct l Γ mX5_leg d' 1 6 [.ref x, .int y0, .int y1] w zNv (ThP "java/lang/IllegalArgumentException" w)) (hd : d' ≤ 30) (hx : w.2 x = some (.inr (5, fs))) : Ct l Γ mL_leg 32 1 6 [.ref x, .int y0, .int y1, .ref p] w (OutX w 2) zNo := by
  refine Ct.ofH (by decide) rfl (Nat.le_of_ble_eq_true rfl) ?_
  refine go_aload_n 1 dL_leg_0 rfl ?_
  refine go_iconst 2 dL_leg_1 zc_0 ?_
  refine go_aload_n 3 dL_leg_2 rfl ?_
  refine go_iload_n 4 dL_leg_3 rfl ?_
  refine go_iload_n 5 dL_leg_4 rfl ?_
  refine go_callVH (E := "java/lang/IllegalArgumentException") 8 [.int y0, .int y1] dL_leg_5 vL_27 hx rfl c (by omega) (by decide) (by omega) (by omega) (Nat.le_of_ble_eq_true rfl) [(0, 10, 13, 22)] (0, 10, 17, 13) [] rfl (fun E' w' q => q.1) (List.forall_mem_singleton.mpr ⟨by decide, "java/lang/IndexOutOfBoundsException", zGood.mem 700 (by decide +kernel) rfl, by decide +kernel⟩) (by decide) (by decide) (zGood.mem 496 (by decide +kernel) rfl) (zNest.mem 325 (by decide +kernel) rfl) (fun v w' q => q.elim) ?_
  intro w9 q9 h9
  refine go_astore 19 dL_leg_17 (by decide) ?_
  refine go_iconst 20 dL_leg_19 zc_2 ?_
  exact go_ireturn dL_leg_20 rfl (by omega) (by omega) ⟨rfl, h9.2⟩

set_option maxRecDepth 100000 in
set_option maxHeartbeats 4000000 in
theorem ct_L_pending_0 {l : Launch} {Γ : ZG} {w : ZW} {x p : Nat} {y0 y1 : Int32} {fs : List Value} {d' mc' ms' : Nat} {P : Int32 → ZW → Prop} (c : Ct l Γ mX5_pending d' mc' ms' [.ref x, .int y0, .int y1] w (fun v w2 => ∃ r, v = some (.int r) ∧ P r w2) zNo) (hd : d' ≤ 30) (hx : w.2 x = some (.inr (5, fs))) (ho : ∀ r w2, P r w2 → ∃ f, w2.2 p = some (lcell Γ f)) : Ct l Γ mL_pending 32 mc' ms' [.ref x, .int y0, .int y1, .ref p] w (OutP Γ p P) zNo := by
  refine Ct.ofH (by decide) rfl (Nat.le_of_ble_eq_true rfl) ?_
  refine go_aload_n 1 dL_pending_0 rfl ?_
  refine go_iconst 2 dL_pending_1 zc_0 ?_
  refine go_aload_n 3 dL_pending_2 rfl ?_
  refine go_iload_n 4 dL_pending_3 rfl ?_
  refine go_iload_n 5 dL_pending_4 rfl ?_
  refine go_callV 8 [.int y0, .int y1] dL_pending_5 vL_30 hx rfl c (by omega) (by decide) (by omega) (by omega) (Nat.le_of_ble_eq_true rfl) ?_
  intro v9 w9 q9
  obtain ⟨r, rfl, hP⟩ := q9
  obtain ⟨f, hf⟩ := ho r w9 hP
  refine go_i2l 9 dL_pending_8 ?_
  refine go_last 10 dL_pending_9 hf (vp_in_nI (n := 0) (N := 1) (by decide) (by decide)) ?_
  refine go_goto 25 dL_pending_10 ?_
  refine go_iconst 26 dL_pending_25 zc_0 ?_
  exact go_ireturn dL_pending_26 rfl (by omega) (by omega) ⟨rfl, r, w9, _, hP, rfl, rfl⟩

set_option maxRecDepth 100000 in
set_option maxHeartbeats 4000000 in
theorem ct_L_pending_1 {l : Launch} {Γ : ZG} {w : ZW} {x p : Nat} {y0 y1 : Int32} {fs : List Value} {d' : Nat} (c : Ct l Γ mX5_pending d' 1 6 [.ref x, .int y0, .int y1] w zNv (ThP "java/lang/IndexOutOfBoundsException" w)) (hd : d' ≤ 30) (hx : w.2 x = some (.inr (5, fs))) : Ct l Γ mL_pending 32 1 6 [.ref x, .int y0, .int y1, .ref p] w (OutX w 1) zNo := by
  refine Ct.ofH (by decide) rfl (Nat.le_of_ble_eq_true rfl) ?_
  refine go_aload_n 1 dL_pending_0 rfl ?_
  refine go_iconst 2 dL_pending_1 zc_0 ?_
  refine go_aload_n 3 dL_pending_2 rfl ?_
  refine go_iload_n 4 dL_pending_3 rfl ?_
  refine go_iload_n 5 dL_pending_4 rfl ?_
  refine go_callVH (E := "java/lang/IndexOutOfBoundsException") 8 [.int y0, .int y1] dL_pending_5 vL_30 hx rfl c (by omega) (by decide) (by omega) (by omega) (Nat.le_of_ble_eq_true rfl) [] (0, 10, 13, 22) [(0, 10, 17, 33), (0, 10, 21, 13)] rfl (fun E' w' q => q.1) (fun z hz => nomatch hz) (by decide) (by decide) (zGood.mem 700 (by decide +kernel) rfl) (zNest.mem 254 (by decide +kernel) rfl) (fun v w' q => q.elim) ?_
  intro w9 q9 h9
  refine go_astore 15 dL_pending_13 (by decide) ?_
  refine go_iconst 16 dL_pending_15 zc_1 ?_
  exact go_ireturn dL_pending_16 rfl (by omega) (by omega) ⟨rfl, h9.2⟩

set_option maxRecDepth 100000 in
set_option maxHeartbeats 4000000 in
theorem ct_L_pending_2 {l : Launch} {Γ : ZG} {w : ZW} {x p : Nat} {y0 y1 : Int32} {fs : List Value} {d' : Nat} (c : Ct l Γ mX5_pending d' 1 6 [.ref x, .int y0, .int y1] w zNv (ThP "java/util/NoSuchElementException" w)) (hd : d' ≤ 30) (hx : w.2 x = some (.inr (5, fs))) : Ct l Γ mL_pending 32 1 6 [.ref x, .int y0, .int y1, .ref p] w (OutX w 2) zNo := by
  refine Ct.ofH (by decide) rfl (Nat.le_of_ble_eq_true rfl) ?_
  refine go_aload_n 1 dL_pending_0 rfl ?_
  refine go_iconst 2 dL_pending_1 zc_0 ?_
  refine go_aload_n 3 dL_pending_2 rfl ?_
  refine go_iload_n 4 dL_pending_3 rfl ?_
  refine go_iload_n 5 dL_pending_4 rfl ?_
  refine go_callVH (E := "java/util/NoSuchElementException") 8 [.int y0, .int y1] dL_pending_5 vL_30 hx rfl c (by omega) (by decide) (by omega) (by omega) (Nat.le_of_ble_eq_true rfl) [(0, 10, 13, 22)] (0, 10, 17, 33) [(0, 10, 21, 13)] rfl (fun E' w' q => q.1) (List.forall_mem_singleton.mpr ⟨by decide, "java/lang/IndexOutOfBoundsException", zGood.mem 700 (by decide +kernel) rfl, by decide +kernel⟩) (by decide) (by decide) (zGood.mem 713 (by decide +kernel) rfl) (zNest.mem 625 (by decide +kernel) rfl) (fun v w' q => q.elim) ?_
  intro w9 q9 h9
  refine go_astore 19 dL_pending_17 (by decide) ?_
  refine go_iconst 20 dL_pending_19 zc_2 ?_
  exact go_ireturn dL_pending_20 rfl (by omega) (by omega) ⟨rfl, h9.2⟩

set_option maxRecDepth 100000 in
set_option maxHeartbeats 4000000 in
theorem ct_L_pending_3 {l : Launch} {Γ : ZG} {w : ZW} {x p : Nat} {y0 y1 : Int32} {fs : List Value} {d' : Nat} (c : Ct l Γ mX5_pending d' 1 6 [.ref x, .int y0, .int y1] w zNv (ThP "java/lang/IllegalArgumentException" w)) (hd : d' ≤ 30) (hx : w.2 x = some (.inr (5, fs))) : Ct l Γ mL_pending 32 1 6 [.ref x, .int y0, .int y1, .ref p] w (OutX w 3) zNo := by
  refine Ct.ofH (by decide) rfl (Nat.le_of_ble_eq_true rfl) ?_
  refine go_aload_n 1 dL_pending_0 rfl ?_
  refine go_iconst 2 dL_pending_1 zc_0 ?_
  refine go_aload_n 3 dL_pending_2 rfl ?_
  refine go_iload_n 4 dL_pending_3 rfl ?_
  refine go_iload_n 5 dL_pending_4 rfl ?_
  refine go_callVH (E := "java/lang/IllegalArgumentException") 8 [.int y0, .int y1] dL_pending_5 vL_30 hx rfl c (by omega) (by decide) (by omega) (by omega) (Nat.le_of_ble_eq_true rfl) [(0, 10, 13, 22), (0, 10, 17, 33)] (0, 10, 21, 13) [] rfl (fun E' w' q => q.1) (List.forall_mem_cons.mpr ⟨⟨by decide, "java/lang/IndexOutOfBoundsException", zGood.mem 700 (by decide +kernel) rfl, by decide +kernel⟩, List.forall_mem_singleton.mpr ⟨by decide, "java/util/NoSuchElementException", zGood.mem 713 (by decide +kernel) rfl, by decide +kernel⟩⟩) (by decide) (by decide) (zGood.mem 496 (by decide +kernel) rfl) (zNest.mem 325 (by decide +kernel) rfl) (fun v w' q => q.elim) ?_
  intro w9 q9 h9
  refine go_astore 23 dL_pending_21 (by decide) ?_
  refine go_iconst 24 dL_pending_23 zc_3 ?_
  exact go_ireturn dL_pending_24 rfl (by omega) (by omega) ⟨rfl, h9.2⟩

set_option maxRecDepth 100000 in
set_option maxHeartbeats 4000000 in
theorem ct_L_repetition_0 {l : Launch} {Γ : ZG} {w : ZW} {x p : Nat} {y0 y1 : Int32} {fs : List Value} {d' mc' ms' : Nat} {P : Int32 → ZW → Prop} (c : Ct l Γ mX5_repetition d' mc' ms' [.ref x, .int y0, .int y1] w (fun v w2 => ∃ r, v = some (.int r) ∧ P r w2) zNo) (hd : d' ≤ 30) (hx : w.2 x = some (.inr (5, fs))) (ho : ∀ r w2, P r w2 → ∃ f, w2.2 p = some (lcell Γ f)) : Ct l Γ mL_repetition 32 mc' ms' [.ref x, .int y0, .int y1, .ref p] w (OutP Γ p P) zNo := by
  refine Ct.ofH (by decide) rfl (Nat.le_of_ble_eq_true rfl) ?_
  refine go_aload_n 1 dL_repetition_0 rfl ?_
  refine go_iconst 2 dL_repetition_1 zc_0 ?_
  refine go_aload_n 3 dL_repetition_2 rfl ?_
  refine go_iload_n 4 dL_repetition_3 rfl ?_
  refine go_iload_n 5 dL_repetition_4 rfl ?_
  refine go_callV 8 [.int y0, .int y1] dL_repetition_5 vL_35 hx rfl c (by omega) (by decide) (by omega) (by omega) (Nat.le_of_ble_eq_true rfl) ?_
  intro v9 w9 q9
  obtain ⟨r, rfl, hP⟩ := q9
  obtain ⟨f, hf⟩ := ho r w9 hP
  refine go_i2l 9 dL_repetition_8 ?_
  refine go_last 10 dL_repetition_9 hf (vp_in_nI (n := 0) (N := 1) (by decide) (by decide)) ?_
  refine go_goto 21 dL_repetition_10 ?_
  refine go_iconst 22 dL_repetition_21 zc_0 ?_
  exact go_ireturn dL_repetition_22 rfl (by omega) (by omega) ⟨rfl, r, w9, _, hP, rfl, rfl⟩

set_option maxRecDepth 100000 in
set_option maxHeartbeats 4000000 in
theorem ct_L_repetition_1 {l : Launch} {Γ : ZG} {w : ZW} {x p : Nat} {y0 y1 : Int32} {fs : List Value} {d' : Nat} (c : Ct l Γ mX5_repetition d' 1 6 [.ref x, .int y0, .int y1] w zNv (ThP "java/lang/IndexOutOfBoundsException" w)) (hd : d' ≤ 30) (hx : w.2 x = some (.inr (5, fs))) : Ct l Γ mL_repetition 32 1 6 [.ref x, .int y0, .int y1, .ref p] w (OutX w 1) zNo := by
  refine Ct.ofH (by decide) rfl (Nat.le_of_ble_eq_true rfl) ?_
  refine go_aload_n 1 dL_repetition_0 rfl ?_
  refine go_iconst 2 dL_repetition_1 zc_0 ?_
  refine go_aload_n 3 dL_repetition_2 rfl ?_
  refine go_iload_n 4 dL_repetition_3 rfl ?_
  refine go_iload_n 5 dL_repetition_4 rfl ?_
  refine go_callVH (E := "java/lang/IndexOutOfBoundsException") 8 [.int y0, .int y1] dL_repetition_5 vL_35 hx rfl c (by omega) (by decide) (by omega) (by omega) (Nat.le_of_ble_eq_true rfl) [] (0, 10, 13, 22) [(0, 10, 17, 13)] rfl (fun E' w' q => q.1) (fun z hz => nomatch hz) (by decide) (by decide) (zGood.mem 700 (by decide +kernel) rfl) (zNest.mem 254 (by decide +kernel) rfl) (fun v w' q => q.elim) ?_
  intro w9 q9 h9
  refine go_astore 15 dL_repetition_13 (by decide) ?_
  refine go_iconst 16 dL_repetition_15 zc_1 ?_
  exact go_ireturn dL_repetition_16 rfl (by omega) (by omega) ⟨rfl, h9.2⟩

set_option maxRecDepth 100000 in
set_option maxHeartbeats 4000000 in
theorem ct_L_repetition_2 {l : Launch} {Γ : ZG} {w : ZW} {x p : Nat} {y0 y1 : Int32} {fs : List Value} {d' : Nat} (c : Ct l Γ mX5_repetition d' 1 6 [.ref x, .int y0, .int y1] w zNv (ThP "java/lang/IllegalArgumentException" w)) (hd : d' ≤ 30) (hx : w.2 x = some (.inr (5, fs))) : Ct l Γ mL_repetition 32 1 6 [.ref x, .int y0, .int y1, .ref p] w (OutX w 2) zNo := by
  refine Ct.ofH (by decide) rfl (Nat.le_of_ble_eq_true rfl) ?_
  refine go_aload_n 1 dL_repetition_0 rfl ?_
  refine go_iconst 2 dL_repetition_1 zc_0 ?_
  refine go_aload_n 3 dL_repetition_2 rfl ?_
  refine go_iload_n 4 dL_repetition_3 rfl ?_
  refine go_iload_n 5 dL_repetition_4 rfl ?_
  refine go_callVH (E := "java/lang/IllegalArgumentException") 8 [.int y0, .int y1] dL_repetition_5 vL_35 hx rfl c (by omega) (by decide) (by omega) (by omega) (Nat.le_of_ble_eq_true rfl) [(0, 10, 13, 22)] (0, 10, 17, 13) [] rfl (fun E' w' q => q.1) (List.forall_mem_singleton.mpr ⟨by decide, "java/lang/IndexOutOfBoundsException", zGood.mem 700 (by decide +kernel) rfl, by decide +kernel⟩) (by decide) (by decide) (zGood.mem 496 (by decide +kernel) rfl) (zNest.mem 325 (by decide +kernel) rfl) (fun v w' q => q.elim) ?_
  intro w9 q9 h9
  refine go_astore 19 dL_repetition_17 (by decide) ?_
  refine go_iconst 20 dL_repetition_19 zc_2 ?_
  exact go_ireturn dL_repetition_20 rfl (by omega) (by omega) ⟨rfl, h9.2⟩

set_option maxRecDepth 100000 in
set_option maxHeartbeats 4000000 in
theorem ct_L_total_0 {l : Launch} {Γ : ZG} {w : ZW} {x p : Nat} {y0 : Int32} {fs : List Value} {d' mc' ms' : Nat} {P : Int32 → ZW → Prop} (c : Ct l Γ mX5_total d' mc' ms' [.ref x, .int y0] w (fun v w2 => ∃ r, v = some (.int r) ∧ P r w2) zNo) (hd : d' ≤ 30) (hx : w.2 x = some (.inr (5, fs))) (ho : ∀ r w2, P r w2 → ∃ f, w2.2 p = some (lcell Γ f)) : Ct l Γ mL_total 32 mc' ms' [.ref x, .int y0, .ref p] w (OutP Γ p P) zNo := by
  refine Ct.ofH (by decide) rfl (Nat.le_of_ble_eq_true rfl) ?_
  refine go_aload_n 1 dL_total_0 rfl ?_
  refine go_iconst 2 dL_total_1 zc_0 ?_
  refine go_aload_n 3 dL_total_2 rfl ?_
  refine go_iload_n 4 dL_total_3 rfl ?_
  refine go_callV 7 [.int y0] dL_total_4 vL_38 hx rfl c (by omega) (by decide) (by omega) (by omega) (Nat.le_of_ble_eq_true rfl) ?_
  intro v9 w9 q9
  obtain ⟨r, rfl, hP⟩ := q9
  obtain ⟨f, hf⟩ := ho r w9 hP
  refine go_i2l 8 dL_total_7 ?_
  refine go_last 9 dL_total_8 hf (vp_in_nI (n := 0) (N := 1) (by decide) (by decide)) ?_
  refine go_goto 15 dL_total_9 ?_
  refine go_iconst 16 dL_total_15 zc_0 ?_
  exact go_ireturn dL_total_16 rfl (by omega) (by omega) ⟨rfl, r, w9, _, hP, rfl, rfl⟩

set_option maxRecDepth 100000 in
set_option maxHeartbeats 4000000 in
theorem ct_L_total_1 {l : Launch} {Γ : ZG} {w : ZW} {x p : Nat} {y0 : Int32} {fs : List Value} {d' : Nat} (c : Ct l Γ mX5_total d' 1 6 [.ref x, .int y0] w zNv (ThP "java/lang/IllegalArgumentException" w)) (hd : d' ≤ 30) (hx : w.2 x = some (.inr (5, fs))) : Ct l Γ mL_total 32 1 6 [.ref x, .int y0, .ref p] w (OutX w 1) zNo := by
  refine Ct.ofH (by decide) rfl (Nat.le_of_ble_eq_true rfl) ?_
  refine go_aload_n 1 dL_total_0 rfl ?_
  refine go_iconst 2 dL_total_1 zc_0 ?_
  refine go_aload_n 3 dL_total_2 rfl ?_
  refine go_iload_n 4 dL_total_3 rfl ?_
  refine go_callVH (E := "java/lang/IllegalArgumentException") 7 [.int y0] dL_total_4 vL_38 hx rfl c (by omega) (by decide) (by omega) (by omega) (Nat.le_of_ble_eq_true rfl) [] (0, 9, 12, 13) [] rfl (fun E' w' q => q.1) (fun z hz => nomatch hz) (by decide) (by decide) (zGood.mem 496 (by decide +kernel) rfl) (zNest.mem 325 (by decide +kernel) rfl) (fun v w' q => q.elim) ?_
  intro w9 q9 h9
  refine go_astore_n 13 dL_total_12 (by decide) ?_
  refine go_iconst 14 dL_total_13 zc_1 ?_
  exact go_ireturn dL_total_14 rfl (by omega) (by omega) ⟨rfl, h9.2⟩

set_option maxRecDepth 100000 in
set_option maxHeartbeats 4000000 in
theorem ct_L_settlesIn_0 {l : Launch} {Γ : ZG} {w : ZW} {x p : Nat} {y0 : Int32} {fs : List Value} {d' mc' ms' : Nat} {P : Int32 → ZW → Prop} (c : Ct l Γ mX5_settlesIn d' mc' ms' [.ref x, .int y0] w (fun v w2 => ∃ r, v = some (.int r) ∧ P r w2) zNo) (hd : d' ≤ 30) (hx : w.2 x = some (.inr (5, fs))) (ho : ∀ r w2, P r w2 → ∃ f, w2.2 p = some (lcell Γ f)) : Ct l Γ mL_settlesIn 32 mc' ms' [.ref x, .int y0, .ref p] w (OutP Γ p P) zNo := by
  refine Ct.ofH (by decide) rfl (Nat.le_of_ble_eq_true rfl) ?_
  refine go_aload_n 1 dL_settlesIn_0 rfl ?_
  refine go_iconst 2 dL_settlesIn_1 zc_0 ?_
  refine go_aload_n 3 dL_settlesIn_2 rfl ?_
  refine go_iload_n 4 dL_settlesIn_3 rfl ?_
  refine go_callV 7 [.int y0] dL_settlesIn_4 vL_41 hx rfl c (by omega) (by decide) (by omega) (by omega) (Nat.le_of_ble_eq_true rfl) ?_
  intro v9 w9 q9
  obtain ⟨r, rfl, hP⟩ := q9
  obtain ⟨f, hf⟩ := ho r w9 hP
  refine go_i2l 8 dL_settlesIn_7 ?_
  refine go_last 9 dL_settlesIn_8 hf (vp_in_nI (n := 0) (N := 1) (by decide) (by decide)) ?_
  refine go_goto 15 dL_settlesIn_9 ?_
  refine go_iconst 16 dL_settlesIn_15 zc_0 ?_
  exact go_ireturn dL_settlesIn_16 rfl (by omega) (by omega) ⟨rfl, r, w9, _, hP, rfl, rfl⟩

set_option maxRecDepth 100000 in
set_option maxHeartbeats 4000000 in
theorem ct_L_settlesIn_1 {l : Launch} {Γ : ZG} {w : ZW} {x p : Nat} {y0 : Int32} {fs : List Value} {d' : Nat} (c : Ct l Γ mX5_settlesIn d' 1 6 [.ref x, .int y0] w zNv (ThP "java/lang/IndexOutOfBoundsException" w)) (hd : d' ≤ 30) (hx : w.2 x = some (.inr (5, fs))) : Ct l Γ mL_settlesIn 32 1 6 [.ref x, .int y0, .ref p] w (OutX w 1) zNo := by
  refine Ct.ofH (by decide) rfl (Nat.le_of_ble_eq_true rfl) ?_
  refine go_aload_n 1 dL_settlesIn_0 rfl ?_
  refine go_iconst 2 dL_settlesIn_1 zc_0 ?_
  refine go_aload_n 3 dL_settlesIn_2 rfl ?_
  refine go_iload_n 4 dL_settlesIn_3 rfl ?_
  refine go_callVH (E := "java/lang/IndexOutOfBoundsException") 7 [.int y0] dL_settlesIn_4 vL_41 hx rfl c (by omega) (by decide) (by omega) (by omega) (Nat.le_of_ble_eq_true rfl) [] (0, 9, 12, 22) [] rfl (fun E' w' q => q.1) (fun z hz => nomatch hz) (by decide) (by decide) (zGood.mem 700 (by decide +kernel) rfl) (zNest.mem 254 (by decide +kernel) rfl) (fun v w' q => q.elim) ?_
  intro w9 q9 h9
  refine go_astore_n 13 dL_settlesIn_12 (by decide) ?_
  refine go_iconst 14 dL_settlesIn_13 zc_1 ?_
  exact go_ireturn dL_settlesIn_14 rfl (by omega) (by omega) ⟨rfl, h9.2⟩

set_option maxRecDepth 100000 in
set_option maxHeartbeats 4000000 in
theorem ct_L_answeredBy_0 {l : Launch} {Γ : ZG} {w : ZW} {x p : Nat} {y0 : Int32} {fs : List Value} {d' mc' ms' : Nat} {P : Int32 → ZW → Prop} (c : Ct l Γ mX5_answeredBy d' mc' ms' [.ref x, .int y0] w (fun v w2 => ∃ r, v = some (.int r) ∧ P r w2) zNo) (hd : d' ≤ 30) (hx : w.2 x = some (.inr (5, fs))) (ho : ∀ r w2, P r w2 → ∃ f, w2.2 p = some (lcell Γ f)) : Ct l Γ mL_answeredBy 32 mc' ms' [.ref x, .int y0, .ref p] w (OutP Γ p P) zNo := by
  refine Ct.ofH (by decide) rfl (Nat.le_of_ble_eq_true rfl) ?_
  refine go_aload_n 1 dL_answeredBy_0 rfl ?_
  refine go_iconst 2 dL_answeredBy_1 zc_0 ?_
  refine go_aload_n 3 dL_answeredBy_2 rfl ?_
  refine go_iload_n 4 dL_answeredBy_3 rfl ?_
  refine go_callV 7 [.int y0] dL_answeredBy_4 vL_44 hx rfl c (by omega) (by decide) (by omega) (by omega) (Nat.le_of_ble_eq_true rfl) ?_
  intro v9 w9 q9
  obtain ⟨r, rfl, hP⟩ := q9
  obtain ⟨f, hf⟩ := ho r w9 hP
  refine go_i2l 8 dL_answeredBy_7 ?_
  refine go_last 9 dL_answeredBy_8 hf (vp_in_nI (n := 0) (N := 1) (by decide) (by decide)) ?_
  refine go_goto 15 dL_answeredBy_9 ?_
  refine go_iconst 16 dL_answeredBy_15 zc_0 ?_
  exact go_ireturn dL_answeredBy_16 rfl (by omega) (by omega) ⟨rfl, r, w9, _, hP, rfl, rfl⟩

set_option maxRecDepth 100000 in
set_option maxHeartbeats 4000000 in
theorem ct_L_answeredBy_1 {l : Launch} {Γ : ZG} {w : ZW} {x p : Nat} {y0 : Int32} {fs : List Value} {d' : Nat} (c : Ct l Γ mX5_answeredBy d' 1 6 [.ref x, .int y0] w zNv (ThP "java/lang/IndexOutOfBoundsException" w)) (hd : d' ≤ 30) (hx : w.2 x = some (.inr (5, fs))) : Ct l Γ mL_answeredBy 32 1 6 [.ref x, .int y0, .ref p] w (OutX w 1) zNo := by
  refine Ct.ofH (by decide) rfl (Nat.le_of_ble_eq_true rfl) ?_
  refine go_aload_n 1 dL_answeredBy_0 rfl ?_
  refine go_iconst 2 dL_answeredBy_1 zc_0 ?_
  refine go_aload_n 3 dL_answeredBy_2 rfl ?_
  refine go_iload_n 4 dL_answeredBy_3 rfl ?_
  refine go_callVH (E := "java/lang/IndexOutOfBoundsException") 7 [.int y0] dL_answeredBy_4 vL_44 hx rfl c (by omega) (by decide) (by omega) (by omega) (Nat.le_of_ble_eq_true rfl) [] (0, 9, 12, 22) [] rfl (fun E' w' q => q.1) (fun z hz => nomatch hz) (by decide) (by decide) (zGood.mem 700 (by decide +kernel) rfl) (zNest.mem 254 (by decide +kernel) rfl) (fun v w' q => q.elim) ?_
  intro w9 q9 h9
  refine go_astore_n 13 dL_answeredBy_12 (by decide) ?_
  refine go_iconst 14 dL_answeredBy_13 zc_1 ?_
  exact go_ireturn dL_answeredBy_14 rfl (by omega) (by omega) ⟨rfl, h9.2⟩

set_option maxRecDepth 100000 in
set_option maxHeartbeats 4000000 in
theorem ct_L_pass_0 {l : Launch} {Γ : ZG} {w : ZW} {x p : Nat} {y0 : Int32} {fs : List Value} {d' mc' ms' : Nat} {P : Int32 → ZW → Prop} (c : Ct l Γ mX5_pass d' mc' ms' [.ref x, .int y0] w (fun v w2 => ∃ r, v = some (.int r) ∧ P r w2) zNo) (hd : d' ≤ 30) (hx : w.2 x = some (.inr (5, fs))) (ho : ∀ r w2, P r w2 → ∃ f, w2.2 p = some (lcell Γ f)) : Ct l Γ mL_pass 32 mc' ms' [.ref x, .int y0, .ref p] w (OutP Γ p P) zNo := by
  refine Ct.ofH (by decide) rfl (Nat.le_of_ble_eq_true rfl) ?_
  refine go_aload_n 1 dL_pass_0 rfl ?_
  refine go_iconst 2 dL_pass_1 zc_0 ?_
  refine go_aload_n 3 dL_pass_2 rfl ?_
  refine go_iload_n 4 dL_pass_3 rfl ?_
  refine go_callV 7 [.int y0] dL_pass_4 vL_47 hx rfl c (by omega) (by decide) (by omega) (by omega) (Nat.le_of_ble_eq_true rfl) ?_
  intro v9 w9 q9
  obtain ⟨r, rfl, hP⟩ := q9
  obtain ⟨f, hf⟩ := ho r w9 hP
  refine go_i2l 8 dL_pass_7 ?_
  refine go_last 9 dL_pass_8 hf (vp_in_nI (n := 0) (N := 1) (by decide) (by decide)) ?_
  refine go_goto 15 dL_pass_9 ?_
  refine go_iconst 16 dL_pass_15 zc_0 ?_
  exact go_ireturn dL_pass_16 rfl (by omega) (by omega) ⟨rfl, r, w9, _, hP, rfl, rfl⟩

set_option maxRecDepth 100000 in
set_option maxHeartbeats 4000000 in
theorem ct_L_pass_1 {l : Launch} {Γ : ZG} {w : ZW} {x p : Nat} {y0 : Int32} {fs : List Value} {d' : Nat} (c : Ct l Γ mX5_pass d' 1 6 [.ref x, .int y0] w zNv (ThP "java/lang/IllegalArgumentException" w)) (hd : d' ≤ 30) (hx : w.2 x = some (.inr (5, fs))) : Ct l Γ mL_pass 32 1 6 [.ref x, .int y0, .ref p] w (OutX w 1) zNo := by
  refine Ct.ofH (by decide) rfl (Nat.le_of_ble_eq_true rfl) ?_
  refine go_aload_n 1 dL_pass_0 rfl ?_
  refine go_iconst 2 dL_pass_1 zc_0 ?_
  refine go_aload_n 3 dL_pass_2 rfl ?_
  refine go_iload_n 4 dL_pass_3 rfl ?_
  refine go_callVH (E := "java/lang/IllegalArgumentException") 7 [.int y0] dL_pass_4 vL_47 hx rfl c (by omega) (by decide) (by omega) (by omega) (Nat.le_of_ble_eq_true rfl) [] (0, 9, 12, 13) [] rfl (fun E' w' q => q.1) (fun z hz => nomatch hz) (by decide) (by decide) (zGood.mem 496 (by decide +kernel) rfl) (zNest.mem 325 (by decide +kernel) rfl) (fun v w' q => q.elim) ?_
  intro w9 q9 h9
  refine go_astore_n 13 dL_pass_12 (by decide) ?_
  refine go_iconst 14 dL_pass_13 zc_1 ?_
  exact go_ireturn dL_pass_14 rfl (by omega) (by omega) ⟨rfl, h9.2⟩

set_option maxRecDepth 100000 in
set_option maxHeartbeats 4000000 in
theorem ct_L_dial_0 {l : Launch} {Γ : ZG} {w : ZW} {x p : Nat} {y0 y1 : Int32} {fs : List Value} {d' mc' ms' : Nat} {P : Int32 → ZW → Prop} (c : Ct l Γ mX5_dial d' mc' ms' [.ref x, .int y0, .int y1] w (fun v w2 => ∃ r, v = some (.int r) ∧ P r w2) zNo) (hd : d' ≤ 30) (hx : w.2 x = some (.inr (5, fs))) (ho : ∀ r w2, P r w2 → ∃ f, w2.2 p = some (lcell Γ f)) : Ct l Γ mL_dial 32 mc' ms' [.ref x, .int y0, .int y1, .ref p] w (OutP Γ p P) zNo := by
  refine Ct.ofH (by decide) rfl (Nat.le_of_ble_eq_true rfl) ?_
  refine go_aload_n 1 dL_dial_0 rfl ?_
  refine go_iconst 2 dL_dial_1 zc_0 ?_
  refine go_aload_n 3 dL_dial_2 rfl ?_
  refine go_iload_n 4 dL_dial_3 rfl ?_
  refine go_iload_n 5 dL_dial_4 rfl ?_
  refine go_callV 8 [.int y0, .int y1] dL_dial_5 vL_50 hx rfl c (by omega) (by decide) (by omega) (by omega) (Nat.le_of_ble_eq_true rfl) ?_
  intro v9 w9 q9
  obtain ⟨r, rfl, hP⟩ := q9
  obtain ⟨f, hf⟩ := ho r w9 hP
  refine go_i2l 9 dL_dial_8 ?_
  refine go_last 10 dL_dial_9 hf (vp_in_nI (n := 0) (N := 1) (by decide) (by decide)) ?_
  refine go_goto 25 dL_dial_10 ?_
  refine go_iconst 26 dL_dial_25 zc_0 ?_
  exact go_ireturn dL_dial_26 rfl (by omega) (by omega) ⟨rfl, r, w9, _, hP, rfl, rfl⟩

set_option maxRecDepth 100000 in
set_option maxHeartbeats 4000000 in
theorem ct_L_dial_1 {l : Launch} {Γ : ZG} {w : ZW} {x p : Nat} {y0 y1 : Int32} {fs : List Value} {d' : Nat} (c : Ct l Γ mX5_dial d' 1 6 [.ref x, .int y0, .int y1] w zNv (ThP "java/lang/IndexOutOfBoundsException" w)) (hd : d' ≤ 30) (hx : w.2 x = some (.inr (5, fs))) : Ct l Γ mL_dial 32 1 6 [.ref x, .int y0, .int y1, .ref p] w (OutX w 1) zNo := by
  refine Ct.ofH (by decide) rfl (Nat.le_of_ble_eq_true rfl) ?_
  refine go_aload_n 1 dL_dial_0 rfl ?_
  refine go_iconst 2 dL_dial_1 zc_0 ?_
  refine go_aload_n 3 dL_dial_2 rfl ?_
  refine go_iload_n 4 dL_dial_3 rfl ?_
  refine go_iload_n 5 dL_dial_4 rfl ?_
  refine go_callVH (E := "java/lang/IndexOutOfBoundsException") 8 [.int y0, .int y1] dL_dial_5 vL_50 hx rfl c (by omega) (by decide) (by omega) (by omega) (Nat.le_of_ble_eq_true rfl) [] (0, 10, 13, 22) [(0, 10, 17, 13), (0, 10, 21, 53)] rfl (fun E' w' q => q.1) (fun z hz => nomatch hz) (by decide) (by decide) (zGood.mem 700 (by decide +kernel) rfl) (zNest.mem 254 (by decide +kernel) rfl) (fun v w' q => q.elim) ?_
  intro w9 q9 h9
  refine go_astore 15 dL_dial_13 (by decide) ?_
  refine go_iconst 16 dL_dial_15 zc_1 ?_
  exact go_ireturn dL_dial_16 rfl (by omega) (by omega) ⟨rfl, h9.2⟩

set_option maxRecDepth 100000 in
set_option maxHeartbeats 4000000 in
theorem ct_L_dial_2 {l : Launch} {Γ : ZG} {w : ZW} {x p : Nat} {y0 y1 : Int32} {fs : List Value} {d' : Nat} (c : Ct l Γ mX5_dial d' 1 6 [.ref x, .int y0, .int y1] w zNv (ThP "java/lang/IllegalArgumentException" w)) (hd : d' ≤ 30) (hx : w.2 x = some (.inr (5, fs))) : Ct l Γ mL_dial 32 1 6 [.ref x, .int y0, .int y1, .ref p] w (OutX w 2) zNo := by
  refine Ct.ofH (by decide) rfl (Nat.le_of_ble_eq_true rfl) ?_
  refine go_aload_n 1 dL_dial_0 rfl ?_
  refine go_iconst 2 dL_dial_1 zc_0 ?_
  refine go_aload_n 3 dL_dial_2 rfl ?_
  refine go_iload_n 4 dL_dial_3 rfl ?_
  refine go_iload_n 5 dL_dial_4 rfl ?_
  refine go_callVH (E := "java/lang/IllegalArgumentException") 8 [.int y0, .int y1] dL_dial_5 vL_50 hx rfl c (by omega) (by decide) (by omega) (by omega) (Nat.le_of_ble_eq_true rfl) [(0, 10, 13, 22)] (0, 10, 17, 13) [(0, 10, 21, 53)] rfl (fun E' w' q => q.1) (List.forall_mem_singleton.mpr ⟨by decide, "java/lang/IndexOutOfBoundsException", zGood.mem 700 (by decide +kernel) rfl, by decide +kernel⟩) (by decide) (by decide) (zGood.mem 496 (by decide +kernel) rfl) (zNest.mem 325 (by decide +kernel) rfl) (fun v w' q => q.elim) ?_
  intro w9 q9 h9
  refine go_astore 19 dL_dial_17 (by decide) ?_
  refine go_iconst 20 dL_dial_19 zc_2 ?_
  exact go_ireturn dL_dial_20 rfl (by omega) (by omega) ⟨rfl, h9.2⟩

set_option maxRecDepth 100000 in
set_option maxHeartbeats 4000000 in
theorem ct_L_dial_3 {l : Launch} {Γ : ZG} {w : ZW} {x p : Nat} {y0 y1 : Int32} {fs : List Value} {d' : Nat} (c : Ct l Γ mX5_dial d' 1 6 [.ref x, .int y0, .int y1] w zNv (ThP "java/lang/IllegalStateException" w)) (hd : d' ≤ 30) (hx : w.2 x = some (.inr (5, fs))) : Ct l Γ mL_dial 32 1 6 [.ref x, .int y0, .int y1, .ref p] w (OutX w 3) zNo := by
  refine Ct.ofH (by decide) rfl (Nat.le_of_ble_eq_true rfl) ?_
  refine go_aload_n 1 dL_dial_0 rfl ?_
  refine go_iconst 2 dL_dial_1 zc_0 ?_
  refine go_aload_n 3 dL_dial_2 rfl ?_
  refine go_iload_n 4 dL_dial_3 rfl ?_
  refine go_iload_n 5 dL_dial_4 rfl ?_
  refine go_callVH (E := "java/lang/IllegalStateException") 8 [.int y0, .int y1] dL_dial_5 vL_50 hx rfl c (by omega) (by decide) (by omega) (by omega) (Nat.le_of_ble_eq_true rfl) [(0, 10, 13, 22), (0, 10, 17, 13)] (0, 10, 21, 53) [] rfl (fun E' w' q => q.1) (List.forall_mem_cons.mpr ⟨⟨by decide, "java/lang/IndexOutOfBoundsException", zGood.mem 700 (by decide +kernel) rfl, by decide +kernel⟩, List.forall_mem_singleton.mpr ⟨by decide, "java/lang/IllegalArgumentException", zGood.mem 496 (by decide +kernel) rfl, by decide +kernel⟩⟩) (by decide) (by decide) (zGood.mem 829 (by decide +kernel) rfl) (zNest.mem 752 (by decide +kernel) rfl) (fun v w' q => q.elim) ?_
  intro w9 q9 h9
  refine go_astore 23 dL_dial_21 (by decide) ?_
  refine go_iconst 24 dL_dial_23 zc_3 ?_
  exact go_ireturn dL_dial_24 rfl (by omega) (by omega) ⟨rfl, h9.2⟩

set_option maxRecDepth 100000 in
set_option maxHeartbeats 4000000 in
theorem ct_L_transfer_0 {l : Launch} {Γ : ZG} {w : ZW} {x p : Nat} {y0 y1 : Int32} {fs : List Value} {d' mc' ms' : Nat} {P : Int32 → ZW → Prop} (c : Ct l Γ mX5_transfer d' mc' ms' [.ref x, .int y0, .int y1] w (fun v w2 => ∃ r, v = some (.int r) ∧ P r w2) zNo) (hd : d' ≤ 30) (hx : w.2 x = some (.inr (5, fs))) (ho : ∀ r w2, P r w2 → ∃ f, w2.2 p = some (lcell Γ f)) : Ct l Γ mL_transfer 32 mc' ms' [.ref x, .int y0, .int y1, .ref p] w (OutP Γ p P) zNo := by
  refine Ct.ofH (by decide) rfl (Nat.le_of_ble_eq_true rfl) ?_
  refine go_aload_n 1 dL_transfer_0 rfl ?_
  refine go_iconst 2 dL_transfer_1 zc_0 ?_
  refine go_aload_n 3 dL_transfer_2 rfl ?_
  refine go_iload_n 4 dL_transfer_3 rfl ?_
  refine go_iload_n 5 dL_transfer_4 rfl ?_
  refine go_callV 8 [.int y0, .int y1] dL_transfer_5 vL_55 hx rfl c (by omega) (by decide) (by omega) (by omega) (Nat.le_of_ble_eq_true rfl) ?_
  intro v9 w9 q9
  obtain ⟨r, rfl, hP⟩ := q9
  obtain ⟨f, hf⟩ := ho r w9 hP
  refine go_i2l 9 dL_transfer_8 ?_
  refine go_last 10 dL_transfer_9 hf (vp_in_nI (n := 0) (N := 1) (by decide) (by decide)) ?_
  refine go_goto 25 dL_transfer_10 ?_
  refine go_iconst 26 dL_transfer_25 zc_0 ?_
  exact go_ireturn dL_transfer_26 rfl (by omega) (by omega) ⟨rfl, r, w9, _, hP, rfl, rfl⟩

set_option maxRecDepth 100000 in
set_option maxHeartbeats 4000000 in
theorem ct_L_transfer_1 {l : Launch} {Γ : ZG} {w : ZW} {x p : Nat} {y0 y1 : Int32} {fs : List Value} {d' : Nat} (c : Ct l Γ mX5_transfer d' 1 6 [.ref x, .int y0, .int y1] w zNv (ThP "java/lang/IndexOutOfBoundsException" w)) (hd : d' ≤ 30) (hx : w.2 x = some (.inr (5, fs))) : Ct l Γ mL_transfer 32 1 6 [.ref x, .int y0, .int y1, .ref p] w (OutX w 1) zNo := by
  refine Ct.ofH (by decide) rfl (Nat.le_of_ble_eq_true rfl) ?_
  refine go_aload_n 1 dL_transfer_0 rfl ?_
  refine go_iconst 2 dL_transfer_1 zc_0 ?_
  refine go_aload_n 3 dL_transfer_2 rfl ?_
  refine go_iload_n 4 dL_transfer_3 rfl ?_
  refine go_iload_n 5 dL_transfer_4 rfl ?_
  refine go_callVH (E := "java/lang/IndexOutOfBoundsException") 8 [.int y0, .int y1] dL_transfer_5 vL_55 hx rfl c (by omega) (by decide) (by omega) (by omega) (Nat.le_of_ble_eq_true rfl) [] (0, 10, 13, 22) [(0, 10, 17, 53), (0, 10, 21, 13)] rfl (fun E' w' q => q.1) (fun z hz => nomatch hz) (by decide) (by decide) (zGood.mem 700 (by decide +kernel) rfl) (zNest.mem 254 (by decide +kernel) rfl) (fun v w' q => q.elim) ?_
  intro w9 q9 h9
  refine go_astore 15 dL_transfer_13 (by decide) ?_
  refine go_iconst 16 dL_transfer_15 zc_1 ?_
  exact go_ireturn dL_transfer_16 rfl (by omega) (by omega) ⟨rfl, h9.2⟩

set_option maxRecDepth 100000 in
set_option maxHeartbeats 4000000 in
theorem ct_L_transfer_2 {l : Launch} {Γ : ZG} {w : ZW} {x p : Nat} {y0 y1 : Int32} {fs : List Value} {d' : Nat} (c : Ct l Γ mX5_transfer d' 1 6 [.ref x, .int y0, .int y1] w zNv (ThP "java/lang/IllegalStateException" w)) (hd : d' ≤ 30) (hx : w.2 x = some (.inr (5, fs))) : Ct l Γ mL_transfer 32 1 6 [.ref x, .int y0, .int y1, .ref p] w (OutX w 2) zNo := by
  refine Ct.ofH (by decide) rfl (Nat.le_of_ble_eq_true rfl) ?_
  refine go_aload_n 1 dL_transfer_0 rfl ?_
  refine go_iconst 2 dL_transfer_1 zc_0 ?_
  refine go_aload_n 3 dL_transfer_2 rfl ?_
  refine go_iload_n 4 dL_transfer_3 rfl ?_
  refine go_iload_n 5 dL_transfer_4 rfl ?_
  refine go_callVH (E := "java/lang/IllegalStateException") 8 [.int y0, .int y1] dL_transfer_5 vL_55 hx rfl c (by omega) (by decide) (by omega) (by omega) (Nat.le_of_ble_eq_true rfl) [(0, 10, 13, 22)] (0, 10, 17, 53) [(0, 10, 21, 13)] rfl (fun E' w' q => q.1) (List.forall_mem_singleton.mpr ⟨by decide, "java/lang/IndexOutOfBoundsException", zGood.mem 700 (by decide +kernel) rfl, by decide +kernel⟩) (by decide) (by decide) (zGood.mem 829 (by decide +kernel) rfl) (zNest.mem 752 (by decide +kernel) rfl) (fun v w' q => q.elim) ?_
  intro w9 q9 h9
  refine go_astore 19 dL_transfer_17 (by decide) ?_
  refine go_iconst 20 dL_transfer_19 zc_2 ?_
  exact go_ireturn dL_transfer_20 rfl (by omega) (by omega) ⟨rfl, h9.2⟩

set_option maxRecDepth 100000 in
set_option maxHeartbeats 4000000 in
theorem ct_L_transfer_3 {l : Launch} {Γ : ZG} {w : ZW} {x p : Nat} {y0 y1 : Int32} {fs : List Value} {d' : Nat} (c : Ct l Γ mX5_transfer d' 1 6 [.ref x, .int y0, .int y1] w zNv (ThP "java/lang/IllegalArgumentException" w)) (hd : d' ≤ 30) (hx : w.2 x = some (.inr (5, fs))) : Ct l Γ mL_transfer 32 1 6 [.ref x, .int y0, .int y1, .ref p] w (OutX w 3) zNo := by
  refine Ct.ofH (by decide) rfl (Nat.le_of_ble_eq_true rfl) ?_
  refine go_aload_n 1 dL_transfer_0 rfl ?_
  refine go_iconst 2 dL_transfer_1 zc_0 ?_
  refine go_aload_n 3 dL_transfer_2 rfl ?_
  refine go_iload_n 4 dL_transfer_3 rfl ?_
  refine go_iload_n 5 dL_transfer_4 rfl ?_
  refine go_callVH (E := "java/lang/IllegalArgumentException") 8 [.int y0, .int y1] dL_transfer_5 vL_55 hx rfl c (by omega) (by decide) (by omega) (by omega) (Nat.le_of_ble_eq_true rfl) [(0, 10, 13, 22), (0, 10, 17, 53)] (0, 10, 21, 13) [] rfl (fun E' w' q => q.1) (List.forall_mem_cons.mpr ⟨⟨by decide, "java/lang/IndexOutOfBoundsException", zGood.mem 700 (by decide +kernel) rfl, by decide +kernel⟩, List.forall_mem_singleton.mpr ⟨by decide, "java/lang/IllegalStateException", zGood.mem 829 (by decide +kernel) rfl, by decide +kernel⟩⟩) (by decide) (by decide) (zGood.mem 496 (by decide +kernel) rfl) (zNest.mem 325 (by decide +kernel) rfl) (fun v w' q => q.elim) ?_
  intro w9 q9 h9
  refine go_astore 23 dL_transfer_21 (by decide) ?_
  refine go_iconst 24 dL_transfer_23 zc_3 ?_
  exact go_ireturn dL_transfer_24 rfl (by omega) (by omega) ⟨rfl, h9.2⟩

set_option maxRecDepth 100000 in
set_option maxHeartbeats 4000000 in
theorem ct_L_hangUp_0 {l : Launch} {Γ : ZG} {w : ZW} {x p : Nat} {y0 : Int32} {fs : List Value} {d' mc' ms' : Nat} {P : Int32 → ZW → Prop} (c : Ct l Γ mX5_hangUp d' mc' ms' [.ref x, .int y0] w (fun v w2 => ∃ r, v = some (.int r) ∧ P r w2) zNo) (hd : d' ≤ 30) (hx : w.2 x = some (.inr (5, fs))) (ho : ∀ r w2, P r w2 → ∃ f, w2.2 p = some (lcell Γ f)) : Ct l Γ mL_hangUp 32 mc' ms' [.ref x, .int y0, .ref p] w (OutP Γ p P) zNo := by
  refine Ct.ofH (by decide) rfl (Nat.le_of_ble_eq_true rfl) ?_
  refine go_aload_n 1 dL_hangUp_0 rfl ?_
  refine go_iconst 2 dL_hangUp_1 zc_0 ?_
  refine go_aload_n 3 dL_hangUp_2 rfl ?_
  refine go_iload_n 4 dL_hangUp_3 rfl ?_
  refine go_callV 7 [.int y0] dL_hangUp_4 vL_58 hx rfl c (by omega) (by decide) (by omega) (by omega) (Nat.le_of_ble_eq_true rfl) ?_
  intro v9 w9 q9
  obtain ⟨r, rfl, hP⟩ := q9
  obtain ⟨f, hf⟩ := ho r w9 hP
  refine go_i2l 8 dL_hangUp_7 ?_
  refine go_last 9 dL_hangUp_8 hf (vp_in_nI (n := 0) (N := 1) (by decide) (by decide)) ?_
  refine go_goto 15 dL_hangUp_9 ?_
  refine go_iconst 16 dL_hangUp_15 zc_0 ?_
  exact go_ireturn dL_hangUp_16 rfl (by omega) (by omega) ⟨rfl, r, w9, _, hP, rfl, rfl⟩

set_option maxRecDepth 100000 in
set_option maxHeartbeats 4000000 in
theorem ct_L_hangUp_1 {l : Launch} {Γ : ZG} {w : ZW} {x p : Nat} {y0 : Int32} {fs : List Value} {d' : Nat} (c : Ct l Γ mX5_hangUp d' 1 6 [.ref x, .int y0] w zNv (ThP "java/lang/IndexOutOfBoundsException" w)) (hd : d' ≤ 30) (hx : w.2 x = some (.inr (5, fs))) : Ct l Γ mL_hangUp 32 1 6 [.ref x, .int y0, .ref p] w (OutX w 1) zNo := by
  refine Ct.ofH (by decide) rfl (Nat.le_of_ble_eq_true rfl) ?_
  refine go_aload_n 1 dL_hangUp_0 rfl ?_
  refine go_iconst 2 dL_hangUp_1 zc_0 ?_
  refine go_aload_n 3 dL_hangUp_2 rfl ?_
  refine go_iload_n 4 dL_hangUp_3 rfl ?_
  refine go_callVH (E := "java/lang/IndexOutOfBoundsException") 7 [.int y0] dL_hangUp_4 vL_58 hx rfl c (by omega) (by decide) (by omega) (by omega) (Nat.le_of_ble_eq_true rfl) [] (0, 9, 12, 22) [] rfl (fun E' w' q => q.1) (fun z hz => nomatch hz) (by decide) (by decide) (zGood.mem 700 (by decide +kernel) rfl) (zNest.mem 254 (by decide +kernel) rfl) (fun v w' q => q.elim) ?_
  intro w9 q9 h9
  refine go_astore_n 13 dL_hangUp_12 (by decide) ?_
  refine go_iconst 14 dL_hangUp_13 zc_1 ?_
  exact go_ireturn dL_hangUp_14 rfl (by omega) (by omega) ⟨rfl, h9.2⟩

set_option maxRecDepth 100000 in
set_option maxHeartbeats 4000000 in
theorem ct_L_offer_0 {l : Launch} {Γ : ZG} {w : ZW} {x p : Nat} {y0 y1 : Int32} {fs : List Value} {d' mc' ms' : Nat} {P : Int32 → ZW → Prop} (c : Ct l Γ mX5_offer d' mc' ms' [.ref x, .int y0, .int y1] w (fun v w2 => ∃ r, v = some (.int r) ∧ P r w2) zNo) (hd : d' ≤ 30) (hx : w.2 x = some (.inr (5, fs))) (ho : ∀ r w2, P r w2 → ∃ f, w2.2 p = some (lcell Γ f)) : Ct l Γ mL_offer 32 mc' ms' [.ref x, .int y0, .int y1, .ref p] w (OutP Γ p P) zNo := by
  refine Ct.ofH (by decide) rfl (Nat.le_of_ble_eq_true rfl) ?_
  refine go_aload_n 1 dL_offer_0 rfl ?_
  refine go_iconst 2 dL_offer_1 zc_0 ?_
  refine go_aload_n 3 dL_offer_2 rfl ?_
  refine go_iload_n 4 dL_offer_3 rfl ?_
  refine go_iload_n 5 dL_offer_4 rfl ?_
  refine go_callV 8 [.int y0, .int y1] dL_offer_5 vL_61 hx rfl c (by omega) (by decide) (by omega) (by omega) (Nat.le_of_ble_eq_true rfl) ?_
  intro v9 w9 q9
  obtain ⟨r, rfl, hP⟩ := q9
  obtain ⟨f, hf⟩ := ho r w9 hP
  refine go_i2l 9 dL_offer_8 ?_
  refine go_last 10 dL_offer_9 hf (vp_in_nI (n := 0) (N := 1) (by decide) (by decide)) ?_
  refine go_goto 25 dL_offer_10 ?_
  refine go_iconst 26 dL_offer_25 zc_0 ?_
  exact go_ireturn dL_offer_26 rfl (by omega) (by omega) ⟨rfl, r, w9, _, hP, rfl, rfl⟩

set_option maxRecDepth 100000 in
set_option maxHeartbeats 4000000 in
theorem ct_L_offer_1 {l : Launch} {Γ : ZG} {w : ZW} {x p : Nat} {y0 y1 : Int32} {fs : List Value} {d' : Nat} (c : Ct l Γ mX5_offer d' 1 6 [.ref x, .int y0, .int y1] w zNv (ThP "java/lang/IndexOutOfBoundsException" w)) (hd : d' ≤ 30) (hx : w.2 x = some (.inr (5, fs))) : Ct l Γ mL_offer 32 1 6 [.ref x, .int y0, .int y1, .ref p] w (OutX w 1) zNo := by
  refine Ct.ofH (by decide) rfl (Nat.le_of_ble_eq_true rfl) ?_
  refine go_aload_n 1 dL_offer_0 rfl ?_
  refine go_iconst 2 dL_offer_1 zc_0 ?_
  refine go_aload_n 3 dL_offer_2 rfl ?_
  refine go_iload_n 4 dL_offer_3 rfl ?_
  refine go_iload_n 5 dL_offer_4 rfl ?_
  refine go_callVH (E := "java/lang/IndexOutOfBoundsException") 8 [.int y0, .int y1] dL_offer_5 vL_61 hx rfl c (by omega) (by decide) (by omega) (by omega) (Nat.le_of_ble_eq_true rfl) [] (0, 10, 13, 22) [(0, 10, 17, 13), (0, 10, 21, 53)] rfl (fun E' w' q => q.1) (fun z hz => nomatch hz) (by decide) (by decide) (zGood.mem 700 (by decide +kernel) rfl) (zNest.mem 254 (by decide +kernel) rfl) (fun v w' q => q.elim) ?_
  intro w9 q9 h9
  refine go_astore 15 dL_offer_13 (by decide) ?_
  refine go_iconst 16 dL_offer_15 zc_1 ?_
  exact go_ireturn dL_offer_16 rfl (by omega) (by omega) ⟨rfl, h9.2⟩

set_option maxRecDepth 100000 in
set_option maxHeartbeats 4000000 in
theorem ct_L_offer_2 {l : Launch} {Γ : ZG} {w : ZW} {x p : Nat} {y0 y1 : Int32} {fs : List Value} {d' : Nat} (c : Ct l Γ mX5_offer d' 1 6 [.ref x, .int y0, .int y1] w zNv (ThP "java/lang/IllegalArgumentException" w)) (hd : d' ≤ 30) (hx : w.2 x = some (.inr (5, fs))) : Ct l Γ mL_offer 32 1 6 [.ref x, .int y0, .int y1, .ref p] w (OutX w 2) zNo := by
  refine Ct.ofH (by decide) rfl (Nat.le_of_ble_eq_true rfl) ?_
  refine go_aload_n 1 dL_offer_0 rfl ?_
  refine go_iconst 2 dL_offer_1 zc_0 ?_
  refine go_aload_n 3 dL_offer_2 rfl ?_
  refine go_iload_n 4 dL_offer_3 rfl ?_
  refine go_iload_n 5 dL_offer_4 rfl ?_
  refine go_callVH (E := "java/lang/IllegalArgumentException") 8 [.int y0, .int y1] dL_offer_5 vL_61 hx rfl c (by omega) (by decide) (by omega) (by omega) (Nat.le_of_ble_eq_true rfl) [(0, 10, 13, 22)] (0, 10, 17, 13) [(0, 10, 21, 53)] rfl (fun E' w' q => q.1) (List.forall_mem_singleton.mpr ⟨by decide, "java/lang/IndexOutOfBoundsException", zGood.mem 700 (by decide +kernel) rfl, by decide +kernel⟩) (by decide) (by decide) (zGood.mem 496 (by decide +kernel) rfl) (zNest.mem 325 (by decide +kernel) rfl) (fun v w' q => q.elim) ?_
  intro w9 q9 h9
  refine go_astore 19 dL_offer_17 (by decide) ?_
  refine go_iconst 20 dL_offer_19 zc_2 ?_
  exact go_ireturn dL_offer_20 rfl (by omega) (by omega) ⟨rfl, h9.2⟩

set_option maxRecDepth 100000 in
set_option maxHeartbeats 4000000 in
theorem ct_L_offer_3 {l : Launch} {Γ : ZG} {w : ZW} {x p : Nat} {y0 y1 : Int32} {fs : List Value} {d' : Nat} (c : Ct l Γ mX5_offer d' 1 6 [.ref x, .int y0, .int y1] w zNv (ThP "java/lang/IllegalStateException" w)) (hd : d' ≤ 30) (hx : w.2 x = some (.inr (5, fs))) : Ct l Γ mL_offer 32 1 6 [.ref x, .int y0, .int y1, .ref p] w (OutX w 3) zNo := by
  refine Ct.ofH (by decide) rfl (Nat.le_of_ble_eq_true rfl) ?_
  refine go_aload_n 1 dL_offer_0 rfl ?_
  refine go_iconst 2 dL_offer_1 zc_0 ?_
  refine go_aload_n 3 dL_offer_2 rfl ?_
  refine go_iload_n 4 dL_offer_3 rfl ?_
  refine go_iload_n 5 dL_offer_4 rfl ?_
  refine go_callVH (E := "java/lang/IllegalStateException") 8 [.int y0, .int y1] dL_offer_5 vL_61 hx rfl c (by omega) (by decide) (by omega) (by omega) (Nat.le_of_ble_eq_true rfl) [(0, 10, 13, 22), (0, 10, 17, 13)] (0, 10, 21, 53) [] rfl (fun E' w' q => q.1) (List.forall_mem_cons.mpr ⟨⟨by decide, "java/lang/IndexOutOfBoundsException", zGood.mem 700 (by decide +kernel) rfl, by decide +kernel⟩, List.forall_mem_singleton.mpr ⟨by decide, "java/lang/IllegalArgumentException", zGood.mem 496 (by decide +kernel) rfl, by decide +kernel⟩⟩) (by decide) (by decide) (zGood.mem 829 (by decide +kernel) rfl) (zNest.mem 752 (by decide +kernel) rfl) (fun v w' q => q.elim) ?_
  intro w9 q9 h9
  refine go_astore 23 dL_offer_21 (by decide) ?_
  refine go_iconst 24 dL_offer_23 zc_3 ?_
  exact go_ireturn dL_offer_24 rfl (by omega) (by omega) ⟨rfl, h9.2⟩

set_option maxRecDepth 100000 in
set_option maxHeartbeats 4000000 in
theorem ct_L_setParty_0 {l : Launch} {Γ : ZG} {w : ZW} {x p : Nat} {y0 y1 y2 : Int32} {fs : List Value} {d' mc' ms' : Nat} {P : Int32 → ZW → Prop} (c : Ct l Γ mX5_setParty d' mc' ms' [.ref x, .int y0, .int y1, .int y2] w (fun v w2 => ∃ r, v = some (.int r) ∧ P r w2) zNo) (hd : d' ≤ 30) (hx : w.2 x = some (.inr (5, fs))) (ho : ∀ r w2, P r w2 → ∃ f, w2.2 p = some (lcell Γ f)) : Ct l Γ mL_setParty 32 mc' ms' [.ref x, .int y0, .int y1, .int y2, .ref p] w (OutP Γ p P) zNo := by
  refine Ct.ofH (by decide) rfl (Nat.le_of_ble_eq_true rfl) ?_
  refine go_aload 2 dL_setParty_0 rfl ?_
  refine go_iconst 3 dL_setParty_2 zc_0 ?_
  refine go_aload_n 4 dL_setParty_3 rfl ?_
  refine go_iload_n 5 dL_setParty_4 rfl ?_
  refine go_iload_n 6 dL_setParty_5 rfl ?_
  refine go_iload_n 7 dL_setParty_6 rfl ?_
  refine go_callV 10 [.int y0, .int y1, .int y2] dL_setParty_7 vL_64 hx rfl c (by omega) (by decide) (by omega) (by omega) (Nat.le_of_ble_eq_true rfl) ?_
  intro v9 w9 q9
  obtain ⟨r, rfl, hP⟩ := q9
  obtain ⟨f, hf⟩ := ho r w9 hP
  refine go_i2l 11 dL_setParty_10 ?_
  refine go_last 12 dL_setParty_11 hf (vp_in_nI (n := 0) (N := 1) (by decide) (by decide)) ?_
  refine go_goto 23 dL_setParty_12 ?_
  refine go_iconst 24 dL_setParty_23 zc_0 ?_
  exact go_ireturn dL_setParty_24 rfl (by omega) (by omega) ⟨rfl, r, w9, _, hP, rfl, rfl⟩

set_option maxRecDepth 100000 in
set_option maxHeartbeats 4000000 in
theorem ct_L_setParty_1 {l : Launch} {Γ : ZG} {w : ZW} {x p : Nat} {y0 y1 y2 : Int32} {fs : List Value} {d' : Nat} (c : Ct l Γ mX5_setParty d' 1 6 [.ref x, .int y0, .int y1, .int y2] w zNv (ThP "java/lang/IndexOutOfBoundsException" w)) (hd : d' ≤ 30) (hx : w.2 x = some (.inr (5, fs))) : Ct l Γ mL_setParty 32 1 6 [.ref x, .int y0, .int y1, .int y2, .ref p] w (OutX w 1) zNo := by
  refine Ct.ofH (by decide) rfl (Nat.le_of_ble_eq_true rfl) ?_
  refine go_aload 2 dL_setParty_0 rfl ?_
  refine go_iconst 3 dL_setParty_2 zc_0 ?_
  refine go_aload_n 4 dL_setParty_3 rfl ?_
  refine go_iload_n 5 dL_setParty_4 rfl ?_
  refine go_iload_n 6 dL_setParty_5 rfl ?_
  refine go_iload_n 7 dL_setParty_6 rfl ?_
  refine go_callVH (E := "java/lang/IndexOutOfBoundsException") 10 [.int y0, .int y1, .int y2] dL_setParty_7 vL_64 hx rfl c (by omega) (by decide) (by omega) (by omega) (Nat.le_of_ble_eq_true rfl) [] (0, 12, 15, 22) [(0, 12, 19, 13)] rfl (fun E' w' q => q.1) (fun z hz => nomatch hz) (by decide) (by decide) (zGood.mem 700 (by decide +kernel) rfl) (zNest.mem 254 (by decide +kernel) rfl) (fun v w' q => q.elim) ?_
  intro w9 q9 h9
  refine go_astore 17 dL_setParty_15 (by decide) ?_
  refine go_iconst 18 dL_setParty_17 zc_1 ?_
  exact go_ireturn dL_setParty_18 rfl (by omega) (by omega) ⟨rfl, h9.2⟩

set_option maxRecDepth 100000 in
set_option maxHeartbeats 4000000 in
theorem ct_L_setParty_2 {l : Launch} {Γ : ZG} {w : ZW} {x p : Nat} {y0 y1 y2 : Int32} {fs : List Value} {d' : Nat} (c : Ct l Γ mX5_setParty d' 1 6 [.ref x, .int y0, .int y1, .int y2] w zNv (ThP "java/lang/IllegalArgumentException" w)) (hd : d' ≤ 30) (hx : w.2 x = some (.inr (5, fs))) : Ct l Γ mL_setParty 32 1 6 [.ref x, .int y0, .int y1, .int y2, .ref p] w (OutX w 2) zNo := by
  refine Ct.ofH (by decide) rfl (Nat.le_of_ble_eq_true rfl) ?_
  refine go_aload 2 dL_setParty_0 rfl ?_
  refine go_iconst 3 dL_setParty_2 zc_0 ?_
  refine go_aload_n 4 dL_setParty_3 rfl ?_
  refine go_iload_n 5 dL_setParty_4 rfl ?_
  refine go_iload_n 6 dL_setParty_5 rfl ?_
  refine go_iload_n 7 dL_setParty_6 rfl ?_
  refine go_callVH (E := "java/lang/IllegalArgumentException") 10 [.int y0, .int y1, .int y2] dL_setParty_7 vL_64 hx rfl c (by omega) (by decide) (by omega) (by omega) (Nat.le_of_ble_eq_true rfl) [(0, 12, 15, 22)] (0, 12, 19, 13) [] rfl (fun E' w' q => q.1) (List.forall_mem_singleton.mpr ⟨by decide, "java/lang/IndexOutOfBoundsException", zGood.mem 700 (by decide +kernel) rfl, by decide +kernel⟩) (by decide) (by decide) (zGood.mem 496 (by decide +kernel) rfl) (zNest.mem 325 (by decide +kernel) rfl) (fun v w' q => q.elim) ?_
  intro w9 q9 h9
  refine go_astore 21 dL_setParty_19 (by decide) ?_
  refine go_iconst 22 dL_setParty_21 zc_2 ?_
  exact go_ireturn dL_setParty_22 rfl (by omega) (by omega) ⟨rfl, h9.2⟩
end CWrap
