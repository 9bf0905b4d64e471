section LWrap
/-- behind a wrapper whose call threw -/
def OutX (w : ZW) (k : Int32) : Option Value → ZW → Prop := fun v w2 => v = some (.int k) ∧ w2.2 = w.2 ∧ w.1 ≤ w2.1

set_option maxRecDepth 100000 in
set_option maxHeartbeats 4000000 in
theorem ct_L_load_0 {l : Launch} {Γ : ZG} {w : ZW} {x : Nat} {y0 : Int32} {fs : List Value} {d' mc' ms' : Nat} {Φ : Option Value → ZW → Prop} (c : Ct l Γ mX5_load d' mc' ms' [.ref x, .int y0] w Φ zNo) (hd : d' ≤ 30) (hx : w.2 x = some (.inr (5, fs))) (hv : ∀ v w2, Φ v w2 → ∃ r, v = some (.int r)) : Ct l Γ mL_load 32 mc' ms' [.ref x, .int y0] w Φ zNo := by
  refine Ct.ofH (by decide) rfl (Nat.le_of_ble_eq_true rfl) ?_
  refine go_aload_n 1 dL_load_0 rfl ?_
  refine go_iload_n 2 dL_load_1 rfl ?_
  refine go_callV 5 [.int y0] dL_load_2 vL_37 hx rfl c (by omega) (by decide) (by omega) (by omega) (Nat.le_of_ble_eq_true rfl) ?_
  intro v9 w9 q9
  obtain ⟨r, rfl⟩ := hv _ _ q9
  exact go_ireturn dL_load_5 rfl (by omega) (by omega) q9

set_option maxRecDepth 100000 in
set_option maxHeartbeats 4000000 in
theorem ct_L_load_1 {l : Launch} {Γ : ZG} {w : ZW} {x : Nat} {y0 : Int32} {fs : List Value} {d' : Nat} (c : Ct l Γ mX5_load d' 1 6 [.ref x, .int y0] w zNv (ThP "java/lang/IllegalArgumentException" w)) (hd : d' ≤ 30) (hx : w.2 x = some (.inr (5, fs))) : Ct l Γ mL_load 32 1 6 [.ref x, .int y0] w (OutX w (-2000000098)) zNo := by
  refine Ct.ofH (by decide) rfl (Nat.le_of_ble_eq_true rfl) ?_
  refine go_aload_n 1 dL_load_0 rfl ?_
  refine go_iload_n 2 dL_load_1 rfl ?_
  refine go_callVH (E := "java/lang/IllegalArgumentException") 5 [.int y0] dL_load_2 vL_37 hx rfl c (by omega) (by decide) (by omega) (by omega) (Nat.le_of_ble_eq_true rfl) [] (0, 5, 6, 40) [] rfl (fun E' w' q => q.1) (fun z hz => nomatch hz) (by decide) (by decide) (zGood.mem 515 (by decide +kernel) rfl) (zNest.mem 482 (by decide +kernel) rfl) (fun v w' q => q.elim) ?_
  intro w9 q9 h9
  refine go_astore_n 7 dL_load_6 (by decide) ?_
  refine go_ldc 9 dL_load_7 ciL_42 ?_
  exact go_ireturn dL_load_9 rfl (by omega) (by omega) ⟨rfl, h9.2⟩

set_option maxRecDepth 100000 in
set_option maxHeartbeats 4000000 in
theorem ct_L_pending_0 {l : Launch} {Γ : ZG} {w : ZW} {x : Nat} {y0 y1 : Int32} {fs : List Value} {d' mc' ms' : Nat} {Φ : Option Value → ZW → Prop} (c : Ct l Γ mX5_pending d' mc' ms' [.ref x, .int y0, .int y1] w Φ zNo) (hd : d' ≤ 30) (hx : w.2 x = some (.inr (5, fs))) (hv : ∀ v w2, Φ v w2 → ∃ r, v = some (.int r)) : Ct l Γ mL_pending 32 mc' ms' [.ref x, .int y0, .int y1] w Φ zNo := by
  refine Ct.ofH (by decide) rfl (Nat.le_of_ble_eq_true rfl) ?_
  refine go_aload_n 1 dL_pending_0 rfl ?_
  refine go_iload_n 2 dL_pending_1 rfl ?_
  refine go_iload_n 3 dL_pending_2 rfl ?_
  refine go_callV 6 [.int y0, .int y1] dL_pending_3 vL_59 hx rfl c (by omega) (by decide) (by omega) (by omega) (Nat.le_of_ble_eq_true rfl) ?_
  intro v9 w9 q9
  obtain ⟨r, rfl⟩ := hv _ _ q9
  exact go_ireturn dL_pending_6 rfl (by omega) (by omega) q9

set_option maxRecDepth 100000 in
set_option maxHeartbeats 4000000 in
theorem ct_L_pending_1 {l : Launch} {Γ : ZG} {w : ZW} {x : Nat} {y0 y1 : Int32} {fs : List Value} {d' : Nat} (c : Ct l Γ mX5_pending d' 1 6 [.ref x, .int y0, .int y1] w zNv (ThP "java/lang/IndexOutOfBoundsException" w)) (hd : d' ≤ 30) (hx : w.2 x = some (.inr (5, fs))) : Ct l Γ mL_pending 32 1 6 [.ref x, .int y0, .int y1] w (OutX w (-2000000097)) zNo := by
  refine Ct.ofH (by decide) rfl (Nat.le_of_ble_eq_true rfl) ?_
  refine go_aload_n 1 dL_pending_0 rfl ?_
  refine go_iload_n 2 dL_pending_1 rfl ?_
  refine go_iload_n 3 dL_pending_2 rfl ?_
  refine go_callVH (E := "java/lang/IndexOutOfBoundsException") 6 [.int y0, .int y1] dL_pending_3 vL_59 hx rfl c (by omega) (by decide) (by omega) (by omega) (Nat.le_of_ble_eq_true rfl) [] (0, 6, 7, 50) [(0, 6, 11, 62), (0, 6, 15, 40)] rfl (fun E' w' q => q.1) (fun z hz => nomatch hz) (by decide) (by decide) (zGood.mem 774 (by decide +kernel) rfl) (zNest.mem 747 (by decide +kernel) rfl) (fun v w' q => q.elim) ?_
  intro w9 q9 h9
  refine go_astore_n 8 dL_pending_7 (by decide) ?_
  refine go_ldc 10 dL_pending_8 ciL_52 ?_
  exact go_ireturn dL_pending_10 rfl (by omega) (by omega) ⟨rfl, h9.2⟩

set_option maxRecDepth 100000 in
set_option maxHeartbeats 4000000 in
theorem ct_L_pending_2 {l : Launch} {Γ : ZG} {w : ZW} {x : Nat} {y0 y1 : Int32} {fs : List Value} {d' : Nat} (c : Ct l Γ mX5_pending d' 1 6 [.ref x, .int y0, .int y1] w zNv (ThP "java/util/NoSuchElementException" w)) (hd : d' ≤ 30) (hx : w.2 x = some (.inr (5, fs))) : Ct l Γ mL_pending 32 1 6 [.ref x, .int y0, .int y1] w (OutX w (-2000000100)) zNo := by
  refine Ct.ofH (by decide) rfl (Nat.le_of_ble_eq_true rfl) ?_
  refine go_aload_n 1 dL_pending_0 rfl ?_
  refine go_iload_n 2 dL_pending_1 rfl ?_
  refine go_iload_n 3 dL_pending_2 rfl ?_
  refine go_callVH (E := "java/util/NoSuchElementException") 6 [.int y0, .int y1] dL_pending_3 vL_59 hx rfl c (by omega) (by decide) (by omega) (by omega) (Nat.le_of_ble_eq_true rfl) [(0, 6, 7, 50)] (0, 6, 11, 62) [(0, 6, 15, 40)] rfl (fun E' w' q => q.1) (List.forall_mem_singleton.mpr ⟨by decide, "java/lang/IndexOutOfBoundsException", zGood.mem 774 (by decide +kernel) rfl, by decide +kernel⟩) (by decide) (by decide) (zGood.mem 775 (by decide +kernel) rfl) (zNest.mem 767 (by decide +kernel) rfl) (fun v w' q => q.elim) ?_
  intro w9 q9 h9
  refine go_astore_n 12 dL_pending_11 (by decide) ?_
  refine go_ldc 14 dL_pending_12 ciL_64 ?_
  exact go_ireturn dL_pending_14 rfl (by omega) (by omega) ⟨rfl, h9.2⟩

set_option maxRecDepth 100000 in
set_option maxHeartbeats 4000000 in
theorem ct_L_pending_3 {l : Launch} {Γ : ZG} {w : ZW} {x : Nat} {y0 y1 : Int32} {fs : List Value} {d' : Nat} (c : Ct l Γ mX5_pending d' 1 6 [.ref x, .int y0, .int y1] w zNv (ThP "java/lang/IllegalArgumentException" w)) (hd : d' ≤ 30) (hx : w.2 x = some (.inr (5, fs))) : Ct l Γ mL_pending 32 1 6 [.ref x, .int y0, .int y1] w (OutX w (-2000000098)) zNo := by
  refine Ct.ofH (by decide) rfl (Nat.le_of_ble_eq_true rfl) ?_
  refine go_aload_n 1 dL_pending_0 rfl ?_
  refine go_iload_n 2 dL_pending_1 rfl ?_
  refine go_iload_n 3 dL_pending_2 rfl ?_
  refine go_callVH (E := "java/lang/IllegalArgumentException") 6 [.int y0, .int y1] dL_pending_3 vL_59 hx rfl c (by omega) (by decide) (by omega) (by omega) (Nat.le_of_ble_eq_true rfl) [(0, 6, 7, 50), (0, 6, 11, 62)] (0, 6, 15, 40) [] rfl (fun E' w' q => q.1) (List.forall_mem_cons.mpr ⟨⟨by decide, "java/lang/IndexOutOfBoundsException", zGood.mem 774 (by decide +kernel) rfl, by decide +kernel⟩, List.forall_mem_singleton.mpr ⟨by decide, "java/util/NoSuchElementException", zGood.mem 775 (by decide +kernel) rfl, by decide +kernel⟩⟩) (by decide) (by decide) (zGood.mem 515 (by decide +kernel) rfl) (zNest.mem 482 (by decide +kernel) rfl) (fun v w' q => q.elim) ?_
  intro w9 q9 h9
  refine go_astore_n 16 dL_pending_15 (by decide) ?_
  refine go_ldc 18 dL_pending_16 ciL_42 ?_
  exact go_ireturn dL_pending_18 rfl (by omega) (by omega) ⟨rfl, h9.2⟩

set_option maxRecDepth 100000 in
set_option maxHeartbeats 4000000 in
theorem ct_L_repetition_0 {l : Launch} {Γ : ZG} {w : ZW} {x : Nat} {y0 y1 : Int32} {fs : List Value} {d' mc' ms' : Nat} {Φ : Option Value → ZW → Prop} (c : Ct l Γ mX5_repetition d' mc' ms' [.ref x, .int y0, .int y1] w Φ zNo) (hd : d' ≤ 30) (hx : w.2 x = some (.inr (5, fs))) (hv : ∀ v w2, Φ v w2 → ∃ r, v = some (.int r)) : Ct l Γ mL_repetition 32 mc' ms' [.ref x, .int y0, .int y1] w Φ zNo := by
  refine Ct.ofH (by decide) rfl (Nat.le_of_ble_eq_true rfl) ?_
  refine go_aload_n 1 dL_repetition_0 rfl ?_
  refine go_iload_n 2 dL_repetition_1 rfl ?_
  refine go_iload_n 3 dL_repetition_2 rfl ?_
  refine go_callV 6 [.int y0, .int y1] dL_repetition_3 vL_65 hx rfl c (by omega) (by decide) (by omega) (by omega) (Nat.le_of_ble_eq_true rfl) ?_
  intro v9 w9 q9
  obtain ⟨r, rfl⟩ := hv _ _ q9
  exact go_ireturn dL_repetition_6 rfl (by omega) (by omega) q9

set_option maxRecDepth 100000 in
set_option maxHeartbeats 4000000 in
theorem ct_L_repetition_1 {l : Launch} {Γ : ZG} {w : ZW} {x : Nat} {y0 y1 : Int32} {fs : List Value} {d' : Nat} (c : Ct l Γ mX5_repetition d' 1 6 [.ref x, .int y0, .int y1] w zNv (ThP "java/lang/IndexOutOfBoundsException" w)) (hd : d' ≤ 30) (hx : w.2 x = some (.inr (5, fs))) : Ct l Γ mL_repetition 32 1 6 [.ref x, .int y0, .int y1] w (OutX w (-2000000097)) zNo := by
  refine Ct.ofH (by decide) rfl (Nat.le_of_ble_eq_true rfl) ?_
  refine go_aload_n 1 dL_repetition_0 rfl ?_
  refine go_iload_n 2 dL_repetition_1 rfl ?_
  refine go_iload_n 3 dL_repetition_2 rfl ?_
  refine go_callVH (E := "java/lang/IndexOutOfBoundsException") 6 [.int y0, .int y1] dL_repetition_3 vL_65 hx rfl c (by omega) (by decide) (by omega) (by omega) (Nat.le_of_ble_eq_true rfl) [] (0, 6, 7, 50) [(0, 6, 11, 40)] rfl (fun E' w' q => q.1) (fun z hz => nomatch hz) (by decide) (by decide) (zGood.mem 774 (by decide +kernel) rfl) (zNest.mem 747 (by decide +kernel) rfl) (fun v w' q => q.elim) ?_
  intro w9 q9 h9
  refine go_astore_n 8 dL_repetition_7 (by decide) ?_
  refine go_ldc 10 dL_repetition_8 ciL_52 ?_
  exact go_ireturn dL_repetition_10 rfl (by omega) (by omega) ⟨rfl, h9.2⟩

set_option maxRecDepth 100000 in
set_option maxHeartbeats 4000000 in
theorem ct_L_repetition_2 {l : Launch} {Γ : ZG} {w : ZW} {x : Nat} {y0 y1 : Int32} {fs : List Value} {d' : Nat} (c : Ct l Γ mX5_repetition d' 1 6 [.ref x, .int y0, .int y1] w zNv (ThP "java/lang/IllegalArgumentException" w)) (hd : d' ≤ 30) (hx : w.2 x = some (.inr (5, fs))) : Ct l Γ mL_repetition 32 1 6 [.ref x, .int y0, .int y1] w (OutX w (-2000000098)) zNo := by
  refine Ct.ofH (by decide) rfl (Nat.le_of_ble_eq_true rfl) ?_
  refine go_aload_n 1 dL_repetition_0 rfl ?_
  refine go_iload_n 2 dL_repetition_1 rfl ?_
  refine go_iload_n 3 dL_repetition_2 rfl ?_
  refine go_callVH (E := "java/lang/IllegalArgumentException") 6 [.int y0, .int y1] dL_repetition_3 vL_65 hx rfl c (by omega) (by decide) (by omega) (by omega) (Nat.le_of_ble_eq_true rfl) [(0, 6, 7, 50)] (0, 6, 11, 40) [] rfl (fun E' w' q => q.1) (List.forall_mem_singleton.mpr ⟨by decide, "java/lang/IndexOutOfBoundsException", zGood.mem 774 (by decide +kernel) rfl, by decide +kernel⟩) (by decide) (by decide) (zGood.mem 515 (by decide +kernel) rfl) (zNest.mem 482 (by decide +kernel) rfl) (fun v w' q => q.elim) ?_
  intro w9 q9 h9
  refine go_astore_n 12 dL_repetition_11 (by decide) ?_
  refine go_ldc 14 dL_repetition_12 ciL_42 ?_
  exact go_ireturn dL_repetition_14 rfl (by omega) (by omega) ⟨rfl, h9.2⟩

set_option maxRecDepth 100000 in
set_option maxHeartbeats 4000000 in
theorem ct_L_total_0 {l : Launch} {Γ : ZG} {w : ZW} {x : Nat} {y0 : Int32} {fs : List Value} {d' mc' ms' : Nat} {Φ : Option Value → ZW → Prop} (c : Ct l Γ mX5_total d' mc' ms' [.ref x, .int y0] w Φ zNo) (hd : d' ≤ 30) (hx : w.2 x = some (.inr (5, fs))) (hv : ∀ v w2, Φ v w2 → ∃ r, v = some (.int r)) : Ct l Γ mL_total 32 mc' ms' [.ref x, .int y0] w Φ zNo := by
  refine Ct.ofH (by decide) rfl (Nat.le_of_ble_eq_true rfl) ?_
  refine go_aload_n 1 dL_total_0 rfl ?_
  refine go_iload_n 2 dL_total_1 rfl ?_
  refine go_callV 5 [.int y0] dL_total_2 vL_68 hx rfl c (by omega) (by decide) (by omega) (by omega) (Nat.le_of_ble_eq_true rfl) ?_
  intro v9 w9 q9
  obtain ⟨r, rfl⟩ := hv _ _ q9
  exact go_ireturn dL_total_5 rfl (by omega) (by omega) q9

set_option maxRecDepth 100000 in
set_option maxHeartbeats 4000000 in
theorem ct_L_total_1 {l : Launch} {Γ : ZG} {w : ZW} {x : Nat} {y0 : Int32} {fs : List Value} {d' : Nat} (c : Ct l Γ mX5_total d' 1 6 [.ref x, .int y0] w zNv (ThP "java/lang/IllegalArgumentException" w)) (hd : d' ≤ 30) (hx : w.2 x = some (.inr (5, fs))) : Ct l Γ mL_total 32 1 6 [.ref x, .int y0] w (OutX w (-2000000098)) zNo := by
  refine Ct.ofH (by decide) rfl (Nat.le_of_ble_eq_true rfl) ?_
  refine go_aload_n 1 dL_total_0 rfl ?_
  refine go_iload_n 2 dL_total_1 rfl ?_
  refine go_callVH (E := "java/lang/IllegalArgumentException") 5 [.int y0] dL_total_2 vL_68 hx rfl c (by omega) (by decide) (by omega) (by omega) (Nat.le_of_ble_eq_true rfl) [] (0, 5, 6, 40) [] rfl (fun E' w' q => q.1) (fun z hz => nomatch hz) (by decide) (by decide) (zGood.mem 515 (by decide +kernel) rfl) (zNest.mem 482 (by decide +kernel) rfl) (fun v w' q => q.elim) ?_
  intro w9 q9 h9
  refine go_astore_n 7 dL_total_6 (by decide) ?_
  refine go_ldc 9 dL_total_7 ciL_42 ?_
  exact go_ireturn dL_total_9 rfl (by omega) (by omega) ⟨rfl, h9.2⟩

set_option maxRecDepth 100000 in
set_option maxHeartbeats 4000000 in
theorem ct_L_settlesIn_0 {l : Launch} {Γ : ZG} {w : ZW} {x : Nat} {y0 : Int32} {fs : List Value} {d' mc' ms' : Nat} {Φ : Option Value → ZW → Prop} (c : Ct l Γ mX5_settlesIn d' mc' ms' [.ref x, .int y0] w Φ zNo) (hd : d' ≤ 30) (hx : w.2 x = some (.inr (5, fs))) (hv : ∀ v w2, Φ v w2 → ∃ r, v = some (.int r)) : Ct l Γ mL_settlesIn 32 mc' ms' [.ref x, .int y0] w Φ zNo := by
  refine Ct.ofH (by decide) rfl (Nat.le_of_ble_eq_true rfl) ?_
  refine go_aload_n 1 dL_settlesIn_0 rfl ?_
  refine go_iload_n 2 dL_settlesIn_1 rfl ?_
  refine go_callV 5 [.int y0] dL_settlesIn_2 vL_71 hx rfl c (by omega) (by decide) (by omega) (by omega) (Nat.le_of_ble_eq_true rfl) ?_
  intro v9 w9 q9
  obtain ⟨r, rfl⟩ := hv _ _ q9
  exact go_ireturn dL_settlesIn_5 rfl (by omega) (by omega) q9

set_option maxRecDepth 100000 in
set_option maxHeartbeats 4000000 in
theorem ct_L_settlesIn_1 {l : Launch} {Γ : ZG} {w : ZW} {x : Nat} {y0 : Int32} {fs : List Value} {d' : Nat} (c : Ct l Γ mX5_settlesIn d' 1 6 [.ref x, .int y0] w zNv (ThP "java/lang/IndexOutOfBoundsException" w)) (hd : d' ≤ 30) (hx : w.2 x = some (.inr (5, fs))) : Ct l Γ mL_settlesIn 32 1 6 [.ref x, .int y0] w (OutX w (-2000000097)) zNo := by
  refine Ct.ofH (by decide) rfl (Nat.le_of_ble_eq_true rfl) ?_
  refine go_aload_n 1 dL_settlesIn_0 rfl ?_
  refine go_iload_n 2 dL_settlesIn_1 rfl ?_
  refine go_callVH (E := "java/lang/IndexOutOfBoundsException") 5 [.int y0] dL_settlesIn_2 vL_71 hx rfl c (by omega) (by decide) (by omega) (by omega) (Nat.le_of_ble_eq_true rfl) [] (0, 5, 6, 50) [] rfl (fun E' w' q => q.1) (fun z hz => nomatch hz) (by decide) (by decide) (zGood.mem 774 (by decide +kernel) rfl) (zNest.mem 747 (by decide +kernel) rfl) (fun v w' q => q.elim) ?_
  intro w9 q9 h9
  refine go_astore_n 7 dL_settlesIn_6 (by decide) ?_
  refine go_ldc 9 dL_settlesIn_7 ciL_52 ?_
  exact go_ireturn dL_settlesIn_9 rfl (by omega) (by omega) ⟨rfl, h9.2⟩

set_option maxRecDepth 100000 in
set_option maxHeartbeats 4000000 in
theorem ct_L_pass_0 {l : Launch} {Γ : ZG} {w : ZW} {x : Nat} {y0 : Int32} {fs : List Value} {d' mc' ms' : Nat} {Φ : Option Value → ZW → Prop} (c : Ct l Γ mX5_pass d' mc' ms' [.ref x, .int y0] w Φ zNo) (hd : d' ≤ 30) (hx : w.2 x = some (.inr (5, fs))) (hv : ∀ v w2, Φ v w2 → ∃ r, v = some (.int r)) : Ct l Γ mL_pass 32 mc' ms' [.ref x, .int y0] w Φ zNo := by
  refine Ct.ofH (by decide) rfl (Nat.le_of_ble_eq_true rfl) ?_
  refine go_aload_n 1 dL_pass_0 rfl ?_
  refine go_iload_n 2 dL_pass_1 rfl ?_
  refine go_callV 5 [.int y0] dL_pass_2 vL_77 hx rfl c (by omega) (by decide) (by omega) (by omega) (Nat.le_of_ble_eq_true rfl) ?_
  intro v9 w9 q9
  obtain ⟨r, rfl⟩ := hv _ _ q9
  exact go_ireturn dL_pass_5 rfl (by omega) (by omega) q9

set_option maxRecDepth 100000 in
set_option maxHeartbeats 4000000 in
theorem ct_L_pass_1 {l : Launch} {Γ : ZG} {w : ZW} {x : Nat} {y0 : Int32} {fs : List Value} {d' : Nat} (c : Ct l Γ mX5_pass d' 1 6 [.ref x, .int y0] w zNv (ThP "java/lang/IllegalArgumentException" w)) (hd : d' ≤ 30) (hx : w.2 x = some (.inr (5, fs))) : Ct l Γ mL_pass 32 1 6 [.ref x, .int y0] w (OutX w (-2000000098)) zNo := by
  refine Ct.ofH (by decide) rfl (Nat.le_of_ble_eq_true rfl) ?_
  refine go_aload_n 1 dL_pass_0 rfl ?_
  refine go_iload_n 2 dL_pass_1 rfl ?_
  refine go_callVH (E := "java/lang/IllegalArgumentException") 5 [.int y0] dL_pass_2 vL_77 hx rfl c (by omega) (by decide) (by omega) (by omega) (Nat.le_of_ble_eq_true rfl) [] (0, 5, 6, 40) [] rfl (fun E' w' q => q.1) (fun z hz => nomatch hz) (by decide) (by decide) (zGood.mem 515 (by decide +kernel) rfl) (zNest.mem 482 (by decide +kernel) rfl) (fun v w' q => q.elim) ?_
  intro w9 q9 h9
  refine go_astore_n 7 dL_pass_6 (by decide) ?_
  refine go_ldc 9 dL_pass_7 ciL_42 ?_
  exact go_ireturn dL_pass_9 rfl (by omega) (by omega) ⟨rfl, h9.2⟩

set_option maxRecDepth 100000 in
set_option maxHeartbeats 4000000 in
theorem ct_L_dial_0 {l : Launch} {Γ : ZG} {w : ZW} {x : Nat} {y0 y1 : Int32} {fs : List Value} {d' mc' ms' : Nat} {Φ : Option Value → ZW → Prop} (c : Ct l Γ mX5_dial d' mc' ms' [.ref x, .int y0, .int y1] w Φ zNo) (hd : d' ≤ 30) (hx : w.2 x = some (.inr (5, fs))) (hv : ∀ v w2, Φ v w2 → ∃ r, v = some (.int r)) : Ct l Γ mL_dial 32 mc' ms' [.ref x, .int y0, .int y1] w Φ zNo := by
  refine Ct.ofH (by decide) rfl (Nat.le_of_ble_eq_true rfl) ?_
  refine go_aload_n 1 dL_dial_0 rfl ?_
  refine go_iload_n 2 dL_dial_1 rfl ?_
  refine go_iload_n 3 dL_dial_2 rfl ?_
  refine go_callV 6 [.int y0, .int y1] dL_dial_3 vL_80 hx rfl c (by omega) (by decide) (by omega) (by omega) (Nat.le_of_ble_eq_true rfl) ?_
  intro v9 w9 q9
  obtain ⟨r, rfl⟩ := hv _ _ q9
  exact go_ireturn dL_dial_6 rfl (by omega) (by omega) q9

set_option maxRecDepth 100000 in
set_option maxHeartbeats 4000000 in
theorem ct_L_dial_1 {l : Launch} {Γ : ZG} {w : ZW} {x : Nat} {y0 y1 : Int32} {fs : List Value} {d' : Nat} (c : Ct l Γ mX5_dial d' 1 6 [.ref x, .int y0, .int y1] w zNv (ThP "java/lang/IndexOutOfBoundsException" w)) (hd : d' ≤ 30) (hx : w.2 x = some (.inr (5, fs))) : Ct l Γ mL_dial 32 1 6 [.ref x, .int y0, .int y1] w (OutX w (-2000000097)) zNo := by
  refine Ct.ofH (by decide) rfl (Nat.le_of_ble_eq_true rfl) ?_
  refine go_aload_n 1 dL_dial_0 rfl ?_
  refine go_iload_n 2 dL_dial_1 rfl ?_
  refine go_iload_n 3 dL_dial_2 rfl ?_
  refine go_callVH (E := "java/lang/IndexOutOfBoundsException") 6 [.int y0, .int y1] dL_dial_3 vL_80 hx rfl c (by omega) (by decide) (by omega) (by omega) (Nat.le_of_ble_eq_true rfl) [] (0, 6, 7, 50) [(0, 6, 11, 40), (0, 6, 15, 83)] rfl (fun E' w' q => q.1) (fun z hz => nomatch hz) (by decide) (by decide) (zGood.mem 774 (by decide +kernel) rfl) (zNest.mem 747 (by decide +kernel) rfl) (fun v w' q => q.elim) ?_
  intro w9 q9 h9
  refine go_astore_n 8 dL_dial_7 (by decide) ?_
  refine go_ldc 10 dL_dial_8 ciL_52 ?_
  exact go_ireturn dL_dial_10 rfl (by omega) (by omega) ⟨rfl, h9.2⟩

set_option maxRecDepth 100000 in
set_option maxHeartbeats 4000000 in
theorem ct_L_dial_2 {l : Launch} {Γ : ZG} {w : ZW} {x : Nat} {y0 y1 : Int32} {fs : List Value} {d' : Nat} (c : Ct l Γ mX5_dial d' 1 6 [.ref x, .int y0, .int y1] w zNv (ThP "java/lang/IllegalArgumentException" w)) (hd : d' ≤ 30) (hx : w.2 x = some (.inr (5, fs))) : Ct l Γ mL_dial 32 1 6 [.ref x, .int y0, .int y1] w (OutX w (-2000000098)) zNo := by
  refine Ct.ofH (by decide) rfl (Nat.le_of_ble_eq_true rfl) ?_
  refine go_aload_n 1 dL_dial_0 rfl ?_
  refine go_iload_n 2 dL_dial_1 rfl ?_
  refine go_iload_n 3 dL_dial_2 rfl ?_
  refine go_callVH (E := "java/lang/IllegalArgumentException") 6 [.int y0, .int y1] dL_dial_3 vL_80 hx rfl c (by omega) (by decide) (by omega) (by omega) (Nat.le_of_ble_eq_true rfl) [(0, 6, 7, 50)] (0, 6, 11, 40) [(0, 6, 15, 83)] rfl (fun E' w' q => q.1) (List.forall_mem_singleton.mpr ⟨by decide, "java/lang/IndexOutOfBoundsException", zGood.mem 774 (by decide +kernel) rfl, by decide +kernel⟩) (by decide) (by decide) (zGood.mem 515 (by decide +kernel) rfl) (zNest.mem 482 (by decide +kernel) rfl) (fun v w' q => q.elim) ?_
  intro w9 q9 h9
  refine go_astore_n 12 dL_dial_11 (by decide) ?_
  refine go_ldc 14 dL_dial_12 ciL_42 ?_
  exact go_ireturn dL_dial_14 rfl (by omega) (by omega) ⟨rfl, h9.2⟩

set_option maxRecDepth 100000 in
set_option maxHeartbeats 4000000 in
theorem ct_L_dial_3 {l : Launch} {Γ : ZG} {w : ZW} {x : Nat} {y0 y1 : Int32} {fs : List Value} {d' : Nat} (c : Ct l Γ mX5_dial d' 1 6 [.ref x, .int y0, .int y1] w zNv (ThP "java/lang/IllegalStateException" w)) (hd : d' ≤ 30) (hx : w.2 x = some (.inr (5, fs))) : Ct l Γ mL_dial 32 1 6 [.ref x, .int y0, .int y1] w (OutX w (-2000000099)) zNo := by
  refine Ct.ofH (by decide) rfl (Nat.le_of_ble_eq_true rfl) ?_
  refine go_aload_n 1 dL_dial_0 rfl ?_
  refine go_iload_n 2 dL_dial_1 rfl ?_
  refine go_iload_n 3 dL_dial_2 rfl ?_
  refine go_callVH (E := "java/lang/IllegalStateException") 6 [.int y0, .int y1] dL_dial_3 vL_80 hx rfl c (by omega) (by decide) (by omega) (by omega) (Nat.le_of_ble_eq_true rfl) [(0, 6, 7, 50), (0, 6, 11, 40)] (0, 6, 15, 83) [] rfl (fun E' w' q => q.1) (List.forall_mem_cons.mpr ⟨⟨by decide, "java/lang/IndexOutOfBoundsException", zGood.mem 774 (by decide +kernel) rfl, by decide +kernel⟩, List.forall_mem_singleton.mpr ⟨by decide, "java/lang/IllegalArgumentException", zGood.mem 515 (by decide +kernel) rfl, by decide +kernel⟩⟩) (by decide) (by decide) (zGood.mem 945 (by decide +kernel) rfl) (zNest.mem 926 (by decide +kernel) rfl) (fun v w' q => q.elim) ?_
  intro w9 q9 h9
  refine go_astore_n 16 dL_dial_15 (by decide) ?_
  refine go_ldc 18 dL_dial_16 ciL_85 ?_
  exact go_ireturn dL_dial_18 rfl (by omega) (by omega) ⟨rfl, h9.2⟩

set_option maxRecDepth 100000 in
set_option maxHeartbeats 4000000 in
theorem ct_L_transfer_0 {l : Launch} {Γ : ZG} {w : ZW} {x : Nat} {y0 y1 : Int32} {fs : List Value} {d' mc' ms' : Nat} {Φ : Option Value → ZW → Prop} (c : Ct l Γ mX5_transfer d' mc' ms' [.ref x, .int y0, .int y1] w Φ zNo) (hd : d' ≤ 30) (hx : w.2 x = some (.inr (5, fs))) (hv : ∀ v w2, Φ v w2 → ∃ r, v = some (.int r)) : Ct l Γ mL_transfer 32 mc' ms' [.ref x, .int y0, .int y1] w Φ zNo := by
  refine Ct.ofH (by decide) rfl (Nat.le_of_ble_eq_true rfl) ?_
  refine go_aload_n 1 dL_transfer_0 rfl ?_
  refine go_iload_n 2 dL_transfer_1 rfl ?_
  refine go_iload_n 3 dL_transfer_2 rfl ?_
  refine go_callV 6 [.int y0, .int y1] dL_transfer_3 vL_86 hx rfl c (by omega) (by decide) (by omega) (by omega) (Nat.le_of_ble_eq_true rfl) ?_
  intro v9 w9 q9
  obtain ⟨r, rfl⟩ := hv _ _ q9
  exact go_ireturn dL_transfer_6 rfl (by omega) (by omega) q9

set_option maxRecDepth 100000 in
set_option maxHeartbeats 4000000 in
theorem ct_L_transfer_1 {l : Launch} {Γ : ZG} {w : ZW} {x : Nat} {y0 y1 : Int32} {fs : List Value} {d' : Nat} (c : Ct l Γ mX5_transfer d' 1 6 [.ref x, .int y0, .int y1] w zNv (ThP "java/lang/IndexOutOfBoundsException" w)) (hd : d' ≤ 30) (hx : w.2 x = some (.inr (5, fs))) : Ct l Γ mL_transfer 32 1 6 [.ref x, .int y0, .int y1] w (OutX w (-2000000097)) zNo := by
  refine Ct.ofH (by decide) rfl (Nat.le_of_ble_eq_true rfl) ?_
  refine go_aload_n 1 dL_transfer_0 rfl ?_
  refine go_iload_n 2 dL_transfer_1 rfl ?_
  refine go_iload_n 3 dL_transfer_2 rfl ?_
  refine go_callVH (E := "java/lang/IndexOutOfBoundsException") 6 [.int y0, .int y1] dL_transfer_3 vL_86 hx rfl c (by omega) (by decide) (by omega) (by omega) (Nat.le_of_ble_eq_true rfl) [] (0, 6, 7, 50) [(0, 6, 11, 83), (0, 6, 15, 40)] rfl (fun E' w' q => q.1) (fun z hz => nomatch hz) (by decide) (by decide) (zGood.mem 774 (by decide +kernel) rfl) (zNest.mem 747 (by decide +kernel) rfl) (fun v w' q => q.elim) ?_
  intro w9 q9 h9
  refine go_astore_n 8 dL_transfer_7 (by decide) ?_
  refine go_ldc 10 dL_transfer_8 ciL_52 ?_
  exact go_ireturn dL_transfer_10 rfl (by omega) (by omega) ⟨rfl, h9.2⟩

set_option maxRecDepth 100000 in
set_option maxHeartbeats 4000000 in
theorem ct_L_transfer_2 {l : Launch} {Γ : ZG} {w : ZW} {x : Nat} {y0 y1 : Int32} {fs : List Value} {d' : Nat} (c : Ct l Γ mX5_transfer d' 1 6 [.ref x, .int y0, .int y1] w zNv (ThP "java/lang/IllegalStateException" w)) (hd : d' ≤ 30) (hx : w.2 x = some (.inr (5, fs))) : Ct l Γ mL_transfer 32 1 6 [.ref x, .int y0, .int y1] w (OutX w (-2000000099)) zNo := by
  refine Ct.ofH (by decide) rfl (Nat.le_of_ble_eq_true rfl) ?_
  refine go_aload_n 1 dL_transfer_0 rfl ?_
  refine go_iload_n 2 dL_transfer_1 rfl ?_
  refine go_iload_n 3 dL_transfer_2 rfl ?_
  refine go_callVH (E := "java/lang/IllegalStateException") 6 [.int y0, .int y1] dL_transfer_3 vL_86 hx rfl c (by omega) (by decide) (by omega) (by omega) (Nat.le_of_ble_eq_true rfl) [(0, 6, 7, 50)] (0, 6, 11, 83) [(0, 6, 15, 40)] rfl (fun E' w' q => q.1) (List.forall_mem_singleton.mpr ⟨by decide, "java/lang/IndexOutOfBoundsException", zGood.mem 774 (by decide +kernel) rfl, by decide +kernel⟩) (by decide) (by decide) (zGood.mem 945 (by decide +kernel) rfl) (zNest.mem 926 (by decide +kernel) rfl) (fun v w' q => q.elim) ?_
  intro w9 q9 h9
  refine go_astore_n 12 dL_transfer_11 (by decide) ?_
  refine go_ldc 14 dL_transfer_12 ciL_85 ?_
  exact go_ireturn dL_transfer_14 rfl (by omega) (by omega) ⟨rfl, h9.2⟩

set_option maxRecDepth 100000 in
set_option maxHeartbeats 4000000 in
theorem ct_L_transfer_3 {l : Launch} {Γ : ZG} {w : ZW} {x : Nat} {y0 y1 : Int32} {fs : List Value} {d' : Nat} (c : Ct l Γ mX5_transfer d' 1 6 [.ref x, .int y0, .int y1] w zNv (ThP "java/lang/IllegalArgumentException" w)) (hd : d' ≤ 30) (hx : w.2 x = some (.inr (5, fs))) : Ct l Γ mL_transfer 32 1 6 [.ref x, .int y0, .int y1] w (OutX w (-2000000098)) zNo := by
  refine Ct.ofH (by decide) rfl (Nat.le_of_ble_eq_true rfl) ?_
  refine go_aload_n 1 dL_transfer_0 rfl ?_
  refine go_iload_n 2 dL_transfer_1 rfl ?_
  refine go_iload_n 3 dL_transfer_2 rfl ?_
  refine go_callVH (E := "java/lang/IllegalArgumentException") 6 [.int y0, .int y1] dL_transfer_3 vL_86 hx rfl c (by omega) (by decide) (by omega) (by omega) (Nat.le_of_ble_eq_true rfl) [(0, 6, 7, 50), (0, 6, 11, 83)] (0, 6, 15, 40) [] rfl (fun E' w' q => q.1) (List.forall_mem_cons.mpr ⟨⟨by decide, "java/lang/IndexOutOfBoundsException", zGood.mem 774 (by decide +kernel) rfl, by decide +kernel⟩, List.forall_mem_singleton.mpr ⟨by decide, "java/lang/IllegalStateException", zGood.mem 945 (by decide +kernel) rfl, by decide +kernel⟩⟩) (by decide) (by decide) (zGood.mem 515 (by decide +kernel) rfl) (zNest.mem 482 (by decide +kernel) rfl) (fun v w' q => q.elim) ?_
  intro w9 q9 h9
  refine go_astore_n 16 dL_transfer_15 (by decide) ?_
  refine go_ldc 18 dL_transfer_16 ciL_42 ?_
  exact go_ireturn dL_transfer_18 rfl (by omega) (by omega) ⟨rfl, h9.2⟩

set_option maxRecDepth 100000 in
set_option maxHeartbeats 4000000 in
theorem ct_L_hangUp_0 {l : Launch} {Γ : ZG} {w : ZW} {x : Nat} {y0 : Int32} {fs : List Value} {d' mc' ms' : Nat} {Φ : Option Value → ZW → Prop} (c : Ct l Γ mX5_hangUp d' mc' ms' [.ref x, .int y0] w Φ zNo) (hd : d' ≤ 30) (hx : w.2 x = some (.inr (5, fs))) (hv : ∀ v w2, Φ v w2 → ∃ r, v = some (.int r)) : Ct l Γ mL_hangUp 32 mc' ms' [.ref x, .int y0] w Φ zNo := by
  refine Ct.ofH (by decide) rfl (Nat.le_of_ble_eq_true rfl) ?_
  refine go_aload_n 1 dL_hangUp_0 rfl ?_
  refine go_iload_n 2 dL_hangUp_1 rfl ?_
  refine go_callV 5 [.int y0] dL_hangUp_2 vL_89 hx rfl c (by omega) (by decide) (by omega) (by omega) (Nat.le_of_ble_eq_true rfl) ?_
  intro v9 w9 q9
  obtain ⟨r, rfl⟩ := hv _ _ q9
  exact go_ireturn dL_hangUp_5 rfl (by omega) (by omega) q9

set_option maxRecDepth 100000 in
set_option maxHeartbeats 4000000 in
theorem ct_L_hangUp_1 {l : Launch} {Γ : ZG} {w : ZW} {x : Nat} {y0 : Int32} {fs : List Value} {d' : Nat} (c : Ct l Γ mX5_hangUp d' 1 6 [.ref x, .int y0] w zNv (ThP "java/lang/IndexOutOfBoundsException" w)) (hd : d' ≤ 30) (hx : w.2 x = some (.inr (5, fs))) : Ct l Γ mL_hangUp 32 1 6 [.ref x, .int y0] w (OutX w (-2000000097)) zNo := by
  refine Ct.ofH (by decide) rfl (Nat.le_of_ble_eq_true rfl) ?_
  refine go_aload_n 1 dL_hangUp_0 rfl ?_
  refine go_iload_n 2 dL_hangUp_1 rfl ?_
  refine go_callVH (E := "java/lang/IndexOutOfBoundsException") 5 [.int y0] dL_hangUp_2 vL_89 hx rfl c (by omega) (by decide) (by omega) (by omega) (Nat.le_of_ble_eq_true rfl) [] (0, 5, 6, 50) [] rfl (fun E' w' q => q.1) (fun z hz => nomatch hz) (by decide) (by decide) (zGood.mem 774 (by decide +kernel) rfl) (zNest.mem 747 (by decide +kernel) rfl) (fun v w' q => q.elim) ?_
  intro w9 q9 h9
  refine go_astore_n 7 dL_hangUp_6 (by decide) ?_
  refine go_ldc 9 dL_hangUp_7 ciL_52 ?_
  exact go_ireturn dL_hangUp_9 rfl (by omega) (by omega) ⟨rfl, h9.2⟩

set_option maxRecDepth 100000 in
set_option maxHeartbeats 4000000 in
theorem ct_L_offer_0 {l : Launch} {Γ : ZG} {w : ZW} {x : Nat} {y0 y1 : Int32} {fs : List Value} {d' mc' ms' : Nat} {Φ : Option Value → ZW → Prop} (c : Ct l Γ mX5_offer d' mc' ms' [.ref x, .int y0, .int y1] w Φ zNo) (hd : d' ≤ 30) (hx : w.2 x = some (.inr (5, fs))) (hv : ∀ v w2, Φ v w2 → ∃ r, v = some (.int r)) : Ct l Γ mL_offer 32 mc' ms' [.ref x, .int y0, .int y1] w Φ zNo := by
  refine Ct.ofH (by decide) rfl (Nat.le_of_ble_eq_true rfl) ?_
  refine go_aload_n 1 dL_offer_0 rfl ?_
  refine go_iload_n 2 dL_offer_1 rfl ?_
  refine go_iload_n 3 dL_offer_2 rfl ?_
  refine go_callV 6 [.int y0, .int y1] dL_offer_3 vL_92 hx rfl c (by omega) (by decide) (by omega) (by omega) (Nat.le_of_ble_eq_true rfl) ?_
  intro v9 w9 q9
  obtain ⟨r, rfl⟩ := hv _ _ q9
  exact go_ireturn dL_offer_6 rfl (by omega) (by omega) q9

set_option maxRecDepth 100000 in
set_option maxHeartbeats 4000000 in
theorem ct_L_offer_1 {l : Launch} {Γ : ZG} {w : ZW} {x : Nat} {y0 y1 : Int32} {fs : List Value} {d' : Nat} (c : Ct l Γ mX5_offer d' 1 6 [.ref x, .int y0, .int y1] w zNv (ThP "java/lang/IndexOutOfBoundsException" w)) (hd : d' ≤ 30) (hx : w.2 x = some (.inr (5, fs))) : Ct l Γ mL_offer 32 1 6 [.ref x, .int y0, .int y1] w (OutX w (-2000000097)) zNo := by
  refine Ct.ofH (by decide) rfl (Nat.le_of_ble_eq_true rfl) ?_
  refine go_aload_n 1 dL_offer_0 rfl ?_
  refine go_iload_n 2 dL_offer_1 rfl ?_
  refine go_iload_n 3 dL_offer_2 rfl ?_
  refine go_callVH (E := "java/lang/IndexOutOfBoundsException") 6 [.int y0, .int y1] dL_offer_3 vL_92 hx rfl c (by omega) (by decide) (by omega) (by omega) (Nat.le_of_ble_eq_true rfl) [] (0, 6, 7, 50) [(0, 6, 11, 40), (0, 6, 15, 83)] rfl (fun E' w' q => q.1) (fun z hz => nomatch hz) (by decide) (by decide) (zGood.mem 774 (by decide +kernel) rfl) (zNest.mem 747 (by decide +kernel) rfl) (fun v w' q => q.elim) ?_
  intro w9 q9 h9
  refine go_astore_n 8 dL_offer_7 (by decide) ?_
  refine go_ldc 10 dL_offer_8 ciL_52 ?_
  exact go_ireturn dL_offer_10 rfl (by omega) (by omega) ⟨rfl, h9.2⟩

set_option maxRecDepth 100000 in
set_option maxHeartbeats 4000000 in
theorem ct_L_offer_2 {l : Launch} {Γ : ZG} {w : ZW} {x : Nat} {y0 y1 : Int32} {fs : List Value} {d' : Nat} (c : Ct l Γ mX5_offer d' 1 6 [.ref x, .int y0, .int y1] w zNv (ThP "java/lang/IllegalArgumentException" w)) (hd : d' ≤ 30) (hx : w.2 x = some (.inr (5, fs))) : Ct l Γ mL_offer 32 1 6 [.ref x, .int y0, .int y1] w (OutX w (-2000000098)) zNo := by
  refine Ct.ofH (by decide) rfl (Nat.le_of_ble_eq_true rfl) ?_
  refine go_aload_n 1 dL_offer_0 rfl ?_
  refine go_iload_n 2 dL_offer_1 rfl ?_
  refine go_iload_n 3 dL_offer_2 rfl ?_
  refine go_callVH (E := "java/lang/IllegalArgumentException") 6 [.int y0, .int y1] dL_offer_3 vL_92 hx rfl c (by omega) (by decide) (by omega) (by omega) (Nat.le_of_ble_eq_true rfl) [(0, 6, 7, 50)] (0, 6, 11, 40) [(0, 6, 15, 83)] rfl (fun E' w' q => q.1) (List.forall_mem_singleton.mpr ⟨by decide, "java/lang/IndexOutOfBoundsException", zGood.mem 774 (by decide +kernel) rfl, by decide +kernel⟩) (by decide) (by decide) (zGood.mem 515 (by decide +kernel) rfl) (zNest.mem 482 (by decide +kernel) rfl) (fun v w' q => q.elim) ?_
  intro w9 q9 h9
  refine go_astore_n 12 dL_offer_11 (by decide) ?_
  refine go_ldc 14 dL_offer_12 ciL_42 ?_
  exact go_ireturn dL_offer_14 rfl (by omega) (by omega) ⟨rfl, h9.2⟩

set_option maxRecDepth 100000 in
set_option maxHeartbeats 4000000 in
theorem ct_L_offer_3 {l : Launch} {Γ : ZG} {w : ZW} {x : Nat} {y0 y1 : Int32} {fs : List Value} {d' : Nat} (c : Ct l Γ mX5_offer d' 1 6 [.ref x, .int y0, .int y1] w zNv (ThP "java/lang/IllegalStateException" w)) (hd : d' ≤ 30) (hx : w.2 x = some (.inr (5, fs))) : Ct l Γ mL_offer 32 1 6 [.ref x, .int y0, .int y1] w (OutX w (-2000000099)) zNo := by
  refine Ct.ofH (by decide) rfl (Nat.le_of_ble_eq_true rfl) ?_
  refine go_aload_n 1 dL_offer_0 rfl ?_
  refine go_iload_n 2 dL_offer_1 rfl ?_
  refine go_iload_n 3 dL_offer_2 rfl ?_
  refine go_callVH (E := "java/lang/IllegalStateException") 6 [.int y0, .int y1] dL_offer_3 vL_92 hx rfl c (by omega) (by decide) (by omega) (by omega) (Nat.le_of_ble_eq_true rfl) [(0, 6, 7, 50), (0, 6, 11, 40)] (0, 6, 15, 83) [] rfl (fun E' w' q => q.1) (List.forall_mem_cons.mpr ⟨⟨by decide, "java/lang/IndexOutOfBoundsException", zGood.mem 774 (by decide +kernel) rfl, by decide +kernel⟩, List.forall_mem_singleton.mpr ⟨by decide, "java/lang/IllegalArgumentException", zGood.mem 515 (by decide +kernel) rfl, by decide +kernel⟩⟩) (by decide) (by decide) (zGood.mem 945 (by decide +kernel) rfl) (zNest.mem 926 (by decide +kernel) rfl) (fun v w' q => q.elim) ?_
  intro w9 q9 h9
  refine go_astore_n 16 dL_offer_15 (by decide) ?_
  refine go_ldc 18 dL_offer_16 ciL_85 ?_
  exact go_ireturn dL_offer_18 rfl (by omega) (by omega) ⟨rfl, h9.2⟩

set_option maxRecDepth 100000 in
set_option maxHeartbeats 4000000 in
theorem ct_L_setParty_0 {l : Launch} {Γ : ZG} {w : ZW} {x : Nat} {y0 y1 y2 : Int32} {fs : List Value} {d' mc' ms' : Nat} {Φ : Option Value → ZW → Prop} (c : Ct l Γ mX5_setParty d' mc' ms' [.ref x, .int y0, .int y1, .int y2] w Φ zNo) (hd : d' ≤ 30) (hx : w.2 x = some (.inr (5, fs))) (hv : ∀ v w2, Φ v w2 → ∃ r, v = some (.int r)) : Ct l Γ mL_setParty 32 mc' ms' [.ref x, .int y0, .int y1, .int y2] w Φ zNo := by
  refine Ct.ofH (by decide) rfl (Nat.le_of_ble_eq_true rfl) ?_
  refine go_aload_n 1 dL_setParty_0 rfl ?_
  refine go_iload_n 2 dL_setParty_1 rfl ?_
  refine go_iload_n 3 dL_setParty_2 rfl ?_
  refine go_iload_n 4 dL_setParty_3 rfl ?_
  refine go_callV 7 [.int y0, .int y1, .int y2] dL_setParty_4 vL_95 hx rfl c (by omega) (by decide) (by omega) (by omega) (Nat.le_of_ble_eq_true rfl) ?_
  intro v9 w9 q9
  obtain ⟨r, rfl⟩ := hv _ _ q9
  exact go_ireturn dL_setParty_7 rfl (by omega) (by omega) q9

set_option maxRecDepth 100000 in
set_option maxHeartbeats 4000000 in
theorem ct_L_setParty_1 {l : Launch} {Γ : ZG} {w : ZW} {x : Nat} {y0 y1 y2 : Int32} {fs : List Value} {d' : Nat} (c : Ct l Γ mX5_setParty d' 1 6 [.ref x, .int y0, .int y1, .int y2] w zNv (ThP "java/lang/IndexOutOfBoundsException" w)) (hd : d' ≤ 30) (hx : w.2 x = some (.inr (5, fs))) : Ct l Γ mL_setParty 32 1 6 [.ref x, .int y0, .int y1, .int y2] w (OutX w (-2000000097)) zNo := by
  refine Ct.ofH (by decide) rfl (Nat.le_of_ble_eq_true rfl) ?_
  refine go_aload_n 1 dL_setParty_0 rfl ?_
  refine go_iload_n 2 dL_setParty_1 rfl ?_
  refine go_iload_n 3 dL_setParty_2 rfl ?_
  refine go_iload_n 4 dL_setParty_3 rfl ?_
  refine go_callVH (E := "java/lang/IndexOutOfBoundsException") 7 [.int y0, .int y1, .int y2] dL_setParty_4 vL_95 hx rfl c (by omega) (by decide) (by omega) (by omega) (Nat.le_of_ble_eq_true rfl) [] (0, 7, 8, 50) [(0, 7, 13, 40)] rfl (fun E' w' q => q.1) (fun z hz => nomatch hz) (by decide) (by decide) (zGood.mem 774 (by decide +kernel) rfl) (zNest.mem 747 (by decide +kernel) rfl) (fun v w' q => q.elim) ?_
  intro w9 q9 h9
  refine go_astore 10 dL_setParty_8 (by decide) ?_
  refine go_ldc 12 dL_setParty_10 ciL_52 ?_
  exact go_ireturn dL_setParty_12 rfl (by omega) (by omega) ⟨rfl, h9.2⟩

set_option maxRecDepth 100000 in
set_option maxHeartbeats 4000000 in
theorem ct_L_setParty_2 {l : Launch} {Γ : ZG} {w : ZW} {x : Nat} {y0 y1 y2 : Int32} {fs : List Value} {d' : Nat} (c : Ct l Γ mX5_setParty d' 1 6 [.ref x, .int y0, .int y1, .int y2] w zNv (ThP "java/lang/IllegalArgumentException" w)) (hd : d' ≤ 30) (hx : w.2 x = some (.inr (5, fs))) : Ct l Γ mL_setParty 32 1 6 [.ref x, .int y0, .int y1, .int y2] w (OutX w (-2000000098)) zNo := by
  refine Ct.ofH (by decide) rfl (Nat.le_of_ble_eq_true rfl) ?_
  refine go_aload_n 1 dL_setParty_0 rfl ?_
  refine go_iload_n 2 dL_setParty_1 rfl ?_
  refine go_iload_n 3 dL_setParty_2 rfl ?_
  refine go_iload_n 4 dL_setParty_3 rfl ?_
  refine go_callVH (E := "java/lang/IllegalArgumentException") 7 [.int y0, .int y1, .int y2] dL_setParty_4 vL_95 hx rfl c (by omega) (by decide) (by omega) (by omega) (Nat.le_of_ble_eq_true rfl) [(0, 7, 8, 50)] (0, 7, 13, 40) [] rfl (fun E' w' q => q.1) (List.forall_mem_singleton.mpr ⟨by decide, "java/lang/IndexOutOfBoundsException", zGood.mem 774 (by decide +kernel) rfl, by decide +kernel⟩) (by decide) (by decide) (zGood.mem 515 (by decide +kernel) rfl) (zNest.mem 482 (by decide +kernel) rfl) (fun v w' q => q.elim) ?_
  intro w9 q9 h9
  refine go_astore 15 dL_setParty_13 (by decide) ?_
  refine go_ldc 17 dL_setParty_15 ciL_42 ?_
  exact go_ireturn dL_setParty_17 rfl (by omega) (by omega) ⟨rfl, h9.2⟩

set_option maxRecDepth 100000 in
set_option maxHeartbeats 4000000 in
theorem ct_L_count_0 {l : Launch} {Γ : ZG} {w : ZW} {x : Nat} {y0 : Int32} {fs : List Value} {d' mc' ms' : Nat} {Φ : Option Value → ZW → Prop} (c : Ct l Γ mX5_count d' mc' ms' [.ref x, .int y0] w Φ zNo) (hd : d' ≤ 30) (hx : w.2 x = some (.inr (5, fs))) (hv : ∀ v w2, Φ v w2 → ∃ r, v = some (.int r)) : Ct l Γ mL_count 32 mc' ms' [.ref x, .int y0] w Φ zNo := by
  refine Ct.ofH (by decide) rfl (Nat.le_of_ble_eq_true rfl) ?_
  refine go_aload_n 1 dL_count_0 rfl ?_
  refine go_iload_n 2 dL_count_1 rfl ?_
  refine go_callV 5 [.int y0] dL_count_2 vL_43 hx rfl c (by omega) (by decide) (by omega) (by omega) (Nat.le_of_ble_eq_true rfl) ?_
  intro v9 w9 q9
  obtain ⟨r, rfl⟩ := hv _ _ q9
  exact go_ireturn dL_count_5 rfl (by omega) (by omega) q9

set_option maxRecDepth 100000 in
set_option maxHeartbeats 4000000 in
theorem ct_L_count_1 {l : Launch} {Γ : ZG} {w : ZW} {x : Nat} {y0 : Int32} {fs : List Value} {d' : Nat} (c : Ct l Γ mX5_count d' 1 6 [.ref x, .int y0] w zNv (ThP "java/lang/IllegalArgumentException" w)) (hd : d' ≤ 30) (hx : w.2 x = some (.inr (5, fs))) : Ct l Γ mL_count 32 1 6 [.ref x, .int y0] w (OutX w (-2000000098)) zNo := by
  refine Ct.ofH (by decide) rfl (Nat.le_of_ble_eq_true rfl) ?_
  refine go_aload_n 1 dL_count_0 rfl ?_
  refine go_iload_n 2 dL_count_1 rfl ?_
  refine go_callVH (E := "java/lang/IllegalArgumentException") 5 [.int y0] dL_count_2 vL_43 hx rfl c (by omega) (by decide) (by omega) (by omega) (Nat.le_of_ble_eq_true rfl) [] (0, 5, 6, 40) [] rfl (fun E' w' q => q.1) (fun z hz => nomatch hz) (by decide) (by decide) (zGood.mem 515 (by decide +kernel) rfl) (zNest.mem 482 (by decide +kernel) rfl) (fun v w' q => q.elim) ?_
  intro w9 q9 h9
  refine go_astore_n 7 dL_count_6 (by decide) ?_
  refine go_ldc 9 dL_count_7 ciL_42 ?_
  exact go_ireturn dL_count_9 rfl (by omega) (by omega) ⟨rfl, h9.2⟩

set_option maxRecDepth 100000 in
set_option maxHeartbeats 4000000 in
theorem ct_L_party_0 {l : Launch} {Γ : ZG} {w : ZW} {x : Nat} {y0 y1 : Int32} {fs : List Value} {d' mc' ms' : Nat} {Φ : Option Value → ZW → Prop} (c : Ct l Γ mX5_party d' mc' ms' [.ref x, .int y0, .int y1] w Φ zNo) (hd : d' ≤ 30) (hx : w.2 x = some (.inr (5, fs))) (hv : ∀ v w2, Φ v w2 → ∃ r, v = some (.int r)) : Ct l Γ mL_party 32 mc' ms' [.ref x, .int y0, .int y1] w Φ zNo := by
  refine Ct.ofH (by decide) rfl (Nat.le_of_ble_eq_true rfl) ?_
  refine go_aload_n 1 dL_party_0 rfl ?_
  refine go_iload_n 2 dL_party_1 rfl ?_
  refine go_iload_n 3 dL_party_2 rfl ?_
  refine go_callV 6 [.int y0, .int y1] dL_party_3 vL_46 hx rfl c (by omega) (by decide) (by omega) (by omega) (Nat.le_of_ble_eq_true rfl) ?_
  intro v9 w9 q9
  obtain ⟨r, rfl⟩ := hv _ _ q9
  exact go_ireturn dL_party_6 rfl (by omega) (by omega) q9

set_option maxRecDepth 100000 in
set_option maxHeartbeats 4000000 in
theorem ct_L_party_1 {l : Launch} {Γ : ZG} {w : ZW} {x : Nat} {y0 y1 : Int32} {fs : List Value} {d' : Nat} (c : Ct l Γ mX5_party d' 1 6 [.ref x, .int y0, .int y1] w zNv (ThP "java/lang/IndexOutOfBoundsException" w)) (hd : d' ≤ 30) (hx : w.2 x = some (.inr (5, fs))) : Ct l Γ mL_party 32 1 6 [.ref x, .int y0, .int y1] w (OutX w (-2000000097)) zNo := by
  refine Ct.ofH (by decide) rfl (Nat.le_of_ble_eq_true rfl) ?_
  refine go_aload_n 1 dL_party_0 rfl ?_
  refine go_iload_n 2 dL_party_1 rfl ?_
  refine go_iload_n 3 dL_party_2 rfl ?_
  refine go_callVH (E := "java/lang/IndexOutOfBoundsException") 6 [.int y0, .int y1] dL_party_3 vL_46 hx rfl c (by omega) (by decide) (by omega) (by omega) (Nat.le_of_ble_eq_true rfl) [] (0, 6, 7, 50) [(0, 6, 11, 40)] rfl (fun E' w' q => q.1) (fun z hz => nomatch hz) (by decide) (by decide) (zGood.mem 774 (by decide +kernel) rfl) (zNest.mem 747 (by decide +kernel) rfl) (fun v w' q => q.elim) ?_
  intro w9 q9 h9
  refine go_astore_n 8 dL_party_7 (by decide) ?_
  refine go_ldc 10 dL_party_8 ciL_52 ?_
  exact go_ireturn dL_party_10 rfl (by omega) (by omega) ⟨rfl, h9.2⟩

set_option maxRecDepth 100000 in
set_option maxHeartbeats 4000000 in
theorem ct_L_party_2 {l : Launch} {Γ : ZG} {w : ZW} {x : Nat} {y0 y1 : Int32} {fs : List Value} {d' : Nat} (c : Ct l Γ mX5_party d' 1 6 [.ref x, .int y0, .int y1] w zNv (ThP "java/lang/IllegalArgumentException" w)) (hd : d' ≤ 30) (hx : w.2 x = some (.inr (5, fs))) : Ct l Γ mL_party 32 1 6 [.ref x, .int y0, .int y1] w (OutX w (-2000000098)) zNo := by
  refine Ct.ofH (by decide) rfl (Nat.le_of_ble_eq_true rfl) ?_
  refine go_aload_n 1 dL_party_0 rfl ?_
  refine go_iload_n 2 dL_party_1 rfl ?_
  refine go_iload_n 3 dL_party_2 rfl ?_
  refine go_callVH (E := "java/lang/IllegalArgumentException") 6 [.int y0, .int y1] dL_party_3 vL_46 hx rfl c (by omega) (by decide) (by omega) (by omega) (Nat.le_of_ble_eq_true rfl) [(0, 6, 7, 50)] (0, 6, 11, 40) [] rfl (fun E' w' q => q.1) (List.forall_mem_singleton.mpr ⟨by decide, "java/lang/IndexOutOfBoundsException", zGood.mem 774 (by decide +kernel) rfl, by decide +kernel⟩) (by decide) (by decide) (zGood.mem 515 (by decide +kernel) rfl) (zNest.mem 482 (by decide +kernel) rfl) (fun v w' q => q.elim) ?_
  intro w9 q9 h9
  refine go_astore_n 12 dL_party_11 (by decide) ?_
  refine go_ldc 14 dL_party_12 ciL_42 ?_
  exact go_ireturn dL_party_14 rfl (by omega) (by omega) ⟨rfl, h9.2⟩

set_option maxRecDepth 100000 in
set_option maxHeartbeats 4000000 in
theorem ct_L_call_0 {l : Launch} {Γ : ZG} {w : ZW} {x : Nat} {y0 y1 : Int32} {fs : List Value} {d' mc' ms' : Nat} {Φ : Option Value → ZW → Prop} (c : Ct l Γ mX5_call d' mc' ms' [.ref x, .int y0, .int y1] w Φ zNo) (hd : d' ≤ 30) (hx : w.2 x = some (.inr (5, fs))) (hv : ∀ v w2, Φ v w2 → ∃ r, v = some (.int r)) : Ct l Γ mL_call 32 mc' ms' [.ref x, .int y0, .int y1] w Φ zNo := by
  refine Ct.ofH (by decide) rfl (Nat.le_of_ble_eq_true rfl) ?_
  refine go_aload_n 1 dL_call_0 rfl ?_
  refine go_iload_n 2 dL_call_1 rfl ?_
  refine go_iload_n 3 dL_call_2 rfl ?_
  refine go_callV 6 [.int y0, .int y1] dL_call_3 vL_53 hx rfl c (by omega) (by decide) (by omega) (by omega) (Nat.le_of_ble_eq_true rfl) ?_
  intro v9 w9 q9
  obtain ⟨r, rfl⟩ := hv _ _ q9
  exact go_ireturn dL_call_6 rfl (by omega) (by omega) q9

set_option maxRecDepth 100000 in
set_option maxHeartbeats 4000000 in
theorem ct_L_call_1 {l : Launch} {Γ : ZG} {w : ZW} {x : Nat} {y0 y1 : Int32} {fs : List Value} {d' : Nat} (c : Ct l Γ mX5_call d' 1 6 [.ref x, .int y0, .int y1] w zNv (ThP "java/lang/IndexOutOfBoundsException" w)) (hd : d' ≤ 30) (hx : w.2 x = some (.inr (5, fs))) : Ct l Γ mL_call 32 1 6 [.ref x, .int y0, .int y1] w (OutX w (-2000000097)) zNo := by
  refine Ct.ofH (by decide) rfl (Nat.le_of_ble_eq_true rfl) ?_
  refine go_aload_n 1 dL_call_0 rfl ?_
  refine go_iload_n 2 dL_call_1 rfl ?_
  refine go_iload_n 3 dL_call_2 rfl ?_
  refine go_callVH (E := "java/lang/IndexOutOfBoundsException") 6 [.int y0, .int y1] dL_call_3 vL_53 hx rfl c (by omega) (by decide) (by omega) (by omega) (Nat.le_of_ble_eq_true rfl) [] (0, 6, 7, 50) [(0, 6, 11, 40)] rfl (fun E' w' q => q.1) (fun z hz => nomatch hz) (by decide) (by decide) (zGood.mem 774 (by decide +kernel) rfl) (zNest.mem 747 (by decide +kernel) rfl) (fun v w' q => q.elim) ?_
  intro w9 q9 h9
  refine go_astore_n 8 dL_call_7 (by decide) ?_
  refine go_ldc 10 dL_call_8 ciL_52 ?_
  exact go_ireturn dL_call_10 rfl (by omega) (by omega) ⟨rfl, h9.2⟩

set_option maxRecDepth 100000 in
set_option maxHeartbeats 4000000 in
theorem ct_L_call_2 {l : Launch} {Γ : ZG} {w : ZW} {x : Nat} {y0 y1 : Int32} {fs : List Value} {d' : Nat} (c : Ct l Γ mX5_call d' 1 6 [.ref x, .int y0, .int y1] w zNv (ThP "java/lang/IllegalArgumentException" w)) (hd : d' ≤ 30) (hx : w.2 x = some (.inr (5, fs))) : Ct l Γ mL_call 32 1 6 [.ref x, .int y0, .int y1] w (OutX w (-2000000098)) zNo := by
  refine Ct.ofH (by decide) rfl (Nat.le_of_ble_eq_true rfl) ?_
  refine go_aload_n 1 dL_call_0 rfl ?_
  refine go_iload_n 2 dL_call_1 rfl ?_
  refine go_iload_n 3 dL_call_2 rfl ?_
  refine go_callVH (E := "java/lang/IllegalArgumentException") 6 [.int y0, .int y1] dL_call_3 vL_53 hx rfl c (by omega) (by decide) (by omega) (by omega) (Nat.le_of_ble_eq_true rfl) [(0, 6, 7, 50)] (0, 6, 11, 40) [] rfl (fun E' w' q => q.1) (List.forall_mem_singleton.mpr ⟨by decide, "java/lang/IndexOutOfBoundsException", zGood.mem 774 (by decide +kernel) rfl, by decide +kernel⟩) (by decide) (by decide) (zGood.mem 515 (by decide +kernel) rfl) (zNest.mem 482 (by decide +kernel) rfl) (fun v w' q => q.elim) ?_
  intro w9 q9 h9
  refine go_astore_n 12 dL_call_11 (by decide) ?_
  refine go_ldc 14 dL_call_12 ciL_42 ?_
  exact go_ireturn dL_call_14 rfl (by omega) (by omega) ⟨rfl, h9.2⟩

set_option maxRecDepth 100000 in
set_option maxHeartbeats 4000000 in
theorem ct_L_leg_0 {l : Launch} {Γ : ZG} {w : ZW} {x : Nat} {y0 y1 : Int32} {fs : List Value} {d' mc' ms' : Nat} {Φ : Option Value → ZW → Prop} (c : Ct l Γ mX5_leg d' mc' ms' [.ref x, .int y0, .int y1] w Φ zNo) (hd : d' ≤ 30) (hx : w.2 x = some (.inr (5, fs))) (hv : ∀ v w2, Φ v w2 → ∃ r, v = some (.int r)) : Ct l Γ mL_leg 32 mc' ms' [.ref x, .int y0, .int y1] w Φ zNo := by
  refine Ct.ofH (by decide) rfl (Nat.le_of_ble_eq_true rfl) ?_
  refine go_aload_n 1 dL_leg_0 rfl ?_
  refine go_iload_n 2 dL_leg_1 rfl ?_
  refine go_iload_n 3 dL_leg_2 rfl ?_
  refine go_callV 6 [.int y0, .int y1] dL_leg_3 vL_56 hx rfl c (by omega) (by decide) (by omega) (by omega) (Nat.le_of_ble_eq_true rfl) ?_
  intro v9 w9 q9
  obtain ⟨r, rfl⟩ := hv _ _ q9
  exact go_ireturn dL_leg_6 rfl (by omega) (by omega) q9

set_option maxRecDepth 100000 in
set_option maxHeartbeats 4000000 in
theorem ct_L_leg_1 {l : Launch} {Γ : ZG} {w : ZW} {x : Nat} {y0 y1 : Int32} {fs : List Value} {d' : Nat} (c : Ct l Γ mX5_leg d' 1 6 [.ref x, .int y0, .int y1] w zNv (ThP "java/lang/IndexOutOfBoundsException" w)) (hd : d' ≤ 30) (hx : w.2 x = some (.inr (5, fs))) : Ct l Γ mL_leg 32 1 6 [.ref x, .int y0, .int y1] w (OutX w (-2000000097)) zNo := by
  refine Ct.ofH (by decide) rfl (Nat.le_of_ble_eq_true rfl) ?_
  refine go_aload_n 1 dL_leg_0 rfl ?_
  refine go_iload_n 2 dL_leg_1 rfl ?_
  refine go_iload_n 3 dL_leg_2 rfl ?_
  refine go_callVH (E := "java/lang/IndexOutOfBoundsException") 6 [.int y0, .int y1] dL_leg_3 vL_56 hx rfl c (by omega) (by decide) (by omega) (by omega) (Nat.le_of_ble_eq_true rfl) [] (0, 6, 7, 50) [(0, 6, 11, 40)] rfl (fun E' w' q => q.1) (fun z hz => nomatch hz) (by decide) (by decide) (zGood.mem 774 (by decide +kernel) rfl) (zNest.mem 747 (by decide +kernel) rfl) (fun v w' q => q.elim) ?_
  intro w9 q9 h9
  refine go_astore_n 8 dL_leg_7 (by decide) ?_
  refine go_ldc 10 dL_leg_8 ciL_52 ?_
  exact go_ireturn dL_leg_10 rfl (by omega) (by omega) ⟨rfl, h9.2⟩

set_option maxRecDepth 100000 in
set_option maxHeartbeats 4000000 in
theorem ct_L_leg_2 {l : Launch} {Γ : ZG} {w : ZW} {x : Nat} {y0 y1 : Int32} {fs : List Value} {d' : Nat} (c : Ct l Γ mX5_leg d' 1 6 [.ref x, .int y0, .int y1] w zNv (ThP "java/lang/IllegalArgumentException" w)) (hd : d' ≤ 30) (hx : w.2 x = some (.inr (5, fs))) : Ct l Γ mL_leg 32 1 6 [.ref x, .int y0, .int y1] w (OutX w (-2000000098)) zNo := by
  refine Ct.ofH (by decide) rfl (Nat.le_of_ble_eq_true rfl) ?_
  refine go_aload_n 1 dL_leg_0 rfl ?_
  refine go_iload_n 2 dL_leg_1 rfl ?_
  refine go_iload_n 3 dL_leg_2 rfl ?_
  refine go_callVH (E := "java/lang/IllegalArgumentException") 6 [.int y0, .int y1] dL_leg_3 vL_56 hx rfl c (by omega) (by decide) (by omega) (by omega) (Nat.le_of_ble_eq_true rfl) [(0, 6, 7, 50)] (0, 6, 11, 40) [] rfl (fun E' w' q => q.1) (List.forall_mem_singleton.mpr ⟨by decide, "java/lang/IndexOutOfBoundsException", zGood.mem 774 (by decide +kernel) rfl, by decide +kernel⟩) (by decide) (by decide) (zGood.mem 515 (by decide +kernel) rfl) (zNest.mem 482 (by decide +kernel) rfl) (fun v w' q => q.elim) ?_
  intro w9 q9 h9
  refine go_astore_n 12 dL_leg_11 (by decide) ?_
  refine go_ldc 14 dL_leg_12 ciL_42 ?_
  exact go_ireturn dL_leg_14 rfl (by omega) (by omega) ⟨rfl, h9.2⟩
end LWrap
