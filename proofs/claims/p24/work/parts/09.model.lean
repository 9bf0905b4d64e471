theorem zc_m1 : Int32.ofInt (-1) = (-1 : Int32) := rfl
theorem zc_0 : Int32.ofInt 0 = (0 : Int32) := rfl
theorem zc_1 : Int32.ofInt 1 = (1 : Int32) := rfl
theorem zc_2 : Int32.ofInt 2 = (2 : Int32) := rfl
theorem zc_3 : Int32.ofInt 3 = (3 : Int32) := rfl
theorem zc_4 : Int32.ofInt 4 = (4 : Int32) := rfl
theorem zc_5 : Int32.ofInt 5 = (5 : Int32) := rfl
theorem zb_m100 : (Int8.ofInt (-100)).toInt32 = (-100 : Int32) := rfl
theorem zb_m10 : (Int8.ofInt (-10)).toInt32 = (-10 : Int32) := rfl
theorem zb_m9 : (Int8.ofInt (-9)).toInt32 = (-9 : Int32) := rfl
theorem zb_m8 : (Int8.ofInt (-8)).toInt32 = (-8 : Int32) := rfl
theorem zb_m7 : (Int8.ofInt (-7)).toInt32 = (-7 : Int32) := rfl
theorem zb_m6 : (Int8.ofInt (-6)).toInt32 = (-6 : Int32) := rfl
theorem zb_m5 : (Int8.ofInt (-5)).toInt32 = (-5 : Int32) := rfl
theorem zb_m4 : (Int8.ofInt (-4)).toInt32 = (-4 : Int32) := rfl
theorem zb_m3 : (Int8.ofInt (-3)).toInt32 = (-3 : Int32) := rfl
theorem zb_m2 : (Int8.ofInt (-2)).toInt32 = (-2 : Int32) := rfl
theorem zb_6 : (Int8.ofInt (6)).toInt32 = (6 : Int32) := rfl
theorem zb_7 : (Int8.ofInt (7)).toInt32 = (7 : Int32) := rfl
theorem zb_8 : (Int8.ofInt (8)).toInt32 = (8 : Int32) := rfl
theorem zb_9 : (Int8.ofInt (9)).toInt32 = (9 : Int32) := rfl
theorem zb_10 : (Int8.ofInt (10)).toInt32 = (10 : Int32) := rfl
theorem zb_11 : (Int8.ofInt (11)).toInt32 = (11 : Int32) := rfl
theorem zb_13 : (Int8.ofInt (13)).toInt32 = (13 : Int32) := rfl
theorem zb_15 : (Int8.ofInt (15)).toInt32 = (15 : Int32) := rfl
theorem zb_16 : (Int8.ofInt (16)).toInt32 = (16 : Int32) := rfl
theorem zb_20 : (Int8.ofInt (20)).toInt32 = (20 : Int32) := rfl
theorem zb_24 : (Int8.ofInt (24)).toInt32 = (24 : Int32) := rfl
theorem zb_30 : (Int8.ofInt (30)).toInt32 = (30 : Int32) := rfl
theorem zb_31 : (Int8.ofInt (31)).toInt32 = (31 : Int32) := rfl
theorem zb_32 : (Int8.ofInt (32)).toInt32 = (32 : Int32) := rfl
theorem zb_40 : (Int8.ofInt (40)).toInt32 = (40 : Int32) := rfl
theorem zb_41 : (Int8.ofInt (41)).toInt32 = (41 : Int32) := rfl
theorem zb_42 : (Int8.ofInt (42)).toInt32 = (42 : Int32) := rfl
theorem zb_43 : (Int8.ofInt (43)).toInt32 = (43 : Int32) := rfl
theorem zb_45 : (Int8.ofInt (45)).toInt32 = (45 : Int32) := rfl
theorem zb_47 : (Int8.ofInt (47)).toInt32 = (47 : Int32) := rfl
theorem zb_48 : (Int8.ofInt (48)).toInt32 = (48 : Int32) := rfl
theorem zb_57 : (Int8.ofInt (57)).toInt32 = (57 : Int32) := rfl
theorem zb_59 : (Int8.ofInt (59)).toInt32 = (59 : Int32) := rfl
theorem zb_60 : (Int8.ofInt (60)).toInt32 = (60 : Int32) := rfl
theorem zb_63 : (Int8.ofInt (63)).toInt32 = (63 : Int32) := rfl
theorem zb_97 : (Int8.ofInt (97)).toInt32 = (97 : Int32) := rfl
theorem zb_99 : (Int8.ofInt (99)).toInt32 = (99 : Int32) := rfl
theorem zb_100 : (Int8.ofInt (100)).toInt32 = (100 : Int32) := rfl
theorem zb_108 : (Int8.ofInt (108)).toInt32 = (108 : Int32) := rfl
theorem zb_110 : (Int8.ofInt (110)).toInt32 = (110 : Int32) := rfl
theorem zb_117 : (Int8.ofInt (117)).toInt32 = (117 : Int32) := rfl
theorem zb_122 : (Int8.ofInt (122)).toInt32 = (122 : Int32) := rfl
theorem zs_160 : (Int16.ofInt (160)).toInt32 = (160 : Int32) := rfl
theorem zs_200 : (Int16.ofInt (200)).toInt32 = (200 : Int32) := rfl
theorem zs_201 : (Int16.ofInt (201)).toInt32 = (201 : Int32) := rfl
theorem zs_255 : (Int16.ofInt (255)).toInt32 = (255 : Int32) := rfl
theorem zs_520 : (Int16.ofInt (520)).toInt32 = (520 : Int32) := rfl
theorem zs_600 : (Int16.ofInt (600)).toInt32 = (600 : Int32) := rfl
theorem zs_999 : (Int16.ofInt (999)).toInt32 = (999 : Int32) := rfl
theorem zs_1000 : (Int16.ofInt (1000)).toInt32 = (1000 : Int32) := rfl
theorem zs_1003 : (Int16.ofInt (1003)).toInt32 = (1003 : Int32) := rfl
theorem zs_1100 : (Int16.ofInt (1100)).toInt32 = (1100 : Int32) := rfl
theorem zs_9999 : (Int16.ofInt (9999)).toInt32 = (9999 : Int32) := rfl
theorem zs_10000 : (Int16.ofInt (10000)).toInt32 = (10000 : Int32) := rfl
theorem zs_12345 : (Int16.ofInt (12345)).toInt32 = (12345 : Int32) := rfl
theorem zc_m8 : Int32.ofInt (-8) = (-8 : Int32) := rfl
theorem zl_0 : Int64.ofNat ((0 : Fin 2) : Nat) = (0 : Int64) := rfl
theorem zl_1 : Int64.ofNat ((1 : Fin 2) : Nat) = (1 : Int64) := rfl
section Det
variable {l : Launch} {Γ : ZG} {M M' : ZM} {dp mc ms d' : Nat} {Φ : Option Value → ZW → Prop} {Ψ : String → ZW → Prop} {k n : Nat} {w w' : ZW} {pc : Nat} {L : ZL} {st : List Value}
theorem go_mono {Φ' : Option Value → ZW → Prop} {Ψ' : String → ZW → Prop} (h : ∀ v w2, Φ v w2 → Φ' v w2) (hx : ∀ E w2, Ψ E w2 → Ψ' E w2) (kk : Go l Γ M dp mc ms Φ Ψ k n w pc L st) : Go l Γ M dp mc ms Φ' Ψ' k n w pc L st := by
  intro p e s m args below meth c C H locs ls hl hH hS T hT X
  obtain ⟨t, a1, o, b1, b2, b3⟩ := kk p e s m args below meth c C H locs ls hl hH hS T hT X
  refine ⟨t, a1, o, b1, b2, ?_⟩
  rcases b3 with ⟨⟨v, w', c1, c2, c3⟩, c4⟩ | ⟨q, c1, E, ce, L9, ⟨w', d1, d2⟩, c3⟩
  · exact Or.inl ⟨⟨v, w', c1, h _ _ c2, c3⟩, c4⟩
  · exact Or.inr ⟨q, c1, E, ce, L9, ⟨w', hx _ _ d1, d2⟩, c3⟩
/-- a contract that says all: it returns r, and leaves the world w' -/
def Cm (l : Launch) (Γ : ZG) (M : ZM) (d : Nat) (as : List Value) (w : ZW) (r : Option Value) (w' : ZW) : Prop := Ct l Γ M d 0 0 as w (fun v w'' => v = r ∧ w'' = w') zNo
theorem Cm.of {d : Nat} {as : List Value} {r : Option Value} (hy : plainName M.1.cls = true) (hh : M.2.2.2.2 = []) (hn : (lg_sl as).length ≤ M.2.2.1) (h : Go l Γ M d 0 0 (fun v w'' => v = r ∧ w'' = w') zNo 0 0 w 0 (lv_args 0 as) []) : Cm l Γ M d as w r w' := Ct.of hy hh hn h
theorem gcV0 {index b ci : Nat} {fs : List Value} {r : Value} (pc' : Nat) (hd : decode M.2.1 pc = .ok (.invokevirtual index, 3)) (V : zV M.1.cls index M' 0) (hw : w.2 b = some (.inr (ci, fs))) (hc : (vwCl[ci]?).map (fun q => q.1) = some M'.1.cls) (hct : Cm l Γ M' d' (.ref b :: []) w (some r) w') (kk : Go l Γ M dp mc ms Φ Ψ k n w' pc' L (r :: st)) (hdp : d' + 1 ≤ dp := by decide) (hL : M'.2.2.1 ≤ 40 := by decide) (hk : k ≤ mc := by omega) (hn : n ≤ ms := by omega) (hst : (st.map fun v => v.category).sum ≤ 8 := by exact Nat.le_of_ble_eq_true rfl) (hp : pc + 3 = pc' := by rfl) : Go l Γ M dp mc ms Φ Ψ k n w pc L (.ref b :: st) := by
  refine go_callV (As := []) pc' hd V hw hc hct hdp hL hk hn hst ?_ hp
  intro v w2 h
  obtain ⟨rfl, rfl⟩ := h
  exact kk
theorem gcS0 {index : Nat} {r : Value} (pc' : Nat) (hd : decode M.2.1 pc = .ok (.invokestatic index, 3)) (V : zVs M.1.cls index M' 0) (hct : Cm l Γ M' d' [] w (some r) w') (kk : Go l Γ M dp mc ms Φ Ψ k n w' pc' L (r :: st)) (hh : M'.2.2.2.2 = [] := by rfl) (hdp : d' + 1 ≤ dp := by decide) (hL : M'.2.2.1 ≤ 40 := by decide) (hk : k ≤ mc := by omega) (hn : n ≤ ms := by omega) (hst : (st.map fun v => v.category).sum ≤ 8 := by exact Nat.le_of_ble_eq_true rfl) (hp : pc + 3 = pc' := by rfl) : Go l Γ M dp mc ms Φ Ψ k n w pc L (st) := by
  refine go_callS (As := []) pc' hd V hh hct hdp hL hk hn hst ?_ hp
  intro v w2 h
  obtain ⟨rfl, rfl⟩ := h
  exact kk
theorem gcV0v {index b ci : Nat} {fs : List Value} (pc' : Nat) (hd : decode M.2.1 pc = .ok (.invokevirtual index, 3)) (V : zV M.1.cls index M' 0) (hw : w.2 b = some (.inr (ci, fs))) (hc : (vwCl[ci]?).map (fun q => q.1) = some M'.1.cls) (hct : Cm l Γ M' d' (.ref b :: []) w (none) w') (kk : Go l Γ M dp mc ms Φ Ψ k n w' pc' L st) (hdp : d' + 1 ≤ dp := by decide) (hL : M'.2.2.1 ≤ 40 := by decide) (hk : k ≤ mc := by omega) (hn : n ≤ ms := by omega) (hst : (st.map fun v => v.category).sum ≤ 8 := by exact Nat.le_of_ble_eq_true rfl) (hp : pc + 3 = pc' := by rfl) : Go l Γ M dp mc ms Φ Ψ k n w pc L (.ref b :: st) := by
  refine go_callV (As := []) pc' hd V hw hc hct hdp hL hk hn hst ?_ hp
  intro v w2 h
  obtain ⟨rfl, rfl⟩ := h
  exact kk
theorem gcS0v {index : Nat} (pc' : Nat) (hd : decode M.2.1 pc = .ok (.invokestatic index, 3)) (V : zVs M.1.cls index M' 0) (hct : Cm l Γ M' d' [] w (none) w') (kk : Go l Γ M dp mc ms Φ Ψ k n w' pc' L st) (hh : M'.2.2.2.2 = [] := by rfl) (hdp : d' + 1 ≤ dp := by decide) (hL : M'.2.2.1 ≤ 40 := by decide) (hk : k ≤ mc := by omega) (hn : n ≤ ms := by omega) (hst : (st.map fun v => v.category).sum ≤ 8 := by exact Nat.le_of_ble_eq_true rfl) (hp : pc + 3 = pc' := by rfl) : Go l Γ M dp mc ms Φ Ψ k n w pc L (st) := by
  refine go_callS (As := []) pc' hd V hh hct hdp hL hk hn hst ?_ hp
  intro v w2 h
  obtain ⟨rfl, rfl⟩ := h
  exact kk
theorem gcV1 {index b ci : Nat} {fs : List Value} {x1 : Value} {r : Value} (pc' : Nat) (hd : decode M.2.1 pc = .ok (.invokevirtual index, 3)) (V : zV M.1.cls index M' 1) (hw : w.2 b = some (.inr (ci, fs))) (hc : (vwCl[ci]?).map (fun q => q.1) = some M'.1.cls) (hct : Cm l Γ M' d' (.ref b :: [x1]) w (some r) w') (kk : Go l Γ M dp mc ms Φ Ψ k n w' pc' L (r :: st)) (hdp : d' + 1 ≤ dp := by decide) (hL : M'.2.2.1 ≤ 40 := by decide) (hk : k ≤ mc := by omega) (hn : n ≤ ms := by omega) (hst : (st.map fun v => v.category).sum ≤ 8 := by exact Nat.le_of_ble_eq_true rfl) (hp : pc + 3 = pc' := by rfl) : Go l Γ M dp mc ms Φ Ψ k n w pc L (x1 :: .ref b :: st) := by
  refine go_callV (As := [x1]) pc' hd V hw hc hct hdp hL hk hn hst ?_ hp
  intro v w2 h
  obtain ⟨rfl, rfl⟩ := h
  exact kk
theorem gcS1 {index : Nat} {x1 : Value} {r : Value} (pc' : Nat) (hd : decode M.2.1 pc = .ok (.invokestatic index, 3)) (V : zVs M.1.cls index M' 1) (hct : Cm l Γ M' d' [x1] w (some r) w') (kk : Go l Γ M dp mc ms Φ Ψ k n w' pc' L (r :: st)) (hh : M'.2.2.2.2 = [] := by rfl) (hdp : d' + 1 ≤ dp := by decide) (hL : M'.2.2.1 ≤ 40 := by decide) (hk : k ≤ mc := by omega) (hn : n ≤ ms := by omega) (hst : (st.map fun v => v.category).sum ≤ 8 := by exact Nat.le_of_ble_eq_true rfl) (hp : pc + 3 = pc' := by rfl) : Go l Γ M dp mc ms Φ Ψ k n w pc L (x1 :: st) := by
  refine go_callS (As := [x1]) pc' hd V hh hct hdp hL hk hn hst ?_ hp
  intro v w2 h
  obtain ⟨rfl, rfl⟩ := h
  exact kk
theorem gcV1v {index b ci : Nat} {fs : List Value} {x1 : Value} (pc' : Nat) (hd : decode M.2.1 pc = .ok (.invokevirtual index, 3)) (V : zV M.1.cls index M' 1) (hw : w.2 b = some (.inr (ci, fs))) (hc : (vwCl[ci]?).map (fun q => q.1) = some M'.1.cls) (hct : Cm l Γ M' d' (.ref b :: [x1]) w (none) w') (kk : Go l Γ M dp mc ms Φ Ψ k n w' pc' L st) (hdp : d' + 1 ≤ dp := by decide) (hL : M'.2.2.1 ≤ 40 := by decide) (hk : k ≤ mc := by omega) (hn : n ≤ ms := by omega) (hst : (st.map fun v => v.category).sum ≤ 8 := by exact Nat.le_of_ble_eq_true rfl) (hp : pc + 3 = pc' := by rfl) : Go l Γ M dp mc ms Φ Ψ k n w pc L (x1 :: .ref b :: st) := by
  refine go_callV (As := [x1]) pc' hd V hw hc hct hdp hL hk hn hst ?_ hp
  intro v w2 h
  obtain ⟨rfl, rfl⟩ := h
  exact kk
theorem gcS1v {index : Nat} {x1 : Value} (pc' : Nat) (hd : decode M.2.1 pc = .ok (.invokestatic index, 3)) (V : zVs M.1.cls index M' 1) (hct : Cm l Γ M' d' [x1] w (none) w') (kk : Go l Γ M dp mc ms Φ Ψ k n w' pc' L st) (hh : M'.2.2.2.2 = [] := by rfl) (hdp : d' + 1 ≤ dp := by decide) (hL : M'.2.2.1 ≤ 40 := by decide) (hk : k ≤ mc := by omega) (hn : n ≤ ms := by omega) (hst : (st.map fun v => v.category).sum ≤ 8 := by exact Nat.le_of_ble_eq_true rfl) (hp : pc + 3 = pc' := by rfl) : Go l Γ M dp mc ms Φ Ψ k n w pc L (x1 :: st) := by
  refine go_callS (As := [x1]) pc' hd V hh hct hdp hL hk hn hst ?_ hp
  intro v w2 h
  obtain ⟨rfl, rfl⟩ := h
  exact kk
theorem gcV2 {index b ci : Nat} {fs : List Value} {x1 x2 : Value} {r : Value} (pc' : Nat) (hd : decode M.2.1 pc = .ok (.invokevirtual index, 3)) (V : zV M.1.cls index M' 2) (hw : w.2 b = some (.inr (ci, fs))) (hc : (vwCl[ci]?).map (fun q => q.1) = some M'.1.cls) (hct : Cm l Γ M' d' (.ref b :: [x1, x2]) w (some r) w') (kk : Go l Γ M dp mc ms Φ Ψ k n w' pc' L (r :: st)) (hdp : d' + 1 ≤ dp := by decide) (hL : M'.2.2.1 ≤ 40 := by decide) (hk : k ≤ mc := by omega) (hn : n ≤ ms := by omega) (hst : (st.map fun v => v.category).sum ≤ 8 := by exact Nat.le_of_ble_eq_true rfl) (hp : pc + 3 = pc' := by rfl) : Go l Γ M dp mc ms Φ Ψ k n w pc L (x2 :: x1 :: .ref b :: st) := by
  refine go_callV (As := [x1, x2]) pc' hd V hw hc hct hdp hL hk hn hst ?_ hp
  intro v w2 h
  obtain ⟨rfl, rfl⟩ := h
  exact kk
theorem gcS2 {index : Nat} {x1 x2 : Value} {r : Value} (pc' : Nat) (hd : decode M.2.1 pc = .ok (.invokestatic index, 3)) (V : zVs M.1.cls index M' 2) (hct : Cm l Γ M' d' [x1, x2] w (some r) w') (kk : Go l Γ M dp mc ms Φ Ψ k n w' pc' L (r :: st)) (hh : M'.2.2.2.2 = [] := by rfl) (hdp : d' + 1 ≤ dp := by decide) (hL : M'.2.2.1 ≤ 40 := by decide) (hk : k ≤ mc := by omega) (hn : n ≤ ms := by omega) (hst : (st.map fun v => v.category).sum ≤ 8 := by exact Nat.le_of_ble_eq_true rfl) (hp : pc + 3 = pc' := by rfl) : Go l Γ M dp mc ms Φ Ψ k n w pc L (x2 :: x1 :: st) := by
  refine go_callS (As := [x1, x2]) pc' hd V hh hct hdp hL hk hn hst ?_ hp
  intro v w2 h
  obtain ⟨rfl, rfl⟩ := h
  exact kk
theorem gcV2v {index b ci : Nat} {fs : List Value} {x1 x2 : Value} (pc' : Nat) (hd : decode M.2.1 pc = .ok (.invokevirtual index, 3)) (V : zV M.1.cls index M' 2) (hw : w.2 b = some (.inr (ci, fs))) (hc : (vwCl[ci]?).map (fun q => q.1) = some M'.1.cls) (hct : Cm l Γ M' d' (.ref b :: [x1, x2]) w (none) w') (kk : Go l Γ M dp mc ms Φ Ψ k n w' pc' L st) (hdp : d' + 1 ≤ dp := by decide) (hL : M'.2.2.1 ≤ 40 := by decide) (hk : k ≤ mc := by omega) (hn : n ≤ ms := by omega) (hst : (st.map fun v => v.category).sum ≤ 8 := by exact Nat.le_of_ble_eq_true rfl) (hp : pc + 3 = pc' := by rfl) : Go l Γ M dp mc ms Φ Ψ k n w pc L (x2 :: x1 :: .ref b :: st) := by
  refine go_callV (As := [x1, x2]) pc' hd V hw hc hct hdp hL hk hn hst ?_ hp
  intro v w2 h
  obtain ⟨rfl, rfl⟩ := h
  exact kk
theorem gcS2v {index : Nat} {x1 x2 : Value} (pc' : Nat) (hd : decode M.2.1 pc = .ok (.invokestatic index, 3)) (V : zVs M.1.cls index M' 2) (hct : Cm l Γ M' d' [x1, x2] w (none) w') (kk : Go l Γ M dp mc ms Φ Ψ k n w' pc' L st) (hh : M'.2.2.2.2 = [] := by rfl) (hdp : d' + 1 ≤ dp := by decide) (hL : M'.2.2.1 ≤ 40 := by decide) (hk : k ≤ mc := by omega) (hn : n ≤ ms := by omega) (hst : (st.map fun v => v.category).sum ≤ 8 := by exact Nat.le_of_ble_eq_true rfl) (hp : pc + 3 = pc' := by rfl) : Go l Γ M dp mc ms Φ Ψ k n w pc L (x2 :: x1 :: st) := by
  refine go_callS (As := [x1, x2]) pc' hd V hh hct hdp hL hk hn hst ?_ hp
  intro v w2 h
  obtain ⟨rfl, rfl⟩ := h
  exact kk
theorem gcV3 {index b ci : Nat} {fs : List Value} {x1 x2 x3 : Value} {r : Value} (pc' : Nat) (hd : decode M.2.1 pc = .ok (.invokevirtual index, 3)) (V : zV M.1.cls index M' 3) (hw : w.2 b = some (.inr (ci, fs))) (hc : (vwCl[ci]?).map (fun q => q.1) = some M'.1.cls) (hct : Cm l Γ M' d' (.ref b :: [x1, x2, x3]) w (some r) w') (kk : Go l Γ M dp mc ms Φ Ψ k n w' pc' L (r :: st)) (hdp : d' + 1 ≤ dp := by decide) (hL : M'.2.2.1 ≤ 40 := by decide) (hk : k ≤ mc := by omega) (hn : n ≤ ms := by omega) (hst : (st.map fun v => v.category).sum ≤ 8 := by exact Nat.le_of_ble_eq_true rfl) (hp : pc + 3 = pc' := by rfl) : Go l Γ M dp mc ms Φ Ψ k n w pc L (x3 :: x2 :: x1 :: .ref b :: st) := by
  refine go_callV (As := [x1, x2, x3]) pc' hd V hw hc hct hdp hL hk hn hst ?_ hp
  intro v w2 h
  obtain ⟨rfl, rfl⟩ := h
  exact kk
theorem gcS3 {index : Nat} {x1 x2 x3 : Value} {r : Value} (pc' : Nat) (hd : decode M.2.1 pc = .ok (.invokestatic index, 3)) (V : zVs M.1.cls index M' 3) (hct : Cm l Γ M' d' [x1, x2, x3] w (some r) w') (kk : Go l Γ M dp mc ms Φ Ψ k n w' pc' L (r :: st)) (hh : M'.2.2.2.2 = [] := by rfl) (hdp : d' + 1 ≤ dp := by decide) (hL : M'.2.2.1 ≤ 40 := by decide) (hk : k ≤ mc := by omega) (hn : n ≤ ms := by omega) (hst : (st.map fun v => v.category).sum ≤ 8 := by exact Nat.le_of_ble_eq_true rfl) (hp : pc + 3 = pc' := by rfl) : Go l Γ M dp mc ms Φ Ψ k n w pc L (x3 :: x2 :: x1 :: st) := by
  refine go_callS (As := [x1, x2, x3]) pc' hd V hh hct hdp hL hk hn hst ?_ hp
  intro v w2 h
  obtain ⟨rfl, rfl⟩ := h
  exact kk
theorem gcV3v {index b ci : Nat} {fs : List Value} {x1 x2 x3 : Value} (pc' : Nat) (hd : decode M.2.1 pc = .ok (.invokevirtual index, 3)) (V : zV M.1.cls index M' 3) (hw : w.2 b = some (.inr (ci, fs))) (hc : (vwCl[ci]?).map (fun q => q.1) = some M'.1.cls) (hct : Cm l Γ M' d' (.ref b :: [x1, x2, x3]) w (none) w') (kk : Go l Γ M dp mc ms Φ Ψ k n w' pc' L st) (hdp : d' + 1 ≤ dp := by decide) (hL : M'.2.2.1 ≤ 40 := by decide) (hk : k ≤ mc := by omega) (hn : n ≤ ms := by omega) (hst : (st.map fun v => v.category).sum ≤ 8 := by exact Nat.le_of_ble_eq_true rfl) (hp : pc + 3 = pc' := by rfl) : Go l Γ M dp mc ms Φ Ψ k n w pc L (x3 :: x2 :: x1 :: .ref b :: st) := by
  refine go_callV (As := [x1, x2, x3]) pc' hd V hw hc hct hdp hL hk hn hst ?_ hp
  intro v w2 h
  obtain ⟨rfl, rfl⟩ := h
  exact kk
theorem gcS3v {index : Nat} {x1 x2 x3 : Value} (pc' : Nat) (hd : decode M.2.1 pc = .ok (.invokestatic index, 3)) (V : zVs M.1.cls index M' 3) (hct : Cm l Γ M' d' [x1, x2, x3] w (none) w') (kk : Go l Γ M dp mc ms Φ Ψ k n w' pc' L st) (hh : M'.2.2.2.2 = [] := by rfl) (hdp : d' + 1 ≤ dp := by decide) (hL : M'.2.2.1 ≤ 40 := by decide) (hk : k ≤ mc := by omega) (hn : n ≤ ms := by omega) (hst : (st.map fun v => v.category).sum ≤ 8 := by exact Nat.le_of_ble_eq_true rfl) (hp : pc + 3 = pc' := by rfl) : Go l Γ M dp mc ms Φ Ψ k n w pc L (x3 :: x2 :: x1 :: st) := by
  refine go_callS (As := [x1, x2, x3]) pc' hd V hh hct hdp hL hk hn hst ?_ hp
  intro v w2 h
  obtain ⟨rfl, rfl⟩ := h
  exact kk
theorem gcV5 {index b ci : Nat} {fs : List Value} {x1 x2 x3 x4 x5 : Value} {r : Value} (pc' : Nat) (hd : decode M.2.1 pc = .ok (.invokevirtual index, 3)) (V : zV M.1.cls index M' 5) (hw : w.2 b = some (.inr (ci, fs))) (hc : (vwCl[ci]?).map (fun q => q.1) = some M'.1.cls) (hct : Cm l Γ M' d' (.ref b :: [x1, x2, x3, x4, x5]) w (some r) w') (kk : Go l Γ M dp mc ms Φ Ψ k n w' pc' L (r :: st)) (hdp : d' + 1 ≤ dp := by decide) (hL : M'.2.2.1 ≤ 40 := by decide) (hk : k ≤ mc := by omega) (hn : n ≤ ms := by omega) (hst : (st.map fun v => v.category).sum ≤ 8 := by exact Nat.le_of_ble_eq_true rfl) (hp : pc + 3 = pc' := by rfl) : Go l Γ M dp mc ms Φ Ψ k n w pc L (x5 :: x4 :: x3 :: x2 :: x1 :: .ref b :: st) := by
  refine go_callV (As := [x1, x2, x3, x4, x5]) pc' hd V hw hc hct hdp hL hk hn hst ?_ hp
  intro v w2 h
  obtain ⟨rfl, rfl⟩ := h
  exact kk
theorem gcS5 {index : Nat} {x1 x2 x3 x4 x5 : Value} {r : Value} (pc' : Nat) (hd : decode M.2.1 pc = .ok (.invokestatic index, 3)) (V : zVs M.1.cls index M' 5) (hct : Cm l Γ M' d' [x1, x2, x3, x4, x5] w (some r) w') (kk : Go l Γ M dp mc ms Φ Ψ k n w' pc' L (r :: st)) (hh : M'.2.2.2.2 = [] := by rfl) (hdp : d' + 1 ≤ dp := by decide) (hL : M'.2.2.1 ≤ 40 := by decide) (hk : k ≤ mc := by omega) (hn : n ≤ ms := by omega) (hst : (st.map fun v => v.category).sum ≤ 8 := by exact Nat.le_of_ble_eq_true rfl) (hp : pc + 3 = pc' := by rfl) : Go l Γ M dp mc ms Φ Ψ k n w pc L (x5 :: x4 :: x3 :: x2 :: x1 :: st) := by
  refine go_callS (As := [x1, x2, x3, x4, x5]) pc' hd V hh hct hdp hL hk hn hst ?_ hp
  intro v w2 h
  obtain ⟨rfl, rfl⟩ := h
  exact kk
theorem gcV5v {index b ci : Nat} {fs : List Value} {x1 x2 x3 x4 x5 : Value} (pc' : Nat) (hd : decode M.2.1 pc = .ok (.invokevirtual index, 3)) (V : zV M.1.cls index M' 5) (hw : w.2 b = some (.inr (ci, fs))) (hc : (vwCl[ci]?).map (fun q => q.1) = some M'.1.cls) (hct : Cm l Γ M' d' (.ref b :: [x1, x2, x3, x4, x5]) w (none) w') (kk : Go l Γ M dp mc ms Φ Ψ k n w' pc' L st) (hdp : d' + 1 ≤ dp := by decide) (hL : M'.2.2.1 ≤ 40 := by decide) (hk : k ≤ mc := by omega) (hn : n ≤ ms := by omega) (hst : (st.map fun v => v.category).sum ≤ 8 := by exact Nat.le_of_ble_eq_true rfl) (hp : pc + 3 = pc' := by rfl) : Go l Γ M dp mc ms Φ Ψ k n w pc L (x5 :: x4 :: x3 :: x2 :: x1 :: .ref b :: st) := by
  refine go_callV (As := [x1, x2, x3, x4, x5]) pc' hd V hw hc hct hdp hL hk hn hst ?_ hp
  intro v w2 h
  obtain ⟨rfl, rfl⟩ := h
  exact kk
theorem gcS5v {index : Nat} {x1 x2 x3 x4 x5 : Value} (pc' : Nat) (hd : decode M.2.1 pc = .ok (.invokestatic index, 3)) (V : zVs M.1.cls index M' 5) (hct : Cm l Γ M' d' [x1, x2, x3, x4, x5] w (none) w') (kk : Go l Γ M dp mc ms Φ Ψ k n w' pc' L st) (hh : M'.2.2.2.2 = [] := by rfl) (hdp : d' + 1 ≤ dp := by decide) (hL : M'.2.2.1 ≤ 40 := by decide) (hk : k ≤ mc := by omega) (hn : n ≤ ms := by omega) (hst : (st.map fun v => v.category).sum ≤ 8 := by exact Nat.le_of_ble_eq_true rfl) (hp : pc + 3 = pc' := by rfl) : Go l Γ M dp mc ms Φ Ψ k n w pc L (x5 :: x4 :: x3 :: x2 :: x1 :: st) := by
  refine go_callS (As := [x1, x2, x3, x4, x5]) pc' hd V hh hct hdp hL hk hn hst ?_ hp
  intro v w2 h
  obtain ⟨rfl, rfl⟩ := h
  exact kk
end Det
