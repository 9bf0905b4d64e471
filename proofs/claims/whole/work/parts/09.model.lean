theorem zc_m1 : Int32.ofInt (-1) = (-1 : Int32) := rfl
theorem zc_0 : Int32.ofInt 0 = (0 : Int32) := rfl
theorem zc_1 : Int32.ofInt 1 = (1 : Int32) := rfl
theorem zc_2 : Int32.ofInt 2 = (2 : Int32) := rfl
theorem zc_3 : Int32.ofInt 3 = (3 : Int32) := rfl
theorem zc_4 : Int32.ofInt 4 = (4 : Int32) := rfl
theorem zc_5 : Int32.ofInt 5 = (5 : Int32) := rfl
theorem zb_m8 : (Int8.ofInt (-8)).toInt32 = (-8 : Int32) := rfl
theorem zb_m7 : (Int8.ofInt (-7)).toInt32 = (-7 : Int32) := rfl
theorem zb_m6 : (Int8.ofInt (-6)).toInt32 = (-6 : Int32) := rfl
theorem zb_m5 : (Int8.ofInt (-5)).toInt32 = (-5 : Int32) := rfl
theorem zb_m4 : (Int8.ofInt (-4)).toInt32 = (-4 : Int32) := rfl
theorem zb_m3 : (Int8.ofInt (-3)).toInt32 = (-3 : Int32) := rfl
theorem zb_m2 : (Int8.ofInt (-2)).toInt32 = (-2 : Int32) := rfl
theorem zb_6 : (Int8.ofInt (6)).toInt32 = (6 : Int32) := rfl
theorem zb_7 : (Int8.ofInt (7)).toInt32 = (7 : Int32) := rfl
theorem zb_8 : (Int8.ofInt (8)).toInt32 = (8 : Int32) := rfl
theorem zb_9 : (Int8.ofInt (9)).toInt32 = (9 : Int32) := rfl
theorem zb_10 : (Int8.ofInt (10)).toInt32 = (10 : Int32) := rfl
theorem zb_11 : (Int8.ofInt (11)).toInt32 = (11 : Int32) := rfl
theorem zb_12 : (Int8.ofInt (12)).toInt32 = (12 : Int32) := rfl
theorem zb_13 : (Int8.ofInt (13)).toInt32 = (13 : Int32) := rfl
theorem zb_16 : (Int8.ofInt (16)).toInt32 = (16 : Int32) := rfl
theorem zb_20 : (Int8.ofInt (20)).toInt32 = (20 : Int32) := rfl
theorem zb_24 : (Int8.ofInt (24)).toInt32 = (24 : Int32) := rfl
theorem zb_30 : (Int8.ofInt (30)).toInt32 = (30 : Int32) := rfl
theorem zb_31 : (Int8.ofInt (31)).toInt32 = (31 : Int32) := rfl
theorem zb_32 : (Int8.ofInt (32)).toInt32 = (32 : Int32) := rfl
theorem zb_40 : (Int8.ofInt (40)).toInt32 = (40 : Int32) := rfl
theorem zb_41 : (Int8.ofInt (41)).toInt32 = (41 : Int32) := rfl
theorem zb_42 : (Int8.ofInt (42)).toInt32 = (42 : Int32) := rfl
theorem zb_43 : (Int8.ofInt (43)).toInt32 = (43 : Int32) := rfl
theorem zb_45 : (Int8.ofInt (45)).toInt32 = (45 : Int32) := rfl
theorem zb_46 : (Int8.ofInt (46)).toInt32 = (46 : Int32) := rfl
theorem zb_47 : (Int8.ofInt (47)).toInt32 = (47 : Int32) := rfl
theorem zb_48 : (Int8.ofInt (48)).toInt32 = (48 : Int32) := rfl
theorem zb_57 : (Int8.ofInt (57)).toInt32 = (57 : Int32) := rfl
theorem zb_59 : (Int8.ofInt (59)).toInt32 = (59 : Int32) := rfl
theorem zb_97 : (Int8.ofInt (97)).toInt32 = (97 : Int32) := rfl
theorem zb_99 : (Int8.ofInt (99)).toInt32 = (99 : Int32) := rfl
theorem zb_122 : (Int8.ofInt (122)).toInt32 = (122 : Int32) := rfl
theorem zs_146 : (Int16.ofInt (146)).toInt32 = (146 : Int32) := rfl
theorem zs_160 : (Int16.ofInt (160)).toInt32 = (160 : Int32) := rfl
theorem zs_200 : (Int16.ofInt (200)).toInt32 = (200 : Int32) := rfl
theorem zs_255 : (Int16.ofInt (255)).toInt32 = (255 : Int32) := rfl
theorem zs_520 : (Int16.ofInt (520)).toInt32 = (520 : Int32) := rfl
theorem zs_600 : (Int16.ofInt (600)).toInt32 = (600 : Int32) := rfl
theorem zs_666 : (Int16.ofInt (666)).toInt32 = (666 : Int32) := rfl
theorem zs_999 : (Int16.ofInt (999)).toInt32 = (999 : Int32) := rfl
theorem zs_1000 : (Int16.ofInt (1000)).toInt32 = (1000 : Int32) := rfl
theorem zs_1666 : (Int16.ofInt (1666)).toInt32 = (1666 : Int32) := rfl
theorem zs_9999 : (Int16.ofInt (9999)).toInt32 = (9999 : Int32) := rfl
theorem zc_m8 : Int32.ofInt (-8) = (-8 : Int32) := rfl
theorem zc_6 : Int32.ofInt (6) = (6 : Int32) := rfl
theorem zl_0 : Int64.ofNat ((0 : Fin 2) : Nat) = (0 : Int64) := rfl
theorem zl_1 : Int64.ofNat ((1 : Fin 2) : Nat) = (1 : Int64) := rfl
section Det
variable {l : Launch} {Γ : ZG} {M M' : ZM} {dp mc ms d' : Nat} {Φ : Option Value → ZW → Prop} {Ψ : String → ZW → Prop} {k n : Nat} {w w' : ZW} {pc : Nat} {L : ZL} {st : List Value}
theorem go_mono {Φ' : Option Value → ZW → Prop} {Ψ' : String → ZW → Prop} (h : ∀ v w2, Φ v w2 → Φ' v w2) (hx : ∀ E w2, Ψ E w2 → Ψ' E w2) (kk : Go l Γ M dp mc ms Φ Ψ k n w pc L st) : Go l Γ M dp mc ms Φ' Ψ' k n w pc L st := by
  intro p e s m args below meth c C H locs ls hl hH hS T hT X
  obtain ⟨t, a1, o, b1, b2, b3⟩ := kk p e s m args below meth c C H locs ls hl hH hS T hT X
  refine ⟨t, a1, o, b1, b2, ?_⟩
  rcases b3 with ⟨⟨v, w', c1, c2, c3⟩, c4⟩ | ⟨q, c1, E, ce, L9, ⟨w', d1, d2⟩, c3⟩
  · exact Or.inl ⟨⟨v, w', c1, h _ _ c2, c3⟩, c4⟩
  · exact Or.inr ⟨q, c1, E, ce, L9, ⟨w', hx _ _ d1, d2⟩, c3⟩
/-- a contract that says all: it returns r, and leaves the world w' -/
def Cm (l : Launch) (Γ : ZG) (M : ZM) (d : Nat) (as : List Value) (w : ZW) (r : Option Value) (w' : ZW) : Prop := Ct l Γ M d 0 0 as w (fun v w'' => v = r ∧ w'' = w') zNo
theorem Cm.of {d : Nat} {as : List Value} {r : Option Value} (hy : plainName M.1.cls = true) (hh : M.2.2.2.2 = []) (hn : (lg_sl as).length ≤ M.2.2.1) (h : Go l Γ M d 0 0 (fun v w'' => v = r ∧ w'' = w') zNo 0 0 w 0 (lv_args 0 as) []) : Cm l Γ M d as w r w' := Ct.of hy hh hn h
theorem gcV0 {index b ci : Nat} {fs : List Value} {r : Value} (pc' : Nat) (hd : decode M.2.1 pc = .ok (.invokevirtual index, 3)) (V : zV M.1.cls index M' 0) (hw : w.2 b = some (.inr (ci, fs))) (hc : (vwCl[ci]?).map (fun q => q.1) = some M'.1.cls) (hct : Cm l Γ M' d' (.ref b :: []) w (some r) w') (kk : Go l Γ M dp mc ms Φ Ψ k n w' pc' L (r :: st)) (hdp : d' + 1 ≤ dp := by decide) (hL : M'.2.2.1 ≤ 40 := by decide) (hk : k ≤ mc := by omega) (hn : n ≤ ms := by omega) (hst : (st.map fun v => v.category).sum ≤ 8 := by exact Nat.le_of_ble_eq_true rfl) (hp : pc + 3 = pc' := by rfl) : Go l Γ M dp mc ms Φ Ψ k n w pc L (.ref b :: st) := by
  refine go_callV (As := []) pc' hd V hw hc hct hdp hL hk hn hst ?_ hp
  intro v w2 h
  obtain ⟨rfl, rfl⟩ := h
  exact kk
theorem gcS0 {index : Nat} {r : Value} (pc' : Nat) (hd : decode M.2.1 pc = .ok (.invokestatic index, 3)) (V : zVs M.1.cls index M' 0) (hct : Cm l Γ M' d' [] w (some r) w') (kk : Go l Γ M dp mc ms Φ Ψ k n w' pc' L (r :: st)) (hh : M'.2.2.2.2 = [] := by rfl) (hdp : d' + 1 ≤ dp := by decide) (hL : M'.2.2.1 ≤ 40 := by decide) (hk : k ≤ mc := by omega) (hn : n ≤ ms := by omega) (hst : (st.map fun v => v.category).sum ≤ 8 := by exact Nat.le_of_ble_eq_true rfl) (hp : pc + 3 = pc' := by rfl) : Go l Γ M dp mc ms Φ Ψ k n w pc L (st) := by
  refine go_callS (As := []) pc' hd V hh hct hdp hL hk hn hst ?_ hp
  intro v w2 h
  obtain ⟨rfl, rfl⟩ := h
  exact kk
theorem gcV0v {index b ci : Nat} {fs : List Value} (pc' : Nat) (hd : decode M.2.1 pc = .ok (.invokevirtual index, 3)) (V : zV M.1.cls index M' 0) (hw : w.2 b = some (.inr (ci, fs))) (hc : (vwCl[ci]?).map (fun q => q.1) = some M'.1.cls) (hct : Cm l Γ M' d' (.ref b :: []) w (none) w') (kk : Go l Γ M dp mc ms Φ Ψ k n w' pc' L st) (hdp : d' + 1 ≤ dp := by decide) (hL : M'.2.2.1 ≤ 40 := by decide) (hk : k ≤ mc := by omega) (hn : n ≤ ms := by omega) (hst : (st.map fun v => v.category).sum ≤ 8 := by exact Nat.le_of_ble_eq_true rfl) (hp : pc + 3 = pc' := by rfl) : Go l Γ M dp mc ms Φ Ψ k n w pc L (.ref b :: st) := by
  refine go_callV (As := []) pc' hd V hw hc hct hdp hL hk hn hst ?_ hp
  intro v w2 h
  obtain ⟨rfl, rfl⟩ := h
  exact kk
theorem gcS0v {index : Nat} (pc' : Nat) (hd : decode M.2.1 pc = .ok (.invokestatic index, 3)) (V : zVs M.1.cls index M' 0) (hct : Cm l Γ M' d' [] w (none) w') (kk : Go l Γ M dp mc ms Φ Ψ k n w' pc' L st) (hh : M'.2.2.2.2 = [] := by rfl) (hdp : d' + 1 ≤ dp := by decide) (hL : M'.2.2.1 ≤ 40 := by decide) (hk : k ≤ mc := by omega) (hn : n ≤ ms := by omega) (hst : (st.map fun v => v.category).sum ≤ 8 := by exact Nat.le_of_ble_eq_true rfl) (hp : pc + 3 = pc' := by rfl) : Go l Γ M dp mc ms Φ Ψ k n w pc L (st) := by
  refine go_callS (As := []) pc' hd V hh hct hdp hL hk hn hst ?_ hp
  intro v w2 h
  obtain ⟨rfl, rfl⟩ := h
  exact kk
theorem gcV1 {index b ci : Nat} {fs : List Value} {x1 : Value} {r : Value} (pc' : Nat) (hd : decode M.2.1 pc = .ok (.invokevirtual index, 3)) (V : zV M.1.cls index M' 1) (hw : w.2 b = some (.inr (ci, fs))) (hc : (vwCl[ci]?).map (fun q => q.1) = some M'.1.cls) (hct : Cm l Γ M' d' (.ref b :: [x1]) w (some r) w') (kk : Go l Γ M dp mc ms Φ Ψ k n w' pc' L (r :: st)) (hdp : d' + 1 ≤ dp := by decide) (hL : M'.2.2.1 ≤ 40 := by decide) (hk : k ≤ mc := by omega) (hn : n ≤ ms := by omega) (hst : (st.map fun v => v.category).sum ≤ 8 := by exact Nat.le_of_ble_eq_true rfl) (hp : pc + 3 = pc' := by rfl) : Go l Γ M dp mc ms Φ Ψ k n w pc L (x1 :: .ref b :: st) := by
  refine go_callV (As := [x1]) pc' hd V hw hc hct hdp hL hk hn hst ?_ hp
  intro v w2 h
  obtain ⟨rfl, rfl⟩ := h
  exact kk
theorem gcS1 {index : Nat} {x1 : Value} {r : Value} (pc' : Nat) (hd : decode M.2.1 pc = .ok (.invokestatic index, 3)) (V : zVs M.1.cls index M' 1) (hct : Cm l Γ M' d' [x1] w (some r) w') (kk : Go l Γ M dp mc ms Φ Ψ k n w' pc' L (r :: st)) (hh : M'.2.2.2.2 = [] := by rfl) (hdp : d' + 1 ≤ dp := by decide) (hL : M'.2.2.1 ≤ 40 := by decide) (hk : k ≤ mc := by omega) (hn : n ≤ ms := by omega) (hst : (st.map fun v => v.category).sum ≤ 8 := by exact Nat.le_of_ble_eq_true rfl) (hp : pc + 3 = pc' := by rfl) : Go l Γ M dp mc ms Φ Ψ k n w pc L (x1 :: st) := by
  refine go_callS (As := [x1]) pc' hd V hh hct hdp hL hk hn hst ?_ hp
  intro v w2 h
  obtain ⟨rfl, rfl⟩ := h
  exact kk
theorem gcV1v {index b ci : Nat} {fs : List Value} {x1 : Value} (pc' : Nat) (hd : decode M.2.1 pc = .ok (.invokevirtual index, 3)) (V : zV M.1.cls index M' 1) (hw : w.2 b = some (.inr (ci, fs))) (hc : (vwCl[ci]?).map (fun q => q.1) = some M'.1.cls) (hct : Cm l Γ M' d' (.ref b :: [x1]) w (none) w') (kk : Go l Γ M dp mc ms Φ Ψ k n w' pc' L st) (hdp : d' + 1 ≤ dp := by decide) (hL : M'.2.2.1 ≤ 40 := by decide) (hk : k ≤ mc := by omega) (hn : n ≤ ms := by omega) (hst : (st.map fun v => v.category).sum ≤ 8 := by exact Nat.le_of_ble_eq_true rfl) (hp : pc + 3 = pc' := by rfl) : Go l Γ M dp mc ms Φ Ψ k n w pc L (x1 :: .ref b :: st) := by
  refine go_callV (As := [x1]) pc' hd V hw hc hct hdp hL hk hn hst ?_ hp
  intro v w2 h
  obtain ⟨rfl, rfl⟩ := h
  exact kk
theorem gcS1v {index : Nat} {x1 : Value} (pc' : Nat) (hd : decode M.2.1 pc = .ok (.invokestatic index, 3)) (V : zVs M.1.cls index M' 1) (hct : Cm l Γ M' d' [x1] w (none) w') (kk : Go l Γ M dp mc ms Φ Ψ k n w' pc' L st) (hh : M'.2.2.2.2 = [] := by rfl) (hdp : d' + 1 ≤ dp := by decide) (hL : M'.2.2.1 ≤ 40 := by decide) (hk : k ≤ mc := by omega) (hn : n ≤ ms := by omega) (hst : (st.map fun v => v.category).sum ≤ 8 := by exact Nat.le_of_ble_eq_true rfl) (hp : pc + 3 = pc' := by rfl) : Go l Γ M dp mc ms Φ Ψ k n w pc L (x1 :: st) := by
  refine go_callS (As := [x1]) pc' hd V hh hct hdp hL hk hn hst ?_ hp
  intro v w2 h
  obtain ⟨rfl, rfl⟩ := h
  exact kk
theorem gcV2 {index b ci : Nat} {fs : List Value} {x1 x2 : Value} {r : Value} (pc' : Nat) (hd : decode M.2.1 pc = .ok (.invokevirtual index, 3)) (V : zV M.1.cls index M' 2) (hw : w.2 b = some (.inr (ci, fs))) (hc : (vwCl[ci]?).map (fun q => q.1) = some M'.1.cls) (hct : Cm l Γ M' d' (.ref b :: [x1, x2]) w (some r) w') (kk : Go l Γ M dp mc ms Φ Ψ k n w' pc' L (r :: st)) (hdp : d' + 1 ≤ dp := by decide) (hL : M'.2.2.1 ≤ 40 := by decide) (hk : k ≤ mc := by omega) (hn : n ≤ ms := by omega) (hst : (st.map fun v => v.category).sum ≤ 8 := by exact Nat.le_of_ble_eq_true rfl) (hp : pc + 3 = pc' := by rfl) : Go l Γ M dp mc ms Φ Ψ k n w pc L (x2 :: x1 :: .ref b :: st) := by
  refine go_callV (As := [x1, x2]) pc' hd V hw hc hct hdp hL hk hn hst ?_ hp
  intro v w2 h
  obtain ⟨rfl, rfl⟩ := h
  exact kk
theorem gcS2 {index : Nat} {x1 x2 : Value} {r : Value} (pc' : Nat) (hd : decode M.2.1 pc = .ok (.invokestatic index, 3)) (V : zVs M.1.cls index M' 2) (hct : Cm l Γ M' d' [x1, x2] w (some r) w') (kk : Go l Γ M dp mc ms Φ Ψ k n w' pc' L (r :: st)) (hh : M'.2.2.2.2 = [] := by rfl) (hdp : d' + 1 ≤ dp := by decide) (hL : M'.2.2.1 ≤ 40 := by decide) (hk : k ≤ mc := by omega) (hn : n ≤ ms := by omega) (hst : (st.map fun v => v.category).sum ≤ 8 := by exact Nat.le_of_ble_eq_true rfl) (hp : pc + 3 = pc' := by rfl) : Go l Γ M dp mc ms Φ Ψ k n w pc L (x2 :: x1 :: st) := by
  refine go_callS (As := [x1, x2]) pc' hd V hh hct hdp hL hk hn hst ?_ hp
  intro v w2 h
  obtain ⟨rfl, rfl⟩ := h
  exact kk
theorem gcV2v {index b ci : Nat} {fs : List Value} {x1 x2 : Value} (pc' : Nat) (hd : decode M.2.1 pc = .ok (.invokevirtual index, 3)) (V : zV M.1.cls index M' 2) (hw : w.2 b = some (.inr (ci, fs))) (hc : (vwCl[ci]?).map (fun q => q.1) = some M'.1.cls) (hct : Cm l Γ M' d' (.ref b :: [x1, x2]) w (none) w') (kk : Go l Γ M dp mc ms Φ Ψ k n w' pc' L st) (hdp : d' + 1 ≤ dp := by decide) (hL : M'.2.2.1 ≤ 40 := by decide) (hk : k ≤ mc := by omega) (hn : n ≤ ms := by omega) (hst : (st.map fun v => v.category).sum ≤ 8 := by exact Nat.le_of_ble_eq_true rfl) (hp : pc + 3 = pc' := by rfl) : Go l Γ M dp mc ms Φ Ψ k n w pc L (x2 :: x1 :: .ref b :: st) := by
  refine go_callV (As := [x1, x2]) pc' hd V hw hc hct hdp hL hk hn hst ?_ hp
  intro v w2 h
  obtain ⟨rfl, rfl⟩ := h
  exact kk
theorem gcS2v {index : Nat} {x1 x2 : Value} (pc' : Nat) (hd : decode M.2.1 pc = .ok (.invokestatic index, 3)) (V : zVs M.1.cls index M' 2) (hct : Cm l Γ M' d' [x1, x2] w (none) w') (kk : Go l Γ M dp mc ms Φ Ψ k n w' pc' L st) (hh : M'.2.2.2.2 = [] := by rfl) (hdp : d' + 1 ≤ dp := by decide) (hL : M'.2.2.1 ≤ 40 := by decide) (hk : k ≤ mc := by omega) (hn : n ≤ ms := by omega) (hst : (st.map fun v => v.category).sum ≤ 8 := by exact Nat.le_of_ble_eq_true rfl) (hp : pc + 3 = pc' := by rfl) : Go l Γ M dp mc ms Φ Ψ k n w pc L (x2 :: x1 :: st) := by
  refine go_callS (As := [x1, x2]) pc' hd V hh hct hdp hL hk hn hst ?_ hp
  intro v w2 h
  obtain ⟨rfl, rfl⟩ := h
  exact kk
theorem gcV3 {index b ci : Nat} {fs : List Value} {x1 x2 x3 : Value} {r : Value} (pc' : Nat) (hd : decode M.2.1 pc = .ok (.invokevirtual index, 3)) (V : zV M.1.cls index M' 3) (hw : w.2 b = some (.inr (ci, fs))) (hc : (vwCl[ci]?).map (fun q => q.1) = some M'.1.cls) (hct : Cm l Γ M' d' (.ref b :: [x1, x2, x3]) w (some r) w') (kk : Go l Γ M dp mc ms Φ Ψ k n w' pc' L (r :: st)) (hdp : d' + 1 ≤ dp := by decide) (hL : M'.2.2.1 ≤ 40 := by decide) (hk : k ≤ mc := by omega) (hn : n ≤ ms := by omega) (hst : (st.map fun v => v.category).sum ≤ 8 := by exact Nat.le_of_ble_eq_true rfl) (hp : pc + 3 = pc' := by rfl) : Go l Γ M dp mc ms Φ Ψ k n w pc L (x3 :: x2 :: x1 :: .ref b :: st) := by
  refine go_callV (As := [x1, x2, x3]) pc' hd V hw hc hct hdp hL hk hn hst ?_ hp
  intro v w2 h
  obtain ⟨rfl, rfl⟩ := h
  exact kk
theorem gcS3 {index : Nat} {x1 x2 x3 : Value} {r : Value} (pc' : Nat) (hd : decode M.2.1 pc = .ok (.invokestatic index, 3)) (V : zVs M.1.cls index M' 3) (hct : Cm l Γ M' d' [x1, x2, x3] w (some r) w') (kk : Go l Γ M dp mc ms Φ Ψ k n w' pc' L (r :: st)) (hh : M'.2.2.2.2 = [] := by rfl) (hdp : d' + 1 ≤ dp := by decide) (hL : M'.2.2.1 ≤ 40 := by decide) (hk : k ≤ mc := by omega) (hn : n ≤ ms := by omega) (hst : (st.map fun v => v.category).sum ≤ 8 := by exact Nat.le_of_ble_eq_true rfl) (hp : pc + 3 = pc' := by rfl) : Go l Γ M dp mc ms Φ Ψ k n w pc L (x3 :: x2 :: x1 :: st) := by
  refine go_callS (As := [x1, x2, x3]) pc' hd V hh hct hdp hL hk hn hst ?_ hp
  intro v w2 h
  obtain ⟨rfl, rfl⟩ := h
  exact kk
theorem gcV3v {index b ci : Nat} {fs : List Value} {x1 x2 x3 : Value} (pc' : Nat) (hd : decode M.2.1 pc = .ok (.invokevirtual index, 3)) (V : zV M.1.cls index M' 3) (hw : w.2 b = some (.inr (ci, fs))) (hc : (vwCl[ci]?).map (fun q => q.1) = some M'.1.cls) (hct : Cm l Γ M' d' (.ref b :: [x1, x2, x3]) w (none) w') (kk : Go l Γ M dp mc ms Φ Ψ k n w' pc' L st) (hdp : d' + 1 ≤ dp := by decide) (hL : M'.2.2.1 ≤ 40 := by decide) (hk : k ≤ mc := by omega) (hn : n ≤ ms := by omega) (hst : (st.map fun v => v.category).sum ≤ 8 := by exact Nat.le_of_ble_eq_true rfl) (hp : pc + 3 = pc' := by rfl) : Go l Γ M dp mc ms Φ Ψ k n w pc L (x3 :: x2 :: x1 :: .ref b :: st) := by
  refine go_callV (As := [x1, x2, x3]) pc' hd V hw hc hct hdp hL hk hn hst ?_ hp
  intro v w2 h
  obtain ⟨rfl, rfl⟩ := h
  exact kk
theorem gcS3v {index : Nat} {x1 x2 x3 : Value} (pc' : Nat) (hd : decode M.2.1 pc = .ok (.invokestatic index, 3)) (V : zVs M.1.cls index M' 3) (hct : Cm l Γ M' d' [x1, x2, x3] w (none) w') (kk : Go l Γ M dp mc ms Φ Ψ k n w' pc' L st) (hh : M'.2.2.2.2 = [] := by rfl) (hdp : d' + 1 ≤ dp := by decide) (hL : M'.2.2.1 ≤ 40 := by decide) (hk : k ≤ mc := by omega) (hn : n ≤ ms := by omega) (hst : (st.map fun v => v.category).sum ≤ 8 := by exact Nat.le_of_ble_eq_true rfl) (hp : pc + 3 = pc' := by rfl) : Go l Γ M dp mc ms Φ Ψ k n w pc L (x3 :: x2 :: x1 :: st) := by
  refine go_callS (As := [x1, x2, x3]) pc' hd V hh hct hdp hL hk hn hst ?_ hp
  intro v w2 h
  obtain ⟨rfl, rfl⟩ := h
  exact kk
theorem gcV5 {index b ci : Nat} {fs : List Value} {x1 x2 x3 x4 x5 : Value} {r : Value} (pc' : Nat) (hd : decode M.2.1 pc = .ok (.invokevirtual index, 3)) (V : zV M.1.cls index M' 5) (hw : w.2 b = some (.inr (ci, fs))) (hc : (vwCl[ci]?).map (fun q => q.1) = some M'.1.cls) (hct : Cm l Γ M' d' (.ref b :: [x1, x2, x3, x4, x5]) w (some r) w') (kk : Go l Γ M dp mc ms Φ Ψ k n w' pc' L (r :: st)) (hdp : d' + 1 ≤ dp := by decide) (hL : M'.2.2.1 ≤ 40 := by decide) (hk : k ≤ mc := by omega) (hn : n ≤ ms := by omega) (hst : (st.map fun v => v.category).sum ≤ 8 := by exact Nat.le_of_ble_eq_true rfl) (hp : pc + 3 = pc' := by rfl) : Go l Γ M dp mc ms Φ Ψ k n w pc L (x5 :: x4 :: x3 :: x2 :: x1 :: .ref b :: st) := by
  refine go_callV (As := [x1, x2, x3, x4, x5]) pc' hd V hw hc hct hdp hL hk hn hst ?_ hp
  intro v w2 h
  obtain ⟨rfl, rfl⟩ := h
  exact kk
theorem gcS5 {index : Nat} {x1 x2 x3 x4 x5 : Value} {r : Value} (pc' : Nat) (hd : decode M.2.1 pc = .ok (.invokestatic index, 3)) (V : zVs M.1.cls index M' 5) (hct : Cm l Γ M' d' [x1, x2, x3, x4, x5] w (some r) w') (kk : Go l Γ M dp mc ms Φ Ψ k n w' pc' L (r :: st)) (hh : M'.2.2.2.2 = [] := by rfl) (hdp : d' + 1 ≤ dp := by decide) (hL : M'.2.2.1 ≤ 40 := by decide) (hk : k ≤ mc := by omega) (hn : n ≤ ms := by omega) (hst : (st.map fun v => v.category).sum ≤ 8 := by exact Nat.le_of_ble_eq_true rfl) (hp : pc + 3 = pc' := by rfl) : Go l Γ M dp mc ms Φ Ψ k n w pc L (x5 :: x4 :: x3 :: x2 :: x1 :: st) := by
  refine go_callS (As := [x1, x2, x3, x4, x5]) pc' hd V hh hct hdp hL hk hn hst ?_ hp
  intro v w2 h
  obtain ⟨rfl, rfl⟩ := h
  exact kk
theorem gcV5v {index b ci : Nat} {fs : List Value} {x1 x2 x3 x4 x5 : Value} (pc' : Nat) (hd : decode M.2.1 pc = .ok (.invokevirtual index, 3)) (V : zV M.1.cls index M' 5) (hw : w.2 b = some (.inr (ci, fs))) (hc : (vwCl[ci]?).map (fun q => q.1) = some M'.1.cls) (hct : Cm l Γ M' d' (.ref b :: [x1, x2, x3, x4, x5]) w (none) w') (kk : Go l Γ M dp mc ms Φ Ψ k n w' pc' L st) (hdp : d' + 1 ≤ dp := by decide) (hL : M'.2.2.1 ≤ 40 := by decide) (hk : k ≤ mc := by omega) (hn : n ≤ ms := by omega) (hst : (st.map fun v => v.category).sum ≤ 8 := by exact Nat.le_of_ble_eq_true rfl) (hp : pc + 3 = pc' := by rfl) : Go l Γ M dp mc ms Φ Ψ k n w pc L (x5 :: x4 :: x3 :: x2 :: x1 :: .ref b :: st) := by
  refine go_callV (As := [x1, x2, x3, x4, x5]) pc' hd V hw hc hct hdp hL hk hn hst ?_ hp
  intro v w2 h
  obtain ⟨rfl, rfl⟩ := h
  exact kk
theorem gcS5v {index : Nat} {x1 x2 x3 x4 x5 : Value} (pc' : Nat) (hd : decode M.2.1 pc = .ok (.invokestatic index, 3)) (V : zVs M.1.cls index M' 5) (hct : Cm l Γ M' d' [x1, x2, x3, x4, x5] w (none) w') (kk : Go l Γ M dp mc ms Φ Ψ k n w' pc' L st) (hh : M'.2.2.2.2 = [] := by rfl) (hdp : d' + 1 ≤ dp := by decide) (hL : M'.2.2.1 ≤ 40 := by decide) (hk : k ≤ mc := by omega) (hn : n ≤ ms := by omega) (hst : (st.map fun v => v.category).sum ≤ 8 := by exact Nat.le_of_ble_eq_true rfl) (hp : pc + 3 = pc' := by rfl) : Go l Γ M dp mc ms Φ Ψ k n w pc L (x5 :: x4 :: x3 :: x2 :: x1 :: st) := by
  refine go_callS (As := [x1, x2, x3, x4, x5]) pc' hd V hh hct hdp hL hk hn hst ?_ hp
  intro v w2 h
  obtain ⟨rfl, rfl⟩ := h
  exact kk
end Det
/-! the reference's state: its numbers by slot; its arrays of numbers (0 buffer, 1 data, 2 draft, 3 tried, 4.. history); its stack -/
abbrev MS : Type := (Nat → Int32) × (Nat → Nat → Int32) × (Nat → Int64)
def mfs (o : Nat) (f : Nat → Int32) : List Value := [.int (f 0), .ref (o + 1), .int (f 2), .int (f 3), .int (f 4), .int (f 5), .int (f 6), .int (f 7), .ref (o + 2), .ref (o + 3), .ref (o + 4), .ref (o + 5), .int (f 12), .int (f 13), .int (f 14), .int (f 15), .ref (o + 14)]
def mcell (Γ : ZG) (o : Nat) (S : MS) (j : Nat) : Option va_E :=
  if j = 0 then some (.inr (6, mfs o S.1)) else if j = 5 then some (.inl (Γ.2.2.1 4, 8, .inr (.inr (.inr (.inr (fun i => if i < 8 then some (o + (6 + i)) else none)))))) else if j = 14 then some (.inl (Γ.2.2.1 2, 1000, .inr (.inl S.2.2)))
  else some (.inl (Γ.2.2.1 0, if j = 1 then 600 else 1666, .inl (S.2.1 (if j < 5 then j - 1 else j - 2))))
def wM (Γ : ZG) (w : ZW) (o : Nat) (S : MS) : ZW := (w.1, fun q => if o ≤ q ∧ q < o + 15 then mcell Γ o S (q - o) else w.2 q)
def mf (S : MS) (j : Nat) (v : Int32) : MS := (upd S.1 j v, S.2)
def ma (S : MS) (a : Nat) (f : Nat → Int32) : MS := (S.1, fun i => if i = a then f else S.2.1 i, S.2.2)
def ml (S : MS) (f : Nat → Int64) : MS := (S.1, S.2.1, f)
theorem wM_at {Γ : ZG} {w : ZW} {o : Nat} {S : MS} (j : Nat) (hj : j < 15) : (wM Γ w o S).2 (o + j) = mcell Γ o S j := by
  show (if o ≤ o + j ∧ o + j < o + 15 then mcell Γ o S (o + j - o) else w.2 (o + j)) = _
  rw [if_pos ⟨by omega, by omega⟩, show o + j - o = j by omega]
theorem wM_at0 {Γ : ZG} {w : ZW} {o : Nat} {S : MS} : (wM Γ w o S).2 o = some (.inr (6, mfs o S.1)) := wM_at (o := o) 0 (by decide)
theorem wM_out {Γ : ZG} {w : ZW} {o q : Nat} {S : MS} (h : q < o ∨ o + 15 ≤ q) : (wM Γ w o S).2 q = w.2 q := if_neg (by omega)
theorem wM_set {Γ : ZG} {w : ZW} {o x : Nat} {S S' : MS} {e : va_E} (hx : x < 15) (he : mcell Γ o S' x = some e) (ho : ∀ j, j < 15 → j ≠ x → mcell Γ o S' j = mcell Γ o S j) : wset (wM Γ w o S) (o + x) e = wM Γ w o S' := by
  refine Prod.ext rfl (funext fun q => ?_)
  show (if q = o + x then some e else if o ≤ q ∧ q < o + 15 then mcell Γ o S (q - o) else w.2 q) = if o ≤ q ∧ q < o + 15 then mcell Γ o S' (q - o) else w.2 q
  by_cases hq : q = o + x
  · rw [if_pos hq, if_pos ⟨by omega, by omega⟩, show q - o = x by omega, he]
  · rw [if_neg hq]
    by_cases hr : o ≤ q ∧ q < o + 15
    · rw [if_pos hr, if_pos hr, ho (q - o) (by omega) (by omega)]
    · rw [if_neg hr, if_neg hr]
theorem wM_setf {Γ : ZG} {w : ZW} {o j : Nat} {S : MS} {v : Int32} (h : (mfs o S.1).set j (.int v) = mfs o (upd S.1 j v)) : wset (wM Γ w o S) o (.inr (6, (mfs o S.1).set j (.int v))) = wM Γ w o (mf S j v) := by
  have := wM_set (Γ := Γ) (w := w) (o := o) (x := 0) (S := S) (S' := mf S j v) (e := .inr (6, mfs o (upd S.1 j v))) (by decide) rfl (fun i hi hne => by simp [mcell, mf, hne])
  rw [h]
  exact this
theorem wM_seta {Γ : ZG} {w : ZW} {o x a N : Nat} {S : MS} {f : Nat → Int32} (hx : x < 15) (h0 : x ≠ 0) (h5 : x ≠ 5) (h14 : x ≠ 14) (ha : (if x < 5 then x - 1 else x - 2) = a) (hN : (if x = 1 then 600 else 1666) = N) : wset (wM Γ w o S) (o + x) (.inl (Γ.2.2.1 0, N, .inl f)) = wM Γ w o (ma S a f) := by
  subst ha
  subst hN
  refine wM_set hx ?_ ?_
  · unfold mcell ma
    rw [if_neg h0, if_neg h5, if_neg h14]
    simp
  · intro j hj hne
    unfold mcell ma
    by_cases c0 : j = 0
    · rw [if_pos c0, if_pos c0]
    · rw [if_neg c0, if_neg c0]
      by_cases c5 : j = 5
      · rw [if_pos c5, if_pos c5]
      · rw [if_neg c5, if_neg c5]
        by_cases c14 : j = 14
        · rw [if_pos c14, if_pos c14]
        · rw [if_neg c14, if_neg c14]
          have : (if j < 5 then j - 1 else j - 2) ≠ (if x < 5 then x - 1 else x - 2) := by split <;> split <;> omega
          simp [this]
theorem wM_setl {Γ : ZG} {w : ZW} {o : Nat} {S : MS} {f : Nat → Int64} : wset (wM Γ w o S) (o + 14) (.inl (Γ.2.2.1 2, 1000, .inr (.inl f))) = wM Γ w o (ml S f) := by
  refine wM_set (by decide) rfl ?_
  intro j hj hne
  simp [mcell, ml, hne]
theorem wM_wM {Γ : ZG} {w : ZW} {o : Nat} {S S' : MS} : wM Γ (wM Γ w o S) o S' = wM Γ w o S' := by
  refine Prod.ext rfl (funext fun q => ?_)
  show (if o ≤ q ∧ q < o + 15 then mcell Γ o S' (q - o) else if o ≤ q ∧ q < o + 15 then mcell Γ o S (q - o) else w.2 q) = if o ≤ q ∧ q < o + 15 then mcell Γ o S' (q - o) else w.2 q
  by_cases hr : o ≤ q ∧ q < o + 15
  · rw [if_pos hr, if_pos hr]
  · rw [if_neg hr, if_neg hr, if_neg hr]
section GM
variable {l : Launch} {Γ : ZG} {M M' : ZM} {dp mc ms d' : Nat} {Φ : Option Value → ZW → Prop} {Ψ : String → ZW → Prop} {k n : Nat} {w w' : ZW} {pc o : Nat} {L : ZL} {st : List Value} {S S' : MS}
theorem gm_get {index j : Nat} {v : Value} (pc' : Nat) (hd : decode M.2.1 pc = .ok (.getfield index, 3)) (F : zF M.1.cls index 6 j) (hv : (mfs o S.1)[j]? = some v) (kk : Go l Γ M dp mc ms Φ Ψ k n (wM Γ w o S) pc' L (v :: st)) (hp : pc + 3 = pc' := by rfl) : Go l Γ M dp mc ms Φ Ψ k n (wM Γ w o S) pc L (.ref o :: st) := go_get pc' hd F wM_at0 hv kk hp
theorem gm_put {index j : Nat} {v : Int32} (pc' : Nat) (hd : decode M.2.1 pc = .ok (.putfield index, 3)) (F : zFp M.1.cls index 6 j .int) (hs : (mfs o S.1).set j (.int v) = mfs o (upd S.1 j v)) (hj : j < 17) (kk : Go l Γ M dp mc ms Φ Ψ k n (wM Γ w o (mf S j v)) pc' L st) (hp : pc + 3 = pc' := by rfl) : Go l Γ M dp mc ms Φ Ψ k n (wM Γ w o S) pc L (.int v :: .ref o :: st) := by
  refine go_put pc' hd F wM_at0 hj rfl rfl ?_ hp
  rw [wM_setf hs]
  exact kk
theorem gm_iald {x N : Nat} {g : Nat → Int32} {i : Int32} (pc' m : Nat) (hd : decode M.2.1 pc = .ok (.iaload, 1)) (hc : mcell Γ o S x = some (.inl (Γ.2.2.1 0, N, .inl g))) (hi : i = nI m) (hm : m < N) (hx : x < 15) (kk : Go l Γ M dp mc ms Φ Ψ k n (wM Γ w o S) pc' L (.int (g m) :: st)) (hN : N < 2 ^ 31 := by decide) (hp : pc + 1 = pc' := by rfl) : Go l Γ M dp mc ms Φ Ψ k n (wM Γ w o S) pc L (.int i :: .ref (o + x) :: st) := by
  refine go_iald pc' hd ((wM_at x hx).trans hc) (by rw [hi]; exact vp_in_nI hm hN) ?_ hp
  rw [hi, nI_clamp (Nat.lt_trans hm hN)]
  exact kk
theorem gm_iast {x a N : Nat} {i v : Int32} (pc' m : Nat) (hd : decode M.2.1 pc = .ok (.iastore, 1)) (hc : mcell Γ o S x = some (.inl (Γ.2.2.1 0, N, .inl (S.2.1 a)))) (hi : i = nI m) (hm : m < N) (hx : x < 15 ∧ x ≠ 0 ∧ x ≠ 5 ∧ x ≠ 14 ∧ (if x < 5 then x - 1 else x - 2) = a ∧ (if x = 1 then 600 else 1666) = N) (kk : Go l Γ M dp mc ms Φ Ψ k n (wM Γ w o (ma S a (upd (S.2.1 a) m v))) pc' L st) (hN : N < 2 ^ 31 := by decide) (hp : pc + 1 = pc' := by rfl) : Go l Γ M dp mc ms Φ Ψ k n (wM Γ w o S) pc L (.int v :: .int i :: .ref (o + x) :: st) := by
  refine go_iast pc' hd ((wM_at x hx.1).trans hc) (by rw [hi]; exact vp_in_nI hm hN) ?_ hp
  rw [hi, nI_clamp (Nat.lt_trans hm hN), wM_seta hx.1 hx.2.1 hx.2.2.1 hx.2.2.2.1 hx.2.2.2.2.1 hx.2.2.2.2.2]
  exact kk
theorem gm_lald {i : Int32} (pc' m : Nat) (hd : decode M.2.1 pc = .ok (.laload, 1)) (hi : i = nI m) (hm : m < 1000) (kk : Go l Γ M dp mc ms Φ Ψ k n (wM Γ w o S) pc' L (.long (S.2.2 m) :: st)) (hp : pc + 1 = pc' := by rfl) : Go l Γ M dp mc ms Φ Ψ k n (wM Γ w o S) pc L (.int i :: .ref (o + 14) :: st) := by
  refine go_lald pc' hd ((wM_at 14 (by decide)).trans rfl) (by rw [hi]; exact vp_in_nI hm (by decide)) ?_ hp
  rw [hi, nI_clamp (by omega)]
  exact kk
theorem gm_last {i : Int32} {v : Int64} (pc' m : Nat) (hd : decode M.2.1 pc = .ok (.lastore, 1)) (hi : i = nI m) (hm : m < 1000) (kk : Go l Γ M dp mc ms Φ Ψ k n (wM Γ w o (ml S (vp_updL S.2.2 m v))) pc' L st) (hp : pc + 1 = pc' := by rfl) : Go l Γ M dp mc ms Φ Ψ k n (wM Γ w o S) pc L (.long v :: .int i :: .ref (o + 14) :: st) := by
  refine go_last pc' hd ((wM_at 14 (by decide)).trans rfl) (by rw [hi]; exact vp_in_nI hm (by decide)) ?_ hp
  rw [hi, nI_clamp (by omega), wM_setl]
  exact kk
theorem gmV0 {index : Nat} {r : Value} (pc' : Nat) (hd : decode M.2.1 pc = .ok (.invokevirtual index, 3)) (V : zV M.1.cls index M' 0) (hct : Cm l Γ M' d' (.ref o :: []) (wM Γ w o S) (some r) w') (kk : Go l Γ M dp mc ms Φ Ψ k n w' pc' L (r :: st)) (hc : some RX6 = some M'.1.cls := by rfl) (hdp : d' + 1 ≤ dp := by decide) (hL : M'.2.2.1 ≤ 40 := by decide) (hk : k ≤ mc := by omega) (hn : n ≤ ms := by omega) (hst : (st.map fun v => v.category).sum ≤ 8 := by exact Nat.le_of_ble_eq_true rfl) (hp : pc + 3 = pc' := by rfl) : Go l Γ M dp mc ms Φ Ψ k n (wM Γ w o S) pc L (.ref o :: st) :=
  gcV0 pc' hd V wM_at0 hc hct kk hdp hL hk hn hst hp
theorem gmV0v {index : Nat} (pc' : Nat) (hd : decode M.2.1 pc = .ok (.invokevirtual index, 3)) (V : zV M.1.cls index M' 0) (hct : Cm l Γ M' d' (.ref o :: []) (wM Γ w o S) (none) w') (kk : Go l Γ M dp mc ms Φ Ψ k n w' pc' L st) (hc : some RX6 = some M'.1.cls := by rfl) (hdp : d' + 1 ≤ dp := by decide) (hL : M'.2.2.1 ≤ 40 := by decide) (hk : k ≤ mc := by omega) (hn : n ≤ ms := by omega) (hst : (st.map fun v => v.category).sum ≤ 8 := by exact Nat.le_of_ble_eq_true rfl) (hp : pc + 3 = pc' := by rfl) : Go l Γ M dp mc ms Φ Ψ k n (wM Γ w o S) pc L (.ref o :: st) :=
  gcV0v pc' hd V wM_at0 hc hct kk hdp hL hk hn hst hp
theorem gmV1 {index : Nat} {x1 : Value} {r : Value} (pc' : Nat) (hd : decode M.2.1 pc = .ok (.invokevirtual index, 3)) (V : zV M.1.cls index M' 1) (hct : Cm l Γ M' d' (.ref o :: [x1]) (wM Γ w o S) (some r) w') (kk : Go l Γ M dp mc ms Φ Ψ k n w' pc' L (r :: st)) (hc : some RX6 = some M'.1.cls := by rfl) (hdp : d' + 1 ≤ dp := by decide) (hL : M'.2.2.1 ≤ 40 := by decide) (hk : k ≤ mc := by omega) (hn : n ≤ ms := by omega) (hst : (st.map fun v => v.category).sum ≤ 8 := by exact Nat.le_of_ble_eq_true rfl) (hp : pc + 3 = pc' := by rfl) : Go l Γ M dp mc ms Φ Ψ k n (wM Γ w o S) pc L (x1 :: .ref o :: st) :=
  gcV1 pc' hd V wM_at0 hc hct kk hdp hL hk hn hst hp
theorem gmV1v {index : Nat} {x1 : Value} (pc' : Nat) (hd : decode M.2.1 pc = .ok (.invokevirtual index, 3)) (V : zV M.1.cls index M' 1) (hct : Cm l Γ M' d' (.ref o :: [x1]) (wM Γ w o S) (none) w') (kk : Go l Γ M dp mc ms Φ Ψ k n w' pc' L st) (hc : some RX6 = some M'.1.cls := by rfl) (hdp : d' + 1 ≤ dp := by decide) (hL : M'.2.2.1 ≤ 40 := by decide) (hk : k ≤ mc := by omega) (hn : n ≤ ms := by omega) (hst : (st.map fun v => v.category).sum ≤ 8 := by exact Nat.le_of_ble_eq_true rfl) (hp : pc + 3 = pc' := by rfl) : Go l Γ M dp mc ms Φ Ψ k n (wM Γ w o S) pc L (x1 :: .ref o :: st) :=
  gcV1v pc' hd V wM_at0 hc hct kk hdp hL hk hn hst hp
theorem gmV2 {index : Nat} {x1 x2 : Value} {r : Value} (pc' : Nat) (hd : decode M.2.1 pc = .ok (.invokevirtual index, 3)) (V : zV M.1.cls index M' 2) (hct : Cm l Γ M' d' (.ref o :: [x1, x2]) (wM Γ w o S) (some r) w') (kk : Go l Γ M dp mc ms Φ Ψ k n w' pc' L (r :: st)) (hc : some RX6 = some M'.1.cls := by rfl) (hdp : d' + 1 ≤ dp := by decide) (hL : M'.2.2.1 ≤ 40 := by decide) (hk : k ≤ mc := by omega) (hn : n ≤ ms := by omega) (hst : (st.map fun v => v.category).sum ≤ 8 := by exact Nat.le_of_ble_eq_true rfl) (hp : pc + 3 = pc' := by rfl) : Go l Γ M dp mc ms Φ Ψ k n (wM Γ w o S) pc L (x2 :: x1 :: .ref o :: st) :=
  gcV2 pc' hd V wM_at0 hc hct kk hdp hL hk hn hst hp
theorem gmV2v {index : Nat} {x1 x2 : Value} (pc' : Nat) (hd : decode M.2.1 pc = .ok (.invokevirtual index, 3)) (V : zV M.1.cls index M' 2) (hct : Cm l Γ M' d' (.ref o :: [x1, x2]) (wM Γ w o S) (none) w') (kk : Go l Γ M dp mc ms Φ Ψ k n w' pc' L st) (hc : some RX6 = some M'.1.cls := by rfl) (hdp : d' + 1 ≤ dp := by decide) (hL : M'.2.2.1 ≤ 40 := by decide) (hk : k ≤ mc := by omega) (hn : n ≤ ms := by omega) (hst : (st.map fun v => v.category).sum ≤ 8 := by exact Nat.le_of_ble_eq_true rfl) (hp : pc + 3 = pc' := by rfl) : Go l Γ M dp mc ms Φ Ψ k n (wM Γ w o S) pc L (x2 :: x1 :: .ref o :: st) :=
  gcV2v pc' hd V wM_at0 hc hct kk hdp hL hk hn hst hp
theorem gmV3 {index : Nat} {x1 x2 x3 : Value} {r : Value} (pc' : Nat) (hd : decode M.2.1 pc = .ok (.invokevirtual index, 3)) (V : zV M.1.cls index M' 3) (hct : Cm l Γ M' d' (.ref o :: [x1, x2, x3]) (wM Γ w o S) (some r) w') (kk : Go l Γ M dp mc ms Φ Ψ k n w' pc' L (r :: st)) (hc : some RX6 = some M'.1.cls := by rfl) (hdp : d' + 1 ≤ dp := by decide) (hL : M'.2.2.1 ≤ 40 := by decide) (hk : k ≤ mc := by omega) (hn : n ≤ ms := by omega) (hst : (st.map fun v => v.category).sum ≤ 8 := by exact Nat.le_of_ble_eq_true rfl) (hp : pc + 3 = pc' := by rfl) : Go l Γ M dp mc ms Φ Ψ k n (wM Γ w o S) pc L (x3 :: x2 :: x1 :: .ref o :: st) :=
  gcV3 pc' hd V wM_at0 hc hct kk hdp hL hk hn hst hp
theorem gmV3v {index : Nat} {x1 x2 x3 : Value} (pc' : Nat) (hd : decode M.2.1 pc = .ok (.invokevirtual index, 3)) (V : zV M.1.cls index M' 3) (hct : Cm l Γ M' d' (.ref o :: [x1, x2, x3]) (wM Γ w o S) (none) w') (kk : Go l Γ M dp mc ms Φ Ψ k n w' pc' L st) (hc : some RX6 = some M'.1.cls := by rfl) (hdp : d' + 1 ≤ dp := by decide) (hL : M'.2.2.1 ≤ 40 := by decide) (hk : k ≤ mc := by omega) (hn : n ≤ ms := by omega) (hst : (st.map fun v => v.category).sum ≤ 8 := by exact Nat.le_of_ble_eq_true rfl) (hp : pc + 3 = pc' := by rfl) : Go l Γ M dp mc ms Φ Ψ k n (wM Γ w o S) pc L (x3 :: x2 :: x1 :: .ref o :: st) :=
  gcV3v pc' hd V wM_at0 hc hct kk hdp hL hk hn hst hp
theorem gmV5 {index : Nat} {x1 x2 x3 x4 x5 : Value} {r : Value} (pc' : Nat) (hd : decode M.2.1 pc = .ok (.invokevirtual index, 3)) (V : zV M.1.cls index M' 5) (hct : Cm l Γ M' d' (.ref o :: [x1, x2, x3, x4, x5]) (wM Γ w o S) (some r) w') (kk : Go l Γ M dp mc ms Φ Ψ k n w' pc' L (r :: st)) (hc : some RX6 = some M'.1.cls := by rfl) (hdp : d' + 1 ≤ dp := by decide) (hL : M'.2.2.1 ≤ 40 := by decide) (hk : k ≤ mc := by omega) (hn : n ≤ ms := by omega) (hst : (st.map fun v => v.category).sum ≤ 8 := by exact Nat.le_of_ble_eq_true rfl) (hp : pc + 3 = pc' := by rfl) : Go l Γ M dp mc ms Φ Ψ k n (wM Γ w o S) pc L (x5 :: x4 :: x3 :: x2 :: x1 :: .ref o :: st) :=
  gcV5 pc' hd V wM_at0 hc hct kk hdp hL hk hn hst hp
theorem gmV5v {index : Nat} {x1 x2 x3 x4 x5 : Value} (pc' : Nat) (hd : decode M.2.1 pc = .ok (.invokevirtual index, 3)) (V : zV M.1.cls index M' 5) (hct : Cm l Γ M' d' (.ref o :: [x1, x2, x3, x4, x5]) (wM Γ w o S) (none) w') (kk : Go l Γ M dp mc ms Φ Ψ k n w' pc' L st) (hc : some RX6 = some M'.1.cls := by rfl) (hdp : d' + 1 ≤ dp := by decide) (hL : M'.2.2.1 ≤ 40 := by decide) (hk : k ≤ mc := by omega) (hn : n ≤ ms := by omega) (hst : (st.map fun v => v.category).sum ≤ 8 := by exact Nat.le_of_ble_eq_true rfl) (hp : pc + 3 = pc' := by rfl) : Go l Γ M dp mc ms Φ Ψ k n (wM Γ w o S) pc L (x5 :: x4 :: x3 :: x2 :: x1 :: .ref o :: st) :=
  gcV5v pc' hd V wM_at0 hc hct kk hdp hL hk hn hst hp
/-- the reference's world, its data apart -/
def wD (Γ : ZG) (w : ZW) (o : Nat) (S : MS) (D : Nat → Int32) : ZW := wM Γ w o (ma S 1 D)
theorem ma_ma (S : MS) (a : Nat) (f g : Nat → Int32) : ma (ma S a f) a g = ma S a g := by
  refine Prod.ext rfl (Prod.ext (funext fun i => ?_) rfl)
  show (if i = a then g else if i = a then f else S.2.1 i) = if i = a then g else S.2.1 i
  by_cases h : i = a
  · rw [if_pos h, if_pos h]
  · rw [if_neg h, if_neg h, if_neg h]
theorem ma_comm (S : MS) {a b : Nat} (hab : a ≠ b) (f g : Nat → Int32) : ma (ma S a f) b g = ma (ma S b g) a f := by
  refine Prod.ext rfl (Prod.ext (funext fun i => ?_) rfl)
  show (if i = b then g else if i = a then f else S.2.1 i) = if i = a then f else if i = b then g else S.2.1 i
  by_cases h : i = b
  · subst h; rw [if_pos rfl, if_neg (Ne.symm hab), if_pos rfl]
  · rw [if_neg h]
    by_cases h2 : i = a
    · rw [if_pos h2, if_pos h2]
    · rw [if_neg h2, if_neg h2, if_neg h]
theorem ma_self (S : MS) (a : Nat) : ma S a (S.2.1 a) = S := by
  refine Prod.ext rfl (Prod.ext (funext fun i => ?_) rfl)
  show (if i = a then S.2.1 a else S.2.1 i) = S.2.1 i
  by_cases h : i = a
  · rw [if_pos h, h]
  · rw [if_neg h]
theorem wD_self {Γ : ZG} {w : ZW} {o : Nat} {S : MS} : wD Γ w o S (S.2.1 1) = wM Γ w o S := by unfold wD; rw [ma_self]
theorem wD_at0 {Γ : ZG} {w : ZW} {o : Nat} {S : MS} {D : Nat → Int32} : (wD Γ w o S D).2 o = some (.inr (6, mfs o S.1)) := wM_at0
variable {D : Nat → Int32}
theorem gd_get {index j : Nat} {v : Value} (pc' : Nat) (hd : decode M.2.1 pc = .ok (.getfield index, 3)) (F : zF M.1.cls index 6 j) (hv : (mfs o S.1)[j]? = some v) (kk : Go l Γ M dp mc ms Φ Ψ k n (wD Γ w o S D) pc' L (v :: st)) (hp : pc + 3 = pc' := by rfl) : Go l Γ M dp mc ms Φ Ψ k n (wD Γ w o S D) pc L (.ref o :: st) := go_get pc' hd F wD_at0 hv kk hp
theorem gd_put {index j : Nat} {v : Int32} (pc' : Nat) (hd : decode M.2.1 pc = .ok (.putfield index, 3)) (F : zFp M.1.cls index 6 j .int) (hs : (mfs o S.1).set j (.int v) = mfs o (upd S.1 j v)) (hj : j < 17) (kk : Go l Γ M dp mc ms Φ Ψ k n (wD Γ w o (mf S j v) D) pc' L st) (hp : pc + 3 = pc' := by rfl) : Go l Γ M dp mc ms Φ Ψ k n (wD Γ w o S D) pc L (.int v :: .ref o :: st) := gm_put pc' hd F hs hj kk hp
theorem gd_iald {i : Int32} (pc' m : Nat) (hd : decode M.2.1 pc = .ok (.iaload, 1)) (hi : i = nI m) (hm : m < 1666) (kk : Go l Γ M dp mc ms Φ Ψ k n (wD Γ w o S D) pc' L (.int (D m) :: st)) (hp : pc + 1 = pc' := by rfl) : Go l Γ M dp mc ms Φ Ψ k n (wD Γ w o S D) pc L (.int i :: .ref (o + 2) :: st) := gm_iald (x := 2) pc' m hd rfl hi hm (by decide) kk (by decide) hp
theorem gd_ialdx {x a N : Nat} {i : Int32} (pc' m : Nat) (hd : decode M.2.1 pc = .ok (.iaload, 1)) (hc : mcell Γ o (ma S 1 D) x = some (.inl (Γ.2.2.1 0, N, .inl (S.2.1 a)))) (hi : i = nI m) (hm : m < N) (hx : x < 15) (kk : Go l Γ M dp mc ms Φ Ψ k n (wD Γ w o S D) pc' L (.int (S.2.1 a m) :: st)) (hN : N < 2 ^ 31 := by decide) (hp : pc + 1 = pc' := by rfl) : Go l Γ M dp mc ms Φ Ψ k n (wD Γ w o S D) pc L (.int i :: .ref (o + x) :: st) := gm_iald pc' m hd hc hi hm hx kk hN hp
theorem gd_iast {i v : Int32} (pc' m : Nat) (hd : decode M.2.1 pc = .ok (.iastore, 1)) (hi : i = nI m) (hm : m < 1666) (kk : Go l Γ M dp mc ms Φ Ψ k n (wD Γ w o S (upd D m v)) pc' L st) (hp : pc + 1 = pc' := by rfl) : Go l Γ M dp mc ms Φ Ψ k n (wD Γ w o S D) pc L (.int v :: .int i :: .ref (o + 2) :: st) := by
  refine gm_iast (x := 2) (a := 1) pc' m hd rfl hi hm (by decide) ?_ (by decide) hp
  rw [ma_ma]
  exact kk
theorem gd_iastx {x a N : Nat} {i v : Int32} (pc' m : Nat) (hd : decode M.2.1 pc = .ok (.iastore, 1)) (hc : mcell Γ o (ma S 1 D) x = some (.inl (Γ.2.2.1 0, N, .inl (S.2.1 a)))) (ha : 1 ≠ a) (hi : i = nI m) (hm : m < N) (hx : x < 15 ∧ x ≠ 0 ∧ x ≠ 5 ∧ x ≠ 14 ∧ (if x < 5 then x - 1 else x - 2) = a ∧ (if x = 1 then 600 else 1666) = N) (kk : Go l Γ M dp mc ms Φ Ψ k n (wD Γ w o (ma S a (upd (S.2.1 a) m v)) D) pc' L st) (hN : N < 2 ^ 31 := by decide) (hp : pc + 1 = pc' := by rfl) : Go l Γ M dp mc ms Φ Ψ k n (wD Γ w o S D) pc L (.int v :: .int i :: .ref (o + x) :: st) := by
  refine go_iast pc' hd ((wM_at x hx.1).trans hc) (by rw [hi]; exact vp_in_nI hm hN) ?_ hp
  rw [hi, nI_clamp (Nat.lt_trans hm hN)]
  unfold wD
  rw [wM_seta hx.1 hx.2.1 hx.2.2.1 hx.2.2.2.1 hx.2.2.2.2.1 hx.2.2.2.2.2, ma_comm S ha]
  exact kk
theorem gd_lald {i : Int32} (pc' m : Nat) (hd : decode M.2.1 pc = .ok (.laload, 1)) (hi : i = nI m) (hm : m < 1000) (kk : Go l Γ M dp mc ms Φ Ψ k n (wD Γ w o S D) pc' L (.long (S.2.2 m) :: st)) (hp : pc + 1 = pc' := by rfl) : Go l Γ M dp mc ms Φ Ψ k n (wD Γ w o S D) pc L (.int i :: .ref (o + 14) :: st) := gm_lald pc' m hd hi hm kk hp
theorem gd_last {i : Int32} {v : Int64} (pc' m : Nat) (hd : decode M.2.1 pc = .ok (.lastore, 1)) (hi : i = nI m) (hm : m < 1000) (kk : Go l Γ M dp mc ms Φ Ψ k n (wD Γ w o (ml S (vp_updL S.2.2 m v)) D) pc' L st) (hp : pc + 1 = pc' := by rfl) : Go l Γ M dp mc ms Φ Ψ k n (wD Γ w o S D) pc L (.long v :: .int i :: .ref (o + 14) :: st) := gm_last pc' m hd hi hm kk hp
theorem gdV0 {index : Nat} {r : Value} (pc' : Nat) (hd : decode M.2.1 pc = .ok (.invokevirtual index, 3)) (V : zV M.1.cls index M' 0) (hct : Cm l Γ M' d' (.ref o :: []) (wD Γ w o S D) (some r) w') (kk : Go l Γ M dp mc ms Φ Ψ k n w' pc' L (r :: st)) (hc : some RX6 = some M'.1.cls := by rfl) (hdp : d' + 1 ≤ dp := by decide) (hL : M'.2.2.1 ≤ 40 := by decide) (hk : k ≤ mc := by omega) (hn : n ≤ ms := by omega) (hst : (st.map fun v => v.category).sum ≤ 8 := by exact Nat.le_of_ble_eq_true rfl) (hp : pc + 3 = pc' := by rfl) : Go l Γ M dp mc ms Φ Ψ k n (wD Γ w o S D) pc L (.ref o :: st) :=
  gcV0 pc' hd V wD_at0 hc hct kk hdp hL hk hn hst hp
theorem gdV0v {index : Nat} (pc' : Nat) (hd : decode M.2.1 pc = .ok (.invokevirtual index, 3)) (V : zV M.1.cls index M' 0) (hct : Cm l Γ M' d' (.ref o :: []) (wD Γ w o S D) (none) w') (kk : Go l Γ M dp mc ms Φ Ψ k n w' pc' L st) (hc : some RX6 = some M'.1.cls := by rfl) (hdp : d' + 1 ≤ dp := by decide) (hL : M'.2.2.1 ≤ 40 := by decide) (hk : k ≤ mc := by omega) (hn : n ≤ ms := by omega) (hst : (st.map fun v => v.category).sum ≤ 8 := by exact Nat.le_of_ble_eq_true rfl) (hp : pc + 3 = pc' := by rfl) : Go l Γ M dp mc ms Φ Ψ k n (wD Γ w o S D) pc L (.ref o :: st) :=
  gcV0v pc' hd V wD_at0 hc hct kk hdp hL hk hn hst hp
theorem gdV1 {index : Nat} {x1 : Value} {r : Value} (pc' : Nat) (hd : decode M.2.1 pc = .ok (.invokevirtual index, 3)) (V : zV M.1.cls index M' 1) (hct : Cm l Γ M' d' (.ref o :: [x1]) (wD Γ w o S D) (some r) w') (kk : Go l Γ M dp mc ms Φ Ψ k n w' pc' L (r :: st)) (hc : some RX6 = some M'.1.cls := by rfl) (hdp : d' + 1 ≤ dp := by decide) (hL : M'.2.2.1 ≤ 40 := by decide) (hk : k ≤ mc := by omega) (hn : n ≤ ms := by omega) (hst : (st.map fun v => v.category).sum ≤ 8 := by exact Nat.le_of_ble_eq_true rfl) (hp : pc + 3 = pc' := by rfl) : Go l Γ M dp mc ms Φ Ψ k n (wD Γ w o S D) pc L (x1 :: .ref o :: st) :=
  gcV1 pc' hd V wD_at0 hc hct kk hdp hL hk hn hst hp
theorem gdV1v {index : Nat} {x1 : Value} (pc' : Nat) (hd : decode M.2.1 pc = .ok (.invokevirtual index, 3)) (V : zV M.1.cls index M' 1) (hct : Cm l Γ M' d' (.ref o :: [x1]) (wD Γ w o S D) (none) w') (kk : Go l Γ M dp mc ms Φ Ψ k n w' pc' L st) (hc : some RX6 = some M'.1.cls := by rfl) (hdp : d' + 1 ≤ dp := by decide) (hL : M'.2.2.1 ≤ 40 := by decide) (hk : k ≤ mc := by omega) (hn : n ≤ ms := by omega) (hst : (st.map fun v => v.category).sum ≤ 8 := by exact Nat.le_of_ble_eq_true rfl) (hp : pc + 3 = pc' := by rfl) : Go l Γ M dp mc ms Φ Ψ k n (wD Γ w o S D) pc L (x1 :: .ref o :: st) :=
  gcV1v pc' hd V wD_at0 hc hct kk hdp hL hk hn hst hp
theorem gdV2 {index : Nat} {x1 x2 : Value} {r : Value} (pc' : Nat) (hd : decode M.2.1 pc = .ok (.invokevirtual index, 3)) (V : zV M.1.cls index M' 2) (hct : Cm l Γ M' d' (.ref o :: [x1, x2]) (wD Γ w o S D) (some r) w') (kk : Go l Γ M dp mc ms Φ Ψ k n w' pc' L (r :: st)) (hc : some RX6 = some M'.1.cls := by rfl) (hdp : d' + 1 ≤ dp := by decide) (hL : M'.2.2.1 ≤ 40 := by decide) (hk : k ≤ mc := by omega) (hn : n ≤ ms := by omega) (hst : (st.map fun v => v.category).sum ≤ 8 := by exact Nat.le_of_ble_eq_true rfl) (hp : pc + 3 = pc' := by rfl) : Go l Γ M dp mc ms Φ Ψ k n (wD Γ w o S D) pc L (x2 :: x1 :: .ref o :: st) :=
  gcV2 pc' hd V wD_at0 hc hct kk hdp hL hk hn hst hp
theorem gdV2v {index : Nat} {x1 x2 : Value} (pc' : Nat) (hd : decode M.2.1 pc = .ok (.invokevirtual index, 3)) (V : zV M.1.cls index M' 2) (hct : Cm l Γ M' d' (.ref o :: [x1, x2]) (wD Γ w o S D) (none) w') (kk : Go l Γ M dp mc ms Φ Ψ k n w' pc' L st) (hc : some RX6 = some M'.1.cls := by rfl) (hdp : d' + 1 ≤ dp := by decide) (hL : M'.2.2.1 ≤ 40 := by decide) (hk : k ≤ mc := by omega) (hn : n ≤ ms := by omega) (hst : (st.map fun v => v.category).sum ≤ 8 := by exact Nat.le_of_ble_eq_true rfl) (hp : pc + 3 = pc' := by rfl) : Go l Γ M dp mc ms Φ Ψ k n (wD Γ w o S D) pc L (x2 :: x1 :: .ref o :: st) :=
  gcV2v pc' hd V wD_at0 hc hct kk hdp hL hk hn hst hp
theorem gdV3 {index : Nat} {x1 x2 x3 : Value} {r : Value} (pc' : Nat) (hd : decode M.2.1 pc = .ok (.invokevirtual index, 3)) (V : zV M.1.cls index M' 3) (hct : Cm l Γ M' d' (.ref o :: [x1, x2, x3]) (wD Γ w o S D) (some r) w') (kk : Go l Γ M dp mc ms Φ Ψ k n w' pc' L (r :: st)) (hc : some RX6 = some M'.1.cls := by rfl) (hdp : d' + 1 ≤ dp := by decide) (hL : M'.2.2.1 ≤ 40 := by decide) (hk : k ≤ mc := by omega) (hn : n ≤ ms := by omega) (hst : (st.map fun v => v.category).sum ≤ 8 := by exact Nat.le_of_ble_eq_true rfl) (hp : pc + 3 = pc' := by rfl) : Go l Γ M dp mc ms Φ Ψ k n (wD Γ w o S D) pc L (x3 :: x2 :: x1 :: .ref o :: st) :=
  gcV3 pc' hd V wD_at0 hc hct kk hdp hL hk hn hst hp
theorem gdV3v {index : Nat} {x1 x2 x3 : Value} (pc' : Nat) (hd : decode M.2.1 pc = .ok (.invokevirtual index, 3)) (V : zV M.1.cls index M' 3) (hct : Cm l Γ M' d' (.ref o :: [x1, x2, x3]) (wD Γ w o S D) (none) w') (kk : Go l Γ M dp mc ms Φ Ψ k n w' pc' L st) (hc : some RX6 = some M'.1.cls := by rfl) (hdp : d' + 1 ≤ dp := by decide) (hL : M'.2.2.1 ≤ 40 := by decide) (hk : k ≤ mc := by omega) (hn : n ≤ ms := by omega) (hst : (st.map fun v => v.category).sum ≤ 8 := by exact Nat.le_of_ble_eq_true rfl) (hp : pc + 3 = pc' := by rfl) : Go l Γ M dp mc ms Φ Ψ k n (wD Γ w o S D) pc L (x3 :: x2 :: x1 :: .ref o :: st) :=
  gcV3v pc' hd V wD_at0 hc hct kk hdp hL hk hn hst hp
theorem gdV5 {index : Nat} {x1 x2 x3 x4 x5 : Value} {r : Value} (pc' : Nat) (hd : decode M.2.1 pc = .ok (.invokevirtual index, 3)) (V : zV M.1.cls index M' 5) (hct : Cm l Γ M' d' (.ref o :: [x1, x2, x3, x4, x5]) (wD Γ w o S D) (some r) w') (kk : Go l Γ M dp mc ms Φ Ψ k n w' pc' L (r :: st)) (hc : some RX6 = some M'.1.cls := by rfl) (hdp : d' + 1 ≤ dp := by decide) (hL : M'.2.2.1 ≤ 40 := by decide) (hk : k ≤ mc := by omega) (hn : n ≤ ms := by omega) (hst : (st.map fun v => v.category).sum ≤ 8 := by exact Nat.le_of_ble_eq_true rfl) (hp : pc + 3 = pc' := by rfl) : Go l Γ M dp mc ms Φ Ψ k n (wD Γ w o S D) pc L (x5 :: x4 :: x3 :: x2 :: x1 :: .ref o :: st) :=
  gcV5 pc' hd V wD_at0 hc hct kk hdp hL hk hn hst hp
theorem gdV5v {index : Nat} {x1 x2 x3 x4 x5 : Value} (pc' : Nat) (hd : decode M.2.1 pc = .ok (.invokevirtual index, 3)) (V : zV M.1.cls index M' 5) (hct : Cm l Γ M' d' (.ref o :: [x1, x2, x3, x4, x5]) (wD Γ w o S D) (none) w') (kk : Go l Γ M dp mc ms Φ Ψ k n w' pc' L st) (hc : some RX6 = some M'.1.cls := by rfl) (hdp : d' + 1 ≤ dp := by decide) (hL : M'.2.2.1 ≤ 40 := by decide) (hk : k ≤ mc := by omega) (hn : n ≤ ms := by omega) (hst : (st.map fun v => v.category).sum ≤ 8 := by exact Nat.le_of_ble_eq_true rfl) (hp : pc + 3 = pc' := by rfl) : Go l Γ M dp mc ms Φ Ψ k n (wD Γ w o S D) pc L (x5 :: x4 :: x3 :: x2 :: x1 :: .ref o :: st) :=
  gcV5v pc' hd V wD_at0 hc hct kk hdp hL hk hn hst hp
theorem gdVE3 {index : Nat} {x1 x2 x3 r : Value} {W9 : (Nat → Int64) → ZW} (pc' : Nat) (hd : decode M.2.1 pc = .ok (.invokevirtual index, 3)) (V : zV M.1.cls index M' 3) (hct : Ct l Γ M' d' 0 0 (.ref o :: [x1, x2, x3]) (wD Γ w o S D) (fun v w2 => v = some r ∧ ∃ g, w2 = W9 g) zNo) (kk : ∀ g, Go l Γ M dp mc ms Φ Ψ k n (W9 g) pc' L (r :: st)) (hc : some RX6 = some M'.1.cls := by rfl) (hdp : d' + 1 ≤ dp := by decide) (hL : M'.2.2.1 ≤ 40 := by decide) (hk : k ≤ mc := by omega) (hn : n ≤ ms := by omega) (hst : (st.map fun v => v.category).sum ≤ 8 := by exact Nat.le_of_ble_eq_true rfl) (hp : pc + 3 = pc' := by rfl) : Go l Γ M dp mc ms Φ Ψ k n (wD Γ w o S D) pc L (x3 :: x2 :: x1 :: .ref o :: st) := by
  refine go_callV (As := [x1, x2, x3]) pc' hd V wD_at0 hc hct hdp hL hk hn hst ?_ hp
  intro v w2 h
  obtain ⟨rfl, g, rfl⟩ := h
  exact kk g
end GM
