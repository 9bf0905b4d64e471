section MLd
def snN (t : Bool × Bool × Bool) : Nat := (if t.1 = true then 1 else 0) + (if t.2.1 = true then 2 else 0) + (if t.2.2 = true then 4 else 0)
theorem sn_bit : ∀ a b c : Bool, ((nI (snN (a, b, c)) >>> ((0 : Int32) &&& 31)) &&& 1 = (if a = true then 1 else 0) ∧ nI (snN (a, b, c)) ||| ((1 : Int32) <<< ((0 : Int32) &&& 31)) = nI (snN (true, b, c))) ∧ ((nI (snN (a, b, c)) >>> ((1 : Int32) &&& 31)) &&& 1 = (if b = true then 1 else 0) ∧ nI (snN (a, b, c)) ||| ((1 : Int32) <<< ((1 : Int32) &&& 31)) = nI (snN (a, true, c))) ∧ ((nI (snN (a, b, c)) >>> ((2 : Int32) &&& 31)) &&& 1 = (if c = true then 1 else 0) ∧ nI (snN (a, b, c)) ||| ((1 : Int32) <<< ((2 : Int32) &&& 31)) = nI (snN (a, b, true))) := by decide +kernel
section
variable {B : ZB} {n : Nat} {S0 S : MS} {q : Nat} {G : ZD} {es : List Int32} {ne sn : Nat} {l : Launch} {Γ : ZG} {w : ZW} {o : Nat} {D : ZD}
theorem RPs.m15 (h : RPs B n S0 S q G es ne sn) {x : Nat} : RPs B n S0 (mf S 15 (nI x)) q G es ne x := by
  obtain ⟨h1, h2, h3, h3', h4, h5, h6⟩ := h
  exact ⟨h1, h2, h3, h3', h4, ⟨h5.1, rfl⟩, h6.mf (by omega)⟩
theorem RPs.set (h : RPs B n S0 S q G es ne sn) {i : Nat} {v : Int32} (hi : i < 666) (h8 : i ≠ 8) : RPs B n S0 (ma S 2 (upd (S.2.1 2) i v)) q (upd G i v) es ne sn := by
  obtain ⟨h1, h2, h3, h3', h4, h5, h6⟩ := h
  refine ⟨h1, h2, h3, h3', ⟨fun k hk hk8 => ?_, (if_neg (by omega)).trans h4.2.1, fun j hj => (if_neg (by omega)).trans (h4.2.2 j hj)⟩, h5, h6.m2⟩
  show (if k = i then v else S.2.1 2 k) = if k = i then v else G k
  by_cases e : k = i
  · rw [if_pos e, if_pos e]
  · rw [if_neg e, if_neg e]; exact h4.1 k hk hk8
theorem RPe.m2 {e : Int32 × Nat} (h : RPe S0 S e) {f : ZD} : RPe S0 (ma S 2 f) e := ⟨h.1, h.2.1, h.2.2.1, h.2.2.2.m2⟩
noncomputable def badv (B : ZB) (q : Nat) : Int32 := if isD B q = true then nI (min 1000000 (valN B q)) else 0
theorem cn_num {lo hi : Nat} {r : Nat × Nat} (hlo : lo ≤ 9999) (hhi : hi ≤ 9999) (hT : TB B n) (h : RPs B n S0 S q G es ne sn) (e : num B lo hi q = .inr r) : Ct l Γ mX6_number 3 0 0 [.ref o, .int (nI lo), .int (nI hi)] (wD Γ w o S D) (Pv Γ w o D (some (.int (nI r.2))) (fun S' => RPs B n S0 S' r.1 G es ne sn)) zNo := by
  obtain ⟨-, -, -, a4, a5, a6, a7⟩ := num_what hT e
  subst a7
  exact cn_number_y hlo hhi hT h a6 ⟨a4, a5⟩
theorem cn_nume {lo hi : Nat} {er : Int32 × Nat} (hlo : lo ≤ 9999) (hhi : hi ≤ 9999) (hT : TB B n) (h : RPs B n S0 S q G es ne sn) (e : num B lo hi q = .inl er) : Ct l Γ mX6_number 3 0 0 [.ref o, .int (nI lo), .int (nI hi)] (wD Γ w o S D) (Pv Γ w o D (some (.int (badv B q))) (fun S' => RPe S0 S' er)) zNo := by
  unfold num at e
  unfold badv
  by_cases hd : isD B q = true
  · rw [if_pos hd] at e ⊢
    by_cases hv : lo ≤ valN B q ∧ valN B q ≤ hi
    · rw [if_pos hv] at e; cases e
    · rw [if_neg hv] at e
      cases e
      exact cn_number_o hlo hhi hT h hd hv
  · rw [if_neg hd] at e ⊢
    cases e
    exact cn_number_n hT h (by cases hx : isD B q with | true => exact absurd hx hd | false => rfl)
end

set_option maxRecDepth 100000 in
set_option maxHeartbeats 4000000 in
theorem cn_once_y0 {l : Launch} {Γ : ZG} {w : ZW} {o : Nat} {D : ZD} {B : ZB} {n : Nat} {S0 S : MS} {q : Nat} {G : ZD} {es : List Int32} {ne : Nat} {b c : Bool} {st : Int32} (h : RPs B n S0 S q G es ne (snN (false, b, c))) : Ct l Γ mX6_once 2 0 0 [.ref o, .int 0, .int st] (wD Γ w o S D) (Pv Γ w o D none (fun S' => RPs B n S0 S' q G es ne (snN (true, b, c)))) zNo := by
  have h15 : S.1 15 = nI (snN (false, b, c)) := h.2.2.2.2.2.1.2
  refine Ct.of (by decide) rfl (Nat.le_of_ble_eq_true rfl) ?_
  refine go_aload_n 1 dX6_once_0 rfl ?_
  refine gd_get 4 dX6_once_1 fX6_132 rfl ?_
  refine go_iload_n 5 dX6_once_4 rfl ?_
  refine go_ishr 6 dX6_once_5 ?_
  refine go_iconst 7 dX6_once_6 zc_1 ?_
  refine go_iand 8 dX6_once_7 ?_
  refine go_iconst 9 dX6_once_8 zc_1 ?_
  rw [h15, (sn_bit false b c).1.1, if_neg (by decide)]
  refine go_icmp_ne 19 12 dX6_once_9 (fun h9 => ?_) (fun h9 => ?_)
  · refine go_aload_n 20 dX6_once_19 rfl ?_
    refine go_dup 21 dX6_once_20 rfl ?_
    refine gd_get 24 dX6_once_21 fX6_132 rfl ?_
    refine go_iconst 25 dX6_once_24 zc_1 ?_
    refine go_iload_n 26 dX6_once_25 rfl ?_
    refine go_ishl 27 dX6_once_26 ?_
    refine go_ior 28 dX6_once_27 ?_
    rw [h15, (sn_bit false b c).1.2]
    refine gd_put 31 dX6_once_28 pX6_132 rfl (by decide) ?_
    exact go_return dX6_once_31 rfl (by omega) (by omega) (⟨rfl, _, rfl, h.m15⟩)
  · exact absurd (by first | exact h9 | exact Classical.not_not.mp h9) (by decide)

set_option maxRecDepth 100000 in
set_option maxHeartbeats 4000000 in
theorem cn_once_n0 {l : Launch} {Γ : ZG} {w : ZW} {o : Nat} {D : ZD} {B : ZB} {n : Nat} {S0 S : MS} {q : Nat} {G : ZD} {es : List Int32} {ne : Nat} {b c : Bool} {a0 : Nat} (h : RPs B n S0 S q G es ne (snN (true, b, c))) : Ct l Γ mX6_once 2 0 0 [.ref o, .int 0, .int (nI a0)] (wD Γ w o S D) (Pv Γ w o D none (fun S' => RPe S0 S' (-2, a0))) zNo := by
  have h15 : S.1 15 = nI (snN (true, b, c)) := h.2.2.2.2.2.1.2
  refine Ct.of (by decide) rfl (Nat.le_of_ble_eq_true rfl) ?_
  refine go_aload_n 1 dX6_once_0 rfl ?_
  refine gd_get 4 dX6_once_1 fX6_132 rfl ?_
  refine go_iload_n 5 dX6_once_4 rfl ?_
  refine go_ishr 6 dX6_once_5 ?_
  refine go_iconst 7 dX6_once_6 zc_1 ?_
  refine go_iand 8 dX6_once_7 ?_
  refine go_iconst 9 dX6_once_8 zc_1 ?_
  rw [h15, (sn_bit true b c).1.1, if_pos rfl]
  refine go_icmp_ne 19 12 dX6_once_9 (fun h9 => ?_) (fun h9 => ?_)
  · exact absurd rfl h9
  · refine go_aload_n 13 dX6_once_12 rfl ?_
    refine go_bipush 15 dX6_once_13 zb_m2 ?_
    refine go_iload_n 16 dX6_once_15 rfl ?_
    refine gdV2v 19 dX6_once_16 vX6_82 (ct_X6_report_n h.2.1) ?_
    refine go_aload_n 20 dX6_once_19 rfl ?_
    refine go_dup 21 dX6_once_20 rfl ?_
    refine gd_get 24 dX6_once_21 fX6_132 rfl ?_
    refine go_iconst 25 dX6_once_24 zc_1 ?_
    refine go_iload_n 26 dX6_once_25 rfl ?_
    refine go_ishl 27 dX6_once_26 ?_
    refine go_ior 28 dX6_once_27 ?_
    refine gd_put 31 dX6_once_28 pX6_132 rfl (by decide) ?_
    exact go_return dX6_once_31 rfl (by omega) (by omega) (⟨rfl, _, rfl, (h.rep (by decide)).mf (by omega)⟩)

set_option maxRecDepth 100000 in
set_option maxHeartbeats 4000000 in
theorem cn_once_y1 {l : Launch} {Γ : ZG} {w : ZW} {o : Nat} {D : ZD} {B : ZB} {n : Nat} {S0 S : MS} {q : Nat} {G : ZD} {es : List Int32} {ne : Nat} {a c : Bool} {st : Int32} (h : RPs B n S0 S q G es ne (snN (a, false, c))) : Ct l Γ mX6_once 2 0 0 [.ref o, .int 1, .int st] (wD Γ w o S D) (Pv Γ w o D none (fun S' => RPs B n S0 S' q G es ne (snN (a, true, c)))) zNo := by
  have h15 : S.1 15 = nI (snN (a, false, c)) := h.2.2.2.2.2.1.2
  refine Ct.of (by decide) rfl (Nat.le_of_ble_eq_true rfl) ?_
  refine go_aload_n 1 dX6_once_0 rfl ?_
  refine gd_get 4 dX6_once_1 fX6_132 rfl ?_
  refine go_iload_n 5 dX6_once_4 rfl ?_
  refine go_ishr 6 dX6_once_5 ?_
  refine go_iconst 7 dX6_once_6 zc_1 ?_
  refine go_iand 8 dX6_once_7 ?_
  refine go_iconst 9 dX6_once_8 zc_1 ?_
  rw [h15, (sn_bit a false c).2.1.1, if_neg (by decide)]
  refine go_icmp_ne 19 12 dX6_once_9 (fun h9 => ?_) (fun h9 => ?_)
  · refine go_aload_n 20 dX6_once_19 rfl ?_
    refine go_dup 21 dX6_once_20 rfl ?_
    refine gd_get 24 dX6_once_21 fX6_132 rfl ?_
    refine go_iconst 25 dX6_once_24 zc_1 ?_
    refine go_iload_n 26 dX6_once_25 rfl ?_
    refine go_ishl 27 dX6_once_26 ?_
    refine go_ior 28 dX6_once_27 ?_
    rw [h15, (sn_bit a false c).2.1.2]
    refine gd_put 31 dX6_once_28 pX6_132 rfl (by decide) ?_
    exact go_return dX6_once_31 rfl (by omega) (by omega) (⟨rfl, _, rfl, h.m15⟩)
  · exact absurd (by first | exact h9 | exact Classical.not_not.mp h9) (by decide)

set_option maxRecDepth 100000 in
set_option maxHeartbeats 4000000 in
theorem cn_once_n1 {l : Launch} {Γ : ZG} {w : ZW} {o : Nat} {D : ZD} {B : ZB} {n : Nat} {S0 S : MS} {q : Nat} {G : ZD} {es : List Int32} {ne : Nat} {a c : Bool} {a0 : Nat} (h : RPs B n S0 S q G es ne (snN (a, true, c))) : Ct l Γ mX6_once 2 0 0 [.ref o, .int 1, .int (nI a0)] (wD Γ w o S D) (Pv Γ w o D none (fun S' => RPe S0 S' (-2, a0))) zNo := by
  have h15 : S.1 15 = nI (snN (a, true, c)) := h.2.2.2.2.2.1.2
  refine Ct.of (by decide) rfl (Nat.le_of_ble_eq_true rfl) ?_
  refine go_aload_n 1 dX6_once_0 rfl ?_
  refine gd_get 4 dX6_once_1 fX6_132 rfl ?_
  refine go_iload_n 5 dX6_once_4 rfl ?_
  refine go_ishr 6 dX6_once_5 ?_
  refine go_iconst 7 dX6_once_6 zc_1 ?_
  refine go_iand 8 dX6_once_7 ?_
  refine go_iconst 9 dX6_once_8 zc_1 ?_
  rw [h15, (sn_bit a true c).2.1.1, if_pos rfl]
  refine go_icmp_ne 19 12 dX6_once_9 (fun h9 => ?_) (fun h9 => ?_)
  · exact absurd rfl h9
  · refine go_aload_n 13 dX6_once_12 rfl ?_
    refine go_bipush 15 dX6_once_13 zb_m2 ?_
    refine go_iload_n 16 dX6_once_15 rfl ?_
    refine gdV2v 19 dX6_once_16 vX6_82 (ct_X6_report_n h.2.1) ?_
    refine go_aload_n 20 dX6_once_19 rfl ?_
    refine go_dup 21 dX6_once_20 rfl ?_
    refine gd_get 24 dX6_once_21 fX6_132 rfl ?_
    refine go_iconst 25 dX6_once_24 zc_1 ?_
    refine go_iload_n 26 dX6_once_25 rfl ?_
    refine go_ishl 27 dX6_once_26 ?_
    refine go_ior 28 dX6_once_27 ?_
    refine gd_put 31 dX6_once_28 pX6_132 rfl (by decide) ?_
    exact go_return dX6_once_31 rfl (by omega) (by omega) (⟨rfl, _, rfl, (h.rep (by decide)).mf (by omega)⟩)

set_option maxRecDepth 100000 in
set_option maxHeartbeats 4000000 in
theorem cn_once_y2 {l : Launch} {Γ : ZG} {w : ZW} {o : Nat} {D : ZD} {B : ZB} {n : Nat} {S0 S : MS} {q : Nat} {G : ZD} {es : List Int32} {ne : Nat} {a b : Bool} {st : Int32} (h : RPs B n S0 S q G es ne (snN (a, b, false))) : Ct l Γ mX6_once 2 0 0 [.ref o, .int 2, .int st] (wD Γ w o S D) (Pv Γ w o D none (fun S' => RPs B n S0 S' q G es ne (snN (a, b, true)))) zNo := by
  have h15 : S.1 15 = nI (snN (a, b, false)) := h.2.2.2.2.2.1.2
  refine Ct.of (by decide) rfl (Nat.le_of_ble_eq_true rfl) ?_
  refine go_aload_n 1 dX6_once_0 rfl ?_
  refine gd_get 4 dX6_once_1 fX6_132 rfl ?_
  refine go_iload_n 5 dX6_once_4 rfl ?_
  refine go_ishr 6 dX6_once_5 ?_
  refine go_iconst 7 dX6_once_6 zc_1 ?_
  refine go_iand 8 dX6_once_7 ?_
  refine go_iconst 9 dX6_once_8 zc_1 ?_
  rw [h15, (sn_bit a b false).2.2.1, if_neg (by decide)]
  refine go_icmp_ne 19 12 dX6_once_9 (fun h9 => ?_) (fun h9 => ?_)
  · refine go_aload_n 20 dX6_once_19 rfl ?_
    refine go_dup 21 dX6_once_20 rfl ?_
    refine gd_get 24 dX6_once_21 fX6_132 rfl ?_
    refine go_iconst 25 dX6_once_24 zc_1 ?_
    refine go_iload_n 26 dX6_once_25 rfl ?_
    refine go_ishl 27 dX6_once_26 ?_
    refine go_ior 28 dX6_once_27 ?_
    rw [h15, (sn_bit a b false).2.2.2]
    refine gd_put 31 dX6_once_28 pX6_132 rfl (by decide) ?_
    exact go_return dX6_once_31 rfl (by omega) (by omega) (⟨rfl, _, rfl, h.m15⟩)
  · exact absurd (by first | exact h9 | exact Classical.not_not.mp h9) (by decide)

set_option maxRecDepth 100000 in
set_option maxHeartbeats 4000000 in
theorem cn_once_n2 {l : Launch} {Γ : ZG} {w : ZW} {o : Nat} {D : ZD} {B : ZB} {n : Nat} {S0 S : MS} {q : Nat} {G : ZD} {es : List Int32} {ne : Nat} {a b : Bool} {a0 : Nat} (h : RPs B n S0 S q G es ne (snN (a, b, true))) : Ct l Γ mX6_once 2 0 0 [.ref o, .int 2, .int (nI a0)] (wD Γ w o S D) (Pv Γ w o D none (fun S' => RPe S0 S' (-2, a0))) zNo := by
  have h15 : S.1 15 = nI (snN (a, b, true)) := h.2.2.2.2.2.1.2
  refine Ct.of (by decide) rfl (Nat.le_of_ble_eq_true rfl) ?_
  refine go_aload_n 1 dX6_once_0 rfl ?_
  refine gd_get 4 dX6_once_1 fX6_132 rfl ?_
  refine go_iload_n 5 dX6_once_4 rfl ?_
  refine go_ishr 6 dX6_once_5 ?_
  refine go_iconst 7 dX6_once_6 zc_1 ?_
  refine go_iand 8 dX6_once_7 ?_
  refine go_iconst 9 dX6_once_8 zc_1 ?_
  rw [h15, (sn_bit a b true).2.2.1, if_pos rfl]
  refine go_icmp_ne 19 12 dX6_once_9 (fun h9 => ?_) (fun h9 => ?_)
  · exact absurd rfl h9
  · refine go_aload_n 13 dX6_once_12 rfl ?_
    refine go_bipush 15 dX6_once_13 zb_m2 ?_
    refine go_iload_n 16 dX6_once_15 rfl ?_
    refine gdV2v 19 dX6_once_16 vX6_82 (ct_X6_report_n h.2.1) ?_
    refine go_aload_n 20 dX6_once_19 rfl ?_
    refine go_dup 21 dX6_once_20 rfl ?_
    refine gd_get 24 dX6_once_21 fX6_132 rfl ?_
    refine go_iconst 25 dX6_once_24 zc_1 ?_
    refine go_iload_n 26 dX6_once_25 rfl ?_
    refine go_ishl 27 dX6_once_26 ?_
    refine go_ior 28 dX6_once_27 ?_
    refine gd_put 31 dX6_once_28 pX6_132 rfl (by decide) ?_
    exact go_return dX6_once_31 rfl (by omega) (by omega) (⟨rfl, _, rfl, (h.rep (by decide)).mf (by omega)⟩)

noncomputable def pty (B : ZB) (q a0 : Nat) (G : ZD) : PR (Nat × ZD) := if G 4 = 10 then .inl (-4, a0) else (match num B 0 99 q with
    | .inl e => .inl e
    | .inr r1 => (match num B 0 99 r1.1 with
      | .inl e => .inl e
      | .inr r2 => (match num B 0 999 r2.1 with
        | .inl e => .inl e
        | .inr r3 => .inr (r3.1, addP G (nI r1.2) (nI r2.2) (nI r3.2)))))
def RPp (B : ZB) (n : Nat) (S0 S : MS) (es : List Int32) (ne sn : Nat) (r : PR (Nat × ZD)) : Prop := match r with
  | .inl e => RPe S0 S e
  | .inr x => RPs B n S0 S x.1 x.2 es ne sn

theorem rp_fin {B : ZB} {n : Nat} {S0 S : MS} {q : Nat} {G : ZD} {es : List Int32} {ne sn : Nat} {a r c : Int32} (h : RPs B n S0 S q (upd (upd (upd G (16 + 3 * nP G) a) (16 + 3 * nP G + 1) r) (16 + 3 * nP G + 2) c) es ne sn) : RPs B n S0 (ma S 2 (upd (S.2.1 2) 4 (S.2.1 2 4 + 1))) q (addP G a r c) es ne sn := by
  have e4 : S.2.1 2 4 = G 4 := (h.2.2.2.2.1.1 4 (by decide) (by decide)).trans (((if_neg (by omega)).trans (if_neg (by omega))).trans (if_neg (by omega)))
  rw [e4]
  exact h.set (i := 4) (by omega) (by omega)

set_option maxRecDepth 100000 in
set_option maxHeartbeats 4000000 in
theorem cx_readParty {l : Launch} {Γ : ZG} {w : ZW} {o : Nat} {D : ZD} {B : ZB} {n : Nat} {S0 S : MS} {q a0 : Nat} {G : ZD} {es : List Int32} {ne sn : Nat} (hT : TB B n) (h : RPs B n S0 S q G es ne sn) (hP : G 4 = nI (nP G)) (hP10 : nP G ≤ 10) : Ct l Γ mX6_readParty 4 0 0 [.ref o, .int (nI a0)] (wD Γ w o S D) (Pv Γ w o D none (fun S' => RPp B n S0 S' es ne sn (pty B q a0 G))) zNo := by
  refine Ct.of (by decide) rfl (Nat.le_of_ble_eq_true rfl) ?_
  unfold pty
  by_cases h10 : G 4 = 10
  · rw [if_pos h10]
    refine go_aload_n 1 dX6_readParty_0 rfl ?_
    refine gd_get 4 dX6_readParty_1 fX6_20 rfl ?_
    refine go_iconst 5 dX6_readParty_4 zc_4 ?_
    refine gd_ialdx (x := 3) (a := 2) 6 (4) dX6_readParty_5 rfl rfl (by decide) (by decide) ?_
    refine go_bipush 8 dX6_readParty_6 zb_10 ?_
    rw [show S.2.1 2 4 = G 4 from h.2.2.2.2.1.1 4 (by decide) (by decide)]
    refine go_icmp_ne 18 11 dX6_readParty_8 (fun h8 => ?_) (fun h8 => ?_)
    · exact absurd h10 h8
    · refine go_aload_n 12 dX6_readParty_11 rfl ?_
      refine go_bipush 14 dX6_readParty_12 zb_m4 ?_
      refine go_iload_n 15 dX6_readParty_14 rfl ?_
      refine gdV2v 18 dX6_readParty_15 vX6_82 (ct_X6_report_n h.2.1) ?_
      have hb := h.rep (k := -4) (a := a0) (by decide)
      refine go_aload_n 19 dX6_readParty_18 rfl ?_
      refine go_iconst 20 dX6_readParty_19 zc_0 ?_
      refine go_bipush 22 dX6_readParty_20 zb_99 ?_
      refine gdV2 25 dX6_readParty_22 vX6_120 (ct_X6_number_b hb.no) ?_
      refine go_istore_n 26 dX6_readParty_25 (by decide) ?_
      refine go_aload_n 27 dX6_readParty_26 rfl ?_
      refine go_iconst 28 dX6_readParty_27 zc_0 ?_
      refine go_bipush 30 dX6_readParty_28 zb_99 ?_
      refine gdV2 33 dX6_readParty_30 vX6_120 (ct_X6_number_b hb.no) ?_
      refine go_istore_n 34 dX6_readParty_33 (by decide) ?_
      refine go_aload_n 35 dX6_readParty_34 rfl ?_
      refine go_iconst 36 dX6_readParty_35 zc_0 ?_
      refine go_sipush 39 dX6_readParty_36 zs_999 ?_
      refine gdV2 42 dX6_readParty_39 vX6_120 (ct_X6_number_b hb.no) ?_
      refine go_istore 44 dX6_readParty_42 (by decide) ?_
      refine go_aload_n 45 dX6_readParty_44 rfl ?_
      refine gdV0 48 dX6_readParty_45 vX6_65 (ct_X6_isGood_n hb.no) ?_
      refine go_if_ne 52 51 dX6_readParty_48 (fun h48 => ?_) (fun h48 => ?_)
      · exact absurd h48 (by decide)
      · exact go_return dX6_readParty_51 rfl (by omega) (by omega) (⟨rfl, _, rfl, hb⟩)
  · rw [if_neg h10]
    cases e1 : num B 0 99 q with
    | inl e =>
      refine go_aload_n 1 dX6_readParty_0 rfl ?_
      refine gd_get 4 dX6_readParty_1 fX6_20 rfl ?_
      refine go_iconst 5 dX6_readParty_4 zc_4 ?_
      refine gd_ialdx (x := 3) (a := 2) 6 (4) dX6_readParty_5 rfl rfl (by decide) (by decide) ?_
      refine go_bipush 8 dX6_readParty_6 zb_10 ?_
      rw [show S.2.1 2 4 = G 4 from h.2.2.2.2.1.1 4 (by decide) (by decide)]
      refine go_icmp_ne 18 11 dX6_readParty_8 (fun h8 => ?_) (fun h8 => ?_)
      · refine go_aload_n 19 dX6_readParty_18 rfl ?_
        refine go_iconst 20 dX6_readParty_19 zc_0 ?_
        refine go_bipush 22 dX6_readParty_20 zb_99 ?_
        refine gdX2 25 dX6_readParty_22 vX6_120 (cn_nume (lo := 0) (hi := 99) (by decide) (by decide) hT h e1) (fun S22 r22 => ?_)
        refine go_istore_n 26 dX6_readParty_25 (by decide) ?_
        refine go_aload_n 27 dX6_readParty_26 rfl ?_
        refine go_iconst 28 dX6_readParty_27 zc_0 ?_
        refine go_bipush 30 dX6_readParty_28 zb_99 ?_
        refine gdV2 33 dX6_readParty_30 vX6_120 (ct_X6_number_b r22.no) ?_
        refine go_istore_n 34 dX6_readParty_33 (by decide) ?_
        refine go_aload_n 35 dX6_readParty_34 rfl ?_
        refine go_iconst 36 dX6_readParty_35 zc_0 ?_
        refine go_sipush 39 dX6_readParty_36 zs_999 ?_
        refine gdV2 42 dX6_readParty_39 vX6_120 (ct_X6_number_b r22.no) ?_
        refine go_istore 44 dX6_readParty_42 (by decide) ?_
        refine go_aload_n 45 dX6_readParty_44 rfl ?_
        refine gdV0 48 dX6_readParty_45 vX6_65 (ct_X6_isGood_n r22.no) ?_
        refine go_if_ne 52 51 dX6_readParty_48 (fun h48 => ?_) (fun h48 => ?_)
        · exact absurd h48 (by decide)
        · exact go_return dX6_readParty_51 rfl (by omega) (by omega) (⟨rfl, S22, rfl, r22⟩)
      · exact (h10 (by first | exact h8 | exact Classical.not_not.mp h8)).elim
    | inr r1 =>
      have e1 : num B 0 99 q = .inr r1 := e1
      cases e2 : num B 0 99 r1.1 with
      | inl e =>
        simp only [e2]
        refine go_aload_n 1 dX6_readParty_0 rfl ?_
        refine gd_get 4 dX6_readParty_1 fX6_20 rfl ?_
        refine go_iconst 5 dX6_readParty_4 zc_4 ?_
        refine gd_ialdx (x := 3) (a := 2) 6 (4) dX6_readParty_5 rfl rfl (by decide) (by decide) ?_
        refine go_bipush 8 dX6_readParty_6 zb_10 ?_
        rw [show S.2.1 2 4 = G 4 from h.2.2.2.2.1.1 4 (by decide) (by decide)]
        refine go_icmp_ne 18 11 dX6_readParty_8 (fun h8 => ?_) (fun h8 => ?_)
        · refine go_aload_n 19 dX6_readParty_18 rfl ?_
          refine go_iconst 20 dX6_readParty_19 zc_0 ?_
          refine go_bipush 22 dX6_readParty_20 zb_99 ?_
          refine gdX2 25 dX6_readParty_22 vX6_120 (cn_num (lo := 0) (hi := 99) (by decide) (by decide) hT h e1) (fun S22 r22 => ?_)
          refine go_istore_n 26 dX6_readParty_25 (by decide) ?_
          refine go_aload_n 27 dX6_readParty_26 rfl ?_
          refine go_iconst 28 dX6_readParty_27 zc_0 ?_
          refine go_bipush 30 dX6_readParty_28 zb_99 ?_
          refine gdX2 33 dX6_readParty_30 vX6_120 (cn_nume (lo := 0) (hi := 99) (by decide) (by decide) hT r22 e2) (fun S30 r30 => ?_)
          refine go_istore_n 34 dX6_readParty_33 (by decide) ?_
          refine go_aload_n 35 dX6_readParty_34 rfl ?_
          refine go_iconst 36 dX6_readParty_35 zc_0 ?_
          refine go_sipush 39 dX6_readParty_36 zs_999 ?_
          refine gdV2 42 dX6_readParty_39 vX6_120 (ct_X6_number_b r30.no) ?_
          refine go_istore 44 dX6_readParty_42 (by decide) ?_
          refine go_aload_n 45 dX6_readParty_44 rfl ?_
          refine gdV0 48 dX6_readParty_45 vX6_65 (ct_X6_isGood_n r30.no) ?_
          refine go_if_ne 52 51 dX6_readParty_48 (fun h48 => ?_) (fun h48 => ?_)
          · exact absurd h48 (by decide)
          · exact go_return dX6_readParty_51 rfl (by omega) (by omega) (⟨rfl, S30, rfl, r30⟩)
        · exact (h10 (by first | exact h8 | exact Classical.not_not.mp h8)).elim
      | inr r2 =>
        cases e3 : num B 0 999 r2.1 with
        | inl e =>
          simp only [e2, e3]
          refine go_aload_n 1 dX6_readParty_0 rfl ?_
          refine gd_get 4 dX6_readParty_1 fX6_20 rfl ?_
          refine go_iconst 5 dX6_readParty_4 zc_4 ?_
          refine gd_ialdx (x := 3) (a := 2) 6 (4) dX6_readParty_5 rfl rfl (by decide) (by decide) ?_
          refine go_bipush 8 dX6_readParty_6 zb_10 ?_
          rw [show S.2.1 2 4 = G 4 from h.2.2.2.2.1.1 4 (by decide) (by decide)]
          refine go_icmp_ne 18 11 dX6_readParty_8 (fun h8 => ?_) (fun h8 => ?_)
          · refine go_aload_n 19 dX6_readParty_18 rfl ?_
            refine go_iconst 20 dX6_readParty_19 zc_0 ?_
            refine go_bipush 22 dX6_readParty_20 zb_99 ?_
            refine gdX2 25 dX6_readParty_22 vX6_120 (cn_num (lo := 0) (hi := 99) (by decide) (by decide) hT h e1) (fun S22 r22 => ?_)
            refine go_istore_n 26 dX6_readParty_25 (by decide) ?_
            refine go_aload_n 27 dX6_readParty_26 rfl ?_
            refine go_iconst 28 dX6_readParty_27 zc_0 ?_
            refine go_bipush 30 dX6_readParty_28 zb_99 ?_
            refine gdX2 33 dX6_readParty_30 vX6_120 (cn_num (lo := 0) (hi := 99) (by decide) (by decide) hT r22 e2) (fun S30 r30 => ?_)
            refine go_istore_n 34 dX6_readParty_33 (by decide) ?_
            refine go_aload_n 35 dX6_readParty_34 rfl ?_
            refine go_iconst 36 dX6_readParty_35 zc_0 ?_
            refine go_sipush 39 dX6_readParty_36 zs_999 ?_
            refine gdX2 42 dX6_readParty_39 vX6_120 (cn_nume (lo := 0) (hi := 999) (by decide) (by decide) hT r30 e3) (fun S39 r39 => ?_)
            refine go_istore 44 dX6_readParty_42 (by decide) ?_
            refine go_aload_n 45 dX6_readParty_44 rfl ?_
            refine gdV0 48 dX6_readParty_45 vX6_65 (ct_X6_isGood_n r39.no) ?_
            refine go_if_ne 52 51 dX6_readParty_48 (fun h48 => ?_) (fun h48 => ?_)
            · exact absurd h48 (by decide)
            · exact go_return dX6_readParty_51 rfl (by omega) (by omega) (⟨rfl, S39, rfl, r39⟩)
          · exact (h10 (by first | exact h8 | exact Classical.not_not.mp h8)).elim
        | inr r3 =>
          simp only [e2, e3]
          refine go_aload_n 1 dX6_readParty_0 rfl ?_
          refine gd_get 4 dX6_readParty_1 fX6_20 rfl ?_
          refine go_iconst 5 dX6_readParty_4 zc_4 ?_
          refine gd_ialdx (x := 3) (a := 2) 6 (4) dX6_readParty_5 rfl rfl (by decide) (by decide) ?_
          refine go_bipush 8 dX6_readParty_6 zb_10 ?_
          rw [show S.2.1 2 4 = G 4 from h.2.2.2.2.1.1 4 (by decide) (by decide)]
          refine go_icmp_ne 18 11 dX6_readParty_8 (fun h8 => ?_) (fun h8 => ?_)
          · refine go_aload_n 19 dX6_readParty_18 rfl ?_
            refine go_iconst 20 dX6_readParty_19 zc_0 ?_
            refine go_bipush 22 dX6_readParty_20 zb_99 ?_
            refine gdX2 25 dX6_readParty_22 vX6_120 (cn_num (lo := 0) (hi := 99) (by decide) (by decide) hT h e1) (fun S22 r22 => ?_)
            refine go_istore_n 26 dX6_readParty_25 (by decide) ?_
            refine go_aload_n 27 dX6_readParty_26 rfl ?_
            refine go_iconst 28 dX6_readParty_27 zc_0 ?_
            refine go_bipush 30 dX6_readParty_28 zb_99 ?_
            refine gdX2 33 dX6_readParty_30 vX6_120 (cn_num (lo := 0) (hi := 99) (by decide) (by decide) hT r22 e2) (fun S30 r30 => ?_)
            refine go_istore_n 34 dX6_readParty_33 (by decide) ?_
            refine go_aload_n 35 dX6_readParty_34 rfl ?_
            refine go_iconst 36 dX6_readParty_35 zc_0 ?_
            refine go_sipush 39 dX6_readParty_36 zs_999 ?_
            refine gdX2 42 dX6_readParty_39 vX6_120 (cn_num (lo := 0) (hi := 999) (by decide) (by decide) hT r30 e3) (fun S39 r39 => ?_)
            refine go_istore 44 dX6_readParty_42 (by decide) ?_
            refine go_aload_n 45 dX6_readParty_44 rfl ?_
            refine gdV0 48 dX6_readParty_45 vX6_65 (ct_X6_isGood_y r39.2.1) ?_
            refine go_if_ne 52 51 dX6_readParty_48 (fun h48 => ?_) (fun h48 => ?_)
            · refine go_bipush 54 dX6_readParty_52 zb_16 ?_
              refine go_iconst 55 dX6_readParty_54 zc_3 ?_
              refine go_aload_n 56 dX6_readParty_55 rfl ?_
              refine gd_get 59 dX6_readParty_56 fX6_20 rfl ?_
              refine go_iconst 60 dX6_readParty_59 zc_4 ?_
              refine gd_ialdx (x := 3) (a := 2) 61 (4) dX6_readParty_60 rfl rfl (by decide) (by decide) ?_
              rw [show S39.2.1 2 4 = nI (nP G) from (r39.2.2.2.2.1.1 4 (by decide) (by decide)).trans hP]
              refine go_imul 62 dX6_readParty_61 ?_
              refine go_iadd 63 dX6_readParty_62 ?_
              rw [ixP0]
              refine go_istore 65 dX6_readParty_63 (by decide) ?_
              refine go_aload_n 66 dX6_readParty_65 rfl ?_
              refine gd_get 69 dX6_readParty_66 fX6_20 rfl ?_
              refine go_iload 71 dX6_readParty_69 rfl ?_
              refine go_iconst 72 dX6_readParty_71 zc_0 ?_
              refine go_iadd 73 dX6_readParty_72 ?_
              refine go_iload_n 74 dX6_readParty_73 rfl ?_
              refine gd_iastx (x := 3) (a := 2) 75 (16 + 3 * nP G) dX6_readParty_74 rfl (by decide) (ix2 _ 0 _ rfl) (by show 16 + 3 * nP G < 1666; omega) (by decide) ?_
              refine go_aload_n 76 dX6_readParty_75 rfl ?_
              refine gd_get 79 dX6_readParty_76 fX6_20 rfl ?_
              refine go_iload 81 dX6_readParty_79 rfl ?_
              refine go_iconst 82 dX6_readParty_81 zc_1 ?_
              refine go_iadd 83 dX6_readParty_82 ?_
              refine go_iload_n 84 dX6_readParty_83 rfl ?_
              refine gd_iastx (x := 3) (a := 2) 85 (16 + 3 * nP G + 1) dX6_readParty_84 rfl (by decide) (ix2 _ 1 _ rfl) (by show 16 + 3 * nP G + 1 < 1666; omega) (by decide) ?_
              refine go_aload_n 86 dX6_readParty_85 rfl ?_
              refine gd_get 89 dX6_readParty_86 fX6_20 rfl ?_
              refine go_iload 91 dX6_readParty_89 rfl ?_
              refine go_iconst 92 dX6_readParty_91 zc_2 ?_
              refine go_iadd 93 dX6_readParty_92 ?_
              refine go_iload 95 dX6_readParty_93 rfl ?_
              refine gd_iastx (x := 3) (a := 2) 96 (16 + 3 * nP G + 2) dX6_readParty_95 rfl (by decide) (ix2 _ 2 _ rfl) (by show 16 + 3 * nP G + 2 < 1666; omega) (by decide) ?_
              have f1 := r39.set (i := 16 + 3 * nP G) (v := nI r1.2) (by omega) (by omega)
              have f2 := f1.set (i := 16 + 3 * nP G + 1) (v := nI r2.2) (by omega) (by omega)
              have f3 := f2.set (i := 16 + 3 * nP G + 2) (v := nI r3.2) (by omega) (by omega)
              refine go_aload_n 97 dX6_readParty_96 rfl ?_
              refine gd_get 100 dX6_readParty_97 fX6_20 rfl ?_
              refine go_iconst 101 dX6_readParty_100 zc_4 ?_
              refine go_dup2 102 dX6_readParty_101 rfl rfl ?_
              refine gd_ialdx (x := 3) (a := 2) 103 (4) dX6_readParty_102 rfl rfl (by decide) (by decide) ?_
              refine go_iconst 104 dX6_readParty_103 zc_1 ?_
              refine go_iadd 105 dX6_readParty_104 ?_
              refine gd_iastx (x := 3) (a := 2) 106 (4) dX6_readParty_105 rfl (by decide) rfl (by decide) (by decide) ?_
              exact go_return dX6_readParty_106 rfl (by omega) (by omega) (⟨rfl, _, rfl, rp_fin f3⟩)
            · exact absurd h48 (by decide)
          · exact (h10 (by first | exact h8 | exact Classical.not_not.mp h8)).elim

def RQr (B : ZB) (n : Nat) (S0 S : MS) (r : PR QS) : Prop := match r with
  | .inl e => RPe S0 S e
  | .inr s => RPs B n S0 S s.1 s.2.1 (encs s.2.2.2) 0 (snN s.2.2.1)
noncomputable def stq (B : ZB) (r : PR QS) : PR QS := match r with
  | .inl e => .inl e
  | .inr s2 => if B s2.1 = 59 then .inr (sp B (s2.1 + 1), s2.2) else .inl (-2, s2.1)

set_option maxRecDepth 100000 in
set_option maxHeartbeats 4000000 in
theorem cx_stm_tail {l : Launch} {Γ : ZG} {w : ZW} {o : Nat} {D : ZD} {B : ZB} {n dp : Nat} {S0 S : MS} {r : PR QS} (hT : TB B n) (hdp : 4 ≤ dp) (h : RQr B n S0 S r) : Go l Γ mX6_statement dp 0 0 (Pv Γ w o D none (fun S' => RQr B n S0 S' (stq B r))) zNo 0 0 (wD Γ w o S D) 139 [(0, .ref o)] [] := by
  cases r with
  | inl e =>
    have h : RPe S0 S e := h
    refine go_aload_n 140 dX6_statement_139 rfl ?_
    refine go_bipush 142 dX6_statement_140 zb_59 ?_
    refine gdV1v 145 dX6_statement_142 vX6_104 (ct_X6_expect_b h.no) ?_ (hdp := by omega)
    exact go_return dX6_statement_145 rfl (by omega) (by omega) (⟨rfl, S, rfl, h⟩)
  | inr s =>
    have h : RPs B n S0 S s.1 s.2.1 (encs s.2.2.2) 0 (snN s.2.2.1) := h
    by_cases h59 : B s.1 = 59
    · have h59' := h59
      refine go_aload_n 140 dX6_statement_139 rfl ?_
      refine go_bipush 142 dX6_statement_140 zb_59 ?_
      refine gdX1v 145 dX6_statement_142 vX6_104 (cn_expect_y hT h h59 (by decide)) (fun S142 r142 => ?_) (hdp := by omega)
      exact go_return dX6_statement_145 rfl (by omega) (by omega) (⟨rfl, _, rfl, by unfold stq; simp only [h59, if_true]; exact r142⟩)
    · have h59' := h59
      refine go_aload_n 140 dX6_statement_139 rfl ?_
      refine go_bipush 142 dX6_statement_140 zb_59 ?_
      refine gdX1v 145 dX6_statement_142 vX6_104 (cn_expect_n hT h h59) (fun S142 r142 => ?_) (hdp := by omega)
      exact go_return dX6_statement_145 rfl (by omega) (by omega) (⟨rfl, _, rfl, by unfold stq; simp only [h59, if_false]; exact r142⟩)

def qp (t : Bool × Bool × Bool) (cs : List Int32) (r : PR (Nat × ZD)) : PR QS := match r with
    | .inl e => .inl e
    | .inr x => .inr (x.1, x.2, t, cs)
theorem stm_party {B : ZB} {q : Nat} {G : ZD} {t : Bool × Bool × Bool} {cs : List Int32} (w0 : wd B "party" q) : stm B (q, G, t, cs) = qp t cs (pty B (sp B (q + 5)) q G) := by
  unfold stm
  rw [if_pos w0]
  unfold pty
  by_cases h10 : G 4 = 10
  · rw [if_pos h10, if_pos h10]
    rfl
  · rw [if_neg h10, if_neg h10]
    cases e1 : num B 0 99 (sp B (q + 5)) with
    | inl e => rfl
    | inr r1 =>
      cases e2 : num B 0 99 r1.1 with
      | inl e => simp only [e2, qp]
      | inr r2 =>
        cases e3 : num B 0 999 r2.1 with
        | inl e => simp only [e2, e3, qp]
        | inr r3 => simp only [e2, e3, qp]
theorem RPp.q {B : ZB} {n : Nat} {S0 S : MS} {t : Bool × Bool × Bool} {cs : List Int32} {r : PR (Nat × ZD)} (h : RPp B n S0 S (encs cs) 0 (snN t) r) : RQr B n S0 S (qp t cs r) := by
  cases r with
  | inl e => exact h
  | inr x => exact h

set_option maxRecDepth 100000 in
set_option maxHeartbeats 4000000 in
theorem cx_stm_party {l : Launch} {Γ : ZG} {w : ZW} {o : Nat} {D : ZD} {B : ZB} {n : Nat} {S0 S : MS} (hT : TB B n) {q : Nat} {G : ZD} {a b c : Bool} {cs : List Int32} (h : RPs B n S0 S q G (encs cs) 0 (snN (a, b, c))) (hP : G 4 = nI (nP G)) (hP10 : nP G ≤ 10) (w0 : wd B "party" q) : Ct l Γ mX6_statement 23 0 0 [.ref o] (wD Γ w o S D) (Pv Γ w o D none (fun S' => RQr B n S0 S' (stq B (stm B (q, G, (a, b, c), cs))))) zNo := by
  refine Ct.of (by decide) rfl (Nat.le_of_ble_eq_true rfl) ?_
  refine go_aload_n 1 dX6_statement_0 rfl ?_
  refine gdX0 4 dX6_statement_1 vX6_69 (cn_next hT h) (fun S1 r1 => ?_) (hdp := by omega)
  refine go_pop 5 dX6_statement_4 rfl ?_
  refine go_aload_n 6 dX6_statement_5 rfl ?_
  refine gd_get 9 dX6_statement_6 fX6_48 rfl ?_
  rw [r1.2.1]
  refine go_istore_n 10 dX6_statement_9 (by decide) ?_
  refine go_aload_n 11 dX6_statement_10 rfl ?_
  refine go_ldcS 13 dX6_statement_11 sX6_135 ?_
  refine gdX1 16 dX6_statement_13 vX6_110 (cn_word_y (t := (RX6, 135, "party")) sX6_135 hT r1.1 w0 (wd_end hT w0 (by decide +kernel) (by decide +kernel))) (fun S13 r13 => ?_) (hdp := by omega)
  refine go_if_eq 27 19 dX6_statement_16 (fun h16 => ?_) (fun h16 => ?_)
  · exact absurd h16 (by decide)
  · refine go_aload_n 20 dX6_statement_19 rfl ?_
    refine go_iload_n 21 dX6_statement_20 rfl ?_
    refine gdX1v 24 dX6_statement_21 vX6_137 (cx_readParty hT r13 hP hP10) (fun S21 r21 => ?_) (hdp := by omega)
    refine go_goto 139 dX6_statement_24 ?_
    refine go_locals [(0, .ref o)] rfl ?_
    rw [stm_party w0]
    exact cx_stm_tail hT (by omega) (RPp.q r21)

theorem stm_wait {B : ZB} {q : Nat} {G : ZD} {b c : Bool} {cs : List Int32} (w0 : ¬ wd B "party" q) (w1 : wd B "wait" q) : stm B (q, G, (false, b, c), cs) = (match num B 1 99 (sp B (q + 4)) with
    | .inl e => .inl e
    | .inr r1 => (match num B 1 99 r1.1 with
      | .inl e => .inl e
      | .inr r2 => .inr (r2.1, upd (upd G 1 (nI r1.2)) 2 (nI r2.2), (true, (b, c)), cs))) := by
  unfold stm
  rw [if_neg w0, if_pos ⟨w1, rfl⟩]
  rfl
theorem stm_pat {B : ZB} {q : Nat} {G : ZD} {a c : Bool} {cs : List Int32} (w0 : ¬ wd B "party" q) (w1 : ¬ wd B "wait" q) (w2 : wd B "patience" q) : stm B (q, G, (a, false, c), cs) = (match num B 1 99 (sp B (q + 8)) with
    | .inl e => .inl e
    | .inr r1 => .inr (r1.1, upd G 3 (nI r1.2), (a, true, c), cs)) := by
  unfold stm
  rw [if_neg w0, if_neg (fun z => w1 z.1), if_pos ⟨w2, rfl⟩]
  rfl
theorem stm_ring {B : ZB} {q : Nat} {G : ZD} {a b : Bool} {cs : List Int32} (w0 : ¬ wd B "party" q) (w1 : ¬ wd B "wait" q) (w2 : ¬ wd B "patience" q) (w3 : wd B "ring" q) : stm B (q, G, (a, b, false), cs) = (match smm B (fac B 4) (sp B (q + 4), cs) with
    | .inl e => .inl e
    | .inr x => .inr (x.1, upd G 7 1, (a, b, true), x.2)) := by
  unfold stm
  rw [if_neg w0, if_neg (fun z => w1 z.1), if_neg (fun z => w2 z.1), if_pos ⟨w3, rfl⟩]
  rfl
theorem wd_two {B : ZB} {q : Nat} {t u : String} (h : wd B t q) (hu : wd B u q) (h0 : 0 < t.length) (h1 : 0 < u.length) (h2 : zch t 0 ≠ zch u 0) : False := h2 ((h.1 0 h0).symm.trans (hu.1 0 h1))
theorem stm_else {B : ZB} {q : Nat} {G : ZD} {a b c : Bool} {cs : List Int32} (w0 : ¬ wd B "party" q) (w1 : ¬ (wd B "wait" q ∧ a = false)) (w2 : ¬ (wd B "patience" q ∧ b = false)) (w3 : ¬ (wd B "ring" q ∧ c = false)) : stm B (q, G, (a, b, c), cs) = .inl (-2, q) := by
  unfold stm
  rw [if_neg w0, if_neg w1, if_neg w2, if_neg w3]

set_option maxRecDepth 100000 in
set_option maxHeartbeats 4000000 in
theorem cx_stm_wait_y {l : Launch} {Γ : ZG} {w : ZW} {o : Nat} {D : ZD} {B : ZB} {n : Nat} {S0 S : MS} (hT : TB B n) {q : Nat} {G : ZD} {b c : Bool} {cs : List Int32} (h : RPs B n S0 S q G (encs cs) 0 (snN (false, b, c)))  (w0 : ¬ wd B "party" q) (w1 : wd B "wait" q) : Ct l Γ mX6_statement 23 0 0 [.ref o] (wD Γ w o S D) (Pv Γ w o D none (fun S' => RQr B n S0 S' (stq B (stm B (q, G, (false, b, c), cs))))) zNo := by
  refine Ct.of (by decide) rfl (Nat.le_of_ble_eq_true rfl) ?_
  rw [stm_wait w0 w1]
  cases e1 : num B 1 99 (sp B (q + 4)) with
  | inl e =>
    refine go_aload_n 1 dX6_statement_0 rfl ?_
    refine gdX0 4 dX6_statement_1 vX6_69 (cn_next hT h) (fun S1 r1 => ?_) (hdp := by omega)
    refine go_pop 5 dX6_statement_4 rfl ?_
    refine go_aload_n 6 dX6_statement_5 rfl ?_
    refine gd_get 9 dX6_statement_6 fX6_48 rfl ?_
    rw [r1.2.1]
    refine go_istore_n 10 dX6_statement_9 (by decide) ?_
    refine go_aload_n 11 dX6_statement_10 rfl ?_
    refine go_ldcS 13 dX6_statement_11 sX6_135 ?_
    refine gdX1 16 dX6_statement_13 vX6_110 (cn_word_n (t := (RX6, 135, "party")) sX6_135 hT r1.1 w0) (fun S13 r13 => ?_) (hdp := by omega)
    refine go_if_eq 27 19 dX6_statement_16 (fun h16 => ?_) (fun h16 => ?_)
    · refine go_aload_n 28 dX6_statement_27 rfl ?_
      refine go_ldcS 30 dX6_statement_28 sX6_140 ?_
      refine gdX1 33 dX6_statement_30 vX6_110 (cn_word_y (t := (RX6, 140, "wait")) sX6_140 hT r13.1 w1 (wd_end hT w1 (by decide +kernel) (by decide +kernel))) (fun S30 r30 => ?_) (hdp := by omega)
      refine go_if_eq 71 36 dX6_statement_33 (fun h33 => ?_) (fun h33 => ?_)
      · exact absurd h33 (by decide)
      · refine go_aload_n 37 dX6_statement_36 rfl ?_
        refine go_iconst 38 dX6_statement_37 zc_0 ?_
        refine go_iload_n 39 dX6_statement_38 rfl ?_
        refine gdX2v 42 dX6_statement_39 vX6_142 (cn_once_y0 r30) (fun S39 r39 => ?_) (hdp := by omega)
        refine go_aload_n 43 dX6_statement_42 rfl ?_
        refine gd_get 46 dX6_statement_43 fX6_20 rfl ?_
        refine go_iconst 47 dX6_statement_46 zc_1 ?_
        refine go_aload_n 48 dX6_statement_47 rfl ?_
        refine go_iconst 49 dX6_statement_48 zc_1 ?_
        refine go_bipush 51 dX6_statement_49 zb_99 ?_
        refine gdX2 54 dX6_statement_51 vX6_120 (cn_nume (lo := 1) (hi := 99) (by decide) (by decide) hT r39 e1) (fun S51 r51 => ?_) (hdp := by omega)
        refine gd_iastx (x := 3) (a := 2) 55 (1) dX6_statement_54 rfl (by decide) rfl (by decide) (by decide) ?_
        refine go_aload_n 56 dX6_statement_55 rfl ?_
        refine gd_get 59 dX6_statement_56 fX6_20 rfl ?_
        refine go_iconst 60 dX6_statement_59 zc_2 ?_
        refine go_aload_n 61 dX6_statement_60 rfl ?_
        refine go_iconst 62 dX6_statement_61 zc_1 ?_
        refine go_bipush 64 dX6_statement_62 zb_99 ?_
        refine gdV2 67 dX6_statement_64 vX6_120 (ct_X6_number_b (r51.m2).no) ?_ (hdp := by omega)
        refine gd_iastx (x := 3) (a := 2) 68 (2) dX6_statement_67 rfl (by decide) rfl (by decide) (by decide) ?_
        refine go_goto 139 dX6_statement_68 ?_
        refine go_locals [(0, .ref o)] rfl ?_
        exact cx_stm_tail hT (by omega) (r := .inl e) (show RPe S0 _ e from (r51.m2).m2)
    · exact absurd h16 (by decide)
  | inr v1 =>
    cases e2 : num B 1 99 v1.1 with
    | inl e =>
      simp only [e2]
      refine go_aload_n 1 dX6_statement_0 rfl ?_
      refine gdX0 4 dX6_statement_1 vX6_69 (cn_next hT h) (fun S1 r1 => ?_) (hdp := by omega)
      refine go_pop 5 dX6_statement_4 rfl ?_
      refine go_aload_n 6 dX6_statement_5 rfl ?_
      refine gd_get 9 dX6_statement_6 fX6_48 rfl ?_
      rw [r1.2.1]
      refine go_istore_n 10 dX6_statement_9 (by decide) ?_
      refine go_aload_n 11 dX6_statement_10 rfl ?_
      refine go_ldcS 13 dX6_statement_11 sX6_135 ?_
      refine gdX1 16 dX6_statement_13 vX6_110 (cn_word_n (t := (RX6, 135, "party")) sX6_135 hT r1.1 w0) (fun S13 r13 => ?_) (hdp := by omega)
      refine go_if_eq 27 19 dX6_statement_16 (fun h16 => ?_) (fun h16 => ?_)
      · refine go_aload_n 28 dX6_statement_27 rfl ?_
        refine go_ldcS 30 dX6_statement_28 sX6_140 ?_
        refine gdX1 33 dX6_statement_30 vX6_110 (cn_word_y (t := (RX6, 140, "wait")) sX6_140 hT r13.1 w1 (wd_end hT w1 (by decide +kernel) (by decide +kernel))) (fun S30 r30 => ?_) (hdp := by omega)
        refine go_if_eq 71 36 dX6_statement_33 (fun h33 => ?_) (fun h33 => ?_)
        · exact absurd h33 (by decide)
        · refine go_aload_n 37 dX6_statement_36 rfl ?_
          refine go_iconst 38 dX6_statement_37 zc_0 ?_
          refine go_iload_n 39 dX6_statement_38 rfl ?_
          refine gdX2v 42 dX6_statement_39 vX6_142 (cn_once_y0 r30) (fun S39 r39 => ?_) (hdp := by omega)
          refine go_aload_n 43 dX6_statement_42 rfl ?_
          refine gd_get 46 dX6_statement_43 fX6_20 rfl ?_
          refine go_iconst 47 dX6_statement_46 zc_1 ?_
          refine go_aload_n 48 dX6_statement_47 rfl ?_
          refine go_iconst 49 dX6_statement_48 zc_1 ?_
          refine go_bipush 51 dX6_statement_49 zb_99 ?_
          refine gdX2 54 dX6_statement_51 vX6_120 (cn_num (lo := 1) (hi := 99) (by decide) (by decide) hT r39 e1) (fun S51 r51 => ?_) (hdp := by omega)
          refine gd_iastx (x := 3) (a := 2) 55 (1) dX6_statement_54 rfl (by decide) rfl (by decide) (by decide) ?_
          refine go_aload_n 56 dX6_statement_55 rfl ?_
          refine gd_get 59 dX6_statement_56 fX6_20 rfl ?_
          refine go_iconst 60 dX6_statement_59 zc_2 ?_
          refine go_aload_n 61 dX6_statement_60 rfl ?_
          refine go_iconst 62 dX6_statement_61 zc_1 ?_
          refine go_bipush 64 dX6_statement_62 zb_99 ?_
          refine gdX2 67 dX6_statement_64 vX6_120 (cn_nume (lo := 1) (hi := 99) (by decide) (by decide) hT (r51.set (i := 1) (v := nI v1.2) (by decide) (by decide)) e2) (fun S64 r64 => ?_) (hdp := by omega)
          refine gd_iastx (x := 3) (a := 2) 68 (2) dX6_statement_67 rfl (by decide) rfl (by decide) (by decide) ?_
          refine go_goto 139 dX6_statement_68 ?_
          refine go_locals [(0, .ref o)] rfl ?_
          exact cx_stm_tail hT (by omega) (r := .inl e) (show RPe S0 _ e from r64.m2)
      · exact absurd h16 (by decide)
    | inr v2 =>
      simp only [e2]
      refine go_aload_n 1 dX6_statement_0 rfl ?_
      refine gdX0 4 dX6_statement_1 vX6_69 (cn_next hT h) (fun S1 r1 => ?_) (hdp := by omega)
      refine go_pop 5 dX6_statement_4 rfl ?_
      refine go_aload_n 6 dX6_statement_5 rfl ?_
      refine gd_get 9 dX6_statement_6 fX6_48 rfl ?_
      rw [r1.2.1]
      refine go_istore_n 10 dX6_statement_9 (by decide) ?_
      refine go_aload_n 11 dX6_statement_10 rfl ?_
      refine go_ldcS 13 dX6_statement_11 sX6_135 ?_
      refine gdX1 16 dX6_statement_13 vX6_110 (cn_word_n (t := (RX6, 135, "party")) sX6_135 hT r1.1 w0) (fun S13 r13 => ?_) (hdp := by omega)
      refine go_if_eq 27 19 dX6_statement_16 (fun h16 => ?_) (fun h16 => ?_)
      · refine go_aload_n 28 dX6_statement_27 rfl ?_
        refine go_ldcS 30 dX6_statement_28 sX6_140 ?_
        refine gdX1 33 dX6_statement_30 vX6_110 (cn_word_y (t := (RX6, 140, "wait")) sX6_140 hT r13.1 w1 (wd_end hT w1 (by decide +kernel) (by decide +kernel))) (fun S30 r30 => ?_) (hdp := by omega)
        refine go_if_eq 71 36 dX6_statement_33 (fun h33 => ?_) (fun h33 => ?_)
        · exact absurd h33 (by decide)
        · refine go_aload_n 37 dX6_statement_36 rfl ?_
          refine go_iconst 38 dX6_statement_37 zc_0 ?_
          refine go_iload_n 39 dX6_statement_38 rfl ?_
          refine gdX2v 42 dX6_statement_39 vX6_142 (cn_once_y0 r30) (fun S39 r39 => ?_) (hdp := by omega)
          refine go_aload_n 43 dX6_statement_42 rfl ?_
          refine gd_get 46 dX6_statement_43 fX6_20 rfl ?_
          refine go_iconst 47 dX6_statement_46 zc_1 ?_
          refine go_aload_n 48 dX6_statement_47 rfl ?_
          refine go_iconst 49 dX6_statement_48 zc_1 ?_
          refine go_bipush 51 dX6_statement_49 zb_99 ?_
          refine gdX2 54 dX6_statement_51 vX6_120 (cn_num (lo := 1) (hi := 99) (by decide) (by decide) hT r39 e1) (fun S51 r51 => ?_) (hdp := by omega)
          refine gd_iastx (x := 3) (a := 2) 55 (1) dX6_statement_54 rfl (by decide) rfl (by decide) (by decide) ?_
          refine go_aload_n 56 dX6_statement_55 rfl ?_
          refine gd_get 59 dX6_statement_56 fX6_20 rfl ?_
          refine go_iconst 60 dX6_statement_59 zc_2 ?_
          refine go_aload_n 61 dX6_statement_60 rfl ?_
          refine go_iconst 62 dX6_statement_61 zc_1 ?_
          refine go_bipush 64 dX6_statement_62 zb_99 ?_
          refine gdX2 67 dX6_statement_64 vX6_120 (cn_num (lo := 1) (hi := 99) (by decide) (by decide) hT (r51.set (i := 1) (v := nI v1.2) (by decide) (by decide)) e2) (fun S64 r64 => ?_) (hdp := by omega)
          refine gd_iastx (x := 3) (a := 2) 68 (2) dX6_statement_67 rfl (by decide) rfl (by decide) (by decide) ?_
          refine go_goto 139 dX6_statement_68 ?_
          refine go_locals [(0, .ref o)] rfl ?_
          exact cx_stm_tail hT (by omega) (r := .inr (v2.1, upd (upd G 1 (nI v1.2)) 2 (nI v2.2), (true, (b, c)), cs)) (show RPs B n S0 _ _ _ _ 0 _ from r64.set (i := 2) (v := nI v2.2) (by decide) (by decide))
      · exact absurd h16 (by decide)

set_option maxRecDepth 100000 in
set_option maxHeartbeats 4000000 in
theorem cx_stm_wait_n {l : Launch} {Γ : ZG} {w : ZW} {o : Nat} {D : ZD} {B : ZB} {n : Nat} {S0 S : MS} (hT : TB B n) {q : Nat} {G : ZD} {b c : Bool} {cs : List Int32} (h : RPs B n S0 S q G (encs cs) 0 (snN (true, b, c)))  (w0 : ¬ wd B "party" q) (w1 : wd B "wait" q) : Ct l Γ mX6_statement 23 0 0 [.ref o] (wD Γ w o S D) (Pv Γ w o D none (fun S' => RQr B n S0 S' (stq B (stm B (q, G, (true, b, c), cs))))) zNo := by
  refine Ct.of (by decide) rfl (Nat.le_of_ble_eq_true rfl) ?_
  rw [stm_else w0 (fun z => absurd z.2 (by decide)) (fun z => wd_two w1 z.1 (by decide +kernel) (by decide +kernel) (by decide +kernel)) (fun z => wd_two w1 z.1 (by decide +kernel) (by decide +kernel) (by decide +kernel))]
  refine go_aload_n 1 dX6_statement_0 rfl ?_
  refine gdX0 4 dX6_statement_1 vX6_69 (cn_next hT h) (fun S1 r1 => ?_) (hdp := by omega)
  refine go_pop 5 dX6_statement_4 rfl ?_
  refine go_aload_n 6 dX6_statement_5 rfl ?_
  refine gd_get 9 dX6_statement_6 fX6_48 rfl ?_
  rw [r1.2.1]
  refine go_istore_n 10 dX6_statement_9 (by decide) ?_
  refine go_aload_n 11 dX6_statement_10 rfl ?_
  refine go_ldcS 13 dX6_statement_11 sX6_135 ?_
  refine gdX1 16 dX6_statement_13 vX6_110 (cn_word_n (t := (RX6, 135, "party")) sX6_135 hT r1.1 w0) (fun S13 r13 => ?_) (hdp := by omega)
  refine go_if_eq 27 19 dX6_statement_16 (fun h16 => ?_) (fun h16 => ?_)
  · refine go_aload_n 28 dX6_statement_27 rfl ?_
    refine go_ldcS 30 dX6_statement_28 sX6_140 ?_
    refine gdX1 33 dX6_statement_30 vX6_110 (cn_word_y (t := (RX6, 140, "wait")) sX6_140 hT r13.1 w1 (wd_end hT w1 (by decide +kernel) (by decide +kernel))) (fun S30 r30 => ?_) (hdp := by omega)
    refine go_if_eq 71 36 dX6_statement_33 (fun h33 => ?_) (fun h33 => ?_)
    · exact absurd h33 (by decide)
    · refine go_aload_n 37 dX6_statement_36 rfl ?_
      refine go_iconst 38 dX6_statement_37 zc_0 ?_
      refine go_iload_n 39 dX6_statement_38 rfl ?_
      refine gdX2v 42 dX6_statement_39 vX6_142 (cn_once_n0 r30) (fun S39 r39 => ?_) (hdp := by omega)
      refine go_aload_n 43 dX6_statement_42 rfl ?_
      refine gd_get 46 dX6_statement_43 fX6_20 rfl ?_
      refine go_iconst 47 dX6_statement_46 zc_1 ?_
      refine go_aload_n 48 dX6_statement_47 rfl ?_
      refine go_iconst 49 dX6_statement_48 zc_1 ?_
      refine go_bipush 51 dX6_statement_49 zb_99 ?_
      refine gdV2 54 dX6_statement_51 vX6_120 (ct_X6_number_b r39.no) ?_ (hdp := by omega)
      refine gd_iastx (x := 3) (a := 2) 55 (1) dX6_statement_54 rfl (by decide) rfl (by decide) (by decide) ?_
      refine go_aload_n 56 dX6_statement_55 rfl ?_
      refine gd_get 59 dX6_statement_56 fX6_20 rfl ?_
      refine go_iconst 60 dX6_statement_59 zc_2 ?_
      refine go_aload_n 61 dX6_statement_60 rfl ?_
      refine go_iconst 62 dX6_statement_61 zc_1 ?_
      refine go_bipush 64 dX6_statement_62 zb_99 ?_
      refine gdV2 67 dX6_statement_64 vX6_120 (ct_X6_number_b (r39.m2).no) ?_ (hdp := by omega)
      refine gd_iastx (x := 3) (a := 2) 68 (2) dX6_statement_67 rfl (by decide) rfl (by decide) (by decide) ?_
      refine go_goto 139 dX6_statement_68 ?_
      refine go_locals [(0, .ref o)] rfl ?_
      exact cx_stm_tail hT (by omega) (r := .inl (-2, q)) (show RPe S0 _ (-2, q) from (r39.m2).m2)
  · exact absurd h16 (by decide)

set_option maxRecDepth 100000 in
set_option maxHeartbeats 4000000 in
theorem cx_stm_pat_y {l : Launch} {Γ : ZG} {w : ZW} {o : Nat} {D : ZD} {B : ZB} {n : Nat} {S0 S : MS} (hT : TB B n) {q : Nat} {G : ZD} {a c : Bool} {cs : List Int32} (h : RPs B n S0 S q G (encs cs) 0 (snN (a, false, c)))  (w0 : ¬ wd B "party" q) (w1 : ¬ wd B "wait" q) (w2 : wd B "patience" q) : Ct l Γ mX6_statement 23 0 0 [.ref o] (wD Γ w o S D) (Pv Γ w o D none (fun S' => RQr B n S0 S' (stq B (stm B (q, G, (a, false, c), cs))))) zNo := by
  refine Ct.of (by decide) rfl (Nat.le_of_ble_eq_true rfl) ?_
  rw [stm_pat w0 w1 w2]
  cases e1 : num B 1 99 (sp B (q + 8)) with
  | inl e =>
    refine go_aload_n 1 dX6_statement_0 rfl ?_
    refine gdX0 4 dX6_statement_1 vX6_69 (cn_next hT h) (fun S1 r1 => ?_) (hdp := by omega)
    refine go_pop 5 dX6_statement_4 rfl ?_
    refine go_aload_n 6 dX6_statement_5 rfl ?_
    refine gd_get 9 dX6_statement_6 fX6_48 rfl ?_
    rw [r1.2.1]
    refine go_istore_n 10 dX6_statement_9 (by decide) ?_
    refine go_aload_n 11 dX6_statement_10 rfl ?_
    refine go_ldcS 13 dX6_statement_11 sX6_135 ?_
    refine gdX1 16 dX6_statement_13 vX6_110 (cn_word_n (t := (RX6, 135, "party")) sX6_135 hT r1.1 w0) (fun S13 r13 => ?_) (hdp := by omega)
    refine go_if_eq 27 19 dX6_statement_16 (fun h16 => ?_) (fun h16 => ?_)
    · refine go_aload_n 28 dX6_statement_27 rfl ?_
      refine go_ldcS 30 dX6_statement_28 sX6_140 ?_
      refine gdX1 33 dX6_statement_30 vX6_110 (cn_word_n (t := (RX6, 140, "wait")) sX6_140 hT r13.1 w1) (fun S30 r30 => ?_) (hdp := by omega)
      refine go_if_eq 71 36 dX6_statement_33 (fun h33 => ?_) (fun h33 => ?_)
      · refine go_aload_n 72 dX6_statement_71 rfl ?_
        refine go_ldcS 74 dX6_statement_72 sX6_145 ?_
        refine gdX1 77 dX6_statement_74 vX6_110 (cn_word_y (t := (RX6, 145, "patience")) sX6_145 hT r30.1 w2 (wd_end hT w2 (by decide +kernel) (by decide +kernel))) (fun S74 r74 => ?_) (hdp := by omega)
        refine go_if_eq 102 80 dX6_statement_77 (fun h77 => ?_) (fun h77 => ?_)
        · exact absurd h77 (by decide)
        · refine go_aload_n 81 dX6_statement_80 rfl ?_
          refine go_iconst 82 dX6_statement_81 zc_1 ?_
          refine go_iload_n 83 dX6_statement_82 rfl ?_
          refine gdX2v 86 dX6_statement_83 vX6_142 (cn_once_y1 r74) (fun S83 r83 => ?_) (hdp := by omega)
          refine go_aload_n 87 dX6_statement_86 rfl ?_
          refine gd_get 90 dX6_statement_87 fX6_20 rfl ?_
          refine go_iconst 91 dX6_statement_90 zc_3 ?_
          refine go_aload_n 92 dX6_statement_91 rfl ?_
          refine go_iconst 93 dX6_statement_92 zc_1 ?_
          refine go_bipush 95 dX6_statement_93 zb_99 ?_
          refine gdX2 98 dX6_statement_95 vX6_120 (cn_nume (lo := 1) (hi := 99) (by decide) (by decide) hT r83 e1) (fun S95 r95 => ?_) (hdp := by omega)
          refine gd_iastx (x := 3) (a := 2) 99 (3) dX6_statement_98 rfl (by decide) rfl (by decide) (by decide) ?_
          refine go_goto 139 dX6_statement_99 ?_
          refine go_locals [(0, .ref o)] rfl ?_
          exact cx_stm_tail hT (by omega) (r := .inl e) (show RPe S0 _ e from r95.m2)
      · exact absurd h33 (by decide)
    · exact absurd h16 (by decide)
  | inr v1 =>
    refine go_aload_n 1 dX6_statement_0 rfl ?_
    refine gdX0 4 dX6_statement_1 vX6_69 (cn_next hT h) (fun S1 r1 => ?_) (hdp := by omega)
    refine go_pop 5 dX6_statement_4 rfl ?_
    refine go_aload_n 6 dX6_statement_5 rfl ?_
    refine gd_get 9 dX6_statement_6 fX6_48 rfl ?_
    rw [r1.2.1]
    refine go_istore_n 10 dX6_statement_9 (by decide) ?_
    refine go_aload_n 11 dX6_statement_10 rfl ?_
    refine go_ldcS 13 dX6_statement_11 sX6_135 ?_
    refine gdX1 16 dX6_statement_13 vX6_110 (cn_word_n (t := (RX6, 135, "party")) sX6_135 hT r1.1 w0) (fun S13 r13 => ?_) (hdp := by omega)
    refine go_if_eq 27 19 dX6_statement_16 (fun h16 => ?_) (fun h16 => ?_)
    · refine go_aload_n 28 dX6_statement_27 rfl ?_
      refine go_ldcS 30 dX6_statement_28 sX6_140 ?_
      refine gdX1 33 dX6_statement_30 vX6_110 (cn_word_n (t := (RX6, 140, "wait")) sX6_140 hT r13.1 w1) (fun S30 r30 => ?_) (hdp := by omega)
      refine go_if_eq 71 36 dX6_statement_33 (fun h33 => ?_) (fun h33 => ?_)
      · refine go_aload_n 72 dX6_statement_71 rfl ?_
        refine go_ldcS 74 dX6_statement_72 sX6_145 ?_
        refine gdX1 77 dX6_statement_74 vX6_110 (cn_word_y (t := (RX6, 145, "patience")) sX6_145 hT r30.1 w2 (wd_end hT w2 (by decide +kernel) (by decide +kernel))) (fun S74 r74 => ?_) (hdp := by omega)
        refine go_if_eq 102 80 dX6_statement_77 (fun h77 => ?_) (fun h77 => ?_)
        · exact absurd h77 (by decide)
        · refine go_aload_n 81 dX6_statement_80 rfl ?_
          refine go_iconst 82 dX6_statement_81 zc_1 ?_
          refine go_iload_n 83 dX6_statement_82 rfl ?_
          refine gdX2v 86 dX6_statement_83 vX6_142 (cn_once_y1 r74) (fun S83 r83 => ?_) (hdp := by omega)
          refine go_aload_n 87 dX6_statement_86 rfl ?_
          refine gd_get 90 dX6_statement_87 fX6_20 rfl ?_
          refine go_iconst 91 dX6_statement_90 zc_3 ?_
          refine go_aload_n 92 dX6_statement_91 rfl ?_
          refine go_iconst 93 dX6_statement_92 zc_1 ?_
          refine go_bipush 95 dX6_statement_93 zb_99 ?_
          refine gdX2 98 dX6_statement_95 vX6_120 (cn_num (lo := 1) (hi := 99) (by decide) (by decide) hT r83 e1) (fun S95 r95 => ?_) (hdp := by omega)
          refine gd_iastx (x := 3) (a := 2) 99 (3) dX6_statement_98 rfl (by decide) rfl (by decide) (by decide) ?_
          refine go_goto 139 dX6_statement_99 ?_
          refine go_locals [(0, .ref o)] rfl ?_
          exact cx_stm_tail hT (by omega) (r := .inr (v1.1, upd G 3 (nI v1.2), (a, true, c), cs)) (show RPs B n S0 _ _ _ _ 0 _ from r95.set (i := 3) (v := nI v1.2) (by decide) (by decide))
      · exact absurd h33 (by decide)
    · exact absurd h16 (by decide)

set_option maxRecDepth 100000 in
set_option maxHeartbeats 4000000 in
theorem cx_stm_pat_n {l : Launch} {Γ : ZG} {w : ZW} {o : Nat} {D : ZD} {B : ZB} {n : Nat} {S0 S : MS} (hT : TB B n) {q : Nat} {G : ZD} {a c : Bool} {cs : List Int32} (h : RPs B n S0 S q G (encs cs) 0 (snN (a, true, c)))  (w0 : ¬ wd B "party" q) (w1 : ¬ wd B "wait" q) (w2 : wd B "patience" q) : Ct l Γ mX6_statement 23 0 0 [.ref o] (wD Γ w o S D) (Pv Γ w o D none (fun S' => RQr B n S0 S' (stq B (stm B (q, G, (a, true, c), cs))))) zNo := by
  refine Ct.of (by decide) rfl (Nat.le_of_ble_eq_true rfl) ?_
  rw [stm_else w0 (fun z => w1 z.1) (fun z => absurd z.2 (by decide)) (fun z => wd_two w2 z.1 (by decide +kernel) (by decide +kernel) (by decide +kernel))]
  refine go_aload_n 1 dX6_statement_0 rfl ?_
  refine gdX0 4 dX6_statement_1 vX6_69 (cn_next hT h) (fun S1 r1 => ?_) (hdp := by omega)
  refine go_pop 5 dX6_statement_4 rfl ?_
  refine go_aload_n 6 dX6_statement_5 rfl ?_
  refine gd_get 9 dX6_statement_6 fX6_48 rfl ?_
  rw [r1.2.1]
  refine go_istore_n 10 dX6_statement_9 (by decide) ?_
  refine go_aload_n 11 dX6_statement_10 rfl ?_
  refine go_ldcS 13 dX6_statement_11 sX6_135 ?_
  refine gdX1 16 dX6_statement_13 vX6_110 (cn_word_n (t := (RX6, 135, "party")) sX6_135 hT r1.1 w0) (fun S13 r13 => ?_) (hdp := by omega)
  refine go_if_eq 27 19 dX6_statement_16 (fun h16 => ?_) (fun h16 => ?_)
  · refine go_aload_n 28 dX6_statement_27 rfl ?_
    refine go_ldcS 30 dX6_statement_28 sX6_140 ?_
    refine gdX1 33 dX6_statement_30 vX6_110 (cn_word_n (t := (RX6, 140, "wait")) sX6_140 hT r13.1 w1) (fun S30 r30 => ?_) (hdp := by omega)
    refine go_if_eq 71 36 dX6_statement_33 (fun h33 => ?_) (fun h33 => ?_)
    · refine go_aload_n 72 dX6_statement_71 rfl ?_
      refine go_ldcS 74 dX6_statement_72 sX6_145 ?_
      refine gdX1 77 dX6_statement_74 vX6_110 (cn_word_y (t := (RX6, 145, "patience")) sX6_145 hT r30.1 w2 (wd_end hT w2 (by decide +kernel) (by decide +kernel))) (fun S74 r74 => ?_) (hdp := by omega)
      refine go_if_eq 102 80 dX6_statement_77 (fun h77 => ?_) (fun h77 => ?_)
      · exact absurd h77 (by decide)
      · refine go_aload_n 81 dX6_statement_80 rfl ?_
        refine go_iconst 82 dX6_statement_81 zc_1 ?_
        refine go_iload_n 83 dX6_statement_82 rfl ?_
        refine gdX2v 86 dX6_statement_83 vX6_142 (cn_once_n1 r74) (fun S83 r83 => ?_) (hdp := by omega)
        refine go_aload_n 87 dX6_statement_86 rfl ?_
        refine gd_get 90 dX6_statement_87 fX6_20 rfl ?_
        refine go_iconst 91 dX6_statement_90 zc_3 ?_
        refine go_aload_n 92 dX6_statement_91 rfl ?_
        refine go_iconst 93 dX6_statement_92 zc_1 ?_
        refine go_bipush 95 dX6_statement_93 zb_99 ?_
        refine gdV2 98 dX6_statement_95 vX6_120 (ct_X6_number_b r83.no) ?_ (hdp := by omega)
        refine gd_iastx (x := 3) (a := 2) 99 (3) dX6_statement_98 rfl (by decide) rfl (by decide) (by decide) ?_
        refine go_goto 139 dX6_statement_99 ?_
        refine go_locals [(0, .ref o)] rfl ?_
        exact cx_stm_tail hT (by omega) (r := .inl (-2, q)) (show RPe S0 _ (-2, q) from r83.m2)
    · exact absurd h33 (by decide)
  · exact absurd h16 (by decide)

set_option maxRecDepth 100000 in
set_option maxHeartbeats 4000000 in
theorem cx_stm_ring_y {l : Launch} {Γ : ZG} {w : ZW} {o : Nat} {D : ZD} {B : ZB} {n : Nat} {S0 S : MS} (hT : TB B n) {q : Nat} {G : ZD} {a b : Bool} {cs : List Int32} (h : RPs B n S0 S q G (encs cs) 0 (snN (a, b, false))) (hcs : cs = []) (w0 : ¬ wd B "party" q) (w1 : ¬ wd B "wait" q) (w2 : ¬ wd B "patience" q) (w3 : wd B "ring" q) : Ct l Γ mX6_statement 23 0 0 [.ref o] (wD Γ w o S D) (Pv Γ w o D none (fun S' => RQr B n S0 S' (stq B (stm B (q, G, (a, b, false), cs))))) zNo := by
  refine Ct.of (by decide) rfl (Nat.le_of_ble_eq_true rfl) ?_
  rw [stm_ring w0 w1 w2 w3]
  refine go_aload_n 1 dX6_statement_0 rfl ?_
  refine gdX0 4 dX6_statement_1 vX6_69 (cn_next hT h) (fun S1 r1 => ?_) (hdp := by omega)
  refine go_pop 5 dX6_statement_4 rfl ?_
  refine go_aload_n 6 dX6_statement_5 rfl ?_
  refine gd_get 9 dX6_statement_6 fX6_48 rfl ?_
  rw [r1.2.1]
  refine go_istore_n 10 dX6_statement_9 (by decide) ?_
  refine go_aload_n 11 dX6_statement_10 rfl ?_
  refine go_ldcS 13 dX6_statement_11 sX6_135 ?_
  refine gdX1 16 dX6_statement_13 vX6_110 (cn_word_n (t := (RX6, 135, "party")) sX6_135 hT r1.1 w0) (fun S13 r13 => ?_) (hdp := by omega)
  refine go_if_eq 27 19 dX6_statement_16 (fun h16 => ?_) (fun h16 => ?_)
  · refine go_aload_n 28 dX6_statement_27 rfl ?_
    refine go_ldcS 30 dX6_statement_28 sX6_140 ?_
    refine gdX1 33 dX6_statement_30 vX6_110 (cn_word_n (t := (RX6, 140, "wait")) sX6_140 hT r13.1 w1) (fun S30 r30 => ?_) (hdp := by omega)
    refine go_if_eq 71 36 dX6_statement_33 (fun h33 => ?_) (fun h33 => ?_)
    · refine go_aload_n 72 dX6_statement_71 rfl ?_
      refine go_ldcS 74 dX6_statement_72 sX6_145 ?_
      refine gdX1 77 dX6_statement_74 vX6_110 (cn_word_n (t := (RX6, 145, "patience")) sX6_145 hT r30.1 w2) (fun S74 r74 => ?_) (hdp := by omega)
      refine go_if_eq 102 80 dX6_statement_77 (fun h77 => ?_) (fun h77 => ?_)
      · refine go_aload_n 103 dX6_statement_102 rfl ?_
        refine go_ldcS 105 dX6_statement_103 sX6_147 ?_
        refine gdX1 108 dX6_statement_105 vX6_110 (cn_word_y (t := (RX6, 147, "ring")) sX6_147 hT r74.1 w3 (wd_end hT w3 (by decide +kernel) (by decide +kernel))) (fun S105 r105 => ?_) (hdp := by omega)
        refine go_if_eq 132 111 dX6_statement_108 (fun h108 => ?_) (fun h108 => ?_)
        · exact absurd h108 (by decide)
        · refine go_aload_n 112 dX6_statement_111 rfl ?_
          refine go_iconst 113 dX6_statement_112 zc_2 ?_
          refine go_iload_n 114 dX6_statement_113 rfl ?_
          refine gdX2v 117 dX6_statement_114 vX6_142 (cn_once_y2 r105) (fun S114 r114 => ?_) (hdp := by omega)
          refine go_aload_n 118 dX6_statement_117 rfl ?_
          refine gd_get 121 dX6_statement_118 fX6_20 rfl ?_
          refine go_bipush 123 dX6_statement_121 zb_7 ?_
          refine go_iconst 124 dX6_statement_123 zc_1 ?_
          refine gd_iastx (x := 3) (a := 2) 125 (7) dX6_statement_124 rfl (by decide) rfl (by decide) (by decide) ?_
          refine go_aload_n 126 dX6_statement_125 rfl ?_
          refine gdX0v 129 dX6_statement_126 vX6_101 (cx_sum (cs := cs) hT (r114.set (i := 7) (v := 1) (by decide) (by decide)) (by rw [hcs]; show 2 * 0 ≤ _; omega)) (fun S126 r126 => ?_) (hdp := by omega)
          refine go_goto 139 dX6_statement_129 ?_
          refine go_locals [(0, .ref o)] rfl ?_
          refine cx_stm_tail hT (by omega) ?_
          cases hsm : smm B (fac B 4) (sp B (q + 4), cs) with
          | inl e =>
            have r126 : RXr B n S0 S126 (upd G 7 1) 0 (snN (a, b, true)) (smm B (fac B 4) (sp B (q + 4), cs)) := r126
            rw [hsm] at r126
            exact r126
          | inr x =>
            have r126 : RXr B n S0 S126 (upd G 7 1) 0 (snN (a, b, true)) (smm B (fac B 4) (sp B (q + 4), cs)) := r126
            rw [hsm] at r126
            exact r126
      · exact absurd h77 (by decide)
    · exact absurd h33 (by decide)
  · exact absurd h16 (by decide)

set_option maxRecDepth 100000 in
set_option maxHeartbeats 4000000 in
theorem cx_stm_ring_n {l : Launch} {Γ : ZG} {w : ZW} {o : Nat} {D : ZD} {B : ZB} {n : Nat} {S0 S : MS} (hT : TB B n) {q : Nat} {G : ZD} {a b : Bool} {cs : List Int32} (h : RPs B n S0 S q G (encs cs) 0 (snN (a, b, true)))  (w0 : ¬ wd B "party" q) (w1 : ¬ wd B "wait" q) (w2 : ¬ wd B "patience" q) (w3 : wd B "ring" q) : Ct l Γ mX6_statement 23 0 0 [.ref o] (wD Γ w o S D) (Pv Γ w o D none (fun S' => RQr B n S0 S' (stq B (stm B (q, G, (a, b, true), cs))))) zNo := by
  refine Ct.of (by decide) rfl (Nat.le_of_ble_eq_true rfl) ?_
  rw [stm_else w0 (fun z => w1 z.1) (fun z => w2 z.1) (fun z => absurd z.2 (by decide))]
  refine go_aload_n 1 dX6_statement_0 rfl ?_
  refine gdX0 4 dX6_statement_1 vX6_69 (cn_next hT h) (fun S1 r1 => ?_) (hdp := by omega)
  refine go_pop 5 dX6_statement_4 rfl ?_
  refine go_aload_n 6 dX6_statement_5 rfl ?_
  refine gd_get 9 dX6_statement_6 fX6_48 rfl ?_
  rw [r1.2.1]
  refine go_istore_n 10 dX6_statement_9 (by decide) ?_
  refine go_aload_n 11 dX6_statement_10 rfl ?_
  refine go_ldcS 13 dX6_statement_11 sX6_135 ?_
  refine gdX1 16 dX6_statement_13 vX6_110 (cn_word_n (t := (RX6, 135, "party")) sX6_135 hT r1.1 w0) (fun S13 r13 => ?_) (hdp := by omega)
  refine go_if_eq 27 19 dX6_statement_16 (fun h16 => ?_) (fun h16 => ?_)
  · refine go_aload_n 28 dX6_statement_27 rfl ?_
    refine go_ldcS 30 dX6_statement_28 sX6_140 ?_
    refine gdX1 33 dX6_statement_30 vX6_110 (cn_word_n (t := (RX6, 140, "wait")) sX6_140 hT r13.1 w1) (fun S30 r30 => ?_) (hdp := by omega)
    refine go_if_eq 71 36 dX6_statement_33 (fun h33 => ?_) (fun h33 => ?_)
    · refine go_aload_n 72 dX6_statement_71 rfl ?_
      refine go_ldcS 74 dX6_statement_72 sX6_145 ?_
      refine gdX1 77 dX6_statement_74 vX6_110 (cn_word_n (t := (RX6, 145, "patience")) sX6_145 hT r30.1 w2) (fun S74 r74 => ?_) (hdp := by omega)
      refine go_if_eq 102 80 dX6_statement_77 (fun h77 => ?_) (fun h77 => ?_)
      · refine go_aload_n 103 dX6_statement_102 rfl ?_
        refine go_ldcS 105 dX6_statement_103 sX6_147 ?_
        refine gdX1 108 dX6_statement_105 vX6_110 (cn_word_y (t := (RX6, 147, "ring")) sX6_147 hT r74.1 w3 (wd_end hT w3 (by decide +kernel) (by decide +kernel))) (fun S105 r105 => ?_) (hdp := by omega)
        refine go_if_eq 132 111 dX6_statement_108 (fun h108 => ?_) (fun h108 => ?_)
        · exact absurd h108 (by decide)
        · refine go_aload_n 112 dX6_statement_111 rfl ?_
          refine go_iconst 113 dX6_statement_112 zc_2 ?_
          refine go_iload_n 114 dX6_statement_113 rfl ?_
          refine gdX2v 117 dX6_statement_114 vX6_142 (cn_once_n2 r105) (fun S114 r114 => ?_) (hdp := by omega)
          refine go_aload_n 118 dX6_statement_117 rfl ?_
          refine gd_get 121 dX6_statement_118 fX6_20 rfl ?_
          refine go_bipush 123 dX6_statement_121 zb_7 ?_
          refine go_iconst 124 dX6_statement_123 zc_1 ?_
          refine gd_iastx (x := 3) (a := 2) 125 (7) dX6_statement_124 rfl (by decide) rfl (by decide) (by decide) ?_
          refine go_aload_n 126 dX6_statement_125 rfl ?_
          refine gdV0v 129 dX6_statement_126 vX6_101 (ct_X6_sum_b r114.m2.no) ?_ (hdp := by omega)
          refine go_goto 139 dX6_statement_129 ?_
          refine go_locals [(0, .ref o)] rfl ?_
          exact cx_stm_tail hT (by omega) (r := .inl (-2, q)) (show RPe S0 _ (-2, q) from r114.m2)
      · exact absurd h77 (by decide)
    · exact absurd h33 (by decide)
  · exact absurd h16 (by decide)

set_option maxRecDepth 100000 in
set_option maxHeartbeats 4000000 in
theorem cx_stm_else {l : Launch} {Γ : ZG} {w : ZW} {o : Nat} {D : ZD} {B : ZB} {n : Nat} {S0 S : MS} (hT : TB B n) {q : Nat} {G : ZD} {a b c : Bool} {cs : List Int32} (h : RPs B n S0 S q G (encs cs) 0 (snN (a, b, c)))  (w0 : ¬ wd B "party" q) (w1 : ¬ wd B "wait" q) (w2 : ¬ wd B "patience" q) (w3 : ¬ wd B "ring" q) : Ct l Γ mX6_statement 23 0 0 [.ref o] (wD Γ w o S D) (Pv Γ w o D none (fun S' => RQr B n S0 S' (stq B (stm B (q, G, (a, b, c), cs))))) zNo := by
  refine Ct.of (by decide) rfl (Nat.le_of_ble_eq_true rfl) ?_
  rw [stm_else w0 (fun z => w1 z.1) (fun z => w2 z.1) (fun z => w3 z.1)]
  refine go_aload_n 1 dX6_statement_0 rfl ?_
  refine gdX0 4 dX6_statement_1 vX6_69 (cn_next hT h) (fun S1 r1 => ?_) (hdp := by omega)
  refine go_pop 5 dX6_statement_4 rfl ?_
  refine go_aload_n 6 dX6_statement_5 rfl ?_
  refine gd_get 9 dX6_statement_6 fX6_48 rfl ?_
  rw [r1.2.1]
  refine go_istore_n 10 dX6_statement_9 (by decide) ?_
  refine go_aload_n 11 dX6_statement_10 rfl ?_
  refine go_ldcS 13 dX6_statement_11 sX6_135 ?_
  refine gdX1 16 dX6_statement_13 vX6_110 (cn_word_n (t := (RX6, 135, "party")) sX6_135 hT r1.1 w0) (fun S13 r13 => ?_) (hdp := by omega)
  refine go_if_eq 27 19 dX6_statement_16 (fun h16 => ?_) (fun h16 => ?_)
  · refine go_aload_n 28 dX6_statement_27 rfl ?_
    refine go_ldcS 30 dX6_statement_28 sX6_140 ?_
    refine gdX1 33 dX6_statement_30 vX6_110 (cn_word_n (t := (RX6, 140, "wait")) sX6_140 hT r13.1 w1) (fun S30 r30 => ?_) (hdp := by omega)
    refine go_if_eq 71 36 dX6_statement_33 (fun h33 => ?_) (fun h33 => ?_)
    · refine go_aload_n 72 dX6_statement_71 rfl ?_
      refine go_ldcS 74 dX6_statement_72 sX6_145 ?_
      refine gdX1 77 dX6_statement_74 vX6_110 (cn_word_n (t := (RX6, 145, "patience")) sX6_145 hT r30.1 w2) (fun S74 r74 => ?_) (hdp := by omega)
      refine go_if_eq 102 80 dX6_statement_77 (fun h77 => ?_) (fun h77 => ?_)
      · refine go_aload_n 103 dX6_statement_102 rfl ?_
        refine go_ldcS 105 dX6_statement_103 sX6_147 ?_
        refine gdX1 108 dX6_statement_105 vX6_110 (cn_word_n (t := (RX6, 147, "ring")) sX6_147 hT r74.1 w3) (fun S105 r105 => ?_) (hdp := by omega)
        refine go_if_eq 132 111 dX6_statement_108 (fun h108 => ?_) (fun h108 => ?_)
        · refine go_aload_n 133 dX6_statement_132 rfl ?_
          refine go_bipush 135 dX6_statement_133 zb_m2 ?_
          refine go_iload_n 136 dX6_statement_135 rfl ?_
          refine gdV2v 139 dX6_statement_136 vX6_82 (ct_X6_report_n r105.1.2.1) ?_ (hdp := by omega)
          refine go_locals [(0, .ref o)] rfl ?_
          exact cx_stm_tail hT (by omega) (r := .inl (-2, q)) (show RPe S0 _ (-2, q) from r105.1.rep (by decide))
        · exact absurd h108 (by decide)
      · exact absurd h77 (by decide)
    · exact absurd h33 (by decide)
  · exact absurd h16 (by decide)

theorem cx_statement {l : Launch} {Γ : ZG} {w : ZW} {o : Nat} {D : ZD} {B : ZB} {n : Nat} {S0 S : MS} (hT : TB B n) {q : Nat} {G : ZD} {a b c : Bool} {cs : List Int32} (h : RPs B n S0 S q G (encs cs) 0 (snN (a, b, c))) (hP : G 4 = nI (nP G)) (hP10 : nP G ≤ 10) (hcs : c = false → cs = []) : Ct l Γ mX6_statement 23 0 0 [.ref o] (wD Γ w o S D) (Pv Γ w o D none (fun S' => RQr B n S0 S' (stq B (stm B (q, G, (a, b, c), cs))))) zNo := by
  by_cases w0 : wd B "party" q
  · exact cx_stm_party hT h hP hP10 w0
  by_cases w1 : wd B "wait" q
  · cases a with
    | false => exact cx_stm_wait_y hT h w0 w1
    | true => exact cx_stm_wait_n hT h w0 w1
  by_cases w2 : wd B "patience" q
  · cases b with
    | false => exact cx_stm_pat_y hT h w0 w1 w2
    | true => exact cx_stm_pat_n hT h w0 w1 w2
  by_cases w3 : wd B "ring" q
  · cases c with
    | false => exact cx_stm_ring_y hT h (hcs rfl) w0 w1 w2 w3
    | true => exact cx_stm_ring_n hT h w0 w1 w2 w3
  exact cx_stm_else hT h w0 w1 w2 w3
end MLd
