section LTell

set_option maxRecDepth 100000 in
set_option maxHeartbeats 4000000 in
theorem cl_tellParty_0 {l : Launch} {Γ : ZG} {w : ZW} {T : LT} {m : Nat} {sg : ZSg} {A V : LA} {tm : Option Nat} {e : Nat} {D : ZD} (h : LX Γ w T m sg A V tm e D) (hI : Ix D) (hs : SegD sg D) {k : Nat} (hk : k < nP D) : Cm l Γ mX6_tellParty 4 [.ref e, .int (nI k), .int 0] w (some (.int (dP D k 0))) w := by
  have h40 := hI.2.2.1.2
  refine Cm.of (by decide) rfl (Nat.le_of_ble_eq_true rfl) ?_
  refine go_iload_n 1 dX6_tellParty_0 rfl ?_
  refine go_iconst 2 dX6_tellParty_1 zc_3 ?_
  refine go_icmp_ge 16 5 dX6_tellParty_2 (fun h2 => ?_) (fun h2 => ?_)
  · exact absurd h2 (by decide)
  · refine go_aload_n 6 dX6_tellParty_5 rfl ?_
    refine gl_x h 9 dX6_tellParty_6 fX6_21 rfl ?_
    refine go_iload_n 10 dX6_tellParty_9 rfl ?_
    refine gl_pa h hI rfl hk 11 dX6_tellParty_10 ?_
    refine go_iload_n 12 dX6_tellParty_11 rfl ?_
    refine gl_pi h hk rfl (by decide) 13 dX6_tellParty_12 ?_
    refine go_goto 73 dX6_tellParty_13 ?_
    exact go_ireturn dX6_tellParty_73 rfl (by omega) (by omega) (⟨rfl, rfl⟩)

set_option maxRecDepth 100000 in
set_option maxHeartbeats 4000000 in
theorem cl_tellParty_1 {l : Launch} {Γ : ZG} {w : ZW} {T : LT} {m : Nat} {sg : ZSg} {A V : LA} {tm : Option Nat} {e : Nat} {D : ZD} (h : LX Γ w T m sg A V tm e D) (hI : Ix D) (hs : SegD sg D) {k : Nat} (hk : k < nP D) : Cm l Γ mX6_tellParty 4 [.ref e, .int (nI k), .int 1] w (some (.int (dP D k 1))) w := by
  have h40 := hI.2.2.1.2
  refine Cm.of (by decide) rfl (Nat.le_of_ble_eq_true rfl) ?_
  refine go_iload_n 1 dX6_tellParty_0 rfl ?_
  refine go_iconst 2 dX6_tellParty_1 zc_3 ?_
  refine go_icmp_ge 16 5 dX6_tellParty_2 (fun h2 => ?_) (fun h2 => ?_)
  · exact absurd h2 (by decide)
  · refine go_aload_n 6 dX6_tellParty_5 rfl ?_
    refine gl_x h 9 dX6_tellParty_6 fX6_21 rfl ?_
    refine go_iload_n 10 dX6_tellParty_9 rfl ?_
    refine gl_pa h hI rfl hk 11 dX6_tellParty_10 ?_
    refine go_iload_n 12 dX6_tellParty_11 rfl ?_
    refine gl_pi h hk rfl (by decide) 13 dX6_tellParty_12 ?_
    refine go_goto 73 dX6_tellParty_13 ?_
    exact go_ireturn dX6_tellParty_73 rfl (by omega) (by omega) (⟨rfl, rfl⟩)

set_option maxRecDepth 100000 in
set_option maxHeartbeats 4000000 in
theorem cl_tellParty_2 {l : Launch} {Γ : ZG} {w : ZW} {T : LT} {m : Nat} {sg : ZSg} {A V : LA} {tm : Option Nat} {e : Nat} {D : ZD} (h : LX Γ w T m sg A V tm e D) (hI : Ix D) (hs : SegD sg D) {k : Nat} (hk : k < nP D) : Cm l Γ mX6_tellParty 4 [.ref e, .int (nI k), .int 2] w (some (.int (dP D k 2))) w := by
  have h40 := hI.2.2.1.2
  refine Cm.of (by decide) rfl (Nat.le_of_ble_eq_true rfl) ?_
  refine go_iload_n 1 dX6_tellParty_0 rfl ?_
  refine go_iconst 2 dX6_tellParty_1 zc_3 ?_
  refine go_icmp_ge 16 5 dX6_tellParty_2 (fun h2 => ?_) (fun h2 => ?_)
  · exact absurd h2 (by decide)
  · refine go_aload_n 6 dX6_tellParty_5 rfl ?_
    refine gl_x h 9 dX6_tellParty_6 fX6_21 rfl ?_
    refine go_iload_n 10 dX6_tellParty_9 rfl ?_
    refine gl_pa h hI rfl hk 11 dX6_tellParty_10 ?_
    refine go_iload_n 12 dX6_tellParty_11 rfl ?_
    refine gl_pi h hk rfl (by decide) 13 dX6_tellParty_12 ?_
    refine go_goto 73 dX6_tellParty_13 ?_
    exact go_ireturn dX6_tellParty_73 rfl (by omega) (by omega) (⟨rfl, rfl⟩)

set_option maxRecDepth 100000 in
set_option maxHeartbeats 4000000 in
theorem cl_tellParty_3 {l : Launch} {Γ : ZG} {w : ZW} {T : LT} {m : Nat} {sg : ZSg} {A V : LA} {tm : Option Nat} {e : Nat} {D : ZD} (h : LX Γ w T m sg A V tm e D) (hI : Ix D) (hs : SegD sg D) {k : Nat} (hk : k < nP D) : Cm l Γ mX6_tellParty 4 [.ref e, .int (nI k), .int 3] w (some (.int (zb (eng D (nI k))))) w := by
  have h40 := hI.2.2.1.2
  refine Cm.of (by decide) rfl (Nat.le_of_ble_eq_true rfl) ?_
  refine go_iload_n 1 dX6_tellParty_0 rfl ?_
  refine go_iconst 2 dX6_tellParty_1 zc_3 ?_
  refine go_icmp_ge 16 5 dX6_tellParty_2 (fun h2 => ?_) (fun h2 => ?_)
  · refine go_iload_n 17 dX6_tellParty_16 rfl ?_
    refine go_iconst 18 dX6_tellParty_17 zc_3 ?_
    refine go_icmp_ne 37 21 dX6_tellParty_18 (fun h18 => ?_) (fun h18 => ?_)
    · exact absurd h18 (by decide)
    · refine go_aload_n 22 dX6_tellParty_21 rfl ?_
      refine go_iload_n 23 dX6_tellParty_22 rfl ?_
      refine gcV1 26 dX6_tellParty_23 vX6_149 h.x.1 rfl (cl_isEngaged h hI hs) ?_
      refine go_if_eq 33 29 dX6_tellParty_26 (fun h26 => ?_) (fun h26 => ?_)
      · refine go_iconst 34 dX6_tellParty_33 zc_0 ?_
        refine go_goto 73 dX6_tellParty_34 ?_
        exact go_ireturn dX6_tellParty_73 rfl (by omega) (by omega) (by rw [h26]; exact ⟨rfl, rfl⟩)
      · refine go_iconst 30 dX6_tellParty_29 zc_1 ?_
        refine go_goto 73 dX6_tellParty_30 ?_
        exact go_ireturn dX6_tellParty_73 rfl (by omega) (by omega) (by rw [(zb_n1 h26).1]; exact ⟨rfl, rfl⟩)
  · exact absurd h2 (by decide)

set_option maxRecDepth 100000 in
set_option maxHeartbeats 4000000 in
theorem cl_tellParty_4 {l : Launch} {Γ : ZG} {w : ZW} {T : LT} {m : Nat} {sg : ZSg} {A V : LA} {tm : Option Nat} {e : Nat} {D : ZD} (h : LX Γ w T m sg A V tm e D) (hI : Ix D) (hs : SegD sg D) {k : Nat} (hk : k < nP D) : Cm l Γ mX6_tellParty 4 [.ref e, .int (nI k), .int 4] w (some (.int (legW D (nI k) 1))) w := by
  have h40 := hI.2.2.1.2
  refine Cm.of (by decide) rfl (Nat.le_of_ble_eq_true rfl) ?_
  refine go_iload_n 1 dX6_tellParty_0 rfl ?_
  refine go_iconst 2 dX6_tellParty_1 zc_3 ?_
  refine go_icmp_ge 16 5 dX6_tellParty_2 (fun h2 => ?_) (fun h2 => ?_)
  · refine go_iload_n 17 dX6_tellParty_16 rfl ?_
    refine go_iconst 18 dX6_tellParty_17 zc_3 ?_
    refine go_icmp_ne 37 21 dX6_tellParty_18 (fun h18 => ?_) (fun h18 => ?_)
    · refine go_iload_n 38 dX6_tellParty_37 rfl ?_
      refine go_iconst 39 dX6_tellParty_38 zc_4 ?_
      refine go_icmp_ne 68 42 dX6_tellParty_39 (fun h39 => ?_) (fun h39 => ?_)
      · exact absurd h39 (by decide)
      · refine go_aload_n 43 dX6_tellParty_42 rfl ?_
        refine go_iload_n 44 dX6_tellParty_43 rfl ?_
        refine go_iconst 45 dX6_tellParty_44 zc_1 ?_
        refine gcV2 48 dX6_tellParty_45 vX6_108 h.x.1 rfl (cl_with h hI) ?_
        refine go_ifnonnullQ 55 51 dX6_tellParty_48 (fun x48 n48 => ?_) (fun n48 => ?_)
        · have o48 := lgO_s n48
          refine go_aload_n 56 dX6_tellParty_55 rfl ?_
          refine go_aload_n 57 dX6_tellParty_56 rfl ?_
          refine go_iload_n 58 dX6_tellParty_57 rfl ?_
          refine go_iconst 59 dX6_tellParty_58 zc_1 ?_
          refine gcV2 62 dX6_tellParty_59 vX6_108 h.x.1 rfl (cl_with h hI) ?_
          rw [lgO_e o48, show va_rf (some (A 0 (tN (legW D (nI k) 1)))) = .ref (A 0 (tN (legW D (nI k) 1))) from rfl]
          refine gcV1 65 dX6_tellParty_62 vX6_93 h.x.1 rfl (cl_index h hI (leg_ok h40 o48).2.1) ?_
          refine go_goto 73 dX6_tellParty_65 ?_
          exact go_ireturn dX6_tellParty_73 rfl (by omega) (by omega) (by rw [← (leg_ok h40 o48).1]; exact ⟨rfl, rfl⟩)
        · have o48 := lgO_n n48
          refine go_iconst 52 dX6_tellParty_51 zc_m1 ?_
          refine go_goto 73 dX6_tellParty_52 ?_
          exact go_ireturn dX6_tellParty_73 rfl (by omega) (by omega) (by rw [o48]; exact ⟨rfl, rfl⟩)
    · exact absurd h18 (by decide)
  · exact absurd h2 (by decide)

set_option maxRecDepth 100000 in
set_option maxHeartbeats 4000000 in
theorem cl_tellParty_5 {l : Launch} {Γ : ZG} {w : ZW} {T : LT} {m : Nat} {sg : ZSg} {A V : LA} {tm : Option Nat} {e : Nat} {D : ZD} (h : LX Γ w T m sg A V tm e D) (hI : Ix D) (hs : SegD sg D) {k : Nat} (hk : k < nP D) : Cm l Γ mX6_tellParty 4 [.ref e, .int (nI k), .int 5] w (some (.int (rung D (nI k)))) w := by
  have h40 := hI.2.2.1.2
  refine Cm.of (by decide) rfl (Nat.le_of_ble_eq_true rfl) ?_
  refine go_iload_n 1 dX6_tellParty_0 rfl ?_
  refine go_iconst 2 dX6_tellParty_1 zc_3 ?_
  refine go_icmp_ge 16 5 dX6_tellParty_2 (fun h2 => ?_) (fun h2 => ?_)
  · refine go_iload_n 17 dX6_tellParty_16 rfl ?_
    refine go_iconst 18 dX6_tellParty_17 zc_3 ?_
    refine go_icmp_ne 37 21 dX6_tellParty_18 (fun h18 => ?_) (fun h18 => ?_)
    · refine go_iload_n 38 dX6_tellParty_37 rfl ?_
      refine go_iconst 39 dX6_tellParty_38 zc_4 ?_
      refine go_icmp_ne 68 42 dX6_tellParty_39 (fun h39 => ?_) (fun h39 => ?_)
      · refine go_aload_n 69 dX6_tellParty_68 rfl ?_
        refine go_iload_n 70 dX6_tellParty_69 rfl ?_
        refine gcV1 73 dX6_tellParty_70 vX6_161 h.x.1 rfl (cl_rung h hI) ?_
        exact go_ireturn dX6_tellParty_73 rfl (by omega) (by omega) (⟨rfl, rfl⟩)
      · exact absurd h39 (by decide)
    · exact absurd h18 (by decide)
  · exact absurd h2 (by decide)

theorem cl_tellParty {l : Launch} {Γ : ZG} {w : ZW} {T : LT} {m : Nat} {sg : ZSg} {A V : LA} {tm : Option Nat} {e : Nat} {D : ZD} (h : LX Γ w T m sg A V tm e D) (hI : Ix D) (hs : SegD sg D) {k j : Nat} (hk : k < nP D) (hj : j < 6) : Cm l Γ mX6_tellParty 4 [.ref e, .int (nI k), .int (nI j)] w (some (.int (tellP D k j))) w := by
  rcases (show j = 0 ∨ j = 1 ∨ j = 2 ∨ j = 3 ∨ j = 4 ∨ j = 5 by omega) with rfl | rfl | rfl | rfl | rfl | rfl
  · exact cl_tellParty_0 h hI hs hk
  · exact cl_tellParty_1 h hI hs hk
  · exact cl_tellParty_2 h hI hs hk
  · exact cl_tellParty_3 h hI hs hk
  · exact cl_tellParty_4 h hI hs hk
  · exact cl_tellParty_5 h hI hs hk

set_option maxRecDepth 100000 in
set_option maxHeartbeats 4000000 in
theorem cl_tellCall_0 {l : Launch} {Γ : ZG} {w : ZW} {T : LT} {m : Nat} {sg : ZSg} {A V : LA} {tm : Option Nat} {e : Nat} {D : ZD} (h : LX Γ w T m sg A V tm e D) (hV : Iv D) (hJ : JX D) (hs : SegD sg D) {k : Nat} (hk : k < nC D) : Cm l Γ mX6_tellCall 2 [.ref e, .int (nI k), .int 0] w (some (.int (dC D k 0))) w := by
  have hI := hV.1
  have h40 := hI.2.2.1.2
  refine Cm.of (by decide) rfl (Nat.le_of_ble_eq_true rfl) ?_
  refine go_aload_n 1 dX6_tellCall_0 rfl ?_
  refine gl_x h 4 dX6_tellCall_1 fX6_27 rfl ?_
  refine go_iload_n 5 dX6_tellCall_4 rfl ?_
  refine gl_ca h hI rfl hk 6 dX6_tellCall_5 ?_
  refine go_astore_n 7 dX6_tellCall_6 (by decide) ?_
  refine go_iload_n 8 dX6_tellCall_7 rfl ?_
  refine go_if_ne 18 11 dX6_tellCall_8 (fun h8 => ?_) (fun h8 => ?_)
  · exact absurd h8 (by decide)
  · refine go_aload_n 12 dX6_tellCall_11 rfl ?_
    refine gl_t h hk 15 dX6_tellCall_12 fX6_53 rfl ?_
    refine go_goto 108 dX6_tellCall_15 ?_
    exact go_ireturn dX6_tellCall_108 rfl (by omega) (by omega) (⟨rfl, rfl⟩)

set_option maxRecDepth 100000 in
set_option maxHeartbeats 4000000 in
theorem cl_tellCall_1 {l : Launch} {Γ : ZG} {w : ZW} {T : LT} {m : Nat} {sg : ZSg} {A V : LA} {tm : Option Nat} {e : Nat} {D : ZD} (h : LX Γ w T m sg A V tm e D) (hV : Iv D) (hJ : JX D) (hs : SegD sg D) {k : Nat} (hk : k < nC D) : Cm l Γ mX6_tellCall 2 [.ref e, .int (nI k), .int 1] w (some (.int (dC D k 1))) w := by
  have hI := hV.1
  have h40 := hI.2.2.1.2
  refine Cm.of (by decide) rfl (Nat.le_of_ble_eq_true rfl) ?_
  refine go_aload_n 1 dX6_tellCall_0 rfl ?_
  refine gl_x h 4 dX6_tellCall_1 fX6_27 rfl ?_
  refine go_iload_n 5 dX6_tellCall_4 rfl ?_
  refine gl_ca h hI rfl hk 6 dX6_tellCall_5 ?_
  refine go_astore_n 7 dX6_tellCall_6 (by decide) ?_
  refine go_iload_n 8 dX6_tellCall_7 rfl ?_
  refine go_if_ne 18 11 dX6_tellCall_8 (fun h8 => ?_) (fun h8 => ?_)
  · refine go_iload_n 19 dX6_tellCall_18 rfl ?_
    refine go_iconst 20 dX6_tellCall_19 zc_1 ?_
    refine go_icmp_ne 30 23 dX6_tellCall_20 (fun h20 => ?_) (fun h20 => ?_)
    · exact absurd h20 (by decide)
    · refine go_aload_n 24 dX6_tellCall_23 rfl ?_
      refine gl_t h hk 27 dX6_tellCall_24 fX6_56 rfl ?_
      refine go_goto 108 dX6_tellCall_27 ?_
      exact go_ireturn dX6_tellCall_108 rfl (by omega) (by omega) (⟨rfl, rfl⟩)
  · exact absurd h8 (by decide)

set_option maxRecDepth 100000 in
set_option maxHeartbeats 4000000 in
theorem cl_tellCall_2 {l : Launch} {Γ : ZG} {w : ZW} {T : LT} {m : Nat} {sg : ZSg} {A V : LA} {tm : Option Nat} {e : Nat} {D : ZD} (h : LX Γ w T m sg A V tm e D) (hV : Iv D) (hJ : JX D) (hs : SegD sg D) {k : Nat} (hk : k < nC D) : Cm l Γ mX6_tellCall 2 [.ref e, .int (nI k), .int 2] w (some (.int (dC D k 2))) w := by
  have hI := hV.1
  have h40 := hI.2.2.1.2
  refine Cm.of (by decide) rfl (Nat.le_of_ble_eq_true rfl) ?_
  refine go_aload_n 1 dX6_tellCall_0 rfl ?_
  refine gl_x h 4 dX6_tellCall_1 fX6_27 rfl ?_
  refine go_iload_n 5 dX6_tellCall_4 rfl ?_
  refine gl_ca h hI rfl hk 6 dX6_tellCall_5 ?_
  refine go_astore_n 7 dX6_tellCall_6 (by decide) ?_
  refine go_iload_n 8 dX6_tellCall_7 rfl ?_
  refine go_if_ne 18 11 dX6_tellCall_8 (fun h8 => ?_) (fun h8 => ?_)
  · refine go_iload_n 19 dX6_tellCall_18 rfl ?_
    refine go_iconst 20 dX6_tellCall_19 zc_1 ?_
    refine go_icmp_ne 30 23 dX6_tellCall_20 (fun h20 => ?_) (fun h20 => ?_)
    · refine go_iload_n 31 dX6_tellCall_30 rfl ?_
      refine go_iconst 32 dX6_tellCall_31 zc_2 ?_
      refine go_icmp_ne 42 35 dX6_tellCall_32 (fun h32 => ?_) (fun h32 => ?_)
      · exact absurd h32 (by decide)
      · refine go_aload_n 36 dX6_tellCall_35 rfl ?_
        refine gl_t h hk 39 dX6_tellCall_36 fX6_59 rfl ?_
        refine go_goto 108 dX6_tellCall_39 ?_
        exact go_ireturn dX6_tellCall_108 rfl (by omega) (by omega) (⟨rfl, rfl⟩)
    · exact absurd h20 (by decide)
  · exact absurd h8 (by decide)

set_option maxRecDepth 100000 in
set_option maxHeartbeats 4000000 in
theorem cl_tellCall_3 {l : Launch} {Γ : ZG} {w : ZW} {T : LT} {m : Nat} {sg : ZSg} {A V : LA} {tm : Option Nat} {e : Nat} {D : ZD} (h : LX Γ w T m sg A V tm e D) (hV : Iv D) (hJ : JX D) (hs : SegD sg D) {k : Nat} (hk : k < nC D) : Cm l Γ mX6_tellCall 2 [.ref e, .int (nI k), .int 3] w (some (.int (dC D k 3))) w := by
  have hI := hV.1
  have h40 := hI.2.2.1.2
  refine Cm.of (by decide) rfl (Nat.le_of_ble_eq_true rfl) ?_
  refine go_aload_n 1 dX6_tellCall_0 rfl ?_
  refine gl_x h 4 dX6_tellCall_1 fX6_27 rfl ?_
  refine go_iload_n 5 dX6_tellCall_4 rfl ?_
  refine gl_ca h hI rfl hk 6 dX6_tellCall_5 ?_
  refine go_astore_n 7 dX6_tellCall_6 (by decide) ?_
  refine go_iload_n 8 dX6_tellCall_7 rfl ?_
  refine go_if_ne 18 11 dX6_tellCall_8 (fun h8 => ?_) (fun h8 => ?_)
  · refine go_iload_n 19 dX6_tellCall_18 rfl ?_
    refine go_iconst 20 dX6_tellCall_19 zc_1 ?_
    refine go_icmp_ne 30 23 dX6_tellCall_20 (fun h20 => ?_) (fun h20 => ?_)
    · refine go_iload_n 31 dX6_tellCall_30 rfl ?_
      refine go_iconst 32 dX6_tellCall_31 zc_2 ?_
      refine go_icmp_ne 42 35 dX6_tellCall_32 (fun h32 => ?_) (fun h32 => ?_)
      · refine go_iload_n 43 dX6_tellCall_42 rfl ?_
        refine go_iconst 44 dX6_tellCall_43 zc_3 ?_
        refine go_icmp_ne 69 47 dX6_tellCall_44 (fun h44 => ?_) (fun h44 => ?_)
        · exact absurd h44 (by decide)
        · refine go_aload_n 48 dX6_tellCall_47 rfl ?_
          refine gl_t h hk 51 dX6_tellCall_48 fX6_97 rfl ?_
          refine go_ifnonnullQ 58 54 dX6_tellCall_51 (fun x51 n51 => ?_) (fun n51 => ?_)
          · have o51 := lgO_s n51
            refine go_aload_n 59 dX6_tellCall_58 rfl ?_
            refine go_aload_n 60 dX6_tellCall_59 rfl ?_
            refine gl_t h hk 63 dX6_tellCall_60 fX6_97 (tFs3 o51) ?_
            refine gcV1 66 dX6_tellCall_63 vX6_93 h.x.1 rfl (cl_index h hI (K := tN (dC D k 3)) ((hV.2.1 k hk).resolve_left o51).2) ?_
            refine go_goto 108 dX6_tellCall_66 ?_
            exact go_ireturn dX6_tellCall_108 rfl (by omega) (by omega) (by rw [show nI (tN (dC D k 3)) = dC D k 3 from ((hV.2.1 k hk).resolve_left o51).1.symm]; exact ⟨rfl, rfl⟩)
          · have o51 := lgO_n n51
            refine go_iconst 55 dX6_tellCall_54 zc_m1 ?_
            refine go_goto 108 dX6_tellCall_55 ?_
            exact go_ireturn dX6_tellCall_108 rfl (by omega) (by omega) (by rw [o51]; exact ⟨rfl, rfl⟩)
      · exact absurd h32 (by decide)
    · exact absurd h20 (by decide)
  · exact absurd h8 (by decide)

set_option maxRecDepth 100000 in
set_option maxHeartbeats 4000000 in
theorem cl_tellCall_4 {l : Launch} {Γ : ZG} {w : ZW} {T : LT} {m : Nat} {sg : ZSg} {A V : LA} {tm : Option Nat} {e : Nat} {D : ZD} (h : LX Γ w T m sg A V tm e D) (hV : Iv D) (hJ : JX D) (hs : SegD sg D) {k : Nat} (hk : k < nC D) : Cm l Γ mX6_tellCall 2 [.ref e, .int (nI k), .int 4] w (some (.int (zb (rngs D (nI k))))) w := by
  have hI := hV.1
  have h40 := hI.2.2.1.2
  refine Cm.of (by decide) rfl (Nat.le_of_ble_eq_true rfl) ?_
  refine go_aload_n 1 dX6_tellCall_0 rfl ?_
  refine gl_x h 4 dX6_tellCall_1 fX6_27 rfl ?_
  refine go_iload_n 5 dX6_tellCall_4 rfl ?_
  refine gl_ca h hI rfl hk 6 dX6_tellCall_5 ?_
  refine go_astore_n 7 dX6_tellCall_6 (by decide) ?_
  refine go_iload_n 8 dX6_tellCall_7 rfl ?_
  refine go_if_ne 18 11 dX6_tellCall_8 (fun h8 => ?_) (fun h8 => ?_)
  · refine go_iload_n 19 dX6_tellCall_18 rfl ?_
    refine go_iconst 20 dX6_tellCall_19 zc_1 ?_
    refine go_icmp_ne 30 23 dX6_tellCall_20 (fun h20 => ?_) (fun h20 => ?_)
    · refine go_iload_n 31 dX6_tellCall_30 rfl ?_
      refine go_iconst 32 dX6_tellCall_31 zc_2 ?_
      refine go_icmp_ne 42 35 dX6_tellCall_32 (fun h32 => ?_) (fun h32 => ?_)
      · refine go_iload_n 43 dX6_tellCall_42 rfl ?_
        refine go_iconst 44 dX6_tellCall_43 zc_3 ?_
        refine go_icmp_ne 69 47 dX6_tellCall_44 (fun h44 => ?_) (fun h44 => ?_)
        · refine go_iload_n 70 dX6_tellCall_69 rfl ?_
          refine go_iconst 71 dX6_tellCall_70 zc_4 ?_
          refine go_icmp_ne 89 74 dX6_tellCall_71 (fun h71 => ?_) (fun h71 => ?_)
          · exact absurd h71 (by decide)
          · refine go_aload_n 75 dX6_tellCall_74 rfl ?_
            refine gcV0 78 dX6_tellCall_75 vX6_104 (h.c hk).1 rfl (cl_rings h hI hs hk) ?_
            refine go_if_eq 85 81 dX6_tellCall_78 (fun h78 => ?_) (fun h78 => ?_)
            · refine go_iconst 86 dX6_tellCall_85 zc_0 ?_
              refine go_goto 108 dX6_tellCall_86 ?_
              exact go_ireturn dX6_tellCall_108 rfl (by omega) (by omega) (by rw [h78]; exact ⟨rfl, rfl⟩)
            · refine go_iconst 82 dX6_tellCall_81 zc_1 ?_
              refine go_goto 108 dX6_tellCall_82 ?_
              exact go_ireturn dX6_tellCall_108 rfl (by omega) (by omega) (by rw [(zb_n1 h78).1]; exact ⟨rfl, rfl⟩)
        · exact absurd h44 (by decide)
      · exact absurd h32 (by decide)
    · exact absurd h20 (by decide)
  · exact absurd h8 (by decide)

set_option maxRecDepth 100000 in
set_option maxHeartbeats 4000000 in
theorem cl_tellCall_5 {l : Launch} {Γ : ZG} {w : ZW} {T : LT} {m : Nat} {sg : ZSg} {A V : LA} {tm : Option Nat} {e : Nat} {D : ZD} (h : LX Γ w T m sg A V tm e D) (hV : Iv D) (hJ : JX D) (hs : SegD sg D) {k : Nat} (hk : k < nC D) : Cm l Γ mX6_tellCall 2 [.ref e, .int (nI k), .int 5] w (some (.int (dC D k 4))) w := by
  have hI := hV.1
  have h40 := hI.2.2.1.2
  refine Cm.of (by decide) rfl (Nat.le_of_ble_eq_true rfl) ?_
  refine go_aload_n 1 dX6_tellCall_0 rfl ?_
  refine gl_x h 4 dX6_tellCall_1 fX6_27 rfl ?_
  refine go_iload_n 5 dX6_tellCall_4 rfl ?_
  refine gl_ca h hI rfl hk 6 dX6_tellCall_5 ?_
  refine go_astore_n 7 dX6_tellCall_6 (by decide) ?_
  refine go_iload_n 8 dX6_tellCall_7 rfl ?_
  refine go_if_ne 18 11 dX6_tellCall_8 (fun h8 => ?_) (fun h8 => ?_)
  · refine go_iload_n 19 dX6_tellCall_18 rfl ?_
    refine go_iconst 20 dX6_tellCall_19 zc_1 ?_
    refine go_icmp_ne 30 23 dX6_tellCall_20 (fun h20 => ?_) (fun h20 => ?_)
    · refine go_iload_n 31 dX6_tellCall_30 rfl ?_
      refine go_iconst 32 dX6_tellCall_31 zc_2 ?_
      refine go_icmp_ne 42 35 dX6_tellCall_32 (fun h32 => ?_) (fun h32 => ?_)
      · refine go_iload_n 43 dX6_tellCall_42 rfl ?_
        refine go_iconst 44 dX6_tellCall_43 zc_3 ?_
        refine go_icmp_ne 69 47 dX6_tellCall_44 (fun h44 => ?_) (fun h44 => ?_)
        · refine go_iload_n 70 dX6_tellCall_69 rfl ?_
          refine go_iconst 71 dX6_tellCall_70 zc_4 ?_
          refine go_icmp_ne 89 74 dX6_tellCall_71 (fun h71 => ?_) (fun h71 => ?_)
          · refine go_aload_n 90 dX6_tellCall_89 rfl ?_
            refine gl_t h hk 93 dX6_tellCall_90 fX6_101 rfl ?_
            refine go_ifnonnullQ 100 96 dX6_tellCall_93 (fun x93 n93 => ?_) (fun n93 => ?_)
            · have o93 := lgO_s n93
              refine go_aload_n 101 dX6_tellCall_100 rfl ?_
              refine go_aload_n 102 dX6_tellCall_101 rfl ?_
              refine gl_t h hk 105 dX6_tellCall_102 fX6_101 (tFs4 o93) ?_
              refine gcV1 108 dX6_tellCall_105 vX6_93 h.x.1 rfl (cl_index h hI (K := tN (dC D k 4)) ((hJ.1 k hk).resolve_left o93).2) ?_
              exact go_ireturn dX6_tellCall_108 rfl (by omega) (by omega) (by rw [← ((hJ.1 k hk).resolve_left o93).1]; exact ⟨rfl, rfl⟩)
            · have o93 := lgO_n n93
              refine go_iconst 97 dX6_tellCall_96 zc_m1 ?_
              refine go_goto 108 dX6_tellCall_97 ?_
              exact go_ireturn dX6_tellCall_108 rfl (by omega) (by omega) (by rw [o93]; exact ⟨rfl, rfl⟩)
          · exact absurd h71 (by decide)
        · exact absurd h44 (by decide)
      · exact absurd h32 (by decide)
    · exact absurd h20 (by decide)
  · exact absurd h8 (by decide)

theorem cl_tellCall {l : Launch} {Γ : ZG} {w : ZW} {T : LT} {m : Nat} {sg : ZSg} {A V : LA} {tm : Option Nat} {e : Nat} {D : ZD} (h : LX Γ w T m sg A V tm e D) (hV : Iv D) (hJ : JX D) (hs : SegD sg D) {k j : Nat} (hk : k < nC D) (hj : j < 6) : Cm l Γ mX6_tellCall 2 [.ref e, .int (nI k), .int (nI j)] w (some (.int (tellC D k j))) w := by
  rcases (show j = 0 ∨ j = 1 ∨ j = 2 ∨ j = 3 ∨ j = 4 ∨ j = 5 by omega) with rfl | rfl | rfl | rfl | rfl | rfl
  · exact cl_tellCall_0 h hV hJ hs hk
  · exact cl_tellCall_1 h hV hJ hs hk
  · exact cl_tellCall_2 h hV hJ hs hk
  · exact cl_tellCall_3 h hV hJ hs hk
  · exact cl_tellCall_4 h hV hJ hs hk
  · exact cl_tellCall_5 h hV hJ hs hk

set_option maxRecDepth 100000 in
set_option maxHeartbeats 4000000 in
theorem cl_tellLeg_0 {l : Launch} {Γ : ZG} {w : ZW} {T : LT} {m : Nat} {sg : ZSg} {A V : LA} {tm : Option Nat} {e : Nat} {D : ZD} (h : LX Γ w T m sg A V tm e D) (hI : Ix D) {k : Nat} (hk : k < nL D) : Cm l Γ mX6_tellLeg 2 [.ref e, .int (nI k), .int 0] w (some (.int (dL D k 0))) w := by
  refine Cm.of (by decide) rfl (Nat.le_of_ble_eq_true rfl) ?_
  refine go_aload_n 1 dX6_tellLeg_0 rfl ?_
  refine gl_x h 4 dX6_tellLeg_1 fX6_33 rfl ?_
  refine go_iload_n 5 dX6_tellLeg_4 rfl ?_
  refine gl_la h hI rfl hk 6 dX6_tellLeg_5 ?_
  refine go_astore_n 7 dX6_tellLeg_6 (by decide) ?_
  refine go_iload_n 8 dX6_tellLeg_7 rfl ?_
  refine go_if_ne 22 11 dX6_tellLeg_8 (fun h8 => ?_) (fun h8 => ?_)
  · exact absurd h8 (by decide)
  · refine go_aload_n 12 dX6_tellLeg_11 rfl ?_
    refine go_aload_n 13 dX6_tellLeg_12 rfl ?_
    refine gl_l h hk 16 dX6_tellLeg_13 fX6_64 rfl ?_
    refine gcV1 19 dX6_tellLeg_16 vX6_68 h.x.1 rfl (cl_place h hI (hI.2.2.2 k hk).2) ?_
    refine go_goto 74 dX6_tellLeg_19 ?_
    exact go_ireturn dX6_tellLeg_74 rfl (by omega) (by omega) (by rw [(hI.2.2.2 k hk).1]; exact ⟨rfl, rfl⟩)

set_option maxRecDepth 100000 in
set_option maxHeartbeats 4000000 in
theorem cl_tellLeg_1 {l : Launch} {Γ : ZG} {w : ZW} {T : LT} {m : Nat} {sg : ZSg} {A V : LA} {tm : Option Nat} {e : Nat} {D : ZD} (h : LX Γ w T m sg A V tm e D) (hI : Ix D) {k : Nat} (hk : k < nL D) : Cm l Γ mX6_tellLeg 2 [.ref e, .int (nI k), .int 1] w (some (.int (dL D k 1))) w := by
  refine Cm.of (by decide) rfl (Nat.le_of_ble_eq_true rfl) ?_
  refine go_aload_n 1 dX6_tellLeg_0 rfl ?_
  refine gl_x h 4 dX6_tellLeg_1 fX6_33 rfl ?_
  refine go_iload_n 5 dX6_tellLeg_4 rfl ?_
  refine gl_la h hI rfl hk 6 dX6_tellLeg_5 ?_
  refine go_astore_n 7 dX6_tellLeg_6 (by decide) ?_
  refine go_iload_n 8 dX6_tellLeg_7 rfl ?_
  refine go_if_ne 22 11 dX6_tellLeg_8 (fun h8 => ?_) (fun h8 => ?_)
  · refine go_iload_n 23 dX6_tellLeg_22 rfl ?_
    refine go_iconst 24 dX6_tellLeg_23 zc_1 ?_
    refine go_icmp_ne 34 27 dX6_tellLeg_24 (fun h24 => ?_) (fun h24 => ?_)
    · exact absurd h24 (by decide)
    · refine go_aload_n 28 dX6_tellLeg_27 rfl ?_
      refine gl_l h hk 31 dX6_tellLeg_28 fX6_72 rfl ?_
      refine go_goto 74 dX6_tellLeg_31 ?_
      exact go_ireturn dX6_tellLeg_74 rfl (by omega) (by omega) (⟨rfl, rfl⟩)
  · exact absurd h8 (by decide)

set_option maxRecDepth 100000 in
set_option maxHeartbeats 4000000 in
theorem cl_tellLeg_2 {l : Launch} {Γ : ZG} {w : ZW} {T : LT} {m : Nat} {sg : ZSg} {A V : LA} {tm : Option Nat} {e : Nat} {D : ZD} (h : LX Γ w T m sg A V tm e D) (hI : Ix D) {k : Nat} (hk : k < nL D) : Cm l Γ mX6_tellLeg 2 [.ref e, .int (nI k), .int 2] w (some (.int (dL D k 2))) w := by
  refine Cm.of (by decide) rfl (Nat.le_of_ble_eq_true rfl) ?_
  refine go_aload_n 1 dX6_tellLeg_0 rfl ?_
  refine gl_x h 4 dX6_tellLeg_1 fX6_33 rfl ?_
  refine go_iload_n 5 dX6_tellLeg_4 rfl ?_
  refine gl_la h hI rfl hk 6 dX6_tellLeg_5 ?_
  refine go_astore_n 7 dX6_tellLeg_6 (by decide) ?_
  refine go_iload_n 8 dX6_tellLeg_7 rfl ?_
  refine go_if_ne 22 11 dX6_tellLeg_8 (fun h8 => ?_) (fun h8 => ?_)
  · refine go_iload_n 23 dX6_tellLeg_22 rfl ?_
    refine go_iconst 24 dX6_tellLeg_23 zc_1 ?_
    refine go_icmp_ne 34 27 dX6_tellLeg_24 (fun h24 => ?_) (fun h24 => ?_)
    · refine go_iload_n 35 dX6_tellLeg_34 rfl ?_
      refine go_iconst 36 dX6_tellLeg_35 zc_2 ?_
      refine go_icmp_ne 46 39 dX6_tellLeg_36 (fun h36 => ?_) (fun h36 => ?_)
      · exact absurd h36 (by decide)
      · refine go_aload_n 40 dX6_tellLeg_39 rfl ?_
        refine gl_l h hk 43 dX6_tellLeg_40 fX6_75 rfl ?_
        refine go_goto 74 dX6_tellLeg_43 ?_
        exact go_ireturn dX6_tellLeg_74 rfl (by omega) (by omega) (⟨rfl, rfl⟩)
    · exact absurd h24 (by decide)
  · exact absurd h8 (by decide)

set_option maxRecDepth 100000 in
set_option maxHeartbeats 4000000 in
theorem cl_tellLeg_3 {l : Launch} {Γ : ZG} {w : ZW} {T : LT} {m : Nat} {sg : ZSg} {A V : LA} {tm : Option Nat} {e : Nat} {D : ZD} (h : LX Γ w T m sg A V tm e D) (hI : Ix D) {k : Nat} (hk : k < nL D) : Cm l Γ mX6_tellLeg 2 [.ref e, .int (nI k), .int 3] w (some (.int (dL D k 3))) w := by
  refine Cm.of (by decide) rfl (Nat.le_of_ble_eq_true rfl) ?_
  refine go_aload_n 1 dX6_tellLeg_0 rfl ?_
  refine gl_x h 4 dX6_tellLeg_1 fX6_33 rfl ?_
  refine go_iload_n 5 dX6_tellLeg_4 rfl ?_
  refine gl_la h hI rfl hk 6 dX6_tellLeg_5 ?_
  refine go_astore_n 7 dX6_tellLeg_6 (by decide) ?_
  refine go_iload_n 8 dX6_tellLeg_7 rfl ?_
  refine go_if_ne 22 11 dX6_tellLeg_8 (fun h8 => ?_) (fun h8 => ?_)
  · refine go_iload_n 23 dX6_tellLeg_22 rfl ?_
    refine go_iconst 24 dX6_tellLeg_23 zc_1 ?_
    refine go_icmp_ne 34 27 dX6_tellLeg_24 (fun h24 => ?_) (fun h24 => ?_)
    · refine go_iload_n 35 dX6_tellLeg_34 rfl ?_
      refine go_iconst 36 dX6_tellLeg_35 zc_2 ?_
      refine go_icmp_ne 46 39 dX6_tellLeg_36 (fun h36 => ?_) (fun h36 => ?_)
      · refine go_iload_n 47 dX6_tellLeg_46 rfl ?_
        refine go_iconst 48 dX6_tellLeg_47 zc_3 ?_
        refine go_icmp_ne 58 51 dX6_tellLeg_48 (fun h48 => ?_) (fun h48 => ?_)
        · exact absurd h48 (by decide)
        · refine go_aload_n 52 dX6_tellLeg_51 rfl ?_
          refine gl_l h hk 55 dX6_tellLeg_52 fX6_78 rfl ?_
          refine go_goto 74 dX6_tellLeg_55 ?_
          exact go_ireturn dX6_tellLeg_74 rfl (by omega) (by omega) (⟨rfl, rfl⟩)
      · exact absurd h36 (by decide)
    · exact absurd h24 (by decide)
  · exact absurd h8 (by decide)

set_option maxRecDepth 100000 in
set_option maxHeartbeats 4000000 in
theorem cl_tellLeg_4 {l : Launch} {Γ : ZG} {w : ZW} {T : LT} {m : Nat} {sg : ZSg} {A V : LA} {tm : Option Nat} {e : Nat} {D : ZD} (h : LX Γ w T m sg A V tm e D) (hI : Ix D) {k : Nat} (hk : k < nL D) : Cm l Γ mX6_tellLeg 2 [.ref e, .int (nI k), .int 4] w (some (.int (dL D k 4))) w := by
  refine Cm.of (by decide) rfl (Nat.le_of_ble_eq_true rfl) ?_
  refine go_aload_n 1 dX6_tellLeg_0 rfl ?_
  refine gl_x h 4 dX6_tellLeg_1 fX6_33 rfl ?_
  refine go_iload_n 5 dX6_tellLeg_4 rfl ?_
  refine gl_la h hI rfl hk 6 dX6_tellLeg_5 ?_
  refine go_astore_n 7 dX6_tellLeg_6 (by decide) ?_
  refine go_iload_n 8 dX6_tellLeg_7 rfl ?_
  refine go_if_ne 22 11 dX6_tellLeg_8 (fun h8 => ?_) (fun h8 => ?_)
  · refine go_iload_n 23 dX6_tellLeg_22 rfl ?_
    refine go_iconst 24 dX6_tellLeg_23 zc_1 ?_
    refine go_icmp_ne 34 27 dX6_tellLeg_24 (fun h24 => ?_) (fun h24 => ?_)
    · refine go_iload_n 35 dX6_tellLeg_34 rfl ?_
      refine go_iconst 36 dX6_tellLeg_35 zc_2 ?_
      refine go_icmp_ne 46 39 dX6_tellLeg_36 (fun h36 => ?_) (fun h36 => ?_)
      · refine go_iload_n 47 dX6_tellLeg_46 rfl ?_
        refine go_iconst 48 dX6_tellLeg_47 zc_3 ?_
        refine go_icmp_ne 58 51 dX6_tellLeg_48 (fun h48 => ?_) (fun h48 => ?_)
        · refine go_iload_n 59 dX6_tellLeg_58 rfl ?_
          refine go_iconst 60 dX6_tellLeg_59 zc_4 ?_
          refine go_icmp_ne 70 63 dX6_tellLeg_60 (fun h60 => ?_) (fun h60 => ?_)
          · exact absurd h60 (by decide)
          · refine go_aload_n 64 dX6_tellLeg_63 rfl ?_
            refine gl_l h hk 67 dX6_tellLeg_64 fX6_81 rfl ?_
            refine go_goto 74 dX6_tellLeg_67 ?_
            exact go_ireturn dX6_tellLeg_74 rfl (by omega) (by omega) (⟨rfl, rfl⟩)
        · exact absurd h48 (by decide)
      · exact absurd h36 (by decide)
    · exact absurd h24 (by decide)
  · exact absurd h8 (by decide)

set_option maxRecDepth 100000 in
set_option maxHeartbeats 4000000 in
theorem cl_tellLeg_5 {l : Launch} {Γ : ZG} {w : ZW} {T : LT} {m : Nat} {sg : ZSg} {A V : LA} {tm : Option Nat} {e : Nat} {D : ZD} (h : LX Γ w T m sg A V tm e D) (hI : Ix D) {k : Nat} (hk : k < nL D) : Cm l Γ mX6_tellLeg 2 [.ref e, .int (nI k), .int 5] w (some (.int (dL D k 5))) w := by
  refine Cm.of (by decide) rfl (Nat.le_of_ble_eq_true rfl) ?_
  refine go_aload_n 1 dX6_tellLeg_0 rfl ?_
  refine gl_x h 4 dX6_tellLeg_1 fX6_33 rfl ?_
  refine go_iload_n 5 dX6_tellLeg_4 rfl ?_
  refine gl_la h hI rfl hk 6 dX6_tellLeg_5 ?_
  refine go_astore_n 7 dX6_tellLeg_6 (by decide) ?_
  refine go_iload_n 8 dX6_tellLeg_7 rfl ?_
  refine go_if_ne 22 11 dX6_tellLeg_8 (fun h8 => ?_) (fun h8 => ?_)
  · refine go_iload_n 23 dX6_tellLeg_22 rfl ?_
    refine go_iconst 24 dX6_tellLeg_23 zc_1 ?_
    refine go_icmp_ne 34 27 dX6_tellLeg_24 (fun h24 => ?_) (fun h24 => ?_)
    · refine go_iload_n 35 dX6_tellLeg_34 rfl ?_
      refine go_iconst 36 dX6_tellLeg_35 zc_2 ?_
      refine go_icmp_ne 46 39 dX6_tellLeg_36 (fun h36 => ?_) (fun h36 => ?_)
      · refine go_iload_n 47 dX6_tellLeg_46 rfl ?_
        refine go_iconst 48 dX6_tellLeg_47 zc_3 ?_
        refine go_icmp_ne 58 51 dX6_tellLeg_48 (fun h48 => ?_) (fun h48 => ?_)
        · refine go_iload_n 59 dX6_tellLeg_58 rfl ?_
          refine go_iconst 60 dX6_tellLeg_59 zc_4 ?_
          refine go_icmp_ne 70 63 dX6_tellLeg_60 (fun h60 => ?_) (fun h60 => ?_)
          · refine go_aload_n 71 dX6_tellLeg_70 rfl ?_
            refine gl_l h hk 74 dX6_tellLeg_71 fX6_84 rfl ?_
            exact go_ireturn dX6_tellLeg_74 rfl (by omega) (by omega) (⟨rfl, rfl⟩)
          · exact absurd h60 (by decide)
        · exact absurd h48 (by decide)
      · exact absurd h36 (by decide)
    · exact absurd h24 (by decide)
  · exact absurd h8 (by decide)

theorem cl_tellLeg {l : Launch} {Γ : ZG} {w : ZW} {T : LT} {m : Nat} {sg : ZSg} {A V : LA} {tm : Option Nat} {e : Nat} {D : ZD} (h : LX Γ w T m sg A V tm e D) (hI : Ix D) {k j : Nat} (hk : k < nL D) (hj : j < 6) : Cm l Γ mX6_tellLeg 2 [.ref e, .int (nI k), .int (nI j)] w (some (.int (dL D k j))) w := by
  rcases (show j = 0 ∨ j = 1 ∨ j = 2 ∨ j = 3 ∨ j = 4 ∨ j = 5 by omega) with rfl | rfl | rfl | rfl | rfl | rfl
  · exact cl_tellLeg_0 h hI hk
  · exact cl_tellLeg_1 h hI hk
  · exact cl_tellLeg_2 h hI hk
  · exact cl_tellLeg_3 h hI hk
  · exact cl_tellLeg_4 h hI hk
  · exact cl_tellLeg_5 h hI hk

set_option maxRecDepth 100000 in
set_option maxHeartbeats 4000000 in
theorem cl_due {l : Launch} {Γ : ZG} {w : ZW} {T : LT} {m : Nat} {sg : ZSg} {A V : LA} {tm : Option Nat} {e : Nat} {D : ZD} (h : LX Γ w T m sg A V tm e D) (hI : Ix D) {k s : Nat} (hk : k < nL D) (hs2 : s < 2) : Cm l Γ mX6_due 1 [.ref e, .int (nI k), .int (nI s)] w (some (.int (dL D k (9 + s)))) w := by
  refine Cm.of (by decide) rfl (Nat.le_of_ble_eq_true rfl) ?_
  refine go_aload_n 1 dX6_due_0 rfl ?_
  refine gl_x h 4 dX6_due_1 fX6_33 rfl ?_
  refine go_iload_n 5 dX6_due_4 rfl ?_
  refine gl_la h hI rfl hk 6 dX6_due_5 ?_
  refine gl_l h hk 9 dX6_due_6 fX6_90 rfl ?_
  refine go_iload_n 10 dX6_due_9 rfl ?_
  refine gl_rp h hk rfl hs2 11 dX6_due_10 ?_
  refine go_ifnonnullQ 18 14 dX6_due_11 (fun x11 n11 => ?_) (fun n11 => ?_)
  · have o11 := rpO_s n11
    refine go_aload_n 19 dX6_due_18 rfl ?_
    refine gl_x h 22 dX6_due_19 fX6_33 rfl ?_
    refine go_iload_n 23 dX6_due_22 rfl ?_
    refine gl_la h hI rfl hk 24 dX6_due_23 ?_
    refine gl_l h hk 27 dX6_due_24 fX6_90 rfl ?_
    refine go_iload_n 28 dX6_due_27 rfl ?_
    refine gl_rp h hk rfl hs2 29 dX6_due_28 ?_
    unfold rpO
    rw [if_neg o11, show va_rf (some (V (6 + s) k)) = .ref (V (6 + s) k) from rfl]
    refine go_iconst 30 dX6_due_29 zc_1 ?_
    refine gl_ri h hk hs2 o11 rfl (by decide) 31 dX6_due_30 ?_
    exact go_ireturn dX6_due_31 rfl (by omega) (by omega) (⟨rfl, rfl⟩)
  · have o11 := rpO_n n11
    refine go_iconst 15 dX6_due_14 zc_m1 ?_
    refine go_goto 31 dX6_due_15 ?_
    exact go_ireturn dX6_due_31 rfl (by omega) (by omega) (by rw [o11]; exact ⟨rfl, rfl⟩)

set_option maxRecDepth 100000 in
set_option maxHeartbeats 4000000 in
theorem lpi1_sum {l : Launch} {Γ : ZG} {w : ZW} {T : LT} {m : Nat} {sg : ZSg} {A V : LA} {tm : Option Nat} {e : Nat} {D : ZD} (h : LX Γ w T m sg A V tm e D) (hI : Ix D) (hs : SegD sg D) {Φ : Option Value → ZW → Prop} {k : Nat} (hk : k < nP D) {F : Int64} (kk : Go l Γ mX6_sum 5 0 0 Φ zNo 0 0 w 48 [(0, .ref e), (1, .long F), (3, .int (nI k))] []) : ∀ (f j : Nat) (v : Int64), j + f = 6 → ckF (tellP D k) j f v = F → Go l Γ mX6_sum 5 0 0 Φ zNo 0 0 w 20 [(0, .ref e), (1, .long v), (3, .int (nI k)), (4, .int (nI j))] [] := by
  intro f
  induction f with
  | zero =>
    intro j v hj hF
    have hF : v = F := hF
    subst hF
    refine go_iload 22 dX6_sum_20 rfl ?_
    refine go_bipush 24 dX6_sum_22 zb_6 ?_
    refine go_icmp_ge 48 27 dX6_sum_24 (fun h24 => ?_) (fun h24 => ?_)
    · exact go_locals _ rfl kk
    · exact (lpE (a := 6) (N := 6) rfl (by omega) h24).elim
  | succ f ih =>
    intro j v hj hF
    refine go_iload 22 dX6_sum_20 rfl ?_
    refine go_bipush 24 dX6_sum_22 zb_6 ?_
    refine go_icmp_ge 48 27 dX6_sum_24 (fun h24 => ?_) (fun h24 => ?_)
    · exact (lpG (a := 6) (N := 6) rfl (by decide) (by omega) h24).elim
    · refine go_ldc2 30 dX6_sum_27 clX6_164 ?_
      refine go_lload_n 31 dX6_sum_30 rfl ?_
      refine go_lmul 32 dX6_sum_31 ?_
      refine go_aload_n 33 dX6_sum_32 rfl ?_
      refine go_iload_n 34 dX6_sum_33 rfl ?_
      refine go_iload 36 dX6_sum_34 rfl ?_
      refine gcV2 39 dX6_sum_36 vX6_166 h.x.1 rfl (cl_tellParty h hI hs hk (by omega)) ?_
      refine go_i2l 40 dX6_sum_39 ?_
      refine go_ladd 41 dX6_sum_40 ?_
      refine go_lstore_n 42 dX6_sum_41 (by decide) ?_
      refine go_iinc 45 dX6_sum_42 rfl (by decide) zc_1 ?_
      refine go_goto 20 dX6_sum_45 ?_
      rw [nI_1]
      exact go_locals _ rfl (ih (j + 1) _ (by omega) hF)

set_option maxRecDepth 100000 in
set_option maxHeartbeats 4000000 in
theorem lpi2_sum {l : Launch} {Γ : ZG} {w : ZW} {T : LT} {m : Nat} {sg : ZSg} {A V : LA} {tm : Option Nat} {e : Nat} {D : ZD} (h : LX Γ w T m sg A V tm e D) (hV : Iv D) (hJ : JX D) (hs : SegD sg D) {Φ : Option Value → ZW → Prop} {k : Nat} (hk : k < nC D) {F : Int64} (kk : Go l Γ mX6_sum 5 0 0 Φ zNo 0 0 w 96 [(0, .ref e), (1, .long F), (3, .int (nI k))] []) : ∀ (f j : Nat) (v : Int64), j + f = 6 → ckF (tellC D k) j f v = F → Go l Γ mX6_sum 5 0 0 Φ zNo 0 0 w 68 [(0, .ref e), (1, .long v), (3, .int (nI k)), (4, .int (nI j))] [] := by
  intro f
  induction f with
  | zero =>
    intro j v hj hF
    have hF : v = F := hF
    subst hF
    refine go_iload 70 dX6_sum_68 rfl ?_
    refine go_bipush 72 dX6_sum_70 zb_6 ?_
    refine go_icmp_ge 96 75 dX6_sum_72 (fun h72 => ?_) (fun h72 => ?_)
    · exact go_locals _ rfl kk
    · exact (lpE (a := 6) (N := 6) rfl (by omega) h72).elim
  | succ f ih =>
    intro j v hj hF
    refine go_iload 70 dX6_sum_68 rfl ?_
    refine go_bipush 72 dX6_sum_70 zb_6 ?_
    refine go_icmp_ge 96 75 dX6_sum_72 (fun h72 => ?_) (fun h72 => ?_)
    · exact (lpG (a := 6) (N := 6) rfl (by decide) (by omega) h72).elim
    · refine go_ldc2 78 dX6_sum_75 clX6_164 ?_
      refine go_lload_n 79 dX6_sum_78 rfl ?_
      refine go_lmul 80 dX6_sum_79 ?_
      refine go_aload_n 81 dX6_sum_80 rfl ?_
      refine go_iload_n 82 dX6_sum_81 rfl ?_
      refine go_iload 84 dX6_sum_82 rfl ?_
      refine gcV2 87 dX6_sum_84 vX6_170 h.x.1 rfl (cl_tellCall h hV hJ hs hk (by omega)) ?_
      refine go_i2l 88 dX6_sum_87 ?_
      refine go_ladd 89 dX6_sum_88 ?_
      refine go_lstore_n 90 dX6_sum_89 (by decide) ?_
      refine go_iinc 93 dX6_sum_90 rfl (by decide) zc_1 ?_
      refine go_goto 68 dX6_sum_93 ?_
      rw [nI_1]
      exact go_locals _ rfl (ih (j + 1) _ (by omega) hF)

set_option maxRecDepth 100000 in
set_option maxHeartbeats 4000000 in
theorem lpi3_sum {l : Launch} {Γ : ZG} {w : ZW} {T : LT} {m : Nat} {sg : ZSg} {A V : LA} {tm : Option Nat} {e : Nat} {D : ZD} (h : LX Γ w T m sg A V tm e D) (hI : Ix D) {Φ : Option Value → ZW → Prop} {k : Nat} (hk : k < nL D) {F : Int64} (kk : Go l Γ mX6_sum 5 0 0 Φ zNo 0 0 w 144 [(0, .ref e), (1, .long F), (3, .int (nI k))] []) : ∀ (f j : Nat) (v : Int64), j + f = 6 → ckF (dL D k) j f v = F → Go l Γ mX6_sum 5 0 0 Φ zNo 0 0 w 116 [(0, .ref e), (1, .long v), (3, .int (nI k)), (4, .int (nI j))] [] := by
  intro f
  induction f with
  | zero =>
    intro j v hj hF
    have hF : v = F := hF
    subst hF
    refine go_iload 118 dX6_sum_116 rfl ?_
    refine go_bipush 120 dX6_sum_118 zb_6 ?_
    refine go_icmp_ge 144 123 dX6_sum_120 (fun h120 => ?_) (fun h120 => ?_)
    · exact go_locals _ rfl kk
    · exact (lpE (a := 6) (N := 6) rfl (by omega) h120).elim
  | succ f ih =>
    intro j v hj hF
    refine go_iload 118 dX6_sum_116 rfl ?_
    refine go_bipush 120 dX6_sum_118 zb_6 ?_
    refine go_icmp_ge 144 123 dX6_sum_120 (fun h120 => ?_) (fun h120 => ?_)
    · exact (lpG (a := 6) (N := 6) rfl (by decide) (by omega) h120).elim
    · refine go_ldc2 126 dX6_sum_123 clX6_164 ?_
      refine go_lload_n 127 dX6_sum_126 rfl ?_
      refine go_lmul 128 dX6_sum_127 ?_
      refine go_aload_n 129 dX6_sum_128 rfl ?_
      refine go_iload_n 130 dX6_sum_129 rfl ?_
      refine go_iload 132 dX6_sum_130 rfl ?_
      refine gcV2 135 dX6_sum_132 vX6_173 h.x.1 rfl (cl_tellLeg h hI hk (by omega)) ?_
      refine go_i2l 136 dX6_sum_135 ?_
      refine go_ladd 137 dX6_sum_136 ?_
      refine go_lstore_n 138 dX6_sum_137 (by decide) ?_
      refine go_iinc 141 dX6_sum_138 rfl (by decide) zc_1 ?_
      refine go_goto 116 dX6_sum_141 ?_
      rw [nI_1]
      exact go_locals _ rfl (ih (j + 1) _ (by omega) hF)

set_option maxRecDepth 100000 in
set_option maxHeartbeats 4000000 in
theorem lpo1_sum {l : Launch} {Γ : ZG} {w : ZW} {T : LT} {m : Nat} {sg : ZSg} {A V : LA} {tm : Option Nat} {e : Nat} {D : ZD} (h : LX Γ w T m sg A V tm e D) (hI : Ix D) (hs : SegD sg D) {Φ : Option Value → ZW → Prop} {F : Int64} (kk : Go l Γ mX6_sum 5 0 0 Φ zNo 0 0 w 54 [(0, .ref e), (1, .long F)] []) : ∀ (f k : Nat) (v : Int64), k + f = nP D → itr (ckP D) k f v = F → Go l Γ mX6_sum 5 0 0 Φ zNo 0 0 w 8 [(0, .ref e), (1, .long v), (3, .int (nI k))] [] := by
  have hb : nP D ≤ 40 := by have := hI.1.2; omega
  intro f
  induction f with
  | zero =>
    intro k v hk9 hF
    have hF : v = F := hF
    subst hF
    refine go_iload_n 9 dX6_sum_8 rfl ?_
    refine go_aload_n 10 dX6_sum_9 rfl ?_
    refine gl_x h 13 dX6_sum_10 fX6_21 rfl ?_
    refine gl_nP h 14 dX6_sum_13 ?_
    refine go_icmp_ge 54 17 dX6_sum_14 (fun h14 => ?_) (fun h14 => ?_)
    · exact go_locals _ rfl kk
    · exact (lpE (a := nI (nP D)) (N := nP D) rfl (by omega) h14).elim
  | succ f ih =>
    intro k v hk9 hF
    have hk : k < nP D := by omega
    have K : Go l Γ mX6_sum 5 0 0 Φ zNo 0 0 w 48 [(0, .ref e), (1, .long (ckF (tellP D k) 0 6 v)), (3, .int (nI k))] [] := by
      refine go_iinc 51 dX6_sum_48 rfl (by decide) zc_1 ?_
      refine go_goto 8 dX6_sum_51 ?_
      rw [nI_1]
      exact go_locals _ rfl (ih (k + 1) _ (by omega) hF)
    refine go_iload_n 9 dX6_sum_8 rfl ?_
    refine go_aload_n 10 dX6_sum_9 rfl ?_
    refine gl_x h 13 dX6_sum_10 fX6_21 rfl ?_
    refine gl_nP h 14 dX6_sum_13 ?_
    refine go_icmp_ge 54 17 dX6_sum_14 (fun h14 => ?_) (fun h14 => ?_)
    · exact (lpG (a := nI (nP D)) (N := nP D) rfl (by omega) (by omega) h14).elim
    · refine go_iconst 18 dX6_sum_17 zc_0 ?_
      refine go_istore 20 dX6_sum_18 (by decide) ?_
      exact go_locals _ rfl (lpi1_sum h hI hs hk K 6 0 v rfl rfl)

set_option maxRecDepth 100000 in
set_option maxHeartbeats 4000000 in
theorem lpo2_sum {l : Launch} {Γ : ZG} {w : ZW} {T : LT} {m : Nat} {sg : ZSg} {A V : LA} {tm : Option Nat} {e : Nat} {D : ZD} (h : LX Γ w T m sg A V tm e D) (hV : Iv D) (hJ : JX D) (hs : SegD sg D) {Φ : Option Value → ZW → Prop} {F : Int64} (kk : Go l Γ mX6_sum 5 0 0 Φ zNo 0 0 w 102 [(0, .ref e), (1, .long F)] []) : ∀ (f k : Nat) (v : Int64), k + f = nC D → itr (ckC D) k f v = F → Go l Γ mX6_sum 5 0 0 Φ zNo 0 0 w 56 [(0, .ref e), (1, .long v), (3, .int (nI k))] [] := by
  have hb : nC D ≤ 40 := by have := hV.1.2.1.2; omega
  intro f
  induction f with
  | zero =>
    intro k v hk9 hF
    have hF : v = F := hF
    subst hF
    refine go_iload_n 57 dX6_sum_56 rfl ?_
    refine go_aload_n 58 dX6_sum_57 rfl ?_
    refine gl_x h 61 dX6_sum_58 fX6_27 rfl ?_
    refine gl_nC h 62 dX6_sum_61 ?_
    refine go_icmp_ge 102 65 dX6_sum_62 (fun h62 => ?_) (fun h62 => ?_)
    · exact go_locals _ rfl kk
    · exact (lpE (a := nI (nC D)) (N := nC D) rfl (by omega) h62).elim
  | succ f ih =>
    intro k v hk9 hF
    have hk : k < nC D := by omega
    have K : Go l Γ mX6_sum 5 0 0 Φ zNo 0 0 w 96 [(0, .ref e), (1, .long (ckF (tellC D k) 0 6 v)), (3, .int (nI k))] [] := by
      refine go_iinc 99 dX6_sum_96 rfl (by decide) zc_1 ?_
      refine go_goto 56 dX6_sum_99 ?_
      rw [nI_1]
      exact go_locals _ rfl (ih (k + 1) _ (by omega) hF)
    refine go_iload_n 57 dX6_sum_56 rfl ?_
    refine go_aload_n 58 dX6_sum_57 rfl ?_
    refine gl_x h 61 dX6_sum_58 fX6_27 rfl ?_
    refine gl_nC h 62 dX6_sum_61 ?_
    refine go_icmp_ge 102 65 dX6_sum_62 (fun h62 => ?_) (fun h62 => ?_)
    · exact (lpG (a := nI (nC D)) (N := nC D) rfl (by omega) (by omega) h62).elim
    · refine go_iconst 66 dX6_sum_65 zc_0 ?_
      refine go_istore 68 dX6_sum_66 (by decide) ?_
      exact go_locals _ rfl (lpi2_sum h hV hJ hs hk K 6 0 v rfl rfl)

set_option maxRecDepth 100000 in
set_option maxHeartbeats 4000000 in
theorem lpo3_sum {l : Launch} {Γ : ZG} {w : ZW} {T : LT} {m : Nat} {sg : ZSg} {A V : LA} {tm : Option Nat} {e : Nat} {D : ZD} (h : LX Γ w T m sg A V tm e D) (hI : Ix D) {Φ : Option Value → ZW → Prop} {F : Int64} (kk : Go l Γ mX6_sum 5 0 0 Φ zNo 0 0 w 176 [(0, .ref e), (1, .long F)] []) : ∀ (f k : Nat) (v : Int64), k + f = nL D → itr (ckL D) k f v = F → Go l Γ mX6_sum 5 0 0 Φ zNo 0 0 w 104 [(0, .ref e), (1, .long v), (3, .int (nI k))] [] := by
  have hb : nL D ≤ 40 := by have := hI.2.2.1.2; omega
  intro f
  induction f with
  | zero =>
    intro k v hk9 hF
    have hF : v = F := hF
    subst hF
    refine go_iload_n 105 dX6_sum_104 rfl ?_
    refine go_aload_n 106 dX6_sum_105 rfl ?_
    refine gl_x h 109 dX6_sum_106 fX6_33 rfl ?_
    refine gl_nL h 110 dX6_sum_109 ?_
    refine go_icmp_ge 176 113 dX6_sum_110 (fun h110 => ?_) (fun h110 => ?_)
    · exact go_locals _ rfl kk
    · exact (lpE (a := nI (nL D)) (N := nL D) rfl (by omega) h110).elim
  | succ f ih =>
    intro k v hk9 hF
    have hk : k < nL D := by omega
    have K : Go l Γ mX6_sum 5 0 0 Φ zNo 0 0 w 144 [(0, .ref e), (1, .long (ckF (dL D k) 0 6 v)), (3, .int (nI k))] [] := by
      refine go_ldc2 147 dX6_sum_144 clX6_164 ?_
      refine go_ldc2 150 dX6_sum_147 clX6_164 ?_
      refine go_lload_n 151 dX6_sum_150 rfl ?_
      refine go_lmul 152 dX6_sum_151 ?_
      refine go_aload_n 153 dX6_sum_152 rfl ?_
      refine go_iload_n 154 dX6_sum_153 rfl ?_
      refine go_iconst 155 dX6_sum_154 zc_0 ?_
      refine gcV2 158 dX6_sum_155 vX6_176 h.x.1 rfl (cl_due (s := 0) h hI hk (by decide)) ?_
      refine go_i2l 159 dX6_sum_158 ?_
      refine go_ladd 160 dX6_sum_159 ?_
      refine go_lmul 161 dX6_sum_160 ?_
      refine go_aload_n 162 dX6_sum_161 rfl ?_
      refine go_iload_n 163 dX6_sum_162 rfl ?_
      refine go_iconst 164 dX6_sum_163 zc_1 ?_
      refine gcV2 167 dX6_sum_164 vX6_176 h.x.1 rfl (cl_due (s := 1) h hI hk (by decide)) ?_
      refine go_i2l 168 dX6_sum_167 ?_
      refine go_ladd 169 dX6_sum_168 ?_
      refine go_lstore_n 170 dX6_sum_169 (by decide) ?_
      refine go_iinc 173 dX6_sum_170 rfl (by decide) zc_1 ?_
      refine go_goto 104 dX6_sum_173 ?_
      rw [nI_1]
      exact go_locals _ rfl (ih (k + 1) _ (by omega) hF)
    refine go_iload_n 105 dX6_sum_104 rfl ?_
    refine go_aload_n 106 dX6_sum_105 rfl ?_
    refine gl_x h 109 dX6_sum_106 fX6_33 rfl ?_
    refine gl_nL h 110 dX6_sum_109 ?_
    refine go_icmp_ge 176 113 dX6_sum_110 (fun h110 => ?_) (fun h110 => ?_)
    · exact (lpG (a := nI (nL D)) (N := nL D) rfl (by omega) (by omega) h110).elim
    · refine go_iconst 114 dX6_sum_113 zc_0 ?_
      refine go_istore 116 dX6_sum_114 (by decide) ?_
      exact go_locals _ rfl (lpi3_sum h hI hk K 6 0 v rfl rfl)

set_option maxRecDepth 100000 in
set_option maxHeartbeats 4000000 in
theorem lpt_sum {l : Launch} {Γ : ZG} {w : ZW} {T : LT} {m : Nat} {sg : ZSg} {A V : LA} {tm : Option Nat} {e : Nat} {D : ZD} (h : LX Γ w T m sg A V tm e D) {Φ : Option Value → ZW → Prop} {F : Int64} (kk : Go l Γ mX6_sum 5 0 0 Φ zNo 0 0 w 217 [(1, .long F)] []) : ∀ (f j : Nat) (v : Int64), j + f = 7 → ckF (fun j => D (9 + j)) j f v = F → Go l Γ mX6_sum 5 0 0 Φ zNo 0 0 w 188 [(0, .ref e), (1, .long v), (3, .ref (A 8 3)), (4, .int 7), (5, .int (nI j))] [] := by
  intro f
  induction f with
  | zero =>
    intro j v hj hF
    have hF : v = F := hF
    subst hF
    refine go_iload 190 dX6_sum_188 rfl ?_
    refine go_iload 192 dX6_sum_190 rfl ?_
    refine go_icmp_ge 217 195 dX6_sum_192 (fun h192 => ?_) (fun h192 => ?_)
    · exact go_locals _ rfl kk
    · exact (lpE (a := 7) (N := 7) rfl (by omega) h192).elim
  | succ f ih =>
    intro j v hj hF
    refine go_iload 190 dX6_sum_188 rfl ?_
    refine go_iload 192 dX6_sum_190 rfl ?_
    refine go_icmp_ge 217 195 dX6_sum_192 (fun h192 => ?_) (fun h192 => ?_)
    · exact (lpG (a := 7) (N := 7) rfl (by decide) (by omega) h192).elim
    · refine go_aload_n 196 dX6_sum_195 rfl ?_
      refine go_iload 198 dX6_sum_196 rfl ?_
      refine gl_ti h rfl (by omega) 199 dX6_sum_198 ?_
      refine go_istore 201 dX6_sum_199 (by decide) ?_
      refine go_ldc2 204 dX6_sum_201 clX6_164 ?_
      refine go_lload_n 205 dX6_sum_204 rfl ?_
      refine go_lmul 206 dX6_sum_205 ?_
      refine go_iload 208 dX6_sum_206 rfl ?_
      refine go_i2l 209 dX6_sum_208 ?_
      refine go_ladd 210 dX6_sum_209 ?_
      refine go_lstore_n 211 dX6_sum_210 (by decide) ?_
      refine go_iinc 214 dX6_sum_211 rfl (by decide) zc_1 ?_
      refine go_goto 188 dX6_sum_214 ?_
      rw [nI_1]
      exact go_locals _ rfl (ih (j + 1) _ (by omega) hF)

set_option maxRecDepth 100000 in
set_option maxHeartbeats 4000000 in
theorem cl_sum {l : Launch} {Γ : ZG} {w : ZW} {T : LT} {m : Nat} {sg : ZSg} {A V : LA} {tm : Option Nat} {e : Nat} {D : ZD} (h : LX Γ w T m sg A V tm e D) (hV : Iv D) (hJ : JX D) (hs : SegD sg D) : Cm l Γ mX6_sum 5 [.ref e] w (some (.long (chk D))) w := by
  have hI := hV.1
  have K217 : Go l Γ mX6_sum 5 0 0 (fun v w2 => v = some (.long (chk D)) ∧ w2 = w) zNo 0 0 w 217 [(1, .long (chk D))] [] := by
    refine go_lload_n 218 dX6_sum_217 rfl ?_
    exact go_lreturn dX6_sum_218 rfl (by omega) (by omega) (⟨rfl, rfl⟩)
  have K176 : Go l Γ mX6_sum 5 0 0 (fun v w2 => v = some (.long (chk D)) ∧ w2 = w) zNo 0 0 w 176 [(0, .ref e), (1, .long (itr (ckL D) 0 (nL D) (itr (ckC D) 0 (nC D) (itr (ckP D) 0 (nP D) (D 0).toInt64))))] [] := by
    refine go_aload_n 177 dX6_sum_176 rfl ?_
    refine gl_x h 180 dX6_sum_177 fX6_37 rfl ?_
    refine go_astore_n 181 dX6_sum_180 (by decide) ?_
    refine go_aload_n 182 dX6_sum_181 rfl ?_
    refine gl_nT h 183 dX6_sum_182 ?_
    refine go_istore 185 dX6_sum_183 (by decide) ?_
    refine go_iconst 186 dX6_sum_185 zc_0 ?_
    refine go_istore 188 dX6_sum_186 (by decide) ?_
    exact go_locals _ rfl (lpt_sum h K217 7 0 _ rfl rfl)
  have K102 : Go l Γ mX6_sum 5 0 0 (fun v w2 => v = some (.long (chk D)) ∧ w2 = w) zNo 0 0 w 102 [(0, .ref e), (1, .long (itr (ckC D) 0 (nC D) (itr (ckP D) 0 (nP D) (D 0).toInt64)))] [] := by
    refine go_iconst 103 dX6_sum_102 zc_0 ?_
    refine go_istore_n 104 dX6_sum_103 (by decide) ?_
    exact go_locals _ rfl (lpo3_sum h hI K176 _ 0 _ (Nat.zero_add _) rfl)
  have K54 : Go l Γ mX6_sum 5 0 0 (fun v w2 => v = some (.long (chk D)) ∧ w2 = w) zNo 0 0 w 54 [(0, .ref e), (1, .long (itr (ckP D) 0 (nP D) (D 0).toInt64))] [] := by
    refine go_iconst 55 dX6_sum_54 zc_0 ?_
    refine go_istore_n 56 dX6_sum_55 (by decide) ?_
    exact go_locals _ rfl (lpo2_sum h hV hJ hs K102 _ 0 _ (Nat.zero_add _) rfl)
  refine Cm.of (by decide) rfl (Nat.le_of_ble_eq_true rfl) ?_
  refine go_aload_n 1 dX6_sum_0 rfl ?_
  refine gl_x h 4 dX6_sum_1 fX6_41 rfl ?_
  refine go_i2l 5 dX6_sum_4 ?_
  refine go_lstore_n 6 dX6_sum_5 (by decide) ?_
  refine go_iconst 7 dX6_sum_6 zc_0 ?_
  refine go_istore_n 8 dX6_sum_7 (by decide) ?_
  exact go_locals _ rfl (lpo1_sum h hI hs K54 _ 0 _ (Nat.zero_add _) rfl)

end LTell
