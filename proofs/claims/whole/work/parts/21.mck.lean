section MCk
set_option maxRecDepth 100000 in
set_option maxHeartbeats 4000000 in
theorem lpi_ck_P {l : Launch} {Γ : ZG} {w : ZW} {o : Nat} {S : MS} {D : ZD} {Φ : Option Value → ZW → Prop} (hI : Iv D) {k : Nat} (hk : k < nP D) {R : Int64} (kk : Go l Γ mX6_checksum 8 0 0 Φ zNo 0 0 (wD Γ w o S D) 56 [(0, .ref o), (1, .long R), (3, .int (nI k))] []) : ∀ (f j : Nat) (v : Int64), j + f = 6 → ckF (tellP D k) j f v = R → Go l Γ mX6_checksum 8 0 0 Φ zNo 0 0 (wD Γ w o S D) 28 [(0, .ref o), (1, .long v), (3, .int (nI k)), (4, .int (nI j))] [] := by
  have hp10 : nP D ≤ 10 := hI.1.1.2
  have hl40 : nL D ≤ 40 := hI.1.2.2.1.2
  have hc20 : nC D ≤ 20 := hI.1.2.1.2
  intro f
  induction f with
  | zero =>
    intro j v hif he
    refine go_iload 30 dX6_checksum_28 rfl ?_
    refine go_bipush 32 dX6_checksum_30 zb_6 ?_
    refine go_icmp_ge 56 35 dX6_checksum_32 (fun h32 => ?_) (fun h32 => ?_)
    · have he2 : v = R := he
      subst he2
      exact go_locals _ rfl kk
    · exact (lpE (a := 6) (N := 6) rfl (by omega) h32).elim
  | succ f ih =>
    intro j v hif he
    refine go_iload 30 dX6_checksum_28 rfl ?_
    refine go_bipush 32 dX6_checksum_30 zb_6 ?_
    refine go_icmp_ge 56 35 dX6_checksum_32 (fun h32 => ?_) (fun h32 => ?_)
    · exact (lpG (a := 6) (N := 6) rfl (by decide) (by omega) h32).elim
    · refine go_ldc2 38 dX6_checksum_35 clX6_301 ?_
      refine go_lload_n 39 dX6_checksum_38 rfl ?_
      refine go_lmul 40 dX6_checksum_39 ?_
      refine go_aload_n 41 dX6_checksum_40 rfl ?_
      refine go_iload_n 42 dX6_checksum_41 rfl ?_
      refine go_iload 44 dX6_checksum_42 rfl ?_
      refine gdV2 47 dX6_checksum_44 vX6_277 (ct_X6_tellParty hI.1 rfl rfl (by omega) (by omega)) ?_
      refine go_i2l 48 dX6_checksum_47 ?_
      refine go_ladd 49 dX6_checksum_48 ?_
      refine go_lstore_n 50 dX6_checksum_49 (by decide) ?_
      refine go_iinc 53 dX6_checksum_50 rfl (by decide) zc_1 ?_
      refine go_goto 28 dX6_checksum_53 ?_
      rw [nI_1]
      exact go_locals _ rfl (ih (j + 1) _ (by omega) he)

set_option maxRecDepth 100000 in
set_option maxHeartbeats 4000000 in
theorem lpi_ck_C {l : Launch} {Γ : ZG} {w : ZW} {o : Nat} {S : MS} {D : ZD} {Φ : Option Value → ZW → Prop} (hI : Iv D) {k : Nat} (hk : k < nC D) {R : Int64} (kk : Go l Γ mX6_checksum 8 0 0 Φ zNo 0 0 (wD Γ w o S D) 105 [(0, .ref o), (1, .long R), (3, .int (nI k))] []) : ∀ (f j : Nat) (v : Int64), j + f = 6 → ckF (tellC D k) j f v = R → Go l Γ mX6_checksum 8 0 0 Φ zNo 0 0 (wD Γ w o S D) 77 [(0, .ref o), (1, .long v), (3, .int (nI k)), (4, .int (nI j))] [] := by
  have hp10 : nP D ≤ 10 := hI.1.1.2
  have hl40 : nL D ≤ 40 := hI.1.2.2.1.2
  have hc20 : nC D ≤ 20 := hI.1.2.1.2
  intro f
  induction f with
  | zero =>
    intro j v hif he
    refine go_iload 79 dX6_checksum_77 rfl ?_
    refine go_bipush 81 dX6_checksum_79 zb_6 ?_
    refine go_icmp_ge 105 84 dX6_checksum_81 (fun h81 => ?_) (fun h81 => ?_)
    · have he2 : v = R := he
      subst he2
      exact go_locals _ rfl kk
    · exact (lpE (a := 6) (N := 6) rfl (by omega) h81).elim
  | succ f ih =>
    intro j v hif he
    refine go_iload 79 dX6_checksum_77 rfl ?_
    refine go_bipush 81 dX6_checksum_79 zb_6 ?_
    refine go_icmp_ge 105 84 dX6_checksum_81 (fun h81 => ?_) (fun h81 => ?_)
    · exact (lpG (a := 6) (N := 6) rfl (by decide) (by omega) h81).elim
    · refine go_ldc2 87 dX6_checksum_84 clX6_301 ?_
      refine go_lload_n 88 dX6_checksum_87 rfl ?_
      refine go_lmul 89 dX6_checksum_88 ?_
      refine go_aload_n 90 dX6_checksum_89 rfl ?_
      refine go_iload_n 91 dX6_checksum_90 rfl ?_
      refine go_iload 93 dX6_checksum_91 rfl ?_
      refine gdV2 96 dX6_checksum_93 vX6_283 (ct_X6_tellCall hI.1 rfl rfl (by omega) (by omega)) ?_
      refine go_i2l 97 dX6_checksum_96 ?_
      refine go_ladd 98 dX6_checksum_97 ?_
      refine go_lstore_n 99 dX6_checksum_98 (by decide) ?_
      refine go_iinc 102 dX6_checksum_99 rfl (by decide) zc_1 ?_
      refine go_goto 77 dX6_checksum_102 ?_
      rw [nI_1]
      exact go_locals _ rfl (ih (j + 1) _ (by omega) he)

set_option maxRecDepth 100000 in
set_option maxHeartbeats 4000000 in
theorem lpi_ck_L {l : Launch} {Γ : ZG} {w : ZW} {o : Nat} {S : MS} {D : ZD} {Φ : Option Value → ZW → Prop} (hI : Iv D) {k : Nat} (hk : k < nL D) {R : Int64} (kk : Go l Γ mX6_checksum 8 0 0 Φ zNo 0 0 (wD Γ w o S D) 155 [(0, .ref o), (1, .long R), (3, .int (nI k))] []) : ∀ (f j : Nat) (v : Int64), j + f = 6 → ckF (dL D k) j f v = R → Go l Γ mX6_checksum 8 0 0 Φ zNo 0 0 (wD Γ w o S D) 127 [(0, .ref o), (1, .long v), (3, .int (nI k)), (4, .int (nI j))] [] := by
  have hp10 : nP D ≤ 10 := hI.1.1.2
  have hl40 : nL D ≤ 40 := hI.1.2.2.1.2
  have hc20 : nC D ≤ 20 := hI.1.2.1.2
  intro f
  induction f with
  | zero =>
    intro j v hif he
    refine go_iload 129 dX6_checksum_127 rfl ?_
    refine go_bipush 131 dX6_checksum_129 zb_6 ?_
    refine go_icmp_ge 155 134 dX6_checksum_131 (fun h131 => ?_) (fun h131 => ?_)
    · have he2 : v = R := he
      subst he2
      exact go_locals _ rfl kk
    · exact (lpE (a := 6) (N := 6) rfl (by omega) h131).elim
  | succ f ih =>
    intro j v hif he
    refine go_iload 129 dX6_checksum_127 rfl ?_
    refine go_bipush 131 dX6_checksum_129 zb_6 ?_
    refine go_icmp_ge 155 134 dX6_checksum_131 (fun h131 => ?_) (fun h131 => ?_)
    · exact (lpG (a := 6) (N := 6) rfl (by decide) (by omega) h131).elim
    · refine go_ldc2 137 dX6_checksum_134 clX6_301 ?_
      refine go_lload_n 138 dX6_checksum_137 rfl ?_
      refine go_lmul 139 dX6_checksum_138 ?_
      refine go_aload_n 140 dX6_checksum_139 rfl ?_
      refine go_iload_n 141 dX6_checksum_140 rfl ?_
      refine go_iload 143 dX6_checksum_141 rfl ?_
      refine gdV2 146 dX6_checksum_143 vX6_171 (ct_X6_ofLeg rfl rfl (by omega)) ?_
      refine go_i2l 147 dX6_checksum_146 ?_
      refine go_ladd 148 dX6_checksum_147 ?_
      refine go_lstore_n 149 dX6_checksum_148 (by decide) ?_
      refine go_iinc 152 dX6_checksum_149 rfl (by decide) zc_1 ?_
      refine go_goto 127 dX6_checksum_152 ?_
      rw [nI_1]
      exact go_locals _ rfl (ih (j + 1) _ (by omega) he)

set_option maxRecDepth 100000 in
set_option maxHeartbeats 4000000 in
theorem lpo_ck_P {l : Launch} {Γ : ZG} {w : ZW} {o : Nat} {S : MS} {D : ZD} {Φ : Option Value → ZW → Prop} (hI : Iv D) {R : Int64} (kk : Go l Γ mX6_checksum 8 0 0 Φ zNo 0 0 (wD Γ w o S D) 62 [(0, .ref o), (1, .long R)] []) : ∀ (f k : Nat) (v : Int64), k + f = nP D → itr (ckP D) k f v = R → Go l Γ mX6_checksum 8 0 0 Φ zNo 0 0 (wD Γ w o S D) 15 [(0, .ref o), (1, .long v), (3, .int (nI k))] [] := by
  have hp10 : nP D ≤ 10 := hI.1.1.2
  have hl40 : nL D ≤ 40 := hI.1.2.2.1.2
  have hc20 : nC D ≤ 20 := hI.1.2.1.2
  intro f
  induction f with
  | zero =>
    intro k v hif he
    refine go_iload_n 16 dX6_checksum_15 rfl ?_
    refine go_aload_n 17 dX6_checksum_16 rfl ?_
    refine gd_get 20 dX6_checksum_17 fX6_17 rfl ?_
    refine go_iconst 21 dX6_checksum_20 zc_4 ?_
    refine gd_iald 22 (4) dX6_checksum_21 rfl (by decide) ?_
    refine go_icmp_ge 62 25 dX6_checksum_22 (fun h22 => ?_) (fun h22 => ?_)
    · have he2 : v = R := he
      subst he2
      exact go_locals _ rfl kk
    · exact (lpE hI.1.1.1 (by omega) h22).elim
  | succ f ih =>
    intro k v hif he
    refine go_iload_n 16 dX6_checksum_15 rfl ?_
    refine go_aload_n 17 dX6_checksum_16 rfl ?_
    refine gd_get 20 dX6_checksum_17 fX6_17 rfl ?_
    refine go_iconst 21 dX6_checksum_20 zc_4 ?_
    refine gd_iald 22 (4) dX6_checksum_21 rfl (by decide) ?_
    refine go_icmp_ge 62 25 dX6_checksum_22 (fun h22 => ?_) (fun h22 => ?_)
    · exact (lpG hI.1.1.1 (by omega) (by omega) h22).elim
    · refine go_iconst 26 dX6_checksum_25 zc_0 ?_
      refine go_istore 28 dX6_checksum_26 (by decide) ?_
      refine go_locals [(0, .ref o), (1, .long v), (3, .int (nI k)), (4, .int (nI 0))] rfl ?_
      refine lpi_ck_P hI (k := k) (R := ckF (tellP D k) 0 6 v) (by omega) ?_ 6 0 v (by omega) rfl
      refine go_iinc 59 dX6_checksum_56 rfl (by decide) zc_1 ?_
      refine go_goto 15 dX6_checksum_59 ?_
      rw [nI_1]
      exact go_locals _ rfl (ih (k + 1) _ (by omega) he)

set_option maxRecDepth 100000 in
set_option maxHeartbeats 4000000 in
theorem lpo_ck_C {l : Launch} {Γ : ZG} {w : ZW} {o : Nat} {S : MS} {D : ZD} {Φ : Option Value → ZW → Prop} (hI : Iv D) {R : Int64} (kk : Go l Γ mX6_checksum 8 0 0 Φ zNo 0 0 (wD Γ w o S D) 111 [(0, .ref o), (1, .long R)] []) : ∀ (f k : Nat) (v : Int64), k + f = nC D → itr (ckC D) k f v = R → Go l Γ mX6_checksum 8 0 0 Φ zNo 0 0 (wD Γ w o S D) 64 [(0, .ref o), (1, .long v), (3, .int (nI k))] [] := by
  have hp10 : nP D ≤ 10 := hI.1.1.2
  have hl40 : nL D ≤ 40 := hI.1.2.2.1.2
  have hc20 : nC D ≤ 20 := hI.1.2.1.2
  intro f
  induction f with
  | zero =>
    intro k v hif he
    refine go_iload_n 65 dX6_checksum_64 rfl ?_
    refine go_aload_n 66 dX6_checksum_65 rfl ?_
    refine gd_get 69 dX6_checksum_66 fX6_17 rfl ?_
    refine go_iconst 70 dX6_checksum_69 zc_5 ?_
    refine gd_iald 71 (5) dX6_checksum_70 rfl (by decide) ?_
    refine go_icmp_ge 111 74 dX6_checksum_71 (fun h71 => ?_) (fun h71 => ?_)
    · have he2 : v = R := he
      subst he2
      exact go_locals _ rfl kk
    · exact (lpE hI.1.2.1.1 (by omega) h71).elim
  | succ f ih =>
    intro k v hif he
    refine go_iload_n 65 dX6_checksum_64 rfl ?_
    refine go_aload_n 66 dX6_checksum_65 rfl ?_
    refine gd_get 69 dX6_checksum_66 fX6_17 rfl ?_
    refine go_iconst 70 dX6_checksum_69 zc_5 ?_
    refine gd_iald 71 (5) dX6_checksum_70 rfl (by decide) ?_
    refine go_icmp_ge 111 74 dX6_checksum_71 (fun h71 => ?_) (fun h71 => ?_)
    · exact (lpG hI.1.2.1.1 (by omega) (by omega) h71).elim
    · refine go_iconst 75 dX6_checksum_74 zc_0 ?_
      refine go_istore 77 dX6_checksum_75 (by decide) ?_
      refine go_locals [(0, .ref o), (1, .long v), (3, .int (nI k)), (4, .int (nI 0))] rfl ?_
      refine lpi_ck_C hI (k := k) (R := ckF (tellC D k) 0 6 v) (by omega) ?_ 6 0 v (by omega) rfl
      refine go_iinc 108 dX6_checksum_105 rfl (by decide) zc_1 ?_
      refine go_goto 64 dX6_checksum_108 ?_
      rw [nI_1]
      exact go_locals _ rfl (ih (k + 1) _ (by omega) he)

set_option maxRecDepth 100000 in
set_option maxHeartbeats 4000000 in
theorem lpo_ck_L {l : Launch} {Γ : ZG} {w : ZW} {o : Nat} {S : MS} {D : ZD} {Φ : Option Value → ZW → Prop} (hI : Iv D) {R : Int64} (kk : Go l Γ mX6_checksum 8 0 0 Φ zNo 0 0 (wD Γ w o S D) 189 [(0, .ref o), (1, .long R)] []) : ∀ (f k : Nat) (v : Int64), k + f = nL D → itr (ckL D) k f v = R → Go l Γ mX6_checksum 8 0 0 Φ zNo 0 0 (wD Γ w o S D) 113 [(0, .ref o), (1, .long v), (3, .int (nI k))] [] := by
  have hp10 : nP D ≤ 10 := hI.1.1.2
  have hl40 : nL D ≤ 40 := hI.1.2.2.1.2
  have hc20 : nC D ≤ 20 := hI.1.2.1.2
  intro f
  induction f with
  | zero =>
    intro k v hif he
    refine go_iload_n 114 dX6_checksum_113 rfl ?_
    refine go_aload_n 115 dX6_checksum_114 rfl ?_
    refine gd_get 118 dX6_checksum_115 fX6_17 rfl ?_
    refine go_bipush 120 dX6_checksum_118 zb_6 ?_
    refine gd_iald 121 (6) dX6_checksum_120 rfl (by decide) ?_
    refine go_icmp_ge 189 124 dX6_checksum_121 (fun h121 => ?_) (fun h121 => ?_)
    · have he2 : v = R := he
      subst he2
      exact go_locals _ rfl kk
    · exact (lpE hI.1.2.2.1.1 (by omega) h121).elim
  | succ f ih =>
    intro k v hif he
    refine go_iload_n 114 dX6_checksum_113 rfl ?_
    refine go_aload_n 115 dX6_checksum_114 rfl ?_
    refine gd_get 118 dX6_checksum_115 fX6_17 rfl ?_
    refine go_bipush 120 dX6_checksum_118 zb_6 ?_
    refine gd_iald 121 (6) dX6_checksum_120 rfl (by decide) ?_
    refine go_icmp_ge 189 124 dX6_checksum_121 (fun h121 => ?_) (fun h121 => ?_)
    · exact (lpG hI.1.2.2.1.1 (by omega) (by omega) h121).elim
    · refine go_iconst 125 dX6_checksum_124 zc_0 ?_
      refine go_istore 127 dX6_checksum_125 (by decide) ?_
      refine go_locals [(0, .ref o), (1, .long v), (3, .int (nI k)), (4, .int (nI 0))] rfl ?_
      refine lpi_ck_L hI (k := k) (R := ckF (dL D k) 0 6 v) (by omega) ?_ 6 0 v (by omega) rfl
      refine go_ldc2 158 dX6_checksum_155 clX6_301 ?_
      refine go_ldc2 161 dX6_checksum_158 clX6_301 ?_
      refine go_lload_n 162 dX6_checksum_161 rfl ?_
      refine go_lmul 163 dX6_checksum_162 ?_
      refine go_aload_n 164 dX6_checksum_163 rfl ?_
      refine go_iload_n 165 dX6_checksum_164 rfl ?_
      refine go_bipush 167 dX6_checksum_165 zb_9 ?_
      refine gdV2 170 dX6_checksum_167 vX6_171 (ct_X6_ofLeg (j := 9) rfl rfl (by omega)) ?_
      refine go_i2l 171 dX6_checksum_170 ?_
      refine go_ladd 172 dX6_checksum_171 ?_
      refine go_lmul 173 dX6_checksum_172 ?_
      refine go_aload_n 174 dX6_checksum_173 rfl ?_
      refine go_iload_n 175 dX6_checksum_174 rfl ?_
      refine go_bipush 177 dX6_checksum_175 zb_10 ?_
      refine gdV2 180 dX6_checksum_177 vX6_171 (ct_X6_ofLeg (j := 10) rfl rfl (by omega)) ?_
      refine go_i2l 181 dX6_checksum_180 ?_
      refine go_ladd 182 dX6_checksum_181 ?_
      refine go_lstore_n 183 dX6_checksum_182 (by decide) ?_
      refine go_iinc 186 dX6_checksum_183 rfl (by decide) zc_1 ?_
      refine go_goto 113 dX6_checksum_186 ?_
      rw [nI_1]
      exact go_locals _ rfl (ih (k + 1) _ (by omega) he)

set_option maxRecDepth 100000 in
set_option maxHeartbeats 4000000 in
theorem lpo_ck_T {l : Launch} {Γ : ZG} {w : ZW} {o : Nat} {S : MS} {D : ZD} {Φ : Option Value → ZW → Prop} {R : Int64} (kk : Go l Γ mX6_checksum 8 0 0 Φ zNo 0 0 (wD Γ w o S D) 220 [(0, .ref o), (1, .long R)] []) : ∀ (f k : Nat) (v : Int64), k + f = 7 → ckF (fun j => D (9 + j)) k f v = R → Go l Γ mX6_checksum 8 0 0 Φ zNo 0 0 (wD Γ w o S D) 191 [(0, .ref o), (1, .long v), (3, .int (nI k))] [] := by
  intro f
  induction f with
  | zero =>
    intro k v hif he
    refine go_iload_n 192 dX6_checksum_191 rfl ?_
    refine go_bipush 194 dX6_checksum_192 zb_7 ?_
    refine go_icmp_ge 220 197 dX6_checksum_194 (fun h194 => ?_) (fun h194 => ?_)
    · have he2 : v = R := he
      subst he2
      exact go_locals _ rfl kk
    · exact (lpE (a := 7) (N := 7) rfl (by omega) h194).elim
  | succ f ih =>
    intro k v hif he
    refine go_iload_n 192 dX6_checksum_191 rfl ?_
    refine go_bipush 194 dX6_checksum_192 zb_7 ?_
    refine go_icmp_ge 220 197 dX6_checksum_194 (fun h194 => ?_) (fun h194 => ?_)
    · exact (lpG (a := 7) (N := 7) rfl (by decide) (by omega) h194).elim
    · refine go_ldc2 200 dX6_checksum_197 clX6_301 ?_
      refine go_lload_n 201 dX6_checksum_200 rfl ?_
      refine go_lmul 202 dX6_checksum_201 ?_
      refine go_aload_n 203 dX6_checksum_202 rfl ?_
      refine gd_get 206 dX6_checksum_203 fX6_17 rfl ?_
      refine go_bipush 208 dX6_checksum_206 zb_9 ?_
      refine go_iload_n 209 dX6_checksum_208 rfl ?_
      refine go_iadd 210 dX6_checksum_209 ?_
      refine gd_iald 211 (9 + k) dX6_checksum_210 (ix2 9 k _ rfl) (by omega) ?_
      refine go_i2l 212 dX6_checksum_211 ?_
      refine go_ladd 213 dX6_checksum_212 ?_
      refine go_lstore_n 214 dX6_checksum_213 (by decide) ?_
      refine go_iinc 217 dX6_checksum_214 rfl (by decide) zc_1 ?_
      refine go_goto 191 dX6_checksum_217 ?_
      rw [nI_1]
      exact go_locals _ rfl (ih (k + 1) _ (by omega) he)

set_option maxRecDepth 100000 in
set_option maxHeartbeats 4000000 in
theorem ct_X6_checksum {l : Launch} {Γ : ZG} {w : ZW} {o : Nat} {S : MS} {D : ZD} (hI : Iv D) : Cm l Γ mX6_checksum 8 [.ref o] (wD Γ w o S D) (some (.long (chk D))) (wD Γ w o (mf S 0 0) D) := by
  refine Cm.of (by decide) rfl (Nat.le_of_ble_eq_true rfl) ?_
  refine go_aload_n 1 dX6_checksum_0 rfl ?_
  refine go_iconst 2 dX6_checksum_1 zc_0 ?_
  refine gd_put 5 dX6_checksum_2 pX6_39 rfl (by decide) ?_
  refine go_aload_n 6 dX6_checksum_5 rfl ?_
  refine gd_get 9 dX6_checksum_6 fX6_17 rfl ?_
  refine go_iconst 10 dX6_checksum_9 zc_0 ?_
  refine gd_iald 11 (0) dX6_checksum_10 rfl (by decide) ?_
  refine go_i2l 12 dX6_checksum_11 ?_
  refine go_lstore_n 13 dX6_checksum_12 (by decide) ?_
  refine go_iconst 14 dX6_checksum_13 zc_0 ?_
  refine go_istore_n 15 dX6_checksum_14 (by decide) ?_
  refine go_locals [(0, .ref o), (1, .long _), (3, .int (nI 0))] rfl ?_
  refine lpo_ck_P hI ?_ (nP D) 0 _ (by omega) rfl
  refine go_iconst 63 dX6_checksum_62 zc_0 ?_
  refine go_istore_n 64 dX6_checksum_63 (by decide) ?_
  refine go_locals [(0, .ref o), (1, .long _), (3, .int (nI 0))] rfl ?_
  refine lpo_ck_C hI ?_ (nC D) 0 _ (by omega) rfl
  refine go_iconst 112 dX6_checksum_111 zc_0 ?_
  refine go_istore_n 113 dX6_checksum_112 (by decide) ?_
  refine go_locals [(0, .ref o), (1, .long _), (3, .int (nI 0))] rfl ?_
  refine lpo_ck_L hI ?_ (nL D) 0 _ (by omega) rfl
  refine go_iconst 190 dX6_checksum_189 zc_0 ?_
  refine go_istore_n 191 dX6_checksum_190 (by decide) ?_
  refine go_locals [(0, .ref o), (1, .long _), (3, .int (nI 0))] rfl ?_
  refine lpo_ck_T ?_ 7 0 _ (by omega) rfl
  refine go_lload_n 221 dX6_checksum_220 rfl ?_
  exact go_lreturn dX6_checksum_221 rfl (by omega) (by omega) (⟨rfl, rfl⟩)
end MCk
