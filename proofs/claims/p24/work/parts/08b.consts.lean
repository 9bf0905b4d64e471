section GoConst
variable {l : Launch} {Γ : ZG} {M : ZM} {dp mc ms : Nat} {Φ : Option Value → ZW → Prop} {Ψ : String → ZW → Prop} {k n : Nat} {w : ZW} {pc : Nat} {L : ZL} {st : List Value}
theorem go_ldc2 {index : Nat} {v : Int64} (pc' : Nat) (hd : decode M.2.1 pc = .ok (.ldc2_w index, 3)) (hc : Cond.constantLong M.1.cls index v ∈ zGood) (kk : Go l Γ M dp mc ms Φ Ψ k n w pc' L (.long v :: st)) (hp : pc + 3 = pc' := by rfl) : Go l Γ M dp mc ms Φ Ψ k n w pc L st := by
  subst hp
  exact fun p e s m args below meth c C H locs ls hl hH hS => lv_ldc2 C.1 C.2.1 C.own (C.good hc) hd (kk p e s m args below meth c C H locs ls hl hH hS)
theorem go_ldc {index : Nat} {v : Int32} (pc' : Nat) (hd : decode M.2.1 pc = .ok (.ldc index, 2)) (hc : Cond.constant M.1.cls index v ∈ zGood) (kk : Go l Γ M dp mc ms Φ Ψ k n w pc' L (.int v :: st)) (hp : pc + 2 = pc' := by rfl) : Go l Γ M dp mc ms Φ Ψ k n w pc L st := by
  subst hp
  exact fun p e s m args below meth c C H locs ls hl hH hS => lv_ldc C.1 C.2.1 C.own (C.good hc) hd (kk p e s m args below meth c C H locs ls hl hH hS)
theorem go_ldcS {index : Nat} {tx : String} (pc' : Nat) (hd : decode M.2.1 pc = .ok (.ldc index, 2)) (hs : (M.1.cls, index, tx) ∈ zStr) (kk : Go l Γ M dp mc ms Φ Ψ k n w pc' L (.ref (Γ.2.2.2.1 M.1.cls index) :: st)) (hp : pc + 2 = pc' := by rfl) : Go l Γ M dp mc ms Φ Ψ k n w pc L st := by
  subst hp
  exact fun p e s m args below meth c C H locs ls hl hH hS => va_ldcS C.1 C.2.1 C.own (C.stat.2.2.2.2.2.1 _ hs).1 hd (kk p e s m args below meth c C H locs ls hl hH hS)
end GoConst
theorem clX6_130 : Cond.constantLong RX6 130 (30) ∈ zGood := zGood.mem 436 (by decide +kernel) rfl
theorem clX8_76 : Cond.constantLong RX8 76 (-1000000) ∈ zGood := zGood.mem 442 (by decide +kernel) rfl
theorem clX8_78 : Cond.constantLong RX8 78 (1000000) ∈ zGood := zGood.mem 443 (by decide +kernel) rfl
theorem clX6_138 : Cond.constantLong RX6 138 (99) ∈ zGood := zGood.mem 450 (by decide +kernel) rfl
theorem ciX9_13 : Cond.constant RX9 13 (1103515245) ∈ zGood := zGood.mem 511 (by decide +kernel) rfl
theorem ciX3_187 : Cond.constant RX3 187 (100000) ∈ zGood := zGood.mem 614 (by decide +kernel) rfl
theorem ciL_42 : Cond.constant RL 42 (-2000000098) ∈ zGood := zGood.mem 770 (by decide +kernel) rfl
theorem ciL_52 : Cond.constant RL 52 (-2000000097) ∈ zGood := zGood.mem 824 (by decide +kernel) rfl
theorem ciL_64 : Cond.constant RL 64 (-2000000100) ∈ zGood := zGood.mem 825 (by decide +kernel) rfl
theorem ciJ6_265 : Cond.constant RJ6 265 (1431655765) ∈ zGood := zGood.mem 960 (by decide +kernel) rfl
theorem ciJ6_266 : Cond.constant RJ6 266 (858993459) ∈ zGood := zGood.mem 961 (by decide +kernel) rfl
theorem ciJ6_267 : Cond.constant RJ6 267 (252645135) ∈ zGood := zGood.mem 962 (by decide +kernel) rfl
theorem ciX2_33 : Cond.constant RX2 33 (-1000000) ∈ zGood := zGood.mem 1008 (by decide +kernel) rfl
theorem ciX2_34 : Cond.constant RX2 34 (1000000) ∈ zGood := zGood.mem 1009 (by decide +kernel) rfl
theorem ciL_85 : Cond.constant RL 85 (-2000000099) ∈ zGood := zGood.mem 1018 (by decide +kernel) rfl
theorem ciJ2_20 : Cond.constant RJ2 20 (1073741823) ∈ zGood := zGood.mem 1171 (by decide +kernel) rfl
theorem ciJ8_200 : Cond.constant RJ8 200 (2147483639) ∈ zGood := zGood.mem 1211 (by decide +kernel) rfl
theorem ciJ5_39 : Cond.constant RJ5 39 (2147483647) ∈ zGood := zGood.mem 1215 (by decide +kernel) rfl
theorem clX5_193 : Cond.constantLong RX5 193 (31) ∈ zGood := zGood.mem 1397 (by decide +kernel) rfl
theorem clX6_164 : Cond.constantLong RX6 164 (31) ∈ zGood := zGood.mem 1420 (by decide +kernel) rfl
theorem sX5_222 : (RX5, 222, "a number is out of range") ∈ zStr := by decide +kernel
theorem sX3_61 : (RX3, 61, "exchange") ∈ zStr := by decide +kernel
theorem sX3_96 : (RX3, 96, "party") ∈ zStr := by decide +kernel
theorem sX3_101 : (RX3, 101, "wait") ∈ zStr := by decide +kernel
theorem sX3_106 : (RX3, 106, "patience") ∈ zStr := by decide +kernel
theorem sX3_111 : (RX3, 111, "ring") ∈ zStr := by decide +kernel
theorem sX3_156 : (RX3, 156, "legs") ∈ zStr := by decide +kernel
theorem sX3_158 : (RX3, 158, "caller") ∈ zStr := by decide +kernel
theorem sX3_160 : (RX3, 160, "referred") ∈ zStr := by decide +kernel
theorem sX3_162 : (RX3, 162, "time") ∈ zStr := by decide +kernel
theorem sX5_220 : (RX5, 220, "no such leg") ∈ zStr := by decide +kernel
theorem sX5_133 : (RX5, 133, "no offer is pending") ∈ zStr := by decide +kernel
theorem sX5_218 : (RX5, 218, "no such call") ∈ zStr := by decide +kernel
theorem sX5_142 : (RX5, 142, "the time would be too late") ∈ zStr := by decide +kernel
theorem sX5_215 : (RX5, 215, "no such party") ∈ zStr := by decide +kernel
theorem sX5_147 : (RX5, 147, "not a set of other parties") ∈ zStr := by decide +kernel
theorem sX5_157 : (RX5, 157, "no call can begin") ∈ zStr := by decide +kernel
theorem sX5_164 : (RX5, 164, "no transfer can begin") ∈ zStr := by decide +kernel
theorem sX5_170 : (RX5, 170, "the target is in the leg") ∈ zStr := by decide +kernel
theorem sX5_178 : (RX5, 178, "the party is in no talking leg") ∈ zStr := by decide +kernel
theorem sL_113 : (RL, 113, "exchange;") ∈ zStr := by decide +kernel
theorem sL_126 : (RL, 126, "party") ∈ zStr := by decide +kernel
theorem sL_103 : (RL, 103, " ") ∈ zStr := by decide +kernel
theorem sL_108 : (RL, 108, ";") ∈ zStr := by decide +kernel
theorem sL_138 : (RL, 138, "wait") ∈ zStr := by decide +kernel
theorem sL_143 : (RL, 143, "patience") ∈ zStr := by decide +kernel
theorem sL_154 : (RL, 154, "ring ") ∈ zStr := by decide +kernel
theorem sX8_37 : (RX8, 37, "") ∈ zStr := by decide +kernel
theorem sJ7_337 : (RJ7, 337, " > ") ∈ zStr := by decide +kernel
theorem sX8_60 : (RX8, 60, "+") ∈ zStr := by decide +kernel
theorem sX8_62 : (RX8, 62, " - ") ∈ zStr := by decide +kernel
theorem sX8_64 : (RX8, 64, "* ") ∈ zStr := by decide +kernel
theorem sX8_66 : (RX8, 66, "/") ∈ zStr := by decide +kernel
theorem sX8_68 : (RX8, 68, "(") ∈ zStr := by decide +kernel
theorem sX8_70 : (RX8, 70, ")") ∈ zStr := by decide +kernel
theorem sL_160 : (RL, 160, " ;") ∈ zStr := by decide +kernel
theorem sX5_101 : (RX5, 101, "what is out of range") ∈ zStr := by decide +kernel
theorem sL_294 : (RL, 294, "legs") ∈ zStr := by decide +kernel
theorem sL_295 : (RL, 295, "caller") ∈ zStr := by decide +kernel
theorem sL_296 : (RL, 296, "referred") ∈ zStr := by decide +kernel
theorem sL_298 : (RL, 298, "time") ∈ zStr := by decide +kernel
