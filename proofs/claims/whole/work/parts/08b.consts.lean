section GoConst
variable {l : Launch} {Γ : ZG} {M : ZM} {dp mc ms : Nat} {Φ : Option Value → ZW → Prop} {Ψ : String → ZW → Prop} {k n : Nat} {w : ZW} {pc : Nat} {L : ZL} {st : List Value}
theorem go_ldc2 {index : Nat} {v : Int64} (pc' : Nat) (hd : decode M.2.1 pc = .ok (.ldc2_w index, 3)) (hc : Cond.constantLong M.1.cls index v ∈ zGood) (kk : Go l Γ M dp mc ms Φ Ψ k n w pc' L (.long v :: st)) (hp : pc + 3 = pc' := by rfl) : Go l Γ M dp mc ms Φ Ψ k n w pc L st := by
  subst hp
  exact fun p e s m args below meth c C H locs ls hl hH hS => lv_ldc2 C.1 C.2.1 C.own (C.good hc) hd (kk p e s m args below meth c C H locs ls hl hH hS)
theorem go_ldc {index : Nat} {v : Int32} (pc' : Nat) (hd : decode M.2.1 pc = .ok (.ldc index, 2)) (hc : Cond.constant M.1.cls index v ∈ zGood) (kk : Go l Γ M dp mc ms Φ Ψ k n w pc' L (.int v :: st)) (hp : pc + 2 = pc' := by rfl) : Go l Γ M dp mc ms Φ Ψ k n w pc L st := by
  subst hp
  exact fun p e s m args below meth c C H locs ls hl hH hS => lv_ldc C.1 C.2.1 C.own (C.good hc) hd (kk p e s m args below meth c C H locs ls hl hH hS)
theorem go_ldcS {index : Nat} {tx : String} (pc' : Nat) (hd : decode M.2.1 pc = .ok (.ldc index, 2)) (hs : (M.1.cls, index, tx) ∈ zStr) (kk : Go l Γ M dp mc ms Φ Ψ k n w pc' L (.ref (Γ.2.2.2.1 M.1.cls index) :: st)) (hp : pc + 2 = pc' := by rfl) : Go l Γ M dp mc ms Φ Ψ k n w pc L st := by
  subst hp
  exact fun p e s m args below meth c C H locs ls hl hH hS => va_ldcS C.1 C.2.1 C.own (C.stat.2.2.2.2.2.1 _ hs).1 hd (kk p e s m args below meth c C H locs ls hl hH hS)
end GoConst
theorem clX5_193 : Cond.constantLong RX5 193 (31) ∈ zGood := zGood.mem 334 (by decide +kernel) rfl
theorem ciX3_187 : Cond.constant RX3 187 (100000) ∈ zGood := zGood.mem 524 (by decide +kernel) rfl
theorem ciJ6_265 : Cond.constant RJ6 265 (1431655765) ∈ zGood := zGood.mem 838 (by decide +kernel) rfl
theorem ciJ6_266 : Cond.constant RJ6 266 (858993459) ∈ zGood := zGood.mem 839 (by decide +kernel) rfl
theorem ciJ6_267 : Cond.constant RJ6 267 (252645135) ∈ zGood := zGood.mem 840 (by decide +kernel) rfl
theorem ciX2_33 : Cond.constant RX2 33 (-1000000) ∈ zGood := zGood.mem 886 (by decide +kernel) rfl
theorem ciX2_34 : Cond.constant RX2 34 (1000000) ∈ zGood := zGood.mem 887 (by decide +kernel) rfl
theorem ciX6_93 : Cond.constant RX6 93 (1000000) ∈ zGood := zGood.mem 1082 (by decide +kernel) rfl
theorem clX6_226 : Cond.constantLong RX6 226 (30) ∈ zGood := zGood.mem 1318 (by decide +kernel) rfl
theorem clX6_218 : Cond.constantLong RX6 218 (1000000) ∈ zGood := zGood.mem 1325 (by decide +kernel) rfl
theorem clX6_220 : Cond.constantLong RX6 220 (-1000000) ∈ zGood := zGood.mem 1326 (by decide +kernel) rfl
theorem clX6_232 : Cond.constantLong RX6 232 (99) ∈ zGood := zGood.mem 1327 (by decide +kernel) rfl
theorem clX6_301 : Cond.constantLong RX6 301 (31) ∈ zGood := zGood.mem 1356 (by decide +kernel) rfl
theorem sX5_215 : (RX5, 215, "no such party") ∈ zStr := by decide +kernel
theorem sX5_222 : (RX5, 222, "a number is out of range") ∈ zStr := by decide +kernel
theorem sX5_218 : (RX5, 218, "no such call") ∈ zStr := by decide +kernel
theorem sX5_220 : (RX5, 220, "no such leg") ∈ zStr := by decide +kernel
theorem sX3_61 : (RX3, 61, "exchange") ∈ zStr := by decide +kernel
theorem sX3_96 : (RX3, 96, "party") ∈ zStr := by decide +kernel
theorem sX3_101 : (RX3, 101, "wait") ∈ zStr := by decide +kernel
theorem sX3_106 : (RX3, 106, "patience") ∈ zStr := by decide +kernel
theorem sX3_111 : (RX3, 111, "ring") ∈ zStr := by decide +kernel
theorem sX3_156 : (RX3, 156, "legs") ∈ zStr := by decide +kernel
theorem sX3_158 : (RX3, 158, "caller") ∈ zStr := by decide +kernel
theorem sX3_160 : (RX3, 160, "referred") ∈ zStr := by decide +kernel
theorem sX3_162 : (RX3, 162, "time") ∈ zStr := by decide +kernel
theorem sX5_101 : (RX5, 101, "what is out of range") ∈ zStr := by decide +kernel
theorem sX5_133 : (RX5, 133, "no offer is pending") ∈ zStr := by decide +kernel
theorem sX5_142 : (RX5, 142, "the time would be too late") ∈ zStr := by decide +kernel
theorem sX5_147 : (RX5, 147, "not a set of other parties") ∈ zStr := by decide +kernel
theorem sX5_157 : (RX5, 157, "no call can begin") ∈ zStr := by decide +kernel
theorem sX5_164 : (RX5, 164, "no transfer can begin") ∈ zStr := by decide +kernel
theorem sX5_170 : (RX5, 170, "the target is in the leg") ∈ zStr := by decide +kernel
theorem sX5_178 : (RX5, 178, "the party is in no talking leg") ∈ zStr := by decide +kernel
theorem sX6_153 : (RX6, 153, "exchange") ∈ zStr := by decide +kernel
theorem sX6_135 : (RX6, 135, "party") ∈ zStr := by decide +kernel
theorem sX6_140 : (RX6, 140, "wait") ∈ zStr := by decide +kernel
theorem sX6_145 : (RX6, 145, "patience") ∈ zStr := by decide +kernel
theorem sX6_147 : (RX6, 147, "ring") ∈ zStr := by decide +kernel
theorem sX6_108 : (RX6, 108, "legs") ∈ zStr := by decide +kernel
theorem sX6_114 : (RX6, 114, "caller") ∈ zStr := by decide +kernel
theorem sX6_116 : (RX6, 116, "referred") ∈ zStr := by decide +kernel
theorem sX6_118 : (RX6, 118, "time") ∈ zStr := by decide +kernel
