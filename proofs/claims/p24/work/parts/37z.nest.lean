theorem vnX5_28 : zVin RX5 28 mX3_init 0 := ⟨⟨"CallForks", zNest.mem 135 (by decide +kernel) rfl⟩, zGood.mem 179 (by decide +kernel) rfl, rfl, kX3_init, by decide +kernel, rfl, rfl⟩
theorem vnL_112 : zVin RL 112 mX6_init 0 := ⟨⟨"CallForksLaw", zNest.mem 233 (by decide +kernel) rfl⟩, zGood.mem 277 (by decide +kernel) rfl, rfl, kX6_init, by decide +kernel, rfl, rfl⟩
theorem vnX6_52 : zVin RX6 52 mX10_init 0 := ⟨⟨"CallForksLaw", zNest.mem 293 (by decide +kernel) rfl⟩, zGood.mem 337 (by decide +kernel) rfl, rfl, kX10_init, by decide +kernel, rfl, rfl⟩
theorem vnX6_63 : zVin RX6 63 mX7_init 0 := ⟨⟨"CallForksLaw", zNest.mem 320 (by decide +kernel) rfl⟩, zGood.mem 364 (by decide +kernel) rfl, rfl, kX7_init, by decide +kernel, rfl, rfl⟩
theorem vnX2_35 : zVn RX2 35 mX5_limit 3 := ⟨⟨"CallForks", zNest.mem 967 (by decide +kernel) rfl⟩, zGood.mem 1011 (by decide +kernel) rfl, kX5_limit, by decide +kernel⟩
theorem vnX0_157 : zVn RX0 157 mX5_limit 3 := ⟨⟨"CallForks", zNest.mem 970 (by decide +kernel) rfl⟩, zGood.mem 1011 (by decide +kernel) rfl, kX5_limit, by decide +kernel⟩
