theorem dX6_init_0 : decode cX6_init 0 = .ok (.aload_n 0, 1) := by decide +kernel
theorem dX6_init_1 : decode cX6_init 1 = .ok (.invokespecial 1, 3) := by decide +kernel
theorem dX6_init_4 : decode cX6_init 4 = .ok (.aload_n 0, 1) := by decide +kernel
theorem dX6_init_5 : decode cX6_init 5 = .ok (.iconst 3, 1) := by decide +kernel
theorem dX6_init_6 : decode cX6_init 6 = .ok (.putfield 7, 3) := by decide +kernel
theorem dX6_init_9 : decode cX6_init 9 = .ok (.aload_n 0, 1) := by decide +kernel
theorem dX6_init_10 : decode cX6_init 10 = .ok (.iconst 5, 1) := by decide +kernel
theorem dX6_init_11 : decode cX6_init 11 = .ok (.putfield 13, 3) := by decide +kernel
theorem dX6_init_14 : decode cX6_init 14 = .ok (.aload_n 0, 1) := by decide +kernel
theorem dX6_init_15 : decode cX6_init 15 = .ok (.bipush 20, 2) := by decide +kernel
theorem dX6_init_17 : decode cX6_init 17 = .ok (.putfield 16, 3) := by decide +kernel
theorem dX6_init_20 : decode cX6_init 20 = .ok (.aload_n 0, 1) := by decide +kernel
theorem dX6_init_21 : decode cX6_init 21 = .ok (.iconst 0, 1) := by decide +kernel
theorem dX6_init_22 : decode cX6_init 22 = .ok (.anewarray 19, 3) := by decide +kernel
theorem dX6_init_25 : decode cX6_init 25 = .ok (.putfield 21, 3) := by decide +kernel
theorem dX6_init_28 : decode cX6_init 28 = .ok (.aload_n 0, 1) := by decide +kernel
theorem dX6_init_29 : decode cX6_init 29 = .ok (.iconst 0, 1) := by decide +kernel
theorem dX6_init_30 : decode cX6_init 30 = .ok (.anewarray 25, 3) := by decide +kernel
theorem dX6_init_33 : decode cX6_init 33 = .ok (.putfield 27, 3) := by decide +kernel
theorem dX6_init_36 : decode cX6_init 36 = .ok (.aload_n 0, 1) := by decide +kernel
theorem dX6_init_37 : decode cX6_init 37 = .ok (.iconst 0, 1) := by decide +kernel
theorem dX6_init_38 : decode cX6_init 38 = .ok (.anewarray 31, 3) := by decide +kernel
theorem dX6_init_41 : decode cX6_init 41 = .ok (.putfield 33, 3) := by decide +kernel
theorem dX6_init_44 : decode cX6_init 44 = .ok (.aload_n 0, 1) := by decide +kernel
theorem dX6_init_45 : decode cX6_init 45 = .ok (.bipush 7, 2) := by decide +kernel
theorem dX6_init_47 : decode cX6_init 47 = .ok (.newarray .int, 2) := by decide +kernel
theorem dX6_init_49 : decode cX6_init 49 = .ok (.putfield 37, 3) := by decide +kernel
theorem dX6_init_52 : decode cX6_init 52 = .ok (.return_, 1) := by decide +kernel
theorem dX6_copy_0 : decode cX6_copy 0 = .ok (.new 8, 3) := by decide +kernel
theorem dX6_copy_3 : decode cX6_copy 3 = .ok (.dup, 1) := by decide +kernel
theorem dX6_copy_4 : decode cX6_copy 4 = .ok (.invokespecial 40, 3) := by decide +kernel
theorem dX6_copy_7 : decode cX6_copy 7 = .ok (.astore_n 1, 1) := by decide +kernel
theorem dX6_copy_8 : decode cX6_copy 8 = .ok (.aload_n 1, 1) := by decide +kernel
theorem dX6_copy_9 : decode cX6_copy 9 = .ok (.aload_n 0, 1) := by decide +kernel
theorem dX6_copy_10 : decode cX6_copy 10 = .ok (.getfield 41, 3) := by decide +kernel
theorem dX6_copy_13 : decode cX6_copy 13 = .ok (.putfield 41, 3) := by decide +kernel
theorem dX6_copy_16 : decode cX6_copy 16 = .ok (.aload_n 1, 1) := by decide +kernel
theorem dX6_copy_17 : decode cX6_copy 17 = .ok (.aload_n 0, 1) := by decide +kernel
theorem dX6_copy_18 : decode cX6_copy 18 = .ok (.getfield 7, 3) := by decide +kernel
theorem dX6_copy_21 : decode cX6_copy 21 = .ok (.putfield 7, 3) := by decide +kernel
theorem dX6_copy_24 : decode cX6_copy 24 = .ok (.aload_n 1, 1) := by decide +kernel
theorem dX6_copy_25 : decode cX6_copy 25 = .ok (.aload_n 0, 1) := by decide +kernel
theorem dX6_copy_26 : decode cX6_copy 26 = .ok (.getfield 13, 3) := by decide +kernel
theorem dX6_copy_29 : decode cX6_copy 29 = .ok (.putfield 13, 3) := by decide +kernel
theorem dX6_copy_32 : decode cX6_copy 32 = .ok (.aload_n 1, 1) := by decide +kernel
theorem dX6_copy_33 : decode cX6_copy 33 = .ok (.aload_n 0, 1) := by decide +kernel
theorem dX6_copy_34 : decode cX6_copy 34 = .ok (.getfield 16, 3) := by decide +kernel
theorem dX6_copy_37 : decode cX6_copy 37 = .ok (.putfield 16, 3) := by decide +kernel
theorem dX6_copy_40 : decode cX6_copy 40 = .ok (.aload_n 1, 1) := by decide +kernel
theorem dX6_copy_41 : decode cX6_copy 41 = .ok (.aload_n 0, 1) := by decide +kernel
theorem dX6_copy_42 : decode cX6_copy 42 = .ok (.getfield 44, 3) := by decide +kernel
theorem dX6_copy_45 : decode cX6_copy 45 = .ok (.putfield 44, 3) := by decide +kernel
theorem dX6_copy_48 : decode cX6_copy 48 = .ok (.aload_n 1, 1) := by decide +kernel
theorem dX6_copy_49 : decode cX6_copy 49 = .ok (.aload_n 0, 1) := by decide +kernel
theorem dX6_copy_50 : decode cX6_copy 50 = .ok (.getfield 37, 3) := by decide +kernel
theorem dX6_copy_53 : decode cX6_copy 53 = .ok (.invokevirtual 48, 3) := by decide +kernel
theorem dX6_copy_56 : decode cX6_copy 56 = .ok (.checkcast 19, 3) := by decide +kernel
theorem dX6_copy_59 : decode cX6_copy 59 = .ok (.putfield 37, 3) := by decide +kernel
theorem dX6_copy_62 : decode cX6_copy 62 = .ok (.aload_n 1, 1) := by decide +kernel
theorem dX6_copy_63 : decode cX6_copy 63 = .ok (.aload_n 0, 1) := by decide +kernel
theorem dX6_copy_64 : decode cX6_copy 64 = .ok (.getfield 21, 3) := by decide +kernel
theorem dX6_copy_67 : decode cX6_copy 67 = .ok (.arraylength, 1) := by decide +kernel
theorem dX6_copy_68 : decode cX6_copy 68 = .ok (.anewarray 19, 3) := by decide +kernel
theorem dX6_copy_71 : decode cX6_copy 71 = .ok (.putfield 21, 3) := by decide +kernel
theorem dX6_copy_74 : decode cX6_copy 74 = .ok (.iconst 0, 1) := by decide +kernel
theorem dX6_copy_75 : decode cX6_copy 75 = .ok (.istore_n 2, 1) := by decide +kernel
theorem dX6_copy_76 : decode cX6_copy 76 = .ok (.iload_n 2, 1) := by decide +kernel
theorem dX6_copy_77 : decode cX6_copy 77 = .ok (.aload_n 0, 1) := by decide +kernel
theorem dX6_copy_78 : decode cX6_copy 78 = .ok (.getfield 21, 3) := by decide +kernel
theorem dX6_copy_81 : decode cX6_copy 81 = .ok (.arraylength, 1) := by decide +kernel
theorem dX6_copy_82 : decode cX6_copy 82 = .ok (.if_icmp .ge 27, 3) := by decide +kernel
theorem dX6_copy_85 : decode cX6_copy 85 = .ok (.aload_n 1, 1) := by decide +kernel
theorem dX6_copy_86 : decode cX6_copy 86 = .ok (.getfield 21, 3) := by decide +kernel
theorem dX6_copy_89 : decode cX6_copy 89 = .ok (.iload_n 2, 1) := by decide +kernel
theorem dX6_copy_90 : decode cX6_copy 90 = .ok (.aload_n 0, 1) := by decide +kernel
theorem dX6_copy_91 : decode cX6_copy 91 = .ok (.getfield 21, 3) := by decide +kernel
theorem dX6_copy_94 : decode cX6_copy 94 = .ok (.iload_n 2, 1) := by decide +kernel
theorem dX6_copy_95 : decode cX6_copy 95 = .ok (.aaload, 1) := by decide +kernel
theorem dX6_copy_96 : decode cX6_copy 96 = .ok (.invokevirtual 48, 3) := by decide +kernel
theorem dX6_copy_99 : decode cX6_copy 99 = .ok (.checkcast 19, 3) := by decide +kernel
theorem dX6_copy_102 : decode cX6_copy 102 = .ok (.aastore, 1) := by decide +kernel
theorem dX6_copy_103 : decode cX6_copy 103 = .ok (.iinc 2 1, 3) := by decide +kernel
theorem dX6_copy_106 : decode cX6_copy 106 = .ok (.goto (-30), 3) := by decide +kernel
theorem dX6_copy_109 : decode cX6_copy 109 = .ok (.aload_n 1, 1) := by decide +kernel
theorem dX6_copy_110 : decode cX6_copy 110 = .ok (.aload_n 0, 1) := by decide +kernel
theorem dX6_copy_111 : decode cX6_copy 111 = .ok (.getfield 27, 3) := by decide +kernel
theorem dX6_copy_114 : decode cX6_copy 114 = .ok (.arraylength, 1) := by decide +kernel
theorem dX6_copy_115 : decode cX6_copy 115 = .ok (.anewarray 25, 3) := by decide +kernel
theorem dX6_copy_118 : decode cX6_copy 118 = .ok (.putfield 27, 3) := by decide +kernel
theorem dX6_copy_121 : decode cX6_copy 121 = .ok (.aload_n 1, 1) := by decide +kernel
theorem dX6_copy_122 : decode cX6_copy 122 = .ok (.aload_n 0, 1) := by decide +kernel
theorem dX6_copy_123 : decode cX6_copy 123 = .ok (.getfield 33, 3) := by decide +kernel
theorem dX6_copy_126 : decode cX6_copy 126 = .ok (.arraylength, 1) := by decide +kernel
theorem dX6_copy_127 : decode cX6_copy 127 = .ok (.anewarray 31, 3) := by decide +kernel
theorem dX6_copy_130 : decode cX6_copy 130 = .ok (.putfield 33, 3) := by decide +kernel
theorem dX6_copy_133 : decode cX6_copy 133 = .ok (.iconst 0, 1) := by decide +kernel
theorem dX6_copy_134 : decode cX6_copy 134 = .ok (.istore_n 2, 1) := by decide +kernel
theorem dX6_copy_135 : decode cX6_copy 135 = .ok (.iload_n 2, 1) := by decide +kernel
theorem dX6_copy_136 : decode cX6_copy 136 = .ok (.aload_n 0, 1) := by decide +kernel
theorem dX6_copy_137 : decode cX6_copy 137 = .ok (.getfield 27, 3) := by decide +kernel
theorem dX6_copy_140 : decode cX6_copy 140 = .ok (.arraylength, 1) := by decide +kernel
theorem dX6_copy_141 : decode cX6_copy 141 = .ok (.if_icmp .ge 80, 3) := by decide +kernel
theorem dX6_copy_144 : decode cX6_copy 144 = .ok (.new 25, 3) := by decide +kernel
theorem dX6_copy_147 : decode cX6_copy 147 = .ok (.dup, 1) := by decide +kernel
theorem dX6_copy_148 : decode cX6_copy 148 = .ok (.invokespecial 52, 3) := by decide +kernel
theorem dX6_copy_151 : decode cX6_copy 151 = .ok (.astore_n 3, 1) := by decide +kernel
theorem dX6_copy_152 : decode cX6_copy 152 = .ok (.aload_n 3, 1) := by decide +kernel
theorem dX6_copy_153 : decode cX6_copy 153 = .ok (.aload_n 0, 1) := by decide +kernel
theorem dX6_copy_154 : decode cX6_copy 154 = .ok (.getfield 27, 3) := by decide +kernel
theorem dX6_copy_157 : decode cX6_copy 157 = .ok (.iload_n 2, 1) := by decide +kernel
theorem dX6_copy_158 : decode cX6_copy 158 = .ok (.aaload, 1) := by decide +kernel
theorem dX6_copy_159 : decode cX6_copy 159 = .ok (.getfield 53, 3) := by decide +kernel
theorem dX6_copy_162 : decode cX6_copy 162 = .ok (.putfield 53, 3) := by decide +kernel
theorem dX6_copy_165 : decode cX6_copy 165 = .ok (.aload_n 3, 1) := by decide +kernel
theorem dX6_copy_166 : decode cX6_copy 166 = .ok (.aload_n 0, 1) := by decide +kernel
theorem dX6_copy_167 : decode cX6_copy 167 = .ok (.getfield 27, 3) := by decide +kernel
theorem dX6_copy_170 : decode cX6_copy 170 = .ok (.iload_n 2, 1) := by decide +kernel
theorem dX6_copy_171 : decode cX6_copy 171 = .ok (.aaload, 1) := by decide +kernel
theorem dX6_copy_172 : decode cX6_copy 172 = .ok (.getfield 56, 3) := by decide +kernel
theorem dX6_copy_175 : decode cX6_copy 175 = .ok (.putfield 56, 3) := by decide +kernel
theorem dX6_copy_178 : decode cX6_copy 178 = .ok (.aload_n 3, 1) := by decide +kernel
theorem dX6_copy_179 : decode cX6_copy 179 = .ok (.aload_n 0, 1) := by decide +kernel
theorem dX6_copy_180 : decode cX6_copy 180 = .ok (.getfield 27, 3) := by decide +kernel
theorem dX6_copy_183 : decode cX6_copy 183 = .ok (.iload_n 2, 1) := by decide +kernel
theorem dX6_copy_184 : decode cX6_copy 184 = .ok (.aaload, 1) := by decide +kernel
theorem dX6_copy_185 : decode cX6_copy 185 = .ok (.getfield 59, 3) := by decide +kernel
theorem dX6_copy_188 : decode cX6_copy 188 = .ok (.putfield 59, 3) := by decide +kernel
theorem dX6_copy_191 : decode cX6_copy 191 = .ok (.aload_n 3, 1) := by decide +kernel
theorem dX6_copy_192 : decode cX6_copy 192 = .ok (.aload_n 0, 1) := by decide +kernel
theorem dX6_copy_193 : decode cX6_copy 193 = .ok (.getfield 27, 3) := by decide +kernel
theorem dX6_copy_196 : decode cX6_copy 196 = .ok (.iload_n 2, 1) := by decide +kernel
theorem dX6_copy_197 : decode cX6_copy 197 = .ok (.aaload, 1) := by decide +kernel
theorem dX6_copy_198 : decode cX6_copy 198 = .ok (.getfield 62, 3) := by decide +kernel
theorem dX6_copy_201 : decode cX6_copy 201 = .ok (.arraylength, 1) := by decide +kernel
theorem dX6_copy_202 : decode cX6_copy 202 = .ok (.anewarray 31, 3) := by decide +kernel
theorem dX6_copy_205 : decode cX6_copy 205 = .ok (.putfield 62, 3) := by decide +kernel
theorem dX6_copy_208 : decode cX6_copy 208 = .ok (.aload_n 1, 1) := by decide +kernel
theorem dX6_copy_209 : decode cX6_copy 209 = .ok (.getfield 27, 3) := by decide +kernel
theorem dX6_copy_212 : decode cX6_copy 212 = .ok (.iload_n 2, 1) := by decide +kernel
theorem dX6_copy_213 : decode cX6_copy 213 = .ok (.aload_n 3, 1) := by decide +kernel
theorem dX6_copy_214 : decode cX6_copy 214 = .ok (.aastore, 1) := by decide +kernel
theorem dX6_copy_215 : decode cX6_copy 215 = .ok (.iinc 2 1, 3) := by decide +kernel
theorem dX6_copy_218 : decode cX6_copy 218 = .ok (.goto (-83), 3) := by decide +kernel
theorem dX6_copy_221 : decode cX6_copy 221 = .ok (.iconst 0, 1) := by decide +kernel
theorem dX6_copy_222 : decode cX6_copy 222 = .ok (.istore_n 2, 1) := by decide +kernel
theorem dX6_copy_223 : decode cX6_copy 223 = .ok (.iload_n 2, 1) := by decide +kernel
theorem dX6_copy_224 : decode cX6_copy 224 = .ok (.aload_n 0, 1) := by decide +kernel
theorem dX6_copy_225 : decode cX6_copy 225 = .ok (.getfield 33, 3) := by decide +kernel
theorem dX6_copy_228 : decode cX6_copy 228 = .ok (.arraylength, 1) := by decide +kernel
theorem dX6_copy_229 : decode cX6_copy 229 = .ok (.if_icmp .ge 158, 3) := by decide +kernel
theorem dX6_copy_232 : decode cX6_copy 232 = .ok (.new 31, 3) := by decide +kernel
theorem dX6_copy_235 : decode cX6_copy 235 = .ok (.dup, 1) := by decide +kernel
theorem dX6_copy_236 : decode cX6_copy 236 = .ok (.invokespecial 63, 3) := by decide +kernel
theorem dX6_copy_239 : decode cX6_copy 239 = .ok (.astore_n 3, 1) := by decide +kernel
theorem dX6_copy_240 : decode cX6_copy 240 = .ok (.aload_n 3, 1) := by decide +kernel
theorem dX6_copy_241 : decode cX6_copy 241 = .ok (.aload_n 1, 1) := by decide +kernel
theorem dX6_copy_242 : decode cX6_copy 242 = .ok (.getfield 27, 3) := by decide +kernel
theorem dX6_copy_245 : decode cX6_copy 245 = .ok (.aload_n 0, 1) := by decide +kernel
theorem dX6_copy_246 : decode cX6_copy 246 = .ok (.aload_n 0, 1) := by decide +kernel
theorem dX6_copy_247 : decode cX6_copy 247 = .ok (.getfield 33, 3) := by decide +kernel
theorem dX6_copy_250 : decode cX6_copy 250 = .ok (.iload_n 2, 1) := by decide +kernel
theorem dX6_copy_251 : decode cX6_copy 251 = .ok (.aaload, 1) := by decide +kernel
theorem dX6_copy_252 : decode cX6_copy 252 = .ok (.getfield 64, 3) := by decide +kernel
theorem dX6_copy_255 : decode cX6_copy 255 = .ok (.invokevirtual 68, 3) := by decide +kernel
theorem dX6_copy_258 : decode cX6_copy 258 = .ok (.aaload, 1) := by decide +kernel
theorem dX6_copy_259 : decode cX6_copy 259 = .ok (.putfield 64, 3) := by decide +kernel
theorem dX6_copy_262 : decode cX6_copy 262 = .ok (.aload_n 3, 1) := by decide +kernel
theorem dX6_copy_263 : decode cX6_copy 263 = .ok (.aload_n 0, 1) := by decide +kernel
theorem dX6_copy_264 : decode cX6_copy 264 = .ok (.getfield 33, 3) := by decide +kernel
theorem dX6_copy_267 : decode cX6_copy 267 = .ok (.iload_n 2, 1) := by decide +kernel
theorem dX6_copy_268 : decode cX6_copy 268 = .ok (.aaload, 1) := by decide +kernel
theorem dX6_copy_269 : decode cX6_copy 269 = .ok (.getfield 72, 3) := by decide +kernel
theorem dX6_copy_272 : decode cX6_copy 272 = .ok (.putfield 72, 3) := by decide +kernel
theorem dX6_copy_275 : decode cX6_copy 275 = .ok (.aload_n 3, 1) := by decide +kernel
theorem dX6_copy_276 : decode cX6_copy 276 = .ok (.aload_n 0, 1) := by decide +kernel
theorem dX6_copy_277 : decode cX6_copy 277 = .ok (.getfield 33, 3) := by decide +kernel
theorem dX6_copy_280 : decode cX6_copy 280 = .ok (.iload_n 2, 1) := by decide +kernel
theorem dX6_copy_281 : decode cX6_copy 281 = .ok (.aaload, 1) := by decide +kernel
theorem dX6_copy_282 : decode cX6_copy 282 = .ok (.getfield 75, 3) := by decide +kernel
theorem dX6_copy_285 : decode cX6_copy 285 = .ok (.putfield 75, 3) := by decide +kernel
theorem dX6_copy_288 : decode cX6_copy 288 = .ok (.aload_n 3, 1) := by decide +kernel
theorem dX6_copy_289 : decode cX6_copy 289 = .ok (.aload_n 0, 1) := by decide +kernel
theorem dX6_copy_290 : decode cX6_copy 290 = .ok (.getfield 33, 3) := by decide +kernel
theorem dX6_copy_293 : decode cX6_copy 293 = .ok (.iload_n 2, 1) := by decide +kernel
theorem dX6_copy_294 : decode cX6_copy 294 = .ok (.aaload, 1) := by decide +kernel
theorem dX6_copy_295 : decode cX6_copy 295 = .ok (.getfield 78, 3) := by decide +kernel
theorem dX6_copy_298 : decode cX6_copy 298 = .ok (.putfield 78, 3) := by decide +kernel
theorem dX6_copy_301 : decode cX6_copy 301 = .ok (.aload_n 3, 1) := by decide +kernel
theorem dX6_copy_302 : decode cX6_copy 302 = .ok (.aload_n 0, 1) := by decide +kernel
theorem dX6_copy_303 : decode cX6_copy 303 = .ok (.getfield 33, 3) := by decide +kernel
theorem dX6_copy_306 : decode cX6_copy 306 = .ok (.iload_n 2, 1) := by decide +kernel
theorem dX6_copy_307 : decode cX6_copy 307 = .ok (.aaload, 1) := by decide +kernel
theorem dX6_copy_308 : decode cX6_copy 308 = .ok (.getfield 81, 3) := by decide +kernel
theorem dX6_copy_311 : decode cX6_copy 311 = .ok (.putfield 81, 3) := by decide +kernel
theorem dX6_copy_314 : decode cX6_copy 314 = .ok (.aload_n 3, 1) := by decide +kernel
theorem dX6_copy_315 : decode cX6_copy 315 = .ok (.aload_n 0, 1) := by decide +kernel
theorem dX6_copy_316 : decode cX6_copy 316 = .ok (.getfield 33, 3) := by decide +kernel
theorem dX6_copy_319 : decode cX6_copy 319 = .ok (.iload_n 2, 1) := by decide +kernel
theorem dX6_copy_320 : decode cX6_copy 320 = .ok (.aaload, 1) := by decide +kernel
theorem dX6_copy_321 : decode cX6_copy 321 = .ok (.getfield 84, 3) := by decide +kernel
theorem dX6_copy_324 : decode cX6_copy 324 = .ok (.putfield 84, 3) := by decide +kernel
theorem dX6_copy_327 : decode cX6_copy 327 = .ok (.aload_n 3, 1) := by decide +kernel
theorem dX6_copy_328 : decode cX6_copy 328 = .ok (.aload_n 0, 1) := by decide +kernel
theorem dX6_copy_329 : decode cX6_copy 329 = .ok (.getfield 33, 3) := by decide +kernel
theorem dX6_copy_332 : decode cX6_copy 332 = .ok (.iload_n 2, 1) := by decide +kernel
theorem dX6_copy_333 : decode cX6_copy 333 = .ok (.aaload, 1) := by decide +kernel
theorem dX6_copy_334 : decode cX6_copy 334 = .ok (.getfield 87, 3) := by decide +kernel
theorem dX6_copy_337 : decode cX6_copy 337 = .ok (.putfield 87, 3) := by decide +kernel
theorem dX6_copy_340 : decode cX6_copy 340 = .ok (.aload_n 3, 1) := by decide +kernel
theorem dX6_copy_341 : decode cX6_copy 341 = .ok (.getfield 90, 3) := by decide +kernel
theorem dX6_copy_344 : decode cX6_copy 344 = .ok (.iconst 0, 1) := by decide +kernel
theorem dX6_copy_345 : decode cX6_copy 345 = .ok (.aload_n 0, 1) := by decide +kernel
theorem dX6_copy_346 : decode cX6_copy 346 = .ok (.getfield 33, 3) := by decide +kernel
theorem dX6_copy_349 : decode cX6_copy 349 = .ok (.iload_n 2, 1) := by decide +kernel
theorem dX6_copy_350 : decode cX6_copy 350 = .ok (.aaload, 1) := by decide +kernel
theorem dX6_copy_351 : decode cX6_copy 351 = .ok (.getfield 90, 3) := by decide +kernel
theorem dX6_copy_354 : decode cX6_copy 354 = .ok (.iconst 0, 1) := by decide +kernel
theorem dX6_copy_355 : decode cX6_copy 355 = .ok (.aaload, 1) := by decide +kernel
theorem dX6_copy_356 : decode cX6_copy 356 = .ok (.aastore, 1) := by decide +kernel
theorem dX6_copy_357 : decode cX6_copy 357 = .ok (.aload_n 3, 1) := by decide +kernel
theorem dX6_copy_358 : decode cX6_copy 358 = .ok (.getfield 90, 3) := by decide +kernel
theorem dX6_copy_361 : decode cX6_copy 361 = .ok (.iconst 1, 1) := by decide +kernel
theorem dX6_copy_362 : decode cX6_copy 362 = .ok (.aload_n 0, 1) := by decide +kernel
theorem dX6_copy_363 : decode cX6_copy 363 = .ok (.getfield 33, 3) := by decide +kernel
theorem dX6_copy_366 : decode cX6_copy 366 = .ok (.iload_n 2, 1) := by decide +kernel
theorem dX6_copy_367 : decode cX6_copy 367 = .ok (.aaload, 1) := by decide +kernel
theorem dX6_copy_368 : decode cX6_copy 368 = .ok (.getfield 90, 3) := by decide +kernel
theorem dX6_copy_371 : decode cX6_copy 371 = .ok (.iconst 1, 1) := by decide +kernel
theorem dX6_copy_372 : decode cX6_copy 372 = .ok (.aaload, 1) := by decide +kernel
theorem dX6_copy_373 : decode cX6_copy 373 = .ok (.aastore, 1) := by decide +kernel
theorem dX6_copy_374 : decode cX6_copy 374 = .ok (.aload_n 1, 1) := by decide +kernel
theorem dX6_copy_375 : decode cX6_copy 375 = .ok (.getfield 33, 3) := by decide +kernel
theorem dX6_copy_378 : decode cX6_copy 378 = .ok (.iload_n 2, 1) := by decide +kernel
theorem dX6_copy_379 : decode cX6_copy 379 = .ok (.aload_n 3, 1) := by decide +kernel
theorem dX6_copy_380 : decode cX6_copy 380 = .ok (.aastore, 1) := by decide +kernel
theorem dX6_copy_381 : decode cX6_copy 381 = .ok (.iinc 2 1, 3) := by decide +kernel
theorem dX6_copy_384 : decode cX6_copy 384 = .ok (.goto (-161), 3) := by decide +kernel
theorem dX6_copy_387 : decode cX6_copy 387 = .ok (.iconst 0, 1) := by decide +kernel
theorem dX6_copy_388 : decode cX6_copy 388 = .ok (.istore_n 2, 1) := by decide +kernel
theorem dX6_copy_389 : decode cX6_copy 389 = .ok (.iload_n 2, 1) := by decide +kernel
theorem dX6_copy_390 : decode cX6_copy 390 = .ok (.aload_n 0, 1) := by decide +kernel
theorem dX6_copy_391 : decode cX6_copy 391 = .ok (.getfield 27, 3) := by decide +kernel
theorem dX6_copy_394 : decode cX6_copy 394 = .ok (.arraylength, 1) := by decide +kernel
theorem dX6_copy_395 : decode cX6_copy 395 = .ok (.if_icmp .ge 148, 3) := by decide +kernel
theorem dX6_copy_398 : decode cX6_copy 398 = .ok (.iconst 0, 1) := by decide +kernel
theorem dX6_copy_399 : decode cX6_copy 399 = .ok (.istore_n 3, 1) := by decide +kernel
theorem dX6_copy_400 : decode cX6_copy 400 = .ok (.iload_n 3, 1) := by decide +kernel
theorem dX6_copy_401 : decode cX6_copy 401 = .ok (.aload_n 0, 1) := by decide +kernel
theorem dX6_copy_402 : decode cX6_copy 402 = .ok (.getfield 27, 3) := by decide +kernel
theorem dX6_copy_405 : decode cX6_copy 405 = .ok (.iload_n 2, 1) := by decide +kernel
theorem dX6_copy_406 : decode cX6_copy 406 = .ok (.aaload, 1) := by decide +kernel
theorem dX6_copy_407 : decode cX6_copy 407 = .ok (.getfield 62, 3) := by decide +kernel
theorem dX6_copy_410 : decode cX6_copy 410 = .ok (.arraylength, 1) := by decide +kernel
theorem dX6_copy_411 : decode cX6_copy 411 = .ok (.if_icmp .ge 40, 3) := by decide +kernel
theorem dX6_copy_414 : decode cX6_copy 414 = .ok (.aload_n 1, 1) := by decide +kernel
theorem dX6_copy_415 : decode cX6_copy 415 = .ok (.getfield 27, 3) := by decide +kernel
theorem dX6_copy_418 : decode cX6_copy 418 = .ok (.iload_n 2, 1) := by decide +kernel
theorem dX6_copy_419 : decode cX6_copy 419 = .ok (.aaload, 1) := by decide +kernel
theorem dX6_copy_420 : decode cX6_copy 420 = .ok (.getfield 62, 3) := by decide +kernel
theorem dX6_copy_423 : decode cX6_copy 423 = .ok (.iload_n 3, 1) := by decide +kernel
theorem dX6_copy_424 : decode cX6_copy 424 = .ok (.aload_n 1, 1) := by decide +kernel
theorem dX6_copy_425 : decode cX6_copy 425 = .ok (.getfield 33, 3) := by decide +kernel
theorem dX6_copy_428 : decode cX6_copy 428 = .ok (.aload_n 0, 1) := by decide +kernel
theorem dX6_copy_429 : decode cX6_copy 429 = .ok (.aload_n 0, 1) := by decide +kernel
theorem dX6_copy_430 : decode cX6_copy 430 = .ok (.getfield 27, 3) := by decide +kernel
theorem dX6_copy_433 : decode cX6_copy 433 = .ok (.iload_n 2, 1) := by decide +kernel
theorem dX6_copy_434 : decode cX6_copy 434 = .ok (.aaload, 1) := by decide +kernel
theorem dX6_copy_435 : decode cX6_copy 435 = .ok (.getfield 62, 3) := by decide +kernel
theorem dX6_copy_438 : decode cX6_copy 438 = .ok (.iload_n 3, 1) := by decide +kernel
theorem dX6_copy_439 : decode cX6_copy 439 = .ok (.aaload, 1) := by decide +kernel
theorem dX6_copy_440 : decode cX6_copy 440 = .ok (.invokevirtual 93, 3) := by decide +kernel
theorem dX6_copy_443 : decode cX6_copy 443 = .ok (.aaload, 1) := by decide +kernel
theorem dX6_copy_444 : decode cX6_copy 444 = .ok (.aastore, 1) := by decide +kernel
theorem dX6_copy_445 : decode cX6_copy 445 = .ok (.iinc 3 1, 3) := by decide +kernel
theorem dX6_copy_448 : decode cX6_copy 448 = .ok (.goto (-48), 3) := by decide +kernel
theorem dX6_copy_451 : decode cX6_copy 451 = .ok (.aload_n 1, 1) := by decide +kernel
theorem dX6_copy_452 : decode cX6_copy 452 = .ok (.getfield 27, 3) := by decide +kernel
theorem dX6_copy_455 : decode cX6_copy 455 = .ok (.iload_n 2, 1) := by decide +kernel
theorem dX6_copy_456 : decode cX6_copy 456 = .ok (.aaload, 1) := by decide +kernel
theorem dX6_copy_457 : decode cX6_copy 457 = .ok (.aload_n 0, 1) := by decide +kernel
theorem dX6_copy_458 : decode cX6_copy 458 = .ok (.getfield 27, 3) := by decide +kernel
theorem dX6_copy_461 : decode cX6_copy 461 = .ok (.iload_n 2, 1) := by decide +kernel
theorem dX6_copy_462 : decode cX6_copy 462 = .ok (.aaload, 1) := by decide +kernel
theorem dX6_copy_463 : decode cX6_copy 463 = .ok (.getfield 97, 3) := by decide +kernel
theorem dX6_copy_466 : decode cX6_copy 466 = .ok (.ifnonnull 7, 3) := by decide +kernel
theorem dX6_copy_469 : decode cX6_copy 469 = .ok (.aconst_null, 1) := by decide +kernel
theorem dX6_copy_470 : decode cX6_copy 470 = .ok (.goto 21, 3) := by decide +kernel
theorem dX6_copy_473 : decode cX6_copy 473 = .ok (.aload_n 1, 1) := by decide +kernel
theorem dX6_copy_474 : decode cX6_copy 474 = .ok (.getfield 33, 3) := by decide +kernel
theorem dX6_copy_477 : decode cX6_copy 477 = .ok (.aload_n 0, 1) := by decide +kernel
theorem dX6_copy_478 : decode cX6_copy 478 = .ok (.aload_n 0, 1) := by decide +kernel
theorem dX6_copy_479 : decode cX6_copy 479 = .ok (.getfield 27, 3) := by decide +kernel
theorem dX6_copy_482 : decode cX6_copy 482 = .ok (.iload_n 2, 1) := by decide +kernel
theorem dX6_copy_483 : decode cX6_copy 483 = .ok (.aaload, 1) := by decide +kernel
theorem dX6_copy_484 : decode cX6_copy 484 = .ok (.getfield 97, 3) := by decide +kernel
theorem dX6_copy_487 : decode cX6_copy 487 = .ok (.invokevirtual 93, 3) := by decide +kernel
theorem dX6_copy_490 : decode cX6_copy 490 = .ok (.aaload, 1) := by decide +kernel
theorem dX6_copy_491 : decode cX6_copy 491 = .ok (.putfield 97, 3) := by decide +kernel
theorem dX6_copy_494 : decode cX6_copy 494 = .ok (.aload_n 1, 1) := by decide +kernel
theorem dX6_copy_495 : decode cX6_copy 495 = .ok (.getfield 27, 3) := by decide +kernel
theorem dX6_copy_498 : decode cX6_copy 498 = .ok (.iload_n 2, 1) := by decide +kernel
theorem dX6_copy_499 : decode cX6_copy 499 = .ok (.aaload, 1) := by decide +kernel
theorem dX6_copy_500 : decode cX6_copy 500 = .ok (.aload_n 0, 1) := by decide +kernel
theorem dX6_copy_501 : decode cX6_copy 501 = .ok (.getfield 27, 3) := by decide +kernel
theorem dX6_copy_504 : decode cX6_copy 504 = .ok (.iload_n 2, 1) := by decide +kernel
theorem dX6_copy_505 : decode cX6_copy 505 = .ok (.aaload, 1) := by decide +kernel
theorem dX6_copy_506 : decode cX6_copy 506 = .ok (.getfield 101, 3) := by decide +kernel
theorem dX6_copy_509 : decode cX6_copy 509 = .ok (.ifnonnull 7, 3) := by decide +kernel
theorem dX6_copy_512 : decode cX6_copy 512 = .ok (.aconst_null, 1) := by decide +kernel
theorem dX6_copy_513 : decode cX6_copy 513 = .ok (.goto 21, 3) := by decide +kernel
theorem dX6_copy_516 : decode cX6_copy 516 = .ok (.aload_n 1, 1) := by decide +kernel
theorem dX6_copy_517 : decode cX6_copy 517 = .ok (.getfield 33, 3) := by decide +kernel
theorem dX6_copy_520 : decode cX6_copy 520 = .ok (.aload_n 0, 1) := by decide +kernel
theorem dX6_copy_521 : decode cX6_copy 521 = .ok (.aload_n 0, 1) := by decide +kernel
theorem dX6_copy_522 : decode cX6_copy 522 = .ok (.getfield 27, 3) := by decide +kernel
theorem dX6_copy_525 : decode cX6_copy 525 = .ok (.iload_n 2, 1) := by decide +kernel
theorem dX6_copy_526 : decode cX6_copy 526 = .ok (.aaload, 1) := by decide +kernel
theorem dX6_copy_527 : decode cX6_copy 527 = .ok (.getfield 101, 3) := by decide +kernel
theorem dX6_copy_530 : decode cX6_copy 530 = .ok (.invokevirtual 93, 3) := by decide +kernel
theorem dX6_copy_533 : decode cX6_copy 533 = .ok (.aaload, 1) := by decide +kernel
theorem dX6_copy_534 : decode cX6_copy 534 = .ok (.putfield 101, 3) := by decide +kernel
theorem dX6_copy_537 : decode cX6_copy 537 = .ok (.iinc 2 1, 3) := by decide +kernel
theorem dX6_copy_540 : decode cX6_copy 540 = .ok (.goto (-151), 3) := by decide +kernel
theorem dX6_copy_543 : decode cX6_copy 543 = .ok (.aload_n 1, 1) := by decide +kernel
theorem dX6_copy_544 : decode cX6_copy 544 = .ok (.areturn, 1) := by decide +kernel
theorem dX6_place_0 : decode cX6_place 0 = .ok (.iconst 0, 1) := by decide +kernel
theorem dX6_place_1 : decode cX6_place 1 = .ok (.istore_n 2, 1) := by decide +kernel
theorem dX6_place_2 : decode cX6_place 2 = .ok (.iload_n 2, 1) := by decide +kernel
theorem dX6_place_3 : decode cX6_place 3 = .ok (.aload_n 0, 1) := by decide +kernel
theorem dX6_place_4 : decode cX6_place 4 = .ok (.getfield 27, 3) := by decide +kernel
theorem dX6_place_7 : decode cX6_place 7 = .ok (.arraylength, 1) := by decide +kernel
theorem dX6_place_8 : decode cX6_place 8 = .ok (.if_icmp .ge 21, 3) := by decide +kernel
theorem dX6_place_11 : decode cX6_place 11 = .ok (.aload_n 0, 1) := by decide +kernel
theorem dX6_place_12 : decode cX6_place 12 = .ok (.getfield 27, 3) := by decide +kernel
theorem dX6_place_15 : decode cX6_place 15 = .ok (.iload_n 2, 1) := by decide +kernel
theorem dX6_place_16 : decode cX6_place 16 = .ok (.aaload, 1) := by decide +kernel
theorem dX6_place_17 : decode cX6_place 17 = .ok (.aload_n 1, 1) := by decide +kernel
theorem dX6_place_18 : decode cX6_place 18 = .ok (.if_acmp .ne 5, 3) := by decide +kernel
theorem dX6_place_21 : decode cX6_place 21 = .ok (.iload_n 2, 1) := by decide +kernel
theorem dX6_place_22 : decode cX6_place 22 = .ok (.ireturn, 1) := by decide +kernel
theorem dX6_place_23 : decode cX6_place 23 = .ok (.iinc 2 1, 3) := by decide +kernel
theorem dX6_place_26 : decode cX6_place 26 = .ok (.goto (-24), 3) := by decide +kernel
theorem dX6_place_29 : decode cX6_place 29 = .ok (.iconst (-1), 1) := by decide +kernel
theorem dX6_place_30 : decode cX6_place 30 = .ok (.ireturn, 1) := by decide +kernel
theorem dX6_index_0 : decode cX6_index 0 = .ok (.iconst 0, 1) := by decide +kernel
theorem dX6_index_1 : decode cX6_index 1 = .ok (.istore_n 2, 1) := by decide +kernel
theorem dX6_index_2 : decode cX6_index 2 = .ok (.iload_n 2, 1) := by decide +kernel
theorem dX6_index_3 : decode cX6_index 3 = .ok (.aload_n 0, 1) := by decide +kernel
theorem dX6_index_4 : decode cX6_index 4 = .ok (.getfield 33, 3) := by decide +kernel
theorem dX6_index_7 : decode cX6_index 7 = .ok (.arraylength, 1) := by decide +kernel
theorem dX6_index_8 : decode cX6_index 8 = .ok (.if_icmp .ge 21, 3) := by decide +kernel
theorem dX6_index_11 : decode cX6_index 11 = .ok (.aload_n 0, 1) := by decide +kernel
theorem dX6_index_12 : decode cX6_index 12 = .ok (.getfield 33, 3) := by decide +kernel
theorem dX6_index_15 : decode cX6_index 15 = .ok (.iload_n 2, 1) := by decide +kernel
theorem dX6_index_16 : decode cX6_index 16 = .ok (.aaload, 1) := by decide +kernel
theorem dX6_index_17 : decode cX6_index 17 = .ok (.aload_n 1, 1) := by decide +kernel
theorem dX6_index_18 : decode cX6_index 18 = .ok (.if_acmp .ne 5, 3) := by decide +kernel
theorem dX6_index_21 : decode cX6_index 21 = .ok (.iload_n 2, 1) := by decide +kernel
theorem dX6_index_22 : decode cX6_index 22 = .ok (.ireturn, 1) := by decide +kernel
theorem dX6_index_23 : decode cX6_index 23 = .ok (.iinc 2 1, 3) := by decide +kernel
theorem dX6_index_26 : decode cX6_index 26 = .ok (.goto (-24), 3) := by decide +kernel
theorem dX6_index_29 : decode cX6_index 29 = .ok (.iconst (-1), 1) := by decide +kernel
theorem dX6_index_30 : decode cX6_index 30 = .ok (.ireturn, 1) := by decide +kernel
theorem dX6_with_0 : decode cX6_with 0 = .ok (.aload_n 0, 1) := by decide +kernel
theorem dX6_with_1 : decode cX6_with 1 = .ok (.getfield 33, 3) := by decide +kernel
theorem dX6_with_4 : decode cX6_with 4 = .ok (.astore_n 3, 1) := by decide +kernel
theorem dX6_with_5 : decode cX6_with 5 = .ok (.aload_n 3, 1) := by decide +kernel
theorem dX6_with_6 : decode cX6_with 6 = .ok (.arraylength, 1) := by decide +kernel
theorem dX6_with_7 : decode cX6_with 7 = .ok (.istore 4, 2) := by decide +kernel
theorem dX6_with_9 : decode cX6_with 9 = .ok (.iconst 0, 1) := by decide +kernel
theorem dX6_with_10 : decode cX6_with 10 = .ok (.istore 5, 2) := by decide +kernel
theorem dX6_with_12 : decode cX6_with 12 = .ok (.iload 5, 2) := by decide +kernel
theorem dX6_with_14 : decode cX6_with 14 = .ok (.iload 4, 2) := by decide +kernel
theorem dX6_with_16 : decode cX6_with 16 = .ok (.if_icmp .ge 48, 3) := by decide +kernel
theorem dX6_with_19 : decode cX6_with 19 = .ok (.aload_n 3, 1) := by decide +kernel
theorem dX6_with_20 : decode cX6_with 20 = .ok (.iload 5, 2) := by decide +kernel
theorem dX6_with_22 : decode cX6_with 22 = .ok (.aaload, 1) := by decide +kernel
theorem dX6_with_23 : decode cX6_with 23 = .ok (.astore 6, 2) := by decide +kernel
theorem dX6_with_25 : decode cX6_with 25 = .ok (.aload 6, 2) := by decide +kernel
theorem dX6_with_27 : decode cX6_with 27 = .ok (.getfield 75, 3) := by decide +kernel
theorem dX6_with_30 : decode cX6_with 30 = .ok (.iload_n 2, 1) := by decide +kernel
theorem dX6_with_31 : decode cX6_with 31 = .ok (.if_icmp .ne 27, 3) := by decide +kernel
theorem dX6_with_34 : decode cX6_with 34 = .ok (.aload 6, 2) := by decide +kernel
theorem dX6_with_36 : decode cX6_with 36 = .ok (.getfield 64, 3) := by decide +kernel
theorem dX6_with_39 : decode cX6_with 39 = .ok (.getfield 53, 3) := by decide +kernel
theorem dX6_with_42 : decode cX6_with 42 = .ok (.iload_n 1, 1) := by decide +kernel
theorem dX6_with_43 : decode cX6_with 43 = .ok (.if_icmp .eq 12, 3) := by decide +kernel
theorem dX6_with_46 : decode cX6_with 46 = .ok (.aload 6, 2) := by decide +kernel
theorem dX6_with_48 : decode cX6_with 48 = .ok (.getfield 72, 3) := by decide +kernel
theorem dX6_with_51 : decode cX6_with 51 = .ok (.iload_n 1, 1) := by decide +kernel
theorem dX6_with_52 : decode cX6_with 52 = .ok (.if_icmp .ne 6, 3) := by decide +kernel
theorem dX6_with_55 : decode cX6_with 55 = .ok (.aload 6, 2) := by decide +kernel
theorem dX6_with_57 : decode cX6_with 57 = .ok (.areturn, 1) := by decide +kernel
theorem dX6_with_58 : decode cX6_with 58 = .ok (.iinc 5 1, 3) := by decide +kernel
theorem dX6_with_61 : decode cX6_with 61 = .ok (.goto (-49), 3) := by decide +kernel
theorem dX6_with_64 : decode cX6_with 64 = .ok (.aconst_null, 1) := by decide +kernel
theorem dX6_with_65 : decode cX6_with 65 = .ok (.areturn, 1) := by decide +kernel
theorem dX6_calling_0 : decode cX6_calling 0 = .ok (.aload_n 0, 1) := by decide +kernel
theorem dX6_calling_1 : decode cX6_calling 1 = .ok (.getfield 27, 3) := by decide +kernel
theorem dX6_calling_4 : decode cX6_calling 4 = .ok (.astore_n 2, 1) := by decide +kernel
theorem dX6_calling_5 : decode cX6_calling 5 = .ok (.aload_n 2, 1) := by decide +kernel
theorem dX6_calling_6 : decode cX6_calling 6 = .ok (.arraylength, 1) := by decide +kernel
theorem dX6_calling_7 : decode cX6_calling 7 = .ok (.istore_n 3, 1) := by decide +kernel
theorem dX6_calling_8 : decode cX6_calling 8 = .ok (.iconst 0, 1) := by decide +kernel
theorem dX6_calling_9 : decode cX6_calling 9 = .ok (.istore 4, 2) := by decide +kernel
theorem dX6_calling_11 : decode cX6_calling 11 = .ok (.iload 4, 2) := by decide +kernel
theorem dX6_calling_13 : decode cX6_calling 13 = .ok (.iload_n 3, 1) := by decide +kernel
theorem dX6_calling_14 : decode cX6_calling 14 = .ok (.if_icmp .ge 35, 3) := by decide +kernel
theorem dX6_calling_17 : decode cX6_calling 17 = .ok (.aload_n 2, 1) := by decide +kernel
theorem dX6_calling_18 : decode cX6_calling 18 = .ok (.iload 4, 2) := by decide +kernel
theorem dX6_calling_20 : decode cX6_calling 20 = .ok (.aaload, 1) := by decide +kernel
theorem dX6_calling_21 : decode cX6_calling 21 = .ok (.astore 5, 2) := by decide +kernel
theorem dX6_calling_23 : decode cX6_calling 23 = .ok (.aload 5, 2) := by decide +kernel
theorem dX6_calling_25 : decode cX6_calling 25 = .ok (.getfield 53, 3) := by decide +kernel
theorem dX6_calling_28 : decode cX6_calling 28 = .ok (.iload_n 1, 1) := by decide +kernel
theorem dX6_calling_29 : decode cX6_calling 29 = .ok (.if_icmp .ne 14, 3) := by decide +kernel
theorem dX6_calling_32 : decode cX6_calling 32 = .ok (.aload 5, 2) := by decide +kernel
theorem dX6_calling_34 : decode cX6_calling 34 = .ok (.invokevirtual 104, 3) := by decide +kernel
theorem dX6_calling_37 : decode cX6_calling 37 = .ok (.ifCond .eq 6, 3) := by decide +kernel
theorem dX6_calling_40 : decode cX6_calling 40 = .ok (.aload 5, 2) := by decide +kernel
theorem dX6_calling_42 : decode cX6_calling 42 = .ok (.areturn, 1) := by decide +kernel
theorem dX6_calling_43 : decode cX6_calling 43 = .ok (.iinc 4 1, 3) := by decide +kernel
theorem dX6_calling_46 : decode cX6_calling 46 = .ok (.goto (-35), 3) := by decide +kernel
theorem dX6_calling_49 : decode cX6_calling 49 = .ok (.aconst_null, 1) := by decide +kernel
theorem dX6_calling_50 : decode cX6_calling 50 = .ok (.areturn, 1) := by decide +kernel
theorem dX6_isEngaged_0 : decode cX6_isEngaged 0 = .ok (.aload_n 0, 1) := by decide +kernel
theorem dX6_isEngaged_1 : decode cX6_isEngaged 1 = .ok (.iload_n 1, 1) := by decide +kernel
theorem dX6_isEngaged_2 : decode cX6_isEngaged 2 = .ok (.iconst 1, 1) := by decide +kernel
theorem dX6_isEngaged_3 : decode cX6_isEngaged 3 = .ok (.invokevirtual 108, 3) := by decide +kernel
theorem dX6_isEngaged_6 : decode cX6_isEngaged 6 = .ok (.ifnonnull 20, 3) := by decide +kernel
theorem dX6_isEngaged_9 : decode cX6_isEngaged 9 = .ok (.aload_n 0, 1) := by decide +kernel
theorem dX6_isEngaged_10 : decode cX6_isEngaged 10 = .ok (.iload_n 1, 1) := by decide +kernel
theorem dX6_isEngaged_11 : decode cX6_isEngaged 11 = .ok (.iconst 2, 1) := by decide +kernel
theorem dX6_isEngaged_12 : decode cX6_isEngaged 12 = .ok (.invokevirtual 108, 3) := by decide +kernel
theorem dX6_isEngaged_15 : decode cX6_isEngaged 15 = .ok (.ifnonnull 11, 3) := by decide +kernel
theorem dX6_isEngaged_18 : decode cX6_isEngaged 18 = .ok (.aload_n 0, 1) := by decide +kernel
theorem dX6_isEngaged_19 : decode cX6_isEngaged 19 = .ok (.iload_n 1, 1) := by decide +kernel
theorem dX6_isEngaged_20 : decode cX6_isEngaged 20 = .ok (.invokevirtual 112, 3) := by decide +kernel
theorem dX6_isEngaged_23 : decode cX6_isEngaged 23 = .ok (.ifnull 7, 3) := by decide +kernel
theorem dX6_isEngaged_26 : decode cX6_isEngaged 26 = .ok (.iconst 1, 1) := by decide +kernel
theorem dX6_isEngaged_27 : decode cX6_isEngaged 27 = .ok (.goto 4, 3) := by decide +kernel
theorem dX6_isEngaged_30 : decode cX6_isEngaged 30 = .ok (.iconst 0, 1) := by decide +kernel
theorem dX6_isEngaged_31 : decode cX6_isEngaged 31 = .ok (.ireturn, 1) := by decide +kernel
theorem dX6_count_0 : decode cX6_count 0 = .ok (.iconst 0, 1) := by decide +kernel
theorem dX6_count_1 : decode cX6_count 1 = .ok (.istore_n 2, 1) := by decide +kernel
theorem dX6_count_2 : decode cX6_count 2 = .ok (.aload_n 0, 1) := by decide +kernel
theorem dX6_count_3 : decode cX6_count 3 = .ok (.getfield 33, 3) := by decide +kernel
theorem dX6_count_6 : decode cX6_count 6 = .ok (.astore_n 3, 1) := by decide +kernel
theorem dX6_count_7 : decode cX6_count 7 = .ok (.aload_n 3, 1) := by decide +kernel
theorem dX6_count_8 : decode cX6_count 8 = .ok (.arraylength, 1) := by decide +kernel
theorem dX6_count_9 : decode cX6_count 9 = .ok (.istore 4, 2) := by decide +kernel
theorem dX6_count_11 : decode cX6_count 11 = .ok (.iconst 0, 1) := by decide +kernel
theorem dX6_count_12 : decode cX6_count 12 = .ok (.istore 5, 2) := by decide +kernel
theorem dX6_count_14 : decode cX6_count 14 = .ok (.iload 5, 2) := by decide +kernel
theorem dX6_count_16 : decode cX6_count 16 = .ok (.iload 4, 2) := by decide +kernel
theorem dX6_count_18 : decode cX6_count 18 = .ok (.if_icmp .ge 27, 3) := by decide +kernel
theorem dX6_count_21 : decode cX6_count 21 = .ok (.aload_n 3, 1) := by decide +kernel
theorem dX6_count_22 : decode cX6_count 22 = .ok (.iload 5, 2) := by decide +kernel
theorem dX6_count_24 : decode cX6_count 24 = .ok (.aaload, 1) := by decide +kernel
theorem dX6_count_25 : decode cX6_count 25 = .ok (.astore 6, 2) := by decide +kernel
theorem dX6_count_27 : decode cX6_count 27 = .ok (.aload 6, 2) := by decide +kernel
theorem dX6_count_29 : decode cX6_count 29 = .ok (.getfield 75, 3) := by decide +kernel
theorem dX6_count_32 : decode cX6_count 32 = .ok (.iload_n 1, 1) := by decide +kernel
theorem dX6_count_33 : decode cX6_count 33 = .ok (.if_icmp .ne 6, 3) := by decide +kernel
theorem dX6_count_36 : decode cX6_count 36 = .ok (.iinc 2 1, 3) := by decide +kernel
theorem dX6_count_39 : decode cX6_count 39 = .ok (.iinc 5 1, 3) := by decide +kernel
theorem dX6_count_42 : decode cX6_count 42 = .ok (.goto (-28), 3) := by decide +kernel
theorem dX6_count_45 : decode cX6_count 45 = .ok (.iload_n 2, 1) := by decide +kernel
theorem dX6_count_46 : decode cX6_count 46 = .ok (.ireturn, 1) := by decide +kernel
theorem dX6_rung_0 : decode cX6_rung 0 = .ok (.iconst 0, 1) := by decide +kernel
theorem dX6_rung_1 : decode cX6_rung 1 = .ok (.istore_n 2, 1) := by decide +kernel
theorem dX6_rung_2 : decode cX6_rung 2 = .ok (.aload_n 0, 1) := by decide +kernel
theorem dX6_rung_3 : decode cX6_rung 3 = .ok (.getfield 33, 3) := by decide +kernel
theorem dX6_rung_6 : decode cX6_rung 6 = .ok (.astore_n 3, 1) := by decide +kernel
theorem dX6_rung_7 : decode cX6_rung 7 = .ok (.aload_n 3, 1) := by decide +kernel
theorem dX6_rung_8 : decode cX6_rung 8 = .ok (.arraylength, 1) := by decide +kernel
theorem dX6_rung_9 : decode cX6_rung 9 = .ok (.istore 4, 2) := by decide +kernel
theorem dX6_rung_11 : decode cX6_rung 11 = .ok (.iconst 0, 1) := by decide +kernel
theorem dX6_rung_12 : decode cX6_rung 12 = .ok (.istore 5, 2) := by decide +kernel
theorem dX6_rung_14 : decode cX6_rung 14 = .ok (.iload 5, 2) := by decide +kernel
theorem dX6_rung_16 : decode cX6_rung 16 = .ok (.iload 4, 2) := by decide +kernel
theorem dX6_rung_18 : decode cX6_rung 18 = .ok (.if_icmp .ge 35, 3) := by decide +kernel
theorem dX6_rung_21 : decode cX6_rung 21 = .ok (.aload_n 3, 1) := by decide +kernel
theorem dX6_rung_22 : decode cX6_rung 22 = .ok (.iload 5, 2) := by decide +kernel
theorem dX6_rung_24 : decode cX6_rung 24 = .ok (.aaload, 1) := by decide +kernel
theorem dX6_rung_25 : decode cX6_rung 25 = .ok (.astore 6, 2) := by decide +kernel
theorem dX6_rung_27 : decode cX6_rung 27 = .ok (.aload 6, 2) := by decide +kernel
theorem dX6_rung_29 : decode cX6_rung 29 = .ok (.getfield 75, 3) := by decide +kernel
theorem dX6_rung_32 : decode cX6_rung 32 = .ok (.ifCond .ne 15, 3) := by decide +kernel
theorem dX6_rung_35 : decode cX6_rung 35 = .ok (.aload 6, 2) := by decide +kernel
theorem dX6_rung_37 : decode cX6_rung 37 = .ok (.getfield 72, 3) := by decide +kernel
theorem dX6_rung_40 : decode cX6_rung 40 = .ok (.iload_n 1, 1) := by decide +kernel
theorem dX6_rung_41 : decode cX6_rung 41 = .ok (.if_icmp .ne 6, 3) := by decide +kernel
theorem dX6_rung_44 : decode cX6_rung 44 = .ok (.iinc 2 1, 3) := by decide +kernel
theorem dX6_rung_47 : decode cX6_rung 47 = .ok (.iinc 5 1, 3) := by decide +kernel
theorem dX6_rung_50 : decode cX6_rung 50 = .ok (.goto (-36), 3) := by decide +kernel
theorem dX6_rung_53 : decode cX6_rung 53 = .ok (.iload_n 2, 1) := by decide +kernel
theorem dX6_rung_54 : decode cX6_rung 54 = .ok (.ireturn, 1) := by decide +kernel
theorem dX6_takeBack_0 : decode cX6_takeBack 0 = .ok (.aload_n 1, 1) := by decide +kernel
theorem dX6_takeBack_1 : decode cX6_takeBack 1 = .ok (.getfield 97, 3) := by decide +kernel
theorem dX6_takeBack_4 : decode cX6_takeBack 4 = .ok (.ifnull 22, 3) := by decide +kernel
theorem dX6_takeBack_7 : decode cX6_takeBack 7 = .ok (.aload_n 1, 1) := by decide +kernel
theorem dX6_takeBack_8 : decode cX6_takeBack 8 = .ok (.getfield 97, 3) := by decide +kernel
theorem dX6_takeBack_11 : decode cX6_takeBack 11 = .ok (.getfield 75, 3) := by decide +kernel
theorem dX6_takeBack_14 : decode cX6_takeBack 14 = .ok (.iconst 2, 1) := by decide +kernel
theorem dX6_takeBack_15 : decode cX6_takeBack 15 = .ok (.if_icmp .ne 11, 3) := by decide +kernel
theorem dX6_takeBack_18 : decode cX6_takeBack 18 = .ok (.aload_n 1, 1) := by decide +kernel
theorem dX6_takeBack_19 : decode cX6_takeBack 19 = .ok (.getfield 97, 3) := by decide +kernel
theorem dX6_takeBack_22 : decode cX6_takeBack 22 = .ok (.iconst 1, 1) := by decide +kernel
theorem dX6_takeBack_23 : decode cX6_takeBack 23 = .ok (.putfield 75, 3) := by decide +kernel
theorem dX6_takeBack_26 : decode cX6_takeBack 26 = .ok (.return_, 1) := by decide +kernel
theorem dX6_fails_0 : decode cX6_fails 0 = .ok (.aload_n 0, 1) := by decide +kernel
theorem dX6_fails_1 : decode cX6_fails 1 = .ok (.getfield 37, 3) := by decide +kernel
theorem dX6_fails_4 : decode cX6_fails 4 = .ok (.iconst 5, 1) := by decide +kernel
theorem dX6_fails_5 : decode cX6_fails 5 = .ok (.dup2, 1) := by decide +kernel
theorem dX6_fails_6 : decode cX6_fails 6 = .ok (.iaload, 1) := by decide +kernel
theorem dX6_fails_7 : decode cX6_fails 7 = .ok (.iconst 1, 1) := by decide +kernel
theorem dX6_fails_8 : decode cX6_fails 8 = .ok (.iadd, 1) := by decide +kernel
theorem dX6_fails_9 : decode cX6_fails 9 = .ok (.iastore, 1) := by decide +kernel
theorem dX6_fails_10 : decode cX6_fails 10 = .ok (.aload_n 0, 1) := by decide +kernel
theorem dX6_fails_11 : decode cX6_fails 11 = .ok (.aload_n 1, 1) := by decide +kernel
theorem dX6_fails_12 : decode cX6_fails 12 = .ok (.invokevirtual 116, 3) := by decide +kernel
theorem dX6_fails_15 : decode cX6_fails 15 = .ok (.return_, 1) := by decide +kernel
theorem dX6_endsTo_0 : decode cX6_endsTo 0 = .ok (.aload_n 0, 1) := by decide +kernel
theorem dX6_endsTo_1 : decode cX6_endsTo 1 = .ok (.getfield 27, 3) := by decide +kernel
theorem dX6_endsTo_4 : decode cX6_endsTo 4 = .ok (.arraylength, 1) := by decide +kernel
theorem dX6_endsTo_5 : decode cX6_endsTo 5 = .ok (.newarray .boolean, 2) := by decide +kernel
theorem dX6_endsTo_7 : decode cX6_endsTo 7 = .ok (.astore_n 3, 1) := by decide +kernel
theorem dX6_endsTo_8 : decode cX6_endsTo 8 = .ok (.iconst 0, 1) := by decide +kernel
theorem dX6_endsTo_9 : decode cX6_endsTo 9 = .ok (.istore 4, 2) := by decide +kernel
theorem dX6_endsTo_11 : decode cX6_endsTo 11 = .ok (.iload 4, 2) := by decide +kernel
theorem dX6_endsTo_13 : decode cX6_endsTo 13 = .ok (.aload_n 0, 1) := by decide +kernel
theorem dX6_endsTo_14 : decode cX6_endsTo 14 = .ok (.getfield 27, 3) := by decide +kernel
theorem dX6_endsTo_17 : decode cX6_endsTo 17 = .ok (.arraylength, 1) := by decide +kernel
theorem dX6_endsTo_18 : decode cX6_endsTo 18 = .ok (.if_icmp .ge 23, 3) := by decide +kernel
theorem dX6_endsTo_21 : decode cX6_endsTo 21 = .ok (.aload_n 3, 1) := by decide +kernel
theorem dX6_endsTo_22 : decode cX6_endsTo 22 = .ok (.iload 4, 2) := by decide +kernel
theorem dX6_endsTo_24 : decode cX6_endsTo 24 = .ok (.aload_n 0, 1) := by decide +kernel
theorem dX6_endsTo_25 : decode cX6_endsTo 25 = .ok (.getfield 27, 3) := by decide +kernel
theorem dX6_endsTo_28 : decode cX6_endsTo 28 = .ok (.iload 4, 2) := by decide +kernel
theorem dX6_endsTo_30 : decode cX6_endsTo 30 = .ok (.aaload, 1) := by decide +kernel
theorem dX6_endsTo_31 : decode cX6_endsTo 31 = .ok (.invokevirtual 104, 3) := by decide +kernel
theorem dX6_endsTo_34 : decode cX6_endsTo 34 = .ok (.bastore, 1) := by decide +kernel
theorem dX6_endsTo_35 : decode cX6_endsTo 35 = .ok (.iinc 4 1, 3) := by decide +kernel
theorem dX6_endsTo_38 : decode cX6_endsTo 38 = .ok (.goto (-27), 3) := by decide +kernel
theorem dX6_endsTo_41 : decode cX6_endsTo 41 = .ok (.aload_n 0, 1) := by decide +kernel
theorem dX6_endsTo_42 : decode cX6_endsTo 42 = .ok (.getfield 33, 3) := by decide +kernel
theorem dX6_endsTo_45 : decode cX6_endsTo 45 = .ok (.astore 4, 2) := by decide +kernel
theorem dX6_endsTo_47 : decode cX6_endsTo 47 = .ok (.aload 4, 2) := by decide +kernel
theorem dX6_endsTo_49 : decode cX6_endsTo 49 = .ok (.arraylength, 1) := by decide +kernel
theorem dX6_endsTo_50 : decode cX6_endsTo 50 = .ok (.istore 5, 2) := by decide +kernel
theorem dX6_endsTo_52 : decode cX6_endsTo 52 = .ok (.iconst 0, 1) := by decide +kernel
theorem dX6_endsTo_53 : decode cX6_endsTo 53 = .ok (.istore 6, 2) := by decide +kernel
theorem dX6_endsTo_55 : decode cX6_endsTo 55 = .ok (.iload 6, 2) := by decide +kernel
theorem dX6_endsTo_57 : decode cX6_endsTo 57 = .ok (.iload 5, 2) := by decide +kernel
theorem dX6_endsTo_59 : decode cX6_endsTo 59 = .ok (.if_icmp .ge 40, 3) := by decide +kernel
theorem dX6_endsTo_62 : decode cX6_endsTo 62 = .ok (.aload 4, 2) := by decide +kernel
theorem dX6_endsTo_64 : decode cX6_endsTo 64 = .ok (.iload 6, 2) := by decide +kernel
theorem dX6_endsTo_66 : decode cX6_endsTo 66 = .ok (.aaload, 1) := by decide +kernel
theorem dX6_endsTo_67 : decode cX6_endsTo 67 = .ok (.astore 7, 2) := by decide +kernel
theorem dX6_endsTo_69 : decode cX6_endsTo 69 = .ok (.aload 7, 2) := by decide +kernel
theorem dX6_endsTo_71 : decode cX6_endsTo 71 = .ok (.getfield 75, 3) := by decide +kernel
theorem dX6_endsTo_74 : decode cX6_endsTo 74 = .ok (.ifCond .ne 19, 3) := by decide +kernel
theorem dX6_endsTo_77 : decode cX6_endsTo 77 = .ok (.aload 7, 2) := by decide +kernel
theorem dX6_endsTo_79 : decode cX6_endsTo 79 = .ok (.getfield 72, 3) := by decide +kernel
theorem dX6_endsTo_82 : decode cX6_endsTo 82 = .ok (.iload_n 1, 1) := by decide +kernel
theorem dX6_endsTo_83 : decode cX6_endsTo 83 = .ok (.if_icmp .ne 10, 3) := by decide +kernel
theorem dX6_endsTo_86 : decode cX6_endsTo 86 = .ok (.aload 7, 2) := by decide +kernel
theorem dX6_endsTo_88 : decode cX6_endsTo 88 = .ok (.iconst 3, 1) := by decide +kernel
theorem dX6_endsTo_89 : decode cX6_endsTo 89 = .ok (.iload_n 2, 1) := by decide +kernel
theorem dX6_endsTo_90 : decode cX6_endsTo 90 = .ok (.invokevirtual 120, 3) := by decide +kernel
theorem dX6_endsTo_93 : decode cX6_endsTo 93 = .ok (.iinc 6 1, 3) := by decide +kernel
theorem dX6_endsTo_96 : decode cX6_endsTo 96 = .ok (.goto (-41), 3) := by decide +kernel
theorem dX6_endsTo_99 : decode cX6_endsTo 99 = .ok (.iconst 0, 1) := by decide +kernel
theorem dX6_endsTo_100 : decode cX6_endsTo 100 = .ok (.istore 4, 2) := by decide +kernel
theorem dX6_endsTo_102 : decode cX6_endsTo 102 = .ok (.iload 4, 2) := by decide +kernel
theorem dX6_endsTo_104 : decode cX6_endsTo 104 = .ok (.aload_n 0, 1) := by decide +kernel
theorem dX6_endsTo_105 : decode cX6_endsTo 105 = .ok (.getfield 27, 3) := by decide +kernel
theorem dX6_endsTo_108 : decode cX6_endsTo 108 = .ok (.arraylength, 1) := by decide +kernel
theorem dX6_endsTo_109 : decode cX6_endsTo 109 = .ok (.if_icmp .ge 40, 3) := by decide +kernel
theorem dX6_endsTo_112 : decode cX6_endsTo 112 = .ok (.aload_n 3, 1) := by decide +kernel
theorem dX6_endsTo_113 : decode cX6_endsTo 113 = .ok (.iload 4, 2) := by decide +kernel
theorem dX6_endsTo_115 : decode cX6_endsTo 115 = .ok (.baload, 1) := by decide +kernel
theorem dX6_endsTo_116 : decode cX6_endsTo 116 = .ok (.ifCond .eq 27, 3) := by decide +kernel
theorem dX6_endsTo_119 : decode cX6_endsTo 119 = .ok (.aload_n 0, 1) := by decide +kernel
theorem dX6_endsTo_120 : decode cX6_endsTo 120 = .ok (.getfield 27, 3) := by decide +kernel
theorem dX6_endsTo_123 : decode cX6_endsTo 123 = .ok (.iload 4, 2) := by decide +kernel
theorem dX6_endsTo_125 : decode cX6_endsTo 125 = .ok (.aaload, 1) := by decide +kernel
theorem dX6_endsTo_126 : decode cX6_endsTo 126 = .ok (.invokevirtual 104, 3) := by decide +kernel
theorem dX6_endsTo_129 : decode cX6_endsTo 129 = .ok (.ifCond .ne 14, 3) := by decide +kernel
theorem dX6_endsTo_132 : decode cX6_endsTo 132 = .ok (.aload_n 0, 1) := by decide +kernel
theorem dX6_endsTo_133 : decode cX6_endsTo 133 = .ok (.aload_n 0, 1) := by decide +kernel
theorem dX6_endsTo_134 : decode cX6_endsTo 134 = .ok (.getfield 27, 3) := by decide +kernel
theorem dX6_endsTo_137 : decode cX6_endsTo 137 = .ok (.iload 4, 2) := by decide +kernel
theorem dX6_endsTo_139 : decode cX6_endsTo 139 = .ok (.aaload, 1) := by decide +kernel
theorem dX6_endsTo_140 : decode cX6_endsTo 140 = .ok (.invokevirtual 124, 3) := by decide +kernel
theorem dX6_endsTo_143 : decode cX6_endsTo 143 = .ok (.iinc 4 1, 3) := by decide +kernel
theorem dX6_endsTo_146 : decode cX6_endsTo 146 = .ok (.goto (-44), 3) := by decide +kernel
theorem dX6_endsTo_149 : decode cX6_endsTo 149 = .ok (.return_, 1) := by decide +kernel
theorem dX6_answers_0 : decode cX6_answers 0 = .ok (.aload_n 1, 1) := by decide +kernel
theorem dX6_answers_1 : decode cX6_answers 1 = .ok (.getfield 64, 3) := by decide +kernel
theorem dX6_answers_4 : decode cX6_answers 4 = .ok (.astore_n 2, 1) := by decide +kernel
theorem dX6_answers_5 : decode cX6_answers 5 = .ok (.aload_n 1, 1) := by decide +kernel
theorem dX6_answers_6 : decode cX6_answers 6 = .ok (.iconst 1, 1) := by decide +kernel
theorem dX6_answers_7 : decode cX6_answers 7 = .ok (.putfield 75, 3) := by decide +kernel
theorem dX6_answers_10 : decode cX6_answers 10 = .ok (.aload_n 2, 1) := by decide +kernel
theorem dX6_answers_11 : decode cX6_answers 11 = .ok (.aload_n 1, 1) := by decide +kernel
theorem dX6_answers_12 : decode cX6_answers 12 = .ok (.putfield 101, 3) := by decide +kernel
theorem dX6_answers_15 : decode cX6_answers 15 = .ok (.aload_n 0, 1) := by decide +kernel
theorem dX6_answers_16 : decode cX6_answers 16 = .ok (.getfield 37, 3) := by decide +kernel
theorem dX6_answers_19 : decode cX6_answers 19 = .ok (.iconst 4, 1) := by decide +kernel
theorem dX6_answers_20 : decode cX6_answers 20 = .ok (.dup2, 1) := by decide +kernel
theorem dX6_answers_21 : decode cX6_answers 21 = .ok (.iaload, 1) := by decide +kernel
theorem dX6_answers_22 : decode cX6_answers 22 = .ok (.iconst 1, 1) := by decide +kernel
theorem dX6_answers_23 : decode cX6_answers 23 = .ok (.iadd, 1) := by decide +kernel
theorem dX6_answers_24 : decode cX6_answers 24 = .ok (.iastore, 1) := by decide +kernel
theorem dX6_answers_25 : decode cX6_answers 25 = .ok (.aload_n 2, 1) := by decide +kernel
theorem dX6_answers_26 : decode cX6_answers 26 = .ok (.getfield 62, 3) := by decide +kernel
theorem dX6_answers_29 : decode cX6_answers 29 = .ok (.astore_n 3, 1) := by decide +kernel
theorem dX6_answers_30 : decode cX6_answers 30 = .ok (.aload_n 3, 1) := by decide +kernel
theorem dX6_answers_31 : decode cX6_answers 31 = .ok (.arraylength, 1) := by decide +kernel
theorem dX6_answers_32 : decode cX6_answers 32 = .ok (.istore 4, 2) := by decide +kernel
theorem dX6_answers_34 : decode cX6_answers 34 = .ok (.iconst 0, 1) := by decide +kernel
theorem dX6_answers_35 : decode cX6_answers 35 = .ok (.istore 5, 2) := by decide +kernel
theorem dX6_answers_37 : decode cX6_answers 37 = .ok (.iload 5, 2) := by decide +kernel
theorem dX6_answers_39 : decode cX6_answers 39 = .ok (.iload 4, 2) := by decide +kernel
theorem dX6_answers_41 : decode cX6_answers 41 = .ok (.if_icmp .ge 30, 3) := by decide +kernel
theorem dX6_answers_44 : decode cX6_answers 44 = .ok (.aload_n 3, 1) := by decide +kernel
theorem dX6_answers_45 : decode cX6_answers 45 = .ok (.iload 5, 2) := by decide +kernel
theorem dX6_answers_47 : decode cX6_answers 47 = .ok (.aaload, 1) := by decide +kernel
theorem dX6_answers_48 : decode cX6_answers 48 = .ok (.astore 6, 2) := by decide +kernel
theorem dX6_answers_50 : decode cX6_answers 50 = .ok (.aload 6, 2) := by decide +kernel
theorem dX6_answers_52 : decode cX6_answers 52 = .ok (.getfield 75, 3) := by decide +kernel
theorem dX6_answers_55 : decode cX6_answers 55 = .ok (.ifCond .ne 10, 3) := by decide +kernel
theorem dX6_answers_58 : decode cX6_answers 58 = .ok (.aload 6, 2) := by decide +kernel
theorem dX6_answers_60 : decode cX6_answers 60 = .ok (.iconst 3, 1) := by decide +kernel
theorem dX6_answers_61 : decode cX6_answers 61 = .ok (.iconst 2, 1) := by decide +kernel
theorem dX6_answers_62 : decode cX6_answers 62 = .ok (.invokevirtual 120, 3) := by decide +kernel
theorem dX6_answers_65 : decode cX6_answers 65 = .ok (.iinc 5 1, 3) := by decide +kernel
theorem dX6_answers_68 : decode cX6_answers 68 = .ok (.goto (-31), 3) := by decide +kernel
theorem dX6_answers_71 : decode cX6_answers 71 = .ok (.aload_n 0, 1) := by decide +kernel
theorem dX6_answers_72 : decode cX6_answers 72 = .ok (.aload_n 1, 1) := by decide +kernel
theorem dX6_answers_73 : decode cX6_answers 73 = .ok (.getfield 72, 3) := by decide +kernel
theorem dX6_answers_76 : decode cX6_answers 76 = .ok (.iconst 1, 1) := by decide +kernel
theorem dX6_answers_77 : decode cX6_answers 77 = .ok (.invokevirtual 127, 3) := by decide +kernel
theorem dX6_answers_80 : decode cX6_answers 80 = .ok (.aload_n 2, 1) := by decide +kernel
theorem dX6_answers_81 : decode cX6_answers 81 = .ok (.getfield 97, 3) := by decide +kernel
theorem dX6_answers_84 : decode cX6_answers 84 = .ok (.ifnull 14, 3) := by decide +kernel
theorem dX6_answers_87 : decode cX6_answers 87 = .ok (.aload_n 2, 1) := by decide +kernel
theorem dX6_answers_88 : decode cX6_answers 88 = .ok (.getfield 97, 3) := by decide +kernel
theorem dX6_answers_91 : decode cX6_answers 91 = .ok (.getfield 75, 3) := by decide +kernel
theorem dX6_answers_94 : decode cX6_answers 94 = .ok (.iconst 2, 1) := by decide +kernel
theorem dX6_answers_95 : decode cX6_answers 95 = .ok (.if_icmp .eq 4, 3) := by decide +kernel
theorem dX6_answers_98 : decode cX6_answers 98 = .ok (.return_, 1) := by decide +kernel
theorem dX6_answers_99 : decode cX6_answers 99 = .ok (.aload_n 2, 1) := by decide +kernel
theorem dX6_answers_100 : decode cX6_answers 100 = .ok (.getfield 97, 3) := by decide +kernel
theorem dX6_answers_103 : decode cX6_answers 103 = .ok (.iconst 3, 1) := by decide +kernel
theorem dX6_answers_104 : decode cX6_answers 104 = .ok (.bipush 7, 2) := by decide +kernel
theorem dX6_answers_106 : decode cX6_answers 106 = .ok (.invokevirtual 120, 3) := by decide +kernel
theorem dX6_answers_109 : decode cX6_answers 109 = .ok (.aload_n 0, 1) := by decide +kernel
theorem dX6_answers_110 : decode cX6_answers 110 = .ok (.getfield 37, 3) := by decide +kernel
theorem dX6_answers_113 : decode cX6_answers 113 = .ok (.bipush 6, 2) := by decide +kernel
theorem dX6_answers_115 : decode cX6_answers 115 = .ok (.dup2, 1) := by decide +kernel
theorem dX6_answers_116 : decode cX6_answers 116 = .ok (.iaload, 1) := by decide +kernel
theorem dX6_answers_117 : decode cX6_answers 117 = .ok (.iconst 1, 1) := by decide +kernel
theorem dX6_answers_118 : decode cX6_answers 118 = .ok (.iadd, 1) := by decide +kernel
theorem dX6_answers_119 : decode cX6_answers 119 = .ok (.iastore, 1) := by decide +kernel
theorem dX6_answers_120 : decode cX6_answers 120 = .ok (.return_, 1) := by decide +kernel
theorem dX6_begins_0 : decode cX6_begins 0 = .ok (.new 25, 3) := by decide +kernel
theorem dX6_begins_3 : decode cX6_begins 3 = .ok (.dup, 1) := by decide +kernel
theorem dX6_begins_4 : decode cX6_begins 4 = .ok (.invokespecial 52, 3) := by decide +kernel
theorem dX6_begins_7 : decode cX6_begins 7 = .ok (.astore 4, 2) := by decide +kernel
theorem dX6_begins_9 : decode cX6_begins 9 = .ok (.iconst 0, 1) := by decide +kernel
theorem dX6_begins_10 : decode cX6_begins 10 = .ok (.istore 5, 2) := by decide +kernel
theorem dX6_begins_12 : decode cX6_begins 12 = .ok (.iconst 0, 1) := by decide +kernel
theorem dX6_begins_13 : decode cX6_begins 13 = .ok (.istore 6, 2) := by decide +kernel
theorem dX6_begins_15 : decode cX6_begins 15 = .ok (.iload 6, 2) := by decide +kernel
theorem dX6_begins_17 : decode cX6_begins 17 = .ok (.bipush 10, 2) := by decide +kernel
theorem dX6_begins_19 : decode cX6_begins 19 = .ok (.if_icmp .ge 20, 3) := by decide +kernel
theorem dX6_begins_22 : decode cX6_begins 22 = .ok (.iload 5, 2) := by decide +kernel
theorem dX6_begins_24 : decode cX6_begins 24 = .ok (.iload_n 2, 1) := by decide +kernel
theorem dX6_begins_25 : decode cX6_begins 25 = .ok (.iload 6, 2) := by decide +kernel
theorem dX6_begins_27 : decode cX6_begins 27 = .ok (.ishr, 1) := by decide +kernel
theorem dX6_begins_28 : decode cX6_begins 28 = .ok (.iconst 1, 1) := by decide +kernel
theorem dX6_begins_29 : decode cX6_begins 29 = .ok (.iand, 1) := by decide +kernel
theorem dX6_begins_30 : decode cX6_begins 30 = .ok (.iadd, 1) := by decide +kernel
theorem dX6_begins_31 : decode cX6_begins 31 = .ok (.istore 5, 2) := by decide +kernel
theorem dX6_begins_33 : decode cX6_begins 33 = .ok (.iinc 6 1, 3) := by decide +kernel
theorem dX6_begins_36 : decode cX6_begins 36 = .ok (.goto (-21), 3) := by decide +kernel
theorem dX6_begins_39 : decode cX6_begins 39 = .ok (.aload 4, 2) := by decide +kernel
theorem dX6_begins_41 : decode cX6_begins 41 = .ok (.iload_n 1, 1) := by decide +kernel
theorem dX6_begins_42 : decode cX6_begins 42 = .ok (.putfield 53, 3) := by decide +kernel
theorem dX6_begins_45 : decode cX6_begins 45 = .ok (.aload 4, 2) := by decide +kernel
theorem dX6_begins_47 : decode cX6_begins 47 = .ok (.aload_n 0, 1) := by decide +kernel
theorem dX6_begins_48 : decode cX6_begins 48 = .ok (.getfield 41, 3) := by decide +kernel
theorem dX6_begins_51 : decode cX6_begins 51 = .ok (.putfield 56, 3) := by decide +kernel
theorem dX6_begins_54 : decode cX6_begins 54 = .ok (.aload 4, 2) := by decide +kernel
theorem dX6_begins_56 : decode cX6_begins 56 = .ok (.aload_n 3, 1) := by decide +kernel
theorem dX6_begins_57 : decode cX6_begins 57 = .ok (.putfield 97, 3) := by decide +kernel
theorem dX6_begins_60 : decode cX6_begins 60 = .ok (.aload 4, 2) := by decide +kernel
theorem dX6_begins_62 : decode cX6_begins 62 = .ok (.iload 5, 2) := by decide +kernel
theorem dX6_begins_64 : decode cX6_begins 64 = .ok (.anewarray 31, 3) := by decide +kernel
theorem dX6_begins_67 : decode cX6_begins 67 = .ok (.putfield 62, 3) := by decide +kernel
theorem dX6_begins_70 : decode cX6_begins 70 = .ok (.aload_n 0, 1) := by decide +kernel
theorem dX6_begins_71 : decode cX6_begins 71 = .ok (.getfield 44, 3) := by decide +kernel
theorem dX6_begins_74 : decode cX6_begins 74 = .ok (.ifnonnull 9, 3) := by decide +kernel
theorem dX6_begins_77 : decode cX6_begins 77 = .ok (.ldc2_w 130, 3) := by decide +kernel
theorem dX6_begins_80 : decode cX6_begins 80 = .ok (.goto 44, 3) := by decide +kernel
theorem dX6_begins_83 : decode cX6_begins 83 = .ok (.aload_n 0, 1) := by decide +kernel
theorem dX6_begins_84 : decode cX6_begins 84 = .ok (.getfield 44, 3) := by decide +kernel
theorem dX6_begins_87 : decode cX6_begins 87 = .ok (.iconst 4, 1) := by decide +kernel
theorem dX6_begins_88 : decode cX6_begins 88 = .ok (.newarray .long, 2) := by decide +kernel
theorem dX6_begins_90 : decode cX6_begins 90 = .ok (.dup, 1) := by decide +kernel
theorem dX6_begins_91 : decode cX6_begins 91 = .ok (.iconst 0, 1) := by decide +kernel
theorem dX6_begins_92 : decode cX6_begins 92 = .ok (.iload 5, 2) := by decide +kernel
theorem dX6_begins_94 : decode cX6_begins 94 = .ok (.i2l, 1) := by decide +kernel
theorem dX6_begins_95 : decode cX6_begins 95 = .ok (.lastore, 1) := by decide +kernel
theorem dX6_begins_96 : decode cX6_begins 96 = .ok (.dup, 1) := by decide +kernel
theorem dX6_begins_97 : decode cX6_begins 97 = .ok (.iconst 1, 1) := by decide +kernel
theorem dX6_begins_98 : decode cX6_begins 98 = .ok (.iload_n 1, 1) := by decide +kernel
theorem dX6_begins_99 : decode cX6_begins 99 = .ok (.i2l, 1) := by decide +kernel
theorem dX6_begins_100 : decode cX6_begins 100 = .ok (.lastore, 1) := by decide +kernel
theorem dX6_begins_101 : decode cX6_begins 101 = .ok (.dup, 1) := by decide +kernel
theorem dX6_begins_102 : decode cX6_begins 102 = .ok (.iconst 2, 1) := by decide +kernel
theorem dX6_begins_103 : decode cX6_begins 103 = .ok (.aload_n 3, 1) := by decide +kernel
theorem dX6_begins_104 : decode cX6_begins 104 = .ok (.ifnonnull 7, 3) := by decide +kernel
theorem dX6_begins_107 : decode cX6_begins 107 = .ok (.lconst 0, 1) := by decide +kernel
theorem dX6_begins_108 : decode cX6_begins 108 = .ok (.goto 4, 3) := by decide +kernel
theorem dX6_begins_111 : decode cX6_begins 111 = .ok (.lconst 1, 1) := by decide +kernel
theorem dX6_begins_112 : decode cX6_begins 112 = .ok (.lastore, 1) := by decide +kernel
theorem dX6_begins_113 : decode cX6_begins 113 = .ok (.dup, 1) := by decide +kernel
theorem dX6_begins_114 : decode cX6_begins 114 = .ok (.iconst 3, 1) := by decide +kernel
theorem dX6_begins_115 : decode cX6_begins 115 = .ok (.aload_n 0, 1) := by decide +kernel
theorem dX6_begins_116 : decode cX6_begins 116 = .ok (.getfield 41, 3) := by decide +kernel
theorem dX6_begins_119 : decode cX6_begins 119 = .ok (.i2l, 1) := by decide +kernel
theorem dX6_begins_120 : decode cX6_begins 120 = .ok (.lastore, 1) := by decide +kernel
theorem dX6_begins_121 : decode cX6_begins 121 = .ok (.invokevirtual 132, 3) := by decide +kernel
theorem dX6_begins_124 : decode cX6_begins 124 = .ok (.lstore 6, 2) := by decide +kernel
theorem dX6_begins_126 : decode cX6_begins 126 = .ok (.aload 4, 2) := by decide +kernel
theorem dX6_begins_128 : decode cX6_begins 128 = .ok (.lconst 1, 1) := by decide +kernel
theorem dX6_begins_129 : decode cX6_begins 129 = .ok (.ldc2_w 138, 3) := by decide +kernel
theorem dX6_begins_132 : decode cX6_begins 132 = .ok (.lload 6, 2) := by decide +kernel
theorem dX6_begins_134 : decode cX6_begins 134 = .ok (.invokestatic 140, 3) := by decide +kernel
theorem dX6_begins_137 : decode cX6_begins 137 = .ok (.invokestatic 146, 3) := by decide +kernel
theorem dX6_begins_140 : decode cX6_begins 140 = .ok (.l2i, 1) := by decide +kernel
theorem dX6_begins_141 : decode cX6_begins 141 = .ok (.putfield 59, 3) := by decide +kernel
theorem dX6_begins_144 : decode cX6_begins 144 = .ok (.aload_n 0, 1) := by decide +kernel
theorem dX6_begins_145 : decode cX6_begins 145 = .ok (.getfield 27, 3) := by decide +kernel
theorem dX6_begins_148 : decode cX6_begins 148 = .ok (.arraylength, 1) := by decide +kernel
theorem dX6_begins_149 : decode cX6_begins 149 = .ok (.iconst 1, 1) := by decide +kernel
theorem dX6_begins_150 : decode cX6_begins 150 = .ok (.iadd, 1) := by decide +kernel
theorem dX6_begins_151 : decode cX6_begins 151 = .ok (.anewarray 25, 3) := by decide +kernel
theorem dX6_begins_154 : decode cX6_begins 154 = .ok (.astore 8, 2) := by decide +kernel
theorem dX6_begins_156 : decode cX6_begins 156 = .ok (.iconst 0, 1) := by decide +kernel
theorem dX6_begins_157 : decode cX6_begins 157 = .ok (.istore 9, 2) := by decide +kernel
theorem dX6_begins_159 : decode cX6_begins 159 = .ok (.iload 9, 2) := by decide +kernel
theorem dX6_begins_161 : decode cX6_begins 161 = .ok (.aload_n 0, 1) := by decide +kernel
theorem dX6_begins_162 : decode cX6_begins 162 = .ok (.getfield 27, 3) := by decide +kernel
theorem dX6_begins_165 : decode cX6_begins 165 = .ok (.arraylength, 1) := by decide +kernel
theorem dX6_begins_166 : decode cX6_begins 166 = .ok (.if_icmp .ge 21, 3) := by decide +kernel
theorem dX6_begins_169 : decode cX6_begins 169 = .ok (.aload 8, 2) := by decide +kernel
theorem dX6_begins_171 : decode cX6_begins 171 = .ok (.iload 9, 2) := by decide +kernel
theorem dX6_begins_173 : decode cX6_begins 173 = .ok (.aload_n 0, 1) := by decide +kernel
theorem dX6_begins_174 : decode cX6_begins 174 = .ok (.getfield 27, 3) := by decide +kernel
theorem dX6_begins_177 : decode cX6_begins 177 = .ok (.iload 9, 2) := by decide +kernel
theorem dX6_begins_179 : decode cX6_begins 179 = .ok (.aaload, 1) := by decide +kernel
theorem dX6_begins_180 : decode cX6_begins 180 = .ok (.aastore, 1) := by decide +kernel
theorem dX6_begins_181 : decode cX6_begins 181 = .ok (.iinc 9 1, 3) := by decide +kernel
theorem dX6_begins_184 : decode cX6_begins 184 = .ok (.goto (-25), 3) := by decide +kernel
theorem dX6_begins_187 : decode cX6_begins 187 = .ok (.aload 8, 2) := by decide +kernel
theorem dX6_begins_189 : decode cX6_begins 189 = .ok (.aload_n 0, 1) := by decide +kernel
theorem dX6_begins_190 : decode cX6_begins 190 = .ok (.getfield 27, 3) := by decide +kernel
theorem dX6_begins_193 : decode cX6_begins 193 = .ok (.arraylength, 1) := by decide +kernel
theorem dX6_begins_194 : decode cX6_begins 194 = .ok (.aload 4, 2) := by decide +kernel
theorem dX6_begins_196 : decode cX6_begins 196 = .ok (.aastore, 1) := by decide +kernel
theorem dX6_begins_197 : decode cX6_begins 197 = .ok (.aload_n 0, 1) := by decide +kernel
theorem dX6_begins_198 : decode cX6_begins 198 = .ok (.getfield 33, 3) := by decide +kernel
theorem dX6_begins_201 : decode cX6_begins 201 = .ok (.arraylength, 1) := by decide +kernel
theorem dX6_begins_202 : decode cX6_begins 202 = .ok (.iload 5, 2) := by decide +kernel
theorem dX6_begins_204 : decode cX6_begins 204 = .ok (.iadd, 1) := by decide +kernel
theorem dX6_begins_205 : decode cX6_begins 205 = .ok (.anewarray 31, 3) := by decide +kernel
theorem dX6_begins_208 : decode cX6_begins 208 = .ok (.astore 9, 2) := by decide +kernel
theorem dX6_begins_210 : decode cX6_begins 210 = .ok (.iconst 0, 1) := by decide +kernel
theorem dX6_begins_211 : decode cX6_begins 211 = .ok (.istore 10, 2) := by decide +kernel
theorem dX6_begins_213 : decode cX6_begins 213 = .ok (.iload 10, 2) := by decide +kernel
theorem dX6_begins_215 : decode cX6_begins 215 = .ok (.aload_n 0, 1) := by decide +kernel
theorem dX6_begins_216 : decode cX6_begins 216 = .ok (.getfield 33, 3) := by decide +kernel
theorem dX6_begins_219 : decode cX6_begins 219 = .ok (.arraylength, 1) := by decide +kernel
theorem dX6_begins_220 : decode cX6_begins 220 = .ok (.if_icmp .ge 21, 3) := by decide +kernel
theorem dX6_begins_223 : decode cX6_begins 223 = .ok (.aload 9, 2) := by decide +kernel
theorem dX6_begins_225 : decode cX6_begins 225 = .ok (.iload 10, 2) := by decide +kernel
theorem dX6_begins_227 : decode cX6_begins 227 = .ok (.aload_n 0, 1) := by decide +kernel
theorem dX6_begins_228 : decode cX6_begins 228 = .ok (.getfield 33, 3) := by decide +kernel
theorem dX6_begins_231 : decode cX6_begins 231 = .ok (.iload 10, 2) := by decide +kernel
theorem dX6_begins_233 : decode cX6_begins 233 = .ok (.aaload, 1) := by decide +kernel
theorem dX6_begins_234 : decode cX6_begins 234 = .ok (.aastore, 1) := by decide +kernel
theorem dX6_begins_235 : decode cX6_begins 235 = .ok (.iinc 10 1, 3) := by decide +kernel
theorem dX6_begins_238 : decode cX6_begins 238 = .ok (.goto (-25), 3) := by decide +kernel
theorem dX6_begins_241 : decode cX6_begins 241 = .ok (.iconst 0, 1) := by decide +kernel
theorem dX6_begins_242 : decode cX6_begins 242 = .ok (.istore 10, 2) := by decide +kernel
theorem dX6_begins_244 : decode cX6_begins 244 = .ok (.iconst 0, 1) := by decide +kernel
theorem dX6_begins_245 : decode cX6_begins 245 = .ok (.istore 11, 2) := by decide +kernel
theorem dX6_begins_247 : decode cX6_begins 247 = .ok (.iconst 0, 1) := by decide +kernel
theorem dX6_begins_248 : decode cX6_begins 248 = .ok (.istore 12, 2) := by decide +kernel
theorem dX6_begins_250 : decode cX6_begins 250 = .ok (.iload 12, 2) := by decide +kernel
theorem dX6_begins_252 : decode cX6_begins 252 = .ok (.bipush 10, 2) := by decide +kernel
theorem dX6_begins_254 : decode cX6_begins 254 = .ok (.if_icmp .ge 92, 3) := by decide +kernel
theorem dX6_begins_257 : decode cX6_begins 257 = .ok (.iload_n 2, 1) := by decide +kernel
theorem dX6_begins_258 : decode cX6_begins 258 = .ok (.iload 12, 2) := by decide +kernel
theorem dX6_begins_260 : decode cX6_begins 260 = .ok (.ishr, 1) := by decide +kernel
theorem dX6_begins_261 : decode cX6_begins 261 = .ok (.iconst 1, 1) := by decide +kernel
theorem dX6_begins_262 : decode cX6_begins 262 = .ok (.iand, 1) := by decide +kernel
theorem dX6_begins_263 : decode cX6_begins 263 = .ok (.ifCond .ne 6, 3) := by decide +kernel
theorem dX6_begins_266 : decode cX6_begins 266 = .ok (.goto 74, 3) := by decide +kernel
theorem dX6_begins_269 : decode cX6_begins 269 = .ok (.new 31, 3) := by decide +kernel
theorem dX6_begins_272 : decode cX6_begins 272 = .ok (.dup, 1) := by decide +kernel
theorem dX6_begins_273 : decode cX6_begins 273 = .ok (.invokespecial 63, 3) := by decide +kernel
theorem dX6_begins_276 : decode cX6_begins 276 = .ok (.astore 13, 2) := by decide +kernel
theorem dX6_begins_278 : decode cX6_begins 278 = .ok (.aload 13, 2) := by decide +kernel
theorem dX6_begins_280 : decode cX6_begins 280 = .ok (.aload 4, 2) := by decide +kernel
theorem dX6_begins_282 : decode cX6_begins 282 = .ok (.putfield 64, 3) := by decide +kernel
theorem dX6_begins_285 : decode cX6_begins 285 = .ok (.aload 13, 2) := by decide +kernel
theorem dX6_begins_287 : decode cX6_begins 287 = .ok (.iload 12, 2) := by decide +kernel
theorem dX6_begins_289 : decode cX6_begins 289 = .ok (.putfield 72, 3) := by decide +kernel
theorem dX6_begins_292 : decode cX6_begins 292 = .ok (.aload_n 0, 1) := by decide +kernel
theorem dX6_begins_293 : decode cX6_begins 293 = .ok (.iload 12, 2) := by decide +kernel
theorem dX6_begins_295 : decode cX6_begins 295 = .ok (.invokevirtual 149, 3) := by decide +kernel
theorem dX6_begins_298 : decode cX6_begins 298 = .ok (.ifCond .eq 13, 3) := by decide +kernel
theorem dX6_begins_301 : decode cX6_begins 301 = .ok (.aload 13, 2) := by decide +kernel
theorem dX6_begins_303 : decode cX6_begins 303 = .ok (.iconst 3, 1) := by decide +kernel
theorem dX6_begins_304 : decode cX6_begins 304 = .ok (.iconst 1, 1) := by decide +kernel
theorem dX6_begins_305 : decode cX6_begins 305 = .ok (.invokevirtual 120, 3) := by decide +kernel
theorem dX6_begins_308 : decode cX6_begins 308 = .ok (.goto 6, 3) := by decide +kernel
theorem dX6_begins_311 : decode cX6_begins 311 = .ok (.iinc 11 1, 3) := by decide +kernel
theorem dX6_begins_314 : decode cX6_begins 314 = .ok (.aload 4, 2) := by decide +kernel
theorem dX6_begins_316 : decode cX6_begins 316 = .ok (.getfield 62, 3) := by decide +kernel
theorem dX6_begins_319 : decode cX6_begins 319 = .ok (.iload 10, 2) := by decide +kernel
theorem dX6_begins_321 : decode cX6_begins 321 = .ok (.aload 13, 2) := by decide +kernel
theorem dX6_begins_323 : decode cX6_begins 323 = .ok (.aastore, 1) := by decide +kernel
theorem dX6_begins_324 : decode cX6_begins 324 = .ok (.aload 9, 2) := by decide +kernel
theorem dX6_begins_326 : decode cX6_begins 326 = .ok (.aload_n 0, 1) := by decide +kernel
theorem dX6_begins_327 : decode cX6_begins 327 = .ok (.getfield 33, 3) := by decide +kernel
theorem dX6_begins_330 : decode cX6_begins 330 = .ok (.arraylength, 1) := by decide +kernel
theorem dX6_begins_331 : decode cX6_begins 331 = .ok (.iload 10, 2) := by decide +kernel
theorem dX6_begins_333 : decode cX6_begins 333 = .ok (.iadd, 1) := by decide +kernel
theorem dX6_begins_334 : decode cX6_begins 334 = .ok (.aload 13, 2) := by decide +kernel
theorem dX6_begins_336 : decode cX6_begins 336 = .ok (.aastore, 1) := by decide +kernel
theorem dX6_begins_337 : decode cX6_begins 337 = .ok (.iinc 10 1, 3) := by decide +kernel
theorem dX6_begins_340 : decode cX6_begins 340 = .ok (.iinc 12 1, 3) := by decide +kernel
theorem dX6_begins_343 : decode cX6_begins 343 = .ok (.goto (-93), 3) := by decide +kernel
theorem dX6_begins_346 : decode cX6_begins 346 = .ok (.aload_n 0, 1) := by decide +kernel
theorem dX6_begins_347 : decode cX6_begins 347 = .ok (.aload 8, 2) := by decide +kernel
theorem dX6_begins_349 : decode cX6_begins 349 = .ok (.putfield 27, 3) := by decide +kernel
theorem dX6_begins_352 : decode cX6_begins 352 = .ok (.aload_n 0, 1) := by decide +kernel
theorem dX6_begins_353 : decode cX6_begins 353 = .ok (.aload 9, 2) := by decide +kernel
theorem dX6_begins_355 : decode cX6_begins 355 = .ok (.putfield 33, 3) := by decide +kernel
theorem dX6_begins_358 : decode cX6_begins 358 = .ok (.iload 11, 2) := by decide +kernel
theorem dX6_begins_360 : decode cX6_begins 360 = .ok (.ifCond .ne 9, 3) := by decide +kernel
theorem dX6_begins_363 : decode cX6_begins 363 = .ok (.aload_n 0, 1) := by decide +kernel
theorem dX6_begins_364 : decode cX6_begins 364 = .ok (.aload 4, 2) := by decide +kernel
theorem dX6_begins_366 : decode cX6_begins 366 = .ok (.invokevirtual 124, 3) := by decide +kernel
theorem dX6_begins_369 : decode cX6_begins 369 = .ok (.iload 11, 2) := by decide +kernel
theorem dX6_begins_371 : decode cX6_begins 371 = .ok (.ireturn, 1) := by decide +kernel
theorem dX6_second_0 : decode cX6_second 0 = .ok (.aload_n 0, 1) := by decide +kernel
theorem dX6_second_1 : decode cX6_second 1 = .ok (.dup, 1) := by decide +kernel
theorem dX6_second_2 : decode cX6_second 2 = .ok (.getfield 41, 3) := by decide +kernel
theorem dX6_second_5 : decode cX6_second 5 = .ok (.iconst 1, 1) := by decide +kernel
theorem dX6_second_6 : decode cX6_second 6 = .ok (.iadd, 1) := by decide +kernel
theorem dX6_second_7 : decode cX6_second 7 = .ok (.putfield 41, 3) := by decide +kernel
theorem dX6_second_10 : decode cX6_second 10 = .ok (.aload_n 0, 1) := by decide +kernel
theorem dX6_second_11 : decode cX6_second 11 = .ok (.getfield 33, 3) := by decide +kernel
theorem dX6_second_14 : decode cX6_second 14 = .ok (.astore_n 1, 1) := by decide +kernel
theorem dX6_second_15 : decode cX6_second 15 = .ok (.aload_n 1, 1) := by decide +kernel
theorem dX6_second_16 : decode cX6_second 16 = .ok (.arraylength, 1) := by decide +kernel
theorem dX6_second_17 : decode cX6_second 17 = .ok (.istore_n 2, 1) := by decide +kernel
theorem dX6_second_18 : decode cX6_second 18 = .ok (.iconst 0, 1) := by decide +kernel
theorem dX6_second_19 : decode cX6_second 19 = .ok (.istore_n 3, 1) := by decide +kernel
theorem dX6_second_20 : decode cX6_second 20 = .ok (.iload_n 3, 1) := by decide +kernel
theorem dX6_second_21 : decode cX6_second 21 = .ok (.iload_n 2, 1) := by decide +kernel
theorem dX6_second_22 : decode cX6_second 22 = .ok (.if_icmp .ge 124, 3) := by decide +kernel
theorem dX6_second_25 : decode cX6_second 25 = .ok (.aload_n 1, 1) := by decide +kernel
theorem dX6_second_26 : decode cX6_second 26 = .ok (.iload_n 3, 1) := by decide +kernel
theorem dX6_second_27 : decode cX6_second 27 = .ok (.aaload, 1) := by decide +kernel
theorem dX6_second_28 : decode cX6_second 28 = .ok (.astore 4, 2) := by decide +kernel
theorem dX6_second_30 : decode cX6_second 30 = .ok (.iconst 0, 1) := by decide +kernel
theorem dX6_second_31 : decode cX6_second 31 = .ok (.istore 5, 2) := by decide +kernel
theorem dX6_second_33 : decode cX6_second 33 = .ok (.iload 5, 2) := by decide +kernel
theorem dX6_second_35 : decode cX6_second 35 = .ok (.iconst 2, 1) := by decide +kernel
theorem dX6_second_36 : decode cX6_second 36 = .ok (.if_icmp .ge 104, 3) := by decide +kernel
theorem dX6_second_39 : decode cX6_second 39 = .ok (.aload 4, 2) := by decide +kernel
theorem dX6_second_41 : decode cX6_second 41 = .ok (.getfield 75, 3) := by decide +kernel
theorem dX6_second_44 : decode cX6_second 44 = .ok (.iconst 1, 1) := by decide +kernel
theorem dX6_second_45 : decode cX6_second 45 = .ok (.if_icmp .ne 95, 3) := by decide +kernel
theorem dX6_second_48 : decode cX6_second 48 = .ok (.aload 4, 2) := by decide +kernel
theorem dX6_second_50 : decode cX6_second 50 = .ok (.getfield 90, 3) := by decide +kernel
theorem dX6_second_53 : decode cX6_second 53 = .ok (.iload 5, 2) := by decide +kernel
theorem dX6_second_55 : decode cX6_second 55 = .ok (.aaload, 1) := by decide +kernel
theorem dX6_second_56 : decode cX6_second 56 = .ok (.astore 6, 2) := by decide +kernel
theorem dX6_second_58 : decode cX6_second 58 = .ok (.aload 6, 2) := by decide +kernel
theorem dX6_second_60 : decode cX6_second 60 = .ok (.ifnull 74, 3) := by decide +kernel
theorem dX6_second_63 : decode cX6_second 63 = .ok (.aload 6, 2) := by decide +kernel
theorem dX6_second_65 : decode cX6_second 65 = .ok (.iconst 1, 1) := by decide +kernel
theorem dX6_second_66 : decode cX6_second 66 = .ok (.iaload, 1) := by decide +kernel
theorem dX6_second_67 : decode cX6_second 67 = .ok (.aload_n 0, 1) := by decide +kernel
theorem dX6_second_68 : decode cX6_second 68 = .ok (.getfield 41, 3) := by decide +kernel
theorem dX6_second_71 : decode cX6_second 71 = .ok (.if_icmp .eq 6, 3) := by decide +kernel
theorem dX6_second_74 : decode cX6_second 74 = .ok (.goto 60, 3) := by decide +kernel
theorem dX6_second_77 : decode cX6_second 77 = .ok (.aload 4, 2) := by decide +kernel
theorem dX6_second_79 : decode cX6_second 79 = .ok (.getfield 90, 3) := by decide +kernel
theorem dX6_second_82 : decode cX6_second 82 = .ok (.iload 5, 2) := by decide +kernel
theorem dX6_second_84 : decode cX6_second 84 = .ok (.aconst_null, 1) := by decide +kernel
theorem dX6_second_85 : decode cX6_second 85 = .ok (.aastore, 1) := by decide +kernel
theorem dX6_second_86 : decode cX6_second 86 = .ok (.aload 4, 2) := by decide +kernel
theorem dX6_second_88 : decode cX6_second 88 = .ok (.getfield 87, 3) := by decide +kernel
theorem dX6_second_91 : decode cX6_second 91 = .ok (.ifnonnull 33, 3) := by decide +kernel
theorem dX6_second_94 : decode cX6_second 94 = .ok (.aload 4, 2) := by decide +kernel
theorem dX6_second_96 : decode cX6_second 96 = .ok (.iconst 3, 1) := by decide +kernel
theorem dX6_second_97 : decode cX6_second 97 = .ok (.newarray .int, 2) := by decide +kernel
theorem dX6_second_99 : decode cX6_second 99 = .ok (.dup, 1) := by decide +kernel
theorem dX6_second_100 : decode cX6_second 100 = .ok (.iconst 0, 1) := by decide +kernel
theorem dX6_second_101 : decode cX6_second 101 = .ok (.iload 5, 2) := by decide +kernel
theorem dX6_second_103 : decode cX6_second 103 = .ok (.iastore, 1) := by decide +kernel
theorem dX6_second_104 : decode cX6_second 104 = .ok (.dup, 1) := by decide +kernel
theorem dX6_second_105 : decode cX6_second 105 = .ok (.iconst 1, 1) := by decide +kernel
theorem dX6_second_106 : decode cX6_second 106 = .ok (.aload 6, 2) := by decide +kernel
theorem dX6_second_108 : decode cX6_second 108 = .ok (.iconst 0, 1) := by decide +kernel
theorem dX6_second_109 : decode cX6_second 109 = .ok (.iaload, 1) := by decide +kernel
theorem dX6_second_110 : decode cX6_second 110 = .ok (.iastore, 1) := by decide +kernel
theorem dX6_second_111 : decode cX6_second 111 = .ok (.dup, 1) := by decide +kernel
theorem dX6_second_112 : decode cX6_second 112 = .ok (.iconst 2, 1) := by decide +kernel
theorem dX6_second_113 : decode cX6_second 113 = .ok (.aload_n 0, 1) := by decide +kernel
theorem dX6_second_114 : decode cX6_second 114 = .ok (.getfield 41, 3) := by decide +kernel
theorem dX6_second_117 : decode cX6_second 117 = .ok (.iastore, 1) := by decide +kernel
theorem dX6_second_118 : decode cX6_second 118 = .ok (.putfield 87, 3) := by decide +kernel
theorem dX6_second_121 : decode cX6_second 121 = .ok (.goto 13, 3) := by decide +kernel
theorem dX6_second_124 : decode cX6_second 124 = .ok (.aload_n 0, 1) := by decide +kernel
theorem dX6_second_125 : decode cX6_second 125 = .ok (.getfield 37, 3) := by decide +kernel
theorem dX6_second_128 : decode cX6_second 128 = .ok (.iconst 3, 1) := by decide +kernel
theorem dX6_second_129 : decode cX6_second 129 = .ok (.dup2, 1) := by decide +kernel
theorem dX6_second_130 : decode cX6_second 130 = .ok (.iaload, 1) := by decide +kernel
theorem dX6_second_131 : decode cX6_second 131 = .ok (.iconst 1, 1) := by decide +kernel
theorem dX6_second_132 : decode cX6_second 132 = .ok (.iadd, 1) := by decide +kernel
theorem dX6_second_133 : decode cX6_second 133 = .ok (.iastore, 1) := by decide +kernel
theorem dX6_second_134 : decode cX6_second 134 = .ok (.iinc 5 1, 3) := by decide +kernel
theorem dX6_second_137 : decode cX6_second 137 = .ok (.goto (-104), 3) := by decide +kernel
theorem dX6_second_140 : decode cX6_second 140 = .ok (.iinc 3 1, 3) := by decide +kernel
theorem dX6_second_143 : decode cX6_second 143 = .ok (.goto (-123), 3) := by decide +kernel
theorem dX6_second_146 : decode cX6_second 146 = .ok (.aload_n 0, 1) := by decide +kernel
theorem dX6_second_147 : decode cX6_second 147 = .ok (.getfield 33, 3) := by decide +kernel
theorem dX6_second_150 : decode cX6_second 150 = .ok (.astore_n 1, 1) := by decide +kernel
theorem dX6_second_151 : decode cX6_second 151 = .ok (.aload_n 1, 1) := by decide +kernel
theorem dX6_second_152 : decode cX6_second 152 = .ok (.arraylength, 1) := by decide +kernel
theorem dX6_second_153 : decode cX6_second 153 = .ok (.istore_n 2, 1) := by decide +kernel
theorem dX6_second_154 : decode cX6_second 154 = .ok (.iconst 0, 1) := by decide +kernel
theorem dX6_second_155 : decode cX6_second 155 = .ok (.istore_n 3, 1) := by decide +kernel
theorem dX6_second_156 : decode cX6_second 156 = .ok (.iload_n 3, 1) := by decide +kernel
theorem dX6_second_157 : decode cX6_second 157 = .ok (.iload_n 2, 1) := by decide +kernel
theorem dX6_second_158 : decode cX6_second 158 = .ok (.if_icmp .ge 182, 3) := by decide +kernel
theorem dX6_second_161 : decode cX6_second 161 = .ok (.aload_n 1, 1) := by decide +kernel
theorem dX6_second_162 : decode cX6_second 162 = .ok (.iload_n 3, 1) := by decide +kernel
theorem dX6_second_163 : decode cX6_second 163 = .ok (.aaload, 1) := by decide +kernel
theorem dX6_second_164 : decode cX6_second 164 = .ok (.astore 4, 2) := by decide +kernel
theorem dX6_second_166 : decode cX6_second 166 = .ok (.aload 4, 2) := by decide +kernel
theorem dX6_second_168 : decode cX6_second 168 = .ok (.getfield 75, 3) := by decide +kernel
theorem dX6_second_171 : decode cX6_second 171 = .ok (.iconst 1, 1) := by decide +kernel
theorem dX6_second_172 : decode cX6_second 172 = .ok (.if_icmp .ne 162, 3) := by decide +kernel
theorem dX6_second_175 : decode cX6_second 175 = .ok (.aload 4, 2) := by decide +kernel
theorem dX6_second_177 : decode cX6_second 177 = .ok (.getfield 87, 3) := by decide +kernel
theorem dX6_second_180 : decode cX6_second 180 = .ok (.ifnonnull 6, 3) := by decide +kernel
theorem dX6_second_183 : decode cX6_second 183 = .ok (.goto 151, 3) := by decide +kernel
theorem dX6_second_186 : decode cX6_second 186 = .ok (.aload_n 0, 1) := by decide +kernel
theorem dX6_second_187 : decode cX6_second 187 = .ok (.getfield 21, 3) := by decide +kernel
theorem dX6_second_190 : decode cX6_second 190 = .ok (.aload 4, 2) := by decide +kernel
theorem dX6_second_192 : decode cX6_second 192 = .ok (.iconst 1, 1) := by decide +kernel
theorem dX6_second_193 : decode cX6_second 193 = .ok (.aload 4, 2) := by decide +kernel
theorem dX6_second_195 : decode cX6_second 195 = .ok (.getfield 87, 3) := by decide +kernel
theorem dX6_second_198 : decode cX6_second 198 = .ok (.iconst 0, 1) := by decide +kernel
theorem dX6_second_199 : decode cX6_second 199 = .ok (.iaload, 1) := by decide +kernel
theorem dX6_second_200 : decode cX6_second 200 = .ok (.isub, 1) := by decide +kernel
theorem dX6_second_201 : decode cX6_second 201 = .ok (.invokevirtual 153, 3) := by decide +kernel
theorem dX6_second_204 : decode cX6_second 204 = .ok (.aaload, 1) := by decide +kernel
theorem dX6_second_205 : decode cX6_second 205 = .ok (.astore 5, 2) := by decide +kernel
theorem dX6_second_207 : decode cX6_second 207 = .ok (.aload_n 0, 1) := by decide +kernel
theorem dX6_second_208 : decode cX6_second 208 = .ok (.getfield 41, 3) := by decide +kernel
theorem dX6_second_211 : decode cX6_second 211 = .ok (.aload 4, 2) := by decide +kernel
theorem dX6_second_213 : decode cX6_second 213 = .ok (.getfield 87, 3) := by decide +kernel
theorem dX6_second_216 : decode cX6_second 216 = .ok (.iconst 2, 1) := by decide +kernel
theorem dX6_second_217 : decode cX6_second 217 = .ok (.iaload, 1) := by decide +kernel
theorem dX6_second_218 : decode cX6_second 218 = .ok (.isub, 1) := by decide +kernel
theorem dX6_second_219 : decode cX6_second 219 = .ok (.istore 6, 2) := by decide +kernel
theorem dX6_second_221 : decode cX6_second 221 = .ok (.aload 5, 2) := by decide +kernel
theorem dX6_second_223 : decode cX6_second 223 = .ok (.iconst 1, 1) := by decide +kernel
theorem dX6_second_224 : decode cX6_second 224 = .ok (.iaload, 1) := by decide +kernel
theorem dX6_second_225 : decode cX6_second 225 = .ok (.ifCond .eq 68, 3) := by decide +kernel
theorem dX6_second_228 : decode cX6_second 228 = .ok (.iload 6, 2) := by decide +kernel
theorem dX6_second_230 : decode cX6_second 230 = .ok (.aload 5, 2) := by decide +kernel
theorem dX6_second_232 : decode cX6_second 232 = .ok (.iconst 1, 1) := by decide +kernel
theorem dX6_second_233 : decode cX6_second 233 = .ok (.iaload, 1) := by decide +kernel
theorem dX6_second_234 : decode cX6_second 234 = .ok (.if_icmp .ne 59, 3) := by decide +kernel
theorem dX6_second_237 : decode cX6_second 237 = .ok (.aload 4, 2) := by decide +kernel
theorem dX6_second_239 : decode cX6_second 239 = .ok (.getfield 87, 3) := by decide +kernel
theorem dX6_second_242 : decode cX6_second 242 = .ok (.iconst 1, 1) := by decide +kernel
theorem dX6_second_243 : decode cX6_second 243 = .ok (.iaload, 1) := by decide +kernel
theorem dX6_second_244 : decode cX6_second 244 = .ok (.aload 5, 2) := by decide +kernel
theorem dX6_second_246 : decode cX6_second 246 = .ok (.iconst 2, 1) := by decide +kernel
theorem dX6_second_247 : decode cX6_second 247 = .ok (.iaload, 1) := by decide +kernel
theorem dX6_second_248 : decode cX6_second 248 = .ok (.if_icmp .gt 45, 3) := by decide +kernel
theorem dX6_second_251 : decode cX6_second 251 = .ok (.aload 4, 2) := by decide +kernel
theorem dX6_second_253 : decode cX6_second 253 = .ok (.aload 4, 2) := by decide +kernel
theorem dX6_second_255 : decode cX6_second 255 = .ok (.getfield 87, 3) := by decide +kernel
theorem dX6_second_258 : decode cX6_second 258 = .ok (.iconst 1, 1) := by decide +kernel
theorem dX6_second_259 : decode cX6_second 259 = .ok (.iaload, 1) := by decide +kernel
theorem dX6_second_260 : decode cX6_second 260 = .ok (.putfield 81, 3) := by decide +kernel
theorem dX6_second_263 : decode cX6_second 263 = .ok (.aload 4, 2) := by decide +kernel
theorem dX6_second_265 : decode cX6_second 265 = .ok (.dup, 1) := by decide +kernel
theorem dX6_second_266 : decode cX6_second 266 = .ok (.getfield 84, 3) := by decide +kernel
theorem dX6_second_269 : decode cX6_second 269 = .ok (.iconst 1, 1) := by decide +kernel
theorem dX6_second_270 : decode cX6_second 270 = .ok (.iadd, 1) := by decide +kernel
theorem dX6_second_271 : decode cX6_second 271 = .ok (.putfield 84, 3) := by decide +kernel
theorem dX6_second_274 : decode cX6_second 274 = .ok (.aload 4, 2) := by decide +kernel
theorem dX6_second_276 : decode cX6_second 276 = .ok (.aconst_null, 1) := by decide +kernel
theorem dX6_second_277 : decode cX6_second 277 = .ok (.putfield 87, 3) := by decide +kernel
theorem dX6_second_280 : decode cX6_second 280 = .ok (.aload_n 0, 1) := by decide +kernel
theorem dX6_second_281 : decode cX6_second 281 = .ok (.getfield 37, 3) := by decide +kernel
theorem dX6_second_284 : decode cX6_second 284 = .ok (.iconst 0, 1) := by decide +kernel
theorem dX6_second_285 : decode cX6_second 285 = .ok (.dup2, 1) := by decide +kernel
theorem dX6_second_286 : decode cX6_second 286 = .ok (.iaload, 1) := by decide +kernel
theorem dX6_second_287 : decode cX6_second 287 = .ok (.iconst 1, 1) := by decide +kernel
theorem dX6_second_288 : decode cX6_second 288 = .ok (.iadd, 1) := by decide +kernel
theorem dX6_second_289 : decode cX6_second 289 = .ok (.iastore, 1) := by decide +kernel
theorem dX6_second_290 : decode cX6_second 290 = .ok (.goto 44, 3) := by decide +kernel
theorem dX6_second_293 : decode cX6_second 293 = .ok (.aload 5, 2) := by decide +kernel
theorem dX6_second_295 : decode cX6_second 295 = .ok (.iconst 1, 1) := by decide +kernel
theorem dX6_second_296 : decode cX6_second 296 = .ok (.iaload, 1) := by decide +kernel
theorem dX6_second_297 : decode cX6_second 297 = .ok (.ifCond .eq 12, 3) := by decide +kernel
theorem dX6_second_300 : decode cX6_second 300 = .ok (.iload 6, 2) := by decide +kernel
theorem dX6_second_302 : decode cX6_second 302 = .ok (.aload 5, 2) := by decide +kernel
theorem dX6_second_304 : decode cX6_second 304 = .ok (.iconst 1, 1) := by decide +kernel
theorem dX6_second_305 : decode cX6_second 305 = .ok (.iaload, 1) := by decide +kernel
theorem dX6_second_306 : decode cX6_second 306 = .ok (.if_icmp .eq 12, 3) := by decide +kernel
theorem dX6_second_309 : decode cX6_second 309 = .ok (.iload 6, 2) := by decide +kernel
theorem dX6_second_311 : decode cX6_second 311 = .ok (.aload_n 0, 1) := by decide +kernel
theorem dX6_second_312 : decode cX6_second 312 = .ok (.getfield 16, 3) := by decide +kernel
theorem dX6_second_315 : decode cX6_second 315 = .ok (.if_icmp .lt 19, 3) := by decide +kernel
theorem dX6_second_318 : decode cX6_second 318 = .ok (.aload 4, 2) := by decide +kernel
theorem dX6_second_320 : decode cX6_second 320 = .ok (.aconst_null, 1) := by decide +kernel
theorem dX6_second_321 : decode cX6_second 321 = .ok (.putfield 87, 3) := by decide +kernel
theorem dX6_second_324 : decode cX6_second 324 = .ok (.aload_n 0, 1) := by decide +kernel
theorem dX6_second_325 : decode cX6_second 325 = .ok (.getfield 37, 3) := by decide +kernel
theorem dX6_second_328 : decode cX6_second 328 = .ok (.iconst 1, 1) := by decide +kernel
theorem dX6_second_329 : decode cX6_second 329 = .ok (.dup2, 1) := by decide +kernel
theorem dX6_second_330 : decode cX6_second 330 = .ok (.iaload, 1) := by decide +kernel
theorem dX6_second_331 : decode cX6_second 331 = .ok (.iconst 1, 1) := by decide +kernel
theorem dX6_second_332 : decode cX6_second 332 = .ok (.iadd, 1) := by decide +kernel
theorem dX6_second_333 : decode cX6_second 333 = .ok (.iastore, 1) := by decide +kernel
theorem dX6_second_334 : decode cX6_second 334 = .ok (.iinc 3 1, 3) := by decide +kernel
theorem dX6_second_337 : decode cX6_second 337 = .ok (.goto (-181), 3) := by decide +kernel
theorem dX6_second_340 : decode cX6_second 340 = .ok (.aload_n 0, 1) := by decide +kernel
theorem dX6_second_341 : decode cX6_second 341 = .ok (.getfield 33, 3) := by decide +kernel
theorem dX6_second_344 : decode cX6_second 344 = .ok (.astore_n 1, 1) := by decide +kernel
theorem dX6_second_345 : decode cX6_second 345 = .ok (.aload_n 1, 1) := by decide +kernel
theorem dX6_second_346 : decode cX6_second 346 = .ok (.arraylength, 1) := by decide +kernel
theorem dX6_second_347 : decode cX6_second 347 = .ok (.istore_n 2, 1) := by decide +kernel
theorem dX6_second_348 : decode cX6_second 348 = .ok (.iconst 0, 1) := by decide +kernel
theorem dX6_second_349 : decode cX6_second 349 = .ok (.istore_n 3, 1) := by decide +kernel
theorem dX6_second_350 : decode cX6_second 350 = .ok (.iload_n 3, 1) := by decide +kernel
theorem dX6_second_351 : decode cX6_second 351 = .ok (.iload_n 2, 1) := by decide +kernel
theorem dX6_second_352 : decode cX6_second 352 = .ok (.if_icmp .ge 83, 3) := by decide +kernel
theorem dX6_second_355 : decode cX6_second 355 = .ok (.aload_n 1, 1) := by decide +kernel
theorem dX6_second_356 : decode cX6_second 356 = .ok (.iload_n 3, 1) := by decide +kernel
theorem dX6_second_357 : decode cX6_second 357 = .ok (.aaload, 1) := by decide +kernel
theorem dX6_second_358 : decode cX6_second 358 = .ok (.astore 4, 2) := by decide +kernel
theorem dX6_second_360 : decode cX6_second 360 = .ok (.aload 4, 2) := by decide +kernel
theorem dX6_second_362 : decode cX6_second 362 = .ok (.getfield 75, 3) := by decide +kernel
theorem dX6_second_365 : decode cX6_second 365 = .ok (.ifCond .ne 64, 3) := by decide +kernel
theorem dX6_second_368 : decode cX6_second 368 = .ok (.aload_n 0, 1) := by decide +kernel
theorem dX6_second_369 : decode cX6_second 369 = .ok (.getfield 21, 3) := by decide +kernel
theorem dX6_second_372 : decode cX6_second 372 = .ok (.aload 4, 2) := by decide +kernel
theorem dX6_second_374 : decode cX6_second 374 = .ok (.getfield 72, 3) := by decide +kernel
theorem dX6_second_377 : decode cX6_second 377 = .ok (.aaload, 1) := by decide +kernel
theorem dX6_second_378 : decode cX6_second 378 = .ok (.iconst 0, 1) := by decide +kernel
theorem dX6_second_379 : decode cX6_second 379 = .ok (.iaload, 1) := by decide +kernel
theorem dX6_second_380 : decode cX6_second 380 = .ok (.ifCond .eq 49, 3) := by decide +kernel
theorem dX6_second_383 : decode cX6_second 383 = .ok (.aload_n 0, 1) := by decide +kernel
theorem dX6_second_384 : decode cX6_second 384 = .ok (.getfield 41, 3) := by decide +kernel
theorem dX6_second_387 : decode cX6_second 387 = .ok (.aload 4, 2) := by decide +kernel
theorem dX6_second_389 : decode cX6_second 389 = .ok (.getfield 64, 3) := by decide +kernel
theorem dX6_second_392 : decode cX6_second 392 = .ok (.getfield 56, 3) := by decide +kernel
theorem dX6_second_395 : decode cX6_second 395 = .ok (.isub, 1) := by decide +kernel
theorem dX6_second_396 : decode cX6_second 396 = .ok (.aload_n 0, 1) := by decide +kernel
theorem dX6_second_397 : decode cX6_second 397 = .ok (.getfield 21, 3) := by decide +kernel
theorem dX6_second_400 : decode cX6_second 400 = .ok (.aload 4, 2) := by decide +kernel
theorem dX6_second_402 : decode cX6_second 402 = .ok (.getfield 72, 3) := by decide +kernel
theorem dX6_second_405 : decode cX6_second 405 = .ok (.aaload, 1) := by decide +kernel
theorem dX6_second_406 : decode cX6_second 406 = .ok (.iconst 0, 1) := by decide +kernel
theorem dX6_second_407 : decode cX6_second 407 = .ok (.iaload, 1) := by decide +kernel
theorem dX6_second_408 : decode cX6_second 408 = .ok (.if_icmp .ne 21, 3) := by decide +kernel
theorem dX6_second_411 : decode cX6_second 411 = .ok (.aload_n 0, 1) := by decide +kernel
theorem dX6_second_412 : decode cX6_second 412 = .ok (.aload 4, 2) := by decide +kernel
theorem dX6_second_414 : decode cX6_second 414 = .ok (.getfield 72, 3) := by decide +kernel
theorem dX6_second_417 : decode cX6_second 417 = .ok (.invokevirtual 149, 3) := by decide +kernel
theorem dX6_second_420 : decode cX6_second 420 = .ok (.ifCond .ne 9, 3) := by decide +kernel
theorem dX6_second_423 : decode cX6_second 423 = .ok (.aload_n 0, 1) := by decide +kernel
theorem dX6_second_424 : decode cX6_second 424 = .ok (.aload 4, 2) := by decide +kernel
theorem dX6_second_426 : decode cX6_second 426 = .ok (.invokevirtual 157, 3) := by decide +kernel
theorem dX6_second_429 : decode cX6_second 429 = .ok (.iinc 3 1, 3) := by decide +kernel
theorem dX6_second_432 : decode cX6_second 432 = .ok (.goto (-82), 3) := by decide +kernel
theorem dX6_second_435 : decode cX6_second 435 = .ok (.aload_n 0, 1) := by decide +kernel
theorem dX6_second_436 : decode cX6_second 436 = .ok (.getfield 27, 3) := by decide +kernel
theorem dX6_second_439 : decode cX6_second 439 = .ok (.astore_n 1, 1) := by decide +kernel
theorem dX6_second_440 : decode cX6_second 440 = .ok (.aload_n 1, 1) := by decide +kernel
theorem dX6_second_441 : decode cX6_second 441 = .ok (.arraylength, 1) := by decide +kernel
theorem dX6_second_442 : decode cX6_second 442 = .ok (.istore_n 2, 1) := by decide +kernel
theorem dX6_second_443 : decode cX6_second 443 = .ok (.iconst 0, 1) := by decide +kernel
theorem dX6_second_444 : decode cX6_second 444 = .ok (.istore_n 3, 1) := by decide +kernel
theorem dX6_second_445 : decode cX6_second 445 = .ok (.iload_n 3, 1) := by decide +kernel
theorem dX6_second_446 : decode cX6_second 446 = .ok (.iload_n 2, 1) := by decide +kernel
theorem dX6_second_447 : decode cX6_second 447 = .ok (.if_icmp .ge 99, 3) := by decide +kernel
theorem dX6_second_450 : decode cX6_second 450 = .ok (.aload_n 1, 1) := by decide +kernel
theorem dX6_second_451 : decode cX6_second 451 = .ok (.iload_n 3, 1) := by decide +kernel
theorem dX6_second_452 : decode cX6_second 452 = .ok (.aaload, 1) := by decide +kernel
theorem dX6_second_453 : decode cX6_second 453 = .ok (.astore 4, 2) := by decide +kernel
theorem dX6_second_455 : decode cX6_second 455 = .ok (.aload 4, 2) := by decide +kernel
theorem dX6_second_457 : decode cX6_second 457 = .ok (.invokevirtual 104, 3) := by decide +kernel
theorem dX6_second_460 : decode cX6_second 460 = .ok (.ifCond .eq 80, 3) := by decide +kernel
theorem dX6_second_463 : decode cX6_second 463 = .ok (.aload_n 0, 1) := by decide +kernel
theorem dX6_second_464 : decode cX6_second 464 = .ok (.getfield 41, 3) := by decide +kernel
theorem dX6_second_467 : decode cX6_second 467 = .ok (.aload 4, 2) := by decide +kernel
theorem dX6_second_469 : decode cX6_second 469 = .ok (.getfield 56, 3) := by decide +kernel
theorem dX6_second_472 : decode cX6_second 472 = .ok (.isub, 1) := by decide +kernel
theorem dX6_second_473 : decode cX6_second 473 = .ok (.aload 4, 2) := by decide +kernel
theorem dX6_second_475 : decode cX6_second 475 = .ok (.getfield 59, 3) := by decide +kernel
theorem dX6_second_478 : decode cX6_second 478 = .ok (.if_icmp .ge 6, 3) := by decide +kernel
theorem dX6_second_481 : decode cX6_second 481 = .ok (.goto 59, 3) := by decide +kernel
theorem dX6_second_484 : decode cX6_second 484 = .ok (.aload 4, 2) := by decide +kernel
theorem dX6_second_486 : decode cX6_second 486 = .ok (.getfield 62, 3) := by decide +kernel
theorem dX6_second_489 : decode cX6_second 489 = .ok (.astore 5, 2) := by decide +kernel
theorem dX6_second_491 : decode cX6_second 491 = .ok (.aload 5, 2) := by decide +kernel
theorem dX6_second_493 : decode cX6_second 493 = .ok (.arraylength, 1) := by decide +kernel
theorem dX6_second_494 : decode cX6_second 494 = .ok (.istore 6, 2) := by decide +kernel
theorem dX6_second_496 : decode cX6_second 496 = .ok (.iconst 0, 1) := by decide +kernel
theorem dX6_second_497 : decode cX6_second 497 = .ok (.istore 7, 2) := by decide +kernel
theorem dX6_second_499 : decode cX6_second 499 = .ok (.iload 7, 2) := by decide +kernel
theorem dX6_second_501 : decode cX6_second 501 = .ok (.iload 6, 2) := by decide +kernel
theorem dX6_second_503 : decode cX6_second 503 = .ok (.if_icmp .ge 31, 3) := by decide +kernel
theorem dX6_second_506 : decode cX6_second 506 = .ok (.aload 5, 2) := by decide +kernel
theorem dX6_second_508 : decode cX6_second 508 = .ok (.iload 7, 2) := by decide +kernel
theorem dX6_second_510 : decode cX6_second 510 = .ok (.aaload, 1) := by decide +kernel
theorem dX6_second_511 : decode cX6_second 511 = .ok (.astore 8, 2) := by decide +kernel
theorem dX6_second_513 : decode cX6_second 513 = .ok (.aload 8, 2) := by decide +kernel
theorem dX6_second_515 : decode cX6_second 515 = .ok (.getfield 75, 3) := by decide +kernel
theorem dX6_second_518 : decode cX6_second 518 = .ok (.ifCond .ne 10, 3) := by decide +kernel
theorem dX6_second_521 : decode cX6_second 521 = .ok (.aload 8, 2) := by decide +kernel
theorem dX6_second_523 : decode cX6_second 523 = .ok (.iconst 3, 1) := by decide +kernel
theorem dX6_second_524 : decode cX6_second 524 = .ok (.iconst 3, 1) := by decide +kernel
theorem dX6_second_525 : decode cX6_second 525 = .ok (.invokevirtual 120, 3) := by decide +kernel
theorem dX6_second_528 : decode cX6_second 528 = .ok (.iinc 7 1, 3) := by decide +kernel
theorem dX6_second_531 : decode cX6_second 531 = .ok (.goto (-32), 3) := by decide +kernel
theorem dX6_second_534 : decode cX6_second 534 = .ok (.aload_n 0, 1) := by decide +kernel
theorem dX6_second_535 : decode cX6_second 535 = .ok (.aload 4, 2) := by decide +kernel
theorem dX6_second_537 : decode cX6_second 537 = .ok (.invokevirtual 124, 3) := by decide +kernel
theorem dX6_second_540 : decode cX6_second 540 = .ok (.iinc 3 1, 3) := by decide +kernel
theorem dX6_second_543 : decode cX6_second 543 = .ok (.goto (-98), 3) := by decide +kernel
theorem dX6_second_546 : decode cX6_second 546 = .ok (.return_, 1) := by decide +kernel
theorem dX6_hangsUp_0 : decode cX6_hangsUp 0 = .ok (.aload_n 0, 1) := by decide +kernel
theorem dX6_hangsUp_1 : decode cX6_hangsUp 1 = .ok (.iload_n 1, 1) := by decide +kernel
theorem dX6_hangsUp_2 : decode cX6_hangsUp 2 = .ok (.iconst 1, 1) := by decide +kernel
theorem dX6_hangsUp_3 : decode cX6_hangsUp 3 = .ok (.invokevirtual 108, 3) := by decide +kernel
theorem dX6_hangsUp_6 : decode cX6_hangsUp 6 = .ok (.astore_n 2, 1) := by decide +kernel
theorem dX6_hangsUp_7 : decode cX6_hangsUp 7 = .ok (.aload_n 0, 1) := by decide +kernel
theorem dX6_hangsUp_8 : decode cX6_hangsUp 8 = .ok (.iload_n 1, 1) := by decide +kernel
theorem dX6_hangsUp_9 : decode cX6_hangsUp 9 = .ok (.invokevirtual 112, 3) := by decide +kernel
theorem dX6_hangsUp_12 : decode cX6_hangsUp 12 = .ok (.astore_n 3, 1) := by decide +kernel
theorem dX6_hangsUp_13 : decode cX6_hangsUp 13 = .ok (.aload_n 0, 1) := by decide +kernel
theorem dX6_hangsUp_14 : decode cX6_hangsUp 14 = .ok (.iload_n 1, 1) := by decide +kernel
theorem dX6_hangsUp_15 : decode cX6_hangsUp 15 = .ok (.iconst 2, 1) := by decide +kernel
theorem dX6_hangsUp_16 : decode cX6_hangsUp 16 = .ok (.invokevirtual 108, 3) := by decide +kernel
theorem dX6_hangsUp_19 : decode cX6_hangsUp 19 = .ok (.astore 4, 2) := by decide +kernel
theorem dX6_hangsUp_21 : decode cX6_hangsUp 21 = .ok (.aload_n 2, 1) := by decide +kernel
theorem dX6_hangsUp_22 : decode cX6_hangsUp 22 = .ok (.ifnull 12, 3) := by decide +kernel
theorem dX6_hangsUp_25 : decode cX6_hangsUp 25 = .ok (.aload_n 2, 1) := by decide +kernel
theorem dX6_hangsUp_26 : decode cX6_hangsUp 26 = .ok (.iconst 3, 1) := by decide +kernel
theorem dX6_hangsUp_27 : decode cX6_hangsUp 27 = .ok (.bipush 6, 2) := by decide +kernel
theorem dX6_hangsUp_29 : decode cX6_hangsUp 29 = .ok (.invokevirtual 120, 3) := by decide +kernel
theorem dX6_hangsUp_32 : decode cX6_hangsUp 32 = .ok (.iconst 1, 1) := by decide +kernel
theorem dX6_hangsUp_33 : decode cX6_hangsUp 33 = .ok (.ireturn, 1) := by decide +kernel
theorem dX6_hangsUp_34 : decode cX6_hangsUp 34 = .ok (.aload_n 3, 1) := by decide +kernel
theorem dX6_hangsUp_35 : decode cX6_hangsUp 35 = .ok (.ifnull 59, 3) := by decide +kernel
theorem dX6_hangsUp_38 : decode cX6_hangsUp 38 = .ok (.aload_n 3, 1) := by decide +kernel
theorem dX6_hangsUp_39 : decode cX6_hangsUp 39 = .ok (.getfield 62, 3) := by decide +kernel
theorem dX6_hangsUp_42 : decode cX6_hangsUp 42 = .ok (.astore 5, 2) := by decide +kernel
theorem dX6_hangsUp_44 : decode cX6_hangsUp 44 = .ok (.aload 5, 2) := by decide +kernel
theorem dX6_hangsUp_46 : decode cX6_hangsUp 46 = .ok (.arraylength, 1) := by decide +kernel
theorem dX6_hangsUp_47 : decode cX6_hangsUp 47 = .ok (.istore 6, 2) := by decide +kernel
theorem dX6_hangsUp_49 : decode cX6_hangsUp 49 = .ok (.iconst 0, 1) := by decide +kernel
theorem dX6_hangsUp_50 : decode cX6_hangsUp 50 = .ok (.istore 7, 2) := by decide +kernel
theorem dX6_hangsUp_52 : decode cX6_hangsUp 52 = .ok (.iload 7, 2) := by decide +kernel
theorem dX6_hangsUp_54 : decode cX6_hangsUp 54 = .ok (.iload 6, 2) := by decide +kernel
theorem dX6_hangsUp_56 : decode cX6_hangsUp 56 = .ok (.if_icmp .ge 31, 3) := by decide +kernel
theorem dX6_hangsUp_59 : decode cX6_hangsUp 59 = .ok (.aload 5, 2) := by decide +kernel
theorem dX6_hangsUp_61 : decode cX6_hangsUp 61 = .ok (.iload 7, 2) := by decide +kernel
theorem dX6_hangsUp_63 : decode cX6_hangsUp 63 = .ok (.aaload, 1) := by decide +kernel
theorem dX6_hangsUp_64 : decode cX6_hangsUp 64 = .ok (.astore 8, 2) := by decide +kernel
theorem dX6_hangsUp_66 : decode cX6_hangsUp 66 = .ok (.aload 8, 2) := by decide +kernel
theorem dX6_hangsUp_68 : decode cX6_hangsUp 68 = .ok (.getfield 75, 3) := by decide +kernel
theorem dX6_hangsUp_71 : decode cX6_hangsUp 71 = .ok (.ifCond .ne 10, 3) := by decide +kernel
theorem dX6_hangsUp_74 : decode cX6_hangsUp 74 = .ok (.aload 8, 2) := by decide +kernel
theorem dX6_hangsUp_76 : decode cX6_hangsUp 76 = .ok (.iconst 3, 1) := by decide +kernel
theorem dX6_hangsUp_77 : decode cX6_hangsUp 77 = .ok (.iconst 4, 1) := by decide +kernel
theorem dX6_hangsUp_78 : decode cX6_hangsUp 78 = .ok (.invokevirtual 120, 3) := by decide +kernel
theorem dX6_hangsUp_81 : decode cX6_hangsUp 81 = .ok (.iinc 7 1, 3) := by decide +kernel
theorem dX6_hangsUp_84 : decode cX6_hangsUp 84 = .ok (.goto (-32), 3) := by decide +kernel
theorem dX6_hangsUp_87 : decode cX6_hangsUp 87 = .ok (.aload_n 0, 1) := by decide +kernel
theorem dX6_hangsUp_88 : decode cX6_hangsUp 88 = .ok (.aload_n 3, 1) := by decide +kernel
theorem dX6_hangsUp_89 : decode cX6_hangsUp 89 = .ok (.invokevirtual 116, 3) := by decide +kernel
theorem dX6_hangsUp_92 : decode cX6_hangsUp 92 = .ok (.iconst 2, 1) := by decide +kernel
theorem dX6_hangsUp_93 : decode cX6_hangsUp 93 = .ok (.ireturn, 1) := by decide +kernel
theorem dX6_hangsUp_94 : decode cX6_hangsUp 94 = .ok (.aload 4, 2) := by decide +kernel
theorem dX6_hangsUp_96 : decode cX6_hangsUp 96 = .ok (.ifnull 13, 3) := by decide +kernel
theorem dX6_hangsUp_99 : decode cX6_hangsUp 99 = .ok (.aload 4, 2) := by decide +kernel
theorem dX6_hangsUp_101 : decode cX6_hangsUp 101 = .ok (.iconst 3, 1) := by decide +kernel
theorem dX6_hangsUp_102 : decode cX6_hangsUp 102 = .ok (.bipush 6, 2) := by decide +kernel
theorem dX6_hangsUp_104 : decode cX6_hangsUp 104 = .ok (.invokevirtual 120, 3) := by decide +kernel
theorem dX6_hangsUp_107 : decode cX6_hangsUp 107 = .ok (.iconst 3, 1) := by decide +kernel
theorem dX6_hangsUp_108 : decode cX6_hangsUp 108 = .ok (.ireturn, 1) := by decide +kernel
theorem dX6_hangsUp_109 : decode cX6_hangsUp 109 = .ok (.aload_n 0, 1) := by decide +kernel
theorem dX6_hangsUp_110 : decode cX6_hangsUp 110 = .ok (.iload_n 1, 1) := by decide +kernel
theorem dX6_hangsUp_111 : decode cX6_hangsUp 111 = .ok (.invokevirtual 161, 3) := by decide +kernel
theorem dX6_hangsUp_114 : decode cX6_hangsUp 114 = .ok (.ifCond .ne 5, 3) := by decide +kernel
theorem dX6_hangsUp_117 : decode cX6_hangsUp 117 = .ok (.iconst 0, 1) := by decide +kernel
theorem dX6_hangsUp_118 : decode cX6_hangsUp 118 = .ok (.ireturn, 1) := by decide +kernel
theorem dX6_hangsUp_119 : decode cX6_hangsUp 119 = .ok (.aload_n 0, 1) := by decide +kernel
theorem dX6_hangsUp_120 : decode cX6_hangsUp 120 = .ok (.iload_n 1, 1) := by decide +kernel
theorem dX6_hangsUp_121 : decode cX6_hangsUp 121 = .ok (.iconst 5, 1) := by decide +kernel
theorem dX6_hangsUp_122 : decode cX6_hangsUp 122 = .ok (.invokevirtual 127, 3) := by decide +kernel
theorem dX6_hangsUp_125 : decode cX6_hangsUp 125 = .ok (.iconst 4, 1) := by decide +kernel
theorem dX6_hangsUp_126 : decode cX6_hangsUp 126 = .ok (.ireturn, 1) := by decide +kernel
theorem dX6_offers_0 : decode cX6_offers 0 = .ok (.aload_n 0, 1) := by decide +kernel
theorem dX6_offers_1 : decode cX6_offers 1 = .ok (.iload_n 1, 1) := by decide +kernel
theorem dX6_offers_2 : decode cX6_offers 2 = .ok (.iconst 1, 1) := by decide +kernel
theorem dX6_offers_3 : decode cX6_offers 3 = .ok (.invokevirtual 108, 3) := by decide +kernel
theorem dX6_offers_6 : decode cX6_offers 6 = .ok (.astore_n 3, 1) := by decide +kernel
theorem dX6_offers_7 : decode cX6_offers 7 = .ok (.aload_n 3, 1) := by decide +kernel
theorem dX6_offers_8 : decode cX6_offers 8 = .ok (.getfield 64, 3) := by decide +kernel
theorem dX6_offers_11 : decode cX6_offers 11 = .ok (.getfield 53, 3) := by decide +kernel
theorem dX6_offers_14 : decode cX6_offers 14 = .ok (.iload_n 1, 1) := by decide +kernel
theorem dX6_offers_15 : decode cX6_offers 15 = .ok (.if_icmp .ne 7, 3) := by decide +kernel
theorem dX6_offers_18 : decode cX6_offers 18 = .ok (.iconst 0, 1) := by decide +kernel
theorem dX6_offers_19 : decode cX6_offers 19 = .ok (.goto 4, 3) := by decide +kernel
theorem dX6_offers_22 : decode cX6_offers 22 = .ok (.iconst 1, 1) := by decide +kernel
theorem dX6_offers_23 : decode cX6_offers 23 = .ok (.istore 4, 2) := by decide +kernel
theorem dX6_offers_25 : decode cX6_offers 25 = .ok (.aload_n 3, 1) := by decide +kernel
theorem dX6_offers_26 : decode cX6_offers 26 = .ok (.getfield 87, 3) := by decide +kernel
theorem dX6_offers_29 : decode cX6_offers 29 = .ok (.ifnull 16, 3) := by decide +kernel
theorem dX6_offers_32 : decode cX6_offers 32 = .ok (.aload_n 3, 1) := by decide +kernel
theorem dX6_offers_33 : decode cX6_offers 33 = .ok (.getfield 87, 3) := by decide +kernel
theorem dX6_offers_36 : decode cX6_offers 36 = .ok (.iconst 0, 1) := by decide +kernel
theorem dX6_offers_37 : decode cX6_offers 37 = .ok (.iaload, 1) := by decide +kernel
theorem dX6_offers_38 : decode cX6_offers 38 = .ok (.iload 4, 2) := by decide +kernel
theorem dX6_offers_40 : decode cX6_offers 40 = .ok (.if_icmp .ne 5, 3) := by decide +kernel
theorem dX6_offers_43 : decode cX6_offers 43 = .ok (.iconst 0, 1) := by decide +kernel
theorem dX6_offers_44 : decode cX6_offers 44 = .ok (.ireturn, 1) := by decide +kernel
theorem dX6_offers_45 : decode cX6_offers 45 = .ok (.aload_n 3, 1) := by decide +kernel
theorem dX6_offers_46 : decode cX6_offers 46 = .ok (.getfield 87, 3) := by decide +kernel
theorem dX6_offers_49 : decode cX6_offers 49 = .ok (.ifnonnull 28, 3) := by decide +kernel
theorem dX6_offers_52 : decode cX6_offers 52 = .ok (.aload_n 3, 1) := by decide +kernel
theorem dX6_offers_53 : decode cX6_offers 53 = .ok (.iconst 3, 1) := by decide +kernel
theorem dX6_offers_54 : decode cX6_offers 54 = .ok (.newarray .int, 2) := by decide +kernel
theorem dX6_offers_56 : decode cX6_offers 56 = .ok (.dup, 1) := by decide +kernel
theorem dX6_offers_57 : decode cX6_offers 57 = .ok (.iconst 0, 1) := by decide +kernel
theorem dX6_offers_58 : decode cX6_offers 58 = .ok (.iload 4, 2) := by decide +kernel
theorem dX6_offers_60 : decode cX6_offers 60 = .ok (.iastore, 1) := by decide +kernel
theorem dX6_offers_61 : decode cX6_offers 61 = .ok (.dup, 1) := by decide +kernel
theorem dX6_offers_62 : decode cX6_offers 62 = .ok (.iconst 1, 1) := by decide +kernel
theorem dX6_offers_63 : decode cX6_offers 63 = .ok (.iload_n 2, 1) := by decide +kernel
theorem dX6_offers_64 : decode cX6_offers 64 = .ok (.iastore, 1) := by decide +kernel
theorem dX6_offers_65 : decode cX6_offers 65 = .ok (.dup, 1) := by decide +kernel
theorem dX6_offers_66 : decode cX6_offers 66 = .ok (.iconst 2, 1) := by decide +kernel
theorem dX6_offers_67 : decode cX6_offers 67 = .ok (.aload_n 0, 1) := by decide +kernel
theorem dX6_offers_68 : decode cX6_offers 68 = .ok (.getfield 41, 3) := by decide +kernel
theorem dX6_offers_71 : decode cX6_offers 71 = .ok (.iastore, 1) := by decide +kernel
theorem dX6_offers_72 : decode cX6_offers 72 = .ok (.putfield 87, 3) := by decide +kernel
theorem dX6_offers_75 : decode cX6_offers 75 = .ok (.iconst 1, 1) := by decide +kernel
theorem dX6_offers_76 : decode cX6_offers 76 = .ok (.ireturn, 1) := by decide +kernel
theorem dX6_offers_77 : decode cX6_offers 77 = .ok (.aload_n 3, 1) := by decide +kernel
theorem dX6_offers_78 : decode cX6_offers 78 = .ok (.getfield 90, 3) := by decide +kernel
theorem dX6_offers_81 : decode cX6_offers 81 = .ok (.iload 4, 2) := by decide +kernel
theorem dX6_offers_83 : decode cX6_offers 83 = .ok (.iconst 2, 1) := by decide +kernel
theorem dX6_offers_84 : decode cX6_offers 84 = .ok (.newarray .int, 2) := by decide +kernel
theorem dX6_offers_86 : decode cX6_offers 86 = .ok (.dup, 1) := by decide +kernel
theorem dX6_offers_87 : decode cX6_offers 87 = .ok (.iconst 0, 1) := by decide +kernel
theorem dX6_offers_88 : decode cX6_offers 88 = .ok (.iload_n 2, 1) := by decide +kernel
theorem dX6_offers_89 : decode cX6_offers 89 = .ok (.iastore, 1) := by decide +kernel
theorem dX6_offers_90 : decode cX6_offers 90 = .ok (.dup, 1) := by decide +kernel
theorem dX6_offers_91 : decode cX6_offers 91 = .ok (.iconst 1, 1) := by decide +kernel
theorem dX6_offers_92 : decode cX6_offers 92 = .ok (.aload_n 0, 1) := by decide +kernel
theorem dX6_offers_93 : decode cX6_offers 93 = .ok (.getfield 41, 3) := by decide +kernel
theorem dX6_offers_96 : decode cX6_offers 96 = .ok (.iload 4, 2) := by decide +kernel
theorem dX6_offers_98 : decode cX6_offers 98 = .ok (.ifCond .ne 10, 3) := by decide +kernel
theorem dX6_offers_101 : decode cX6_offers 101 = .ok (.aload_n 0, 1) := by decide +kernel
theorem dX6_offers_102 : decode cX6_offers 102 = .ok (.getfield 7, 3) := by decide +kernel
theorem dX6_offers_105 : decode cX6_offers 105 = .ok (.goto 7, 3) := by decide +kernel
theorem dX6_offers_108 : decode cX6_offers 108 = .ok (.aload_n 0, 1) := by decide +kernel
theorem dX6_offers_109 : decode cX6_offers 109 = .ok (.getfield 13, 3) := by decide +kernel
theorem dX6_offers_112 : decode cX6_offers 112 = .ok (.iadd, 1) := by decide +kernel
theorem dX6_offers_113 : decode cX6_offers 113 = .ok (.iastore, 1) := by decide +kernel
theorem dX6_offers_114 : decode cX6_offers 114 = .ok (.aastore, 1) := by decide +kernel
theorem dX6_offers_115 : decode cX6_offers 115 = .ok (.aload_n 3, 1) := by decide +kernel
theorem dX6_offers_116 : decode cX6_offers 116 = .ok (.getfield 90, 3) := by decide +kernel
theorem dX6_offers_119 : decode cX6_offers 119 = .ok (.iconst 1, 1) := by decide +kernel
theorem dX6_offers_120 : decode cX6_offers 120 = .ok (.iload 4, 2) := by decide +kernel
theorem dX6_offers_122 : decode cX6_offers 122 = .ok (.isub, 1) := by decide +kernel
theorem dX6_offers_123 : decode cX6_offers 123 = .ok (.iconst 2, 1) := by decide +kernel
theorem dX6_offers_124 : decode cX6_offers 124 = .ok (.newarray .int, 2) := by decide +kernel
theorem dX6_offers_126 : decode cX6_offers 126 = .ok (.dup, 1) := by decide +kernel
theorem dX6_offers_127 : decode cX6_offers 127 = .ok (.iconst 0, 1) := by decide +kernel
theorem dX6_offers_128 : decode cX6_offers 128 = .ok (.aload_n 3, 1) := by decide +kernel
theorem dX6_offers_129 : decode cX6_offers 129 = .ok (.getfield 87, 3) := by decide +kernel
theorem dX6_offers_132 : decode cX6_offers 132 = .ok (.iconst 1, 1) := by decide +kernel
theorem dX6_offers_133 : decode cX6_offers 133 = .ok (.iaload, 1) := by decide +kernel
theorem dX6_offers_134 : decode cX6_offers 134 = .ok (.iastore, 1) := by decide +kernel
theorem dX6_offers_135 : decode cX6_offers 135 = .ok (.dup, 1) := by decide +kernel
theorem dX6_offers_136 : decode cX6_offers 136 = .ok (.iconst 1, 1) := by decide +kernel
theorem dX6_offers_137 : decode cX6_offers 137 = .ok (.aload_n 0, 1) := by decide +kernel
theorem dX6_offers_138 : decode cX6_offers 138 = .ok (.getfield 41, 3) := by decide +kernel
theorem dX6_offers_141 : decode cX6_offers 141 = .ok (.iload 4, 2) := by decide +kernel
theorem dX6_offers_143 : decode cX6_offers 143 = .ok (.ifCond .ne 10, 3) := by decide +kernel
theorem dX6_offers_146 : decode cX6_offers 146 = .ok (.aload_n 0, 1) := by decide +kernel
theorem dX6_offers_147 : decode cX6_offers 147 = .ok (.getfield 13, 3) := by decide +kernel
theorem dX6_offers_150 : decode cX6_offers 150 = .ok (.goto 7, 3) := by decide +kernel
theorem dX6_offers_153 : decode cX6_offers 153 = .ok (.aload_n 0, 1) := by decide +kernel
theorem dX6_offers_154 : decode cX6_offers 154 = .ok (.getfield 7, 3) := by decide +kernel
theorem dX6_offers_157 : decode cX6_offers 157 = .ok (.iadd, 1) := by decide +kernel
theorem dX6_offers_158 : decode cX6_offers 158 = .ok (.iastore, 1) := by decide +kernel
theorem dX6_offers_159 : decode cX6_offers 159 = .ok (.aastore, 1) := by decide +kernel
theorem dX6_offers_160 : decode cX6_offers 160 = .ok (.aload_n 3, 1) := by decide +kernel
theorem dX6_offers_161 : decode cX6_offers 161 = .ok (.aconst_null, 1) := by decide +kernel
theorem dX6_offers_162 : decode cX6_offers 162 = .ok (.putfield 87, 3) := by decide +kernel
theorem dX6_offers_165 : decode cX6_offers 165 = .ok (.aload_n 0, 1) := by decide +kernel
theorem dX6_offers_166 : decode cX6_offers 166 = .ok (.getfield 37, 3) := by decide +kernel
theorem dX6_offers_169 : decode cX6_offers 169 = .ok (.iconst 2, 1) := by decide +kernel
theorem dX6_offers_170 : decode cX6_offers 170 = .ok (.dup2, 1) := by decide +kernel
theorem dX6_offers_171 : decode cX6_offers 171 = .ok (.iaload, 1) := by decide +kernel
theorem dX6_offers_172 : decode cX6_offers 172 = .ok (.iconst 1, 1) := by decide +kernel
theorem dX6_offers_173 : decode cX6_offers 173 = .ok (.iadd, 1) := by decide +kernel
theorem dX6_offers_174 : decode cX6_offers 174 = .ok (.iastore, 1) := by decide +kernel
theorem dX6_offers_175 : decode cX6_offers 175 = .ok (.iconst (-1), 1) := by decide +kernel
theorem dX6_offers_176 : decode cX6_offers 176 = .ok (.ireturn, 1) := by decide +kernel
theorem dX6_tellParty_0 : decode cX6_tellParty 0 = .ok (.iload_n 2, 1) := by decide +kernel
theorem dX6_tellParty_1 : decode cX6_tellParty 1 = .ok (.iconst 3, 1) := by decide +kernel
theorem dX6_tellParty_2 : decode cX6_tellParty 2 = .ok (.if_icmp .ge 14, 3) := by decide +kernel
theorem dX6_tellParty_5 : decode cX6_tellParty 5 = .ok (.aload_n 0, 1) := by decide +kernel
theorem dX6_tellParty_6 : decode cX6_tellParty 6 = .ok (.getfield 21, 3) := by decide +kernel
theorem dX6_tellParty_9 : decode cX6_tellParty 9 = .ok (.iload_n 1, 1) := by decide +kernel
theorem dX6_tellParty_10 : decode cX6_tellParty 10 = .ok (.aaload, 1) := by decide +kernel
theorem dX6_tellParty_11 : decode cX6_tellParty 11 = .ok (.iload_n 2, 1) := by decide +kernel
theorem dX6_tellParty_12 : decode cX6_tellParty 12 = .ok (.iaload, 1) := by decide +kernel
theorem dX6_tellParty_13 : decode cX6_tellParty 13 = .ok (.goto 60, 3) := by decide +kernel
theorem dX6_tellParty_16 : decode cX6_tellParty 16 = .ok (.iload_n 2, 1) := by decide +kernel
theorem dX6_tellParty_17 : decode cX6_tellParty 17 = .ok (.iconst 3, 1) := by decide +kernel
theorem dX6_tellParty_18 : decode cX6_tellParty 18 = .ok (.if_icmp .ne 19, 3) := by decide +kernel
theorem dX6_tellParty_21 : decode cX6_tellParty 21 = .ok (.aload_n 0, 1) := by decide +kernel
theorem dX6_tellParty_22 : decode cX6_tellParty 22 = .ok (.iload_n 1, 1) := by decide +kernel
theorem dX6_tellParty_23 : decode cX6_tellParty 23 = .ok (.invokevirtual 149, 3) := by decide +kernel
theorem dX6_tellParty_26 : decode cX6_tellParty 26 = .ok (.ifCond .eq 7, 3) := by decide +kernel
theorem dX6_tellParty_29 : decode cX6_tellParty 29 = .ok (.iconst 1, 1) := by decide +kernel
theorem dX6_tellParty_30 : decode cX6_tellParty 30 = .ok (.goto 43, 3) := by decide +kernel
theorem dX6_tellParty_33 : decode cX6_tellParty 33 = .ok (.iconst 0, 1) := by decide +kernel
theorem dX6_tellParty_34 : decode cX6_tellParty 34 = .ok (.goto 39, 3) := by decide +kernel
theorem dX6_tellParty_37 : decode cX6_tellParty 37 = .ok (.iload_n 2, 1) := by decide +kernel
theorem dX6_tellParty_38 : decode cX6_tellParty 38 = .ok (.iconst 4, 1) := by decide +kernel
theorem dX6_tellParty_39 : decode cX6_tellParty 39 = .ok (.if_icmp .ne 29, 3) := by decide +kernel
theorem dX6_tellParty_42 : decode cX6_tellParty 42 = .ok (.aload_n 0, 1) := by decide +kernel
theorem dX6_tellParty_43 : decode cX6_tellParty 43 = .ok (.iload_n 1, 1) := by decide +kernel
theorem dX6_tellParty_44 : decode cX6_tellParty 44 = .ok (.iconst 1, 1) := by decide +kernel
theorem dX6_tellParty_45 : decode cX6_tellParty 45 = .ok (.invokevirtual 108, 3) := by decide +kernel
theorem dX6_tellParty_48 : decode cX6_tellParty 48 = .ok (.ifnonnull 7, 3) := by decide +kernel
theorem dX6_tellParty_51 : decode cX6_tellParty 51 = .ok (.iconst (-1), 1) := by decide +kernel
theorem dX6_tellParty_52 : decode cX6_tellParty 52 = .ok (.goto 21, 3) := by decide +kernel
theorem dX6_tellParty_55 : decode cX6_tellParty 55 = .ok (.aload_n 0, 1) := by decide +kernel
theorem dX6_tellParty_56 : decode cX6_tellParty 56 = .ok (.aload_n 0, 1) := by decide +kernel
theorem dX6_tellParty_57 : decode cX6_tellParty 57 = .ok (.iload_n 1, 1) := by decide +kernel
theorem dX6_tellParty_58 : decode cX6_tellParty 58 = .ok (.iconst 1, 1) := by decide +kernel
theorem dX6_tellParty_59 : decode cX6_tellParty 59 = .ok (.invokevirtual 108, 3) := by decide +kernel
theorem dX6_tellParty_62 : decode cX6_tellParty 62 = .ok (.invokevirtual 93, 3) := by decide +kernel
theorem dX6_tellParty_65 : decode cX6_tellParty 65 = .ok (.goto 8, 3) := by decide +kernel
theorem dX6_tellParty_68 : decode cX6_tellParty 68 = .ok (.aload_n 0, 1) := by decide +kernel
theorem dX6_tellParty_69 : decode cX6_tellParty 69 = .ok (.iload_n 1, 1) := by decide +kernel
theorem dX6_tellParty_70 : decode cX6_tellParty 70 = .ok (.invokevirtual 161, 3) := by decide +kernel
theorem dX6_tellParty_73 : decode cX6_tellParty 73 = .ok (.ireturn, 1) := by decide +kernel
theorem dX6_tellCall_0 : decode cX6_tellCall 0 = .ok (.aload_n 0, 1) := by decide +kernel
theorem dX6_tellCall_1 : decode cX6_tellCall 1 = .ok (.getfield 27, 3) := by decide +kernel
theorem dX6_tellCall_4 : decode cX6_tellCall 4 = .ok (.iload_n 1, 1) := by decide +kernel
theorem dX6_tellCall_5 : decode cX6_tellCall 5 = .ok (.aaload, 1) := by decide +kernel
theorem dX6_tellCall_6 : decode cX6_tellCall 6 = .ok (.astore_n 3, 1) := by decide +kernel
theorem dX6_tellCall_7 : decode cX6_tellCall 7 = .ok (.iload_n 2, 1) := by decide +kernel
theorem dX6_tellCall_8 : decode cX6_tellCall 8 = .ok (.ifCond .ne 10, 3) := by decide +kernel
theorem dX6_tellCall_11 : decode cX6_tellCall 11 = .ok (.aload_n 3, 1) := by decide +kernel
theorem dX6_tellCall_12 : decode cX6_tellCall 12 = .ok (.getfield 53, 3) := by decide +kernel
theorem dX6_tellCall_15 : decode cX6_tellCall 15 = .ok (.goto 93, 3) := by decide +kernel
theorem dX6_tellCall_18 : decode cX6_tellCall 18 = .ok (.iload_n 2, 1) := by decide +kernel
theorem dX6_tellCall_19 : decode cX6_tellCall 19 = .ok (.iconst 1, 1) := by decide +kernel
theorem dX6_tellCall_20 : decode cX6_tellCall 20 = .ok (.if_icmp .ne 10, 3) := by decide +kernel
theorem dX6_tellCall_23 : decode cX6_tellCall 23 = .ok (.aload_n 3, 1) := by decide +kernel
theorem dX6_tellCall_24 : decode cX6_tellCall 24 = .ok (.getfield 56, 3) := by decide +kernel
theorem dX6_tellCall_27 : decode cX6_tellCall 27 = .ok (.goto 81, 3) := by decide +kernel
theorem dX6_tellCall_30 : decode cX6_tellCall 30 = .ok (.iload_n 2, 1) := by decide +kernel
theorem dX6_tellCall_31 : decode cX6_tellCall 31 = .ok (.iconst 2, 1) := by decide +kernel
theorem dX6_tellCall_32 : decode cX6_tellCall 32 = .ok (.if_icmp .ne 10, 3) := by decide +kernel
theorem dX6_tellCall_35 : decode cX6_tellCall 35 = .ok (.aload_n 3, 1) := by decide +kernel
theorem dX6_tellCall_36 : decode cX6_tellCall 36 = .ok (.getfield 59, 3) := by decide +kernel
theorem dX6_tellCall_39 : decode cX6_tellCall 39 = .ok (.goto 69, 3) := by decide +kernel
theorem dX6_tellCall_42 : decode cX6_tellCall 42 = .ok (.iload_n 2, 1) := by decide +kernel
theorem dX6_tellCall_43 : decode cX6_tellCall 43 = .ok (.iconst 3, 1) := by decide +kernel
theorem dX6_tellCall_44 : decode cX6_tellCall 44 = .ok (.if_icmp .ne 25, 3) := by decide +kernel
theorem dX6_tellCall_47 : decode cX6_tellCall 47 = .ok (.aload_n 3, 1) := by decide +kernel
theorem dX6_tellCall_48 : decode cX6_tellCall 48 = .ok (.getfield 97, 3) := by decide +kernel
theorem dX6_tellCall_51 : decode cX6_tellCall 51 = .ok (.ifnonnull 7, 3) := by decide +kernel
theorem dX6_tellCall_54 : decode cX6_tellCall 54 = .ok (.iconst (-1), 1) := by decide +kernel
theorem dX6_tellCall_55 : decode cX6_tellCall 55 = .ok (.goto 53, 3) := by decide +kernel
theorem dX6_tellCall_58 : decode cX6_tellCall 58 = .ok (.aload_n 0, 1) := by decide +kernel
theorem dX6_tellCall_59 : decode cX6_tellCall 59 = .ok (.aload_n 3, 1) := by decide +kernel
theorem dX6_tellCall_60 : decode cX6_tellCall 60 = .ok (.getfield 97, 3) := by decide +kernel
theorem dX6_tellCall_63 : decode cX6_tellCall 63 = .ok (.invokevirtual 93, 3) := by decide +kernel
theorem dX6_tellCall_66 : decode cX6_tellCall 66 = .ok (.goto 42, 3) := by decide +kernel
theorem dX6_tellCall_69 : decode cX6_tellCall 69 = .ok (.iload_n 2, 1) := by decide +kernel
theorem dX6_tellCall_70 : decode cX6_tellCall 70 = .ok (.iconst 4, 1) := by decide +kernel
theorem dX6_tellCall_71 : decode cX6_tellCall 71 = .ok (.if_icmp .ne 18, 3) := by decide +kernel
theorem dX6_tellCall_74 : decode cX6_tellCall 74 = .ok (.aload_n 3, 1) := by decide +kernel
theorem dX6_tellCall_75 : decode cX6_tellCall 75 = .ok (.invokevirtual 104, 3) := by decide +kernel
theorem dX6_tellCall_78 : decode cX6_tellCall 78 = .ok (.ifCond .eq 7, 3) := by decide +kernel
theorem dX6_tellCall_81 : decode cX6_tellCall 81 = .ok (.iconst 1, 1) := by decide +kernel
theorem dX6_tellCall_82 : decode cX6_tellCall 82 = .ok (.goto 26, 3) := by decide +kernel
theorem dX6_tellCall_85 : decode cX6_tellCall 85 = .ok (.iconst 0, 1) := by decide +kernel
theorem dX6_tellCall_86 : decode cX6_tellCall 86 = .ok (.goto 22, 3) := by decide +kernel
theorem dX6_tellCall_89 : decode cX6_tellCall 89 = .ok (.aload_n 3, 1) := by decide +kernel
theorem dX6_tellCall_90 : decode cX6_tellCall 90 = .ok (.getfield 101, 3) := by decide +kernel
theorem dX6_tellCall_93 : decode cX6_tellCall 93 = .ok (.ifnonnull 7, 3) := by decide +kernel
theorem dX6_tellCall_96 : decode cX6_tellCall 96 = .ok (.iconst (-1), 1) := by decide +kernel
theorem dX6_tellCall_97 : decode cX6_tellCall 97 = .ok (.goto 11, 3) := by decide +kernel
theorem dX6_tellCall_100 : decode cX6_tellCall 100 = .ok (.aload_n 0, 1) := by decide +kernel
theorem dX6_tellCall_101 : decode cX6_tellCall 101 = .ok (.aload_n 3, 1) := by decide +kernel
theorem dX6_tellCall_102 : decode cX6_tellCall 102 = .ok (.getfield 101, 3) := by decide +kernel
theorem dX6_tellCall_105 : decode cX6_tellCall 105 = .ok (.invokevirtual 93, 3) := by decide +kernel
theorem dX6_tellCall_108 : decode cX6_tellCall 108 = .ok (.ireturn, 1) := by decide +kernel
theorem dX6_tellLeg_0 : decode cX6_tellLeg 0 = .ok (.aload_n 0, 1) := by decide +kernel
theorem dX6_tellLeg_1 : decode cX6_tellLeg 1 = .ok (.getfield 33, 3) := by decide +kernel
theorem dX6_tellLeg_4 : decode cX6_tellLeg 4 = .ok (.iload_n 1, 1) := by decide +kernel
theorem dX6_tellLeg_5 : decode cX6_tellLeg 5 = .ok (.aaload, 1) := by decide +kernel
theorem dX6_tellLeg_6 : decode cX6_tellLeg 6 = .ok (.astore_n 3, 1) := by decide +kernel
theorem dX6_tellLeg_7 : decode cX6_tellLeg 7 = .ok (.iload_n 2, 1) := by decide +kernel
theorem dX6_tellLeg_8 : decode cX6_tellLeg 8 = .ok (.ifCond .ne 14, 3) := by decide +kernel
theorem dX6_tellLeg_11 : decode cX6_tellLeg 11 = .ok (.aload_n 0, 1) := by decide +kernel
theorem dX6_tellLeg_12 : decode cX6_tellLeg 12 = .ok (.aload_n 3, 1) := by decide +kernel
theorem dX6_tellLeg_13 : decode cX6_tellLeg 13 = .ok (.getfield 64, 3) := by decide +kernel
theorem dX6_tellLeg_16 : decode cX6_tellLeg 16 = .ok (.invokevirtual 68, 3) := by decide +kernel
theorem dX6_tellLeg_19 : decode cX6_tellLeg 19 = .ok (.goto 55, 3) := by decide +kernel
theorem dX6_tellLeg_22 : decode cX6_tellLeg 22 = .ok (.iload_n 2, 1) := by decide +kernel
theorem dX6_tellLeg_23 : decode cX6_tellLeg 23 = .ok (.iconst 1, 1) := by decide +kernel
theorem dX6_tellLeg_24 : decode cX6_tellLeg 24 = .ok (.if_icmp .ne 10, 3) := by decide +kernel
theorem dX6_tellLeg_27 : decode cX6_tellLeg 27 = .ok (.aload_n 3, 1) := by decide +kernel
theorem dX6_tellLeg_28 : decode cX6_tellLeg 28 = .ok (.getfield 72, 3) := by decide +kernel
theorem dX6_tellLeg_31 : decode cX6_tellLeg 31 = .ok (.goto 43, 3) := by decide +kernel
theorem dX6_tellLeg_34 : decode cX6_tellLeg 34 = .ok (.iload_n 2, 1) := by decide +kernel
theorem dX6_tellLeg_35 : decode cX6_tellLeg 35 = .ok (.iconst 2, 1) := by decide +kernel
theorem dX6_tellLeg_36 : decode cX6_tellLeg 36 = .ok (.if_icmp .ne 10, 3) := by decide +kernel
theorem dX6_tellLeg_39 : decode cX6_tellLeg 39 = .ok (.aload_n 3, 1) := by decide +kernel
theorem dX6_tellLeg_40 : decode cX6_tellLeg 40 = .ok (.getfield 75, 3) := by decide +kernel
theorem dX6_tellLeg_43 : decode cX6_tellLeg 43 = .ok (.goto 31, 3) := by decide +kernel
theorem dX6_tellLeg_46 : decode cX6_tellLeg 46 = .ok (.iload_n 2, 1) := by decide +kernel
theorem dX6_tellLeg_47 : decode cX6_tellLeg 47 = .ok (.iconst 3, 1) := by decide +kernel
theorem dX6_tellLeg_48 : decode cX6_tellLeg 48 = .ok (.if_icmp .ne 10, 3) := by decide +kernel
theorem dX6_tellLeg_51 : decode cX6_tellLeg 51 = .ok (.aload_n 3, 1) := by decide +kernel
theorem dX6_tellLeg_52 : decode cX6_tellLeg 52 = .ok (.getfield 78, 3) := by decide +kernel
theorem dX6_tellLeg_55 : decode cX6_tellLeg 55 = .ok (.goto 19, 3) := by decide +kernel
theorem dX6_tellLeg_58 : decode cX6_tellLeg 58 = .ok (.iload_n 2, 1) := by decide +kernel
theorem dX6_tellLeg_59 : decode cX6_tellLeg 59 = .ok (.iconst 4, 1) := by decide +kernel
theorem dX6_tellLeg_60 : decode cX6_tellLeg 60 = .ok (.if_icmp .ne 10, 3) := by decide +kernel
theorem dX6_tellLeg_63 : decode cX6_tellLeg 63 = .ok (.aload_n 3, 1) := by decide +kernel
theorem dX6_tellLeg_64 : decode cX6_tellLeg 64 = .ok (.getfield 81, 3) := by decide +kernel
theorem dX6_tellLeg_67 : decode cX6_tellLeg 67 = .ok (.goto 7, 3) := by decide +kernel
theorem dX6_tellLeg_70 : decode cX6_tellLeg 70 = .ok (.aload_n 3, 1) := by decide +kernel
theorem dX6_tellLeg_71 : decode cX6_tellLeg 71 = .ok (.getfield 84, 3) := by decide +kernel
theorem dX6_tellLeg_74 : decode cX6_tellLeg 74 = .ok (.ireturn, 1) := by decide +kernel
theorem dX6_due_0 : decode cX6_due 0 = .ok (.aload_n 0, 1) := by decide +kernel
theorem dX6_due_1 : decode cX6_due 1 = .ok (.getfield 33, 3) := by decide +kernel
theorem dX6_due_4 : decode cX6_due 4 = .ok (.iload_n 1, 1) := by decide +kernel
theorem dX6_due_5 : decode cX6_due 5 = .ok (.aaload, 1) := by decide +kernel
theorem dX6_due_6 : decode cX6_due 6 = .ok (.getfield 90, 3) := by decide +kernel
theorem dX6_due_9 : decode cX6_due 9 = .ok (.iload_n 2, 1) := by decide +kernel
theorem dX6_due_10 : decode cX6_due 10 = .ok (.aaload, 1) := by decide +kernel
theorem dX6_due_11 : decode cX6_due 11 = .ok (.ifnonnull 7, 3) := by decide +kernel
theorem dX6_due_14 : decode cX6_due 14 = .ok (.iconst (-1), 1) := by decide +kernel
theorem dX6_due_15 : decode cX6_due 15 = .ok (.goto 16, 3) := by decide +kernel
theorem dX6_due_18 : decode cX6_due 18 = .ok (.aload_n 0, 1) := by decide +kernel
theorem dX6_due_19 : decode cX6_due 19 = .ok (.getfield 33, 3) := by decide +kernel
theorem dX6_due_22 : decode cX6_due 22 = .ok (.iload_n 1, 1) := by decide +kernel
theorem dX6_due_23 : decode cX6_due 23 = .ok (.aaload, 1) := by decide +kernel
theorem dX6_due_24 : decode cX6_due 24 = .ok (.getfield 90, 3) := by decide +kernel
theorem dX6_due_27 : decode cX6_due 27 = .ok (.iload_n 2, 1) := by decide +kernel
theorem dX6_due_28 : decode cX6_due 28 = .ok (.aaload, 1) := by decide +kernel
theorem dX6_due_29 : decode cX6_due 29 = .ok (.iconst 1, 1) := by decide +kernel
theorem dX6_due_30 : decode cX6_due 30 = .ok (.iaload, 1) := by decide +kernel
theorem dX6_due_31 : decode cX6_due 31 = .ok (.ireturn, 1) := by decide +kernel
theorem dX6_sum_0 : decode cX6_sum 0 = .ok (.aload_n 0, 1) := by decide +kernel
theorem dX6_sum_1 : decode cX6_sum 1 = .ok (.getfield 41, 3) := by decide +kernel
theorem dX6_sum_4 : decode cX6_sum 4 = .ok (.i2l, 1) := by decide +kernel
theorem dX6_sum_5 : decode cX6_sum 5 = .ok (.lstore_n 1, 1) := by decide +kernel
theorem dX6_sum_6 : decode cX6_sum 6 = .ok (.iconst 0, 1) := by decide +kernel
theorem dX6_sum_7 : decode cX6_sum 7 = .ok (.istore_n 3, 1) := by decide +kernel
theorem dX6_sum_8 : decode cX6_sum 8 = .ok (.iload_n 3, 1) := by decide +kernel
theorem dX6_sum_9 : decode cX6_sum 9 = .ok (.aload_n 0, 1) := by decide +kernel
theorem dX6_sum_10 : decode cX6_sum 10 = .ok (.getfield 21, 3) := by decide +kernel
theorem dX6_sum_13 : decode cX6_sum 13 = .ok (.arraylength, 1) := by decide +kernel
theorem dX6_sum_14 : decode cX6_sum 14 = .ok (.if_icmp .ge 40, 3) := by decide +kernel
theorem dX6_sum_17 : decode cX6_sum 17 = .ok (.iconst 0, 1) := by decide +kernel
theorem dX6_sum_18 : decode cX6_sum 18 = .ok (.istore 4, 2) := by decide +kernel
theorem dX6_sum_20 : decode cX6_sum 20 = .ok (.iload 4, 2) := by decide +kernel
theorem dX6_sum_22 : decode cX6_sum 22 = .ok (.bipush 6, 2) := by decide +kernel
theorem dX6_sum_24 : decode cX6_sum 24 = .ok (.if_icmp .ge 24, 3) := by decide +kernel
theorem dX6_sum_27 : decode cX6_sum 27 = .ok (.ldc2_w 164, 3) := by decide +kernel
theorem dX6_sum_30 : decode cX6_sum 30 = .ok (.lload_n 1, 1) := by decide +kernel
theorem dX6_sum_31 : decode cX6_sum 31 = .ok (.lmul, 1) := by decide +kernel
theorem dX6_sum_32 : decode cX6_sum 32 = .ok (.aload_n 0, 1) := by decide +kernel
theorem dX6_sum_33 : decode cX6_sum 33 = .ok (.iload_n 3, 1) := by decide +kernel
theorem dX6_sum_34 : decode cX6_sum 34 = .ok (.iload 4, 2) := by decide +kernel
theorem dX6_sum_36 : decode cX6_sum 36 = .ok (.invokevirtual 166, 3) := by decide +kernel
theorem dX6_sum_39 : decode cX6_sum 39 = .ok (.i2l, 1) := by decide +kernel
theorem dX6_sum_40 : decode cX6_sum 40 = .ok (.ladd, 1) := by decide +kernel
theorem dX6_sum_41 : decode cX6_sum 41 = .ok (.lstore_n 1, 1) := by decide +kernel
theorem dX6_sum_42 : decode cX6_sum 42 = .ok (.iinc 4 1, 3) := by decide +kernel
theorem dX6_sum_45 : decode cX6_sum 45 = .ok (.goto (-25), 3) := by decide +kernel
theorem dX6_sum_48 : decode cX6_sum 48 = .ok (.iinc 3 1, 3) := by decide +kernel
theorem dX6_sum_51 : decode cX6_sum 51 = .ok (.goto (-43), 3) := by decide +kernel
theorem dX6_sum_54 : decode cX6_sum 54 = .ok (.iconst 0, 1) := by decide +kernel
theorem dX6_sum_55 : decode cX6_sum 55 = .ok (.istore_n 3, 1) := by decide +kernel
theorem dX6_sum_56 : decode cX6_sum 56 = .ok (.iload_n 3, 1) := by decide +kernel
theorem dX6_sum_57 : decode cX6_sum 57 = .ok (.aload_n 0, 1) := by decide +kernel
theorem dX6_sum_58 : decode cX6_sum 58 = .ok (.getfield 27, 3) := by decide +kernel
theorem dX6_sum_61 : decode cX6_sum 61 = .ok (.arraylength, 1) := by decide +kernel
theorem dX6_sum_62 : decode cX6_sum 62 = .ok (.if_icmp .ge 40, 3) := by decide +kernel
theorem dX6_sum_65 : decode cX6_sum 65 = .ok (.iconst 0, 1) := by decide +kernel
theorem dX6_sum_66 : decode cX6_sum 66 = .ok (.istore 4, 2) := by decide +kernel
theorem dX6_sum_68 : decode cX6_sum 68 = .ok (.iload 4, 2) := by decide +kernel
theorem dX6_sum_70 : decode cX6_sum 70 = .ok (.bipush 6, 2) := by decide +kernel
theorem dX6_sum_72 : decode cX6_sum 72 = .ok (.if_icmp .ge 24, 3) := by decide +kernel
theorem dX6_sum_75 : decode cX6_sum 75 = .ok (.ldc2_w 164, 3) := by decide +kernel
theorem dX6_sum_78 : decode cX6_sum 78 = .ok (.lload_n 1, 1) := by decide +kernel
theorem dX6_sum_79 : decode cX6_sum 79 = .ok (.lmul, 1) := by decide +kernel
theorem dX6_sum_80 : decode cX6_sum 80 = .ok (.aload_n 0, 1) := by decide +kernel
theorem dX6_sum_81 : decode cX6_sum 81 = .ok (.iload_n 3, 1) := by decide +kernel
theorem dX6_sum_82 : decode cX6_sum 82 = .ok (.iload 4, 2) := by decide +kernel
theorem dX6_sum_84 : decode cX6_sum 84 = .ok (.invokevirtual 170, 3) := by decide +kernel
theorem dX6_sum_87 : decode cX6_sum 87 = .ok (.i2l, 1) := by decide +kernel
theorem dX6_sum_88 : decode cX6_sum 88 = .ok (.ladd, 1) := by decide +kernel
theorem dX6_sum_89 : decode cX6_sum 89 = .ok (.lstore_n 1, 1) := by decide +kernel
theorem dX6_sum_90 : decode cX6_sum 90 = .ok (.iinc 4 1, 3) := by decide +kernel
theorem dX6_sum_93 : decode cX6_sum 93 = .ok (.goto (-25), 3) := by decide +kernel
theorem dX6_sum_96 : decode cX6_sum 96 = .ok (.iinc 3 1, 3) := by decide +kernel
theorem dX6_sum_99 : decode cX6_sum 99 = .ok (.goto (-43), 3) := by decide +kernel
theorem dX6_sum_102 : decode cX6_sum 102 = .ok (.iconst 0, 1) := by decide +kernel
theorem dX6_sum_103 : decode cX6_sum 103 = .ok (.istore_n 3, 1) := by decide +kernel
theorem dX6_sum_104 : decode cX6_sum 104 = .ok (.iload_n 3, 1) := by decide +kernel
theorem dX6_sum_105 : decode cX6_sum 105 = .ok (.aload_n 0, 1) := by decide +kernel
theorem dX6_sum_106 : decode cX6_sum 106 = .ok (.getfield 33, 3) := by decide +kernel
theorem dX6_sum_109 : decode cX6_sum 109 = .ok (.arraylength, 1) := by decide +kernel
theorem dX6_sum_110 : decode cX6_sum 110 = .ok (.if_icmp .ge 66, 3) := by decide +kernel
theorem dX6_sum_113 : decode cX6_sum 113 = .ok (.iconst 0, 1) := by decide +kernel
theorem dX6_sum_114 : decode cX6_sum 114 = .ok (.istore 4, 2) := by decide +kernel
theorem dX6_sum_116 : decode cX6_sum 116 = .ok (.iload 4, 2) := by decide +kernel
theorem dX6_sum_118 : decode cX6_sum 118 = .ok (.bipush 6, 2) := by decide +kernel
theorem dX6_sum_120 : decode cX6_sum 120 = .ok (.if_icmp .ge 24, 3) := by decide +kernel
theorem dX6_sum_123 : decode cX6_sum 123 = .ok (.ldc2_w 164, 3) := by decide +kernel
theorem dX6_sum_126 : decode cX6_sum 126 = .ok (.lload_n 1, 1) := by decide +kernel
theorem dX6_sum_127 : decode cX6_sum 127 = .ok (.lmul, 1) := by decide +kernel
theorem dX6_sum_128 : decode cX6_sum 128 = .ok (.aload_n 0, 1) := by decide +kernel
theorem dX6_sum_129 : decode cX6_sum 129 = .ok (.iload_n 3, 1) := by decide +kernel
theorem dX6_sum_130 : decode cX6_sum 130 = .ok (.iload 4, 2) := by decide +kernel
theorem dX6_sum_132 : decode cX6_sum 132 = .ok (.invokevirtual 173, 3) := by decide +kernel
theorem dX6_sum_135 : decode cX6_sum 135 = .ok (.i2l, 1) := by decide +kernel
theorem dX6_sum_136 : decode cX6_sum 136 = .ok (.ladd, 1) := by decide +kernel
theorem dX6_sum_137 : decode cX6_sum 137 = .ok (.lstore_n 1, 1) := by decide +kernel
theorem dX6_sum_138 : decode cX6_sum 138 = .ok (.iinc 4 1, 3) := by decide +kernel
theorem dX6_sum_141 : decode cX6_sum 141 = .ok (.goto (-25), 3) := by decide +kernel
theorem dX6_sum_144 : decode cX6_sum 144 = .ok (.ldc2_w 164, 3) := by decide +kernel
theorem dX6_sum_147 : decode cX6_sum 147 = .ok (.ldc2_w 164, 3) := by decide +kernel
theorem dX6_sum_150 : decode cX6_sum 150 = .ok (.lload_n 1, 1) := by decide +kernel
theorem dX6_sum_151 : decode cX6_sum 151 = .ok (.lmul, 1) := by decide +kernel
theorem dX6_sum_152 : decode cX6_sum 152 = .ok (.aload_n 0, 1) := by decide +kernel
theorem dX6_sum_153 : decode cX6_sum 153 = .ok (.iload_n 3, 1) := by decide +kernel
theorem dX6_sum_154 : decode cX6_sum 154 = .ok (.iconst 0, 1) := by decide +kernel
theorem dX6_sum_155 : decode cX6_sum 155 = .ok (.invokevirtual 176, 3) := by decide +kernel
theorem dX6_sum_158 : decode cX6_sum 158 = .ok (.i2l, 1) := by decide +kernel
theorem dX6_sum_159 : decode cX6_sum 159 = .ok (.ladd, 1) := by decide +kernel
theorem dX6_sum_160 : decode cX6_sum 160 = .ok (.lmul, 1) := by decide +kernel
theorem dX6_sum_161 : decode cX6_sum 161 = .ok (.aload_n 0, 1) := by decide +kernel
theorem dX6_sum_162 : decode cX6_sum 162 = .ok (.iload_n 3, 1) := by decide +kernel
theorem dX6_sum_163 : decode cX6_sum 163 = .ok (.iconst 1, 1) := by decide +kernel
theorem dX6_sum_164 : decode cX6_sum 164 = .ok (.invokevirtual 176, 3) := by decide +kernel
theorem dX6_sum_167 : decode cX6_sum 167 = .ok (.i2l, 1) := by decide +kernel
theorem dX6_sum_168 : decode cX6_sum 168 = .ok (.ladd, 1) := by decide +kernel
theorem dX6_sum_169 : decode cX6_sum 169 = .ok (.lstore_n 1, 1) := by decide +kernel
theorem dX6_sum_170 : decode cX6_sum 170 = .ok (.iinc 3 1, 3) := by decide +kernel
theorem dX6_sum_173 : decode cX6_sum 173 = .ok (.goto (-69), 3) := by decide +kernel
theorem dX6_sum_176 : decode cX6_sum 176 = .ok (.aload_n 0, 1) := by decide +kernel
theorem dX6_sum_177 : decode cX6_sum 177 = .ok (.getfield 37, 3) := by decide +kernel
theorem dX6_sum_180 : decode cX6_sum 180 = .ok (.astore_n 3, 1) := by decide +kernel
theorem dX6_sum_181 : decode cX6_sum 181 = .ok (.aload_n 3, 1) := by decide +kernel
theorem dX6_sum_182 : decode cX6_sum 182 = .ok (.arraylength, 1) := by decide +kernel
theorem dX6_sum_183 : decode cX6_sum 183 = .ok (.istore 4, 2) := by decide +kernel
theorem dX6_sum_185 : decode cX6_sum 185 = .ok (.iconst 0, 1) := by decide +kernel
theorem dX6_sum_186 : decode cX6_sum 186 = .ok (.istore 5, 2) := by decide +kernel
theorem dX6_sum_188 : decode cX6_sum 188 = .ok (.iload 5, 2) := by decide +kernel
theorem dX6_sum_190 : decode cX6_sum 190 = .ok (.iload 4, 2) := by decide +kernel
theorem dX6_sum_192 : decode cX6_sum 192 = .ok (.if_icmp .ge 25, 3) := by decide +kernel
theorem dX6_sum_195 : decode cX6_sum 195 = .ok (.aload_n 3, 1) := by decide +kernel
theorem dX6_sum_196 : decode cX6_sum 196 = .ok (.iload 5, 2) := by decide +kernel
theorem dX6_sum_198 : decode cX6_sum 198 = .ok (.iaload, 1) := by decide +kernel
theorem dX6_sum_199 : decode cX6_sum 199 = .ok (.istore 6, 2) := by decide +kernel
theorem dX6_sum_201 : decode cX6_sum 201 = .ok (.ldc2_w 164, 3) := by decide +kernel
theorem dX6_sum_204 : decode cX6_sum 204 = .ok (.lload_n 1, 1) := by decide +kernel
theorem dX6_sum_205 : decode cX6_sum 205 = .ok (.lmul, 1) := by decide +kernel
theorem dX6_sum_206 : decode cX6_sum 206 = .ok (.iload 6, 2) := by decide +kernel
theorem dX6_sum_208 : decode cX6_sum 208 = .ok (.i2l, 1) := by decide +kernel
theorem dX6_sum_209 : decode cX6_sum 209 = .ok (.ladd, 1) := by decide +kernel
theorem dX6_sum_210 : decode cX6_sum 210 = .ok (.lstore_n 1, 1) := by decide +kernel
theorem dX6_sum_211 : decode cX6_sum 211 = .ok (.iinc 5 1, 3) := by decide +kernel
theorem dX6_sum_214 : decode cX6_sum 214 = .ok (.goto (-26), 3) := by decide +kernel
theorem dX6_sum_217 : decode cX6_sum 217 = .ok (.lload_n 1, 1) := by decide +kernel
theorem dX6_sum_218 : decode cX6_sum 218 = .ok (.lreturn, 1) := by decide +kernel
theorem dX7_init_0 : decode cX7_init 0 = .ok (.aload_n 0, 1) := by decide +kernel
theorem dX7_init_1 : decode cX7_init 1 = .ok (.invokespecial 1, 3) := by decide +kernel
theorem dX7_init_4 : decode cX7_init 4 = .ok (.aload_n 0, 1) := by decide +kernel
theorem dX7_init_5 : decode cX7_init 5 = .ok (.iconst 2, 1) := by decide +kernel
theorem dX7_init_6 : decode cX7_init 6 = .ok (.anewarray 7, 3) := by decide +kernel
theorem dX7_init_9 : decode cX7_init 9 = .ok (.putfield 9, 3) := by decide +kernel
theorem dX7_init_12 : decode cX7_init 12 = .ok (.return_, 1) := by decide +kernel
theorem dX7_close_0 : decode cX7_close 0 = .ok (.aload_n 0, 1) := by decide +kernel
theorem dX7_close_1 : decode cX7_close 1 = .ok (.iload_n 1, 1) := by decide +kernel
theorem dX7_close_2 : decode cX7_close 2 = .ok (.putfield 15, 3) := by decide +kernel
theorem dX7_close_5 : decode cX7_close 5 = .ok (.aload_n 0, 1) := by decide +kernel
theorem dX7_close_6 : decode cX7_close 6 = .ok (.iload_n 2, 1) := by decide +kernel
theorem dX7_close_7 : decode cX7_close 7 = .ok (.putfield 19, 3) := by decide +kernel
theorem dX7_close_10 : decode cX7_close 10 = .ok (.aload_n 0, 1) := by decide +kernel
theorem dX7_close_11 : decode cX7_close 11 = .ok (.aconst_null, 1) := by decide +kernel
theorem dX7_close_12 : decode cX7_close 12 = .ok (.putfield 22, 3) := by decide +kernel
theorem dX7_close_15 : decode cX7_close 15 = .ok (.aload_n 0, 1) := by decide +kernel
theorem dX7_close_16 : decode cX7_close 16 = .ok (.iconst 2, 1) := by decide +kernel
theorem dX7_close_17 : decode cX7_close 17 = .ok (.anewarray 7, 3) := by decide +kernel
theorem dX7_close_20 : decode cX7_close 20 = .ok (.putfield 9, 3) := by decide +kernel
theorem dX7_close_23 : decode cX7_close 23 = .ok (.return_, 1) := by decide +kernel
theorem dX7_party_0 : decode cX7_party 0 = .ok (.iload_n 1, 1) := by decide +kernel
theorem dX7_party_1 : decode cX7_party 1 = .ok (.ifCond .ne 13, 3) := by decide +kernel
theorem dX7_party_4 : decode cX7_party 4 = .ok (.aload_n 0, 1) := by decide +kernel
theorem dX7_party_5 : decode cX7_party 5 = .ok (.getfield 25, 3) := by decide +kernel
theorem dX7_party_8 : decode cX7_party 8 = .ok (.getfield 29, 3) := by decide +kernel
theorem dX7_party_11 : decode cX7_party 11 = .ok (.goto 7, 3) := by decide +kernel
theorem dX7_party_14 : decode cX7_party 14 = .ok (.aload_n 0, 1) := by decide +kernel
theorem dX7_party_15 : decode cX7_party 15 = .ok (.getfield 34, 3) := by decide +kernel
theorem dX7_party_18 : decode cX7_party 18 = .ok (.ireturn, 1) := by decide +kernel
theorem dX8_init_0 : decode cX8_init 0 = .ok (.aload_n 0, 1) := by decide +kernel
theorem dX8_init_1 : decode cX8_init 1 = .ok (.invokespecial 1, 3) := by decide +kernel
theorem dX8_init_4 : decode cX8_init 4 = .ok (.return_, 1) := by decide +kernel
theorem dX8_random_0 : decode cX8_random 0 = .ok (.new 7, 3) := by decide +kernel
theorem dX8_random_3 : decode cX8_random 3 = .ok (.dup, 1) := by decide +kernel
theorem dX8_random_4 : decode cX8_random 4 = .ok (.invokespecial 9, 3) := by decide +kernel
theorem dX8_random_7 : decode cX8_random 7 = .ok (.astore_n 2, 1) := by decide +kernel
theorem dX8_random_8 : decode cX8_random 8 = .ok (.aload_n 2, 1) := by decide +kernel
theorem dX8_random_9 : decode cX8_random 9 = .ok (.iload_n 1, 1) := by decide +kernel
theorem dX8_random_10 : decode cX8_random 10 = .ok (.ifCond .ne 11, 3) := by decide +kernel
theorem dX8_random_13 : decode cX8_random 13 = .ok (.aload_n 0, 1) := by decide +kernel
theorem dX8_random_14 : decode cX8_random 14 = .ok (.iconst 2, 1) := by decide +kernel
theorem dX8_random_15 : decode cX8_random 15 = .ok (.invokevirtual 10, 3) := by decide +kernel
theorem dX8_random_18 : decode cX8_random 18 = .ok (.goto 9, 3) := by decide +kernel
theorem dX8_random_21 : decode cX8_random 21 = .ok (.aload_n 0, 1) := by decide +kernel
theorem dX8_random_22 : decode cX8_random 22 = .ok (.bipush 6, 2) := by decide +kernel
theorem dX8_random_24 : decode cX8_random 24 = .ok (.invokevirtual 10, 3) := by decide +kernel
theorem dX8_random_27 : decode cX8_random 27 = .ok (.putfield 16, 3) := by decide +kernel
theorem dX8_random_30 : decode cX8_random 30 = .ok (.aload_n 2, 1) := by decide +kernel
theorem dX8_random_31 : decode cX8_random 31 = .ok (.aload_n 2, 1) := by decide +kernel
theorem dX8_random_32 : decode cX8_random 32 = .ok (.getfield 16, 3) := by decide +kernel
theorem dX8_random_35 : decode cX8_random 35 = .ok (.ifCond .ne 27, 3) := by decide +kernel
theorem dX8_random_38 : decode cX8_random 38 = .ok (.aload_n 0, 1) := by decide +kernel
theorem dX8_random_39 : decode cX8_random 39 = .ok (.aload_n 0, 1) := by decide +kernel
theorem dX8_random_40 : decode cX8_random 40 = .ok (.bipush 8, 2) := by decide +kernel
theorem dX8_random_42 : decode cX8_random 42 = .ok (.invokevirtual 10, 3) := by decide +kernel
theorem dX8_random_45 : decode cX8_random 45 = .ok (.ifCond .ne 9, 3) := by decide +kernel
theorem dX8_random_48 : decode cX8_random 48 = .ok (.sipush 10000, 3) := by decide +kernel
theorem dX8_random_51 : decode cX8_random 51 = .ok (.goto 5, 3) := by decide +kernel
theorem dX8_random_54 : decode cX8_random 54 = .ok (.bipush 20, 2) := by decide +kernel
theorem dX8_random_56 : decode cX8_random 56 = .ok (.invokevirtual 10, 3) := by decide +kernel
theorem dX8_random_59 : decode cX8_random 59 = .ok (.goto 8, 3) := by decide +kernel
theorem dX8_random_62 : decode cX8_random 62 = .ok (.aload_n 0, 1) := by decide +kernel
theorem dX8_random_63 : decode cX8_random 63 = .ok (.iconst 4, 1) := by decide +kernel
theorem dX8_random_64 : decode cX8_random 64 = .ok (.invokevirtual 10, 3) := by decide +kernel
theorem dX8_random_67 : decode cX8_random 67 = .ok (.putfield 20, 3) := by decide +kernel
theorem dX8_random_70 : decode cX8_random 70 = .ok (.aload_n 2, 1) := by decide +kernel
theorem dX8_random_71 : decode cX8_random 71 = .ok (.getfield 16, 3) := by decide +kernel
theorem dX8_random_74 : decode cX8_random 74 = .ok (.iconst 1, 1) := by decide +kernel
theorem dX8_random_75 : decode cX8_random 75 = .ok (.if_icmp .le 25, 3) := by decide +kernel
theorem dX8_random_78 : decode cX8_random 78 = .ok (.aload_n 2, 1) := by decide +kernel
theorem dX8_random_79 : decode cX8_random 79 = .ok (.aload_n 0, 1) := by decide +kernel
theorem dX8_random_80 : decode cX8_random 80 = .ok (.iload_n 1, 1) := by decide +kernel
theorem dX8_random_81 : decode cX8_random 81 = .ok (.iconst 1, 1) := by decide +kernel
theorem dX8_random_82 : decode cX8_random 82 = .ok (.isub, 1) := by decide +kernel
theorem dX8_random_83 : decode cX8_random 83 = .ok (.invokestatic 23, 3) := by decide +kernel
theorem dX8_random_86 : decode cX8_random 86 = .ok (.putfield 27, 3) := by decide +kernel
theorem dX8_random_89 : decode cX8_random 89 = .ok (.aload_n 2, 1) := by decide +kernel
theorem dX8_random_90 : decode cX8_random 90 = .ok (.aload_n 0, 1) := by decide +kernel
theorem dX8_random_91 : decode cX8_random 91 = .ok (.iload_n 1, 1) := by decide +kernel
theorem dX8_random_92 : decode cX8_random 92 = .ok (.iconst 1, 1) := by decide +kernel
theorem dX8_random_93 : decode cX8_random 93 = .ok (.isub, 1) := by decide +kernel
theorem dX8_random_94 : decode cX8_random 94 = .ok (.invokestatic 23, 3) := by decide +kernel
theorem dX8_random_97 : decode cX8_random 97 = .ok (.putfield 31, 3) := by decide +kernel
theorem dX8_random_100 : decode cX8_random 100 = .ok (.aload_n 2, 1) := by decide +kernel
theorem dX8_random_101 : decode cX8_random 101 = .ok (.areturn, 1) := by decide +kernel
theorem dX8_text_0 : decode cX8_text 0 = .ok (.aload_n 0, 1) := by decide +kernel
theorem dX8_text_1 : decode cX8_text 1 = .ok (.getfield 16, 3) := by decide +kernel
theorem dX8_text_4 : decode cX8_text 4 = .ok (.ifCond .ne 26, 3) := by decide +kernel
theorem dX8_text_7 : decode cX8_text 7 = .ok (.new 34, 3) := by decide +kernel
theorem dX8_text_10 : decode cX8_text 10 = .ok (.dup, 1) := by decide +kernel
theorem dX8_text_11 : decode cX8_text 11 = .ok (.invokespecial 36, 3) := by decide +kernel
theorem dX8_text_14 : decode cX8_text 14 = .ok (.ldc 37, 2) := by decide +kernel
theorem dX8_text_16 : decode cX8_text 16 = .ok (.invokevirtual 39, 3) := by decide +kernel
theorem dX8_text_19 : decode cX8_text 19 = .ok (.aload_n 0, 1) := by decide +kernel
theorem dX8_text_20 : decode cX8_text 20 = .ok (.getfield 20, 3) := by decide +kernel
theorem dX8_text_23 : decode cX8_text 23 = .ok (.invokevirtual 43, 3) := by decide +kernel
theorem dX8_text_26 : decode cX8_text 26 = .ok (.invokevirtual 46, 3) := by decide +kernel
theorem dX8_text_29 : decode cX8_text 29 = .ok (.areturn, 1) := by decide +kernel
theorem dX8_text_30 : decode cX8_text 30 = .ok (.aload_n 0, 1) := by decide +kernel
theorem dX8_text_31 : decode cX8_text 31 = .ok (.getfield 16, 3) := by decide +kernel
theorem dX8_text_34 : decode cX8_text 34 = .ok (.iconst 1, 1) := by decide +kernel
theorem dX8_text_35 : decode cX8_text 35 = .ok (.if_icmp .ne 12, 3) := by decide +kernel
theorem dX8_text_38 : decode cX8_text 38 = .ok (.getstatic 50, 3) := by decide +kernel
theorem dX8_text_41 : decode cX8_text 41 = .ok (.aload_n 0, 1) := by decide +kernel
theorem dX8_text_42 : decode cX8_text 42 = .ok (.getfield 20, 3) := by decide +kernel
theorem dX8_text_45 : decode cX8_text 45 = .ok (.aaload, 1) := by decide +kernel
theorem dX8_text_46 : decode cX8_text 46 = .ok (.areturn, 1) := by decide +kernel
theorem dX8_text_47 : decode cX8_text 47 = .ok (.aload_n 0, 1) := by decide +kernel
theorem dX8_text_48 : decode cX8_text 48 = .ok (.getfield 16, 3) := by decide +kernel
theorem dX8_text_51 : decode cX8_text 51 = .ok (.iconst 4, 1) := by decide +kernel
theorem dX8_text_52 : decode cX8_text 52 = .ok (.if_icmp .ge 7, 3) := by decide +kernel
theorem dX8_text_55 : decode cX8_text 55 = .ok (.iconst 1, 1) := by decide +kernel
theorem dX8_text_56 : decode cX8_text 56 = .ok (.goto 4, 3) := by decide +kernel
theorem dX8_text_59 : decode cX8_text 59 = .ok (.iconst 2, 1) := by decide +kernel
theorem dX8_text_60 : decode cX8_text 60 = .ok (.istore_n 2, 1) := by decide +kernel
theorem dX8_text_61 : decode cX8_text 61 = .ok (.new 34, 3) := by decide +kernel
theorem dX8_text_64 : decode cX8_text 64 = .ok (.dup, 1) := by decide +kernel
theorem dX8_text_65 : decode cX8_text 65 = .ok (.invokespecial 36, 3) := by decide +kernel
theorem dX8_text_68 : decode cX8_text 68 = .ok (.aload_n 0, 1) := by decide +kernel
theorem dX8_text_69 : decode cX8_text 69 = .ok (.getfield 27, 3) := by decide +kernel
theorem dX8_text_72 : decode cX8_text 72 = .ok (.iload_n 2, 1) := by decide +kernel
theorem dX8_text_73 : decode cX8_text 73 = .ok (.invokevirtual 56, 3) := by decide +kernel
theorem dX8_text_76 : decode cX8_text 76 = .ok (.invokevirtual 39, 3) := by decide +kernel
theorem dX8_text_79 : decode cX8_text 79 = .ok (.aload_n 0, 1) := by decide +kernel
theorem dX8_text_80 : decode cX8_text 80 = .ok (.getfield 16, 3) := by decide +kernel
theorem dX8_text_83 : decode cX8_text 83 = .ok (.iconst 2, 1) := by decide +kernel
theorem dX8_text_84 : decode cX8_text 84 = .ok (.if_icmp .ne 8, 3) := by decide +kernel
theorem dX8_text_87 : decode cX8_text 87 = .ok (.ldc 60, 2) := by decide +kernel
theorem dX8_text_89 : decode cX8_text 89 = .ok (.goto 31, 3) := by decide +kernel
theorem dX8_text_92 : decode cX8_text 92 = .ok (.aload_n 0, 1) := by decide +kernel
theorem dX8_text_93 : decode cX8_text 93 = .ok (.getfield 16, 3) := by decide +kernel
theorem dX8_text_96 : decode cX8_text 96 = .ok (.iconst 3, 1) := by decide +kernel
theorem dX8_text_97 : decode cX8_text 97 = .ok (.if_icmp .ne 8, 3) := by decide +kernel
theorem dX8_text_100 : decode cX8_text 100 = .ok (.ldc 62, 2) := by decide +kernel
theorem dX8_text_102 : decode cX8_text 102 = .ok (.goto 18, 3) := by decide +kernel
theorem dX8_text_105 : decode cX8_text 105 = .ok (.aload_n 0, 1) := by decide +kernel
theorem dX8_text_106 : decode cX8_text 106 = .ok (.getfield 16, 3) := by decide +kernel
theorem dX8_text_109 : decode cX8_text 109 = .ok (.iconst 4, 1) := by decide +kernel
theorem dX8_text_110 : decode cX8_text 110 = .ok (.if_icmp .ne 8, 3) := by decide +kernel
theorem dX8_text_113 : decode cX8_text 113 = .ok (.ldc 64, 2) := by decide +kernel
theorem dX8_text_115 : decode cX8_text 115 = .ok (.goto 5, 3) := by decide +kernel
theorem dX8_text_118 : decode cX8_text 118 = .ok (.ldc 66, 2) := by decide +kernel
theorem dX8_text_120 : decode cX8_text 120 = .ok (.invokevirtual 39, 3) := by decide +kernel
theorem dX8_text_123 : decode cX8_text 123 = .ok (.aload_n 0, 1) := by decide +kernel
theorem dX8_text_124 : decode cX8_text 124 = .ok (.getfield 31, 3) := by decide +kernel
theorem dX8_text_127 : decode cX8_text 127 = .ok (.iload_n 2, 1) := by decide +kernel
theorem dX8_text_128 : decode cX8_text 128 = .ok (.iconst 1, 1) := by decide +kernel
theorem dX8_text_129 : decode cX8_text 129 = .ok (.iadd, 1) := by decide +kernel
theorem dX8_text_130 : decode cX8_text 130 = .ok (.invokevirtual 56, 3) := by decide +kernel
theorem dX8_text_133 : decode cX8_text 133 = .ok (.invokevirtual 39, 3) := by decide +kernel
theorem dX8_text_136 : decode cX8_text 136 = .ok (.invokevirtual 46, 3) := by decide +kernel
theorem dX8_text_139 : decode cX8_text 139 = .ok (.astore_n 3, 1) := by decide +kernel
theorem dX8_text_140 : decode cX8_text 140 = .ok (.iload_n 2, 1) := by decide +kernel
theorem dX8_text_141 : decode cX8_text 141 = .ok (.iload_n 1, 1) := by decide +kernel
theorem dX8_text_142 : decode cX8_text 142 = .ok (.if_icmp .ge 30, 3) := by decide +kernel
theorem dX8_text_145 : decode cX8_text 145 = .ok (.new 34, 3) := by decide +kernel
theorem dX8_text_148 : decode cX8_text 148 = .ok (.dup, 1) := by decide +kernel
theorem dX8_text_149 : decode cX8_text 149 = .ok (.invokespecial 36, 3) := by decide +kernel
theorem dX8_text_152 : decode cX8_text 152 = .ok (.ldc 68, 2) := by decide +kernel
theorem dX8_text_154 : decode cX8_text 154 = .ok (.invokevirtual 39, 3) := by decide +kernel
theorem dX8_text_157 : decode cX8_text 157 = .ok (.aload_n 3, 1) := by decide +kernel
theorem dX8_text_158 : decode cX8_text 158 = .ok (.invokevirtual 39, 3) := by decide +kernel
theorem dX8_text_161 : decode cX8_text 161 = .ok (.ldc 70, 2) := by decide +kernel
theorem dX8_text_163 : decode cX8_text 163 = .ok (.invokevirtual 39, 3) := by decide +kernel
theorem dX8_text_166 : decode cX8_text 166 = .ok (.invokevirtual 46, 3) := by decide +kernel
theorem dX8_text_169 : decode cX8_text 169 = .ok (.goto 4, 3) := by decide +kernel
theorem dX8_text_172 : decode cX8_text 172 = .ok (.aload_n 3, 1) := by decide +kernel
theorem dX8_text_173 : decode cX8_text 173 = .ok (.areturn, 1) := by decide +kernel
theorem dX8_value_0 : decode cX8_value 0 = .ok (.aload_n 0, 1) := by decide +kernel
theorem dX8_value_1 : decode cX8_value 1 = .ok (.getfield 16, 3) := by decide +kernel
theorem dX8_value_4 : decode cX8_value 4 = .ok (.iconst 2, 1) := by decide +kernel
theorem dX8_value_5 : decode cX8_value 5 = .ok (.if_icmp .ge 25, 3) := by decide +kernel
theorem dX8_value_8 : decode cX8_value 8 = .ok (.aload_n 0, 1) := by decide +kernel
theorem dX8_value_9 : decode cX8_value 9 = .ok (.getfield 16, 3) := by decide +kernel
theorem dX8_value_12 : decode cX8_value 12 = .ok (.ifCond .ne 11, 3) := by decide +kernel
theorem dX8_value_15 : decode cX8_value 15 = .ok (.aload_n 0, 1) := by decide +kernel
theorem dX8_value_16 : decode cX8_value 16 = .ok (.getfield 20, 3) := by decide +kernel
theorem dX8_value_19 : decode cX8_value 19 = .ok (.i2l, 1) := by decide +kernel
theorem dX8_value_20 : decode cX8_value 20 = .ok (.goto 9, 3) := by decide +kernel
theorem dX8_value_23 : decode cX8_value 23 = .ok (.aload_n 1, 1) := by decide +kernel
theorem dX8_value_24 : decode cX8_value 24 = .ok (.aload_n 0, 1) := by decide +kernel
theorem dX8_value_25 : decode cX8_value 25 = .ok (.getfield 20, 3) := by decide +kernel
theorem dX8_value_28 : decode cX8_value 28 = .ok (.laload, 1) := by decide +kernel
theorem dX8_value_29 : decode cX8_value 29 = .ok (.lreturn, 1) := by decide +kernel
theorem dX8_value_30 : decode cX8_value 30 = .ok (.aload_n 0, 1) := by decide +kernel
theorem dX8_value_31 : decode cX8_value 31 = .ok (.getfield 27, 3) := by decide +kernel
theorem dX8_value_34 : decode cX8_value 34 = .ok (.aload_n 1, 1) := by decide +kernel
theorem dX8_value_35 : decode cX8_value 35 = .ok (.invokevirtual 72, 3) := by decide +kernel
theorem dX8_value_38 : decode cX8_value 38 = .ok (.lstore_n 2, 1) := by decide +kernel
theorem dX8_value_39 : decode cX8_value 39 = .ok (.aload_n 0, 1) := by decide +kernel
theorem dX8_value_40 : decode cX8_value 40 = .ok (.getfield 31, 3) := by decide +kernel
theorem dX8_value_43 : decode cX8_value 43 = .ok (.aload_n 1, 1) := by decide +kernel
theorem dX8_value_44 : decode cX8_value 44 = .ok (.invokevirtual 72, 3) := by decide +kernel
theorem dX8_value_47 : decode cX8_value 47 = .ok (.lstore 4, 2) := by decide +kernel
theorem dX8_value_49 : decode cX8_value 49 = .ok (.aload_n 0, 1) := by decide +kernel
theorem dX8_value_50 : decode cX8_value 50 = .ok (.getfield 16, 3) := by decide +kernel
theorem dX8_value_53 : decode cX8_value 53 = .ok (.iconst 2, 1) := by decide +kernel
theorem dX8_value_54 : decode cX8_value 54 = .ok (.if_icmp .ne 10, 3) := by decide +kernel
theorem dX8_value_57 : decode cX8_value 57 = .ok (.lload_n 2, 1) := by decide +kernel
theorem dX8_value_58 : decode cX8_value 58 = .ok (.lload 4, 2) := by decide +kernel
theorem dX8_value_60 : decode cX8_value 60 = .ok (.ladd, 1) := by decide +kernel
theorem dX8_value_61 : decode cX8_value 61 = .ok (.goto 48, 3) := by decide +kernel
theorem dX8_value_64 : decode cX8_value 64 = .ok (.aload_n 0, 1) := by decide +kernel
theorem dX8_value_65 : decode cX8_value 65 = .ok (.getfield 16, 3) := by decide +kernel
theorem dX8_value_68 : decode cX8_value 68 = .ok (.iconst 3, 1) := by decide +kernel
theorem dX8_value_69 : decode cX8_value 69 = .ok (.if_icmp .ne 10, 3) := by decide +kernel
theorem dX8_value_72 : decode cX8_value 72 = .ok (.lload_n 2, 1) := by decide +kernel
theorem dX8_value_73 : decode cX8_value 73 = .ok (.lload 4, 2) := by decide +kernel
theorem dX8_value_75 : decode cX8_value 75 = .ok (.lsub, 1) := by decide +kernel
theorem dX8_value_76 : decode cX8_value 76 = .ok (.goto 33, 3) := by decide +kernel
theorem dX8_value_79 : decode cX8_value 79 = .ok (.aload_n 0, 1) := by decide +kernel
theorem dX8_value_80 : decode cX8_value 80 = .ok (.getfield 16, 3) := by decide +kernel
theorem dX8_value_83 : decode cX8_value 83 = .ok (.iconst 4, 1) := by decide +kernel
theorem dX8_value_84 : decode cX8_value 84 = .ok (.if_icmp .ne 10, 3) := by decide +kernel
theorem dX8_value_87 : decode cX8_value 87 = .ok (.lload_n 2, 1) := by decide +kernel
theorem dX8_value_88 : decode cX8_value 88 = .ok (.lload 4, 2) := by decide +kernel
theorem dX8_value_90 : decode cX8_value 90 = .ok (.lmul, 1) := by decide +kernel
theorem dX8_value_91 : decode cX8_value 91 = .ok (.goto 18, 3) := by decide +kernel
theorem dX8_value_94 : decode cX8_value 94 = .ok (.lload 4, 2) := by decide +kernel
theorem dX8_value_96 : decode cX8_value 96 = .ok (.lconst 0, 1) := by decide +kernel
theorem dX8_value_97 : decode cX8_value 97 = .ok (.lcmp, 1) := by decide +kernel
theorem dX8_value_98 : decode cX8_value 98 = .ok (.ifCond .ne 7, 3) := by decide +kernel
theorem dX8_value_101 : decode cX8_value 101 = .ok (.lconst 0, 1) := by decide +kernel
theorem dX8_value_102 : decode cX8_value 102 = .ok (.goto 7, 3) := by decide +kernel
theorem dX8_value_105 : decode cX8_value 105 = .ok (.lload_n 2, 1) := by decide +kernel
theorem dX8_value_106 : decode cX8_value 106 = .ok (.lload 4, 2) := by decide +kernel
theorem dX8_value_108 : decode cX8_value 108 = .ok (.ldiv, 1) := by decide +kernel
theorem dX8_value_109 : decode cX8_value 109 = .ok (.lstore 6, 2) := by decide +kernel
theorem dX8_value_111 : decode cX8_value 111 = .ok (.ldc2_w 76, 3) := by decide +kernel
theorem dX8_value_114 : decode cX8_value 114 = .ok (.ldc2_w 78, 3) := by decide +kernel
theorem dX8_value_117 : decode cX8_value 117 = .ok (.lload 6, 2) := by decide +kernel
theorem dX8_value_119 : decode cX8_value 119 = .ok (.invokestatic 80, 3) := by decide +kernel
theorem dX8_value_122 : decode cX8_value 122 = .ok (.invokestatic 86, 3) := by decide +kernel
theorem dX8_value_125 : decode cX8_value 125 = .ok (.lreturn, 1) := by decide +kernel
theorem dX9_init_0 : decode cX9_init 0 = .ok (.aload_n 0, 1) := by decide +kernel
theorem dX9_init_1 : decode cX9_init 1 = .ok (.invokespecial 1, 3) := by decide +kernel
theorem dX9_init_4 : decode cX9_init 4 = .ok (.aload_n 0, 1) := by decide +kernel
theorem dX9_init_5 : decode cX9_init 5 = .ok (.iload_n 1, 1) := by decide +kernel
theorem dX9_init_6 : decode cX9_init 6 = .ok (.putfield 7, 3) := by decide +kernel
theorem dX9_init_9 : decode cX9_init 9 = .ok (.return_, 1) := by decide +kernel
theorem dX9_below_0 : decode cX9_below 0 = .ok (.aload_n 0, 1) := by decide +kernel
theorem dX9_below_1 : decode cX9_below 1 = .ok (.ldc 13, 2) := by decide +kernel
theorem dX9_below_3 : decode cX9_below 3 = .ok (.aload_n 0, 1) := by decide +kernel
theorem dX9_below_4 : decode cX9_below 4 = .ok (.getfield 7, 3) := by decide +kernel
theorem dX9_below_7 : decode cX9_below 7 = .ok (.imul, 1) := by decide +kernel
theorem dX9_below_8 : decode cX9_below 8 = .ok (.sipush 12345, 3) := by decide +kernel
theorem dX9_below_11 : decode cX9_below 11 = .ok (.iadd, 1) := by decide +kernel
theorem dX9_below_12 : decode cX9_below 12 = .ok (.putfield 7, 3) := by decide +kernel
theorem dX9_below_15 : decode cX9_below 15 = .ok (.aload_n 0, 1) := by decide +kernel
theorem dX9_below_16 : decode cX9_below 16 = .ok (.getfield 7, 3) := by decide +kernel
theorem dX9_below_19 : decode cX9_below 19 = .ok (.bipush 16, 2) := by decide +kernel
theorem dX9_below_21 : decode cX9_below 21 = .ok (.iushr, 1) := by decide +kernel
theorem dX9_below_22 : decode cX9_below 22 = .ok (.iload_n 1, 1) := by decide +kernel
theorem dX9_below_23 : decode cX9_below 23 = .ok (.irem, 1) := by decide +kernel
theorem dX9_below_24 : decode cX9_below 24 = .ok (.ireturn, 1) := by decide +kernel
theorem dX10_init_0 : decode cX10_init 0 = .ok (.aload_n 0, 1) := by decide +kernel
theorem dX10_init_1 : decode cX10_init 1 = .ok (.invokespecial 1, 3) := by decide +kernel
theorem dX10_init_4 : decode cX10_init 4 = .ok (.return_, 1) := by decide +kernel
theorem dX10_rings_0 : decode cX10_rings 0 = .ok (.iconst 0, 1) := by decide +kernel
theorem dX10_rings_1 : decode cX10_rings 1 = .ok (.istore_n 1, 1) := by decide +kernel
theorem dX10_rings_2 : decode cX10_rings 2 = .ok (.aload_n 0, 1) := by decide +kernel
theorem dX10_rings_3 : decode cX10_rings 3 = .ok (.getfield 7, 3) := by decide +kernel
theorem dX10_rings_6 : decode cX10_rings 6 = .ok (.astore_n 2, 1) := by decide +kernel
theorem dX10_rings_7 : decode cX10_rings 7 = .ok (.aload_n 2, 1) := by decide +kernel
theorem dX10_rings_8 : decode cX10_rings 8 = .ok (.arraylength, 1) := by decide +kernel
theorem dX10_rings_9 : decode cX10_rings 9 = .ok (.istore_n 3, 1) := by decide +kernel
theorem dX10_rings_10 : decode cX10_rings 10 = .ok (.iconst 0, 1) := by decide +kernel
theorem dX10_rings_11 : decode cX10_rings 11 = .ok (.istore 4, 2) := by decide +kernel
theorem dX10_rings_13 : decode cX10_rings 13 = .ok (.iload 4, 2) := by decide +kernel
theorem dX10_rings_15 : decode cX10_rings 15 = .ok (.iload_n 3, 1) := by decide +kernel
theorem dX10_rings_16 : decode cX10_rings 16 = .ok (.if_icmp .ge 31, 3) := by decide +kernel
theorem dX10_rings_19 : decode cX10_rings 19 = .ok (.aload_n 2, 1) := by decide +kernel
theorem dX10_rings_20 : decode cX10_rings 20 = .ok (.iload 4, 2) := by decide +kernel
theorem dX10_rings_22 : decode cX10_rings 22 = .ok (.aaload, 1) := by decide +kernel
theorem dX10_rings_23 : decode cX10_rings 23 = .ok (.astore 5, 2) := by decide +kernel
theorem dX10_rings_25 : decode cX10_rings 25 = .ok (.iload_n 1, 1) := by decide +kernel
theorem dX10_rings_26 : decode cX10_rings 26 = .ok (.aload 5, 2) := by decide +kernel
theorem dX10_rings_28 : decode cX10_rings 28 = .ok (.getfield 13, 3) := by decide +kernel
theorem dX10_rings_31 : decode cX10_rings 31 = .ok (.ifCond .ne 7, 3) := by decide +kernel
theorem dX10_rings_34 : decode cX10_rings 34 = .ok (.iconst 1, 1) := by decide +kernel
theorem dX10_rings_35 : decode cX10_rings 35 = .ok (.goto 4, 3) := by decide +kernel
theorem dX10_rings_38 : decode cX10_rings 38 = .ok (.iconst 0, 1) := by decide +kernel
theorem dX10_rings_39 : decode cX10_rings 39 = .ok (.ior, 1) := by decide +kernel
theorem dX10_rings_40 : decode cX10_rings 40 = .ok (.istore_n 1, 1) := by decide +kernel
theorem dX10_rings_41 : decode cX10_rings 41 = .ok (.iinc 4 1, 3) := by decide +kernel
theorem dX10_rings_44 : decode cX10_rings 44 = .ok (.goto (-31), 3) := by decide +kernel
theorem dX10_rings_47 : decode cX10_rings 47 = .ok (.iload_n 1, 1) := by decide +kernel
theorem dX10_rings_48 : decode cX10_rings 48 = .ok (.ireturn, 1) := by decide +kernel
