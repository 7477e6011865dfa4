theorem mlRX12_583 : Cond.methodLink RX12 583 yX12_work ∈ ab_G ∧ Cond.instanceMethod yX12_work ∈ ab_G ∧ Cond.selects RX12 yX12_work yX12_work ∈ ab_G := ⟨ab_in 2559 (by decide +kernel) (by decide +kernel), ab_in 2561 (by decide +kernel) (by decide +kernel), ab_in 60 (by decide +kernel) (by decide +kernel)⟩
theorem mlRX12_586 : Cond.methodLink RX12 586 yX12_burn ∈ ab_G ∧ Cond.instanceMethod yX12_burn ∈ ab_G ∧ Cond.selects RX12 yX12_burn yX12_burn ∈ ab_G := ⟨ab_in 2587 (by decide +kernel) (by decide +kernel), ab_in 2589 (by decide +kernel) (by decide +kernel), ab_in 67 (by decide +kernel) (by decide +kernel)⟩
theorem mlRX12_580 : Cond.methodLink RX12 580 yX12_arrives ∈ ab_G ∧ Cond.instanceMethod yX12_arrives ∈ ab_G ∧ Cond.selects RX12 yX12_arrives yX12_arrives ∈ ab_G := ⟨ab_in 2547 (by decide +kernel) (by decide +kernel), ab_in 2549 (by decide +kernel) (by decide +kernel), ab_in 57 (by decide +kernel) (by decide +kernel)⟩
abbrev MX12_minute : ab_M := (yX12_minute, cX12_minute, 4, none)
theorem dX12_minute_0 : decode cX12_minute 0 = .ok (.aload_n 0, 1) := by decide +kernel
theorem dX12_minute_1 : decode cX12_minute 1 = .ok (.dup, 1) := by decide +kernel
theorem dX12_minute_2 : decode cX12_minute 2 = .ok (.getfield 395, 3) := by decide +kernel
theorem dX12_minute_5 : decode cX12_minute 5 = .ok (.iconst 1, 1) := by decide +kernel
theorem dX12_minute_6 : decode cX12_minute 6 = .ok (.iadd, 1) := by decide +kernel
theorem dX12_minute_7 : decode cX12_minute 7 = .ok (.putfield 395, 3) := by decide +kernel
theorem dX12_minute_10 : decode cX12_minute 10 = .ok (.iconst 0, 1) := by decide +kernel
theorem dX12_minute_11 : decode cX12_minute 11 = .ok (.istore_n 1, 1) := by decide +kernel
theorem dX12_minute_12 : decode cX12_minute 12 = .ok (.iload_n 1, 1) := by decide +kernel
theorem dX12_minute_13 : decode cX12_minute 13 = .ok (.aload_n 0, 1) := by decide +kernel
theorem dX12_minute_14 : decode cX12_minute 14 = .ok (.getfield 366, 3) := by decide +kernel
theorem dX12_minute_17 : decode cX12_minute 17 = .ok (.if_icmp .ge 47, 3) := by decide +kernel
theorem dX12_minute_20 : decode cX12_minute 20 = .ok (.aload_n 0, 1) := by decide +kernel
theorem dX12_minute_21 : decode cX12_minute 21 = .ok (.getfield 128, 3) := by decide +kernel
theorem dX12_minute_24 : decode cX12_minute 24 = .ok (.iload_n 1, 1) := by decide +kernel
theorem dX12_minute_25 : decode cX12_minute 25 = .ok (.iaload, 1) := by decide +kernel
theorem dX12_minute_26 : decode cX12_minute 26 = .ok (.iconst 1, 1) := by decide +kernel
theorem dX12_minute_27 : decode cX12_minute 27 = .ok (.if_icmp .eq 13, 3) := by decide +kernel
theorem dX12_minute_30 : decode cX12_minute 30 = .ok (.aload_n 0, 1) := by decide +kernel
theorem dX12_minute_31 : decode cX12_minute 31 = .ok (.getfield 128, 3) := by decide +kernel
theorem dX12_minute_34 : decode cX12_minute 34 = .ok (.iload_n 1, 1) := by decide +kernel
theorem dX12_minute_35 : decode cX12_minute 35 = .ok (.iaload, 1) := by decide +kernel
theorem dX12_minute_36 : decode cX12_minute 36 = .ok (.iconst 3, 1) := by decide +kernel
theorem dX12_minute_37 : decode cX12_minute 37 = .ok (.if_icmp .ne 21, 3) := by decide +kernel
theorem dX12_minute_40 : decode cX12_minute 40 = .ok (.aload_n 0, 1) := by decide +kernel
theorem dX12_minute_41 : decode cX12_minute 41 = .ok (.getfield 134, 3) := by decide +kernel
theorem dX12_minute_44 : decode cX12_minute 44 = .ok (.iload_n 1, 1) := by decide +kernel
theorem dX12_minute_45 : decode cX12_minute 45 = .ok (.iaload, 1) := by decide +kernel
theorem dX12_minute_46 : decode cX12_minute 46 = .ok (.aload_n 0, 1) := by decide +kernel
theorem dX12_minute_47 : decode cX12_minute 47 = .ok (.getfield 395, 3) := by decide +kernel
theorem dX12_minute_50 : decode cX12_minute 50 = .ok (.if_icmp .gt 8, 3) := by decide +kernel
theorem dX12_minute_53 : decode cX12_minute 53 = .ok (.aload_n 0, 1) := by decide +kernel
theorem dX12_minute_54 : decode cX12_minute 54 = .ok (.iload_n 1, 1) := by decide +kernel
theorem dX12_minute_55 : decode cX12_minute 55 = .ok (.invokevirtual 580, 3) := by decide +kernel
theorem dX12_minute_58 : decode cX12_minute 58 = .ok (.iinc 1 1, 3) := by decide +kernel
theorem dX12_minute_61 : decode cX12_minute 61 = .ok (.goto (-49), 3) := by decide +kernel
theorem dX12_minute_64 : decode cX12_minute 64 = .ok (.iconst 0, 1) := by decide +kernel
theorem dX12_minute_65 : decode cX12_minute 65 = .ok (.istore_n 1, 1) := by decide +kernel
theorem dX12_minute_66 : decode cX12_minute 66 = .ok (.iload_n 1, 1) := by decide +kernel
theorem dX12_minute_67 : decode cX12_minute 67 = .ok (.aload_n 0, 1) := by decide +kernel
theorem dX12_minute_68 : decode cX12_minute 68 = .ok (.getfield 366, 3) := by decide +kernel
theorem dX12_minute_71 : decode cX12_minute 71 = .ok (.if_icmp .ge 63, 3) := by decide +kernel
theorem dX12_minute_74 : decode cX12_minute 74 = .ok (.aload_n 0, 1) := by decide +kernel
theorem dX12_minute_75 : decode cX12_minute 75 = .ok (.getfield 128, 3) := by decide +kernel
theorem dX12_minute_78 : decode cX12_minute 78 = .ok (.iload_n 1, 1) := by decide +kernel
theorem dX12_minute_79 : decode cX12_minute 79 = .ok (.iaload, 1) := by decide +kernel
theorem dX12_minute_80 : decode cX12_minute 80 = .ok (.iconst 2, 1) := by decide +kernel
theorem dX12_minute_81 : decode cX12_minute 81 = .ok (.if_icmp .ne 47, 3) := by decide +kernel
theorem dX12_minute_84 : decode cX12_minute 84 = .ok (.aload_n 0, 1) := by decide +kernel
theorem dX12_minute_85 : decode cX12_minute 85 = .ok (.aload_n 0, 1) := by decide +kernel
theorem dX12_minute_86 : decode cX12_minute 86 = .ok (.getfield 140, 3) := by decide +kernel
theorem dX12_minute_89 : decode cX12_minute 89 = .ok (.iload_n 1, 1) := by decide +kernel
theorem dX12_minute_90 : decode cX12_minute 90 = .ok (.iaload, 1) := by decide +kernel
theorem dX12_minute_91 : decode cX12_minute 91 = .ok (.invokevirtual 351, 3) := by decide +kernel
theorem dX12_minute_94 : decode cX12_minute 94 = .ok (.ifCond .le 6, 3) := by decide +kernel
theorem dX12_minute_97 : decode cX12_minute 97 = .ok (.goto 31, 3) := by decide +kernel
theorem dX12_minute_100 : decode cX12_minute 100 = .ok (.aload_n 0, 1) := by decide +kernel
theorem dX12_minute_101 : decode cX12_minute 101 = .ok (.aload_n 0, 1) := by decide +kernel
theorem dX12_minute_102 : decode cX12_minute 102 = .ok (.getfield 32, 3) := by decide +kernel
theorem dX12_minute_105 : decode cX12_minute 105 = .ok (.aload_n 0, 1) := by decide +kernel
theorem dX12_minute_106 : decode cX12_minute 106 = .ok (.getfield 140, 3) := by decide +kernel
theorem dX12_minute_109 : decode cX12_minute 109 = .ok (.iload_n 1, 1) := by decide +kernel
theorem dX12_minute_110 : decode cX12_minute 110 = .ok (.iaload, 1) := by decide +kernel
theorem dX12_minute_111 : decode cX12_minute 111 = .ok (.iaload, 1) := by decide +kernel
theorem dX12_minute_112 : decode cX12_minute 112 = .ok (.invokevirtual 558, 3) := by decide +kernel
theorem dX12_minute_115 : decode cX12_minute 115 = .ok (.istore_n 2, 1) := by decide +kernel
theorem dX12_minute_116 : decode cX12_minute 116 = .ok (.iload_n 2, 1) := by decide +kernel
theorem dX12_minute_117 : decode cX12_minute 117 = .ok (.iconst (-1), 1) := by decide +kernel
theorem dX12_minute_118 : decode cX12_minute 118 = .ok (.if_icmp .eq 10, 3) := by decide +kernel
theorem dX12_minute_121 : decode cX12_minute 121 = .ok (.aload_n 0, 1) := by decide +kernel
theorem dX12_minute_122 : decode cX12_minute 122 = .ok (.getfield 140, 3) := by decide +kernel
theorem dX12_minute_125 : decode cX12_minute 125 = .ok (.iload_n 1, 1) := by decide +kernel
theorem dX12_minute_126 : decode cX12_minute 126 = .ok (.iload_n 2, 1) := by decide +kernel
theorem dX12_minute_127 : decode cX12_minute 127 = .ok (.iastore, 1) := by decide +kernel
theorem dX12_minute_128 : decode cX12_minute 128 = .ok (.iinc 1 1, 3) := by decide +kernel
theorem dX12_minute_131 : decode cX12_minute 131 = .ok (.goto (-65), 3) := by decide +kernel
theorem dX12_minute_134 : decode cX12_minute 134 = .ok (.aload_n 0, 1) := by decide +kernel
theorem dX12_minute_135 : decode cX12_minute 135 = .ok (.invokevirtual 583, 3) := by decide +kernel
theorem dX12_minute_138 : decode cX12_minute 138 = .ok (.aload_n 0, 1) := by decide +kernel
theorem dX12_minute_139 : decode cX12_minute 139 = .ok (.iconst 1, 1) := by decide +kernel
theorem dX12_minute_140 : decode cX12_minute 140 = .ok (.invokevirtual 586, 3) := by decide +kernel
theorem dX12_minute_143 : decode cX12_minute 143 = .ok (.iconst 0, 1) := by decide +kernel
theorem dX12_minute_144 : decode cX12_minute 144 = .ok (.istore_n 1, 1) := by decide +kernel
theorem dX12_minute_145 : decode cX12_minute 145 = .ok (.iload_n 1, 1) := by decide +kernel
theorem dX12_minute_146 : decode cX12_minute 146 = .ok (.sipush 288, 3) := by decide +kernel
theorem dX12_minute_149 : decode cX12_minute 149 = .ok (.if_icmp .ge 16, 3) := by decide +kernel
theorem dX12_minute_152 : decode cX12_minute 152 = .ok (.aload_n 0, 1) := by decide +kernel
theorem dX12_minute_153 : decode cX12_minute 153 = .ok (.getfield 74, 3) := by decide +kernel
theorem dX12_minute_156 : decode cX12_minute 156 = .ok (.iload_n 1, 1) := by decide +kernel
theorem dX12_minute_157 : decode cX12_minute 157 = .ok (.iconst 0, 1) := by decide +kernel
theorem dX12_minute_158 : decode cX12_minute 158 = .ok (.iastore, 1) := by decide +kernel
theorem dX12_minute_159 : decode cX12_minute 159 = .ok (.iinc 1 1, 3) := by decide +kernel
theorem dX12_minute_162 : decode cX12_minute 162 = .ok (.goto (-17), 3) := by decide +kernel
theorem dX12_minute_165 : decode cX12_minute 165 = .ok (.iconst 0, 1) := by decide +kernel
theorem dX12_minute_166 : decode cX12_minute 166 = .ok (.istore_n 1, 1) := by decide +kernel
theorem dX12_minute_167 : decode cX12_minute 167 = .ok (.iload_n 1, 1) := by decide +kernel
theorem dX12_minute_168 : decode cX12_minute 168 = .ok (.aload_n 0, 1) := by decide +kernel
theorem dX12_minute_169 : decode cX12_minute 169 = .ok (.getfield 525, 3) := by decide +kernel
theorem dX12_minute_172 : decode cX12_minute 172 = .ok (.if_icmp .ge 97, 3) := by decide +kernel
theorem dX12_minute_175 : decode cX12_minute 175 = .ok (.aload_n 0, 1) := by decide +kernel
theorem dX12_minute_176 : decode cX12_minute 176 = .ok (.getfield 220, 3) := by decide +kernel
theorem dX12_minute_179 : decode cX12_minute 179 = .ok (.iload_n 1, 1) := by decide +kernel
theorem dX12_minute_180 : decode cX12_minute 180 = .ok (.iaload, 1) := by decide +kernel
theorem dX12_minute_181 : decode cX12_minute 181 = .ok (.ifCond .ne 82, 3) := by decide +kernel
theorem dX12_minute_184 : decode cX12_minute 184 = .ok (.aload_n 0, 1) := by decide +kernel
theorem dX12_minute_185 : decode cX12_minute 185 = .ok (.aload_n 0, 1) := by decide +kernel
theorem dX12_minute_186 : decode cX12_minute 186 = .ok (.getfield 214, 3) := by decide +kernel
theorem dX12_minute_189 : decode cX12_minute 189 = .ok (.iload_n 1, 1) := by decide +kernel
theorem dX12_minute_190 : decode cX12_minute 190 = .ok (.iaload, 1) := by decide +kernel
theorem dX12_minute_191 : decode cX12_minute 191 = .ok (.invokevirtual 531, 3) := by decide +kernel
theorem dX12_minute_194 : decode cX12_minute 194 = .ok (.ifCond .eq 6, 3) := by decide +kernel
theorem dX12_minute_197 : decode cX12_minute 197 = .ok (.goto 66, 3) := by decide +kernel
theorem dX12_minute_200 : decode cX12_minute 200 = .ok (.iconst 0, 1) := by decide +kernel
theorem dX12_minute_201 : decode cX12_minute 201 = .ok (.istore_n 2, 1) := by decide +kernel
theorem dX12_minute_202 : decode cX12_minute 202 = .ok (.iconst 0, 1) := by decide +kernel
theorem dX12_minute_203 : decode cX12_minute 203 = .ok (.istore_n 3, 1) := by decide +kernel
theorem dX12_minute_204 : decode cX12_minute 204 = .ok (.iload_n 3, 1) := by decide +kernel
theorem dX12_minute_205 : decode cX12_minute 205 = .ok (.aload_n 0, 1) := by decide +kernel
theorem dX12_minute_206 : decode cX12_minute 206 = .ok (.getfield 366, 3) := by decide +kernel
theorem dX12_minute_209 : decode cX12_minute 209 = .ok (.if_icmp .ge 44, 3) := by decide +kernel
theorem dX12_minute_212 : decode cX12_minute 212 = .ok (.iload_n 2, 1) := by decide +kernel
theorem dX12_minute_213 : decode cX12_minute 213 = .ok (.ifCond .ne 28, 3) := by decide +kernel
theorem dX12_minute_216 : decode cX12_minute 216 = .ok (.aload_n 0, 1) := by decide +kernel
theorem dX12_minute_217 : decode cX12_minute 217 = .ok (.getfield 128, 3) := by decide +kernel
theorem dX12_minute_220 : decode cX12_minute 220 = .ok (.iload_n 3, 1) := by decide +kernel
theorem dX12_minute_221 : decode cX12_minute 221 = .ok (.iaload, 1) := by decide +kernel
theorem dX12_minute_222 : decode cX12_minute 222 = .ok (.iconst 2, 1) := by decide +kernel
theorem dX12_minute_223 : decode cX12_minute 223 = .ok (.if_icmp .ne 22, 3) := by decide +kernel
theorem dX12_minute_226 : decode cX12_minute 226 = .ok (.aload_n 0, 1) := by decide +kernel
theorem dX12_minute_227 : decode cX12_minute 227 = .ok (.getfield 131, 3) := by decide +kernel
theorem dX12_minute_230 : decode cX12_minute 230 = .ok (.iload_n 3, 1) := by decide +kernel
theorem dX12_minute_231 : decode cX12_minute 231 = .ok (.iaload, 1) := by decide +kernel
theorem dX12_minute_232 : decode cX12_minute 232 = .ok (.aload_n 0, 1) := by decide +kernel
theorem dX12_minute_233 : decode cX12_minute 233 = .ok (.getfield 214, 3) := by decide +kernel
theorem dX12_minute_236 : decode cX12_minute 236 = .ok (.iload_n 1, 1) := by decide +kernel
theorem dX12_minute_237 : decode cX12_minute 237 = .ok (.iaload, 1) := by decide +kernel
theorem dX12_minute_238 : decode cX12_minute 238 = .ok (.if_icmp .ne 7, 3) := by decide +kernel
theorem dX12_minute_241 : decode cX12_minute 241 = .ok (.iconst 1, 1) := by decide +kernel
theorem dX12_minute_242 : decode cX12_minute 242 = .ok (.goto 4, 3) := by decide +kernel
theorem dX12_minute_245 : decode cX12_minute 245 = .ok (.iconst 0, 1) := by decide +kernel
theorem dX12_minute_246 : decode cX12_minute 246 = .ok (.istore_n 2, 1) := by decide +kernel
theorem dX12_minute_247 : decode cX12_minute 247 = .ok (.iinc 3 1, 3) := by decide +kernel
theorem dX12_minute_250 : decode cX12_minute 250 = .ok (.goto (-46), 3) := by decide +kernel
theorem dX12_minute_253 : decode cX12_minute 253 = .ok (.iload_n 2, 1) := by decide +kernel
theorem dX12_minute_254 : decode cX12_minute 254 = .ok (.ifCond .eq 9, 3) := by decide +kernel
theorem dX12_minute_257 : decode cX12_minute 257 = .ok (.aload_n 0, 1) := by decide +kernel
theorem dX12_minute_258 : decode cX12_minute 258 = .ok (.iload_n 1, 1) := by decide +kernel
theorem dX12_minute_259 : decode cX12_minute 259 = .ok (.iconst 0, 1) := by decide +kernel
theorem dX12_minute_260 : decode cX12_minute 260 = .ok (.invokevirtual 561, 3) := by decide +kernel
theorem dX12_minute_263 : decode cX12_minute 263 = .ok (.iinc 1 1, 3) := by decide +kernel
theorem dX12_minute_266 : decode cX12_minute 266 = .ok (.goto (-99), 3) := by decide +kernel
theorem dX12_minute_269 : decode cX12_minute 269 = .ok (.iconst 0, 1) := by decide +kernel
theorem dX12_minute_270 : decode cX12_minute 270 = .ok (.istore_n 1, 1) := by decide +kernel
theorem dX12_minute_271 : decode cX12_minute 271 = .ok (.iload_n 1, 1) := by decide +kernel
theorem dX12_minute_272 : decode cX12_minute 272 = .ok (.aload_n 0, 1) := by decide +kernel
theorem dX12_minute_273 : decode cX12_minute 273 = .ok (.getfield 366, 3) := by decide +kernel
theorem dX12_minute_276 : decode cX12_minute 276 = .ok (.if_icmp .ge 43, 3) := by decide +kernel
theorem dX12_minute_279 : decode cX12_minute 279 = .ok (.aload_n 0, 1) := by decide +kernel
theorem dX12_minute_280 : decode cX12_minute 280 = .ok (.getfield 128, 3) := by decide +kernel
theorem dX12_minute_283 : decode cX12_minute 283 = .ok (.iload_n 1, 1) := by decide +kernel
theorem dX12_minute_284 : decode cX12_minute 284 = .ok (.iaload, 1) := by decide +kernel
theorem dX12_minute_285 : decode cX12_minute 285 = .ok (.iconst 2, 1) := by decide +kernel
theorem dX12_minute_286 : decode cX12_minute 286 = .ok (.if_icmp .ne 27, 3) := by decide +kernel
theorem dX12_minute_289 : decode cX12_minute 289 = .ok (.aload_n 0, 1) := by decide +kernel
theorem dX12_minute_290 : decode cX12_minute 290 = .ok (.aload_n 0, 1) := by decide +kernel
theorem dX12_minute_291 : decode cX12_minute 291 = .ok (.getfield 131, 3) := by decide +kernel
theorem dX12_minute_294 : decode cX12_minute 294 = .ok (.iload_n 1, 1) := by decide +kernel
theorem dX12_minute_295 : decode cX12_minute 295 = .ok (.iaload, 1) := by decide +kernel
theorem dX12_minute_296 : decode cX12_minute 296 = .ok (.invokevirtual 531, 3) := by decide +kernel
theorem dX12_minute_299 : decode cX12_minute 299 = .ok (.ifCond .ne 14, 3) := by decide +kernel
theorem dX12_minute_302 : decode cX12_minute 302 = .ok (.aload_n 0, 1) := by decide +kernel
theorem dX12_minute_303 : decode cX12_minute 303 = .ok (.iload_n 1, 1) := by decide +kernel
theorem dX12_minute_304 : decode cX12_minute 304 = .ok (.aload_n 0, 1) := by decide +kernel
theorem dX12_minute_305 : decode cX12_minute 305 = .ok (.getfield 131, 3) := by decide +kernel
theorem dX12_minute_308 : decode cX12_minute 308 = .ok (.iload_n 1, 1) := by decide +kernel
theorem dX12_minute_309 : decode cX12_minute 309 = .ok (.iaload, 1) := by decide +kernel
theorem dX12_minute_310 : decode cX12_minute 310 = .ok (.invokevirtual 405, 3) := by decide +kernel
theorem dX12_minute_313 : decode cX12_minute 313 = .ok (.iinc 1 1, 3) := by decide +kernel
theorem dX12_minute_316 : decode cX12_minute 316 = .ok (.goto (-45), 3) := by decide +kernel
theorem dX12_minute_319 : decode cX12_minute 319 = .ok (.iconst 0, 1) := by decide +kernel
theorem dX12_minute_320 : decode cX12_minute 320 = .ok (.istore_n 1, 1) := by decide +kernel
theorem dX12_minute_321 : decode cX12_minute 321 = .ok (.iload_n 1, 1) := by decide +kernel
theorem dX12_minute_322 : decode cX12_minute 322 = .ok (.aload_n 0, 1) := by decide +kernel
theorem dX12_minute_323 : decode cX12_minute 323 = .ok (.getfield 366, 3) := by decide +kernel
theorem dX12_minute_326 : decode cX12_minute 326 = .ok (.if_icmp .ge 76, 3) := by decide +kernel
theorem dX12_minute_329 : decode cX12_minute 329 = .ok (.aload_n 0, 1) := by decide +kernel
theorem dX12_minute_330 : decode cX12_minute 330 = .ok (.getfield 128, 3) := by decide +kernel
theorem dX12_minute_333 : decode cX12_minute 333 = .ok (.iload_n 1, 1) := by decide +kernel
theorem dX12_minute_334 : decode cX12_minute 334 = .ok (.iaload, 1) := by decide +kernel
theorem dX12_minute_335 : decode cX12_minute 335 = .ok (.ifCond .ne 7, 3) := by decide +kernel
theorem dX12_minute_338 : decode cX12_minute 338 = .ok (.iconst (-1), 1) := by decide +kernel
theorem dX12_minute_339 : decode cX12_minute 339 = .ok (.goto 18, 3) := by decide +kernel
theorem dX12_minute_342 : decode cX12_minute 342 = .ok (.aload_n 0, 1) := by decide +kernel
theorem dX12_minute_343 : decode cX12_minute 343 = .ok (.getfield 128, 3) := by decide +kernel
theorem dX12_minute_346 : decode cX12_minute 346 = .ok (.iload_n 1, 1) := by decide +kernel
theorem dX12_minute_347 : decode cX12_minute 347 = .ok (.iaload, 1) := by decide +kernel
theorem dX12_minute_348 : decode cX12_minute 348 = .ok (.iconst 2, 1) := by decide +kernel
theorem dX12_minute_349 : decode cX12_minute 349 = .ok (.if_icmp .ne 7, 3) := by decide +kernel
theorem dX12_minute_352 : decode cX12_minute 352 = .ok (.iconst 2, 1) := by decide +kernel
theorem dX12_minute_353 : decode cX12_minute 353 = .ok (.goto 4, 3) := by decide +kernel
theorem dX12_minute_356 : decode cX12_minute 356 = .ok (.iconst 1, 1) := by decide +kernel
theorem dX12_minute_357 : decode cX12_minute 357 = .ok (.istore_n 2, 1) := by decide +kernel
theorem dX12_minute_358 : decode cX12_minute 358 = .ok (.aload_n 0, 1) := by decide +kernel
theorem dX12_minute_359 : decode cX12_minute 359 = .ok (.getfield 146, 3) := by decide +kernel
theorem dX12_minute_362 : decode cX12_minute 362 = .ok (.iload_n 1, 1) := by decide +kernel
theorem dX12_minute_363 : decode cX12_minute 363 = .ok (.aload_n 0, 1) := by decide +kernel
theorem dX12_minute_364 : decode cX12_minute 364 = .ok (.getfield 128, 3) := by decide +kernel
theorem dX12_minute_367 : decode cX12_minute 367 = .ok (.iload_n 1, 1) := by decide +kernel
theorem dX12_minute_368 : decode cX12_minute 368 = .ok (.iaload, 1) := by decide +kernel
theorem dX12_minute_369 : decode cX12_minute 369 = .ok (.iconst 4, 1) := by decide +kernel
theorem dX12_minute_370 : decode cX12_minute 370 = .ok (.if_icmp .ne 7, 3) := by decide +kernel
theorem dX12_minute_373 : decode cX12_minute 373 = .ok (.iconst 0, 1) := by decide +kernel
theorem dX12_minute_374 : decode cX12_minute 374 = .ok (.goto 21, 3) := by decide +kernel
theorem dX12_minute_377 : decode cX12_minute 377 = .ok (.iconst 0, 1) := by decide +kernel
theorem dX12_minute_378 : decode cX12_minute 378 = .ok (.sipush 300, 3) := by decide +kernel
theorem dX12_minute_381 : decode cX12_minute 381 = .ok (.aload_n 0, 1) := by decide +kernel
theorem dX12_minute_382 : decode cX12_minute 382 = .ok (.getfield 146, 3) := by decide +kernel
theorem dX12_minute_385 : decode cX12_minute 385 = .ok (.iload_n 1, 1) := by decide +kernel
theorem dX12_minute_386 : decode cX12_minute 386 = .ok (.iaload, 1) := by decide +kernel
theorem dX12_minute_387 : decode cX12_minute 387 = .ok (.iload_n 2, 1) := by decide +kernel
theorem dX12_minute_388 : decode cX12_minute 388 = .ok (.iadd, 1) := by decide +kernel
theorem dX12_minute_389 : decode cX12_minute 389 = .ok (.invokestatic 311, 3) := by decide +kernel
theorem dX12_minute_392 : decode cX12_minute 392 = .ok (.invokestatic 357, 3) := by decide +kernel
theorem dX12_minute_395 : decode cX12_minute 395 = .ok (.iastore, 1) := by decide +kernel
theorem dX12_minute_396 : decode cX12_minute 396 = .ok (.iinc 1 1, 3) := by decide +kernel
theorem dX12_minute_399 : decode cX12_minute 399 = .ok (.goto (-78), 3) := by decide +kernel
theorem dX12_minute_402 : decode cX12_minute 402 = .ok (.iconst 0, 1) := by decide +kernel
theorem dX12_minute_403 : decode cX12_minute 403 = .ok (.istore_n 1, 1) := by decide +kernel
theorem dX12_minute_404 : decode cX12_minute 404 = .ok (.iload_n 1, 1) := by decide +kernel
theorem dX12_minute_405 : decode cX12_minute 405 = .ok (.aload_n 0, 1) := by decide +kernel
theorem dX12_minute_406 : decode cX12_minute 406 = .ok (.getfield 525, 3) := by decide +kernel
theorem dX12_minute_409 : decode cX12_minute 409 = .ok (.if_icmp .ge 38, 3) := by decide +kernel
theorem dX12_minute_412 : decode cX12_minute 412 = .ok (.aload_n 0, 1) := by decide +kernel
theorem dX12_minute_413 : decode cX12_minute 413 = .ok (.getfield 220, 3) := by decide +kernel
theorem dX12_minute_416 : decode cX12_minute 416 = .ok (.iload_n 1, 1) := by decide +kernel
theorem dX12_minute_417 : decode cX12_minute 417 = .ok (.iaload, 1) := by decide +kernel
theorem dX12_minute_418 : decode cX12_minute 418 = .ok (.ifCond .ne 23, 3) := by decide +kernel
theorem dX12_minute_421 : decode cX12_minute 421 = .ok (.aload_n 0, 1) := by decide +kernel
theorem dX12_minute_422 : decode cX12_minute 422 = .ok (.aload_n 0, 1) := by decide +kernel
theorem dX12_minute_423 : decode cX12_minute 423 = .ok (.getfield 214, 3) := by decide +kernel
theorem dX12_minute_426 : decode cX12_minute 426 = .ok (.iload_n 1, 1) := by decide +kernel
theorem dX12_minute_427 : decode cX12_minute 427 = .ok (.iaload, 1) := by decide +kernel
theorem dX12_minute_428 : decode cX12_minute 428 = .ok (.invokevirtual 531, 3) := by decide +kernel
theorem dX12_minute_431 : decode cX12_minute 431 = .ok (.ifCond .eq 10, 3) := by decide +kernel
theorem dX12_minute_434 : decode cX12_minute 434 = .ok (.aload_n 0, 1) := by decide +kernel
theorem dX12_minute_435 : decode cX12_minute 435 = .ok (.getfield 238, 3) := by decide +kernel
theorem dX12_minute_438 : decode cX12_minute 438 = .ok (.iload_n 1, 1) := by decide +kernel
theorem dX12_minute_439 : decode cX12_minute 439 = .ok (.iconst 1, 1) := by decide +kernel
theorem dX12_minute_440 : decode cX12_minute 440 = .ok (.bastore, 1) := by decide +kernel
theorem dX12_minute_441 : decode cX12_minute 441 = .ok (.iinc 1 1, 3) := by decide +kernel
theorem dX12_minute_444 : decode cX12_minute 444 = .ok (.goto (-40), 3) := by decide +kernel
theorem dX12_minute_447 : decode cX12_minute 447 = .ok (.return_, 1) := by decide +kernel
theorem okX12_minute : ab_okM MX12_minute 0 := ⟨by decide, ⟨by decide, by decide⟩, ab_in 2546 (by decide +kernel) (by decide +kernel), ab_in 99 (by decide +kernel) (by decide +kernel), by decide +kernel, by decide⟩
set_option maxHeartbeats 4000000 in
set_option maxRecDepth 100000 in
def lX12_minute_404  (K : ab_X → Prop)  (L404 : Int32 → ab_X → Prop) (v1 : Int32) (x : ab_X) : Prop := (((x.1 246 92) ≤ v1 → K x) ∧ (¬ (x.1 246 92) ≤ v1 → (vp_in v1 60 ∧ ((¬ (x.1 312 (Int32.toNatClampNeg v1)) = 0 → L404 (v1 + 1) x) ∧ ((x.1 312 (Int32.toNatClampNeg v1)) = 0 → (vp_in v1 60 ∧ wX12_burnsAt (x.1 310 (Int32.toNatClampNeg v1)) x (fun r25 => ((r25 = 0 → L404 (v1 + 1) x) ∧ (¬ r25 = 0 → (vp_in v1 60 ∧ L404 (v1 + 1) (wr x 318 (Int32.toNatClampNeg v1) 1)))))))))))
set_option maxHeartbeats 4000000 in
set_option maxRecDepth 100000 in
theorem sX12_minute_404 (v1 : Int32)  (x : ab_X) (K : ab_X → Prop)  (d bc bs : Nat) (hdp : 212 ≤ d)  (h : Lp2 (lX12_minute_404  K ) v1 x) : EW MX12_minute 404 [(0, .ref 246), (1, .int v1)] [] (aS x) d bc bs (liV K) := by
  refine Lp2.use (P := fun v1 x => EW MX12_minute 404 [(0, .ref 246), (1, .int v1)] [] (aS x) d bc bs (liV K)) (fun L404 v1 x hL404 h => ?_) v1 x h
  unfold lX12_minute_404 at h
  refine EW_iload_n (pc2 := 405) rfl dX12_minute_404 1 rfl ?_
  refine EW_aload_n (pc2 := 406) rfl dX12_minute_405 0 rfl ?_
  refine AW_geti ⟨gfRX12_525, rfl⟩ (pc2 := 409) rfl dX12_minute_406 q246 ?_
  refine EW_icmp_ge (tgt := 447) (pc2 := 412) rfl dX12_minute_409 (by decide) (fun q => ?_) (fun q => ?_)
  · replace h := h.1 q
    exact EW_vret rfl dX12_minute_447 ⟨_, rfl, rfl, h⟩
  · replace h := h.2 q
    refine EW_aload_n (pc2 := 413) rfl dX12_minute_412 0 rfl ?_
    refine AW_getr (r := 312) ⟨gfRX12_220, rfl⟩ (pc2 := 416) rfl dX12_minute_413 q246 rfl ?_
    refine EW_iload_n (pc2 := 417) rfl dX12_minute_416 1 rfl ?_
    obtain ⟨b23, h⟩ := h
    refine AW_iald (pc2 := 418) rfl dX12_minute_417 q312 b23 ?_
    refine EW_if_ne (tgt := 441) (pc2 := 421) rfl dX12_minute_418 (by decide) (fun q => ?_) (fun q => ?_)
    · replace h := h.1 q
      refine EW_iinc (v1 + 1) (pc2 := 444) rfl dX12_minute_441 1 rfl rfl (by decide) [1, 0] [(0, .ref 246), (1, .int (v1 + 1))] rfl ?_
      refine EW_goto (tgt := 404) dX12_minute_444 (by decide) ?_
      exact hL404 (v1 + 1) x h
    · replace h := h.2 q
      refine EW_aload_n (pc2 := 422) rfl dX12_minute_421 0 rfl ?_
      refine EW_aload_n (pc2 := 423) rfl dX12_minute_422 0 rfl ?_
      refine AW_getr (r := 310) ⟨gfRX12_214, rfl⟩ (pc2 := 426) rfl dX12_minute_423 q246 rfl ?_
      refine EW_iload_n (pc2 := 427) rfl dX12_minute_426 1 rfl ?_
      obtain ⟨b24, h⟩ := h
      refine AW_iald (pc2 := 428) rfl dX12_minute_427 q310 b24 ?_
      refine AW_invV (M' := MX12_burnsAt) [.int (x.1 310 (Int32.toNatClampNeg v1))] (rest := []) mlRX12_531 okX12_burnsAt (pc2 := 431) rfl dX12_minute_428 rfl rfl (Nat.le_of_ble_eq_true rfl) (Nat.le_of_ble_eq_true rfl) (d' := 3) (by omega) q246 ⟨by decide, rfl⟩ (EW_mono (fun _ _ hr => ?_) (sX12_burnsAt (x.1 310 (Int32.toNatClampNeg v1))  x _ _ 0 0 (Nat.le_refl _) h))
      obtain ⟨r25, rfl, rfl, h⟩ := hr
      refine EW_if_eq (tgt := 441) (pc2 := 434) rfl dX12_minute_431 (by decide) (fun q => ?_) (fun q => ?_)
      · replace h := h.1 q
        refine EW_iinc (v1 + 1) (pc2 := 444) rfl dX12_minute_441 1 rfl rfl (by decide) [1, 0] [(0, .ref 246), (1, .int (v1 + 1))] rfl ?_
        refine EW_goto (tgt := 404) dX12_minute_444 (by decide) ?_
        exact hL404 (v1 + 1) x h
      · replace h := h.2 q
        refine EW_aload_n (pc2 := 435) rfl dX12_minute_434 0 rfl ?_
        refine AW_getr (r := 318) ⟨gfRX12_238, rfl⟩ (pc2 := 438) rfl dX12_minute_435 q246 rfl ?_
        refine EW_iload_n (pc2 := 439) rfl dX12_minute_438 1 rfl ?_
        refine EW_iconst (pc2 := 440) (v := 1) rfl dX12_minute_439 (by decide) ?_
        obtain ⟨b26, h⟩ := h
        refine AW_zast (pc2 := 441) rfl dX12_minute_440 q318 b26 isB1 ?_
        refine EW_iinc (v1 + 1) (pc2 := 444) rfl dX12_minute_441 1 rfl rfl (by decide) [1, 0] [(0, .ref 246), (1, .int (v1 + 1))] rfl ?_
        refine EW_goto (tgt := 404) dX12_minute_444 (by decide) ?_
        exact hL404 (v1 + 1) (wr x 318 (Int32.toNatClampNeg v1) 1) h
set_option maxHeartbeats 4000000 in
set_option maxRecDepth 100000 in
def wX12_minute_357 (v1 : Int32) (s0 : Int32) (x : ab_X) (K : ab_X → Prop) (L321 : Int32 → ab_X → Prop) : Prop := (vp_in v1 16 ∧ ((¬ (x.1 286 (Int32.toNatClampNeg v1)) = 4 → (vp_in v1 16 ∧ vp_in v1 16 ∧ L321 (v1 + 1) (wr x 292 (Int32.toNatClampNeg v1) (imax 0 (imin 300 ((x.1 292 (Int32.toNatClampNeg v1)) + s0)))))) ∧ ((x.1 286 (Int32.toNatClampNeg v1)) = 4 → (vp_in v1 16 ∧ L321 (v1 + 1) (wr x 292 (Int32.toNatClampNeg v1) 0)))))
set_option maxHeartbeats 4000000 in
set_option maxRecDepth 100000 in
theorem sX12_minute_357 (v1 : Int32) (s0 : Int32)  (x : ab_X) (K : ab_X → Prop) (L321 : Int32 → ab_X → Prop) (d bc bs : Nat) (hdp : 212 ≤ d) (hL321 : ∀ (v1 : Int32) (x : ab_X), L321 v1 x → EW MX12_minute 321 [(0, .ref 246), (1, .int v1)] [] (aS x) d bc bs (liV K)) (h : wX12_minute_357 v1 s0 x K L321) : EW MX12_minute 357 [(0, .ref 246), (1, .int v1)] [.int s0] (aS x) d bc bs (liV K) := by
  unfold wX12_minute_357 at h
  refine EW_istore_n (pc2 := 358) rfl dX12_minute_357 (by decide) [1, 2, 0] [(0, .ref 246), (1, .int v1), (2, .int s0)] rfl ?_
  refine EW_aload_n (pc2 := 359) rfl dX12_minute_358 0 rfl ?_
  refine AW_getr (r := 292) ⟨gfRX12_146, rfl⟩ (pc2 := 362) rfl dX12_minute_359 q246 rfl ?_
  refine EW_iload_n (pc2 := 363) rfl dX12_minute_362 1 rfl ?_
  refine EW_aload_n (pc2 := 364) rfl dX12_minute_363 0 rfl ?_
  refine AW_getr (r := 286) ⟨gfRX12_128, rfl⟩ (pc2 := 367) rfl dX12_minute_364 q246 rfl ?_
  refine EW_iload_n (pc2 := 368) rfl dX12_minute_367 1 rfl ?_
  obtain ⟨b27, h⟩ := h
  refine AW_iald (pc2 := 369) rfl dX12_minute_368 q286 b27 ?_
  refine EW_iconst (pc2 := 370) (v := 4) rfl dX12_minute_369 (by decide) ?_
  refine EW_icmp_ne (tgt := 377) (pc2 := 373) rfl dX12_minute_370 (by decide) (fun q => ?_) (fun q => ?_)
  · replace h := h.1 q
    refine EW_iconst (pc2 := 378) (v := 0) rfl dX12_minute_377 (by decide) ?_
    refine EW_sipush (pc2 := 381) (v := 300) rfl dX12_minute_378 (by decide) ?_
    refine EW_aload_n (pc2 := 382) rfl dX12_minute_381 0 rfl ?_
    refine AW_getr (r := 292) ⟨gfRX12_146, rfl⟩ (pc2 := 385) rfl dX12_minute_382 q246 rfl ?_
    refine EW_iload_n (pc2 := 386) rfl dX12_minute_385 1 rfl ?_
    obtain ⟨b28, h⟩ := h
    refine AW_iald (pc2 := 387) rfl dX12_minute_386 q292 b28 ?_
    refine EW_iload_n (pc2 := 388) rfl dX12_minute_387 2 rfl ?_
    refine EW_iadd (pc2 := 389) rfl dX12_minute_388 ?_
    refine AW_mmin mmRX12_311 (pc2 := 392) rfl dX12_minute_389 (Nat.le_of_ble_eq_true rfl) (by omega) ?_
    refine AW_mmax mmRX12_357 (pc2 := 395) rfl dX12_minute_392 (Nat.le_of_ble_eq_true rfl) (by omega) ?_
    obtain ⟨b29, h⟩ := h
    refine AW_iast (pc2 := 396) rfl dX12_minute_395 q292 b29 ?_
    refine EW_iinc (v1 + 1) (pc2 := 399) rfl dX12_minute_396 1 rfl rfl (by decide) [1, 0, 2] [(0, .ref 246), (1, .int (v1 + 1)), (2, .int s0)] rfl ?_
    refine EW_goto (tgt := 321) dX12_minute_399 (by decide) ?_
    refine EW_ls [0, 1] rfl ?_
    exact hL321 (v1 + 1) (wr x 292 (Int32.toNatClampNeg v1) (imax 0 (imin 300 ((x.1 292 (Int32.toNatClampNeg v1)) + s0)))) h
  · replace h := h.2 q
    refine EW_iconst (pc2 := 374) (v := 0) rfl dX12_minute_373 (by decide) ?_
    refine EW_goto (tgt := 395) dX12_minute_374 (by decide) ?_
    obtain ⟨b30, h⟩ := h
    refine AW_iast (pc2 := 396) rfl dX12_minute_395 q292 b30 ?_
    refine EW_iinc (v1 + 1) (pc2 := 399) rfl dX12_minute_396 1 rfl rfl (by decide) [1, 0, 2] [(0, .ref 246), (1, .int (v1 + 1)), (2, .int s0)] rfl ?_
    refine EW_goto (tgt := 321) dX12_minute_399 (by decide) ?_
    refine EW_ls [0, 1] rfl ?_
    exact hL321 (v1 + 1) (wr x 292 (Int32.toNatClampNeg v1) 0) h
set_option maxHeartbeats 4000000 in
set_option maxRecDepth 100000 in
def lX12_minute_321  (K : ab_X → Prop)  (L321 : Int32 → ab_X → Prop) (v1 : Int32) (x : ab_X) : Prop := (((x.1 246 58) ≤ v1 → Lp2 (lX12_minute_404 K ) 0 x) ∧ (¬ (x.1 246 58) ≤ v1 → (vp_in v1 16 ∧ ((¬ (x.1 286 (Int32.toNatClampNeg v1)) = 0 → (vp_in v1 16 ∧ ((¬ (x.1 286 (Int32.toNatClampNeg v1)) = 2 → wX12_minute_357 v1 1 x K L321) ∧ ((x.1 286 (Int32.toNatClampNeg v1)) = 2 → wX12_minute_357 v1 2 x K L321)))) ∧ ((x.1 286 (Int32.toNatClampNeg v1)) = 0 → wX12_minute_357 v1 (-1) x K L321)))))
set_option maxHeartbeats 4000000 in
set_option maxRecDepth 100000 in
theorem sX12_minute_321 (v1 : Int32)  (x : ab_X) (K : ab_X → Prop)  (d bc bs : Nat) (hdp : 212 ≤ d)  (h : Lp2 (lX12_minute_321  K ) v1 x) : EW MX12_minute 321 [(0, .ref 246), (1, .int v1)] [] (aS x) d bc bs (liV K) := by
  refine Lp2.use (P := fun v1 x => EW MX12_minute 321 [(0, .ref 246), (1, .int v1)] [] (aS x) d bc bs (liV K)) (fun L321 v1 x hL321 h => ?_) v1 x h
  unfold lX12_minute_321 at h
  refine EW_iload_n (pc2 := 322) rfl dX12_minute_321 1 rfl ?_
  refine EW_aload_n (pc2 := 323) rfl dX12_minute_322 0 rfl ?_
  refine AW_geti ⟨gfRX12_366, rfl⟩ (pc2 := 326) rfl dX12_minute_323 q246 ?_
  refine EW_icmp_ge (tgt := 402) (pc2 := 329) rfl dX12_minute_326 (by decide) (fun q => ?_) (fun q => ?_)
  · replace h := h.1 q
    refine EW_iconst (pc2 := 403) (v := 0) rfl dX12_minute_402 (by decide) ?_
    refine EW_istore_n (pc2 := 404) rfl dX12_minute_403 (by decide) [1, 0] [(0, .ref 246), (1, .int 0)] rfl ?_
    exact sX12_minute_404 0 x K d bc bs hdp h
  · replace h := h.2 q
    refine EW_aload_n (pc2 := 330) rfl dX12_minute_329 0 rfl ?_
    refine AW_getr (r := 286) ⟨gfRX12_128, rfl⟩ (pc2 := 333) rfl dX12_minute_330 q246 rfl ?_
    refine EW_iload_n (pc2 := 334) rfl dX12_minute_333 1 rfl ?_
    obtain ⟨b21, h⟩ := h
    refine AW_iald (pc2 := 335) rfl dX12_minute_334 q286 b21 ?_
    refine EW_if_ne (tgt := 342) (pc2 := 338) rfl dX12_minute_335 (by decide) (fun q => ?_) (fun q => ?_)
    · replace h := h.1 q
      refine EW_aload_n (pc2 := 343) rfl dX12_minute_342 0 rfl ?_
      refine AW_getr (r := 286) ⟨gfRX12_128, rfl⟩ (pc2 := 346) rfl dX12_minute_343 q246 rfl ?_
      refine EW_iload_n (pc2 := 347) rfl dX12_minute_346 1 rfl ?_
      obtain ⟨b22, h⟩ := h
      refine AW_iald (pc2 := 348) rfl dX12_minute_347 q286 b22 ?_
      refine EW_iconst (pc2 := 349) (v := 2) rfl dX12_minute_348 (by decide) ?_
      refine EW_icmp_ne (tgt := 356) (pc2 := 352) rfl dX12_minute_349 (by decide) (fun q => ?_) (fun q => ?_)
      · replace h := h.1 q
        refine EW_iconst (pc2 := 357) (v := 1) rfl dX12_minute_356 (by decide) ?_
        exact sX12_minute_357 v1 1 x K L321 d bc bs hdp hL321 h
      · replace h := h.2 q
        refine EW_iconst (pc2 := 353) (v := 2) rfl dX12_minute_352 (by decide) ?_
        refine EW_goto (tgt := 357) dX12_minute_353 (by decide) ?_
        exact sX12_minute_357 v1 2 x K L321 d bc bs hdp hL321 h
    · replace h := h.2 q
      refine EW_iconst (pc2 := 339) (v := (-1)) rfl dX12_minute_338 (by decide) ?_
      refine EW_goto (tgt := 357) dX12_minute_339 (by decide) ?_
      exact sX12_minute_357 v1 (-1) x K L321 d bc bs hdp hL321 h
set_option maxHeartbeats 4000000 in
set_option maxRecDepth 100000 in
def lX12_minute_271  (K : ab_X → Prop)  (L271 : Int32 → ab_X → Prop) (v1 : Int32) (x : ab_X) : Prop := (((x.1 246 58) ≤ v1 → Lp2 (lX12_minute_321 K ) 0 x) ∧ (¬ (x.1 246 58) ≤ v1 → (vp_in v1 16 ∧ ((¬ (x.1 286 (Int32.toNatClampNeg v1)) = 2 → L271 (v1 + 1) x) ∧ ((x.1 286 (Int32.toNatClampNeg v1)) = 2 → (vp_in v1 16 ∧ wX12_burnsAt (x.1 287 (Int32.toNatClampNeg v1)) x (fun r18 => ((¬ r18 = 0 → L271 (v1 + 1) x) ∧ (r18 = 0 → (vp_in v1 16 ∧ wX12_turns v1 (x.1 287 (Int32.toNatClampNeg v1)) x (fun x20 => L271 (v1 + 1) x20)))))))))))
set_option maxHeartbeats 4000000 in
set_option maxRecDepth 100000 in
theorem sX12_minute_271 (v1 : Int32)  (x : ab_X) (K : ab_X → Prop)  (d bc bs : Nat) (hdp : 212 ≤ d)  (h : Lp2 (lX12_minute_271  K ) v1 x) : EW MX12_minute 271 [(0, .ref 246), (1, .int v1)] [] (aS x) d bc bs (liV K) := by
  refine Lp2.use (P := fun v1 x => EW MX12_minute 271 [(0, .ref 246), (1, .int v1)] [] (aS x) d bc bs (liV K)) (fun L271 v1 x hL271 h => ?_) v1 x h
  unfold lX12_minute_271 at h
  refine EW_iload_n (pc2 := 272) rfl dX12_minute_271 1 rfl ?_
  refine EW_aload_n (pc2 := 273) rfl dX12_minute_272 0 rfl ?_
  refine AW_geti ⟨gfRX12_366, rfl⟩ (pc2 := 276) rfl dX12_minute_273 q246 ?_
  refine EW_icmp_ge (tgt := 319) (pc2 := 279) rfl dX12_minute_276 (by decide) (fun q => ?_) (fun q => ?_)
  · replace h := h.1 q
    refine EW_iconst (pc2 := 320) (v := 0) rfl dX12_minute_319 (by decide) ?_
    refine EW_istore_n (pc2 := 321) rfl dX12_minute_320 (by decide) [1, 0] [(0, .ref 246), (1, .int 0)] rfl ?_
    exact sX12_minute_321 0 x K d bc bs hdp h
  · replace h := h.2 q
    refine EW_aload_n (pc2 := 280) rfl dX12_minute_279 0 rfl ?_
    refine AW_getr (r := 286) ⟨gfRX12_128, rfl⟩ (pc2 := 283) rfl dX12_minute_280 q246 rfl ?_
    refine EW_iload_n (pc2 := 284) rfl dX12_minute_283 1 rfl ?_
    obtain ⟨b16, h⟩ := h
    refine AW_iald (pc2 := 285) rfl dX12_minute_284 q286 b16 ?_
    refine EW_iconst (pc2 := 286) (v := 2) rfl dX12_minute_285 (by decide) ?_
    refine EW_icmp_ne (tgt := 313) (pc2 := 289) rfl dX12_minute_286 (by decide) (fun q => ?_) (fun q => ?_)
    · replace h := h.1 q
      refine EW_iinc (v1 + 1) (pc2 := 316) rfl dX12_minute_313 1 rfl rfl (by decide) [1, 0] [(0, .ref 246), (1, .int (v1 + 1))] rfl ?_
      refine EW_goto (tgt := 271) dX12_minute_316 (by decide) ?_
      exact hL271 (v1 + 1) x h
    · replace h := h.2 q
      refine EW_aload_n (pc2 := 290) rfl dX12_minute_289 0 rfl ?_
      refine EW_aload_n (pc2 := 291) rfl dX12_minute_290 0 rfl ?_
      refine AW_getr (r := 287) ⟨gfRX12_131, rfl⟩ (pc2 := 294) rfl dX12_minute_291 q246 rfl ?_
      refine EW_iload_n (pc2 := 295) rfl dX12_minute_294 1 rfl ?_
      obtain ⟨b17, h⟩ := h
      refine AW_iald (pc2 := 296) rfl dX12_minute_295 q287 b17 ?_
      refine AW_invV (M' := MX12_burnsAt) [.int (x.1 287 (Int32.toNatClampNeg v1))] (rest := []) mlRX12_531 okX12_burnsAt (pc2 := 299) rfl dX12_minute_296 rfl rfl (Nat.le_of_ble_eq_true rfl) (Nat.le_of_ble_eq_true rfl) (d' := 3) (by omega) q246 ⟨by decide, rfl⟩ (EW_mono (fun _ _ hr => ?_) (sX12_burnsAt (x.1 287 (Int32.toNatClampNeg v1))  x _ _ 0 0 (Nat.le_refl _) h))
      obtain ⟨r18, rfl, rfl, h⟩ := hr
      refine EW_if_ne (tgt := 313) (pc2 := 302) rfl dX12_minute_299 (by decide) (fun q => ?_) (fun q => ?_)
      · replace h := h.1 q
        refine EW_iinc (v1 + 1) (pc2 := 316) rfl dX12_minute_313 1 rfl rfl (by decide) [1, 0] [(0, .ref 246), (1, .int (v1 + 1))] rfl ?_
        refine EW_goto (tgt := 271) dX12_minute_316 (by decide) ?_
        exact hL271 (v1 + 1) x h
      · replace h := h.2 q
        refine EW_aload_n (pc2 := 303) rfl dX12_minute_302 0 rfl ?_
        refine EW_iload_n (pc2 := 304) rfl dX12_minute_303 1 rfl ?_
        refine EW_aload_n (pc2 := 305) rfl dX12_minute_304 0 rfl ?_
        refine AW_getr (r := 287) ⟨gfRX12_131, rfl⟩ (pc2 := 308) rfl dX12_minute_305 q246 rfl ?_
        refine EW_iload_n (pc2 := 309) rfl dX12_minute_308 1 rfl ?_
        obtain ⟨b19, h⟩ := h
        refine AW_iald (pc2 := 310) rfl dX12_minute_309 q287 b19 ?_
        refine AW_invV (M' := MX12_turns) [.int v1, .int (x.1 287 (Int32.toNatClampNeg v1))] (rest := []) mlRX12_405 okX12_turns (pc2 := 313) rfl dX12_minute_310 rfl rfl (Nat.le_of_ble_eq_true rfl) (Nat.le_of_ble_eq_true rfl) (d' := 2) (by omega) q246 ⟨by decide, rfl⟩ (EW_mono (fun _ _ hr => ?_) (sX12_turns v1 (x.1 287 (Int32.toNatClampNeg v1))  x _ _ 0 0 (Nat.le_refl _) h))
        obtain ⟨x20, rfl, rfl, h⟩ := hr
        refine EW_iinc (v1 + 1) (pc2 := 316) rfl dX12_minute_313 1 rfl rfl (by decide) [1, 0] [(0, .ref 246), (1, .int (v1 + 1))] rfl ?_
        refine EW_goto (tgt := 271) dX12_minute_316 (by decide) ?_
        exact hL271 (v1 + 1) x20 h
set_option maxHeartbeats 4000000 in
set_option maxRecDepth 100000 in
def wX12_minute_241 (v1 : Int32) (v3 : Int32) (x : ab_X) (K : ab_X → Prop) (L167 : Int32 → ab_X → Prop) (L204 : Int32 → Int32 → Prop) : Prop := L204 1 (v3 + 1)
set_option maxHeartbeats 4000000 in
set_option maxRecDepth 100000 in
theorem sX12_minute_241 (v1 : Int32) (v3 : Int32)  (x : ab_X) (K : ab_X → Prop) (L167 : Int32 → ab_X → Prop) (L204 : Int32 → Int32 → Prop) (d bc bs : Nat) (hdp : 212 ≤ d) (hL167 : ∀ (v1 : Int32) (x : ab_X), L167 v1 x → EW MX12_minute 167 [(0, .ref 246), (1, .int v1)] [] (aS x) d bc bs (liV K)) (hL204 : ∀ (v2 : Int32) (v3 : Int32), L204 v2 v3 → EW MX12_minute 204 [(0, .ref 246), (1, .int v1), (2, .int v2), (3, .int v3)] [] (aS x) d bc bs (liV K)) (h : wX12_minute_241 v1 v3 x K L167 L204) : EW MX12_minute 241 [(0, .ref 246), (1, .int v1), (3, .int v3)] [] (aS x) d bc bs (liV K) := by
  unfold wX12_minute_241 at h
  refine EW_iconst (pc2 := 242) (v := 1) rfl dX12_minute_241 (by decide) ?_
  refine EW_goto (tgt := 246) dX12_minute_242 (by decide) ?_
  refine EW_istore_n (pc2 := 247) rfl dX12_minute_246 (by decide) [1, 2, 0, 3] [(0, .ref 246), (1, .int v1), (2, .int 1), (3, .int v3)] rfl ?_
  refine EW_iinc (v3 + 1) (pc2 := 250) rfl dX12_minute_247 3 rfl rfl (by decide) [1, 2, 3, 0] [(0, .ref 246), (1, .int v1), (2, .int 1), (3, .int (v3 + 1))] rfl ?_
  refine EW_goto (tgt := 204) dX12_minute_250 (by decide) ?_
  exact hL204 1 (v3 + 1) h
set_option maxHeartbeats 4000000 in
set_option maxRecDepth 100000 in
def wX12_minute_245 (v1 : Int32) (v3 : Int32) (x : ab_X) (K : ab_X → Prop) (L167 : Int32 → ab_X → Prop) (L204 : Int32 → Int32 → Prop) : Prop := L204 0 (v3 + 1)
set_option maxHeartbeats 4000000 in
set_option maxRecDepth 100000 in
theorem sX12_minute_245 (v1 : Int32) (v3 : Int32)  (x : ab_X) (K : ab_X → Prop) (L167 : Int32 → ab_X → Prop) (L204 : Int32 → Int32 → Prop) (d bc bs : Nat) (hdp : 212 ≤ d) (hL167 : ∀ (v1 : Int32) (x : ab_X), L167 v1 x → EW MX12_minute 167 [(0, .ref 246), (1, .int v1)] [] (aS x) d bc bs (liV K)) (hL204 : ∀ (v2 : Int32) (v3 : Int32), L204 v2 v3 → EW MX12_minute 204 [(0, .ref 246), (1, .int v1), (2, .int v2), (3, .int v3)] [] (aS x) d bc bs (liV K)) (h : wX12_minute_245 v1 v3 x K L167 L204) : EW MX12_minute 245 [(0, .ref 246), (1, .int v1), (3, .int v3)] [] (aS x) d bc bs (liV K) := by
  unfold wX12_minute_245 at h
  refine EW_iconst (pc2 := 246) (v := 0) rfl dX12_minute_245 (by decide) ?_
  refine EW_istore_n (pc2 := 247) rfl dX12_minute_246 (by decide) [1, 2, 0, 3] [(0, .ref 246), (1, .int v1), (2, .int 0), (3, .int v3)] rfl ?_
  refine EW_iinc (v3 + 1) (pc2 := 250) rfl dX12_minute_247 3 rfl rfl (by decide) [1, 2, 3, 0] [(0, .ref 246), (1, .int v1), (2, .int 0), (3, .int (v3 + 1))] rfl ?_
  refine EW_goto (tgt := 204) dX12_minute_250 (by decide) ?_
  exact hL204 0 (v3 + 1) h
set_option maxHeartbeats 4000000 in
set_option maxRecDepth 100000 in
def lX12_minute_204 (v1 : Int32) (x : ab_X) (K : ab_X → Prop) (L167 : Int32 → ab_X → Prop) (L204 : Int32 → Int32 → Prop) (v2 : Int32) (v3 : Int32) : Prop := (((x.1 246 58) ≤ v3 → ((v2 = 0 → L167 (v1 + 1) x) ∧ (¬ v2 = 0 → wX12_close v1 0 x (fun x31 => L167 (v1 + 1) x31)))) ∧ (¬ (x.1 246 58) ≤ v3 → ((¬ v2 = 0 → wX12_minute_241 v1 v3 x K L167 L204) ∧ (v2 = 0 → (vp_in v3 16 ∧ ((¬ (x.1 286 (Int32.toNatClampNeg v3)) = 2 → wX12_minute_245 v1 v3 x K L167 L204) ∧ ((x.1 286 (Int32.toNatClampNeg v3)) = 2 → (vp_in v3 16 ∧ vp_in v1 60 ∧ ((¬ (x.1 287 (Int32.toNatClampNeg v3)) = (x.1 310 (Int32.toNatClampNeg v1)) → wX12_minute_245 v1 v3 x K L167 L204) ∧ ((x.1 287 (Int32.toNatClampNeg v3)) = (x.1 310 (Int32.toNatClampNeg v1)) → wX12_minute_241 v1 v3 x K L167 L204))))))))))
set_option maxHeartbeats 4000000 in
set_option maxRecDepth 100000 in
theorem sX12_minute_204 (v1 : Int32) (v2 : Int32) (v3 : Int32)  (x : ab_X) (K : ab_X → Prop) (L167 : Int32 → ab_X → Prop) (d bc bs : Nat) (hdp : 212 ≤ d) (hL167 : ∀ (v1 : Int32) (x : ab_X), L167 v1 x → EW MX12_minute 167 [(0, .ref 246), (1, .int v1)] [] (aS x) d bc bs (liV K)) (h : Lp2 (lX12_minute_204 v1 x K L167) v2 v3) : EW MX12_minute 204 [(0, .ref 246), (1, .int v1), (2, .int v2), (3, .int v3)] [] (aS x) d bc bs (liV K) := by
  refine Lp2.use (P := fun v2 v3 => EW MX12_minute 204 [(0, .ref 246), (1, .int v1), (2, .int v2), (3, .int v3)] [] (aS x) d bc bs (liV K)) (fun L204 v2 v3 hL204 h => ?_) v2 v3 h
  unfold lX12_minute_204 at h
  refine EW_iload_n (pc2 := 205) rfl dX12_minute_204 3 rfl ?_
  refine EW_aload_n (pc2 := 206) rfl dX12_minute_205 0 rfl ?_
  refine AW_geti ⟨gfRX12_366, rfl⟩ (pc2 := 209) rfl dX12_minute_206 q246 ?_
  refine EW_icmp_ge (tgt := 253) (pc2 := 212) rfl dX12_minute_209 (by decide) (fun q => ?_) (fun q => ?_)
  · replace h := h.1 q
    refine EW_iload_n (pc2 := 254) rfl dX12_minute_253 2 rfl ?_
    refine EW_if_eq (tgt := 263) (pc2 := 257) rfl dX12_minute_254 (by decide) (fun q => ?_) (fun q => ?_)
    · replace h := h.1 q
      refine EW_iinc (v1 + 1) (pc2 := 266) rfl dX12_minute_263 1 rfl rfl (by decide) [1, 0, 2, 3] [(0, .ref 246), (1, .int (v1 + 1)), (2, .int v2), (3, .int v3)] rfl ?_
      refine EW_goto (tgt := 167) dX12_minute_266 (by decide) ?_
      refine EW_ls [0, 1] rfl ?_
      exact hL167 (v1 + 1) x h
    · replace h := h.2 q
      refine EW_aload_n (pc2 := 258) rfl dX12_minute_257 0 rfl ?_
      refine EW_iload_n (pc2 := 259) rfl dX12_minute_258 1 rfl ?_
      refine EW_iconst (pc2 := 260) (v := 0) rfl dX12_minute_259 (by decide) ?_
      refine AW_invV (M' := MX12_close) [.int v1, .int 0] (rest := []) mlRX12_561 okX12_close (pc2 := 263) rfl dX12_minute_260 rfl rfl (Nat.le_of_ble_eq_true rfl) (Nat.le_of_ble_eq_true rfl) (d' := 0) (by omega) q246 ⟨by decide, rfl⟩ (EW_mono (fun _ _ hr => ?_) (sX12_close v1 0  x _ _ 0 0 (Nat.le_refl _) h))
      obtain ⟨x31, rfl, rfl, h⟩ := hr
      refine EW_iinc (v1 + 1) (pc2 := 266) rfl dX12_minute_263 1 rfl rfl (by decide) [1, 0, 2, 3] [(0, .ref 246), (1, .int (v1 + 1)), (2, .int v2), (3, .int v3)] rfl ?_
      refine EW_goto (tgt := 167) dX12_minute_266 (by decide) ?_
      refine EW_ls [0, 1] rfl ?_
      exact hL167 (v1 + 1) x31 h
  · replace h := h.2 q
    refine EW_iload_n (pc2 := 213) rfl dX12_minute_212 2 rfl ?_
    refine EW_if_ne (tgt := 241) (pc2 := 216) rfl dX12_minute_213 (by decide) (fun q => ?_) (fun q => ?_)
    · replace h := h.1 q
      refine EW_ls [0, 1, 3] rfl ?_
      exact sX12_minute_241 v1 v3 x K L167 L204 d bc bs hdp hL167 hL204 h
    · replace h := h.2 q
      refine EW_aload_n (pc2 := 217) rfl dX12_minute_216 0 rfl ?_
      refine AW_getr (r := 286) ⟨gfRX12_128, rfl⟩ (pc2 := 220) rfl dX12_minute_217 q246 rfl ?_
      refine EW_iload_n (pc2 := 221) rfl dX12_minute_220 3 rfl ?_
      obtain ⟨b32, h⟩ := h
      refine AW_iald (pc2 := 222) rfl dX12_minute_221 q286 b32 ?_
      refine EW_iconst (pc2 := 223) (v := 2) rfl dX12_minute_222 (by decide) ?_
      refine EW_icmp_ne (tgt := 245) (pc2 := 226) rfl dX12_minute_223 (by decide) (fun q => ?_) (fun q => ?_)
      · replace h := h.1 q
        refine EW_ls [0, 1, 3] rfl ?_
        exact sX12_minute_245 v1 v3 x K L167 L204 d bc bs hdp hL167 hL204 h
      · replace h := h.2 q
        refine EW_aload_n (pc2 := 227) rfl dX12_minute_226 0 rfl ?_
        refine AW_getr (r := 287) ⟨gfRX12_131, rfl⟩ (pc2 := 230) rfl dX12_minute_227 q246 rfl ?_
        refine EW_iload_n (pc2 := 231) rfl dX12_minute_230 3 rfl ?_
        obtain ⟨b33, h⟩ := h
        refine AW_iald (pc2 := 232) rfl dX12_minute_231 q287 b33 ?_
        refine EW_aload_n (pc2 := 233) rfl dX12_minute_232 0 rfl ?_
        refine AW_getr (r := 310) ⟨gfRX12_214, rfl⟩ (pc2 := 236) rfl dX12_minute_233 q246 rfl ?_
        refine EW_iload_n (pc2 := 237) rfl dX12_minute_236 1 rfl ?_
        obtain ⟨b34, h⟩ := h
        refine AW_iald (pc2 := 238) rfl dX12_minute_237 q310 b34 ?_
        refine EW_icmp_ne (tgt := 245) (pc2 := 241) rfl dX12_minute_238 (by decide) (fun q => ?_) (fun q => ?_)
        · replace h := h.1 q
          refine EW_ls [0, 1, 3] rfl ?_
          exact sX12_minute_245 v1 v3 x K L167 L204 d bc bs hdp hL167 hL204 h
        · replace h := h.2 q
          refine EW_ls [0, 1, 3] rfl ?_
          exact sX12_minute_241 v1 v3 x K L167 L204 d bc bs hdp hL167 hL204 h
set_option maxHeartbeats 4000000 in
set_option maxRecDepth 100000 in
def lX12_minute_167  (K : ab_X → Prop)  (L167 : Int32 → ab_X → Prop) (v1 : Int32) (x : ab_X) : Prop := (((x.1 246 92) ≤ v1 → Lp2 (lX12_minute_271 K ) 0 x) ∧ (¬ (x.1 246 92) ≤ v1 → (vp_in v1 60 ∧ ((¬ (x.1 312 (Int32.toNatClampNeg v1)) = 0 → L167 (v1 + 1) x) ∧ ((x.1 312 (Int32.toNatClampNeg v1)) = 0 → (vp_in v1 60 ∧ wX12_burnsAt (x.1 310 (Int32.toNatClampNeg v1)) x (fun r15 => ((r15 = 0 → Lp2 (lX12_minute_204 v1 x K L167) 0 0) ∧ (¬ r15 = 0 → L167 (v1 + 1) x)))))))))
set_option maxHeartbeats 4000000 in
set_option maxRecDepth 100000 in
theorem sX12_minute_167 (v1 : Int32)  (x : ab_X) (K : ab_X → Prop)  (d bc bs : Nat) (hdp : 212 ≤ d)  (h : Lp2 (lX12_minute_167  K ) v1 x) : EW MX12_minute 167 [(0, .ref 246), (1, .int v1)] [] (aS x) d bc bs (liV K) := by
  refine Lp2.use (P := fun v1 x => EW MX12_minute 167 [(0, .ref 246), (1, .int v1)] [] (aS x) d bc bs (liV K)) (fun L167 v1 x hL167 h => ?_) v1 x h
  unfold lX12_minute_167 at h
  refine EW_iload_n (pc2 := 168) rfl dX12_minute_167 1 rfl ?_
  refine EW_aload_n (pc2 := 169) rfl dX12_minute_168 0 rfl ?_
  refine AW_geti ⟨gfRX12_525, rfl⟩ (pc2 := 172) rfl dX12_minute_169 q246 ?_
  refine EW_icmp_ge (tgt := 269) (pc2 := 175) rfl dX12_minute_172 (by decide) (fun q => ?_) (fun q => ?_)
  · replace h := h.1 q
    refine EW_iconst (pc2 := 270) (v := 0) rfl dX12_minute_269 (by decide) ?_
    refine EW_istore_n (pc2 := 271) rfl dX12_minute_270 (by decide) [1, 0] [(0, .ref 246), (1, .int 0)] rfl ?_
    exact sX12_minute_271 0 x K d bc bs hdp h
  · replace h := h.2 q
    refine EW_aload_n (pc2 := 176) rfl dX12_minute_175 0 rfl ?_
    refine AW_getr (r := 312) ⟨gfRX12_220, rfl⟩ (pc2 := 179) rfl dX12_minute_176 q246 rfl ?_
    refine EW_iload_n (pc2 := 180) rfl dX12_minute_179 1 rfl ?_
    obtain ⟨b13, h⟩ := h
    refine AW_iald (pc2 := 181) rfl dX12_minute_180 q312 b13 ?_
    refine EW_if_ne (tgt := 263) (pc2 := 184) rfl dX12_minute_181 (by decide) (fun q => ?_) (fun q => ?_)
    · replace h := h.1 q
      refine EW_iinc (v1 + 1) (pc2 := 266) rfl dX12_minute_263 1 rfl rfl (by decide) [1, 0] [(0, .ref 246), (1, .int (v1 + 1))] rfl ?_
      refine EW_goto (tgt := 167) dX12_minute_266 (by decide) ?_
      exact hL167 (v1 + 1) x h
    · replace h := h.2 q
      refine EW_aload_n (pc2 := 185) rfl dX12_minute_184 0 rfl ?_
      refine EW_aload_n (pc2 := 186) rfl dX12_minute_185 0 rfl ?_
      refine AW_getr (r := 310) ⟨gfRX12_214, rfl⟩ (pc2 := 189) rfl dX12_minute_186 q246 rfl ?_
      refine EW_iload_n (pc2 := 190) rfl dX12_minute_189 1 rfl ?_
      obtain ⟨b14, h⟩ := h
      refine AW_iald (pc2 := 191) rfl dX12_minute_190 q310 b14 ?_
      refine AW_invV (M' := MX12_burnsAt) [.int (x.1 310 (Int32.toNatClampNeg v1))] (rest := []) mlRX12_531 okX12_burnsAt (pc2 := 194) rfl dX12_minute_191 rfl rfl (Nat.le_of_ble_eq_true rfl) (Nat.le_of_ble_eq_true rfl) (d' := 3) (by omega) q246 ⟨by decide, rfl⟩ (EW_mono (fun _ _ hr => ?_) (sX12_burnsAt (x.1 310 (Int32.toNatClampNeg v1))  x _ _ 0 0 (Nat.le_refl _) h))
      obtain ⟨r15, rfl, rfl, h⟩ := hr
      refine EW_if_eq (tgt := 200) (pc2 := 197) rfl dX12_minute_194 (by decide) (fun q => ?_) (fun q => ?_)
      · replace h := h.1 q
        refine EW_iconst (pc2 := 201) (v := 0) rfl dX12_minute_200 (by decide) ?_
        refine EW_istore_n (pc2 := 202) rfl dX12_minute_201 (by decide) [1, 2, 0] [(0, .ref 246), (1, .int v1), (2, .int 0)] rfl ?_
        refine EW_iconst (pc2 := 203) (v := 0) rfl dX12_minute_202 (by decide) ?_
        refine EW_istore_n (pc2 := 204) rfl dX12_minute_203 (by decide) [1, 2, 3, 0] [(0, .ref 246), (1, .int v1), (2, .int 0), (3, .int 0)] rfl ?_
        exact sX12_minute_204 v1 0 0 x K L167 d bc bs hdp hL167 h
      · replace h := h.2 q
        refine EW_goto (tgt := 263) dX12_minute_197 (by decide) ?_
        refine EW_iinc (v1 + 1) (pc2 := 266) rfl dX12_minute_263 1 rfl rfl (by decide) [1, 0] [(0, .ref 246), (1, .int (v1 + 1))] rfl ?_
        refine EW_goto (tgt := 167) dX12_minute_266 (by decide) ?_
        exact hL167 (v1 + 1) x h
set_option maxHeartbeats 4000000 in
set_option maxRecDepth 100000 in
def lX12_minute_145  (K : ab_X → Prop)  (L145 : Int32 → ab_X → Prop) (v1 : Int32) (x : ab_X) : Prop := ((288 ≤ v1 → Lp2 (lX12_minute_167 K ) 0 x) ∧ (¬ 288 ≤ v1 → (vp_in v1 288 ∧ L145 (v1 + 1) (wr x 268 (Int32.toNatClampNeg v1) 0))))
set_option maxHeartbeats 4000000 in
set_option maxRecDepth 100000 in
theorem sX12_minute_145 (v1 : Int32)  (x : ab_X) (K : ab_X → Prop)  (d bc bs : Nat) (hdp : 212 ≤ d)  (h : Lp2 (lX12_minute_145  K ) v1 x) : EW MX12_minute 145 [(0, .ref 246), (1, .int v1)] [] (aS x) d bc bs (liV K) := by
  refine Lp2.use (P := fun v1 x => EW MX12_minute 145 [(0, .ref 246), (1, .int v1)] [] (aS x) d bc bs (liV K)) (fun L145 v1 x hL145 h => ?_) v1 x h
  unfold lX12_minute_145 at h
  refine EW_iload_n (pc2 := 146) rfl dX12_minute_145 1 rfl ?_
  refine EW_sipush (pc2 := 149) (v := 288) rfl dX12_minute_146 (by decide) ?_
  refine EW_icmp_ge (tgt := 165) (pc2 := 152) rfl dX12_minute_149 (by decide) (fun q => ?_) (fun q => ?_)
  · replace h := h.1 q
    refine EW_iconst (pc2 := 166) (v := 0) rfl dX12_minute_165 (by decide) ?_
    refine EW_istore_n (pc2 := 167) rfl dX12_minute_166 (by decide) [1, 0] [(0, .ref 246), (1, .int 0)] rfl ?_
    exact sX12_minute_167 0 x K d bc bs hdp h
  · replace h := h.2 q
    refine EW_aload_n (pc2 := 153) rfl dX12_minute_152 0 rfl ?_
    refine AW_getr (r := 268) ⟨gfRX12_74, rfl⟩ (pc2 := 156) rfl dX12_minute_153 q246 rfl ?_
    refine EW_iload_n (pc2 := 157) rfl dX12_minute_156 1 rfl ?_
    refine EW_iconst (pc2 := 158) (v := 0) rfl dX12_minute_157 (by decide) ?_
    obtain ⟨b12, h⟩ := h
    refine AW_iast (pc2 := 159) rfl dX12_minute_158 q268 b12 ?_
    refine EW_iinc (v1 + 1) (pc2 := 162) rfl dX12_minute_159 1 rfl rfl (by decide) [1, 0] [(0, .ref 246), (1, .int (v1 + 1))] rfl ?_
    refine EW_goto (tgt := 145) dX12_minute_162 (by decide) ?_
    exact hL145 (v1 + 1) (wr x 268 (Int32.toNatClampNeg v1) 0) h
set_option maxHeartbeats 4000000 in
set_option maxRecDepth 100000 in
def lX12_minute_66  (K : ab_X → Prop)  (L66 : Int32 → ab_X → Prop) (v1 : Int32) (x : ab_X) : Prop := (((x.1 246 58) ≤ v1 → wX12_work x (fun x3 => wX12_burn 1 x3 (fun x4 => Lp2 (lX12_minute_145 K ) 0 x4))) ∧ (¬ (x.1 246 58) ≤ v1 → (vp_in v1 16 ∧ ((¬ (x.1 286 (Int32.toNatClampNeg v1)) = 2 → L66 (v1 + 1) x) ∧ ((x.1 286 (Int32.toNatClampNeg v1)) = 2 → (vp_in v1 16 ∧ wX12_burning (x.1 290 (Int32.toNatClampNeg v1)) x (fun r7 => ((r7 ≤ 0 → (vp_in v1 16 ∧ vp_in (x.1 290 (Int32.toNatClampNeg v1)) 12 ∧ wX12_worstAt (x.1 254 (Int32.toNatClampNeg (x.1 290 (Int32.toNatClampNeg v1)))) x (fun r10 => ((r10 = (-1) → L66 (v1 + 1) x) ∧ (¬ r10 = (-1) → (vp_in v1 16 ∧ L66 (v1 + 1) (wr x 290 (Int32.toNatClampNeg v1) r10))))))) ∧ (¬ r7 ≤ 0 → L66 (v1 + 1) x)))))))))
set_option maxHeartbeats 4000000 in
set_option maxRecDepth 100000 in
theorem sX12_minute_66 (v1 : Int32)  (x : ab_X) (K : ab_X → Prop)  (d bc bs : Nat) (hdp : 212 ≤ d)  (h : Lp2 (lX12_minute_66  K ) v1 x) : EW MX12_minute 66 [(0, .ref 246), (1, .int v1)] [] (aS x) d bc bs (liV K) := by
  refine Lp2.use (P := fun v1 x => EW MX12_minute 66 [(0, .ref 246), (1, .int v1)] [] (aS x) d bc bs (liV K)) (fun L66 v1 x hL66 h => ?_) v1 x h
  unfold lX12_minute_66 at h
  refine EW_iload_n (pc2 := 67) rfl dX12_minute_66 1 rfl ?_
  refine EW_aload_n (pc2 := 68) rfl dX12_minute_67 0 rfl ?_
  refine AW_geti ⟨gfRX12_366, rfl⟩ (pc2 := 71) rfl dX12_minute_68 q246 ?_
  refine EW_icmp_ge (tgt := 134) (pc2 := 74) rfl dX12_minute_71 (by decide) (fun q => ?_) (fun q => ?_)
  · replace h := h.1 q
    refine EW_aload_n (pc2 := 135) rfl dX12_minute_134 0 rfl ?_
    refine AW_invV (M' := MX12_work) [] (rest := []) mlRX12_583 okX12_work (pc2 := 138) rfl dX12_minute_135 rfl rfl (Nat.le_of_ble_eq_true rfl) (Nat.le_of_ble_eq_true rfl) (d' := 211) (by omega) q246 ⟨by decide, rfl⟩ (EW_mono (fun _ _ hr => ?_) (sX12_work   x _ _ 0 0 (Nat.le_refl _) h))
    obtain ⟨x3, rfl, rfl, h⟩ := hr
    refine EW_aload_n (pc2 := 139) rfl dX12_minute_138 0 rfl ?_
    refine EW_iconst (pc2 := 140) (v := 1) rfl dX12_minute_139 (by decide) ?_
    refine AW_invV (M' := MX12_burn) [.int 1] (rest := []) mlRX12_586 okX12_burn (pc2 := 143) rfl dX12_minute_140 rfl rfl (Nat.le_of_ble_eq_true rfl) (Nat.le_of_ble_eq_true rfl) (d' := 4) (by omega) q246 ⟨by decide, rfl⟩ (EW_mono (fun _ _ hr => ?_) (sX12_burn 1  x3 _ _ 0 0 (Nat.le_refl _) h))
    obtain ⟨x4, rfl, rfl, h⟩ := hr
    refine EW_iconst (pc2 := 144) (v := 0) rfl dX12_minute_143 (by decide) ?_
    refine EW_istore_n (pc2 := 145) rfl dX12_minute_144 (by decide) [1, 0] [(0, .ref 246), (1, .int 0)] rfl ?_
    exact sX12_minute_145 0 x4 K d bc bs hdp h
  · replace h := h.2 q
    refine EW_aload_n (pc2 := 75) rfl dX12_minute_74 0 rfl ?_
    refine AW_getr (r := 286) ⟨gfRX12_128, rfl⟩ (pc2 := 78) rfl dX12_minute_75 q246 rfl ?_
    refine EW_iload_n (pc2 := 79) rfl dX12_minute_78 1 rfl ?_
    obtain ⟨b5, h⟩ := h
    refine AW_iald (pc2 := 80) rfl dX12_minute_79 q286 b5 ?_
    refine EW_iconst (pc2 := 81) (v := 2) rfl dX12_minute_80 (by decide) ?_
    refine EW_icmp_ne (tgt := 128) (pc2 := 84) rfl dX12_minute_81 (by decide) (fun q => ?_) (fun q => ?_)
    · replace h := h.1 q
      refine EW_iinc (v1 + 1) (pc2 := 131) rfl dX12_minute_128 1 rfl rfl (by decide) [1, 0] [(0, .ref 246), (1, .int (v1 + 1))] rfl ?_
      refine EW_goto (tgt := 66) dX12_minute_131 (by decide) ?_
      exact hL66 (v1 + 1) x h
    · replace h := h.2 q
      refine EW_aload_n (pc2 := 85) rfl dX12_minute_84 0 rfl ?_
      refine EW_aload_n (pc2 := 86) rfl dX12_minute_85 0 rfl ?_
      refine AW_getr (r := 290) ⟨gfRX12_140, rfl⟩ (pc2 := 89) rfl dX12_minute_86 q246 rfl ?_
      refine EW_iload_n (pc2 := 90) rfl dX12_minute_89 1 rfl ?_
      obtain ⟨b6, h⟩ := h
      refine AW_iald (pc2 := 91) rfl dX12_minute_90 q290 b6 ?_
      refine AW_invV (M' := MX12_burning) [.int (x.1 290 (Int32.toNatClampNeg v1))] (rest := []) mlRX12_351 okX12_burning (pc2 := 94) rfl dX12_minute_91 rfl rfl (Nat.le_of_ble_eq_true rfl) (Nat.le_of_ble_eq_true rfl) (d' := 2) (by omega) q246 ⟨by decide, rfl⟩ (EW_mono (fun _ _ hr => ?_) (sX12_burning (x.1 290 (Int32.toNatClampNeg v1))  x _ _ 0 0 (Nat.le_refl _) h))
      obtain ⟨r7, rfl, rfl, h⟩ := hr
      refine EW_if_le (tgt := 100) (pc2 := 97) rfl dX12_minute_94 (by decide) (fun q => ?_) (fun q => ?_)
      · replace h := h.1 q
        refine EW_aload_n (pc2 := 101) rfl dX12_minute_100 0 rfl ?_
        refine EW_aload_n (pc2 := 102) rfl dX12_minute_101 0 rfl ?_
        refine AW_getr (r := 254) ⟨gfRX12_32, rfl⟩ (pc2 := 105) rfl dX12_minute_102 q246 rfl ?_
        refine EW_aload_n (pc2 := 106) rfl dX12_minute_105 0 rfl ?_
        refine AW_getr (r := 290) ⟨gfRX12_140, rfl⟩ (pc2 := 109) rfl dX12_minute_106 q246 rfl ?_
        refine EW_iload_n (pc2 := 110) rfl dX12_minute_109 1 rfl ?_
        obtain ⟨b8, h⟩ := h
        refine AW_iald (pc2 := 111) rfl dX12_minute_110 q290 b8 ?_
        obtain ⟨b9, h⟩ := h
        refine AW_iald (pc2 := 112) rfl dX12_minute_111 q254 b9 ?_
        refine AW_invV (M' := MX12_worstAt) [.int (x.1 254 (Int32.toNatClampNeg (x.1 290 (Int32.toNatClampNeg v1))))] (rest := []) mlRX12_558 okX12_worstAt (pc2 := 115) rfl dX12_minute_112 rfl rfl (Nat.le_of_ble_eq_true rfl) (Nat.le_of_ble_eq_true rfl) (d' := 3) (by omega) q246 ⟨by decide, rfl⟩ (EW_mono (fun _ _ hr => ?_) (sX12_worstAt (x.1 254 (Int32.toNatClampNeg (x.1 290 (Int32.toNatClampNeg v1))))  x _ _ 0 0 (Nat.le_refl _) h))
        obtain ⟨r10, rfl, rfl, h⟩ := hr
        refine EW_istore_n (pc2 := 116) rfl dX12_minute_115 (by decide) [1, 2, 0] [(0, .ref 246), (1, .int v1), (2, .int r10)] rfl ?_
        refine EW_iload_n (pc2 := 117) rfl dX12_minute_116 2 rfl ?_
        refine EW_iconst (pc2 := 118) (v := (-1)) rfl dX12_minute_117 (by decide) ?_
        refine EW_icmp_eq (tgt := 128) (pc2 := 121) rfl dX12_minute_118 (by decide) (fun q => ?_) (fun q => ?_)
        · replace h := h.1 q
          refine EW_iinc (v1 + 1) (pc2 := 131) rfl dX12_minute_128 1 rfl rfl (by decide) [1, 0, 2] [(0, .ref 246), (1, .int (v1 + 1)), (2, .int r10)] rfl ?_
          refine EW_goto (tgt := 66) dX12_minute_131 (by decide) ?_
          refine EW_ls [0, 1] rfl ?_
          exact hL66 (v1 + 1) x h
        · replace h := h.2 q
          refine EW_aload_n (pc2 := 122) rfl dX12_minute_121 0 rfl ?_
          refine AW_getr (r := 290) ⟨gfRX12_140, rfl⟩ (pc2 := 125) rfl dX12_minute_122 q246 rfl ?_
          refine EW_iload_n (pc2 := 126) rfl dX12_minute_125 1 rfl ?_
          refine EW_iload_n (pc2 := 127) rfl dX12_minute_126 2 rfl ?_
          obtain ⟨b11, h⟩ := h
          refine AW_iast (pc2 := 128) rfl dX12_minute_127 q290 b11 ?_
          refine EW_iinc (v1 + 1) (pc2 := 131) rfl dX12_minute_128 1 rfl rfl (by decide) [1, 0, 2] [(0, .ref 246), (1, .int (v1 + 1)), (2, .int r10)] rfl ?_
          refine EW_goto (tgt := 66) dX12_minute_131 (by decide) ?_
          refine EW_ls [0, 1] rfl ?_
          exact hL66 (v1 + 1) (wr x 290 (Int32.toNatClampNeg v1) r10) h
      · replace h := h.2 q
        refine EW_goto (tgt := 128) dX12_minute_97 (by decide) ?_
        refine EW_iinc (v1 + 1) (pc2 := 131) rfl dX12_minute_128 1 rfl rfl (by decide) [1, 0] [(0, .ref 246), (1, .int (v1 + 1))] rfl ?_
        refine EW_goto (tgt := 66) dX12_minute_131 (by decide) ?_
        exact hL66 (v1 + 1) x h
set_option maxHeartbeats 4000000 in
set_option maxRecDepth 100000 in
def wX12_minute_40 (v1 : Int32) (x : ab_X) (K : ab_X → Prop) (L12 : Int32 → ab_X → Prop) : Prop := (vp_in v1 16 ∧ (((x.1 246 1) < (x.1 288 (Int32.toNatClampNeg v1)) → L12 (v1 + 1) x) ∧ (¬ (x.1 246 1) < (x.1 288 (Int32.toNatClampNeg v1)) → wX12_arrives v1 x (fun x36 => L12 (v1 + 1) x36))))
set_option maxHeartbeats 4000000 in
set_option maxRecDepth 100000 in
theorem sX12_minute_40 (v1 : Int32)  (x : ab_X) (K : ab_X → Prop) (L12 : Int32 → ab_X → Prop) (d bc bs : Nat) (hdp : 212 ≤ d) (hL12 : ∀ (v1 : Int32) (x : ab_X), L12 v1 x → EW MX12_minute 12 [(0, .ref 246), (1, .int v1)] [] (aS x) d bc bs (liV K)) (h : wX12_minute_40 v1 x K L12) : EW MX12_minute 40 [(0, .ref 246), (1, .int v1)] [] (aS x) d bc bs (liV K) := by
  unfold wX12_minute_40 at h
  refine EW_aload_n (pc2 := 41) rfl dX12_minute_40 0 rfl ?_
  refine AW_getr (r := 288) ⟨gfRX12_134, rfl⟩ (pc2 := 44) rfl dX12_minute_41 q246 rfl ?_
  refine EW_iload_n (pc2 := 45) rfl dX12_minute_44 1 rfl ?_
  obtain ⟨b35, h⟩ := h
  refine AW_iald (pc2 := 46) rfl dX12_minute_45 q288 b35 ?_
  refine EW_aload_n (pc2 := 47) rfl dX12_minute_46 0 rfl ?_
  refine AW_geti ⟨gfRX12_395, rfl⟩ (pc2 := 50) rfl dX12_minute_47 q246 ?_
  refine EW_icmp_gt (tgt := 58) (pc2 := 53) rfl dX12_minute_50 (by decide) (fun q => ?_) (fun q => ?_)
  · replace h := h.1 q
    refine EW_iinc (v1 + 1) (pc2 := 61) rfl dX12_minute_58 1 rfl rfl (by decide) [1, 0] [(0, .ref 246), (1, .int (v1 + 1))] rfl ?_
    refine EW_goto (tgt := 12) dX12_minute_61 (by decide) ?_
    exact hL12 (v1 + 1) x h
  · replace h := h.2 q
    refine EW_aload_n (pc2 := 54) rfl dX12_minute_53 0 rfl ?_
    refine EW_iload_n (pc2 := 55) rfl dX12_minute_54 1 rfl ?_
    refine AW_invV (M' := MX12_arrives) [.int v1] (rest := []) mlRX12_580 okX12_arrives (pc2 := 58) rfl dX12_minute_55 rfl rfl (Nat.le_of_ble_eq_true rfl) (Nat.le_of_ble_eq_true rfl) (d' := 4) (by omega) q246 ⟨by decide, rfl⟩ (EW_mono (fun _ _ hr => ?_) (sX12_arrives v1  x _ _ 0 0 (Nat.le_refl _) h))
    obtain ⟨x36, rfl, rfl, h⟩ := hr
    refine EW_iinc (v1 + 1) (pc2 := 61) rfl dX12_minute_58 1 rfl rfl (by decide) [1, 0] [(0, .ref 246), (1, .int (v1 + 1))] rfl ?_
    refine EW_goto (tgt := 12) dX12_minute_61 (by decide) ?_
    exact hL12 (v1 + 1) x36 h
set_option maxHeartbeats 4000000 in
set_option maxRecDepth 100000 in
def lX12_minute_12  (K : ab_X → Prop)  (L12 : Int32 → ab_X → Prop) (v1 : Int32) (x : ab_X) : Prop := (((x.1 246 58) ≤ v1 → Lp2 (lX12_minute_66 K ) 0 x) ∧ (¬ (x.1 246 58) ≤ v1 → (vp_in v1 16 ∧ (((x.1 286 (Int32.toNatClampNeg v1)) = 1 → wX12_minute_40 v1 x K L12) ∧ (¬ (x.1 286 (Int32.toNatClampNeg v1)) = 1 → (vp_in v1 16 ∧ ((¬ (x.1 286 (Int32.toNatClampNeg v1)) = 3 → L12 (v1 + 1) x) ∧ ((x.1 286 (Int32.toNatClampNeg v1)) = 3 → wX12_minute_40 v1 x K L12))))))))
set_option maxHeartbeats 4000000 in
set_option maxRecDepth 100000 in
theorem sX12_minute_12 (v1 : Int32)  (x : ab_X) (K : ab_X → Prop)  (d bc bs : Nat) (hdp : 212 ≤ d)  (h : Lp2 (lX12_minute_12  K ) v1 x) : EW MX12_minute 12 [(0, .ref 246), (1, .int v1)] [] (aS x) d bc bs (liV K) := by
  refine Lp2.use (P := fun v1 x => EW MX12_minute 12 [(0, .ref 246), (1, .int v1)] [] (aS x) d bc bs (liV K)) (fun L12 v1 x hL12 h => ?_) v1 x h
  unfold lX12_minute_12 at h
  refine EW_iload_n (pc2 := 13) rfl dX12_minute_12 1 rfl ?_
  refine EW_aload_n (pc2 := 14) rfl dX12_minute_13 0 rfl ?_
  refine AW_geti ⟨gfRX12_366, rfl⟩ (pc2 := 17) rfl dX12_minute_14 q246 ?_
  refine EW_icmp_ge (tgt := 64) (pc2 := 20) rfl dX12_minute_17 (by decide) (fun q => ?_) (fun q => ?_)
  · replace h := h.1 q
    refine EW_iconst (pc2 := 65) (v := 0) rfl dX12_minute_64 (by decide) ?_
    refine EW_istore_n (pc2 := 66) rfl dX12_minute_65 (by decide) [1, 0] [(0, .ref 246), (1, .int 0)] rfl ?_
    exact sX12_minute_66 0 x K d bc bs hdp h
  · replace h := h.2 q
    refine EW_aload_n (pc2 := 21) rfl dX12_minute_20 0 rfl ?_
    refine AW_getr (r := 286) ⟨gfRX12_128, rfl⟩ (pc2 := 24) rfl dX12_minute_21 q246 rfl ?_
    refine EW_iload_n (pc2 := 25) rfl dX12_minute_24 1 rfl ?_
    obtain ⟨b1, h⟩ := h
    refine AW_iald (pc2 := 26) rfl dX12_minute_25 q286 b1 ?_
    refine EW_iconst (pc2 := 27) (v := 1) rfl dX12_minute_26 (by decide) ?_
    refine EW_icmp_eq (tgt := 40) (pc2 := 30) rfl dX12_minute_27 (by decide) (fun q => ?_) (fun q => ?_)
    · replace h := h.1 q
      exact sX12_minute_40 v1 x K L12 d bc bs hdp hL12 h
    · replace h := h.2 q
      refine EW_aload_n (pc2 := 31) rfl dX12_minute_30 0 rfl ?_
      refine AW_getr (r := 286) ⟨gfRX12_128, rfl⟩ (pc2 := 34) rfl dX12_minute_31 q246 rfl ?_
      refine EW_iload_n (pc2 := 35) rfl dX12_minute_34 1 rfl ?_
      obtain ⟨b2, h⟩ := h
      refine AW_iald (pc2 := 36) rfl dX12_minute_35 q286 b2 ?_
      refine EW_iconst (pc2 := 37) (v := 3) rfl dX12_minute_36 (by decide) ?_
      refine EW_icmp_ne (tgt := 58) (pc2 := 40) rfl dX12_minute_37 (by decide) (fun q => ?_) (fun q => ?_)
      · replace h := h.1 q
        refine EW_iinc (v1 + 1) (pc2 := 61) rfl dX12_minute_58 1 rfl rfl (by decide) [1, 0] [(0, .ref 246), (1, .int (v1 + 1))] rfl ?_
        refine EW_goto (tgt := 12) dX12_minute_61 (by decide) ?_
        exact hL12 (v1 + 1) x h
      · replace h := h.2 q
        exact sX12_minute_40 v1 x K L12 d bc bs hdp hL12 h
set_option maxHeartbeats 4000000 in
set_option maxRecDepth 100000 in
def wX12_minute  (x : ab_X) (K : ab_X → Prop) : Prop := Lp2 (lX12_minute_12 K ) 0 (wr x 246 1 ((x.1 246 1) + 1))
set_option maxHeartbeats 4000000 in
set_option maxRecDepth 100000 in
theorem sX12_minute   (x : ab_X) (K : ab_X → Prop) (d bc bs : Nat) (hdp : 212 ≤ d) (h : wX12_minute  x K) : EW MX12_minute 0 [(0, .ref 246)] [] (aS x) d bc bs (liV K) := by
  unfold wX12_minute at h
  refine EW_aload_n (pc2 := 1) rfl dX12_minute_0 0 rfl ?_
  refine EW_dup (pc2 := 2) rfl dX12_minute_1 rfl ?_
  refine AW_geti ⟨gfRX12_395, rfl⟩ (pc2 := 5) rfl dX12_minute_2 q246 ?_
  refine EW_iconst (pc2 := 6) (v := 1) rfl dX12_minute_5 (by decide) ?_
  refine EW_iadd (pc2 := 7) rfl dX12_minute_6 ?_
  refine AW_puti ⟨gfRX12_395, rfl, rfl⟩ (pc2 := 10) rfl dX12_minute_7 q246 ?_
  refine EW_iconst (pc2 := 11) (v := 0) rfl dX12_minute_10 (by decide) ?_
  refine EW_istore_n (pc2 := 12) rfl dX12_minute_11 (by decide) [1, 0] [(0, .ref 246), (1, .int 0)] rfl ?_
  exact sX12_minute_12 0 (wr x 246 1 ((x.1 246 1) + 1)) K d bc bs hdp h
