theorem mlRX12_583 : Cond.methodLink RX12 583 yX12_work ∈ ab_G ∧ Cond.instanceMethod yX12_work ∈ ab_G ∧ Cond.selects RX12 yX12_work yX12_work ∈ ab_G := ⟨ab_in 2559 (by decide +kernel) (by decide +kernel), ab_in 2561 (by decide +kernel) (by decide +kernel), ab_in 60 (by decide +kernel) (by decide +kernel)⟩
theorem mlRX12_586 : Cond.methodLink RX12 586 yX12_burn ∈ ab_G ∧ Cond.instanceMethod yX12_burn ∈ ab_G ∧ Cond.selects RX12 yX12_burn yX12_burn ∈ ab_G := ⟨ab_in 2587 (by decide +kernel) (by decide +kernel), ab_in 2589 (by decide +kernel) (by decide +kernel), ab_in 67 (by decide +kernel) (by decide +kernel)⟩
theorem mlRX12_580 : Cond.methodLink RX12 580 yX12_arrives ∈ ab_G ∧ Cond.instanceMethod yX12_arrives ∈ ab_G ∧ Cond.selects RX12 yX12_arrives yX12_arrives ∈ ab_G := ⟨ab_in 2547 (by decide +kernel) (by decide +kernel), ab_in 2549 (by decide +kernel) (by decide +kernel), ab_in 57 (by decide +kernel) (by decide +kernel)⟩
abbrev MX12_minute : ab_M := (yX12_minute, cX12_minute, 4, none)
theorem dX12_minute_0 : decode cX12_minute 0 = .ok (.aload_n 0, 1) := by decide +kernel
theorem dX12_minute_1 : decode cX12_minute 1 = .ok (.dup, 1) := by decide +kernel
theorem dX12_minute_2 : decode cX12_minute 2 = .ok (.getfield 395, 3) := by decide +kernel
theorem dX12_minute_5 : decode cX12_minute 5 = .ok (.iconst 1, 1) := by decide +kernel
theorem dX12_minute_6 : decode cX12_minute 6 = .ok (.iadd, 1) := by decide +kernel
theorem dX12_minute_7 : decode cX12_minute 7 = .ok (.putfield 395, 3) := by decide +kernel
theorem dX12_minute_10 : decode cX12_minute 10 = .ok (.iconst 0, 1) := by decide +kernel
theorem dX12_minute_11 : decode cX12_minute 11 = .ok (.istore_n 1, 1) := by decide +kernel
theorem dX12_minute_12 : decode cX12_minute 12 = .ok (.iload_n 1, 1) := by decide +kernel
theorem dX12_minute_13 : decode cX12_minute 13 = .ok (.aload_n 0, 1) := by decide +kernel
theorem dX12_minute_14 : decode cX12_minute 14 = .ok (.getfield 366, 3) := by decide +kernel
theorem dX12_minute_17 : decode cX12_minute 17 = .ok (.if_icmp .ge 47, 3) := by decide +kernel
theorem dX12_minute_20 : decode cX12_minute 20 = .ok (.aload_n 0, 1) := by decide +kernel
theorem dX12_minute_21 : decode cX12_minute 21 = .ok (.getfield 128, 3) := by decide +kernel
theorem dX12_minute_24 : decode cX12_minute 24 = .ok (.iload_n 1, 1) := by decide +kernel
theorem dX12_minute_25 : decode cX12_minute 25 = .ok (.iaload, 1) := by decide +kernel
theorem dX12_minute_26 : decode cX12_minute 26 = .ok (.iconst 1, 1) := by decide +kernel
theorem dX12_minute_27 : decode cX12_minute 27 = .ok (.if_icmp .eq 13, 3) := by decide +kernel
theorem dX12_minute_30 : decode cX12_minute 30 = .ok (.aload_n 0, 1) := by decide +kernel
theorem dX12_minute_31 : decode cX12_minute 31 = .ok (.getfield 128, 3) := by decide +kernel
theorem dX12_minute_34 : decode cX12_minute 34 = .ok (.iload_n 1, 1) := by decide +kernel
theorem dX12_minute_35 : decode cX12_minute 35 = .ok (.iaload, 1) := by decide +kernel
theorem dX12_minute_36 : decode cX12_minute 36 = .ok (.iconst 3, 1) := by decide +kernel
theorem dX12_minute_37 : decode cX12_minute 37 = .ok (.if_icmp .ne 21, 3) := by decide +kernel
theorem dX12_minute_40 : decode cX12_minute 40 = .ok (.aload_n 0, 1) := by decide +kernel
theorem dX12_minute_41 : decode cX12_minute 41 = .ok (.getfield 134, 3) := by decide +kernel
theorem dX12_minute_44 : decode cX12_minute 44 = .ok (.iload_n 1, 1) := by decide +kernel
theorem dX12_minute_45 : decode cX12_minute 45 = .ok (.iaload, 1) := by decide +kernel
theorem dX12_minute_46 : decode cX12_minute 46 = .ok (.aload_n 0, 1) := by decide +kernel
theorem dX12_minute_47 : decode cX12_minute 47 = .ok (.getfield 395, 3) := by decide +kernel
theorem dX12_minute_50 : decode cX12_minute 50 = .ok (.if_icmp .gt 8, 3) := by decide +kernel
theorem dX12_minute_53 : decode cX12_minute 53 = .ok (.aload_n 0, 1) := by decide +kernel
theorem dX12_minute_54 : decode cX12_minute 54 = .ok (.iload_n 1, 1) := by decide +kernel
theorem dX12_minute_55 : decode cX12_minute 55 = .ok (.invokevirtual 580, 3) := by decide +kernel
theorem dX12_minute_58 : decode cX12_minute 58 = .ok (.iinc 1 1, 3) := by decide +kernel
theorem dX12_minute_61 : decode cX12_minute 61 = .ok (.goto (-49), 3) := by decide +kernel
theorem dX12_minute_64 : decode cX12_minute 64 = .ok (.iconst 0, 1) := by decide +kernel
theorem dX12_minute_65 : decode cX12_minute 65 = .ok (.istore_n 1, 1) := by decide +kernel
theorem dX12_minute_66 : decode cX12_minute 66 = .ok (.iload_n 1, 1) := by decide +kernel
theorem dX12_minute_67 : decode cX12_minute 67 = .ok (.aload_n 0, 1) := by decide +kernel
theorem dX12_minute_68 : decode cX12_minute 68 = .ok (.getfield 366, 3) := by decide +kernel
theorem dX12_minute_71 : decode cX12_minute 71 = .ok (.if_icmp .ge 63, 3) := by decide +kernel
theorem dX12_minute_74 : decode cX12_minute 74 = .ok (.aload_n 0, 1) := by decide +kernel
theorem dX12_minute_75 : decode cX12_minute 75 = .ok (.getfield 128, 3) := by decide +kernel
theorem dX12_minute_78 : decode cX12_minute 78 = .ok (.iload_n 1, 1) := by decide +kernel
theorem dX12_minute_79 : decode cX12_minute 79 = .ok (.iaload, 1) := by decide +kernel
theorem dX12_minute_80 : decode cX12_minute 80 = .ok (.iconst 2, 1) := by decide +kernel
theorem dX12_minute_81 : decode cX12_minute 81 = .ok (.if_icmp .ne 47, 3) := by decide +kernel
theorem dX12_minute_84 : decode cX12_minute 84 = .ok (.aload_n 0, 1) := by decide +kernel
theorem dX12_minute_85 : decode cX12_minute 85 = .ok (.aload_n 0, 1) := by decide +kernel
theorem dX12_minute_86 : decode cX12_minute 86 = .ok (.getfield 140, 3) := by decide +kernel
theorem dX12_minute_89 : decode cX12_minute 89 = .ok (.iload_n 1, 1) := by decide +kernel
theorem dX12_minute_90 : decode cX12_minute 90 = .ok (.iaload, 1) := by decide +kernel
theorem dX12_minute_91 : decode cX12_minute 91 = .ok (.invokevirtual 351, 3) := by decide +kernel
theorem dX12_minute_94 : decode cX12_minute 94 = .ok (.ifCond .le 6, 3) := by decide +kernel
theorem dX12_minute_97 : decode cX12_minute 97 = .ok (.goto 31, 3) := by decide +kernel
theorem dX12_minute_100 : decode cX12_minute 100 = .ok (.aload_n 0, 1) := by decide +kernel
theorem dX12_minute_101 : decode cX12_minute 101 = .ok (.aload_n 0, 1) := by decide +kernel
theorem dX12_minute_102 : decode cX12_minute 102 = .ok (.getfield 32, 3) := by decide +kernel
theorem dX12_minute_105 : decode cX12_minute 105 = .ok (.aload_n 0, 1) := by decide +kernel
theorem dX12_minute_106 : decode cX12_minute 106 = .ok (.getfield 140, 3) := by decide +kernel
theorem dX12_minute_109 : decode cX12_minute 109 = .ok (.iload_n 1, 1) := by decide +kernel
theorem dX12_minute_110 : decode cX12_minute 110 = .ok (.iaload, 1) := by decide +kernel
theorem dX12_minute_111 : decode cX12_minute 111 = .ok (.iaload, 1) := by decide +kernel
theorem dX12_minute_112 : decode cX12_minute 112 = .ok (.invokevirtual 558, 3) := by decide +kernel
theorem dX12_minute_115 : decode cX12_minute 115 = .ok (.istore_n 2, 1) := by decide +kernel
theorem dX12_minute_116 : decode cX12_minute 116 = .ok (.iload_n 2, 1) := by decide +kernel
theorem dX12_minute_117 : decode cX12_minute 117 = .ok (.iconst (-1), 1) := by decide +kernel
theorem dX12_minute_118 : decode cX12_minute 118 = .ok (.if_icmp .eq 10, 3) := by decide +kernel
theorem dX12_minute_121 : decode cX12_minute 121 = .ok (.aload_n 0, 1) := by decide +kernel
theorem dX12_minute_122 : decode cX12_minute 122 = .ok (.getfield 140, 3) := by decide +kernel
theorem dX12_minute_125 : decode cX12_minute 125 = .ok (.iload_n 1, 1) := by decide +kernel
theorem dX12_minute_126 : decode cX12_minute 126 = .ok (.iload_n 2, 1) := by decide +kernel
theorem dX12_minute_127 : decode cX12_minute 127 = .ok (.iastore, 1) := by decide +kernel
theorem dX12_minute_128 : decode cX12_minute 128 = .ok (.iinc 1 1, 3) := by decide +kernel
theorem dX12_minute_131 : decode cX12_minute 131 = .ok (.goto (-65), 3) := by decide +kernel
theorem dX12_minute_134 : decode cX12_minute 134 = .ok (.aload_n 0, 1) := by decide +kernel
theorem dX12_minute_135 : decode cX12_minute 135 = .ok (.invokevirtual 583, 3) := by decide +kernel
theorem dX12_minute_138 : decode cX12_minute 138 = .ok (.aload_n 0, 1) := by decide +kernel
theorem dX12_minute_139 : decode cX12_minute 139 = .ok (.iconst 1, 1) := by decide +kernel
theorem dX12_minute_140 : decode cX12_minute 140 = .ok (.invokevirtual 586, 3) := by decide +kernel
theorem dX12_minute_143 : decode cX12_minute 143 = .ok (.iconst 0, 1) := by decide +kernel
theorem dX12_minute_144 : decode cX12_minute 144 = .ok (.istore_n 1, 1) := by decide +kernel
theorem dX12_minute_145 : decode cX12_minute 145 = .ok (.iload_n 1, 1) := by decide +kernel
theorem dX12_minute_146 : decode cX12_minute 146 = .ok (.sipush 288, 3) := by decide +kernel
theorem dX12_minute_149 : decode cX12_minute 149 = .ok (.if_icmp .ge 16, 3) := by decide +kernel
theorem dX12_minute_152 : decode cX12_minute 152 = .ok (.aload_n 0, 1) := by decide +kernel
theorem dX12_minute_153 : decode cX12_minute 153 = .ok (.getfield 74, 3) := by decide +kernel
theorem dX12_minute_156 : decode cX12_minute 156 = .ok (.iload_n 1, 1) := by decide +kernel
theorem dX12_minute_157 : decode cX12_minute 157 = .ok (.iconst 0, 1) := by decide +kernel
theorem dX12_minute_158 : decode cX12_minute 158 = .ok (.iastore, 1) := by decide +kernel
theorem dX12_minute_159 : decode cX12_minute 159 = .ok (.iinc 1 1, 3) := by decide +kernel
theorem dX12_minute_162 : decode cX12_minute 162 = .ok (.goto (-17), 3) := by decide +kernel
theorem dX12_minute_165 : decode cX12_minute 165 = .ok (.iconst 0, 1) := by decide +kernel
theorem dX12_minute_166 : decode cX12_minute 166 = .ok (.istore_n 1, 1) := by decide +kernel
theorem dX12_minute_167 : decode cX12_minute 167 = .ok (.iload_n 1, 1) := by decide +kernel
theorem dX12_minute_168 : decode cX12_minute 168 = .ok (.aload_n 0, 1) := by decide +kernel
theorem dX12_minute_169 : decode cX12_minute 169 = .ok (.getfield 525, 3) := by decide +kernel
theorem dX12_minute_172 : decode cX12_minute 172 = .ok (.if_icmp .ge 97, 3) := by decide +kernel
theorem dX12_minute_175 : decode cX12_minute 175 = .ok (.aload_n 0, 1) := by decide +kernel
theorem dX12_minute_176 : decode cX12_minute 176 = .ok (.getfield 220, 3) := by decide +kernel
theorem dX12_minute_179 : decode cX12_minute 179 = .ok (.iload_n 1, 1) := by decide +kernel
theorem dX12_minute_180 : decode cX12_minute 180 = .ok (.iaload, 1) := by decide +kernel
theorem dX12_minute_181 : decode cX12_minute 181 = .ok (.ifCond .ne 82, 3) := by decide +kernel
theorem dX12_minute_184 : decode cX12_minute 184 = .ok (.aload_n 0, 1) := by decide +kernel
theorem dX12_minute_185 : decode cX12_minute 185 = .ok (.aload_n 0, 1) := by decide +kernel
theorem dX12_minute_186 : decode cX12_minute 186 = .ok (.getfield 214, 3) := by decide +kernel
theorem dX12_minute_189 : decode cX12_minute 189 = .ok (.iload_n 1, 1) := by decide +kernel
theorem dX12_minute_190 : decode cX12_minute 190 = .ok (.iaload, 1) := by decide +kernel
theorem dX12_minute_191 : decode cX12_minute 191 = .ok (.invokevirtual 531, 3) := by decide +kernel
theorem dX12_minute_194 : decode cX12_minute 194 = .ok (.ifCond .eq 6, 3) := by decide +kernel
theorem dX12_minute_197 : decode cX12_minute 197 = .ok (.goto 66, 3) := by decide +kernel
theorem dX12_minute_200 : decode cX12_minute 200 = .ok (.iconst 0, 1) := by decide +kernel
theorem dX12_minute_201 : decode cX12_minute 201 = .ok (.istore_n 2, 1) := by decide +kernel
theorem dX12_minute_202 : decode cX12_minute 202 = .ok (.iconst 0, 1) := by decide +kernel
theorem dX12_minute_203 : decode cX12_minute 203 = .ok (.istore_n 3, 1) := by decide +kernel
theorem dX12_minute_204 : decode cX12_minute 204 = .ok (.iload_n 3, 1) := by decide +kernel
theorem dX12_minute_205 : decode cX12_minute 205 = .ok (.aload_n 0, 1) := by decide +kernel
theorem dX12_minute_206 : decode cX12_minute 206 = .ok (.getfield 366, 3) := by decide +kernel
theorem dX12_minute_209 : decode cX12_minute 209 = .ok (.if_icmp .ge 44, 3) := by decide +kernel
theorem dX12_minute_212 : decode cX12_minute 212 = .ok (.iload_n 2, 1) := by decide +kernel
theorem dX12_minute_213 : decode cX12_minute 213 = .ok (.ifCond .ne 28, 3) := by decide +kernel
theorem dX12_minute_216 : decode cX12_minute 216 = .ok (.aload_n 0, 1) := by decide +kernel
theorem dX12_minute_217 : decode cX12_minute 217 = .ok (.getfield 128, 3) := by decide +kernel
theorem dX12_minute_220 : decode cX12_minute 220 = .ok (.iload_n 3, 1) := by decide +kernel
theorem dX12_minute_221 : decode cX12_minute 221 = .ok (.iaload, 1) := by decide +kernel
theorem dX12_minute_222 : decode cX12_minute 222 = .ok (.iconst 2, 1) := by decide +kernel
theorem dX12_minute_223 : decode cX12_minute 223 = .ok (.if_icmp .ne 22, 3) := by decide +kernel
theorem dX12_minute_226 : decode cX12_minute 226 = .ok (.aload_n 0, 1) := by decide +kernel
theorem dX12_minute_227 : decode cX12_minute 227 = .ok (.getfield 131, 3) := by decide +kernel
theorem dX12_minute_230 : decode cX12_minute 230 = .ok (.iload_n 3, 1) := by decide +kernel
theorem dX12_minute_231 : decode cX12_minute 231 = .ok (.iaload, 1) := by decide +kernel
theorem dX12_minute_232 : decode cX12_minute 232 = .ok (.aload_n 0, 1) := by decide +kernel
theorem dX12_minute_233 : decode cX12_minute 233 = .ok (.getfield 214, 3) := by decide +kernel
theorem dX12_minute_236 : decode cX12_minute 236 = .ok (.iload_n 1, 1) := by decide +kernel
theorem dX12_minute_237 : decode cX12_minute 237 = .ok (.iaload, 1) := by decide +kernel
theorem dX12_minute_238 : decode cX12_minute 238 = .ok (.if_icmp .ne 7, 3) := by decide +kernel
theorem dX12_minute_241 : decode cX12_minute 241 = .ok (.iconst 1, 1) := by decide +kernel
theorem dX12_minute_242 : decode cX12_minute 242 = .ok (.goto 4, 3) := by decide +kernel
theorem dX12_minute_245 : decode cX12_minute 245 = .ok (.iconst 0, 1) := by decide +kernel
theorem dX12_minute_246 : decode cX12_minute 246 = .ok (.istore_n 2, 1) := by decide +kernel
theorem dX12_minute_247 : decode cX12_minute 247 = .ok (.iinc 3 1, 3) := by decide +kernel
theorem dX12_minute_250 : decode cX12_minute 250 = .ok (.goto (-46), 3) := by decide +kernel
theorem dX12_minute_253 : decode cX12_minute 253 = .ok (.iload_n 2, 1) := by decide +kernel
theorem dX12_minute_254 : decode cX12_minute 254 = .ok (.ifCond .eq 9, 3) := by decide +kernel
theorem dX12_minute_257 : decode cX12_minute 257 = .ok (.aload_n 0, 1) := by decide +kernel
theorem dX12_minute_258 : decode cX12_minute 258 = .ok (.iload_n 1, 1) := by decide +kernel
theorem dX12_minute_259 : decode cX12_minute 259 = .ok (.iconst 0, 1) := by decide +kernel
theorem dX12_minute_260 : decode cX12_minute 260 = .ok (.invokevirtual 561, 3) := by decide +kernel
theorem dX12_minute_263 : decode cX12_minute 263 = .ok (.iinc 1 1, 3) := by decide +kernel
theorem dX12_minute_266 : decode cX12_minute 266 = .ok (.goto (-99), 3) := by decide +kernel
theorem dX12_minute_269 : decode cX12_minute 269 = .ok (.iconst 0, 1) := by decide +kernel
theorem dX12_minute_270 : decode cX12_minute 270 = .ok (.istore_n 1, 1) := by decide +kernel
theorem dX12_minute_271 : decode cX12_minute 271 = .ok (.iload_n 1, 1) := by decide +kernel
theorem dX12_minute_272 : decode cX12_minute 272 = .ok (.aload_n 0, 1) := by decide +kernel
theorem dX12_minute_273 : decode cX12_minute 273 = .ok (.getfield 366, 3) := by decide +kernel
theorem dX12_minute_276 : decode cX12_minute 276 = .ok (.if_icmp .ge 43, 3) := by decide +kernel
theorem dX12_minute_279 : decode cX12_minute 279 = .ok (.aload_n 0, 1) := by decide +kernel
theorem dX12_minute_280 : decode cX12_minute 280 = .ok (.getfield 128, 3) := by decide +kernel
theorem dX12_minute_283 : decode cX12_minute 283 = .ok (.iload_n 1, 1) := by decide +kernel
theorem dX12_minute_284 : decode cX12_minute 284 = .ok (.iaload, 1) := by decide +kernel
theorem dX12_minute_285 : decode cX12_minute 285 = .ok (.iconst 2, 1) := by decide +kernel
theorem dX12_minute_286 : decode cX12_minute 286 = .ok (.if_icmp .ne 27, 3) := by decide +kernel
theorem dX12_minute_289 : decode cX12_minute 289 = .ok (.aload_n 0, 1) := by decide +kernel
theorem dX12_minute_290 : decode cX12_minute 290 = .ok (.aload_n 0, 1) := by decide +kernel
theorem dX12_minute_291 : decode cX12_minute 291 = .ok (.getfield 131, 3) := by decide +kernel
theorem dX12_minute_294 : decode cX12_minute 294 = .ok (.iload_n 1, 1) := by decide +kernel
theorem dX12_minute_295 : decode cX12_minute 295 = .ok (.iaload, 1) := by decide +kernel
theorem dX12_minute_296 : decode cX12_minute 296 = .ok (.invokevirtual 531, 3) := by decide +kernel
theorem dX12_minute_299 : decode cX12_minute 299 = .ok (.ifCond .ne 14, 3) := by decide +kernel
theorem dX12_minute_302 : decode cX12_minute 302 = .ok (.aload_n 0, 1) := by decide +kernel
theorem dX12_minute_303 : decode cX12_minute 303 = .ok (.iload_n 1, 1) := by decide +kernel
theorem dX12_minute_304 : decode cX12_minute 304 = .ok (.aload_n 0, 1) := by decide +kernel
theorem dX12_minute_305 : decode cX12_minute 305 = .ok (.getfield 131, 3) := by decide +kernel
theorem dX12_minute_308 : decode cX12_minute 308 = .ok (.iload_n 1, 1) := by decide +kernel
theorem dX12_minute_309 : decode cX12_minute 309 = .ok (.iaload, 1) := by decide +kernel
theorem dX12_minute_310 : decode cX12_minute 310 = .ok (.invokevirtual 405, 3) := by decide +kernel
theorem dX12_minute_313 : decode cX12_minute 313 = .ok (.iinc 1 1, 3) := by decide +kernel
theorem dX12_minute_316 : decode cX12_minute 316 = .ok (.goto (-45), 3) := by decide +kernel
theorem dX12_minute_319 : decode cX12_minute 319 = .ok (.iconst 0, 1) := by decide +kernel
theorem dX12_minute_320 : decode cX12_minute 320 = .ok (.istore_n 1, 1) := by decide +kernel
theorem dX12_minute_321 : decode cX12_minute 321 = .ok (.iload_n 1, 1) := by decide +kernel
theorem dX12_minute_322 : decode cX12_minute 322 = .ok (.aload_n 0, 1) := by decide +kernel
theorem dX12_minute_323 : decode cX12_minute 323 = .ok (.getfield 366, 3) := by decide +kernel
theorem dX12_minute_326 : decode cX12_minute 326 = .ok (.if_icmp .ge 76, 3) := by decide +kernel
theorem dX12_minute_329 : decode cX12_minute 329 = .ok (.aload_n 0, 1) := by decide +kernel
theorem dX12_minute_330 : decode cX12_minute 330 = .ok (.getfield 128, 3) := by decide +kernel
theorem dX12_minute_333 : decode cX12_minute 333 = .ok (.iload_n 1, 1) := by decide +kernel
theorem dX12_minute_334 : decode cX12_minute 334 = .ok (.iaload, 1) := by decide +kernel
theorem dX12_minute_335 : decode cX12_minute 335 = .ok (.ifCond .ne 7, 3) := by decide +kernel
theorem dX12_minute_338 : decode cX12_minute 338 = .ok (.iconst (-1), 1) := by decide +kernel
theorem dX12_minute_339 : decode cX12_minute 339 = .ok (.goto 18, 3) := by decide +kernel
theorem dX12_minute_342 : decode cX12_minute 342 = .ok (.aload_n 0, 1) := by decide +kernel
theorem dX12_minute_343 : decode cX12_minute 343 = .ok (.getfield 128, 3) := by decide +kernel
theorem dX12_minute_346 : decode cX12_minute 346 = .ok (.iload_n 1, 1) := by decide +kernel
theorem dX12_minute_347 : decode cX12_minute 347 = .ok (.iaload, 1) := by decide +kernel
theorem dX12_minute_348 : decode cX12_minute 348 = .ok (.iconst 2, 1) := by decide +kernel
theorem dX12_minute_349 : decode cX12_minute 349 = .ok (.if_icmp .ne 7, 3) := by decide +kernel
theorem dX12_minute_352 : decode cX12_minute 352 = .ok (.iconst 2, 1) := by decide +kernel
theorem dX12_minute_353 : decode cX12_minute 353 = .ok (.goto 4, 3) := by decide +kernel
theorem dX12_minute_356 : decode cX12_minute 356 = .ok (.iconst 1, 1) := by decide +kernel
theorem dX12_minute_357 : decode cX12_minute 357 = .ok (.istore_n 2, 1) := by decide +kernel
theorem dX12_minute_358 : decode cX12_minute 358 = .ok (.aload_n 0, 1) := by decide +kernel
theorem dX12_minute_359 : decode cX12_minute 359 = .ok (.getfield 146, 3) := by decide +kernel
theorem dX12_minute_362 : decode cX12_minute 362 = .ok (.iload_n 1, 1) := by decide +kernel
theorem dX12_minute_363 : decode cX12_minute 363 = .ok (.aload_n 0, 1) := by decide +kernel
theorem dX12_minute_364 : decode cX12_minute 364 = .ok (.getfield 128, 3) := by decide +kernel
theorem dX12_minute_367 : decode cX12_minute 367 = .ok (.iload_n 1, 1) := by decide +kernel
theorem dX12_minute_368 : decode cX12_minute 368 = .ok (.iaload, 1) := by decide +kernel
theorem dX12_minute_369 : decode cX12_minute 369 = .ok (.iconst 4, 1) := by decide +kernel
theorem dX12_minute_370 : decode cX12_minute 370 = .ok (.if_icmp .ne 7, 3) := by decide +kernel
theorem dX12_minute_373 : decode cX12_minute 373 = .ok (.iconst 0, 1) := by decide +kernel
theorem dX12_minute_374 : decode cX12_minute 374 = .ok (.goto 21, 3) := by decide +kernel
theorem dX12_minute_377 : decode cX12_minute 377 = .ok (.iconst 0, 1) := by decide +kernel
theorem dX12_minute_378 : decode cX12_minute 378 = .ok (.sipush 300, 3) := by decide +kernel
theorem dX12_minute_381 : decode cX12_minute 381 = .ok (.aload_n 0, 1) := by decide +kernel
theorem dX12_minute_382 : decode cX12_minute 382 = .ok (.getfield 146, 3) := by decide +kernel
theorem dX12_minute_385 : decode cX12_minute 385 = .ok (.iload_n 1, 1) := by decide +kernel
theorem dX12_minute_386 : decode cX12_minute 386 = .ok (.iaload, 1) := by decide +kernel
theorem dX12_minute_387 : decode cX12_minute 387 = .ok (.iload_n 2, 1) := by decide +kernel
theorem dX12_minute_388 : decode cX12_minute 388 = .ok (.iadd, 1) := by decide +kernel
theorem dX12_minute_389 : decode cX12_minute 389 = .ok (.invokestatic 311, 3) := by decide +kernel
theorem dX12_minute_392 : decode cX12_minute 392 = .ok (.invokestatic 357, 3) := by decide +kernel
theorem dX12_minute_395 : decode cX12_minute 395 = .ok (.iastore, 1) := by decide +kernel
theorem dX12_minute_396 : decode cX12_minute 396 = .ok (.iinc 1 1, 3) := by decide +kernel
theorem dX12_minute_399 : decode cX12_minute 399 = .ok (.goto (-78), 3) := by decide +kernel
theorem dX12_minute_402 : decode cX12_minute 402 = .ok (.iconst 0, 1) := by decide +kernel
theorem dX12_minute_403 : decode cX12_minute 403 = .ok (.istore_n 1, 1) := by decide +kernel
theorem dX12_minute_404 : decode cX12_minute 404 = .ok (.iload_n 1, 1) := by decide +kernel
theorem dX12_minute_405 : decode cX12_minute 405 = .ok (.aload_n 0, 1) := by decide +kernel
theorem dX12_minute_406 : decode cX12_minute 406 = .ok (.getfield 525, 3) := by decide +kernel
theorem dX12_minute_409 : decode cX12_minute 409 = .ok (.if_icmp .ge 38, 3) := by decide +kernel
theorem dX12_minute_412 : decode cX12_minute 412 = .ok (.aload_n 0, 1) := by decide +kernel
theorem dX12_minute_413 : decode cX12_minute 413 = .ok (.getfield 220, 3) := by decide +kernel
theorem dX12_minute_416 : decode cX12_minute 416 = .ok (.iload_n 1, 1) := by decide +kernel
theorem dX12_minute_417 : decode cX12_minute 417 = .ok (.iaload, 1) := by decide +kernel
theorem dX12_minute_418 : decode cX12_minute 418 = .ok (.ifCond .ne 23, 3) := by decide +kernel
theorem dX12_minute_421 : decode cX12_minute 421 = .ok (.aload_n 0, 1) := by decide +kernel
theorem dX12_minute_422 : decode cX12_minute 422 = .ok (.aload_n 0, 1) := by decide +kernel
theorem dX12_minute_423 : decode cX12_minute 423 = .ok (.getfield 214, 3) := by decide +kernel
theorem dX12_minute_426 : decode cX12_minute 426 = .ok (.iload_n 1, 1) := by decide +kernel
theorem dX12_minute_427 : decode cX12_minute 427 = .ok (.iaload, 1) := by decide +kernel
theorem dX12_minute_428 : decode cX12_minute 428 = .ok (.invokevirtual 531, 3) := by decide +kernel
theorem dX12_minute_431 : decode cX12_minute 431 = .ok (.ifCond .eq 10, 3) := by decide +kernel
theorem dX12_minute_434 : decode cX12_minute 434 = .ok (.aload_n 0, 1) := by decide +kernel
theorem dX12_minute_435 : decode cX12_minute 435 = .ok (.getfield 238, 3) := by decide +kernel
theorem dX12_minute_438 : decode cX12_minute 438 = .ok (.iload_n 1, 1) := by decide +kernel
theorem dX12_minute_439 : decode cX12_minute 439 = .ok (.iconst 1, 1) := by decide +kernel
theorem dX12_minute_440 : decode cX12_minute 440 = .ok (.bastore, 1) := by decide +kernel
theorem dX12_minute_441 : decode cX12_minute 441 = .ok (.iinc 1 1, 3) := by decide +kernel
theorem dX12_minute_444 : decode cX12_minute 444 = .ok (.goto (-40), 3) := by decide +kernel
theorem dX12_minute_447 : decode cX12_minute 447 = .ok (.return_, 1) := by decide +kernel
theorem okX12_minute : ab_okM MX12_minute 0 := ⟨by decide, ⟨by decide, by decide⟩, ab_in 2546 (by decide +kernel) (by decide +kernel), ab_in 99 (by decide +kernel) (by decide +kernel), by decide +kernel, by decide⟩
set_option maxHeartbeats 4000000 in
set_option maxRecDepth 100000 in
theorem sX12_minute_404 (v1 : Int32)  (x : ab_X) (K : ab_X → Prop)  (d bc bs : Nat) (hdp : 212 ≤ d)  (h : Lp2 (lX12_minute_404  K ) v1 x) : EW MX12_minute 404 [(0, .ref 246), (1, .int v1)] [] (aS x) d bc bs (liV K) := by
  refine Lp2.use (P := fun v1 x => EW MX12_minute 404 [(0, .ref 246), (1, .int v1)] [] (aS x) d bc bs (liV K)) (fun L404 v1 x hL404 h => ?_) v1 x h
  unfold lX12_minute_404 at h
  refine EW_iload_n (pc2 := 405) rfl dX12_minute_404 1 rfl ?_
  refine EW_aload_n (pc2 := 406) rfl dX12_minute_405 0 rfl ?_
  refine AW_geti ⟨gfRX12_525, rfl⟩ (pc2 := 409) rfl dX12_minute_406 q246 ?_
  refine EW_icmp_ge (tgt := 447) (pc2 := 412) rfl dX12_minute_409 (by decide) (fun q => ?_) (fun q => ?_)
  · replace h := h.1 q
    exact EW_vret rfl dX12_minute_447 ⟨_, rfl, rfl, h⟩
  · replace h := h.2 q
    refine EW_aload_n (pc2 := 413) rfl dX12_minute_412 0 rfl ?_
    refine AW_getr (r := 312) ⟨gfRX12_220, rfl⟩ (pc2 := 416) rfl dX12_minute_413 q246 rfl ?_
    refine EW_iload_n (pc2 := 417) rfl dX12_minute_416 1 rfl ?_
    obtain ⟨b23, h⟩ := h
    refine AW_iald (pc2 := 418) rfl dX12_minute_417 q312 b23 ?_
    refine EW_if_ne (tgt := 441) (pc2 := 421) rfl dX12_minute_418 (by decide) (fun q => ?_) (fun q => ?_)
    · replace h := h.1 q
      refine EW_iinc (v1 + 1) (pc2 := 444) rfl dX12_minute_441 1 rfl rfl (by decide) [1, 0] [(0, .ref 246), (1, .int (v1 + 1))] rfl ?_
      refine EW_goto (tgt := 404) dX12_minute_444 (by decide) ?_
      exact hL404 (v1 + 1) x h
    · replace h := h.2 q
      refine EW_aload_n (pc2 := 422) rfl dX12_minute_421 0 rfl ?_
      refine EW_aload_n (pc2 := 423) rfl dX12_minute_422 0 rfl ?_
      refine AW_getr (r := 310) ⟨gfRX12_214, rfl⟩ (pc2 := 426) rfl dX12_minute_423 q246 rfl ?_
      refine EW_iload_n (pc2 := 427) rfl dX12_minute_426 1 rfl ?_
      obtain ⟨b24, h⟩ := h
      refine AW_iald (pc2 := 428) rfl dX12_minute_427 q310 b24 ?_
      refine AW_invV (M' := MX12_burnsAt) [.int (x.1 310 (Int32.toNatClampNeg v1))] (rest := []) mlRX12_531 okX12_burnsAt (pc2 := 431) rfl dX12_minute_428 rfl rfl (Nat.le_of_ble_eq_true rfl) (Nat.le_of_ble_eq_true rfl) (d' := 3) (by omega) q246 ⟨by decide, rfl⟩ (EW_mono (fun _ _ hr => ?_) (sX12_burnsAt (x.1 310 (Int32.toNatClampNeg v1))  x _ _ 0 0 (Nat.le_refl _) h))
      obtain ⟨r25, rfl, rfl, h⟩ := hr
      refine EW_if_eq (tgt := 441) (pc2 := 434) rfl dX12_minute_431 (by decide) (fun q => ?_) (fun q => ?_)
      · replace h := h.1 q
        refine EW_iinc (v1 + 1) (pc2 := 444) rfl dX12_minute_441 1 rfl rfl (by decide) [1, 0] [(0, .ref 246), (1, .int (v1 + 1))] rfl ?_
        refine EW_goto (tgt := 404) dX12_minute_444 (by decide) ?_
        exact hL404 (v1 + 1) x h
      · replace h := h.2 q
        refine EW_aload_n (pc2 := 435) rfl dX12_minute_434 0 rfl ?_
        refine AW_getr (r := 318) ⟨gfRX12_238, rfl⟩ (pc2 := 438) rfl dX12_minute_435 q246 rfl ?_
        refine EW_iload_n (pc2 := 439) rfl dX12_minute_438 1 rfl ?_
        refine EW_iconst (pc2 := 440) (v := 1) rfl dX12_minute_439 (by decide) ?_
        obtain ⟨b26, h⟩ := h
        refine AW_zast (pc2 := 441) rfl dX12_minute_440 q318 b26 isB1 ?_
        refine EW_iinc (v1 + 1) (pc2 := 444) rfl dX12_minute_441 1 rfl rfl (by decide) [1, 0] [(0, .ref 246), (1, .int (v1 + 1))] rfl ?_
        refine EW_goto (tgt := 404) dX12_minute_444 (by decide) ?_
        exact hL404 (v1 + 1) (wr x 318 (Int32.toNatClampNeg v1) 1) h
set_option maxHeartbeats 4000000 in
set_option maxRecDepth 100000 in
theorem sX12_minute_357 (v1 : Int32) (s0 : Int32)  (x : ab_X) (K : ab_X → Prop) (L321 : Int32 → ab_X → Prop) (d bc bs : Nat) (hdp : 212 ≤ d) (hL321 : ∀ (v1 : Int32) (x : ab_X), L321 v1 x → EW MX12_minute 321 [(0, .ref 246), (1, .int v1)] [] (aS x) d bc bs (liV K)) (h : wX12_minute_357 v1 s0 x K L321) : EW MX12_minute 357 [(0, .ref 246), (1, .int v1)] [.int s0] (aS x) d bc bs (liV K) := by
  unfold wX12_minute_357 at h
  refine EW_istore_n (pc2 := 358) rfl dX12_minute_357 (by decide) [1, 2, 0] [(0, .ref 246), (1, .int v1), (2, .int s0)] rfl ?_
  refine EW_aload_n (pc2 := 359) rfl dX12_minute_358 0 rfl ?_
  refine AW_getr (r := 292) ⟨gfRX12_146, rfl⟩ (pc2 := 362) rfl dX12_minute_359 q246 rfl ?_
  refine EW_iload_n (pc2 := 363) rfl dX12_minute_362 1 rfl ?_
  refine EW_aload_n (pc2 := 364) rfl dX12_minute_363 0 rfl ?_
  refine AW_getr (r := 286) ⟨gfRX12_128, rfl⟩ (pc2 := 367) rfl dX12_minute_364 q246 rfl ?_
  refine EW_iload_n (pc2 := 368) rfl dX12_minute_367 1 rfl ?_
  obtain ⟨b27, h⟩ := h
  refine AW_iald (pc2 := 369) rfl dX12_minute_368 q286 b27 ?_
  refine EW_iconst (pc2 := 370) (v := 4) rfl dX12_minute_369 (by decide) ?_
  refine EW_icmp_ne (tgt := 377) (pc2 := 373) rfl dX12_minute_370 (by decide) (fun q => ?_) (fun q => ?_)
  · replace h := h.1 q
    refine EW_iconst (pc2 := 378) (v := 0) rfl dX12_minute_377 (by decide) ?_
    refine EW_sipush (pc2 := 381) (v := 300) rfl dX12_minute_378 (by decide) ?_
    refine EW_aload_n (pc2 := 382) rfl dX12_minute_381 0 rfl ?_
    refine AW_getr (r := 292) ⟨gfRX12_146, rfl⟩ (pc2 := 385) rfl dX12_minute_382 q246 rfl ?_
    refine EW_iload_n (pc2 := 386) rfl dX12_minute_385 1 rfl ?_
    obtain ⟨b28, h⟩ := h
    refine AW_iald (pc2 := 387) rfl dX12_minute_386 q292 b28 ?_
    refine EW_iload_n (pc2 := 388) rfl dX12_minute_387 2 rfl ?_
    refine EW_iadd (pc2 := 389) rfl dX12_minute_388 ?_
    refine AW_mmin mmRX12_311 (pc2 := 392) rfl dX12_minute_389 (Nat.le_of_ble_eq_true rfl) (by omega) ?_
    refine AW_mmax mmRX12_357 (pc2 := 395) rfl dX12_minute_392 (Nat.le_of_ble_eq_true rfl) (by omega) ?_
    obtain ⟨b29, h⟩ := h
    refine AW_iast (pc2 := 396) rfl dX12_minute_395 q292 b29 ?_
    refine EW_iinc (v1 + 1) (pc2 := 399) rfl dX12_minute_396 1 rfl rfl (by decide) [1, 0, 2] [(0, .ref 246), (1, .int (v1 + 1)), (2, .int s0)] rfl ?_
    refine EW_goto (tgt := 321) dX12_minute_399 (by decide) ?_
    refine EW_ls [0, 1] rfl ?_
    exact hL321 (v1 + 1) (wr x 292 (Int32.toNatClampNeg v1) (imax 0 (imin 300 ((x.1 292 (Int32.toNatClampNeg v1)) + s0)))) h
  · replace h := h.2 q
    refine EW_iconst (pc2 := 374) (v := 0) rfl dX12_minute_373 (by decide) ?_
    refine EW_goto (tgt := 395) dX12_minute_374 (by decide) ?_
    obtain ⟨b30, h⟩ := h
    refine AW_iast (pc2 := 396) rfl dX12_minute_395 q292 b30 ?_
    refine EW_iinc (v1 + 1) (pc2 := 399) rfl dX12_minute_396 1 rfl rfl (by decide) [1, 0, 2] [(0, .ref 246), (1, .int (v1 + 1)), (2, .int s0)] rfl ?_
    refine EW_goto (tgt := 321) dX12_minute_399 (by decide) ?_
    refine EW_ls [0, 1] rfl ?_
    exact hL321 (v1 + 1) (wr x 292 (Int32.toNatClampNeg v1) 0) h
set_option maxHeartbeats 4000000 in
set_option maxRecDepth 100000 in
theorem sX12_minute_321 (v1 : Int32)  (x : ab_X) (K : ab_X → Prop)  (d bc bs : Nat) (hdp : 212 ≤ d)  (h : Lp2 (lX12_minute_321  K ) v1 x) : EW MX12_minute 321 [(0, .ref 246), (1, .int v1)] [] (aS x) d bc bs (liV K) := by
  refine Lp2.use (P := fun v1 x => EW MX12_minute 321 [(0, .ref 246), (1, .int v1)] [] (aS x) d bc bs (liV K)) (fun L321 v1 x hL321 h => ?_) v1 x h
  unfold lX12_minute_321 at h
  refine EW_iload_n (pc2 := 322) rfl dX12_minute_321 1 rfl ?_
  refine EW_aload_n (pc2 := 323) rfl dX12_minute_322 0 rfl ?_
  refine AW_geti ⟨gfRX12_366, rfl⟩ (pc2 := 326) rfl dX12_minute_323 q246 ?_
  refine EW_icmp_ge (tgt := 402) (pc2 := 329) rfl dX12_minute_326 (by decide) (fun q => ?_) (fun q => ?_)
  · replace h := h.1 q
    refine EW_iconst (pc2 := 403) (v := 0) rfl dX12_minute_402 (by decide) ?_
    refine EW_istore_n (pc2 := 404) rfl dX12_minute_403 (by decide) [1, 0] [(0, .ref 246), (1, .int 0)] rfl ?_
    exact sX12_minute_404 0 x K d bc bs hdp h
  · replace h := h.2 q
    refine EW_aload_n (pc2 := 330) rfl dX12_minute_329 0 rfl ?_
    refine AW_getr (r := 286) ⟨gfRX12_128, rfl⟩ (pc2 := 333) rfl dX12_minute_330 q246 rfl ?_
    refine EW_iload_n (pc2 := 334) rfl dX12_minute_333 1 rfl ?_
    obtain ⟨b21, h⟩ := h
    refine AW_iald (pc2 := 335) rfl dX12_minute_334 q286 b21 ?_
    refine EW_if_ne (tgt := 342) (pc2 := 338) rfl dX12_minute_335 (by decide) (fun q => ?_) (fun q => ?_)
    · replace h := h.1 q
      refine EW_aload_n (pc2 := 343) rfl dX12_minute_342 0 rfl ?_
      refine AW_getr (r := 286) ⟨gfRX12_128, rfl⟩ (pc2 := 346) rfl dX12_minute_343 q246 rfl ?_
      refine EW_iload_n (pc2 := 347) rfl dX12_minute_346 1 rfl ?_
      obtain ⟨b22, h⟩ := h
      refine AW_iald (pc2 := 348) rfl dX12_minute_347 q286 b22 ?_
      refine EW_iconst (pc2 := 349) (v := 2) rfl dX12_minute_348 (by decide) ?_
      refine EW_icmp_ne (tgt := 356) (pc2 := 352) rfl dX12_minute_349 (by decide) (fun q => ?_) (fun q => ?_)
      · replace h := h.1 q
        refine EW_iconst (pc2 := 357) (v := 1) rfl dX12_minute_356 (by decide) ?_
        exact sX12_minute_357 v1 1 x K L321 d bc bs hdp hL321 h
      · replace h := h.2 q
        refine EW_iconst (pc2 := 353) (v := 2) rfl dX12_minute_352 (by decide) ?_
        refine EW_goto (tgt := 357) dX12_minute_353 (by decide) ?_
        exact sX12_minute_357 v1 2 x K L321 d bc bs hdp hL321 h
    · replace h := h.2 q
      refine EW_iconst (pc2 := 339) (v := (-1)) rfl dX12_minute_338 (by decide) ?_
      refine EW_goto (tgt := 357) dX12_minute_339 (by decide) ?_
      exact sX12_minute_357 v1 (-1) x K L321 d bc bs hdp hL321 h
set_option maxHeartbeats 4000000 in
set_option maxRecDepth 100000 in
theorem sX12_minute_271 (v1 : Int32)  (x : ab_X) (K : ab_X → Prop)  (d bc bs : Nat) (hdp : 212 ≤ d)  (h : Lp2 (lX12_minute_271  K ) v1 x) : EW MX12_minute 271 [(0, .ref 246), (1, .int v1)] [] (aS x) d bc bs (liV K) := by
  refine Lp2.use (P := fun v1 x => EW MX12_minute 271 [(0, .ref 246), (1, .int v1)] [] (aS x) d bc bs (liV K)) (fun L271 v1 x hL271 h => ?_) v1 x h
  unfold lX12_minute_271 at h
  refine EW_iload_n (pc2 := 272) rfl dX12_minute_271 1 rfl ?_
  refine EW_aload_n (pc2 := 273) rfl dX12_minute_272 0 rfl ?_
  refine AW_geti ⟨gfRX12_366, rfl⟩ (pc2 := 276) rfl dX12_minute_273 q246 ?_
  refine EW_icmp_ge (tgt := 319) (pc2 := 279) rfl dX12_minute_276 (by decide) (fun q => ?_) (fun q => ?_)
  · replace h := h.1 q
    refine EW_iconst (pc2 := 320) (v := 0) rfl dX12_minute_319 (by decide) ?_
    refine EW_istore_n (pc2 := 321) rfl dX12_minute_320 (by decide) [1, 0] [(0, .ref 246), (1, .int 0)] rfl ?_
    exact sX12_minute_321 0 x K d bc bs hdp h
  · replace h := h.2 q
    refine EW_aload_n (pc2 := 280) rfl dX12_minute_279 0 rfl ?_
    refine AW_getr (r := 286) ⟨gfRX12_128, rfl⟩ (pc2 := 283) rfl dX12_minute_280 q246 rfl ?_
    refine EW_iload_n (pc2 := 284) rfl dX12_minute_283 1 rfl ?_
    obtain ⟨b16, h⟩ := h
    refine AW_iald (pc2 := 285) rfl dX12_minute_284 q286 b16 ?_
    refine EW_iconst (pc2 := 286) (v := 2) rfl dX12_minute_285 (by decide) ?_
    refine EW_icmp_ne (tgt := 313) (pc2 := 289) rfl dX12_minute_286 (by decide) (fun q => ?_) (fun q => ?_)
    · replace h := h.1 q
      refine EW_iinc (v1 + 1) (pc2 := 316) rfl dX12_minute_313 1 rfl rfl (by decide) [1, 0] [(0, .ref 246), (1, .int (v1 + 1))] rfl ?_
      refine EW_goto (tgt := 271) dX12_minute_316 (by decide) ?_
      exact hL271 (v1 + 1) x h
    · replace h := h.2 q
      refine EW_aload_n (pc2 := 290) rfl dX12_minute_289 0 rfl ?_
      refine EW_aload_n (pc2 := 291) rfl dX12_minute_290 0 rfl ?_
      refine AW_getr (r := 287) ⟨gfRX12_131, rfl⟩ (pc2 := 294) rfl dX12_minute_291 q246 rfl ?_
      refine EW_iload_n (pc2 := 295) rfl dX12_minute_294 1 rfl ?_
      obtain ⟨b17, h⟩ := h
      refine AW_iald (pc2 := 296) rfl dX12_minute_295 q287 b17 ?_
      refine AW_invV (M' := MX12_burnsAt) [.int (x.1 287 (Int32.toNatClampNeg v1))] (rest := []) mlRX12_531 okX12_burnsAt (pc2 := 299) rfl dX12_minute_296 rfl rfl (Nat.le_of_ble_eq_true rfl) (Nat.le_of_ble_eq_true rfl) (d' := 3) (by omega) q246 ⟨by decide, rfl⟩ (EW_mono (fun _ _ hr => ?_) (sX12_burnsAt (x.1 287 (Int32.toNatClampNeg v1))  x _ _ 0 0 (Nat.le_refl _) h))
      obtain ⟨r18, rfl, rfl, h⟩ := hr
      refine EW_if_ne (tgt := 313) (pc2 := 302) rfl dX12_minute_299 (by decide) (fun q => ?_) (fun q => ?_)
      · replace h := h.1 q
        refine EW_iinc (v1 + 1) (pc2 := 316) rfl dX12_minute_313 1 rfl rfl (by decide) [1, 0] [(0, .ref 246), (1, .int (v1 + 1))] rfl ?_
        refine EW_goto (tgt := 271) dX12_minute_316 (by decide) ?_
        exact hL271 (v1 + 1) x h
      · replace h := h.2 q
        refine EW_aload_n (pc2 := 303) rfl dX12_minute_302 0 rfl ?_
        refine EW_iload_n (pc2 := 304) rfl dX12_minute_303 1 rfl ?_
        refine EW_aload_n (pc2 := 305) rfl dX12_minute_304 0 rfl ?_
        refine AW_getr (r := 287) ⟨gfRX12_131, rfl⟩ (pc2 := 308) rfl dX12_minute_305 q246 rfl ?_
        refine EW_iload_n (pc2 := 309) rfl dX12_minute_308 1 rfl ?_
        obtain ⟨b19, h⟩ := h
        refine AW_iald (pc2 := 310) rfl dX12_minute_309 q287 b19 ?_
        refine AW_invV (M' := MX12_turns) [.int v1, .int (x.1 287 (Int32.toNatClampNeg v1))] (rest := []) mlRX12_405 okX12_turns (pc2 := 313) rfl dX12_minute_310 rfl rfl (Nat.le_of_ble_eq_true rfl) (Nat.le_of_ble_eq_true rfl) (d' := 2) (by omega) q246 ⟨by decide, rfl⟩ (EW_mono (fun _ _ hr => ?_) (sX12_turns v1 (x.1 287 (Int32.toNatClampNeg v1))  x _ _ 0 0 (Nat.le_refl _) h))
        obtain ⟨x20, rfl, rfl, h⟩ := hr
        refine EW_iinc (v1 + 1) (pc2 := 316) rfl dX12_minute_313 1 rfl rfl (by decide) [1, 0] [(0, .ref 246), (1, .int (v1 + 1))] rfl ?_
        refine EW_goto (tgt := 271) dX12_minute_316 (by decide) ?_
        exact hL271 (v1 + 1) x20 h
set_option maxHeartbeats 4000000 in
set_option maxRecDepth 100000 in
theorem sX12_minute_241 (v1 : Int32) (v3 : Int32)  (x : ab_X) (K : ab_X → Prop) (L167 : Int32 → ab_X → Prop) (L204 : Int32 → Int32 → Prop) (d bc bs : Nat) (hdp : 212 ≤ d) (hL167 : ∀ (v1 : Int32) (x : ab_X), L167 v1 x → EW MX12_minute 167 [(0, .ref 246), (1, .int v1)] [] (aS x) d bc bs (liV K)) (hL204 : ∀ (v2 : Int32) (v3 : Int32), L204 v2 v3 → EW MX12_minute 204 [(0, .ref 246), (1, .int v1), (2, .int v2), (3, .int v3)] [] (aS x) d bc bs (liV K)) (h : wX12_minute_241 v1 v3 x K L167 L204) : EW MX12_minute 241 [(0, .ref 246), (1, .int v1), (3, .int v3)] [] (aS x) d bc bs (liV K) := by
  unfold wX12_minute_241 at h
  refine EW_iconst (pc2 := 242) (v := 1) rfl dX12_minute_241 (by decide) ?_
  refine EW_goto (tgt := 246) dX12_minute_242 (by decide) ?_
  refine EW_istore_n (pc2 := 247) rfl dX12_minute_246 (by decide) [1, 2, 0, 3] [(0, .ref 246), (1, .int v1), (2, .int 1), (3, .int v3)] rfl ?_
  refine EW_iinc (v3 + 1) (pc2 := 250) rfl dX12_minute_247 3 rfl rfl (by decide) [1, 2, 3, 0] [(0, .ref 246), (1, .int v1), (2, .int 1), (3, .int (v3 + 1))] rfl ?_
  refine EW_goto (tgt := 204) dX12_minute_250 (by decide) ?_
  exact hL204 1 (v3 + 1) h
set_option maxHeartbeats 4000000 in
set_option maxRecDepth 100000 in
theorem sX12_minute_245 (v1 : Int32) (v3 : Int32)  (x : ab_X) (K : ab_X → Prop) (L167 : Int32 → ab_X → Prop) (L204 : Int32 → Int32 → Prop) (d bc bs : Nat) (hdp : 212 ≤ d) (hL167 : ∀ (v1 : Int32) (x : ab_X), L167 v1 x → EW MX12_minute 167 [(0, .ref 246), (1, .int v1)] [] (aS x) d bc bs (liV K)) (hL204 : ∀ (v2 : Int32) (v3 : Int32), L204 v2 v3 → EW MX12_minute 204 [(0, .ref 246), (1, .int v1), (2, .int v2), (3, .int v3)] [] (aS x) d bc bs (liV K)) (h : wX12_minute_245 v1 v3 x K L167 L204) : EW MX12_minute 245 [(0, .ref 246), (1, .int v1), (3, .int v3)] [] (aS x) d bc bs (liV K) := by
  unfold wX12_minute_245 at h
  refine EW_iconst (pc2 := 246) (v := 0) rfl dX12_minute_245 (by decide) ?_
  refine EW_istore_n (pc2 := 247) rfl dX12_minute_246 (by decide) [1, 2, 0, 3] [(0, .ref 246), (1, .int v1), (2, .int 0), (3, .int v3)] rfl ?_
  refine EW_iinc (v3 + 1) (pc2 := 250) rfl dX12_minute_247 3 rfl rfl (by decide) [1, 2, 3, 0] [(0, .ref 246), (1, .int v1), (2, .int 0), (3, .int (v3 + 1))] rfl ?_
  refine EW_goto (tgt := 204) dX12_minute_250 (by decide) ?_
  exact hL204 0 (v3 + 1) h
set_option maxHeartbeats 4000000 in
set_option maxRecDepth 100000 in
theorem sX12_minute_204 (v1 : Int32) (v2 : Int32) (v3 : Int32)  (x : ab_X) (K : ab_X → Prop) (L167 : Int32 → ab_X → Prop) (d bc bs : Nat) (hdp : 212 ≤ d) (hL167 : ∀ (v1 : Int32) (x : ab_X), L167 v1 x → EW MX12_minute 167 [(0, .ref 246), (1, .int v1)] [] (aS x) d bc bs (liV K)) (h : Lp2 (lX12_minute_204 v1 x K L167) v2 v3) : EW MX12_minute 204 [(0, .ref 246), (1, .int v1), (2, .int v2), (3, .int v3)] [] (aS x) d bc bs (liV K) := by
  refine Lp2.use (P := fun v2 v3 => EW MX12_minute 204 [(0, .ref 246), (1, .int v1), (2, .int v2), (3, .int v3)] [] (aS x) d bc bs (liV K)) (fun L204 v2 v3 hL204 h => ?_) v2 v3 h
  unfold lX12_minute_204 at h
  refine EW_iload_n (pc2 := 205) rfl dX12_minute_204 3 rfl ?_
  refine EW_aload_n (pc2 := 206) rfl dX12_minute_205 0 rfl ?_
  refine AW_geti ⟨gfRX12_366, rfl⟩ (pc2 := 209) rfl dX12_minute_206 q246 ?_
  refine EW_icmp_ge (tgt := 253) (pc2 := 212) rfl dX12_minute_209 (by decide) (fun q => ?_) (fun q => ?_)
  · replace h := h.1 q
    refine EW_iload_n (pc2 := 254) rfl dX12_minute_253 2 rfl ?_
    refine EW_if_eq (tgt := 263) (pc2 := 257) rfl dX12_minute_254 (by decide) (fun q => ?_) (fun q => ?_)
    · replace h := h.1 q
      refine EW_iinc (v1 + 1) (pc2 := 266) rfl dX12_minute_263 1 rfl rfl (by decide) [1, 0, 2, 3] [(0, .ref 246), (1, .int (v1 + 1)), (2, .int v2), (3, .int v3)] rfl ?_
      refine EW_goto (tgt := 167) dX12_minute_266 (by decide) ?_
      refine EW_ls [0, 1] rfl ?_
      exact hL167 (v1 + 1) x h
    · replace h := h.2 q
      refine EW_aload_n (pc2 := 258) rfl dX12_minute_257 0 rfl ?_
      refine EW_iload_n (pc2 := 259) rfl dX12_minute_258 1 rfl ?_
      refine EW_iconst (pc2 := 260) (v := 0) rfl dX12_minute_259 (by decide) ?_
      refine AW_invV (M' := MX12_close) [.int v1, .int 0] (rest := []) mlRX12_561 okX12_close (pc2 := 263) rfl dX12_minute_260 rfl rfl (Nat.le_of_ble_eq_true rfl) (Nat.le_of_ble_eq_true rfl) (d' := 0) (by omega) q246 ⟨by decide, rfl⟩ (EW_mono (fun _ _ hr => ?_) (sX12_close v1 0  x _ _ 0 0 (Nat.le_refl _) h))
      obtain ⟨x31, rfl, rfl, h⟩ := hr
      refine EW_iinc (v1 + 1) (pc2 := 266) rfl dX12_minute_263 1 rfl rfl (by decide) [1, 0, 2, 3] [(0, .ref 246), (1, .int (v1 + 1)), (2, .int v2), (3, .int v3)] rfl ?_
      refine EW_goto (tgt := 167) dX12_minute_266 (by decide) ?_
      refine EW_ls [0, 1] rfl ?_
      exact hL167 (v1 + 1) x31 h
  · replace h := h.2 q
    refine EW_iload_n (pc2 := 213) rfl dX12_minute_212 2 rfl ?_
    refine EW_if_ne (tgt := 241) (pc2 := 216) rfl dX12_minute_213 (by decide) (fun q => ?_) (fun q => ?_)
    · replace h := h.1 q
      refine EW_ls [0, 1, 3] rfl ?_
      exact sX12_minute_241 v1 v3 x K L167 L204 d bc bs hdp hL167 hL204 h
    · replace h := h.2 q
      refine EW_aload_n (pc2 := 217) rfl dX12_minute_216 0 rfl ?_
      refine AW_getr (r := 286) ⟨gfRX12_128, rfl⟩ (pc2 := 220) rfl dX12_minute_217 q246 rfl ?_
      refine EW_iload_n (pc2 := 221) rfl dX12_minute_220 3 rfl ?_
      obtain ⟨b32, h⟩ := h
      refine AW_iald (pc2 := 222) rfl dX12_minute_221 q286 b32 ?_
      refine EW_iconst (pc2 := 223) (v := 2) rfl dX12_minute_222 (by decide) ?_
      refine EW_icmp_ne (tgt := 245) (pc2 := 226) rfl dX12_minute_223 (by decide) (fun q => ?_) (fun q => ?_)
      · replace h := h.1 q
        refine EW_ls [0, 1, 3] rfl ?_
        exact sX12_minute_245 v1 v3 x K L167 L204 d bc bs hdp hL167 hL204 h
      · replace h := h.2 q
        refine EW_aload_n (pc2 := 227) rfl dX12_minute_226 0 rfl ?_
        refine AW_getr (r := 287) ⟨gfRX12_131, rfl⟩ (pc2 := 230) rfl dX12_minute_227 q246 rfl ?_
        refine EW_iload_n (pc2 := 231) rfl dX12_minute_230 3 rfl ?_
        obtain ⟨b33, h⟩ := h
        refine AW_iald (pc2 := 232) rfl dX12_minute_231 q287 b33 ?_
        refine EW_aload_n (pc2 := 233) rfl dX12_minute_232 0 rfl ?_
        refine AW_getr (r := 310) ⟨gfRX12_214, rfl⟩ (pc2 := 236) rfl dX12_minute_233 q246 rfl ?_
        refine EW_iload_n (pc2 := 237) rfl dX12_minute_236 1 rfl ?_
        obtain ⟨b34, h⟩ := h
        refine AW_iald (pc2 := 238) rfl dX12_minute_237 q310 b34 ?_
        refine EW_icmp_ne (tgt := 245) (pc2 := 241) rfl dX12_minute_238 (by decide) (fun q => ?_) (fun q => ?_)
        · replace h := h.1 q
          refine EW_ls [0, 1, 3] rfl ?_
          exact sX12_minute_245 v1 v3 x K L167 L204 d bc bs hdp hL167 hL204 h
        · replace h := h.2 q
          refine EW_ls [0, 1, 3] rfl ?_
          exact sX12_minute_241 v1 v3 x K L167 L204 d bc bs hdp hL167 hL204 h
set_option maxHeartbeats 4000000 in
set_option maxRecDepth 100000 in
theorem sX12_minute_167 (v1 : Int32)  (x : ab_X) (K : ab_X → Prop)  (d bc bs : Nat) (hdp : 212 ≤ d)  (h : Lp2 (lX12_minute_167  K ) v1 x) : EW MX12_minute 167 [(0, .ref 246), (1, .int v1)] [] (aS x) d bc bs (liV K) := by
  refine Lp2.use (P := fun v1 x => EW MX12_minute 167 [(0, .ref 246), (1, .int v1)] [] (aS x) d bc bs (liV K)) (fun L167 v1 x hL167 h => ?_) v1 x h
  unfold lX12_minute_167 at h
  refine EW_iload_n (pc2 := 168) rfl dX12_minute_167 1 rfl ?_
  refine EW_aload_n (pc2 := 169) rfl dX12_minute_168 0 rfl ?_
  refine AW_geti ⟨gfRX12_525, rfl⟩ (pc2 := 172) rfl dX12_minute_169 q246 ?_
  refine EW_icmp_ge (tgt := 269) (pc2 := 175) rfl dX12_minute_172 (by decide) (fun q => ?_) (fun q => ?_)
  · replace h := h.1 q
    refine EW_iconst (pc2 := 270) (v := 0) rfl dX12_minute_269 (by decide) ?_
    refine EW_istore_n (pc2 := 271) rfl dX12_minute_270 (by decide) [1, 0] [(0, .ref 246), (1, .int 0)] rfl ?_
    exact sX12_minute_271 0 x K d bc bs hdp h
  · replace h := h.2 q
    refine EW_aload_n (pc2 := 176) rfl dX12_minute_175 0 rfl ?_
    refine AW_getr (r := 312) ⟨gfRX12_220, rfl⟩ (pc2 := 179) rfl dX12_minute_176 q246 rfl ?_
    refine EW_iload_n (pc2 := 180) rfl dX12_minute_179 1 rfl ?_
    obtain ⟨b13, h⟩ := h
    refine AW_iald (pc2 := 181) rfl dX12_minute_180 q312 b13 ?_
    refine EW_if_ne (tgt := 263) (pc2 := 184) rfl dX12_minute_181 (by decide) (fun q => ?_) (fun q => ?_)
    · replace h := h.1 q
      refine EW_iinc (v1 + 1) (pc2 := 266) rfl dX12_minute_263 1 rfl rfl (by decide) [1, 0] [(0, .ref 246), (1, .int (v1 + 1))] rfl ?_
      refine EW_goto (tgt := 167) dX12_minute_266 (by decide) ?_
      exact hL167 (v1 + 1) x h
    · replace h := h.2 q
      refine EW_aload_n (pc2 := 185) rfl dX12_minute_184 0 rfl ?_
      refine EW_aload_n (pc2 := 186) rfl dX12_minute_185 0 rfl ?_
      refine AW_getr (r := 310) ⟨gfRX12_214, rfl⟩ (pc2 := 189) rfl dX12_minute_186 q246 rfl ?_
      refine EW_iload_n (pc2 := 190) rfl dX12_minute_189 1 rfl ?_
      obtain ⟨b14, h⟩ := h
      refine AW_iald (pc2 := 191) rfl dX12_minute_190 q310 b14 ?_
      refine AW_invV (M' := MX12_burnsAt) [.int (x.1 310 (Int32.toNatClampNeg v1))] (rest := []) mlRX12_531 okX12_burnsAt (pc2 := 194) rfl dX12_minute_191 rfl rfl (Nat.le_of_ble_eq_true rfl) (Nat.le_of_ble_eq_true rfl) (d' := 3) (by omega) q246 ⟨by decide, rfl⟩ (EW_mono (fun _ _ hr => ?_) (sX12_burnsAt (x.1 310 (Int32.toNatClampNeg v1))  x _ _ 0 0 (Nat.le_refl _) h))
      obtain ⟨r15, rfl, rfl, h⟩ := hr
      refine EW_if_eq (tgt := 200) (pc2 := 197) rfl dX12_minute_194 (by decide) (fun q => ?_) (fun q => ?_)
      · replace h := h.1 q
        refine EW_iconst (pc2 := 201) (v := 0) rfl dX12_minute_200 (by decide) ?_
        refine EW_istore_n (pc2 := 202) rfl dX12_minute_201 (by decide) [1, 2, 0] [(0, .ref 246), (1, .int v1), (2, .int 0)] rfl ?_
        refine EW_iconst (pc2 := 203) (v := 0) rfl dX12_minute_202 (by decide) ?_
        refine EW_istore_n (pc2 := 204) rfl dX12_minute_203 (by decide) [1, 2, 3, 0] [(0, .ref 246), (1, .int v1), (2, .int 0), (3, .int 0)] rfl ?_
        exact sX12_minute_204 v1 0 0 x K L167 d bc bs hdp hL167 h
      · replace h := h.2 q
        refine EW_goto (tgt := 263) dX12_minute_197 (by decide) ?_
        refine EW_iinc (v1 + 1) (pc2 := 266) rfl dX12_minute_263 1 rfl rfl (by decide) [1, 0] [(0, .ref 246), (1, .int (v1 + 1))] rfl ?_
        refine EW_goto (tgt := 167) dX12_minute_266 (by decide) ?_
        exact hL167 (v1 + 1) x h
set_option maxHeartbeats 4000000 in
set_option maxRecDepth 100000 in
theorem sX12_minute_145 (v1 : Int32)  (x : ab_X) (K : ab_X → Prop)  (d bc bs : Nat) (hdp : 212 ≤ d)  (h : Lp2 (lX12_minute_145  K ) v1 x) : EW MX12_minute 145 [(0, .ref 246), (1, .int v1)] [] (aS x) d bc bs (liV K) := by
  refine Lp2.use (P := fun v1 x => EW MX12_minute 145 [(0, .ref 246), (1, .int v1)] [] (aS x) d bc bs (liV K)) (fun L145 v1 x hL145 h => ?_) v1 x h
  unfold lX12_minute_145 at h
  refine EW_iload_n (pc2 := 146) rfl dX12_minute_145 1 rfl ?_
  refine EW_sipush (pc2 := 149) (v := 288) rfl dX12_minute_146 (by decide) ?_
  refine EW_icmp_ge (tgt := 165) (pc2 := 152) rfl dX12_minute_149 (by decide) (fun q => ?_) (fun q => ?_)
  · replace h := h.1 q
    refine EW_iconst (pc2 := 166) (v := 0) rfl dX12_minute_165 (by decide) ?_
    refine EW_istore_n (pc2 := 167) rfl dX12_minute_166 (by decide) [1, 0] [(0, .ref 246), (1, .int 0)] rfl ?_
    exact sX12_minute_167 0 x K d bc bs hdp h
  · replace h := h.2 q
    refine EW_aload_n (pc2 := 153) rfl dX12_minute_152 0 rfl ?_
    refine AW_getr (r := 268) ⟨gfRX12_74, rfl⟩ (pc2 := 156) rfl dX12_minute_153 q246 rfl ?_
    refine EW_iload_n (pc2 := 157) rfl dX12_minute_156 1 rfl ?_
    refine EW_iconst (pc2 := 158) (v := 0) rfl dX12_minute_157 (by decide) ?_
    obtain ⟨b12, h⟩ := h
    refine AW_iast (pc2 := 159) rfl dX12_minute_158 q268 b12 ?_
    refine EW_iinc (v1 + 1) (pc2 := 162) rfl dX12_minute_159 1 rfl rfl (by decide) [1, 0] [(0, .ref 246), (1, .int (v1 + 1))] rfl ?_
    refine EW_goto (tgt := 145) dX12_minute_162 (by decide) ?_
    exact hL145 (v1 + 1) (wr x 268 (Int32.toNatClampNeg v1) 0) h
set_option maxHeartbeats 4000000 in
set_option maxRecDepth 100000 in
theorem sX12_minute_66 (v1 : Int32)  (x : ab_X) (K : ab_X → Prop)  (d bc bs : Nat) (hdp : 212 ≤ d)  (h : Lp2 (lX12_minute_66  K ) v1 x) : EW MX12_minute 66 [(0, .ref 246), (1, .int v1)] [] (aS x) d bc bs (liV K) := by
  refine Lp2.use (P := fun v1 x => EW MX12_minute 66 [(0, .ref 246), (1, .int v1)] [] (aS x) d bc bs (liV K)) (fun L66 v1 x hL66 h => ?_) v1 x h
  unfold lX12_minute_66 at h
  refine EW_iload_n (pc2 := 67) rfl dX12_minute_66 1 rfl ?_
  refine EW_aload_n (pc2 := 68) rfl dX12_minute_67 0 rfl ?_
  refine AW_geti ⟨gfRX12_366, rfl⟩ (pc2 := 71) rfl dX12_minute_68 q246 ?_
  refine EW_icmp_ge (tgt := 134) (pc2 := 74) rfl dX12_minute_71 (by decide) (fun q => ?_) (fun q => ?_)
  · replace h := h.1 q
    refine EW_aload_n (pc2 := 135) rfl dX12_minute_134 0 rfl ?_
    refine AW_invV (M' := MX12_work) [] (rest := []) mlRX12_583 okX12_work (pc2 := 138) rfl dX12_minute_135 rfl rfl (Nat.le_of_ble_eq_true rfl) (Nat.le_of_ble_eq_true rfl) (d' := 211) (by omega) q246 ⟨by decide, rfl⟩ (EW_mono (fun _ _ hr => ?_) (sX12_work   x _ _ 0 0 (Nat.le_refl _) h))
    obtain ⟨x3, rfl, rfl, h⟩ := hr
    refine EW_aload_n (pc2 := 139) rfl dX12_minute_138 0 rfl ?_
    refine EW_iconst (pc2 := 140) (v := 1) rfl dX12_minute_139 (by decide) ?_
    refine AW_invV (M' := MX12_burn) [.int 1] (rest := []) mlRX12_586 okX12_burn (pc2 := 143) rfl dX12_minute_140 rfl rfl (Nat.le_of_ble_eq_true rfl) (Nat.le_of_ble_eq_true rfl) (d' := 4) (by omega) q246 ⟨by decide, rfl⟩ (EW_mono (fun _ _ hr => ?_) (sX12_burn 1  x3 _ _ 0 0 (Nat.le_refl _) h))
    obtain ⟨x4, rfl, rfl, h⟩ := hr
    refine EW_iconst (pc2 := 144) (v := 0) rfl dX12_minute_143 (by decide) ?_
    refine EW_istore_n (pc2 := 145) rfl dX12_minute_144 (by decide) [1, 0] [(0, .ref 246), (1, .int 0)] rfl ?_
    exact sX12_minute_145 0 x4 K d bc bs hdp h
  · replace h := h.2 q
    refine EW_aload_n (pc2 := 75) rfl dX12_minute_74 0 rfl ?_
    refine AW_getr (r := 286) ⟨gfRX12_128, rfl⟩ (pc2 := 78) rfl dX12_minute_75 q246 rfl ?_
    refine EW_iload_n (pc2 := 79) rfl dX12_minute_78 1 rfl ?_
    obtain ⟨b5, h⟩ := h
    refine AW_iald (pc2 := 80) rfl dX12_minute_79 q286 b5 ?_
    refine EW_iconst (pc2 := 81) (v := 2) rfl dX12_minute_80 (by decide) ?_
    refine EW_icmp_ne (tgt := 128) (pc2 := 84) rfl dX12_minute_81 (by decide) (fun q => ?_) (fun q => ?_)
    · replace h := h.1 q
      refine EW_iinc (v1 + 1) (pc2 := 131) rfl dX12_minute_128 1 rfl rfl (by decide) [1, 0] [(0, .ref 246), (1, .int (v1 + 1))] rfl ?_
      refine EW_goto (tgt := 66) dX12_minute_131 (by decide) ?_
      exact hL66 (v1 + 1) x h
    · replace h := h.2 q
      refine EW_aload_n (pc2 := 85) rfl dX12_minute_84 0 rfl ?_
      refine EW_aload_n (pc2 := 86) rfl dX12_minute_85 0 rfl ?_
      refine AW_getr (r := 290) ⟨gfRX12_140, rfl⟩ (pc2 := 89) rfl dX12_minute_86 q246 rfl ?_
      refine EW_iload_n (pc2 := 90) rfl dX12_minute_89 1 rfl ?_
      obtain ⟨b6, h⟩ := h
      refine AW_iald (pc2 := 91) rfl dX12_minute_90 q290 b6 ?_
      refine AW_invV (M' := MX12_burning) [.int (x.1 290 (Int32.toNatClampNeg v1))] (rest := []) mlRX12_351 okX12_burning (pc2 := 94) rfl dX12_minute_91 rfl rfl (Nat.le_of_ble_eq_true rfl) (Nat.le_of_ble_eq_true rfl) (d' := 2) (by omega) q246 ⟨by decide, rfl⟩ (EW_mono (fun _ _ hr => ?_) (sX12_burning (x.1 290 (Int32.toNatClampNeg v1))  x _ _ 0 0 (Nat.le_refl _) h))
      obtain ⟨r7, rfl, rfl, h⟩ := hr
      refine EW_if_le (tgt := 100) (pc2 := 97) rfl dX12_minute_94 (by decide) (fun q => ?_) (fun q => ?_)
      · replace h := h.1 q
        refine EW_aload_n (pc2 := 101) rfl dX12_minute_100 0 rfl ?_
        refine EW_aload_n (pc2 := 102) rfl dX12_minute_101 0 rfl ?_
        refine AW_getr (r := 254) ⟨gfRX12_32, rfl⟩ (pc2 := 105) rfl dX12_minute_102 q246 rfl ?_
        refine EW_aload_n (pc2 := 106) rfl dX12_minute_105 0 rfl ?_
        refine AW_getr (r := 290) ⟨gfRX12_140, rfl⟩ (pc2 := 109) rfl dX12_minute_106 q246 rfl ?_
        refine EW_iload_n (pc2 := 110) rfl dX12_minute_109 1 rfl ?_
        obtain ⟨b8, h⟩ := h
        refine AW_iald (pc2 := 111) rfl dX12_minute_110 q290 b8 ?_
        obtain ⟨b9, h⟩ := h
        refine AW_iald (pc2 := 112) rfl dX12_minute_111 q254 b9 ?_
        refine AW_invV (M' := MX12_worstAt) [.int (x.1 254 (Int32.toNatClampNeg (x.1 290 (Int32.toNatClampNeg v1))))] (rest := []) mlRX12_558 okX12_worstAt (pc2 := 115) rfl dX12_minute_112 rfl rfl (Nat.le_of_ble_eq_true rfl) (Nat.le_of_ble_eq_true rfl) (d' := 3) (by omega) q246 ⟨by decide, rfl⟩ (EW_mono (fun _ _ hr => ?_) (sX12_worstAt (x.1 254 (Int32.toNatClampNeg (x.1 290 (Int32.toNatClampNeg v1))))  x _ _ 0 0 (Nat.le_refl _) h))
        obtain ⟨r10, rfl, rfl, h⟩ := hr
        refine EW_istore_n (pc2 := 116) rfl dX12_minute_115 (by decide) [1, 2, 0] [(0, .ref 246), (1, .int v1), (2, .int r10)] rfl ?_
        refine EW_iload_n (pc2 := 117) rfl dX12_minute_116 2 rfl ?_
        refine EW_iconst (pc2 := 118) (v := (-1)) rfl dX12_minute_117 (by decide) ?_
        refine EW_icmp_eq (tgt := 128) (pc2 := 121) rfl dX12_minute_118 (by decide) (fun q => ?_) (fun q => ?_)
        · replace h := h.1 q
          refine EW_iinc (v1 + 1) (pc2 := 131) rfl dX12_minute_128 1 rfl rfl (by decide) [1, 0, 2] [(0, .ref 246), (1, .int (v1 + 1)), (2, .int r10)] rfl ?_
          refine EW_goto (tgt := 66) dX12_minute_131 (by decide) ?_
          refine EW_ls [0, 1] rfl ?_
          exact hL66 (v1 + 1) x h
        · replace h := h.2 q
          refine EW_aload_n (pc2 := 122) rfl dX12_minute_121 0 rfl ?_
          refine AW_getr (r := 290) ⟨gfRX12_140, rfl⟩ (pc2 := 125) rfl dX12_minute_122 q246 rfl ?_
          refine EW_iload_n (pc2 := 126) rfl dX12_minute_125 1 rfl ?_
          refine EW_iload_n (pc2 := 127) rfl dX12_minute_126 2 rfl ?_
          obtain ⟨b11, h⟩ := h
          refine AW_iast (pc2 := 128) rfl dX12_minute_127 q290 b11 ?_
          refine EW_iinc (v1 + 1) (pc2 := 131) rfl dX12_minute_128 1 rfl rfl (by decide) [1, 0, 2] [(0, .ref 246), (1, .int (v1 + 1)), (2, .int r10)] rfl ?_
          refine EW_goto (tgt := 66) dX12_minute_131 (by decide) ?_
          refine EW_ls [0, 1] rfl ?_
          exact hL66 (v1 + 1) (wr x 290 (Int32.toNatClampNeg v1) r10) h
      · replace h := h.2 q
        refine EW_goto (tgt := 128) dX12_minute_97 (by decide) ?_
        refine EW_iinc (v1 + 1) (pc2 := 131) rfl dX12_minute_128 1 rfl rfl (by decide) [1, 0] [(0, .ref 246), (1, .int (v1 + 1))] rfl ?_
        refine EW_goto (tgt := 66) dX12_minute_131 (by decide) ?_
        exact hL66 (v1 + 1) x h
set_option maxHeartbeats 4000000 in
set_option maxRecDepth 100000 in
theorem sX12_minute_40 (v1 : Int32)  (x : ab_X) (K : ab_X → Prop) (L12 : Int32 → ab_X → Prop) (d bc bs : Nat) (hdp : 212 ≤ d) (hL12 : ∀ (v1 : Int32) (x : ab_X), L12 v1 x → EW MX12_minute 12 [(0, .ref 246), (1, .int v1)] [] (aS x) d bc bs (liV K)) (h : wX12_minute_40 v1 x K L12) : EW MX12_minute 40 [(0, .ref 246), (1, .int v1)] [] (aS x) d bc bs (liV K) := by
  unfold wX12_minute_40 at h
  refine EW_aload_n (pc2 := 41) rfl dX12_minute_40 0 rfl ?_
  refine AW_getr (r := 288) ⟨gfRX12_134, rfl⟩ (pc2 := 44) rfl dX12_minute_41 q246 rfl ?_
  refine EW_iload_n (pc2 := 45) rfl dX12_minute_44 1 rfl ?_
  obtain ⟨b35, h⟩ := h
  refine AW_iald (pc2 := 46) rfl dX12_minute_45 q288 b35 ?_
  refine EW_aload_n (pc2 := 47) rfl dX12_minute_46 0 rfl ?_
  refine AW_geti ⟨gfRX12_395, rfl⟩ (pc2 := 50) rfl dX12_minute_47 q246 ?_
  refine EW_icmp_gt (tgt := 58) (pc2 := 53) rfl dX12_minute_50 (by decide) (fun q => ?_) (fun q => ?_)
  · replace h := h.1 q
    refine EW_iinc (v1 + 1) (pc2 := 61) rfl dX12_minute_58 1 rfl rfl (by decide) [1, 0] [(0, .ref 246), (1, .int (v1 + 1))] rfl ?_
    refine EW_goto (tgt := 12) dX12_minute_61 (by decide) ?_
    exact hL12 (v1 + 1) x h
  · replace h := h.2 q
    refine EW_aload_n (pc2 := 54) rfl dX12_minute_53 0 rfl ?_
    refine EW_iload_n (pc2 := 55) rfl dX12_minute_54 1 rfl ?_
    refine AW_invV (M' := MX12_arrives) [.int v1] (rest := []) mlRX12_580 okX12_arrives (pc2 := 58) rfl dX12_minute_55 rfl rfl (Nat.le_of_ble_eq_true rfl) (Nat.le_of_ble_eq_true rfl) (d' := 4) (by omega) q246 ⟨by decide, rfl⟩ (EW_mono (fun _ _ hr => ?_) (sX12_arrives v1  x _ _ 0 0 (Nat.le_refl _) h))
    obtain ⟨x36, rfl, rfl, h⟩ := hr
    refine EW_iinc (v1 + 1) (pc2 := 61) rfl dX12_minute_58 1 rfl rfl (by decide) [1, 0] [(0, .ref 246), (1, .int (v1 + 1))] rfl ?_
    refine EW_goto (tgt := 12) dX12_minute_61 (by decide) ?_
    exact hL12 (v1 + 1) x36 h
set_option maxHeartbeats 4000000 in
set_option maxRecDepth 100000 in
theorem sX12_minute_12 (v1 : Int32)  (x : ab_X) (K : ab_X → Prop)  (d bc bs : Nat) (hdp : 212 ≤ d)  (h : Lp2 (lX12_minute_12  K ) v1 x) : EW MX12_minute 12 [(0, .ref 246), (1, .int v1)] [] (aS x) d bc bs (liV K) := by
  refine Lp2.use (P := fun v1 x => EW MX12_minute 12 [(0, .ref 246), (1, .int v1)] [] (aS x) d bc bs (liV K)) (fun L12 v1 x hL12 h => ?_) v1 x h
  unfold lX12_minute_12 at h
  refine EW_iload_n (pc2 := 13) rfl dX12_minute_12 1 rfl ?_
  refine EW_aload_n (pc2 := 14) rfl dX12_minute_13 0 rfl ?_
  refine AW_geti ⟨gfRX12_366, rfl⟩ (pc2 := 17) rfl dX12_minute_14 q246 ?_
  refine EW_icmp_ge (tgt := 64) (pc2 := 20) rfl dX12_minute_17 (by decide) (fun q => ?_) (fun q => ?_)
  · replace h := h.1 q
    refine EW_iconst (pc2 := 65) (v := 0) rfl dX12_minute_64 (by decide) ?_
    refine EW_istore_n (pc2 := 66) rfl dX12_minute_65 (by decide) [1, 0] [(0, .ref 246), (1, .int 0)] rfl ?_
    exact sX12_minute_66 0 x K d bc bs hdp h
  · replace h := h.2 q
    refine EW_aload_n (pc2 := 21) rfl dX12_minute_20 0 rfl ?_
    refine AW_getr (r := 286) ⟨gfRX12_128, rfl⟩ (pc2 := 24) rfl dX12_minute_21 q246 rfl ?_
    refine EW_iload_n (pc2 := 25) rfl dX12_minute_24 1 rfl ?_
    obtain ⟨b1, h⟩ := h
    refine AW_iald (pc2 := 26) rfl dX12_minute_25 q286 b1 ?_
    refine EW_iconst (pc2 := 27) (v := 1) rfl dX12_minute_26 (by decide) ?_
    refine EW_icmp_eq (tgt := 40) (pc2 := 30) rfl dX12_minute_27 (by decide) (fun q => ?_) (fun q => ?_)
    · replace h := h.1 q
      exact sX12_minute_40 v1 x K L12 d bc bs hdp hL12 h
    · replace h := h.2 q
      refine EW_aload_n (pc2 := 31) rfl dX12_minute_30 0 rfl ?_
      refine AW_getr (r := 286) ⟨gfRX12_128, rfl⟩ (pc2 := 34) rfl dX12_minute_31 q246 rfl ?_
      refine EW_iload_n (pc2 := 35) rfl dX12_minute_34 1 rfl ?_
      obtain ⟨b2, h⟩ := h
      refine AW_iald (pc2 := 36) rfl dX12_minute_35 q286 b2 ?_
      refine EW_iconst (pc2 := 37) (v := 3) rfl dX12_minute_36 (by decide) ?_
      refine EW_icmp_ne (tgt := 58) (pc2 := 40) rfl dX12_minute_37 (by decide) (fun q => ?_) (fun q => ?_)
      · replace h := h.1 q
        refine EW_iinc (v1 + 1) (pc2 := 61) rfl dX12_minute_58 1 rfl rfl (by decide) [1, 0] [(0, .ref 246), (1, .int (v1 + 1))] rfl ?_
        refine EW_goto (tgt := 12) dX12_minute_61 (by decide) ?_
        exact hL12 (v1 + 1) x h
      · replace h := h.2 q
        exact sX12_minute_40 v1 x K L12 d bc bs hdp hL12 h
set_option maxHeartbeats 4000000 in
set_option maxRecDepth 100000 in
theorem sX12_minute   (x : ab_X) (K : ab_X → Prop) (d bc bs : Nat) (hdp : 212 ≤ d) (h : wX12_minute  x K) : EW MX12_minute 0 [(0, .ref 246)] [] (aS x) d bc bs (liV K) := by
  unfold wX12_minute at h
  refine EW_aload_n (pc2 := 1) rfl dX12_minute_0 0 rfl ?_
  refine EW_dup (pc2 := 2) rfl dX12_minute_1 rfl ?_
  refine AW_geti ⟨gfRX12_395, rfl⟩ (pc2 := 5) rfl dX12_minute_2 q246 ?_
  refine EW_iconst (pc2 := 6) (v := 1) rfl dX12_minute_5 (by decide) ?_
  refine EW_iadd (pc2 := 7) rfl dX12_minute_6 ?_
  refine AW_puti ⟨gfRX12_395, rfl, rfl⟩ (pc2 := 10) rfl dX12_minute_7 q246 ?_
  refine EW_iconst (pc2 := 11) (v := 0) rfl dX12_minute_10 (by decide) ?_
  refine EW_istore_n (pc2 := 12) rfl dX12_minute_11 (by decide) [1, 0] [(0, .ref 246), (1, .int 0)] rfl ?_
  exact sX12_minute_12 0 (wr x 246 1 ((x.1 246 1) + 1)) K d bc bs hdp h
abbrev MX12_orders : ab_M := (yX12_orders, cX12_orders, 2, (some .int))
theorem dX12_orders_0 : decode cX12_orders 0 = .ok (.aload_n 0, 1) := by decide +kernel
theorem dX12_orders_1 : decode cX12_orders 1 = .ok (.iconst 0, 1) := by decide +kernel
theorem dX12_orders_2 : decode cX12_orders 2 = .ok (.invokevirtual 517, 3) := by decide +kernel
theorem dX12_orders_5 : decode cX12_orders 5 = .ok (.iconst (-1), 1) := by decide +kernel
theorem dX12_orders_6 : decode cX12_orders 6 = .ok (.if_icmp .ne 12, 3) := by decide +kernel
theorem dX12_orders_9 : decode cX12_orders 9 = .ok (.aload_n 0, 1) := by decide +kernel
theorem dX12_orders_10 : decode cX12_orders 10 = .ok (.getfield 519, 3) := by decide +kernel
theorem dX12_orders_13 : decode cX12_orders 13 = .ok (.bipush 20, 2) := by decide +kernel
theorem dX12_orders_15 : decode cX12_orders 15 = .ok (.if_icmp .ne 5, 3) := by decide +kernel
theorem dX12_orders_18 : decode cX12_orders 18 = .ok (.iconst (-1), 1) := by decide +kernel
theorem dX12_orders_19 : decode cX12_orders 19 = .ok (.ireturn, 1) := by decide +kernel
theorem dX12_orders_20 : decode cX12_orders 20 = .ok (.iconst 0, 1) := by decide +kernel
theorem dX12_orders_21 : decode cX12_orders 21 = .ok (.istore_n 1, 1) := by decide +kernel
theorem dX12_orders_22 : decode cX12_orders 22 = .ok (.iload_n 1, 1) := by decide +kernel
theorem dX12_orders_23 : decode cX12_orders 23 = .ok (.aload_n 0, 1) := by decide +kernel
theorem dX12_orders_24 : decode cX12_orders 24 = .ok (.getfield 414, 3) := by decide +kernel
theorem dX12_orders_27 : decode cX12_orders 27 = .ok (.if_icmp .ge 30, 3) := by decide +kernel
theorem dX12_orders_30 : decode cX12_orders 30 = .ok (.aload_n 0, 1) := by decide +kernel
theorem dX12_orders_31 : decode cX12_orders 31 = .ok (.getfield 171, 3) := by decide +kernel
theorem dX12_orders_34 : decode cX12_orders 34 = .ok (.sipush 200, 3) := by decide +kernel
theorem dX12_orders_37 : decode cX12_orders 37 = .ok (.aload_n 0, 1) := by decide +kernel
theorem dX12_orders_38 : decode cX12_orders 38 = .ok (.getfield 519, 3) := by decide +kernel
theorem dX12_orders_41 : decode cX12_orders 41 = .ok (.imul, 1) := by decide +kernel
theorem dX12_orders_42 : decode cX12_orders 42 = .ok (.iload_n 1, 1) := by decide +kernel
theorem dX12_orders_43 : decode cX12_orders 43 = .ok (.iadd, 1) := by decide +kernel
theorem dX12_orders_44 : decode cX12_orders 44 = .ok (.aload_n 0, 1) := by decide +kernel
theorem dX12_orders_45 : decode cX12_orders 45 = .ok (.getfield 167, 3) := by decide +kernel
theorem dX12_orders_48 : decode cX12_orders 48 = .ok (.iload_n 1, 1) := by decide +kernel
theorem dX12_orders_49 : decode cX12_orders 49 = .ok (.baload, 1) := by decide +kernel
theorem dX12_orders_50 : decode cX12_orders 50 = .ok (.bastore, 1) := by decide +kernel
theorem dX12_orders_51 : decode cX12_orders 51 = .ok (.iinc 1 1, 3) := by decide +kernel
theorem dX12_orders_54 : decode cX12_orders 54 = .ok (.goto (-32), 3) := by decide +kernel
theorem dX12_orders_57 : decode cX12_orders 57 = .ok (.aload_n 0, 1) := by decide +kernel
theorem dX12_orders_58 : decode cX12_orders 58 = .ok (.getfield 180, 3) := by decide +kernel
theorem dX12_orders_61 : decode cX12_orders 61 = .ok (.aload_n 0, 1) := by decide +kernel
theorem dX12_orders_62 : decode cX12_orders 62 = .ok (.getfield 519, 3) := by decide +kernel
theorem dX12_orders_65 : decode cX12_orders 65 = .ok (.aload_n 0, 1) := by decide +kernel
theorem dX12_orders_66 : decode cX12_orders 66 = .ok (.getfield 414, 3) := by decide +kernel
theorem dX12_orders_69 : decode cX12_orders 69 = .ok (.iastore, 1) := by decide +kernel
theorem dX12_orders_70 : decode cX12_orders 70 = .ok (.aload_n 0, 1) := by decide +kernel
theorem dX12_orders_71 : decode cX12_orders 71 = .ok (.dup, 1) := by decide +kernel
theorem dX12_orders_72 : decode cX12_orders 72 = .ok (.getfield 519, 3) := by decide +kernel
theorem dX12_orders_75 : decode cX12_orders 75 = .ok (.iconst 1, 1) := by decide +kernel
theorem dX12_orders_76 : decode cX12_orders 76 = .ok (.iadd, 1) := by decide +kernel
theorem dX12_orders_77 : decode cX12_orders 77 = .ok (.putfield 519, 3) := by decide +kernel
theorem dX12_orders_80 : decode cX12_orders 80 = .ok (.aload_n 0, 1) := by decide +kernel
theorem dX12_orders_81 : decode cX12_orders 81 = .ok (.iconst 0, 1) := by decide +kernel
theorem dX12_orders_82 : decode cX12_orders 82 = .ok (.putfield 414, 3) := by decide +kernel
theorem dX12_orders_85 : decode cX12_orders 85 = .ok (.aload_n 0, 1) := by decide +kernel
theorem dX12_orders_86 : decode cX12_orders 86 = .ok (.getfield 519, 3) := by decide +kernel
theorem dX12_orders_89 : decode cX12_orders 89 = .ok (.iconst 1, 1) := by decide +kernel
theorem dX12_orders_90 : decode cX12_orders 90 = .ok (.isub, 1) := by decide +kernel
theorem dX12_orders_91 : decode cX12_orders 91 = .ok (.ireturn, 1) := by decide +kernel
theorem okX12_orders : ab_okM MX12_orders 0 := ⟨by decide, ⟨by decide, by decide⟩, ab_in 2481 (by decide +kernel) (by decide +kernel), ab_in 99 (by decide +kernel) (by decide +kernel), by decide +kernel, by decide⟩
set_option maxHeartbeats 4000000 in
set_option maxRecDepth 100000 in
theorem sX12_orders_22 (v1 : Int32)  (x : ab_X) (K : Int32 → ab_X → Prop)  (d bc bs : Nat) (hdp : 211 ≤ d)  (h : Lp2 (lX12_orders_22  K ) v1 x) : EW MX12_orders 22 [(0, .ref 246), (1, .int v1)] [] (aS x) d bc bs (liI K) := by
  refine Lp2.use (P := fun v1 x => EW MX12_orders 22 [(0, .ref 246), (1, .int v1)] [] (aS x) d bc bs (liI K)) (fun L22 v1 x hL22 h => ?_) v1 x h
  unfold lX12_orders_22 at h
  refine EW_iload_n (pc2 := 23) rfl dX12_orders_22 1 rfl ?_
  refine EW_aload_n (pc2 := 24) rfl dX12_orders_23 0 rfl ?_
  refine AW_geti ⟨gfRX12_414, rfl⟩ (pc2 := 27) rfl dX12_orders_24 q246 ?_
  refine EW_icmp_ge (tgt := 57) (pc2 := 30) rfl dX12_orders_27 (by decide) (fun q => ?_) (fun q => ?_)
  · replace h := h.1 q
    refine EW_aload_n (pc2 := 58) rfl dX12_orders_57 0 rfl ?_
    refine AW_getr (r := 303) ⟨gfRX12_180, rfl⟩ (pc2 := 61) rfl dX12_orders_58 q246 rfl ?_
    refine EW_aload_n (pc2 := 62) rfl dX12_orders_61 0 rfl ?_
    refine AW_geti ⟨gfRX12_519, rfl⟩ (pc2 := 65) rfl dX12_orders_62 q246 ?_
    refine EW_aload_n (pc2 := 66) rfl dX12_orders_65 0 rfl ?_
    refine AW_geti ⟨gfRX12_414, rfl⟩ (pc2 := 69) rfl dX12_orders_66 q246 ?_
    obtain ⟨b3, h⟩ := h
    refine AW_iast (pc2 := 70) rfl dX12_orders_69 q303 b3 ?_
    refine EW_aload_n (pc2 := 71) rfl dX12_orders_70 0 rfl ?_
    refine EW_dup (pc2 := 72) rfl dX12_orders_71 rfl ?_
    refine AW_geti ⟨gfRX12_519, rfl⟩ (pc2 := 75) rfl dX12_orders_72 q246 ?_
    refine EW_iconst (pc2 := 76) (v := 1) rfl dX12_orders_75 (by decide) ?_
    refine EW_iadd (pc2 := 77) rfl dX12_orders_76 ?_
    refine AW_puti ⟨gfRX12_519, rfl, rfl⟩ (pc2 := 80) rfl dX12_orders_77 q246 ?_
    refine EW_aload_n (pc2 := 81) rfl dX12_orders_80 0 rfl ?_
    refine EW_iconst (pc2 := 82) (v := 0) rfl dX12_orders_81 (by decide) ?_
    refine AW_puti ⟨gfRX12_414, rfl, rfl⟩ (pc2 := 85) rfl dX12_orders_82 q246 ?_
    refine EW_aload_n (pc2 := 86) rfl dX12_orders_85 0 rfl ?_
    refine AW_geti ⟨gfRX12_519, rfl⟩ (pc2 := 89) rfl dX12_orders_86 q246 ?_
    refine EW_iconst (pc2 := 90) (v := 1) rfl dX12_orders_89 (by decide) ?_
    refine EW_isub (pc2 := 91) rfl dX12_orders_90 ?_
    exact AW_iret rfl dX12_orders_91 ⟨_, _, rfl, rfl, h⟩
  · replace h := h.2 q
    refine EW_aload_n (pc2 := 31) rfl dX12_orders_30 0 rfl ?_
    refine AW_getr (r := 300) ⟨gfRX12_171, rfl⟩ (pc2 := 34) rfl dX12_orders_31 q246 rfl ?_
    refine EW_sipush (pc2 := 37) (v := 200) rfl dX12_orders_34 (by decide) ?_
    refine EW_aload_n (pc2 := 38) rfl dX12_orders_37 0 rfl ?_
    refine AW_geti ⟨gfRX12_519, rfl⟩ (pc2 := 41) rfl dX12_orders_38 q246 ?_
    refine EW_imul (pc2 := 42) rfl dX12_orders_41 ?_
    refine EW_iload_n (pc2 := 43) rfl dX12_orders_42 1 rfl ?_
    refine EW_iadd (pc2 := 44) rfl dX12_orders_43 ?_
    refine EW_aload_n (pc2 := 45) rfl dX12_orders_44 0 rfl ?_
    refine AW_getr (r := 299) ⟨gfRX12_167, rfl⟩ (pc2 := 48) rfl dX12_orders_45 q246 rfl ?_
    refine EW_iload_n (pc2 := 49) rfl dX12_orders_48 1 rfl ?_
    obtain ⟨b4, h⟩ := h
    refine AW_bald (pc2 := 50) rfl dX12_orders_49 q299 b4 ?_
    obtain ⟨b5, h⟩ := h
    refine AW_bast (pc2 := 51) rfl dX12_orders_50 q300 b5 ?_
    refine EW_iinc (v1 + 1) (pc2 := 54) rfl dX12_orders_51 1 rfl rfl (by decide) [1, 0] [(0, .ref 246), (1, .int (v1 + 1))] rfl ?_
    refine EW_goto (tgt := 22) dX12_orders_54 (by decide) ?_
    exact hL22 (v1 + 1) (wr x 300 (Int32.toNatClampNeg ((200 * (x.1 246 71)) + v1)) (vp_nar .byte (x.1 299 (Int32.toNatClampNeg v1)))) h
set_option maxHeartbeats 4000000 in
set_option maxRecDepth 100000 in
theorem sX12_orders   (x : ab_X) (K : Int32 → ab_X → Prop) (d bc bs : Nat) (hdp : 211 ≤ d) (h : wX12_orders  x K) : EW MX12_orders 0 [(0, .ref 246)] [] (aS x) d bc bs (liI K) := by
  unfold wX12_orders at h
  refine EW_aload_n (pc2 := 1) rfl dX12_orders_0 0 rfl ?_
  refine EW_iconst (pc2 := 2) (v := 0) rfl dX12_orders_1 (by decide) ?_
  refine AW_invV (M' := MX12_fault) [.int 0] (rest := []) mlRX12_517 okX12_fault (pc2 := 5) rfl dX12_orders_2 rfl rfl (Nat.le_of_ble_eq_true rfl) (Nat.le_of_ble_eq_true rfl) (d' := 210) (by omega) q246 ⟨by decide, rfl⟩ (EW_mono (fun _ _ hr => ?_) (sX12_fault 0  x _ _ 0 0 (Nat.le_refl _) h))
  obtain ⟨r1, x2, rfl, rfl, h⟩ := hr
  refine EW_iconst (pc2 := 6) (v := (-1)) rfl dX12_orders_5 (by decide) ?_
  refine EW_icmp_ne (tgt := 18) (pc2 := 9) rfl dX12_orders_6 (by decide) (fun q => ?_) (fun q => ?_)
  · replace h := h.1 q
    refine EW_iconst (pc2 := 19) (v := (-1)) rfl dX12_orders_18 (by decide) ?_
    exact AW_iret rfl dX12_orders_19 ⟨_, _, rfl, rfl, h⟩
  · replace h := h.2 q
    refine EW_aload_n (pc2 := 10) rfl dX12_orders_9 0 rfl ?_
    refine AW_geti ⟨gfRX12_519, rfl⟩ (pc2 := 13) rfl dX12_orders_10 q246 ?_
    refine EW_bipush (pc2 := 15) (v := 20) rfl dX12_orders_13 (by decide) ?_
    refine EW_icmp_ne (tgt := 20) (pc2 := 18) rfl dX12_orders_15 (by decide) (fun q => ?_) (fun q => ?_)
    · replace h := h.1 q
      refine EW_iconst (pc2 := 21) (v := 0) rfl dX12_orders_20 (by decide) ?_
      refine EW_istore_n (pc2 := 22) rfl dX12_orders_21 (by decide) [1, 0] [(0, .ref 246), (1, .int 0)] rfl ?_
      exact sX12_orders_22 0 x2 K d bc bs hdp h
    · replace h := h.2 q
      refine EW_iconst (pc2 := 19) (v := (-1)) rfl dX12_orders_18 (by decide) ?_
      exact AW_iret rfl dX12_orders_19 ⟨_, _, rfl, rfl, h⟩
theorem mlRX12_645 : Cond.methodLink RX12 645 yX12_findPlan ∈ ab_G ∧ Cond.instanceMethod yX12_findPlan ∈ ab_G ∧ Cond.selects RX12 yX12_findPlan yX12_findPlan ∈ ab_G := ⟨ab_in 2679 (by decide +kernel) (by decide +kernel), ab_in 2681 (by decide +kernel) (by decide +kernel), ab_in 79 (by decide +kernel) (by decide +kernel)⟩
abbrev MX12_plan : ab_M := (yX12_plan, cX12_plan, 3, (some .int))
theorem dX12_plan_0 : decode cX12_plan 0 = .ok (.aload_n 0, 1) := by decide +kernel
theorem dX12_plan_1 : decode cX12_plan 1 = .ok (.iload_n 1, 1) := by decide +kernel
theorem dX12_plan_2 : decode cX12_plan 2 = .ok (.iload_n 2, 1) := by decide +kernel
theorem dX12_plan_3 : decode cX12_plan 3 = .ok (.invokevirtual 645, 3) := by decide +kernel
theorem dX12_plan_6 : decode cX12_plan 6 = .ok (.ifCond .eq 10, 3) := by decide +kernel
theorem dX12_plan_9 : decode cX12_plan 9 = .ok (.aload_n 0, 1) := by decide +kernel
theorem dX12_plan_10 : decode cX12_plan 10 = .ok (.getfield 639, 3) := by decide +kernel
theorem dX12_plan_13 : decode cX12_plan 13 = .ok (.goto 4, 3) := by decide +kernel
theorem dX12_plan_16 : decode cX12_plan 16 = .ok (.iconst (-1), 1) := by decide +kernel
theorem dX12_plan_17 : decode cX12_plan 17 = .ok (.ireturn, 1) := by decide +kernel
theorem okX12_plan : ab_okM MX12_plan 2 := ⟨by decide, ⟨by decide, by decide⟩, ab_in 2678 (by decide +kernel) (by decide +kernel), ab_in 99 (by decide +kernel) (by decide +kernel), by decide +kernel, by decide⟩
set_option maxHeartbeats 4000000 in
set_option maxRecDepth 100000 in
theorem sX12_plan (v1 : Int32) (v2 : Int32)  (x : ab_X) (K : Int32 → ab_X → Prop) (d bc bs : Nat) (hdp : 105 ≤ d) (h : wX12_plan v1 v2 x K) : EW MX12_plan 0 [(0, .ref 246), (1, .int v1), (2, .int v2)] [] (aS x) d bc bs (liI K) := by
  unfold wX12_plan at h
  refine EW_aload_n (pc2 := 1) rfl dX12_plan_0 0 rfl ?_
  refine EW_iload_n (pc2 := 2) rfl dX12_plan_1 1 rfl ?_
  refine EW_iload_n (pc2 := 3) rfl dX12_plan_2 2 rfl ?_
  refine AW_invV (M' := MX12_findPlan) [.int v1, .int v2] (rest := []) mlRX12_645 okX12_findPlan (pc2 := 6) rfl dX12_plan_3 rfl rfl (Nat.le_of_ble_eq_true rfl) (Nat.le_of_ble_eq_true rfl) (d' := 104) (by omega) q246 ⟨by decide, rfl⟩ (EW_mono (fun _ _ hr => ?_) (sX12_findPlan v1 v2  x _ _ 0 0 (Nat.le_refl _) h))
  obtain ⟨r1, x2, rfl, rfl, h⟩ := hr
  refine EW_if_eq (tgt := 16) (pc2 := 9) rfl dX12_plan_6 (by decide) (fun q => ?_) (fun q => ?_)
  · replace h := h.1 q
    refine EW_iconst (pc2 := 17) (v := (-1)) rfl dX12_plan_16 (by decide) ?_
    exact AW_iret rfl dX12_plan_17 ⟨_, _, rfl, rfl, h⟩
  · replace h := h.2 q
    refine EW_aload_n (pc2 := 10) rfl dX12_plan_9 0 rfl ?_
    refine AW_geti ⟨gfRX12_639, rfl⟩ (pc2 := 13) rfl dX12_plan_10 q246 ?_
    refine EW_goto (tgt := 17) dX12_plan_13 (by decide) ?_
    exact AW_iret rfl dX12_plan_17 ⟨_, _, rfl, rfl, h⟩
abbrev MX12_planned : ab_M := (yX12_planned, cX12_planned, 6, (some .int))
theorem dX12_planned_0 : decode cX12_planned 0 = .ok (.aload_n 0, 1) := by decide +kernel
theorem dX12_planned_1 : decode cX12_planned 1 = .ok (.iload_n 1, 1) := by decide +kernel
theorem dX12_planned_2 : decode cX12_planned 2 = .ok (.iload_n 2, 1) := by decide +kernel
theorem dX12_planned_3 : decode cX12_planned 3 = .ok (.invokevirtual 645, 3) := by decide +kernel
theorem dX12_planned_6 : decode cX12_planned 6 = .ok (.ifCond .eq 7, 3) := by decide +kernel
theorem dX12_planned_9 : decode cX12_planned 9 = .ok (.iload_n 3, 1) := by decide +kernel
theorem dX12_planned_10 : decode cX12_planned 10 = .ok (.ifCond .ge 5, 3) := by decide +kernel
theorem dX12_planned_13 : decode cX12_planned 13 = .ok (.iconst (-1), 1) := by decide +kernel
theorem dX12_planned_14 : decode cX12_planned 14 = .ok (.ireturn, 1) := by decide +kernel
theorem dX12_planned_15 : decode cX12_planned 15 = .ok (.iload_n 3, 1) := by decide +kernel
theorem dX12_planned_16 : decode cX12_planned 16 = .ok (.istore 4, 2) := by decide +kernel
theorem dX12_planned_18 : decode cX12_planned 18 = .ok (.iconst 0, 1) := by decide +kernel
theorem dX12_planned_19 : decode cX12_planned 19 = .ok (.istore 5, 2) := by decide +kernel
theorem dX12_planned_21 : decode cX12_planned 21 = .ok (.iload 5, 2) := by decide +kernel
theorem dX12_planned_23 : decode cX12_planned 23 = .ok (.bipush 20, 2) := by decide +kernel
theorem dX12_planned_25 : decode cX12_planned 25 = .ok (.if_icmp .ge 35, 3) := by decide +kernel
theorem dX12_planned_28 : decode cX12_planned 28 = .ok (.aload_n 0, 1) := by decide +kernel
theorem dX12_planned_29 : decode cX12_planned 29 = .ok (.getfield 642, 3) := by decide +kernel
theorem dX12_planned_32 : decode cX12_planned 32 = .ok (.iload 5, 2) := by decide +kernel
theorem dX12_planned_34 : decode cX12_planned 34 = .ok (.ishr, 1) := by decide +kernel
theorem dX12_planned_35 : decode cX12_planned 35 = .ok (.iconst 1, 1) := by decide +kernel
theorem dX12_planned_36 : decode cX12_planned 36 = .ok (.iand, 1) := by decide +kernel
theorem dX12_planned_37 : decode cX12_planned 37 = .ok (.ifCond .ne 6, 3) := by decide +kernel
theorem dX12_planned_40 : decode cX12_planned 40 = .ok (.goto 14, 3) := by decide +kernel
theorem dX12_planned_43 : decode cX12_planned 43 = .ok (.iload 4, 2) := by decide +kernel
theorem dX12_planned_45 : decode cX12_planned 45 = .ok (.ifCond .ne 6, 3) := by decide +kernel
theorem dX12_planned_48 : decode cX12_planned 48 = .ok (.iload 5, 2) := by decide +kernel
theorem dX12_planned_50 : decode cX12_planned 50 = .ok (.ireturn, 1) := by decide +kernel
theorem dX12_planned_51 : decode cX12_planned 51 = .ok (.iinc 4 (-1), 3) := by decide +kernel
theorem dX12_planned_54 : decode cX12_planned 54 = .ok (.iinc 5 1, 3) := by decide +kernel
theorem dX12_planned_57 : decode cX12_planned 57 = .ok (.goto (-36), 3) := by decide +kernel
theorem dX12_planned_60 : decode cX12_planned 60 = .ok (.iconst (-1), 1) := by decide +kernel
theorem dX12_planned_61 : decode cX12_planned 61 = .ok (.ireturn, 1) := by decide +kernel
theorem okX12_planned : ab_okM MX12_planned 3 := ⟨by decide, ⟨by decide, by decide⟩, ab_in 2694 (by decide +kernel) (by decide +kernel), ab_in 99 (by decide +kernel) (by decide +kernel), by decide +kernel, by decide⟩
set_option maxHeartbeats 4000000 in
set_option maxRecDepth 100000 in
theorem sX12_planned_21 (v4 : Int32) (v5 : Int32)  (x : ab_X) (K : Int32 → ab_X → Prop)  (d bc bs : Nat) (hdp : 105 ≤ d)  (h : Lp2 (lX12_planned_21  x K ) v4 v5) : EW MX12_planned 21 [(0, .ref 246), (4, .int v4), (5, .int v5)] [] (aS x) d bc bs (liI K) := by
  refine Lp2.use (P := fun v4 v5 => EW MX12_planned 21 [(0, .ref 246), (4, .int v4), (5, .int v5)] [] (aS x) d bc bs (liI K)) (fun L21 v4 v5 hL21 h => ?_) v4 v5 h
  unfold lX12_planned_21 at h
  refine EW_iload (pc2 := 23) rfl dX12_planned_21 2 rfl ?_
  refine EW_bipush (pc2 := 25) (v := 20) rfl dX12_planned_23 (by decide) ?_
  refine EW_icmp_ge (tgt := 60) (pc2 := 28) rfl dX12_planned_25 (by decide) (fun q => ?_) (fun q => ?_)
  · replace h := h.1 q
    refine EW_iconst (pc2 := 61) (v := (-1)) rfl dX12_planned_60 (by decide) ?_
    exact AW_iret rfl dX12_planned_61 ⟨_, _, rfl, rfl, h⟩
  · replace h := h.2 q
    refine EW_aload_n (pc2 := 29) rfl dX12_planned_28 0 rfl ?_
    refine AW_geti ⟨gfRX12_642, rfl⟩ (pc2 := 32) rfl dX12_planned_29 q246 ?_
    refine EW_iload (pc2 := 34) rfl dX12_planned_32 2 rfl ?_
    refine EW_ishr (pc2 := 35) rfl dX12_planned_34 ?_
    refine EW_iconst (pc2 := 36) (v := 1) rfl dX12_planned_35 (by decide) ?_
    refine EW_iand (pc2 := 37) rfl dX12_planned_36 ?_
    refine EW_if_ne (tgt := 43) (pc2 := 40) rfl dX12_planned_37 (by decide) (fun q => ?_) (fun q => ?_)
    · replace h := h.1 q
      refine EW_iload (pc2 := 45) rfl dX12_planned_43 1 rfl ?_
      refine EW_if_ne (tgt := 51) (pc2 := 48) rfl dX12_planned_45 (by decide) (fun q => ?_) (fun q => ?_)
      · replace h := h.1 q
        refine EW_iinc (v4 + (-1)) (pc2 := 54) rfl dX12_planned_51 1 rfl rfl (by decide) [1, 0, 2] [(0, .ref 246), (4, .int (v4 + (-1))), (5, .int v5)] rfl ?_
        refine EW_iinc (v5 + 1) (pc2 := 57) rfl dX12_planned_54 2 rfl rfl (by decide) [1, 2, 0] [(0, .ref 246), (4, .int (v4 + (-1))), (5, .int (v5 + 1))] rfl ?_
        refine EW_goto (tgt := 21) dX12_planned_57 (by decide) ?_
        exact hL21 (v4 + (-1)) (v5 + 1) h
      · replace h := h.2 q
        refine EW_iload (pc2 := 50) rfl dX12_planned_48 2 rfl ?_
        exact AW_iret rfl dX12_planned_50 ⟨_, _, rfl, rfl, h⟩
    · replace h := h.2 q
      refine EW_goto (tgt := 54) dX12_planned_40 (by decide) ?_
      refine EW_iinc (v5 + 1) (pc2 := 57) rfl dX12_planned_54 2 rfl rfl (by decide) [1, 2, 0] [(0, .ref 246), (4, .int v4), (5, .int (v5 + 1))] rfl ?_
      refine EW_goto (tgt := 21) dX12_planned_57 (by decide) ?_
      exact hL21 v4 (v5 + 1) h
set_option maxHeartbeats 4000000 in
set_option maxRecDepth 100000 in
theorem sX12_planned (v1 : Int32) (v2 : Int32) (v3 : Int32)  (x : ab_X) (K : Int32 → ab_X → Prop) (d bc bs : Nat) (hdp : 105 ≤ d) (h : wX12_planned v1 v2 v3 x K) : EW MX12_planned 0 [(0, .ref 246), (1, .int v1), (2, .int v2), (3, .int v3)] [] (aS x) d bc bs (liI K) := by
  unfold wX12_planned at h
  refine EW_aload_n (pc2 := 1) rfl dX12_planned_0 0 rfl ?_
  refine EW_iload_n (pc2 := 2) rfl dX12_planned_1 1 rfl ?_
  refine EW_iload_n (pc2 := 3) rfl dX12_planned_2 2 rfl ?_
  refine AW_invV (M' := MX12_findPlan) [.int v1, .int v2] (rest := []) mlRX12_645 okX12_findPlan (pc2 := 6) rfl dX12_planned_3 rfl rfl (Nat.le_of_ble_eq_true rfl) (Nat.le_of_ble_eq_true rfl) (d' := 104) (by omega) q246 ⟨by decide, rfl⟩ (EW_mono (fun _ _ hr => ?_) (sX12_findPlan v1 v2  x _ _ 0 0 (Nat.le_refl _) h))
  obtain ⟨r1, x2, rfl, rfl, h⟩ := hr
  refine EW_if_eq (tgt := 13) (pc2 := 9) rfl dX12_planned_6 (by decide) (fun q => ?_) (fun q => ?_)
  · replace h := h.1 q
    refine EW_iconst (pc2 := 14) (v := (-1)) rfl dX12_planned_13 (by decide) ?_
    exact AW_iret rfl dX12_planned_14 ⟨_, _, rfl, rfl, h⟩
  · replace h := h.2 q
    refine EW_iload_n (pc2 := 10) rfl dX12_planned_9 3 rfl ?_
    refine EW_if_ge (tgt := 15) (pc2 := 13) rfl dX12_planned_10 (by decide) (fun q => ?_) (fun q => ?_)
    · replace h := h.1 q
      refine EW_iload_n (pc2 := 16) rfl dX12_planned_15 3 rfl ?_
      refine EW_istore (pc2 := 18) rfl dX12_planned_16 (by decide) [1, 2, 3, 4, 0] [(0, .ref 246), (1, .int v1), (2, .int v2), (3, .int v3), (4, .int v3)] rfl ?_
      refine EW_iconst (pc2 := 19) (v := 0) rfl dX12_planned_18 (by decide) ?_
      refine EW_istore (pc2 := 21) rfl dX12_planned_19 (by decide) [1, 2, 3, 4, 5, 0] [(0, .ref 246), (1, .int v1), (2, .int v2), (3, .int v3), (4, .int v3), (5, .int 0)] rfl ?_
      refine EW_ls [0, 4, 5] rfl ?_
      exact sX12_planned_21 v3 0 x2 K d bc bs hdp h
    · replace h := h.2 q
      refine EW_iconst (pc2 := 14) (v := (-1)) rfl dX12_planned_13 (by decide) ?_
      exact AW_iret rfl dX12_planned_14 ⟨_, _, rfl, rfl, h⟩
theorem cnRX12_654 : Cond.constant RX12 654 (-1000000) ∈ ab_G := ab_in 2707 (by decide +kernel) (by decide +kernel)
theorem cnRX12_659 : Cond.constantFloat RX12 659 1090519040 ∈ ab_G := ab_in 2709 (by decide +kernel) (by decide +kernel)
abbrev MX12_put : ab_M := (yX12_put, cX12_put, 5, (some .boolean))
theorem dX12_put_0 : decode cX12_put 0 = .ok (.aload_n 0, 1) := by decide +kernel
theorem dX12_put_1 : decode cX12_put 1 = .ok (.iconst 0, 1) := by decide +kernel
theorem dX12_put_2 : decode cX12_put 2 = .ok (.putfield 297, 3) := by decide +kernel
theorem dX12_put_5 : decode cX12_put 5 = .ok (.aload_n 0, 1) := by decide +kernel
theorem dX12_put_6 : decode cX12_put 6 = .ok (.iload_n 1, 1) := by decide +kernel
theorem dX12_put_7 : decode cX12_put 7 = .ok (.invokevirtual 651, 3) := by decide +kernel
theorem dX12_put_10 : decode cX12_put 10 = .ok (.ifCond .eq 32, 3) := by decide +kernel
theorem dX12_put_13 : decode cX12_put 13 = .ok (.iload_n 2, 1) := by decide +kernel
theorem dX12_put_14 : decode cX12_put 14 = .ok (.invokestatic 303, 3) := by decide +kernel
theorem dX12_put_17 : decode cX12_put 17 = .ok (.ifCond .eq 25, 3) := by decide +kernel
theorem dX12_put_20 : decode cX12_put 20 = .ok (.iload_n 3, 1) := by decide +kernel
theorem dX12_put_21 : decode cX12_put 21 = .ok (.ldc_w 654, 3) := by decide +kernel
theorem dX12_put_24 : decode cX12_put 24 = .ok (.ldc_w 296, 3) := by decide +kernel
theorem dX12_put_27 : decode cX12_put 27 = .ok (.invokestatic 307, 3) := by decide +kernel
theorem dX12_put_30 : decode cX12_put 30 = .ok (.ifCond .eq 12, 3) := by decide +kernel
theorem dX12_put_33 : decode cX12_put 33 = .ok (.aload_n 0, 1) := by decide +kernel
theorem dX12_put_34 : decode cX12_put 34 = .ok (.getfield 281, 3) := by decide +kernel
theorem dX12_put_37 : decode cX12_put 37 = .ok (.iload_n 1, 1) := by decide +kernel
theorem dX12_put_38 : decode cX12_put 38 = .ok (.baload, 1) := by decide +kernel
theorem dX12_put_39 : decode cX12_put 39 = .ok (.ifCond .eq 5, 3) := by decide +kernel
theorem dX12_put_42 : decode cX12_put 42 = .ok (.iconst 0, 1) := by decide +kernel
theorem dX12_put_43 : decode cX12_put 43 = .ok (.ireturn, 1) := by decide +kernel
theorem dX12_put_44 : decode cX12_put 44 = .ok (.bipush 20, 2) := by decide +kernel
theorem dX12_put_46 : decode cX12_put 46 = .ok (.iload_n 1, 1) := by decide +kernel
theorem dX12_put_47 : decode cX12_put 47 = .ok (.imul, 1) := by decide +kernel
theorem dX12_put_48 : decode cX12_put 48 = .ok (.iload_n 2, 1) := by decide +kernel
theorem dX12_put_49 : decode cX12_put 49 = .ok (.iadd, 1) := by decide +kernel
theorem dX12_put_50 : decode cX12_put 50 = .ok (.istore 4, 2) := by decide +kernel
theorem dX12_put_52 : decode cX12_put 52 = .ok (.aload_n 0, 1) := by decide +kernel
theorem dX12_put_53 : decode cX12_put 53 = .ok (.getfield 278, 3) := by decide +kernel
theorem dX12_put_56 : decode cX12_put 56 = .ok (.iload_n 1, 1) := by decide +kernel
theorem dX12_put_57 : decode cX12_put 57 = .ok (.iaload, 1) := by decide +kernel
theorem dX12_put_58 : decode cX12_put 58 = .ok (.tableswitch 61 0 2 #[26, 38, 50], 26) := by decide +kernel
theorem dX12_put_84 : decode cX12_put 84 = .ok (.aload_n 0, 1) := by decide +kernel
theorem dX12_put_85 : decode cX12_put 85 = .ok (.getfield 271, 3) := by decide +kernel
theorem dX12_put_88 : decode cX12_put 88 = .ok (.iload 4, 2) := by decide +kernel
theorem dX12_put_90 : decode cX12_put 90 = .ok (.iload_n 3, 1) := by decide +kernel
theorem dX12_put_91 : decode cX12_put 91 = .ok (.i2b, 1) := by decide +kernel
theorem dX12_put_92 : decode cX12_put 92 = .ok (.i2d, 1) := by decide +kernel
theorem dX12_put_93 : decode cX12_put 93 = .ok (.dastore, 1) := by decide +kernel
theorem dX12_put_94 : decode cX12_put 94 = .ok (.iconst 1, 1) := by decide +kernel
theorem dX12_put_95 : decode cX12_put 95 = .ok (.ireturn, 1) := by decide +kernel
theorem dX12_put_96 : decode cX12_put 96 = .ok (.aload_n 0, 1) := by decide +kernel
theorem dX12_put_97 : decode cX12_put 97 = .ok (.getfield 271, 3) := by decide +kernel
theorem dX12_put_100 : decode cX12_put 100 = .ok (.iload 4, 2) := by decide +kernel
theorem dX12_put_102 : decode cX12_put 102 = .ok (.iload_n 3, 1) := by decide +kernel
theorem dX12_put_103 : decode cX12_put 103 = .ok (.i2s, 1) := by decide +kernel
theorem dX12_put_104 : decode cX12_put 104 = .ok (.i2d, 1) := by decide +kernel
theorem dX12_put_105 : decode cX12_put 105 = .ok (.dastore, 1) := by decide +kernel
theorem dX12_put_106 : decode cX12_put 106 = .ok (.iconst 1, 1) := by decide +kernel
theorem dX12_put_107 : decode cX12_put 107 = .ok (.ireturn, 1) := by decide +kernel
theorem dX12_put_108 : decode cX12_put 108 = .ok (.aload_n 0, 1) := by decide +kernel
theorem dX12_put_109 : decode cX12_put 109 = .ok (.getfield 271, 3) := by decide +kernel
theorem dX12_put_112 : decode cX12_put 112 = .ok (.iload 4, 2) := by decide +kernel
theorem dX12_put_114 : decode cX12_put 114 = .ok (.iload_n 3, 1) := by decide +kernel
theorem dX12_put_115 : decode cX12_put 115 = .ok (.i2d, 1) := by decide +kernel
theorem dX12_put_116 : decode cX12_put 116 = .ok (.dastore, 1) := by decide +kernel
theorem dX12_put_117 : decode cX12_put 117 = .ok (.iconst 1, 1) := by decide +kernel
theorem dX12_put_118 : decode cX12_put 118 = .ok (.ireturn, 1) := by decide +kernel
theorem dX12_put_119 : decode cX12_put 119 = .ok (.aload_n 0, 1) := by decide +kernel
theorem dX12_put_120 : decode cX12_put 120 = .ok (.getfield 271, 3) := by decide +kernel
theorem dX12_put_123 : decode cX12_put 123 = .ok (.iload 4, 2) := by decide +kernel
theorem dX12_put_125 : decode cX12_put 125 = .ok (.iload_n 3, 1) := by decide +kernel
theorem dX12_put_126 : decode cX12_put 126 = .ok (.ldc_w 654, 3) := by decide +kernel
theorem dX12_put_129 : decode cX12_put 129 = .ok (.if_icmp .ne 9, 3) := by decide +kernel
theorem dX12_put_132 : decode cX12_put 132 = .ok (.ldc2_w 657, 3) := by decide +kernel
theorem dX12_put_135 : decode cX12_put 135 = .ok (.goto 10, 3) := by decide +kernel
theorem dX12_put_138 : decode cX12_put 138 = .ok (.iload_n 3, 1) := by decide +kernel
theorem dX12_put_139 : decode cX12_put 139 = .ok (.i2f, 1) := by decide +kernel
theorem dX12_put_140 : decode cX12_put 140 = .ok (.ldc_w 659, 3) := by decide +kernel
theorem dX12_put_143 : decode cX12_put 143 = .ok (.fdiv, 1) := by decide +kernel
theorem dX12_put_144 : decode cX12_put 144 = .ok (.f2d, 1) := by decide +kernel
theorem dX12_put_145 : decode cX12_put 145 = .ok (.dastore, 1) := by decide +kernel
theorem dX12_put_146 : decode cX12_put 146 = .ok (.iconst 1, 1) := by decide +kernel
theorem dX12_put_147 : decode cX12_put 147 = .ok (.ireturn, 1) := by decide +kernel
theorem okX12_put : ab_okM MX12_put 3 := ⟨by decide, ⟨by decide, by decide⟩, ab_in 2702 (by decide +kernel) (by decide +kernel), ab_in 99 (by decide +kernel) (by decide +kernel), by decide +kernel, by decide⟩
set_option maxHeartbeats 4000000 in
set_option maxRecDepth 100000 in
theorem sX12_put (v1 : Int32) (v2 : Int32) (v3 : Int32)  (x : ab_X) (K : Int32 → ab_X → Prop) (d bc bs : Nat) (hdp : 1 ≤ d) (h : wX12_put v1 v2 v3 x K) : EW MX12_put 0 [(0, .ref 246), (1, .int v1), (2, .int v2), (3, .int v3)] [] (aS x) d bc bs (liI K) := by
  unfold wX12_put at h
  refine EW_aload_n (pc2 := 1) rfl dX12_put_0 0 rfl ?_
  refine EW_iconst (pc2 := 2) (v := 0) rfl dX12_put_1 (by decide) ?_
  refine AW_puti ⟨gfRX12_297, rfl, rfl⟩ (pc2 := 5) rfl dX12_put_2 q246 ?_
  refine EW_aload_n (pc2 := 6) rfl dX12_put_5 0 rfl ?_
  refine EW_iload_n (pc2 := 7) rfl dX12_put_6 1 rfl ?_
  refine AW_invV (M' := MX12_isRow) [.int v1] (rest := []) mlRX12_651 okX12_isRow (pc2 := 10) rfl dX12_put_7 rfl rfl (Nat.le_of_ble_eq_true rfl) (Nat.le_of_ble_eq_true rfl) (d' := 0) (by omega) q246 ⟨by decide, rfl⟩ (EW_mono (fun _ _ hr => ?_) (sX12_isRow v1  (wr x 246 0 0) _ _ 0 0 (Nat.le_refl _) h))
  obtain ⟨r1, rfl, rfl, h⟩ := hr
  refine EW_if_eq (tgt := 42) (pc2 := 13) rfl dX12_put_10 (by decide) (fun q => ?_) (fun q => ?_)
  · replace h := h.1 q
    refine EW_iconst (pc2 := 43) (v := 0) rfl dX12_put_42 (by decide) ?_
    exact AW_zret rfl isB0 dX12_put_43 ⟨_, _, rfl, rfl, h⟩
  · replace h := h.2 q
    refine EW_iload_n (pc2 := 14) rfl dX12_put_13 2 rfl ?_
    refine AW_invS (M' := MX12_isCorner) [.int v2] (rest := []) mlRX12_303 okX12_isCorner (pc2 := 17) rfl dX12_put_14 rfl rfl (Nat.le_of_ble_eq_true rfl) (Nat.le_of_ble_eq_true rfl) (d' := 0) (by omega) (EW_mono (fun _ _ hr => ?_) (sX12_isCorner v2  (wr x 246 0 0) _ _ 0 0 (Nat.le_refl _) h))
    obtain ⟨r2, rfl, rfl, h⟩ := hr
    refine EW_if_eq (tgt := 42) (pc2 := 20) rfl dX12_put_17 (by decide) (fun q => ?_) (fun q => ?_)
    · replace h := h.1 q
      refine EW_iconst (pc2 := 43) (v := 0) rfl dX12_put_42 (by decide) ?_
      exact AW_zret rfl isB0 dX12_put_43 ⟨_, _, rfl, rfl, h⟩
    · replace h := h.2 q
      refine EW_iload_n (pc2 := 21) rfl dX12_put_20 3 rfl ?_
      refine EW_ldcw cnRX12_654 (pc2 := 24) rfl dX12_put_21 ?_
      refine EW_ldcw cnRX12_296 (pc2 := 27) rfl dX12_put_24 ?_
      refine AW_invS (M' := MX12_isIn) [.int v3, .int (-1000000), .int 1000000] (rest := []) mlRX12_307 okX12_isIn (pc2 := 30) rfl dX12_put_27 rfl rfl (Nat.le_of_ble_eq_true rfl) (Nat.le_of_ble_eq_true rfl) (d' := 0) (by omega) (EW_mono (fun _ _ hr => ?_) (sX12_isIn v3 (-1000000) 1000000  (wr x 246 0 0) _ _ 0 0 (Nat.le_refl _) h))
      obtain ⟨r3, rfl, rfl, h⟩ := hr
      refine EW_if_eq (tgt := 42) (pc2 := 33) rfl dX12_put_30 (by decide) (fun q => ?_) (fun q => ?_)
      · replace h := h.1 q
        refine EW_iconst (pc2 := 43) (v := 0) rfl dX12_put_42 (by decide) ?_
        exact AW_zret rfl isB0 dX12_put_43 ⟨_, _, rfl, rfl, h⟩
      · replace h := h.2 q
        refine EW_aload_n (pc2 := 34) rfl dX12_put_33 0 rfl ?_
        refine AW_getr (r := 332) ⟨gfRX12_281, rfl⟩ (pc2 := 37) rfl dX12_put_34 q246 rfl ?_
        refine EW_iload_n (pc2 := 38) rfl dX12_put_37 1 rfl ?_
        obtain ⟨b4, h⟩ := h
        refine AW_zald (pc2 := 39) rfl dX12_put_38 q332 b4 ?_
        refine EW_if_eq (tgt := 44) (pc2 := 42) rfl dX12_put_39 (by decide) (fun q => ?_) (fun q => ?_)
        · replace h := h.1 q
          refine EW_bipush (pc2 := 46) (v := 20) rfl dX12_put_44 (by decide) ?_
          refine EW_iload_n (pc2 := 47) rfl dX12_put_46 1 rfl ?_
          refine EW_imul (pc2 := 48) rfl dX12_put_47 ?_
          refine EW_iload_n (pc2 := 49) rfl dX12_put_48 2 rfl ?_
          refine EW_iadd (pc2 := 50) rfl dX12_put_49 ?_
          refine EW_istore (pc2 := 52) rfl dX12_put_50 (by decide) [1, 2, 3, 4, 0] [(0, .ref 246), (1, .int v1), (2, .int v2), (3, .int v3), (4, .int ((20 * v1) + v2))] rfl ?_
          refine EW_aload_n (pc2 := 53) rfl dX12_put_52 0 rfl ?_
          refine AW_getr (r := 331) ⟨gfRX12_278, rfl⟩ (pc2 := 56) rfl dX12_put_53 q246 rfl ?_
          refine EW_iload_n (pc2 := 57) rfl dX12_put_56 1 rfl ?_
          obtain ⟨b5, h⟩ := h
          refine AW_iald (pc2 := 58) rfl dX12_put_57 q331 b5 ?_
          by_cases qo : Int32.toInt ((wr x 246 0 0).1 331 (Int32.toNatClampNeg v1)) < 0 ∨ 2 < Int32.toInt ((wr x 246 0 0).1 331 (Int32.toNatClampNeg v1))
          · replace h := h.1 qo
            refine EW_tabOut (tgt := 119) dX12_put_58 qo (by decide) ?_
            refine EW_aload_n (pc2 := 120) rfl dX12_put_119 0 rfl ?_
            refine AW_getr (r := 329) ⟨gfRX12_271, rfl⟩ (pc2 := 123) rfl dX12_put_120 q246 rfl ?_
            refine EW_iload (pc2 := 125) rfl dX12_put_123 4 rfl ?_
            refine EW_iload_n (pc2 := 126) rfl dX12_put_125 3 rfl ?_
            refine EW_ldcw cnRX12_654 (pc2 := 129) rfl dX12_put_126 ?_
            refine EW_icmp_ne (tgt := 138) (pc2 := 132) rfl dX12_put_129 (by decide) (fun q => ?_) (fun q => ?_)
            · replace h := h.1 q
              refine EW_iload_n (pc2 := 139) rfl dX12_put_138 3 rfl ?_
              refine EW_i2f (pc2 := 140) rfl dX12_put_139 ?_
              refine EW_ldcwf cnRX12_659 (pc2 := 143) rfl dX12_put_140 ?_
              refine EW_fdiv_any (pc2 := 144) rfl dX12_put_143 (fun r6 qr6 => ?_)
              replace h := h r6 qr6
              refine EW_f2d_any (pc2 := 145) rfl dX12_put_144 (fun r7 qr7 => ?_)
              replace h := h r7 qr7
              obtain ⟨b8, h⟩ := h
              refine AW_dast (pc2 := 146) rfl dX12_put_145 q329 b8 ?_
              refine EW_iconst (pc2 := 147) (v := 1) rfl dX12_put_146 (by decide) ?_
              exact AW_zret rfl isB1 dX12_put_147 ⟨_, _, rfl, rfl, h⟩
            · replace h := h.2 q
              refine EW_ldc2d cnRX12_657 (pc2 := 135) rfl dX12_put_132 ?_
              refine EW_goto (tgt := 145) dX12_put_135 (by decide) ?_
              obtain ⟨b9, h⟩ := h
              refine AW_dast (pc2 := 146) rfl dX12_put_145 q329 b9 ?_
              refine EW_iconst (pc2 := 147) (v := 1) rfl dX12_put_146 (by decide) ?_
              exact AW_zret rfl isB1 dX12_put_147 ⟨_, _, rfl, rfl, h⟩
          · obtain ⟨kk, hkk, qk⟩ := sw_in 0 2 (by decide) qo
            match kk, hkk, qk with
            | 0, _, qk =>
              replace h := h.2.1 qk
              refine EW_tabIn (off := 26) (tgt := 84) dX12_put_58 (by rw [qk]; decide) (by rw [qk]; decide) (by rw [qk]; decide) (by decide) ?_
              refine EW_aload_n (pc2 := 85) rfl dX12_put_84 0 rfl ?_
              refine AW_getr (r := 329) ⟨gfRX12_271, rfl⟩ (pc2 := 88) rfl dX12_put_85 q246 rfl ?_
              refine EW_iload (pc2 := 90) rfl dX12_put_88 4 rfl ?_
              refine EW_iload_n (pc2 := 91) rfl dX12_put_90 3 rfl ?_
              refine EW_i2b (pc2 := 92) (v := (v3).toInt8.toInt32) rfl dX12_put_91 rfl ?_
              refine EW_i2d (pc2 := 93) rfl dX12_put_92 ?_
              obtain ⟨b10, h⟩ := h
              refine AW_dast (pc2 := 94) rfl dX12_put_93 q329 b10 ?_
              refine EW_iconst (pc2 := 95) (v := 1) rfl dX12_put_94 (by decide) ?_
              exact AW_zret rfl isB1 dX12_put_95 ⟨_, _, rfl, rfl, h⟩
            | 1, _, qk =>
              replace h := h.2.2.1 qk
              refine EW_tabIn (off := 38) (tgt := 96) dX12_put_58 (by rw [qk]; decide) (by rw [qk]; decide) (by rw [qk]; decide) (by decide) ?_
              refine EW_aload_n (pc2 := 97) rfl dX12_put_96 0 rfl ?_
              refine AW_getr (r := 329) ⟨gfRX12_271, rfl⟩ (pc2 := 100) rfl dX12_put_97 q246 rfl ?_
              refine EW_iload (pc2 := 102) rfl dX12_put_100 4 rfl ?_
              refine EW_iload_n (pc2 := 103) rfl dX12_put_102 3 rfl ?_
              refine EW_i2s (pc2 := 104) (v := (v3).toInt16.toInt32) rfl dX12_put_103 rfl ?_
              refine EW_i2d (pc2 := 105) rfl dX12_put_104 ?_
              obtain ⟨b11, h⟩ := h
              refine AW_dast (pc2 := 106) rfl dX12_put_105 q329 b11 ?_
              refine EW_iconst (pc2 := 107) (v := 1) rfl dX12_put_106 (by decide) ?_
              exact AW_zret rfl isB1 dX12_put_107 ⟨_, _, rfl, rfl, h⟩
            | 2, _, qk =>
              replace h := h.2.2.2 qk
              refine EW_tabIn (off := 50) (tgt := 108) dX12_put_58 (by rw [qk]; decide) (by rw [qk]; decide) (by rw [qk]; decide) (by decide) ?_
              refine EW_aload_n (pc2 := 109) rfl dX12_put_108 0 rfl ?_
              refine AW_getr (r := 329) ⟨gfRX12_271, rfl⟩ (pc2 := 112) rfl dX12_put_109 q246 rfl ?_
              refine EW_iload (pc2 := 114) rfl dX12_put_112 4 rfl ?_
              refine EW_iload_n (pc2 := 115) rfl dX12_put_114 3 rfl ?_
              refine EW_i2d (pc2 := 116) rfl dX12_put_115 ?_
              obtain ⟨b12, h⟩ := h
              refine AW_dast (pc2 := 117) rfl dX12_put_116 q329 b12 ?_
              refine EW_iconst (pc2 := 118) (v := 1) rfl dX12_put_117 (by decide) ?_
              exact AW_zret rfl isB1 dX12_put_118 ⟨_, _, rfl, rfl, h⟩
            | n9 + 3, hkk, _ => exact absurd hkk (by omega)
        · replace h := h.2 q
          refine EW_iconst (pc2 := 43) (v := 0) rfl dX12_put_42 (by decide) ?_
          exact AW_zret rfl isB0 dX12_put_43 ⟨_, _, rfl, rfl, h⟩
abbrev MX12_reach : ab_M := (yX12_reach, cX12_reach, 3, (some .int))
theorem dX12_reach_0 : decode cX12_reach 0 = .ok (.aload_n 0, 1) := by decide +kernel
theorem dX12_reach_1 : decode cX12_reach 1 = .ok (.iconst 0, 1) := by decide +kernel
theorem dX12_reach_2 : decode cX12_reach 2 = .ok (.putfield 297, 3) := by decide +kernel
theorem dX12_reach_5 : decode cX12_reach 5 = .ok (.aload_n 0, 1) := by decide +kernel
theorem dX12_reach_6 : decode cX12_reach 6 = .ok (.iload_n 1, 1) := by decide +kernel
theorem dX12_reach_7 : decode cX12_reach 7 = .ok (.invokevirtual 392, 3) := by decide +kernel
theorem dX12_reach_10 : decode cX12_reach 10 = .ok (.ifCond .eq 20, 3) := by decide +kernel
theorem dX12_reach_13 : decode cX12_reach 13 = .ok (.aload_n 0, 1) := by decide +kernel
theorem dX12_reach_14 : decode cX12_reach 14 = .ok (.iload_n 2, 1) := by decide +kernel
theorem dX12_reach_15 : decode cX12_reach 15 = .ok (.invokevirtual 334, 3) := by decide +kernel
theorem dX12_reach_18 : decode cX12_reach 18 = .ok (.ifCond .eq 12, 3) := by decide +kernel
theorem dX12_reach_21 : decode cX12_reach 21 = .ok (.aload_n 0, 1) := by decide +kernel
theorem dX12_reach_22 : decode cX12_reach 22 = .ok (.iload_n 1, 1) := by decide +kernel
theorem dX12_reach_23 : decode cX12_reach 23 = .ok (.iload_n 2, 1) := by decide +kernel
theorem dX12_reach_24 : decode cX12_reach 24 = .ok (.invokevirtual 411, 3) := by decide +kernel
theorem dX12_reach_27 : decode cX12_reach 27 = .ok (.goto 4, 3) := by decide +kernel
theorem dX12_reach_30 : decode cX12_reach 30 = .ok (.iconst (-1), 1) := by decide +kernel
theorem dX12_reach_31 : decode cX12_reach 31 = .ok (.ireturn, 1) := by decide +kernel
theorem okX12_reach : ab_okM MX12_reach 2 := ⟨by decide, ⟨by decide, by decide⟩, ab_in 2380 (by decide +kernel) (by decide +kernel), ab_in 99 (by decide +kernel) (by decide +kernel), by decide +kernel, by decide⟩
set_option maxHeartbeats 4000000 in
set_option maxRecDepth 100000 in
theorem sX12_reach (v1 : Int32) (v2 : Int32)  (x : ab_X) (K : Int32 → ab_X → Prop) (d bc bs : Nat) (hdp : 3 ≤ d) (h : wX12_reach v1 v2 x K) : EW MX12_reach 0 [(0, .ref 246), (1, .int v1), (2, .int v2)] [] (aS x) d bc bs (liI K) := by
  unfold wX12_reach at h
  refine EW_aload_n (pc2 := 1) rfl dX12_reach_0 0 rfl ?_
  refine EW_iconst (pc2 := 2) (v := 0) rfl dX12_reach_1 (by decide) ?_
  refine AW_puti ⟨gfRX12_297, rfl, rfl⟩ (pc2 := 5) rfl dX12_reach_2 q246 ?_
  refine EW_aload_n (pc2 := 6) rfl dX12_reach_5 0 rfl ?_
  refine EW_iload_n (pc2 := 7) rfl dX12_reach_6 1 rfl ?_
  refine AW_invV (M' := MX12_isCrew) [.int v1] (rest := []) mlRX12_392 okX12_isCrew (pc2 := 10) rfl dX12_reach_7 rfl rfl (Nat.le_of_ble_eq_true rfl) (Nat.le_of_ble_eq_true rfl) (d' := 0) (by omega) q246 ⟨by decide, rfl⟩ (EW_mono (fun _ _ hr => ?_) (sX12_isCrew v1  (wr x 246 0 0) _ _ 0 0 (Nat.le_refl _) h))
  obtain ⟨r1, rfl, rfl, h⟩ := hr
  refine EW_if_eq (tgt := 30) (pc2 := 13) rfl dX12_reach_10 (by decide) (fun q => ?_) (fun q => ?_)
  · replace h := h.1 q
    refine EW_iconst (pc2 := 31) (v := (-1)) rfl dX12_reach_30 (by decide) ?_
    exact AW_iret rfl dX12_reach_31 ⟨_, _, rfl, rfl, h⟩
  · replace h := h.2 q
    refine EW_aload_n (pc2 := 14) rfl dX12_reach_13 0 rfl ?_
    refine EW_iload_n (pc2 := 15) rfl dX12_reach_14 2 rfl ?_
    refine AW_invV (M' := MX12_isHouse) [.int v2] (rest := []) mlRX12_334 okX12_isHouse (pc2 := 18) rfl dX12_reach_15 rfl rfl (Nat.le_of_ble_eq_true rfl) (Nat.le_of_ble_eq_true rfl) (d' := 0) (by omega) q246 ⟨by decide, rfl⟩ (EW_mono (fun _ _ hr => ?_) (sX12_isHouse v2  (wr x 246 0 0) _ _ 0 0 (Nat.le_refl _) h))
    obtain ⟨r2, rfl, rfl, h⟩ := hr
    refine EW_if_eq (tgt := 30) (pc2 := 21) rfl dX12_reach_18 (by decide) (fun q => ?_) (fun q => ?_)
    · replace h := h.1 q
      refine EW_iconst (pc2 := 31) (v := (-1)) rfl dX12_reach_30 (by decide) ?_
      exact AW_iret rfl dX12_reach_31 ⟨_, _, rfl, rfl, h⟩
    · replace h := h.2 q
      refine EW_aload_n (pc2 := 22) rfl dX12_reach_21 0 rfl ?_
      refine EW_iload_n (pc2 := 23) rfl dX12_reach_22 1 rfl ?_
      refine EW_iload_n (pc2 := 24) rfl dX12_reach_23 2 rfl ?_
      refine AW_invV (M' := MX12_reachOf) [.int v1, .int v2] (rest := []) mlRX12_411 okX12_reachOf (pc2 := 27) rfl dX12_reach_24 rfl rfl (Nat.le_of_ble_eq_true rfl) (Nat.le_of_ble_eq_true rfl) (d' := 2) (by omega) q246 ⟨by decide, rfl⟩ (EW_mono (fun _ _ hr => ?_) (sX12_reachOf v1 v2  (wr x 246 0 0) _ _ 0 0 (Nat.le_refl _) h))
      obtain ⟨r3, rfl, rfl, h⟩ := hr
      refine EW_goto (tgt := 31) dX12_reach_27 (by decide) ?_
      exact AW_iret rfl dX12_reach_31 ⟨_, _, rfl, rfl, h⟩
abbrev MX12_recall : ab_M := (yX12_recall, cX12_recall, 2, (some .boolean))
theorem dX12_recall_0 : decode cX12_recall 0 = .ok (.aload_n 0, 1) := by decide +kernel
theorem dX12_recall_1 : decode cX12_recall 1 = .ok (.iconst 0, 1) := by decide +kernel
theorem dX12_recall_2 : decode cX12_recall 2 = .ok (.putfield 297, 3) := by decide +kernel
theorem dX12_recall_5 : decode cX12_recall 5 = .ok (.aload_n 0, 1) := by decide +kernel
theorem dX12_recall_6 : decode cX12_recall 6 = .ok (.iload_n 1, 1) := by decide +kernel
theorem dX12_recall_7 : decode cX12_recall 7 = .ok (.invokevirtual 392, 3) := by decide +kernel
theorem dX12_recall_10 : decode cX12_recall 10 = .ok (.ifCond .eq 27, 3) := by decide +kernel
theorem dX12_recall_13 : decode cX12_recall 13 = .ok (.aload_n 0, 1) := by decide +kernel
theorem dX12_recall_14 : decode cX12_recall 14 = .ok (.getfield 128, 3) := by decide +kernel
theorem dX12_recall_17 : decode cX12_recall 17 = .ok (.iload_n 1, 1) := by decide +kernel
theorem dX12_recall_18 : decode cX12_recall 18 = .ok (.iaload, 1) := by decide +kernel
theorem dX12_recall_19 : decode cX12_recall 19 = .ok (.ifCond .ne 18, 3) := by decide +kernel
theorem dX12_recall_22 : decode cX12_recall 22 = .ok (.aload_n 0, 1) := by decide +kernel
theorem dX12_recall_23 : decode cX12_recall 23 = .ok (.getfield 131, 3) := by decide +kernel
theorem dX12_recall_26 : decode cX12_recall 26 = .ok (.iload_n 1, 1) := by decide +kernel
theorem dX12_recall_27 : decode cX12_recall 27 = .ok (.iaload, 1) := by decide +kernel
theorem dX12_recall_28 : decode cX12_recall 28 = .ok (.aload_n 0, 1) := by decide +kernel
theorem dX12_recall_29 : decode cX12_recall 29 = .ok (.getfield 110, 3) := by decide +kernel
theorem dX12_recall_32 : decode cX12_recall 32 = .ok (.iload_n 1, 1) := by decide +kernel
theorem dX12_recall_33 : decode cX12_recall 33 = .ok (.iaload, 1) := by decide +kernel
theorem dX12_recall_34 : decode cX12_recall 34 = .ok (.if_icmp .ne 5, 3) := by decide +kernel
theorem dX12_recall_37 : decode cX12_recall 37 = .ok (.iconst 0, 1) := by decide +kernel
theorem dX12_recall_38 : decode cX12_recall 38 = .ok (.ireturn, 1) := by decide +kernel
theorem dX12_recall_39 : decode cX12_recall 39 = .ok (.aload_n 0, 1) := by decide +kernel
theorem dX12_recall_40 : decode cX12_recall 40 = .ok (.iload_n 1, 1) := by decide +kernel
theorem dX12_recall_41 : decode cX12_recall 41 = .ok (.aload_n 0, 1) := by decide +kernel
theorem dX12_recall_42 : decode cX12_recall 42 = .ok (.getfield 131, 3) := by decide +kernel
theorem dX12_recall_45 : decode cX12_recall 45 = .ok (.iload_n 1, 1) := by decide +kernel
theorem dX12_recall_46 : decode cX12_recall 46 = .ok (.iaload, 1) := by decide +kernel
theorem dX12_recall_47 : decode cX12_recall 47 = .ok (.invokevirtual 405, 3) := by decide +kernel
theorem dX12_recall_50 : decode cX12_recall 50 = .ok (.iconst 1, 1) := by decide +kernel
theorem dX12_recall_51 : decode cX12_recall 51 = .ok (.ireturn, 1) := by decide +kernel
theorem okX12_recall : ab_okM MX12_recall 1 := ⟨by decide, ⟨by decide, by decide⟩, ab_in 2364 (by decide +kernel) (by decide +kernel), ab_in 99 (by decide +kernel) (by decide +kernel), by decide +kernel, by decide⟩
set_option maxHeartbeats 4000000 in
set_option maxRecDepth 100000 in
theorem sX12_recall (v1 : Int32)  (x : ab_X) (K : Int32 → ab_X → Prop) (d bc bs : Nat) (hdp : 3 ≤ d) (h : wX12_recall v1 x K) : EW MX12_recall 0 [(0, .ref 246), (1, .int v1)] [] (aS x) d bc bs (liI K) := by
  unfold wX12_recall at h
  refine EW_aload_n (pc2 := 1) rfl dX12_recall_0 0 rfl ?_
  refine EW_iconst (pc2 := 2) (v := 0) rfl dX12_recall_1 (by decide) ?_
  refine AW_puti ⟨gfRX12_297, rfl, rfl⟩ (pc2 := 5) rfl dX12_recall_2 q246 ?_
  refine EW_aload_n (pc2 := 6) rfl dX12_recall_5 0 rfl ?_
  refine EW_iload_n (pc2 := 7) rfl dX12_recall_6 1 rfl ?_
  refine AW_invV (M' := MX12_isCrew) [.int v1] (rest := []) mlRX12_392 okX12_isCrew (pc2 := 10) rfl dX12_recall_7 rfl rfl (Nat.le_of_ble_eq_true rfl) (Nat.le_of_ble_eq_true rfl) (d' := 0) (by omega) q246 ⟨by decide, rfl⟩ (EW_mono (fun _ _ hr => ?_) (sX12_isCrew v1  (wr x 246 0 0) _ _ 0 0 (Nat.le_refl _) h))
  obtain ⟨r1, rfl, rfl, h⟩ := hr
  refine EW_if_eq (tgt := 37) (pc2 := 13) rfl dX12_recall_10 (by decide) (fun q => ?_) (fun q => ?_)
  · replace h := h.1 q
    refine EW_iconst (pc2 := 38) (v := 0) rfl dX12_recall_37 (by decide) ?_
    exact AW_zret rfl isB0 dX12_recall_38 ⟨_, _, rfl, rfl, h⟩
  · replace h := h.2 q
    refine EW_aload_n (pc2 := 14) rfl dX12_recall_13 0 rfl ?_
    refine AW_getr (r := 286) ⟨gfRX12_128, rfl⟩ (pc2 := 17) rfl dX12_recall_14 q246 rfl ?_
    refine EW_iload_n (pc2 := 18) rfl dX12_recall_17 1 rfl ?_
    obtain ⟨b2, h⟩ := h
    refine AW_iald (pc2 := 19) rfl dX12_recall_18 q286 b2 ?_
    refine EW_if_ne (tgt := 37) (pc2 := 22) rfl dX12_recall_19 (by decide) (fun q => ?_) (fun q => ?_)
    · replace h := h.1 q
      refine EW_iconst (pc2 := 38) (v := 0) rfl dX12_recall_37 (by decide) ?_
      exact AW_zret rfl isB0 dX12_recall_38 ⟨_, _, rfl, rfl, h⟩
    · replace h := h.2 q
      refine EW_aload_n (pc2 := 23) rfl dX12_recall_22 0 rfl ?_
      refine AW_getr (r := 287) ⟨gfRX12_131, rfl⟩ (pc2 := 26) rfl dX12_recall_23 q246 rfl ?_
      refine EW_iload_n (pc2 := 27) rfl dX12_recall_26 1 rfl ?_
      obtain ⟨b3, h⟩ := h
      refine AW_iald (pc2 := 28) rfl dX12_recall_27 q287 b3 ?_
      refine EW_aload_n (pc2 := 29) rfl dX12_recall_28 0 rfl ?_
      refine AW_getr (r := 280) ⟨gfRX12_110, rfl⟩ (pc2 := 32) rfl dX12_recall_29 q246 rfl ?_
      refine EW_iload_n (pc2 := 33) rfl dX12_recall_32 1 rfl ?_
      obtain ⟨b4, h⟩ := h
      refine AW_iald (pc2 := 34) rfl dX12_recall_33 q280 b4 ?_
      refine EW_icmp_ne (tgt := 39) (pc2 := 37) rfl dX12_recall_34 (by decide) (fun q => ?_) (fun q => ?_)
      · replace h := h.1 q
        refine EW_aload_n (pc2 := 40) rfl dX12_recall_39 0 rfl ?_
        refine EW_iload_n (pc2 := 41) rfl dX12_recall_40 1 rfl ?_
        refine EW_aload_n (pc2 := 42) rfl dX12_recall_41 0 rfl ?_
        refine AW_getr (r := 287) ⟨gfRX12_131, rfl⟩ (pc2 := 45) rfl dX12_recall_42 q246 rfl ?_
        refine EW_iload_n (pc2 := 46) rfl dX12_recall_45 1 rfl ?_
        obtain ⟨b5, h⟩ := h
        refine AW_iald (pc2 := 47) rfl dX12_recall_46 q287 b5 ?_
        refine AW_invV (M' := MX12_turns) [.int v1, .int ((wr x 246 0 0).1 287 (Int32.toNatClampNeg v1))] (rest := []) mlRX12_405 okX12_turns (pc2 := 50) rfl dX12_recall_47 rfl rfl (Nat.le_of_ble_eq_true rfl) (Nat.le_of_ble_eq_true rfl) (d' := 2) (by omega) q246 ⟨by decide, rfl⟩ (EW_mono (fun _ _ hr => ?_) (sX12_turns v1 ((wr x 246 0 0).1 287 (Int32.toNatClampNeg v1))  (wr x 246 0 0) _ _ 0 0 (Nat.le_refl _) h))
        obtain ⟨x6, rfl, rfl, h⟩ := hr
        refine EW_iconst (pc2 := 51) (v := 1) rfl dX12_recall_50 (by decide) ?_
        exact AW_zret rfl isB1 dX12_recall_51 ⟨_, _, rfl, rfl, h⟩
      · replace h := h.2 q
        refine EW_iconst (pc2 := 38) (v := 0) rfl dX12_recall_37 (by decide) ?_
        exact AW_zret rfl isB0 dX12_recall_38 ⟨_, _, rfl, rfl, h⟩
abbrev MX12_room : ab_M := (yX12_room, cX12_room, 4, (some .int))
theorem dX12_room_0 : decode cX12_room 0 = .ok (.aload_n 0, 1) := by decide +kernel
theorem dX12_room_1 : decode cX12_room 1 = .ok (.iconst 0, 1) := by decide +kernel
theorem dX12_room_2 : decode cX12_room 2 = .ok (.putfield 297, 3) := by decide +kernel
theorem dX12_room_5 : decode cX12_room 5 = .ok (.aload_n 0, 1) := by decide +kernel
theorem dX12_room_6 : decode cX12_room 6 = .ok (.iload_n 1, 1) := by decide +kernel
theorem dX12_room_7 : decode cX12_room 7 = .ok (.iload_n 2, 1) := by decide +kernel
theorem dX12_room_8 : decode cX12_room 8 = .ok (.invokevirtual 354, 3) := by decide +kernel
theorem dX12_room_11 : decode cX12_room 11 = .ok (.ifCond .ne 5, 3) := by decide +kernel
theorem dX12_room_14 : decode cX12_room 14 = .ok (.iconst (-1), 1) := by decide +kernel
theorem dX12_room_15 : decode cX12_room 15 = .ok (.ireturn, 1) := by decide +kernel
theorem dX12_room_16 : decode cX12_room 16 = .ok (.iload_n 3, 1) := by decide +kernel
theorem dX12_room_17 : decode cX12_room 17 = .ok (.ifCond .ne 17, 3) := by decide +kernel
theorem dX12_room_20 : decode cX12_room 20 = .ok (.aload_n 0, 1) := by decide +kernel
theorem dX12_room_21 : decode cX12_room 21 = .ok (.getfield 68, 3) := by decide +kernel
theorem dX12_room_24 : decode cX12_room 24 = .ok (.bipush 24, 2) := by decide +kernel
theorem dX12_room_26 : decode cX12_room 26 = .ok (.iload_n 1, 1) := by decide +kernel
theorem dX12_room_27 : decode cX12_room 27 = .ok (.imul, 1) := by decide +kernel
theorem dX12_room_28 : decode cX12_room 28 = .ok (.iload_n 2, 1) := by decide +kernel
theorem dX12_room_29 : decode cX12_room 29 = .ok (.iadd, 1) := by decide +kernel
theorem dX12_room_30 : decode cX12_room 30 = .ok (.iaload, 1) := by decide +kernel
theorem dX12_room_31 : decode cX12_room 31 = .ok (.goto 45, 3) := by decide +kernel
theorem dX12_room_34 : decode cX12_room 34 = .ok (.iload_n 3, 1) := by decide +kernel
theorem dX12_room_35 : decode cX12_room 35 = .ok (.iconst 1, 1) := by decide +kernel
theorem dX12_room_36 : decode cX12_room 36 = .ok (.if_icmp .ne 17, 3) := by decide +kernel
theorem dX12_room_39 : decode cX12_room 39 = .ok (.aload_n 0, 1) := by decide +kernel
theorem dX12_room_40 : decode cX12_room 40 = .ok (.getfield 71, 3) := by decide +kernel
theorem dX12_room_43 : decode cX12_room 43 = .ok (.bipush 24, 2) := by decide +kernel
theorem dX12_room_45 : decode cX12_room 45 = .ok (.iload_n 1, 1) := by decide +kernel
theorem dX12_room_46 : decode cX12_room 46 = .ok (.imul, 1) := by decide +kernel
theorem dX12_room_47 : decode cX12_room 47 = .ok (.iload_n 2, 1) := by decide +kernel
theorem dX12_room_48 : decode cX12_room 48 = .ok (.iadd, 1) := by decide +kernel
theorem dX12_room_49 : decode cX12_room 49 = .ok (.iaload, 1) := by decide +kernel
theorem dX12_room_50 : decode cX12_room 50 = .ok (.goto 26, 3) := by decide +kernel
theorem dX12_room_53 : decode cX12_room 53 = .ok (.iload_n 3, 1) := by decide +kernel
theorem dX12_room_54 : decode cX12_room 54 = .ok (.iconst 2, 1) := by decide +kernel
theorem dX12_room_55 : decode cX12_room 55 = .ok (.if_icmp .ne 20, 3) := by decide +kernel
theorem dX12_room_58 : decode cX12_room 58 = .ok (.aload_n 0, 1) := by decide +kernel
theorem dX12_room_59 : decode cX12_room 59 = .ok (.iload_n 1, 1) := by decide +kernel
theorem dX12_room_60 : decode cX12_room 60 = .ok (.iload_n 2, 1) := by decide +kernel
theorem dX12_room_61 : decode cX12_room 61 = .ok (.invokevirtual 348, 3) := by decide +kernel
theorem dX12_room_64 : decode cX12_room 64 = .ok (.ifCond .eq 7, 3) := by decide +kernel
theorem dX12_room_67 : decode cX12_room 67 = .ok (.iconst 1, 1) := by decide +kernel
theorem dX12_room_68 : decode cX12_room 68 = .ok (.goto 8, 3) := by decide +kernel
theorem dX12_room_71 : decode cX12_room 71 = .ok (.iconst 0, 1) := by decide +kernel
theorem dX12_room_72 : decode cX12_room 72 = .ok (.goto 4, 3) := by decide +kernel
theorem dX12_room_75 : decode cX12_room 75 = .ok (.iconst (-1), 1) := by decide +kernel
theorem dX12_room_76 : decode cX12_room 76 = .ok (.ireturn, 1) := by decide +kernel
theorem okX12_room : ab_okM MX12_room 3 := ⟨by decide, ⟨by decide, by decide⟩, ab_in 2316 (by decide +kernel) (by decide +kernel), ab_in 99 (by decide +kernel) (by decide +kernel), by decide +kernel, by decide⟩
set_option maxHeartbeats 4000000 in
set_option maxRecDepth 100000 in
theorem sX12_room (v1 : Int32) (v2 : Int32) (v3 : Int32)  (x : ab_X) (K : Int32 → ab_X → Prop) (d bc bs : Nat) (hdp : 2 ≤ d) (h : wX12_room v1 v2 v3 x K) : EW MX12_room 0 [(0, .ref 246), (1, .int v1), (2, .int v2), (3, .int v3)] [] (aS x) d bc bs (liI K) := by
  unfold wX12_room at h
  refine EW_aload_n (pc2 := 1) rfl dX12_room_0 0 rfl ?_
  refine EW_iconst (pc2 := 2) (v := 0) rfl dX12_room_1 (by decide) ?_
  refine AW_puti ⟨gfRX12_297, rfl, rfl⟩ (pc2 := 5) rfl dX12_room_2 q246 ?_
  refine EW_aload_n (pc2 := 6) rfl dX12_room_5 0 rfl ?_
  refine EW_iload_n (pc2 := 7) rfl dX12_room_6 1 rfl ?_
  refine EW_iload_n (pc2 := 8) rfl dX12_room_7 2 rfl ?_
  refine AW_invV (M' := MX12_isRoom) [.int v1, .int v2] (rest := []) mlRX12_354 okX12_isRoom (pc2 := 11) rfl dX12_room_8 rfl rfl (Nat.le_of_ble_eq_true rfl) (Nat.le_of_ble_eq_true rfl) (d' := 1) (by omega) q246 ⟨by decide, rfl⟩ (EW_mono (fun _ _ hr => ?_) (sX12_isRoom v1 v2  (wr x 246 0 0) _ _ 0 0 (Nat.le_refl _) h))
  obtain ⟨r1, rfl, rfl, h⟩ := hr
  refine EW_if_ne (tgt := 16) (pc2 := 14) rfl dX12_room_11 (by decide) (fun q => ?_) (fun q => ?_)
  · replace h := h.1 q
    refine EW_iload_n (pc2 := 17) rfl dX12_room_16 3 rfl ?_
    refine EW_if_ne (tgt := 34) (pc2 := 20) rfl dX12_room_17 (by decide) (fun q => ?_) (fun q => ?_)
    · replace h := h.1 q
      refine EW_iload_n (pc2 := 35) rfl dX12_room_34 3 rfl ?_
      refine EW_iconst (pc2 := 36) (v := 1) rfl dX12_room_35 (by decide) ?_
      refine EW_icmp_ne (tgt := 53) (pc2 := 39) rfl dX12_room_36 (by decide) (fun q => ?_) (fun q => ?_)
      · replace h := h.1 q
        refine EW_iload_n (pc2 := 54) rfl dX12_room_53 3 rfl ?_
        refine EW_iconst (pc2 := 55) (v := 2) rfl dX12_room_54 (by decide) ?_
        refine EW_icmp_ne (tgt := 75) (pc2 := 58) rfl dX12_room_55 (by decide) (fun q => ?_) (fun q => ?_)
        · replace h := h.1 q
          refine EW_iconst (pc2 := 76) (v := (-1)) rfl dX12_room_75 (by decide) ?_
          exact AW_iret rfl dX12_room_76 ⟨_, _, rfl, rfl, h⟩
        · replace h := h.2 q
          refine EW_aload_n (pc2 := 59) rfl dX12_room_58 0 rfl ?_
          refine EW_iload_n (pc2 := 60) rfl dX12_room_59 1 rfl ?_
          refine EW_iload_n (pc2 := 61) rfl dX12_room_60 2 rfl ?_
          refine AW_invV (M' := MX12_burns) [.int v1, .int v2] (rest := []) mlRX12_348 okX12_burns (pc2 := 64) rfl dX12_room_61 rfl rfl (Nat.le_of_ble_eq_true rfl) (Nat.le_of_ble_eq_true rfl) (d' := 1) (by omega) q246 ⟨by decide, rfl⟩ (EW_mono (fun _ _ hr => ?_) (sX12_burns v1 v2  (wr x 246 0 0) _ _ 0 0 (Nat.le_refl _) h))
          obtain ⟨r2, rfl, rfl, h⟩ := hr
          refine EW_if_eq (tgt := 71) (pc2 := 67) rfl dX12_room_64 (by decide) (fun q => ?_) (fun q => ?_)
          · replace h := h.1 q
            refine EW_iconst (pc2 := 72) (v := 0) rfl dX12_room_71 (by decide) ?_
            refine EW_goto (tgt := 76) dX12_room_72 (by decide) ?_
            exact AW_iret rfl dX12_room_76 ⟨_, _, rfl, rfl, h⟩
          · replace h := h.2 q
            refine EW_iconst (pc2 := 68) (v := 1) rfl dX12_room_67 (by decide) ?_
            refine EW_goto (tgt := 76) dX12_room_68 (by decide) ?_
            exact AW_iret rfl dX12_room_76 ⟨_, _, rfl, rfl, h⟩
      · replace h := h.2 q
        refine EW_aload_n (pc2 := 40) rfl dX12_room_39 0 rfl ?_
        refine AW_getr (r := 267) ⟨gfRX12_71, rfl⟩ (pc2 := 43) rfl dX12_room_40 q246 rfl ?_
        refine EW_bipush (pc2 := 45) (v := 24) rfl dX12_room_43 (by decide) ?_
        refine EW_iload_n (pc2 := 46) rfl dX12_room_45 1 rfl ?_
        refine EW_imul (pc2 := 47) rfl dX12_room_46 ?_
        refine EW_iload_n (pc2 := 48) rfl dX12_room_47 2 rfl ?_
        refine EW_iadd (pc2 := 49) rfl dX12_room_48 ?_
        obtain ⟨b3, h⟩ := h
        refine AW_iald (pc2 := 50) rfl dX12_room_49 q267 b3 ?_
        refine EW_goto (tgt := 76) dX12_room_50 (by decide) ?_
        exact AW_iret rfl dX12_room_76 ⟨_, _, rfl, rfl, h⟩
    · replace h := h.2 q
      refine EW_aload_n (pc2 := 21) rfl dX12_room_20 0 rfl ?_
      refine AW_getr (r := 266) ⟨gfRX12_68, rfl⟩ (pc2 := 24) rfl dX12_room_21 q246 rfl ?_
      refine EW_bipush (pc2 := 26) (v := 24) rfl dX12_room_24 (by decide) ?_
      refine EW_iload_n (pc2 := 27) rfl dX12_room_26 1 rfl ?_
      refine EW_imul (pc2 := 28) rfl dX12_room_27 ?_
      refine EW_iload_n (pc2 := 29) rfl dX12_room_28 2 rfl ?_
      refine EW_iadd (pc2 := 30) rfl dX12_room_29 ?_
      obtain ⟨b4, h⟩ := h
      refine AW_iald (pc2 := 31) rfl dX12_room_30 q266 b4 ?_
      refine EW_goto (tgt := 76) dX12_room_31 (by decide) ?_
      exact AW_iret rfl dX12_room_76 ⟨_, _, rfl, rfl, h⟩
  · replace h := h.2 q
    refine EW_iconst (pc2 := 15) (v := (-1)) rfl dX12_room_14 (by decide) ?_
    exact AW_iret rfl dX12_room_15 ⟨_, _, rfl, rfl, h⟩
theorem mlRX12_630 : Cond.methodLink RX12 630 yX12_findTour ∈ ab_G ∧ Cond.instanceMethod yX12_findTour ∈ ab_G ∧ Cond.selects RX12 yX12_findTour yX12_findTour ∈ ab_G := ⟨ab_in 2663 (by decide +kernel) (by decide +kernel), ab_in 2665 (by decide +kernel) (by decide +kernel), ab_in 77 (by decide +kernel) (by decide +kernel)⟩
abbrev MX12_round : ab_M := (yX12_round, cX12_round, 4, (some .int))
theorem dX12_round_0 : decode cX12_round 0 = .ok (.aload_n 0, 1) := by decide +kernel
theorem dX12_round_1 : decode cX12_round 1 = .ok (.iload_n 1, 1) := by decide +kernel
theorem dX12_round_2 : decode cX12_round 2 = .ok (.iload_n 2, 1) := by decide +kernel
theorem dX12_round_3 : decode cX12_round 3 = .ok (.invokevirtual 630, 3) := by decide +kernel
theorem dX12_round_6 : decode cX12_round 6 = .ok (.ifCond .eq 12, 3) := by decide +kernel
theorem dX12_round_9 : decode cX12_round 9 = .ok (.iload_n 3, 1) := by decide +kernel
theorem dX12_round_10 : decode cX12_round 10 = .ok (.iconst 0, 1) := by decide +kernel
theorem dX12_round_11 : decode cX12_round 11 = .ok (.iconst 2, 1) := by decide +kernel
theorem dX12_round_12 : decode cX12_round 12 = .ok (.invokestatic 307, 3) := by decide +kernel
theorem dX12_round_15 : decode cX12_round 15 = .ok (.ifCond .ne 5, 3) := by decide +kernel
theorem dX12_round_18 : decode cX12_round 18 = .ok (.iconst (-1), 1) := by decide +kernel
theorem dX12_round_19 : decode cX12_round 19 = .ok (.ireturn, 1) := by decide +kernel
theorem dX12_round_20 : decode cX12_round 20 = .ok (.iload_n 3, 1) := by decide +kernel
theorem dX12_round_21 : decode cX12_round 21 = .ok (.ifCond .ne 10, 3) := by decide +kernel
theorem dX12_round_24 : decode cX12_round 24 = .ok (.aload_n 0, 1) := by decide +kernel
theorem dX12_round_25 : decode cX12_round 25 = .ok (.getfield 620, 3) := by decide +kernel
theorem dX12_round_28 : decode cX12_round 28 = .ok (.goto 19, 3) := by decide +kernel
theorem dX12_round_31 : decode cX12_round 31 = .ok (.iload_n 3, 1) := by decide +kernel
theorem dX12_round_32 : decode cX12_round 32 = .ok (.iconst 1, 1) := by decide +kernel
theorem dX12_round_33 : decode cX12_round 33 = .ok (.if_icmp .ne 10, 3) := by decide +kernel
theorem dX12_round_36 : decode cX12_round 36 = .ok (.aload_n 0, 1) := by decide +kernel
theorem dX12_round_37 : decode cX12_round 37 = .ok (.getfield 623, 3) := by decide +kernel
theorem dX12_round_40 : decode cX12_round 40 = .ok (.goto 7, 3) := by decide +kernel
theorem dX12_round_43 : decode cX12_round 43 = .ok (.aload_n 0, 1) := by decide +kernel
theorem dX12_round_44 : decode cX12_round 44 = .ok (.getfield 617, 3) := by decide +kernel
theorem dX12_round_47 : decode cX12_round 47 = .ok (.ireturn, 1) := by decide +kernel
theorem okX12_round : ab_okM MX12_round 3 := ⟨by decide, ⟨by decide, by decide⟩, ab_in 2662 (by decide +kernel) (by decide +kernel), ab_in 99 (by decide +kernel) (by decide +kernel), by decide +kernel, by decide⟩
set_option maxHeartbeats 4000000 in
set_option maxRecDepth 100000 in
theorem sX12_round (v1 : Int32) (v2 : Int32) (v3 : Int32)  (x : ab_X) (K : Int32 → ab_X → Prop) (d bc bs : Nat) (hdp : 212 ≤ d) (h : wX12_round v1 v2 v3 x K) : EW MX12_round 0 [(0, .ref 246), (1, .int v1), (2, .int v2), (3, .int v3)] [] (aS x) d bc bs (liI K) := by
  unfold wX12_round at h
  refine EW_aload_n (pc2 := 1) rfl dX12_round_0 0 rfl ?_
  refine EW_iload_n (pc2 := 2) rfl dX12_round_1 1 rfl ?_
  refine EW_iload_n (pc2 := 3) rfl dX12_round_2 2 rfl ?_
  refine AW_invV (M' := MX12_findTour) [.int v1, .int v2] (rest := []) mlRX12_630 okX12_findTour (pc2 := 6) rfl dX12_round_3 rfl rfl (Nat.le_of_ble_eq_true rfl) (Nat.le_of_ble_eq_true rfl) (d' := 211) (by omega) q246 ⟨by decide, rfl⟩ (EW_mono (fun _ _ hr => ?_) (sX12_findTour v1 v2  x _ _ 0 0 (Nat.le_refl _) h))
  obtain ⟨r1, x2, rfl, rfl, h⟩ := hr
  refine EW_if_eq (tgt := 18) (pc2 := 9) rfl dX12_round_6 (by decide) (fun q => ?_) (fun q => ?_)
  · replace h := h.1 q
    refine EW_iconst (pc2 := 19) (v := (-1)) rfl dX12_round_18 (by decide) ?_
    exact AW_iret rfl dX12_round_19 ⟨_, _, rfl, rfl, h⟩
  · replace h := h.2 q
    refine EW_iload_n (pc2 := 10) rfl dX12_round_9 3 rfl ?_
    refine EW_iconst (pc2 := 11) (v := 0) rfl dX12_round_10 (by decide) ?_
    refine EW_iconst (pc2 := 12) (v := 2) rfl dX12_round_11 (by decide) ?_
    refine AW_invS (M' := MX12_isIn) [.int v3, .int 0, .int 2] (rest := []) mlRX12_307 okX12_isIn (pc2 := 15) rfl dX12_round_12 rfl rfl (Nat.le_of_ble_eq_true rfl) (Nat.le_of_ble_eq_true rfl) (d' := 0) (by omega) (EW_mono (fun _ _ hr => ?_) (sX12_isIn v3 0 2  x2 _ _ 0 0 (Nat.le_refl _) h))
    obtain ⟨r3, rfl, rfl, h⟩ := hr
    refine EW_if_ne (tgt := 20) (pc2 := 18) rfl dX12_round_15 (by decide) (fun q => ?_) (fun q => ?_)
    · replace h := h.1 q
      refine EW_iload_n (pc2 := 21) rfl dX12_round_20 3 rfl ?_
      refine EW_if_ne (tgt := 31) (pc2 := 24) rfl dX12_round_21 (by decide) (fun q => ?_) (fun q => ?_)
      · replace h := h.1 q
        refine EW_iload_n (pc2 := 32) rfl dX12_round_31 3 rfl ?_
        refine EW_iconst (pc2 := 33) (v := 1) rfl dX12_round_32 (by decide) ?_
        refine EW_icmp_ne (tgt := 43) (pc2 := 36) rfl dX12_round_33 (by decide) (fun q => ?_) (fun q => ?_)
        · replace h := h.1 q
          refine EW_aload_n (pc2 := 44) rfl dX12_round_43 0 rfl ?_
          refine AW_geti ⟨gfRX12_617, rfl⟩ (pc2 := 47) rfl dX12_round_44 q246 ?_
          exact AW_iret rfl dX12_round_47 ⟨_, _, rfl, rfl, h⟩
        · replace h := h.2 q
          refine EW_aload_n (pc2 := 37) rfl dX12_round_36 0 rfl ?_
          refine AW_geti ⟨gfRX12_623, rfl⟩ (pc2 := 40) rfl dX12_round_37 q246 ?_
          refine EW_goto (tgt := 47) dX12_round_40 (by decide) ?_
          exact AW_iret rfl dX12_round_47 ⟨_, _, rfl, rfl, h⟩
      · replace h := h.2 q
        refine EW_aload_n (pc2 := 25) rfl dX12_round_24 0 rfl ?_
        refine AW_geti ⟨gfRX12_620, rfl⟩ (pc2 := 28) rfl dX12_round_25 q246 ?_
        refine EW_goto (tgt := 47) dX12_round_28 (by decide) ?_
        exact AW_iret rfl dX12_round_47 ⟨_, _, rfl, rfl, h⟩
    · replace h := h.2 q
      refine EW_iconst (pc2 := 19) (v := (-1)) rfl dX12_round_18 (by decide) ?_
      exact AW_iret rfl dX12_round_19 ⟨_, _, rfl, rfl, h⟩
abbrev MX12_rounded : ab_M := (yX12_rounded, cX12_rounded, 4, (some .int))
theorem dX12_rounded_0 : decode cX12_rounded 0 = .ok (.aload_n 0, 1) := by decide +kernel
theorem dX12_rounded_1 : decode cX12_rounded 1 = .ok (.iload_n 1, 1) := by decide +kernel
theorem dX12_rounded_2 : decode cX12_rounded 2 = .ok (.iload_n 2, 1) := by decide +kernel
theorem dX12_rounded_3 : decode cX12_rounded 3 = .ok (.invokevirtual 630, 3) := by decide +kernel
theorem dX12_rounded_6 : decode cX12_rounded 6 = .ok (.ifCond .eq 26, 3) := by decide +kernel
theorem dX12_rounded_9 : decode cX12_rounded 9 = .ok (.iload_n 3, 1) := by decide +kernel
theorem dX12_rounded_10 : decode cX12_rounded 10 = .ok (.iconst 0, 1) := by decide +kernel
theorem dX12_rounded_11 : decode cX12_rounded 11 = .ok (.aload_n 0, 1) := by decide +kernel
theorem dX12_rounded_12 : decode cX12_rounded 12 = .ok (.getfield 617, 3) := by decide +kernel
theorem dX12_rounded_15 : decode cX12_rounded 15 = .ok (.iconst 1, 1) := by decide +kernel
theorem dX12_rounded_16 : decode cX12_rounded 16 = .ok (.isub, 1) := by decide +kernel
theorem dX12_rounded_17 : decode cX12_rounded 17 = .ok (.invokestatic 307, 3) := by decide +kernel
theorem dX12_rounded_20 : decode cX12_rounded 20 = .ok (.ifCond .eq 12, 3) := by decide +kernel
theorem dX12_rounded_23 : decode cX12_rounded 23 = .ok (.aload_n 0, 1) := by decide +kernel
theorem dX12_rounded_24 : decode cX12_rounded 24 = .ok (.getfield 262, 3) := by decide +kernel
theorem dX12_rounded_27 : decode cX12_rounded 27 = .ok (.iload_n 3, 1) := by decide +kernel
theorem dX12_rounded_28 : decode cX12_rounded 28 = .ok (.iaload, 1) := by decide +kernel
theorem dX12_rounded_29 : decode cX12_rounded 29 = .ok (.goto 4, 3) := by decide +kernel
theorem dX12_rounded_32 : decode cX12_rounded 32 = .ok (.iconst (-1), 1) := by decide +kernel
theorem dX12_rounded_33 : decode cX12_rounded 33 = .ok (.ireturn, 1) := by decide +kernel
theorem okX12_rounded : ab_okM MX12_rounded 3 := ⟨by decide, ⟨by decide, by decide⟩, ab_in 2674 (by decide +kernel) (by decide +kernel), ab_in 99 (by decide +kernel) (by decide +kernel), by decide +kernel, by decide⟩
set_option maxHeartbeats 4000000 in
set_option maxRecDepth 100000 in
theorem sX12_rounded (v1 : Int32) (v2 : Int32) (v3 : Int32)  (x : ab_X) (K : Int32 → ab_X → Prop) (d bc bs : Nat) (hdp : 212 ≤ d) (h : wX12_rounded v1 v2 v3 x K) : EW MX12_rounded 0 [(0, .ref 246), (1, .int v1), (2, .int v2), (3, .int v3)] [] (aS x) d bc bs (liI K) := by
  unfold wX12_rounded at h
  refine EW_aload_n (pc2 := 1) rfl dX12_rounded_0 0 rfl ?_
  refine EW_iload_n (pc2 := 2) rfl dX12_rounded_1 1 rfl ?_
  refine EW_iload_n (pc2 := 3) rfl dX12_rounded_2 2 rfl ?_
  refine AW_invV (M' := MX12_findTour) [.int v1, .int v2] (rest := []) mlRX12_630 okX12_findTour (pc2 := 6) rfl dX12_rounded_3 rfl rfl (Nat.le_of_ble_eq_true rfl) (Nat.le_of_ble_eq_true rfl) (d' := 211) (by omega) q246 ⟨by decide, rfl⟩ (EW_mono (fun _ _ hr => ?_) (sX12_findTour v1 v2  x _ _ 0 0 (Nat.le_refl _) h))
  obtain ⟨r1, x2, rfl, rfl, h⟩ := hr
  refine EW_if_eq (tgt := 32) (pc2 := 9) rfl dX12_rounded_6 (by decide) (fun q => ?_) (fun q => ?_)
  · replace h := h.1 q
    refine EW_iconst (pc2 := 33) (v := (-1)) rfl dX12_rounded_32 (by decide) ?_
    exact AW_iret rfl dX12_rounded_33 ⟨_, _, rfl, rfl, h⟩
  · replace h := h.2 q
    refine EW_iload_n (pc2 := 10) rfl dX12_rounded_9 3 rfl ?_
    refine EW_iconst (pc2 := 11) (v := 0) rfl dX12_rounded_10 (by decide) ?_
    refine EW_aload_n (pc2 := 12) rfl dX12_rounded_11 0 rfl ?_
    refine AW_geti ⟨gfRX12_617, rfl⟩ (pc2 := 15) rfl dX12_rounded_12 q246 ?_
    refine EW_iconst (pc2 := 16) (v := 1) rfl dX12_rounded_15 (by decide) ?_
    refine EW_isub (pc2 := 17) rfl dX12_rounded_16 ?_
    refine AW_invS (M' := MX12_isIn) [.int v3, .int 0, .int ((x2.1 246 108) - 1)] (rest := []) mlRX12_307 okX12_isIn (pc2 := 20) rfl dX12_rounded_17 rfl rfl (Nat.le_of_ble_eq_true rfl) (Nat.le_of_ble_eq_true rfl) (d' := 0) (by omega) (EW_mono (fun _ _ hr => ?_) (sX12_isIn v3 0 ((x2.1 246 108) - 1)  x2 _ _ 0 0 (Nat.le_refl _) h))
    obtain ⟨r3, rfl, rfl, h⟩ := hr
    refine EW_if_eq (tgt := 32) (pc2 := 23) rfl dX12_rounded_20 (by decide) (fun q => ?_) (fun q => ?_)
    · replace h := h.1 q
      refine EW_iconst (pc2 := 33) (v := (-1)) rfl dX12_rounded_32 (by decide) ?_
      exact AW_iret rfl dX12_rounded_33 ⟨_, _, rfl, rfl, h⟩
    · replace h := h.2 q
      refine EW_aload_n (pc2 := 24) rfl dX12_rounded_23 0 rfl ?_
      refine AW_getr (r := 326) ⟨gfRX12_262, rfl⟩ (pc2 := 27) rfl dX12_rounded_24 q246 rfl ?_
      refine EW_iload_n (pc2 := 28) rfl dX12_rounded_27 3 rfl ?_
      obtain ⟨b4, h⟩ := h
      refine AW_iald (pc2 := 29) rfl dX12_rounded_28 q326 b4 ?_
      refine EW_goto (tgt := 33) dX12_rounded_29 (by decide) ?_
      exact AW_iret rfl dX12_rounded_33 ⟨_, _, rfl, rfl, h⟩
abbrev MX12_row : ab_M := (yX12_row, cX12_row, 2, (some .int))
theorem dX12_row_0 : decode cX12_row 0 = .ok (.aload_n 0, 1) := by decide +kernel
theorem dX12_row_1 : decode cX12_row 1 = .ok (.iconst 0, 1) := by decide +kernel
theorem dX12_row_2 : decode cX12_row 2 = .ok (.putfield 297, 3) := by decide +kernel
theorem dX12_row_5 : decode cX12_row 5 = .ok (.aload_n 0, 1) := by decide +kernel
theorem dX12_row_6 : decode cX12_row 6 = .ok (.getfield 648, 3) := by decide +kernel
theorem dX12_row_9 : decode cX12_row 9 = .ok (.bipush 6, 2) := by decide +kernel
theorem dX12_row_11 : decode cX12_row 11 = .ok (.if_icmp .eq 12, 3) := by decide +kernel
theorem dX12_row_14 : decode cX12_row 14 = .ok (.iload_n 1, 1) := by decide +kernel
theorem dX12_row_15 : decode cX12_row 15 = .ok (.iconst 0, 1) := by decide +kernel
theorem dX12_row_16 : decode cX12_row 16 = .ok (.iconst 3, 1) := by decide +kernel
theorem dX12_row_17 : decode cX12_row 17 = .ok (.invokestatic 307, 3) := by decide +kernel
theorem dX12_row_20 : decode cX12_row 20 = .ok (.ifCond .ne 5, 3) := by decide +kernel
theorem dX12_row_23 : decode cX12_row 23 = .ok (.iconst (-1), 1) := by decide +kernel
theorem dX12_row_24 : decode cX12_row 24 = .ok (.ireturn, 1) := by decide +kernel
theorem dX12_row_25 : decode cX12_row 25 = .ok (.aload_n 0, 1) := by decide +kernel
theorem dX12_row_26 : decode cX12_row 26 = .ok (.getfield 278, 3) := by decide +kernel
theorem dX12_row_29 : decode cX12_row 29 = .ok (.aload_n 0, 1) := by decide +kernel
theorem dX12_row_30 : decode cX12_row 30 = .ok (.getfield 648, 3) := by decide +kernel
theorem dX12_row_33 : decode cX12_row 33 = .ok (.iload_n 1, 1) := by decide +kernel
theorem dX12_row_34 : decode cX12_row 34 = .ok (.iastore, 1) := by decide +kernel
theorem dX12_row_35 : decode cX12_row 35 = .ok (.aload_n 0, 1) := by decide +kernel
theorem dX12_row_36 : decode cX12_row 36 = .ok (.dup, 1) := by decide +kernel
theorem dX12_row_37 : decode cX12_row 37 = .ok (.getfield 648, 3) := by decide +kernel
theorem dX12_row_40 : decode cX12_row 40 = .ok (.iconst 1, 1) := by decide +kernel
theorem dX12_row_41 : decode cX12_row 41 = .ok (.iadd, 1) := by decide +kernel
theorem dX12_row_42 : decode cX12_row 42 = .ok (.putfield 648, 3) := by decide +kernel
theorem dX12_row_45 : decode cX12_row 45 = .ok (.aload_n 0, 1) := by decide +kernel
theorem dX12_row_46 : decode cX12_row 46 = .ok (.getfield 648, 3) := by decide +kernel
theorem dX12_row_49 : decode cX12_row 49 = .ok (.iconst 1, 1) := by decide +kernel
theorem dX12_row_50 : decode cX12_row 50 = .ok (.isub, 1) := by decide +kernel
theorem dX12_row_51 : decode cX12_row 51 = .ok (.ireturn, 1) := by decide +kernel
theorem okX12_row : ab_okM MX12_row 1 := ⟨by decide, ⟨by decide, by decide⟩, ab_in 2698 (by decide +kernel) (by decide +kernel), ab_in 99 (by decide +kernel) (by decide +kernel), by decide +kernel, by decide⟩
set_option maxHeartbeats 4000000 in
set_option maxRecDepth 100000 in
theorem sX12_row (v1 : Int32)  (x : ab_X) (K : Int32 → ab_X → Prop) (d bc bs : Nat) (hdp : 1 ≤ d) (h : wX12_row v1 x K) : EW MX12_row 0 [(0, .ref 246), (1, .int v1)] [] (aS x) d bc bs (liI K) := by
  unfold wX12_row at h
  refine EW_aload_n (pc2 := 1) rfl dX12_row_0 0 rfl ?_
  refine EW_iconst (pc2 := 2) (v := 0) rfl dX12_row_1 (by decide) ?_
  refine AW_puti ⟨gfRX12_297, rfl, rfl⟩ (pc2 := 5) rfl dX12_row_2 q246 ?_
  refine EW_aload_n (pc2 := 6) rfl dX12_row_5 0 rfl ?_
  refine AW_geti ⟨gfRX12_648, rfl⟩ (pc2 := 9) rfl dX12_row_6 q246 ?_
  refine EW_bipush (pc2 := 11) (v := 6) rfl dX12_row_9 (by decide) ?_
  refine EW_icmp_eq (tgt := 23) (pc2 := 14) rfl dX12_row_11 (by decide) (fun q => ?_) (fun q => ?_)
  · replace h := h.1 q
    refine EW_iconst (pc2 := 24) (v := (-1)) rfl dX12_row_23 (by decide) ?_
    exact AW_iret rfl dX12_row_24 ⟨_, _, rfl, rfl, h⟩
  · replace h := h.2 q
    refine EW_iload_n (pc2 := 15) rfl dX12_row_14 1 rfl ?_
    refine EW_iconst (pc2 := 16) (v := 0) rfl dX12_row_15 (by decide) ?_
    refine EW_iconst (pc2 := 17) (v := 3) rfl dX12_row_16 (by decide) ?_
    refine AW_invS (M' := MX12_isIn) [.int v1, .int 0, .int 3] (rest := []) mlRX12_307 okX12_isIn (pc2 := 20) rfl dX12_row_17 rfl rfl (Nat.le_of_ble_eq_true rfl) (Nat.le_of_ble_eq_true rfl) (d' := 0) (by omega) (EW_mono (fun _ _ hr => ?_) (sX12_isIn v1 0 3  (wr x 246 0 0) _ _ 0 0 (Nat.le_refl _) h))
    obtain ⟨r1, rfl, rfl, h⟩ := hr
    refine EW_if_ne (tgt := 25) (pc2 := 23) rfl dX12_row_20 (by decide) (fun q => ?_) (fun q => ?_)
    · replace h := h.1 q
      refine EW_aload_n (pc2 := 26) rfl dX12_row_25 0 rfl ?_
      refine AW_getr (r := 331) ⟨gfRX12_278, rfl⟩ (pc2 := 29) rfl dX12_row_26 q246 rfl ?_
      refine EW_aload_n (pc2 := 30) rfl dX12_row_29 0 rfl ?_
      refine AW_geti ⟨gfRX12_648, rfl⟩ (pc2 := 33) rfl dX12_row_30 q246 ?_
      refine EW_iload_n (pc2 := 34) rfl dX12_row_33 1 rfl ?_
      obtain ⟨b2, h⟩ := h
      refine AW_iast (pc2 := 35) rfl dX12_row_34 q331 b2 ?_
      refine EW_aload_n (pc2 := 36) rfl dX12_row_35 0 rfl ?_
      refine EW_dup (pc2 := 37) rfl dX12_row_36 rfl ?_
      refine AW_geti ⟨gfRX12_648, rfl⟩ (pc2 := 40) rfl dX12_row_37 q246 ?_
      refine EW_iconst (pc2 := 41) (v := 1) rfl dX12_row_40 (by decide) ?_
      refine EW_iadd (pc2 := 42) rfl dX12_row_41 ?_
      refine AW_puti ⟨gfRX12_648, rfl, rfl⟩ (pc2 := 45) rfl dX12_row_42 q246 ?_
      refine EW_aload_n (pc2 := 46) rfl dX12_row_45 0 rfl ?_
      refine AW_geti ⟨gfRX12_648, rfl⟩ (pc2 := 49) rfl dX12_row_46 q246 ?_
      refine EW_iconst (pc2 := 50) (v := 1) rfl dX12_row_49 (by decide) ?_
      refine EW_isub (pc2 := 51) rfl dX12_row_50 ?_
      exact AW_iret rfl dX12_row_51 ⟨_, _, rfl, rfl, h⟩
    · replace h := h.2 q
      refine EW_iconst (pc2 := 24) (v := (-1)) rfl dX12_row_23 (by decide) ?_
      exact AW_iret rfl dX12_row_24 ⟨_, _, rfl, rfl, h⟩
