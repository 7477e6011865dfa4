theorem mlRX12_360 : Cond.methodLink RX12 360 yX12_loadOf ∈ ab_G ∧ Cond.instanceMethod yX12_loadOf ∈ ab_G ∧ Cond.selects RX12 yX12_loadOf yX12_loadOf ∈ ab_G := ⟨ab_in 2321 (by decide +kernel) (by decide +kernel), ab_in 2323 (by decide +kernel) (by decide +kernel), ab_in 26 (by decide +kernel) (by decide +kernel)⟩
theorem mlRX12_379 : Cond.methodLink RX12 379 yX12_bears ∈ ab_G ∧ Cond.instanceMethod yX12_bears ∈ ab_G ∧ Cond.selects RX12 yX12_bears yX12_bears ∈ ab_G := ⟨ab_in 2583 (by decide +kernel) (by decide +kernel), ab_in 2585 (by decide +kernel) (by decide +kernel), ab_in 66 (by decide +kernel) (by decide +kernel)⟩
theorem mlRX12_382 : Cond.methodLink RX12 382 yX12_falls ∈ ab_G ∧ Cond.instanceMethod yX12_falls ∈ ab_G ∧ Cond.selects RX12 yX12_falls yX12_falls ∈ ab_G := ⟨ab_in 2603 (by decide +kernel) (by decide +kernel), ab_in 2605 (by decide +kernel) (by decide +kernel), ab_in 71 (by decide +kernel) (by decide +kernel)⟩
theorem gfRX12_77 : ab_L RX12 77 12 25 := ⟨by decide, by decide, ab_in 1874 (by decide +kernel) (by decide +kernel)⟩
theorem gfRX12_80 : ab_L RX12 80 12 26 := ⟨by decide, by decide, ab_in 1875 (by decide +kernel) (by decide +kernel)⟩
theorem mlRX12_376 : Cond.methodLink RX12 376 yX12_gain ∈ ab_G ∧ Cond.instanceMethod yX12_gain ∈ ab_G ∧ Cond.selects RX12 yX12_gain yX12_gain ∈ ab_G := ⟨ab_in 2591 (by decide +kernel) (by decide +kernel), ab_in 2593 (by decide +kernel) (by decide +kernel), ab_in 68 (by decide +kernel) (by decide +kernel)⟩
abbrev MX12_burn : ab_M := (yX12_burn, cX12_burn, 5, none)
theorem dX12_burn_0 : decode cX12_burn 0 = .ok (.iconst 0, 1) := by decide +kernel
theorem dX12_burn_1 : decode cX12_burn 1 = .ok (.istore_n 2, 1) := by decide +kernel
theorem dX12_burn_2 : decode cX12_burn 2 = .ok (.iload_n 2, 1) := by decide +kernel
theorem dX12_burn_3 : decode cX12_burn 3 = .ok (.aload_n 0, 1) := by decide +kernel
theorem dX12_burn_4 : decode cX12_burn 4 = .ok (.getfield 331, 3) := by decide +kernel
theorem dX12_burn_7 : decode cX12_burn 7 = .ok (.if_icmp .ge 139, 3) := by decide +kernel
theorem dX12_burn_10 : decode cX12_burn 10 = .ok (.iconst 0, 1) := by decide +kernel
theorem dX12_burn_11 : decode cX12_burn 11 = .ok (.istore_n 3, 1) := by decide +kernel
theorem dX12_burn_12 : decode cX12_burn 12 = .ok (.iload_n 3, 1) := by decide +kernel
theorem dX12_burn_13 : decode cX12_burn 13 = .ok (.aload_n 0, 1) := by decide +kernel
theorem dX12_burn_14 : decode cX12_burn 14 = .ok (.getfield 38, 3) := by decide +kernel
theorem dX12_burn_17 : decode cX12_burn 17 = .ok (.iload_n 2, 1) := by decide +kernel
theorem dX12_burn_18 : decode cX12_burn 18 = .ok (.iaload, 1) := by decide +kernel
theorem dX12_burn_19 : decode cX12_burn 19 = .ok (.aload_n 0, 1) := by decide +kernel
theorem dX12_burn_20 : decode cX12_burn 20 = .ok (.getfield 41, 3) := by decide +kernel
theorem dX12_burn_23 : decode cX12_burn 23 = .ok (.iload_n 2, 1) := by decide +kernel
theorem dX12_burn_24 : decode cX12_burn 24 = .ok (.iaload, 1) := by decide +kernel
theorem dX12_burn_25 : decode cX12_burn 25 = .ok (.imul, 1) := by decide +kernel
theorem dX12_burn_26 : decode cX12_burn 26 = .ok (.if_icmp .ge 114, 3) := by decide +kernel
theorem dX12_burn_29 : decode cX12_burn 29 = .ok (.bipush 24, 2) := by decide +kernel
theorem dX12_burn_31 : decode cX12_burn 31 = .ok (.iload_n 2, 1) := by decide +kernel
theorem dX12_burn_32 : decode cX12_burn 32 = .ok (.imul, 1) := by decide +kernel
theorem dX12_burn_33 : decode cX12_burn 33 = .ok (.iload_n 3, 1) := by decide +kernel
theorem dX12_burn_34 : decode cX12_burn 34 = .ok (.iadd, 1) := by decide +kernel
theorem dX12_burn_35 : decode cX12_burn 35 = .ok (.istore 4, 2) := by decide +kernel
theorem dX12_burn_37 : decode cX12_burn 37 = .ok (.aload_n 0, 1) := by decide +kernel
theorem dX12_burn_38 : decode cX12_burn 38 = .ok (.getfield 77, 3) := by decide +kernel
theorem dX12_burn_41 : decode cX12_burn 41 = .ok (.iload 4, 2) := by decide +kernel
theorem dX12_burn_43 : decode cX12_burn 43 = .ok (.aload_n 0, 1) := by decide +kernel
theorem dX12_burn_44 : decode cX12_burn 44 = .ok (.getfield 92, 3) := by decide +kernel
theorem dX12_burn_47 : decode cX12_burn 47 = .ok (.bipush 6, 2) := by decide +kernel
theorem dX12_burn_49 : decode cX12_burn 49 = .ok (.iload_n 2, 1) := by decide +kernel
theorem dX12_burn_50 : decode cX12_burn 50 = .ok (.imul, 1) := by decide +kernel
theorem dX12_burn_51 : decode cX12_burn 51 = .ok (.aload_n 0, 1) := by decide +kernel
theorem dX12_burn_52 : decode cX12_burn 52 = .ok (.iload_n 2, 1) := by decide +kernel
theorem dX12_burn_53 : decode cX12_burn 53 = .ok (.iload_n 3, 1) := by decide +kernel
theorem dX12_burn_54 : decode cX12_burn 54 = .ok (.invokevirtual 345, 3) := by decide +kernel
theorem dX12_burn_57 : decode cX12_burn 57 = .ok (.iadd, 1) := by decide +kernel
theorem dX12_burn_58 : decode cX12_burn 58 = .ok (.baload, 1) := by decide +kernel
theorem dX12_burn_59 : decode cX12_burn 59 = .ok (.ifCond .eq 7, 3) := by decide +kernel
theorem dX12_burn_62 : decode cX12_burn 62 = .ok (.iconst 0, 1) := by decide +kernel
theorem dX12_burn_63 : decode cX12_burn 63 = .ok (.goto 27, 3) := by decide +kernel
theorem dX12_burn_66 : decode cX12_burn 66 = .ok (.iconst 0, 1) := by decide +kernel
theorem dX12_burn_67 : decode cX12_burn 67 = .ok (.sipush 1000, 3) := by decide +kernel
theorem dX12_burn_70 : decode cX12_burn 70 = .ok (.aload_n 0, 1) := by decide +kernel
theorem dX12_burn_71 : decode cX12_burn 71 = .ok (.getfield 68, 3) := by decide +kernel
theorem dX12_burn_74 : decode cX12_burn 74 = .ok (.iload 4, 2) := by decide +kernel
theorem dX12_burn_76 : decode cX12_burn 76 = .ok (.iaload, 1) := by decide +kernel
theorem dX12_burn_77 : decode cX12_burn 77 = .ok (.aload_n 0, 1) := by decide +kernel
theorem dX12_burn_78 : decode cX12_burn 78 = .ok (.iload_n 2, 1) := by decide +kernel
theorem dX12_burn_79 : decode cX12_burn 79 = .ok (.iload_n 3, 1) := by decide +kernel
theorem dX12_burn_80 : decode cX12_burn 80 = .ok (.invokevirtual 376, 3) := by decide +kernel
theorem dX12_burn_83 : decode cX12_burn 83 = .ok (.iadd, 1) := by decide +kernel
theorem dX12_burn_84 : decode cX12_burn 84 = .ok (.invokestatic 311, 3) := by decide +kernel
theorem dX12_burn_87 : decode cX12_burn 87 = .ok (.invokestatic 357, 3) := by decide +kernel
theorem dX12_burn_90 : decode cX12_burn 90 = .ok (.iastore, 1) := by decide +kernel
theorem dX12_burn_91 : decode cX12_burn 91 = .ok (.aload_n 0, 1) := by decide +kernel
theorem dX12_burn_92 : decode cX12_burn 92 = .ok (.getfield 80, 3) := by decide +kernel
theorem dX12_burn_95 : decode cX12_burn 95 = .ok (.iload 4, 2) := by decide +kernel
theorem dX12_burn_97 : decode cX12_burn 97 = .ok (.aload_n 0, 1) := by decide +kernel
theorem dX12_burn_98 : decode cX12_burn 98 = .ok (.iload_n 2, 1) := by decide +kernel
theorem dX12_burn_99 : decode cX12_burn 99 = .ok (.iload_n 3, 1) := by decide +kernel
theorem dX12_burn_100 : decode cX12_burn 100 = .ok (.invokevirtual 348, 3) := by decide +kernel
theorem dX12_burn_103 : decode cX12_burn 103 = .ok (.ifCond .eq 29, 3) := by decide +kernel
theorem dX12_burn_106 : decode cX12_burn 106 = .ok (.aload_n 0, 1) := by decide +kernel
theorem dX12_burn_107 : decode cX12_burn 107 = .ok (.getfield 71, 3) := by decide +kernel
theorem dX12_burn_110 : decode cX12_burn 110 = .ok (.iload 4, 2) := by decide +kernel
theorem dX12_burn_112 : decode cX12_burn 112 = .ok (.iaload, 1) := by decide +kernel
theorem dX12_burn_113 : decode cX12_burn 113 = .ok (.iconst 1, 1) := by decide +kernel
theorem dX12_burn_114 : decode cX12_burn 114 = .ok (.aload_n 0, 1) := by decide +kernel
theorem dX12_burn_115 : decode cX12_burn 115 = .ok (.getfield 68, 3) := by decide +kernel
theorem dX12_burn_118 : decode cX12_burn 118 = .ok (.iload 4, 2) := by decide +kernel
theorem dX12_burn_120 : decode cX12_burn 120 = .ok (.iaload, 1) := by decide +kernel
theorem dX12_burn_121 : decode cX12_burn 121 = .ok (.sipush 250, 3) := by decide +kernel
theorem dX12_burn_124 : decode cX12_burn 124 = .ok (.idiv, 1) := by decide +kernel
theorem dX12_burn_125 : decode cX12_burn 125 = .ok (.iadd, 1) := by decide +kernel
theorem dX12_burn_126 : decode cX12_burn 126 = .ok (.invokestatic 311, 3) := by decide +kernel
theorem dX12_burn_129 : decode cX12_burn 129 = .ok (.goto 4, 3) := by decide +kernel
theorem dX12_burn_132 : decode cX12_burn 132 = .ok (.iconst 0, 1) := by decide +kernel
theorem dX12_burn_133 : decode cX12_burn 133 = .ok (.iastore, 1) := by decide +kernel
theorem dX12_burn_134 : decode cX12_burn 134 = .ok (.iinc 3 1, 3) := by decide +kernel
theorem dX12_burn_137 : decode cX12_burn 137 = .ok (.goto (-125), 3) := by decide +kernel
theorem dX12_burn_140 : decode cX12_burn 140 = .ok (.iinc 2 1, 3) := by decide +kernel
theorem dX12_burn_143 : decode cX12_burn 143 = .ok (.goto (-141), 3) := by decide +kernel
theorem dX12_burn_146 : decode cX12_burn 146 = .ok (.iconst 0, 1) := by decide +kernel
theorem dX12_burn_147 : decode cX12_burn 147 = .ok (.istore_n 2, 1) := by decide +kernel
theorem dX12_burn_148 : decode cX12_burn 148 = .ok (.iload_n 2, 1) := by decide +kernel
theorem dX12_burn_149 : decode cX12_burn 149 = .ok (.aload_n 0, 1) := by decide +kernel
theorem dX12_burn_150 : decode cX12_burn 150 = .ok (.getfield 331, 3) := by decide +kernel
theorem dX12_burn_153 : decode cX12_burn 153 = .ok (.if_icmp .ge 99, 3) := by decide +kernel
theorem dX12_burn_156 : decode cX12_burn 156 = .ok (.iconst 0, 1) := by decide +kernel
theorem dX12_burn_157 : decode cX12_burn 157 = .ok (.istore_n 3, 1) := by decide +kernel
theorem dX12_burn_158 : decode cX12_burn 158 = .ok (.iload_n 3, 1) := by decide +kernel
theorem dX12_burn_159 : decode cX12_burn 159 = .ok (.aload_n 0, 1) := by decide +kernel
theorem dX12_burn_160 : decode cX12_burn 160 = .ok (.getfield 38, 3) := by decide +kernel
theorem dX12_burn_163 : decode cX12_burn 163 = .ok (.iload_n 2, 1) := by decide +kernel
theorem dX12_burn_164 : decode cX12_burn 164 = .ok (.iaload, 1) := by decide +kernel
theorem dX12_burn_165 : decode cX12_burn 165 = .ok (.aload_n 0, 1) := by decide +kernel
theorem dX12_burn_166 : decode cX12_burn 166 = .ok (.getfield 41, 3) := by decide +kernel
theorem dX12_burn_169 : decode cX12_burn 169 = .ok (.iload_n 2, 1) := by decide +kernel
theorem dX12_burn_170 : decode cX12_burn 170 = .ok (.iaload, 1) := by decide +kernel
theorem dX12_burn_171 : decode cX12_burn 171 = .ok (.imul, 1) := by decide +kernel
theorem dX12_burn_172 : decode cX12_burn 172 = .ok (.if_icmp .ge 74, 3) := by decide +kernel
theorem dX12_burn_175 : decode cX12_burn 175 = .ok (.bipush 24, 2) := by decide +kernel
theorem dX12_burn_177 : decode cX12_burn 177 = .ok (.iload_n 2, 1) := by decide +kernel
theorem dX12_burn_178 : decode cX12_burn 178 = .ok (.imul, 1) := by decide +kernel
theorem dX12_burn_179 : decode cX12_burn 179 = .ok (.iload_n 3, 1) := by decide +kernel
theorem dX12_burn_180 : decode cX12_burn 180 = .ok (.iadd, 1) := by decide +kernel
theorem dX12_burn_181 : decode cX12_burn 181 = .ok (.istore 4, 2) := by decide +kernel
theorem dX12_burn_183 : decode cX12_burn 183 = .ok (.aload_n 0, 1) := by decide +kernel
theorem dX12_burn_184 : decode cX12_burn 184 = .ok (.getfield 68, 3) := by decide +kernel
theorem dX12_burn_187 : decode cX12_burn 187 = .ok (.iload 4, 2) := by decide +kernel
theorem dX12_burn_189 : decode cX12_burn 189 = .ok (.aload_n 0, 1) := by decide +kernel
theorem dX12_burn_190 : decode cX12_burn 190 = .ok (.getfield 77, 3) := by decide +kernel
theorem dX12_burn_193 : decode cX12_burn 193 = .ok (.iload 4, 2) := by decide +kernel
theorem dX12_burn_195 : decode cX12_burn 195 = .ok (.iaload, 1) := by decide +kernel
theorem dX12_burn_196 : decode cX12_burn 196 = .ok (.iastore, 1) := by decide +kernel
theorem dX12_burn_197 : decode cX12_burn 197 = .ok (.aload_n 0, 1) := by decide +kernel
theorem dX12_burn_198 : decode cX12_burn 198 = .ok (.getfield 71, 3) := by decide +kernel
theorem dX12_burn_201 : decode cX12_burn 201 = .ok (.iload 4, 2) := by decide +kernel
theorem dX12_burn_203 : decode cX12_burn 203 = .ok (.dup2, 1) := by decide +kernel
theorem dX12_burn_204 : decode cX12_burn 204 = .ok (.iaload, 1) := by decide +kernel
theorem dX12_burn_205 : decode cX12_burn 205 = .ok (.aload_n 0, 1) := by decide +kernel
theorem dX12_burn_206 : decode cX12_burn 206 = .ok (.getfield 80, 3) := by decide +kernel
theorem dX12_burn_209 : decode cX12_burn 209 = .ok (.iload 4, 2) := by decide +kernel
theorem dX12_burn_211 : decode cX12_burn 211 = .ok (.iaload, 1) := by decide +kernel
theorem dX12_burn_212 : decode cX12_burn 212 = .ok (.isub, 1) := by decide +kernel
theorem dX12_burn_213 : decode cX12_burn 213 = .ok (.iastore, 1) := by decide +kernel
theorem dX12_burn_214 : decode cX12_burn 214 = .ok (.aload_n 0, 1) := by decide +kernel
theorem dX12_burn_215 : decode cX12_burn 215 = .ok (.getfield 83, 3) := by decide +kernel
theorem dX12_burn_218 : decode cX12_burn 218 = .ok (.bipush 6, 2) := by decide +kernel
theorem dX12_burn_220 : decode cX12_burn 220 = .ok (.iload_n 2, 1) := by decide +kernel
theorem dX12_burn_221 : decode cX12_burn 221 = .ok (.imul, 1) := by decide +kernel
theorem dX12_burn_222 : decode cX12_burn 222 = .ok (.aload_n 0, 1) := by decide +kernel
theorem dX12_burn_223 : decode cX12_burn 223 = .ok (.iload_n 2, 1) := by decide +kernel
theorem dX12_burn_224 : decode cX12_burn 224 = .ok (.iload_n 3, 1) := by decide +kernel
theorem dX12_burn_225 : decode cX12_burn 225 = .ok (.invokevirtual 345, 3) := by decide +kernel
theorem dX12_burn_228 : decode cX12_burn 228 = .ok (.iadd, 1) := by decide +kernel
theorem dX12_burn_229 : decode cX12_burn 229 = .ok (.dup2, 1) := by decide +kernel
theorem dX12_burn_230 : decode cX12_burn 230 = .ok (.iaload, 1) := by decide +kernel
theorem dX12_burn_231 : decode cX12_burn 231 = .ok (.aload_n 0, 1) := by decide +kernel
theorem dX12_burn_232 : decode cX12_burn 232 = .ok (.getfield 80, 3) := by decide +kernel
theorem dX12_burn_235 : decode cX12_burn 235 = .ok (.iload 4, 2) := by decide +kernel
theorem dX12_burn_237 : decode cX12_burn 237 = .ok (.iaload, 1) := by decide +kernel
theorem dX12_burn_238 : decode cX12_burn 238 = .ok (.iadd, 1) := by decide +kernel
theorem dX12_burn_239 : decode cX12_burn 239 = .ok (.iastore, 1) := by decide +kernel
theorem dX12_burn_240 : decode cX12_burn 240 = .ok (.iinc 3 1, 3) := by decide +kernel
theorem dX12_burn_243 : decode cX12_burn 243 = .ok (.goto (-85), 3) := by decide +kernel
theorem dX12_burn_246 : decode cX12_burn 246 = .ok (.iinc 2 1, 3) := by decide +kernel
theorem dX12_burn_249 : decode cX12_burn 249 = .ok (.goto (-101), 3) := by decide +kernel
theorem dX12_burn_252 : decode cX12_burn 252 = .ok (.iconst 0, 1) := by decide +kernel
theorem dX12_burn_253 : decode cX12_burn 253 = .ok (.istore_n 2, 1) := by decide +kernel
theorem dX12_burn_254 : decode cX12_burn 254 = .ok (.iload_n 2, 1) := by decide +kernel
theorem dX12_burn_255 : decode cX12_burn 255 = .ok (.aload_n 0, 1) := by decide +kernel
theorem dX12_burn_256 : decode cX12_burn 256 = .ok (.getfield 331, 3) := by decide +kernel
theorem dX12_burn_259 : decode cX12_burn 259 = .ok (.if_icmp .ge 63, 3) := by decide +kernel
theorem dX12_burn_262 : decode cX12_burn 262 = .ok (.aload_n 0, 1) := by decide +kernel
theorem dX12_burn_263 : decode cX12_burn 263 = .ok (.getfield 38, 3) := by decide +kernel
theorem dX12_burn_266 : decode cX12_burn 266 = .ok (.iload_n 2, 1) := by decide +kernel
theorem dX12_burn_267 : decode cX12_burn 267 = .ok (.iaload, 1) := by decide +kernel
theorem dX12_burn_268 : decode cX12_burn 268 = .ok (.iconst 1, 1) := by decide +kernel
theorem dX12_burn_269 : decode cX12_burn 269 = .ok (.isub, 1) := by decide +kernel
theorem dX12_burn_270 : decode cX12_burn 270 = .ok (.istore_n 3, 1) := by decide +kernel
theorem dX12_burn_271 : decode cX12_burn 271 = .ok (.iload_n 3, 1) := by decide +kernel
theorem dX12_burn_272 : decode cX12_burn 272 = .ok (.ifCond .le 44, 3) := by decide +kernel
theorem dX12_burn_275 : decode cX12_burn 275 = .ok (.aload_n 0, 1) := by decide +kernel
theorem dX12_burn_276 : decode cX12_burn 276 = .ok (.getfield 92, 3) := by decide +kernel
theorem dX12_burn_279 : decode cX12_burn 279 = .ok (.bipush 6, 2) := by decide +kernel
theorem dX12_burn_281 : decode cX12_burn 281 = .ok (.iload_n 2, 1) := by decide +kernel
theorem dX12_burn_282 : decode cX12_burn 282 = .ok (.imul, 1) := by decide +kernel
theorem dX12_burn_283 : decode cX12_burn 283 = .ok (.iload_n 3, 1) := by decide +kernel
theorem dX12_burn_284 : decode cX12_burn 284 = .ok (.iadd, 1) := by decide +kernel
theorem dX12_burn_285 : decode cX12_burn 285 = .ok (.baload, 1) := by decide +kernel
theorem dX12_burn_286 : decode cX12_burn 286 = .ok (.ifCond .ne 24, 3) := by decide +kernel
theorem dX12_burn_289 : decode cX12_burn 289 = .ok (.aload_n 0, 1) := by decide +kernel
theorem dX12_burn_290 : decode cX12_burn 290 = .ok (.iload_n 2, 1) := by decide +kernel
theorem dX12_burn_291 : decode cX12_burn 291 = .ok (.iload_n 3, 1) := by decide +kernel
theorem dX12_burn_292 : decode cX12_burn 292 = .ok (.invokevirtual 360, 3) := by decide +kernel
theorem dX12_burn_295 : decode cX12_burn 295 = .ok (.aload_n 0, 1) := by decide +kernel
theorem dX12_burn_296 : decode cX12_burn 296 = .ok (.iload_n 2, 1) := by decide +kernel
theorem dX12_burn_297 : decode cX12_burn 297 = .ok (.invokevirtual 379, 3) := by decide +kernel
theorem dX12_burn_300 : decode cX12_burn 300 = .ok (.if_icmp .lt 10, 3) := by decide +kernel
theorem dX12_burn_303 : decode cX12_burn 303 = .ok (.aload_n 0, 1) := by decide +kernel
theorem dX12_burn_304 : decode cX12_burn 304 = .ok (.iload_n 2, 1) := by decide +kernel
theorem dX12_burn_305 : decode cX12_burn 305 = .ok (.iload_n 3, 1) := by decide +kernel
theorem dX12_burn_306 : decode cX12_burn 306 = .ok (.iload_n 1, 1) := by decide +kernel
theorem dX12_burn_307 : decode cX12_burn 307 = .ok (.invokevirtual 382, 3) := by decide +kernel
theorem dX12_burn_310 : decode cX12_burn 310 = .ok (.iinc 3 (-1), 3) := by decide +kernel
theorem dX12_burn_313 : decode cX12_burn 313 = .ok (.goto (-42), 3) := by decide +kernel
theorem dX12_burn_316 : decode cX12_burn 316 = .ok (.iinc 2 1, 3) := by decide +kernel
theorem dX12_burn_319 : decode cX12_burn 319 = .ok (.goto (-65), 3) := by decide +kernel
theorem dX12_burn_322 : decode cX12_burn 322 = .ok (.iconst 0, 1) := by decide +kernel
theorem dX12_burn_323 : decode cX12_burn 323 = .ok (.istore_n 2, 1) := by decide +kernel
theorem dX12_burn_324 : decode cX12_burn 324 = .ok (.iload_n 2, 1) := by decide +kernel
theorem dX12_burn_325 : decode cX12_burn 325 = .ok (.aload_n 0, 1) := by decide +kernel
theorem dX12_burn_326 : decode cX12_burn 326 = .ok (.getfield 331, 3) := by decide +kernel
theorem dX12_burn_329 : decode cX12_burn 329 = .ok (.if_icmp .ge 111, 3) := by decide +kernel
theorem dX12_burn_332 : decode cX12_burn 332 = .ok (.iload_n 1, 1) := by decide +kernel
theorem dX12_burn_333 : decode cX12_burn 333 = .ok (.ifCond .eq 107, 3) := by decide +kernel
theorem dX12_burn_336 : decode cX12_burn 336 = .ok (.iconst 0, 1) := by decide +kernel
theorem dX12_burn_337 : decode cX12_burn 337 = .ok (.istore_n 3, 1) := by decide +kernel
theorem dX12_burn_338 : decode cX12_burn 338 = .ok (.iload_n 3, 1) := by decide +kernel
theorem dX12_burn_339 : decode cX12_burn 339 = .ok (.aload_n 0, 1) := by decide +kernel
theorem dX12_burn_340 : decode cX12_burn 340 = .ok (.getfield 38, 3) := by decide +kernel
theorem dX12_burn_343 : decode cX12_burn 343 = .ok (.iload_n 2, 1) := by decide +kernel
theorem dX12_burn_344 : decode cX12_burn 344 = .ok (.iaload, 1) := by decide +kernel
theorem dX12_burn_345 : decode cX12_burn 345 = .ok (.aload_n 0, 1) := by decide +kernel
theorem dX12_burn_346 : decode cX12_burn 346 = .ok (.getfield 41, 3) := by decide +kernel
theorem dX12_burn_349 : decode cX12_burn 349 = .ok (.iload_n 2, 1) := by decide +kernel
theorem dX12_burn_350 : decode cX12_burn 350 = .ok (.iaload, 1) := by decide +kernel
theorem dX12_burn_351 : decode cX12_burn 351 = .ok (.imul, 1) := by decide +kernel
theorem dX12_burn_352 : decode cX12_burn 352 = .ok (.if_icmp .ge 82, 3) := by decide +kernel
theorem dX12_burn_355 : decode cX12_burn 355 = .ok (.bipush 6, 2) := by decide +kernel
theorem dX12_burn_357 : decode cX12_burn 357 = .ok (.iload_n 2, 1) := by decide +kernel
theorem dX12_burn_358 : decode cX12_burn 358 = .ok (.imul, 1) := by decide +kernel
theorem dX12_burn_359 : decode cX12_burn 359 = .ok (.aload_n 0, 1) := by decide +kernel
theorem dX12_burn_360 : decode cX12_burn 360 = .ok (.iload_n 2, 1) := by decide +kernel
theorem dX12_burn_361 : decode cX12_burn 361 = .ok (.iload_n 3, 1) := by decide +kernel
theorem dX12_burn_362 : decode cX12_burn 362 = .ok (.invokevirtual 345, 3) := by decide +kernel
theorem dX12_burn_365 : decode cX12_burn 365 = .ok (.iadd, 1) := by decide +kernel
theorem dX12_burn_366 : decode cX12_burn 366 = .ok (.istore 4, 2) := by decide +kernel
theorem dX12_burn_368 : decode cX12_burn 368 = .ok (.aload_n 0, 1) := by decide +kernel
theorem dX12_burn_369 : decode cX12_burn 369 = .ok (.iload_n 2, 1) := by decide +kernel
theorem dX12_burn_370 : decode cX12_burn 370 = .ok (.iload_n 3, 1) := by decide +kernel
theorem dX12_burn_371 : decode cX12_burn 371 = .ok (.invokevirtual 348, 3) := by decide +kernel
theorem dX12_burn_374 : decode cX12_burn 374 = .ok (.ifCond .eq 54, 3) := by decide +kernel
theorem dX12_burn_377 : decode cX12_burn 377 = .ok (.aload_n 0, 1) := by decide +kernel
theorem dX12_burn_378 : decode cX12_burn 378 = .ok (.getfield 68, 3) := by decide +kernel
theorem dX12_burn_381 : decode cX12_burn 381 = .ok (.bipush 24, 2) := by decide +kernel
theorem dX12_burn_383 : decode cX12_burn 383 = .ok (.iload_n 2, 1) := by decide +kernel
theorem dX12_burn_384 : decode cX12_burn 384 = .ok (.imul, 1) := by decide +kernel
theorem dX12_burn_385 : decode cX12_burn 385 = .ok (.iload_n 3, 1) := by decide +kernel
theorem dX12_burn_386 : decode cX12_burn 386 = .ok (.iadd, 1) := by decide +kernel
theorem dX12_burn_387 : decode cX12_burn 387 = .ok (.iaload, 1) := by decide +kernel
theorem dX12_burn_388 : decode cX12_burn 388 = .ok (.sipush 600, 3) := by decide +kernel
theorem dX12_burn_391 : decode cX12_burn 391 = .ok (.if_icmp .lt 37, 3) := by decide +kernel
theorem dX12_burn_394 : decode cX12_burn 394 = .ok (.aload_n 0, 1) := by decide +kernel
theorem dX12_burn_395 : decode cX12_burn 395 = .ok (.getfield 86, 3) := by decide +kernel
theorem dX12_burn_398 : decode cX12_burn 398 = .ok (.iload 4, 2) := by decide +kernel
theorem dX12_burn_400 : decode cX12_burn 400 = .ok (.iaload, 1) := by decide +kernel
theorem dX12_burn_401 : decode cX12_burn 401 = .ok (.ifCond .ne 6, 3) := by decide +kernel
theorem dX12_burn_404 : decode cX12_burn 404 = .ok (.goto 24, 3) := by decide +kernel
theorem dX12_burn_407 : decode cX12_burn 407 = .ok (.aload_n 0, 1) := by decide +kernel
theorem dX12_burn_408 : decode cX12_burn 408 = .ok (.getfield 86, 3) := by decide +kernel
theorem dX12_burn_411 : decode cX12_burn 411 = .ok (.iload 4, 2) := by decide +kernel
theorem dX12_burn_413 : decode cX12_burn 413 = .ok (.dup2, 1) := by decide +kernel
theorem dX12_burn_414 : decode cX12_burn 414 = .ok (.iaload, 1) := by decide +kernel
theorem dX12_burn_415 : decode cX12_burn 415 = .ok (.iconst 1, 1) := by decide +kernel
theorem dX12_burn_416 : decode cX12_burn 416 = .ok (.isub, 1) := by decide +kernel
theorem dX12_burn_417 : decode cX12_burn 417 = .ok (.iastore, 1) := by decide +kernel
theorem dX12_burn_418 : decode cX12_burn 418 = .ok (.aload_n 0, 1) := by decide +kernel
theorem dX12_burn_419 : decode cX12_burn 419 = .ok (.getfield 59, 3) := by decide +kernel
theorem dX12_burn_422 : decode cX12_burn 422 = .ok (.iload_n 2, 1) := by decide +kernel
theorem dX12_burn_423 : decode cX12_burn 423 = .ok (.dup2, 1) := by decide +kernel
theorem dX12_burn_424 : decode cX12_burn 424 = .ok (.iaload, 1) := by decide +kernel
theorem dX12_burn_425 : decode cX12_burn 425 = .ok (.iconst 1, 1) := by decide +kernel
theorem dX12_burn_426 : decode cX12_burn 426 = .ok (.iadd, 1) := by decide +kernel
theorem dX12_burn_427 : decode cX12_burn 427 = .ok (.iastore, 1) := by decide +kernel
theorem dX12_burn_428 : decode cX12_burn 428 = .ok (.iinc 3 1, 3) := by decide +kernel
theorem dX12_burn_431 : decode cX12_burn 431 = .ok (.goto (-93), 3) := by decide +kernel
theorem dX12_burn_434 : decode cX12_burn 434 = .ok (.iinc 2 1, 3) := by decide +kernel
theorem dX12_burn_437 : decode cX12_burn 437 = .ok (.goto (-113), 3) := by decide +kernel
theorem dX12_burn_440 : decode cX12_burn 440 = .ok (.return_, 1) := by decide +kernel
theorem okX12_burn : ab_okM MX12_burn 1 := ⟨by decide, ⟨by decide, by decide⟩, ab_in 2590 (by decide +kernel) (by decide +kernel), ab_in 99 (by decide +kernel) (by decide +kernel), by decide +kernel, by decide⟩
set_option maxHeartbeats 4000000 in
set_option maxRecDepth 100000 in
def lX12_burn_338 (v1 : Int32) (v2 : Int32) (K : ab_X → Prop) (L324 : Int32 → ab_X → Prop) (L338 : Int32 → ab_X → Prop) (v3 : Int32) (x : ab_X) : Prop := (vp_in v2 12 ∧ vp_in v2 12 ∧ ((((x.1 256 (Int32.toNatClampNeg v2)) * (x.1 257 (Int32.toNatClampNeg v2))) ≤ v3 → L324 (v2 + 1) x) ∧ (¬ ((x.1 256 (Int32.toNatClampNeg v2)) * (x.1 257 (Int32.toNatClampNeg v2))) ≤ v3 → wX12_floorOf v2 v3 x (fun r4 => wX12_burns v2 v3 x (fun r5 => ((r5 = 0 → L338 (v3 + 1) x) ∧ (¬ r5 = 0 → (vp_in ((24 * v2) + v3) 288 ∧ (((x.1 266 (Int32.toNatClampNeg ((24 * v2) + v3))) < 600 → L338 (v3 + 1) x) ∧ (¬ (x.1 266 (Int32.toNatClampNeg ((24 * v2) + v3))) < 600 → (vp_in ((6 * v2) + r4) 72 ∧ ((¬ (x.1 272 (Int32.toNatClampNeg ((6 * v2) + r4))) = 0 → (vp_in ((6 * v2) + r4) 72 ∧ vp_in ((6 * v2) + r4) 72 ∧ vp_in v2 12 ∧ vp_in v2 12 ∧ L338 (v3 + 1) (wr (wr x 272 (Int32.toNatClampNeg ((6 * v2) + r4)) ((x.1 272 (Int32.toNatClampNeg ((6 * v2) + r4))) - 1)) 263 (Int32.toNatClampNeg v2) (((wr x 272 (Int32.toNatClampNeg ((6 * v2) + r4)) ((x.1 272 (Int32.toNatClampNeg ((6 * v2) + r4))) - 1)).1 263 (Int32.toNatClampNeg v2)) + 1)))) ∧ ((x.1 272 (Int32.toNatClampNeg ((6 * v2) + r4))) = 0 → L338 (v3 + 1) x)))))))))))))
set_option maxHeartbeats 4000000 in
set_option maxRecDepth 100000 in
theorem sX12_burn_338 (v1 : Int32) (v2 : Int32) (v3 : Int32)  (x : ab_X) (K : ab_X → Prop) (L324 : Int32 → ab_X → Prop) (d bc bs : Nat) (hdp : 4 ≤ d) (hL324 : ∀ (v2 : Int32) (x : ab_X), L324 v2 x → EW MX12_burn 324 [(0, .ref 246), (1, .int v1), (2, .int v2)] [] (aS x) d bc bs (liV K)) (h : Lp2 (lX12_burn_338 v1 v2 K L324) v3 x) : EW MX12_burn 338 [(0, .ref 246), (1, .int v1), (2, .int v2), (3, .int v3)] [] (aS x) d bc bs (liV K) := by
  refine Lp2.use (P := fun v3 x => EW MX12_burn 338 [(0, .ref 246), (1, .int v1), (2, .int v2), (3, .int v3)] [] (aS x) d bc bs (liV K)) (fun L338 v3 x hL338 h => ?_) v3 x h
  unfold lX12_burn_338 at h
  refine EW_iload_n (pc2 := 339) rfl dX12_burn_338 3 rfl ?_
  refine EW_aload_n (pc2 := 340) rfl dX12_burn_339 0 rfl ?_
  refine AW_getr (r := 256) ⟨gfRX12_38, rfl⟩ (pc2 := 343) rfl dX12_burn_340 q246 rfl ?_
  refine EW_iload_n (pc2 := 344) rfl dX12_burn_343 2 rfl ?_
  obtain ⟨b2, h⟩ := h
  refine AW_iald (pc2 := 345) rfl dX12_burn_344 q256 b2 ?_
  refine EW_aload_n (pc2 := 346) rfl dX12_burn_345 0 rfl ?_
  refine AW_getr (r := 257) ⟨gfRX12_41, rfl⟩ (pc2 := 349) rfl dX12_burn_346 q246 rfl ?_
  refine EW_iload_n (pc2 := 350) rfl dX12_burn_349 2 rfl ?_
  obtain ⟨b3, h⟩ := h
  refine AW_iald (pc2 := 351) rfl dX12_burn_350 q257 b3 ?_
  refine EW_imul (pc2 := 352) rfl dX12_burn_351 ?_
  refine EW_icmp_ge (tgt := 434) (pc2 := 355) rfl dX12_burn_352 (by decide) (fun q => ?_) (fun q => ?_)
  · replace h := h.1 q
    refine EW_iinc (v2 + 1) (pc2 := 437) rfl dX12_burn_434 2 rfl rfl (by decide) [1, 2, 0, 3] [(0, .ref 246), (1, .int v1), (2, .int (v2 + 1)), (3, .int v3)] rfl ?_
    refine EW_goto (tgt := 324) dX12_burn_437 (by decide) ?_
    refine EW_ls [0, 1, 2] rfl ?_
    exact hL324 (v2 + 1) x h
  · replace h := h.2 q
    refine EW_bipush (pc2 := 357) (v := 6) rfl dX12_burn_355 (by decide) ?_
    refine EW_iload_n (pc2 := 358) rfl dX12_burn_357 2 rfl ?_
    refine EW_imul (pc2 := 359) rfl dX12_burn_358 ?_
    refine EW_aload_n (pc2 := 360) rfl dX12_burn_359 0 rfl ?_
    refine EW_iload_n (pc2 := 361) rfl dX12_burn_360 2 rfl ?_
    refine EW_iload_n (pc2 := 362) rfl dX12_burn_361 3 rfl ?_
    refine AW_invV (M' := MX12_floorOf) [.int v2, .int v3] (rest := [.int (6 * v2)]) mlRX12_345 okX12_floorOf (pc2 := 365) rfl dX12_burn_362 rfl rfl (Nat.le_of_ble_eq_true rfl) (Nat.le_of_ble_eq_true rfl) (d' := 0) (by omega) q246 ⟨by decide, rfl⟩ (EW_mono (fun _ _ hr => ?_) (sX12_floorOf v2 v3  x _ _ 0 0 (Nat.le_refl _) h))
    obtain ⟨r4, rfl, rfl, h⟩ := hr
    refine EW_iadd (pc2 := 366) rfl dX12_burn_365 ?_
    refine EW_istore (pc2 := 368) rfl dX12_burn_366 (by decide) [1, 2, 3, 4, 0] [(0, .ref 246), (1, .int v1), (2, .int v2), (3, .int v3), (4, .int ((6 * v2) + r4))] rfl ?_
    refine EW_aload_n (pc2 := 369) rfl dX12_burn_368 0 rfl ?_
    refine EW_iload_n (pc2 := 370) rfl dX12_burn_369 2 rfl ?_
    refine EW_iload_n (pc2 := 371) rfl dX12_burn_370 3 rfl ?_
    refine AW_invV (M' := MX12_burns) [.int v2, .int v3] (rest := []) mlRX12_348 okX12_burns (pc2 := 374) rfl dX12_burn_371 rfl rfl (Nat.le_of_ble_eq_true rfl) (Nat.le_of_ble_eq_true rfl) (d' := 1) (by omega) q246 ⟨by decide, rfl⟩ (EW_mono (fun _ _ hr => ?_) (sX12_burns v2 v3  x _ _ 0 0 (Nat.le_refl _) h))
    obtain ⟨r5, rfl, rfl, h⟩ := hr
    refine EW_if_eq (tgt := 428) (pc2 := 377) rfl dX12_burn_374 (by decide) (fun q => ?_) (fun q => ?_)
    · replace h := h.1 q
      refine EW_iinc (v3 + 1) (pc2 := 431) rfl dX12_burn_428 3 rfl rfl (by decide) [1, 2, 3, 0, 4] [(0, .ref 246), (1, .int v1), (2, .int v2), (3, .int (v3 + 1)), (4, .int ((6 * v2) + r4))] rfl ?_
      refine EW_goto (tgt := 338) dX12_burn_431 (by decide) ?_
      refine EW_ls [0, 1, 2, 3] rfl ?_
      exact hL338 (v3 + 1) x h
    · replace h := h.2 q
      refine EW_aload_n (pc2 := 378) rfl dX12_burn_377 0 rfl ?_
      refine AW_getr (r := 266) ⟨gfRX12_68, rfl⟩ (pc2 := 381) rfl dX12_burn_378 q246 rfl ?_
      refine EW_bipush (pc2 := 383) (v := 24) rfl dX12_burn_381 (by decide) ?_
      refine EW_iload_n (pc2 := 384) rfl dX12_burn_383 2 rfl ?_
      refine EW_imul (pc2 := 385) rfl dX12_burn_384 ?_
      refine EW_iload_n (pc2 := 386) rfl dX12_burn_385 3 rfl ?_
      refine EW_iadd (pc2 := 387) rfl dX12_burn_386 ?_
      obtain ⟨b6, h⟩ := h
      refine AW_iald (pc2 := 388) rfl dX12_burn_387 q266 b6 ?_
      refine EW_sipush (pc2 := 391) (v := 600) rfl dX12_burn_388 (by decide) ?_
      refine EW_icmp_lt (tgt := 428) (pc2 := 394) rfl dX12_burn_391 (by decide) (fun q => ?_) (fun q => ?_)
      · replace h := h.1 q
        refine EW_iinc (v3 + 1) (pc2 := 431) rfl dX12_burn_428 3 rfl rfl (by decide) [1, 2, 3, 0, 4] [(0, .ref 246), (1, .int v1), (2, .int v2), (3, .int (v3 + 1)), (4, .int ((6 * v2) + r4))] rfl ?_
        refine EW_goto (tgt := 338) dX12_burn_431 (by decide) ?_
        refine EW_ls [0, 1, 2, 3] rfl ?_
        exact hL338 (v3 + 1) x h
      · replace h := h.2 q
        refine EW_aload_n (pc2 := 395) rfl dX12_burn_394 0 rfl ?_
        refine AW_getr (r := 272) ⟨gfRX12_86, rfl⟩ (pc2 := 398) rfl dX12_burn_395 q246 rfl ?_
        refine EW_iload (pc2 := 400) rfl dX12_burn_398 4 rfl ?_
        obtain ⟨b7, h⟩ := h
        refine AW_iald (pc2 := 401) rfl dX12_burn_400 q272 b7 ?_
        refine EW_if_ne (tgt := 407) (pc2 := 404) rfl dX12_burn_401 (by decide) (fun q => ?_) (fun q => ?_)
        · replace h := h.1 q
          refine EW_aload_n (pc2 := 408) rfl dX12_burn_407 0 rfl ?_
          refine AW_getr (r := 272) ⟨gfRX12_86, rfl⟩ (pc2 := 411) rfl dX12_burn_408 q246 rfl ?_
          refine EW_iload (pc2 := 413) rfl dX12_burn_411 4 rfl ?_
          refine EW_dup2 (pc2 := 414) rfl dX12_burn_413 rfl rfl ?_
          obtain ⟨b8, h⟩ := h
          refine AW_iald (pc2 := 415) rfl dX12_burn_414 q272 b8 ?_
          refine EW_iconst (pc2 := 416) (v := 1) rfl dX12_burn_415 (by decide) ?_
          refine EW_isub (pc2 := 417) rfl dX12_burn_416 ?_
          obtain ⟨b9, h⟩ := h
          refine AW_iast (pc2 := 418) rfl dX12_burn_417 q272 b9 ?_
          refine EW_aload_n (pc2 := 419) rfl dX12_burn_418 0 rfl ?_
          refine AW_getr (r := 263) ⟨gfRX12_59, rfl⟩ (pc2 := 422) rfl dX12_burn_419 q246 rfl ?_
          refine EW_iload_n (pc2 := 423) rfl dX12_burn_422 2 rfl ?_
          refine EW_dup2 (pc2 := 424) rfl dX12_burn_423 rfl rfl ?_
          obtain ⟨b10, h⟩ := h
          refine AW_iald (pc2 := 425) rfl dX12_burn_424 q263 b10 ?_
          refine EW_iconst (pc2 := 426) (v := 1) rfl dX12_burn_425 (by decide) ?_
          refine EW_iadd (pc2 := 427) rfl dX12_burn_426 ?_
          obtain ⟨b11, h⟩ := h
          refine AW_iast (pc2 := 428) rfl dX12_burn_427 q263 b11 ?_
          refine EW_iinc (v3 + 1) (pc2 := 431) rfl dX12_burn_428 3 rfl rfl (by decide) [1, 2, 3, 0, 4] [(0, .ref 246), (1, .int v1), (2, .int v2), (3, .int (v3 + 1)), (4, .int ((6 * v2) + r4))] rfl ?_
          refine EW_goto (tgt := 338) dX12_burn_431 (by decide) ?_
          refine EW_ls [0, 1, 2, 3] rfl ?_
          exact hL338 (v3 + 1) (wr (wr x 272 (Int32.toNatClampNeg ((6 * v2) + r4)) ((x.1 272 (Int32.toNatClampNeg ((6 * v2) + r4))) - 1)) 263 (Int32.toNatClampNeg v2) (((wr x 272 (Int32.toNatClampNeg ((6 * v2) + r4)) ((x.1 272 (Int32.toNatClampNeg ((6 * v2) + r4))) - 1)).1 263 (Int32.toNatClampNeg v2)) + 1)) h
        · replace h := h.2 q
          refine EW_goto (tgt := 428) dX12_burn_404 (by decide) ?_
          refine EW_iinc (v3 + 1) (pc2 := 431) rfl dX12_burn_428 3 rfl rfl (by decide) [1, 2, 3, 0, 4] [(0, .ref 246), (1, .int v1), (2, .int v2), (3, .int (v3 + 1)), (4, .int ((6 * v2) + r4))] rfl ?_
          refine EW_goto (tgt := 338) dX12_burn_431 (by decide) ?_
          refine EW_ls [0, 1, 2, 3] rfl ?_
          exact hL338 (v3 + 1) x h
set_option maxHeartbeats 4000000 in
set_option maxRecDepth 100000 in
def lX12_burn_324 (v1 : Int32) (K : ab_X → Prop)  (L324 : Int32 → ab_X → Prop) (v2 : Int32) (x : ab_X) : Prop := (((x.1 246 31) ≤ v2 → K x) ∧ (¬ (x.1 246 31) ≤ v2 → ((v1 = 0 → K x) ∧ (¬ v1 = 0 → Lp2 (lX12_burn_338 v1 v2 K L324) 0 x))))
set_option maxHeartbeats 4000000 in
set_option maxRecDepth 100000 in
theorem sX12_burn_324 (v1 : Int32) (v2 : Int32)  (x : ab_X) (K : ab_X → Prop)  (d bc bs : Nat) (hdp : 4 ≤ d)  (h : Lp2 (lX12_burn_324 v1 K ) v2 x) : EW MX12_burn 324 [(0, .ref 246), (1, .int v1), (2, .int v2)] [] (aS x) d bc bs (liV K) := by
  refine Lp2.use (P := fun v2 x => EW MX12_burn 324 [(0, .ref 246), (1, .int v1), (2, .int v2)] [] (aS x) d bc bs (liV K)) (fun L324 v2 x hL324 h => ?_) v2 x h
  unfold lX12_burn_324 at h
  refine EW_iload_n (pc2 := 325) rfl dX12_burn_324 2 rfl ?_
  refine EW_aload_n (pc2 := 326) rfl dX12_burn_325 0 rfl ?_
  refine AW_geti ⟨gfRX12_331, rfl⟩ (pc2 := 329) rfl dX12_burn_326 q246 ?_
  refine EW_icmp_ge (tgt := 440) (pc2 := 332) rfl dX12_burn_329 (by decide) (fun q => ?_) (fun q => ?_)
  · replace h := h.1 q
    exact EW_vret rfl dX12_burn_440 ⟨_, rfl, rfl, h⟩
  · replace h := h.2 q
    refine EW_iload_n (pc2 := 333) rfl dX12_burn_332 1 rfl ?_
    refine EW_if_eq (tgt := 440) (pc2 := 336) rfl dX12_burn_333 (by decide) (fun q => ?_) (fun q => ?_)
    · replace h := h.1 q
      exact EW_vret rfl dX12_burn_440 ⟨_, rfl, rfl, h⟩
    · replace h := h.2 q
      refine EW_iconst (pc2 := 337) (v := 0) rfl dX12_burn_336 (by decide) ?_
      refine EW_istore_n (pc2 := 338) rfl dX12_burn_337 (by decide) [1, 2, 3, 0] [(0, .ref 246), (1, .int v1), (2, .int v2), (3, .int 0)] rfl ?_
      exact sX12_burn_338 v1 v2 0 x K L324 d bc bs hdp hL324 h
set_option maxHeartbeats 4000000 in
set_option maxRecDepth 100000 in
def lX12_burn_271 (v1 : Int32) (v2 : Int32) (K : ab_X → Prop) (L254 : Int32 → ab_X → Prop) (L271 : Int32 → ab_X → Prop) (v3 : Int32) (x : ab_X) : Prop := ((v3 ≤ 0 → L254 (v2 + 1) x) ∧ (¬ v3 ≤ 0 → (vp_in ((6 * v2) + v3) 72 ∧ ((¬ (x.1 274 (Int32.toNatClampNeg ((6 * v2) + v3))) = 0 → L271 (v3 + (-1)) x) ∧ ((x.1 274 (Int32.toNatClampNeg ((6 * v2) + v3))) = 0 → wX12_loadOf v2 v3 x (fun r13 => wX12_bears v2 x (fun r14 => ((r13 < r14 → L271 (v3 + (-1)) x) ∧ (¬ r13 < r14 → wX12_falls v2 v3 v1 x (fun x15 => L271 (v3 + (-1)) x15))))))))))
set_option maxHeartbeats 4000000 in
set_option maxRecDepth 100000 in
theorem sX12_burn_271 (v1 : Int32) (v2 : Int32) (v3 : Int32)  (x : ab_X) (K : ab_X → Prop) (L254 : Int32 → ab_X → Prop) (d bc bs : Nat) (hdp : 4 ≤ d) (hL254 : ∀ (v2 : Int32) (x : ab_X), L254 v2 x → EW MX12_burn 254 [(0, .ref 246), (1, .int v1), (2, .int v2)] [] (aS x) d bc bs (liV K)) (h : Lp2 (lX12_burn_271 v1 v2 K L254) v3 x) : EW MX12_burn 271 [(0, .ref 246), (1, .int v1), (2, .int v2), (3, .int v3)] [] (aS x) d bc bs (liV K) := by
  refine Lp2.use (P := fun v3 x => EW MX12_burn 271 [(0, .ref 246), (1, .int v1), (2, .int v2), (3, .int v3)] [] (aS x) d bc bs (liV K)) (fun L271 v3 x hL271 h => ?_) v3 x h
  unfold lX12_burn_271 at h
  refine EW_iload_n (pc2 := 272) rfl dX12_burn_271 3 rfl ?_
  refine EW_if_le (tgt := 316) (pc2 := 275) rfl dX12_burn_272 (by decide) (fun q => ?_) (fun q => ?_)
  · replace h := h.1 q
    refine EW_iinc (v2 + 1) (pc2 := 319) rfl dX12_burn_316 2 rfl rfl (by decide) [1, 2, 0, 3] [(0, .ref 246), (1, .int v1), (2, .int (v2 + 1)), (3, .int v3)] rfl ?_
    refine EW_goto (tgt := 254) dX12_burn_319 (by decide) ?_
    refine EW_ls [0, 1, 2] rfl ?_
    exact hL254 (v2 + 1) x h
  · replace h := h.2 q
    refine EW_aload_n (pc2 := 276) rfl dX12_burn_275 0 rfl ?_
    refine AW_getr (r := 274) ⟨gfRX12_92, rfl⟩ (pc2 := 279) rfl dX12_burn_276 q246 rfl ?_
    refine EW_bipush (pc2 := 281) (v := 6) rfl dX12_burn_279 (by decide) ?_
    refine EW_iload_n (pc2 := 282) rfl dX12_burn_281 2 rfl ?_
    refine EW_imul (pc2 := 283) rfl dX12_burn_282 ?_
    refine EW_iload_n (pc2 := 284) rfl dX12_burn_283 3 rfl ?_
    refine EW_iadd (pc2 := 285) rfl dX12_burn_284 ?_
    obtain ⟨b12, h⟩ := h
    refine AW_zald (pc2 := 286) rfl dX12_burn_285 q274 b12 ?_
    refine EW_if_ne (tgt := 310) (pc2 := 289) rfl dX12_burn_286 (by decide) (fun q => ?_) (fun q => ?_)
    · replace h := h.1 q
      refine EW_iinc (v3 + (-1)) (pc2 := 313) rfl dX12_burn_310 3 rfl rfl (by decide) [1, 2, 3, 0] [(0, .ref 246), (1, .int v1), (2, .int v2), (3, .int (v3 + (-1)))] rfl ?_
      refine EW_goto (tgt := 271) dX12_burn_313 (by decide) ?_
      exact hL271 (v3 + (-1)) x h
    · replace h := h.2 q
      refine EW_aload_n (pc2 := 290) rfl dX12_burn_289 0 rfl ?_
      refine EW_iload_n (pc2 := 291) rfl dX12_burn_290 2 rfl ?_
      refine EW_iload_n (pc2 := 292) rfl dX12_burn_291 3 rfl ?_
      refine AW_invV (M' := MX12_loadOf) [.int v2, .int v3] (rest := []) mlRX12_360 okX12_loadOf (pc2 := 295) rfl dX12_burn_292 rfl rfl (Nat.le_of_ble_eq_true rfl) (Nat.le_of_ble_eq_true rfl) (d' := 0) (by omega) q246 ⟨by decide, rfl⟩ (EW_mono (fun _ _ hr => ?_) (sX12_loadOf v2 v3  x _ _ 0 0 (Nat.le_refl _) h))
      obtain ⟨r13, rfl, rfl, h⟩ := hr
      refine EW_aload_n (pc2 := 296) rfl dX12_burn_295 0 rfl ?_
      refine EW_iload_n (pc2 := 297) rfl dX12_burn_296 2 rfl ?_
      refine AW_invV (M' := MX12_bears) [.int v2] (rest := [.int r13]) mlRX12_379 okX12_bears (pc2 := 300) rfl dX12_burn_297 rfl rfl (Nat.le_of_ble_eq_true rfl) (Nat.le_of_ble_eq_true rfl) (d' := 0) (by omega) q246 ⟨by decide, rfl⟩ (EW_mono (fun _ _ hr => ?_) (sX12_bears v2  x _ _ 0 0 (Nat.le_refl _) h))
      obtain ⟨r14, rfl, rfl, h⟩ := hr
      refine EW_icmp_lt (tgt := 310) (pc2 := 303) rfl dX12_burn_300 (by decide) (fun q => ?_) (fun q => ?_)
      · replace h := h.1 q
        refine EW_iinc (v3 + (-1)) (pc2 := 313) rfl dX12_burn_310 3 rfl rfl (by decide) [1, 2, 3, 0] [(0, .ref 246), (1, .int v1), (2, .int v2), (3, .int (v3 + (-1)))] rfl ?_
        refine EW_goto (tgt := 271) dX12_burn_313 (by decide) ?_
        exact hL271 (v3 + (-1)) x h
      · replace h := h.2 q
        refine EW_aload_n (pc2 := 304) rfl dX12_burn_303 0 rfl ?_
        refine EW_iload_n (pc2 := 305) rfl dX12_burn_304 2 rfl ?_
        refine EW_iload_n (pc2 := 306) rfl dX12_burn_305 3 rfl ?_
        refine EW_iload_n (pc2 := 307) rfl dX12_burn_306 1 rfl ?_
        refine AW_invV (M' := MX12_falls) [.int v2, .int v3, .int v1] (rest := []) mlRX12_382 okX12_falls (pc2 := 310) rfl dX12_burn_307 rfl rfl (Nat.le_of_ble_eq_true rfl) (Nat.le_of_ble_eq_true rfl) (d' := 1) (by omega) q246 ⟨by decide, rfl⟩ (EW_mono (fun _ _ hr => ?_) (sX12_falls v2 v3 v1  x _ _ 0 0 (Nat.le_refl _) h))
        obtain ⟨x15, rfl, rfl, h⟩ := hr
        refine EW_iinc (v3 + (-1)) (pc2 := 313) rfl dX12_burn_310 3 rfl rfl (by decide) [1, 2, 3, 0] [(0, .ref 246), (1, .int v1), (2, .int v2), (3, .int (v3 + (-1)))] rfl ?_
        refine EW_goto (tgt := 271) dX12_burn_313 (by decide) ?_
        exact hL271 (v3 + (-1)) x15 h
set_option maxHeartbeats 4000000 in
set_option maxRecDepth 100000 in
def lX12_burn_254 (v1 : Int32) (K : ab_X → Prop)  (L254 : Int32 → ab_X → Prop) (v2 : Int32) (x : ab_X) : Prop := (((x.1 246 31) ≤ v2 → Lp2 (lX12_burn_324 v1 K ) 0 x) ∧ (¬ (x.1 246 31) ≤ v2 → (vp_in v2 12 ∧ Lp2 (lX12_burn_271 v1 v2 K L254) ((x.1 256 (Int32.toNatClampNeg v2)) - 1) x)))
set_option maxHeartbeats 4000000 in
set_option maxRecDepth 100000 in
theorem sX12_burn_254 (v1 : Int32) (v2 : Int32)  (x : ab_X) (K : ab_X → Prop)  (d bc bs : Nat) (hdp : 4 ≤ d)  (h : Lp2 (lX12_burn_254 v1 K ) v2 x) : EW MX12_burn 254 [(0, .ref 246), (1, .int v1), (2, .int v2)] [] (aS x) d bc bs (liV K) := by
  refine Lp2.use (P := fun v2 x => EW MX12_burn 254 [(0, .ref 246), (1, .int v1), (2, .int v2)] [] (aS x) d bc bs (liV K)) (fun L254 v2 x hL254 h => ?_) v2 x h
  unfold lX12_burn_254 at h
  refine EW_iload_n (pc2 := 255) rfl dX12_burn_254 2 rfl ?_
  refine EW_aload_n (pc2 := 256) rfl dX12_burn_255 0 rfl ?_
  refine AW_geti ⟨gfRX12_331, rfl⟩ (pc2 := 259) rfl dX12_burn_256 q246 ?_
  refine EW_icmp_ge (tgt := 322) (pc2 := 262) rfl dX12_burn_259 (by decide) (fun q => ?_) (fun q => ?_)
  · replace h := h.1 q
    refine EW_iconst (pc2 := 323) (v := 0) rfl dX12_burn_322 (by decide) ?_
    refine EW_istore_n (pc2 := 324) rfl dX12_burn_323 (by decide) [1, 2, 0] [(0, .ref 246), (1, .int v1), (2, .int 0)] rfl ?_
    exact sX12_burn_324 v1 0 x K d bc bs hdp h
  · replace h := h.2 q
    refine EW_aload_n (pc2 := 263) rfl dX12_burn_262 0 rfl ?_
    refine AW_getr (r := 256) ⟨gfRX12_38, rfl⟩ (pc2 := 266) rfl dX12_burn_263 q246 rfl ?_
    refine EW_iload_n (pc2 := 267) rfl dX12_burn_266 2 rfl ?_
    obtain ⟨b1, h⟩ := h
    refine AW_iald (pc2 := 268) rfl dX12_burn_267 q256 b1 ?_
    refine EW_iconst (pc2 := 269) (v := 1) rfl dX12_burn_268 (by decide) ?_
    refine EW_isub (pc2 := 270) rfl dX12_burn_269 ?_
    refine EW_istore_n (pc2 := 271) rfl dX12_burn_270 (by decide) [1, 2, 3, 0] [(0, .ref 246), (1, .int v1), (2, .int v2), (3, .int ((x.1 256 (Int32.toNatClampNeg v2)) - 1))] rfl ?_
    exact sX12_burn_271 v1 v2 ((x.1 256 (Int32.toNatClampNeg v2)) - 1) x K L254 d bc bs hdp hL254 h
set_option maxHeartbeats 4000000 in
set_option maxRecDepth 100000 in
def lX12_burn_158 (v1 : Int32) (v2 : Int32) (K : ab_X → Prop) (L148 : Int32 → ab_X → Prop) (L158 : Int32 → ab_X → Prop) (v3 : Int32) (x : ab_X) : Prop := (vp_in v2 12 ∧ vp_in v2 12 ∧ ((((x.1 256 (Int32.toNatClampNeg v2)) * (x.1 257 (Int32.toNatClampNeg v2))) ≤ v3 → L148 (v2 + 1) x) ∧ (¬ ((x.1 256 (Int32.toNatClampNeg v2)) * (x.1 257 (Int32.toNatClampNeg v2))) ≤ v3 → (vp_in ((24 * v2) + v3) 288 ∧ vp_in ((24 * v2) + v3) 288 ∧ vp_in ((24 * v2) + v3) 288 ∧ vp_in ((24 * v2) + v3) 288 ∧ vp_in ((24 * v2) + v3) 288 ∧ wX12_floorOf v2 v3 (wr (wr x 266 (Int32.toNatClampNeg ((24 * v2) + v3)) (x.1 269 (Int32.toNatClampNeg ((24 * v2) + v3)))) 267 (Int32.toNatClampNeg ((24 * v2) + v3)) (((wr x 266 (Int32.toNatClampNeg ((24 * v2) + v3)) (x.1 269 (Int32.toNatClampNeg ((24 * v2) + v3)))).1 267 (Int32.toNatClampNeg ((24 * v2) + v3))) - ((wr x 266 (Int32.toNatClampNeg ((24 * v2) + v3)) (x.1 269 (Int32.toNatClampNeg ((24 * v2) + v3)))).1 270 (Int32.toNatClampNeg ((24 * v2) + v3))))) (fun r23 => (vp_in ((6 * v2) + r23) 72 ∧ vp_in ((24 * v2) + v3) 288 ∧ vp_in ((6 * v2) + r23) 72 ∧ L158 (v3 + 1) (wr (wr (wr x 266 (Int32.toNatClampNeg ((24 * v2) + v3)) (x.1 269 (Int32.toNatClampNeg ((24 * v2) + v3)))) 267 (Int32.toNatClampNeg ((24 * v2) + v3)) (((wr x 266 (Int32.toNatClampNeg ((24 * v2) + v3)) (x.1 269 (Int32.toNatClampNeg ((24 * v2) + v3)))).1 267 (Int32.toNatClampNeg ((24 * v2) + v3))) - ((wr x 266 (Int32.toNatClampNeg ((24 * v2) + v3)) (x.1 269 (Int32.toNatClampNeg ((24 * v2) + v3)))).1 270 (Int32.toNatClampNeg ((24 * v2) + v3))))) 271 (Int32.toNatClampNeg ((6 * v2) + r23)) (((wr (wr x 266 (Int32.toNatClampNeg ((24 * v2) + v3)) (x.1 269 (Int32.toNatClampNeg ((24 * v2) + v3)))) 267 (Int32.toNatClampNeg ((24 * v2) + v3)) (((wr x 266 (Int32.toNatClampNeg ((24 * v2) + v3)) (x.1 269 (Int32.toNatClampNeg ((24 * v2) + v3)))).1 267 (Int32.toNatClampNeg ((24 * v2) + v3))) - ((wr x 266 (Int32.toNatClampNeg ((24 * v2) + v3)) (x.1 269 (Int32.toNatClampNeg ((24 * v2) + v3)))).1 270 (Int32.toNatClampNeg ((24 * v2) + v3))))).1 271 (Int32.toNatClampNeg ((6 * v2) + r23))) + ((wr (wr x 266 (Int32.toNatClampNeg ((24 * v2) + v3)) (x.1 269 (Int32.toNatClampNeg ((24 * v2) + v3)))) 267 (Int32.toNatClampNeg ((24 * v2) + v3)) (((wr x 266 (Int32.toNatClampNeg ((24 * v2) + v3)) (x.1 269 (Int32.toNatClampNeg ((24 * v2) + v3)))).1 267 (Int32.toNatClampNeg ((24 * v2) + v3))) - ((wr x 266 (Int32.toNatClampNeg ((24 * v2) + v3)) (x.1 269 (Int32.toNatClampNeg ((24 * v2) + v3)))).1 270 (Int32.toNatClampNeg ((24 * v2) + v3))))).1 270 (Int32.toNatClampNeg ((24 * v2) + v3)))))))))))
set_option maxHeartbeats 4000000 in
set_option maxRecDepth 100000 in
theorem sX12_burn_158 (v1 : Int32) (v2 : Int32) (v3 : Int32)  (x : ab_X) (K : ab_X → Prop) (L148 : Int32 → ab_X → Prop) (d bc bs : Nat) (hdp : 4 ≤ d) (hL148 : ∀ (v2 : Int32) (x : ab_X), L148 v2 x → EW MX12_burn 148 [(0, .ref 246), (1, .int v1), (2, .int v2)] [] (aS x) d bc bs (liV K)) (h : Lp2 (lX12_burn_158 v1 v2 K L148) v3 x) : EW MX12_burn 158 [(0, .ref 246), (1, .int v1), (2, .int v2), (3, .int v3)] [] (aS x) d bc bs (liV K) := by
  refine Lp2.use (P := fun v3 x => EW MX12_burn 158 [(0, .ref 246), (1, .int v1), (2, .int v2), (3, .int v3)] [] (aS x) d bc bs (liV K)) (fun L158 v3 x hL158 h => ?_) v3 x h
  unfold lX12_burn_158 at h
  refine EW_iload_n (pc2 := 159) rfl dX12_burn_158 3 rfl ?_
  refine EW_aload_n (pc2 := 160) rfl dX12_burn_159 0 rfl ?_
  refine AW_getr (r := 256) ⟨gfRX12_38, rfl⟩ (pc2 := 163) rfl dX12_burn_160 q246 rfl ?_
  refine EW_iload_n (pc2 := 164) rfl dX12_burn_163 2 rfl ?_
  obtain ⟨b16, h⟩ := h
  refine AW_iald (pc2 := 165) rfl dX12_burn_164 q256 b16 ?_
  refine EW_aload_n (pc2 := 166) rfl dX12_burn_165 0 rfl ?_
  refine AW_getr (r := 257) ⟨gfRX12_41, rfl⟩ (pc2 := 169) rfl dX12_burn_166 q246 rfl ?_
  refine EW_iload_n (pc2 := 170) rfl dX12_burn_169 2 rfl ?_
  obtain ⟨b17, h⟩ := h
  refine AW_iald (pc2 := 171) rfl dX12_burn_170 q257 b17 ?_
  refine EW_imul (pc2 := 172) rfl dX12_burn_171 ?_
  refine EW_icmp_ge (tgt := 246) (pc2 := 175) rfl dX12_burn_172 (by decide) (fun q => ?_) (fun q => ?_)
  · replace h := h.1 q
    refine EW_iinc (v2 + 1) (pc2 := 249) rfl dX12_burn_246 2 rfl rfl (by decide) [1, 2, 0, 3] [(0, .ref 246), (1, .int v1), (2, .int (v2 + 1)), (3, .int v3)] rfl ?_
    refine EW_goto (tgt := 148) dX12_burn_249 (by decide) ?_
    refine EW_ls [0, 1, 2] rfl ?_
    exact hL148 (v2 + 1) x h
  · replace h := h.2 q
    refine EW_bipush (pc2 := 177) (v := 24) rfl dX12_burn_175 (by decide) ?_
    refine EW_iload_n (pc2 := 178) rfl dX12_burn_177 2 rfl ?_
    refine EW_imul (pc2 := 179) rfl dX12_burn_178 ?_
    refine EW_iload_n (pc2 := 180) rfl dX12_burn_179 3 rfl ?_
    refine EW_iadd (pc2 := 181) rfl dX12_burn_180 ?_
    refine EW_istore (pc2 := 183) rfl dX12_burn_181 (by decide) [1, 2, 3, 4, 0] [(0, .ref 246), (1, .int v1), (2, .int v2), (3, .int v3), (4, .int ((24 * v2) + v3))] rfl ?_
    refine EW_aload_n (pc2 := 184) rfl dX12_burn_183 0 rfl ?_
    refine AW_getr (r := 266) ⟨gfRX12_68, rfl⟩ (pc2 := 187) rfl dX12_burn_184 q246 rfl ?_
    refine EW_iload (pc2 := 189) rfl dX12_burn_187 4 rfl ?_
    refine EW_aload_n (pc2 := 190) rfl dX12_burn_189 0 rfl ?_
    refine AW_getr (r := 269) ⟨gfRX12_77, rfl⟩ (pc2 := 193) rfl dX12_burn_190 q246 rfl ?_
    refine EW_iload (pc2 := 195) rfl dX12_burn_193 4 rfl ?_
    obtain ⟨b18, h⟩ := h
    refine AW_iald (pc2 := 196) rfl dX12_burn_195 q269 b18 ?_
    obtain ⟨b19, h⟩ := h
    refine AW_iast (pc2 := 197) rfl dX12_burn_196 q266 b19 ?_
    refine EW_aload_n (pc2 := 198) rfl dX12_burn_197 0 rfl ?_
    refine AW_getr (r := 267) ⟨gfRX12_71, rfl⟩ (pc2 := 201) rfl dX12_burn_198 q246 rfl ?_
    refine EW_iload (pc2 := 203) rfl dX12_burn_201 4 rfl ?_
    refine EW_dup2 (pc2 := 204) rfl dX12_burn_203 rfl rfl ?_
    obtain ⟨b20, h⟩ := h
    refine AW_iald (pc2 := 205) rfl dX12_burn_204 q267 b20 ?_
    refine EW_aload_n (pc2 := 206) rfl dX12_burn_205 0 rfl ?_
    refine AW_getr (r := 270) ⟨gfRX12_80, rfl⟩ (pc2 := 209) rfl dX12_burn_206 q246 rfl ?_
    refine EW_iload (pc2 := 211) rfl dX12_burn_209 4 rfl ?_
    obtain ⟨b21, h⟩ := h
    refine AW_iald (pc2 := 212) rfl dX12_burn_211 q270 b21 ?_
    refine EW_isub (pc2 := 213) rfl dX12_burn_212 ?_
    obtain ⟨b22, h⟩ := h
    refine AW_iast (pc2 := 214) rfl dX12_burn_213 q267 b22 ?_
    refine EW_aload_n (pc2 := 215) rfl dX12_burn_214 0 rfl ?_
    refine AW_getr (r := 271) ⟨gfRX12_83, rfl⟩ (pc2 := 218) rfl dX12_burn_215 q246 rfl ?_
    refine EW_bipush (pc2 := 220) (v := 6) rfl dX12_burn_218 (by decide) ?_
    refine EW_iload_n (pc2 := 221) rfl dX12_burn_220 2 rfl ?_
    refine EW_imul (pc2 := 222) rfl dX12_burn_221 ?_
    refine EW_aload_n (pc2 := 223) rfl dX12_burn_222 0 rfl ?_
    refine EW_iload_n (pc2 := 224) rfl dX12_burn_223 2 rfl ?_
    refine EW_iload_n (pc2 := 225) rfl dX12_burn_224 3 rfl ?_
    refine AW_invV (M' := MX12_floorOf) [.int v2, .int v3] (rest := [.int (6 * v2), .ref 271]) mlRX12_345 okX12_floorOf (pc2 := 228) rfl dX12_burn_225 rfl rfl (Nat.le_of_ble_eq_true rfl) (Nat.le_of_ble_eq_true rfl) (d' := 0) (by omega) q246 ⟨by decide, rfl⟩ (EW_mono (fun _ _ hr => ?_) (sX12_floorOf v2 v3  (wr (wr x 266 (Int32.toNatClampNeg ((24 * v2) + v3)) (x.1 269 (Int32.toNatClampNeg ((24 * v2) + v3)))) 267 (Int32.toNatClampNeg ((24 * v2) + v3)) (((wr x 266 (Int32.toNatClampNeg ((24 * v2) + v3)) (x.1 269 (Int32.toNatClampNeg ((24 * v2) + v3)))).1 267 (Int32.toNatClampNeg ((24 * v2) + v3))) - ((wr x 266 (Int32.toNatClampNeg ((24 * v2) + v3)) (x.1 269 (Int32.toNatClampNeg ((24 * v2) + v3)))).1 270 (Int32.toNatClampNeg ((24 * v2) + v3))))) _ _ 0 0 (Nat.le_refl _) h))
    obtain ⟨r23, rfl, rfl, h⟩ := hr
    refine EW_iadd (pc2 := 229) rfl dX12_burn_228 ?_
    refine EW_dup2 (pc2 := 230) rfl dX12_burn_229 rfl rfl ?_
    obtain ⟨b24, h⟩ := h
    refine AW_iald (pc2 := 231) rfl dX12_burn_230 q271 b24 ?_
    refine EW_aload_n (pc2 := 232) rfl dX12_burn_231 0 rfl ?_
    refine AW_getr (r := 270) ⟨gfRX12_80, rfl⟩ (pc2 := 235) rfl dX12_burn_232 q246 rfl ?_
    refine EW_iload (pc2 := 237) rfl dX12_burn_235 4 rfl ?_
    obtain ⟨b25, h⟩ := h
    refine AW_iald (pc2 := 238) rfl dX12_burn_237 q270 b25 ?_
    refine EW_iadd (pc2 := 239) rfl dX12_burn_238 ?_
    obtain ⟨b26, h⟩ := h
    refine AW_iast (pc2 := 240) rfl dX12_burn_239 q271 b26 ?_
    refine EW_iinc (v3 + 1) (pc2 := 243) rfl dX12_burn_240 3 rfl rfl (by decide) [1, 2, 3, 0, 4] [(0, .ref 246), (1, .int v1), (2, .int v2), (3, .int (v3 + 1)), (4, .int ((24 * v2) + v3))] rfl ?_
    refine EW_goto (tgt := 158) dX12_burn_243 (by decide) ?_
    refine EW_ls [0, 1, 2, 3] rfl ?_
    exact hL158 (v3 + 1) (wr (wr (wr x 266 (Int32.toNatClampNeg ((24 * v2) + v3)) (x.1 269 (Int32.toNatClampNeg ((24 * v2) + v3)))) 267 (Int32.toNatClampNeg ((24 * v2) + v3)) (((wr x 266 (Int32.toNatClampNeg ((24 * v2) + v3)) (x.1 269 (Int32.toNatClampNeg ((24 * v2) + v3)))).1 267 (Int32.toNatClampNeg ((24 * v2) + v3))) - ((wr x 266 (Int32.toNatClampNeg ((24 * v2) + v3)) (x.1 269 (Int32.toNatClampNeg ((24 * v2) + v3)))).1 270 (Int32.toNatClampNeg ((24 * v2) + v3))))) 271 (Int32.toNatClampNeg ((6 * v2) + r23)) (((wr (wr x 266 (Int32.toNatClampNeg ((24 * v2) + v3)) (x.1 269 (Int32.toNatClampNeg ((24 * v2) + v3)))) 267 (Int32.toNatClampNeg ((24 * v2) + v3)) (((wr x 266 (Int32.toNatClampNeg ((24 * v2) + v3)) (x.1 269 (Int32.toNatClampNeg ((24 * v2) + v3)))).1 267 (Int32.toNatClampNeg ((24 * v2) + v3))) - ((wr x 266 (Int32.toNatClampNeg ((24 * v2) + v3)) (x.1 269 (Int32.toNatClampNeg ((24 * v2) + v3)))).1 270 (Int32.toNatClampNeg ((24 * v2) + v3))))).1 271 (Int32.toNatClampNeg ((6 * v2) + r23))) + ((wr (wr x 266 (Int32.toNatClampNeg ((24 * v2) + v3)) (x.1 269 (Int32.toNatClampNeg ((24 * v2) + v3)))) 267 (Int32.toNatClampNeg ((24 * v2) + v3)) (((wr x 266 (Int32.toNatClampNeg ((24 * v2) + v3)) (x.1 269 (Int32.toNatClampNeg ((24 * v2) + v3)))).1 267 (Int32.toNatClampNeg ((24 * v2) + v3))) - ((wr x 266 (Int32.toNatClampNeg ((24 * v2) + v3)) (x.1 269 (Int32.toNatClampNeg ((24 * v2) + v3)))).1 270 (Int32.toNatClampNeg ((24 * v2) + v3))))).1 270 (Int32.toNatClampNeg ((24 * v2) + v3))))) h
set_option maxHeartbeats 4000000 in
set_option maxRecDepth 100000 in
def lX12_burn_148 (v1 : Int32) (K : ab_X → Prop)  (L148 : Int32 → ab_X → Prop) (v2 : Int32) (x : ab_X) : Prop := (((x.1 246 31) ≤ v2 → Lp2 (lX12_burn_254 v1 K ) 0 x) ∧ (¬ (x.1 246 31) ≤ v2 → Lp2 (lX12_burn_158 v1 v2 K L148) 0 x))
set_option maxHeartbeats 4000000 in
set_option maxRecDepth 100000 in
theorem sX12_burn_148 (v1 : Int32) (v2 : Int32)  (x : ab_X) (K : ab_X → Prop)  (d bc bs : Nat) (hdp : 4 ≤ d)  (h : Lp2 (lX12_burn_148 v1 K ) v2 x) : EW MX12_burn 148 [(0, .ref 246), (1, .int v1), (2, .int v2)] [] (aS x) d bc bs (liV K) := by
  refine Lp2.use (P := fun v2 x => EW MX12_burn 148 [(0, .ref 246), (1, .int v1), (2, .int v2)] [] (aS x) d bc bs (liV K)) (fun L148 v2 x hL148 h => ?_) v2 x h
  unfold lX12_burn_148 at h
  refine EW_iload_n (pc2 := 149) rfl dX12_burn_148 2 rfl ?_
  refine EW_aload_n (pc2 := 150) rfl dX12_burn_149 0 rfl ?_
  refine AW_geti ⟨gfRX12_331, rfl⟩ (pc2 := 153) rfl dX12_burn_150 q246 ?_
  refine EW_icmp_ge (tgt := 252) (pc2 := 156) rfl dX12_burn_153 (by decide) (fun q => ?_) (fun q => ?_)
  · replace h := h.1 q
    refine EW_iconst (pc2 := 253) (v := 0) rfl dX12_burn_252 (by decide) ?_
    refine EW_istore_n (pc2 := 254) rfl dX12_burn_253 (by decide) [1, 2, 0] [(0, .ref 246), (1, .int v1), (2, .int 0)] rfl ?_
    exact sX12_burn_254 v1 0 x K d bc bs hdp h
  · replace h := h.2 q
    refine EW_iconst (pc2 := 157) (v := 0) rfl dX12_burn_156 (by decide) ?_
    refine EW_istore_n (pc2 := 158) rfl dX12_burn_157 (by decide) [1, 2, 3, 0] [(0, .ref 246), (1, .int v1), (2, .int v2), (3, .int 0)] rfl ?_
    exact sX12_burn_158 v1 v2 0 x K L148 d bc bs hdp hL148 h
set_option maxHeartbeats 4000000 in
set_option maxRecDepth 100000 in
def wX12_burn_90 (v1 : Int32) (v2 : Int32) (v3 : Int32) (v4 : Int32) (s1 : Int32) (s2 : Int32) (x : ab_X) (K : ab_X → Prop) (L2 : Int32 → ab_X → Prop) (L12 : Int32 → ab_X → Prop) : Prop := (vp_in s1 288 ∧ wX12_burns v2 v3 (wr x 269 (Int32.toNatClampNeg s1) s2) (fun r34 => ((r34 = 0 → (vp_in v4 288 ∧ L12 (v3 + 1) (wr (wr x 269 (Int32.toNatClampNeg s1) s2) 270 (Int32.toNatClampNeg v4) 0))) ∧ (¬ r34 = 0 → (vp_in v4 288 ∧ vp_in v4 288 ∧ vp_in v4 288 ∧ L12 (v3 + 1) (wr (wr x 269 (Int32.toNatClampNeg s1) s2) 270 (Int32.toNatClampNeg v4) (imin ((wr x 269 (Int32.toNatClampNeg s1) s2).1 267 (Int32.toNatClampNeg v4)) (1 + (((wr x 269 (Int32.toNatClampNeg s1) s2).1 266 (Int32.toNatClampNeg v4)) / 250)))))))))
set_option maxHeartbeats 4000000 in
set_option maxRecDepth 100000 in
theorem sX12_burn_90 (v1 : Int32) (v2 : Int32) (v3 : Int32) (v4 : Int32) (s1 : Int32) (s2 : Int32)  (x : ab_X) (K : ab_X → Prop) (L2 : Int32 → ab_X → Prop) (L12 : Int32 → ab_X → Prop) (d bc bs : Nat) (hdp : 4 ≤ d) (hL2 : ∀ (v2 : Int32) (x : ab_X), L2 v2 x → EW MX12_burn 2 [(0, .ref 246), (1, .int v1), (2, .int v2)] [] (aS x) d bc bs (liV K)) (hL12 : ∀ (v3 : Int32) (x : ab_X), L12 v3 x → EW MX12_burn 12 [(0, .ref 246), (1, .int v1), (2, .int v2), (3, .int v3)] [] (aS x) d bc bs (liV K)) (h : wX12_burn_90 v1 v2 v3 v4 s1 s2 x K L2 L12) : EW MX12_burn 90 [(0, .ref 246), (1, .int v1), (2, .int v2), (3, .int v3), (4, .int v4)] [.int s2, .int s1, .ref 269] (aS x) d bc bs (liV K) := by
  unfold wX12_burn_90 at h
  obtain ⟨b33, h⟩ := h
  refine AW_iast (pc2 := 91) rfl dX12_burn_90 q269 b33 ?_
  refine EW_aload_n (pc2 := 92) rfl dX12_burn_91 0 rfl ?_
  refine AW_getr (r := 270) ⟨gfRX12_80, rfl⟩ (pc2 := 95) rfl dX12_burn_92 q246 rfl ?_
  refine EW_iload (pc2 := 97) rfl dX12_burn_95 4 rfl ?_
  refine EW_aload_n (pc2 := 98) rfl dX12_burn_97 0 rfl ?_
  refine EW_iload_n (pc2 := 99) rfl dX12_burn_98 2 rfl ?_
  refine EW_iload_n (pc2 := 100) rfl dX12_burn_99 3 rfl ?_
  refine AW_invV (M' := MX12_burns) [.int v2, .int v3] (rest := [.int v4, .ref 270]) mlRX12_348 okX12_burns (pc2 := 103) rfl dX12_burn_100 rfl rfl (Nat.le_of_ble_eq_true rfl) (Nat.le_of_ble_eq_true rfl) (d' := 1) (by omega) q246 ⟨by decide, rfl⟩ (EW_mono (fun _ _ hr => ?_) (sX12_burns v2 v3  (wr x 269 (Int32.toNatClampNeg s1) s2) _ _ 0 0 (Nat.le_refl _) h))
  obtain ⟨r34, rfl, rfl, h⟩ := hr
  refine EW_if_eq (tgt := 132) (pc2 := 106) rfl dX12_burn_103 (by decide) (fun q => ?_) (fun q => ?_)
  · replace h := h.1 q
    refine EW_iconst (pc2 := 133) (v := 0) rfl dX12_burn_132 (by decide) ?_
    obtain ⟨b35, h⟩ := h
    refine AW_iast (pc2 := 134) rfl dX12_burn_133 q270 b35 ?_
    refine EW_iinc (v3 + 1) (pc2 := 137) rfl dX12_burn_134 3 rfl rfl (by decide) [1, 2, 3, 0, 4] [(0, .ref 246), (1, .int v1), (2, .int v2), (3, .int (v3 + 1)), (4, .int v4)] rfl ?_
    refine EW_goto (tgt := 12) dX12_burn_137 (by decide) ?_
    refine EW_ls [0, 1, 2, 3] rfl ?_
    exact hL12 (v3 + 1) (wr (wr x 269 (Int32.toNatClampNeg s1) s2) 270 (Int32.toNatClampNeg v4) 0) h
  · replace h := h.2 q
    refine EW_aload_n (pc2 := 107) rfl dX12_burn_106 0 rfl ?_
    refine AW_getr (r := 267) ⟨gfRX12_71, rfl⟩ (pc2 := 110) rfl dX12_burn_107 q246 rfl ?_
    refine EW_iload (pc2 := 112) rfl dX12_burn_110 4 rfl ?_
    obtain ⟨b36, h⟩ := h
    refine AW_iald (pc2 := 113) rfl dX12_burn_112 q267 b36 ?_
    refine EW_iconst (pc2 := 114) (v := 1) rfl dX12_burn_113 (by decide) ?_
    refine EW_aload_n (pc2 := 115) rfl dX12_burn_114 0 rfl ?_
    refine AW_getr (r := 266) ⟨gfRX12_68, rfl⟩ (pc2 := 118) rfl dX12_burn_115 q246 rfl ?_
    refine EW_iload (pc2 := 120) rfl dX12_burn_118 4 rfl ?_
    obtain ⟨b37, h⟩ := h
    refine AW_iald (pc2 := 121) rfl dX12_burn_120 q266 b37 ?_
    refine EW_sipush (pc2 := 124) (v := 250) rfl dX12_burn_121 (by decide) ?_
    refine EW_idiv (pc2 := 125) rfl dX12_burn_124 (by decide) ?_
    refine EW_iadd (pc2 := 126) rfl dX12_burn_125 ?_
    refine AW_mmin mmRX12_311 (pc2 := 129) rfl dX12_burn_126 (Nat.le_of_ble_eq_true rfl) (by omega) ?_
    refine EW_goto (tgt := 133) dX12_burn_129 (by decide) ?_
    obtain ⟨b38, h⟩ := h
    refine AW_iast (pc2 := 134) rfl dX12_burn_133 q270 b38 ?_
    refine EW_iinc (v3 + 1) (pc2 := 137) rfl dX12_burn_134 3 rfl rfl (by decide) [1, 2, 3, 0, 4] [(0, .ref 246), (1, .int v1), (2, .int v2), (3, .int (v3 + 1)), (4, .int v4)] rfl ?_
    refine EW_goto (tgt := 12) dX12_burn_137 (by decide) ?_
    refine EW_ls [0, 1, 2, 3] rfl ?_
    exact hL12 (v3 + 1) (wr (wr x 269 (Int32.toNatClampNeg s1) s2) 270 (Int32.toNatClampNeg v4) (imin ((wr x 269 (Int32.toNatClampNeg s1) s2).1 267 (Int32.toNatClampNeg v4)) (1 + (((wr x 269 (Int32.toNatClampNeg s1) s2).1 266 (Int32.toNatClampNeg v4)) / 250)))) h
set_option maxHeartbeats 4000000 in
set_option maxRecDepth 100000 in
def lX12_burn_12 (v1 : Int32) (v2 : Int32) (K : ab_X → Prop) (L2 : Int32 → ab_X → Prop) (L12 : Int32 → ab_X → Prop) (v3 : Int32) (x : ab_X) : Prop := (vp_in v2 12 ∧ vp_in v2 12 ∧ ((((x.1 256 (Int32.toNatClampNeg v2)) * (x.1 257 (Int32.toNatClampNeg v2))) ≤ v3 → L2 (v2 + 1) x) ∧ (¬ ((x.1 256 (Int32.toNatClampNeg v2)) * (x.1 257 (Int32.toNatClampNeg v2))) ≤ v3 → wX12_floorOf v2 v3 x (fun r29 => (vp_in ((6 * v2) + r29) 72 ∧ (((x.1 274 (Int32.toNatClampNeg ((6 * v2) + r29))) = 0 → (vp_in ((24 * v2) + v3) 288 ∧ wX12_gain v2 v3 x (fun r32 => wX12_burn_90 v1 v2 v3 ((24 * v2) + v3) ((24 * v2) + v3) (imax 0 (imin 1000 ((x.1 266 (Int32.toNatClampNeg ((24 * v2) + v3))) + r32))) x K L2 L12))) ∧ (¬ (x.1 274 (Int32.toNatClampNeg ((6 * v2) + r29))) = 0 → wX12_burn_90 v1 v2 v3 ((24 * v2) + v3) ((24 * v2) + v3) 0 x K L2 L12)))))))
set_option maxHeartbeats 4000000 in
set_option maxRecDepth 100000 in
theorem sX12_burn_12 (v1 : Int32) (v2 : Int32) (v3 : Int32)  (x : ab_X) (K : ab_X → Prop) (L2 : Int32 → ab_X → Prop) (d bc bs : Nat) (hdp : 4 ≤ d) (hL2 : ∀ (v2 : Int32) (x : ab_X), L2 v2 x → EW MX12_burn 2 [(0, .ref 246), (1, .int v1), (2, .int v2)] [] (aS x) d bc bs (liV K)) (h : Lp2 (lX12_burn_12 v1 v2 K L2) v3 x) : EW MX12_burn 12 [(0, .ref 246), (1, .int v1), (2, .int v2), (3, .int v3)] [] (aS x) d bc bs (liV K) := by
  refine Lp2.use (P := fun v3 x => EW MX12_burn 12 [(0, .ref 246), (1, .int v1), (2, .int v2), (3, .int v3)] [] (aS x) d bc bs (liV K)) (fun L12 v3 x hL12 h => ?_) v3 x h
  unfold lX12_burn_12 at h
  refine EW_iload_n (pc2 := 13) rfl dX12_burn_12 3 rfl ?_
  refine EW_aload_n (pc2 := 14) rfl dX12_burn_13 0 rfl ?_
  refine AW_getr (r := 256) ⟨gfRX12_38, rfl⟩ (pc2 := 17) rfl dX12_burn_14 q246 rfl ?_
  refine EW_iload_n (pc2 := 18) rfl dX12_burn_17 2 rfl ?_
  obtain ⟨b27, h⟩ := h
  refine AW_iald (pc2 := 19) rfl dX12_burn_18 q256 b27 ?_
  refine EW_aload_n (pc2 := 20) rfl dX12_burn_19 0 rfl ?_
  refine AW_getr (r := 257) ⟨gfRX12_41, rfl⟩ (pc2 := 23) rfl dX12_burn_20 q246 rfl ?_
  refine EW_iload_n (pc2 := 24) rfl dX12_burn_23 2 rfl ?_
  obtain ⟨b28, h⟩ := h
  refine AW_iald (pc2 := 25) rfl dX12_burn_24 q257 b28 ?_
  refine EW_imul (pc2 := 26) rfl dX12_burn_25 ?_
  refine EW_icmp_ge (tgt := 140) (pc2 := 29) rfl dX12_burn_26 (by decide) (fun q => ?_) (fun q => ?_)
  · replace h := h.1 q
    refine EW_iinc (v2 + 1) (pc2 := 143) rfl dX12_burn_140 2 rfl rfl (by decide) [1, 2, 0, 3] [(0, .ref 246), (1, .int v1), (2, .int (v2 + 1)), (3, .int v3)] rfl ?_
    refine EW_goto (tgt := 2) dX12_burn_143 (by decide) ?_
    refine EW_ls [0, 1, 2] rfl ?_
    exact hL2 (v2 + 1) x h
  · replace h := h.2 q
    refine EW_bipush (pc2 := 31) (v := 24) rfl dX12_burn_29 (by decide) ?_
    refine EW_iload_n (pc2 := 32) rfl dX12_burn_31 2 rfl ?_
    refine EW_imul (pc2 := 33) rfl dX12_burn_32 ?_
    refine EW_iload_n (pc2 := 34) rfl dX12_burn_33 3 rfl ?_
    refine EW_iadd (pc2 := 35) rfl dX12_burn_34 ?_
    refine EW_istore (pc2 := 37) rfl dX12_burn_35 (by decide) [1, 2, 3, 4, 0] [(0, .ref 246), (1, .int v1), (2, .int v2), (3, .int v3), (4, .int ((24 * v2) + v3))] rfl ?_
    refine EW_aload_n (pc2 := 38) rfl dX12_burn_37 0 rfl ?_
    refine AW_getr (r := 269) ⟨gfRX12_77, rfl⟩ (pc2 := 41) rfl dX12_burn_38 q246 rfl ?_
    refine EW_iload (pc2 := 43) rfl dX12_burn_41 4 rfl ?_
    refine EW_aload_n (pc2 := 44) rfl dX12_burn_43 0 rfl ?_
    refine AW_getr (r := 274) ⟨gfRX12_92, rfl⟩ (pc2 := 47) rfl dX12_burn_44 q246 rfl ?_
    refine EW_bipush (pc2 := 49) (v := 6) rfl dX12_burn_47 (by decide) ?_
    refine EW_iload_n (pc2 := 50) rfl dX12_burn_49 2 rfl ?_
    refine EW_imul (pc2 := 51) rfl dX12_burn_50 ?_
    refine EW_aload_n (pc2 := 52) rfl dX12_burn_51 0 rfl ?_
    refine EW_iload_n (pc2 := 53) rfl dX12_burn_52 2 rfl ?_
    refine EW_iload_n (pc2 := 54) rfl dX12_burn_53 3 rfl ?_
    refine AW_invV (M' := MX12_floorOf) [.int v2, .int v3] (rest := [.int (6 * v2), .ref 274, .int ((24 * v2) + v3), .ref 269]) mlRX12_345 okX12_floorOf (pc2 := 57) rfl dX12_burn_54 rfl rfl (Nat.le_of_ble_eq_true rfl) (Nat.le_of_ble_eq_true rfl) (d' := 0) (by omega) q246 ⟨by decide, rfl⟩ (EW_mono (fun _ _ hr => ?_) (sX12_floorOf v2 v3  x _ _ 0 0 (Nat.le_refl _) h))
    obtain ⟨r29, rfl, rfl, h⟩ := hr
    refine EW_iadd (pc2 := 58) rfl dX12_burn_57 ?_
    obtain ⟨b30, h⟩ := h
    refine AW_zald (pc2 := 59) rfl dX12_burn_58 q274 b30 ?_
    refine EW_if_eq (tgt := 66) (pc2 := 62) rfl dX12_burn_59 (by decide) (fun q => ?_) (fun q => ?_)
    · replace h := h.1 q
      refine EW_iconst (pc2 := 67) (v := 0) rfl dX12_burn_66 (by decide) ?_
      refine EW_sipush (pc2 := 70) (v := 1000) rfl dX12_burn_67 (by decide) ?_
      refine EW_aload_n (pc2 := 71) rfl dX12_burn_70 0 rfl ?_
      refine AW_getr (r := 266) ⟨gfRX12_68, rfl⟩ (pc2 := 74) rfl dX12_burn_71 q246 rfl ?_
      refine EW_iload (pc2 := 76) rfl dX12_burn_74 4 rfl ?_
      obtain ⟨b31, h⟩ := h
      refine AW_iald (pc2 := 77) rfl dX12_burn_76 q266 b31 ?_
      refine EW_aload_n (pc2 := 78) rfl dX12_burn_77 0 rfl ?_
      refine EW_iload_n (pc2 := 79) rfl dX12_burn_78 2 rfl ?_
      refine EW_iload_n (pc2 := 80) rfl dX12_burn_79 3 rfl ?_
      refine AW_invV (M' := MX12_gain) [.int v2, .int v3] (rest := [.int (x.1 266 (Int32.toNatClampNeg ((24 * v2) + v3))), .int 1000, .int 0, .int ((24 * v2) + v3), .ref 269]) mlRX12_376 okX12_gain (pc2 := 83) rfl dX12_burn_80 rfl rfl (Nat.le_of_ble_eq_true rfl) (Nat.le_of_ble_eq_true rfl) (d' := 3) (by omega) q246 ⟨by decide, rfl⟩ (EW_mono (fun _ _ hr => ?_) (sX12_gain v2 v3  x _ _ 0 0 (Nat.le_refl _) h))
      obtain ⟨r32, rfl, rfl, h⟩ := hr
      refine EW_iadd (pc2 := 84) rfl dX12_burn_83 ?_
      refine AW_mmin mmRX12_311 (pc2 := 87) rfl dX12_burn_84 (Nat.le_of_ble_eq_true rfl) (by omega) ?_
      refine AW_mmax mmRX12_357 (pc2 := 90) rfl dX12_burn_87 (Nat.le_of_ble_eq_true rfl) (by omega) ?_
      exact sX12_burn_90 v1 v2 v3 ((24 * v2) + v3) ((24 * v2) + v3) (imax 0 (imin 1000 ((x.1 266 (Int32.toNatClampNeg ((24 * v2) + v3))) + r32))) x K L2 L12 d bc bs hdp hL2 hL12 h
    · replace h := h.2 q
      refine EW_iconst (pc2 := 63) (v := 0) rfl dX12_burn_62 (by decide) ?_
      refine EW_goto (tgt := 90) dX12_burn_63 (by decide) ?_
      exact sX12_burn_90 v1 v2 v3 ((24 * v2) + v3) ((24 * v2) + v3) 0 x K L2 L12 d bc bs hdp hL2 hL12 h
set_option maxHeartbeats 4000000 in
set_option maxRecDepth 100000 in
def lX12_burn_2 (v1 : Int32) (K : ab_X → Prop)  (L2 : Int32 → ab_X → Prop) (v2 : Int32) (x : ab_X) : Prop := (((x.1 246 31) ≤ v2 → Lp2 (lX12_burn_148 v1 K ) 0 x) ∧ (¬ (x.1 246 31) ≤ v2 → Lp2 (lX12_burn_12 v1 v2 K L2) 0 x))
set_option maxHeartbeats 4000000 in
set_option maxRecDepth 100000 in
theorem sX12_burn_2 (v1 : Int32) (v2 : Int32)  (x : ab_X) (K : ab_X → Prop)  (d bc bs : Nat) (hdp : 4 ≤ d)  (h : Lp2 (lX12_burn_2 v1 K ) v2 x) : EW MX12_burn 2 [(0, .ref 246), (1, .int v1), (2, .int v2)] [] (aS x) d bc bs (liV K) := by
  refine Lp2.use (P := fun v2 x => EW MX12_burn 2 [(0, .ref 246), (1, .int v1), (2, .int v2)] [] (aS x) d bc bs (liV K)) (fun L2 v2 x hL2 h => ?_) v2 x h
  unfold lX12_burn_2 at h
  refine EW_iload_n (pc2 := 3) rfl dX12_burn_2 2 rfl ?_
  refine EW_aload_n (pc2 := 4) rfl dX12_burn_3 0 rfl ?_
  refine AW_geti ⟨gfRX12_331, rfl⟩ (pc2 := 7) rfl dX12_burn_4 q246 ?_
  refine EW_icmp_ge (tgt := 146) (pc2 := 10) rfl dX12_burn_7 (by decide) (fun q => ?_) (fun q => ?_)
  · replace h := h.1 q
    refine EW_iconst (pc2 := 147) (v := 0) rfl dX12_burn_146 (by decide) ?_
    refine EW_istore_n (pc2 := 148) rfl dX12_burn_147 (by decide) [1, 2, 0] [(0, .ref 246), (1, .int v1), (2, .int 0)] rfl ?_
    exact sX12_burn_148 v1 0 x K d bc bs hdp h
  · replace h := h.2 q
    refine EW_iconst (pc2 := 11) (v := 0) rfl dX12_burn_10 (by decide) ?_
    refine EW_istore_n (pc2 := 12) rfl dX12_burn_11 (by decide) [1, 2, 3, 0] [(0, .ref 246), (1, .int v1), (2, .int v2), (3, .int 0)] rfl ?_
    exact sX12_burn_12 v1 v2 0 x K L2 d bc bs hdp hL2 h
set_option maxHeartbeats 4000000 in
set_option maxRecDepth 100000 in
def wX12_burn (v1 : Int32) (x : ab_X) (K : ab_X → Prop) : Prop := Lp2 (lX12_burn_2 v1 K ) 0 x
set_option maxHeartbeats 4000000 in
set_option maxRecDepth 100000 in
theorem sX12_burn (v1 : Int32)  (x : ab_X) (K : ab_X → Prop) (d bc bs : Nat) (hdp : 4 ≤ d) (h : wX12_burn v1 x K) : EW MX12_burn 0 [(0, .ref 246), (1, .int v1)] [] (aS x) d bc bs (liV K) := by
  unfold wX12_burn at h
  refine EW_iconst (pc2 := 1) (v := 0) rfl dX12_burn_0 (by decide) ?_
  refine EW_istore_n (pc2 := 2) rfl dX12_burn_1 (by decide) [1, 2, 0] [(0, .ref 246), (1, .int v1), (2, .int 0)] rfl ?_
  exact sX12_burn_2 v1 0 x K d bc bs hdp h
