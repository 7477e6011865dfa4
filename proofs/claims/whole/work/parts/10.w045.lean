theorem mlRX12_534 : Cond.methodLink RX12 534 yX12_falseOf ∈ ab_G ∧ Cond.instanceMethod yX12_falseOf ∈ ab_G ∧ Cond.selects RX12 yX12_falseOf yX12_falseOf ∈ ab_G := ⟨ab_in 2495 (by decide +kernel) (by decide +kernel), ab_in 2497 (by decide +kernel) (by decide +kernel), ab_in 49 (by decide +kernel) (by decide +kernel)⟩
theorem mlRX12_537 : Cond.methodLink RX12 537 yX12_readyOf ∈ ab_G ∧ Cond.instanceMethod yX12_readyOf ∈ ab_G ∧ Cond.selects RX12 yX12_readyOf yX12_readyOf ∈ ab_G := ⟨ab_in 2507 (by decide +kernel) (by decide +kernel), ab_in 2509 (by decide +kernel) (by decide +kernel), ab_in 51 (by decide +kernel) (by decide +kernel)⟩
theorem gfRX12_519 : ab_L RX12 519 12 71 := ⟨by decide, by decide, ab_in 1920 (by decide +kernel) (by decide +kernel)⟩
theorem gfRX12_171 : ab_L RX12 171 12 60 := ⟨by decide, by decide, ab_in 1909 (by decide +kernel) (by decide +kernel)⟩
theorem gfRX12_180 : ab_L RX12 180 12 63 := ⟨by decide, by decide, ab_in 1912 (by decide +kernel) (by decide +kernel)⟩
theorem gfRX12_331 : ab_L RX12 331 12 31 := ⟨by decide, by decide, ab_in 1880 (by decide +kernel) (by decide +kernel)⟩
theorem gfRX12_32 : ab_L RX12 32 12 10 := ⟨by decide, by decide, ab_in 1859 (by decide +kernel) (by decide +kernel)⟩
theorem gfRX12_38 : ab_L RX12 38 12 12 := ⟨by decide, by decide, ab_in 1861 (by decide +kernel) (by decide +kernel)⟩
theorem mmRX12_357 : Cond.methodLink RX12 357 Lib.Math.max.name ∈ ab_G ∧ Cond.static Lib.Math.max.name ∈ ab_G ∧ Cond.initialized "java/lang/Math" ∈ ab_G ∧ Cond.code Lib.Math.max.name Lib.Math.max.code 2 (some .int) ∈ ab_G := ⟨ab_in 2312 (by decide +kernel) (by decide +kernel), ab_in 909 (by decide +kernel) (by decide +kernel), ab_in 100 (by decide +kernel) (by decide +kernel), ab_in 910 (by decide +kernel) (by decide +kernel)⟩
abbrev MX12_askFor : ab_M := (yX12_askFor, cX12_askFor, 7, none)
theorem dX12_askFor_0 : decode cX12_askFor 0 = .ok (.iconst 0, 1) := by decide +kernel
theorem dX12_askFor_1 : decode cX12_askFor 1 = .ok (.istore_n 3, 1) := by decide +kernel
theorem dX12_askFor_2 : decode cX12_askFor 2 = .ok (.iconst 0, 1) := by decide +kernel
theorem dX12_askFor_3 : decode cX12_askFor 3 = .ok (.istore 4, 2) := by decide +kernel
theorem dX12_askFor_5 : decode cX12_askFor 5 = .ok (.iconst 0, 1) := by decide +kernel
theorem dX12_askFor_6 : decode cX12_askFor 6 = .ok (.istore 5, 2) := by decide +kernel
theorem dX12_askFor_8 : decode cX12_askFor 8 = .ok (.iconst 0, 1) := by decide +kernel
theorem dX12_askFor_9 : decode cX12_askFor 9 = .ok (.istore 6, 2) := by decide +kernel
theorem dX12_askFor_11 : decode cX12_askFor 11 = .ok (.iload 6, 2) := by decide +kernel
theorem dX12_askFor_13 : decode cX12_askFor 13 = .ok (.aload_n 0, 1) := by decide +kernel
theorem dX12_askFor_14 : decode cX12_askFor 14 = .ok (.getfield 331, 3) := by decide +kernel
theorem dX12_askFor_17 : decode cX12_askFor 17 = .ok (.if_icmp .ge 38, 3) := by decide +kernel
theorem dX12_askFor_20 : decode cX12_askFor 20 = .ok (.aload_n 0, 1) := by decide +kernel
theorem dX12_askFor_21 : decode cX12_askFor 21 = .ok (.getfield 32, 3) := by decide +kernel
theorem dX12_askFor_24 : decode cX12_askFor 24 = .ok (.iload 6, 2) := by decide +kernel
theorem dX12_askFor_26 : decode cX12_askFor 26 = .ok (.iaload, 1) := by decide +kernel
theorem dX12_askFor_27 : decode cX12_askFor 27 = .ok (.iload_n 1, 1) := by decide +kernel
theorem dX12_askFor_28 : decode cX12_askFor 28 = .ok (.if_icmp .eq 6, 3) := by decide +kernel
theorem dX12_askFor_31 : decode cX12_askFor 31 = .ok (.goto 18, 3) := by decide +kernel
theorem dX12_askFor_34 : decode cX12_askFor 34 = .ok (.iload_n 3, 1) := by decide +kernel
theorem dX12_askFor_35 : decode cX12_askFor 35 = .ok (.aload_n 0, 1) := by decide +kernel
theorem dX12_askFor_36 : decode cX12_askFor 36 = .ok (.getfield 38, 3) := by decide +kernel
theorem dX12_askFor_39 : decode cX12_askFor 39 = .ok (.iload 6, 2) := by decide +kernel
theorem dX12_askFor_41 : decode cX12_askFor 41 = .ok (.iaload, 1) := by decide +kernel
theorem dX12_askFor_42 : decode cX12_askFor 42 = .ok (.invokestatic 357, 3) := by decide +kernel
theorem dX12_askFor_45 : decode cX12_askFor 45 = .ok (.istore_n 3, 1) := by decide +kernel
theorem dX12_askFor_46 : decode cX12_askFor 46 = .ok (.iinc 4 1, 3) := by decide +kernel
theorem dX12_askFor_49 : decode cX12_askFor 49 = .ok (.iinc 6 1, 3) := by decide +kernel
theorem dX12_askFor_52 : decode cX12_askFor 52 = .ok (.goto (-41), 3) := by decide +kernel
theorem dX12_askFor_55 : decode cX12_askFor 55 = .ok (.iconst 0, 1) := by decide +kernel
theorem dX12_askFor_56 : decode cX12_askFor 56 = .ok (.istore 6, 2) := by decide +kernel
theorem dX12_askFor_58 : decode cX12_askFor 58 = .ok (.iload 6, 2) := by decide +kernel
theorem dX12_askFor_60 : decode cX12_askFor 60 = .ok (.aload_n 0, 1) := by decide +kernel
theorem dX12_askFor_61 : decode cX12_askFor 61 = .ok (.getfield 525, 3) := by decide +kernel
theorem dX12_askFor_64 : decode cX12_askFor 64 = .ok (.if_icmp .ge 40, 3) := by decide +kernel
theorem dX12_askFor_67 : decode cX12_askFor 67 = .ok (.iload 5, 2) := by decide +kernel
theorem dX12_askFor_69 : decode cX12_askFor 69 = .ok (.aload_n 0, 1) := by decide +kernel
theorem dX12_askFor_70 : decode cX12_askFor 70 = .ok (.getfield 220, 3) := by decide +kernel
theorem dX12_askFor_73 : decode cX12_askFor 73 = .ok (.iload 6, 2) := by decide +kernel
theorem dX12_askFor_75 : decode cX12_askFor 75 = .ok (.iaload, 1) := by decide +kernel
theorem dX12_askFor_76 : decode cX12_askFor 76 = .ok (.ifCond .ne 18, 3) := by decide +kernel
theorem dX12_askFor_79 : decode cX12_askFor 79 = .ok (.aload_n 0, 1) := by decide +kernel
theorem dX12_askFor_80 : decode cX12_askFor 80 = .ok (.getfield 214, 3) := by decide +kernel
theorem dX12_askFor_83 : decode cX12_askFor 83 = .ok (.iload 6, 2) := by decide +kernel
theorem dX12_askFor_85 : decode cX12_askFor 85 = .ok (.iaload, 1) := by decide +kernel
theorem dX12_askFor_86 : decode cX12_askFor 86 = .ok (.iload_n 1, 1) := by decide +kernel
theorem dX12_askFor_87 : decode cX12_askFor 87 = .ok (.if_icmp .eq 7, 3) := by decide +kernel
theorem dX12_askFor_90 : decode cX12_askFor 90 = .ok (.iconst 1, 1) := by decide +kernel
theorem dX12_askFor_91 : decode cX12_askFor 91 = .ok (.goto 4, 3) := by decide +kernel
theorem dX12_askFor_94 : decode cX12_askFor 94 = .ok (.iconst 0, 1) := by decide +kernel
theorem dX12_askFor_95 : decode cX12_askFor 95 = .ok (.iadd, 1) := by decide +kernel
theorem dX12_askFor_96 : decode cX12_askFor 96 = .ok (.istore 5, 2) := by decide +kernel
theorem dX12_askFor_98 : decode cX12_askFor 98 = .ok (.iinc 6 1, 3) := by decide +kernel
theorem dX12_askFor_101 : decode cX12_askFor 101 = .ok (.goto (-43), 3) := by decide +kernel
theorem dX12_askFor_104 : decode cX12_askFor 104 = .ok (.aload_n 0, 1) := by decide +kernel
theorem dX12_askFor_105 : decode cX12_askFor 105 = .ok (.getfield 192, 3) := by decide +kernel
theorem dX12_askFor_108 : decode cX12_askFor 108 = .ok (.bipush 119, 2) := by decide +kernel
theorem dX12_askFor_110 : decode cX12_askFor 110 = .ok (.iload_n 2, 1) := by decide +kernel
theorem dX12_askFor_111 : decode cX12_askFor 111 = .ok (.iastore, 1) := by decide +kernel
theorem dX12_askFor_112 : decode cX12_askFor 112 = .ok (.aload_n 0, 1) := by decide +kernel
theorem dX12_askFor_113 : decode cX12_askFor 113 = .ok (.getfield 192, 3) := by decide +kernel
theorem dX12_askFor_116 : decode cX12_askFor 116 = .ok (.bipush 104, 2) := by decide +kernel
theorem dX12_askFor_118 : decode cX12_askFor 118 = .ok (.aload_n 0, 1) := by decide +kernel
theorem dX12_askFor_119 : decode cX12_askFor 119 = .ok (.getfield 395, 3) := by decide +kernel
theorem dX12_askFor_122 : decode cX12_askFor 122 = .ok (.bipush 60, 2) := by decide +kernel
theorem dX12_askFor_124 : decode cX12_askFor 124 = .ok (.idiv, 1) := by decide +kernel
theorem dX12_askFor_125 : decode cX12_askFor 125 = .ok (.bipush 24, 2) := by decide +kernel
theorem dX12_askFor_127 : decode cX12_askFor 127 = .ok (.irem, 1) := by decide +kernel
theorem dX12_askFor_128 : decode cX12_askFor 128 = .ok (.iastore, 1) := by decide +kernel
theorem dX12_askFor_129 : decode cX12_askFor 129 = .ok (.aload_n 0, 1) := by decide +kernel
theorem dX12_askFor_130 : decode cX12_askFor 130 = .ok (.getfield 192, 3) := by decide +kernel
theorem dX12_askFor_133 : decode cX12_askFor 133 = .ok (.bipush 102, 2) := by decide +kernel
theorem dX12_askFor_135 : decode cX12_askFor 135 = .ok (.iload_n 3, 1) := by decide +kernel
theorem dX12_askFor_136 : decode cX12_askFor 136 = .ok (.iastore, 1) := by decide +kernel
theorem dX12_askFor_137 : decode cX12_askFor 137 = .ok (.aload_n 0, 1) := by decide +kernel
theorem dX12_askFor_138 : decode cX12_askFor 138 = .ok (.getfield 192, 3) := by decide +kernel
theorem dX12_askFor_141 : decode cX12_askFor 141 = .ok (.bipush 107, 2) := by decide +kernel
theorem dX12_askFor_143 : decode cX12_askFor 143 = .ok (.iload 4, 2) := by decide +kernel
theorem dX12_askFor_145 : decode cX12_askFor 145 = .ok (.iastore, 1) := by decide +kernel
theorem dX12_askFor_146 : decode cX12_askFor 146 = .ok (.aload_n 0, 1) := by decide +kernel
theorem dX12_askFor_147 : decode cX12_askFor 147 = .ok (.getfield 192, 3) := by decide +kernel
theorem dX12_askFor_150 : decode cX12_askFor 150 = .ok (.bipush 97, 2) := by decide +kernel
theorem dX12_askFor_152 : decode cX12_askFor 152 = .ok (.aload_n 0, 1) := by decide +kernel
theorem dX12_askFor_153 : decode cX12_askFor 153 = .ok (.iload_n 1, 1) := by decide +kernel
theorem dX12_askFor_154 : decode cX12_askFor 154 = .ok (.aload_n 0, 1) := by decide +kernel
theorem dX12_askFor_155 : decode cX12_askFor 155 = .ok (.getfield 395, 3) := by decide +kernel
theorem dX12_askFor_158 : decode cX12_askFor 158 = .ok (.invokestatic 320, 3) := by decide +kernel
theorem dX12_askFor_161 : decode cX12_askFor 161 = .ok (.invokevirtual 534, 3) := by decide +kernel
theorem dX12_askFor_164 : decode cX12_askFor 164 = .ok (.iastore, 1) := by decide +kernel
theorem dX12_askFor_165 : decode cX12_askFor 165 = .ok (.aload_n 0, 1) := by decide +kernel
theorem dX12_askFor_166 : decode cX12_askFor 166 = .ok (.getfield 192, 3) := by decide +kernel
theorem dX12_askFor_169 : decode cX12_askFor 169 = .ok (.bipush 112, 2) := by decide +kernel
theorem dX12_askFor_171 : decode cX12_askFor 171 = .ok (.aload_n 0, 1) := by decide +kernel
theorem dX12_askFor_172 : decode cX12_askFor 172 = .ok (.iconst 0, 1) := by decide +kernel
theorem dX12_askFor_173 : decode cX12_askFor 173 = .ok (.invokevirtual 537, 3) := by decide +kernel
theorem dX12_askFor_176 : decode cX12_askFor 176 = .ok (.iastore, 1) := by decide +kernel
theorem dX12_askFor_177 : decode cX12_askFor 177 = .ok (.aload_n 0, 1) := by decide +kernel
theorem dX12_askFor_178 : decode cX12_askFor 178 = .ok (.getfield 192, 3) := by decide +kernel
theorem dX12_askFor_181 : decode cX12_askFor 181 = .ok (.bipush 115, 2) := by decide +kernel
theorem dX12_askFor_183 : decode cX12_askFor 183 = .ok (.aload_n 0, 1) := by decide +kernel
theorem dX12_askFor_184 : decode cX12_askFor 184 = .ok (.iconst 1, 1) := by decide +kernel
theorem dX12_askFor_185 : decode cX12_askFor 185 = .ok (.invokevirtual 537, 3) := by decide +kernel
theorem dX12_askFor_188 : decode cX12_askFor 188 = .ok (.iastore, 1) := by decide +kernel
theorem dX12_askFor_189 : decode cX12_askFor 189 = .ok (.aload_n 0, 1) := by decide +kernel
theorem dX12_askFor_190 : decode cX12_askFor 190 = .ok (.getfield 192, 3) := by decide +kernel
theorem dX12_askFor_193 : decode cX12_askFor 193 = .ok (.bipush 108, 2) := by decide +kernel
theorem dX12_askFor_195 : decode cX12_askFor 195 = .ok (.aload_n 0, 1) := by decide +kernel
theorem dX12_askFor_196 : decode cX12_askFor 196 = .ok (.iconst 2, 1) := by decide +kernel
theorem dX12_askFor_197 : decode cX12_askFor 197 = .ok (.invokevirtual 537, 3) := by decide +kernel
theorem dX12_askFor_200 : decode cX12_askFor 200 = .ok (.iastore, 1) := by decide +kernel
theorem dX12_askFor_201 : decode cX12_askFor 201 = .ok (.aload_n 0, 1) := by decide +kernel
theorem dX12_askFor_202 : decode cX12_askFor 202 = .ok (.getfield 192, 3) := by decide +kernel
theorem dX12_askFor_205 : decode cX12_askFor 205 = .ok (.bipush 99, 2) := by decide +kernel
theorem dX12_askFor_207 : decode cX12_askFor 207 = .ok (.aload_n 0, 1) := by decide +kernel
theorem dX12_askFor_208 : decode cX12_askFor 208 = .ok (.iconst 3, 1) := by decide +kernel
theorem dX12_askFor_209 : decode cX12_askFor 209 = .ok (.invokevirtual 537, 3) := by decide +kernel
theorem dX12_askFor_212 : decode cX12_askFor 212 = .ok (.iastore, 1) := by decide +kernel
theorem dX12_askFor_213 : decode cX12_askFor 213 = .ok (.aload_n 0, 1) := by decide +kernel
theorem dX12_askFor_214 : decode cX12_askFor 214 = .ok (.getfield 192, 3) := by decide +kernel
theorem dX12_askFor_217 : decode cX12_askFor 217 = .ok (.bipush 111, 2) := by decide +kernel
theorem dX12_askFor_219 : decode cX12_askFor 219 = .ok (.iload 5, 2) := by decide +kernel
theorem dX12_askFor_221 : decode cX12_askFor 221 = .ok (.iastore, 1) := by decide +kernel
theorem dX12_askFor_222 : decode cX12_askFor 222 = .ok (.aload_n 0, 1) := by decide +kernel
theorem dX12_askFor_223 : decode cX12_askFor 223 = .ok (.getfield 519, 3) := by decide +kernel
theorem dX12_askFor_226 : decode cX12_askFor 226 = .ok (.ifCond .le 36, 3) := by decide +kernel
theorem dX12_askFor_229 : decode cX12_askFor 229 = .ok (.aload_n 0, 1) := by decide +kernel
theorem dX12_askFor_230 : decode cX12_askFor 230 = .ok (.iconst 0, 1) := by decide +kernel
theorem dX12_askFor_231 : decode cX12_askFor 231 = .ok (.aload_n 0, 1) := by decide +kernel
theorem dX12_askFor_232 : decode cX12_askFor 232 = .ok (.getfield 171, 3) := by decide +kernel
theorem dX12_askFor_235 : decode cX12_askFor 235 = .ok (.sipush 200, 3) := by decide +kernel
theorem dX12_askFor_238 : decode cX12_askFor 238 = .ok (.aload_n 0, 1) := by decide +kernel
theorem dX12_askFor_239 : decode cX12_askFor 239 = .ok (.getfield 519, 3) := by decide +kernel
theorem dX12_askFor_242 : decode cX12_askFor 242 = .ok (.iconst 1, 1) := by decide +kernel
theorem dX12_askFor_243 : decode cX12_askFor 243 = .ok (.isub, 1) := by decide +kernel
theorem dX12_askFor_244 : decode cX12_askFor 244 = .ok (.imul, 1) := by decide +kernel
theorem dX12_askFor_245 : decode cX12_askFor 245 = .ok (.aload_n 0, 1) := by decide +kernel
theorem dX12_askFor_246 : decode cX12_askFor 246 = .ok (.getfield 180, 3) := by decide +kernel
theorem dX12_askFor_249 : decode cX12_askFor 249 = .ok (.aload_n 0, 1) := by decide +kernel
theorem dX12_askFor_250 : decode cX12_askFor 250 = .ok (.getfield 519, 3) := by decide +kernel
theorem dX12_askFor_253 : decode cX12_askFor 253 = .ok (.iconst 1, 1) := by decide +kernel
theorem dX12_askFor_254 : decode cX12_askFor 254 = .ok (.isub, 1) := by decide +kernel
theorem dX12_askFor_255 : decode cX12_askFor 255 = .ok (.iaload, 1) := by decide +kernel
theorem dX12_askFor_256 : decode cX12_askFor 256 = .ok (.invokevirtual 513, 3) := by decide +kernel
theorem dX12_askFor_259 : decode cX12_askFor 259 = .ok (.istore 6, 2) := by decide +kernel
theorem dX12_askFor_261 : decode cX12_askFor 261 = .ok (.return_, 1) := by decide +kernel
theorem dX12_askFor_262 : decode cX12_askFor 262 = .ok (.aload_n 0, 1) := by decide +kernel
theorem dX12_askFor_263 : decode cX12_askFor 263 = .ok (.iconst 0, 1) := by decide +kernel
theorem dX12_askFor_264 : decode cX12_askFor 264 = .ok (.putfield 494, 3) := by decide +kernel
theorem dX12_askFor_267 : decode cX12_askFor 267 = .ok (.iconst 0, 1) := by decide +kernel
theorem dX12_askFor_268 : decode cX12_askFor 268 = .ok (.istore 6, 2) := by decide +kernel
theorem dX12_askFor_270 : decode cX12_askFor 270 = .ok (.iload 6, 2) := by decide +kernel
theorem dX12_askFor_272 : decode cX12_askFor 272 = .ok (.iconst 5, 1) := by decide +kernel
theorem dX12_askFor_273 : decode cX12_askFor 273 = .ok (.if_icmp .ge 17, 3) := by decide +kernel
theorem dX12_askFor_276 : decode cX12_askFor 276 = .ok (.aload_n 0, 1) := by decide +kernel
theorem dX12_askFor_277 : decode cX12_askFor 277 = .ok (.getfield 195, 3) := by decide +kernel
theorem dX12_askFor_280 : decode cX12_askFor 280 = .ok (.iload 6, 2) := by decide +kernel
theorem dX12_askFor_282 : decode cX12_askFor 282 = .ok (.iconst 0, 1) := by decide +kernel
theorem dX12_askFor_283 : decode cX12_askFor 283 = .ok (.iastore, 1) := by decide +kernel
theorem dX12_askFor_284 : decode cX12_askFor 284 = .ok (.iinc 6 1, 3) := by decide +kernel
theorem dX12_askFor_287 : decode cX12_askFor 287 = .ok (.goto (-17), 3) := by decide +kernel
theorem dX12_askFor_290 : decode cX12_askFor 290 = .ok (.return_, 1) := by decide +kernel
theorem okX12_askFor : ab_okM MX12_askFor 2 := ⟨by decide, ⟨by decide, by decide⟩, ab_in 2506 (by decide +kernel) (by decide +kernel), ab_in 99 (by decide +kernel) (by decide +kernel), by decide +kernel, by decide⟩
set_option maxHeartbeats 4000000 in
set_option maxRecDepth 100000 in
def lX12_askFor_270  (K : ab_X → Prop)  (L270 : Int32 → ab_X → Prop) (v6 : Int32) (x : ab_X) : Prop := ((5 ≤ v6 → K x) ∧ (¬ 5 ≤ v6 → (vp_in v6 5 ∧ L270 (v6 + 1) (wr x 308 (Int32.toNatClampNeg v6) 0))))
set_option maxHeartbeats 4000000 in
set_option maxRecDepth 100000 in
theorem sX12_askFor_270 (v6 : Int32)  (x : ab_X) (K : ab_X → Prop)  (d bc bs : Nat) (hdp : 210 ≤ d)  (h : Lp2 (lX12_askFor_270  K ) v6 x) : EW MX12_askFor 270 [(0, .ref 246), (6, .int v6)] [] (aS x) d bc bs (liV K) := by
  refine Lp2.use (P := fun v6 x => EW MX12_askFor 270 [(0, .ref 246), (6, .int v6)] [] (aS x) d bc bs (liV K)) (fun L270 v6 x hL270 h => ?_) v6 x h
  unfold lX12_askFor_270 at h
  refine EW_iload (pc2 := 272) rfl dX12_askFor_270 1 rfl ?_
  refine EW_iconst (pc2 := 273) (v := 5) rfl dX12_askFor_272 (by decide) ?_
  refine EW_icmp_ge (tgt := 290) (pc2 := 276) rfl dX12_askFor_273 (by decide) (fun q => ?_) (fun q => ?_)
  · replace h := h.1 q
    exact EW_vret rfl dX12_askFor_290 ⟨_, rfl, rfl, h⟩
  · replace h := h.2 q
    refine EW_aload_n (pc2 := 277) rfl dX12_askFor_276 0 rfl ?_
    refine AW_getr (r := 308) ⟨gfRX12_195, rfl⟩ (pc2 := 280) rfl dX12_askFor_277 q246 rfl ?_
    refine EW_iload (pc2 := 282) rfl dX12_askFor_280 1 rfl ?_
    refine EW_iconst (pc2 := 283) (v := 0) rfl dX12_askFor_282 (by decide) ?_
    obtain ⟨b24, h⟩ := h
    refine AW_iast (pc2 := 284) rfl dX12_askFor_283 q308 b24 ?_
    refine EW_iinc (v6 + 1) (pc2 := 287) rfl dX12_askFor_284 1 rfl rfl (by decide) [1, 0] [(0, .ref 246), (6, .int (v6 + 1))] rfl ?_
    refine EW_goto (tgt := 270) dX12_askFor_287 (by decide) ?_
    exact hL270 (v6 + 1) (wr x 308 (Int32.toNatClampNeg v6) 0) h
set_option maxHeartbeats 4000000 in
set_option maxRecDepth 100000 in
def wX12_askFor_95 (v1 : Int32) (v2 : Int32) (v3 : Int32) (v4 : Int32) (v6 : Int32) (s0 : Int32) (s1 : Int32) (x : ab_X) (K : ab_X → Prop) (L58 : Int32 → Int32 → Prop) : Prop := L58 (s0 + s1) (v6 + 1)
set_option maxHeartbeats 4000000 in
set_option maxRecDepth 100000 in
theorem sX12_askFor_95 (v1 : Int32) (v2 : Int32) (v3 : Int32) (v4 : Int32) (v6 : Int32) (s0 : Int32) (s1 : Int32)  (x : ab_X) (K : ab_X → Prop) (L58 : Int32 → Int32 → Prop) (d bc bs : Nat) (hdp : 210 ≤ d) (hL58 : ∀ (v5 : Int32) (v6 : Int32), L58 v5 v6 → EW MX12_askFor 58 [(0, .ref 246), (1, .int v1), (2, .int v2), (3, .int v3), (4, .int v4), (5, .int v5), (6, .int v6)] [] (aS x) d bc bs (liV K)) (h : wX12_askFor_95 v1 v2 v3 v4 v6 s0 s1 x K L58) : EW MX12_askFor 95 [(0, .ref 246), (1, .int v1), (2, .int v2), (3, .int v3), (4, .int v4), (6, .int v6)] [.int s1, .int s0] (aS x) d bc bs (liV K) := by
  unfold wX12_askFor_95 at h
  refine EW_iadd (pc2 := 96) rfl dX12_askFor_95 ?_
  refine EW_istore (pc2 := 98) rfl dX12_askFor_96 (by decide) [1, 2, 3, 4, 5, 0, 6] [(0, .ref 246), (1, .int v1), (2, .int v2), (3, .int v3), (4, .int v4), (5, .int (s0 + s1)), (6, .int v6)] rfl ?_
  refine EW_iinc (v6 + 1) (pc2 := 101) rfl dX12_askFor_98 6 rfl rfl (by decide) [1, 2, 3, 4, 5, 6, 0] [(0, .ref 246), (1, .int v1), (2, .int v2), (3, .int v3), (4, .int v4), (5, .int (s0 + s1)), (6, .int (v6 + 1))] rfl ?_
  refine EW_goto (tgt := 58) dX12_askFor_101 (by decide) ?_
  exact hL58 (s0 + s1) (v6 + 1) h
set_option maxHeartbeats 4000000 in
set_option maxRecDepth 100000 in
def wX12_askFor_94 (v1 : Int32) (v2 : Int32) (v3 : Int32) (v4 : Int32) (v6 : Int32) (s0 : Int32) (x : ab_X) (K : ab_X → Prop) (L58 : Int32 → Int32 → Prop) : Prop := wX12_askFor_95 v1 v2 v3 v4 v6 s0 0 x K L58
set_option maxHeartbeats 4000000 in
set_option maxRecDepth 100000 in
theorem sX12_askFor_94 (v1 : Int32) (v2 : Int32) (v3 : Int32) (v4 : Int32) (v6 : Int32) (s0 : Int32)  (x : ab_X) (K : ab_X → Prop) (L58 : Int32 → Int32 → Prop) (d bc bs : Nat) (hdp : 210 ≤ d) (hL58 : ∀ (v5 : Int32) (v6 : Int32), L58 v5 v6 → EW MX12_askFor 58 [(0, .ref 246), (1, .int v1), (2, .int v2), (3, .int v3), (4, .int v4), (5, .int v5), (6, .int v6)] [] (aS x) d bc bs (liV K)) (h : wX12_askFor_94 v1 v2 v3 v4 v6 s0 x K L58) : EW MX12_askFor 94 [(0, .ref 246), (1, .int v1), (2, .int v2), (3, .int v3), (4, .int v4), (6, .int v6)] [.int s0] (aS x) d bc bs (liV K) := by
  unfold wX12_askFor_94 at h
  refine EW_iconst (pc2 := 95) (v := 0) rfl dX12_askFor_94 (by decide) ?_
  exact sX12_askFor_95 v1 v2 v3 v4 v6 s0 0 x K L58 d bc bs hdp hL58 h
set_option maxHeartbeats 4000000 in
set_option maxRecDepth 100000 in
def lX12_askFor_58 (v1 : Int32) (v2 : Int32) (v3 : Int32) (v4 : Int32) (x : ab_X) (K : ab_X → Prop)  (L58 : Int32 → Int32 → Prop) (v5 : Int32) (v6 : Int32) : Prop := (((x.1 246 92) ≤ v6 → (vp_in 119 128 ∧ vp_in 104 128 ∧ vp_in 102 128 ∧ vp_in 107 128 ∧ wX12_partOf ((wr (wr (wr (wr x 307 (Int32.toNatClampNeg 119) v2) 307 (Int32.toNatClampNeg 104) ((((wr x 307 (Int32.toNatClampNeg 119) v2).1 246 1) / 60) - (((wr x 307 (Int32.toNatClampNeg 119) v2).1 246 1) / 60) / 24 * 24)) 307 (Int32.toNatClampNeg 102) v3) 307 (Int32.toNatClampNeg 107) v4).1 246 1) (wr (wr (wr (wr x 307 (Int32.toNatClampNeg 119) v2) 307 (Int32.toNatClampNeg 104) ((((wr x 307 (Int32.toNatClampNeg 119) v2).1 246 1) / 60) - (((wr x 307 (Int32.toNatClampNeg 119) v2).1 246 1) / 60) / 24 * 24)) 307 (Int32.toNatClampNeg 102) v3) 307 (Int32.toNatClampNeg 107) v4) (fun r7 => wX12_falseOf v1 r7 (wr (wr (wr (wr x 307 (Int32.toNatClampNeg 119) v2) 307 (Int32.toNatClampNeg 104) ((((wr x 307 (Int32.toNatClampNeg 119) v2).1 246 1) / 60) - (((wr x 307 (Int32.toNatClampNeg 119) v2).1 246 1) / 60) / 24 * 24)) 307 (Int32.toNatClampNeg 102) v3) 307 (Int32.toNatClampNeg 107) v4) (fun r8 => (vp_in 97 128 ∧ wX12_readyOf 0 (wr (wr (wr (wr (wr x 307 (Int32.toNatClampNeg 119) v2) 307 (Int32.toNatClampNeg 104) ((((wr x 307 (Int32.toNatClampNeg 119) v2).1 246 1) / 60) - (((wr x 307 (Int32.toNatClampNeg 119) v2).1 246 1) / 60) / 24 * 24)) 307 (Int32.toNatClampNeg 102) v3) 307 (Int32.toNatClampNeg 107) v4) 307 (Int32.toNatClampNeg 97) r8) (fun r10 => (vp_in 112 128 ∧ wX12_readyOf 1 (wr (wr (wr (wr (wr (wr x 307 (Int32.toNatClampNeg 119) v2) 307 (Int32.toNatClampNeg 104) ((((wr x 307 (Int32.toNatClampNeg 119) v2).1 246 1) / 60) - (((wr x 307 (Int32.toNatClampNeg 119) v2).1 246 1) / 60) / 24 * 24)) 307 (Int32.toNatClampNeg 102) v3) 307 (Int32.toNatClampNeg 107) v4) 307 (Int32.toNatClampNeg 97) r8) 307 (Int32.toNatClampNeg 112) r10) (fun r12 => (vp_in 115 128 ∧ wX12_readyOf 2 (wr (wr (wr (wr (wr (wr (wr x 307 (Int32.toNatClampNeg 119) v2) 307 (Int32.toNatClampNeg 104) ((((wr x 307 (Int32.toNatClampNeg 119) v2).1 246 1) / 60) - (((wr x 307 (Int32.toNatClampNeg 119) v2).1 246 1) / 60) / 24 * 24)) 307 (Int32.toNatClampNeg 102) v3) 307 (Int32.toNatClampNeg 107) v4) 307 (Int32.toNatClampNeg 97) r8) 307 (Int32.toNatClampNeg 112) r10) 307 (Int32.toNatClampNeg 115) r12) (fun r14 => (vp_in 108 128 ∧ wX12_readyOf 3 (wr (wr (wr (wr (wr (wr (wr (wr x 307 (Int32.toNatClampNeg 119) v2) 307 (Int32.toNatClampNeg 104) ((((wr x 307 (Int32.toNatClampNeg 119) v2).1 246 1) / 60) - (((wr x 307 (Int32.toNatClampNeg 119) v2).1 246 1) / 60) / 24 * 24)) 307 (Int32.toNatClampNeg 102) v3) 307 (Int32.toNatClampNeg 107) v4) 307 (Int32.toNatClampNeg 97) r8) 307 (Int32.toNatClampNeg 112) r10) 307 (Int32.toNatClampNeg 115) r12) 307 (Int32.toNatClampNeg 108) r14) (fun r16 => (vp_in 99 128 ∧ vp_in 111 128 ∧ ((((wr (wr (wr (wr (wr (wr (wr (wr (wr (wr x 307 (Int32.toNatClampNeg 119) v2) 307 (Int32.toNatClampNeg 104) ((((wr x 307 (Int32.toNatClampNeg 119) v2).1 246 1) / 60) - (((wr x 307 (Int32.toNatClampNeg 119) v2).1 246 1) / 60) / 24 * 24)) 307 (Int32.toNatClampNeg 102) v3) 307 (Int32.toNatClampNeg 107) v4) 307 (Int32.toNatClampNeg 97) r8) 307 (Int32.toNatClampNeg 112) r10) 307 (Int32.toNatClampNeg 115) r12) 307 (Int32.toNatClampNeg 108) r14) 307 (Int32.toNatClampNeg 99) r16) 307 (Int32.toNatClampNeg 111) v5).1 246 71) ≤ 0 → Lp2 (lX12_askFor_270 K ) 0 (wr (wr (wr (wr (wr (wr (wr (wr (wr (wr (wr x 307 (Int32.toNatClampNeg 119) v2) 307 (Int32.toNatClampNeg 104) ((((wr x 307 (Int32.toNatClampNeg 119) v2).1 246 1) / 60) - (((wr x 307 (Int32.toNatClampNeg 119) v2).1 246 1) / 60) / 24 * 24)) 307 (Int32.toNatClampNeg 102) v3) 307 (Int32.toNatClampNeg 107) v4) 307 (Int32.toNatClampNeg 97) r8) 307 (Int32.toNatClampNeg 112) r10) 307 (Int32.toNatClampNeg 115) r12) 307 (Int32.toNatClampNeg 108) r14) 307 (Int32.toNatClampNeg 99) r16) 307 (Int32.toNatClampNeg 111) v5) 246 75 0)) ∧ (¬ ((wr (wr (wr (wr (wr (wr (wr (wr (wr (wr x 307 (Int32.toNatClampNeg 119) v2) 307 (Int32.toNatClampNeg 104) ((((wr x 307 (Int32.toNatClampNeg 119) v2).1 246 1) / 60) - (((wr x 307 (Int32.toNatClampNeg 119) v2).1 246 1) / 60) / 24 * 24)) 307 (Int32.toNatClampNeg 102) v3) 307 (Int32.toNatClampNeg 107) v4) 307 (Int32.toNatClampNeg 97) r8) 307 (Int32.toNatClampNeg 112) r10) 307 (Int32.toNatClampNeg 115) r12) 307 (Int32.toNatClampNeg 108) r14) 307 (Int32.toNatClampNeg 99) r16) 307 (Int32.toNatClampNeg 111) v5).1 246 71) ≤ 0 → (vp_in (((wr (wr (wr (wr (wr (wr (wr (wr (wr (wr x 307 (Int32.toNatClampNeg 119) v2) 307 (Int32.toNatClampNeg 104) ((((wr x 307 (Int32.toNatClampNeg 119) v2).1 246 1) / 60) - (((wr x 307 (Int32.toNatClampNeg 119) v2).1 246 1) / 60) / 24 * 24)) 307 (Int32.toNatClampNeg 102) v3) 307 (Int32.toNatClampNeg 107) v4) 307 (Int32.toNatClampNeg 97) r8) 307 (Int32.toNatClampNeg 112) r10) 307 (Int32.toNatClampNeg 115) r12) 307 (Int32.toNatClampNeg 108) r14) 307 (Int32.toNatClampNeg 99) r16) 307 (Int32.toNatClampNeg 111) v5).1 246 71) - 1) 20 ∧ wX12_goThrough 0 300 (200 * (((wr (wr (wr (wr (wr (wr (wr (wr (wr (wr x 307 (Int32.toNatClampNeg 119) v2) 307 (Int32.toNatClampNeg 104) ((((wr x 307 (Int32.toNatClampNeg 119) v2).1 246 1) / 60) - (((wr x 307 (Int32.toNatClampNeg 119) v2).1 246 1) / 60) / 24 * 24)) 307 (Int32.toNatClampNeg 102) v3) 307 (Int32.toNatClampNeg 107) v4) 307 (Int32.toNatClampNeg 97) r8) 307 (Int32.toNatClampNeg 112) r10) 307 (Int32.toNatClampNeg 115) r12) 307 (Int32.toNatClampNeg 108) r14) 307 (Int32.toNatClampNeg 99) r16) 307 (Int32.toNatClampNeg 111) v5).1 246 71) - 1)) ((wr (wr (wr (wr (wr (wr (wr (wr (wr (wr x 307 (Int32.toNatClampNeg 119) v2) 307 (Int32.toNatClampNeg 104) ((((wr x 307 (Int32.toNatClampNeg 119) v2).1 246 1) / 60) - (((wr x 307 (Int32.toNatClampNeg 119) v2).1 246 1) / 60) / 24 * 24)) 307 (Int32.toNatClampNeg 102) v3) 307 (Int32.toNatClampNeg 107) v4) 307 (Int32.toNatClampNeg 97) r8) 307 (Int32.toNatClampNeg 112) r10) 307 (Int32.toNatClampNeg 115) r12) 307 (Int32.toNatClampNeg 108) r14) 307 (Int32.toNatClampNeg 99) r16) 307 (Int32.toNatClampNeg 111) v5).1 303 (Int32.toNatClampNeg (((wr (wr (wr (wr (wr (wr (wr (wr (wr (wr x 307 (Int32.toNatClampNeg 119) v2) 307 (Int32.toNatClampNeg 104) ((((wr x 307 (Int32.toNatClampNeg 119) v2).1 246 1) / 60) - (((wr x 307 (Int32.toNatClampNeg 119) v2).1 246 1) / 60) / 24 * 24)) 307 (Int32.toNatClampNeg 102) v3) 307 (Int32.toNatClampNeg 107) v4) 307 (Int32.toNatClampNeg 97) r8) 307 (Int32.toNatClampNeg 112) r10) 307 (Int32.toNatClampNeg 115) r12) 307 (Int32.toNatClampNeg 108) r14) 307 (Int32.toNatClampNeg 99) r16) 307 (Int32.toNatClampNeg 111) v5).1 246 71) - 1))) (wr (wr (wr (wr (wr (wr (wr (wr (wr (wr x 307 (Int32.toNatClampNeg 119) v2) 307 (Int32.toNatClampNeg 104) ((((wr x 307 (Int32.toNatClampNeg 119) v2).1 246 1) / 60) - (((wr x 307 (Int32.toNatClampNeg 119) v2).1 246 1) / 60) / 24 * 24)) 307 (Int32.toNatClampNeg 102) v3) 307 (Int32.toNatClampNeg 107) v4) 307 (Int32.toNatClampNeg 97) r8) 307 (Int32.toNatClampNeg 112) r10) 307 (Int32.toNatClampNeg 115) r12) 307 (Int32.toNatClampNeg 108) r14) 307 (Int32.toNatClampNeg 99) r16) 307 (Int32.toNatClampNeg 111) v5) (fun r20 x21 => K x21))))))))))))))))) ∧ (¬ (x.1 246 92) ≤ v6 → (vp_in v6 60 ∧ ((¬ (x.1 312 (Int32.toNatClampNeg v6)) = 0 → wX12_askFor_94 v1 v2 v3 v4 v6 v5 x K L58) ∧ ((x.1 312 (Int32.toNatClampNeg v6)) = 0 → (vp_in v6 60 ∧ (((x.1 310 (Int32.toNatClampNeg v6)) = v1 → wX12_askFor_94 v1 v2 v3 v4 v6 v5 x K L58) ∧ (¬ (x.1 310 (Int32.toNatClampNeg v6)) = v1 → wX12_askFor_95 v1 v2 v3 v4 v6 v5 1 x K L58))))))))
set_option maxHeartbeats 4000000 in
set_option maxRecDepth 100000 in
theorem sX12_askFor_58 (v1 : Int32) (v2 : Int32) (v3 : Int32) (v4 : Int32) (v5 : Int32) (v6 : Int32)  (x : ab_X) (K : ab_X → Prop)  (d bc bs : Nat) (hdp : 210 ≤ d)  (h : Lp2 (lX12_askFor_58 v1 v2 v3 v4 x K ) v5 v6) : EW MX12_askFor 58 [(0, .ref 246), (1, .int v1), (2, .int v2), (3, .int v3), (4, .int v4), (5, .int v5), (6, .int v6)] [] (aS x) d bc bs (liV K) := by
  refine Lp2.use (P := fun v5 v6 => EW MX12_askFor 58 [(0, .ref 246), (1, .int v1), (2, .int v2), (3, .int v3), (4, .int v4), (5, .int v5), (6, .int v6)] [] (aS x) d bc bs (liV K)) (fun L58 v5 v6 hL58 h => ?_) v5 v6 h
  unfold lX12_askFor_58 at h
  refine EW_iload (pc2 := 60) rfl dX12_askFor_58 6 rfl ?_
  refine EW_aload_n (pc2 := 61) rfl dX12_askFor_60 0 rfl ?_
  refine AW_geti ⟨gfRX12_525, rfl⟩ (pc2 := 64) rfl dX12_askFor_61 q246 ?_
  refine EW_icmp_ge (tgt := 104) (pc2 := 67) rfl dX12_askFor_64 (by decide) (fun q => ?_) (fun q => ?_)
  · replace h := h.1 q
    refine EW_aload_n (pc2 := 105) rfl dX12_askFor_104 0 rfl ?_
    refine AW_getr (r := 307) ⟨gfRX12_192, rfl⟩ (pc2 := 108) rfl dX12_askFor_105 q246 rfl ?_
    refine EW_bipush (pc2 := 110) (v := 119) rfl dX12_askFor_108 (by decide) ?_
    refine EW_iload_n (pc2 := 111) rfl dX12_askFor_110 2 rfl ?_
    obtain ⟨b3, h⟩ := h
    refine AW_iast (pc2 := 112) rfl dX12_askFor_111 q307 b3 ?_
    refine EW_aload_n (pc2 := 113) rfl dX12_askFor_112 0 rfl ?_
    refine AW_getr (r := 307) ⟨gfRX12_192, rfl⟩ (pc2 := 116) rfl dX12_askFor_113 q246 rfl ?_
    refine EW_bipush (pc2 := 118) (v := 104) rfl dX12_askFor_116 (by decide) ?_
    refine EW_aload_n (pc2 := 119) rfl dX12_askFor_118 0 rfl ?_
    refine AW_geti ⟨gfRX12_395, rfl⟩ (pc2 := 122) rfl dX12_askFor_119 q246 ?_
    refine EW_bipush (pc2 := 124) (v := 60) rfl dX12_askFor_122 (by decide) ?_
    refine EW_idiv (pc2 := 125) rfl dX12_askFor_124 (by decide) ?_
    refine EW_bipush (pc2 := 127) (v := 24) rfl dX12_askFor_125 (by decide) ?_
    refine EW_irem (pc2 := 128) rfl dX12_askFor_127 (by decide) ?_
    obtain ⟨b4, h⟩ := h
    refine AW_iast (pc2 := 129) rfl dX12_askFor_128 q307 b4 ?_
    refine EW_aload_n (pc2 := 130) rfl dX12_askFor_129 0 rfl ?_
    refine AW_getr (r := 307) ⟨gfRX12_192, rfl⟩ (pc2 := 133) rfl dX12_askFor_130 q246 rfl ?_
    refine EW_bipush (pc2 := 135) (v := 102) rfl dX12_askFor_133 (by decide) ?_
    refine EW_iload_n (pc2 := 136) rfl dX12_askFor_135 3 rfl ?_
    obtain ⟨b5, h⟩ := h
    refine AW_iast (pc2 := 137) rfl dX12_askFor_136 q307 b5 ?_
    refine EW_aload_n (pc2 := 138) rfl dX12_askFor_137 0 rfl ?_
    refine AW_getr (r := 307) ⟨gfRX12_192, rfl⟩ (pc2 := 141) rfl dX12_askFor_138 q246 rfl ?_
    refine EW_bipush (pc2 := 143) (v := 107) rfl dX12_askFor_141 (by decide) ?_
    refine EW_iload (pc2 := 145) rfl dX12_askFor_143 4 rfl ?_
    obtain ⟨b6, h⟩ := h
    refine AW_iast (pc2 := 146) rfl dX12_askFor_145 q307 b6 ?_
    refine EW_aload_n (pc2 := 147) rfl dX12_askFor_146 0 rfl ?_
    refine AW_getr (r := 307) ⟨gfRX12_192, rfl⟩ (pc2 := 150) rfl dX12_askFor_147 q246 rfl ?_
    refine EW_bipush (pc2 := 152) (v := 97) rfl dX12_askFor_150 (by decide) ?_
    refine EW_aload_n (pc2 := 153) rfl dX12_askFor_152 0 rfl ?_
    refine EW_iload_n (pc2 := 154) rfl dX12_askFor_153 1 rfl ?_
    refine EW_aload_n (pc2 := 155) rfl dX12_askFor_154 0 rfl ?_
    refine AW_geti ⟨gfRX12_395, rfl⟩ (pc2 := 158) rfl dX12_askFor_155 q246 ?_
    refine AW_invS (M' := MX12_partOf) [.int ((wr (wr (wr (wr x 307 (Int32.toNatClampNeg 119) v2) 307 (Int32.toNatClampNeg 104) ((((wr x 307 (Int32.toNatClampNeg 119) v2).1 246 1) / 60) - (((wr x 307 (Int32.toNatClampNeg 119) v2).1 246 1) / 60) / 24 * 24)) 307 (Int32.toNatClampNeg 102) v3) 307 (Int32.toNatClampNeg 107) v4).1 246 1)] (rest := [.int v1, .ref 246, .int 97, .ref 307]) mlRX12_320 okX12_partOf (pc2 := 161) rfl dX12_askFor_158 rfl rfl (Nat.le_of_ble_eq_true rfl) (Nat.le_of_ble_eq_true rfl) (d' := 0) (by omega) (EW_mono (fun _ _ hr => ?_) (sX12_partOf ((wr (wr (wr (wr x 307 (Int32.toNatClampNeg 119) v2) 307 (Int32.toNatClampNeg 104) ((((wr x 307 (Int32.toNatClampNeg 119) v2).1 246 1) / 60) - (((wr x 307 (Int32.toNatClampNeg 119) v2).1 246 1) / 60) / 24 * 24)) 307 (Int32.toNatClampNeg 102) v3) 307 (Int32.toNatClampNeg 107) v4).1 246 1)  (wr (wr (wr (wr x 307 (Int32.toNatClampNeg 119) v2) 307 (Int32.toNatClampNeg 104) ((((wr x 307 (Int32.toNatClampNeg 119) v2).1 246 1) / 60) - (((wr x 307 (Int32.toNatClampNeg 119) v2).1 246 1) / 60) / 24 * 24)) 307 (Int32.toNatClampNeg 102) v3) 307 (Int32.toNatClampNeg 107) v4) _ _ 0 0 (Nat.le_refl _) h))
    obtain ⟨r7, rfl, rfl, h⟩ := hr
    refine AW_invV (M' := MX12_falseOf) [.int v1, .int r7] (rest := [.int 97, .ref 307]) mlRX12_534 okX12_falseOf (pc2 := 164) rfl dX12_askFor_161 rfl rfl (Nat.le_of_ble_eq_true rfl) (Nat.le_of_ble_eq_true rfl) (d' := 1) (by omega) q246 ⟨by decide, rfl⟩ (EW_mono (fun _ _ hr => ?_) (sX12_falseOf v1 r7  (wr (wr (wr (wr x 307 (Int32.toNatClampNeg 119) v2) 307 (Int32.toNatClampNeg 104) ((((wr x 307 (Int32.toNatClampNeg 119) v2).1 246 1) / 60) - (((wr x 307 (Int32.toNatClampNeg 119) v2).1 246 1) / 60) / 24 * 24)) 307 (Int32.toNatClampNeg 102) v3) 307 (Int32.toNatClampNeg 107) v4) _ _ 0 0 (Nat.le_refl _) h))
    obtain ⟨r8, rfl, rfl, h⟩ := hr
    obtain ⟨b9, h⟩ := h
    refine AW_iast (pc2 := 165) rfl dX12_askFor_164 q307 b9 ?_
    refine EW_aload_n (pc2 := 166) rfl dX12_askFor_165 0 rfl ?_
    refine AW_getr (r := 307) ⟨gfRX12_192, rfl⟩ (pc2 := 169) rfl dX12_askFor_166 q246 rfl ?_
    refine EW_bipush (pc2 := 171) (v := 112) rfl dX12_askFor_169 (by decide) ?_
    refine EW_aload_n (pc2 := 172) rfl dX12_askFor_171 0 rfl ?_
    refine EW_iconst (pc2 := 173) (v := 0) rfl dX12_askFor_172 (by decide) ?_
    refine AW_invV (M' := MX12_readyOf) [.int 0] (rest := [.int 112, .ref 307]) mlRX12_537 okX12_readyOf (pc2 := 176) rfl dX12_askFor_173 rfl rfl (Nat.le_of_ble_eq_true rfl) (Nat.le_of_ble_eq_true rfl) (d' := 0) (by omega) q246 ⟨by decide, rfl⟩ (EW_mono (fun _ _ hr => ?_) (sX12_readyOf 0  (wr (wr (wr (wr (wr x 307 (Int32.toNatClampNeg 119) v2) 307 (Int32.toNatClampNeg 104) ((((wr x 307 (Int32.toNatClampNeg 119) v2).1 246 1) / 60) - (((wr x 307 (Int32.toNatClampNeg 119) v2).1 246 1) / 60) / 24 * 24)) 307 (Int32.toNatClampNeg 102) v3) 307 (Int32.toNatClampNeg 107) v4) 307 (Int32.toNatClampNeg 97) r8) _ _ 0 0 (Nat.le_refl _) h))
    obtain ⟨r10, rfl, rfl, h⟩ := hr
    obtain ⟨b11, h⟩ := h
    refine AW_iast (pc2 := 177) rfl dX12_askFor_176 q307 b11 ?_
    refine EW_aload_n (pc2 := 178) rfl dX12_askFor_177 0 rfl ?_
    refine AW_getr (r := 307) ⟨gfRX12_192, rfl⟩ (pc2 := 181) rfl dX12_askFor_178 q246 rfl ?_
    refine EW_bipush (pc2 := 183) (v := 115) rfl dX12_askFor_181 (by decide) ?_
    refine EW_aload_n (pc2 := 184) rfl dX12_askFor_183 0 rfl ?_
    refine EW_iconst (pc2 := 185) (v := 1) rfl dX12_askFor_184 (by decide) ?_
    refine AW_invV (M' := MX12_readyOf) [.int 1] (rest := [.int 115, .ref 307]) mlRX12_537 okX12_readyOf (pc2 := 188) rfl dX12_askFor_185 rfl rfl (Nat.le_of_ble_eq_true rfl) (Nat.le_of_ble_eq_true rfl) (d' := 0) (by omega) q246 ⟨by decide, rfl⟩ (EW_mono (fun _ _ hr => ?_) (sX12_readyOf 1  (wr (wr (wr (wr (wr (wr x 307 (Int32.toNatClampNeg 119) v2) 307 (Int32.toNatClampNeg 104) ((((wr x 307 (Int32.toNatClampNeg 119) v2).1 246 1) / 60) - (((wr x 307 (Int32.toNatClampNeg 119) v2).1 246 1) / 60) / 24 * 24)) 307 (Int32.toNatClampNeg 102) v3) 307 (Int32.toNatClampNeg 107) v4) 307 (Int32.toNatClampNeg 97) r8) 307 (Int32.toNatClampNeg 112) r10) _ _ 0 0 (Nat.le_refl _) h))
    obtain ⟨r12, rfl, rfl, h⟩ := hr
    obtain ⟨b13, h⟩ := h
    refine AW_iast (pc2 := 189) rfl dX12_askFor_188 q307 b13 ?_
    refine EW_aload_n (pc2 := 190) rfl dX12_askFor_189 0 rfl ?_
    refine AW_getr (r := 307) ⟨gfRX12_192, rfl⟩ (pc2 := 193) rfl dX12_askFor_190 q246 rfl ?_
    refine EW_bipush (pc2 := 195) (v := 108) rfl dX12_askFor_193 (by decide) ?_
    refine EW_aload_n (pc2 := 196) rfl dX12_askFor_195 0 rfl ?_
    refine EW_iconst (pc2 := 197) (v := 2) rfl dX12_askFor_196 (by decide) ?_
    refine AW_invV (M' := MX12_readyOf) [.int 2] (rest := [.int 108, .ref 307]) mlRX12_537 okX12_readyOf (pc2 := 200) rfl dX12_askFor_197 rfl rfl (Nat.le_of_ble_eq_true rfl) (Nat.le_of_ble_eq_true rfl) (d' := 0) (by omega) q246 ⟨by decide, rfl⟩ (EW_mono (fun _ _ hr => ?_) (sX12_readyOf 2  (wr (wr (wr (wr (wr (wr (wr x 307 (Int32.toNatClampNeg 119) v2) 307 (Int32.toNatClampNeg 104) ((((wr x 307 (Int32.toNatClampNeg 119) v2).1 246 1) / 60) - (((wr x 307 (Int32.toNatClampNeg 119) v2).1 246 1) / 60) / 24 * 24)) 307 (Int32.toNatClampNeg 102) v3) 307 (Int32.toNatClampNeg 107) v4) 307 (Int32.toNatClampNeg 97) r8) 307 (Int32.toNatClampNeg 112) r10) 307 (Int32.toNatClampNeg 115) r12) _ _ 0 0 (Nat.le_refl _) h))
    obtain ⟨r14, rfl, rfl, h⟩ := hr
    obtain ⟨b15, h⟩ := h
    refine AW_iast (pc2 := 201) rfl dX12_askFor_200 q307 b15 ?_
    refine EW_aload_n (pc2 := 202) rfl dX12_askFor_201 0 rfl ?_
    refine AW_getr (r := 307) ⟨gfRX12_192, rfl⟩ (pc2 := 205) rfl dX12_askFor_202 q246 rfl ?_
    refine EW_bipush (pc2 := 207) (v := 99) rfl dX12_askFor_205 (by decide) ?_
    refine EW_aload_n (pc2 := 208) rfl dX12_askFor_207 0 rfl ?_
    refine EW_iconst (pc2 := 209) (v := 3) rfl dX12_askFor_208 (by decide) ?_
    refine AW_invV (M' := MX12_readyOf) [.int 3] (rest := [.int 99, .ref 307]) mlRX12_537 okX12_readyOf (pc2 := 212) rfl dX12_askFor_209 rfl rfl (Nat.le_of_ble_eq_true rfl) (Nat.le_of_ble_eq_true rfl) (d' := 0) (by omega) q246 ⟨by decide, rfl⟩ (EW_mono (fun _ _ hr => ?_) (sX12_readyOf 3  (wr (wr (wr (wr (wr (wr (wr (wr x 307 (Int32.toNatClampNeg 119) v2) 307 (Int32.toNatClampNeg 104) ((((wr x 307 (Int32.toNatClampNeg 119) v2).1 246 1) / 60) - (((wr x 307 (Int32.toNatClampNeg 119) v2).1 246 1) / 60) / 24 * 24)) 307 (Int32.toNatClampNeg 102) v3) 307 (Int32.toNatClampNeg 107) v4) 307 (Int32.toNatClampNeg 97) r8) 307 (Int32.toNatClampNeg 112) r10) 307 (Int32.toNatClampNeg 115) r12) 307 (Int32.toNatClampNeg 108) r14) _ _ 0 0 (Nat.le_refl _) h))
    obtain ⟨r16, rfl, rfl, h⟩ := hr
    obtain ⟨b17, h⟩ := h
    refine AW_iast (pc2 := 213) rfl dX12_askFor_212 q307 b17 ?_
    refine EW_aload_n (pc2 := 214) rfl dX12_askFor_213 0 rfl ?_
    refine AW_getr (r := 307) ⟨gfRX12_192, rfl⟩ (pc2 := 217) rfl dX12_askFor_214 q246 rfl ?_
    refine EW_bipush (pc2 := 219) (v := 111) rfl dX12_askFor_217 (by decide) ?_
    refine EW_iload (pc2 := 221) rfl dX12_askFor_219 5 rfl ?_
    obtain ⟨b18, h⟩ := h
    refine AW_iast (pc2 := 222) rfl dX12_askFor_221 q307 b18 ?_
    refine EW_aload_n (pc2 := 223) rfl dX12_askFor_222 0 rfl ?_
    refine AW_geti ⟨gfRX12_519, rfl⟩ (pc2 := 226) rfl dX12_askFor_223 q246 ?_
    refine EW_if_le (tgt := 262) (pc2 := 229) rfl dX12_askFor_226 (by decide) (fun q => ?_) (fun q => ?_)
    · replace h := h.1 q
      refine EW_aload_n (pc2 := 263) rfl dX12_askFor_262 0 rfl ?_
      refine EW_iconst (pc2 := 264) (v := 0) rfl dX12_askFor_263 (by decide) ?_
      refine AW_puti ⟨gfRX12_494, rfl, rfl⟩ (pc2 := 267) rfl dX12_askFor_264 q246 ?_
      refine EW_iconst (pc2 := 268) (v := 0) rfl dX12_askFor_267 (by decide) ?_
      refine EW_istore (pc2 := 270) rfl dX12_askFor_268 (by decide) [1, 2, 3, 4, 5, 6, 0] [(0, .ref 246), (1, .int v1), (2, .int v2), (3, .int v3), (4, .int v4), (5, .int v5), (6, .int 0)] rfl ?_
      refine EW_ls [0, 6] rfl ?_
      exact sX12_askFor_270 0 (wr (wr (wr (wr (wr (wr (wr (wr (wr (wr (wr x 307 (Int32.toNatClampNeg 119) v2) 307 (Int32.toNatClampNeg 104) ((((wr x 307 (Int32.toNatClampNeg 119) v2).1 246 1) / 60) - (((wr x 307 (Int32.toNatClampNeg 119) v2).1 246 1) / 60) / 24 * 24)) 307 (Int32.toNatClampNeg 102) v3) 307 (Int32.toNatClampNeg 107) v4) 307 (Int32.toNatClampNeg 97) r8) 307 (Int32.toNatClampNeg 112) r10) 307 (Int32.toNatClampNeg 115) r12) 307 (Int32.toNatClampNeg 108) r14) 307 (Int32.toNatClampNeg 99) r16) 307 (Int32.toNatClampNeg 111) v5) 246 75 0) K d bc bs hdp h
    · replace h := h.2 q
      refine EW_aload_n (pc2 := 230) rfl dX12_askFor_229 0 rfl ?_
      refine EW_iconst (pc2 := 231) (v := 0) rfl dX12_askFor_230 (by decide) ?_
      refine EW_aload_n (pc2 := 232) rfl dX12_askFor_231 0 rfl ?_
      refine AW_getr (r := 300) ⟨gfRX12_171, rfl⟩ (pc2 := 235) rfl dX12_askFor_232 q246 rfl ?_
      refine EW_sipush (pc2 := 238) (v := 200) rfl dX12_askFor_235 (by decide) ?_
      refine EW_aload_n (pc2 := 239) rfl dX12_askFor_238 0 rfl ?_
      refine AW_geti ⟨gfRX12_519, rfl⟩ (pc2 := 242) rfl dX12_askFor_239 q246 ?_
      refine EW_iconst (pc2 := 243) (v := 1) rfl dX12_askFor_242 (by decide) ?_
      refine EW_isub (pc2 := 244) rfl dX12_askFor_243 ?_
      refine EW_imul (pc2 := 245) rfl dX12_askFor_244 ?_
      refine EW_aload_n (pc2 := 246) rfl dX12_askFor_245 0 rfl ?_
      refine AW_getr (r := 303) ⟨gfRX12_180, rfl⟩ (pc2 := 249) rfl dX12_askFor_246 q246 rfl ?_
      refine EW_aload_n (pc2 := 250) rfl dX12_askFor_249 0 rfl ?_
      refine AW_geti ⟨gfRX12_519, rfl⟩ (pc2 := 253) rfl dX12_askFor_250 q246 ?_
      refine EW_iconst (pc2 := 254) (v := 1) rfl dX12_askFor_253 (by decide) ?_
      refine EW_isub (pc2 := 255) rfl dX12_askFor_254 ?_
      obtain ⟨b19, h⟩ := h
      refine AW_iald (pc2 := 256) rfl dX12_askFor_255 q303 b19 ?_
      refine AW_invV (M' := MX12_goThrough) [.int 0, .ref 300, .int (200 * (((wr (wr (wr (wr (wr (wr (wr (wr (wr (wr x 307 (Int32.toNatClampNeg 119) v2) 307 (Int32.toNatClampNeg 104) ((((wr x 307 (Int32.toNatClampNeg 119) v2).1 246 1) / 60) - (((wr x 307 (Int32.toNatClampNeg 119) v2).1 246 1) / 60) / 24 * 24)) 307 (Int32.toNatClampNeg 102) v3) 307 (Int32.toNatClampNeg 107) v4) 307 (Int32.toNatClampNeg 97) r8) 307 (Int32.toNatClampNeg 112) r10) 307 (Int32.toNatClampNeg 115) r12) 307 (Int32.toNatClampNeg 108) r14) 307 (Int32.toNatClampNeg 99) r16) 307 (Int32.toNatClampNeg 111) v5).1 246 71) - 1)), .int ((wr (wr (wr (wr (wr (wr (wr (wr (wr (wr x 307 (Int32.toNatClampNeg 119) v2) 307 (Int32.toNatClampNeg 104) ((((wr x 307 (Int32.toNatClampNeg 119) v2).1 246 1) / 60) - (((wr x 307 (Int32.toNatClampNeg 119) v2).1 246 1) / 60) / 24 * 24)) 307 (Int32.toNatClampNeg 102) v3) 307 (Int32.toNatClampNeg 107) v4) 307 (Int32.toNatClampNeg 97) r8) 307 (Int32.toNatClampNeg 112) r10) 307 (Int32.toNatClampNeg 115) r12) 307 (Int32.toNatClampNeg 108) r14) 307 (Int32.toNatClampNeg 99) r16) 307 (Int32.toNatClampNeg 111) v5).1 303 (Int32.toNatClampNeg (((wr (wr (wr (wr (wr (wr (wr (wr (wr (wr x 307 (Int32.toNatClampNeg 119) v2) 307 (Int32.toNatClampNeg 104) ((((wr x 307 (Int32.toNatClampNeg 119) v2).1 246 1) / 60) - (((wr x 307 (Int32.toNatClampNeg 119) v2).1 246 1) / 60) / 24 * 24)) 307 (Int32.toNatClampNeg 102) v3) 307 (Int32.toNatClampNeg 107) v4) 307 (Int32.toNatClampNeg 97) r8) 307 (Int32.toNatClampNeg 112) r10) 307 (Int32.toNatClampNeg 115) r12) 307 (Int32.toNatClampNeg 108) r14) 307 (Int32.toNatClampNeg 99) r16) 307 (Int32.toNatClampNeg 111) v5).1 246 71) - 1)))] (rest := []) mlRX12_513 okX12_goThrough (pc2 := 259) rfl dX12_askFor_256 rfl rfl (Nat.le_of_ble_eq_true rfl) (Nat.le_of_ble_eq_true rfl) (d' := 209) (by omega) q246 ⟨by decide, rfl⟩ (EW_mono (fun _ _ hr => ?_) (sX12_goThrough 0 300 (200 * (((wr (wr (wr (wr (wr (wr (wr (wr (wr (wr x 307 (Int32.toNatClampNeg 119) v2) 307 (Int32.toNatClampNeg 104) ((((wr x 307 (Int32.toNatClampNeg 119) v2).1 246 1) / 60) - (((wr x 307 (Int32.toNatClampNeg 119) v2).1 246 1) / 60) / 24 * 24)) 307 (Int32.toNatClampNeg 102) v3) 307 (Int32.toNatClampNeg 107) v4) 307 (Int32.toNatClampNeg 97) r8) 307 (Int32.toNatClampNeg 112) r10) 307 (Int32.toNatClampNeg 115) r12) 307 (Int32.toNatClampNeg 108) r14) 307 (Int32.toNatClampNeg 99) r16) 307 (Int32.toNatClampNeg 111) v5).1 246 71) - 1)) ((wr (wr (wr (wr (wr (wr (wr (wr (wr (wr x 307 (Int32.toNatClampNeg 119) v2) 307 (Int32.toNatClampNeg 104) ((((wr x 307 (Int32.toNatClampNeg 119) v2).1 246 1) / 60) - (((wr x 307 (Int32.toNatClampNeg 119) v2).1 246 1) / 60) / 24 * 24)) 307 (Int32.toNatClampNeg 102) v3) 307 (Int32.toNatClampNeg 107) v4) 307 (Int32.toNatClampNeg 97) r8) 307 (Int32.toNatClampNeg 112) r10) 307 (Int32.toNatClampNeg 115) r12) 307 (Int32.toNatClampNeg 108) r14) 307 (Int32.toNatClampNeg 99) r16) 307 (Int32.toNatClampNeg 111) v5).1 303 (Int32.toNatClampNeg (((wr (wr (wr (wr (wr (wr (wr (wr (wr (wr x 307 (Int32.toNatClampNeg 119) v2) 307 (Int32.toNatClampNeg 104) ((((wr x 307 (Int32.toNatClampNeg 119) v2).1 246 1) / 60) - (((wr x 307 (Int32.toNatClampNeg 119) v2).1 246 1) / 60) / 24 * 24)) 307 (Int32.toNatClampNeg 102) v3) 307 (Int32.toNatClampNeg 107) v4) 307 (Int32.toNatClampNeg 97) r8) 307 (Int32.toNatClampNeg 112) r10) 307 (Int32.toNatClampNeg 115) r12) 307 (Int32.toNatClampNeg 108) r14) 307 (Int32.toNatClampNeg 99) r16) 307 (Int32.toNatClampNeg 111) v5).1 246 71) - 1)))  (wr (wr (wr (wr (wr (wr (wr (wr (wr (wr x 307 (Int32.toNatClampNeg 119) v2) 307 (Int32.toNatClampNeg 104) ((((wr x 307 (Int32.toNatClampNeg 119) v2).1 246 1) / 60) - (((wr x 307 (Int32.toNatClampNeg 119) v2).1 246 1) / 60) / 24 * 24)) 307 (Int32.toNatClampNeg 102) v3) 307 (Int32.toNatClampNeg 107) v4) 307 (Int32.toNatClampNeg 97) r8) 307 (Int32.toNatClampNeg 112) r10) 307 (Int32.toNatClampNeg 115) r12) 307 (Int32.toNatClampNeg 108) r14) 307 (Int32.toNatClampNeg 99) r16) 307 (Int32.toNatClampNeg 111) v5) _ _ 0 0 (Nat.le_refl _) h))
      obtain ⟨r20, x21, rfl, rfl, h⟩ := hr
      refine EW_istore (pc2 := 261) rfl dX12_askFor_259 (by decide) [1, 2, 3, 4, 5, 6, 0] [(0, .ref 246), (1, .int v1), (2, .int v2), (3, .int v3), (4, .int v4), (5, .int v5), (6, .int r20)] rfl ?_
      exact EW_vret rfl dX12_askFor_261 ⟨_, rfl, rfl, h⟩
  · replace h := h.2 q
    refine EW_iload (pc2 := 69) rfl dX12_askFor_67 5 rfl ?_
    refine EW_aload_n (pc2 := 70) rfl dX12_askFor_69 0 rfl ?_
    refine AW_getr (r := 312) ⟨gfRX12_220, rfl⟩ (pc2 := 73) rfl dX12_askFor_70 q246 rfl ?_
    refine EW_iload (pc2 := 75) rfl dX12_askFor_73 6 rfl ?_
    obtain ⟨b22, h⟩ := h
    refine AW_iald (pc2 := 76) rfl dX12_askFor_75 q312 b22 ?_
    refine EW_if_ne (tgt := 94) (pc2 := 79) rfl dX12_askFor_76 (by decide) (fun q => ?_) (fun q => ?_)
    · replace h := h.1 q
      refine EW_ls [0, 1, 2, 3, 4, 6] rfl ?_
      exact sX12_askFor_94 v1 v2 v3 v4 v6 v5 x K L58 d bc bs hdp hL58 h
    · replace h := h.2 q
      refine EW_aload_n (pc2 := 80) rfl dX12_askFor_79 0 rfl ?_
      refine AW_getr (r := 310) ⟨gfRX12_214, rfl⟩ (pc2 := 83) rfl dX12_askFor_80 q246 rfl ?_
      refine EW_iload (pc2 := 85) rfl dX12_askFor_83 6 rfl ?_
      obtain ⟨b23, h⟩ := h
      refine AW_iald (pc2 := 86) rfl dX12_askFor_85 q310 b23 ?_
      refine EW_iload_n (pc2 := 87) rfl dX12_askFor_86 1 rfl ?_
      refine EW_icmp_eq (tgt := 94) (pc2 := 90) rfl dX12_askFor_87 (by decide) (fun q => ?_) (fun q => ?_)
      · replace h := h.1 q
        refine EW_ls [0, 1, 2, 3, 4, 6] rfl ?_
        exact sX12_askFor_94 v1 v2 v3 v4 v6 v5 x K L58 d bc bs hdp hL58 h
      · replace h := h.2 q
        refine EW_iconst (pc2 := 91) (v := 1) rfl dX12_askFor_90 (by decide) ?_
        refine EW_goto (tgt := 95) dX12_askFor_91 (by decide) ?_
        refine EW_ls [0, 1, 2, 3, 4, 6] rfl ?_
        exact sX12_askFor_95 v1 v2 v3 v4 v6 v5 1 x K L58 d bc bs hdp hL58 h
set_option maxHeartbeats 4000000 in
set_option maxRecDepth 100000 in
def lX12_askFor_11 (v1 : Int32) (v2 : Int32) (v5 : Int32) (x : ab_X) (K : ab_X → Prop)  (L11 : Int32 → Int32 → Int32 → Prop) (v3 : Int32) (v4 : Int32) (v6 : Int32) : Prop := (((x.1 246 31) ≤ v6 → Lp2 (lX12_askFor_58 v1 v2 v3 v4 x K ) v5 0) ∧ (¬ (x.1 246 31) ≤ v6 → (vp_in v6 12 ∧ (((x.1 254 (Int32.toNatClampNeg v6)) = v1 → (vp_in v6 12 ∧ L11 (imax v3 (x.1 256 (Int32.toNatClampNeg v6))) (v4 + 1) (v6 + 1))) ∧ (¬ (x.1 254 (Int32.toNatClampNeg v6)) = v1 → L11 v3 v4 (v6 + 1))))))
set_option maxHeartbeats 4000000 in
set_option maxRecDepth 100000 in
theorem sX12_askFor_11 (v1 : Int32) (v2 : Int32) (v3 : Int32) (v4 : Int32) (v5 : Int32) (v6 : Int32)  (x : ab_X) (K : ab_X → Prop)  (d bc bs : Nat) (hdp : 210 ≤ d)  (h : Lp3 (lX12_askFor_11 v1 v2 v5 x K ) v3 v4 v6) : EW MX12_askFor 11 [(0, .ref 246), (1, .int v1), (2, .int v2), (3, .int v3), (4, .int v4), (5, .int v5), (6, .int v6)] [] (aS x) d bc bs (liV K) := by
  refine Lp3.use (P := fun v3 v4 v6 => EW MX12_askFor 11 [(0, .ref 246), (1, .int v1), (2, .int v2), (3, .int v3), (4, .int v4), (5, .int v5), (6, .int v6)] [] (aS x) d bc bs (liV K)) (fun L11 v3 v4 v6 hL11 h => ?_) v3 v4 v6 h
  unfold lX12_askFor_11 at h
  refine EW_iload (pc2 := 13) rfl dX12_askFor_11 6 rfl ?_
  refine EW_aload_n (pc2 := 14) rfl dX12_askFor_13 0 rfl ?_
  refine AW_geti ⟨gfRX12_331, rfl⟩ (pc2 := 17) rfl dX12_askFor_14 q246 ?_
  refine EW_icmp_ge (tgt := 55) (pc2 := 20) rfl dX12_askFor_17 (by decide) (fun q => ?_) (fun q => ?_)
  · replace h := h.1 q
    refine EW_iconst (pc2 := 56) (v := 0) rfl dX12_askFor_55 (by decide) ?_
    refine EW_istore (pc2 := 58) rfl dX12_askFor_56 (by decide) [1, 2, 3, 4, 5, 6, 0] [(0, .ref 246), (1, .int v1), (2, .int v2), (3, .int v3), (4, .int v4), (5, .int v5), (6, .int 0)] rfl ?_
    exact sX12_askFor_58 v1 v2 v3 v4 v5 0 x K d bc bs hdp h
  · replace h := h.2 q
    refine EW_aload_n (pc2 := 21) rfl dX12_askFor_20 0 rfl ?_
    refine AW_getr (r := 254) ⟨gfRX12_32, rfl⟩ (pc2 := 24) rfl dX12_askFor_21 q246 rfl ?_
    refine EW_iload (pc2 := 26) rfl dX12_askFor_24 6 rfl ?_
    obtain ⟨b1, h⟩ := h
    refine AW_iald (pc2 := 27) rfl dX12_askFor_26 q254 b1 ?_
    refine EW_iload_n (pc2 := 28) rfl dX12_askFor_27 1 rfl ?_
    refine EW_icmp_eq (tgt := 34) (pc2 := 31) rfl dX12_askFor_28 (by decide) (fun q => ?_) (fun q => ?_)
    · replace h := h.1 q
      refine EW_iload_n (pc2 := 35) rfl dX12_askFor_34 3 rfl ?_
      refine EW_aload_n (pc2 := 36) rfl dX12_askFor_35 0 rfl ?_
      refine AW_getr (r := 256) ⟨gfRX12_38, rfl⟩ (pc2 := 39) rfl dX12_askFor_36 q246 rfl ?_
      refine EW_iload (pc2 := 41) rfl dX12_askFor_39 6 rfl ?_
      obtain ⟨b2, h⟩ := h
      refine AW_iald (pc2 := 42) rfl dX12_askFor_41 q256 b2 ?_
      refine AW_mmax mmRX12_357 (pc2 := 45) rfl dX12_askFor_42 (Nat.le_of_ble_eq_true rfl) (by omega) ?_
      refine EW_istore_n (pc2 := 46) rfl dX12_askFor_45 (by decide) [1, 2, 3, 0, 4, 5, 6] [(0, .ref 246), (1, .int v1), (2, .int v2), (3, .int (imax v3 (x.1 256 (Int32.toNatClampNeg v6)))), (4, .int v4), (5, .int v5), (6, .int v6)] rfl ?_
      refine EW_iinc (v4 + 1) (pc2 := 49) rfl dX12_askFor_46 4 rfl rfl (by decide) [1, 2, 3, 4, 0, 5, 6] [(0, .ref 246), (1, .int v1), (2, .int v2), (3, .int (imax v3 (x.1 256 (Int32.toNatClampNeg v6)))), (4, .int (v4 + 1)), (5, .int v5), (6, .int v6)] rfl ?_
      refine EW_iinc (v6 + 1) (pc2 := 52) rfl dX12_askFor_49 6 rfl rfl (by decide) [1, 2, 3, 4, 5, 6, 0] [(0, .ref 246), (1, .int v1), (2, .int v2), (3, .int (imax v3 (x.1 256 (Int32.toNatClampNeg v6)))), (4, .int (v4 + 1)), (5, .int v5), (6, .int (v6 + 1))] rfl ?_
      refine EW_goto (tgt := 11) dX12_askFor_52 (by decide) ?_
      exact hL11 (imax v3 (x.1 256 (Int32.toNatClampNeg v6))) (v4 + 1) (v6 + 1) h
    · replace h := h.2 q
      refine EW_goto (tgt := 49) dX12_askFor_31 (by decide) ?_
      refine EW_iinc (v6 + 1) (pc2 := 52) rfl dX12_askFor_49 6 rfl rfl (by decide) [1, 2, 3, 4, 5, 6, 0] [(0, .ref 246), (1, .int v1), (2, .int v2), (3, .int v3), (4, .int v4), (5, .int v5), (6, .int (v6 + 1))] rfl ?_
      refine EW_goto (tgt := 11) dX12_askFor_52 (by decide) ?_
      exact hL11 v3 v4 (v6 + 1) h
set_option maxHeartbeats 4000000 in
set_option maxRecDepth 100000 in
def wX12_askFor (v1 : Int32) (v2 : Int32) (x : ab_X) (K : ab_X → Prop) : Prop := Lp3 (lX12_askFor_11 v1 v2 0 x K ) 0 0 0
set_option maxHeartbeats 4000000 in
set_option maxRecDepth 100000 in
theorem sX12_askFor (v1 : Int32) (v2 : Int32)  (x : ab_X) (K : ab_X → Prop) (d bc bs : Nat) (hdp : 210 ≤ d) (h : wX12_askFor v1 v2 x K) : EW MX12_askFor 0 [(0, .ref 246), (1, .int v1), (2, .int v2)] [] (aS x) d bc bs (liV K) := by
  unfold wX12_askFor at h
  refine EW_iconst (pc2 := 1) (v := 0) rfl dX12_askFor_0 (by decide) ?_
  refine EW_istore_n (pc2 := 2) rfl dX12_askFor_1 (by decide) [1, 2, 3, 0] [(0, .ref 246), (1, .int v1), (2, .int v2), (3, .int 0)] rfl ?_
  refine EW_iconst (pc2 := 3) (v := 0) rfl dX12_askFor_2 (by decide) ?_
  refine EW_istore (pc2 := 5) rfl dX12_askFor_3 (by decide) [1, 2, 3, 4, 0] [(0, .ref 246), (1, .int v1), (2, .int v2), (3, .int 0), (4, .int 0)] rfl ?_
  refine EW_iconst (pc2 := 6) (v := 0) rfl dX12_askFor_5 (by decide) ?_
  refine EW_istore (pc2 := 8) rfl dX12_askFor_6 (by decide) [1, 2, 3, 4, 5, 0] [(0, .ref 246), (1, .int v1), (2, .int v2), (3, .int 0), (4, .int 0), (5, .int 0)] rfl ?_
  refine EW_iconst (pc2 := 9) (v := 0) rfl dX12_askFor_8 (by decide) ?_
  refine EW_istore (pc2 := 11) rfl dX12_askFor_9 (by decide) [1, 2, 3, 4, 5, 6, 0] [(0, .ref 246), (1, .int v1), (2, .int v2), (3, .int 0), (4, .int 0), (5, .int 0), (6, .int 0)] rfl ?_
  exact sX12_askFor_11 v1 v2 0 0 0 0 x K d bc bs hdp h
