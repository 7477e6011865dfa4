theorem gfRX12_59 : ab_L RX12 59 12 19 := ⟨by decide, by decide, ab_in 1868 (by decide +kernel) (by decide +kernel)⟩
theorem gfRX12_86 : ab_L RX12 86 12 28 := ⟨by decide, by decide, ab_in 1877 (by decide +kernel) (by decide +kernel)⟩
abbrev MX12_falls : ab_M := (yX12_falls, cX12_falls, 7, none)
theorem dX12_falls_0 : decode cX12_falls 0 = .ok (.aload_n 0, 1) := by decide +kernel
theorem dX12_falls_1 : decode cX12_falls 1 = .ok (.getfield 92, 3) := by decide +kernel
theorem dX12_falls_4 : decode cX12_falls 4 = .ok (.bipush 6, 2) := by decide +kernel
theorem dX12_falls_6 : decode cX12_falls 6 = .ok (.iload_n 1, 1) := by decide +kernel
theorem dX12_falls_7 : decode cX12_falls 7 = .ok (.imul, 1) := by decide +kernel
theorem dX12_falls_8 : decode cX12_falls 8 = .ok (.iload_n 2, 1) := by decide +kernel
theorem dX12_falls_9 : decode cX12_falls 9 = .ok (.iadd, 1) := by decide +kernel
theorem dX12_falls_10 : decode cX12_falls 10 = .ok (.iconst 1, 1) := by decide +kernel
theorem dX12_falls_11 : decode cX12_falls 11 = .ok (.bastore, 1) := by decide +kernel
theorem dX12_falls_12 : decode cX12_falls 12 = .ok (.iconst 0, 1) := by decide +kernel
theorem dX12_falls_13 : decode cX12_falls 13 = .ok (.istore 4, 2) := by decide +kernel
theorem dX12_falls_15 : decode cX12_falls 15 = .ok (.iload 4, 2) := by decide +kernel
theorem dX12_falls_17 : decode cX12_falls 17 = .ok (.aload_n 0, 1) := by decide +kernel
theorem dX12_falls_18 : decode cX12_falls 18 = .ok (.getfield 41, 3) := by decide +kernel
theorem dX12_falls_21 : decode cX12_falls 21 = .ok (.iload_n 1, 1) := by decide +kernel
theorem dX12_falls_22 : decode cX12_falls 22 = .ok (.iaload, 1) := by decide +kernel
theorem dX12_falls_23 : decode cX12_falls 23 = .ok (.if_icmp .ge 122, 3) := by decide +kernel
theorem dX12_falls_26 : decode cX12_falls 26 = .ok (.bipush 24, 2) := by decide +kernel
theorem dX12_falls_28 : decode cX12_falls 28 = .ok (.iload_n 1, 1) := by decide +kernel
theorem dX12_falls_29 : decode cX12_falls 29 = .ok (.imul, 1) := by decide +kernel
theorem dX12_falls_30 : decode cX12_falls 30 = .ok (.iload_n 2, 1) := by decide +kernel
theorem dX12_falls_31 : decode cX12_falls 31 = .ok (.aload_n 0, 1) := by decide +kernel
theorem dX12_falls_32 : decode cX12_falls 32 = .ok (.getfield 41, 3) := by decide +kernel
theorem dX12_falls_35 : decode cX12_falls 35 = .ok (.iload_n 1, 1) := by decide +kernel
theorem dX12_falls_36 : decode cX12_falls 36 = .ok (.iaload, 1) := by decide +kernel
theorem dX12_falls_37 : decode cX12_falls 37 = .ok (.imul, 1) := by decide +kernel
theorem dX12_falls_38 : decode cX12_falls 38 = .ok (.iadd, 1) := by decide +kernel
theorem dX12_falls_39 : decode cX12_falls 39 = .ok (.iload 4, 2) := by decide +kernel
theorem dX12_falls_41 : decode cX12_falls 41 = .ok (.iadd, 1) := by decide +kernel
theorem dX12_falls_42 : decode cX12_falls 42 = .ok (.istore 5, 2) := by decide +kernel
theorem dX12_falls_44 : decode cX12_falls 44 = .ok (.iload 5, 2) := by decide +kernel
theorem dX12_falls_46 : decode cX12_falls 46 = .ok (.aload_n 0, 1) := by decide +kernel
theorem dX12_falls_47 : decode cX12_falls 47 = .ok (.getfield 41, 3) := by decide +kernel
theorem dX12_falls_50 : decode cX12_falls 50 = .ok (.iload_n 1, 1) := by decide +kernel
theorem dX12_falls_51 : decode cX12_falls 51 = .ok (.iaload, 1) := by decide +kernel
theorem dX12_falls_52 : decode cX12_falls 52 = .ok (.isub, 1) := by decide +kernel
theorem dX12_falls_53 : decode cX12_falls 53 = .ok (.istore 6, 2) := by decide +kernel
theorem dX12_falls_55 : decode cX12_falls 55 = .ok (.aload_n 0, 1) := by decide +kernel
theorem dX12_falls_56 : decode cX12_falls 56 = .ok (.getfield 71, 3) := by decide +kernel
theorem dX12_falls_59 : decode cX12_falls 59 = .ok (.iload 6, 2) := by decide +kernel
theorem dX12_falls_61 : decode cX12_falls 61 = .ok (.sipush 2000, 3) := by decide +kernel
theorem dX12_falls_64 : decode cX12_falls 64 = .ok (.aload_n 0, 1) := by decide +kernel
theorem dX12_falls_65 : decode cX12_falls 65 = .ok (.getfield 71, 3) := by decide +kernel
theorem dX12_falls_68 : decode cX12_falls 68 = .ok (.iload 6, 2) := by decide +kernel
theorem dX12_falls_70 : decode cX12_falls 70 = .ok (.iaload, 1) := by decide +kernel
theorem dX12_falls_71 : decode cX12_falls 71 = .ok (.aload_n 0, 1) := by decide +kernel
theorem dX12_falls_72 : decode cX12_falls 72 = .ok (.getfield 71, 3) := by decide +kernel
theorem dX12_falls_75 : decode cX12_falls 75 = .ok (.iload 5, 2) := by decide +kernel
theorem dX12_falls_77 : decode cX12_falls 77 = .ok (.iaload, 1) := by decide +kernel
theorem dX12_falls_78 : decode cX12_falls 78 = .ok (.iadd, 1) := by decide +kernel
theorem dX12_falls_79 : decode cX12_falls 79 = .ok (.invokestatic 311, 3) := by decide +kernel
theorem dX12_falls_82 : decode cX12_falls 82 = .ok (.iastore, 1) := by decide +kernel
theorem dX12_falls_83 : decode cX12_falls 83 = .ok (.aload_n 0, 1) := by decide +kernel
theorem dX12_falls_84 : decode cX12_falls 84 = .ok (.getfield 92, 3) := by decide +kernel
theorem dX12_falls_87 : decode cX12_falls 87 = .ok (.bipush 6, 2) := by decide +kernel
theorem dX12_falls_89 : decode cX12_falls 89 = .ok (.iload_n 1, 1) := by decide +kernel
theorem dX12_falls_90 : decode cX12_falls 90 = .ok (.imul, 1) := by decide +kernel
theorem dX12_falls_91 : decode cX12_falls 91 = .ok (.iload_n 2, 1) := by decide +kernel
theorem dX12_falls_92 : decode cX12_falls 92 = .ok (.iadd, 1) := by decide +kernel
theorem dX12_falls_93 : decode cX12_falls 93 = .ok (.iconst 1, 1) := by decide +kernel
theorem dX12_falls_94 : decode cX12_falls 94 = .ok (.isub, 1) := by decide +kernel
theorem dX12_falls_95 : decode cX12_falls 95 = .ok (.baload, 1) := by decide +kernel
theorem dX12_falls_96 : decode cX12_falls 96 = .ok (.ifCond .ne 27, 3) := by decide +kernel
theorem dX12_falls_99 : decode cX12_falls 99 = .ok (.aload_n 0, 1) := by decide +kernel
theorem dX12_falls_100 : decode cX12_falls 100 = .ok (.getfield 68, 3) := by decide +kernel
theorem dX12_falls_103 : decode cX12_falls 103 = .ok (.iload 6, 2) := by decide +kernel
theorem dX12_falls_105 : decode cX12_falls 105 = .ok (.aload_n 0, 1) := by decide +kernel
theorem dX12_falls_106 : decode cX12_falls 106 = .ok (.getfield 68, 3) := by decide +kernel
theorem dX12_falls_109 : decode cX12_falls 109 = .ok (.iload 6, 2) := by decide +kernel
theorem dX12_falls_111 : decode cX12_falls 111 = .ok (.iaload, 1) := by decide +kernel
theorem dX12_falls_112 : decode cX12_falls 112 = .ok (.aload_n 0, 1) := by decide +kernel
theorem dX12_falls_113 : decode cX12_falls 113 = .ok (.getfield 68, 3) := by decide +kernel
theorem dX12_falls_116 : decode cX12_falls 116 = .ok (.iload 5, 2) := by decide +kernel
theorem dX12_falls_118 : decode cX12_falls 118 = .ok (.iaload, 1) := by decide +kernel
theorem dX12_falls_119 : decode cX12_falls 119 = .ok (.invokestatic 357, 3) := by decide +kernel
theorem dX12_falls_122 : decode cX12_falls 122 = .ok (.iastore, 1) := by decide +kernel
theorem dX12_falls_123 : decode cX12_falls 123 = .ok (.aload_n 0, 1) := by decide +kernel
theorem dX12_falls_124 : decode cX12_falls 124 = .ok (.getfield 68, 3) := by decide +kernel
theorem dX12_falls_127 : decode cX12_falls 127 = .ok (.iload 5, 2) := by decide +kernel
theorem dX12_falls_129 : decode cX12_falls 129 = .ok (.iconst 0, 1) := by decide +kernel
theorem dX12_falls_130 : decode cX12_falls 130 = .ok (.iastore, 1) := by decide +kernel
theorem dX12_falls_131 : decode cX12_falls 131 = .ok (.aload_n 0, 1) := by decide +kernel
theorem dX12_falls_132 : decode cX12_falls 132 = .ok (.getfield 71, 3) := by decide +kernel
theorem dX12_falls_135 : decode cX12_falls 135 = .ok (.iload 5, 2) := by decide +kernel
theorem dX12_falls_137 : decode cX12_falls 137 = .ok (.iconst 0, 1) := by decide +kernel
theorem dX12_falls_138 : decode cX12_falls 138 = .ok (.iastore, 1) := by decide +kernel
theorem dX12_falls_139 : decode cX12_falls 139 = .ok (.iinc 4 1, 3) := by decide +kernel
theorem dX12_falls_142 : decode cX12_falls 142 = .ok (.goto (-127), 3) := by decide +kernel
theorem dX12_falls_145 : decode cX12_falls 145 = .ok (.iload_n 3, 1) := by decide +kernel
theorem dX12_falls_146 : decode cX12_falls 146 = .ok (.ifCond .ne 4, 3) := by decide +kernel
theorem dX12_falls_149 : decode cX12_falls 149 = .ok (.return_, 1) := by decide +kernel
theorem dX12_falls_150 : decode cX12_falls 150 = .ok (.aload_n 0, 1) := by decide +kernel
theorem dX12_falls_151 : decode cX12_falls 151 = .ok (.getfield 59, 3) := by decide +kernel
theorem dX12_falls_154 : decode cX12_falls 154 = .ok (.iload_n 1, 1) := by decide +kernel
theorem dX12_falls_155 : decode cX12_falls 155 = .ok (.dup2, 1) := by decide +kernel
theorem dX12_falls_156 : decode cX12_falls 156 = .ok (.iaload, 1) := by decide +kernel
theorem dX12_falls_157 : decode cX12_falls 157 = .ok (.aload_n 0, 1) := by decide +kernel
theorem dX12_falls_158 : decode cX12_falls 158 = .ok (.getfield 86, 3) := by decide +kernel
theorem dX12_falls_161 : decode cX12_falls 161 = .ok (.bipush 6, 2) := by decide +kernel
theorem dX12_falls_163 : decode cX12_falls 163 = .ok (.iload_n 1, 1) := by decide +kernel
theorem dX12_falls_164 : decode cX12_falls 164 = .ok (.imul, 1) := by decide +kernel
theorem dX12_falls_165 : decode cX12_falls 165 = .ok (.iload_n 2, 1) := by decide +kernel
theorem dX12_falls_166 : decode cX12_falls 166 = .ok (.iadd, 1) := by decide +kernel
theorem dX12_falls_167 : decode cX12_falls 167 = .ok (.iaload, 1) := by decide +kernel
theorem dX12_falls_168 : decode cX12_falls 168 = .ok (.iadd, 1) := by decide +kernel
theorem dX12_falls_169 : decode cX12_falls 169 = .ok (.iastore, 1) := by decide +kernel
theorem dX12_falls_170 : decode cX12_falls 170 = .ok (.aload_n 0, 1) := by decide +kernel
theorem dX12_falls_171 : decode cX12_falls 171 = .ok (.getfield 86, 3) := by decide +kernel
theorem dX12_falls_174 : decode cX12_falls 174 = .ok (.bipush 6, 2) := by decide +kernel
theorem dX12_falls_176 : decode cX12_falls 176 = .ok (.iload_n 1, 1) := by decide +kernel
theorem dX12_falls_177 : decode cX12_falls 177 = .ok (.imul, 1) := by decide +kernel
theorem dX12_falls_178 : decode cX12_falls 178 = .ok (.iload_n 2, 1) := by decide +kernel
theorem dX12_falls_179 : decode cX12_falls 179 = .ok (.iadd, 1) := by decide +kernel
theorem dX12_falls_180 : decode cX12_falls 180 = .ok (.iconst 0, 1) := by decide +kernel
theorem dX12_falls_181 : decode cX12_falls 181 = .ok (.iastore, 1) := by decide +kernel
theorem dX12_falls_182 : decode cX12_falls 182 = .ok (.iconst 0, 1) := by decide +kernel
theorem dX12_falls_183 : decode cX12_falls 183 = .ok (.istore 4, 2) := by decide +kernel
theorem dX12_falls_185 : decode cX12_falls 185 = .ok (.iload 4, 2) := by decide +kernel
theorem dX12_falls_187 : decode cX12_falls 187 = .ok (.aload_n 0, 1) := by decide +kernel
theorem dX12_falls_188 : decode cX12_falls 188 = .ok (.getfield 366, 3) := by decide +kernel
theorem dX12_falls_191 : decode cX12_falls 191 = .ok (.if_icmp .ge 91, 3) := by decide +kernel
theorem dX12_falls_194 : decode cX12_falls 194 = .ok (.aload_n 0, 1) := by decide +kernel
theorem dX12_falls_195 : decode cX12_falls 195 = .ok (.getfield 128, 3) := by decide +kernel
theorem dX12_falls_198 : decode cX12_falls 198 = .ok (.iload 4, 2) := by decide +kernel
theorem dX12_falls_200 : decode cX12_falls 200 = .ok (.iaload, 1) := by decide +kernel
theorem dX12_falls_201 : decode cX12_falls 201 = .ok (.iconst 2, 1) := by decide +kernel
theorem dX12_falls_202 : decode cX12_falls 202 = .ok (.if_icmp .ne 74, 3) := by decide +kernel
theorem dX12_falls_205 : decode cX12_falls 205 = .ok (.aload_n 0, 1) := by decide +kernel
theorem dX12_falls_206 : decode cX12_falls 206 = .ok (.getfield 140, 3) := by decide +kernel
theorem dX12_falls_209 : decode cX12_falls 209 = .ok (.iload 4, 2) := by decide +kernel
theorem dX12_falls_211 : decode cX12_falls 211 = .ok (.iaload, 1) := by decide +kernel
theorem dX12_falls_212 : decode cX12_falls 212 = .ok (.iload_n 1, 1) := by decide +kernel
theorem dX12_falls_213 : decode cX12_falls 213 = .ok (.if_icmp .ne 63, 3) := by decide +kernel
theorem dX12_falls_216 : decode cX12_falls 216 = .ok (.aload_n 0, 1) := by decide +kernel
theorem dX12_falls_217 : decode cX12_falls 217 = .ok (.getfield 143, 3) := by decide +kernel
theorem dX12_falls_220 : decode cX12_falls 220 = .ok (.iload 4, 2) := by decide +kernel
theorem dX12_falls_222 : decode cX12_falls 222 = .ok (.iaload, 1) := by decide +kernel
theorem dX12_falls_223 : decode cX12_falls 223 = .ok (.iload_n 2, 1) := by decide +kernel
theorem dX12_falls_224 : decode cX12_falls 224 = .ok (.if_icmp .eq 6, 3) := by decide +kernel
theorem dX12_falls_227 : decode cX12_falls 227 = .ok (.goto 49, 3) := by decide +kernel
theorem dX12_falls_230 : decode cX12_falls 230 = .ok (.aload_n 0, 1) := by decide +kernel
theorem dX12_falls_231 : decode cX12_falls 231 = .ok (.getfield 128, 3) := by decide +kernel
theorem dX12_falls_234 : decode cX12_falls 234 = .ok (.iload 4, 2) := by decide +kernel
theorem dX12_falls_236 : decode cX12_falls 236 = .ok (.iconst 4, 1) := by decide +kernel
theorem dX12_falls_237 : decode cX12_falls 237 = .ok (.iastore, 1) := by decide +kernel
theorem dX12_falls_238 : decode cX12_falls 238 = .ok (.aload_n 0, 1) := by decide +kernel
theorem dX12_falls_239 : decode cX12_falls 239 = .ok (.getfield 131, 3) := by decide +kernel
theorem dX12_falls_242 : decode cX12_falls 242 = .ok (.iload 4, 2) := by decide +kernel
theorem dX12_falls_244 : decode cX12_falls 244 = .ok (.aload_n 0, 1) := by decide +kernel
theorem dX12_falls_245 : decode cX12_falls 245 = .ok (.getfield 110, 3) := by decide +kernel
theorem dX12_falls_248 : decode cX12_falls 248 = .ok (.iload 4, 2) := by decide +kernel
theorem dX12_falls_250 : decode cX12_falls 250 = .ok (.iaload, 1) := by decide +kernel
theorem dX12_falls_251 : decode cX12_falls 251 = .ok (.iastore, 1) := by decide +kernel
theorem dX12_falls_252 : decode cX12_falls 252 = .ok (.aload_n 0, 1) := by decide +kernel
theorem dX12_falls_253 : decode cX12_falls 253 = .ok (.getfield 134, 3) := by decide +kernel
theorem dX12_falls_256 : decode cX12_falls 256 = .ok (.iload 4, 2) := by decide +kernel
theorem dX12_falls_258 : decode cX12_falls 258 = .ok (.iconst (-1), 1) := by decide +kernel
theorem dX12_falls_259 : decode cX12_falls 259 = .ok (.iastore, 1) := by decide +kernel
theorem dX12_falls_260 : decode cX12_falls 260 = .ok (.aload_n 0, 1) := by decide +kernel
theorem dX12_falls_261 : decode cX12_falls 261 = .ok (.getfield 140, 3) := by decide +kernel
theorem dX12_falls_264 : decode cX12_falls 264 = .ok (.iload 4, 2) := by decide +kernel
theorem dX12_falls_266 : decode cX12_falls 266 = .ok (.iconst (-1), 1) := by decide +kernel
theorem dX12_falls_267 : decode cX12_falls 267 = .ok (.iastore, 1) := by decide +kernel
theorem dX12_falls_268 : decode cX12_falls 268 = .ok (.aload_n 0, 1) := by decide +kernel
theorem dX12_falls_269 : decode cX12_falls 269 = .ok (.getfield 143, 3) := by decide +kernel
theorem dX12_falls_272 : decode cX12_falls 272 = .ok (.iload 4, 2) := by decide +kernel
theorem dX12_falls_274 : decode cX12_falls 274 = .ok (.iconst (-1), 1) := by decide +kernel
theorem dX12_falls_275 : decode cX12_falls 275 = .ok (.iastore, 1) := by decide +kernel
theorem dX12_falls_276 : decode cX12_falls 276 = .ok (.iinc 4 1, 3) := by decide +kernel
theorem dX12_falls_279 : decode cX12_falls 279 = .ok (.goto (-94), 3) := by decide +kernel
theorem dX12_falls_282 : decode cX12_falls 282 = .ok (.return_, 1) := by decide +kernel
theorem okX12_falls : ab_okM MX12_falls 3 := ⟨by decide, ⟨by decide, by decide⟩, ab_in 2606 (by decide +kernel) (by decide +kernel), ab_in 99 (by decide +kernel) (by decide +kernel), by decide +kernel, by decide⟩
set_option maxHeartbeats 4000000 in
set_option maxRecDepth 100000 in
def lX12_falls_185 (v1 : Int32) (v2 : Int32) (K : ab_X → Prop)  (L185 : Int32 → ab_X → Prop) (v4 : Int32) (x : ab_X) : Prop := (((x.1 246 58) ≤ v4 → K x) ∧ (¬ (x.1 246 58) ≤ v4 → (vp_in v4 16 ∧ ((¬ (x.1 286 (Int32.toNatClampNeg v4)) = 2 → L185 (v4 + 1) x) ∧ ((x.1 286 (Int32.toNatClampNeg v4)) = 2 → (vp_in v4 16 ∧ ((¬ (x.1 290 (Int32.toNatClampNeg v4)) = v1 → L185 (v4 + 1) x) ∧ ((x.1 290 (Int32.toNatClampNeg v4)) = v1 → (vp_in v4 16 ∧ (((x.1 291 (Int32.toNatClampNeg v4)) = v2 → (vp_in v4 16 ∧ vp_in v4 16 ∧ vp_in v4 16 ∧ vp_in v4 16 ∧ vp_in v4 16 ∧ vp_in v4 16 ∧ L185 (v4 + 1) (wr (wr (wr (wr (wr x 286 (Int32.toNatClampNeg v4) 4) 287 (Int32.toNatClampNeg v4) ((wr x 286 (Int32.toNatClampNeg v4) 4).1 280 (Int32.toNatClampNeg v4))) 288 (Int32.toNatClampNeg v4) (-1)) 290 (Int32.toNatClampNeg v4) (-1)) 291 (Int32.toNatClampNeg v4) (-1)))) ∧ (¬ (x.1 291 (Int32.toNatClampNeg v4)) = v2 → L185 (v4 + 1) x)))))))))))
set_option maxHeartbeats 4000000 in
set_option maxRecDepth 100000 in
theorem sX12_falls_185 (v1 : Int32) (v2 : Int32) (v4 : Int32)  (x : ab_X) (K : ab_X → Prop)  (d bc bs : Nat) (hdp : 1 ≤ d)  (h : Lp2 (lX12_falls_185 v1 v2 K ) v4 x) : EW MX12_falls 185 [(0, .ref 246), (1, .int v1), (2, .int v2), (4, .int v4)] [] (aS x) d bc bs (liV K) := by
  refine Lp2.use (P := fun v4 x => EW MX12_falls 185 [(0, .ref 246), (1, .int v1), (2, .int v2), (4, .int v4)] [] (aS x) d bc bs (liV K)) (fun L185 v4 x hL185 h => ?_) v4 x h
  unfold lX12_falls_185 at h
  refine EW_iload (pc2 := 187) rfl dX12_falls_185 3 rfl ?_
  refine EW_aload_n (pc2 := 188) rfl dX12_falls_187 0 rfl ?_
  refine AW_geti ⟨gfRX12_366, rfl⟩ (pc2 := 191) rfl dX12_falls_188 q246 ?_
  refine EW_icmp_ge (tgt := 282) (pc2 := 194) rfl dX12_falls_191 (by decide) (fun q => ?_) (fun q => ?_)
  · replace h := h.1 q
    exact EW_vret rfl dX12_falls_282 ⟨_, rfl, rfl, h⟩
  · replace h := h.2 q
    refine EW_aload_n (pc2 := 195) rfl dX12_falls_194 0 rfl ?_
    refine AW_getr (r := 286) ⟨gfRX12_128, rfl⟩ (pc2 := 198) rfl dX12_falls_195 q246 rfl ?_
    refine EW_iload (pc2 := 200) rfl dX12_falls_198 3 rfl ?_
    obtain ⟨b16, h⟩ := h
    refine AW_iald (pc2 := 201) rfl dX12_falls_200 q286 b16 ?_
    refine EW_iconst (pc2 := 202) (v := 2) rfl dX12_falls_201 (by decide) ?_
    refine EW_icmp_ne (tgt := 276) (pc2 := 205) rfl dX12_falls_202 (by decide) (fun q => ?_) (fun q => ?_)
    · replace h := h.1 q
      refine EW_iinc (v4 + 1) (pc2 := 279) rfl dX12_falls_276 3 rfl rfl (by decide) [1, 2, 3, 0] [(0, .ref 246), (1, .int v1), (2, .int v2), (4, .int (v4 + 1))] rfl ?_
      refine EW_goto (tgt := 185) dX12_falls_279 (by decide) ?_
      exact hL185 (v4 + 1) x h
    · replace h := h.2 q
      refine EW_aload_n (pc2 := 206) rfl dX12_falls_205 0 rfl ?_
      refine AW_getr (r := 290) ⟨gfRX12_140, rfl⟩ (pc2 := 209) rfl dX12_falls_206 q246 rfl ?_
      refine EW_iload (pc2 := 211) rfl dX12_falls_209 3 rfl ?_
      obtain ⟨b17, h⟩ := h
      refine AW_iald (pc2 := 212) rfl dX12_falls_211 q290 b17 ?_
      refine EW_iload_n (pc2 := 213) rfl dX12_falls_212 1 rfl ?_
      refine EW_icmp_ne (tgt := 276) (pc2 := 216) rfl dX12_falls_213 (by decide) (fun q => ?_) (fun q => ?_)
      · replace h := h.1 q
        refine EW_iinc (v4 + 1) (pc2 := 279) rfl dX12_falls_276 3 rfl rfl (by decide) [1, 2, 3, 0] [(0, .ref 246), (1, .int v1), (2, .int v2), (4, .int (v4 + 1))] rfl ?_
        refine EW_goto (tgt := 185) dX12_falls_279 (by decide) ?_
        exact hL185 (v4 + 1) x h
      · replace h := h.2 q
        refine EW_aload_n (pc2 := 217) rfl dX12_falls_216 0 rfl ?_
        refine AW_getr (r := 291) ⟨gfRX12_143, rfl⟩ (pc2 := 220) rfl dX12_falls_217 q246 rfl ?_
        refine EW_iload (pc2 := 222) rfl dX12_falls_220 3 rfl ?_
        obtain ⟨b18, h⟩ := h
        refine AW_iald (pc2 := 223) rfl dX12_falls_222 q291 b18 ?_
        refine EW_iload_n (pc2 := 224) rfl dX12_falls_223 2 rfl ?_
        refine EW_icmp_eq (tgt := 230) (pc2 := 227) rfl dX12_falls_224 (by decide) (fun q => ?_) (fun q => ?_)
        · replace h := h.1 q
          refine EW_aload_n (pc2 := 231) rfl dX12_falls_230 0 rfl ?_
          refine AW_getr (r := 286) ⟨gfRX12_128, rfl⟩ (pc2 := 234) rfl dX12_falls_231 q246 rfl ?_
          refine EW_iload (pc2 := 236) rfl dX12_falls_234 3 rfl ?_
          refine EW_iconst (pc2 := 237) (v := 4) rfl dX12_falls_236 (by decide) ?_
          obtain ⟨b19, h⟩ := h
          refine AW_iast (pc2 := 238) rfl dX12_falls_237 q286 b19 ?_
          refine EW_aload_n (pc2 := 239) rfl dX12_falls_238 0 rfl ?_
          refine AW_getr (r := 287) ⟨gfRX12_131, rfl⟩ (pc2 := 242) rfl dX12_falls_239 q246 rfl ?_
          refine EW_iload (pc2 := 244) rfl dX12_falls_242 3 rfl ?_
          refine EW_aload_n (pc2 := 245) rfl dX12_falls_244 0 rfl ?_
          refine AW_getr (r := 280) ⟨gfRX12_110, rfl⟩ (pc2 := 248) rfl dX12_falls_245 q246 rfl ?_
          refine EW_iload (pc2 := 250) rfl dX12_falls_248 3 rfl ?_
          obtain ⟨b20, h⟩ := h
          refine AW_iald (pc2 := 251) rfl dX12_falls_250 q280 b20 ?_
          obtain ⟨b21, h⟩ := h
          refine AW_iast (pc2 := 252) rfl dX12_falls_251 q287 b21 ?_
          refine EW_aload_n (pc2 := 253) rfl dX12_falls_252 0 rfl ?_
          refine AW_getr (r := 288) ⟨gfRX12_134, rfl⟩ (pc2 := 256) rfl dX12_falls_253 q246 rfl ?_
          refine EW_iload (pc2 := 258) rfl dX12_falls_256 3 rfl ?_
          refine EW_iconst (pc2 := 259) (v := (-1)) rfl dX12_falls_258 (by decide) ?_
          obtain ⟨b22, h⟩ := h
          refine AW_iast (pc2 := 260) rfl dX12_falls_259 q288 b22 ?_
          refine EW_aload_n (pc2 := 261) rfl dX12_falls_260 0 rfl ?_
          refine AW_getr (r := 290) ⟨gfRX12_140, rfl⟩ (pc2 := 264) rfl dX12_falls_261 q246 rfl ?_
          refine EW_iload (pc2 := 266) rfl dX12_falls_264 3 rfl ?_
          refine EW_iconst (pc2 := 267) (v := (-1)) rfl dX12_falls_266 (by decide) ?_
          obtain ⟨b23, h⟩ := h
          refine AW_iast (pc2 := 268) rfl dX12_falls_267 q290 b23 ?_
          refine EW_aload_n (pc2 := 269) rfl dX12_falls_268 0 rfl ?_
          refine AW_getr (r := 291) ⟨gfRX12_143, rfl⟩ (pc2 := 272) rfl dX12_falls_269 q246 rfl ?_
          refine EW_iload (pc2 := 274) rfl dX12_falls_272 3 rfl ?_
          refine EW_iconst (pc2 := 275) (v := (-1)) rfl dX12_falls_274 (by decide) ?_
          obtain ⟨b24, h⟩ := h
          refine AW_iast (pc2 := 276) rfl dX12_falls_275 q291 b24 ?_
          refine EW_iinc (v4 + 1) (pc2 := 279) rfl dX12_falls_276 3 rfl rfl (by decide) [1, 2, 3, 0] [(0, .ref 246), (1, .int v1), (2, .int v2), (4, .int (v4 + 1))] rfl ?_
          refine EW_goto (tgt := 185) dX12_falls_279 (by decide) ?_
          exact hL185 (v4 + 1) (wr (wr (wr (wr (wr x 286 (Int32.toNatClampNeg v4) 4) 287 (Int32.toNatClampNeg v4) ((wr x 286 (Int32.toNatClampNeg v4) 4).1 280 (Int32.toNatClampNeg v4))) 288 (Int32.toNatClampNeg v4) (-1)) 290 (Int32.toNatClampNeg v4) (-1)) 291 (Int32.toNatClampNeg v4) (-1)) h
        · replace h := h.2 q
          refine EW_goto (tgt := 276) dX12_falls_227 (by decide) ?_
          refine EW_iinc (v4 + 1) (pc2 := 279) rfl dX12_falls_276 3 rfl rfl (by decide) [1, 2, 3, 0] [(0, .ref 246), (1, .int v1), (2, .int v2), (4, .int (v4 + 1))] rfl ?_
          refine EW_goto (tgt := 185) dX12_falls_279 (by decide) ?_
          exact hL185 (v4 + 1) x h
set_option maxHeartbeats 4000000 in
set_option maxRecDepth 100000 in
def wX12_falls_123 (v1 : Int32) (v2 : Int32) (v3 : Int32) (v4 : Int32) (v5 : Int32) (x : ab_X) (K : ab_X → Prop) (L15 : Int32 → ab_X → Prop) : Prop := (vp_in v5 288 ∧ vp_in v5 288 ∧ L15 (v4 + 1) (wr (wr x 266 (Int32.toNatClampNeg v5) 0) 267 (Int32.toNatClampNeg v5) 0))
set_option maxHeartbeats 4000000 in
set_option maxRecDepth 100000 in
theorem sX12_falls_123 (v1 : Int32) (v2 : Int32) (v3 : Int32) (v4 : Int32) (v5 : Int32)  (x : ab_X) (K : ab_X → Prop) (L15 : Int32 → ab_X → Prop) (d bc bs : Nat) (hdp : 1 ≤ d) (hL15 : ∀ (v4 : Int32) (x : ab_X), L15 v4 x → EW MX12_falls 15 [(0, .ref 246), (1, .int v1), (2, .int v2), (3, .int v3), (4, .int v4)] [] (aS x) d bc bs (liV K)) (h : wX12_falls_123 v1 v2 v3 v4 v5 x K L15) : EW MX12_falls 123 [(0, .ref 246), (1, .int v1), (2, .int v2), (3, .int v3), (4, .int v4), (5, .int v5)] [] (aS x) d bc bs (liV K) := by
  unfold wX12_falls_123 at h
  refine EW_aload_n (pc2 := 124) rfl dX12_falls_123 0 rfl ?_
  refine AW_getr (r := 266) ⟨gfRX12_68, rfl⟩ (pc2 := 127) rfl dX12_falls_124 q246 rfl ?_
  refine EW_iload (pc2 := 129) rfl dX12_falls_127 5 rfl ?_
  refine EW_iconst (pc2 := 130) (v := 0) rfl dX12_falls_129 (by decide) ?_
  obtain ⟨b25, h⟩ := h
  refine AW_iast (pc2 := 131) rfl dX12_falls_130 q266 b25 ?_
  refine EW_aload_n (pc2 := 132) rfl dX12_falls_131 0 rfl ?_
  refine AW_getr (r := 267) ⟨gfRX12_71, rfl⟩ (pc2 := 135) rfl dX12_falls_132 q246 rfl ?_
  refine EW_iload (pc2 := 137) rfl dX12_falls_135 5 rfl ?_
  refine EW_iconst (pc2 := 138) (v := 0) rfl dX12_falls_137 (by decide) ?_
  obtain ⟨b26, h⟩ := h
  refine AW_iast (pc2 := 139) rfl dX12_falls_138 q267 b26 ?_
  refine EW_iinc (v4 + 1) (pc2 := 142) rfl dX12_falls_139 4 rfl rfl (by decide) [1, 2, 3, 4, 0, 5] [(0, .ref 246), (1, .int v1), (2, .int v2), (3, .int v3), (4, .int (v4 + 1)), (5, .int v5)] rfl ?_
  refine EW_goto (tgt := 15) dX12_falls_142 (by decide) ?_
  refine EW_ls [0, 1, 2, 3, 4] rfl ?_
  exact hL15 (v4 + 1) (wr (wr x 266 (Int32.toNatClampNeg v5) 0) 267 (Int32.toNatClampNeg v5) 0) h
set_option maxHeartbeats 4000000 in
set_option maxRecDepth 100000 in
def lX12_falls_15 (v1 : Int32) (v2 : Int32) (v3 : Int32) (K : ab_X → Prop)  (L15 : Int32 → ab_X → Prop) (v4 : Int32) (x : ab_X) : Prop := (vp_in v1 12 ∧ (((x.1 257 (Int32.toNatClampNeg v1)) ≤ v4 → ((¬ v3 = 0 → (vp_in v1 12 ∧ vp_in ((6 * v1) + v2) 72 ∧ vp_in v1 12 ∧ vp_in ((6 * v1) + v2) 72 ∧ Lp2 (lX12_falls_185 v1 v2 K ) 0 (wr (wr x 263 (Int32.toNatClampNeg v1) ((x.1 263 (Int32.toNatClampNeg v1)) + (x.1 272 (Int32.toNatClampNeg ((6 * v1) + v2))))) 272 (Int32.toNatClampNeg ((6 * v1) + v2)) 0))) ∧ (v3 = 0 → K x))) ∧ (¬ (x.1 257 (Int32.toNatClampNeg v1)) ≤ v4 → (vp_in v1 12 ∧ vp_in v1 12 ∧ vp_in ((((24 * v1) + (v2 * (x.1 257 (Int32.toNatClampNeg v1)))) + v4) - (x.1 257 (Int32.toNatClampNeg v1))) 288 ∧ vp_in (((24 * v1) + (v2 * (x.1 257 (Int32.toNatClampNeg v1)))) + v4) 288 ∧ vp_in ((((24 * v1) + (v2 * (x.1 257 (Int32.toNatClampNeg v1)))) + v4) - (x.1 257 (Int32.toNatClampNeg v1))) 288 ∧ vp_in (((6 * v1) + v2) - 1) 72 ∧ ((¬ ((wr x 267 (Int32.toNatClampNeg ((((24 * v1) + (v2 * (x.1 257 (Int32.toNatClampNeg v1)))) + v4) - (x.1 257 (Int32.toNatClampNeg v1)))) (imin 2000 ((x.1 267 (Int32.toNatClampNeg ((((24 * v1) + (v2 * (x.1 257 (Int32.toNatClampNeg v1)))) + v4) - (x.1 257 (Int32.toNatClampNeg v1))))) + (x.1 267 (Int32.toNatClampNeg (((24 * v1) + (v2 * (x.1 257 (Int32.toNatClampNeg v1)))) + v4)))))).1 274 (Int32.toNatClampNeg (((6 * v1) + v2) - 1))) = 0 → wX12_falls_123 v1 v2 v3 v4 (((24 * v1) + (v2 * (x.1 257 (Int32.toNatClampNeg v1)))) + v4) (wr x 267 (Int32.toNatClampNeg ((((24 * v1) + (v2 * (x.1 257 (Int32.toNatClampNeg v1)))) + v4) - (x.1 257 (Int32.toNatClampNeg v1)))) (imin 2000 ((x.1 267 (Int32.toNatClampNeg ((((24 * v1) + (v2 * (x.1 257 (Int32.toNatClampNeg v1)))) + v4) - (x.1 257 (Int32.toNatClampNeg v1))))) + (x.1 267 (Int32.toNatClampNeg (((24 * v1) + (v2 * (x.1 257 (Int32.toNatClampNeg v1)))) + v4)))))) K L15) ∧ (((wr x 267 (Int32.toNatClampNeg ((((24 * v1) + (v2 * (x.1 257 (Int32.toNatClampNeg v1)))) + v4) - (x.1 257 (Int32.toNatClampNeg v1)))) (imin 2000 ((x.1 267 (Int32.toNatClampNeg ((((24 * v1) + (v2 * (x.1 257 (Int32.toNatClampNeg v1)))) + v4) - (x.1 257 (Int32.toNatClampNeg v1))))) + (x.1 267 (Int32.toNatClampNeg (((24 * v1) + (v2 * (x.1 257 (Int32.toNatClampNeg v1)))) + v4)))))).1 274 (Int32.toNatClampNeg (((6 * v1) + v2) - 1))) = 0 → (vp_in ((((24 * v1) + (v2 * (x.1 257 (Int32.toNatClampNeg v1)))) + v4) - (x.1 257 (Int32.toNatClampNeg v1))) 288 ∧ vp_in (((24 * v1) + (v2 * (x.1 257 (Int32.toNatClampNeg v1)))) + v4) 288 ∧ vp_in ((((24 * v1) + (v2 * (x.1 257 (Int32.toNatClampNeg v1)))) + v4) - (x.1 257 (Int32.toNatClampNeg v1))) 288 ∧ wX12_falls_123 v1 v2 v3 v4 (((24 * v1) + (v2 * (x.1 257 (Int32.toNatClampNeg v1)))) + v4) (wr (wr x 267 (Int32.toNatClampNeg ((((24 * v1) + (v2 * (x.1 257 (Int32.toNatClampNeg v1)))) + v4) - (x.1 257 (Int32.toNatClampNeg v1)))) (imin 2000 ((x.1 267 (Int32.toNatClampNeg ((((24 * v1) + (v2 * (x.1 257 (Int32.toNatClampNeg v1)))) + v4) - (x.1 257 (Int32.toNatClampNeg v1))))) + (x.1 267 (Int32.toNatClampNeg (((24 * v1) + (v2 * (x.1 257 (Int32.toNatClampNeg v1)))) + v4)))))) 266 (Int32.toNatClampNeg ((((24 * v1) + (v2 * (x.1 257 (Int32.toNatClampNeg v1)))) + v4) - (x.1 257 (Int32.toNatClampNeg v1)))) (imax ((wr x 267 (Int32.toNatClampNeg ((((24 * v1) + (v2 * (x.1 257 (Int32.toNatClampNeg v1)))) + v4) - (x.1 257 (Int32.toNatClampNeg v1)))) (imin 2000 ((x.1 267 (Int32.toNatClampNeg ((((24 * v1) + (v2 * (x.1 257 (Int32.toNatClampNeg v1)))) + v4) - (x.1 257 (Int32.toNatClampNeg v1))))) + (x.1 267 (Int32.toNatClampNeg (((24 * v1) + (v2 * (x.1 257 (Int32.toNatClampNeg v1)))) + v4)))))).1 266 (Int32.toNatClampNeg ((((24 * v1) + (v2 * (x.1 257 (Int32.toNatClampNeg v1)))) + v4) - (x.1 257 (Int32.toNatClampNeg v1))))) ((wr x 267 (Int32.toNatClampNeg ((((24 * v1) + (v2 * (x.1 257 (Int32.toNatClampNeg v1)))) + v4) - (x.1 257 (Int32.toNatClampNeg v1)))) (imin 2000 ((x.1 267 (Int32.toNatClampNeg ((((24 * v1) + (v2 * (x.1 257 (Int32.toNatClampNeg v1)))) + v4) - (x.1 257 (Int32.toNatClampNeg v1))))) + (x.1 267 (Int32.toNatClampNeg (((24 * v1) + (v2 * (x.1 257 (Int32.toNatClampNeg v1)))) + v4)))))).1 266 (Int32.toNatClampNeg (((24 * v1) + (v2 * (x.1 257 (Int32.toNatClampNeg v1)))) + v4))))) K L15)))))))
set_option maxHeartbeats 4000000 in
set_option maxRecDepth 100000 in
theorem sX12_falls_15 (v1 : Int32) (v2 : Int32) (v3 : Int32) (v4 : Int32)  (x : ab_X) (K : ab_X → Prop)  (d bc bs : Nat) (hdp : 1 ≤ d)  (h : Lp2 (lX12_falls_15 v1 v2 v3 K ) v4 x) : EW MX12_falls 15 [(0, .ref 246), (1, .int v1), (2, .int v2), (3, .int v3), (4, .int v4)] [] (aS x) d bc bs (liV K) := by
  refine Lp2.use (P := fun v4 x => EW MX12_falls 15 [(0, .ref 246), (1, .int v1), (2, .int v2), (3, .int v3), (4, .int v4)] [] (aS x) d bc bs (liV K)) (fun L15 v4 x hL15 h => ?_) v4 x h
  unfold lX12_falls_15 at h
  refine EW_iload (pc2 := 17) rfl dX12_falls_15 4 rfl ?_
  refine EW_aload_n (pc2 := 18) rfl dX12_falls_17 0 rfl ?_
  refine AW_getr (r := 257) ⟨gfRX12_41, rfl⟩ (pc2 := 21) rfl dX12_falls_18 q246 rfl ?_
  refine EW_iload_n (pc2 := 22) rfl dX12_falls_21 1 rfl ?_
  obtain ⟨b2, h⟩ := h
  refine AW_iald (pc2 := 23) rfl dX12_falls_22 q257 b2 ?_
  refine EW_icmp_ge (tgt := 145) (pc2 := 26) rfl dX12_falls_23 (by decide) (fun q => ?_) (fun q => ?_)
  · replace h := h.1 q
    refine EW_iload_n (pc2 := 146) rfl dX12_falls_145 3 rfl ?_
    refine EW_if_ne (tgt := 150) (pc2 := 149) rfl dX12_falls_146 (by decide) (fun q => ?_) (fun q => ?_)
    · replace h := h.1 q
      refine EW_aload_n (pc2 := 151) rfl dX12_falls_150 0 rfl ?_
      refine AW_getr (r := 263) ⟨gfRX12_59, rfl⟩ (pc2 := 154) rfl dX12_falls_151 q246 rfl ?_
      refine EW_iload_n (pc2 := 155) rfl dX12_falls_154 1 rfl ?_
      refine EW_dup2 (pc2 := 156) rfl dX12_falls_155 rfl rfl ?_
      obtain ⟨b3, h⟩ := h
      refine AW_iald (pc2 := 157) rfl dX12_falls_156 q263 b3 ?_
      refine EW_aload_n (pc2 := 158) rfl dX12_falls_157 0 rfl ?_
      refine AW_getr (r := 272) ⟨gfRX12_86, rfl⟩ (pc2 := 161) rfl dX12_falls_158 q246 rfl ?_
      refine EW_bipush (pc2 := 163) (v := 6) rfl dX12_falls_161 (by decide) ?_
      refine EW_iload_n (pc2 := 164) rfl dX12_falls_163 1 rfl ?_
      refine EW_imul (pc2 := 165) rfl dX12_falls_164 ?_
      refine EW_iload_n (pc2 := 166) rfl dX12_falls_165 2 rfl ?_
      refine EW_iadd (pc2 := 167) rfl dX12_falls_166 ?_
      obtain ⟨b4, h⟩ := h
      refine AW_iald (pc2 := 168) rfl dX12_falls_167 q272 b4 ?_
      refine EW_iadd (pc2 := 169) rfl dX12_falls_168 ?_
      obtain ⟨b5, h⟩ := h
      refine AW_iast (pc2 := 170) rfl dX12_falls_169 q263 b5 ?_
      refine EW_aload_n (pc2 := 171) rfl dX12_falls_170 0 rfl ?_
      refine AW_getr (r := 272) ⟨gfRX12_86, rfl⟩ (pc2 := 174) rfl dX12_falls_171 q246 rfl ?_
      refine EW_bipush (pc2 := 176) (v := 6) rfl dX12_falls_174 (by decide) ?_
      refine EW_iload_n (pc2 := 177) rfl dX12_falls_176 1 rfl ?_
      refine EW_imul (pc2 := 178) rfl dX12_falls_177 ?_
      refine EW_iload_n (pc2 := 179) rfl dX12_falls_178 2 rfl ?_
      refine EW_iadd (pc2 := 180) rfl dX12_falls_179 ?_
      refine EW_iconst (pc2 := 181) (v := 0) rfl dX12_falls_180 (by decide) ?_
      obtain ⟨b6, h⟩ := h
      refine AW_iast (pc2 := 182) rfl dX12_falls_181 q272 b6 ?_
      refine EW_iconst (pc2 := 183) (v := 0) rfl dX12_falls_182 (by decide) ?_
      refine EW_istore (pc2 := 185) rfl dX12_falls_183 (by decide) [1, 2, 3, 4, 0] [(0, .ref 246), (1, .int v1), (2, .int v2), (3, .int v3), (4, .int 0)] rfl ?_
      refine EW_ls [0, 1, 2, 4] rfl ?_
      exact sX12_falls_185 v1 v2 0 (wr (wr x 263 (Int32.toNatClampNeg v1) ((x.1 263 (Int32.toNatClampNeg v1)) + (x.1 272 (Int32.toNatClampNeg ((6 * v1) + v2))))) 272 (Int32.toNatClampNeg ((6 * v1) + v2)) 0) K d bc bs hdp h
    · replace h := h.2 q
      exact EW_vret rfl dX12_falls_149 ⟨_, rfl, rfl, h⟩
  · replace h := h.2 q
    refine EW_bipush (pc2 := 28) (v := 24) rfl dX12_falls_26 (by decide) ?_
    refine EW_iload_n (pc2 := 29) rfl dX12_falls_28 1 rfl ?_
    refine EW_imul (pc2 := 30) rfl dX12_falls_29 ?_
    refine EW_iload_n (pc2 := 31) rfl dX12_falls_30 2 rfl ?_
    refine EW_aload_n (pc2 := 32) rfl dX12_falls_31 0 rfl ?_
    refine AW_getr (r := 257) ⟨gfRX12_41, rfl⟩ (pc2 := 35) rfl dX12_falls_32 q246 rfl ?_
    refine EW_iload_n (pc2 := 36) rfl dX12_falls_35 1 rfl ?_
    obtain ⟨b7, h⟩ := h
    refine AW_iald (pc2 := 37) rfl dX12_falls_36 q257 b7 ?_
    refine EW_imul (pc2 := 38) rfl dX12_falls_37 ?_
    refine EW_iadd (pc2 := 39) rfl dX12_falls_38 ?_
    refine EW_iload (pc2 := 41) rfl dX12_falls_39 4 rfl ?_
    refine EW_iadd (pc2 := 42) rfl dX12_falls_41 ?_
    refine EW_istore (pc2 := 44) rfl dX12_falls_42 (by decide) [1, 2, 3, 4, 5, 0] [(0, .ref 246), (1, .int v1), (2, .int v2), (3, .int v3), (4, .int v4), (5, .int (((24 * v1) + (v2 * (x.1 257 (Int32.toNatClampNeg v1)))) + v4))] rfl ?_
    refine EW_iload (pc2 := 46) rfl dX12_falls_44 5 rfl ?_
    refine EW_aload_n (pc2 := 47) rfl dX12_falls_46 0 rfl ?_
    refine AW_getr (r := 257) ⟨gfRX12_41, rfl⟩ (pc2 := 50) rfl dX12_falls_47 q246 rfl ?_
    refine EW_iload_n (pc2 := 51) rfl dX12_falls_50 1 rfl ?_
    obtain ⟨b8, h⟩ := h
    refine AW_iald (pc2 := 52) rfl dX12_falls_51 q257 b8 ?_
    refine EW_isub (pc2 := 53) rfl dX12_falls_52 ?_
    refine EW_istore (pc2 := 55) rfl dX12_falls_53 (by decide) [1, 2, 3, 4, 5, 6, 0] [(0, .ref 246), (1, .int v1), (2, .int v2), (3, .int v3), (4, .int v4), (5, .int (((24 * v1) + (v2 * (x.1 257 (Int32.toNatClampNeg v1)))) + v4)), (6, .int ((((24 * v1) + (v2 * (x.1 257 (Int32.toNatClampNeg v1)))) + v4) - (x.1 257 (Int32.toNatClampNeg v1))))] rfl ?_
    refine EW_aload_n (pc2 := 56) rfl dX12_falls_55 0 rfl ?_
    refine AW_getr (r := 267) ⟨gfRX12_71, rfl⟩ (pc2 := 59) rfl dX12_falls_56 q246 rfl ?_
    refine EW_iload (pc2 := 61) rfl dX12_falls_59 6 rfl ?_
    refine EW_sipush (pc2 := 64) (v := 2000) rfl dX12_falls_61 (by decide) ?_
    refine EW_aload_n (pc2 := 65) rfl dX12_falls_64 0 rfl ?_
    refine AW_getr (r := 267) ⟨gfRX12_71, rfl⟩ (pc2 := 68) rfl dX12_falls_65 q246 rfl ?_
    refine EW_iload (pc2 := 70) rfl dX12_falls_68 6 rfl ?_
    obtain ⟨b9, h⟩ := h
    refine AW_iald (pc2 := 71) rfl dX12_falls_70 q267 b9 ?_
    refine EW_aload_n (pc2 := 72) rfl dX12_falls_71 0 rfl ?_
    refine AW_getr (r := 267) ⟨gfRX12_71, rfl⟩ (pc2 := 75) rfl dX12_falls_72 q246 rfl ?_
    refine EW_iload (pc2 := 77) rfl dX12_falls_75 5 rfl ?_
    obtain ⟨b10, h⟩ := h
    refine AW_iald (pc2 := 78) rfl dX12_falls_77 q267 b10 ?_
    refine EW_iadd (pc2 := 79) rfl dX12_falls_78 ?_
    refine AW_mmin mmRX12_311 (pc2 := 82) rfl dX12_falls_79 (Nat.le_of_ble_eq_true rfl) (by omega) ?_
    obtain ⟨b11, h⟩ := h
    refine AW_iast (pc2 := 83) rfl dX12_falls_82 q267 b11 ?_
    refine EW_aload_n (pc2 := 84) rfl dX12_falls_83 0 rfl ?_
    refine AW_getr (r := 274) ⟨gfRX12_92, rfl⟩ (pc2 := 87) rfl dX12_falls_84 q246 rfl ?_
    refine EW_bipush (pc2 := 89) (v := 6) rfl dX12_falls_87 (by decide) ?_
    refine EW_iload_n (pc2 := 90) rfl dX12_falls_89 1 rfl ?_
    refine EW_imul (pc2 := 91) rfl dX12_falls_90 ?_
    refine EW_iload_n (pc2 := 92) rfl dX12_falls_91 2 rfl ?_
    refine EW_iadd (pc2 := 93) rfl dX12_falls_92 ?_
    refine EW_iconst (pc2 := 94) (v := 1) rfl dX12_falls_93 (by decide) ?_
    refine EW_isub (pc2 := 95) rfl dX12_falls_94 ?_
    obtain ⟨b12, h⟩ := h
    refine AW_zald (pc2 := 96) rfl dX12_falls_95 q274 b12 ?_
    refine EW_if_ne (tgt := 123) (pc2 := 99) rfl dX12_falls_96 (by decide) (fun q => ?_) (fun q => ?_)
    · replace h := h.1 q
      refine EW_ls [0, 1, 2, 3, 4, 5] rfl ?_
      exact sX12_falls_123 v1 v2 v3 v4 (((24 * v1) + (v2 * (x.1 257 (Int32.toNatClampNeg v1)))) + v4) (wr x 267 (Int32.toNatClampNeg ((((24 * v1) + (v2 * (x.1 257 (Int32.toNatClampNeg v1)))) + v4) - (x.1 257 (Int32.toNatClampNeg v1)))) (imin 2000 ((x.1 267 (Int32.toNatClampNeg ((((24 * v1) + (v2 * (x.1 257 (Int32.toNatClampNeg v1)))) + v4) - (x.1 257 (Int32.toNatClampNeg v1))))) + (x.1 267 (Int32.toNatClampNeg (((24 * v1) + (v2 * (x.1 257 (Int32.toNatClampNeg v1)))) + v4)))))) K L15 d bc bs hdp hL15 h
    · replace h := h.2 q
      refine EW_aload_n (pc2 := 100) rfl dX12_falls_99 0 rfl ?_
      refine AW_getr (r := 266) ⟨gfRX12_68, rfl⟩ (pc2 := 103) rfl dX12_falls_100 q246 rfl ?_
      refine EW_iload (pc2 := 105) rfl dX12_falls_103 6 rfl ?_
      refine EW_aload_n (pc2 := 106) rfl dX12_falls_105 0 rfl ?_
      refine AW_getr (r := 266) ⟨gfRX12_68, rfl⟩ (pc2 := 109) rfl dX12_falls_106 q246 rfl ?_
      refine EW_iload (pc2 := 111) rfl dX12_falls_109 6 rfl ?_
      obtain ⟨b13, h⟩ := h
      refine AW_iald (pc2 := 112) rfl dX12_falls_111 q266 b13 ?_
      refine EW_aload_n (pc2 := 113) rfl dX12_falls_112 0 rfl ?_
      refine AW_getr (r := 266) ⟨gfRX12_68, rfl⟩ (pc2 := 116) rfl dX12_falls_113 q246 rfl ?_
      refine EW_iload (pc2 := 118) rfl dX12_falls_116 5 rfl ?_
      obtain ⟨b14, h⟩ := h
      refine AW_iald (pc2 := 119) rfl dX12_falls_118 q266 b14 ?_
      refine AW_mmax mmRX12_357 (pc2 := 122) rfl dX12_falls_119 (Nat.le_of_ble_eq_true rfl) (by omega) ?_
      obtain ⟨b15, h⟩ := h
      refine AW_iast (pc2 := 123) rfl dX12_falls_122 q266 b15 ?_
      refine EW_ls [0, 1, 2, 3, 4, 5] rfl ?_
      exact sX12_falls_123 v1 v2 v3 v4 (((24 * v1) + (v2 * (x.1 257 (Int32.toNatClampNeg v1)))) + v4) (wr (wr x 267 (Int32.toNatClampNeg ((((24 * v1) + (v2 * (x.1 257 (Int32.toNatClampNeg v1)))) + v4) - (x.1 257 (Int32.toNatClampNeg v1)))) (imin 2000 ((x.1 267 (Int32.toNatClampNeg ((((24 * v1) + (v2 * (x.1 257 (Int32.toNatClampNeg v1)))) + v4) - (x.1 257 (Int32.toNatClampNeg v1))))) + (x.1 267 (Int32.toNatClampNeg (((24 * v1) + (v2 * (x.1 257 (Int32.toNatClampNeg v1)))) + v4)))))) 266 (Int32.toNatClampNeg ((((24 * v1) + (v2 * (x.1 257 (Int32.toNatClampNeg v1)))) + v4) - (x.1 257 (Int32.toNatClampNeg v1)))) (imax ((wr x 267 (Int32.toNatClampNeg ((((24 * v1) + (v2 * (x.1 257 (Int32.toNatClampNeg v1)))) + v4) - (x.1 257 (Int32.toNatClampNeg v1)))) (imin 2000 ((x.1 267 (Int32.toNatClampNeg ((((24 * v1) + (v2 * (x.1 257 (Int32.toNatClampNeg v1)))) + v4) - (x.1 257 (Int32.toNatClampNeg v1))))) + (x.1 267 (Int32.toNatClampNeg (((24 * v1) + (v2 * (x.1 257 (Int32.toNatClampNeg v1)))) + v4)))))).1 266 (Int32.toNatClampNeg ((((24 * v1) + (v2 * (x.1 257 (Int32.toNatClampNeg v1)))) + v4) - (x.1 257 (Int32.toNatClampNeg v1))))) ((wr x 267 (Int32.toNatClampNeg ((((24 * v1) + (v2 * (x.1 257 (Int32.toNatClampNeg v1)))) + v4) - (x.1 257 (Int32.toNatClampNeg v1)))) (imin 2000 ((x.1 267 (Int32.toNatClampNeg ((((24 * v1) + (v2 * (x.1 257 (Int32.toNatClampNeg v1)))) + v4) - (x.1 257 (Int32.toNatClampNeg v1))))) + (x.1 267 (Int32.toNatClampNeg (((24 * v1) + (v2 * (x.1 257 (Int32.toNatClampNeg v1)))) + v4)))))).1 266 (Int32.toNatClampNeg (((24 * v1) + (v2 * (x.1 257 (Int32.toNatClampNeg v1)))) + v4))))) K L15 d bc bs hdp hL15 h
set_option maxHeartbeats 4000000 in
set_option maxRecDepth 100000 in
def wX12_falls (v1 : Int32) (v2 : Int32) (v3 : Int32) (x : ab_X) (K : ab_X → Prop) : Prop := (vp_in ((6 * v1) + v2) 72 ∧ Lp2 (lX12_falls_15 v1 v2 v3 K ) 0 (wr x 274 (Int32.toNatClampNeg ((6 * v1) + v2)) 1))
set_option maxHeartbeats 4000000 in
set_option maxRecDepth 100000 in
theorem sX12_falls (v1 : Int32) (v2 : Int32) (v3 : Int32)  (x : ab_X) (K : ab_X → Prop) (d bc bs : Nat) (hdp : 1 ≤ d) (h : wX12_falls v1 v2 v3 x K) : EW MX12_falls 0 [(0, .ref 246), (1, .int v1), (2, .int v2), (3, .int v3)] [] (aS x) d bc bs (liV K) := by
  unfold wX12_falls at h
  refine EW_aload_n (pc2 := 1) rfl dX12_falls_0 0 rfl ?_
  refine AW_getr (r := 274) ⟨gfRX12_92, rfl⟩ (pc2 := 4) rfl dX12_falls_1 q246 rfl ?_
  refine EW_bipush (pc2 := 6) (v := 6) rfl dX12_falls_4 (by decide) ?_
  refine EW_iload_n (pc2 := 7) rfl dX12_falls_6 1 rfl ?_
  refine EW_imul (pc2 := 8) rfl dX12_falls_7 ?_
  refine EW_iload_n (pc2 := 9) rfl dX12_falls_8 2 rfl ?_
  refine EW_iadd (pc2 := 10) rfl dX12_falls_9 ?_
  refine EW_iconst (pc2 := 11) (v := 1) rfl dX12_falls_10 (by decide) ?_
  obtain ⟨b1, h⟩ := h
  refine AW_zast (pc2 := 12) rfl dX12_falls_11 q274 b1 isB1 ?_
  refine EW_iconst (pc2 := 13) (v := 0) rfl dX12_falls_12 (by decide) ?_
  refine EW_istore (pc2 := 15) rfl dX12_falls_13 (by decide) [1, 2, 3, 4, 0] [(0, .ref 246), (1, .int v1), (2, .int v2), (3, .int v3), (4, .int 0)] rfl ?_
  exact sX12_falls_15 v1 v2 v3 0 (wr x 274 (Int32.toNatClampNeg ((6 * v1) + v2)) 1) K d bc bs hdp h
abbrev MX12_fromBeside : ab_M := (yX12_fromBeside, cX12_fromBeside, 6, (some .int))
theorem dX12_fromBeside_0 : decode cX12_fromBeside 0 = .ok (.iload_n 2, 1) := by decide +kernel
theorem dX12_fromBeside_1 : decode cX12_fromBeside 1 = .ok (.iconst (-1), 1) := by decide +kernel
theorem dX12_fromBeside_2 : decode cX12_fromBeside 2 = .ok (.if_icmp .eq 13, 3) := by decide +kernel
theorem dX12_fromBeside_5 : decode cX12_fromBeside 5 = .ok (.iload_n 3, 1) := by decide +kernel
theorem dX12_fromBeside_6 : decode cX12_fromBeside 6 = .ok (.aload_n 0, 1) := by decide +kernel
theorem dX12_fromBeside_7 : decode cX12_fromBeside 7 = .ok (.getfield 38, 3) := by decide +kernel
theorem dX12_fromBeside_10 : decode cX12_fromBeside 10 = .ok (.iload_n 2, 1) := by decide +kernel
theorem dX12_fromBeside_11 : decode cX12_fromBeside 11 = .ok (.iaload, 1) := by decide +kernel
theorem dX12_fromBeside_12 : decode cX12_fromBeside 12 = .ok (.if_icmp .lt 5, 3) := by decide +kernel
theorem dX12_fromBeside_15 : decode cX12_fromBeside 15 = .ok (.iconst 0, 1) := by decide +kernel
theorem dX12_fromBeside_16 : decode cX12_fromBeside 16 = .ok (.ireturn, 1) := by decide +kernel
theorem dX12_fromBeside_17 : decode cX12_fromBeside 17 = .ok (.iconst 0, 1) := by decide +kernel
theorem dX12_fromBeside_18 : decode cX12_fromBeside 18 = .ok (.istore 4, 2) := by decide +kernel
theorem dX12_fromBeside_20 : decode cX12_fromBeside 20 = .ok (.iconst 0, 1) := by decide +kernel
theorem dX12_fromBeside_21 : decode cX12_fromBeside 21 = .ok (.istore 5, 2) := by decide +kernel
theorem dX12_fromBeside_23 : decode cX12_fromBeside 23 = .ok (.iload 5, 2) := by decide +kernel
theorem dX12_fromBeside_25 : decode cX12_fromBeside 25 = .ok (.aload_n 0, 1) := by decide +kernel
theorem dX12_fromBeside_26 : decode cX12_fromBeside 26 = .ok (.getfield 41, 3) := by decide +kernel
theorem dX12_fromBeside_29 : decode cX12_fromBeside 29 = .ok (.iload_n 2, 1) := by decide +kernel
theorem dX12_fromBeside_30 : decode cX12_fromBeside 30 = .ok (.iaload, 1) := by decide +kernel
theorem dX12_fromBeside_31 : decode cX12_fromBeside 31 = .ok (.if_icmp .ge 55, 3) := by decide +kernel
theorem dX12_fromBeside_34 : decode cX12_fromBeside 34 = .ok (.iload 4, 2) := by decide +kernel
theorem dX12_fromBeside_36 : decode cX12_fromBeside 36 = .ok (.aload_n 0, 1) := by decide +kernel
theorem dX12_fromBeside_37 : decode cX12_fromBeside 37 = .ok (.iload_n 2, 1) := by decide +kernel
theorem dX12_fromBeside_38 : decode cX12_fromBeside 38 = .ok (.iload_n 3, 1) := by decide +kernel
theorem dX12_fromBeside_39 : decode cX12_fromBeside 39 = .ok (.aload_n 0, 1) := by decide +kernel
theorem dX12_fromBeside_40 : decode cX12_fromBeside 40 = .ok (.getfield 41, 3) := by decide +kernel
theorem dX12_fromBeside_43 : decode cX12_fromBeside 43 = .ok (.iload_n 2, 1) := by decide +kernel
theorem dX12_fromBeside_44 : decode cX12_fromBeside 44 = .ok (.iaload, 1) := by decide +kernel
theorem dX12_fromBeside_45 : decode cX12_fromBeside 45 = .ok (.imul, 1) := by decide +kernel
theorem dX12_fromBeside_46 : decode cX12_fromBeside 46 = .ok (.iload 5, 2) := by decide +kernel
theorem dX12_fromBeside_48 : decode cX12_fromBeside 48 = .ok (.iadd, 1) := by decide +kernel
theorem dX12_fromBeside_49 : decode cX12_fromBeside 49 = .ok (.invokevirtual 348, 3) := by decide +kernel
theorem dX12_fromBeside_52 : decode cX12_fromBeside 52 = .ok (.ifCond .eq 24, 3) := by decide +kernel
theorem dX12_fromBeside_55 : decode cX12_fromBeside 55 = .ok (.bipush 24, 2) := by decide +kernel
theorem dX12_fromBeside_57 : decode cX12_fromBeside 57 = .ok (.iconst 1, 1) := by decide +kernel
theorem dX12_fromBeside_58 : decode cX12_fromBeside 58 = .ok (.aload_n 0, 1) := by decide +kernel
theorem dX12_fromBeside_59 : decode cX12_fromBeside 59 = .ok (.getfield 47, 3) := by decide +kernel
theorem dX12_fromBeside_62 : decode cX12_fromBeside 62 = .ok (.iload_n 1, 1) := by decide +kernel
theorem dX12_fromBeside_63 : decode cX12_fromBeside 63 = .ok (.iaload, 1) := by decide +kernel
theorem dX12_fromBeside_64 : decode cX12_fromBeside 64 = .ok (.iadd, 1) := by decide +kernel
theorem dX12_fromBeside_65 : decode cX12_fromBeside 65 = .ok (.aload_n 0, 1) := by decide +kernel
theorem dX12_fromBeside_66 : decode cX12_fromBeside 66 = .ok (.getfield 47, 3) := by decide +kernel
theorem dX12_fromBeside_69 : decode cX12_fromBeside 69 = .ok (.iload_n 2, 1) := by decide +kernel
theorem dX12_fromBeside_70 : decode cX12_fromBeside 70 = .ok (.iaload, 1) := by decide +kernel
theorem dX12_fromBeside_71 : decode cX12_fromBeside 71 = .ok (.iadd, 1) := by decide +kernel
theorem dX12_fromBeside_72 : decode cX12_fromBeside 72 = .ok (.idiv, 1) := by decide +kernel
theorem dX12_fromBeside_73 : decode cX12_fromBeside 73 = .ok (.goto 4, 3) := by decide +kernel
theorem dX12_fromBeside_76 : decode cX12_fromBeside 76 = .ok (.iconst 0, 1) := by decide +kernel
theorem dX12_fromBeside_77 : decode cX12_fromBeside 77 = .ok (.iadd, 1) := by decide +kernel
theorem dX12_fromBeside_78 : decode cX12_fromBeside 78 = .ok (.istore 4, 2) := by decide +kernel
theorem dX12_fromBeside_80 : decode cX12_fromBeside 80 = .ok (.iinc 5 1, 3) := by decide +kernel
theorem dX12_fromBeside_83 : decode cX12_fromBeside 83 = .ok (.goto (-60), 3) := by decide +kernel
theorem dX12_fromBeside_86 : decode cX12_fromBeside 86 = .ok (.iload 4, 2) := by decide +kernel
theorem dX12_fromBeside_88 : decode cX12_fromBeside 88 = .ok (.ireturn, 1) := by decide +kernel
theorem okX12_fromBeside : ab_okM MX12_fromBeside 3 := ⟨by decide, ⟨by decide, by decide⟩, ab_in 2602 (by decide +kernel) (by decide +kernel), ab_in 99 (by decide +kernel) (by decide +kernel), by decide +kernel, by decide⟩
set_option maxHeartbeats 4000000 in
set_option maxRecDepth 100000 in
def wX12_fromBeside_77 (v1 : Int32) (v2 : Int32) (v3 : Int32) (v5 : Int32) (s0 : Int32) (s1 : Int32) (x : ab_X) (K : Int32 → Prop) (L23 : Int32 → Int32 → Prop) : Prop := L23 (s0 + s1) (v5 + 1)
set_option maxHeartbeats 4000000 in
set_option maxRecDepth 100000 in
theorem sX12_fromBeside_77 (v1 : Int32) (v2 : Int32) (v3 : Int32) (v5 : Int32) (s0 : Int32) (s1 : Int32)  (x : ab_X) (K : Int32 → Prop) (L23 : Int32 → Int32 → Prop) (d bc bs : Nat) (hdp : 2 ≤ d) (hL23 : ∀ (v4 : Int32) (v5 : Int32), L23 v4 v5 → EW MX12_fromBeside 23 [(0, .ref 246), (1, .int v1), (2, .int v2), (3, .int v3), (4, .int v4), (5, .int v5)] [] (aS x) d bc bs (liP x K)) (h : wX12_fromBeside_77 v1 v2 v3 v5 s0 s1 x K L23) : EW MX12_fromBeside 77 [(0, .ref 246), (1, .int v1), (2, .int v2), (3, .int v3), (5, .int v5)] [.int s1, .int s0] (aS x) d bc bs (liP x K) := by
  unfold wX12_fromBeside_77 at h
  refine EW_iadd (pc2 := 78) rfl dX12_fromBeside_77 ?_
  refine EW_istore (pc2 := 80) rfl dX12_fromBeside_78 (by decide) [1, 2, 3, 4, 0, 5] [(0, .ref 246), (1, .int v1), (2, .int v2), (3, .int v3), (4, .int (s0 + s1)), (5, .int v5)] rfl ?_
  refine EW_iinc (v5 + 1) (pc2 := 83) rfl dX12_fromBeside_80 5 rfl rfl (by decide) [1, 2, 3, 4, 5, 0] [(0, .ref 246), (1, .int v1), (2, .int v2), (3, .int v3), (4, .int (s0 + s1)), (5, .int (v5 + 1))] rfl ?_
  refine EW_goto (tgt := 23) dX12_fromBeside_83 (by decide) ?_
  exact hL23 (s0 + s1) (v5 + 1) h
set_option maxHeartbeats 4000000 in
set_option maxRecDepth 100000 in
def lX12_fromBeside_23 (v1 : Int32) (v2 : Int32) (v3 : Int32) (x : ab_X) (K : Int32 → Prop)  (L23 : Int32 → Int32 → Prop) (v4 : Int32) (v5 : Int32) : Prop := (vp_in v2 12 ∧ (((x.1 257 (Int32.toNatClampNeg v2)) ≤ v5 → K v4) ∧ (¬ (x.1 257 (Int32.toNatClampNeg v2)) ≤ v5 → (vp_in v2 12 ∧ wX12_burns v2 ((v3 * (x.1 257 (Int32.toNatClampNeg v2))) + v5) x (fun r4 => ((r4 = 0 → wX12_fromBeside_77 v1 v2 v3 v5 v4 0 x K L23) ∧ (¬ r4 = 0 → (vp_in v1 12 ∧ vp_in v2 12 ∧ ¬ ((1 + (x.1 259 (Int32.toNatClampNeg v1))) + (x.1 259 (Int32.toNatClampNeg v2))) = 0 ∧ wX12_fromBeside_77 v1 v2 v3 v5 v4 (24 / ((1 + (x.1 259 (Int32.toNatClampNeg v1))) + (x.1 259 (Int32.toNatClampNeg v2)))) x K L23))))))))
set_option maxHeartbeats 4000000 in
set_option maxRecDepth 100000 in
theorem sX12_fromBeside_23 (v1 : Int32) (v2 : Int32) (v3 : Int32) (v4 : Int32) (v5 : Int32)  (x : ab_X) (K : Int32 → Prop)  (d bc bs : Nat) (hdp : 2 ≤ d)  (h : Lp2 (lX12_fromBeside_23 v1 v2 v3 x K ) v4 v5) : EW MX12_fromBeside 23 [(0, .ref 246), (1, .int v1), (2, .int v2), (3, .int v3), (4, .int v4), (5, .int v5)] [] (aS x) d bc bs (liP x K) := by
  refine Lp2.use (P := fun v4 v5 => EW MX12_fromBeside 23 [(0, .ref 246), (1, .int v1), (2, .int v2), (3, .int v3), (4, .int v4), (5, .int v5)] [] (aS x) d bc bs (liP x K)) (fun L23 v4 v5 hL23 h => ?_) v4 v5 h
  unfold lX12_fromBeside_23 at h
  refine EW_iload (pc2 := 25) rfl dX12_fromBeside_23 5 rfl ?_
  refine EW_aload_n (pc2 := 26) rfl dX12_fromBeside_25 0 rfl ?_
  refine AW_getr (r := 257) ⟨gfRX12_41, rfl⟩ (pc2 := 29) rfl dX12_fromBeside_26 q246 rfl ?_
  refine EW_iload_n (pc2 := 30) rfl dX12_fromBeside_29 2 rfl ?_
  obtain ⟨b2, h⟩ := h
  refine AW_iald (pc2 := 31) rfl dX12_fromBeside_30 q257 b2 ?_
  refine EW_icmp_ge (tgt := 86) (pc2 := 34) rfl dX12_fromBeside_31 (by decide) (fun q => ?_) (fun q => ?_)
  · replace h := h.1 q
    refine EW_iload (pc2 := 88) rfl dX12_fromBeside_86 4 rfl ?_
    exact AW_iret rfl dX12_fromBeside_88 ⟨_, rfl, rfl, h⟩
  · replace h := h.2 q
    refine EW_iload (pc2 := 36) rfl dX12_fromBeside_34 4 rfl ?_
    refine EW_aload_n (pc2 := 37) rfl dX12_fromBeside_36 0 rfl ?_
    refine EW_iload_n (pc2 := 38) rfl dX12_fromBeside_37 2 rfl ?_
    refine EW_iload_n (pc2 := 39) rfl dX12_fromBeside_38 3 rfl ?_
    refine EW_aload_n (pc2 := 40) rfl dX12_fromBeside_39 0 rfl ?_
    refine AW_getr (r := 257) ⟨gfRX12_41, rfl⟩ (pc2 := 43) rfl dX12_fromBeside_40 q246 rfl ?_
    refine EW_iload_n (pc2 := 44) rfl dX12_fromBeside_43 2 rfl ?_
    obtain ⟨b3, h⟩ := h
    refine AW_iald (pc2 := 45) rfl dX12_fromBeside_44 q257 b3 ?_
    refine EW_imul (pc2 := 46) rfl dX12_fromBeside_45 ?_
    refine EW_iload (pc2 := 48) rfl dX12_fromBeside_46 5 rfl ?_
    refine EW_iadd (pc2 := 49) rfl dX12_fromBeside_48 ?_
    refine AW_invV (M' := MX12_burns) [.int v2, .int ((v3 * (x.1 257 (Int32.toNatClampNeg v2))) + v5)] (rest := [.int v4]) mlRX12_348 okX12_burns (pc2 := 52) rfl dX12_fromBeside_49 rfl rfl (Nat.le_of_ble_eq_true rfl) (Nat.le_of_ble_eq_true rfl) (d' := 1) (by omega) q246 ⟨by decide, rfl⟩ (EW_mono (fun _ _ hr => ?_) (sX12_burns v2 ((v3 * (x.1 257 (Int32.toNatClampNeg v2))) + v5)  x _ _ 0 0 (Nat.le_refl _) h))
    obtain ⟨r4, rfl, rfl, h⟩ := hr
    refine EW_if_eq (tgt := 76) (pc2 := 55) rfl dX12_fromBeside_52 (by decide) (fun q => ?_) (fun q => ?_)
    · replace h := h.1 q
      refine EW_iconst (pc2 := 77) (v := 0) rfl dX12_fromBeside_76 (by decide) ?_
      refine EW_ls [0, 1, 2, 3, 5] rfl ?_
      exact sX12_fromBeside_77 v1 v2 v3 v5 v4 0 x K L23 d bc bs hdp hL23 h
    · replace h := h.2 q
      refine EW_bipush (pc2 := 57) (v := 24) rfl dX12_fromBeside_55 (by decide) ?_
      refine EW_iconst (pc2 := 58) (v := 1) rfl dX12_fromBeside_57 (by decide) ?_
      refine EW_aload_n (pc2 := 59) rfl dX12_fromBeside_58 0 rfl ?_
      refine AW_getr (r := 259) ⟨gfRX12_47, rfl⟩ (pc2 := 62) rfl dX12_fromBeside_59 q246 rfl ?_
      refine EW_iload_n (pc2 := 63) rfl dX12_fromBeside_62 1 rfl ?_
      obtain ⟨b5, h⟩ := h
      refine AW_iald (pc2 := 64) rfl dX12_fromBeside_63 q259 b5 ?_
      refine EW_iadd (pc2 := 65) rfl dX12_fromBeside_64 ?_
      refine EW_aload_n (pc2 := 66) rfl dX12_fromBeside_65 0 rfl ?_
      refine AW_getr (r := 259) ⟨gfRX12_47, rfl⟩ (pc2 := 69) rfl dX12_fromBeside_66 q246 rfl ?_
      refine EW_iload_n (pc2 := 70) rfl dX12_fromBeside_69 2 rfl ?_
      obtain ⟨b6, h⟩ := h
      refine AW_iald (pc2 := 71) rfl dX12_fromBeside_70 q259 b6 ?_
      refine EW_iadd (pc2 := 72) rfl dX12_fromBeside_71 ?_
      obtain ⟨hz, h⟩ := h
      refine EW_idiv (pc2 := 73) rfl dX12_fromBeside_72 hz ?_
      refine EW_goto (tgt := 77) dX12_fromBeside_73 (by decide) ?_
      refine EW_ls [0, 1, 2, 3, 5] rfl ?_
      exact sX12_fromBeside_77 v1 v2 v3 v5 v4 (24 / ((1 + (x.1 259 (Int32.toNatClampNeg v1))) + (x.1 259 (Int32.toNatClampNeg v2)))) x K L23 d bc bs hdp hL23 h
set_option maxHeartbeats 4000000 in
set_option maxRecDepth 100000 in
def wX12_fromBeside (v1 : Int32) (v2 : Int32) (v3 : Int32) (x : ab_X) (K : Int32 → Prop) : Prop := ((v2 = (-1) → K 0) ∧ (¬ v2 = (-1) → (vp_in v2 12 ∧ ((v3 < (x.1 256 (Int32.toNatClampNeg v2)) → Lp2 (lX12_fromBeside_23 v1 v2 v3 x K ) 0 0) ∧ (¬ v3 < (x.1 256 (Int32.toNatClampNeg v2)) → K 0)))))
set_option maxHeartbeats 4000000 in
set_option maxRecDepth 100000 in
theorem sX12_fromBeside (v1 : Int32) (v2 : Int32) (v3 : Int32)  (x : ab_X) (K : Int32 → Prop) (d bc bs : Nat) (hdp : 2 ≤ d) (h : wX12_fromBeside v1 v2 v3 x K) : EW MX12_fromBeside 0 [(0, .ref 246), (1, .int v1), (2, .int v2), (3, .int v3)] [] (aS x) d bc bs (liP x K) := by
  unfold wX12_fromBeside at h
  refine EW_iload_n (pc2 := 1) rfl dX12_fromBeside_0 2 rfl ?_
  refine EW_iconst (pc2 := 2) (v := (-1)) rfl dX12_fromBeside_1 (by decide) ?_
  refine EW_icmp_eq (tgt := 15) (pc2 := 5) rfl dX12_fromBeside_2 (by decide) (fun q => ?_) (fun q => ?_)
  · replace h := h.1 q
    refine EW_iconst (pc2 := 16) (v := 0) rfl dX12_fromBeside_15 (by decide) ?_
    exact AW_iret rfl dX12_fromBeside_16 ⟨_, rfl, rfl, h⟩
  · replace h := h.2 q
    refine EW_iload_n (pc2 := 6) rfl dX12_fromBeside_5 3 rfl ?_
    refine EW_aload_n (pc2 := 7) rfl dX12_fromBeside_6 0 rfl ?_
    refine AW_getr (r := 256) ⟨gfRX12_38, rfl⟩ (pc2 := 10) rfl dX12_fromBeside_7 q246 rfl ?_
    refine EW_iload_n (pc2 := 11) rfl dX12_fromBeside_10 2 rfl ?_
    obtain ⟨b1, h⟩ := h
    refine AW_iald (pc2 := 12) rfl dX12_fromBeside_11 q256 b1 ?_
    refine EW_icmp_lt (tgt := 17) (pc2 := 15) rfl dX12_fromBeside_12 (by decide) (fun q => ?_) (fun q => ?_)
    · replace h := h.1 q
      refine EW_iconst (pc2 := 18) (v := 0) rfl dX12_fromBeside_17 (by decide) ?_
      refine EW_istore (pc2 := 20) rfl dX12_fromBeside_18 (by decide) [1, 2, 3, 4, 0] [(0, .ref 246), (1, .int v1), (2, .int v2), (3, .int v3), (4, .int 0)] rfl ?_
      refine EW_iconst (pc2 := 21) (v := 0) rfl dX12_fromBeside_20 (by decide) ?_
      refine EW_istore (pc2 := 23) rfl dX12_fromBeside_21 (by decide) [1, 2, 3, 4, 5, 0] [(0, .ref 246), (1, .int v1), (2, .int v2), (3, .int v3), (4, .int 0), (5, .int 0)] rfl ?_
      exact sX12_fromBeside_23 v1 v2 v3 0 0 x K d bc bs hdp h
    · replace h := h.2 q
      refine EW_iconst (pc2 := 16) (v := 0) rfl dX12_fromBeside_15 (by decide) ?_
      exact AW_iret rfl dX12_fromBeside_16 ⟨_, rfl, rfl, h⟩
