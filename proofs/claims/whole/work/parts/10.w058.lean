theorem mlRX12_605 : Cond.methodLink RX12 605 yX12_daysFrom ∈ ab_G ∧ Cond.instanceMethod yX12_daysFrom ∈ ab_G ∧ Cond.selects RX12 yX12_daysFrom yX12_daysFrom ∈ ab_G := ⟨ab_in 2647 (by decide +kernel) (by decide +kernel), ab_in 2649 (by decide +kernel) (by decide +kernel), ab_in 76 (by decide +kernel) (by decide +kernel)⟩
theorem mlRX12_602 : Cond.methodLink RX12 602 yX12_useOf ∈ ab_G ∧ Cond.instanceMethod yX12_useOf ∈ ab_G ∧ Cond.selects RX12 yX12_useOf yX12_useOf ∈ ab_G := ⟨ab_in 2635 (by decide +kernel) (by decide +kernel), ab_in 2637 (by decide +kernel) (by decide +kernel), ab_in 74 (by decide +kernel) (by decide +kernel)⟩
theorem gfRX12_89 : ab_L RX12 89 12 29 := ⟨by decide, by decide, ab_in 1878 (by decide +kernel) (by decide +kernel)⟩
theorem mlRX12_593 : Cond.methodLink RX12 593 yX12_actFor ∈ ab_G ∧ Cond.instanceMethod yX12_actFor ∈ ab_G ∧ Cond.selects RX12 yX12_actFor yX12_actFor ∈ ab_G := ⟨ab_in 2611 (by decide +kernel) (by decide +kernel), ab_in 2613 (by decide +kernel) (by decide +kernel), ab_in 72 (by decide +kernel) (by decide +kernel)⟩
abbrev MX12_failsBy : ab_M := (yX12_failsBy, cX12_failsBy, 6, (some .int))
theorem dX12_failsBy_0 : decode cX12_failsBy 0 = .ok (.aload_n 0, 1) := by decide +kernel
theorem dX12_failsBy_1 : decode cX12_failsBy 1 = .ok (.iload_n 1, 1) := by decide +kernel
theorem dX12_failsBy_2 : decode cX12_failsBy 2 = .ok (.iload_n 2, 1) := by decide +kernel
theorem dX12_failsBy_3 : decode cX12_failsBy 3 = .ok (.invokevirtual 593, 3) := by decide +kernel
theorem dX12_failsBy_6 : decode cX12_failsBy 6 = .ok (.istore_n 3, 1) := by decide +kernel
theorem dX12_failsBy_7 : decode cX12_failsBy 7 = .ok (.aload_n 0, 1) := by decide +kernel
theorem dX12_failsBy_8 : decode cX12_failsBy 8 = .ok (.iconst 0, 1) := by decide +kernel
theorem dX12_failsBy_9 : decode cX12_failsBy 9 = .ok (.putfield 497, 3) := by decide +kernel
theorem dX12_failsBy_12 : decode cX12_failsBy 12 = .ok (.iload_n 3, 1) := by decide +kernel
theorem dX12_failsBy_13 : decode cX12_failsBy 13 = .ok (.iconst (-1), 1) := by decide +kernel
theorem dX12_failsBy_14 : decode cX12_failsBy 14 = .ok (.if_icmp .ne 5, 3) := by decide +kernel
theorem dX12_failsBy_17 : decode cX12_failsBy 17 = .ok (.iconst 0, 1) := by decide +kernel
theorem dX12_failsBy_18 : decode cX12_failsBy 18 = .ok (.ireturn, 1) := by decide +kernel
theorem dX12_failsBy_19 : decode cX12_failsBy 19 = .ok (.iconst 0, 1) := by decide +kernel
theorem dX12_failsBy_20 : decode cX12_failsBy 20 = .ok (.istore 4, 2) := by decide +kernel
theorem dX12_failsBy_22 : decode cX12_failsBy 22 = .ok (.iconst 0, 1) := by decide +kernel
theorem dX12_failsBy_23 : decode cX12_failsBy 23 = .ok (.istore 5, 2) := by decide +kernel
theorem dX12_failsBy_25 : decode cX12_failsBy 25 = .ok (.iload 5, 2) := by decide +kernel
theorem dX12_failsBy_27 : decode cX12_failsBy 27 = .ok (.aload_n 0, 1) := by decide +kernel
theorem dX12_failsBy_28 : decode cX12_failsBy 28 = .ok (.getfield 38, 3) := by decide +kernel
theorem dX12_failsBy_31 : decode cX12_failsBy 31 = .ok (.iload_n 1, 1) := by decide +kernel
theorem dX12_failsBy_32 : decode cX12_failsBy 32 = .ok (.iaload, 1) := by decide +kernel
theorem dX12_failsBy_33 : decode cX12_failsBy 33 = .ok (.if_icmp .ge 28, 3) := by decide +kernel
theorem dX12_failsBy_36 : decode cX12_failsBy 36 = .ok (.iload 4, 2) := by decide +kernel
theorem dX12_failsBy_38 : decode cX12_failsBy 38 = .ok (.aload_n 0, 1) := by decide +kernel
theorem dX12_failsBy_39 : decode cX12_failsBy 39 = .ok (.getfield 89, 3) := by decide +kernel
theorem dX12_failsBy_42 : decode cX12_failsBy 42 = .ok (.bipush 6, 2) := by decide +kernel
theorem dX12_failsBy_44 : decode cX12_failsBy 44 = .ok (.iload_n 1, 1) := by decide +kernel
theorem dX12_failsBy_45 : decode cX12_failsBy 45 = .ok (.imul, 1) := by decide +kernel
theorem dX12_failsBy_46 : decode cX12_failsBy 46 = .ok (.iload 5, 2) := by decide +kernel
theorem dX12_failsBy_48 : decode cX12_failsBy 48 = .ok (.iadd, 1) := by decide +kernel
theorem dX12_failsBy_49 : decode cX12_failsBy 49 = .ok (.iaload, 1) := by decide +kernel
theorem dX12_failsBy_50 : decode cX12_failsBy 50 = .ok (.invokestatic 357, 3) := by decide +kernel
theorem dX12_failsBy_53 : decode cX12_failsBy 53 = .ok (.istore 4, 2) := by decide +kernel
theorem dX12_failsBy_55 : decode cX12_failsBy 55 = .ok (.iinc 5 1, 3) := by decide +kernel
theorem dX12_failsBy_58 : decode cX12_failsBy 58 = .ok (.goto (-33), 3) := by decide +kernel
theorem dX12_failsBy_61 : decode cX12_failsBy 61 = .ok (.aload_n 0, 1) := by decide +kernel
theorem dX12_failsBy_62 : decode cX12_failsBy 62 = .ok (.getfield 192, 3) := by decide +kernel
theorem dX12_failsBy_65 : decode cX12_failsBy 65 = .ok (.bipush 115, 2) := by decide +kernel
theorem dX12_failsBy_67 : decode cX12_failsBy 67 = .ok (.aload_n 0, 1) := by decide +kernel
theorem dX12_failsBy_68 : decode cX12_failsBy 68 = .ok (.getfield 38, 3) := by decide +kernel
theorem dX12_failsBy_71 : decode cX12_failsBy 71 = .ok (.iload_n 1, 1) := by decide +kernel
theorem dX12_failsBy_72 : decode cX12_failsBy 72 = .ok (.iaload, 1) := by decide +kernel
theorem dX12_failsBy_73 : decode cX12_failsBy 73 = .ok (.iastore, 1) := by decide +kernel
theorem dX12_failsBy_74 : decode cX12_failsBy 74 = .ok (.aload_n 0, 1) := by decide +kernel
theorem dX12_failsBy_75 : decode cX12_failsBy 75 = .ok (.getfield 192, 3) := by decide +kernel
theorem dX12_failsBy_78 : decode cX12_failsBy 78 = .ok (.bipush 114, 2) := by decide +kernel
theorem dX12_failsBy_80 : decode cX12_failsBy 80 = .ok (.aload_n 0, 1) := by decide +kernel
theorem dX12_failsBy_81 : decode cX12_failsBy 81 = .ok (.getfield 41, 3) := by decide +kernel
theorem dX12_failsBy_84 : decode cX12_failsBy 84 = .ok (.iload_n 1, 1) := by decide +kernel
theorem dX12_failsBy_85 : decode cX12_failsBy 85 = .ok (.iaload, 1) := by decide +kernel
theorem dX12_failsBy_86 : decode cX12_failsBy 86 = .ok (.iastore, 1) := by decide +kernel
theorem dX12_failsBy_87 : decode cX12_failsBy 87 = .ok (.aload_n 0, 1) := by decide +kernel
theorem dX12_failsBy_88 : decode cX12_failsBy 88 = .ok (.getfield 192, 3) := by decide +kernel
theorem dX12_failsBy_91 : decode cX12_failsBy 91 = .ok (.bipush 117, 2) := by decide +kernel
theorem dX12_failsBy_93 : decode cX12_failsBy 93 = .ok (.aload_n 0, 1) := by decide +kernel
theorem dX12_failsBy_94 : decode cX12_failsBy 94 = .ok (.iload_n 1, 1) := by decide +kernel
theorem dX12_failsBy_95 : decode cX12_failsBy 95 = .ok (.iload_n 2, 1) := by decide +kernel
theorem dX12_failsBy_96 : decode cX12_failsBy 96 = .ok (.invokevirtual 602, 3) := by decide +kernel
theorem dX12_failsBy_99 : decode cX12_failsBy 99 = .ok (.iastore, 1) := by decide +kernel
theorem dX12_failsBy_100 : decode cX12_failsBy 100 = .ok (.aload_n 0, 1) := by decide +kernel
theorem dX12_failsBy_101 : decode cX12_failsBy 101 = .ok (.getfield 192, 3) := by decide +kernel
theorem dX12_failsBy_104 : decode cX12_failsBy 104 = .ok (.bipush 107, 2) := by decide +kernel
theorem dX12_failsBy_106 : decode cX12_failsBy 106 = .ok (.aload_n 0, 1) := by decide +kernel
theorem dX12_failsBy_107 : decode cX12_failsBy 107 = .ok (.getfield 35, 3) := by decide +kernel
theorem dX12_failsBy_110 : decode cX12_failsBy 110 = .ok (.iload_n 1, 1) := by decide +kernel
theorem dX12_failsBy_111 : decode cX12_failsBy 111 = .ok (.iaload, 1) := by decide +kernel
theorem dX12_failsBy_112 : decode cX12_failsBy 112 = .ok (.iastore, 1) := by decide +kernel
theorem dX12_failsBy_113 : decode cX12_failsBy 113 = .ok (.aload_n 0, 1) := by decide +kernel
theorem dX12_failsBy_114 : decode cX12_failsBy 114 = .ok (.getfield 192, 3) := by decide +kernel
theorem dX12_failsBy_117 : decode cX12_failsBy 117 = .ok (.bipush 103, 2) := by decide +kernel
theorem dX12_failsBy_119 : decode cX12_failsBy 119 = .ok (.iload 4, 2) := by decide +kernel
theorem dX12_failsBy_121 : decode cX12_failsBy 121 = .ok (.iastore, 1) := by decide +kernel
theorem dX12_failsBy_122 : decode cX12_failsBy 122 = .ok (.aload_n 0, 1) := by decide +kernel
theorem dX12_failsBy_123 : decode cX12_failsBy 123 = .ok (.getfield 192, 3) := by decide +kernel
theorem dX12_failsBy_126 : decode cX12_failsBy 126 = .ok (.bipush 120, 2) := by decide +kernel
theorem dX12_failsBy_128 : decode cX12_failsBy 128 = .ok (.aload_n 0, 1) := by decide +kernel
theorem dX12_failsBy_129 : decode cX12_failsBy 129 = .ok (.getfield 44, 3) := by decide +kernel
theorem dX12_failsBy_132 : decode cX12_failsBy 132 = .ok (.iload_n 1, 1) := by decide +kernel
theorem dX12_failsBy_133 : decode cX12_failsBy 133 = .ok (.iaload, 1) := by decide +kernel
theorem dX12_failsBy_134 : decode cX12_failsBy 134 = .ok (.iconst (-1), 1) := by decide +kernel
theorem dX12_failsBy_135 : decode cX12_failsBy 135 = .ok (.if_icmp .eq 7, 3) := by decide +kernel
theorem dX12_failsBy_138 : decode cX12_failsBy 138 = .ok (.iconst 1, 1) := by decide +kernel
theorem dX12_failsBy_139 : decode cX12_failsBy 139 = .ok (.goto 4, 3) := by decide +kernel
theorem dX12_failsBy_142 : decode cX12_failsBy 142 = .ok (.iconst 0, 1) := by decide +kernel
theorem dX12_failsBy_143 : decode cX12_failsBy 143 = .ok (.iastore, 1) := by decide +kernel
theorem dX12_failsBy_144 : decode cX12_failsBy 144 = .ok (.aload_n 0, 1) := by decide +kernel
theorem dX12_failsBy_145 : decode cX12_failsBy 145 = .ok (.getfield 192, 3) := by decide +kernel
theorem dX12_failsBy_148 : decode cX12_failsBy 148 = .ok (.bipush 119, 2) := by decide +kernel
theorem dX12_failsBy_150 : decode cX12_failsBy 150 = .ok (.aload_n 0, 1) := by decide +kernel
theorem dX12_failsBy_151 : decode cX12_failsBy 151 = .ok (.getfield 47, 3) := by decide +kernel
theorem dX12_failsBy_154 : decode cX12_failsBy 154 = .ok (.iload_n 1, 1) := by decide +kernel
theorem dX12_failsBy_155 : decode cX12_failsBy 155 = .ok (.iaload, 1) := by decide +kernel
theorem dX12_failsBy_156 : decode cX12_failsBy 156 = .ok (.iastore, 1) := by decide +kernel
theorem dX12_failsBy_157 : decode cX12_failsBy 157 = .ok (.aload_n 0, 1) := by decide +kernel
theorem dX12_failsBy_158 : decode cX12_failsBy 158 = .ok (.getfield 192, 3) := by decide +kernel
theorem dX12_failsBy_161 : decode cX12_failsBy 161 = .ok (.bipush 121, 2) := by decide +kernel
theorem dX12_failsBy_163 : decode cX12_failsBy 163 = .ok (.aload_n 0, 1) := by decide +kernel
theorem dX12_failsBy_164 : decode cX12_failsBy 164 = .ok (.getfield 50, 3) := by decide +kernel
theorem dX12_failsBy_167 : decode cX12_failsBy 167 = .ok (.iload_n 1, 1) := by decide +kernel
theorem dX12_failsBy_168 : decode cX12_failsBy 168 = .ok (.iaload, 1) := by decide +kernel
theorem dX12_failsBy_169 : decode cX12_failsBy 169 = .ok (.iastore, 1) := by decide +kernel
theorem dX12_failsBy_170 : decode cX12_failsBy 170 = .ok (.aload_n 0, 1) := by decide +kernel
theorem dX12_failsBy_171 : decode cX12_failsBy 171 = .ok (.getfield 192, 3) := by decide +kernel
theorem dX12_failsBy_174 : decode cX12_failsBy 174 = .ok (.bipush 100, 2) := by decide +kernel
theorem dX12_failsBy_176 : decode cX12_failsBy 176 = .ok (.aload_n 0, 1) := by decide +kernel
theorem dX12_failsBy_177 : decode cX12_failsBy 177 = .ok (.getfield 65, 3) := by decide +kernel
theorem dX12_failsBy_180 : decode cX12_failsBy 180 = .ok (.iload_n 1, 1) := by decide +kernel
theorem dX12_failsBy_181 : decode cX12_failsBy 181 = .ok (.baload, 1) := by decide +kernel
theorem dX12_failsBy_182 : decode cX12_failsBy 182 = .ok (.ifCond .eq 7, 3) := by decide +kernel
theorem dX12_failsBy_185 : decode cX12_failsBy 185 = .ok (.iconst 1, 1) := by decide +kernel
theorem dX12_failsBy_186 : decode cX12_failsBy 186 = .ok (.goto 4, 3) := by decide +kernel
theorem dX12_failsBy_189 : decode cX12_failsBy 189 = .ok (.iconst 0, 1) := by decide +kernel
theorem dX12_failsBy_190 : decode cX12_failsBy 190 = .ok (.iastore, 1) := by decide +kernel
theorem dX12_failsBy_191 : decode cX12_failsBy 191 = .ok (.aload_n 0, 1) := by decide +kernel
theorem dX12_failsBy_192 : decode cX12_failsBy 192 = .ok (.getfield 192, 3) := by decide +kernel
theorem dX12_failsBy_195 : decode cX12_failsBy 195 = .ok (.bipush 110, 2) := by decide +kernel
theorem dX12_failsBy_197 : decode cX12_failsBy 197 = .ok (.aload_n 0, 1) := by decide +kernel
theorem dX12_failsBy_198 : decode cX12_failsBy 198 = .ok (.iload_n 1, 1) := by decide +kernel
theorem dX12_failsBy_199 : decode cX12_failsBy 199 = .ok (.iconst (-1), 1) := by decide +kernel
theorem dX12_failsBy_200 : decode cX12_failsBy 200 = .ok (.invokevirtual 369, 3) := by decide +kernel
theorem dX12_failsBy_203 : decode cX12_failsBy 203 = .ok (.iconst (-1), 1) := by decide +kernel
theorem dX12_failsBy_204 : decode cX12_failsBy 204 = .ok (.if_icmp .eq 7, 3) := by decide +kernel
theorem dX12_failsBy_207 : decode cX12_failsBy 207 = .ok (.iconst 1, 1) := by decide +kernel
theorem dX12_failsBy_208 : decode cX12_failsBy 208 = .ok (.goto 4, 3) := by decide +kernel
theorem dX12_failsBy_211 : decode cX12_failsBy 211 = .ok (.iconst 0, 1) := by decide +kernel
theorem dX12_failsBy_212 : decode cX12_failsBy 212 = .ok (.aload_n 0, 1) := by decide +kernel
theorem dX12_failsBy_213 : decode cX12_failsBy 213 = .ok (.iload_n 1, 1) := by decide +kernel
theorem dX12_failsBy_214 : decode cX12_failsBy 214 = .ok (.iconst 1, 1) := by decide +kernel
theorem dX12_failsBy_215 : decode cX12_failsBy 215 = .ok (.invokevirtual 369, 3) := by decide +kernel
theorem dX12_failsBy_218 : decode cX12_failsBy 218 = .ok (.iconst (-1), 1) := by decide +kernel
theorem dX12_failsBy_219 : decode cX12_failsBy 219 = .ok (.if_icmp .eq 7, 3) := by decide +kernel
theorem dX12_failsBy_222 : decode cX12_failsBy 222 = .ok (.iconst 1, 1) := by decide +kernel
theorem dX12_failsBy_223 : decode cX12_failsBy 223 = .ok (.goto 4, 3) := by decide +kernel
theorem dX12_failsBy_226 : decode cX12_failsBy 226 = .ok (.iconst 0, 1) := by decide +kernel
theorem dX12_failsBy_227 : decode cX12_failsBy 227 = .ok (.iadd, 1) := by decide +kernel
theorem dX12_failsBy_228 : decode cX12_failsBy 228 = .ok (.iastore, 1) := by decide +kernel
theorem dX12_failsBy_229 : decode cX12_failsBy 229 = .ok (.aload_n 0, 1) := by decide +kernel
theorem dX12_failsBy_230 : decode cX12_failsBy 230 = .ok (.getfield 192, 3) := by decide +kernel
theorem dX12_failsBy_233 : decode cX12_failsBy 233 = .ok (.bipush 108, 2) := by decide +kernel
theorem dX12_failsBy_235 : decode cX12_failsBy 235 = .ok (.aload_n 0, 1) := by decide +kernel
theorem dX12_failsBy_236 : decode cX12_failsBy 236 = .ok (.iload_n 1, 1) := by decide +kernel
theorem dX12_failsBy_237 : decode cX12_failsBy 237 = .ok (.iload_n 2, 1) := by decide +kernel
theorem dX12_failsBy_238 : decode cX12_failsBy 238 = .ok (.invokevirtual 605, 3) := by decide +kernel
theorem dX12_failsBy_241 : decode cX12_failsBy 241 = .ok (.iastore, 1) := by decide +kernel
theorem dX12_failsBy_242 : decode cX12_failsBy 242 = .ok (.aload_n 0, 1) := by decide +kernel
theorem dX12_failsBy_243 : decode cX12_failsBy 243 = .ok (.iconst 2, 1) := by decide +kernel
theorem dX12_failsBy_244 : decode cX12_failsBy 244 = .ok (.aload_n 0, 1) := by decide +kernel
theorem dX12_failsBy_245 : decode cX12_failsBy 245 = .ok (.getfield 174, 3) := by decide +kernel
theorem dX12_failsBy_248 : decode cX12_failsBy 248 = .ok (.sipush 200, 3) := by decide +kernel
theorem dX12_failsBy_251 : decode cX12_failsBy 251 = .ok (.iload_n 3, 1) := by decide +kernel
theorem dX12_failsBy_252 : decode cX12_failsBy 252 = .ok (.imul, 1) := by decide +kernel
theorem dX12_failsBy_253 : decode cX12_failsBy 253 = .ok (.aload_n 0, 1) := by decide +kernel
theorem dX12_failsBy_254 : decode cX12_failsBy 254 = .ok (.getfield 183, 3) := by decide +kernel
theorem dX12_failsBy_257 : decode cX12_failsBy 257 = .ok (.iload_n 3, 1) := by decide +kernel
theorem dX12_failsBy_258 : decode cX12_failsBy 258 = .ok (.iaload, 1) := by decide +kernel
theorem dX12_failsBy_259 : decode cX12_failsBy 259 = .ok (.invokevirtual 513, 3) := by decide +kernel
theorem dX12_failsBy_262 : decode cX12_failsBy 262 = .ok (.istore 5, 2) := by decide +kernel
theorem dX12_failsBy_264 : decode cX12_failsBy 264 = .ok (.aload_n 0, 1) := by decide +kernel
theorem dX12_failsBy_265 : decode cX12_failsBy 265 = .ok (.getfield 497, 3) := by decide +kernel
theorem dX12_failsBy_268 : decode cX12_failsBy 268 = .ok (.ireturn, 1) := by decide +kernel
theorem okX12_failsBy : ab_okM MX12_failsBy 2 := ⟨by decide, ⟨by decide, by decide⟩, ab_in 2646 (by decide +kernel) (by decide +kernel), ab_in 99 (by decide +kernel) (by decide +kernel), by decide +kernel, by decide⟩
set_option maxHeartbeats 4000000 in
set_option maxRecDepth 100000 in
def wX12_failsBy_227 (v1 : Int32) (v2 : Int32) (v3 : Int32) (s1 : Int32) (s2 : Int32) (s3 : Int32) (x : ab_X) (K : Int32 → ab_X → Prop)  : Prop := (vp_in s1 128 ∧ wX12_daysFrom v1 v2 (wr x 307 (Int32.toNatClampNeg s1) (s2 + s3)) (fun r24 => (vp_in 108 128 ∧ vp_in v3 12 ∧ wX12_goThrough 2 301 (200 * v3) ((wr (wr x 307 (Int32.toNatClampNeg s1) (s2 + s3)) 307 (Int32.toNatClampNeg 108) r24).1 304 (Int32.toNatClampNeg v3)) (wr (wr x 307 (Int32.toNatClampNeg s1) (s2 + s3)) 307 (Int32.toNatClampNeg 108) r24) (fun r27 x28 => K (x28.1 246 74) x28))))
set_option maxHeartbeats 4000000 in
set_option maxRecDepth 100000 in
theorem sX12_failsBy_227 (v1 : Int32) (v2 : Int32) (v3 : Int32) (s1 : Int32) (s2 : Int32) (s3 : Int32)  (x : ab_X) (K : Int32 → ab_X → Prop)  (d bc bs : Nat) (hdp : 210 ≤ d)  (h : wX12_failsBy_227 v1 v2 v3 s1 s2 s3 x K ) : EW MX12_failsBy 227 [(0, .ref 246), (1, .int v1), (2, .int v2), (3, .int v3)] [.int s3, .int s2, .int s1, .ref 307] (aS x) d bc bs (liI K) := by
  unfold wX12_failsBy_227 at h
  refine EW_iadd (pc2 := 228) rfl dX12_failsBy_227 ?_
  obtain ⟨b23, h⟩ := h
  refine AW_iast (pc2 := 229) rfl dX12_failsBy_228 q307 b23 ?_
  refine EW_aload_n (pc2 := 230) rfl dX12_failsBy_229 0 rfl ?_
  refine AW_getr (r := 307) ⟨gfRX12_192, rfl⟩ (pc2 := 233) rfl dX12_failsBy_230 q246 rfl ?_
  refine EW_bipush (pc2 := 235) (v := 108) rfl dX12_failsBy_233 (by decide) ?_
  refine EW_aload_n (pc2 := 236) rfl dX12_failsBy_235 0 rfl ?_
  refine EW_iload_n (pc2 := 237) rfl dX12_failsBy_236 1 rfl ?_
  refine EW_iload_n (pc2 := 238) rfl dX12_failsBy_237 2 rfl ?_
  refine AW_invV (M' := MX12_daysFrom) [.int v1, .int v2] (rest := [.int 108, .ref 307]) mlRX12_605 okX12_daysFrom (pc2 := 241) rfl dX12_failsBy_238 rfl rfl (Nat.le_of_ble_eq_true rfl) (Nat.le_of_ble_eq_true rfl) (d' := 0) (by omega) q246 ⟨by decide, rfl⟩ (EW_mono (fun _ _ hr => ?_) (sX12_daysFrom v1 v2  (wr x 307 (Int32.toNatClampNeg s1) (s2 + s3)) _ _ 0 0 (Nat.le_refl _) h))
  obtain ⟨r24, rfl, rfl, h⟩ := hr
  obtain ⟨b25, h⟩ := h
  refine AW_iast (pc2 := 242) rfl dX12_failsBy_241 q307 b25 ?_
  refine EW_aload_n (pc2 := 243) rfl dX12_failsBy_242 0 rfl ?_
  refine EW_iconst (pc2 := 244) (v := 2) rfl dX12_failsBy_243 (by decide) ?_
  refine EW_aload_n (pc2 := 245) rfl dX12_failsBy_244 0 rfl ?_
  refine AW_getr (r := 301) ⟨gfRX12_174, rfl⟩ (pc2 := 248) rfl dX12_failsBy_245 q246 rfl ?_
  refine EW_sipush (pc2 := 251) (v := 200) rfl dX12_failsBy_248 (by decide) ?_
  refine EW_iload_n (pc2 := 252) rfl dX12_failsBy_251 3 rfl ?_
  refine EW_imul (pc2 := 253) rfl dX12_failsBy_252 ?_
  refine EW_aload_n (pc2 := 254) rfl dX12_failsBy_253 0 rfl ?_
  refine AW_getr (r := 304) ⟨gfRX12_183, rfl⟩ (pc2 := 257) rfl dX12_failsBy_254 q246 rfl ?_
  refine EW_iload_n (pc2 := 258) rfl dX12_failsBy_257 3 rfl ?_
  obtain ⟨b26, h⟩ := h
  refine AW_iald (pc2 := 259) rfl dX12_failsBy_258 q304 b26 ?_
  refine AW_invV (M' := MX12_goThrough) [.int 2, .ref 301, .int (200 * v3), .int ((wr (wr x 307 (Int32.toNatClampNeg s1) (s2 + s3)) 307 (Int32.toNatClampNeg 108) r24).1 304 (Int32.toNatClampNeg v3))] (rest := []) mlRX12_513 okX12_goThrough (pc2 := 262) rfl dX12_failsBy_259 rfl rfl (Nat.le_of_ble_eq_true rfl) (Nat.le_of_ble_eq_true rfl) (d' := 209) (by omega) q246 ⟨by decide, rfl⟩ (EW_mono (fun _ _ hr => ?_) (sX12_goThrough 2 301 (200 * v3) ((wr (wr x 307 (Int32.toNatClampNeg s1) (s2 + s3)) 307 (Int32.toNatClampNeg 108) r24).1 304 (Int32.toNatClampNeg v3))  (wr (wr x 307 (Int32.toNatClampNeg s1) (s2 + s3)) 307 (Int32.toNatClampNeg 108) r24) _ _ 0 0 (Nat.le_refl _) h))
  obtain ⟨r27, x28, rfl, rfl, h⟩ := hr
  refine EW_istore (pc2 := 264) rfl dX12_failsBy_262 (by decide) [1, 2, 3, 4, 0] [(0, .ref 246), (1, .int v1), (2, .int v2), (3, .int v3), (5, .int r27)] rfl ?_
  refine EW_aload_n (pc2 := 265) rfl dX12_failsBy_264 0 rfl ?_
  refine AW_geti ⟨gfRX12_497, rfl⟩ (pc2 := 268) rfl dX12_failsBy_265 q246 ?_
  exact AW_iret rfl dX12_failsBy_268 ⟨_, _, rfl, rfl, h⟩
set_option maxHeartbeats 4000000 in
set_option maxRecDepth 100000 in
def wX12_failsBy_212 (v1 : Int32) (v2 : Int32) (v3 : Int32) (s1 : Int32) (s2 : Int32) (x : ab_X) (K : Int32 → ab_X → Prop)  : Prop := wX12_beside v1 1 x (fun r22 => ((r22 = (-1) → wX12_failsBy_227 v1 v2 v3 s1 s2 0 x K) ∧ (¬ r22 = (-1) → wX12_failsBy_227 v1 v2 v3 s1 s2 1 x K)))
set_option maxHeartbeats 4000000 in
set_option maxRecDepth 100000 in
theorem sX12_failsBy_212 (v1 : Int32) (v2 : Int32) (v3 : Int32) (s1 : Int32) (s2 : Int32)  (x : ab_X) (K : Int32 → ab_X → Prop)  (d bc bs : Nat) (hdp : 210 ≤ d)  (h : wX12_failsBy_212 v1 v2 v3 s1 s2 x K ) : EW MX12_failsBy 212 [(0, .ref 246), (1, .int v1), (2, .int v2), (3, .int v3)] [.int s2, .int s1, .ref 307] (aS x) d bc bs (liI K) := by
  unfold wX12_failsBy_212 at h
  refine EW_aload_n (pc2 := 213) rfl dX12_failsBy_212 0 rfl ?_
  refine EW_iload_n (pc2 := 214) rfl dX12_failsBy_213 1 rfl ?_
  refine EW_iconst (pc2 := 215) (v := 1) rfl dX12_failsBy_214 (by decide) ?_
  refine AW_invV (M' := MX12_beside) [.int v1, .int 1] (rest := [.int s2, .int s1, .ref 307]) mlRX12_369 okX12_beside (pc2 := 218) rfl dX12_failsBy_215 rfl rfl (Nat.le_of_ble_eq_true rfl) (Nat.le_of_ble_eq_true rfl) (d' := 0) (by omega) q246 ⟨by decide, rfl⟩ (EW_mono (fun _ _ hr => ?_) (sX12_beside v1 1  x _ _ 0 0 (Nat.le_refl _) h))
  obtain ⟨r22, rfl, rfl, h⟩ := hr
  refine EW_iconst (pc2 := 219) (v := (-1)) rfl dX12_failsBy_218 (by decide) ?_
  refine EW_icmp_eq (tgt := 226) (pc2 := 222) rfl dX12_failsBy_219 (by decide) (fun q => ?_) (fun q => ?_)
  · replace h := h.1 q
    refine EW_iconst (pc2 := 227) (v := 0) rfl dX12_failsBy_226 (by decide) ?_
    exact sX12_failsBy_227 v1 v2 v3 s1 s2 0 x K d bc bs hdp h
  · replace h := h.2 q
    refine EW_iconst (pc2 := 223) (v := 1) rfl dX12_failsBy_222 (by decide) ?_
    refine EW_goto (tgt := 227) dX12_failsBy_223 (by decide) ?_
    exact sX12_failsBy_227 v1 v2 v3 s1 s2 1 x K d bc bs hdp h
set_option maxHeartbeats 4000000 in
set_option maxRecDepth 100000 in
def wX12_failsBy_190 (v1 : Int32) (v2 : Int32) (v3 : Int32) (s1 : Int32) (s2 : Int32) (x : ab_X) (K : Int32 → ab_X → Prop)  : Prop := (vp_in s1 128 ∧ wX12_beside v1 (-1) (wr x 307 (Int32.toNatClampNeg s1) s2) (fun r21 => ((r21 = (-1) → wX12_failsBy_212 v1 v2 v3 110 0 (wr x 307 (Int32.toNatClampNeg s1) s2) K) ∧ (¬ r21 = (-1) → wX12_failsBy_212 v1 v2 v3 110 1 (wr x 307 (Int32.toNatClampNeg s1) s2) K))))
set_option maxHeartbeats 4000000 in
set_option maxRecDepth 100000 in
theorem sX12_failsBy_190 (v1 : Int32) (v2 : Int32) (v3 : Int32) (s1 : Int32) (s2 : Int32)  (x : ab_X) (K : Int32 → ab_X → Prop)  (d bc bs : Nat) (hdp : 210 ≤ d)  (h : wX12_failsBy_190 v1 v2 v3 s1 s2 x K ) : EW MX12_failsBy 190 [(0, .ref 246), (1, .int v1), (2, .int v2), (3, .int v3)] [.int s2, .int s1, .ref 307] (aS x) d bc bs (liI K) := by
  unfold wX12_failsBy_190 at h
  obtain ⟨b20, h⟩ := h
  refine AW_iast (pc2 := 191) rfl dX12_failsBy_190 q307 b20 ?_
  refine EW_aload_n (pc2 := 192) rfl dX12_failsBy_191 0 rfl ?_
  refine AW_getr (r := 307) ⟨gfRX12_192, rfl⟩ (pc2 := 195) rfl dX12_failsBy_192 q246 rfl ?_
  refine EW_bipush (pc2 := 197) (v := 110) rfl dX12_failsBy_195 (by decide) ?_
  refine EW_aload_n (pc2 := 198) rfl dX12_failsBy_197 0 rfl ?_
  refine EW_iload_n (pc2 := 199) rfl dX12_failsBy_198 1 rfl ?_
  refine EW_iconst (pc2 := 200) (v := (-1)) rfl dX12_failsBy_199 (by decide) ?_
  refine AW_invV (M' := MX12_beside) [.int v1, .int (-1)] (rest := [.int 110, .ref 307]) mlRX12_369 okX12_beside (pc2 := 203) rfl dX12_failsBy_200 rfl rfl (Nat.le_of_ble_eq_true rfl) (Nat.le_of_ble_eq_true rfl) (d' := 0) (by omega) q246 ⟨by decide, rfl⟩ (EW_mono (fun _ _ hr => ?_) (sX12_beside v1 (-1)  (wr x 307 (Int32.toNatClampNeg s1) s2) _ _ 0 0 (Nat.le_refl _) h))
  obtain ⟨r21, rfl, rfl, h⟩ := hr
  refine EW_iconst (pc2 := 204) (v := (-1)) rfl dX12_failsBy_203 (by decide) ?_
  refine EW_icmp_eq (tgt := 211) (pc2 := 207) rfl dX12_failsBy_204 (by decide) (fun q => ?_) (fun q => ?_)
  · replace h := h.1 q
    refine EW_iconst (pc2 := 212) (v := 0) rfl dX12_failsBy_211 (by decide) ?_
    exact sX12_failsBy_212 v1 v2 v3 110 0 (wr x 307 (Int32.toNatClampNeg s1) s2) K d bc bs hdp h
  · replace h := h.2 q
    refine EW_iconst (pc2 := 208) (v := 1) rfl dX12_failsBy_207 (by decide) ?_
    refine EW_goto (tgt := 212) dX12_failsBy_208 (by decide) ?_
    exact sX12_failsBy_212 v1 v2 v3 110 1 (wr x 307 (Int32.toNatClampNeg s1) s2) K d bc bs hdp h
set_option maxHeartbeats 4000000 in
set_option maxRecDepth 100000 in
def wX12_failsBy_143 (v1 : Int32) (v2 : Int32) (v3 : Int32) (s1 : Int32) (s2 : Int32) (x : ab_X) (K : Int32 → ab_X → Prop)  : Prop := (vp_in s1 128 ∧ vp_in v1 12 ∧ vp_in 119 128 ∧ vp_in v1 12 ∧ vp_in 121 128 ∧ vp_in v1 12 ∧ ((((wr (wr (wr x 307 (Int32.toNatClampNeg s1) s2) 307 (Int32.toNatClampNeg 119) ((wr x 307 (Int32.toNatClampNeg s1) s2).1 259 (Int32.toNatClampNeg v1))) 307 (Int32.toNatClampNeg 121) ((wr (wr x 307 (Int32.toNatClampNeg s1) s2) 307 (Int32.toNatClampNeg 119) ((wr x 307 (Int32.toNatClampNeg s1) s2).1 259 (Int32.toNatClampNeg v1))).1 260 (Int32.toNatClampNeg v1))).1 265 (Int32.toNatClampNeg v1)) = 0 → wX12_failsBy_190 v1 v2 v3 100 0 (wr (wr (wr x 307 (Int32.toNatClampNeg s1) s2) 307 (Int32.toNatClampNeg 119) ((wr x 307 (Int32.toNatClampNeg s1) s2).1 259 (Int32.toNatClampNeg v1))) 307 (Int32.toNatClampNeg 121) ((wr (wr x 307 (Int32.toNatClampNeg s1) s2) 307 (Int32.toNatClampNeg 119) ((wr x 307 (Int32.toNatClampNeg s1) s2).1 259 (Int32.toNatClampNeg v1))).1 260 (Int32.toNatClampNeg v1))) K) ∧ (¬ ((wr (wr (wr x 307 (Int32.toNatClampNeg s1) s2) 307 (Int32.toNatClampNeg 119) ((wr x 307 (Int32.toNatClampNeg s1) s2).1 259 (Int32.toNatClampNeg v1))) 307 (Int32.toNatClampNeg 121) ((wr (wr x 307 (Int32.toNatClampNeg s1) s2) 307 (Int32.toNatClampNeg 119) ((wr x 307 (Int32.toNatClampNeg s1) s2).1 259 (Int32.toNatClampNeg v1))).1 260 (Int32.toNatClampNeg v1))).1 265 (Int32.toNatClampNeg v1)) = 0 → wX12_failsBy_190 v1 v2 v3 100 1 (wr (wr (wr x 307 (Int32.toNatClampNeg s1) s2) 307 (Int32.toNatClampNeg 119) ((wr x 307 (Int32.toNatClampNeg s1) s2).1 259 (Int32.toNatClampNeg v1))) 307 (Int32.toNatClampNeg 121) ((wr (wr x 307 (Int32.toNatClampNeg s1) s2) 307 (Int32.toNatClampNeg 119) ((wr x 307 (Int32.toNatClampNeg s1) s2).1 259 (Int32.toNatClampNeg v1))).1 260 (Int32.toNatClampNeg v1))) K)))
set_option maxHeartbeats 4000000 in
set_option maxRecDepth 100000 in
theorem sX12_failsBy_143 (v1 : Int32) (v2 : Int32) (v3 : Int32) (s1 : Int32) (s2 : Int32)  (x : ab_X) (K : Int32 → ab_X → Prop)  (d bc bs : Nat) (hdp : 210 ≤ d)  (h : wX12_failsBy_143 v1 v2 v3 s1 s2 x K ) : EW MX12_failsBy 143 [(0, .ref 246), (1, .int v1), (2, .int v2), (3, .int v3)] [.int s2, .int s1, .ref 307] (aS x) d bc bs (liI K) := by
  unfold wX12_failsBy_143 at h
  obtain ⟨b14, h⟩ := h
  refine AW_iast (pc2 := 144) rfl dX12_failsBy_143 q307 b14 ?_
  refine EW_aload_n (pc2 := 145) rfl dX12_failsBy_144 0 rfl ?_
  refine AW_getr (r := 307) ⟨gfRX12_192, rfl⟩ (pc2 := 148) rfl dX12_failsBy_145 q246 rfl ?_
  refine EW_bipush (pc2 := 150) (v := 119) rfl dX12_failsBy_148 (by decide) ?_
  refine EW_aload_n (pc2 := 151) rfl dX12_failsBy_150 0 rfl ?_
  refine AW_getr (r := 259) ⟨gfRX12_47, rfl⟩ (pc2 := 154) rfl dX12_failsBy_151 q246 rfl ?_
  refine EW_iload_n (pc2 := 155) rfl dX12_failsBy_154 1 rfl ?_
  obtain ⟨b15, h⟩ := h
  refine AW_iald (pc2 := 156) rfl dX12_failsBy_155 q259 b15 ?_
  obtain ⟨b16, h⟩ := h
  refine AW_iast (pc2 := 157) rfl dX12_failsBy_156 q307 b16 ?_
  refine EW_aload_n (pc2 := 158) rfl dX12_failsBy_157 0 rfl ?_
  refine AW_getr (r := 307) ⟨gfRX12_192, rfl⟩ (pc2 := 161) rfl dX12_failsBy_158 q246 rfl ?_
  refine EW_bipush (pc2 := 163) (v := 121) rfl dX12_failsBy_161 (by decide) ?_
  refine EW_aload_n (pc2 := 164) rfl dX12_failsBy_163 0 rfl ?_
  refine AW_getr (r := 260) ⟨gfRX12_50, rfl⟩ (pc2 := 167) rfl dX12_failsBy_164 q246 rfl ?_
  refine EW_iload_n (pc2 := 168) rfl dX12_failsBy_167 1 rfl ?_
  obtain ⟨b17, h⟩ := h
  refine AW_iald (pc2 := 169) rfl dX12_failsBy_168 q260 b17 ?_
  obtain ⟨b18, h⟩ := h
  refine AW_iast (pc2 := 170) rfl dX12_failsBy_169 q307 b18 ?_
  refine EW_aload_n (pc2 := 171) rfl dX12_failsBy_170 0 rfl ?_
  refine AW_getr (r := 307) ⟨gfRX12_192, rfl⟩ (pc2 := 174) rfl dX12_failsBy_171 q246 rfl ?_
  refine EW_bipush (pc2 := 176) (v := 100) rfl dX12_failsBy_174 (by decide) ?_
  refine EW_aload_n (pc2 := 177) rfl dX12_failsBy_176 0 rfl ?_
  refine AW_getr (r := 265) ⟨gfRX12_65, rfl⟩ (pc2 := 180) rfl dX12_failsBy_177 q246 rfl ?_
  refine EW_iload_n (pc2 := 181) rfl dX12_failsBy_180 1 rfl ?_
  obtain ⟨b19, h⟩ := h
  refine AW_zald (pc2 := 182) rfl dX12_failsBy_181 q265 b19 ?_
  refine EW_if_eq (tgt := 189) (pc2 := 185) rfl dX12_failsBy_182 (by decide) (fun q => ?_) (fun q => ?_)
  · replace h := h.1 q
    refine EW_iconst (pc2 := 190) (v := 0) rfl dX12_failsBy_189 (by decide) ?_
    exact sX12_failsBy_190 v1 v2 v3 100 0 (wr (wr (wr x 307 (Int32.toNatClampNeg s1) s2) 307 (Int32.toNatClampNeg 119) ((wr x 307 (Int32.toNatClampNeg s1) s2).1 259 (Int32.toNatClampNeg v1))) 307 (Int32.toNatClampNeg 121) ((wr (wr x 307 (Int32.toNatClampNeg s1) s2) 307 (Int32.toNatClampNeg 119) ((wr x 307 (Int32.toNatClampNeg s1) s2).1 259 (Int32.toNatClampNeg v1))).1 260 (Int32.toNatClampNeg v1))) K d bc bs hdp h
  · replace h := h.2 q
    refine EW_iconst (pc2 := 186) (v := 1) rfl dX12_failsBy_185 (by decide) ?_
    refine EW_goto (tgt := 190) dX12_failsBy_186 (by decide) ?_
    exact sX12_failsBy_190 v1 v2 v3 100 1 (wr (wr (wr x 307 (Int32.toNatClampNeg s1) s2) 307 (Int32.toNatClampNeg 119) ((wr x 307 (Int32.toNatClampNeg s1) s2).1 259 (Int32.toNatClampNeg v1))) 307 (Int32.toNatClampNeg 121) ((wr (wr x 307 (Int32.toNatClampNeg s1) s2) 307 (Int32.toNatClampNeg 119) ((wr x 307 (Int32.toNatClampNeg s1) s2).1 259 (Int32.toNatClampNeg v1))).1 260 (Int32.toNatClampNeg v1))) K d bc bs hdp h
set_option maxHeartbeats 4000000 in
set_option maxRecDepth 100000 in
def lX12_failsBy_25 (v1 : Int32) (v2 : Int32) (v3 : Int32) (x : ab_X) (K : Int32 → ab_X → Prop)  (L25 : Int32 → Int32 → Prop) (v4 : Int32) (v5 : Int32) : Prop := (vp_in v1 12 ∧ (((x.1 256 (Int32.toNatClampNeg v1)) ≤ v5 → (vp_in v1 12 ∧ vp_in 115 128 ∧ vp_in v1 12 ∧ vp_in 114 128 ∧ wX12_useOf v1 v2 (wr (wr x 307 (Int32.toNatClampNeg 115) (x.1 256 (Int32.toNatClampNeg v1))) 307 (Int32.toNatClampNeg 114) ((wr x 307 (Int32.toNatClampNeg 115) (x.1 256 (Int32.toNatClampNeg v1))).1 257 (Int32.toNatClampNeg v1))) (fun r7 => (vp_in 117 128 ∧ vp_in v1 12 ∧ vp_in 107 128 ∧ vp_in 103 128 ∧ vp_in v1 12 ∧ ((((wr (wr (wr (wr (wr x 307 (Int32.toNatClampNeg 115) (x.1 256 (Int32.toNatClampNeg v1))) 307 (Int32.toNatClampNeg 114) ((wr x 307 (Int32.toNatClampNeg 115) (x.1 256 (Int32.toNatClampNeg v1))).1 257 (Int32.toNatClampNeg v1))) 307 (Int32.toNatClampNeg 117) r7) 307 (Int32.toNatClampNeg 107) ((wr (wr (wr x 307 (Int32.toNatClampNeg 115) (x.1 256 (Int32.toNatClampNeg v1))) 307 (Int32.toNatClampNeg 114) ((wr x 307 (Int32.toNatClampNeg 115) (x.1 256 (Int32.toNatClampNeg v1))).1 257 (Int32.toNatClampNeg v1))) 307 (Int32.toNatClampNeg 117) r7).1 255 (Int32.toNatClampNeg v1))) 307 (Int32.toNatClampNeg 103) v4).1 258 (Int32.toNatClampNeg v1)) = (-1) → wX12_failsBy_143 v1 v2 v3 120 0 (wr (wr (wr (wr (wr x 307 (Int32.toNatClampNeg 115) (x.1 256 (Int32.toNatClampNeg v1))) 307 (Int32.toNatClampNeg 114) ((wr x 307 (Int32.toNatClampNeg 115) (x.1 256 (Int32.toNatClampNeg v1))).1 257 (Int32.toNatClampNeg v1))) 307 (Int32.toNatClampNeg 117) r7) 307 (Int32.toNatClampNeg 107) ((wr (wr (wr x 307 (Int32.toNatClampNeg 115) (x.1 256 (Int32.toNatClampNeg v1))) 307 (Int32.toNatClampNeg 114) ((wr x 307 (Int32.toNatClampNeg 115) (x.1 256 (Int32.toNatClampNeg v1))).1 257 (Int32.toNatClampNeg v1))) 307 (Int32.toNatClampNeg 117) r7).1 255 (Int32.toNatClampNeg v1))) 307 (Int32.toNatClampNeg 103) v4) K) ∧ (¬ ((wr (wr (wr (wr (wr x 307 (Int32.toNatClampNeg 115) (x.1 256 (Int32.toNatClampNeg v1))) 307 (Int32.toNatClampNeg 114) ((wr x 307 (Int32.toNatClampNeg 115) (x.1 256 (Int32.toNatClampNeg v1))).1 257 (Int32.toNatClampNeg v1))) 307 (Int32.toNatClampNeg 117) r7) 307 (Int32.toNatClampNeg 107) ((wr (wr (wr x 307 (Int32.toNatClampNeg 115) (x.1 256 (Int32.toNatClampNeg v1))) 307 (Int32.toNatClampNeg 114) ((wr x 307 (Int32.toNatClampNeg 115) (x.1 256 (Int32.toNatClampNeg v1))).1 257 (Int32.toNatClampNeg v1))) 307 (Int32.toNatClampNeg 117) r7).1 255 (Int32.toNatClampNeg v1))) 307 (Int32.toNatClampNeg 103) v4).1 258 (Int32.toNatClampNeg v1)) = (-1) → wX12_failsBy_143 v1 v2 v3 120 1 (wr (wr (wr (wr (wr x 307 (Int32.toNatClampNeg 115) (x.1 256 (Int32.toNatClampNeg v1))) 307 (Int32.toNatClampNeg 114) ((wr x 307 (Int32.toNatClampNeg 115) (x.1 256 (Int32.toNatClampNeg v1))).1 257 (Int32.toNatClampNeg v1))) 307 (Int32.toNatClampNeg 117) r7) 307 (Int32.toNatClampNeg 107) ((wr (wr (wr x 307 (Int32.toNatClampNeg 115) (x.1 256 (Int32.toNatClampNeg v1))) 307 (Int32.toNatClampNeg 114) ((wr x 307 (Int32.toNatClampNeg 115) (x.1 256 (Int32.toNatClampNeg v1))).1 257 (Int32.toNatClampNeg v1))) 307 (Int32.toNatClampNeg 117) r7).1 255 (Int32.toNatClampNeg v1))) 307 (Int32.toNatClampNeg 103) v4) K)))))) ∧ (¬ (x.1 256 (Int32.toNatClampNeg v1)) ≤ v5 → (vp_in ((6 * v1) + v5) 72 ∧ L25 (imax v4 (x.1 273 (Int32.toNatClampNeg ((6 * v1) + v5)))) (v5 + 1)))))
set_option maxHeartbeats 4000000 in
set_option maxRecDepth 100000 in
theorem sX12_failsBy_25 (v1 : Int32) (v2 : Int32) (v3 : Int32) (v4 : Int32) (v5 : Int32)  (x : ab_X) (K : Int32 → ab_X → Prop)  (d bc bs : Nat) (hdp : 210 ≤ d)  (h : Lp2 (lX12_failsBy_25 v1 v2 v3 x K ) v4 v5) : EW MX12_failsBy 25 [(0, .ref 246), (1, .int v1), (2, .int v2), (3, .int v3), (4, .int v4), (5, .int v5)] [] (aS x) d bc bs (liI K) := by
  refine Lp2.use (P := fun v4 v5 => EW MX12_failsBy 25 [(0, .ref 246), (1, .int v1), (2, .int v2), (3, .int v3), (4, .int v4), (5, .int v5)] [] (aS x) d bc bs (liI K)) (fun L25 v4 v5 hL25 h => ?_) v4 v5 h
  unfold lX12_failsBy_25 at h
  refine EW_iload (pc2 := 27) rfl dX12_failsBy_25 5 rfl ?_
  refine EW_aload_n (pc2 := 28) rfl dX12_failsBy_27 0 rfl ?_
  refine AW_getr (r := 256) ⟨gfRX12_38, rfl⟩ (pc2 := 31) rfl dX12_failsBy_28 q246 rfl ?_
  refine EW_iload_n (pc2 := 32) rfl dX12_failsBy_31 1 rfl ?_
  obtain ⟨b2, h⟩ := h
  refine AW_iald (pc2 := 33) rfl dX12_failsBy_32 q256 b2 ?_
  refine EW_icmp_ge (tgt := 61) (pc2 := 36) rfl dX12_failsBy_33 (by decide) (fun q => ?_) (fun q => ?_)
  · replace h := h.1 q
    refine EW_aload_n (pc2 := 62) rfl dX12_failsBy_61 0 rfl ?_
    refine AW_getr (r := 307) ⟨gfRX12_192, rfl⟩ (pc2 := 65) rfl dX12_failsBy_62 q246 rfl ?_
    refine EW_bipush (pc2 := 67) (v := 115) rfl dX12_failsBy_65 (by decide) ?_
    refine EW_aload_n (pc2 := 68) rfl dX12_failsBy_67 0 rfl ?_
    refine AW_getr (r := 256) ⟨gfRX12_38, rfl⟩ (pc2 := 71) rfl dX12_failsBy_68 q246 rfl ?_
    refine EW_iload_n (pc2 := 72) rfl dX12_failsBy_71 1 rfl ?_
    obtain ⟨b3, h⟩ := h
    refine AW_iald (pc2 := 73) rfl dX12_failsBy_72 q256 b3 ?_
    obtain ⟨b4, h⟩ := h
    refine AW_iast (pc2 := 74) rfl dX12_failsBy_73 q307 b4 ?_
    refine EW_aload_n (pc2 := 75) rfl dX12_failsBy_74 0 rfl ?_
    refine AW_getr (r := 307) ⟨gfRX12_192, rfl⟩ (pc2 := 78) rfl dX12_failsBy_75 q246 rfl ?_
    refine EW_bipush (pc2 := 80) (v := 114) rfl dX12_failsBy_78 (by decide) ?_
    refine EW_aload_n (pc2 := 81) rfl dX12_failsBy_80 0 rfl ?_
    refine AW_getr (r := 257) ⟨gfRX12_41, rfl⟩ (pc2 := 84) rfl dX12_failsBy_81 q246 rfl ?_
    refine EW_iload_n (pc2 := 85) rfl dX12_failsBy_84 1 rfl ?_
    obtain ⟨b5, h⟩ := h
    refine AW_iald (pc2 := 86) rfl dX12_failsBy_85 q257 b5 ?_
    obtain ⟨b6, h⟩ := h
    refine AW_iast (pc2 := 87) rfl dX12_failsBy_86 q307 b6 ?_
    refine EW_aload_n (pc2 := 88) rfl dX12_failsBy_87 0 rfl ?_
    refine AW_getr (r := 307) ⟨gfRX12_192, rfl⟩ (pc2 := 91) rfl dX12_failsBy_88 q246 rfl ?_
    refine EW_bipush (pc2 := 93) (v := 117) rfl dX12_failsBy_91 (by decide) ?_
    refine EW_aload_n (pc2 := 94) rfl dX12_failsBy_93 0 rfl ?_
    refine EW_iload_n (pc2 := 95) rfl dX12_failsBy_94 1 rfl ?_
    refine EW_iload_n (pc2 := 96) rfl dX12_failsBy_95 2 rfl ?_
    refine AW_invV (M' := MX12_useOf) [.int v1, .int v2] (rest := [.int 117, .ref 307]) mlRX12_602 okX12_useOf (pc2 := 99) rfl dX12_failsBy_96 rfl rfl (Nat.le_of_ble_eq_true rfl) (Nat.le_of_ble_eq_true rfl) (d' := 0) (by omega) q246 ⟨by decide, rfl⟩ (EW_mono (fun _ _ hr => ?_) (sX12_useOf v1 v2  (wr (wr x 307 (Int32.toNatClampNeg 115) (x.1 256 (Int32.toNatClampNeg v1))) 307 (Int32.toNatClampNeg 114) ((wr x 307 (Int32.toNatClampNeg 115) (x.1 256 (Int32.toNatClampNeg v1))).1 257 (Int32.toNatClampNeg v1))) _ _ 0 0 (Nat.le_refl _) h))
    obtain ⟨r7, rfl, rfl, h⟩ := hr
    obtain ⟨b8, h⟩ := h
    refine AW_iast (pc2 := 100) rfl dX12_failsBy_99 q307 b8 ?_
    refine EW_aload_n (pc2 := 101) rfl dX12_failsBy_100 0 rfl ?_
    refine AW_getr (r := 307) ⟨gfRX12_192, rfl⟩ (pc2 := 104) rfl dX12_failsBy_101 q246 rfl ?_
    refine EW_bipush (pc2 := 106) (v := 107) rfl dX12_failsBy_104 (by decide) ?_
    refine EW_aload_n (pc2 := 107) rfl dX12_failsBy_106 0 rfl ?_
    refine AW_getr (r := 255) ⟨gfRX12_35, rfl⟩ (pc2 := 110) rfl dX12_failsBy_107 q246 rfl ?_
    refine EW_iload_n (pc2 := 111) rfl dX12_failsBy_110 1 rfl ?_
    obtain ⟨b9, h⟩ := h
    refine AW_iald (pc2 := 112) rfl dX12_failsBy_111 q255 b9 ?_
    obtain ⟨b10, h⟩ := h
    refine AW_iast (pc2 := 113) rfl dX12_failsBy_112 q307 b10 ?_
    refine EW_aload_n (pc2 := 114) rfl dX12_failsBy_113 0 rfl ?_
    refine AW_getr (r := 307) ⟨gfRX12_192, rfl⟩ (pc2 := 117) rfl dX12_failsBy_114 q246 rfl ?_
    refine EW_bipush (pc2 := 119) (v := 103) rfl dX12_failsBy_117 (by decide) ?_
    refine EW_iload (pc2 := 121) rfl dX12_failsBy_119 4 rfl ?_
    obtain ⟨b11, h⟩ := h
    refine AW_iast (pc2 := 122) rfl dX12_failsBy_121 q307 b11 ?_
    refine EW_aload_n (pc2 := 123) rfl dX12_failsBy_122 0 rfl ?_
    refine AW_getr (r := 307) ⟨gfRX12_192, rfl⟩ (pc2 := 126) rfl dX12_failsBy_123 q246 rfl ?_
    refine EW_bipush (pc2 := 128) (v := 120) rfl dX12_failsBy_126 (by decide) ?_
    refine EW_aload_n (pc2 := 129) rfl dX12_failsBy_128 0 rfl ?_
    refine AW_getr (r := 258) ⟨gfRX12_44, rfl⟩ (pc2 := 132) rfl dX12_failsBy_129 q246 rfl ?_
    refine EW_iload_n (pc2 := 133) rfl dX12_failsBy_132 1 rfl ?_
    obtain ⟨b12, h⟩ := h
    refine AW_iald (pc2 := 134) rfl dX12_failsBy_133 q258 b12 ?_
    refine EW_iconst (pc2 := 135) (v := (-1)) rfl dX12_failsBy_134 (by decide) ?_
    refine EW_icmp_eq (tgt := 142) (pc2 := 138) rfl dX12_failsBy_135 (by decide) (fun q => ?_) (fun q => ?_)
    · replace h := h.1 q
      refine EW_iconst (pc2 := 143) (v := 0) rfl dX12_failsBy_142 (by decide) ?_
      refine EW_ls [0, 1, 2, 3] rfl ?_
      exact sX12_failsBy_143 v1 v2 v3 120 0 (wr (wr (wr (wr (wr x 307 (Int32.toNatClampNeg 115) (x.1 256 (Int32.toNatClampNeg v1))) 307 (Int32.toNatClampNeg 114) ((wr x 307 (Int32.toNatClampNeg 115) (x.1 256 (Int32.toNatClampNeg v1))).1 257 (Int32.toNatClampNeg v1))) 307 (Int32.toNatClampNeg 117) r7) 307 (Int32.toNatClampNeg 107) ((wr (wr (wr x 307 (Int32.toNatClampNeg 115) (x.1 256 (Int32.toNatClampNeg v1))) 307 (Int32.toNatClampNeg 114) ((wr x 307 (Int32.toNatClampNeg 115) (x.1 256 (Int32.toNatClampNeg v1))).1 257 (Int32.toNatClampNeg v1))) 307 (Int32.toNatClampNeg 117) r7).1 255 (Int32.toNatClampNeg v1))) 307 (Int32.toNatClampNeg 103) v4) K d bc bs hdp h
    · replace h := h.2 q
      refine EW_iconst (pc2 := 139) (v := 1) rfl dX12_failsBy_138 (by decide) ?_
      refine EW_goto (tgt := 143) dX12_failsBy_139 (by decide) ?_
      refine EW_ls [0, 1, 2, 3] rfl ?_
      exact sX12_failsBy_143 v1 v2 v3 120 1 (wr (wr (wr (wr (wr x 307 (Int32.toNatClampNeg 115) (x.1 256 (Int32.toNatClampNeg v1))) 307 (Int32.toNatClampNeg 114) ((wr x 307 (Int32.toNatClampNeg 115) (x.1 256 (Int32.toNatClampNeg v1))).1 257 (Int32.toNatClampNeg v1))) 307 (Int32.toNatClampNeg 117) r7) 307 (Int32.toNatClampNeg 107) ((wr (wr (wr x 307 (Int32.toNatClampNeg 115) (x.1 256 (Int32.toNatClampNeg v1))) 307 (Int32.toNatClampNeg 114) ((wr x 307 (Int32.toNatClampNeg 115) (x.1 256 (Int32.toNatClampNeg v1))).1 257 (Int32.toNatClampNeg v1))) 307 (Int32.toNatClampNeg 117) r7).1 255 (Int32.toNatClampNeg v1))) 307 (Int32.toNatClampNeg 103) v4) K d bc bs hdp h
  · replace h := h.2 q
    refine EW_iload (pc2 := 38) rfl dX12_failsBy_36 4 rfl ?_
    refine EW_aload_n (pc2 := 39) rfl dX12_failsBy_38 0 rfl ?_
    refine AW_getr (r := 273) ⟨gfRX12_89, rfl⟩ (pc2 := 42) rfl dX12_failsBy_39 q246 rfl ?_
    refine EW_bipush (pc2 := 44) (v := 6) rfl dX12_failsBy_42 (by decide) ?_
    refine EW_iload_n (pc2 := 45) rfl dX12_failsBy_44 1 rfl ?_
    refine EW_imul (pc2 := 46) rfl dX12_failsBy_45 ?_
    refine EW_iload (pc2 := 48) rfl dX12_failsBy_46 5 rfl ?_
    refine EW_iadd (pc2 := 49) rfl dX12_failsBy_48 ?_
    obtain ⟨b13, h⟩ := h
    refine AW_iald (pc2 := 50) rfl dX12_failsBy_49 q273 b13 ?_
    refine AW_mmax mmRX12_357 (pc2 := 53) rfl dX12_failsBy_50 (Nat.le_of_ble_eq_true rfl) (by omega) ?_
    refine EW_istore (pc2 := 55) rfl dX12_failsBy_53 (by decide) [1, 2, 3, 4, 0, 5] [(0, .ref 246), (1, .int v1), (2, .int v2), (3, .int v3), (4, .int (imax v4 (x.1 273 (Int32.toNatClampNeg ((6 * v1) + v5))))), (5, .int v5)] rfl ?_
    refine EW_iinc (v5 + 1) (pc2 := 58) rfl dX12_failsBy_55 5 rfl rfl (by decide) [1, 2, 3, 4, 5, 0] [(0, .ref 246), (1, .int v1), (2, .int v2), (3, .int v3), (4, .int (imax v4 (x.1 273 (Int32.toNatClampNeg ((6 * v1) + v5))))), (5, .int (v5 + 1))] rfl ?_
    refine EW_goto (tgt := 25) dX12_failsBy_58 (by decide) ?_
    exact hL25 (imax v4 (x.1 273 (Int32.toNatClampNeg ((6 * v1) + v5)))) (v5 + 1) h
set_option maxHeartbeats 4000000 in
set_option maxRecDepth 100000 in
def wX12_failsBy (v1 : Int32) (v2 : Int32) (x : ab_X) (K : Int32 → ab_X → Prop) : Prop := wX12_actFor v1 v2 x (fun r1 => ((¬ r1 = (-1) → Lp2 (lX12_failsBy_25 v1 v2 r1 (wr x 246 74 0) K ) 0 0) ∧ (r1 = (-1) → K 0 (wr x 246 74 0))))
set_option maxHeartbeats 4000000 in
set_option maxRecDepth 100000 in
theorem sX12_failsBy (v1 : Int32) (v2 : Int32)  (x : ab_X) (K : Int32 → ab_X → Prop) (d bc bs : Nat) (hdp : 210 ≤ d) (h : wX12_failsBy v1 v2 x K) : EW MX12_failsBy 0 [(0, .ref 246), (1, .int v1), (2, .int v2)] [] (aS x) d bc bs (liI K) := by
  unfold wX12_failsBy at h
  refine EW_aload_n (pc2 := 1) rfl dX12_failsBy_0 0 rfl ?_
  refine EW_iload_n (pc2 := 2) rfl dX12_failsBy_1 1 rfl ?_
  refine EW_iload_n (pc2 := 3) rfl dX12_failsBy_2 2 rfl ?_
  refine AW_invV (M' := MX12_actFor) [.int v1, .int v2] (rest := []) mlRX12_593 okX12_actFor (pc2 := 6) rfl dX12_failsBy_3 rfl rfl (Nat.le_of_ble_eq_true rfl) (Nat.le_of_ble_eq_true rfl) (d' := 0) (by omega) q246 ⟨by decide, rfl⟩ (EW_mono (fun _ _ hr => ?_) (sX12_actFor v1 v2  x _ _ 0 0 (Nat.le_refl _) h))
  obtain ⟨r1, rfl, rfl, h⟩ := hr
  refine EW_istore_n (pc2 := 7) rfl dX12_failsBy_6 (by decide) [1, 2, 3, 0] [(0, .ref 246), (1, .int v1), (2, .int v2), (3, .int r1)] rfl ?_
  refine EW_aload_n (pc2 := 8) rfl dX12_failsBy_7 0 rfl ?_
  refine EW_iconst (pc2 := 9) (v := 0) rfl dX12_failsBy_8 (by decide) ?_
  refine AW_puti ⟨gfRX12_497, rfl, rfl⟩ (pc2 := 12) rfl dX12_failsBy_9 q246 ?_
  refine EW_iload_n (pc2 := 13) rfl dX12_failsBy_12 3 rfl ?_
  refine EW_iconst (pc2 := 14) (v := (-1)) rfl dX12_failsBy_13 (by decide) ?_
  refine EW_icmp_ne (tgt := 19) (pc2 := 17) rfl dX12_failsBy_14 (by decide) (fun q => ?_) (fun q => ?_)
  · replace h := h.1 q
    refine EW_iconst (pc2 := 20) (v := 0) rfl dX12_failsBy_19 (by decide) ?_
    refine EW_istore (pc2 := 22) rfl dX12_failsBy_20 (by decide) [1, 2, 3, 4, 0] [(0, .ref 246), (1, .int v1), (2, .int v2), (3, .int r1), (4, .int 0)] rfl ?_
    refine EW_iconst (pc2 := 23) (v := 0) rfl dX12_failsBy_22 (by decide) ?_
    refine EW_istore (pc2 := 25) rfl dX12_failsBy_23 (by decide) [1, 2, 3, 4, 5, 0] [(0, .ref 246), (1, .int v1), (2, .int v2), (3, .int r1), (4, .int 0), (5, .int 0)] rfl ?_
    exact sX12_failsBy_25 v1 v2 r1 0 0 (wr x 246 74 0) K d bc bs hdp h
  · replace h := h.2 q
    refine EW_iconst (pc2 := 18) (v := 0) rfl dX12_failsBy_17 (by decide) ?_
    exact AW_iret rfl dX12_failsBy_18 ⟨_, _, rfl, rfl, h⟩
theorem mlRX12_608 : Cond.methodLink RX12 608 yX12_failsBy ∈ ab_G ∧ Cond.instanceMethod yX12_failsBy ∈ ab_G ∧ Cond.selects RX12 yX12_failsBy yX12_failsBy ∈ ab_G := ⟨ab_in 2643 (by decide +kernel) (by decide +kernel), ab_in 2645 (by decide +kernel) (by decide +kernel), ab_in 75 (by decide +kernel) (by decide +kernel)⟩
abbrev MX12_code : ab_M := (yX12_code, cX12_code, 4, (some .int))
theorem dX12_code_0 : decode cX12_code 0 = .ok (.aload_n 0, 1) := by decide +kernel
theorem dX12_code_1 : decode cX12_code 1 = .ok (.iconst 0, 1) := by decide +kernel
theorem dX12_code_2 : decode cX12_code 2 = .ok (.putfield 297, 3) := by decide +kernel
theorem dX12_code_5 : decode cX12_code 5 = .ok (.aload_n 0, 1) := by decide +kernel
theorem dX12_code_6 : decode cX12_code 6 = .ok (.iload_n 1, 1) := by decide +kernel
theorem dX12_code_7 : decode cX12_code 7 = .ok (.invokevirtual 334, 3) := by decide +kernel
theorem dX12_code_10 : decode cX12_code 10 = .ok (.ifCond .eq 15, 3) := by decide +kernel
theorem dX12_code_13 : decode cX12_code 13 = .ok (.iload_n 2, 1) := by decide +kernel
theorem dX12_code_14 : decode cX12_code 14 = .ok (.iconst 0, 1) := by decide +kernel
theorem dX12_code_15 : decode cX12_code 15 = .ok (.aload_n 0, 1) := by decide +kernel
theorem dX12_code_16 : decode cX12_code 16 = .ok (.getfield 395, 3) := by decide +kernel
theorem dX12_code_19 : decode cX12_code 19 = .ok (.invokestatic 307, 3) := by decide +kernel
theorem dX12_code_22 : decode cX12_code 22 = .ok (.ifCond .ne 5, 3) := by decide +kernel
theorem dX12_code_25 : decode cX12_code 25 = .ok (.iconst (-1), 1) := by decide +kernel
theorem dX12_code_26 : decode cX12_code 26 = .ok (.ireturn, 1) := by decide +kernel
theorem dX12_code_27 : decode cX12_code 27 = .ok (.iload_n 3, 1) := by decide +kernel
theorem dX12_code_28 : decode cX12_code 28 = .ok (.iconst 0, 1) := by decide +kernel
theorem dX12_code_29 : decode cX12_code 29 = .ok (.aload_n 0, 1) := by decide +kernel
theorem dX12_code_30 : decode cX12_code 30 = .ok (.iload_n 1, 1) := by decide +kernel
theorem dX12_code_31 : decode cX12_code 31 = .ok (.iload_n 2, 1) := by decide +kernel
theorem dX12_code_32 : decode cX12_code 32 = .ok (.invokevirtual 608, 3) := by decide +kernel
theorem dX12_code_35 : decode cX12_code 35 = .ok (.iconst 1, 1) := by decide +kernel
theorem dX12_code_36 : decode cX12_code 36 = .ok (.isub, 1) := by decide +kernel
theorem dX12_code_37 : decode cX12_code 37 = .ok (.invokestatic 307, 3) := by decide +kernel
theorem dX12_code_40 : decode cX12_code 40 = .ok (.ifCond .eq 12, 3) := by decide +kernel
theorem dX12_code_43 : decode cX12_code 43 = .ok (.aload_n 0, 1) := by decide +kernel
theorem dX12_code_44 : decode cX12_code 44 = .ok (.getfield 198, 3) := by decide +kernel
theorem dX12_code_47 : decode cX12_code 47 = .ok (.iload_n 3, 1) := by decide +kernel
theorem dX12_code_48 : decode cX12_code 48 = .ok (.iaload, 1) := by decide +kernel
theorem dX12_code_49 : decode cX12_code 49 = .ok (.goto 4, 3) := by decide +kernel
theorem dX12_code_52 : decode cX12_code 52 = .ok (.iconst (-1), 1) := by decide +kernel
theorem dX12_code_53 : decode cX12_code 53 = .ok (.ireturn, 1) := by decide +kernel
theorem okX12_code : ab_okM MX12_code 3 := ⟨by decide, ⟨by decide, by decide⟩, ab_in 2654 (by decide +kernel) (by decide +kernel), ab_in 99 (by decide +kernel) (by decide +kernel), by decide +kernel, by decide⟩
set_option maxHeartbeats 4000000 in
set_option maxRecDepth 100000 in
def wX12_code (v1 : Int32) (v2 : Int32) (v3 : Int32) (x : ab_X) (K : Int32 → ab_X → Prop) : Prop := wX12_isHouse v1 (wr x 246 0 0) (fun r1 => ((r1 = 0 → K (-1) (wr x 246 0 0)) ∧ (¬ r1 = 0 → wX12_isIn v2 0 ((wr x 246 0 0).1 246 1) (wr x 246 0 0) (fun r2 => ((¬ r2 = 0 → wX12_failsBy v1 v2 (wr x 246 0 0) (fun r3 x4 => wX12_isIn v3 0 (r3 - 1) x4 (fun r5 => ((r5 = 0 → K (-1) x4) ∧ (¬ r5 = 0 → (vp_in v3 200 ∧ K (x4.1 309 (Int32.toNatClampNeg v3)) x4)))))) ∧ (r2 = 0 → K (-1) (wr x 246 0 0)))))))
set_option maxHeartbeats 4000000 in
set_option maxRecDepth 100000 in
theorem sX12_code (v1 : Int32) (v2 : Int32) (v3 : Int32)  (x : ab_X) (K : Int32 → ab_X → Prop) (d bc bs : Nat) (hdp : 211 ≤ d) (h : wX12_code v1 v2 v3 x K) : EW MX12_code 0 [(0, .ref 246), (1, .int v1), (2, .int v2), (3, .int v3)] [] (aS x) d bc bs (liI K) := by
  unfold wX12_code at h
  refine EW_aload_n (pc2 := 1) rfl dX12_code_0 0 rfl ?_
  refine EW_iconst (pc2 := 2) (v := 0) rfl dX12_code_1 (by decide) ?_
  refine AW_puti ⟨gfRX12_297, rfl, rfl⟩ (pc2 := 5) rfl dX12_code_2 q246 ?_
  refine EW_aload_n (pc2 := 6) rfl dX12_code_5 0 rfl ?_
  refine EW_iload_n (pc2 := 7) rfl dX12_code_6 1 rfl ?_
  refine AW_invV (M' := MX12_isHouse) [.int v1] (rest := []) mlRX12_334 okX12_isHouse (pc2 := 10) rfl dX12_code_7 rfl rfl (Nat.le_of_ble_eq_true rfl) (Nat.le_of_ble_eq_true rfl) (d' := 0) (by omega) q246 ⟨by decide, rfl⟩ (EW_mono (fun _ _ hr => ?_) (sX12_isHouse v1  (wr x 246 0 0) _ _ 0 0 (Nat.le_refl _) h))
  obtain ⟨r1, rfl, rfl, h⟩ := hr
  refine EW_if_eq (tgt := 25) (pc2 := 13) rfl dX12_code_10 (by decide) (fun q => ?_) (fun q => ?_)
  · replace h := h.1 q
    refine EW_iconst (pc2 := 26) (v := (-1)) rfl dX12_code_25 (by decide) ?_
    exact AW_iret rfl dX12_code_26 ⟨_, _, rfl, rfl, h⟩
  · replace h := h.2 q
    refine EW_iload_n (pc2 := 14) rfl dX12_code_13 2 rfl ?_
    refine EW_iconst (pc2 := 15) (v := 0) rfl dX12_code_14 (by decide) ?_
    refine EW_aload_n (pc2 := 16) rfl dX12_code_15 0 rfl ?_
    refine AW_geti ⟨gfRX12_395, rfl⟩ (pc2 := 19) rfl dX12_code_16 q246 ?_
    refine AW_invS (M' := MX12_isIn) [.int v2, .int 0, .int ((wr x 246 0 0).1 246 1)] (rest := []) mlRX12_307 okX12_isIn (pc2 := 22) rfl dX12_code_19 rfl rfl (Nat.le_of_ble_eq_true rfl) (Nat.le_of_ble_eq_true rfl) (d' := 0) (by omega) (EW_mono (fun _ _ hr => ?_) (sX12_isIn v2 0 ((wr x 246 0 0).1 246 1)  (wr x 246 0 0) _ _ 0 0 (Nat.le_refl _) h))
    obtain ⟨r2, rfl, rfl, h⟩ := hr
    refine EW_if_ne (tgt := 27) (pc2 := 25) rfl dX12_code_22 (by decide) (fun q => ?_) (fun q => ?_)
    · replace h := h.1 q
      refine EW_iload_n (pc2 := 28) rfl dX12_code_27 3 rfl ?_
      refine EW_iconst (pc2 := 29) (v := 0) rfl dX12_code_28 (by decide) ?_
      refine EW_aload_n (pc2 := 30) rfl dX12_code_29 0 rfl ?_
      refine EW_iload_n (pc2 := 31) rfl dX12_code_30 1 rfl ?_
      refine EW_iload_n (pc2 := 32) rfl dX12_code_31 2 rfl ?_
      refine AW_invV (M' := MX12_failsBy) [.int v1, .int v2] (rest := [.int 0, .int v3]) mlRX12_608 okX12_failsBy (pc2 := 35) rfl dX12_code_32 rfl rfl (Nat.le_of_ble_eq_true rfl) (Nat.le_of_ble_eq_true rfl) (d' := 210) (by omega) q246 ⟨by decide, rfl⟩ (EW_mono (fun _ _ hr => ?_) (sX12_failsBy v1 v2  (wr x 246 0 0) _ _ 0 0 (Nat.le_refl _) h))
      obtain ⟨r3, x4, rfl, rfl, h⟩ := hr
      refine EW_iconst (pc2 := 36) (v := 1) rfl dX12_code_35 (by decide) ?_
      refine EW_isub (pc2 := 37) rfl dX12_code_36 ?_
      refine AW_invS (M' := MX12_isIn) [.int v3, .int 0, .int (r3 - 1)] (rest := []) mlRX12_307 okX12_isIn (pc2 := 40) rfl dX12_code_37 rfl rfl (Nat.le_of_ble_eq_true rfl) (Nat.le_of_ble_eq_true rfl) (d' := 0) (by omega) (EW_mono (fun _ _ hr => ?_) (sX12_isIn v3 0 (r3 - 1)  x4 _ _ 0 0 (Nat.le_refl _) h))
      obtain ⟨r5, rfl, rfl, h⟩ := hr
      refine EW_if_eq (tgt := 52) (pc2 := 43) rfl dX12_code_40 (by decide) (fun q => ?_) (fun q => ?_)
      · replace h := h.1 q
        refine EW_iconst (pc2 := 53) (v := (-1)) rfl dX12_code_52 (by decide) ?_
        exact AW_iret rfl dX12_code_53 ⟨_, _, rfl, rfl, h⟩
      · replace h := h.2 q
        refine EW_aload_n (pc2 := 44) rfl dX12_code_43 0 rfl ?_
        refine AW_getr (r := 309) ⟨gfRX12_198, rfl⟩ (pc2 := 47) rfl dX12_code_44 q246 rfl ?_
        refine EW_iload_n (pc2 := 48) rfl dX12_code_47 3 rfl ?_
        obtain ⟨b6, h⟩ := h
        refine AW_iald (pc2 := 49) rfl dX12_code_48 q309 b6 ?_
        refine EW_goto (tgt := 53) dX12_code_49 (by decide) ?_
        exact AW_iret rfl dX12_code_53 ⟨_, _, rfl, rfl, h⟩
    · replace h := h.2 q
      refine EW_iconst (pc2 := 26) (v := (-1)) rfl dX12_code_25 (by decide) ?_
      exact AW_iret rfl dX12_code_26 ⟨_, _, rfl, rfl, h⟩
