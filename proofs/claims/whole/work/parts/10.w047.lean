theorem gfRX12_29 : ab_L RX12 29 12 8 := ⟨by decide, by decide, ab_in 1857 (by decide +kernel) (by decide +kernel)⟩
theorem gfRX12_9 : ab_L RX12 9 12 2 := ⟨by decide, by decide, ab_in 1851 (by decide +kernel) (by decide +kernel)⟩
theorem gfRX12_16 : ab_L RX12 16 12 4 := ⟨by decide, by decide, ab_in 1853 (by decide +kernel) (by decide +kernel)⟩
theorem gfRX12_19 : ab_L RX12 19 12 5 := ⟨by decide, by decide, ab_in 1854 (by decide +kernel) (by decide +kernel)⟩
theorem gfRX12_13 : ab_L RX12 13 12 3 := ⟨by decide, by decide, ab_in 1852 (by decide +kernel) (by decide +kernel)⟩
theorem gfRX12_300 : ab_L RX12 300 12 9 := ⟨by decide, by decide, ab_in 1858 (by decide +kernel) (by decide +kernel)⟩
theorem gfRX12_25 : ab_L RX12 25 12 7 := ⟨by decide, by decide, ab_in 1856 (by decide +kernel) (by decide +kernel)⟩
abbrev MX12_comeBy : ab_M := (yX12_comeBy, cX12_comeBy, 11, (some .int))
theorem dX12_comeBy_0 : decode cX12_comeBy 0 = .ok (.iconst 0, 1) := by decide +kernel
theorem dX12_comeBy_1 : decode cX12_comeBy 1 = .ok (.istore 5, 2) := by decide +kernel
theorem dX12_comeBy_3 : decode cX12_comeBy 3 = .ok (.iload 5, 2) := by decide +kernel
theorem dX12_comeBy_5 : decode cX12_comeBy 5 = .ok (.sipush 12020, 3) := by decide +kernel
theorem dX12_comeBy_8 : decode cX12_comeBy 8 = .ok (.if_icmp .ge 17, 3) := by decide +kernel
theorem dX12_comeBy_11 : decode cX12_comeBy 11 = .ok (.aload_n 0, 1) := by decide +kernel
theorem dX12_comeBy_12 : decode cX12_comeBy 12 = .ok (.getfield 29, 3) := by decide +kernel
theorem dX12_comeBy_15 : decode cX12_comeBy 15 = .ok (.iload 5, 2) := by decide +kernel
theorem dX12_comeBy_17 : decode cX12_comeBy 17 = .ok (.iconst 0, 1) := by decide +kernel
theorem dX12_comeBy_18 : decode cX12_comeBy 18 = .ok (.bastore, 1) := by decide +kernel
theorem dX12_comeBy_19 : decode cX12_comeBy 19 = .ok (.iinc 5 1, 3) := by decide +kernel
theorem dX12_comeBy_22 : decode cX12_comeBy 22 = .ok (.goto (-19), 3) := by decide +kernel
theorem dX12_comeBy_25 : decode cX12_comeBy 25 = .ok (.aload_n 0, 1) := by decide +kernel
theorem dX12_comeBy_26 : decode cX12_comeBy 26 = .ok (.getfield 29, 3) := by decide +kernel
theorem dX12_comeBy_29 : decode cX12_comeBy 29 = .ok (.iload_n 1, 1) := by decide +kernel
theorem dX12_comeBy_30 : decode cX12_comeBy 30 = .ok (.iconst 1, 1) := by decide +kernel
theorem dX12_comeBy_31 : decode cX12_comeBy 31 = .ok (.bastore, 1) := by decide +kernel
theorem dX12_comeBy_32 : decode cX12_comeBy 32 = .ok (.iconst 0, 1) := by decide +kernel
theorem dX12_comeBy_33 : decode cX12_comeBy 33 = .ok (.istore 5, 2) := by decide +kernel
theorem dX12_comeBy_35 : decode cX12_comeBy 35 = .ok (.iload 5, 2) := by decide +kernel
theorem dX12_comeBy_37 : decode cX12_comeBy 37 = .ok (.sipush 600, 3) := by decide +kernel
theorem dX12_comeBy_40 : decode cX12_comeBy 40 = .ok (.if_icmp .gt 214, 3) := by decide +kernel
theorem dX12_comeBy_43 : decode cX12_comeBy 43 = .ok (.aload_n 0, 1) := by decide +kernel
theorem dX12_comeBy_44 : decode cX12_comeBy 44 = .ok (.getfield 29, 3) := by decide +kernel
theorem dX12_comeBy_47 : decode cX12_comeBy 47 = .ok (.bipush 20, 2) := by decide +kernel
theorem dX12_comeBy_49 : decode cX12_comeBy 49 = .ok (.iload 5, 2) := by decide +kernel
theorem dX12_comeBy_51 : decode cX12_comeBy 51 = .ok (.imul, 1) := by decide +kernel
theorem dX12_comeBy_52 : decode cX12_comeBy 52 = .ok (.iload_n 2, 1) := by decide +kernel
theorem dX12_comeBy_53 : decode cX12_comeBy 53 = .ok (.iadd, 1) := by decide +kernel
theorem dX12_comeBy_54 : decode cX12_comeBy 54 = .ok (.baload, 1) := by decide +kernel
theorem dX12_comeBy_55 : decode cX12_comeBy 55 = .ok (.ifCond .eq 8, 3) := by decide +kernel
theorem dX12_comeBy_58 : decode cX12_comeBy 58 = .ok (.iload_n 3, 1) := by decide +kernel
theorem dX12_comeBy_59 : decode cX12_comeBy 59 = .ok (.iload 5, 2) := by decide +kernel
theorem dX12_comeBy_61 : decode cX12_comeBy 61 = .ok (.iadd, 1) := by decide +kernel
theorem dX12_comeBy_62 : decode cX12_comeBy 62 = .ok (.ireturn, 1) := by decide +kernel
theorem dX12_comeBy_63 : decode cX12_comeBy 63 = .ok (.iload_n 3, 1) := by decide +kernel
theorem dX12_comeBy_64 : decode cX12_comeBy 64 = .ok (.iload 5, 2) := by decide +kernel
theorem dX12_comeBy_66 : decode cX12_comeBy 66 = .ok (.iadd, 1) := by decide +kernel
theorem dX12_comeBy_67 : decode cX12_comeBy 67 = .ok (.invokestatic 320, 3) := by decide +kernel
theorem dX12_comeBy_70 : decode cX12_comeBy 70 = .ok (.istore 6, 2) := by decide +kernel
theorem dX12_comeBy_72 : decode cX12_comeBy 72 = .ok (.iconst 0, 1) := by decide +kernel
theorem dX12_comeBy_73 : decode cX12_comeBy 73 = .ok (.istore 7, 2) := by decide +kernel
theorem dX12_comeBy_75 : decode cX12_comeBy 75 = .ok (.iload 7, 2) := by decide +kernel
theorem dX12_comeBy_77 : decode cX12_comeBy 77 = .ok (.aload_n 0, 1) := by decide +kernel
theorem dX12_comeBy_78 : decode cX12_comeBy 78 = .ok (.getfield 300, 3) := by decide +kernel
theorem dX12_comeBy_81 : decode cX12_comeBy 81 = .ok (.if_icmp .ge 167, 3) := by decide +kernel
theorem dX12_comeBy_84 : decode cX12_comeBy 84 = .ok (.aload_n 0, 1) := by decide +kernel
theorem dX12_comeBy_85 : decode cX12_comeBy 85 = .ok (.getfield 29, 3) := by decide +kernel
theorem dX12_comeBy_88 : decode cX12_comeBy 88 = .ok (.bipush 20, 2) := by decide +kernel
theorem dX12_comeBy_90 : decode cX12_comeBy 90 = .ok (.iload 5, 2) := by decide +kernel
theorem dX12_comeBy_92 : decode cX12_comeBy 92 = .ok (.imul, 1) := by decide +kernel
theorem dX12_comeBy_93 : decode cX12_comeBy 93 = .ok (.aload_n 0, 1) := by decide +kernel
theorem dX12_comeBy_94 : decode cX12_comeBy 94 = .ok (.getfield 9, 3) := by decide +kernel
theorem dX12_comeBy_97 : decode cX12_comeBy 97 = .ok (.iload 7, 2) := by decide +kernel
theorem dX12_comeBy_99 : decode cX12_comeBy 99 = .ok (.iaload, 1) := by decide +kernel
theorem dX12_comeBy_100 : decode cX12_comeBy 100 = .ok (.iadd, 1) := by decide +kernel
theorem dX12_comeBy_101 : decode cX12_comeBy 101 = .ok (.baload, 1) := by decide +kernel
theorem dX12_comeBy_102 : decode cX12_comeBy 102 = .ok (.istore 8, 2) := by decide +kernel
theorem dX12_comeBy_104 : decode cX12_comeBy 104 = .ok (.aload_n 0, 1) := by decide +kernel
theorem dX12_comeBy_105 : decode cX12_comeBy 105 = .ok (.getfield 29, 3) := by decide +kernel
theorem dX12_comeBy_108 : decode cX12_comeBy 108 = .ok (.bipush 20, 2) := by decide +kernel
theorem dX12_comeBy_110 : decode cX12_comeBy 110 = .ok (.iload 5, 2) := by decide +kernel
theorem dX12_comeBy_112 : decode cX12_comeBy 112 = .ok (.imul, 1) := by decide +kernel
theorem dX12_comeBy_113 : decode cX12_comeBy 113 = .ok (.aload_n 0, 1) := by decide +kernel
theorem dX12_comeBy_114 : decode cX12_comeBy 114 = .ok (.getfield 13, 3) := by decide +kernel
theorem dX12_comeBy_117 : decode cX12_comeBy 117 = .ok (.iload 7, 2) := by decide +kernel
theorem dX12_comeBy_119 : decode cX12_comeBy 119 = .ok (.iaload, 1) := by decide +kernel
theorem dX12_comeBy_120 : decode cX12_comeBy 120 = .ok (.iadd, 1) := by decide +kernel
theorem dX12_comeBy_121 : decode cX12_comeBy 121 = .ok (.baload, 1) := by decide +kernel
theorem dX12_comeBy_122 : decode cX12_comeBy 122 = .ok (.istore 9, 2) := by decide +kernel
theorem dX12_comeBy_124 : decode cX12_comeBy 124 = .ok (.aload_n 0, 1) := by decide +kernel
theorem dX12_comeBy_125 : decode cX12_comeBy 125 = .ok (.getfield 25, 3) := by decide +kernel
theorem dX12_comeBy_128 : decode cX12_comeBy 128 = .ok (.iload 7, 2) := by decide +kernel
theorem dX12_comeBy_130 : decode cX12_comeBy 130 = .ok (.baload, 1) := by decide +kernel
theorem dX12_comeBy_131 : decode cX12_comeBy 131 = .ok (.ifCond .ne 111, 3) := by decide +kernel
theorem dX12_comeBy_134 : decode cX12_comeBy 134 = .ok (.iload 8, 2) := by decide +kernel
theorem dX12_comeBy_136 : decode cX12_comeBy 136 = .ok (.ifCond .ne 11, 3) := by decide +kernel
theorem dX12_comeBy_139 : decode cX12_comeBy 139 = .ok (.iload 9, 2) := by decide +kernel
theorem dX12_comeBy_141 : decode cX12_comeBy 141 = .ok (.ifCond .ne 6, 3) := by decide +kernel
theorem dX12_comeBy_144 : decode cX12_comeBy 144 = .ok (.goto 98, 3) := by decide +kernel
theorem dX12_comeBy_147 : decode cX12_comeBy 147 = .ok (.iload 5, 2) := by decide +kernel
theorem dX12_comeBy_149 : decode cX12_comeBy 149 = .ok (.aload_n 0, 1) := by decide +kernel
theorem dX12_comeBy_150 : decode cX12_comeBy 150 = .ok (.getfield 16, 3) := by decide +kernel
theorem dX12_comeBy_153 : decode cX12_comeBy 153 = .ok (.iload 7, 2) := by decide +kernel
theorem dX12_comeBy_155 : decode cX12_comeBy 155 = .ok (.iaload, 1) := by decide +kernel
theorem dX12_comeBy_156 : decode cX12_comeBy 156 = .ok (.aload_n 0, 1) := by decide +kernel
theorem dX12_comeBy_157 : decode cX12_comeBy 157 = .ok (.getfield 19, 3) := by decide +kernel
theorem dX12_comeBy_160 : decode cX12_comeBy 160 = .ok (.iconst 4, 1) := by decide +kernel
theorem dX12_comeBy_161 : decode cX12_comeBy 161 = .ok (.iload 7, 2) := by decide +kernel
theorem dX12_comeBy_163 : decode cX12_comeBy 163 = .ok (.imul, 1) := by decide +kernel
theorem dX12_comeBy_164 : decode cX12_comeBy 164 = .ok (.iload 6, 2) := by decide +kernel
theorem dX12_comeBy_166 : decode cX12_comeBy 166 = .ok (.iadd, 1) := by decide +kernel
theorem dX12_comeBy_167 : decode cX12_comeBy 167 = .ok (.iaload, 1) := by decide +kernel
theorem dX12_comeBy_168 : decode cX12_comeBy 168 = .ok (.imul, 1) := by decide +kernel
theorem dX12_comeBy_169 : decode cX12_comeBy 169 = .ok (.iload 4, 2) := by decide +kernel
theorem dX12_comeBy_171 : decode cX12_comeBy 171 = .ok (.imul, 1) := by decide +kernel
theorem dX12_comeBy_172 : decode cX12_comeBy 172 = .ok (.sipush 9999, 3) := by decide +kernel
theorem dX12_comeBy_175 : decode cX12_comeBy 175 = .ok (.iadd, 1) := by decide +kernel
theorem dX12_comeBy_176 : decode cX12_comeBy 176 = .ok (.sipush 10000, 3) := by decide +kernel
theorem dX12_comeBy_179 : decode cX12_comeBy 179 = .ok (.idiv, 1) := by decide +kernel
theorem dX12_comeBy_180 : decode cX12_comeBy 180 = .ok (.iadd, 1) := by decide +kernel
theorem dX12_comeBy_181 : decode cX12_comeBy 181 = .ok (.istore 10, 2) := by decide +kernel
theorem dX12_comeBy_183 : decode cX12_comeBy 183 = .ok (.iload 10, 2) := by decide +kernel
theorem dX12_comeBy_185 : decode cX12_comeBy 185 = .ok (.sipush 600, 3) := by decide +kernel
theorem dX12_comeBy_188 : decode cX12_comeBy 188 = .ok (.if_icmp .le 6, 3) := by decide +kernel
theorem dX12_comeBy_191 : decode cX12_comeBy 191 = .ok (.goto 51, 3) := by decide +kernel
theorem dX12_comeBy_194 : decode cX12_comeBy 194 = .ok (.iload 8, 2) := by decide +kernel
theorem dX12_comeBy_196 : decode cX12_comeBy 196 = .ok (.ifCond .eq 22, 3) := by decide +kernel
theorem dX12_comeBy_199 : decode cX12_comeBy 199 = .ok (.aload_n 0, 1) := by decide +kernel
theorem dX12_comeBy_200 : decode cX12_comeBy 200 = .ok (.getfield 29, 3) := by decide +kernel
theorem dX12_comeBy_203 : decode cX12_comeBy 203 = .ok (.bipush 20, 2) := by decide +kernel
theorem dX12_comeBy_205 : decode cX12_comeBy 205 = .ok (.iload 10, 2) := by decide +kernel
theorem dX12_comeBy_207 : decode cX12_comeBy 207 = .ok (.imul, 1) := by decide +kernel
theorem dX12_comeBy_208 : decode cX12_comeBy 208 = .ok (.aload_n 0, 1) := by decide +kernel
theorem dX12_comeBy_209 : decode cX12_comeBy 209 = .ok (.getfield 13, 3) := by decide +kernel
theorem dX12_comeBy_212 : decode cX12_comeBy 212 = .ok (.iload 7, 2) := by decide +kernel
theorem dX12_comeBy_214 : decode cX12_comeBy 214 = .ok (.iaload, 1) := by decide +kernel
theorem dX12_comeBy_215 : decode cX12_comeBy 215 = .ok (.iadd, 1) := by decide +kernel
theorem dX12_comeBy_216 : decode cX12_comeBy 216 = .ok (.iconst 1, 1) := by decide +kernel
theorem dX12_comeBy_217 : decode cX12_comeBy 217 = .ok (.bastore, 1) := by decide +kernel
theorem dX12_comeBy_218 : decode cX12_comeBy 218 = .ok (.iload 9, 2) := by decide +kernel
theorem dX12_comeBy_220 : decode cX12_comeBy 220 = .ok (.ifCond .eq 22, 3) := by decide +kernel
theorem dX12_comeBy_223 : decode cX12_comeBy 223 = .ok (.aload_n 0, 1) := by decide +kernel
theorem dX12_comeBy_224 : decode cX12_comeBy 224 = .ok (.getfield 29, 3) := by decide +kernel
theorem dX12_comeBy_227 : decode cX12_comeBy 227 = .ok (.bipush 20, 2) := by decide +kernel
theorem dX12_comeBy_229 : decode cX12_comeBy 229 = .ok (.iload 10, 2) := by decide +kernel
theorem dX12_comeBy_231 : decode cX12_comeBy 231 = .ok (.imul, 1) := by decide +kernel
theorem dX12_comeBy_232 : decode cX12_comeBy 232 = .ok (.aload_n 0, 1) := by decide +kernel
theorem dX12_comeBy_233 : decode cX12_comeBy 233 = .ok (.getfield 9, 3) := by decide +kernel
theorem dX12_comeBy_236 : decode cX12_comeBy 236 = .ok (.iload 7, 2) := by decide +kernel
theorem dX12_comeBy_238 : decode cX12_comeBy 238 = .ok (.iaload, 1) := by decide +kernel
theorem dX12_comeBy_239 : decode cX12_comeBy 239 = .ok (.iadd, 1) := by decide +kernel
theorem dX12_comeBy_240 : decode cX12_comeBy 240 = .ok (.iconst 1, 1) := by decide +kernel
theorem dX12_comeBy_241 : decode cX12_comeBy 241 = .ok (.bastore, 1) := by decide +kernel
theorem dX12_comeBy_242 : decode cX12_comeBy 242 = .ok (.iinc 7 1, 3) := by decide +kernel
theorem dX12_comeBy_245 : decode cX12_comeBy 245 = .ok (.goto (-170), 3) := by decide +kernel
theorem dX12_comeBy_248 : decode cX12_comeBy 248 = .ok (.iinc 5 1, 3) := by decide +kernel
theorem dX12_comeBy_251 : decode cX12_comeBy 251 = .ok (.goto (-216), 3) := by decide +kernel
theorem dX12_comeBy_254 : decode cX12_comeBy 254 = .ok (.iconst (-1), 1) := by decide +kernel
theorem dX12_comeBy_255 : decode cX12_comeBy 255 = .ok (.ireturn, 1) := by decide +kernel
theorem okX12_comeBy : ab_okM MX12_comeBy 4 := ⟨by decide, ⟨by decide, by decide⟩, ab_in 2248 (by decide +kernel) (by decide +kernel), ab_in 99 (by decide +kernel) (by decide +kernel), by decide +kernel, by decide⟩
set_option maxHeartbeats 4000000 in
set_option maxRecDepth 100000 in
def wX12_comeBy_218 (v2 : Int32) (v3 : Int32) (v4 : Int32) (v5 : Int32) (v6 : Int32) (v7 : Int32) (v9 : Int32) (v10 : Int32) (x : ab_X) (K : Int32 → ab_X → Prop) (L35 : Int32 → ab_X → Prop) (L75 : Int32 → ab_X → Prop) : Prop := ((v9 = 0 → L75 (v7 + 1) x) ∧ (¬ v9 = 0 → (vp_in v7 40 ∧ vp_in ((20 * v10) + (x.1 247 (Int32.toNatClampNeg v7))) 12020 ∧ L75 (v7 + 1) (wr x 253 (Int32.toNatClampNeg ((20 * v10) + (x.1 247 (Int32.toNatClampNeg v7)))) 1))))
set_option maxHeartbeats 4000000 in
set_option maxRecDepth 100000 in
theorem sX12_comeBy_218 (v2 : Int32) (v3 : Int32) (v4 : Int32) (v5 : Int32) (v6 : Int32) (v7 : Int32) (v9 : Int32) (v10 : Int32)  (x : ab_X) (K : Int32 → ab_X → Prop) (L35 : Int32 → ab_X → Prop) (L75 : Int32 → ab_X → Prop) (d bc bs : Nat) (hdp : 1 ≤ d) (hL35 : ∀ (v5 : Int32) (x : ab_X), L35 v5 x → EW MX12_comeBy 35 [(0, .ref 246), (2, .int v2), (3, .int v3), (4, .int v4), (5, .int v5)] [] (aS x) d bc bs (liI K)) (hL75 : ∀ (v7 : Int32) (x : ab_X), L75 v7 x → EW MX12_comeBy 75 [(0, .ref 246), (2, .int v2), (3, .int v3), (4, .int v4), (5, .int v5), (6, .int v6), (7, .int v7)] [] (aS x) d bc bs (liI K)) (h : wX12_comeBy_218 v2 v3 v4 v5 v6 v7 v9 v10 x K L35 L75) : EW MX12_comeBy 218 [(0, .ref 246), (2, .int v2), (3, .int v3), (4, .int v4), (5, .int v5), (6, .int v6), (7, .int v7), (9, .int v9), (10, .int v10)] [] (aS x) d bc bs (liI K) := by
  unfold wX12_comeBy_218 at h
  refine EW_iload (pc2 := 220) rfl dX12_comeBy_218 7 rfl ?_
  refine EW_if_eq (tgt := 242) (pc2 := 223) rfl dX12_comeBy_220 (by decide) (fun q => ?_) (fun q => ?_)
  · replace h := h.1 q
    refine EW_iinc (v7 + 1) (pc2 := 245) rfl dX12_comeBy_242 6 rfl rfl (by decide) [1, 2, 3, 4, 5, 6, 0, 7, 8] [(0, .ref 246), (2, .int v2), (3, .int v3), (4, .int v4), (5, .int v5), (6, .int v6), (7, .int (v7 + 1)), (9, .int v9), (10, .int v10)] rfl ?_
    refine EW_goto (tgt := 75) dX12_comeBy_245 (by decide) ?_
    refine EW_ls [0, 1, 2, 3, 4, 5, 6] rfl ?_
    exact hL75 (v7 + 1) x h
  · replace h := h.2 q
    refine EW_aload_n (pc2 := 224) rfl dX12_comeBy_223 0 rfl ?_
    refine AW_getr (r := 253) ⟨gfRX12_29, rfl⟩ (pc2 := 227) rfl dX12_comeBy_224 q246 rfl ?_
    refine EW_bipush (pc2 := 229) (v := 20) rfl dX12_comeBy_227 (by decide) ?_
    refine EW_iload (pc2 := 231) rfl dX12_comeBy_229 8 rfl ?_
    refine EW_imul (pc2 := 232) rfl dX12_comeBy_231 ?_
    refine EW_aload_n (pc2 := 233) rfl dX12_comeBy_232 0 rfl ?_
    refine AW_getr (r := 247) ⟨gfRX12_9, rfl⟩ (pc2 := 236) rfl dX12_comeBy_233 q246 rfl ?_
    refine EW_iload (pc2 := 238) rfl dX12_comeBy_236 6 rfl ?_
    obtain ⟨b14, h⟩ := h
    refine AW_iald (pc2 := 239) rfl dX12_comeBy_238 q247 b14 ?_
    refine EW_iadd (pc2 := 240) rfl dX12_comeBy_239 ?_
    refine EW_iconst (pc2 := 241) (v := 1) rfl dX12_comeBy_240 (by decide) ?_
    obtain ⟨b15, h⟩ := h
    refine AW_zast (pc2 := 242) rfl dX12_comeBy_241 q253 b15 isB1 ?_
    refine EW_iinc (v7 + 1) (pc2 := 245) rfl dX12_comeBy_242 6 rfl rfl (by decide) [1, 2, 3, 4, 5, 6, 0, 7, 8] [(0, .ref 246), (2, .int v2), (3, .int v3), (4, .int v4), (5, .int v5), (6, .int v6), (7, .int (v7 + 1)), (9, .int v9), (10, .int v10)] rfl ?_
    refine EW_goto (tgt := 75) dX12_comeBy_245 (by decide) ?_
    refine EW_ls [0, 1, 2, 3, 4, 5, 6] rfl ?_
    exact hL75 (v7 + 1) (wr x 253 (Int32.toNatClampNeg ((20 * v10) + (x.1 247 (Int32.toNatClampNeg v7)))) 1) h
set_option maxHeartbeats 4000000 in
set_option maxRecDepth 100000 in
def wX12_comeBy_147 (v2 : Int32) (v3 : Int32) (v4 : Int32) (v5 : Int32) (v6 : Int32) (v7 : Int32) (v8 : Int32) (v9 : Int32) (x : ab_X) (K : Int32 → ab_X → Prop) (L35 : Int32 → ab_X → Prop) (L75 : Int32 → ab_X → Prop) : Prop := (vp_in v7 40 ∧ vp_in ((4 * v7) + v6) 160 ∧ (((v5 + (((((x.1 249 (Int32.toNatClampNeg v7)) * (x.1 250 (Int32.toNatClampNeg ((4 * v7) + v6)))) * v4) + 9999) / 10000)) ≤ 600 → ((v8 = 0 → wX12_comeBy_218 v2 v3 v4 v5 v6 v7 v9 (v5 + (((((x.1 249 (Int32.toNatClampNeg v7)) * (x.1 250 (Int32.toNatClampNeg ((4 * v7) + v6)))) * v4) + 9999) / 10000)) x K L35 L75) ∧ (¬ v8 = 0 → (vp_in v7 40 ∧ vp_in ((20 * (v5 + (((((x.1 249 (Int32.toNatClampNeg v7)) * (x.1 250 (Int32.toNatClampNeg ((4 * v7) + v6)))) * v4) + 9999) / 10000))) + (x.1 248 (Int32.toNatClampNeg v7))) 12020 ∧ wX12_comeBy_218 v2 v3 v4 v5 v6 v7 v9 (v5 + (((((x.1 249 (Int32.toNatClampNeg v7)) * (x.1 250 (Int32.toNatClampNeg ((4 * v7) + v6)))) * v4) + 9999) / 10000)) (wr x 253 (Int32.toNatClampNeg ((20 * (v5 + (((((x.1 249 (Int32.toNatClampNeg v7)) * (x.1 250 (Int32.toNatClampNeg ((4 * v7) + v6)))) * v4) + 9999) / 10000))) + (x.1 248 (Int32.toNatClampNeg v7)))) 1) K L35 L75)))) ∧ (¬ (v5 + (((((x.1 249 (Int32.toNatClampNeg v7)) * (x.1 250 (Int32.toNatClampNeg ((4 * v7) + v6)))) * v4) + 9999) / 10000)) ≤ 600 → L75 (v7 + 1) x)))
set_option maxHeartbeats 4000000 in
set_option maxRecDepth 100000 in
theorem sX12_comeBy_147 (v2 : Int32) (v3 : Int32) (v4 : Int32) (v5 : Int32) (v6 : Int32) (v7 : Int32) (v8 : Int32) (v9 : Int32)  (x : ab_X) (K : Int32 → ab_X → Prop) (L35 : Int32 → ab_X → Prop) (L75 : Int32 → ab_X → Prop) (d bc bs : Nat) (hdp : 1 ≤ d) (hL35 : ∀ (v5 : Int32) (x : ab_X), L35 v5 x → EW MX12_comeBy 35 [(0, .ref 246), (2, .int v2), (3, .int v3), (4, .int v4), (5, .int v5)] [] (aS x) d bc bs (liI K)) (hL75 : ∀ (v7 : Int32) (x : ab_X), L75 v7 x → EW MX12_comeBy 75 [(0, .ref 246), (2, .int v2), (3, .int v3), (4, .int v4), (5, .int v5), (6, .int v6), (7, .int v7)] [] (aS x) d bc bs (liI K)) (h : wX12_comeBy_147 v2 v3 v4 v5 v6 v7 v8 v9 x K L35 L75) : EW MX12_comeBy 147 [(0, .ref 246), (2, .int v2), (3, .int v3), (4, .int v4), (5, .int v5), (6, .int v6), (7, .int v7), (8, .int v8), (9, .int v9)] [] (aS x) d bc bs (liI K) := by
  unfold wX12_comeBy_147 at h
  refine EW_iload (pc2 := 149) rfl dX12_comeBy_147 4 rfl ?_
  refine EW_aload_n (pc2 := 150) rfl dX12_comeBy_149 0 rfl ?_
  refine AW_getr (r := 249) ⟨gfRX12_16, rfl⟩ (pc2 := 153) rfl dX12_comeBy_150 q246 rfl ?_
  refine EW_iload (pc2 := 155) rfl dX12_comeBy_153 6 rfl ?_
  obtain ⟨b10, h⟩ := h
  refine AW_iald (pc2 := 156) rfl dX12_comeBy_155 q249 b10 ?_
  refine EW_aload_n (pc2 := 157) rfl dX12_comeBy_156 0 rfl ?_
  refine AW_getr (r := 250) ⟨gfRX12_19, rfl⟩ (pc2 := 160) rfl dX12_comeBy_157 q246 rfl ?_
  refine EW_iconst (pc2 := 161) (v := 4) rfl dX12_comeBy_160 (by decide) ?_
  refine EW_iload (pc2 := 163) rfl dX12_comeBy_161 6 rfl ?_
  refine EW_imul (pc2 := 164) rfl dX12_comeBy_163 ?_
  refine EW_iload (pc2 := 166) rfl dX12_comeBy_164 5 rfl ?_
  refine EW_iadd (pc2 := 167) rfl dX12_comeBy_166 ?_
  obtain ⟨b11, h⟩ := h
  refine AW_iald (pc2 := 168) rfl dX12_comeBy_167 q250 b11 ?_
  refine EW_imul (pc2 := 169) rfl dX12_comeBy_168 ?_
  refine EW_iload (pc2 := 171) rfl dX12_comeBy_169 3 rfl ?_
  refine EW_imul (pc2 := 172) rfl dX12_comeBy_171 ?_
  refine EW_sipush (pc2 := 175) (v := 9999) rfl dX12_comeBy_172 (by decide) ?_
  refine EW_iadd (pc2 := 176) rfl dX12_comeBy_175 ?_
  refine EW_sipush (pc2 := 179) (v := 10000) rfl dX12_comeBy_176 (by decide) ?_
  refine EW_idiv (pc2 := 180) rfl dX12_comeBy_179 (by decide) ?_
  refine EW_iadd (pc2 := 181) rfl dX12_comeBy_180 ?_
  refine EW_istore (pc2 := 183) rfl dX12_comeBy_181 (by decide) [1, 2, 3, 4, 5, 6, 7, 8, 9, 0] [(0, .ref 246), (2, .int v2), (3, .int v3), (4, .int v4), (5, .int v5), (6, .int v6), (7, .int v7), (8, .int v8), (9, .int v9), (10, .int (v5 + (((((x.1 249 (Int32.toNatClampNeg v7)) * (x.1 250 (Int32.toNatClampNeg ((4 * v7) + v6)))) * v4) + 9999) / 10000)))] rfl ?_
  refine EW_iload (pc2 := 185) rfl dX12_comeBy_183 9 rfl ?_
  refine EW_sipush (pc2 := 188) (v := 600) rfl dX12_comeBy_185 (by decide) ?_
  refine EW_icmp_le (tgt := 194) (pc2 := 191) rfl dX12_comeBy_188 (by decide) (fun q => ?_) (fun q => ?_)
  · replace h := h.1 q
    refine EW_iload (pc2 := 196) rfl dX12_comeBy_194 7 rfl ?_
    refine EW_if_eq (tgt := 218) (pc2 := 199) rfl dX12_comeBy_196 (by decide) (fun q => ?_) (fun q => ?_)
    · replace h := h.1 q
      refine EW_ls [0, 1, 2, 3, 4, 5, 6, 8, 9] rfl ?_
      exact sX12_comeBy_218 v2 v3 v4 v5 v6 v7 v9 (v5 + (((((x.1 249 (Int32.toNatClampNeg v7)) * (x.1 250 (Int32.toNatClampNeg ((4 * v7) + v6)))) * v4) + 9999) / 10000)) x K L35 L75 d bc bs hdp hL35 hL75 h
    · replace h := h.2 q
      refine EW_aload_n (pc2 := 200) rfl dX12_comeBy_199 0 rfl ?_
      refine AW_getr (r := 253) ⟨gfRX12_29, rfl⟩ (pc2 := 203) rfl dX12_comeBy_200 q246 rfl ?_
      refine EW_bipush (pc2 := 205) (v := 20) rfl dX12_comeBy_203 (by decide) ?_
      refine EW_iload (pc2 := 207) rfl dX12_comeBy_205 9 rfl ?_
      refine EW_imul (pc2 := 208) rfl dX12_comeBy_207 ?_
      refine EW_aload_n (pc2 := 209) rfl dX12_comeBy_208 0 rfl ?_
      refine AW_getr (r := 248) ⟨gfRX12_13, rfl⟩ (pc2 := 212) rfl dX12_comeBy_209 q246 rfl ?_
      refine EW_iload (pc2 := 214) rfl dX12_comeBy_212 6 rfl ?_
      obtain ⟨b12, h⟩ := h
      refine AW_iald (pc2 := 215) rfl dX12_comeBy_214 q248 b12 ?_
      refine EW_iadd (pc2 := 216) rfl dX12_comeBy_215 ?_
      refine EW_iconst (pc2 := 217) (v := 1) rfl dX12_comeBy_216 (by decide) ?_
      obtain ⟨b13, h⟩ := h
      refine AW_zast (pc2 := 218) rfl dX12_comeBy_217 q253 b13 isB1 ?_
      refine EW_ls [0, 1, 2, 3, 4, 5, 6, 8, 9] rfl ?_
      exact sX12_comeBy_218 v2 v3 v4 v5 v6 v7 v9 (v5 + (((((x.1 249 (Int32.toNatClampNeg v7)) * (x.1 250 (Int32.toNatClampNeg ((4 * v7) + v6)))) * v4) + 9999) / 10000)) (wr x 253 (Int32.toNatClampNeg ((20 * (v5 + (((((x.1 249 (Int32.toNatClampNeg v7)) * (x.1 250 (Int32.toNatClampNeg ((4 * v7) + v6)))) * v4) + 9999) / 10000))) + (x.1 248 (Int32.toNatClampNeg v7)))) 1) K L35 L75 d bc bs hdp hL35 hL75 h
  · replace h := h.2 q
    refine EW_goto (tgt := 242) dX12_comeBy_191 (by decide) ?_
    refine EW_iinc (v7 + 1) (pc2 := 245) rfl dX12_comeBy_242 6 rfl rfl (by decide) [1, 2, 3, 4, 5, 6, 0, 7, 8, 9] [(0, .ref 246), (2, .int v2), (3, .int v3), (4, .int v4), (5, .int v5), (6, .int v6), (7, .int (v7 + 1)), (8, .int v8), (9, .int v9), (10, .int (v5 + (((((x.1 249 (Int32.toNatClampNeg v7)) * (x.1 250 (Int32.toNatClampNeg ((4 * v7) + v6)))) * v4) + 9999) / 10000)))] rfl ?_
    refine EW_goto (tgt := 75) dX12_comeBy_245 (by decide) ?_
    refine EW_ls [0, 1, 2, 3, 4, 5, 6] rfl ?_
    exact hL75 (v7 + 1) x h
set_option maxHeartbeats 4000000 in
set_option maxRecDepth 100000 in
def lX12_comeBy_75 (v2 : Int32) (v3 : Int32) (v4 : Int32) (v5 : Int32) (v6 : Int32) (K : Int32 → ab_X → Prop) (L35 : Int32 → ab_X → Prop) (L75 : Int32 → ab_X → Prop) (v7 : Int32) (x : ab_X) : Prop := (((x.1 246 9) ≤ v7 → L35 (v5 + 1) x) ∧ (¬ (x.1 246 9) ≤ v7 → (vp_in v7 40 ∧ vp_in ((20 * v5) + (x.1 247 (Int32.toNatClampNeg v7))) 12020 ∧ vp_in v7 40 ∧ vp_in ((20 * v5) + (x.1 248 (Int32.toNatClampNeg v7))) 12020 ∧ vp_in v7 40 ∧ ((¬ (x.1 252 (Int32.toNatClampNeg v7)) = 0 → L75 (v7 + 1) x) ∧ ((x.1 252 (Int32.toNatClampNeg v7)) = 0 → ((¬ (x.1 253 (Int32.toNatClampNeg ((20 * v5) + (x.1 247 (Int32.toNatClampNeg v7))))) = 0 → wX12_comeBy_147 v2 v3 v4 v5 v6 v7 (x.1 253 (Int32.toNatClampNeg ((20 * v5) + (x.1 247 (Int32.toNatClampNeg v7))))) (x.1 253 (Int32.toNatClampNeg ((20 * v5) + (x.1 248 (Int32.toNatClampNeg v7))))) x K L35 L75) ∧ ((x.1 253 (Int32.toNatClampNeg ((20 * v5) + (x.1 247 (Int32.toNatClampNeg v7))))) = 0 → ((¬ (x.1 253 (Int32.toNatClampNeg ((20 * v5) + (x.1 248 (Int32.toNatClampNeg v7))))) = 0 → wX12_comeBy_147 v2 v3 v4 v5 v6 v7 (x.1 253 (Int32.toNatClampNeg ((20 * v5) + (x.1 247 (Int32.toNatClampNeg v7))))) (x.1 253 (Int32.toNatClampNeg ((20 * v5) + (x.1 248 (Int32.toNatClampNeg v7))))) x K L35 L75) ∧ ((x.1 253 (Int32.toNatClampNeg ((20 * v5) + (x.1 248 (Int32.toNatClampNeg v7))))) = 0 → L75 (v7 + 1) x)))))))))
set_option maxHeartbeats 4000000 in
set_option maxRecDepth 100000 in
theorem sX12_comeBy_75 (v2 : Int32) (v3 : Int32) (v4 : Int32) (v5 : Int32) (v6 : Int32) (v7 : Int32)  (x : ab_X) (K : Int32 → ab_X → Prop) (L35 : Int32 → ab_X → Prop) (d bc bs : Nat) (hdp : 1 ≤ d) (hL35 : ∀ (v5 : Int32) (x : ab_X), L35 v5 x → EW MX12_comeBy 35 [(0, .ref 246), (2, .int v2), (3, .int v3), (4, .int v4), (5, .int v5)] [] (aS x) d bc bs (liI K)) (h : Lp2 (lX12_comeBy_75 v2 v3 v4 v5 v6 K L35) v7 x) : EW MX12_comeBy 75 [(0, .ref 246), (2, .int v2), (3, .int v3), (4, .int v4), (5, .int v5), (6, .int v6), (7, .int v7)] [] (aS x) d bc bs (liI K) := by
  refine Lp2.use (P := fun v7 x => EW MX12_comeBy 75 [(0, .ref 246), (2, .int v2), (3, .int v3), (4, .int v4), (5, .int v5), (6, .int v6), (7, .int v7)] [] (aS x) d bc bs (liI K)) (fun L75 v7 x hL75 h => ?_) v7 x h
  unfold lX12_comeBy_75 at h
  refine EW_iload (pc2 := 77) rfl dX12_comeBy_75 6 rfl ?_
  refine EW_aload_n (pc2 := 78) rfl dX12_comeBy_77 0 rfl ?_
  refine AW_geti ⟨gfRX12_300, rfl⟩ (pc2 := 81) rfl dX12_comeBy_78 q246 ?_
  refine EW_icmp_ge (tgt := 248) (pc2 := 84) rfl dX12_comeBy_81 (by decide) (fun q => ?_) (fun q => ?_)
  · replace h := h.1 q
    refine EW_iinc (v5 + 1) (pc2 := 251) rfl dX12_comeBy_248 4 rfl rfl (by decide) [1, 2, 3, 4, 0, 5, 6] [(0, .ref 246), (2, .int v2), (3, .int v3), (4, .int v4), (5, .int (v5 + 1)), (6, .int v6), (7, .int v7)] rfl ?_
    refine EW_goto (tgt := 35) dX12_comeBy_251 (by decide) ?_
    refine EW_ls [0, 1, 2, 3, 4] rfl ?_
    exact hL35 (v5 + 1) x h
  · replace h := h.2 q
    refine EW_aload_n (pc2 := 85) rfl dX12_comeBy_84 0 rfl ?_
    refine AW_getr (r := 253) ⟨gfRX12_29, rfl⟩ (pc2 := 88) rfl dX12_comeBy_85 q246 rfl ?_
    refine EW_bipush (pc2 := 90) (v := 20) rfl dX12_comeBy_88 (by decide) ?_
    refine EW_iload (pc2 := 92) rfl dX12_comeBy_90 4 rfl ?_
    refine EW_imul (pc2 := 93) rfl dX12_comeBy_92 ?_
    refine EW_aload_n (pc2 := 94) rfl dX12_comeBy_93 0 rfl ?_
    refine AW_getr (r := 247) ⟨gfRX12_9, rfl⟩ (pc2 := 97) rfl dX12_comeBy_94 q246 rfl ?_
    refine EW_iload (pc2 := 99) rfl dX12_comeBy_97 6 rfl ?_
    obtain ⟨b5, h⟩ := h
    refine AW_iald (pc2 := 100) rfl dX12_comeBy_99 q247 b5 ?_
    refine EW_iadd (pc2 := 101) rfl dX12_comeBy_100 ?_
    obtain ⟨b6, h⟩ := h
    refine AW_zald (pc2 := 102) rfl dX12_comeBy_101 q253 b6 ?_
    refine EW_istore (pc2 := 104) rfl dX12_comeBy_102 (by decide) [1, 2, 3, 4, 5, 6, 7, 0] [(0, .ref 246), (2, .int v2), (3, .int v3), (4, .int v4), (5, .int v5), (6, .int v6), (7, .int v7), (8, .int (x.1 253 (Int32.toNatClampNeg ((20 * v5) + (x.1 247 (Int32.toNatClampNeg v7))))))] rfl ?_
    refine EW_aload_n (pc2 := 105) rfl dX12_comeBy_104 0 rfl ?_
    refine AW_getr (r := 253) ⟨gfRX12_29, rfl⟩ (pc2 := 108) rfl dX12_comeBy_105 q246 rfl ?_
    refine EW_bipush (pc2 := 110) (v := 20) rfl dX12_comeBy_108 (by decide) ?_
    refine EW_iload (pc2 := 112) rfl dX12_comeBy_110 4 rfl ?_
    refine EW_imul (pc2 := 113) rfl dX12_comeBy_112 ?_
    refine EW_aload_n (pc2 := 114) rfl dX12_comeBy_113 0 rfl ?_
    refine AW_getr (r := 248) ⟨gfRX12_13, rfl⟩ (pc2 := 117) rfl dX12_comeBy_114 q246 rfl ?_
    refine EW_iload (pc2 := 119) rfl dX12_comeBy_117 6 rfl ?_
    obtain ⟨b7, h⟩ := h
    refine AW_iald (pc2 := 120) rfl dX12_comeBy_119 q248 b7 ?_
    refine EW_iadd (pc2 := 121) rfl dX12_comeBy_120 ?_
    obtain ⟨b8, h⟩ := h
    refine AW_zald (pc2 := 122) rfl dX12_comeBy_121 q253 b8 ?_
    refine EW_istore (pc2 := 124) rfl dX12_comeBy_122 (by decide) [1, 2, 3, 4, 5, 6, 7, 8, 0] [(0, .ref 246), (2, .int v2), (3, .int v3), (4, .int v4), (5, .int v5), (6, .int v6), (7, .int v7), (8, .int (x.1 253 (Int32.toNatClampNeg ((20 * v5) + (x.1 247 (Int32.toNatClampNeg v7)))))), (9, .int (x.1 253 (Int32.toNatClampNeg ((20 * v5) + (x.1 248 (Int32.toNatClampNeg v7))))))] rfl ?_
    refine EW_aload_n (pc2 := 125) rfl dX12_comeBy_124 0 rfl ?_
    refine AW_getr (r := 252) ⟨gfRX12_25, rfl⟩ (pc2 := 128) rfl dX12_comeBy_125 q246 rfl ?_
    refine EW_iload (pc2 := 130) rfl dX12_comeBy_128 6 rfl ?_
    obtain ⟨b9, h⟩ := h
    refine AW_zald (pc2 := 131) rfl dX12_comeBy_130 q252 b9 ?_
    refine EW_if_ne (tgt := 242) (pc2 := 134) rfl dX12_comeBy_131 (by decide) (fun q => ?_) (fun q => ?_)
    · replace h := h.1 q
      refine EW_iinc (v7 + 1) (pc2 := 245) rfl dX12_comeBy_242 6 rfl rfl (by decide) [1, 2, 3, 4, 5, 6, 0, 7, 8] [(0, .ref 246), (2, .int v2), (3, .int v3), (4, .int v4), (5, .int v5), (6, .int v6), (7, .int (v7 + 1)), (8, .int (x.1 253 (Int32.toNatClampNeg ((20 * v5) + (x.1 247 (Int32.toNatClampNeg v7)))))), (9, .int (x.1 253 (Int32.toNatClampNeg ((20 * v5) + (x.1 248 (Int32.toNatClampNeg v7))))))] rfl ?_
      refine EW_goto (tgt := 75) dX12_comeBy_245 (by decide) ?_
      refine EW_ls [0, 1, 2, 3, 4, 5, 6] rfl ?_
      exact hL75 (v7 + 1) x h
    · replace h := h.2 q
      refine EW_iload (pc2 := 136) rfl dX12_comeBy_134 7 rfl ?_
      refine EW_if_ne (tgt := 147) (pc2 := 139) rfl dX12_comeBy_136 (by decide) (fun q => ?_) (fun q => ?_)
      · replace h := h.1 q
        exact sX12_comeBy_147 v2 v3 v4 v5 v6 v7 (x.1 253 (Int32.toNatClampNeg ((20 * v5) + (x.1 247 (Int32.toNatClampNeg v7))))) (x.1 253 (Int32.toNatClampNeg ((20 * v5) + (x.1 248 (Int32.toNatClampNeg v7))))) x K L35 L75 d bc bs hdp hL35 hL75 h
      · replace h := h.2 q
        refine EW_iload (pc2 := 141) rfl dX12_comeBy_139 8 rfl ?_
        refine EW_if_ne (tgt := 147) (pc2 := 144) rfl dX12_comeBy_141 (by decide) (fun q => ?_) (fun q => ?_)
        · replace h := h.1 q
          exact sX12_comeBy_147 v2 v3 v4 v5 v6 v7 (x.1 253 (Int32.toNatClampNeg ((20 * v5) + (x.1 247 (Int32.toNatClampNeg v7))))) (x.1 253 (Int32.toNatClampNeg ((20 * v5) + (x.1 248 (Int32.toNatClampNeg v7))))) x K L35 L75 d bc bs hdp hL35 hL75 h
        · replace h := h.2 q
          refine EW_goto (tgt := 242) dX12_comeBy_144 (by decide) ?_
          refine EW_iinc (v7 + 1) (pc2 := 245) rfl dX12_comeBy_242 6 rfl rfl (by decide) [1, 2, 3, 4, 5, 6, 0, 7, 8] [(0, .ref 246), (2, .int v2), (3, .int v3), (4, .int v4), (5, .int v5), (6, .int v6), (7, .int (v7 + 1)), (8, .int (x.1 253 (Int32.toNatClampNeg ((20 * v5) + (x.1 247 (Int32.toNatClampNeg v7)))))), (9, .int (x.1 253 (Int32.toNatClampNeg ((20 * v5) + (x.1 248 (Int32.toNatClampNeg v7))))))] rfl ?_
          refine EW_goto (tgt := 75) dX12_comeBy_245 (by decide) ?_
          refine EW_ls [0, 1, 2, 3, 4, 5, 6] rfl ?_
          exact hL75 (v7 + 1) x h
set_option maxHeartbeats 4000000 in
set_option maxRecDepth 100000 in
def lX12_comeBy_35 (v2 : Int32) (v3 : Int32) (v4 : Int32) (K : Int32 → ab_X → Prop)  (L35 : Int32 → ab_X → Prop) (v5 : Int32) (x : ab_X) : Prop := ((600 < v5 → K (-1) x) ∧ (¬ 600 < v5 → (vp_in ((20 * v5) + v2) 12020 ∧ (((x.1 253 (Int32.toNatClampNeg ((20 * v5) + v2))) = 0 → wX12_partOf (v3 + v5) x (fun r4 => Lp2 (lX12_comeBy_75 v2 v3 v4 v5 r4 K L35) 0 x)) ∧ (¬ (x.1 253 (Int32.toNatClampNeg ((20 * v5) + v2))) = 0 → K (v3 + v5) x)))))
set_option maxHeartbeats 4000000 in
set_option maxRecDepth 100000 in
theorem sX12_comeBy_35 (v2 : Int32) (v3 : Int32) (v4 : Int32) (v5 : Int32)  (x : ab_X) (K : Int32 → ab_X → Prop)  (d bc bs : Nat) (hdp : 1 ≤ d)  (h : Lp2 (lX12_comeBy_35 v2 v3 v4 K ) v5 x) : EW MX12_comeBy 35 [(0, .ref 246), (2, .int v2), (3, .int v3), (4, .int v4), (5, .int v5)] [] (aS x) d bc bs (liI K) := by
  refine Lp2.use (P := fun v5 x => EW MX12_comeBy 35 [(0, .ref 246), (2, .int v2), (3, .int v3), (4, .int v4), (5, .int v5)] [] (aS x) d bc bs (liI K)) (fun L35 v5 x hL35 h => ?_) v5 x h
  unfold lX12_comeBy_35 at h
  refine EW_iload (pc2 := 37) rfl dX12_comeBy_35 4 rfl ?_
  refine EW_sipush (pc2 := 40) (v := 600) rfl dX12_comeBy_37 (by decide) ?_
  refine EW_icmp_gt (tgt := 254) (pc2 := 43) rfl dX12_comeBy_40 (by decide) (fun q => ?_) (fun q => ?_)
  · replace h := h.1 q
    refine EW_iconst (pc2 := 255) (v := (-1)) rfl dX12_comeBy_254 (by decide) ?_
    exact AW_iret rfl dX12_comeBy_255 ⟨_, _, rfl, rfl, h⟩
  · replace h := h.2 q
    refine EW_aload_n (pc2 := 44) rfl dX12_comeBy_43 0 rfl ?_
    refine AW_getr (r := 253) ⟨gfRX12_29, rfl⟩ (pc2 := 47) rfl dX12_comeBy_44 q246 rfl ?_
    refine EW_bipush (pc2 := 49) (v := 20) rfl dX12_comeBy_47 (by decide) ?_
    refine EW_iload (pc2 := 51) rfl dX12_comeBy_49 4 rfl ?_
    refine EW_imul (pc2 := 52) rfl dX12_comeBy_51 ?_
    refine EW_iload_n (pc2 := 53) rfl dX12_comeBy_52 1 rfl ?_
    refine EW_iadd (pc2 := 54) rfl dX12_comeBy_53 ?_
    obtain ⟨b3, h⟩ := h
    refine AW_zald (pc2 := 55) rfl dX12_comeBy_54 q253 b3 ?_
    refine EW_if_eq (tgt := 63) (pc2 := 58) rfl dX12_comeBy_55 (by decide) (fun q => ?_) (fun q => ?_)
    · replace h := h.1 q
      refine EW_iload_n (pc2 := 64) rfl dX12_comeBy_63 2 rfl ?_
      refine EW_iload (pc2 := 66) rfl dX12_comeBy_64 4 rfl ?_
      refine EW_iadd (pc2 := 67) rfl dX12_comeBy_66 ?_
      refine AW_invS (M' := MX12_partOf) [.int (v3 + v5)] (rest := []) mlRX12_320 okX12_partOf (pc2 := 70) rfl dX12_comeBy_67 rfl rfl (Nat.le_of_ble_eq_true rfl) (Nat.le_of_ble_eq_true rfl) (d' := 0) (by omega) (EW_mono (fun _ _ hr => ?_) (sX12_partOf (v3 + v5)  x _ _ 0 0 (Nat.le_refl _) h))
      obtain ⟨r4, rfl, rfl, h⟩ := hr
      refine EW_istore (pc2 := 72) rfl dX12_comeBy_70 (by decide) [1, 2, 3, 4, 5, 0] [(0, .ref 246), (2, .int v2), (3, .int v3), (4, .int v4), (5, .int v5), (6, .int r4)] rfl ?_
      refine EW_iconst (pc2 := 73) (v := 0) rfl dX12_comeBy_72 (by decide) ?_
      refine EW_istore (pc2 := 75) rfl dX12_comeBy_73 (by decide) [1, 2, 3, 4, 5, 6, 0] [(0, .ref 246), (2, .int v2), (3, .int v3), (4, .int v4), (5, .int v5), (6, .int r4), (7, .int 0)] rfl ?_
      exact sX12_comeBy_75 v2 v3 v4 v5 r4 0 x K L35 d bc bs hdp hL35 h
    · replace h := h.2 q
      refine EW_iload_n (pc2 := 59) rfl dX12_comeBy_58 2 rfl ?_
      refine EW_iload (pc2 := 61) rfl dX12_comeBy_59 4 rfl ?_
      refine EW_iadd (pc2 := 62) rfl dX12_comeBy_61 ?_
      exact AW_iret rfl dX12_comeBy_62 ⟨_, _, rfl, rfl, h⟩
set_option maxHeartbeats 4000000 in
set_option maxRecDepth 100000 in
def lX12_comeBy_3 (v1 : Int32) (v2 : Int32) (v3 : Int32) (v4 : Int32) (K : Int32 → ab_X → Prop)  (L3 : Int32 → ab_X → Prop) (v5 : Int32) (x : ab_X) : Prop := ((12020 ≤ v5 → (vp_in v1 12020 ∧ Lp2 (lX12_comeBy_35 v2 v3 v4 K ) 0 (wr x 253 (Int32.toNatClampNeg v1) 1))) ∧ (¬ 12020 ≤ v5 → (vp_in v5 12020 ∧ L3 (v5 + 1) (wr x 253 (Int32.toNatClampNeg v5) 0))))
set_option maxHeartbeats 4000000 in
set_option maxRecDepth 100000 in
theorem sX12_comeBy_3 (v1 : Int32) (v2 : Int32) (v3 : Int32) (v4 : Int32) (v5 : Int32)  (x : ab_X) (K : Int32 → ab_X → Prop)  (d bc bs : Nat) (hdp : 1 ≤ d)  (h : Lp2 (lX12_comeBy_3 v1 v2 v3 v4 K ) v5 x) : EW MX12_comeBy 3 [(0, .ref 246), (1, .int v1), (2, .int v2), (3, .int v3), (4, .int v4), (5, .int v5)] [] (aS x) d bc bs (liI K) := by
  refine Lp2.use (P := fun v5 x => EW MX12_comeBy 3 [(0, .ref 246), (1, .int v1), (2, .int v2), (3, .int v3), (4, .int v4), (5, .int v5)] [] (aS x) d bc bs (liI K)) (fun L3 v5 x hL3 h => ?_) v5 x h
  unfold lX12_comeBy_3 at h
  refine EW_iload (pc2 := 5) rfl dX12_comeBy_3 5 rfl ?_
  refine EW_sipush (pc2 := 8) (v := 12020) rfl dX12_comeBy_5 (by decide) ?_
  refine EW_icmp_ge (tgt := 25) (pc2 := 11) rfl dX12_comeBy_8 (by decide) (fun q => ?_) (fun q => ?_)
  · replace h := h.1 q
    refine EW_aload_n (pc2 := 26) rfl dX12_comeBy_25 0 rfl ?_
    refine AW_getr (r := 253) ⟨gfRX12_29, rfl⟩ (pc2 := 29) rfl dX12_comeBy_26 q246 rfl ?_
    refine EW_iload_n (pc2 := 30) rfl dX12_comeBy_29 1 rfl ?_
    refine EW_iconst (pc2 := 31) (v := 1) rfl dX12_comeBy_30 (by decide) ?_
    obtain ⟨b1, h⟩ := h
    refine AW_zast (pc2 := 32) rfl dX12_comeBy_31 q253 b1 isB1 ?_
    refine EW_iconst (pc2 := 33) (v := 0) rfl dX12_comeBy_32 (by decide) ?_
    refine EW_istore (pc2 := 35) rfl dX12_comeBy_33 (by decide) [1, 2, 3, 4, 5, 0] [(0, .ref 246), (1, .int v1), (2, .int v2), (3, .int v3), (4, .int v4), (5, .int 0)] rfl ?_
    refine EW_ls [0, 2, 3, 4, 5] rfl ?_
    exact sX12_comeBy_35 v2 v3 v4 0 (wr x 253 (Int32.toNatClampNeg v1) 1) K d bc bs hdp h
  · replace h := h.2 q
    refine EW_aload_n (pc2 := 12) rfl dX12_comeBy_11 0 rfl ?_
    refine AW_getr (r := 253) ⟨gfRX12_29, rfl⟩ (pc2 := 15) rfl dX12_comeBy_12 q246 rfl ?_
    refine EW_iload (pc2 := 17) rfl dX12_comeBy_15 5 rfl ?_
    refine EW_iconst (pc2 := 18) (v := 0) rfl dX12_comeBy_17 (by decide) ?_
    obtain ⟨b2, h⟩ := h
    refine AW_zast (pc2 := 19) rfl dX12_comeBy_18 q253 b2 isB0 ?_
    refine EW_iinc (v5 + 1) (pc2 := 22) rfl dX12_comeBy_19 5 rfl rfl (by decide) [1, 2, 3, 4, 5, 0] [(0, .ref 246), (1, .int v1), (2, .int v2), (3, .int v3), (4, .int v4), (5, .int (v5 + 1))] rfl ?_
    refine EW_goto (tgt := 3) dX12_comeBy_22 (by decide) ?_
    exact hL3 (v5 + 1) (wr x 253 (Int32.toNatClampNeg v5) 0) h
set_option maxHeartbeats 4000000 in
set_option maxRecDepth 100000 in
def wX12_comeBy (v1 : Int32) (v2 : Int32) (v3 : Int32) (v4 : Int32) (x : ab_X) (K : Int32 → ab_X → Prop) : Prop := Lp2 (lX12_comeBy_3 v1 v2 v3 v4 K ) 0 x
set_option maxHeartbeats 4000000 in
set_option maxRecDepth 100000 in
theorem sX12_comeBy (v1 : Int32) (v2 : Int32) (v3 : Int32) (v4 : Int32)  (x : ab_X) (K : Int32 → ab_X → Prop) (d bc bs : Nat) (hdp : 1 ≤ d) (h : wX12_comeBy v1 v2 v3 v4 x K) : EW MX12_comeBy 0 [(0, .ref 246), (1, .int v1), (2, .int v2), (3, .int v3), (4, .int v4)] [] (aS x) d bc bs (liI K) := by
  unfold wX12_comeBy at h
  refine EW_iconst (pc2 := 1) (v := 0) rfl dX12_comeBy_0 (by decide) ?_
  refine EW_istore (pc2 := 3) rfl dX12_comeBy_1 (by decide) [1, 2, 3, 4, 5, 0] [(0, .ref 246), (1, .int v1), (2, .int v2), (3, .int v3), (4, .int v4), (5, .int 0)] rfl ?_
  exact sX12_comeBy_3 v1 v2 v3 v4 0 x K d bc bs hdp h
abbrev MX12_isShared : ab_M := (yX12_isShared, cX12_isShared, 3, (some .boolean))
theorem dX12_isShared_0 : decode cX12_isShared 0 = .ok (.iconst 0, 1) := by decide +kernel
theorem dX12_isShared_1 : decode cX12_isShared 1 = .ok (.istore_n 2, 1) := by decide +kernel
theorem dX12_isShared_2 : decode cX12_isShared 2 = .ok (.iload_n 2, 1) := by decide +kernel
theorem dX12_isShared_3 : decode cX12_isShared 3 = .ok (.aload_n 0, 1) := by decide +kernel
theorem dX12_isShared_4 : decode cX12_isShared 4 = .ok (.getfield 366, 3) := by decide +kernel
theorem dX12_isShared_7 : decode cX12_isShared 7 = .ok (.if_icmp .ge 40, 3) := by decide +kernel
theorem dX12_isShared_10 : decode cX12_isShared 10 = .ok (.iload_n 2, 1) := by decide +kernel
theorem dX12_isShared_11 : decode cX12_isShared 11 = .ok (.iload_n 1, 1) := by decide +kernel
theorem dX12_isShared_12 : decode cX12_isShared 12 = .ok (.if_icmp .eq 29, 3) := by decide +kernel
theorem dX12_isShared_15 : decode cX12_isShared 15 = .ok (.aload_n 0, 1) := by decide +kernel
theorem dX12_isShared_16 : decode cX12_isShared 16 = .ok (.getfield 128, 3) := by decide +kernel
theorem dX12_isShared_19 : decode cX12_isShared 19 = .ok (.iload_n 2, 1) := by decide +kernel
theorem dX12_isShared_20 : decode cX12_isShared 20 = .ok (.iaload, 1) := by decide +kernel
theorem dX12_isShared_21 : decode cX12_isShared 21 = .ok (.ifCond .ne 20, 3) := by decide +kernel
theorem dX12_isShared_24 : decode cX12_isShared 24 = .ok (.aload_n 0, 1) := by decide +kernel
theorem dX12_isShared_25 : decode cX12_isShared 25 = .ok (.getfield 131, 3) := by decide +kernel
theorem dX12_isShared_28 : decode cX12_isShared 28 = .ok (.iload_n 2, 1) := by decide +kernel
theorem dX12_isShared_29 : decode cX12_isShared 29 = .ok (.iaload, 1) := by decide +kernel
theorem dX12_isShared_30 : decode cX12_isShared 30 = .ok (.aload_n 0, 1) := by decide +kernel
theorem dX12_isShared_31 : decode cX12_isShared 31 = .ok (.getfield 131, 3) := by decide +kernel
theorem dX12_isShared_34 : decode cX12_isShared 34 = .ok (.iload_n 1, 1) := by decide +kernel
theorem dX12_isShared_35 : decode cX12_isShared 35 = .ok (.iaload, 1) := by decide +kernel
theorem dX12_isShared_36 : decode cX12_isShared 36 = .ok (.if_icmp .ne 5, 3) := by decide +kernel
theorem dX12_isShared_39 : decode cX12_isShared 39 = .ok (.iconst 1, 1) := by decide +kernel
theorem dX12_isShared_40 : decode cX12_isShared 40 = .ok (.ireturn, 1) := by decide +kernel
theorem dX12_isShared_41 : decode cX12_isShared 41 = .ok (.iinc 2 1, 3) := by decide +kernel
theorem dX12_isShared_44 : decode cX12_isShared 44 = .ok (.goto (-42), 3) := by decide +kernel
theorem dX12_isShared_47 : decode cX12_isShared 47 = .ok (.iconst 0, 1) := by decide +kernel
theorem dX12_isShared_48 : decode cX12_isShared 48 = .ok (.ireturn, 1) := by decide +kernel
theorem okX12_isShared : ab_okM MX12_isShared 1 := ⟨by decide, ⟨by decide, by decide⟩, ab_in 2530 (by decide +kernel) (by decide +kernel), ab_in 99 (by decide +kernel) (by decide +kernel), by decide +kernel, by decide⟩
set_option maxHeartbeats 4000000 in
set_option maxRecDepth 100000 in
def lX12_isShared_2 (v1 : Int32) (x : ab_X) (K : Int32 → Prop)  (L2 : Int32 → Prop) (v2 : Int32) : Prop := (((x.1 246 58) ≤ v2 → K 0) ∧ (¬ (x.1 246 58) ≤ v2 → ((v2 = v1 → L2 (v2 + 1)) ∧ (¬ v2 = v1 → (vp_in v2 16 ∧ ((¬ (x.1 286 (Int32.toNatClampNeg v2)) = 0 → L2 (v2 + 1)) ∧ ((x.1 286 (Int32.toNatClampNeg v2)) = 0 → (vp_in v2 16 ∧ vp_in v1 16 ∧ ((¬ (x.1 287 (Int32.toNatClampNeg v2)) = (x.1 287 (Int32.toNatClampNeg v1)) → L2 (v2 + 1)) ∧ ((x.1 287 (Int32.toNatClampNeg v2)) = (x.1 287 (Int32.toNatClampNeg v1)) → K 1))))))))))
set_option maxHeartbeats 4000000 in
set_option maxRecDepth 100000 in
theorem sX12_isShared_2 (v1 : Int32) (v2 : Int32)  (x : ab_X) (K : Int32 → Prop)  (d bc bs : Nat) (hdp : 0 ≤ d)  (h : Lp1 (lX12_isShared_2 v1 x K ) v2) : EW MX12_isShared 2 [(0, .ref 246), (1, .int v1), (2, .int v2)] [] (aS x) d bc bs (liP x K) := by
  refine Lp1.use (P := fun v2 => EW MX12_isShared 2 [(0, .ref 246), (1, .int v1), (2, .int v2)] [] (aS x) d bc bs (liP x K)) (fun L2 v2 hL2 h => ?_) v2 h
  unfold lX12_isShared_2 at h
  refine EW_iload_n (pc2 := 3) rfl dX12_isShared_2 2 rfl ?_
  refine EW_aload_n (pc2 := 4) rfl dX12_isShared_3 0 rfl ?_
  refine AW_geti ⟨gfRX12_366, rfl⟩ (pc2 := 7) rfl dX12_isShared_4 q246 ?_
  refine EW_icmp_ge (tgt := 47) (pc2 := 10) rfl dX12_isShared_7 (by decide) (fun q => ?_) (fun q => ?_)
  · replace h := h.1 q
    refine EW_iconst (pc2 := 48) (v := 0) rfl dX12_isShared_47 (by decide) ?_
    exact AW_zret rfl isB0 dX12_isShared_48 ⟨_, rfl, rfl, h⟩
  · replace h := h.2 q
    refine EW_iload_n (pc2 := 11) rfl dX12_isShared_10 2 rfl ?_
    refine EW_iload_n (pc2 := 12) rfl dX12_isShared_11 1 rfl ?_
    refine EW_icmp_eq (tgt := 41) (pc2 := 15) rfl dX12_isShared_12 (by decide) (fun q => ?_) (fun q => ?_)
    · replace h := h.1 q
      refine EW_iinc (v2 + 1) (pc2 := 44) rfl dX12_isShared_41 2 rfl rfl (by decide) [1, 2, 0] [(0, .ref 246), (1, .int v1), (2, .int (v2 + 1))] rfl ?_
      refine EW_goto (tgt := 2) dX12_isShared_44 (by decide) ?_
      exact hL2 (v2 + 1) h
    · replace h := h.2 q
      refine EW_aload_n (pc2 := 16) rfl dX12_isShared_15 0 rfl ?_
      refine AW_getr (r := 286) ⟨gfRX12_128, rfl⟩ (pc2 := 19) rfl dX12_isShared_16 q246 rfl ?_
      refine EW_iload_n (pc2 := 20) rfl dX12_isShared_19 2 rfl ?_
      obtain ⟨b1, h⟩ := h
      refine AW_iald (pc2 := 21) rfl dX12_isShared_20 q286 b1 ?_
      refine EW_if_ne (tgt := 41) (pc2 := 24) rfl dX12_isShared_21 (by decide) (fun q => ?_) (fun q => ?_)
      · replace h := h.1 q
        refine EW_iinc (v2 + 1) (pc2 := 44) rfl dX12_isShared_41 2 rfl rfl (by decide) [1, 2, 0] [(0, .ref 246), (1, .int v1), (2, .int (v2 + 1))] rfl ?_
        refine EW_goto (tgt := 2) dX12_isShared_44 (by decide) ?_
        exact hL2 (v2 + 1) h
      · replace h := h.2 q
        refine EW_aload_n (pc2 := 25) rfl dX12_isShared_24 0 rfl ?_
        refine AW_getr (r := 287) ⟨gfRX12_131, rfl⟩ (pc2 := 28) rfl dX12_isShared_25 q246 rfl ?_
        refine EW_iload_n (pc2 := 29) rfl dX12_isShared_28 2 rfl ?_
        obtain ⟨b2, h⟩ := h
        refine AW_iald (pc2 := 30) rfl dX12_isShared_29 q287 b2 ?_
        refine EW_aload_n (pc2 := 31) rfl dX12_isShared_30 0 rfl ?_
        refine AW_getr (r := 287) ⟨gfRX12_131, rfl⟩ (pc2 := 34) rfl dX12_isShared_31 q246 rfl ?_
        refine EW_iload_n (pc2 := 35) rfl dX12_isShared_34 1 rfl ?_
        obtain ⟨b3, h⟩ := h
        refine AW_iald (pc2 := 36) rfl dX12_isShared_35 q287 b3 ?_
        refine EW_icmp_ne (tgt := 41) (pc2 := 39) rfl dX12_isShared_36 (by decide) (fun q => ?_) (fun q => ?_)
        · replace h := h.1 q
          refine EW_iinc (v2 + 1) (pc2 := 44) rfl dX12_isShared_41 2 rfl rfl (by decide) [1, 2, 0] [(0, .ref 246), (1, .int v1), (2, .int (v2 + 1))] rfl ?_
          refine EW_goto (tgt := 2) dX12_isShared_44 (by decide) ?_
          exact hL2 (v2 + 1) h
        · replace h := h.2 q
          refine EW_iconst (pc2 := 40) (v := 1) rfl dX12_isShared_39 (by decide) ?_
          exact AW_zret rfl isB1 dX12_isShared_40 ⟨_, rfl, rfl, h⟩
set_option maxHeartbeats 4000000 in
set_option maxRecDepth 100000 in
def wX12_isShared (v1 : Int32) (x : ab_X) (K : Int32 → Prop) : Prop := Lp1 (lX12_isShared_2 v1 x K ) 0
set_option maxHeartbeats 4000000 in
set_option maxRecDepth 100000 in
theorem sX12_isShared (v1 : Int32)  (x : ab_X) (K : Int32 → Prop) (d bc bs : Nat) (hdp : 0 ≤ d) (h : wX12_isShared v1 x K) : EW MX12_isShared 0 [(0, .ref 246), (1, .int v1)] [] (aS x) d bc bs (liP x K) := by
  unfold wX12_isShared at h
  refine EW_iconst (pc2 := 1) (v := 0) rfl dX12_isShared_0 (by decide) ?_
  refine EW_istore_n (pc2 := 2) rfl dX12_isShared_1 (by decide) [1, 2, 0] [(0, .ref 246), (1, .int v1), (2, .int 0)] rfl ?_
  exact sX12_isShared_2 v1 0 x K d bc bs hdp h
