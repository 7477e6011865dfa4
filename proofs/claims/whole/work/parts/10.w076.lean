abbrev MX12_street : ab_M := (yX12_street, cX12_street, 7, (some .int))
theorem dX12_street_0 : decode cX12_street 0 = .ok (.aload_n 0, 1) := by decide +kernel
theorem dX12_street_1 : decode cX12_street 1 = .ok (.iconst 0, 1) := by decide +kernel
theorem dX12_street_2 : decode cX12_street 2 = .ok (.putfield 297, 3) := by decide +kernel
theorem dX12_street_5 : decode cX12_street 5 = .ok (.aload_n 0, 1) := by decide +kernel
theorem dX12_street_6 : decode cX12_street 6 = .ok (.getfield 300, 3) := by decide +kernel
theorem dX12_street_9 : decode cX12_street 9 = .ok (.bipush 40, 2) := by decide +kernel
theorem dX12_street_11 : decode cX12_street 11 = .ok (.if_icmp .eq 32, 3) := by decide +kernel
theorem dX12_street_14 : decode cX12_street 14 = .ok (.iload_n 1, 1) := by decide +kernel
theorem dX12_street_15 : decode cX12_street 15 = .ok (.invokestatic 303, 3) := by decide +kernel
theorem dX12_street_18 : decode cX12_street 18 = .ok (.ifCond .eq 25, 3) := by decide +kernel
theorem dX12_street_21 : decode cX12_street 21 = .ok (.iload_n 2, 1) := by decide +kernel
theorem dX12_street_22 : decode cX12_street 22 = .ok (.invokestatic 303, 3) := by decide +kernel
theorem dX12_street_25 : decode cX12_street 25 = .ok (.ifCond .eq 18, 3) := by decide +kernel
theorem dX12_street_28 : decode cX12_street 28 = .ok (.iload_n 1, 1) := by decide +kernel
theorem dX12_street_29 : decode cX12_street 29 = .ok (.iload_n 2, 1) := by decide +kernel
theorem dX12_street_30 : decode cX12_street 30 = .ok (.if_icmp .eq 13, 3) := by decide +kernel
theorem dX12_street_33 : decode cX12_street 33 = .ok (.iload_n 3, 1) := by decide +kernel
theorem dX12_street_34 : decode cX12_street 34 = .ok (.iconst 1, 1) := by decide +kernel
theorem dX12_street_35 : decode cX12_street 35 = .ok (.bipush 20, 2) := by decide +kernel
theorem dX12_street_37 : decode cX12_street 37 = .ok (.invokestatic 307, 3) := by decide +kernel
theorem dX12_street_40 : decode cX12_street 40 = .ok (.ifCond .ne 5, 3) := by decide +kernel
theorem dX12_street_43 : decode cX12_street 43 = .ok (.iconst (-1), 1) := by decide +kernel
theorem dX12_street_44 : decode cX12_street 44 = .ok (.ireturn, 1) := by decide +kernel
theorem dX12_street_45 : decode cX12_street 45 = .ok (.aload_n 0, 1) := by decide +kernel
theorem dX12_street_46 : decode cX12_street 46 = .ok (.getfield 9, 3) := by decide +kernel
theorem dX12_street_49 : decode cX12_street 49 = .ok (.aload_n 0, 1) := by decide +kernel
theorem dX12_street_50 : decode cX12_street 50 = .ok (.getfield 300, 3) := by decide +kernel
theorem dX12_street_53 : decode cX12_street 53 = .ok (.iload_n 1, 1) := by decide +kernel
theorem dX12_street_54 : decode cX12_street 54 = .ok (.iastore, 1) := by decide +kernel
theorem dX12_street_55 : decode cX12_street 55 = .ok (.aload_n 0, 1) := by decide +kernel
theorem dX12_street_56 : decode cX12_street 56 = .ok (.getfield 13, 3) := by decide +kernel
theorem dX12_street_59 : decode cX12_street 59 = .ok (.aload_n 0, 1) := by decide +kernel
theorem dX12_street_60 : decode cX12_street 60 = .ok (.getfield 300, 3) := by decide +kernel
theorem dX12_street_63 : decode cX12_street 63 = .ok (.iload_n 2, 1) := by decide +kernel
theorem dX12_street_64 : decode cX12_street 64 = .ok (.iastore, 1) := by decide +kernel
theorem dX12_street_65 : decode cX12_street 65 = .ok (.aload_n 0, 1) := by decide +kernel
theorem dX12_street_66 : decode cX12_street 66 = .ok (.getfield 16, 3) := by decide +kernel
theorem dX12_street_69 : decode cX12_street 69 = .ok (.aload_n 0, 1) := by decide +kernel
theorem dX12_street_70 : decode cX12_street 70 = .ok (.getfield 300, 3) := by decide +kernel
theorem dX12_street_73 : decode cX12_street 73 = .ok (.iload_n 3, 1) := by decide +kernel
theorem dX12_street_74 : decode cX12_street 74 = .ok (.iastore, 1) := by decide +kernel
theorem dX12_street_75 : decode cX12_street 75 = .ok (.iconst 0, 1) := by decide +kernel
theorem dX12_street_76 : decode cX12_street 76 = .ok (.istore 4, 2) := by decide +kernel
theorem dX12_street_78 : decode cX12_street 78 = .ok (.iload 4, 2) := by decide +kernel
theorem dX12_street_80 : decode cX12_street 80 = .ok (.iconst 4, 1) := by decide +kernel
theorem dX12_street_81 : decode cX12_street 81 = .ok (.if_icmp .ge 25, 3) := by decide +kernel
theorem dX12_street_84 : decode cX12_street 84 = .ok (.aload_n 0, 1) := by decide +kernel
theorem dX12_street_85 : decode cX12_street 85 = .ok (.getfield 19, 3) := by decide +kernel
theorem dX12_street_88 : decode cX12_street 88 = .ok (.iconst 4, 1) := by decide +kernel
theorem dX12_street_89 : decode cX12_street 89 = .ok (.aload_n 0, 1) := by decide +kernel
theorem dX12_street_90 : decode cX12_street 90 = .ok (.getfield 300, 3) := by decide +kernel
theorem dX12_street_93 : decode cX12_street 93 = .ok (.imul, 1) := by decide +kernel
theorem dX12_street_94 : decode cX12_street 94 = .ok (.iload 4, 2) := by decide +kernel
theorem dX12_street_96 : decode cX12_street 96 = .ok (.iadd, 1) := by decide +kernel
theorem dX12_street_97 : decode cX12_street 97 = .ok (.bipush 100, 2) := by decide +kernel
theorem dX12_street_99 : decode cX12_street 99 = .ok (.iastore, 1) := by decide +kernel
theorem dX12_street_100 : decode cX12_street 100 = .ok (.iinc 4 1, 3) := by decide +kernel
theorem dX12_street_103 : decode cX12_street 103 = .ok (.goto (-25), 3) := by decide +kernel
theorem dX12_street_106 : decode cX12_street 106 = .ok (.aload_n 0, 1) := by decide +kernel
theorem dX12_street_107 : decode cX12_street 107 = .ok (.dup, 1) := by decide +kernel
theorem dX12_street_108 : decode cX12_street 108 = .ok (.getfield 300, 3) := by decide +kernel
theorem dX12_street_111 : decode cX12_street 111 = .ok (.iconst 1, 1) := by decide +kernel
theorem dX12_street_112 : decode cX12_street 112 = .ok (.iadd, 1) := by decide +kernel
theorem dX12_street_113 : decode cX12_street 113 = .ok (.putfield 300, 3) := by decide +kernel
theorem dX12_street_116 : decode cX12_street 116 = .ok (.aload_n 0, 1) := by decide +kernel
theorem dX12_street_117 : decode cX12_street 117 = .ok (.getfield 22, 3) := by decide +kernel
theorem dX12_street_120 : decode cX12_street 120 = .ok (.bipush 20, 2) := by decide +kernel
theorem dX12_street_122 : decode cX12_street 122 = .ok (.iload_n 1, 1) := by decide +kernel
theorem dX12_street_123 : decode cX12_street 123 = .ok (.imul, 1) := by decide +kernel
theorem dX12_street_124 : decode cX12_street 124 = .ok (.iload_n 2, 1) := by decide +kernel
theorem dX12_street_125 : decode cX12_street 125 = .ok (.iadd, 1) := by decide +kernel
theorem dX12_street_126 : decode cX12_street 126 = .ok (.aload_n 0, 1) := by decide +kernel
theorem dX12_street_127 : decode cX12_street 127 = .ok (.getfield 22, 3) := by decide +kernel
theorem dX12_street_130 : decode cX12_street 130 = .ok (.bipush 20, 2) := by decide +kernel
theorem dX12_street_132 : decode cX12_street 132 = .ok (.iload_n 1, 1) := by decide +kernel
theorem dX12_street_133 : decode cX12_street 133 = .ok (.imul, 1) := by decide +kernel
theorem dX12_street_134 : decode cX12_street 134 = .ok (.iload_n 2, 1) := by decide +kernel
theorem dX12_street_135 : decode cX12_street 135 = .ok (.iadd, 1) := by decide +kernel
theorem dX12_street_136 : decode cX12_street 136 = .ok (.iaload, 1) := by decide +kernel
theorem dX12_street_137 : decode cX12_street 137 = .ok (.iload_n 3, 1) := by decide +kernel
theorem dX12_street_138 : decode cX12_street 138 = .ok (.invokestatic 311, 3) := by decide +kernel
theorem dX12_street_141 : decode cX12_street 141 = .ok (.iastore, 1) := by decide +kernel
theorem dX12_street_142 : decode cX12_street 142 = .ok (.aload_n 0, 1) := by decide +kernel
theorem dX12_street_143 : decode cX12_street 143 = .ok (.getfield 22, 3) := by decide +kernel
theorem dX12_street_146 : decode cX12_street 146 = .ok (.bipush 20, 2) := by decide +kernel
theorem dX12_street_148 : decode cX12_street 148 = .ok (.iload_n 2, 1) := by decide +kernel
theorem dX12_street_149 : decode cX12_street 149 = .ok (.imul, 1) := by decide +kernel
theorem dX12_street_150 : decode cX12_street 150 = .ok (.iload_n 1, 1) := by decide +kernel
theorem dX12_street_151 : decode cX12_street 151 = .ok (.iadd, 1) := by decide +kernel
theorem dX12_street_152 : decode cX12_street 152 = .ok (.aload_n 0, 1) := by decide +kernel
theorem dX12_street_153 : decode cX12_street 153 = .ok (.getfield 22, 3) := by decide +kernel
theorem dX12_street_156 : decode cX12_street 156 = .ok (.bipush 20, 2) := by decide +kernel
theorem dX12_street_158 : decode cX12_street 158 = .ok (.iload_n 1, 1) := by decide +kernel
theorem dX12_street_159 : decode cX12_street 159 = .ok (.imul, 1) := by decide +kernel
theorem dX12_street_160 : decode cX12_street 160 = .ok (.iload_n 2, 1) := by decide +kernel
theorem dX12_street_161 : decode cX12_street 161 = .ok (.iadd, 1) := by decide +kernel
theorem dX12_street_162 : decode cX12_street 162 = .ok (.iaload, 1) := by decide +kernel
theorem dX12_street_163 : decode cX12_street 163 = .ok (.iastore, 1) := by decide +kernel
theorem dX12_street_164 : decode cX12_street 164 = .ok (.iconst 0, 1) := by decide +kernel
theorem dX12_street_165 : decode cX12_street 165 = .ok (.istore 4, 2) := by decide +kernel
theorem dX12_street_167 : decode cX12_street 167 = .ok (.iload 4, 2) := by decide +kernel
theorem dX12_street_169 : decode cX12_street 169 = .ok (.bipush 20, 2) := by decide +kernel
theorem dX12_street_171 : decode cX12_street 171 = .ok (.if_icmp .ge 97, 3) := by decide +kernel
theorem dX12_street_174 : decode cX12_street 174 = .ok (.iconst 0, 1) := by decide +kernel
theorem dX12_street_175 : decode cX12_street 175 = .ok (.istore 5, 2) := by decide +kernel
theorem dX12_street_177 : decode cX12_street 177 = .ok (.iload 5, 2) := by decide +kernel
theorem dX12_street_179 : decode cX12_street 179 = .ok (.bipush 20, 2) := by decide +kernel
theorem dX12_street_181 : decode cX12_street 181 = .ok (.if_icmp .ge 81, 3) := by decide +kernel
theorem dX12_street_184 : decode cX12_street 184 = .ok (.iconst 0, 1) := by decide +kernel
theorem dX12_street_185 : decode cX12_street 185 = .ok (.istore 6, 2) := by decide +kernel
theorem dX12_street_187 : decode cX12_street 187 = .ok (.iload 6, 2) := by decide +kernel
theorem dX12_street_189 : decode cX12_street 189 = .ok (.bipush 20, 2) := by decide +kernel
theorem dX12_street_191 : decode cX12_street 191 = .ok (.if_icmp .ge 65, 3) := by decide +kernel
theorem dX12_street_194 : decode cX12_street 194 = .ok (.aload_n 0, 1) := by decide +kernel
theorem dX12_street_195 : decode cX12_street 195 = .ok (.getfield 22, 3) := by decide +kernel
theorem dX12_street_198 : decode cX12_street 198 = .ok (.bipush 20, 2) := by decide +kernel
theorem dX12_street_200 : decode cX12_street 200 = .ok (.iload 5, 2) := by decide +kernel
theorem dX12_street_202 : decode cX12_street 202 = .ok (.imul, 1) := by decide +kernel
theorem dX12_street_203 : decode cX12_street 203 = .ok (.iload 6, 2) := by decide +kernel
theorem dX12_street_205 : decode cX12_street 205 = .ok (.iadd, 1) := by decide +kernel
theorem dX12_street_206 : decode cX12_street 206 = .ok (.aload_n 0, 1) := by decide +kernel
theorem dX12_street_207 : decode cX12_street 207 = .ok (.getfield 22, 3) := by decide +kernel
theorem dX12_street_210 : decode cX12_street 210 = .ok (.bipush 20, 2) := by decide +kernel
theorem dX12_street_212 : decode cX12_street 212 = .ok (.iload 5, 2) := by decide +kernel
theorem dX12_street_214 : decode cX12_street 214 = .ok (.imul, 1) := by decide +kernel
theorem dX12_street_215 : decode cX12_street 215 = .ok (.iload 6, 2) := by decide +kernel
theorem dX12_street_217 : decode cX12_street 217 = .ok (.iadd, 1) := by decide +kernel
theorem dX12_street_218 : decode cX12_street 218 = .ok (.iaload, 1) := by decide +kernel
theorem dX12_street_219 : decode cX12_street 219 = .ok (.aload_n 0, 1) := by decide +kernel
theorem dX12_street_220 : decode cX12_street 220 = .ok (.getfield 22, 3) := by decide +kernel
theorem dX12_street_223 : decode cX12_street 223 = .ok (.bipush 20, 2) := by decide +kernel
theorem dX12_street_225 : decode cX12_street 225 = .ok (.iload 5, 2) := by decide +kernel
theorem dX12_street_227 : decode cX12_street 227 = .ok (.imul, 1) := by decide +kernel
theorem dX12_street_228 : decode cX12_street 228 = .ok (.iload 4, 2) := by decide +kernel
theorem dX12_street_230 : decode cX12_street 230 = .ok (.iadd, 1) := by decide +kernel
theorem dX12_street_231 : decode cX12_street 231 = .ok (.iaload, 1) := by decide +kernel
theorem dX12_street_232 : decode cX12_street 232 = .ok (.aload_n 0, 1) := by decide +kernel
theorem dX12_street_233 : decode cX12_street 233 = .ok (.getfield 22, 3) := by decide +kernel
theorem dX12_street_236 : decode cX12_street 236 = .ok (.bipush 20, 2) := by decide +kernel
theorem dX12_street_238 : decode cX12_street 238 = .ok (.iload 4, 2) := by decide +kernel
theorem dX12_street_240 : decode cX12_street 240 = .ok (.imul, 1) := by decide +kernel
theorem dX12_street_241 : decode cX12_street 241 = .ok (.iload 6, 2) := by decide +kernel
theorem dX12_street_243 : decode cX12_street 243 = .ok (.iadd, 1) := by decide +kernel
theorem dX12_street_244 : decode cX12_street 244 = .ok (.iaload, 1) := by decide +kernel
theorem dX12_street_245 : decode cX12_street 245 = .ok (.iadd, 1) := by decide +kernel
theorem dX12_street_246 : decode cX12_street 246 = .ok (.invokestatic 311, 3) := by decide +kernel
theorem dX12_street_249 : decode cX12_street 249 = .ok (.iastore, 1) := by decide +kernel
theorem dX12_street_250 : decode cX12_street 250 = .ok (.iinc 6 1, 3) := by decide +kernel
theorem dX12_street_253 : decode cX12_street 253 = .ok (.goto (-66), 3) := by decide +kernel
theorem dX12_street_256 : decode cX12_street 256 = .ok (.iinc 5 1, 3) := by decide +kernel
theorem dX12_street_259 : decode cX12_street 259 = .ok (.goto (-82), 3) := by decide +kernel
theorem dX12_street_262 : decode cX12_street 262 = .ok (.iinc 4 1, 3) := by decide +kernel
theorem dX12_street_265 : decode cX12_street 265 = .ok (.goto (-98), 3) := by decide +kernel
theorem dX12_street_268 : decode cX12_street 268 = .ok (.aload_n 0, 1) := by decide +kernel
theorem dX12_street_269 : decode cX12_street 269 = .ok (.getfield 300, 3) := by decide +kernel
theorem dX12_street_272 : decode cX12_street 272 = .ok (.iconst 1, 1) := by decide +kernel
theorem dX12_street_273 : decode cX12_street 273 = .ok (.isub, 1) := by decide +kernel
theorem dX12_street_274 : decode cX12_street 274 = .ok (.ireturn, 1) := by decide +kernel
theorem okX12_street : ab_okM MX12_street 3 := ⟨by decide, ⟨by decide, by decide⟩, ab_in 2221 (by decide +kernel) (by decide +kernel), ab_in 99 (by decide +kernel) (by decide +kernel), by decide +kernel, by decide⟩
set_option maxHeartbeats 4000000 in
set_option maxRecDepth 100000 in
def lX12_street_187 (v4 : Int32) (v5 : Int32) (K : Int32 → ab_X → Prop) (L167 : Int32 → ab_X → Prop) (L177 : Int32 → ab_X → Prop) (L187 : Int32 → ab_X → Prop) (v6 : Int32) (x : ab_X) : Prop := ((20 ≤ v6 → L177 (v5 + 1) x) ∧ (¬ 20 ≤ v6 → (vp_in ((20 * v5) + v6) 400 ∧ vp_in ((20 * v5) + v4) 400 ∧ vp_in ((20 * v4) + v6) 400 ∧ vp_in ((20 * v5) + v6) 400 ∧ L187 (v6 + 1) (wr x 251 (Int32.toNatClampNeg ((20 * v5) + v6)) (imin (x.1 251 (Int32.toNatClampNeg ((20 * v5) + v6))) ((x.1 251 (Int32.toNatClampNeg ((20 * v5) + v4))) + (x.1 251 (Int32.toNatClampNeg ((20 * v4) + v6)))))))))
set_option maxHeartbeats 4000000 in
set_option maxRecDepth 100000 in
theorem sX12_street_187 (v4 : Int32) (v5 : Int32) (v6 : Int32)  (x : ab_X) (K : Int32 → ab_X → Prop) (L167 : Int32 → ab_X → Prop) (L177 : Int32 → ab_X → Prop) (d bc bs : Nat) (hdp : 1 ≤ d) (hL167 : ∀ (v4 : Int32) (x : ab_X), L167 v4 x → EW MX12_street 167 [(0, .ref 246), (4, .int v4)] [] (aS x) d bc bs (liI K)) (hL177 : ∀ (v5 : Int32) (x : ab_X), L177 v5 x → EW MX12_street 177 [(0, .ref 246), (4, .int v4), (5, .int v5)] [] (aS x) d bc bs (liI K)) (h : Lp2 (lX12_street_187 v4 v5 K L167 L177) v6 x) : EW MX12_street 187 [(0, .ref 246), (4, .int v4), (5, .int v5), (6, .int v6)] [] (aS x) d bc bs (liI K) := by
  refine Lp2.use (P := fun v6 x => EW MX12_street 187 [(0, .ref 246), (4, .int v4), (5, .int v5), (6, .int v6)] [] (aS x) d bc bs (liI K)) (fun L187 v6 x hL187 h => ?_) v6 x h
  unfold lX12_street_187 at h
  refine EW_iload (pc2 := 189) rfl dX12_street_187 3 rfl ?_
  refine EW_bipush (pc2 := 191) (v := 20) rfl dX12_street_189 (by decide) ?_
  refine EW_icmp_ge (tgt := 256) (pc2 := 194) rfl dX12_street_191 (by decide) (fun q => ?_) (fun q => ?_)
  · replace h := h.1 q
    refine EW_iinc (v5 + 1) (pc2 := 259) rfl dX12_street_256 2 rfl rfl (by decide) [1, 2, 0, 3] [(0, .ref 246), (4, .int v4), (5, .int (v5 + 1)), (6, .int v6)] rfl ?_
    refine EW_goto (tgt := 177) dX12_street_259 (by decide) ?_
    refine EW_ls [0, 1, 2] rfl ?_
    exact hL177 (v5 + 1) x h
  · replace h := h.2 q
    refine EW_aload_n (pc2 := 195) rfl dX12_street_194 0 rfl ?_
    refine AW_getr (r := 251) ⟨gfRX12_22, rfl⟩ (pc2 := 198) rfl dX12_street_195 q246 rfl ?_
    refine EW_bipush (pc2 := 200) (v := 20) rfl dX12_street_198 (by decide) ?_
    refine EW_iload (pc2 := 202) rfl dX12_street_200 2 rfl ?_
    refine EW_imul (pc2 := 203) rfl dX12_street_202 ?_
    refine EW_iload (pc2 := 205) rfl dX12_street_203 3 rfl ?_
    refine EW_iadd (pc2 := 206) rfl dX12_street_205 ?_
    refine EW_aload_n (pc2 := 207) rfl dX12_street_206 0 rfl ?_
    refine AW_getr (r := 251) ⟨gfRX12_22, rfl⟩ (pc2 := 210) rfl dX12_street_207 q246 rfl ?_
    refine EW_bipush (pc2 := 212) (v := 20) rfl dX12_street_210 (by decide) ?_
    refine EW_iload (pc2 := 214) rfl dX12_street_212 2 rfl ?_
    refine EW_imul (pc2 := 215) rfl dX12_street_214 ?_
    refine EW_iload (pc2 := 217) rfl dX12_street_215 3 rfl ?_
    refine EW_iadd (pc2 := 218) rfl dX12_street_217 ?_
    obtain ⟨b12, h⟩ := h
    refine AW_iald (pc2 := 219) rfl dX12_street_218 q251 b12 ?_
    refine EW_aload_n (pc2 := 220) rfl dX12_street_219 0 rfl ?_
    refine AW_getr (r := 251) ⟨gfRX12_22, rfl⟩ (pc2 := 223) rfl dX12_street_220 q246 rfl ?_
    refine EW_bipush (pc2 := 225) (v := 20) rfl dX12_street_223 (by decide) ?_
    refine EW_iload (pc2 := 227) rfl dX12_street_225 2 rfl ?_
    refine EW_imul (pc2 := 228) rfl dX12_street_227 ?_
    refine EW_iload (pc2 := 230) rfl dX12_street_228 1 rfl ?_
    refine EW_iadd (pc2 := 231) rfl dX12_street_230 ?_
    obtain ⟨b13, h⟩ := h
    refine AW_iald (pc2 := 232) rfl dX12_street_231 q251 b13 ?_
    refine EW_aload_n (pc2 := 233) rfl dX12_street_232 0 rfl ?_
    refine AW_getr (r := 251) ⟨gfRX12_22, rfl⟩ (pc2 := 236) rfl dX12_street_233 q246 rfl ?_
    refine EW_bipush (pc2 := 238) (v := 20) rfl dX12_street_236 (by decide) ?_
    refine EW_iload (pc2 := 240) rfl dX12_street_238 1 rfl ?_
    refine EW_imul (pc2 := 241) rfl dX12_street_240 ?_
    refine EW_iload (pc2 := 243) rfl dX12_street_241 3 rfl ?_
    refine EW_iadd (pc2 := 244) rfl dX12_street_243 ?_
    obtain ⟨b14, h⟩ := h
    refine AW_iald (pc2 := 245) rfl dX12_street_244 q251 b14 ?_
    refine EW_iadd (pc2 := 246) rfl dX12_street_245 ?_
    refine AW_mmin mmRX12_311 (pc2 := 249) rfl dX12_street_246 (Nat.le_of_ble_eq_true rfl) (by omega) ?_
    obtain ⟨b15, h⟩ := h
    refine AW_iast (pc2 := 250) rfl dX12_street_249 q251 b15 ?_
    refine EW_iinc (v6 + 1) (pc2 := 253) rfl dX12_street_250 3 rfl rfl (by decide) [1, 2, 3, 0] [(0, .ref 246), (4, .int v4), (5, .int v5), (6, .int (v6 + 1))] rfl ?_
    refine EW_goto (tgt := 187) dX12_street_253 (by decide) ?_
    exact hL187 (v6 + 1) (wr x 251 (Int32.toNatClampNeg ((20 * v5) + v6)) (imin (x.1 251 (Int32.toNatClampNeg ((20 * v5) + v6))) ((x.1 251 (Int32.toNatClampNeg ((20 * v5) + v4))) + (x.1 251 (Int32.toNatClampNeg ((20 * v4) + v6)))))) h
set_option maxHeartbeats 4000000 in
set_option maxRecDepth 100000 in
def lX12_street_177 (v4 : Int32) (K : Int32 → ab_X → Prop) (L167 : Int32 → ab_X → Prop) (L177 : Int32 → ab_X → Prop) (v5 : Int32) (x : ab_X) : Prop := ((20 ≤ v5 → L167 (v4 + 1) x) ∧ (¬ 20 ≤ v5 → Lp2 (lX12_street_187 v4 v5 K L167 L177) 0 x))
set_option maxHeartbeats 4000000 in
set_option maxRecDepth 100000 in
theorem sX12_street_177 (v4 : Int32) (v5 : Int32)  (x : ab_X) (K : Int32 → ab_X → Prop) (L167 : Int32 → ab_X → Prop) (d bc bs : Nat) (hdp : 1 ≤ d) (hL167 : ∀ (v4 : Int32) (x : ab_X), L167 v4 x → EW MX12_street 167 [(0, .ref 246), (4, .int v4)] [] (aS x) d bc bs (liI K)) (h : Lp2 (lX12_street_177 v4 K L167) v5 x) : EW MX12_street 177 [(0, .ref 246), (4, .int v4), (5, .int v5)] [] (aS x) d bc bs (liI K) := by
  refine Lp2.use (P := fun v5 x => EW MX12_street 177 [(0, .ref 246), (4, .int v4), (5, .int v5)] [] (aS x) d bc bs (liI K)) (fun L177 v5 x hL177 h => ?_) v5 x h
  unfold lX12_street_177 at h
  refine EW_iload (pc2 := 179) rfl dX12_street_177 2 rfl ?_
  refine EW_bipush (pc2 := 181) (v := 20) rfl dX12_street_179 (by decide) ?_
  refine EW_icmp_ge (tgt := 262) (pc2 := 184) rfl dX12_street_181 (by decide) (fun q => ?_) (fun q => ?_)
  · replace h := h.1 q
    refine EW_iinc (v4 + 1) (pc2 := 265) rfl dX12_street_262 1 rfl rfl (by decide) [1, 0, 2] [(0, .ref 246), (4, .int (v4 + 1)), (5, .int v5)] rfl ?_
    refine EW_goto (tgt := 167) dX12_street_265 (by decide) ?_
    refine EW_ls [0, 1] rfl ?_
    exact hL167 (v4 + 1) x h
  · replace h := h.2 q
    refine EW_iconst (pc2 := 185) (v := 0) rfl dX12_street_184 (by decide) ?_
    refine EW_istore (pc2 := 187) rfl dX12_street_185 (by decide) [1, 2, 3, 0] [(0, .ref 246), (4, .int v4), (5, .int v5), (6, .int 0)] rfl ?_
    exact sX12_street_187 v4 v5 0 x K L167 L177 d bc bs hdp hL167 hL177 h
set_option maxHeartbeats 4000000 in
set_option maxRecDepth 100000 in
def lX12_street_167  (K : Int32 → ab_X → Prop)  (L167 : Int32 → ab_X → Prop) (v4 : Int32) (x : ab_X) : Prop := ((20 ≤ v4 → K ((x.1 246 9) - 1) x) ∧ (¬ 20 ≤ v4 → Lp2 (lX12_street_177 v4 K L167) 0 x))
set_option maxHeartbeats 4000000 in
set_option maxRecDepth 100000 in
theorem sX12_street_167 (v4 : Int32)  (x : ab_X) (K : Int32 → ab_X → Prop)  (d bc bs : Nat) (hdp : 1 ≤ d)  (h : Lp2 (lX12_street_167  K ) v4 x) : EW MX12_street 167 [(0, .ref 246), (4, .int v4)] [] (aS x) d bc bs (liI K) := by
  refine Lp2.use (P := fun v4 x => EW MX12_street 167 [(0, .ref 246), (4, .int v4)] [] (aS x) d bc bs (liI K)) (fun L167 v4 x hL167 h => ?_) v4 x h
  unfold lX12_street_167 at h
  refine EW_iload (pc2 := 169) rfl dX12_street_167 1 rfl ?_
  refine EW_bipush (pc2 := 171) (v := 20) rfl dX12_street_169 (by decide) ?_
  refine EW_icmp_ge (tgt := 268) (pc2 := 174) rfl dX12_street_171 (by decide) (fun q => ?_) (fun q => ?_)
  · replace h := h.1 q
    refine EW_aload_n (pc2 := 269) rfl dX12_street_268 0 rfl ?_
    refine AW_geti ⟨gfRX12_300, rfl⟩ (pc2 := 272) rfl dX12_street_269 q246 ?_
    refine EW_iconst (pc2 := 273) (v := 1) rfl dX12_street_272 (by decide) ?_
    refine EW_isub (pc2 := 274) rfl dX12_street_273 ?_
    exact AW_iret rfl dX12_street_274 ⟨_, _, rfl, rfl, h⟩
  · replace h := h.2 q
    refine EW_iconst (pc2 := 175) (v := 0) rfl dX12_street_174 (by decide) ?_
    refine EW_istore (pc2 := 177) rfl dX12_street_175 (by decide) [1, 2, 0] [(0, .ref 246), (4, .int v4), (5, .int 0)] rfl ?_
    exact sX12_street_177 v4 0 x K L167 d bc bs hdp hL167 h
set_option maxHeartbeats 4000000 in
set_option maxRecDepth 100000 in
def lX12_street_78 (v1 : Int32) (v2 : Int32) (v3 : Int32) (K : Int32 → ab_X → Prop)  (L78 : Int32 → ab_X → Prop) (v4 : Int32) (x : ab_X) : Prop := ((4 ≤ v4 → (vp_in ((20 * v1) + v2) 400 ∧ vp_in ((20 * v1) + v2) 400 ∧ vp_in ((20 * v1) + v2) 400 ∧ vp_in ((20 * v2) + v1) 400 ∧ Lp2 (lX12_street_167 K ) 0 (wr (wr (wr x 246 9 ((x.1 246 9) + 1)) 251 (Int32.toNatClampNeg ((20 * v1) + v2)) (imin ((wr x 246 9 ((x.1 246 9) + 1)).1 251 (Int32.toNatClampNeg ((20 * v1) + v2))) v3)) 251 (Int32.toNatClampNeg ((20 * v2) + v1)) ((wr (wr x 246 9 ((x.1 246 9) + 1)) 251 (Int32.toNatClampNeg ((20 * v1) + v2)) (imin ((wr x 246 9 ((x.1 246 9) + 1)).1 251 (Int32.toNatClampNeg ((20 * v1) + v2))) v3)).1 251 (Int32.toNatClampNeg ((20 * v1) + v2)))))) ∧ (¬ 4 ≤ v4 → (vp_in ((4 * (x.1 246 9)) + v4) 160 ∧ L78 (v4 + 1) (wr x 250 (Int32.toNatClampNeg ((4 * (x.1 246 9)) + v4)) 100))))
set_option maxHeartbeats 4000000 in
set_option maxRecDepth 100000 in
theorem sX12_street_78 (v1 : Int32) (v2 : Int32) (v3 : Int32) (v4 : Int32)  (x : ab_X) (K : Int32 → ab_X → Prop)  (d bc bs : Nat) (hdp : 1 ≤ d)  (h : Lp2 (lX12_street_78 v1 v2 v3 K ) v4 x) : EW MX12_street 78 [(0, .ref 246), (1, .int v1), (2, .int v2), (3, .int v3), (4, .int v4)] [] (aS x) d bc bs (liI K) := by
  refine Lp2.use (P := fun v4 x => EW MX12_street 78 [(0, .ref 246), (1, .int v1), (2, .int v2), (3, .int v3), (4, .int v4)] [] (aS x) d bc bs (liI K)) (fun L78 v4 x hL78 h => ?_) v4 x h
  unfold lX12_street_78 at h
  refine EW_iload (pc2 := 80) rfl dX12_street_78 4 rfl ?_
  refine EW_iconst (pc2 := 81) (v := 4) rfl dX12_street_80 (by decide) ?_
  refine EW_icmp_ge (tgt := 106) (pc2 := 84) rfl dX12_street_81 (by decide) (fun q => ?_) (fun q => ?_)
  · replace h := h.1 q
    refine EW_aload_n (pc2 := 107) rfl dX12_street_106 0 rfl ?_
    refine EW_dup (pc2 := 108) rfl dX12_street_107 rfl ?_
    refine AW_geti ⟨gfRX12_300, rfl⟩ (pc2 := 111) rfl dX12_street_108 q246 ?_
    refine EW_iconst (pc2 := 112) (v := 1) rfl dX12_street_111 (by decide) ?_
    refine EW_iadd (pc2 := 113) rfl dX12_street_112 ?_
    refine AW_puti ⟨gfRX12_300, rfl, rfl⟩ (pc2 := 116) rfl dX12_street_113 q246 ?_
    refine EW_aload_n (pc2 := 117) rfl dX12_street_116 0 rfl ?_
    refine AW_getr (r := 251) ⟨gfRX12_22, rfl⟩ (pc2 := 120) rfl dX12_street_117 q246 rfl ?_
    refine EW_bipush (pc2 := 122) (v := 20) rfl dX12_street_120 (by decide) ?_
    refine EW_iload_n (pc2 := 123) rfl dX12_street_122 1 rfl ?_
    refine EW_imul (pc2 := 124) rfl dX12_street_123 ?_
    refine EW_iload_n (pc2 := 125) rfl dX12_street_124 2 rfl ?_
    refine EW_iadd (pc2 := 126) rfl dX12_street_125 ?_
    refine EW_aload_n (pc2 := 127) rfl dX12_street_126 0 rfl ?_
    refine AW_getr (r := 251) ⟨gfRX12_22, rfl⟩ (pc2 := 130) rfl dX12_street_127 q246 rfl ?_
    refine EW_bipush (pc2 := 132) (v := 20) rfl dX12_street_130 (by decide) ?_
    refine EW_iload_n (pc2 := 133) rfl dX12_street_132 1 rfl ?_
    refine EW_imul (pc2 := 134) rfl dX12_street_133 ?_
    refine EW_iload_n (pc2 := 135) rfl dX12_street_134 2 rfl ?_
    refine EW_iadd (pc2 := 136) rfl dX12_street_135 ?_
    obtain ⟨b7, h⟩ := h
    refine AW_iald (pc2 := 137) rfl dX12_street_136 q251 b7 ?_
    refine EW_iload_n (pc2 := 138) rfl dX12_street_137 3 rfl ?_
    refine AW_mmin mmRX12_311 (pc2 := 141) rfl dX12_street_138 (Nat.le_of_ble_eq_true rfl) (by omega) ?_
    obtain ⟨b8, h⟩ := h
    refine AW_iast (pc2 := 142) rfl dX12_street_141 q251 b8 ?_
    refine EW_aload_n (pc2 := 143) rfl dX12_street_142 0 rfl ?_
    refine AW_getr (r := 251) ⟨gfRX12_22, rfl⟩ (pc2 := 146) rfl dX12_street_143 q246 rfl ?_
    refine EW_bipush (pc2 := 148) (v := 20) rfl dX12_street_146 (by decide) ?_
    refine EW_iload_n (pc2 := 149) rfl dX12_street_148 2 rfl ?_
    refine EW_imul (pc2 := 150) rfl dX12_street_149 ?_
    refine EW_iload_n (pc2 := 151) rfl dX12_street_150 1 rfl ?_
    refine EW_iadd (pc2 := 152) rfl dX12_street_151 ?_
    refine EW_aload_n (pc2 := 153) rfl dX12_street_152 0 rfl ?_
    refine AW_getr (r := 251) ⟨gfRX12_22, rfl⟩ (pc2 := 156) rfl dX12_street_153 q246 rfl ?_
    refine EW_bipush (pc2 := 158) (v := 20) rfl dX12_street_156 (by decide) ?_
    refine EW_iload_n (pc2 := 159) rfl dX12_street_158 1 rfl ?_
    refine EW_imul (pc2 := 160) rfl dX12_street_159 ?_
    refine EW_iload_n (pc2 := 161) rfl dX12_street_160 2 rfl ?_
    refine EW_iadd (pc2 := 162) rfl dX12_street_161 ?_
    obtain ⟨b9, h⟩ := h
    refine AW_iald (pc2 := 163) rfl dX12_street_162 q251 b9 ?_
    obtain ⟨b10, h⟩ := h
    refine AW_iast (pc2 := 164) rfl dX12_street_163 q251 b10 ?_
    refine EW_iconst (pc2 := 165) (v := 0) rfl dX12_street_164 (by decide) ?_
    refine EW_istore (pc2 := 167) rfl dX12_street_165 (by decide) [1, 2, 3, 4, 0] [(0, .ref 246), (1, .int v1), (2, .int v2), (3, .int v3), (4, .int 0)] rfl ?_
    refine EW_ls [0, 4] rfl ?_
    exact sX12_street_167 0 (wr (wr (wr x 246 9 ((x.1 246 9) + 1)) 251 (Int32.toNatClampNeg ((20 * v1) + v2)) (imin ((wr x 246 9 ((x.1 246 9) + 1)).1 251 (Int32.toNatClampNeg ((20 * v1) + v2))) v3)) 251 (Int32.toNatClampNeg ((20 * v2) + v1)) ((wr (wr x 246 9 ((x.1 246 9) + 1)) 251 (Int32.toNatClampNeg ((20 * v1) + v2)) (imin ((wr x 246 9 ((x.1 246 9) + 1)).1 251 (Int32.toNatClampNeg ((20 * v1) + v2))) v3)).1 251 (Int32.toNatClampNeg ((20 * v1) + v2)))) K d bc bs hdp h
  · replace h := h.2 q
    refine EW_aload_n (pc2 := 85) rfl dX12_street_84 0 rfl ?_
    refine AW_getr (r := 250) ⟨gfRX12_19, rfl⟩ (pc2 := 88) rfl dX12_street_85 q246 rfl ?_
    refine EW_iconst (pc2 := 89) (v := 4) rfl dX12_street_88 (by decide) ?_
    refine EW_aload_n (pc2 := 90) rfl dX12_street_89 0 rfl ?_
    refine AW_geti ⟨gfRX12_300, rfl⟩ (pc2 := 93) rfl dX12_street_90 q246 ?_
    refine EW_imul (pc2 := 94) rfl dX12_street_93 ?_
    refine EW_iload (pc2 := 96) rfl dX12_street_94 4 rfl ?_
    refine EW_iadd (pc2 := 97) rfl dX12_street_96 ?_
    refine EW_bipush (pc2 := 99) (v := 100) rfl dX12_street_97 (by decide) ?_
    obtain ⟨b11, h⟩ := h
    refine AW_iast (pc2 := 100) rfl dX12_street_99 q250 b11 ?_
    refine EW_iinc (v4 + 1) (pc2 := 103) rfl dX12_street_100 4 rfl rfl (by decide) [1, 2, 3, 4, 0] [(0, .ref 246), (1, .int v1), (2, .int v2), (3, .int v3), (4, .int (v4 + 1))] rfl ?_
    refine EW_goto (tgt := 78) dX12_street_103 (by decide) ?_
    exact hL78 (v4 + 1) (wr x 250 (Int32.toNatClampNeg ((4 * (x.1 246 9)) + v4)) 100) h
set_option maxHeartbeats 4000000 in
set_option maxRecDepth 100000 in
def wX12_street (v1 : Int32) (v2 : Int32) (v3 : Int32) (x : ab_X) (K : Int32 → ab_X → Prop) : Prop := ((((wr x 246 0 0).1 246 9) = 40 → K (-1) (wr x 246 0 0)) ∧ (¬ ((wr x 246 0 0).1 246 9) = 40 → wX12_isCorner v1 (wr x 246 0 0) (fun r1 => ((r1 = 0 → K (-1) (wr x 246 0 0)) ∧ (¬ r1 = 0 → wX12_isCorner v2 (wr x 246 0 0) (fun r2 => ((r2 = 0 → K (-1) (wr x 246 0 0)) ∧ (¬ r2 = 0 → ((v1 = v2 → K (-1) (wr x 246 0 0)) ∧ (¬ v1 = v2 → wX12_isIn v3 1 20 (wr x 246 0 0) (fun r3 => ((¬ r3 = 0 → (vp_in ((wr x 246 0 0).1 246 9) 40 ∧ vp_in ((wr (wr x 246 0 0) 247 (Int32.toNatClampNeg ((wr x 246 0 0).1 246 9)) v1).1 246 9) 40 ∧ vp_in ((wr (wr (wr x 246 0 0) 247 (Int32.toNatClampNeg ((wr x 246 0 0).1 246 9)) v1) 248 (Int32.toNatClampNeg ((wr (wr x 246 0 0) 247 (Int32.toNatClampNeg ((wr x 246 0 0).1 246 9)) v1).1 246 9)) v2).1 246 9) 40 ∧ Lp2 (lX12_street_78 v1 v2 v3 K ) 0 (wr (wr (wr (wr x 246 0 0) 247 (Int32.toNatClampNeg ((wr x 246 0 0).1 246 9)) v1) 248 (Int32.toNatClampNeg ((wr (wr x 246 0 0) 247 (Int32.toNatClampNeg ((wr x 246 0 0).1 246 9)) v1).1 246 9)) v2) 249 (Int32.toNatClampNeg ((wr (wr (wr x 246 0 0) 247 (Int32.toNatClampNeg ((wr x 246 0 0).1 246 9)) v1) 248 (Int32.toNatClampNeg ((wr (wr x 246 0 0) 247 (Int32.toNatClampNeg ((wr x 246 0 0).1 246 9)) v1).1 246 9)) v2).1 246 9)) v3))) ∧ (r3 = 0 → K (-1) (wr x 246 0 0))))))))))))))
set_option maxHeartbeats 4000000 in
set_option maxRecDepth 100000 in
theorem sX12_street (v1 : Int32) (v2 : Int32) (v3 : Int32)  (x : ab_X) (K : Int32 → ab_X → Prop) (d bc bs : Nat) (hdp : 1 ≤ d) (h : wX12_street v1 v2 v3 x K) : EW MX12_street 0 [(0, .ref 246), (1, .int v1), (2, .int v2), (3, .int v3)] [] (aS x) d bc bs (liI K) := by
  unfold wX12_street at h
  refine EW_aload_n (pc2 := 1) rfl dX12_street_0 0 rfl ?_
  refine EW_iconst (pc2 := 2) (v := 0) rfl dX12_street_1 (by decide) ?_
  refine AW_puti ⟨gfRX12_297, rfl, rfl⟩ (pc2 := 5) rfl dX12_street_2 q246 ?_
  refine EW_aload_n (pc2 := 6) rfl dX12_street_5 0 rfl ?_
  refine AW_geti ⟨gfRX12_300, rfl⟩ (pc2 := 9) rfl dX12_street_6 q246 ?_
  refine EW_bipush (pc2 := 11) (v := 40) rfl dX12_street_9 (by decide) ?_
  refine EW_icmp_eq (tgt := 43) (pc2 := 14) rfl dX12_street_11 (by decide) (fun q => ?_) (fun q => ?_)
  · replace h := h.1 q
    refine EW_iconst (pc2 := 44) (v := (-1)) rfl dX12_street_43 (by decide) ?_
    exact AW_iret rfl dX12_street_44 ⟨_, _, rfl, rfl, h⟩
  · replace h := h.2 q
    refine EW_iload_n (pc2 := 15) rfl dX12_street_14 1 rfl ?_
    refine AW_invS (M' := MX12_isCorner) [.int v1] (rest := []) mlRX12_303 okX12_isCorner (pc2 := 18) rfl dX12_street_15 rfl rfl (Nat.le_of_ble_eq_true rfl) (Nat.le_of_ble_eq_true rfl) (d' := 0) (by omega) (EW_mono (fun _ _ hr => ?_) (sX12_isCorner v1  (wr x 246 0 0) _ _ 0 0 (Nat.le_refl _) h))
    obtain ⟨r1, rfl, rfl, h⟩ := hr
    refine EW_if_eq (tgt := 43) (pc2 := 21) rfl dX12_street_18 (by decide) (fun q => ?_) (fun q => ?_)
    · replace h := h.1 q
      refine EW_iconst (pc2 := 44) (v := (-1)) rfl dX12_street_43 (by decide) ?_
      exact AW_iret rfl dX12_street_44 ⟨_, _, rfl, rfl, h⟩
    · replace h := h.2 q
      refine EW_iload_n (pc2 := 22) rfl dX12_street_21 2 rfl ?_
      refine AW_invS (M' := MX12_isCorner) [.int v2] (rest := []) mlRX12_303 okX12_isCorner (pc2 := 25) rfl dX12_street_22 rfl rfl (Nat.le_of_ble_eq_true rfl) (Nat.le_of_ble_eq_true rfl) (d' := 0) (by omega) (EW_mono (fun _ _ hr => ?_) (sX12_isCorner v2  (wr x 246 0 0) _ _ 0 0 (Nat.le_refl _) h))
      obtain ⟨r2, rfl, rfl, h⟩ := hr
      refine EW_if_eq (tgt := 43) (pc2 := 28) rfl dX12_street_25 (by decide) (fun q => ?_) (fun q => ?_)
      · replace h := h.1 q
        refine EW_iconst (pc2 := 44) (v := (-1)) rfl dX12_street_43 (by decide) ?_
        exact AW_iret rfl dX12_street_44 ⟨_, _, rfl, rfl, h⟩
      · replace h := h.2 q
        refine EW_iload_n (pc2 := 29) rfl dX12_street_28 1 rfl ?_
        refine EW_iload_n (pc2 := 30) rfl dX12_street_29 2 rfl ?_
        refine EW_icmp_eq (tgt := 43) (pc2 := 33) rfl dX12_street_30 (by decide) (fun q => ?_) (fun q => ?_)
        · replace h := h.1 q
          refine EW_iconst (pc2 := 44) (v := (-1)) rfl dX12_street_43 (by decide) ?_
          exact AW_iret rfl dX12_street_44 ⟨_, _, rfl, rfl, h⟩
        · replace h := h.2 q
          refine EW_iload_n (pc2 := 34) rfl dX12_street_33 3 rfl ?_
          refine EW_iconst (pc2 := 35) (v := 1) rfl dX12_street_34 (by decide) ?_
          refine EW_bipush (pc2 := 37) (v := 20) rfl dX12_street_35 (by decide) ?_
          refine AW_invS (M' := MX12_isIn) [.int v3, .int 1, .int 20] (rest := []) mlRX12_307 okX12_isIn (pc2 := 40) rfl dX12_street_37 rfl rfl (Nat.le_of_ble_eq_true rfl) (Nat.le_of_ble_eq_true rfl) (d' := 0) (by omega) (EW_mono (fun _ _ hr => ?_) (sX12_isIn v3 1 20  (wr x 246 0 0) _ _ 0 0 (Nat.le_refl _) h))
          obtain ⟨r3, rfl, rfl, h⟩ := hr
          refine EW_if_ne (tgt := 45) (pc2 := 43) rfl dX12_street_40 (by decide) (fun q => ?_) (fun q => ?_)
          · replace h := h.1 q
            refine EW_aload_n (pc2 := 46) rfl dX12_street_45 0 rfl ?_
            refine AW_getr (r := 247) ⟨gfRX12_9, rfl⟩ (pc2 := 49) rfl dX12_street_46 q246 rfl ?_
            refine EW_aload_n (pc2 := 50) rfl dX12_street_49 0 rfl ?_
            refine AW_geti ⟨gfRX12_300, rfl⟩ (pc2 := 53) rfl dX12_street_50 q246 ?_
            refine EW_iload_n (pc2 := 54) rfl dX12_street_53 1 rfl ?_
            obtain ⟨b4, h⟩ := h
            refine AW_iast (pc2 := 55) rfl dX12_street_54 q247 b4 ?_
            refine EW_aload_n (pc2 := 56) rfl dX12_street_55 0 rfl ?_
            refine AW_getr (r := 248) ⟨gfRX12_13, rfl⟩ (pc2 := 59) rfl dX12_street_56 q246 rfl ?_
            refine EW_aload_n (pc2 := 60) rfl dX12_street_59 0 rfl ?_
            refine AW_geti ⟨gfRX12_300, rfl⟩ (pc2 := 63) rfl dX12_street_60 q246 ?_
            refine EW_iload_n (pc2 := 64) rfl dX12_street_63 2 rfl ?_
            obtain ⟨b5, h⟩ := h
            refine AW_iast (pc2 := 65) rfl dX12_street_64 q248 b5 ?_
            refine EW_aload_n (pc2 := 66) rfl dX12_street_65 0 rfl ?_
            refine AW_getr (r := 249) ⟨gfRX12_16, rfl⟩ (pc2 := 69) rfl dX12_street_66 q246 rfl ?_
            refine EW_aload_n (pc2 := 70) rfl dX12_street_69 0 rfl ?_
            refine AW_geti ⟨gfRX12_300, rfl⟩ (pc2 := 73) rfl dX12_street_70 q246 ?_
            refine EW_iload_n (pc2 := 74) rfl dX12_street_73 3 rfl ?_
            obtain ⟨b6, h⟩ := h
            refine AW_iast (pc2 := 75) rfl dX12_street_74 q249 b6 ?_
            refine EW_iconst (pc2 := 76) (v := 0) rfl dX12_street_75 (by decide) ?_
            refine EW_istore (pc2 := 78) rfl dX12_street_76 (by decide) [1, 2, 3, 4, 0] [(0, .ref 246), (1, .int v1), (2, .int v2), (3, .int v3), (4, .int 0)] rfl ?_
            exact sX12_street_78 v1 v2 v3 0 (wr (wr (wr (wr x 246 0 0) 247 (Int32.toNatClampNeg ((wr x 246 0 0).1 246 9)) v1) 248 (Int32.toNatClampNeg ((wr (wr x 246 0 0) 247 (Int32.toNatClampNeg ((wr x 246 0 0).1 246 9)) v1).1 246 9)) v2) 249 (Int32.toNatClampNeg ((wr (wr (wr x 246 0 0) 247 (Int32.toNatClampNeg ((wr x 246 0 0).1 246 9)) v1) 248 (Int32.toNatClampNeg ((wr (wr x 246 0 0) 247 (Int32.toNatClampNeg ((wr x 246 0 0).1 246 9)) v1).1 246 9)) v2).1 246 9)) v3) K d bc bs hdp h
          · replace h := h.2 q
            refine EW_iconst (pc2 := 44) (v := (-1)) rfl dX12_street_43 (by decide) ?_
            exact AW_iret rfl dX12_street_44 ⟨_, _, rfl, rfl, h⟩
abbrev MX12_thrown : ab_M := (yX12_thrown, cX12_thrown, 1, (some .int))
theorem dX12_thrown_0 : decode cX12_thrown 0 = .ok (.aload_n 0, 1) := by decide +kernel
theorem dX12_thrown_1 : decode cX12_thrown 1 = .ok (.getfield 297, 3) := by decide +kernel
theorem dX12_thrown_4 : decode cX12_thrown 4 = .ok (.ireturn, 1) := by decide +kernel
theorem okX12_thrown : ab_okM MX12_thrown 0 := ⟨by decide, ⟨by decide, by decide⟩, ab_in 2217 (by decide +kernel) (by decide +kernel), ab_in 99 (by decide +kernel) (by decide +kernel), by decide +kernel, by decide⟩
set_option maxHeartbeats 4000000 in
set_option maxRecDepth 100000 in
def wX12_thrown  (x : ab_X) (K : Int32 → Prop) : Prop := K (x.1 246 0)
set_option maxHeartbeats 4000000 in
set_option maxRecDepth 100000 in
theorem sX12_thrown   (x : ab_X) (K : Int32 → Prop) (d bc bs : Nat) (hdp : 0 ≤ d) (h : wX12_thrown  x K) : EW MX12_thrown 0 [(0, .ref 246)] [] (aS x) d bc bs (liP x K) := by
  unfold wX12_thrown at h
  refine EW_aload_n (pc2 := 1) rfl dX12_thrown_0 0 rfl ?_
  refine AW_geti ⟨gfRX12_297, rfl⟩ (pc2 := 4) rfl dX12_thrown_1 q246 ?_
  exact AW_iret rfl dX12_thrown_4 ⟨_, rfl, rfl, h⟩
theorem mlRX12_590 : Cond.methodLink RX12 590 yX12_minute ∈ ab_G ∧ Cond.instanceMethod yX12_minute ∈ ab_G ∧ Cond.selects RX12 yX12_minute yX12_minute ∈ ab_G := ⟨ab_in 2543 (by decide +kernel) (by decide +kernel), ab_in 2545 (by decide +kernel) (by decide +kernel), ab_in 56 (by decide +kernel) (by decide +kernel)⟩
abbrev MX12_tick : ab_M := (yX12_tick, cX12_tick, 3, (some .int))
theorem dX12_tick_0 : decode cX12_tick 0 = .ok (.aload_n 0, 1) := by decide +kernel
theorem dX12_tick_1 : decode cX12_tick 1 = .ok (.iconst 0, 1) := by decide +kernel
theorem dX12_tick_2 : decode cX12_tick 2 = .ok (.putfield 297, 3) := by decide +kernel
theorem dX12_tick_5 : decode cX12_tick 5 = .ok (.iload_n 1, 1) := by decide +kernel
theorem dX12_tick_6 : decode cX12_tick 6 = .ok (.iconst 0, 1) := by decide +kernel
theorem dX12_tick_7 : decode cX12_tick 7 = .ok (.sipush 300, 3) := by decide +kernel
theorem dX12_tick_10 : decode cX12_tick 10 = .ok (.invokestatic 307, 3) := by decide +kernel
theorem dX12_tick_13 : decode cX12_tick 13 = .ok (.ifCond .eq 15, 3) := by decide +kernel
theorem dX12_tick_16 : decode cX12_tick 16 = .ok (.aload_n 0, 1) := by decide +kernel
theorem dX12_tick_17 : decode cX12_tick 17 = .ok (.getfield 395, 3) := by decide +kernel
theorem dX12_tick_20 : decode cX12_tick 20 = .ok (.iload_n 1, 1) := by decide +kernel
theorem dX12_tick_21 : decode cX12_tick 21 = .ok (.iadd, 1) := by decide +kernel
theorem dX12_tick_22 : decode cX12_tick 22 = .ok (.sipush 20000, 3) := by decide +kernel
theorem dX12_tick_25 : decode cX12_tick 25 = .ok (.if_icmp .le 5, 3) := by decide +kernel
theorem dX12_tick_28 : decode cX12_tick 28 = .ok (.iconst (-1), 1) := by decide +kernel
theorem dX12_tick_29 : decode cX12_tick 29 = .ok (.ireturn, 1) := by decide +kernel
theorem dX12_tick_30 : decode cX12_tick 30 = .ok (.iconst 0, 1) := by decide +kernel
theorem dX12_tick_31 : decode cX12_tick 31 = .ok (.istore_n 2, 1) := by decide +kernel
theorem dX12_tick_32 : decode cX12_tick 32 = .ok (.iload_n 2, 1) := by decide +kernel
theorem dX12_tick_33 : decode cX12_tick 33 = .ok (.iload_n 1, 1) := by decide +kernel
theorem dX12_tick_34 : decode cX12_tick 34 = .ok (.if_icmp .ge 13, 3) := by decide +kernel
theorem dX12_tick_37 : decode cX12_tick 37 = .ok (.aload_n 0, 1) := by decide +kernel
theorem dX12_tick_38 : decode cX12_tick 38 = .ok (.invokevirtual 590, 3) := by decide +kernel
theorem dX12_tick_41 : decode cX12_tick 41 = .ok (.iinc 2 1, 3) := by decide +kernel
theorem dX12_tick_44 : decode cX12_tick 44 = .ok (.goto (-12), 3) := by decide +kernel
theorem dX12_tick_47 : decode cX12_tick 47 = .ok (.aload_n 0, 1) := by decide +kernel
theorem dX12_tick_48 : decode cX12_tick 48 = .ok (.getfield 395, 3) := by decide +kernel
theorem dX12_tick_51 : decode cX12_tick 51 = .ok (.ireturn, 1) := by decide +kernel
theorem okX12_tick : ab_okM MX12_tick 1 := ⟨by decide, ⟨by decide, by decide⟩, ab_in 2542 (by decide +kernel) (by decide +kernel), ab_in 99 (by decide +kernel) (by decide +kernel), by decide +kernel, by decide⟩
set_option maxHeartbeats 4000000 in
set_option maxRecDepth 100000 in
def lX12_tick_32 (v1 : Int32) (K : Int32 → ab_X → Prop)  (L32 : Int32 → ab_X → Prop) (v2 : Int32) (x : ab_X) : Prop := ((v1 ≤ v2 → K (x.1 246 1) x) ∧ (¬ v1 ≤ v2 → wX12_minute x (fun x2 => L32 (v2 + 1) x2)))
set_option maxHeartbeats 4000000 in
set_option maxRecDepth 100000 in
theorem sX12_tick_32 (v1 : Int32) (v2 : Int32)  (x : ab_X) (K : Int32 → ab_X → Prop)  (d bc bs : Nat) (hdp : 213 ≤ d)  (h : Lp2 (lX12_tick_32 v1 K ) v2 x) : EW MX12_tick 32 [(0, .ref 246), (1, .int v1), (2, .int v2)] [] (aS x) d bc bs (liI K) := by
  refine Lp2.use (P := fun v2 x => EW MX12_tick 32 [(0, .ref 246), (1, .int v1), (2, .int v2)] [] (aS x) d bc bs (liI K)) (fun L32 v2 x hL32 h => ?_) v2 x h
  unfold lX12_tick_32 at h
  refine EW_iload_n (pc2 := 33) rfl dX12_tick_32 2 rfl ?_
  refine EW_iload_n (pc2 := 34) rfl dX12_tick_33 1 rfl ?_
  refine EW_icmp_ge (tgt := 47) (pc2 := 37) rfl dX12_tick_34 (by decide) (fun q => ?_) (fun q => ?_)
  · replace h := h.1 q
    refine EW_aload_n (pc2 := 48) rfl dX12_tick_47 0 rfl ?_
    refine AW_geti ⟨gfRX12_395, rfl⟩ (pc2 := 51) rfl dX12_tick_48 q246 ?_
    exact AW_iret rfl dX12_tick_51 ⟨_, _, rfl, rfl, h⟩
  · replace h := h.2 q
    refine EW_aload_n (pc2 := 38) rfl dX12_tick_37 0 rfl ?_
    refine AW_invV (M' := MX12_minute) [] (rest := []) mlRX12_590 okX12_minute (pc2 := 41) rfl dX12_tick_38 rfl rfl (Nat.le_of_ble_eq_true rfl) (Nat.le_of_ble_eq_true rfl) (d' := 212) (by omega) q246 ⟨by decide, rfl⟩ (EW_mono (fun _ _ hr => ?_) (sX12_minute   x _ _ 0 0 (Nat.le_refl _) h))
    obtain ⟨x2, rfl, rfl, h⟩ := hr
    refine EW_iinc (v2 + 1) (pc2 := 44) rfl dX12_tick_41 2 rfl rfl (by decide) [1, 2, 0] [(0, .ref 246), (1, .int v1), (2, .int (v2 + 1))] rfl ?_
    refine EW_goto (tgt := 32) dX12_tick_44 (by decide) ?_
    exact hL32 (v2 + 1) x2 h
set_option maxHeartbeats 4000000 in
set_option maxRecDepth 100000 in
def wX12_tick (v1 : Int32) (x : ab_X) (K : Int32 → ab_X → Prop) : Prop := wX12_isIn v1 0 300 (wr x 246 0 0) (fun r1 => ((r1 = 0 → K (-1) (wr x 246 0 0)) ∧ (¬ r1 = 0 → (((((wr x 246 0 0).1 246 1) + v1) ≤ 20000 → Lp2 (lX12_tick_32 v1 K ) 0 (wr x 246 0 0)) ∧ (¬ (((wr x 246 0 0).1 246 1) + v1) ≤ 20000 → K (-1) (wr x 246 0 0))))))
set_option maxHeartbeats 4000000 in
set_option maxRecDepth 100000 in
theorem sX12_tick (v1 : Int32)  (x : ab_X) (K : Int32 → ab_X → Prop) (d bc bs : Nat) (hdp : 213 ≤ d) (h : wX12_tick v1 x K) : EW MX12_tick 0 [(0, .ref 246), (1, .int v1)] [] (aS x) d bc bs (liI K) := by
  unfold wX12_tick at h
  refine EW_aload_n (pc2 := 1) rfl dX12_tick_0 0 rfl ?_
  refine EW_iconst (pc2 := 2) (v := 0) rfl dX12_tick_1 (by decide) ?_
  refine AW_puti ⟨gfRX12_297, rfl, rfl⟩ (pc2 := 5) rfl dX12_tick_2 q246 ?_
  refine EW_iload_n (pc2 := 6) rfl dX12_tick_5 1 rfl ?_
  refine EW_iconst (pc2 := 7) (v := 0) rfl dX12_tick_6 (by decide) ?_
  refine EW_sipush (pc2 := 10) (v := 300) rfl dX12_tick_7 (by decide) ?_
  refine AW_invS (M' := MX12_isIn) [.int v1, .int 0, .int 300] (rest := []) mlRX12_307 okX12_isIn (pc2 := 13) rfl dX12_tick_10 rfl rfl (Nat.le_of_ble_eq_true rfl) (Nat.le_of_ble_eq_true rfl) (d' := 0) (by omega) (EW_mono (fun _ _ hr => ?_) (sX12_isIn v1 0 300  (wr x 246 0 0) _ _ 0 0 (Nat.le_refl _) h))
  obtain ⟨r1, rfl, rfl, h⟩ := hr
  refine EW_if_eq (tgt := 28) (pc2 := 16) rfl dX12_tick_13 (by decide) (fun q => ?_) (fun q => ?_)
  · replace h := h.1 q
    refine EW_iconst (pc2 := 29) (v := (-1)) rfl dX12_tick_28 (by decide) ?_
    exact AW_iret rfl dX12_tick_29 ⟨_, _, rfl, rfl, h⟩
  · replace h := h.2 q
    refine EW_aload_n (pc2 := 17) rfl dX12_tick_16 0 rfl ?_
    refine AW_geti ⟨gfRX12_395, rfl⟩ (pc2 := 20) rfl dX12_tick_17 q246 ?_
    refine EW_iload_n (pc2 := 21) rfl dX12_tick_20 1 rfl ?_
    refine EW_iadd (pc2 := 22) rfl dX12_tick_21 ?_
    refine EW_sipush (pc2 := 25) (v := 20000) rfl dX12_tick_22 (by decide) ?_
    refine EW_icmp_le (tgt := 30) (pc2 := 28) rfl dX12_tick_25 (by decide) (fun q => ?_) (fun q => ?_)
    · replace h := h.1 q
      refine EW_iconst (pc2 := 31) (v := 0) rfl dX12_tick_30 (by decide) ?_
      refine EW_istore_n (pc2 := 32) rfl dX12_tick_31 (by decide) [1, 2, 0] [(0, .ref 246), (1, .int v1), (2, .int 0)] rfl ?_
      exact sX12_tick_32 v1 0 (wr x 246 0 0) K d bc bs hdp h
    · replace h := h.2 q
      refine EW_iconst (pc2 := 29) (v := (-1)) rfl dX12_tick_28 (by decide) ?_
      exact AW_iret rfl dX12_tick_29 ⟨_, _, rfl, rfl, h⟩
abbrev MX12_use : ab_M := (yX12_use, cX12_use, 4, (some .boolean))
theorem dX12_use_0 : decode cX12_use 0 = .ok (.aload_n 0, 1) := by decide +kernel
theorem dX12_use_1 : decode cX12_use 1 = .ok (.iconst 0, 1) := by decide +kernel
theorem dX12_use_2 : decode cX12_use 2 = .ok (.putfield 297, 3) := by decide +kernel
theorem dX12_use_5 : decode cX12_use 5 = .ok (.aload_n 0, 1) := by decide +kernel
theorem dX12_use_6 : decode cX12_use 6 = .ok (.iload_n 1, 1) := by decide +kernel
theorem dX12_use_7 : decode cX12_use 7 = .ok (.invokevirtual 334, 3) := by decide +kernel
theorem dX12_use_10 : decode cX12_use 10 = .ok (.ifCond .eq 13, 3) := by decide +kernel
theorem dX12_use_13 : decode cX12_use 13 = .ok (.iload_n 2, 1) := by decide +kernel
theorem dX12_use_14 : decode cX12_use 14 = .ok (.iconst 0, 1) := by decide +kernel
theorem dX12_use_15 : decode cX12_use 15 = .ok (.bipush 9, 2) := by decide +kernel
theorem dX12_use_17 : decode cX12_use 17 = .ok (.invokestatic 307, 3) := by decide +kernel
theorem dX12_use_20 : decode cX12_use 20 = .ok (.ifCond .ne 5, 3) := by decide +kernel
theorem dX12_use_23 : decode cX12_use 23 = .ok (.iconst 0, 1) := by decide +kernel
theorem dX12_use_24 : decode cX12_use 24 = .ok (.ireturn, 1) := by decide +kernel
theorem dX12_use_25 : decode cX12_use 25 = .ok (.iconst 0, 1) := by decide +kernel
theorem dX12_use_26 : decode cX12_use 26 = .ok (.istore_n 3, 1) := by decide +kernel
theorem dX12_use_27 : decode cX12_use 27 = .ok (.iload_n 3, 1) := by decide +kernel
theorem dX12_use_28 : decode cX12_use 28 = .ok (.aload_n 0, 1) := by decide +kernel
theorem dX12_use_29 : decode cX12_use 29 = .ok (.getfield 596, 3) := by decide +kernel
theorem dX12_use_32 : decode cX12_use 32 = .ok (.if_icmp .ge 31, 3) := by decide +kernel
theorem dX12_use_35 : decode cX12_use 35 = .ok (.aload_n 0, 1) := by decide +kernel
theorem dX12_use_36 : decode cX12_use 36 = .ok (.getfield 244, 3) := by decide +kernel
theorem dX12_use_39 : decode cX12_use 39 = .ok (.iload_n 3, 1) := by decide +kernel
theorem dX12_use_40 : decode cX12_use 40 = .ok (.iaload, 1) := by decide +kernel
theorem dX12_use_41 : decode cX12_use 41 = .ok (.iload_n 1, 1) := by decide +kernel
theorem dX12_use_42 : decode cX12_use 42 = .ok (.if_icmp .ne 15, 3) := by decide +kernel
theorem dX12_use_45 : decode cX12_use 45 = .ok (.aload_n 0, 1) := by decide +kernel
theorem dX12_use_46 : decode cX12_use 46 = .ok (.getfield 247, 3) := by decide +kernel
theorem dX12_use_49 : decode cX12_use 49 = .ok (.iload_n 3, 1) := by decide +kernel
theorem dX12_use_50 : decode cX12_use 50 = .ok (.iaload, 1) := by decide +kernel
theorem dX12_use_51 : decode cX12_use 51 = .ok (.iconst (-1), 1) := by decide +kernel
theorem dX12_use_52 : decode cX12_use 52 = .ok (.if_icmp .eq 5, 3) := by decide +kernel
theorem dX12_use_55 : decode cX12_use 55 = .ok (.iconst 0, 1) := by decide +kernel
theorem dX12_use_56 : decode cX12_use 56 = .ok (.ireturn, 1) := by decide +kernel
theorem dX12_use_57 : decode cX12_use 57 = .ok (.iinc 3 1, 3) := by decide +kernel
theorem dX12_use_60 : decode cX12_use 60 = .ok (.goto (-33), 3) := by decide +kernel
theorem dX12_use_63 : decode cX12_use 63 = .ok (.aload_n 0, 1) := by decide +kernel
theorem dX12_use_64 : decode cX12_use 64 = .ok (.getfield 53, 3) := by decide +kernel
theorem dX12_use_67 : decode cX12_use 67 = .ok (.iload_n 1, 1) := by decide +kernel
theorem dX12_use_68 : decode cX12_use 68 = .ok (.iload_n 2, 1) := by decide +kernel
theorem dX12_use_69 : decode cX12_use 69 = .ok (.iastore, 1) := by decide +kernel
theorem dX12_use_70 : decode cX12_use 70 = .ok (.iconst 1, 1) := by decide +kernel
theorem dX12_use_71 : decode cX12_use 71 = .ok (.ireturn, 1) := by decide +kernel
theorem okX12_use : ab_okM MX12_use 2 := ⟨by decide, ⟨by decide, by decide⟩, ab_in 2618 (by decide +kernel) (by decide +kernel), ab_in 99 (by decide +kernel) (by decide +kernel), by decide +kernel, by decide⟩
set_option maxHeartbeats 4000000 in
set_option maxRecDepth 100000 in
def lX12_use_27 (v1 : Int32) (v2 : Int32) (x : ab_X) (K : Int32 → ab_X → Prop)  (L27 : Int32 → Prop) (v3 : Int32) : Prop := (((x.1 246 99) ≤ v3 → (vp_in v1 12 ∧ K 1 (wr x 261 (Int32.toNatClampNeg v1) v2))) ∧ (¬ (x.1 246 99) ≤ v3 → (vp_in v3 100 ∧ ((¬ (x.1 320 (Int32.toNatClampNeg v3)) = v1 → L27 (v3 + 1)) ∧ ((x.1 320 (Int32.toNatClampNeg v3)) = v1 → (vp_in v3 100 ∧ (((x.1 321 (Int32.toNatClampNeg v3)) = (-1) → L27 (v3 + 1)) ∧ (¬ (x.1 321 (Int32.toNatClampNeg v3)) = (-1) → K 0 x))))))))
set_option maxHeartbeats 4000000 in
set_option maxRecDepth 100000 in
theorem sX12_use_27 (v1 : Int32) (v2 : Int32) (v3 : Int32)  (x : ab_X) (K : Int32 → ab_X → Prop)  (d bc bs : Nat) (hdp : 1 ≤ d)  (h : Lp1 (lX12_use_27 v1 v2 x K ) v3) : EW MX12_use 27 [(0, .ref 246), (1, .int v1), (2, .int v2), (3, .int v3)] [] (aS x) d bc bs (liI K) := by
  refine Lp1.use (P := fun v3 => EW MX12_use 27 [(0, .ref 246), (1, .int v1), (2, .int v2), (3, .int v3)] [] (aS x) d bc bs (liI K)) (fun L27 v3 hL27 h => ?_) v3 h
  unfold lX12_use_27 at h
  refine EW_iload_n (pc2 := 28) rfl dX12_use_27 3 rfl ?_
  refine EW_aload_n (pc2 := 29) rfl dX12_use_28 0 rfl ?_
  refine AW_geti ⟨gfRX12_596, rfl⟩ (pc2 := 32) rfl dX12_use_29 q246 ?_
  refine EW_icmp_ge (tgt := 63) (pc2 := 35) rfl dX12_use_32 (by decide) (fun q => ?_) (fun q => ?_)
  · replace h := h.1 q
    refine EW_aload_n (pc2 := 64) rfl dX12_use_63 0 rfl ?_
    refine AW_getr (r := 261) ⟨gfRX12_53, rfl⟩ (pc2 := 67) rfl dX12_use_64 q246 rfl ?_
    refine EW_iload_n (pc2 := 68) rfl dX12_use_67 1 rfl ?_
    refine EW_iload_n (pc2 := 69) rfl dX12_use_68 2 rfl ?_
    obtain ⟨b3, h⟩ := h
    refine AW_iast (pc2 := 70) rfl dX12_use_69 q261 b3 ?_
    refine EW_iconst (pc2 := 71) (v := 1) rfl dX12_use_70 (by decide) ?_
    exact AW_zret rfl isB1 dX12_use_71 ⟨_, _, rfl, rfl, h⟩
  · replace h := h.2 q
    refine EW_aload_n (pc2 := 36) rfl dX12_use_35 0 rfl ?_
    refine AW_getr (r := 320) ⟨gfRX12_244, rfl⟩ (pc2 := 39) rfl dX12_use_36 q246 rfl ?_
    refine EW_iload_n (pc2 := 40) rfl dX12_use_39 3 rfl ?_
    obtain ⟨b4, h⟩ := h
    refine AW_iald (pc2 := 41) rfl dX12_use_40 q320 b4 ?_
    refine EW_iload_n (pc2 := 42) rfl dX12_use_41 1 rfl ?_
    refine EW_icmp_ne (tgt := 57) (pc2 := 45) rfl dX12_use_42 (by decide) (fun q => ?_) (fun q => ?_)
    · replace h := h.1 q
      refine EW_iinc (v3 + 1) (pc2 := 60) rfl dX12_use_57 3 rfl rfl (by decide) [1, 2, 3, 0] [(0, .ref 246), (1, .int v1), (2, .int v2), (3, .int (v3 + 1))] rfl ?_
      refine EW_goto (tgt := 27) dX12_use_60 (by decide) ?_
      exact hL27 (v3 + 1) h
    · replace h := h.2 q
      refine EW_aload_n (pc2 := 46) rfl dX12_use_45 0 rfl ?_
      refine AW_getr (r := 321) ⟨gfRX12_247, rfl⟩ (pc2 := 49) rfl dX12_use_46 q246 rfl ?_
      refine EW_iload_n (pc2 := 50) rfl dX12_use_49 3 rfl ?_
      obtain ⟨b5, h⟩ := h
      refine AW_iald (pc2 := 51) rfl dX12_use_50 q321 b5 ?_
      refine EW_iconst (pc2 := 52) (v := (-1)) rfl dX12_use_51 (by decide) ?_
      refine EW_icmp_eq (tgt := 57) (pc2 := 55) rfl dX12_use_52 (by decide) (fun q => ?_) (fun q => ?_)
      · replace h := h.1 q
        refine EW_iinc (v3 + 1) (pc2 := 60) rfl dX12_use_57 3 rfl rfl (by decide) [1, 2, 3, 0] [(0, .ref 246), (1, .int v1), (2, .int v2), (3, .int (v3 + 1))] rfl ?_
        refine EW_goto (tgt := 27) dX12_use_60 (by decide) ?_
        exact hL27 (v3 + 1) h
      · replace h := h.2 q
        refine EW_iconst (pc2 := 56) (v := 0) rfl dX12_use_55 (by decide) ?_
        exact AW_zret rfl isB0 dX12_use_56 ⟨_, _, rfl, rfl, h⟩
set_option maxHeartbeats 4000000 in
set_option maxRecDepth 100000 in
def wX12_use (v1 : Int32) (v2 : Int32) (x : ab_X) (K : Int32 → ab_X → Prop) : Prop := wX12_isHouse v1 (wr x 246 0 0) (fun r1 => ((r1 = 0 → K 0 (wr x 246 0 0)) ∧ (¬ r1 = 0 → wX12_isIn v2 0 9 (wr x 246 0 0) (fun r2 => ((¬ r2 = 0 → Lp1 (lX12_use_27 v1 v2 (wr x 246 0 0) K ) 0) ∧ (r2 = 0 → K 0 (wr x 246 0 0)))))))
set_option maxHeartbeats 4000000 in
set_option maxRecDepth 100000 in
theorem sX12_use (v1 : Int32) (v2 : Int32)  (x : ab_X) (K : Int32 → ab_X → Prop) (d bc bs : Nat) (hdp : 1 ≤ d) (h : wX12_use v1 v2 x K) : EW MX12_use 0 [(0, .ref 246), (1, .int v1), (2, .int v2)] [] (aS x) d bc bs (liI K) := by
  unfold wX12_use at h
  refine EW_aload_n (pc2 := 1) rfl dX12_use_0 0 rfl ?_
  refine EW_iconst (pc2 := 2) (v := 0) rfl dX12_use_1 (by decide) ?_
  refine AW_puti ⟨gfRX12_297, rfl, rfl⟩ (pc2 := 5) rfl dX12_use_2 q246 ?_
  refine EW_aload_n (pc2 := 6) rfl dX12_use_5 0 rfl ?_
  refine EW_iload_n (pc2 := 7) rfl dX12_use_6 1 rfl ?_
  refine AW_invV (M' := MX12_isHouse) [.int v1] (rest := []) mlRX12_334 okX12_isHouse (pc2 := 10) rfl dX12_use_7 rfl rfl (Nat.le_of_ble_eq_true rfl) (Nat.le_of_ble_eq_true rfl) (d' := 0) (by omega) q246 ⟨by decide, rfl⟩ (EW_mono (fun _ _ hr => ?_) (sX12_isHouse v1  (wr x 246 0 0) _ _ 0 0 (Nat.le_refl _) h))
  obtain ⟨r1, rfl, rfl, h⟩ := hr
  refine EW_if_eq (tgt := 23) (pc2 := 13) rfl dX12_use_10 (by decide) (fun q => ?_) (fun q => ?_)
  · replace h := h.1 q
    refine EW_iconst (pc2 := 24) (v := 0) rfl dX12_use_23 (by decide) ?_
    exact AW_zret rfl isB0 dX12_use_24 ⟨_, _, rfl, rfl, h⟩
  · replace h := h.2 q
    refine EW_iload_n (pc2 := 14) rfl dX12_use_13 2 rfl ?_
    refine EW_iconst (pc2 := 15) (v := 0) rfl dX12_use_14 (by decide) ?_
    refine EW_bipush (pc2 := 17) (v := 9) rfl dX12_use_15 (by decide) ?_
    refine AW_invS (M' := MX12_isIn) [.int v2, .int 0, .int 9] (rest := []) mlRX12_307 okX12_isIn (pc2 := 20) rfl dX12_use_17 rfl rfl (Nat.le_of_ble_eq_true rfl) (Nat.le_of_ble_eq_true rfl) (d' := 0) (by omega) (EW_mono (fun _ _ hr => ?_) (sX12_isIn v2 0 9  (wr x 246 0 0) _ _ 0 0 (Nat.le_refl _) h))
    obtain ⟨r2, rfl, rfl, h⟩ := hr
    refine EW_if_ne (tgt := 25) (pc2 := 23) rfl dX12_use_20 (by decide) (fun q => ?_) (fun q => ?_)
    · replace h := h.1 q
      refine EW_iconst (pc2 := 26) (v := 0) rfl dX12_use_25 (by decide) ?_
      refine EW_istore_n (pc2 := 27) rfl dX12_use_26 (by decide) [1, 2, 3, 0] [(0, .ref 246), (1, .int v1), (2, .int v2), (3, .int 0)] rfl ?_
      exact sX12_use_27 v1 v2 0 (wr x 246 0 0) K d bc bs hdp h
    · replace h := h.2 q
      refine EW_iconst (pc2 := 24) (v := 0) rfl dX12_use_23 (by decide) ?_
      exact AW_zret rfl isB0 dX12_use_24 ⟨_, _, rfl, rfl, h⟩
