abbrev MX12_street : ab_M := (yX12_street, cX12_street, 7, (some .int))
theorem dX12_street_0 : decode cX12_street 0 = .ok (.aload_n 0, 1) := by decide +kernel
theorem dX12_street_1 : decode cX12_street 1 = .ok (.iconst 0, 1) := by decide +kernel
theorem dX12_street_2 : decode cX12_street 2 = .ok (.putfield 297, 3) := by decide +kernel
theorem dX12_street_5 : decode cX12_street 5 = .ok (.aload_n 0, 1) := by decide +kernel
theorem dX12_street_6 : decode cX12_street 6 = .ok (.getfield 300, 3) := by decide +kernel
theorem dX12_street_9 : decode cX12_street 9 = .ok (.bipush 40, 2) := by decide +kernel
theorem dX12_street_11 : decode cX12_street 11 = .ok (.if_icmp .eq 32, 3) := by decide +kernel
theorem dX12_street_14 : decode cX12_street 14 = .ok (.iload_n 1, 1) := by decide +kernel
theorem dX12_street_15 : decode cX12_street 15 = .ok (.invokestatic 303, 3) := by decide +kernel
theorem dX12_street_18 : decode cX12_street 18 = .ok (.ifCond .eq 25, 3) := by decide +kernel
theorem dX12_street_21 : decode cX12_street 21 = .ok (.iload_n 2, 1) := by decide +kernel
theorem dX12_street_22 : decode cX12_street 22 = .ok (.invokestatic 303, 3) := by decide +kernel
theorem dX12_street_25 : decode cX12_street 25 = .ok (.ifCond .eq 18, 3) := by decide +kernel
theorem dX12_street_28 : decode cX12_street 28 = .ok (.iload_n 1, 1) := by decide +kernel
theorem dX12_street_29 : decode cX12_street 29 = .ok (.iload_n 2, 1) := by decide +kernel
theorem dX12_street_30 : decode cX12_street 30 = .ok (.if_icmp .eq 13, 3) := by decide +kernel
theorem dX12_street_33 : decode cX12_street 33 = .ok (.iload_n 3, 1) := by decide +kernel
theorem dX12_street_34 : decode cX12_street 34 = .ok (.iconst 1, 1) := by decide +kernel
theorem dX12_street_35 : decode cX12_street 35 = .ok (.bipush 20, 2) := by decide +kernel
theorem dX12_street_37 : decode cX12_street 37 = .ok (.invokestatic 307, 3) := by decide +kernel
theorem dX12_street_40 : decode cX12_street 40 = .ok (.ifCond .ne 5, 3) := by decide +kernel
theorem dX12_street_43 : decode cX12_street 43 = .ok (.iconst (-1), 1) := by decide +kernel
theorem dX12_street_44 : decode cX12_street 44 = .ok (.ireturn, 1) := by decide +kernel
theorem dX12_street_45 : decode cX12_street 45 = .ok (.aload_n 0, 1) := by decide +kernel
theorem dX12_street_46 : decode cX12_street 46 = .ok (.getfield 9, 3) := by decide +kernel
theorem dX12_street_49 : decode cX12_street 49 = .ok (.aload_n 0, 1) := by decide +kernel
theorem dX12_street_50 : decode cX12_street 50 = .ok (.getfield 300, 3) := by decide +kernel
theorem dX12_street_53 : decode cX12_street 53 = .ok (.iload_n 1, 1) := by decide +kernel
theorem dX12_street_54 : decode cX12_street 54 = .ok (.iastore, 1) := by decide +kernel
theorem dX12_street_55 : decode cX12_street 55 = .ok (.aload_n 0, 1) := by decide +kernel
theorem dX12_street_56 : decode cX12_street 56 = .ok (.getfield 13, 3) := by decide +kernel
theorem dX12_street_59 : decode cX12_street 59 = .ok (.aload_n 0, 1) := by decide +kernel
theorem dX12_street_60 : decode cX12_street 60 = .ok (.getfield 300, 3) := by decide +kernel
theorem dX12_street_63 : decode cX12_street 63 = .ok (.iload_n 2, 1) := by decide +kernel
theorem dX12_street_64 : decode cX12_street 64 = .ok (.iastore, 1) := by decide +kernel
theorem dX12_street_65 : decode cX12_street 65 = .ok (.aload_n 0, 1) := by decide +kernel
theorem dX12_street_66 : decode cX12_street 66 = .ok (.getfield 16, 3) := by decide +kernel
theorem dX12_street_69 : decode cX12_street 69 = .ok (.aload_n 0, 1) := by decide +kernel
theorem dX12_street_70 : decode cX12_street 70 = .ok (.getfield 300, 3) := by decide +kernel
theorem dX12_street_73 : decode cX12_street 73 = .ok (.iload_n 3, 1) := by decide +kernel
theorem dX12_street_74 : decode cX12_street 74 = .ok (.iastore, 1) := by decide +kernel
theorem dX12_street_75 : decode cX12_street 75 = .ok (.iconst 0, 1) := by decide +kernel
theorem dX12_street_76 : decode cX12_street 76 = .ok (.istore 4, 2) := by decide +kernel
theorem dX12_street_78 : decode cX12_street 78 = .ok (.iload 4, 2) := by decide +kernel
theorem dX12_street_80 : decode cX12_street 80 = .ok (.iconst 4, 1) := by decide +kernel
theorem dX12_street_81 : decode cX12_street 81 = .ok (.if_icmp .ge 25, 3) := by decide +kernel
theorem dX12_street_84 : decode cX12_street 84 = .ok (.aload_n 0, 1) := by decide +kernel
theorem dX12_street_85 : decode cX12_street 85 = .ok (.getfield 19, 3) := by decide +kernel
theorem dX12_street_88 : decode cX12_street 88 = .ok (.iconst 4, 1) := by decide +kernel
theorem dX12_street_89 : decode cX12_street 89 = .ok (.aload_n 0, 1) := by decide +kernel
theorem dX12_street_90 : decode cX12_street 90 = .ok (.getfield 300, 3) := by decide +kernel
theorem dX12_street_93 : decode cX12_street 93 = .ok (.imul, 1) := by decide +kernel
theorem dX12_street_94 : decode cX12_street 94 = .ok (.iload 4, 2) := by decide +kernel
theorem dX12_street_96 : decode cX12_street 96 = .ok (.iadd, 1) := by decide +kernel
theorem dX12_street_97 : decode cX12_street 97 = .ok (.bipush 100, 2) := by decide +kernel
theorem dX12_street_99 : decode cX12_street 99 = .ok (.iastore, 1) := by decide +kernel
theorem dX12_street_100 : decode cX12_street 100 = .ok (.iinc 4 1, 3) := by decide +kernel
theorem dX12_street_103 : decode cX12_street 103 = .ok (.goto (-25), 3) := by decide +kernel
theorem dX12_street_106 : decode cX12_street 106 = .ok (.aload_n 0, 1) := by decide +kernel
theorem dX12_street_107 : decode cX12_street 107 = .ok (.dup, 1) := by decide +kernel
theorem dX12_street_108 : decode cX12_street 108 = .ok (.getfield 300, 3) := by decide +kernel
theorem dX12_street_111 : decode cX12_street 111 = .ok (.iconst 1, 1) := by decide +kernel
theorem dX12_street_112 : decode cX12_street 112 = .ok (.iadd, 1) := by decide +kernel
theorem dX12_street_113 : decode cX12_street 113 = .ok (.putfield 300, 3) := by decide +kernel
theorem dX12_street_116 : decode cX12_street 116 = .ok (.aload_n 0, 1) := by decide +kernel
theorem dX12_street_117 : decode cX12_street 117 = .ok (.getfield 22, 3) := by decide +kernel
theorem dX12_street_120 : decode cX12_street 120 = .ok (.bipush 20, 2) := by decide +kernel
theorem dX12_street_122 : decode cX12_street 122 = .ok (.iload_n 1, 1) := by decide +kernel
theorem dX12_street_123 : decode cX12_street 123 = .ok (.imul, 1) := by decide +kernel
theorem dX12_street_124 : decode cX12_street 124 = .ok (.iload_n 2, 1) := by decide +kernel
theorem dX12_street_125 : decode cX12_street 125 = .ok (.iadd, 1) := by decide +kernel
theorem dX12_street_126 : decode cX12_street 126 = .ok (.aload_n 0, 1) := by decide +kernel
theorem dX12_street_127 : decode cX12_street 127 = .ok (.getfield 22, 3) := by decide +kernel
theorem dX12_street_130 : decode cX12_street 130 = .ok (.bipush 20, 2) := by decide +kernel
theorem dX12_street_132 : decode cX12_street 132 = .ok (.iload_n 1, 1) := by decide +kernel
theorem dX12_street_133 : decode cX12_street 133 = .ok (.imul, 1) := by decide +kernel
theorem dX12_street_134 : decode cX12_street 134 = .ok (.iload_n 2, 1) := by decide +kernel
theorem dX12_street_135 : decode cX12_street 135 = .ok (.iadd, 1) := by decide +kernel
theorem dX12_street_136 : decode cX12_street 136 = .ok (.iaload, 1) := by decide +kernel
theorem dX12_street_137 : decode cX12_street 137 = .ok (.iload_n 3, 1) := by decide +kernel
theorem dX12_street_138 : decode cX12_street 138 = .ok (.invokestatic 311, 3) := by decide +kernel
theorem dX12_street_141 : decode cX12_street 141 = .ok (.iastore, 1) := by decide +kernel
theorem dX12_street_142 : decode cX12_street 142 = .ok (.aload_n 0, 1) := by decide +kernel
theorem dX12_street_143 : decode cX12_street 143 = .ok (.getfield 22, 3) := by decide +kernel
theorem dX12_street_146 : decode cX12_street 146 = .ok (.bipush 20, 2) := by decide +kernel
theorem dX12_street_148 : decode cX12_street 148 = .ok (.iload_n 2, 1) := by decide +kernel
theorem dX12_street_149 : decode cX12_street 149 = .ok (.imul, 1) := by decide +kernel
theorem dX12_street_150 : decode cX12_street 150 = .ok (.iload_n 1, 1) := by decide +kernel
theorem dX12_street_151 : decode cX12_street 151 = .ok (.iadd, 1) := by decide +kernel
theorem dX12_street_152 : decode cX12_street 152 = .ok (.aload_n 0, 1) := by decide +kernel
theorem dX12_street_153 : decode cX12_street 153 = .ok (.getfield 22, 3) := by decide +kernel
theorem dX12_street_156 : decode cX12_street 156 = .ok (.bipush 20, 2) := by decide +kernel
theorem dX12_street_158 : decode cX12_street 158 = .ok (.iload_n 1, 1) := by decide +kernel
theorem dX12_street_159 : decode cX12_street 159 = .ok (.imul, 1) := by decide +kernel
theorem dX12_street_160 : decode cX12_street 160 = .ok (.iload_n 2, 1) := by decide +kernel
theorem dX12_street_161 : decode cX12_street 161 = .ok (.iadd, 1) := by decide +kernel
theorem dX12_street_162 : decode cX12_street 162 = .ok (.iaload, 1) := by decide +kernel
theorem dX12_street_163 : decode cX12_street 163 = .ok (.iastore, 1) := by decide +kernel
theorem dX12_street_164 : decode cX12_street 164 = .ok (.iconst 0, 1) := by decide +kernel
theorem dX12_street_165 : decode cX12_street 165 = .ok (.istore 4, 2) := by decide +kernel
theorem dX12_street_167 : decode cX12_street 167 = .ok (.iload 4, 2) := by decide +kernel
theorem dX12_street_169 : decode cX12_street 169 = .ok (.bipush 20, 2) := by decide +kernel
theorem dX12_street_171 : decode cX12_street 171 = .ok (.if_icmp .ge 97, 3) := by decide +kernel
theorem dX12_street_174 : decode cX12_street 174 = .ok (.iconst 0, 1) := by decide +kernel
theorem dX12_street_175 : decode cX12_street 175 = .ok (.istore 5, 2) := by decide +kernel
theorem dX12_street_177 : decode cX12_street 177 = .ok (.iload 5, 2) := by decide +kernel
theorem dX12_street_179 : decode cX12_street 179 = .ok (.bipush 20, 2) := by decide +kernel
theorem dX12_street_181 : decode cX12_street 181 = .ok (.if_icmp .ge 81, 3) := by decide +kernel
theorem dX12_street_184 : decode cX12_street 184 = .ok (.iconst 0, 1) := by decide +kernel
theorem dX12_street_185 : decode cX12_street 185 = .ok (.istore 6, 2) := by decide +kernel
theorem dX12_street_187 : decode cX12_street 187 = .ok (.iload 6, 2) := by decide +kernel
theorem dX12_street_189 : decode cX12_street 189 = .ok (.bipush 20, 2) := by decide +kernel
theorem dX12_street_191 : decode cX12_street 191 = .ok (.if_icmp .ge 65, 3) := by decide +kernel
theorem dX12_street_194 : decode cX12_street 194 = .ok (.aload_n 0, 1) := by decide +kernel
theorem dX12_street_195 : decode cX12_street 195 = .ok (.getfield 22, 3) := by decide +kernel
theorem dX12_street_198 : decode cX12_street 198 = .ok (.bipush 20, 2) := by decide +kernel
theorem dX12_street_200 : decode cX12_street 200 = .ok (.iload 5, 2) := by decide +kernel
theorem dX12_street_202 : decode cX12_street 202 = .ok (.imul, 1) := by decide +kernel
theorem dX12_street_203 : decode cX12_street 203 = .ok (.iload 6, 2) := by decide +kernel
theorem dX12_street_205 : decode cX12_street 205 = .ok (.iadd, 1) := by decide +kernel
theorem dX12_street_206 : decode cX12_street 206 = .ok (.aload_n 0, 1) := by decide +kernel
theorem dX12_street_207 : decode cX12_street 207 = .ok (.getfield 22, 3) := by decide +kernel
theorem dX12_street_210 : decode cX12_street 210 = .ok (.bipush 20, 2) := by decide +kernel
theorem dX12_street_212 : decode cX12_street 212 = .ok (.iload 5, 2) := by decide +kernel
theorem dX12_street_214 : decode cX12_street 214 = .ok (.imul, 1) := by decide +kernel
theorem dX12_street_215 : decode cX12_street 215 = .ok (.iload 6, 2) := by decide +kernel
theorem dX12_street_217 : decode cX12_street 217 = .ok (.iadd, 1) := by decide +kernel
theorem dX12_street_218 : decode cX12_street 218 = .ok (.iaload, 1) := by decide +kernel
theorem dX12_street_219 : decode cX12_street 219 = .ok (.aload_n 0, 1) := by decide +kernel
theorem dX12_street_220 : decode cX12_street 220 = .ok (.getfield 22, 3) := by decide +kernel
theorem dX12_street_223 : decode cX12_street 223 = .ok (.bipush 20, 2) := by decide +kernel
theorem dX12_street_225 : decode cX12_street 225 = .ok (.iload 5, 2) := by decide +kernel
theorem dX12_street_227 : decode cX12_street 227 = .ok (.imul, 1) := by decide +kernel
theorem dX12_street_228 : decode cX12_street 228 = .ok (.iload 4, 2) := by decide +kernel
theorem dX12_street_230 : decode cX12_street 230 = .ok (.iadd, 1) := by decide +kernel
theorem dX12_street_231 : decode cX12_street 231 = .ok (.iaload, 1) := by decide +kernel
theorem dX12_street_232 : decode cX12_street 232 = .ok (.aload_n 0, 1) := by decide +kernel
theorem dX12_street_233 : decode cX12_street 233 = .ok (.getfield 22, 3) := by decide +kernel
theorem dX12_street_236 : decode cX12_street 236 = .ok (.bipush 20, 2) := by decide +kernel
theorem dX12_street_238 : decode cX12_street 238 = .ok (.iload 4, 2) := by decide +kernel
theorem dX12_street_240 : decode cX12_street 240 = .ok (.imul, 1) := by decide +kernel
theorem dX12_street_241 : decode cX12_street 241 = .ok (.iload 6, 2) := by decide +kernel
theorem dX12_street_243 : decode cX12_street 243 = .ok (.iadd, 1) := by decide +kernel
theorem dX12_street_244 : decode cX12_street 244 = .ok (.iaload, 1) := by decide +kernel
theorem dX12_street_245 : decode cX12_street 245 = .ok (.iadd, 1) := by decide +kernel
theorem dX12_street_246 : decode cX12_street 246 = .ok (.invokestatic 311, 3) := by decide +kernel
theorem dX12_street_249 : decode cX12_street 249 = .ok (.iastore, 1) := by decide +kernel
theorem dX12_street_250 : decode cX12_street 250 = .ok (.iinc 6 1, 3) := by decide +kernel
theorem dX12_street_253 : decode cX12_street 253 = .ok (.goto (-66), 3) := by decide +kernel
theorem dX12_street_256 : decode cX12_street 256 = .ok (.iinc 5 1, 3) := by decide +kernel
theorem dX12_street_259 : decode cX12_street 259 = .ok (.goto (-82), 3) := by decide +kernel
theorem dX12_street_262 : decode cX12_street 262 = .ok (.iinc 4 1, 3) := by decide +kernel
theorem dX12_street_265 : decode cX12_street 265 = .ok (.goto (-98), 3) := by decide +kernel
theorem dX12_street_268 : decode cX12_street 268 = .ok (.aload_n 0, 1) := by decide +kernel
theorem dX12_street_269 : decode cX12_street 269 = .ok (.getfield 300, 3) := by decide +kernel
theorem dX12_street_272 : decode cX12_street 272 = .ok (.iconst 1, 1) := by decide +kernel
theorem dX12_street_273 : decode cX12_street 273 = .ok (.isub, 1) := by decide +kernel
theorem dX12_street_274 : decode cX12_street 274 = .ok (.ireturn, 1) := by decide +kernel
theorem okX12_street : ab_okM MX12_street 3 := ⟨by decide, ⟨by decide, by decide⟩, ab_in 2221 (by decide +kernel) (by decide +kernel), ab_in 99 (by decide +kernel) (by decide +kernel), by decide +kernel, by decide⟩
set_option maxHeartbeats 4000000 in
set_option maxRecDepth 100000 in
theorem sX12_street_187 (v4 : Int32) (v5 : Int32) (v6 : Int32)  (x : ab_X) (K : Int32 → ab_X → Prop) (L167 : Int32 → ab_X → Prop) (L177 : Int32 → ab_X → Prop) (d bc bs : Nat) (hdp : 1 ≤ d) (hL167 : ∀ (v4 : Int32) (x : ab_X), L167 v4 x → EW MX12_street 167 [(0, .ref 246), (4, .int v4)] [] (aS x) d bc bs (liI K)) (hL177 : ∀ (v5 : Int32) (x : ab_X), L177 v5 x → EW MX12_street 177 [(0, .ref 246), (4, .int v4), (5, .int v5)] [] (aS x) d bc bs (liI K)) (h : Lp2 (lX12_street_187 v4 v5 K L167 L177) v6 x) : EW MX12_street 187 [(0, .ref 246), (4, .int v4), (5, .int v5), (6, .int v6)] [] (aS x) d bc bs (liI K) := by
  refine Lp2.use (P := fun v6 x => EW MX12_street 187 [(0, .ref 246), (4, .int v4), (5, .int v5), (6, .int v6)] [] (aS x) d bc bs (liI K)) (fun L187 v6 x hL187 h => ?_) v6 x h
  unfold lX12_street_187 at h
  refine EW_iload (pc2 := 189) rfl dX12_street_187 3 rfl ?_
  refine EW_bipush (pc2 := 191) (v := 20) rfl dX12_street_189 (by decide) ?_
  refine EW_icmp_ge (tgt := 256) (pc2 := 194) rfl dX12_street_191 (by decide) (fun q => ?_) (fun q => ?_)
  · replace h := h.1 q
    refine EW_iinc (v5 + 1) (pc2 := 259) rfl dX12_street_256 2 rfl rfl (by decide) [1, 2, 0, 3] [(0, .ref 246), (4, .int v4), (5, .int (v5 + 1)), (6, .int v6)] rfl ?_
    refine EW_goto (tgt := 177) dX12_street_259 (by decide) ?_
    refine EW_ls [0, 1, 2] rfl ?_
    exact hL177 (v5 + 1) x h
  · replace h := h.2 q
    refine EW_aload_n (pc2 := 195) rfl dX12_street_194 0 rfl ?_
    refine AW_getr (r := 251) ⟨gfRX12_22, rfl⟩ (pc2 := 198) rfl dX12_street_195 q246 rfl ?_
    refine EW_bipush (pc2 := 200) (v := 20) rfl dX12_street_198 (by decide) ?_
    refine EW_iload (pc2 := 202) rfl dX12_street_200 2 rfl ?_
    refine EW_imul (pc2 := 203) rfl dX12_street_202 ?_
    refine EW_iload (pc2 := 205) rfl dX12_street_203 3 rfl ?_
    refine EW_iadd (pc2 := 206) rfl dX12_street_205 ?_
    refine EW_aload_n (pc2 := 207) rfl dX12_street_206 0 rfl ?_
    refine AW_getr (r := 251) ⟨gfRX12_22, rfl⟩ (pc2 := 210) rfl dX12_street_207 q246 rfl ?_
    refine EW_bipush (pc2 := 212) (v := 20) rfl dX12_street_210 (by decide) ?_
    refine EW_iload (pc2 := 214) rfl dX12_street_212 2 rfl ?_
    refine EW_imul (pc2 := 215) rfl dX12_street_214 ?_
    refine EW_iload (pc2 := 217) rfl dX12_street_215 3 rfl ?_
    refine EW_iadd (pc2 := 218) rfl dX12_street_217 ?_
    obtain ⟨b12, h⟩ := h
    refine AW_iald (pc2 := 219) rfl dX12_street_218 q251 b12 ?_
    refine EW_aload_n (pc2 := 220) rfl dX12_street_219 0 rfl ?_
    refine AW_getr (r := 251) ⟨gfRX12_22, rfl⟩ (pc2 := 223) rfl dX12_street_220 q246 rfl ?_
    refine EW_bipush (pc2 := 225) (v := 20) rfl dX12_street_223 (by decide) ?_
    refine EW_iload (pc2 := 227) rfl dX12_street_225 2 rfl ?_
    refine EW_imul (pc2 := 228) rfl dX12_street_227 ?_
    refine EW_iload (pc2 := 230) rfl dX12_street_228 1 rfl ?_
    refine EW_iadd (pc2 := 231) rfl dX12_street_230 ?_
    obtain ⟨b13, h⟩ := h
    refine AW_iald (pc2 := 232) rfl dX12_street_231 q251 b13 ?_
    refine EW_aload_n (pc2 := 233) rfl dX12_street_232 0 rfl ?_
    refine AW_getr (r := 251) ⟨gfRX12_22, rfl⟩ (pc2 := 236) rfl dX12_street_233 q246 rfl ?_
    refine EW_bipush (pc2 := 238) (v := 20) rfl dX12_street_236 (by decide) ?_
    refine EW_iload (pc2 := 240) rfl dX12_street_238 1 rfl ?_
    refine EW_imul (pc2 := 241) rfl dX12_street_240 ?_
    refine EW_iload (pc2 := 243) rfl dX12_street_241 3 rfl ?_
    refine EW_iadd (pc2 := 244) rfl dX12_street_243 ?_
    obtain ⟨b14, h⟩ := h
    refine AW_iald (pc2 := 245) rfl dX12_street_244 q251 b14 ?_
    refine EW_iadd (pc2 := 246) rfl dX12_street_245 ?_
    refine AW_mmin mmRX12_311 (pc2 := 249) rfl dX12_street_246 (Nat.le_of_ble_eq_true rfl) (by omega) ?_
    obtain ⟨b15, h⟩ := h
    refine AW_iast (pc2 := 250) rfl dX12_street_249 q251 b15 ?_
    refine EW_iinc (v6 + 1) (pc2 := 253) rfl dX12_street_250 3 rfl rfl (by decide) [1, 2, 3, 0] [(0, .ref 246), (4, .int v4), (5, .int v5), (6, .int (v6 + 1))] rfl ?_
    refine EW_goto (tgt := 187) dX12_street_253 (by decide) ?_
    exact hL187 (v6 + 1) (wr x 251 (Int32.toNatClampNeg ((20 * v5) + v6)) (imin (x.1 251 (Int32.toNatClampNeg ((20 * v5) + v6))) ((x.1 251 (Int32.toNatClampNeg ((20 * v5) + v4))) + (x.1 251 (Int32.toNatClampNeg ((20 * v4) + v6)))))) h
set_option maxHeartbeats 4000000 in
set_option maxRecDepth 100000 in
theorem sX12_street_177 (v4 : Int32) (v5 : Int32)  (x : ab_X) (K : Int32 → ab_X → Prop) (L167 : Int32 → ab_X → Prop) (d bc bs : Nat) (hdp : 1 ≤ d) (hL167 : ∀ (v4 : Int32) (x : ab_X), L167 v4 x → EW MX12_street 167 [(0, .ref 246), (4, .int v4)] [] (aS x) d bc bs (liI K)) (h : Lp2 (lX12_street_177 v4 K L167) v5 x) : EW MX12_street 177 [(0, .ref 246), (4, .int v4), (5, .int v5)] [] (aS x) d bc bs (liI K) := by
  refine Lp2.use (P := fun v5 x => EW MX12_street 177 [(0, .ref 246), (4, .int v4), (5, .int v5)] [] (aS x) d bc bs (liI K)) (fun L177 v5 x hL177 h => ?_) v5 x h
  unfold lX12_street_177 at h
  refine EW_iload (pc2 := 179) rfl dX12_street_177 2 rfl ?_
  refine EW_bipush (pc2 := 181) (v := 20) rfl dX12_street_179 (by decide) ?_
  refine EW_icmp_ge (tgt := 262) (pc2 := 184) rfl dX12_street_181 (by decide) (fun q => ?_) (fun q => ?_)
  · replace h := h.1 q
    refine EW_iinc (v4 + 1) (pc2 := 265) rfl dX12_street_262 1 rfl rfl (by decide) [1, 0, 2] [(0, .ref 246), (4, .int (v4 + 1)), (5, .int v5)] rfl ?_
    refine EW_goto (tgt := 167) dX12_street_265 (by decide) ?_
    refine EW_ls [0, 1] rfl ?_
    exact hL167 (v4 + 1) x h
  · replace h := h.2 q
    refine EW_iconst (pc2 := 185) (v := 0) rfl dX12_street_184 (by decide) ?_
    refine EW_istore (pc2 := 187) rfl dX12_street_185 (by decide) [1, 2, 3, 0] [(0, .ref 246), (4, .int v4), (5, .int v5), (6, .int 0)] rfl ?_
    exact sX12_street_187 v4 v5 0 x K L167 L177 d bc bs hdp hL167 hL177 h
set_option maxHeartbeats 4000000 in
set_option maxRecDepth 100000 in
theorem sX12_street_167 (v4 : Int32)  (x : ab_X) (K : Int32 → ab_X → Prop)  (d bc bs : Nat) (hdp : 1 ≤ d)  (h : Lp2 (lX12_street_167  K ) v4 x) : EW MX12_street 167 [(0, .ref 246), (4, .int v4)] [] (aS x) d bc bs (liI K) := by
  refine Lp2.use (P := fun v4 x => EW MX12_street 167 [(0, .ref 246), (4, .int v4)] [] (aS x) d bc bs (liI K)) (fun L167 v4 x hL167 h => ?_) v4 x h
  unfold lX12_street_167 at h
  refine EW_iload (pc2 := 169) rfl dX12_street_167 1 rfl ?_
  refine EW_bipush (pc2 := 171) (v := 20) rfl dX12_street_169 (by decide) ?_
  refine EW_icmp_ge (tgt := 268) (pc2 := 174) rfl dX12_street_171 (by decide) (fun q => ?_) (fun q => ?_)
  · replace h := h.1 q
    refine EW_aload_n (pc2 := 269) rfl dX12_street_268 0 rfl ?_
    refine AW_geti ⟨gfRX12_300, rfl⟩ (pc2 := 272) rfl dX12_street_269 q246 ?_
    refine EW_iconst (pc2 := 273) (v := 1) rfl dX12_street_272 (by decide) ?_
    refine EW_isub (pc2 := 274) rfl dX12_street_273 ?_
    exact AW_iret rfl dX12_street_274 ⟨_, _, rfl, rfl, h⟩
  · replace h := h.2 q
    refine EW_iconst (pc2 := 175) (v := 0) rfl dX12_street_174 (by decide) ?_
    refine EW_istore (pc2 := 177) rfl dX12_street_175 (by decide) [1, 2, 0] [(0, .ref 246), (4, .int v4), (5, .int 0)] rfl ?_
    exact sX12_street_177 v4 0 x K L167 d bc bs hdp hL167 h
set_option maxHeartbeats 4000000 in
set_option maxRecDepth 100000 in
theorem sX12_street_78 (v1 : Int32) (v2 : Int32) (v3 : Int32) (v4 : Int32)  (x : ab_X) (K : Int32 → ab_X → Prop)  (d bc bs : Nat) (hdp : 1 ≤ d)  (h : Lp2 (lX12_street_78 v1 v2 v3 K ) v4 x) : EW MX12_street 78 [(0, .ref 246), (1, .int v1), (2, .int v2), (3, .int v3), (4, .int v4)] [] (aS x) d bc bs (liI K) := by
  refine Lp2.use (P := fun v4 x => EW MX12_street 78 [(0, .ref 246), (1, .int v1), (2, .int v2), (3, .int v3), (4, .int v4)] [] (aS x) d bc bs (liI K)) (fun L78 v4 x hL78 h => ?_) v4 x h
  unfold lX12_street_78 at h
  refine EW_iload (pc2 := 80) rfl dX12_street_78 4 rfl ?_
  refine EW_iconst (pc2 := 81) (v := 4) rfl dX12_street_80 (by decide) ?_
  refine EW_icmp_ge (tgt := 106) (pc2 := 84) rfl dX12_street_81 (by decide) (fun q => ?_) (fun q => ?_)
  · replace h := h.1 q
    refine EW_aload_n (pc2 := 107) rfl dX12_street_106 0 rfl ?_
    refine EW_dup (pc2 := 108) rfl dX12_street_107 rfl ?_
    refine AW_geti ⟨gfRX12_300, rfl⟩ (pc2 := 111) rfl dX12_street_108 q246 ?_
    refine EW_iconst (pc2 := 112) (v := 1) rfl dX12_street_111 (by decide) ?_
    refine EW_iadd (pc2 := 113) rfl dX12_street_112 ?_
    refine AW_puti ⟨gfRX12_300, rfl, rfl⟩ (pc2 := 116) rfl dX12_street_113 q246 ?_
    refine EW_aload_n (pc2 := 117) rfl dX12_street_116 0 rfl ?_
    refine AW_getr (r := 251) ⟨gfRX12_22, rfl⟩ (pc2 := 120) rfl dX12_street_117 q246 rfl ?_
    refine EW_bipush (pc2 := 122) (v := 20) rfl dX12_street_120 (by decide) ?_
    refine EW_iload_n (pc2 := 123) rfl dX12_street_122 1 rfl ?_
    refine EW_imul (pc2 := 124) rfl dX12_street_123 ?_
    refine EW_iload_n (pc2 := 125) rfl dX12_street_124 2 rfl ?_
    refine EW_iadd (pc2 := 126) rfl dX12_street_125 ?_
    refine EW_aload_n (pc2 := 127) rfl dX12_street_126 0 rfl ?_
    refine AW_getr (r := 251) ⟨gfRX12_22, rfl⟩ (pc2 := 130) rfl dX12_street_127 q246 rfl ?_
    refine EW_bipush (pc2 := 132) (v := 20) rfl dX12_street_130 (by decide) ?_
    refine EW_iload_n (pc2 := 133) rfl dX12_street_132 1 rfl ?_
    refine EW_imul (pc2 := 134) rfl dX12_street_133 ?_
    refine EW_iload_n (pc2 := 135) rfl dX12_street_134 2 rfl ?_
    refine EW_iadd (pc2 := 136) rfl dX12_street_135 ?_
    obtain ⟨b7, h⟩ := h
    refine AW_iald (pc2 := 137) rfl dX12_street_136 q251 b7 ?_
    refine EW_iload_n (pc2 := 138) rfl dX12_street_137 3 rfl ?_
    refine AW_mmin mmRX12_311 (pc2 := 141) rfl dX12_street_138 (Nat.le_of_ble_eq_true rfl) (by omega) ?_
    obtain ⟨b8, h⟩ := h
    refine AW_iast (pc2 := 142) rfl dX12_street_141 q251 b8 ?_
    refine EW_aload_n (pc2 := 143) rfl dX12_street_142 0 rfl ?_
    refine AW_getr (r := 251) ⟨gfRX12_22, rfl⟩ (pc2 := 146) rfl dX12_street_143 q246 rfl ?_
    refine EW_bipush (pc2 := 148) (v := 20) rfl dX12_street_146 (by decide) ?_
    refine EW_iload_n (pc2 := 149) rfl dX12_street_148 2 rfl ?_
    refine EW_imul (pc2 := 150) rfl dX12_street_149 ?_
    refine EW_iload_n (pc2 := 151) rfl dX12_street_150 1 rfl ?_
    refine EW_iadd (pc2 := 152) rfl dX12_street_151 ?_
    refine EW_aload_n (pc2 := 153) rfl dX12_street_152 0 rfl ?_
    refine AW_getr (r := 251) ⟨gfRX12_22, rfl⟩ (pc2 := 156) rfl dX12_street_153 q246 rfl ?_
    refine EW_bipush (pc2 := 158) (v := 20) rfl dX12_street_156 (by decide) ?_
    refine EW_iload_n (pc2 := 159) rfl dX12_street_158 1 rfl ?_
    refine EW_imul (pc2 := 160) rfl dX12_street_159 ?_
    refine EW_iload_n (pc2 := 161) rfl dX12_street_160 2 rfl ?_
    refine EW_iadd (pc2 := 162) rfl dX12_street_161 ?_
    obtain ⟨b9, h⟩ := h
    refine AW_iald (pc2 := 163) rfl dX12_street_162 q251 b9 ?_
    obtain ⟨b10, h⟩ := h
    refine AW_iast (pc2 := 164) rfl dX12_street_163 q251 b10 ?_
    refine EW_iconst (pc2 := 165) (v := 0) rfl dX12_street_164 (by decide) ?_
    refine EW_istore (pc2 := 167) rfl dX12_street_165 (by decide) [1, 2, 3, 4, 0] [(0, .ref 246), (1, .int v1), (2, .int v2), (3, .int v3), (4, .int 0)] rfl ?_
    refine EW_ls [0, 4] rfl ?_
    exact sX12_street_167 0 (wr (wr (wr x 246 9 ((x.1 246 9) + 1)) 251 (Int32.toNatClampNeg ((20 * v1) + v2)) (imin ((wr x 246 9 ((x.1 246 9) + 1)).1 251 (Int32.toNatClampNeg ((20 * v1) + v2))) v3)) 251 (Int32.toNatClampNeg ((20 * v2) + v1)) ((wr (wr x 246 9 ((x.1 246 9) + 1)) 251 (Int32.toNatClampNeg ((20 * v1) + v2)) (imin ((wr x 246 9 ((x.1 246 9) + 1)).1 251 (Int32.toNatClampNeg ((20 * v1) + v2))) v3)).1 251 (Int32.toNatClampNeg ((20 * v1) + v2)))) K d bc bs hdp h
  · replace h := h.2 q
    refine EW_aload_n (pc2 := 85) rfl dX12_street_84 0 rfl ?_
    refine AW_getr (r := 250) ⟨gfRX12_19, rfl⟩ (pc2 := 88) rfl dX12_street_85 q246 rfl ?_
    refine EW_iconst (pc2 := 89) (v := 4) rfl dX12_street_88 (by decide) ?_
    refine EW_aload_n (pc2 := 90) rfl dX12_street_89 0 rfl ?_
    refine AW_geti ⟨gfRX12_300, rfl⟩ (pc2 := 93) rfl dX12_street_90 q246 ?_
    refine EW_imul (pc2 := 94) rfl dX12_street_93 ?_
    refine EW_iload (pc2 := 96) rfl dX12_street_94 4 rfl ?_
    refine EW_iadd (pc2 := 97) rfl dX12_street_96 ?_
    refine EW_bipush (pc2 := 99) (v := 100) rfl dX12_street_97 (by decide) ?_
    obtain ⟨b11, h⟩ := h
    refine AW_iast (pc2 := 100) rfl dX12_street_99 q250 b11 ?_
    refine EW_iinc (v4 + 1) (pc2 := 103) rfl dX12_street_100 4 rfl rfl (by decide) [1, 2, 3, 4, 0] [(0, .ref 246), (1, .int v1), (2, .int v2), (3, .int v3), (4, .int (v4 + 1))] rfl ?_
    refine EW_goto (tgt := 78) dX12_street_103 (by decide) ?_
    exact hL78 (v4 + 1) (wr x 250 (Int32.toNatClampNeg ((4 * (x.1 246 9)) + v4)) 100) h
set_option maxHeartbeats 4000000 in
set_option maxRecDepth 100000 in
theorem sX12_street (v1 : Int32) (v2 : Int32) (v3 : Int32)  (x : ab_X) (K : Int32 → ab_X → Prop) (d bc bs : Nat) (hdp : 1 ≤ d) (h : wX12_street v1 v2 v3 x K) : EW MX12_street 0 [(0, .ref 246), (1, .int v1), (2, .int v2), (3, .int v3)] [] (aS x) d bc bs (liI K) := by
  unfold wX12_street at h
  refine EW_aload_n (pc2 := 1) rfl dX12_street_0 0 rfl ?_
  refine EW_iconst (pc2 := 2) (v := 0) rfl dX12_street_1 (by decide) ?_
  refine AW_puti ⟨gfRX12_297, rfl, rfl⟩ (pc2 := 5) rfl dX12_street_2 q246 ?_
  refine EW_aload_n (pc2 := 6) rfl dX12_street_5 0 rfl ?_
  refine AW_geti ⟨gfRX12_300, rfl⟩ (pc2 := 9) rfl dX12_street_6 q246 ?_
  refine EW_bipush (pc2 := 11) (v := 40) rfl dX12_street_9 (by decide) ?_
  refine EW_icmp_eq (tgt := 43) (pc2 := 14) rfl dX12_street_11 (by decide) (fun q => ?_) (fun q => ?_)
  · replace h := h.1 q
    refine EW_iconst (pc2 := 44) (v := (-1)) rfl dX12_street_43 (by decide) ?_
    exact AW_iret rfl dX12_street_44 ⟨_, _, rfl, rfl, h⟩
  · replace h := h.2 q
    refine EW_iload_n (pc2 := 15) rfl dX12_street_14 1 rfl ?_
    refine AW_invS (M' := MX12_isCorner) [.int v1] (rest := []) mlRX12_303 okX12_isCorner (pc2 := 18) rfl dX12_street_15 rfl rfl (Nat.le_of_ble_eq_true rfl) (Nat.le_of_ble_eq_true rfl) (d' := 0) (by omega) (EW_mono (fun _ _ hr => ?_) (sX12_isCorner v1  (wr x 246 0 0) _ _ 0 0 (Nat.le_refl _) h))
    obtain ⟨r1, rfl, rfl, h⟩ := hr
    refine EW_if_eq (tgt := 43) (pc2 := 21) rfl dX12_street_18 (by decide) (fun q => ?_) (fun q => ?_)
    · replace h := h.1 q
      refine EW_iconst (pc2 := 44) (v := (-1)) rfl dX12_street_43 (by decide) ?_
      exact AW_iret rfl dX12_street_44 ⟨_, _, rfl, rfl, h⟩
    · replace h := h.2 q
      refine EW_iload_n (pc2 := 22) rfl dX12_street_21 2 rfl ?_
      refine AW_invS (M' := MX12_isCorner) [.int v2] (rest := []) mlRX12_303 okX12_isCorner (pc2 := 25) rfl dX12_street_22 rfl rfl (Nat.le_of_ble_eq_true rfl) (Nat.le_of_ble_eq_true rfl) (d' := 0) (by omega) (EW_mono (fun _ _ hr => ?_) (sX12_isCorner v2  (wr x 246 0 0) _ _ 0 0 (Nat.le_refl _) h))
      obtain ⟨r2, rfl, rfl, h⟩ := hr
      refine EW_if_eq (tgt := 43) (pc2 := 28) rfl dX12_street_25 (by decide) (fun q => ?_) (fun q => ?_)
      · replace h := h.1 q
        refine EW_iconst (pc2 := 44) (v := (-1)) rfl dX12_street_43 (by decide) ?_
        exact AW_iret rfl dX12_street_44 ⟨_, _, rfl, rfl, h⟩
      · replace h := h.2 q
        refine EW_iload_n (pc2 := 29) rfl dX12_street_28 1 rfl ?_
        refine EW_iload_n (pc2 := 30) rfl dX12_street_29 2 rfl ?_
        refine EW_icmp_eq (tgt := 43) (pc2 := 33) rfl dX12_street_30 (by decide) (fun q => ?_) (fun q => ?_)
        · replace h := h.1 q
          refine EW_iconst (pc2 := 44) (v := (-1)) rfl dX12_street_43 (by decide) ?_
          exact AW_iret rfl dX12_street_44 ⟨_, _, rfl, rfl, h⟩
        · replace h := h.2 q
          refine EW_iload_n (pc2 := 34) rfl dX12_street_33 3 rfl ?_
          refine EW_iconst (pc2 := 35) (v := 1) rfl dX12_street_34 (by decide) ?_
          refine EW_bipush (pc2 := 37) (v := 20) rfl dX12_street_35 (by decide) ?_
          refine AW_invS (M' := MX12_isIn) [.int v3, .int 1, .int 20] (rest := []) mlRX12_307 okX12_isIn (pc2 := 40) rfl dX12_street_37 rfl rfl (Nat.le_of_ble_eq_true rfl) (Nat.le_of_ble_eq_true rfl) (d' := 0) (by omega) (EW_mono (fun _ _ hr => ?_) (sX12_isIn v3 1 20  (wr x 246 0 0) _ _ 0 0 (Nat.le_refl _) h))
          obtain ⟨r3, rfl, rfl, h⟩ := hr
          refine EW_if_ne (tgt := 45) (pc2 := 43) rfl dX12_street_40 (by decide) (fun q => ?_) (fun q => ?_)
          · replace h := h.1 q
            refine EW_aload_n (pc2 := 46) rfl dX12_street_45 0 rfl ?_
            refine AW_getr (r := 247) ⟨gfRX12_9, rfl⟩ (pc2 := 49) rfl dX12_street_46 q246 rfl ?_
            refine EW_aload_n (pc2 := 50) rfl dX12_street_49 0 rfl ?_
            refine AW_geti ⟨gfRX12_300, rfl⟩ (pc2 := 53) rfl dX12_street_50 q246 ?_
            refine EW_iload_n (pc2 := 54) rfl dX12_street_53 1 rfl ?_
            obtain ⟨b4, h⟩ := h
            refine AW_iast (pc2 := 55) rfl dX12_street_54 q247 b4 ?_
            refine EW_aload_n (pc2 := 56) rfl dX12_street_55 0 rfl ?_
            refine AW_getr (r := 248) ⟨gfRX12_13, rfl⟩ (pc2 := 59) rfl dX12_street_56 q246 rfl ?_
            refine EW_aload_n (pc2 := 60) rfl dX12_street_59 0 rfl ?_
            refine AW_geti ⟨gfRX12_300, rfl⟩ (pc2 := 63) rfl dX12_street_60 q246 ?_
            refine EW_iload_n (pc2 := 64) rfl dX12_street_63 2 rfl ?_
            obtain ⟨b5, h⟩ := h
            refine AW_iast (pc2 := 65) rfl dX12_street_64 q248 b5 ?_
            refine EW_aload_n (pc2 := 66) rfl dX12_street_65 0 rfl ?_
            refine AW_getr (r := 249) ⟨gfRX12_16, rfl⟩ (pc2 := 69) rfl dX12_street_66 q246 rfl ?_
            refine EW_aload_n (pc2 := 70) rfl dX12_street_69 0 rfl ?_
            refine AW_geti ⟨gfRX12_300, rfl⟩ (pc2 := 73) rfl dX12_street_70 q246 ?_
            refine EW_iload_n (pc2 := 74) rfl dX12_street_73 3 rfl ?_
            obtain ⟨b6, h⟩ := h
            refine AW_iast (pc2 := 75) rfl dX12_street_74 q249 b6 ?_
            refine EW_iconst (pc2 := 76) (v := 0) rfl dX12_street_75 (by decide) ?_
            refine EW_istore (pc2 := 78) rfl dX12_street_76 (by decide) [1, 2, 3, 4, 0] [(0, .ref 246), (1, .int v1), (2, .int v2), (3, .int v3), (4, .int 0)] rfl ?_
            exact sX12_street_78 v1 v2 v3 0 (wr (wr (wr (wr x 246 0 0) 247 (Int32.toNatClampNeg ((wr x 246 0 0).1 246 9)) v1) 248 (Int32.toNatClampNeg ((wr (wr x 246 0 0) 247 (Int32.toNatClampNeg ((wr x 246 0 0).1 246 9)) v1).1 246 9)) v2) 249 (Int32.toNatClampNeg ((wr (wr (wr x 246 0 0) 247 (Int32.toNatClampNeg ((wr x 246 0 0).1 246 9)) v1) 248 (Int32.toNatClampNeg ((wr (wr x 246 0 0) 247 (Int32.toNatClampNeg ((wr x 246 0 0).1 246 9)) v1).1 246 9)) v2).1 246 9)) v3) K d bc bs hdp h
          · replace h := h.2 q
            refine EW_iconst (pc2 := 44) (v := (-1)) rfl dX12_street_43 (by decide) ?_
            exact AW_iret rfl dX12_street_44 ⟨_, _, rfl, rfl, h⟩
abbrev MX12_thrown : ab_M := (yX12_thrown, cX12_thrown, 1, (some .int))
theorem dX12_thrown_0 : decode cX12_thrown 0 = .ok (.aload_n 0, 1) := by decide +kernel
theorem dX12_thrown_1 : decode cX12_thrown 1 = .ok (.getfield 297, 3) := by decide +kernel
theorem dX12_thrown_4 : decode cX12_thrown 4 = .ok (.ireturn, 1) := by decide +kernel
theorem okX12_thrown : ab_okM MX12_thrown 0 := ⟨by decide, ⟨by decide, by decide⟩, ab_in 2217 (by decide +kernel) (by decide +kernel), ab_in 99 (by decide +kernel) (by decide +kernel), by decide +kernel, by decide⟩
set_option maxHeartbeats 4000000 in
set_option maxRecDepth 100000 in
theorem sX12_thrown   (x : ab_X) (K : Int32 → Prop) (d bc bs : Nat) (hdp : 0 ≤ d) (h : wX12_thrown  x K) : EW MX12_thrown 0 [(0, .ref 246)] [] (aS x) d bc bs (liP x K) := by
  unfold wX12_thrown at h
  refine EW_aload_n (pc2 := 1) rfl dX12_thrown_0 0 rfl ?_
  refine AW_geti ⟨gfRX12_297, rfl⟩ (pc2 := 4) rfl dX12_thrown_1 q246 ?_
  exact AW_iret rfl dX12_thrown_4 ⟨_, rfl, rfl, h⟩
theorem mlRX12_590 : Cond.methodLink RX12 590 yX12_minute ∈ ab_G ∧ Cond.instanceMethod yX12_minute ∈ ab_G ∧ Cond.selects RX12 yX12_minute yX12_minute ∈ ab_G := ⟨ab_in 2543 (by decide +kernel) (by decide +kernel), ab_in 2545 (by decide +kernel) (by decide +kernel), ab_in 56 (by decide +kernel) (by decide +kernel)⟩
abbrev MX12_tick : ab_M := (yX12_tick, cX12_tick, 3, (some .int))
theorem dX12_tick_0 : decode cX12_tick 0 = .ok (.aload_n 0, 1) := by decide +kernel
theorem dX12_tick_1 : decode cX12_tick 1 = .ok (.iconst 0, 1) := by decide +kernel
theorem dX12_tick_2 : decode cX12_tick 2 = .ok (.putfield 297, 3) := by decide +kernel
theorem dX12_tick_5 : decode cX12_tick 5 = .ok (.iload_n 1, 1) := by decide +kernel
theorem dX12_tick_6 : decode cX12_tick 6 = .ok (.iconst 0, 1) := by decide +kernel
theorem dX12_tick_7 : decode cX12_tick 7 = .ok (.sipush 300, 3) := by decide +kernel
theorem dX12_tick_10 : decode cX12_tick 10 = .ok (.invokestatic 307, 3) := by decide +kernel
theorem dX12_tick_13 : decode cX12_tick 13 = .ok (.ifCond .eq 15, 3) := by decide +kernel
theorem dX12_tick_16 : decode cX12_tick 16 = .ok (.aload_n 0, 1) := by decide +kernel
theorem dX12_tick_17 : decode cX12_tick 17 = .ok (.getfield 395, 3) := by decide +kernel
theorem dX12_tick_20 : decode cX12_tick 20 = .ok (.iload_n 1, 1) := by decide +kernel
theorem dX12_tick_21 : decode cX12_tick 21 = .ok (.iadd, 1) := by decide +kernel
theorem dX12_tick_22 : decode cX12_tick 22 = .ok (.sipush 20000, 3) := by decide +kernel
theorem dX12_tick_25 : decode cX12_tick 25 = .ok (.if_icmp .le 5, 3) := by decide +kernel
theorem dX12_tick_28 : decode cX12_tick 28 = .ok (.iconst (-1), 1) := by decide +kernel
theorem dX12_tick_29 : decode cX12_tick 29 = .ok (.ireturn, 1) := by decide +kernel
theorem dX12_tick_30 : decode cX12_tick 30 = .ok (.iconst 0, 1) := by decide +kernel
theorem dX12_tick_31 : decode cX12_tick 31 = .ok (.istore_n 2, 1) := by decide +kernel
theorem dX12_tick_32 : decode cX12_tick 32 = .ok (.iload_n 2, 1) := by decide +kernel
theorem dX12_tick_33 : decode cX12_tick 33 = .ok (.iload_n 1, 1) := by decide +kernel
theorem dX12_tick_34 : decode cX12_tick 34 = .ok (.if_icmp .ge 13, 3) := by decide +kernel
theorem dX12_tick_37 : decode cX12_tick 37 = .ok (.aload_n 0, 1) := by decide +kernel
theorem dX12_tick_38 : decode cX12_tick 38 = .ok (.invokevirtual 590, 3) := by decide +kernel
theorem dX12_tick_41 : decode cX12_tick 41 = .ok (.iinc 2 1, 3) := by decide +kernel
theorem dX12_tick_44 : decode cX12_tick 44 = .ok (.goto (-12), 3) := by decide +kernel
theorem dX12_tick_47 : decode cX12_tick 47 = .ok (.aload_n 0, 1) := by decide +kernel
theorem dX12_tick_48 : decode cX12_tick 48 = .ok (.getfield 395, 3) := by decide +kernel
theorem dX12_tick_51 : decode cX12_tick 51 = .ok (.ireturn, 1) := by decide +kernel
theorem okX12_tick : ab_okM MX12_tick 1 := ⟨by decide, ⟨by decide, by decide⟩, ab_in 2542 (by decide +kernel) (by decide +kernel), ab_in 99 (by decide +kernel) (by decide +kernel), by decide +kernel, by decide⟩
set_option maxHeartbeats 4000000 in
set_option maxRecDepth 100000 in
theorem sX12_tick_32 (v1 : Int32) (v2 : Int32)  (x : ab_X) (K : Int32 → ab_X → Prop)  (d bc bs : Nat) (hdp : 213 ≤ d)  (h : Lp2 (lX12_tick_32 v1 K ) v2 x) : EW MX12_tick 32 [(0, .ref 246), (1, .int v1), (2, .int v2)] [] (aS x) d bc bs (liI K) := by
  refine Lp2.use (P := fun v2 x => EW MX12_tick 32 [(0, .ref 246), (1, .int v1), (2, .int v2)] [] (aS x) d bc bs (liI K)) (fun L32 v2 x hL32 h => ?_) v2 x h
  unfold lX12_tick_32 at h
  refine EW_iload_n (pc2 := 33) rfl dX12_tick_32 2 rfl ?_
  refine EW_iload_n (pc2 := 34) rfl dX12_tick_33 1 rfl ?_
  refine EW_icmp_ge (tgt := 47) (pc2 := 37) rfl dX12_tick_34 (by decide) (fun q => ?_) (fun q => ?_)
  · replace h := h.1 q
    refine EW_aload_n (pc2 := 48) rfl dX12_tick_47 0 rfl ?_
    refine AW_geti ⟨gfRX12_395, rfl⟩ (pc2 := 51) rfl dX12_tick_48 q246 ?_
    exact AW_iret rfl dX12_tick_51 ⟨_, _, rfl, rfl, h⟩
  · replace h := h.2 q
    refine EW_aload_n (pc2 := 38) rfl dX12_tick_37 0 rfl ?_
    refine AW_invV (M' := MX12_minute) [] (rest := []) mlRX12_590 okX12_minute (pc2 := 41) rfl dX12_tick_38 rfl rfl (Nat.le_of_ble_eq_true rfl) (Nat.le_of_ble_eq_true rfl) (d' := 212) (by omega) q246 ⟨by decide, rfl⟩ (EW_mono (fun _ _ hr => ?_) (sX12_minute   x _ _ 0 0 (Nat.le_refl _) h))
    obtain ⟨x2, rfl, rfl, h⟩ := hr
    refine EW_iinc (v2 + 1) (pc2 := 44) rfl dX12_tick_41 2 rfl rfl (by decide) [1, 2, 0] [(0, .ref 246), (1, .int v1), (2, .int (v2 + 1))] rfl ?_
    refine EW_goto (tgt := 32) dX12_tick_44 (by decide) ?_
    exact hL32 (v2 + 1) x2 h
set_option maxHeartbeats 4000000 in
set_option maxRecDepth 100000 in
theorem sX12_tick (v1 : Int32)  (x : ab_X) (K : Int32 → ab_X → Prop) (d bc bs : Nat) (hdp : 213 ≤ d) (h : wX12_tick v1 x K) : EW MX12_tick 0 [(0, .ref 246), (1, .int v1)] [] (aS x) d bc bs (liI K) := by
  unfold wX12_tick at h
  refine EW_aload_n (pc2 := 1) rfl dX12_tick_0 0 rfl ?_
  refine EW_iconst (pc2 := 2) (v := 0) rfl dX12_tick_1 (by decide) ?_
  refine AW_puti ⟨gfRX12_297, rfl, rfl⟩ (pc2 := 5) rfl dX12_tick_2 q246 ?_
  refine EW_iload_n (pc2 := 6) rfl dX12_tick_5 1 rfl ?_
  refine EW_iconst (pc2 := 7) (v := 0) rfl dX12_tick_6 (by decide) ?_
  refine EW_sipush (pc2 := 10) (v := 300) rfl dX12_tick_7 (by decide) ?_
  refine AW_invS (M' := MX12_isIn) [.int v1, .int 0, .int 300] (rest := []) mlRX12_307 okX12_isIn (pc2 := 13) rfl dX12_tick_10 rfl rfl (Nat.le_of_ble_eq_true rfl) (Nat.le_of_ble_eq_true rfl) (d' := 0) (by omega) (EW_mono (fun _ _ hr => ?_) (sX12_isIn v1 0 300  (wr x 246 0 0) _ _ 0 0 (Nat.le_refl _) h))
  obtain ⟨r1, rfl, rfl, h⟩ := hr
  refine EW_if_eq (tgt := 28) (pc2 := 16) rfl dX12_tick_13 (by decide) (fun q => ?_) (fun q => ?_)
  · replace h := h.1 q
    refine EW_iconst (pc2 := 29) (v := (-1)) rfl dX12_tick_28 (by decide) ?_
    exact AW_iret rfl dX12_tick_29 ⟨_, _, rfl, rfl, h⟩
  · replace h := h.2 q
    refine EW_aload_n (pc2 := 17) rfl dX12_tick_16 0 rfl ?_
    refine AW_geti ⟨gfRX12_395, rfl⟩ (pc2 := 20) rfl dX12_tick_17 q246 ?_
    refine EW_iload_n (pc2 := 21) rfl dX12_tick_20 1 rfl ?_
    refine EW_iadd (pc2 := 22) rfl dX12_tick_21 ?_
    refine EW_sipush (pc2 := 25) (v := 20000) rfl dX12_tick_22 (by decide) ?_
    refine EW_icmp_le (tgt := 30) (pc2 := 28) rfl dX12_tick_25 (by decide) (fun q => ?_) (fun q => ?_)
    · replace h := h.1 q
      refine EW_iconst (pc2 := 31) (v := 0) rfl dX12_tick_30 (by decide) ?_
      refine EW_istore_n (pc2 := 32) rfl dX12_tick_31 (by decide) [1, 2, 0] [(0, .ref 246), (1, .int v1), (2, .int 0)] rfl ?_
      exact sX12_tick_32 v1 0 (wr x 246 0 0) K d bc bs hdp h
    · replace h := h.2 q
      refine EW_iconst (pc2 := 29) (v := (-1)) rfl dX12_tick_28 (by decide) ?_
      exact AW_iret rfl dX12_tick_29 ⟨_, _, rfl, rfl, h⟩
abbrev MX12_use : ab_M := (yX12_use, cX12_use, 4, (some .boolean))
theorem dX12_use_0 : decode cX12_use 0 = .ok (.aload_n 0, 1) := by decide +kernel
theorem dX12_use_1 : decode cX12_use 1 = .ok (.iconst 0, 1) := by decide +kernel
theorem dX12_use_2 : decode cX12_use 2 = .ok (.putfield 297, 3) := by decide +kernel
theorem dX12_use_5 : decode cX12_use 5 = .ok (.aload_n 0, 1) := by decide +kernel
theorem dX12_use_6 : decode cX12_use 6 = .ok (.iload_n 1, 1) := by decide +kernel
theorem dX12_use_7 : decode cX12_use 7 = .ok (.invokevirtual 334, 3) := by decide +kernel
theorem dX12_use_10 : decode cX12_use 10 = .ok (.ifCond .eq 13, 3) := by decide +kernel
theorem dX12_use_13 : decode cX12_use 13 = .ok (.iload_n 2, 1) := by decide +kernel
theorem dX12_use_14 : decode cX12_use 14 = .ok (.iconst 0, 1) := by decide +kernel
theorem dX12_use_15 : decode cX12_use 15 = .ok (.bipush 9, 2) := by decide +kernel
theorem dX12_use_17 : decode cX12_use 17 = .ok (.invokestatic 307, 3) := by decide +kernel
theorem dX12_use_20 : decode cX12_use 20 = .ok (.ifCond .ne 5, 3) := by decide +kernel
theorem dX12_use_23 : decode cX12_use 23 = .ok (.iconst 0, 1) := by decide +kernel
theorem dX12_use_24 : decode cX12_use 24 = .ok (.ireturn, 1) := by decide +kernel
theorem dX12_use_25 : decode cX12_use 25 = .ok (.iconst 0, 1) := by decide +kernel
theorem dX12_use_26 : decode cX12_use 26 = .ok (.istore_n 3, 1) := by decide +kernel
theorem dX12_use_27 : decode cX12_use 27 = .ok (.iload_n 3, 1) := by decide +kernel
theorem dX12_use_28 : decode cX12_use 28 = .ok (.aload_n 0, 1) := by decide +kernel
theorem dX12_use_29 : decode cX12_use 29 = .ok (.getfield 596, 3) := by decide +kernel
theorem dX12_use_32 : decode cX12_use 32 = .ok (.if_icmp .ge 31, 3) := by decide +kernel
theorem dX12_use_35 : decode cX12_use 35 = .ok (.aload_n 0, 1) := by decide +kernel
theorem dX12_use_36 : decode cX12_use 36 = .ok (.getfield 244, 3) := by decide +kernel
theorem dX12_use_39 : decode cX12_use 39 = .ok (.iload_n 3, 1) := by decide +kernel
theorem dX12_use_40 : decode cX12_use 40 = .ok (.iaload, 1) := by decide +kernel
theorem dX12_use_41 : decode cX12_use 41 = .ok (.iload_n 1, 1) := by decide +kernel
theorem dX12_use_42 : decode cX12_use 42 = .ok (.if_icmp .ne 15, 3) := by decide +kernel
theorem dX12_use_45 : decode cX12_use 45 = .ok (.aload_n 0, 1) := by decide +kernel
theorem dX12_use_46 : decode cX12_use 46 = .ok (.getfield 247, 3) := by decide +kernel
theorem dX12_use_49 : decode cX12_use 49 = .ok (.iload_n 3, 1) := by decide +kernel
theorem dX12_use_50 : decode cX12_use 50 = .ok (.iaload, 1) := by decide +kernel
theorem dX12_use_51 : decode cX12_use 51 = .ok (.iconst (-1), 1) := by decide +kernel
theorem dX12_use_52 : decode cX12_use 52 = .ok (.if_icmp .eq 5, 3) := by decide +kernel
theorem dX12_use_55 : decode cX12_use 55 = .ok (.iconst 0, 1) := by decide +kernel
theorem dX12_use_56 : decode cX12_use 56 = .ok (.ireturn, 1) := by decide +kernel
theorem dX12_use_57 : decode cX12_use 57 = .ok (.iinc 3 1, 3) := by decide +kernel
theorem dX12_use_60 : decode cX12_use 60 = .ok (.goto (-33), 3) := by decide +kernel
theorem dX12_use_63 : decode cX12_use 63 = .ok (.aload_n 0, 1) := by decide +kernel
theorem dX12_use_64 : decode cX12_use 64 = .ok (.getfield 53, 3) := by decide +kernel
theorem dX12_use_67 : decode cX12_use 67 = .ok (.iload_n 1, 1) := by decide +kernel
theorem dX12_use_68 : decode cX12_use 68 = .ok (.iload_n 2, 1) := by decide +kernel
theorem dX12_use_69 : decode cX12_use 69 = .ok (.iastore, 1) := by decide +kernel
theorem dX12_use_70 : decode cX12_use 70 = .ok (.iconst 1, 1) := by decide +kernel
theorem dX12_use_71 : decode cX12_use 71 = .ok (.ireturn, 1) := by decide +kernel
theorem okX12_use : ab_okM MX12_use 2 := ⟨by decide, ⟨by decide, by decide⟩, ab_in 2618 (by decide +kernel) (by decide +kernel), ab_in 99 (by decide +kernel) (by decide +kernel), by decide +kernel, by decide⟩
set_option maxHeartbeats 4000000 in
set_option maxRecDepth 100000 in
theorem sX12_use_27 (v1 : Int32) (v2 : Int32) (v3 : Int32)  (x : ab_X) (K : Int32 → ab_X → Prop)  (d bc bs : Nat) (hdp : 1 ≤ d)  (h : Lp1 (lX12_use_27 v1 v2 x K ) v3) : EW MX12_use 27 [(0, .ref 246), (1, .int v1), (2, .int v2), (3, .int v3)] [] (aS x) d bc bs (liI K) := by
  refine Lp1.use (P := fun v3 => EW MX12_use 27 [(0, .ref 246), (1, .int v1), (2, .int v2), (3, .int v3)] [] (aS x) d bc bs (liI K)) (fun L27 v3 hL27 h => ?_) v3 h
  unfold lX12_use_27 at h
  refine EW_iload_n (pc2 := 28) rfl dX12_use_27 3 rfl ?_
  refine EW_aload_n (pc2 := 29) rfl dX12_use_28 0 rfl ?_
  refine AW_geti ⟨gfRX12_596, rfl⟩ (pc2 := 32) rfl dX12_use_29 q246 ?_
  refine EW_icmp_ge (tgt := 63) (pc2 := 35) rfl dX12_use_32 (by decide) (fun q => ?_) (fun q => ?_)
  · replace h := h.1 q
    refine EW_aload_n (pc2 := 64) rfl dX12_use_63 0 rfl ?_
    refine AW_getr (r := 261) ⟨gfRX12_53, rfl⟩ (pc2 := 67) rfl dX12_use_64 q246 rfl ?_
    refine EW_iload_n (pc2 := 68) rfl dX12_use_67 1 rfl ?_
    refine EW_iload_n (pc2 := 69) rfl dX12_use_68 2 rfl ?_
    obtain ⟨b3, h⟩ := h
    refine AW_iast (pc2 := 70) rfl dX12_use_69 q261 b3 ?_
    refine EW_iconst (pc2 := 71) (v := 1) rfl dX12_use_70 (by decide) ?_
    exact AW_zret rfl isB1 dX12_use_71 ⟨_, _, rfl, rfl, h⟩
  · replace h := h.2 q
    refine EW_aload_n (pc2 := 36) rfl dX12_use_35 0 rfl ?_
    refine AW_getr (r := 320) ⟨gfRX12_244, rfl⟩ (pc2 := 39) rfl dX12_use_36 q246 rfl ?_
    refine EW_iload_n (pc2 := 40) rfl dX12_use_39 3 rfl ?_
    obtain ⟨b4, h⟩ := h
    refine AW_iald (pc2 := 41) rfl dX12_use_40 q320 b4 ?_
    refine EW_iload_n (pc2 := 42) rfl dX12_use_41 1 rfl ?_
    refine EW_icmp_ne (tgt := 57) (pc2 := 45) rfl dX12_use_42 (by decide) (fun q => ?_) (fun q => ?_)
    · replace h := h.1 q
      refine EW_iinc (v3 + 1) (pc2 := 60) rfl dX12_use_57 3 rfl rfl (by decide) [1, 2, 3, 0] [(0, .ref 246), (1, .int v1), (2, .int v2), (3, .int (v3 + 1))] rfl ?_
      refine EW_goto (tgt := 27) dX12_use_60 (by decide) ?_
      exact hL27 (v3 + 1) h
    · replace h := h.2 q
      refine EW_aload_n (pc2 := 46) rfl dX12_use_45 0 rfl ?_
      refine AW_getr (r := 321) ⟨gfRX12_247, rfl⟩ (pc2 := 49) rfl dX12_use_46 q246 rfl ?_
      refine EW_iload_n (pc2 := 50) rfl dX12_use_49 3 rfl ?_
      obtain ⟨b5, h⟩ := h
      refine AW_iald (pc2 := 51) rfl dX12_use_50 q321 b5 ?_
      refine EW_iconst (pc2 := 52) (v := (-1)) rfl dX12_use_51 (by decide) ?_
      refine EW_icmp_eq (tgt := 57) (pc2 := 55) rfl dX12_use_52 (by decide) (fun q => ?_) (fun q => ?_)
      · replace h := h.1 q
        refine EW_iinc (v3 + 1) (pc2 := 60) rfl dX12_use_57 3 rfl rfl (by decide) [1, 2, 3, 0] [(0, .ref 246), (1, .int v1), (2, .int v2), (3, .int (v3 + 1))] rfl ?_
        refine EW_goto (tgt := 27) dX12_use_60 (by decide) ?_
        exact hL27 (v3 + 1) h
      · replace h := h.2 q
        refine EW_iconst (pc2 := 56) (v := 0) rfl dX12_use_55 (by decide) ?_
        exact AW_zret rfl isB0 dX12_use_56 ⟨_, _, rfl, rfl, h⟩
set_option maxHeartbeats 4000000 in
set_option maxRecDepth 100000 in
theorem sX12_use (v1 : Int32) (v2 : Int32)  (x : ab_X) (K : Int32 → ab_X → Prop) (d bc bs : Nat) (hdp : 1 ≤ d) (h : wX12_use v1 v2 x K) : EW MX12_use 0 [(0, .ref 246), (1, .int v1), (2, .int v2)] [] (aS x) d bc bs (liI K) := by
  unfold wX12_use at h
  refine EW_aload_n (pc2 := 1) rfl dX12_use_0 0 rfl ?_
  refine EW_iconst (pc2 := 2) (v := 0) rfl dX12_use_1 (by decide) ?_
  refine AW_puti ⟨gfRX12_297, rfl, rfl⟩ (pc2 := 5) rfl dX12_use_2 q246 ?_
  refine EW_aload_n (pc2 := 6) rfl dX12_use_5 0 rfl ?_
  refine EW_iload_n (pc2 := 7) rfl dX12_use_6 1 rfl ?_
  refine AW_invV (M' := MX12_isHouse) [.int v1] (rest := []) mlRX12_334 okX12_isHouse (pc2 := 10) rfl dX12_use_7 rfl rfl (Nat.le_of_ble_eq_true rfl) (Nat.le_of_ble_eq_true rfl) (d' := 0) (by omega) q246 ⟨by decide, rfl⟩ (EW_mono (fun _ _ hr => ?_) (sX12_isHouse v1  (wr x 246 0 0) _ _ 0 0 (Nat.le_refl _) h))
  obtain ⟨r1, rfl, rfl, h⟩ := hr
  refine EW_if_eq (tgt := 23) (pc2 := 13) rfl dX12_use_10 (by decide) (fun q => ?_) (fun q => ?_)
  · replace h := h.1 q
    refine EW_iconst (pc2 := 24) (v := 0) rfl dX12_use_23 (by decide) ?_
    exact AW_zret rfl isB0 dX12_use_24 ⟨_, _, rfl, rfl, h⟩
  · replace h := h.2 q
    refine EW_iload_n (pc2 := 14) rfl dX12_use_13 2 rfl ?_
    refine EW_iconst (pc2 := 15) (v := 0) rfl dX12_use_14 (by decide) ?_
    refine EW_bipush (pc2 := 17) (v := 9) rfl dX12_use_15 (by decide) ?_
    refine AW_invS (M' := MX12_isIn) [.int v2, .int 0, .int 9] (rest := []) mlRX12_307 okX12_isIn (pc2 := 20) rfl dX12_use_17 rfl rfl (Nat.le_of_ble_eq_true rfl) (Nat.le_of_ble_eq_true rfl) (d' := 0) (by omega) (EW_mono (fun _ _ hr => ?_) (sX12_isIn v2 0 9  (wr x 246 0 0) _ _ 0 0 (Nat.le_refl _) h))
    obtain ⟨r2, rfl, rfl, h⟩ := hr
    refine EW_if_ne (tgt := 25) (pc2 := 23) rfl dX12_use_20 (by decide) (fun q => ?_) (fun q => ?_)
    · replace h := h.1 q
      refine EW_iconst (pc2 := 26) (v := 0) rfl dX12_use_25 (by decide) ?_
      refine EW_istore_n (pc2 := 27) rfl dX12_use_26 (by decide) [1, 2, 3, 0] [(0, .ref 246), (1, .int v1), (2, .int v2), (3, .int 0)] rfl ?_
      exact sX12_use_27 v1 v2 0 (wr x 246 0 0) K d bc bs hdp h
    · replace h := h.2 q
      refine EW_iconst (pc2 := 24) (v := 0) rfl dX12_use_23 (by decide) ?_
      exact AW_zret rfl isB0 dX12_use_24 ⟨_, _, rfl, rfl, h⟩
abbrev MX12_used : ab_M := (yX12_used, cX12_used, 3, (some .int))
theorem dX12_used_0 : decode cX12_used 0 = .ok (.aload_n 0, 1) := by decide +kernel
theorem dX12_used_1 : decode cX12_used 1 = .ok (.iconst 0, 1) := by decide +kernel
theorem dX12_used_2 : decode cX12_used 2 = .ok (.putfield 297, 3) := by decide +kernel
theorem dX12_used_5 : decode cX12_used 5 = .ok (.aload_n 0, 1) := by decide +kernel
theorem dX12_used_6 : decode cX12_used 6 = .ok (.iload_n 1, 1) := by decide +kernel
theorem dX12_used_7 : decode cX12_used 7 = .ok (.invokevirtual 334, 3) := by decide +kernel
theorem dX12_used_10 : decode cX12_used 10 = .ok (.ifCond .eq 24, 3) := by decide +kernel
theorem dX12_used_13 : decode cX12_used 13 = .ok (.iload_n 2, 1) := by decide +kernel
theorem dX12_used_14 : decode cX12_used 14 = .ok (.iconst 0, 1) := by decide +kernel
theorem dX12_used_15 : decode cX12_used 15 = .ok (.aload_n 0, 1) := by decide +kernel
theorem dX12_used_16 : decode cX12_used 16 = .ok (.getfield 395, 3) := by decide +kernel
theorem dX12_used_19 : decode cX12_used 19 = .ok (.invokestatic 307, 3) := by decide +kernel
theorem dX12_used_22 : decode cX12_used 22 = .ok (.ifCond .eq 12, 3) := by decide +kernel
theorem dX12_used_25 : decode cX12_used 25 = .ok (.aload_n 0, 1) := by decide +kernel
theorem dX12_used_26 : decode cX12_used 26 = .ok (.iload_n 1, 1) := by decide +kernel
theorem dX12_used_27 : decode cX12_used 27 = .ok (.iload_n 2, 1) := by decide +kernel
theorem dX12_used_28 : decode cX12_used 28 = .ok (.invokevirtual 602, 3) := by decide +kernel
theorem dX12_used_31 : decode cX12_used 31 = .ok (.goto 4, 3) := by decide +kernel
theorem dX12_used_34 : decode cX12_used 34 = .ok (.iconst (-1), 1) := by decide +kernel
theorem dX12_used_35 : decode cX12_used 35 = .ok (.ireturn, 1) := by decide +kernel
theorem okX12_used : ab_okM MX12_used 2 := ⟨by decide, ⟨by decide, by decide⟩, ab_in 2634 (by decide +kernel) (by decide +kernel), ab_in 99 (by decide +kernel) (by decide +kernel), by decide +kernel, by decide⟩
set_option maxHeartbeats 4000000 in
set_option maxRecDepth 100000 in
theorem sX12_used (v1 : Int32) (v2 : Int32)  (x : ab_X) (K : Int32 → ab_X → Prop) (d bc bs : Nat) (hdp : 1 ≤ d) (h : wX12_used v1 v2 x K) : EW MX12_used 0 [(0, .ref 246), (1, .int v1), (2, .int v2)] [] (aS x) d bc bs (liI K) := by
  unfold wX12_used at h
  refine EW_aload_n (pc2 := 1) rfl dX12_used_0 0 rfl ?_
  refine EW_iconst (pc2 := 2) (v := 0) rfl dX12_used_1 (by decide) ?_
  refine AW_puti ⟨gfRX12_297, rfl, rfl⟩ (pc2 := 5) rfl dX12_used_2 q246 ?_
  refine EW_aload_n (pc2 := 6) rfl dX12_used_5 0 rfl ?_
  refine EW_iload_n (pc2 := 7) rfl dX12_used_6 1 rfl ?_
  refine AW_invV (M' := MX12_isHouse) [.int v1] (rest := []) mlRX12_334 okX12_isHouse (pc2 := 10) rfl dX12_used_7 rfl rfl (Nat.le_of_ble_eq_true rfl) (Nat.le_of_ble_eq_true rfl) (d' := 0) (by omega) q246 ⟨by decide, rfl⟩ (EW_mono (fun _ _ hr => ?_) (sX12_isHouse v1  (wr x 246 0 0) _ _ 0 0 (Nat.le_refl _) h))
  obtain ⟨r1, rfl, rfl, h⟩ := hr
  refine EW_if_eq (tgt := 34) (pc2 := 13) rfl dX12_used_10 (by decide) (fun q => ?_) (fun q => ?_)
  · replace h := h.1 q
    refine EW_iconst (pc2 := 35) (v := (-1)) rfl dX12_used_34 (by decide) ?_
    exact AW_iret rfl dX12_used_35 ⟨_, _, rfl, rfl, h⟩
  · replace h := h.2 q
    refine EW_iload_n (pc2 := 14) rfl dX12_used_13 2 rfl ?_
    refine EW_iconst (pc2 := 15) (v := 0) rfl dX12_used_14 (by decide) ?_
    refine EW_aload_n (pc2 := 16) rfl dX12_used_15 0 rfl ?_
    refine AW_geti ⟨gfRX12_395, rfl⟩ (pc2 := 19) rfl dX12_used_16 q246 ?_
    refine AW_invS (M' := MX12_isIn) [.int v2, .int 0, .int ((wr x 246 0 0).1 246 1)] (rest := []) mlRX12_307 okX12_isIn (pc2 := 22) rfl dX12_used_19 rfl rfl (Nat.le_of_ble_eq_true rfl) (Nat.le_of_ble_eq_true rfl) (d' := 0) (by omega) (EW_mono (fun _ _ hr => ?_) (sX12_isIn v2 0 ((wr x 246 0 0).1 246 1)  (wr x 246 0 0) _ _ 0 0 (Nat.le_refl _) h))
    obtain ⟨r2, rfl, rfl, h⟩ := hr
    refine EW_if_eq (tgt := 34) (pc2 := 25) rfl dX12_used_22 (by decide) (fun q => ?_) (fun q => ?_)
    · replace h := h.1 q
      refine EW_iconst (pc2 := 35) (v := (-1)) rfl dX12_used_34 (by decide) ?_
      exact AW_iret rfl dX12_used_35 ⟨_, _, rfl, rfl, h⟩
    · replace h := h.2 q
      refine EW_aload_n (pc2 := 26) rfl dX12_used_25 0 rfl ?_
      refine EW_iload_n (pc2 := 27) rfl dX12_used_26 1 rfl ?_
      refine EW_iload_n (pc2 := 28) rfl dX12_used_27 2 rfl ?_
      refine AW_invV (M' := MX12_useOf) [.int v1, .int v2] (rest := []) mlRX12_602 okX12_useOf (pc2 := 31) rfl dX12_used_28 rfl rfl (Nat.le_of_ble_eq_true rfl) (Nat.le_of_ble_eq_true rfl) (d' := 0) (by omega) q246 ⟨by decide, rfl⟩ (EW_mono (fun _ _ hr => ?_) (sX12_useOf v1 v2  (wr x 246 0 0) _ _ 0 0 (Nat.le_refl _) h))
      obtain ⟨r3, rfl, rfl, h⟩ := hr
      refine EW_goto (tgt := 35) dX12_used_31 (by decide) ?_
      exact AW_iret rfl dX12_used_35 ⟨_, _, rfl, rfl, h⟩
theorem gfRX12_290 : ab_L RX12 290 12 119 := ⟨by decide, by decide, ab_in 1968 (by decide +kernel) (by decide +kernel)⟩
theorem gfRX12_293 : ab_L RX12 293 12 120 := ⟨by decide, by decide, ab_in 1969 (by decide +kernel) (by decide +kernel)⟩
theorem gfRX12_284 : ab_L RX12 284 12 117 := ⟨by decide, by decide, ab_in 1966 (by decide +kernel) (by decide +kernel)⟩
theorem gfRX12_287 : ab_L RX12 287 12 118 := ⟨by decide, by decide, ab_in 1967 (by decide +kernel) (by decide +kernel)⟩
abbrev MX12_what : ab_M := (yX12_what, cX12_what, 8, (some .int))
theorem dX12_what_0 : decode cX12_what 0 = .ok (.aload_n 0, 1) := by decide +kernel
theorem dX12_what_1 : decode cX12_what 1 = .ok (.iconst 0, 1) := by decide +kernel
theorem dX12_what_2 : decode cX12_what 2 = .ok (.putfield 297, 3) := by decide +kernel
theorem dX12_what_5 : decode cX12_what 5 = .ok (.aload_n 0, 1) := by decide +kernel
theorem dX12_what_6 : decode cX12_what 6 = .ok (.iload_n 1, 1) := by decide +kernel
theorem dX12_what_7 : decode cX12_what 7 = .ok (.iload_n 2, 1) := by decide +kernel
theorem dX12_what_8 : decode cX12_what 8 = .ok (.invokevirtual 354, 3) := by decide +kernel
theorem dX12_what_11 : decode cX12_what 11 = .ok (.ifCond .eq 26, 3) := by decide +kernel
theorem dX12_what_14 : decode cX12_what 14 = .ok (.iload_n 3, 1) := by decide +kernel
theorem dX12_what_15 : decode cX12_what 15 = .ok (.iconst 0, 1) := by decide +kernel
theorem dX12_what_16 : decode cX12_what 16 = .ok (.sipush 500, 3) := by decide +kernel
theorem dX12_what_19 : decode cX12_what 19 = .ok (.invokestatic 307, 3) := by decide +kernel
theorem dX12_what_22 : decode cX12_what 22 = .ok (.ifCond .eq 15, 3) := by decide +kernel
theorem dX12_what_25 : decode cX12_what 25 = .ok (.iload 4, 2) := by decide +kernel
theorem dX12_what_27 : decode cX12_what 27 = .ok (.iconst 1, 1) := by decide +kernel
theorem dX12_what_28 : decode cX12_what 28 = .ok (.sipush 200, 3) := by decide +kernel
theorem dX12_what_31 : decode cX12_what 31 = .ok (.invokestatic 307, 3) := by decide +kernel
theorem dX12_what_34 : decode cX12_what 34 = .ok (.ifCond .ne 5, 3) := by decide +kernel
theorem dX12_what_37 : decode cX12_what 37 = .ok (.iconst (-1), 1) := by decide +kernel
theorem dX12_what_38 : decode cX12_what 38 = .ok (.ireturn, 1) := by decide +kernel
theorem dX12_what_39 : decode cX12_what 39 = .ok (.iconst 0, 1) := by decide +kernel
theorem dX12_what_40 : decode cX12_what 40 = .ok (.istore 5, 2) := by decide +kernel
theorem dX12_what_42 : decode cX12_what 42 = .ok (.iload 5, 2) := by decide +kernel
theorem dX12_what_44 : decode cX12_what 44 = .ok (.sipush 288, 3) := by decide +kernel
theorem dX12_what_47 : decode cX12_what 47 = .ok (.if_icmp .ge 37, 3) := by decide +kernel
theorem dX12_what_50 : decode cX12_what 50 = .ok (.aload_n 0, 1) := by decide +kernel
theorem dX12_what_51 : decode cX12_what 51 = .ok (.getfield 284, 3) := by decide +kernel
theorem dX12_what_54 : decode cX12_what 54 = .ok (.iload 5, 2) := by decide +kernel
theorem dX12_what_56 : decode cX12_what 56 = .ok (.aload_n 0, 1) := by decide +kernel
theorem dX12_what_57 : decode cX12_what 57 = .ok (.getfield 68, 3) := by decide +kernel
theorem dX12_what_60 : decode cX12_what 60 = .ok (.iload 5, 2) := by decide +kernel
theorem dX12_what_62 : decode cX12_what 62 = .ok (.iaload, 1) := by decide +kernel
theorem dX12_what_63 : decode cX12_what 63 = .ok (.iastore, 1) := by decide +kernel
theorem dX12_what_64 : decode cX12_what 64 = .ok (.aload_n 0, 1) := by decide +kernel
theorem dX12_what_65 : decode cX12_what 65 = .ok (.getfield 287, 3) := by decide +kernel
theorem dX12_what_68 : decode cX12_what 68 = .ok (.iload 5, 2) := by decide +kernel
theorem dX12_what_70 : decode cX12_what 70 = .ok (.aload_n 0, 1) := by decide +kernel
theorem dX12_what_71 : decode cX12_what 71 = .ok (.getfield 71, 3) := by decide +kernel
theorem dX12_what_74 : decode cX12_what 74 = .ok (.iload 5, 2) := by decide +kernel
theorem dX12_what_76 : decode cX12_what 76 = .ok (.iaload, 1) := by decide +kernel
theorem dX12_what_77 : decode cX12_what 77 = .ok (.iastore, 1) := by decide +kernel
theorem dX12_what_78 : decode cX12_what 78 = .ok (.iinc 5 1, 3) := by decide +kernel
theorem dX12_what_81 : decode cX12_what 81 = .ok (.goto (-39), 3) := by decide +kernel
theorem dX12_what_84 : decode cX12_what 84 = .ok (.iconst 0, 1) := by decide +kernel
theorem dX12_what_85 : decode cX12_what 85 = .ok (.istore 5, 2) := by decide +kernel
theorem dX12_what_87 : decode cX12_what 87 = .ok (.iload 5, 2) := by decide +kernel
theorem dX12_what_89 : decode cX12_what 89 = .ok (.bipush 72, 2) := by decide +kernel
theorem dX12_what_91 : decode cX12_what 91 = .ok (.if_icmp .ge 37, 3) := by decide +kernel
theorem dX12_what_94 : decode cX12_what 94 = .ok (.aload_n 0, 1) := by decide +kernel
theorem dX12_what_95 : decode cX12_what 95 = .ok (.getfield 290, 3) := by decide +kernel
theorem dX12_what_98 : decode cX12_what 98 = .ok (.iload 5, 2) := by decide +kernel
theorem dX12_what_100 : decode cX12_what 100 = .ok (.aload_n 0, 1) := by decide +kernel
theorem dX12_what_101 : decode cX12_what 101 = .ok (.getfield 83, 3) := by decide +kernel
theorem dX12_what_104 : decode cX12_what 104 = .ok (.iload 5, 2) := by decide +kernel
theorem dX12_what_106 : decode cX12_what 106 = .ok (.iaload, 1) := by decide +kernel
theorem dX12_what_107 : decode cX12_what 107 = .ok (.iastore, 1) := by decide +kernel
theorem dX12_what_108 : decode cX12_what 108 = .ok (.aload_n 0, 1) := by decide +kernel
theorem dX12_what_109 : decode cX12_what 109 = .ok (.getfield 293, 3) := by decide +kernel
theorem dX12_what_112 : decode cX12_what 112 = .ok (.iload 5, 2) := by decide +kernel
theorem dX12_what_114 : decode cX12_what 114 = .ok (.aload_n 0, 1) := by decide +kernel
theorem dX12_what_115 : decode cX12_what 115 = .ok (.getfield 92, 3) := by decide +kernel
theorem dX12_what_118 : decode cX12_what 118 = .ok (.iload 5, 2) := by decide +kernel
theorem dX12_what_120 : decode cX12_what 120 = .ok (.baload, 1) := by decide +kernel
theorem dX12_what_121 : decode cX12_what 121 = .ok (.bastore, 1) := by decide +kernel
theorem dX12_what_122 : decode cX12_what 122 = .ok (.iinc 5 1, 3) := by decide +kernel
theorem dX12_what_125 : decode cX12_what 125 = .ok (.goto (-38), 3) := by decide +kernel
theorem dX12_what_128 : decode cX12_what 128 = .ok (.aload_n 0, 1) := by decide +kernel
theorem dX12_what_129 : decode cX12_what 129 = .ok (.iload_n 1, 1) := by decide +kernel
theorem dX12_what_130 : decode cX12_what 130 = .ok (.invokevirtual 363, 3) := by decide +kernel
theorem dX12_what_133 : decode cX12_what 133 = .ok (.istore 5, 2) := by decide +kernel
theorem dX12_what_135 : decode cX12_what 135 = .ok (.aload_n 0, 1) := by decide +kernel
theorem dX12_what_136 : decode cX12_what 136 = .ok (.getfield 74, 3) := by decide +kernel
theorem dX12_what_139 : decode cX12_what 139 = .ok (.bipush 24, 2) := by decide +kernel
theorem dX12_what_141 : decode cX12_what 141 = .ok (.iload_n 1, 1) := by decide +kernel
theorem dX12_what_142 : decode cX12_what 142 = .ok (.imul, 1) := by decide +kernel
theorem dX12_what_143 : decode cX12_what 143 = .ok (.iload_n 2, 1) := by decide +kernel
theorem dX12_what_144 : decode cX12_what 144 = .ok (.iadd, 1) := by decide +kernel
theorem dX12_what_145 : decode cX12_what 145 = .ok (.iload_n 3, 1) := by decide +kernel
theorem dX12_what_146 : decode cX12_what 146 = .ok (.iastore, 1) := by decide +kernel
theorem dX12_what_147 : decode cX12_what 147 = .ok (.iconst 0, 1) := by decide +kernel
theorem dX12_what_148 : decode cX12_what 148 = .ok (.istore 6, 2) := by decide +kernel
theorem dX12_what_150 : decode cX12_what 150 = .ok (.iload 6, 2) := by decide +kernel
theorem dX12_what_152 : decode cX12_what 152 = .ok (.iload 4, 2) := by decide +kernel
theorem dX12_what_154 : decode cX12_what 154 = .ok (.if_icmp .ge 14, 3) := by decide +kernel
theorem dX12_what_157 : decode cX12_what 157 = .ok (.aload_n 0, 1) := by decide +kernel
theorem dX12_what_158 : decode cX12_what 158 = .ok (.iconst 0, 1) := by decide +kernel
theorem dX12_what_159 : decode cX12_what 159 = .ok (.invokevirtual 586, 3) := by decide +kernel
theorem dX12_what_162 : decode cX12_what 162 = .ok (.iinc 6 1, 3) := by decide +kernel
theorem dX12_what_165 : decode cX12_what 165 = .ok (.goto (-15), 3) := by decide +kernel
theorem dX12_what_168 : decode cX12_what 168 = .ok (.aload_n 0, 1) := by decide +kernel
theorem dX12_what_169 : decode cX12_what 169 = .ok (.getfield 74, 3) := by decide +kernel
theorem dX12_what_172 : decode cX12_what 172 = .ok (.bipush 24, 2) := by decide +kernel
theorem dX12_what_174 : decode cX12_what 174 = .ok (.iload_n 1, 1) := by decide +kernel
theorem dX12_what_175 : decode cX12_what 175 = .ok (.imul, 1) := by decide +kernel
theorem dX12_what_176 : decode cX12_what 176 = .ok (.iload_n 2, 1) := by decide +kernel
theorem dX12_what_177 : decode cX12_what 177 = .ok (.iadd, 1) := by decide +kernel
theorem dX12_what_178 : decode cX12_what 178 = .ok (.iconst 0, 1) := by decide +kernel
theorem dX12_what_179 : decode cX12_what 179 = .ok (.iastore, 1) := by decide +kernel
theorem dX12_what_180 : decode cX12_what 180 = .ok (.aload_n 0, 1) := by decide +kernel
theorem dX12_what_181 : decode cX12_what 181 = .ok (.iload_n 1, 1) := by decide +kernel
theorem dX12_what_182 : decode cX12_what 182 = .ok (.invokevirtual 363, 3) := by decide +kernel
theorem dX12_what_185 : decode cX12_what 185 = .ok (.iload 5, 2) := by decide +kernel
theorem dX12_what_187 : decode cX12_what 187 = .ok (.isub, 1) := by decide +kernel
theorem dX12_what_188 : decode cX12_what 188 = .ok (.istore 6, 2) := by decide +kernel
theorem dX12_what_190 : decode cX12_what 190 = .ok (.iconst 0, 1) := by decide +kernel
theorem dX12_what_191 : decode cX12_what 191 = .ok (.istore 7, 2) := by decide +kernel
theorem dX12_what_193 : decode cX12_what 193 = .ok (.iload 7, 2) := by decide +kernel
theorem dX12_what_195 : decode cX12_what 195 = .ok (.sipush 288, 3) := by decide +kernel
theorem dX12_what_198 : decode cX12_what 198 = .ok (.if_icmp .ge 37, 3) := by decide +kernel
theorem dX12_what_201 : decode cX12_what 201 = .ok (.aload_n 0, 1) := by decide +kernel
theorem dX12_what_202 : decode cX12_what 202 = .ok (.getfield 68, 3) := by decide +kernel
theorem dX12_what_205 : decode cX12_what 205 = .ok (.iload 7, 2) := by decide +kernel
theorem dX12_what_207 : decode cX12_what 207 = .ok (.aload_n 0, 1) := by decide +kernel
theorem dX12_what_208 : decode cX12_what 208 = .ok (.getfield 284, 3) := by decide +kernel
theorem dX12_what_211 : decode cX12_what 211 = .ok (.iload 7, 2) := by decide +kernel
theorem dX12_what_213 : decode cX12_what 213 = .ok (.iaload, 1) := by decide +kernel
theorem dX12_what_214 : decode cX12_what 214 = .ok (.iastore, 1) := by decide +kernel
theorem dX12_what_215 : decode cX12_what 215 = .ok (.aload_n 0, 1) := by decide +kernel
theorem dX12_what_216 : decode cX12_what 216 = .ok (.getfield 71, 3) := by decide +kernel
theorem dX12_what_219 : decode cX12_what 219 = .ok (.iload 7, 2) := by decide +kernel
theorem dX12_what_221 : decode cX12_what 221 = .ok (.aload_n 0, 1) := by decide +kernel
theorem dX12_what_222 : decode cX12_what 222 = .ok (.getfield 287, 3) := by decide +kernel
theorem dX12_what_225 : decode cX12_what 225 = .ok (.iload 7, 2) := by decide +kernel
theorem dX12_what_227 : decode cX12_what 227 = .ok (.iaload, 1) := by decide +kernel
theorem dX12_what_228 : decode cX12_what 228 = .ok (.iastore, 1) := by decide +kernel
theorem dX12_what_229 : decode cX12_what 229 = .ok (.iinc 7 1, 3) := by decide +kernel
theorem dX12_what_232 : decode cX12_what 232 = .ok (.goto (-39), 3) := by decide +kernel
theorem dX12_what_235 : decode cX12_what 235 = .ok (.iconst 0, 1) := by decide +kernel
theorem dX12_what_236 : decode cX12_what 236 = .ok (.istore 7, 2) := by decide +kernel
theorem dX12_what_238 : decode cX12_what 238 = .ok (.iload 7, 2) := by decide +kernel
theorem dX12_what_240 : decode cX12_what 240 = .ok (.bipush 72, 2) := by decide +kernel
theorem dX12_what_242 : decode cX12_what 242 = .ok (.if_icmp .ge 37, 3) := by decide +kernel
theorem dX12_what_245 : decode cX12_what 245 = .ok (.aload_n 0, 1) := by decide +kernel
theorem dX12_what_246 : decode cX12_what 246 = .ok (.getfield 83, 3) := by decide +kernel
theorem dX12_what_249 : decode cX12_what 249 = .ok (.iload 7, 2) := by decide +kernel
theorem dX12_what_251 : decode cX12_what 251 = .ok (.aload_n 0, 1) := by decide +kernel
theorem dX12_what_252 : decode cX12_what 252 = .ok (.getfield 290, 3) := by decide +kernel
theorem dX12_what_255 : decode cX12_what 255 = .ok (.iload 7, 2) := by decide +kernel
theorem dX12_what_257 : decode cX12_what 257 = .ok (.iaload, 1) := by decide +kernel
theorem dX12_what_258 : decode cX12_what 258 = .ok (.iastore, 1) := by decide +kernel
theorem dX12_what_259 : decode cX12_what 259 = .ok (.aload_n 0, 1) := by decide +kernel
theorem dX12_what_260 : decode cX12_what 260 = .ok (.getfield 92, 3) := by decide +kernel
theorem dX12_what_263 : decode cX12_what 263 = .ok (.iload 7, 2) := by decide +kernel
theorem dX12_what_265 : decode cX12_what 265 = .ok (.aload_n 0, 1) := by decide +kernel
theorem dX12_what_266 : decode cX12_what 266 = .ok (.getfield 293, 3) := by decide +kernel
theorem dX12_what_269 : decode cX12_what 269 = .ok (.iload 7, 2) := by decide +kernel
theorem dX12_what_271 : decode cX12_what 271 = .ok (.baload, 1) := by decide +kernel
theorem dX12_what_272 : decode cX12_what 272 = .ok (.bastore, 1) := by decide +kernel
theorem dX12_what_273 : decode cX12_what 273 = .ok (.iinc 7 1, 3) := by decide +kernel
theorem dX12_what_276 : decode cX12_what 276 = .ok (.goto (-38), 3) := by decide +kernel
theorem dX12_what_279 : decode cX12_what 279 = .ok (.iload 6, 2) := by decide +kernel
theorem dX12_what_281 : decode cX12_what 281 = .ok (.ireturn, 1) := by decide +kernel
theorem okX12_what : ab_okM MX12_what 4 := ⟨by decide, ⟨by decide, by decide⟩, ab_in 2745 (by decide +kernel) (by decide +kernel), ab_in 99 (by decide +kernel) (by decide +kernel), by decide +kernel, by decide⟩
set_option maxHeartbeats 4000000 in
set_option maxRecDepth 100000 in
theorem sX12_what_238 (v6 : Int32) (v7 : Int32)  (x : ab_X) (K : Int32 → ab_X → Prop)  (d bc bs : Nat) (hdp : 5 ≤ d)  (h : Lp2 (lX12_what_238 v6 K ) v7 x) : EW MX12_what 238 [(0, .ref 246), (6, .int v6), (7, .int v7)] [] (aS x) d bc bs (liI K) := by
  refine Lp2.use (P := fun v7 x => EW MX12_what 238 [(0, .ref 246), (6, .int v6), (7, .int v7)] [] (aS x) d bc bs (liI K)) (fun L238 v7 x hL238 h => ?_) v7 x h
  unfold lX12_what_238 at h
  refine EW_iload (pc2 := 240) rfl dX12_what_238 2 rfl ?_
  refine EW_bipush (pc2 := 242) (v := 72) rfl dX12_what_240 (by decide) ?_
  refine EW_icmp_ge (tgt := 279) (pc2 := 245) rfl dX12_what_242 (by decide) (fun q => ?_) (fun q => ?_)
  · replace h := h.1 q
    refine EW_iload (pc2 := 281) rfl dX12_what_279 1 rfl ?_
    exact AW_iret rfl dX12_what_281 ⟨_, _, rfl, rfl, h⟩
  · replace h := h.2 q
    refine EW_aload_n (pc2 := 246) rfl dX12_what_245 0 rfl ?_
    refine AW_getr (r := 271) ⟨gfRX12_83, rfl⟩ (pc2 := 249) rfl dX12_what_246 q246 rfl ?_
    refine EW_iload (pc2 := 251) rfl dX12_what_249 2 rfl ?_
    refine EW_aload_n (pc2 := 252) rfl dX12_what_251 0 rfl ?_
    refine AW_getr (r := 335) ⟨gfRX12_290, rfl⟩ (pc2 := 255) rfl dX12_what_252 q246 rfl ?_
    refine EW_iload (pc2 := 257) rfl dX12_what_255 2 rfl ?_
    obtain ⟨b22, h⟩ := h
    refine AW_iald (pc2 := 258) rfl dX12_what_257 q335 b22 ?_
    obtain ⟨b23, h⟩ := h
    refine AW_iast (pc2 := 259) rfl dX12_what_258 q271 b23 ?_
    refine EW_aload_n (pc2 := 260) rfl dX12_what_259 0 rfl ?_
    refine AW_getr (r := 274) ⟨gfRX12_92, rfl⟩ (pc2 := 263) rfl dX12_what_260 q246 rfl ?_
    refine EW_iload (pc2 := 265) rfl dX12_what_263 2 rfl ?_
    refine EW_aload_n (pc2 := 266) rfl dX12_what_265 0 rfl ?_
    refine AW_getr (r := 336) ⟨gfRX12_293, rfl⟩ (pc2 := 269) rfl dX12_what_266 q246 rfl ?_
    refine EW_iload (pc2 := 271) rfl dX12_what_269 2 rfl ?_
    obtain ⟨b24, h⟩ := h
    refine AW_zald (pc2 := 272) rfl dX12_what_271 q336 b24 ?_
    obtain ⟨b25, h⟩ := h
    obtain ⟨z26, h⟩ := h
    refine AW_zast (pc2 := 273) rfl dX12_what_272 q274 b25 z26 ?_
    refine EW_iinc (v7 + 1) (pc2 := 276) rfl dX12_what_273 2 rfl rfl (by decide) [1, 2, 0] [(0, .ref 246), (6, .int v6), (7, .int (v7 + 1))] rfl ?_
    refine EW_goto (tgt := 238) dX12_what_276 (by decide) ?_
    exact hL238 (v7 + 1) (wr (wr x 271 (Int32.toNatClampNeg v7) (x.1 335 (Int32.toNatClampNeg v7))) 274 (Int32.toNatClampNeg v7) ((wr x 271 (Int32.toNatClampNeg v7) (x.1 335 (Int32.toNatClampNeg v7))).1 336 (Int32.toNatClampNeg v7))) h
set_option maxHeartbeats 4000000 in
set_option maxRecDepth 100000 in
theorem sX12_what_193 (v6 : Int32) (v7 : Int32)  (x : ab_X) (K : Int32 → ab_X → Prop)  (d bc bs : Nat) (hdp : 5 ≤ d)  (h : Lp2 (lX12_what_193 v6 K ) v7 x) : EW MX12_what 193 [(0, .ref 246), (6, .int v6), (7, .int v7)] [] (aS x) d bc bs (liI K) := by
  refine Lp2.use (P := fun v7 x => EW MX12_what 193 [(0, .ref 246), (6, .int v6), (7, .int v7)] [] (aS x) d bc bs (liI K)) (fun L193 v7 x hL193 h => ?_) v7 x h
  unfold lX12_what_193 at h
  refine EW_iload (pc2 := 195) rfl dX12_what_193 2 rfl ?_
  refine EW_sipush (pc2 := 198) (v := 288) rfl dX12_what_195 (by decide) ?_
  refine EW_icmp_ge (tgt := 235) (pc2 := 201) rfl dX12_what_198 (by decide) (fun q => ?_) (fun q => ?_)
  · replace h := h.1 q
    refine EW_iconst (pc2 := 236) (v := 0) rfl dX12_what_235 (by decide) ?_
    refine EW_istore (pc2 := 238) rfl dX12_what_236 (by decide) [1, 2, 0] [(0, .ref 246), (6, .int v6), (7, .int 0)] rfl ?_
    exact sX12_what_238 v6 0 x K d bc bs hdp h
  · replace h := h.2 q
    refine EW_aload_n (pc2 := 202) rfl dX12_what_201 0 rfl ?_
    refine AW_getr (r := 266) ⟨gfRX12_68, rfl⟩ (pc2 := 205) rfl dX12_what_202 q246 rfl ?_
    refine EW_iload (pc2 := 207) rfl dX12_what_205 2 rfl ?_
    refine EW_aload_n (pc2 := 208) rfl dX12_what_207 0 rfl ?_
    refine AW_getr (r := 333) ⟨gfRX12_284, rfl⟩ (pc2 := 211) rfl dX12_what_208 q246 rfl ?_
    refine EW_iload (pc2 := 213) rfl dX12_what_211 2 rfl ?_
    obtain ⟨b18, h⟩ := h
    refine AW_iald (pc2 := 214) rfl dX12_what_213 q333 b18 ?_
    obtain ⟨b19, h⟩ := h
    refine AW_iast (pc2 := 215) rfl dX12_what_214 q266 b19 ?_
    refine EW_aload_n (pc2 := 216) rfl dX12_what_215 0 rfl ?_
    refine AW_getr (r := 267) ⟨gfRX12_71, rfl⟩ (pc2 := 219) rfl dX12_what_216 q246 rfl ?_
    refine EW_iload (pc2 := 221) rfl dX12_what_219 2 rfl ?_
    refine EW_aload_n (pc2 := 222) rfl dX12_what_221 0 rfl ?_
    refine AW_getr (r := 334) ⟨gfRX12_287, rfl⟩ (pc2 := 225) rfl dX12_what_222 q246 rfl ?_
    refine EW_iload (pc2 := 227) rfl dX12_what_225 2 rfl ?_
    obtain ⟨b20, h⟩ := h
    refine AW_iald (pc2 := 228) rfl dX12_what_227 q334 b20 ?_
    obtain ⟨b21, h⟩ := h
    refine AW_iast (pc2 := 229) rfl dX12_what_228 q267 b21 ?_
    refine EW_iinc (v7 + 1) (pc2 := 232) rfl dX12_what_229 2 rfl rfl (by decide) [1, 2, 0] [(0, .ref 246), (6, .int v6), (7, .int (v7 + 1))] rfl ?_
    refine EW_goto (tgt := 193) dX12_what_232 (by decide) ?_
    exact hL193 (v7 + 1) (wr (wr x 266 (Int32.toNatClampNeg v7) (x.1 333 (Int32.toNatClampNeg v7))) 267 (Int32.toNatClampNeg v7) ((wr x 266 (Int32.toNatClampNeg v7) (x.1 333 (Int32.toNatClampNeg v7))).1 334 (Int32.toNatClampNeg v7))) h
set_option maxHeartbeats 4000000 in
set_option maxRecDepth 100000 in
theorem sX12_what_150 (v1 : Int32) (v2 : Int32) (v4 : Int32) (v5 : Int32) (v6 : Int32)  (x : ab_X) (K : Int32 → ab_X → Prop)  (d bc bs : Nat) (hdp : 5 ≤ d)  (h : Lp2 (lX12_what_150 v1 v2 v4 v5 K ) v6 x) : EW MX12_what 150 [(0, .ref 246), (1, .int v1), (2, .int v2), (4, .int v4), (5, .int v5), (6, .int v6)] [] (aS x) d bc bs (liI K) := by
  refine Lp2.use (P := fun v6 x => EW MX12_what 150 [(0, .ref 246), (1, .int v1), (2, .int v2), (4, .int v4), (5, .int v5), (6, .int v6)] [] (aS x) d bc bs (liI K)) (fun L150 v6 x hL150 h => ?_) v6 x h
  unfold lX12_what_150 at h
  refine EW_iload (pc2 := 152) rfl dX12_what_150 5 rfl ?_
  refine EW_iload (pc2 := 154) rfl dX12_what_152 3 rfl ?_
  refine EW_icmp_ge (tgt := 168) (pc2 := 157) rfl dX12_what_154 (by decide) (fun q => ?_) (fun q => ?_)
  · replace h := h.1 q
    refine EW_aload_n (pc2 := 169) rfl dX12_what_168 0 rfl ?_
    refine AW_getr (r := 268) ⟨gfRX12_74, rfl⟩ (pc2 := 172) rfl dX12_what_169 q246 rfl ?_
    refine EW_bipush (pc2 := 174) (v := 24) rfl dX12_what_172 (by decide) ?_
    refine EW_iload_n (pc2 := 175) rfl dX12_what_174 1 rfl ?_
    refine EW_imul (pc2 := 176) rfl dX12_what_175 ?_
    refine EW_iload_n (pc2 := 177) rfl dX12_what_176 2 rfl ?_
    refine EW_iadd (pc2 := 178) rfl dX12_what_177 ?_
    refine EW_iconst (pc2 := 179) (v := 0) rfl dX12_what_178 (by decide) ?_
    obtain ⟨b15, h⟩ := h
    refine AW_iast (pc2 := 180) rfl dX12_what_179 q268 b15 ?_
    refine EW_aload_n (pc2 := 181) rfl dX12_what_180 0 rfl ?_
    refine EW_iload_n (pc2 := 182) rfl dX12_what_181 1 rfl ?_
    refine AW_invV (M' := MX12_burntOf) [.int v1] (rest := []) mlRX12_363 okX12_burntOf (pc2 := 185) rfl dX12_what_182 rfl rfl (Nat.le_of_ble_eq_true rfl) (Nat.le_of_ble_eq_true rfl) (d' := 0) (by omega) q246 ⟨by decide, rfl⟩ (EW_mono (fun _ _ hr => ?_) (sX12_burntOf v1  (wr x 268 (Int32.toNatClampNeg ((24 * v1) + v2)) 0) _ _ 0 0 (Nat.le_refl _) h))
    obtain ⟨r16, rfl, rfl, h⟩ := hr
    refine EW_iload (pc2 := 187) rfl dX12_what_185 4 rfl ?_
    refine EW_isub (pc2 := 188) rfl dX12_what_187 ?_
    refine EW_istore (pc2 := 190) rfl dX12_what_188 (by decide) [1, 2, 3, 4, 5, 0] [(0, .ref 246), (1, .int v1), (2, .int v2), (4, .int v4), (5, .int v5), (6, .int (r16 - v5))] rfl ?_
    refine EW_iconst (pc2 := 191) (v := 0) rfl dX12_what_190 (by decide) ?_
    refine EW_istore (pc2 := 193) rfl dX12_what_191 (by decide) [1, 2, 3, 4, 5, 6, 0] [(0, .ref 246), (1, .int v1), (2, .int v2), (4, .int v4), (5, .int v5), (6, .int (r16 - v5)), (7, .int 0)] rfl ?_
    refine EW_ls [0, 5, 6] rfl ?_
    exact sX12_what_193 (r16 - v5) 0 (wr x 268 (Int32.toNatClampNeg ((24 * v1) + v2)) 0) K d bc bs hdp h
  · replace h := h.2 q
    refine EW_aload_n (pc2 := 158) rfl dX12_what_157 0 rfl ?_
    refine EW_iconst (pc2 := 159) (v := 0) rfl dX12_what_158 (by decide) ?_
    refine AW_invV (M' := MX12_burn) [.int 0] (rest := []) mlRX12_586 okX12_burn (pc2 := 162) rfl dX12_what_159 rfl rfl (Nat.le_of_ble_eq_true rfl) (Nat.le_of_ble_eq_true rfl) (d' := 4) (by omega) q246 ⟨by decide, rfl⟩ (EW_mono (fun _ _ hr => ?_) (sX12_burn 0  x _ _ 0 0 (Nat.le_refl _) h))
    obtain ⟨x17, rfl, rfl, h⟩ := hr
    refine EW_iinc (v6 + 1) (pc2 := 165) rfl dX12_what_162 5 rfl rfl (by decide) [1, 2, 3, 4, 5, 0] [(0, .ref 246), (1, .int v1), (2, .int v2), (4, .int v4), (5, .int v5), (6, .int (v6 + 1))] rfl ?_
    refine EW_goto (tgt := 150) dX12_what_165 (by decide) ?_
    exact hL150 (v6 + 1) x17 h
set_option maxHeartbeats 4000000 in
set_option maxRecDepth 100000 in
theorem sX12_what_87 (v1 : Int32) (v2 : Int32) (v3 : Int32) (v4 : Int32) (v5 : Int32)  (x : ab_X) (K : Int32 → ab_X → Prop)  (d bc bs : Nat) (hdp : 5 ≤ d)  (h : Lp2 (lX12_what_87 v1 v2 v3 v4 K ) v5 x) : EW MX12_what 87 [(0, .ref 246), (1, .int v1), (2, .int v2), (3, .int v3), (4, .int v4), (5, .int v5)] [] (aS x) d bc bs (liI K) := by
  refine Lp2.use (P := fun v5 x => EW MX12_what 87 [(0, .ref 246), (1, .int v1), (2, .int v2), (3, .int v3), (4, .int v4), (5, .int v5)] [] (aS x) d bc bs (liI K)) (fun L87 v5 x hL87 h => ?_) v5 x h
  unfold lX12_what_87 at h
  refine EW_iload (pc2 := 89) rfl dX12_what_87 5 rfl ?_
  refine EW_bipush (pc2 := 91) (v := 72) rfl dX12_what_89 (by decide) ?_
  refine EW_icmp_ge (tgt := 128) (pc2 := 94) rfl dX12_what_91 (by decide) (fun q => ?_) (fun q => ?_)
  · replace h := h.1 q
    refine EW_aload_n (pc2 := 129) rfl dX12_what_128 0 rfl ?_
    refine EW_iload_n (pc2 := 130) rfl dX12_what_129 1 rfl ?_
    refine AW_invV (M' := MX12_burntOf) [.int v1] (rest := []) mlRX12_363 okX12_burntOf (pc2 := 133) rfl dX12_what_130 rfl rfl (Nat.le_of_ble_eq_true rfl) (Nat.le_of_ble_eq_true rfl) (d' := 0) (by omega) q246 ⟨by decide, rfl⟩ (EW_mono (fun _ _ hr => ?_) (sX12_burntOf v1  x _ _ 0 0 (Nat.le_refl _) h))
    obtain ⟨r8, rfl, rfl, h⟩ := hr
    refine EW_istore (pc2 := 135) rfl dX12_what_133 (by decide) [1, 2, 3, 4, 5, 0] [(0, .ref 246), (1, .int v1), (2, .int v2), (3, .int v3), (4, .int v4), (5, .int r8)] rfl ?_
    refine EW_aload_n (pc2 := 136) rfl dX12_what_135 0 rfl ?_
    refine AW_getr (r := 268) ⟨gfRX12_74, rfl⟩ (pc2 := 139) rfl dX12_what_136 q246 rfl ?_
    refine EW_bipush (pc2 := 141) (v := 24) rfl dX12_what_139 (by decide) ?_
    refine EW_iload_n (pc2 := 142) rfl dX12_what_141 1 rfl ?_
    refine EW_imul (pc2 := 143) rfl dX12_what_142 ?_
    refine EW_iload_n (pc2 := 144) rfl dX12_what_143 2 rfl ?_
    refine EW_iadd (pc2 := 145) rfl dX12_what_144 ?_
    refine EW_iload_n (pc2 := 146) rfl dX12_what_145 3 rfl ?_
    obtain ⟨b9, h⟩ := h
    refine AW_iast (pc2 := 147) rfl dX12_what_146 q268 b9 ?_
    refine EW_iconst (pc2 := 148) (v := 0) rfl dX12_what_147 (by decide) ?_
    refine EW_istore (pc2 := 150) rfl dX12_what_148 (by decide) [1, 2, 3, 4, 5, 6, 0] [(0, .ref 246), (1, .int v1), (2, .int v2), (3, .int v3), (4, .int v4), (5, .int r8), (6, .int 0)] rfl ?_
    refine EW_ls [0, 1, 2, 4, 5, 6] rfl ?_
    exact sX12_what_150 v1 v2 v4 r8 0 (wr x 268 (Int32.toNatClampNeg ((24 * v1) + v2)) v3) K d bc bs hdp h
  · replace h := h.2 q
    refine EW_aload_n (pc2 := 95) rfl dX12_what_94 0 rfl ?_
    refine AW_getr (r := 335) ⟨gfRX12_290, rfl⟩ (pc2 := 98) rfl dX12_what_95 q246 rfl ?_
    refine EW_iload (pc2 := 100) rfl dX12_what_98 5 rfl ?_
    refine EW_aload_n (pc2 := 101) rfl dX12_what_100 0 rfl ?_
    refine AW_getr (r := 271) ⟨gfRX12_83, rfl⟩ (pc2 := 104) rfl dX12_what_101 q246 rfl ?_
    refine EW_iload (pc2 := 106) rfl dX12_what_104 5 rfl ?_
    obtain ⟨b10, h⟩ := h
    refine AW_iald (pc2 := 107) rfl dX12_what_106 q271 b10 ?_
    obtain ⟨b11, h⟩ := h
    refine AW_iast (pc2 := 108) rfl dX12_what_107 q335 b11 ?_
    refine EW_aload_n (pc2 := 109) rfl dX12_what_108 0 rfl ?_
    refine AW_getr (r := 336) ⟨gfRX12_293, rfl⟩ (pc2 := 112) rfl dX12_what_109 q246 rfl ?_
    refine EW_iload (pc2 := 114) rfl dX12_what_112 5 rfl ?_
    refine EW_aload_n (pc2 := 115) rfl dX12_what_114 0 rfl ?_
    refine AW_getr (r := 274) ⟨gfRX12_92, rfl⟩ (pc2 := 118) rfl dX12_what_115 q246 rfl ?_
    refine EW_iload (pc2 := 120) rfl dX12_what_118 5 rfl ?_
    obtain ⟨b12, h⟩ := h
    refine AW_zald (pc2 := 121) rfl dX12_what_120 q274 b12 ?_
    obtain ⟨b13, h⟩ := h
    obtain ⟨z14, h⟩ := h
    refine AW_zast (pc2 := 122) rfl dX12_what_121 q336 b13 z14 ?_
    refine EW_iinc (v5 + 1) (pc2 := 125) rfl dX12_what_122 5 rfl rfl (by decide) [1, 2, 3, 4, 5, 0] [(0, .ref 246), (1, .int v1), (2, .int v2), (3, .int v3), (4, .int v4), (5, .int (v5 + 1))] rfl ?_
    refine EW_goto (tgt := 87) dX12_what_125 (by decide) ?_
    exact hL87 (v5 + 1) (wr (wr x 335 (Int32.toNatClampNeg v5) (x.1 271 (Int32.toNatClampNeg v5))) 336 (Int32.toNatClampNeg v5) ((wr x 335 (Int32.toNatClampNeg v5) (x.1 271 (Int32.toNatClampNeg v5))).1 274 (Int32.toNatClampNeg v5))) h
set_option maxHeartbeats 4000000 in
set_option maxRecDepth 100000 in
theorem sX12_what_42 (v1 : Int32) (v2 : Int32) (v3 : Int32) (v4 : Int32) (v5 : Int32)  (x : ab_X) (K : Int32 → ab_X → Prop)  (d bc bs : Nat) (hdp : 5 ≤ d)  (h : Lp2 (lX12_what_42 v1 v2 v3 v4 K ) v5 x) : EW MX12_what 42 [(0, .ref 246), (1, .int v1), (2, .int v2), (3, .int v3), (4, .int v4), (5, .int v5)] [] (aS x) d bc bs (liI K) := by
  refine Lp2.use (P := fun v5 x => EW MX12_what 42 [(0, .ref 246), (1, .int v1), (2, .int v2), (3, .int v3), (4, .int v4), (5, .int v5)] [] (aS x) d bc bs (liI K)) (fun L42 v5 x hL42 h => ?_) v5 x h
  unfold lX12_what_42 at h
  refine EW_iload (pc2 := 44) rfl dX12_what_42 5 rfl ?_
  refine EW_sipush (pc2 := 47) (v := 288) rfl dX12_what_44 (by decide) ?_
  refine EW_icmp_ge (tgt := 84) (pc2 := 50) rfl dX12_what_47 (by decide) (fun q => ?_) (fun q => ?_)
  · replace h := h.1 q
    refine EW_iconst (pc2 := 85) (v := 0) rfl dX12_what_84 (by decide) ?_
    refine EW_istore (pc2 := 87) rfl dX12_what_85 (by decide) [1, 2, 3, 4, 5, 0] [(0, .ref 246), (1, .int v1), (2, .int v2), (3, .int v3), (4, .int v4), (5, .int 0)] rfl ?_
    exact sX12_what_87 v1 v2 v3 v4 0 x K d bc bs hdp h
  · replace h := h.2 q
    refine EW_aload_n (pc2 := 51) rfl dX12_what_50 0 rfl ?_
    refine AW_getr (r := 333) ⟨gfRX12_284, rfl⟩ (pc2 := 54) rfl dX12_what_51 q246 rfl ?_
    refine EW_iload (pc2 := 56) rfl dX12_what_54 5 rfl ?_
    refine EW_aload_n (pc2 := 57) rfl dX12_what_56 0 rfl ?_
    refine AW_getr (r := 266) ⟨gfRX12_68, rfl⟩ (pc2 := 60) rfl dX12_what_57 q246 rfl ?_
    refine EW_iload (pc2 := 62) rfl dX12_what_60 5 rfl ?_
    obtain ⟨b4, h⟩ := h
    refine AW_iald (pc2 := 63) rfl dX12_what_62 q266 b4 ?_
    obtain ⟨b5, h⟩ := h
    refine AW_iast (pc2 := 64) rfl dX12_what_63 q333 b5 ?_
    refine EW_aload_n (pc2 := 65) rfl dX12_what_64 0 rfl ?_
    refine AW_getr (r := 334) ⟨gfRX12_287, rfl⟩ (pc2 := 68) rfl dX12_what_65 q246 rfl ?_
    refine EW_iload (pc2 := 70) rfl dX12_what_68 5 rfl ?_
    refine EW_aload_n (pc2 := 71) rfl dX12_what_70 0 rfl ?_
    refine AW_getr (r := 267) ⟨gfRX12_71, rfl⟩ (pc2 := 74) rfl dX12_what_71 q246 rfl ?_
    refine EW_iload (pc2 := 76) rfl dX12_what_74 5 rfl ?_
    obtain ⟨b6, h⟩ := h
    refine AW_iald (pc2 := 77) rfl dX12_what_76 q267 b6 ?_
    obtain ⟨b7, h⟩ := h
    refine AW_iast (pc2 := 78) rfl dX12_what_77 q334 b7 ?_
    refine EW_iinc (v5 + 1) (pc2 := 81) rfl dX12_what_78 5 rfl rfl (by decide) [1, 2, 3, 4, 5, 0] [(0, .ref 246), (1, .int v1), (2, .int v2), (3, .int v3), (4, .int v4), (5, .int (v5 + 1))] rfl ?_
    refine EW_goto (tgt := 42) dX12_what_81 (by decide) ?_
    exact hL42 (v5 + 1) (wr (wr x 333 (Int32.toNatClampNeg v5) (x.1 266 (Int32.toNatClampNeg v5))) 334 (Int32.toNatClampNeg v5) ((wr x 333 (Int32.toNatClampNeg v5) (x.1 266 (Int32.toNatClampNeg v5))).1 267 (Int32.toNatClampNeg v5))) h
set_option maxHeartbeats 4000000 in
set_option maxRecDepth 100000 in
theorem sX12_what (v1 : Int32) (v2 : Int32) (v3 : Int32) (v4 : Int32)  (x : ab_X) (K : Int32 → ab_X → Prop) (d bc bs : Nat) (hdp : 5 ≤ d) (h : wX12_what v1 v2 v3 v4 x K) : EW MX12_what 0 [(0, .ref 246), (1, .int v1), (2, .int v2), (3, .int v3), (4, .int v4)] [] (aS x) d bc bs (liI K) := by
  unfold wX12_what at h
  refine EW_aload_n (pc2 := 1) rfl dX12_what_0 0 rfl ?_
  refine EW_iconst (pc2 := 2) (v := 0) rfl dX12_what_1 (by decide) ?_
  refine AW_puti ⟨gfRX12_297, rfl, rfl⟩ (pc2 := 5) rfl dX12_what_2 q246 ?_
  refine EW_aload_n (pc2 := 6) rfl dX12_what_5 0 rfl ?_
  refine EW_iload_n (pc2 := 7) rfl dX12_what_6 1 rfl ?_
  refine EW_iload_n (pc2 := 8) rfl dX12_what_7 2 rfl ?_
  refine AW_invV (M' := MX12_isRoom) [.int v1, .int v2] (rest := []) mlRX12_354 okX12_isRoom (pc2 := 11) rfl dX12_what_8 rfl rfl (Nat.le_of_ble_eq_true rfl) (Nat.le_of_ble_eq_true rfl) (d' := 1) (by omega) q246 ⟨by decide, rfl⟩ (EW_mono (fun _ _ hr => ?_) (sX12_isRoom v1 v2  (wr x 246 0 0) _ _ 0 0 (Nat.le_refl _) h))
  obtain ⟨r1, rfl, rfl, h⟩ := hr
  refine EW_if_eq (tgt := 37) (pc2 := 14) rfl dX12_what_11 (by decide) (fun q => ?_) (fun q => ?_)
  · replace h := h.1 q
    refine EW_iconst (pc2 := 38) (v := (-1)) rfl dX12_what_37 (by decide) ?_
    exact AW_iret rfl dX12_what_38 ⟨_, _, rfl, rfl, h⟩
  · replace h := h.2 q
    refine EW_iload_n (pc2 := 15) rfl dX12_what_14 3 rfl ?_
    refine EW_iconst (pc2 := 16) (v := 0) rfl dX12_what_15 (by decide) ?_
    refine EW_sipush (pc2 := 19) (v := 500) rfl dX12_what_16 (by decide) ?_
    refine AW_invS (M' := MX12_isIn) [.int v3, .int 0, .int 500] (rest := []) mlRX12_307 okX12_isIn (pc2 := 22) rfl dX12_what_19 rfl rfl (Nat.le_of_ble_eq_true rfl) (Nat.le_of_ble_eq_true rfl) (d' := 0) (by omega) (EW_mono (fun _ _ hr => ?_) (sX12_isIn v3 0 500  (wr x 246 0 0) _ _ 0 0 (Nat.le_refl _) h))
    obtain ⟨r2, rfl, rfl, h⟩ := hr
    refine EW_if_eq (tgt := 37) (pc2 := 25) rfl dX12_what_22 (by decide) (fun q => ?_) (fun q => ?_)
    · replace h := h.1 q
      refine EW_iconst (pc2 := 38) (v := (-1)) rfl dX12_what_37 (by decide) ?_
      exact AW_iret rfl dX12_what_38 ⟨_, _, rfl, rfl, h⟩
    · replace h := h.2 q
      refine EW_iload (pc2 := 27) rfl dX12_what_25 4 rfl ?_
      refine EW_iconst (pc2 := 28) (v := 1) rfl dX12_what_27 (by decide) ?_
      refine EW_sipush (pc2 := 31) (v := 200) rfl dX12_what_28 (by decide) ?_
      refine AW_invS (M' := MX12_isIn) [.int v4, .int 1, .int 200] (rest := []) mlRX12_307 okX12_isIn (pc2 := 34) rfl dX12_what_31 rfl rfl (Nat.le_of_ble_eq_true rfl) (Nat.le_of_ble_eq_true rfl) (d' := 0) (by omega) (EW_mono (fun _ _ hr => ?_) (sX12_isIn v4 1 200  (wr x 246 0 0) _ _ 0 0 (Nat.le_refl _) h))
      obtain ⟨r3, rfl, rfl, h⟩ := hr
      refine EW_if_ne (tgt := 39) (pc2 := 37) rfl dX12_what_34 (by decide) (fun q => ?_) (fun q => ?_)
      · replace h := h.1 q
        refine EW_iconst (pc2 := 40) (v := 0) rfl dX12_what_39 (by decide) ?_
        refine EW_istore (pc2 := 42) rfl dX12_what_40 (by decide) [1, 2, 3, 4, 5, 0] [(0, .ref 246), (1, .int v1), (2, .int v2), (3, .int v3), (4, .int v4), (5, .int 0)] rfl ?_
        exact sX12_what_42 v1 v2 v3 v4 0 (wr x 246 0 0) K d bc bs hdp h
      · replace h := h.2 q
        refine EW_iconst (pc2 := 38) (v := (-1)) rfl dX12_what_37 (by decide) ?_
        exact AW_iret rfl dX12_what_38 ⟨_, _, rfl, rfl, h⟩
abbrev MX12_why : ab_M := (yX12_why, cX12_why, 3, (some .int))
theorem dX12_why_0 : decode cX12_why 0 = .ok (.aload_n 0, 1) := by decide +kernel
theorem dX12_why_1 : decode cX12_why 1 = .ok (.iconst 0, 1) := by decide +kernel
theorem dX12_why_2 : decode cX12_why 2 = .ok (.putfield 297, 3) := by decide +kernel
theorem dX12_why_5 : decode cX12_why 5 = .ok (.iload_n 1, 1) := by decide +kernel
theorem dX12_why_6 : decode cX12_why 6 = .ok (.invokestatic 303, 3) := by decide +kernel
theorem dX12_why_9 : decode cX12_why 9 = .ok (.ifCond .eq 12, 3) := by decide +kernel
theorem dX12_why_12 : decode cX12_why 12 = .ok (.iload_n 2, 1) := by decide +kernel
theorem dX12_why_13 : decode cX12_why 13 = .ok (.iconst 1, 1) := by decide +kernel
theorem dX12_why_14 : decode cX12_why 14 = .ok (.iconst 3, 1) := by decide +kernel
theorem dX12_why_15 : decode cX12_why 15 = .ok (.invokestatic 307, 3) := by decide +kernel
theorem dX12_why_18 : decode cX12_why 18 = .ok (.ifCond .ne 5, 3) := by decide +kernel
theorem dX12_why_21 : decode cX12_why 21 = .ok (.iconst (-1), 1) := by decide +kernel
theorem dX12_why_22 : decode cX12_why 22 = .ok (.ireturn, 1) := by decide +kernel
theorem dX12_why_23 : decode cX12_why 23 = .ok (.aload_n 0, 1) := by decide +kernel
theorem dX12_why_24 : decode cX12_why 24 = .ok (.iload_n 1, 1) := by decide +kernel
theorem dX12_why_25 : decode cX12_why 25 = .ok (.iload_n 2, 1) := by decide +kernel
theorem dX12_why_26 : decode cX12_why 26 = .ok (.invokevirtual 540, 3) := by decide +kernel
theorem dX12_why_29 : decode cX12_why 29 = .ok (.aload_n 0, 1) := by decide +kernel
theorem dX12_why_30 : decode cX12_why 30 = .ok (.getfield 494, 3) := by decide +kernel
theorem dX12_why_33 : decode cX12_why 33 = .ok (.ireturn, 1) := by decide +kernel
theorem okX12_why : ab_okM MX12_why 2 := ⟨by decide, ⟨by decide, by decide⟩, ab_in 2514 (by decide +kernel) (by decide +kernel), ab_in 99 (by decide +kernel) (by decide +kernel), by decide +kernel, by decide⟩
set_option maxHeartbeats 4000000 in
set_option maxRecDepth 100000 in
theorem sX12_why (v1 : Int32) (v2 : Int32)  (x : ab_X) (K : Int32 → ab_X → Prop) (d bc bs : Nat) (hdp : 211 ≤ d) (h : wX12_why v1 v2 x K) : EW MX12_why 0 [(0, .ref 246), (1, .int v1), (2, .int v2)] [] (aS x) d bc bs (liI K) := by
  unfold wX12_why at h
  refine EW_aload_n (pc2 := 1) rfl dX12_why_0 0 rfl ?_
  refine EW_iconst (pc2 := 2) (v := 0) rfl dX12_why_1 (by decide) ?_
  refine AW_puti ⟨gfRX12_297, rfl, rfl⟩ (pc2 := 5) rfl dX12_why_2 q246 ?_
  refine EW_iload_n (pc2 := 6) rfl dX12_why_5 1 rfl ?_
  refine AW_invS (M' := MX12_isCorner) [.int v1] (rest := []) mlRX12_303 okX12_isCorner (pc2 := 9) rfl dX12_why_6 rfl rfl (Nat.le_of_ble_eq_true rfl) (Nat.le_of_ble_eq_true rfl) (d' := 0) (by omega) (EW_mono (fun _ _ hr => ?_) (sX12_isCorner v1  (wr x 246 0 0) _ _ 0 0 (Nat.le_refl _) h))
  obtain ⟨r1, rfl, rfl, h⟩ := hr
  refine EW_if_eq (tgt := 21) (pc2 := 12) rfl dX12_why_9 (by decide) (fun q => ?_) (fun q => ?_)
  · replace h := h.1 q
    refine EW_iconst (pc2 := 22) (v := (-1)) rfl dX12_why_21 (by decide) ?_
    exact AW_iret rfl dX12_why_22 ⟨_, _, rfl, rfl, h⟩
  · replace h := h.2 q
    refine EW_iload_n (pc2 := 13) rfl dX12_why_12 2 rfl ?_
    refine EW_iconst (pc2 := 14) (v := 1) rfl dX12_why_13 (by decide) ?_
    refine EW_iconst (pc2 := 15) (v := 3) rfl dX12_why_14 (by decide) ?_
    refine AW_invS (M' := MX12_isIn) [.int v2, .int 1, .int 3] (rest := []) mlRX12_307 okX12_isIn (pc2 := 18) rfl dX12_why_15 rfl rfl (Nat.le_of_ble_eq_true rfl) (Nat.le_of_ble_eq_true rfl) (d' := 0) (by omega) (EW_mono (fun _ _ hr => ?_) (sX12_isIn v2 1 3  (wr x 246 0 0) _ _ 0 0 (Nat.le_refl _) h))
    obtain ⟨r2, rfl, rfl, h⟩ := hr
    refine EW_if_ne (tgt := 23) (pc2 := 21) rfl dX12_why_18 (by decide) (fun q => ?_) (fun q => ?_)
    · replace h := h.1 q
      refine EW_aload_n (pc2 := 24) rfl dX12_why_23 0 rfl ?_
      refine EW_iload_n (pc2 := 25) rfl dX12_why_24 1 rfl ?_
      refine EW_iload_n (pc2 := 26) rfl dX12_why_25 2 rfl ?_
      refine AW_invV (M' := MX12_askFor) [.int v1, .int v2] (rest := []) mlRX12_540 okX12_askFor (pc2 := 29) rfl dX12_why_26 rfl rfl (Nat.le_of_ble_eq_true rfl) (Nat.le_of_ble_eq_true rfl) (d' := 210) (by omega) q246 ⟨by decide, rfl⟩ (EW_mono (fun _ _ hr => ?_) (sX12_askFor v1 v2  (wr x 246 0 0) _ _ 0 0 (Nat.le_refl _) h))
      obtain ⟨x3, rfl, rfl, h⟩ := hr
      refine EW_aload_n (pc2 := 30) rfl dX12_why_29 0 rfl ?_
      refine AW_geti ⟨gfRX12_494, rfl⟩ (pc2 := 33) rfl dX12_why_30 q246 ?_
      exact AW_iret rfl dX12_why_33 ⟨_, _, rfl, rfl, h⟩
    · replace h := h.2 q
      refine EW_iconst (pc2 := 22) (v := (-1)) rfl dX12_why_21 (by decide) ?_
      exact AW_iret rfl dX12_why_22 ⟨_, _, rfl, rfl, h⟩
