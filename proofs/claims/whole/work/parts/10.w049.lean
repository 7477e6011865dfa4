theorem gfRX12_241 : ab_L RX12 241 12 94 := ⟨by decide, by decide, ab_in 1943 (by decide +kernel) (by decide +kernel)⟩
theorem mlRX12_552 : Cond.methodLink RX12 552 yX12_emptyHome ∈ ab_G ∧ Cond.instanceMethod yX12_emptyHome ∈ ab_G ∧ Cond.selects RX12 yX12_emptyHome yX12_emptyHome ∈ ab_G := ⟨ab_in 2531 (by decide +kernel) (by decide +kernel), ab_in 2533 (by decide +kernel) (by decide +kernel), ab_in 55 (by decide +kernel) (by decide +kernel)⟩
theorem mlRX12_549 : Cond.methodLink RX12 549 yX12_soonest ∈ ab_G ∧ Cond.instanceMethod yX12_soonest ∈ ab_G ∧ Cond.selects RX12 yX12_soonest yX12_soonest ∈ ab_G := ⟨ab_in 2523 (by decide +kernel) (by decide +kernel), ab_in 2525 (by decide +kernel) (by decide +kernel), ab_in 53 (by decide +kernel) (by decide +kernel)⟩
theorem gfRX12_229 : ab_L RX12 229 12 88 := ⟨by decide, by decide, ab_in 1937 (by decide +kernel) (by decide +kernel)⟩
theorem gfRX12_232 : ab_L RX12 232 12 89 := ⟨by decide, by decide, ab_in 1938 (by decide +kernel) (by decide +kernel)⟩
theorem gfRX12_217 : ab_L RX12 217 12 84 := ⟨by decide, by decide, ab_in 1933 (by decide +kernel) (by decide +kernel)⟩
theorem mlRX12_540 : Cond.methodLink RX12 540 yX12_askFor ∈ ab_G ∧ Cond.instanceMethod yX12_askFor ∈ ab_G ∧ Cond.selects RX12 yX12_askFor yX12_askFor ∈ ab_G := ⟨ab_in 2503 (by decide +kernel) (by decide +kernel), ab_in 2505 (by decide +kernel) (by decide +kernel), ab_in 50 (by decide +kernel) (by decide +kernel)⟩
abbrev MX12_answer : ab_M := (yX12_answer, cX12_answer, 6, none)
theorem dX12_answer_0 : decode cX12_answer 0 = .ok (.aload_n 0, 1) := by decide +kernel
theorem dX12_answer_1 : decode cX12_answer 1 = .ok (.aload_n 0, 1) := by decide +kernel
theorem dX12_answer_2 : decode cX12_answer 2 = .ok (.getfield 214, 3) := by decide +kernel
theorem dX12_answer_5 : decode cX12_answer 5 = .ok (.iload_n 1, 1) := by decide +kernel
theorem dX12_answer_6 : decode cX12_answer 6 = .ok (.iaload, 1) := by decide +kernel
theorem dX12_answer_7 : decode cX12_answer 7 = .ok (.aload_n 0, 1) := by decide +kernel
theorem dX12_answer_8 : decode cX12_answer 8 = .ok (.getfield 217, 3) := by decide +kernel
theorem dX12_answer_11 : decode cX12_answer 11 = .ok (.iload_n 1, 1) := by decide +kernel
theorem dX12_answer_12 : decode cX12_answer 12 = .ok (.iaload, 1) := by decide +kernel
theorem dX12_answer_13 : decode cX12_answer 13 = .ok (.invokevirtual 540, 3) := by decide +kernel
theorem dX12_answer_16 : decode cX12_answer 16 = .ok (.iconst 0, 1) := by decide +kernel
theorem dX12_answer_17 : decode cX12_answer 17 = .ok (.istore_n 2, 1) := by decide +kernel
theorem dX12_answer_18 : decode cX12_answer 18 = .ok (.iload_n 2, 1) := by decide +kernel
theorem dX12_answer_19 : decode cX12_answer 19 = .ok (.iconst 5, 1) := by decide +kernel
theorem dX12_answer_20 : decode cX12_answer 20 = .ok (.if_icmp .ge 21, 3) := by decide +kernel
theorem dX12_answer_23 : decode cX12_answer 23 = .ok (.aload_n 0, 1) := by decide +kernel
theorem dX12_answer_24 : decode cX12_answer 24 = .ok (.getfield 241, 3) := by decide +kernel
theorem dX12_answer_27 : decode cX12_answer 27 = .ok (.iload_n 2, 1) := by decide +kernel
theorem dX12_answer_28 : decode cX12_answer 28 = .ok (.aload_n 0, 1) := by decide +kernel
theorem dX12_answer_29 : decode cX12_answer 29 = .ok (.getfield 195, 3) := by decide +kernel
theorem dX12_answer_32 : decode cX12_answer 32 = .ok (.iload_n 2, 1) := by decide +kernel
theorem dX12_answer_33 : decode cX12_answer 33 = .ok (.iaload, 1) := by decide +kernel
theorem dX12_answer_34 : decode cX12_answer 34 = .ok (.iastore, 1) := by decide +kernel
theorem dX12_answer_35 : decode cX12_answer 35 = .ok (.iinc 2 1, 3) := by decide +kernel
theorem dX12_answer_38 : decode cX12_answer 38 = .ok (.goto (-20), 3) := by decide +kernel
theorem dX12_answer_41 : decode cX12_answer 41 = .ok (.iconst 0, 1) := by decide +kernel
theorem dX12_answer_42 : decode cX12_answer 42 = .ok (.istore_n 2, 1) := by decide +kernel
theorem dX12_answer_43 : decode cX12_answer 43 = .ok (.iload_n 2, 1) := by decide +kernel
theorem dX12_answer_44 : decode cX12_answer 44 = .ok (.iconst 3, 1) := by decide +kernel
theorem dX12_answer_45 : decode cX12_answer 45 = .ok (.if_icmp .gt 109, 3) := by decide +kernel
theorem dX12_answer_48 : decode cX12_answer 48 = .ok (.iconst 0, 1) := by decide +kernel
theorem dX12_answer_49 : decode cX12_answer 49 = .ok (.istore_n 3, 1) := by decide +kernel
theorem dX12_answer_50 : decode cX12_answer 50 = .ok (.iload_n 3, 1) := by decide +kernel
theorem dX12_answer_51 : decode cX12_answer 51 = .ok (.aload_n 0, 1) := by decide +kernel
theorem dX12_answer_52 : decode cX12_answer 52 = .ok (.getfield 241, 3) := by decide +kernel
theorem dX12_answer_55 : decode cX12_answer 55 = .ok (.iload_n 2, 1) := by decide +kernel
theorem dX12_answer_56 : decode cX12_answer 56 = .ok (.iaload, 1) := by decide +kernel
theorem dX12_answer_57 : decode cX12_answer 57 = .ok (.if_icmp .ge 91, 3) := by decide +kernel
theorem dX12_answer_60 : decode cX12_answer 60 = .ok (.aload_n 0, 1) := by decide +kernel
theorem dX12_answer_61 : decode cX12_answer 61 = .ok (.iload_n 2, 1) := by decide +kernel
theorem dX12_answer_62 : decode cX12_answer 62 = .ok (.aload_n 0, 1) := by decide +kernel
theorem dX12_answer_63 : decode cX12_answer 63 = .ok (.getfield 214, 3) := by decide +kernel
theorem dX12_answer_66 : decode cX12_answer 66 = .ok (.iload_n 1, 1) := by decide +kernel
theorem dX12_answer_67 : decode cX12_answer 67 = .ok (.iaload, 1) := by decide +kernel
theorem dX12_answer_68 : decode cX12_answer 68 = .ok (.invokevirtual 549, 3) := by decide +kernel
theorem dX12_answer_71 : decode cX12_answer 71 = .ok (.istore 4, 2) := by decide +kernel
theorem dX12_answer_73 : decode cX12_answer 73 = .ok (.iload 4, 2) := by decide +kernel
theorem dX12_answer_75 : decode cX12_answer 75 = .ok (.iconst (-1), 1) := by decide +kernel
theorem dX12_answer_76 : decode cX12_answer 76 = .ok (.if_icmp .ne 16, 3) := by decide +kernel
theorem dX12_answer_79 : decode cX12_answer 79 = .ok (.aload_n 0, 1) := by decide +kernel
theorem dX12_answer_80 : decode cX12_answer 80 = .ok (.getfield 232, 3) := by decide +kernel
theorem dX12_answer_83 : decode cX12_answer 83 = .ok (.iload_n 1, 1) := by decide +kernel
theorem dX12_answer_84 : decode cX12_answer 84 = .ok (.dup2, 1) := by decide +kernel
theorem dX12_answer_85 : decode cX12_answer 85 = .ok (.iaload, 1) := by decide +kernel
theorem dX12_answer_86 : decode cX12_answer 86 = .ok (.iconst 1, 1) := by decide +kernel
theorem dX12_answer_87 : decode cX12_answer 87 = .ok (.iadd, 1) := by decide +kernel
theorem dX12_answer_88 : decode cX12_answer 88 = .ok (.iastore, 1) := by decide +kernel
theorem dX12_answer_89 : decode cX12_answer 89 = .ok (.goto 53, 3) := by decide +kernel
theorem dX12_answer_92 : decode cX12_answer 92 = .ok (.aload_n 0, 1) := by decide +kernel
theorem dX12_answer_93 : decode cX12_answer 93 = .ok (.getfield 128, 3) := by decide +kernel
theorem dX12_answer_96 : decode cX12_answer 96 = .ok (.iload 4, 2) := by decide +kernel
theorem dX12_answer_98 : decode cX12_answer 98 = .ok (.iconst 1, 1) := by decide +kernel
theorem dX12_answer_99 : decode cX12_answer 99 = .ok (.iastore, 1) := by decide +kernel
theorem dX12_answer_100 : decode cX12_answer 100 = .ok (.aload_n 0, 1) := by decide +kernel
theorem dX12_answer_101 : decode cX12_answer 101 = .ok (.getfield 131, 3) := by decide +kernel
theorem dX12_answer_104 : decode cX12_answer 104 = .ok (.iload 4, 2) := by decide +kernel
theorem dX12_answer_106 : decode cX12_answer 106 = .ok (.aload_n 0, 1) := by decide +kernel
theorem dX12_answer_107 : decode cX12_answer 107 = .ok (.getfield 214, 3) := by decide +kernel
theorem dX12_answer_110 : decode cX12_answer 110 = .ok (.iload_n 1, 1) := by decide +kernel
theorem dX12_answer_111 : decode cX12_answer 111 = .ok (.iaload, 1) := by decide +kernel
theorem dX12_answer_112 : decode cX12_answer 112 = .ok (.iastore, 1) := by decide +kernel
theorem dX12_answer_113 : decode cX12_answer 113 = .ok (.aload_n 0, 1) := by decide +kernel
theorem dX12_answer_114 : decode cX12_answer 114 = .ok (.getfield 134, 3) := by decide +kernel
theorem dX12_answer_117 : decode cX12_answer 117 = .ok (.iload 4, 2) := by decide +kernel
theorem dX12_answer_119 : decode cX12_answer 119 = .ok (.aload_n 0, 1) := by decide +kernel
theorem dX12_answer_120 : decode cX12_answer 120 = .ok (.getfield 546, 3) := by decide +kernel
theorem dX12_answer_123 : decode cX12_answer 123 = .ok (.iastore, 1) := by decide +kernel
theorem dX12_answer_124 : decode cX12_answer 124 = .ok (.aload_n 0, 1) := by decide +kernel
theorem dX12_answer_125 : decode cX12_answer 125 = .ok (.getfield 137, 3) := by decide +kernel
theorem dX12_answer_128 : decode cX12_answer 128 = .ok (.iload 4, 2) := by decide +kernel
theorem dX12_answer_130 : decode cX12_answer 130 = .ok (.iload_n 1, 1) := by decide +kernel
theorem dX12_answer_131 : decode cX12_answer 131 = .ok (.iastore, 1) := by decide +kernel
theorem dX12_answer_132 : decode cX12_answer 132 = .ok (.aload_n 0, 1) := by decide +kernel
theorem dX12_answer_133 : decode cX12_answer 133 = .ok (.getfield 229, 3) := by decide +kernel
theorem dX12_answer_136 : decode cX12_answer 136 = .ok (.iload_n 1, 1) := by decide +kernel
theorem dX12_answer_137 : decode cX12_answer 137 = .ok (.dup2, 1) := by decide +kernel
theorem dX12_answer_138 : decode cX12_answer 138 = .ok (.iaload, 1) := by decide +kernel
theorem dX12_answer_139 : decode cX12_answer 139 = .ok (.iconst 1, 1) := by decide +kernel
theorem dX12_answer_140 : decode cX12_answer 140 = .ok (.iadd, 1) := by decide +kernel
theorem dX12_answer_141 : decode cX12_answer 141 = .ok (.iastore, 1) := by decide +kernel
theorem dX12_answer_142 : decode cX12_answer 142 = .ok (.iinc 3 1, 3) := by decide +kernel
theorem dX12_answer_145 : decode cX12_answer 145 = .ok (.goto (-95), 3) := by decide +kernel
theorem dX12_answer_148 : decode cX12_answer 148 = .ok (.iinc 2 1, 3) := by decide +kernel
theorem dX12_answer_151 : decode cX12_answer 151 = .ok (.goto (-108), 3) := by decide +kernel
theorem dX12_answer_154 : decode cX12_answer 154 = .ok (.iconst 1, 1) := by decide +kernel
theorem dX12_answer_155 : decode cX12_answer 155 = .ok (.istore_n 2, 1) := by decide +kernel
theorem dX12_answer_156 : decode cX12_answer 156 = .ok (.iconst 0, 1) := by decide +kernel
theorem dX12_answer_157 : decode cX12_answer 157 = .ok (.istore_n 3, 1) := by decide +kernel
theorem dX12_answer_158 : decode cX12_answer 158 = .ok (.iload_n 3, 1) := by decide +kernel
theorem dX12_answer_159 : decode cX12_answer 159 = .ok (.aload_n 0, 1) := by decide +kernel
theorem dX12_answer_160 : decode cX12_answer 160 = .ok (.getfield 241, 3) := by decide +kernel
theorem dX12_answer_163 : decode cX12_answer 163 = .ok (.iconst 4, 1) := by decide +kernel
theorem dX12_answer_164 : decode cX12_answer 164 = .ok (.iaload, 1) := by decide +kernel
theorem dX12_answer_165 : decode cX12_answer 165 = .ok (.if_icmp .ge 85, 3) := by decide +kernel
theorem dX12_answer_168 : decode cX12_answer 168 = .ok (.iload_n 2, 1) := by decide +kernel
theorem dX12_answer_169 : decode cX12_answer 169 = .ok (.ifCond .eq 81, 3) := by decide +kernel
theorem dX12_answer_172 : decode cX12_answer 172 = .ok (.aload_n 0, 1) := by decide +kernel
theorem dX12_answer_173 : decode cX12_answer 173 = .ok (.invokevirtual 552, 3) := by decide +kernel
theorem dX12_answer_176 : decode cX12_answer 176 = .ok (.istore 4, 2) := by decide +kernel
theorem dX12_answer_178 : decode cX12_answer 178 = .ok (.iload 4, 2) := by decide +kernel
theorem dX12_answer_180 : decode cX12_answer 180 = .ok (.iconst (-1), 1) := by decide +kernel
theorem dX12_answer_181 : decode cX12_answer 181 = .ok (.if_icmp .ne 7, 3) := by decide +kernel
theorem dX12_answer_184 : decode cX12_answer 184 = .ok (.iconst (-1), 1) := by decide +kernel
theorem dX12_answer_185 : decode cX12_answer 185 = .ok (.goto 10, 3) := by decide +kernel
theorem dX12_answer_188 : decode cX12_answer 188 = .ok (.aload_n 0, 1) := by decide +kernel
theorem dX12_answer_189 : decode cX12_answer 189 = .ok (.iconst (-1), 1) := by decide +kernel
theorem dX12_answer_190 : decode cX12_answer 190 = .ok (.iload 4, 2) := by decide +kernel
theorem dX12_answer_192 : decode cX12_answer 192 = .ok (.invokevirtual 549, 3) := by decide +kernel
theorem dX12_answer_195 : decode cX12_answer 195 = .ok (.istore 5, 2) := by decide +kernel
theorem dX12_answer_197 : decode cX12_answer 197 = .ok (.iload 5, 2) := by decide +kernel
theorem dX12_answer_199 : decode cX12_answer 199 = .ok (.iconst (-1), 1) := by decide +kernel
theorem dX12_answer_200 : decode cX12_answer 200 = .ok (.if_icmp .eq 7, 3) := by decide +kernel
theorem dX12_answer_203 : decode cX12_answer 203 = .ok (.iconst 1, 1) := by decide +kernel
theorem dX12_answer_204 : decode cX12_answer 204 = .ok (.goto 4, 3) := by decide +kernel
theorem dX12_answer_207 : decode cX12_answer 207 = .ok (.iconst 0, 1) := by decide +kernel
theorem dX12_answer_208 : decode cX12_answer 208 = .ok (.istore_n 2, 1) := by decide +kernel
theorem dX12_answer_209 : decode cX12_answer 209 = .ok (.iload_n 2, 1) := by decide +kernel
theorem dX12_answer_210 : decode cX12_answer 210 = .ok (.ifCond .ne 6, 3) := by decide +kernel
theorem dX12_answer_213 : decode cX12_answer 213 = .ok (.goto 31, 3) := by decide +kernel
theorem dX12_answer_216 : decode cX12_answer 216 = .ok (.aload_n 0, 1) := by decide +kernel
theorem dX12_answer_217 : decode cX12_answer 217 = .ok (.getfield 128, 3) := by decide +kernel
theorem dX12_answer_220 : decode cX12_answer 220 = .ok (.iload 5, 2) := by decide +kernel
theorem dX12_answer_222 : decode cX12_answer 222 = .ok (.iconst 3, 1) := by decide +kernel
theorem dX12_answer_223 : decode cX12_answer 223 = .ok (.iastore, 1) := by decide +kernel
theorem dX12_answer_224 : decode cX12_answer 224 = .ok (.aload_n 0, 1) := by decide +kernel
theorem dX12_answer_225 : decode cX12_answer 225 = .ok (.getfield 131, 3) := by decide +kernel
theorem dX12_answer_228 : decode cX12_answer 228 = .ok (.iload 5, 2) := by decide +kernel
theorem dX12_answer_230 : decode cX12_answer 230 = .ok (.iload 4, 2) := by decide +kernel
theorem dX12_answer_232 : decode cX12_answer 232 = .ok (.iastore, 1) := by decide +kernel
theorem dX12_answer_233 : decode cX12_answer 233 = .ok (.aload_n 0, 1) := by decide +kernel
theorem dX12_answer_234 : decode cX12_answer 234 = .ok (.getfield 134, 3) := by decide +kernel
theorem dX12_answer_237 : decode cX12_answer 237 = .ok (.iload 5, 2) := by decide +kernel
theorem dX12_answer_239 : decode cX12_answer 239 = .ok (.aload_n 0, 1) := by decide +kernel
theorem dX12_answer_240 : decode cX12_answer 240 = .ok (.getfield 546, 3) := by decide +kernel
theorem dX12_answer_243 : decode cX12_answer 243 = .ok (.iastore, 1) := by decide +kernel
theorem dX12_answer_244 : decode cX12_answer 244 = .ok (.iinc 3 1, 3) := by decide +kernel
theorem dX12_answer_247 : decode cX12_answer 247 = .ok (.goto (-89), 3) := by decide +kernel
theorem dX12_answer_250 : decode cX12_answer 250 = .ok (.return_, 1) := by decide +kernel
theorem okX12_answer : ab_okM MX12_answer 1 := ⟨by decide, ⟨by decide, by decide⟩, ab_in 2522 (by decide +kernel) (by decide +kernel), ab_in 99 (by decide +kernel) (by decide +kernel), by decide +kernel, by decide⟩
set_option maxHeartbeats 4000000 in
set_option maxRecDepth 100000 in
def wX12_answer_208 (v3 : Int32) (v4 : Int32) (v5 : Int32) (s0 : Int32) (x : ab_X) (K : ab_X → Prop) (L158 : Int32 → Int32 → ab_X → Prop) : Prop := ((¬ s0 = 0 → (vp_in v5 16 ∧ vp_in v5 16 ∧ vp_in v5 16 ∧ L158 s0 (v3 + 1) (wr (wr (wr x 286 (Int32.toNatClampNeg v5) 3) 287 (Int32.toNatClampNeg v5) v4) 288 (Int32.toNatClampNeg v5) ((wr (wr x 286 (Int32.toNatClampNeg v5) 3) 287 (Int32.toNatClampNeg v5) v4).1 246 93)))) ∧ (s0 = 0 → L158 s0 (v3 + 1) x))
set_option maxHeartbeats 4000000 in
set_option maxRecDepth 100000 in
theorem sX12_answer_208 (v3 : Int32) (v4 : Int32) (v5 : Int32) (s0 : Int32)  (x : ab_X) (K : ab_X → Prop) (L158 : Int32 → Int32 → ab_X → Prop) (d bc bs : Nat) (hdp : 211 ≤ d) (hL158 : ∀ (v2 : Int32) (v3 : Int32) (x : ab_X), L158 v2 v3 x → EW MX12_answer 158 [(0, .ref 246), (2, .int v2), (3, .int v3)] [] (aS x) d bc bs (liV K)) (h : wX12_answer_208 v3 v4 v5 s0 x K L158) : EW MX12_answer 208 [(0, .ref 246), (3, .int v3), (4, .int v4), (5, .int v5)] [.int s0] (aS x) d bc bs (liV K) := by
  unfold wX12_answer_208 at h
  refine EW_istore_n (pc2 := 209) rfl dX12_answer_208 (by decide) [1, 0, 2, 3, 4] [(0, .ref 246), (2, .int s0), (3, .int v3), (4, .int v4), (5, .int v5)] rfl ?_
  refine EW_iload_n (pc2 := 210) rfl dX12_answer_209 1 rfl ?_
  refine EW_if_ne (tgt := 216) (pc2 := 213) rfl dX12_answer_210 (by decide) (fun q => ?_) (fun q => ?_)
  · replace h := h.1 q
    refine EW_aload_n (pc2 := 217) rfl dX12_answer_216 0 rfl ?_
    refine AW_getr (r := 286) ⟨gfRX12_128, rfl⟩ (pc2 := 220) rfl dX12_answer_217 q246 rfl ?_
    refine EW_iload (pc2 := 222) rfl dX12_answer_220 4 rfl ?_
    refine EW_iconst (pc2 := 223) (v := 3) rfl dX12_answer_222 (by decide) ?_
    obtain ⟨b10, h⟩ := h
    refine AW_iast (pc2 := 224) rfl dX12_answer_223 q286 b10 ?_
    refine EW_aload_n (pc2 := 225) rfl dX12_answer_224 0 rfl ?_
    refine AW_getr (r := 287) ⟨gfRX12_131, rfl⟩ (pc2 := 228) rfl dX12_answer_225 q246 rfl ?_
    refine EW_iload (pc2 := 230) rfl dX12_answer_228 4 rfl ?_
    refine EW_iload (pc2 := 232) rfl dX12_answer_230 3 rfl ?_
    obtain ⟨b11, h⟩ := h
    refine AW_iast (pc2 := 233) rfl dX12_answer_232 q287 b11 ?_
    refine EW_aload_n (pc2 := 234) rfl dX12_answer_233 0 rfl ?_
    refine AW_getr (r := 288) ⟨gfRX12_134, rfl⟩ (pc2 := 237) rfl dX12_answer_234 q246 rfl ?_
    refine EW_iload (pc2 := 239) rfl dX12_answer_237 4 rfl ?_
    refine EW_aload_n (pc2 := 240) rfl dX12_answer_239 0 rfl ?_
    refine AW_geti ⟨gfRX12_546, rfl⟩ (pc2 := 243) rfl dX12_answer_240 q246 ?_
    obtain ⟨b12, h⟩ := h
    refine AW_iast (pc2 := 244) rfl dX12_answer_243 q288 b12 ?_
    refine EW_iinc (v3 + 1) (pc2 := 247) rfl dX12_answer_244 2 rfl rfl (by decide) [1, 2, 0, 3, 4] [(0, .ref 246), (2, .int s0), (3, .int (v3 + 1)), (4, .int v4), (5, .int v5)] rfl ?_
    refine EW_goto (tgt := 158) dX12_answer_247 (by decide) ?_
    refine EW_ls [0, 1, 2] rfl ?_
    exact hL158 s0 (v3 + 1) (wr (wr (wr x 286 (Int32.toNatClampNeg v5) 3) 287 (Int32.toNatClampNeg v5) v4) 288 (Int32.toNatClampNeg v5) ((wr (wr x 286 (Int32.toNatClampNeg v5) 3) 287 (Int32.toNatClampNeg v5) v4).1 246 93)) h
  · replace h := h.2 q
    refine EW_goto (tgt := 244) dX12_answer_213 (by decide) ?_
    refine EW_iinc (v3 + 1) (pc2 := 247) rfl dX12_answer_244 2 rfl rfl (by decide) [1, 2, 0, 3, 4] [(0, .ref 246), (2, .int s0), (3, .int (v3 + 1)), (4, .int v4), (5, .int v5)] rfl ?_
    refine EW_goto (tgt := 158) dX12_answer_247 (by decide) ?_
    refine EW_ls [0, 1, 2] rfl ?_
    exact hL158 s0 (v3 + 1) x h
set_option maxHeartbeats 4000000 in
set_option maxRecDepth 100000 in
def wX12_answer_195 (v3 : Int32) (v4 : Int32) (s0 : Int32) (x : ab_X) (K : ab_X → Prop) (L158 : Int32 → Int32 → ab_X → Prop) : Prop := ((s0 = (-1) → wX12_answer_208 v3 v4 s0 0 x K L158) ∧ (¬ s0 = (-1) → wX12_answer_208 v3 v4 s0 1 x K L158))
set_option maxHeartbeats 4000000 in
set_option maxRecDepth 100000 in
theorem sX12_answer_195 (v3 : Int32) (v4 : Int32) (s0 : Int32)  (x : ab_X) (K : ab_X → Prop) (L158 : Int32 → Int32 → ab_X → Prop) (d bc bs : Nat) (hdp : 211 ≤ d) (hL158 : ∀ (v2 : Int32) (v3 : Int32) (x : ab_X), L158 v2 v3 x → EW MX12_answer 158 [(0, .ref 246), (2, .int v2), (3, .int v3)] [] (aS x) d bc bs (liV K)) (h : wX12_answer_195 v3 v4 s0 x K L158) : EW MX12_answer 195 [(0, .ref 246), (3, .int v3), (4, .int v4)] [.int s0] (aS x) d bc bs (liV K) := by
  unfold wX12_answer_195 at h
  refine EW_istore (pc2 := 197) rfl dX12_answer_195 (by decide) [1, 2, 3, 0] [(0, .ref 246), (3, .int v3), (4, .int v4), (5, .int s0)] rfl ?_
  refine EW_iload (pc2 := 199) rfl dX12_answer_197 3 rfl ?_
  refine EW_iconst (pc2 := 200) (v := (-1)) rfl dX12_answer_199 (by decide) ?_
  refine EW_icmp_eq (tgt := 207) (pc2 := 203) rfl dX12_answer_200 (by decide) (fun q => ?_) (fun q => ?_)
  · replace h := h.1 q
    refine EW_iconst (pc2 := 208) (v := 0) rfl dX12_answer_207 (by decide) ?_
    exact sX12_answer_208 v3 v4 s0 0 x K L158 d bc bs hdp hL158 h
  · replace h := h.2 q
    refine EW_iconst (pc2 := 204) (v := 1) rfl dX12_answer_203 (by decide) ?_
    refine EW_goto (tgt := 208) dX12_answer_204 (by decide) ?_
    exact sX12_answer_208 v3 v4 s0 1 x K L158 d bc bs hdp hL158 h
set_option maxHeartbeats 4000000 in
set_option maxRecDepth 100000 in
def lX12_answer_158  (K : ab_X → Prop)  (L158 : Int32 → Int32 → ab_X → Prop) (v2 : Int32) (v3 : Int32) (x : ab_X) : Prop := (vp_in 4 5 ∧ (((x.1 319 (Int32.toNatClampNeg 4)) ≤ v3 → K x) ∧ (¬ (x.1 319 (Int32.toNatClampNeg 4)) ≤ v3 → ((v2 = 0 → K x) ∧ (¬ v2 = 0 → wX12_emptyHome x (fun r7 => ((¬ r7 = (-1) → wX12_soonest (-1) r7 x (fun r8 x9 => wX12_answer_195 v3 r7 r8 x9 K L158)) ∧ (r7 = (-1) → wX12_answer_195 v3 r7 (-1) x K L158))))))))
set_option maxHeartbeats 4000000 in
set_option maxRecDepth 100000 in
theorem sX12_answer_158 (v2 : Int32) (v3 : Int32)  (x : ab_X) (K : ab_X → Prop)  (d bc bs : Nat) (hdp : 211 ≤ d)  (h : Lp3 (lX12_answer_158  K ) v2 v3 x) : EW MX12_answer 158 [(0, .ref 246), (2, .int v2), (3, .int v3)] [] (aS x) d bc bs (liV K) := by
  refine Lp3.use (P := fun v2 v3 x => EW MX12_answer 158 [(0, .ref 246), (2, .int v2), (3, .int v3)] [] (aS x) d bc bs (liV K)) (fun L158 v2 v3 x hL158 h => ?_) v2 v3 x h
  unfold lX12_answer_158 at h
  refine EW_iload_n (pc2 := 159) rfl dX12_answer_158 2 rfl ?_
  refine EW_aload_n (pc2 := 160) rfl dX12_answer_159 0 rfl ?_
  refine AW_getr (r := 319) ⟨gfRX12_241, rfl⟩ (pc2 := 163) rfl dX12_answer_160 q246 rfl ?_
  refine EW_iconst (pc2 := 164) (v := 4) rfl dX12_answer_163 (by decide) ?_
  obtain ⟨b6, h⟩ := h
  refine AW_iald (pc2 := 165) rfl dX12_answer_164 q319 b6 ?_
  refine EW_icmp_ge (tgt := 250) (pc2 := 168) rfl dX12_answer_165 (by decide) (fun q => ?_) (fun q => ?_)
  · replace h := h.1 q
    exact EW_vret rfl dX12_answer_250 ⟨_, rfl, rfl, h⟩
  · replace h := h.2 q
    refine EW_iload_n (pc2 := 169) rfl dX12_answer_168 1 rfl ?_
    refine EW_if_eq (tgt := 250) (pc2 := 172) rfl dX12_answer_169 (by decide) (fun q => ?_) (fun q => ?_)
    · replace h := h.1 q
      exact EW_vret rfl dX12_answer_250 ⟨_, rfl, rfl, h⟩
    · replace h := h.2 q
      refine EW_aload_n (pc2 := 173) rfl dX12_answer_172 0 rfl ?_
      refine AW_invV (M' := MX12_emptyHome) [] (rest := []) mlRX12_552 okX12_emptyHome (pc2 := 176) rfl dX12_answer_173 rfl rfl (Nat.le_of_ble_eq_true rfl) (Nat.le_of_ble_eq_true rfl) (d' := 0) (by omega) q246 ⟨by decide, rfl⟩ (EW_mono (fun _ _ hr => ?_) (sX12_emptyHome   x _ _ 0 0 (Nat.le_refl _) h))
      obtain ⟨r7, rfl, rfl, h⟩ := hr
      refine EW_istore (pc2 := 178) rfl dX12_answer_176 (by decide) [1, 2, 3, 0] [(0, .ref 246), (2, .int v2), (3, .int v3), (4, .int r7)] rfl ?_
      refine EW_iload (pc2 := 180) rfl dX12_answer_178 3 rfl ?_
      refine EW_iconst (pc2 := 181) (v := (-1)) rfl dX12_answer_180 (by decide) ?_
      refine EW_icmp_ne (tgt := 188) (pc2 := 184) rfl dX12_answer_181 (by decide) (fun q => ?_) (fun q => ?_)
      · replace h := h.1 q
        refine EW_aload_n (pc2 := 189) rfl dX12_answer_188 0 rfl ?_
        refine EW_iconst (pc2 := 190) (v := (-1)) rfl dX12_answer_189 (by decide) ?_
        refine EW_iload (pc2 := 192) rfl dX12_answer_190 3 rfl ?_
        refine AW_invV (M' := MX12_soonest) [.int (-1), .int r7] (rest := []) mlRX12_549 okX12_soonest (pc2 := 195) rfl dX12_answer_192 rfl rfl (Nat.le_of_ble_eq_true rfl) (Nat.le_of_ble_eq_true rfl) (d' := 2) (by omega) q246 ⟨by decide, rfl⟩ (EW_mono (fun _ _ hr => ?_) (sX12_soonest (-1) r7  x _ _ 0 0 (Nat.le_refl _) h))
        obtain ⟨r8, x9, rfl, rfl, h⟩ := hr
        refine EW_ls [0, 2, 3] rfl ?_
        exact sX12_answer_195 v3 r7 r8 x9 K L158 d bc bs hdp hL158 h
      · replace h := h.2 q
        refine EW_iconst (pc2 := 185) (v := (-1)) rfl dX12_answer_184 (by decide) ?_
        refine EW_goto (tgt := 195) dX12_answer_185 (by decide) ?_
        refine EW_ls [0, 2, 3] rfl ?_
        exact sX12_answer_195 v3 r7 (-1) x K L158 d bc bs hdp hL158 h
set_option maxHeartbeats 4000000 in
set_option maxRecDepth 100000 in
def lX12_answer_50 (v1 : Int32) (v2 : Int32) (K : ab_X → Prop) (L43 : Int32 → ab_X → Prop) (L50 : Int32 → ab_X → Prop) (v3 : Int32) (x : ab_X) : Prop := (vp_in v2 5 ∧ (((x.1 319 (Int32.toNatClampNeg v2)) ≤ v3 → L43 (v2 + 1) x) ∧ (¬ (x.1 319 (Int32.toNatClampNeg v2)) ≤ v3 → (vp_in v1 60 ∧ wX12_soonest v2 (x.1 310 (Int32.toNatClampNeg v1)) x (fun r15 x16 => ((¬ r15 = (-1) → (vp_in r15 16 ∧ vp_in v1 60 ∧ vp_in r15 16 ∧ vp_in r15 16 ∧ vp_in r15 16 ∧ vp_in v1 60 ∧ vp_in v1 60 ∧ L50 (v3 + 1) (wr (wr (wr (wr (wr x16 286 (Int32.toNatClampNeg r15) 1) 287 (Int32.toNatClampNeg r15) ((wr x16 286 (Int32.toNatClampNeg r15) 1).1 310 (Int32.toNatClampNeg v1))) 288 (Int32.toNatClampNeg r15) ((wr (wr x16 286 (Int32.toNatClampNeg r15) 1) 287 (Int32.toNatClampNeg r15) ((wr x16 286 (Int32.toNatClampNeg r15) 1).1 310 (Int32.toNatClampNeg v1))).1 246 93)) 289 (Int32.toNatClampNeg r15) v1) 315 (Int32.toNatClampNeg v1) (((wr (wr (wr (wr x16 286 (Int32.toNatClampNeg r15) 1) 287 (Int32.toNatClampNeg r15) ((wr x16 286 (Int32.toNatClampNeg r15) 1).1 310 (Int32.toNatClampNeg v1))) 288 (Int32.toNatClampNeg r15) ((wr (wr x16 286 (Int32.toNatClampNeg r15) 1) 287 (Int32.toNatClampNeg r15) ((wr x16 286 (Int32.toNatClampNeg r15) 1).1 310 (Int32.toNatClampNeg v1))).1 246 93)) 289 (Int32.toNatClampNeg r15) v1).1 315 (Int32.toNatClampNeg v1)) + 1)))) ∧ (r15 = (-1) → (vp_in v1 60 ∧ vp_in v1 60 ∧ L50 (v3 + 1) (wr x16 316 (Int32.toNatClampNeg v1) ((x16.1 316 (Int32.toNatClampNeg v1)) + 1))))))))))
set_option maxHeartbeats 4000000 in
set_option maxRecDepth 100000 in
theorem sX12_answer_50 (v1 : Int32) (v2 : Int32) (v3 : Int32)  (x : ab_X) (K : ab_X → Prop) (L43 : Int32 → ab_X → Prop) (d bc bs : Nat) (hdp : 211 ≤ d) (hL43 : ∀ (v2 : Int32) (x : ab_X), L43 v2 x → EW MX12_answer 43 [(0, .ref 246), (1, .int v1), (2, .int v2)] [] (aS x) d bc bs (liV K)) (h : Lp2 (lX12_answer_50 v1 v2 K L43) v3 x) : EW MX12_answer 50 [(0, .ref 246), (1, .int v1), (2, .int v2), (3, .int v3)] [] (aS x) d bc bs (liV K) := by
  refine Lp2.use (P := fun v3 x => EW MX12_answer 50 [(0, .ref 246), (1, .int v1), (2, .int v2), (3, .int v3)] [] (aS x) d bc bs (liV K)) (fun L50 v3 x hL50 h => ?_) v3 x h
  unfold lX12_answer_50 at h
  refine EW_iload_n (pc2 := 51) rfl dX12_answer_50 3 rfl ?_
  refine EW_aload_n (pc2 := 52) rfl dX12_answer_51 0 rfl ?_
  refine AW_getr (r := 319) ⟨gfRX12_241, rfl⟩ (pc2 := 55) rfl dX12_answer_52 q246 rfl ?_
  refine EW_iload_n (pc2 := 56) rfl dX12_answer_55 2 rfl ?_
  obtain ⟨b13, h⟩ := h
  refine AW_iald (pc2 := 57) rfl dX12_answer_56 q319 b13 ?_
  refine EW_icmp_ge (tgt := 148) (pc2 := 60) rfl dX12_answer_57 (by decide) (fun q => ?_) (fun q => ?_)
  · replace h := h.1 q
    refine EW_iinc (v2 + 1) (pc2 := 151) rfl dX12_answer_148 2 rfl rfl (by decide) [1, 2, 0, 3] [(0, .ref 246), (1, .int v1), (2, .int (v2 + 1)), (3, .int v3)] rfl ?_
    refine EW_goto (tgt := 43) dX12_answer_151 (by decide) ?_
    refine EW_ls [0, 1, 2] rfl ?_
    exact hL43 (v2 + 1) x h
  · replace h := h.2 q
    refine EW_aload_n (pc2 := 61) rfl dX12_answer_60 0 rfl ?_
    refine EW_iload_n (pc2 := 62) rfl dX12_answer_61 2 rfl ?_
    refine EW_aload_n (pc2 := 63) rfl dX12_answer_62 0 rfl ?_
    refine AW_getr (r := 310) ⟨gfRX12_214, rfl⟩ (pc2 := 66) rfl dX12_answer_63 q246 rfl ?_
    refine EW_iload_n (pc2 := 67) rfl dX12_answer_66 1 rfl ?_
    obtain ⟨b14, h⟩ := h
    refine AW_iald (pc2 := 68) rfl dX12_answer_67 q310 b14 ?_
    refine AW_invV (M' := MX12_soonest) [.int v2, .int (x.1 310 (Int32.toNatClampNeg v1))] (rest := []) mlRX12_549 okX12_soonest (pc2 := 71) rfl dX12_answer_68 rfl rfl (Nat.le_of_ble_eq_true rfl) (Nat.le_of_ble_eq_true rfl) (d' := 2) (by omega) q246 ⟨by decide, rfl⟩ (EW_mono (fun _ _ hr => ?_) (sX12_soonest v2 (x.1 310 (Int32.toNatClampNeg v1))  x _ _ 0 0 (Nat.le_refl _) h))
    obtain ⟨r15, x16, rfl, rfl, h⟩ := hr
    refine EW_istore (pc2 := 73) rfl dX12_answer_71 (by decide) [1, 2, 3, 4, 0] [(0, .ref 246), (1, .int v1), (2, .int v2), (3, .int v3), (4, .int r15)] rfl ?_
    refine EW_iload (pc2 := 75) rfl dX12_answer_73 4 rfl ?_
    refine EW_iconst (pc2 := 76) (v := (-1)) rfl dX12_answer_75 (by decide) ?_
    refine EW_icmp_ne (tgt := 92) (pc2 := 79) rfl dX12_answer_76 (by decide) (fun q => ?_) (fun q => ?_)
    · replace h := h.1 q
      refine EW_aload_n (pc2 := 93) rfl dX12_answer_92 0 rfl ?_
      refine AW_getr (r := 286) ⟨gfRX12_128, rfl⟩ (pc2 := 96) rfl dX12_answer_93 q246 rfl ?_
      refine EW_iload (pc2 := 98) rfl dX12_answer_96 4 rfl ?_
      refine EW_iconst (pc2 := 99) (v := 1) rfl dX12_answer_98 (by decide) ?_
      obtain ⟨b17, h⟩ := h
      refine AW_iast (pc2 := 100) rfl dX12_answer_99 q286 b17 ?_
      refine EW_aload_n (pc2 := 101) rfl dX12_answer_100 0 rfl ?_
      refine AW_getr (r := 287) ⟨gfRX12_131, rfl⟩ (pc2 := 104) rfl dX12_answer_101 q246 rfl ?_
      refine EW_iload (pc2 := 106) rfl dX12_answer_104 4 rfl ?_
      refine EW_aload_n (pc2 := 107) rfl dX12_answer_106 0 rfl ?_
      refine AW_getr (r := 310) ⟨gfRX12_214, rfl⟩ (pc2 := 110) rfl dX12_answer_107 q246 rfl ?_
      refine EW_iload_n (pc2 := 111) rfl dX12_answer_110 1 rfl ?_
      obtain ⟨b18, h⟩ := h
      refine AW_iald (pc2 := 112) rfl dX12_answer_111 q310 b18 ?_
      obtain ⟨b19, h⟩ := h
      refine AW_iast (pc2 := 113) rfl dX12_answer_112 q287 b19 ?_
      refine EW_aload_n (pc2 := 114) rfl dX12_answer_113 0 rfl ?_
      refine AW_getr (r := 288) ⟨gfRX12_134, rfl⟩ (pc2 := 117) rfl dX12_answer_114 q246 rfl ?_
      refine EW_iload (pc2 := 119) rfl dX12_answer_117 4 rfl ?_
      refine EW_aload_n (pc2 := 120) rfl dX12_answer_119 0 rfl ?_
      refine AW_geti ⟨gfRX12_546, rfl⟩ (pc2 := 123) rfl dX12_answer_120 q246 ?_
      obtain ⟨b20, h⟩ := h
      refine AW_iast (pc2 := 124) rfl dX12_answer_123 q288 b20 ?_
      refine EW_aload_n (pc2 := 125) rfl dX12_answer_124 0 rfl ?_
      refine AW_getr (r := 289) ⟨gfRX12_137, rfl⟩ (pc2 := 128) rfl dX12_answer_125 q246 rfl ?_
      refine EW_iload (pc2 := 130) rfl dX12_answer_128 4 rfl ?_
      refine EW_iload_n (pc2 := 131) rfl dX12_answer_130 1 rfl ?_
      obtain ⟨b21, h⟩ := h
      refine AW_iast (pc2 := 132) rfl dX12_answer_131 q289 b21 ?_
      refine EW_aload_n (pc2 := 133) rfl dX12_answer_132 0 rfl ?_
      refine AW_getr (r := 315) ⟨gfRX12_229, rfl⟩ (pc2 := 136) rfl dX12_answer_133 q246 rfl ?_
      refine EW_iload_n (pc2 := 137) rfl dX12_answer_136 1 rfl ?_
      refine EW_dup2 (pc2 := 138) rfl dX12_answer_137 rfl rfl ?_
      obtain ⟨b22, h⟩ := h
      refine AW_iald (pc2 := 139) rfl dX12_answer_138 q315 b22 ?_
      refine EW_iconst (pc2 := 140) (v := 1) rfl dX12_answer_139 (by decide) ?_
      refine EW_iadd (pc2 := 141) rfl dX12_answer_140 ?_
      obtain ⟨b23, h⟩ := h
      refine AW_iast (pc2 := 142) rfl dX12_answer_141 q315 b23 ?_
      refine EW_iinc (v3 + 1) (pc2 := 145) rfl dX12_answer_142 3 rfl rfl (by decide) [1, 2, 3, 0, 4] [(0, .ref 246), (1, .int v1), (2, .int v2), (3, .int (v3 + 1)), (4, .int r15)] rfl ?_
      refine EW_goto (tgt := 50) dX12_answer_145 (by decide) ?_
      refine EW_ls [0, 1, 2, 3] rfl ?_
      exact hL50 (v3 + 1) (wr (wr (wr (wr (wr x16 286 (Int32.toNatClampNeg r15) 1) 287 (Int32.toNatClampNeg r15) ((wr x16 286 (Int32.toNatClampNeg r15) 1).1 310 (Int32.toNatClampNeg v1))) 288 (Int32.toNatClampNeg r15) ((wr (wr x16 286 (Int32.toNatClampNeg r15) 1) 287 (Int32.toNatClampNeg r15) ((wr x16 286 (Int32.toNatClampNeg r15) 1).1 310 (Int32.toNatClampNeg v1))).1 246 93)) 289 (Int32.toNatClampNeg r15) v1) 315 (Int32.toNatClampNeg v1) (((wr (wr (wr (wr x16 286 (Int32.toNatClampNeg r15) 1) 287 (Int32.toNatClampNeg r15) ((wr x16 286 (Int32.toNatClampNeg r15) 1).1 310 (Int32.toNatClampNeg v1))) 288 (Int32.toNatClampNeg r15) ((wr (wr x16 286 (Int32.toNatClampNeg r15) 1) 287 (Int32.toNatClampNeg r15) ((wr x16 286 (Int32.toNatClampNeg r15) 1).1 310 (Int32.toNatClampNeg v1))).1 246 93)) 289 (Int32.toNatClampNeg r15) v1).1 315 (Int32.toNatClampNeg v1)) + 1)) h
    · replace h := h.2 q
      refine EW_aload_n (pc2 := 80) rfl dX12_answer_79 0 rfl ?_
      refine AW_getr (r := 316) ⟨gfRX12_232, rfl⟩ (pc2 := 83) rfl dX12_answer_80 q246 rfl ?_
      refine EW_iload_n (pc2 := 84) rfl dX12_answer_83 1 rfl ?_
      refine EW_dup2 (pc2 := 85) rfl dX12_answer_84 rfl rfl ?_
      obtain ⟨b24, h⟩ := h
      refine AW_iald (pc2 := 86) rfl dX12_answer_85 q316 b24 ?_
      refine EW_iconst (pc2 := 87) (v := 1) rfl dX12_answer_86 (by decide) ?_
      refine EW_iadd (pc2 := 88) rfl dX12_answer_87 ?_
      obtain ⟨b25, h⟩ := h
      refine AW_iast (pc2 := 89) rfl dX12_answer_88 q316 b25 ?_
      refine EW_goto (tgt := 142) dX12_answer_89 (by decide) ?_
      refine EW_iinc (v3 + 1) (pc2 := 145) rfl dX12_answer_142 3 rfl rfl (by decide) [1, 2, 3, 0, 4] [(0, .ref 246), (1, .int v1), (2, .int v2), (3, .int (v3 + 1)), (4, .int r15)] rfl ?_
      refine EW_goto (tgt := 50) dX12_answer_145 (by decide) ?_
      refine EW_ls [0, 1, 2, 3] rfl ?_
      exact hL50 (v3 + 1) (wr x16 316 (Int32.toNatClampNeg v1) ((x16.1 316 (Int32.toNatClampNeg v1)) + 1)) h
set_option maxHeartbeats 4000000 in
set_option maxRecDepth 100000 in
def lX12_answer_43 (v1 : Int32) (K : ab_X → Prop)  (L43 : Int32 → ab_X → Prop) (v2 : Int32) (x : ab_X) : Prop := ((3 < v2 → Lp3 (lX12_answer_158 K ) 1 0 x) ∧ (¬ 3 < v2 → Lp2 (lX12_answer_50 v1 v2 K L43) 0 x))
set_option maxHeartbeats 4000000 in
set_option maxRecDepth 100000 in
theorem sX12_answer_43 (v1 : Int32) (v2 : Int32)  (x : ab_X) (K : ab_X → Prop)  (d bc bs : Nat) (hdp : 211 ≤ d)  (h : Lp2 (lX12_answer_43 v1 K ) v2 x) : EW MX12_answer 43 [(0, .ref 246), (1, .int v1), (2, .int v2)] [] (aS x) d bc bs (liV K) := by
  refine Lp2.use (P := fun v2 x => EW MX12_answer 43 [(0, .ref 246), (1, .int v1), (2, .int v2)] [] (aS x) d bc bs (liV K)) (fun L43 v2 x hL43 h => ?_) v2 x h
  unfold lX12_answer_43 at h
  refine EW_iload_n (pc2 := 44) rfl dX12_answer_43 2 rfl ?_
  refine EW_iconst (pc2 := 45) (v := 3) rfl dX12_answer_44 (by decide) ?_
  refine EW_icmp_gt (tgt := 154) (pc2 := 48) rfl dX12_answer_45 (by decide) (fun q => ?_) (fun q => ?_)
  · replace h := h.1 q
    refine EW_iconst (pc2 := 155) (v := 1) rfl dX12_answer_154 (by decide) ?_
    refine EW_istore_n (pc2 := 156) rfl dX12_answer_155 (by decide) [1, 2, 0] [(0, .ref 246), (1, .int v1), (2, .int 1)] rfl ?_
    refine EW_iconst (pc2 := 157) (v := 0) rfl dX12_answer_156 (by decide) ?_
    refine EW_istore_n (pc2 := 158) rfl dX12_answer_157 (by decide) [1, 2, 3, 0] [(0, .ref 246), (1, .int v1), (2, .int 1), (3, .int 0)] rfl ?_
    refine EW_ls [0, 2, 3] rfl ?_
    exact sX12_answer_158 1 0 x K d bc bs hdp h
  · replace h := h.2 q
    refine EW_iconst (pc2 := 49) (v := 0) rfl dX12_answer_48 (by decide) ?_
    refine EW_istore_n (pc2 := 50) rfl dX12_answer_49 (by decide) [1, 2, 3, 0] [(0, .ref 246), (1, .int v1), (2, .int v2), (3, .int 0)] rfl ?_
    exact sX12_answer_50 v1 v2 0 x K L43 d bc bs hdp hL43 h
set_option maxHeartbeats 4000000 in
set_option maxRecDepth 100000 in
def lX12_answer_18 (v1 : Int32) (K : ab_X → Prop)  (L18 : Int32 → ab_X → Prop) (v2 : Int32) (x : ab_X) : Prop := ((5 ≤ v2 → Lp2 (lX12_answer_43 v1 K ) 0 x) ∧ (¬ 5 ≤ v2 → (vp_in v2 5 ∧ vp_in v2 5 ∧ L18 (v2 + 1) (wr x 319 (Int32.toNatClampNeg v2) (x.1 308 (Int32.toNatClampNeg v2))))))
set_option maxHeartbeats 4000000 in
set_option maxRecDepth 100000 in
theorem sX12_answer_18 (v1 : Int32) (v2 : Int32)  (x : ab_X) (K : ab_X → Prop)  (d bc bs : Nat) (hdp : 211 ≤ d)  (h : Lp2 (lX12_answer_18 v1 K ) v2 x) : EW MX12_answer 18 [(0, .ref 246), (1, .int v1), (2, .int v2)] [] (aS x) d bc bs (liV K) := by
  refine Lp2.use (P := fun v2 x => EW MX12_answer 18 [(0, .ref 246), (1, .int v1), (2, .int v2)] [] (aS x) d bc bs (liV K)) (fun L18 v2 x hL18 h => ?_) v2 x h
  unfold lX12_answer_18 at h
  refine EW_iload_n (pc2 := 19) rfl dX12_answer_18 2 rfl ?_
  refine EW_iconst (pc2 := 20) (v := 5) rfl dX12_answer_19 (by decide) ?_
  refine EW_icmp_ge (tgt := 41) (pc2 := 23) rfl dX12_answer_20 (by decide) (fun q => ?_) (fun q => ?_)
  · replace h := h.1 q
    refine EW_iconst (pc2 := 42) (v := 0) rfl dX12_answer_41 (by decide) ?_
    refine EW_istore_n (pc2 := 43) rfl dX12_answer_42 (by decide) [1, 2, 0] [(0, .ref 246), (1, .int v1), (2, .int 0)] rfl ?_
    exact sX12_answer_43 v1 0 x K d bc bs hdp h
  · replace h := h.2 q
    refine EW_aload_n (pc2 := 24) rfl dX12_answer_23 0 rfl ?_
    refine AW_getr (r := 319) ⟨gfRX12_241, rfl⟩ (pc2 := 27) rfl dX12_answer_24 q246 rfl ?_
    refine EW_iload_n (pc2 := 28) rfl dX12_answer_27 2 rfl ?_
    refine EW_aload_n (pc2 := 29) rfl dX12_answer_28 0 rfl ?_
    refine AW_getr (r := 308) ⟨gfRX12_195, rfl⟩ (pc2 := 32) rfl dX12_answer_29 q246 rfl ?_
    refine EW_iload_n (pc2 := 33) rfl dX12_answer_32 2 rfl ?_
    obtain ⟨b4, h⟩ := h
    refine AW_iald (pc2 := 34) rfl dX12_answer_33 q308 b4 ?_
    obtain ⟨b5, h⟩ := h
    refine AW_iast (pc2 := 35) rfl dX12_answer_34 q319 b5 ?_
    refine EW_iinc (v2 + 1) (pc2 := 38) rfl dX12_answer_35 2 rfl rfl (by decide) [1, 2, 0] [(0, .ref 246), (1, .int v1), (2, .int (v2 + 1))] rfl ?_
    refine EW_goto (tgt := 18) dX12_answer_38 (by decide) ?_
    exact hL18 (v2 + 1) (wr x 319 (Int32.toNatClampNeg v2) (x.1 308 (Int32.toNatClampNeg v2))) h
set_option maxHeartbeats 4000000 in
set_option maxRecDepth 100000 in
def wX12_answer (v1 : Int32) (x : ab_X) (K : ab_X → Prop) : Prop := (vp_in v1 60 ∧ vp_in v1 60 ∧ wX12_askFor (x.1 310 (Int32.toNatClampNeg v1)) (x.1 311 (Int32.toNatClampNeg v1)) x (fun x3 => Lp2 (lX12_answer_18 v1 K ) 0 x3))
set_option maxHeartbeats 4000000 in
set_option maxRecDepth 100000 in
theorem sX12_answer (v1 : Int32)  (x : ab_X) (K : ab_X → Prop) (d bc bs : Nat) (hdp : 211 ≤ d) (h : wX12_answer v1 x K) : EW MX12_answer 0 [(0, .ref 246), (1, .int v1)] [] (aS x) d bc bs (liV K) := by
  unfold wX12_answer at h
  refine EW_aload_n (pc2 := 1) rfl dX12_answer_0 0 rfl ?_
  refine EW_aload_n (pc2 := 2) rfl dX12_answer_1 0 rfl ?_
  refine AW_getr (r := 310) ⟨gfRX12_214, rfl⟩ (pc2 := 5) rfl dX12_answer_2 q246 rfl ?_
  refine EW_iload_n (pc2 := 6) rfl dX12_answer_5 1 rfl ?_
  obtain ⟨b1, h⟩ := h
  refine AW_iald (pc2 := 7) rfl dX12_answer_6 q310 b1 ?_
  refine EW_aload_n (pc2 := 8) rfl dX12_answer_7 0 rfl ?_
  refine AW_getr (r := 311) ⟨gfRX12_217, rfl⟩ (pc2 := 11) rfl dX12_answer_8 q246 rfl ?_
  refine EW_iload_n (pc2 := 12) rfl dX12_answer_11 1 rfl ?_
  obtain ⟨b2, h⟩ := h
  refine AW_iald (pc2 := 13) rfl dX12_answer_12 q311 b2 ?_
  refine AW_invV (M' := MX12_askFor) [.int (x.1 310 (Int32.toNatClampNeg v1)), .int (x.1 311 (Int32.toNatClampNeg v1))] (rest := []) mlRX12_540 okX12_askFor (pc2 := 16) rfl dX12_answer_13 rfl rfl (Nat.le_of_ble_eq_true rfl) (Nat.le_of_ble_eq_true rfl) (d' := 210) (by omega) q246 ⟨by decide, rfl⟩ (EW_mono (fun _ _ hr => ?_) (sX12_askFor (x.1 310 (Int32.toNatClampNeg v1)) (x.1 311 (Int32.toNatClampNeg v1))  x _ _ 0 0 (Nat.le_refl _) h))
  obtain ⟨x3, rfl, rfl, h⟩ := hr
  refine EW_iconst (pc2 := 17) (v := 0) rfl dX12_answer_16 (by decide) ?_
  refine EW_istore_n (pc2 := 18) rfl dX12_answer_17 (by decide) [1, 2, 0] [(0, .ref 246), (1, .int v1), (2, .int 0)] rfl ?_
  exact sX12_answer_18 v1 0 x3 K d bc bs hdp h
theorem gfRX12_226 : ab_L RX12 226 12 87 := ⟨by decide, by decide, ab_in 1936 (by decide +kernel) (by decide +kernel)⟩
abbrev MX12_close : ab_M := (yX12_close, cX12_close, 3, none)
theorem dX12_close_0 : decode cX12_close 0 = .ok (.aload_n 0, 1) := by decide +kernel
theorem dX12_close_1 : decode cX12_close 1 = .ok (.getfield 220, 3) := by decide +kernel
theorem dX12_close_4 : decode cX12_close 4 = .ok (.iload_n 1, 1) := by decide +kernel
theorem dX12_close_5 : decode cX12_close 5 = .ok (.iload_n 2, 1) := by decide +kernel
theorem dX12_close_6 : decode cX12_close 6 = .ok (.ifCond .eq 7, 3) := by decide +kernel
theorem dX12_close_9 : decode cX12_close 9 = .ok (.iconst 2, 1) := by decide +kernel
theorem dX12_close_10 : decode cX12_close 10 = .ok (.goto 4, 3) := by decide +kernel
theorem dX12_close_13 : decode cX12_close 13 = .ok (.iconst 1, 1) := by decide +kernel
theorem dX12_close_14 : decode cX12_close 14 = .ok (.iastore, 1) := by decide +kernel
theorem dX12_close_15 : decode cX12_close 15 = .ok (.aload_n 0, 1) := by decide +kernel
theorem dX12_close_16 : decode cX12_close 16 = .ok (.getfield 226, 3) := by decide +kernel
theorem dX12_close_19 : decode cX12_close 19 = .ok (.iload_n 1, 1) := by decide +kernel
theorem dX12_close_20 : decode cX12_close 20 = .ok (.aload_n 0, 1) := by decide +kernel
theorem dX12_close_21 : decode cX12_close 21 = .ok (.getfield 395, 3) := by decide +kernel
theorem dX12_close_24 : decode cX12_close 24 = .ok (.iastore, 1) := by decide +kernel
theorem dX12_close_25 : decode cX12_close 25 = .ok (.return_, 1) := by decide +kernel
theorem okX12_close : ab_okM MX12_close 2 := ⟨by decide, ⟨by decide, by decide⟩, ab_in 2558 (by decide +kernel) (by decide +kernel), ab_in 99 (by decide +kernel) (by decide +kernel), by decide +kernel, by decide⟩
set_option maxHeartbeats 4000000 in
set_option maxRecDepth 100000 in
def wX12_close_14 (v1 : Int32) (s1 : Int32) (s2 : Int32) (x : ab_X) (K : ab_X → Prop)  : Prop := (vp_in s1 60 ∧ vp_in v1 60 ∧ K (wr (wr x 312 (Int32.toNatClampNeg s1) s2) 314 (Int32.toNatClampNeg v1) ((wr x 312 (Int32.toNatClampNeg s1) s2).1 246 1)))
set_option maxHeartbeats 4000000 in
set_option maxRecDepth 100000 in
theorem sX12_close_14 (v1 : Int32) (s1 : Int32) (s2 : Int32)  (x : ab_X) (K : ab_X → Prop)  (d bc bs : Nat) (hdp : 0 ≤ d)  (h : wX12_close_14 v1 s1 s2 x K ) : EW MX12_close 14 [(0, .ref 246), (1, .int v1)] [.int s2, .int s1, .ref 312] (aS x) d bc bs (liV K) := by
  unfold wX12_close_14 at h
  obtain ⟨b1, h⟩ := h
  refine AW_iast (pc2 := 15) rfl dX12_close_14 q312 b1 ?_
  refine EW_aload_n (pc2 := 16) rfl dX12_close_15 0 rfl ?_
  refine AW_getr (r := 314) ⟨gfRX12_226, rfl⟩ (pc2 := 19) rfl dX12_close_16 q246 rfl ?_
  refine EW_iload_n (pc2 := 20) rfl dX12_close_19 1 rfl ?_
  refine EW_aload_n (pc2 := 21) rfl dX12_close_20 0 rfl ?_
  refine AW_geti ⟨gfRX12_395, rfl⟩ (pc2 := 24) rfl dX12_close_21 q246 ?_
  obtain ⟨b2, h⟩ := h
  refine AW_iast (pc2 := 25) rfl dX12_close_24 q314 b2 ?_
  exact EW_vret rfl dX12_close_25 ⟨_, rfl, rfl, h⟩
set_option maxHeartbeats 4000000 in
set_option maxRecDepth 100000 in
def wX12_close (v1 : Int32) (v2 : Int32) (x : ab_X) (K : ab_X → Prop) : Prop := ((v2 = 0 → wX12_close_14 v1 v1 1 x K) ∧ (¬ v2 = 0 → wX12_close_14 v1 v1 2 x K))
set_option maxHeartbeats 4000000 in
set_option maxRecDepth 100000 in
theorem sX12_close (v1 : Int32) (v2 : Int32)  (x : ab_X) (K : ab_X → Prop) (d bc bs : Nat) (hdp : 0 ≤ d) (h : wX12_close v1 v2 x K) : EW MX12_close 0 [(0, .ref 246), (1, .int v1), (2, .int v2)] [] (aS x) d bc bs (liV K) := by
  unfold wX12_close at h
  refine EW_aload_n (pc2 := 1) rfl dX12_close_0 0 rfl ?_
  refine AW_getr (r := 312) ⟨gfRX12_220, rfl⟩ (pc2 := 4) rfl dX12_close_1 q246 rfl ?_
  refine EW_iload_n (pc2 := 5) rfl dX12_close_4 1 rfl ?_
  refine EW_iload_n (pc2 := 6) rfl dX12_close_5 2 rfl ?_
  refine EW_if_eq (tgt := 13) (pc2 := 9) rfl dX12_close_6 (by decide) (fun q => ?_) (fun q => ?_)
  · replace h := h.1 q
    refine EW_iconst (pc2 := 14) (v := 1) rfl dX12_close_13 (by decide) ?_
    refine EW_ls [0, 1] rfl ?_
    exact sX12_close_14 v1 v1 1 x K d bc bs hdp h
  · replace h := h.2 q
    refine EW_iconst (pc2 := 10) (v := 2) rfl dX12_close_9 (by decide) ?_
    refine EW_goto (tgt := 14) dX12_close_10 (by decide) ?_
    refine EW_ls [0, 1] rfl ?_
    exact sX12_close_14 v1 v1 2 x K d bc bs hdp h
abbrev MX12_rests : ab_M := (yX12_rests, cX12_rests, 3, none)
theorem dX12_rests_0 : decode cX12_rests 0 = .ok (.aload_n 0, 1) := by decide +kernel
theorem dX12_rests_1 : decode cX12_rests 1 = .ok (.getfield 128, 3) := by decide +kernel
theorem dX12_rests_4 : decode cX12_rests 4 = .ok (.iload_n 1, 1) := by decide +kernel
theorem dX12_rests_5 : decode cX12_rests 5 = .ok (.iconst 0, 1) := by decide +kernel
theorem dX12_rests_6 : decode cX12_rests 6 = .ok (.iastore, 1) := by decide +kernel
theorem dX12_rests_7 : decode cX12_rests 7 = .ok (.aload_n 0, 1) := by decide +kernel
theorem dX12_rests_8 : decode cX12_rests 8 = .ok (.getfield 131, 3) := by decide +kernel
theorem dX12_rests_11 : decode cX12_rests 11 = .ok (.iload_n 1, 1) := by decide +kernel
theorem dX12_rests_12 : decode cX12_rests 12 = .ok (.iload_n 2, 1) := by decide +kernel
theorem dX12_rests_13 : decode cX12_rests 13 = .ok (.iastore, 1) := by decide +kernel
theorem dX12_rests_14 : decode cX12_rests 14 = .ok (.aload_n 0, 1) := by decide +kernel
theorem dX12_rests_15 : decode cX12_rests 15 = .ok (.getfield 134, 3) := by decide +kernel
theorem dX12_rests_18 : decode cX12_rests 18 = .ok (.iload_n 1, 1) := by decide +kernel
theorem dX12_rests_19 : decode cX12_rests 19 = .ok (.iconst (-1), 1) := by decide +kernel
theorem dX12_rests_20 : decode cX12_rests 20 = .ok (.iastore, 1) := by decide +kernel
theorem dX12_rests_21 : decode cX12_rests 21 = .ok (.aload_n 0, 1) := by decide +kernel
theorem dX12_rests_22 : decode cX12_rests 22 = .ok (.getfield 140, 3) := by decide +kernel
theorem dX12_rests_25 : decode cX12_rests 25 = .ok (.iload_n 1, 1) := by decide +kernel
theorem dX12_rests_26 : decode cX12_rests 26 = .ok (.iconst (-1), 1) := by decide +kernel
theorem dX12_rests_27 : decode cX12_rests 27 = .ok (.iastore, 1) := by decide +kernel
theorem dX12_rests_28 : decode cX12_rests 28 = .ok (.aload_n 0, 1) := by decide +kernel
theorem dX12_rests_29 : decode cX12_rests 29 = .ok (.getfield 143, 3) := by decide +kernel
theorem dX12_rests_32 : decode cX12_rests 32 = .ok (.iload_n 1, 1) := by decide +kernel
theorem dX12_rests_33 : decode cX12_rests 33 = .ok (.iconst (-1), 1) := by decide +kernel
theorem dX12_rests_34 : decode cX12_rests 34 = .ok (.iastore, 1) := by decide +kernel
theorem dX12_rests_35 : decode cX12_rests 35 = .ok (.return_, 1) := by decide +kernel
theorem okX12_rests : ab_okM MX12_rests 2 := ⟨by decide, ⟨by decide, by decide⟩, ab_in 2360 (by decide +kernel) (by decide +kernel), ab_in 99 (by decide +kernel) (by decide +kernel), by decide +kernel, by decide⟩
set_option maxHeartbeats 4000000 in
set_option maxRecDepth 100000 in
def wX12_rests (v1 : Int32) (v2 : Int32) (x : ab_X) (K : ab_X → Prop) : Prop := (vp_in v1 16 ∧ vp_in v1 16 ∧ vp_in v1 16 ∧ vp_in v1 16 ∧ vp_in v1 16 ∧ K (wr (wr (wr (wr (wr x 286 (Int32.toNatClampNeg v1) 0) 287 (Int32.toNatClampNeg v1) v2) 288 (Int32.toNatClampNeg v1) (-1)) 290 (Int32.toNatClampNeg v1) (-1)) 291 (Int32.toNatClampNeg v1) (-1)))
set_option maxHeartbeats 4000000 in
set_option maxRecDepth 100000 in
theorem sX12_rests (v1 : Int32) (v2 : Int32)  (x : ab_X) (K : ab_X → Prop) (d bc bs : Nat) (hdp : 0 ≤ d) (h : wX12_rests v1 v2 x K) : EW MX12_rests 0 [(0, .ref 246), (1, .int v1), (2, .int v2)] [] (aS x) d bc bs (liV K) := by
  unfold wX12_rests at h
  refine EW_aload_n (pc2 := 1) rfl dX12_rests_0 0 rfl ?_
  refine AW_getr (r := 286) ⟨gfRX12_128, rfl⟩ (pc2 := 4) rfl dX12_rests_1 q246 rfl ?_
  refine EW_iload_n (pc2 := 5) rfl dX12_rests_4 1 rfl ?_
  refine EW_iconst (pc2 := 6) (v := 0) rfl dX12_rests_5 (by decide) ?_
  obtain ⟨b1, h⟩ := h
  refine AW_iast (pc2 := 7) rfl dX12_rests_6 q286 b1 ?_
  refine EW_aload_n (pc2 := 8) rfl dX12_rests_7 0 rfl ?_
  refine AW_getr (r := 287) ⟨gfRX12_131, rfl⟩ (pc2 := 11) rfl dX12_rests_8 q246 rfl ?_
  refine EW_iload_n (pc2 := 12) rfl dX12_rests_11 1 rfl ?_
  refine EW_iload_n (pc2 := 13) rfl dX12_rests_12 2 rfl ?_
  obtain ⟨b2, h⟩ := h
  refine AW_iast (pc2 := 14) rfl dX12_rests_13 q287 b2 ?_
  refine EW_aload_n (pc2 := 15) rfl dX12_rests_14 0 rfl ?_
  refine AW_getr (r := 288) ⟨gfRX12_134, rfl⟩ (pc2 := 18) rfl dX12_rests_15 q246 rfl ?_
  refine EW_iload_n (pc2 := 19) rfl dX12_rests_18 1 rfl ?_
  refine EW_iconst (pc2 := 20) (v := (-1)) rfl dX12_rests_19 (by decide) ?_
  obtain ⟨b3, h⟩ := h
  refine AW_iast (pc2 := 21) rfl dX12_rests_20 q288 b3 ?_
  refine EW_aload_n (pc2 := 22) rfl dX12_rests_21 0 rfl ?_
  refine AW_getr (r := 290) ⟨gfRX12_140, rfl⟩ (pc2 := 25) rfl dX12_rests_22 q246 rfl ?_
  refine EW_iload_n (pc2 := 26) rfl dX12_rests_25 1 rfl ?_
  refine EW_iconst (pc2 := 27) (v := (-1)) rfl dX12_rests_26 (by decide) ?_
  obtain ⟨b4, h⟩ := h
  refine AW_iast (pc2 := 28) rfl dX12_rests_27 q290 b4 ?_
  refine EW_aload_n (pc2 := 29) rfl dX12_rests_28 0 rfl ?_
  refine AW_getr (r := 291) ⟨gfRX12_143, rfl⟩ (pc2 := 32) rfl dX12_rests_29 q246 rfl ?_
  refine EW_iload_n (pc2 := 33) rfl dX12_rests_32 1 rfl ?_
  refine EW_iconst (pc2 := 34) (v := (-1)) rfl dX12_rests_33 (by decide) ?_
  obtain ⟨b5, h⟩ := h
  refine AW_iast (pc2 := 35) rfl dX12_rests_34 q291 b5 ?_
  exact EW_vret rfl dX12_rests_35 ⟨_, rfl, rfl, h⟩
theorem mlRX12_401 : Cond.methodLink RX12 401 yX12_rests ∈ ab_G ∧ Cond.instanceMethod yX12_rests ∈ ab_G ∧ Cond.selects RX12 yX12_rests yX12_rests ∈ ab_G := ⟨ab_in 2357 (by decide +kernel) (by decide +kernel), ab_in 2359 (by decide +kernel) (by decide +kernel), ab_in 29 (by decide +kernel) (by decide +kernel)⟩
abbrev MX12_turns : ab_M := (yX12_turns, cX12_turns, 4, none)
theorem dX12_turns_0 : decode cX12_turns 0 = .ok (.aload_n 0, 1) := by decide +kernel
theorem dX12_turns_1 : decode cX12_turns 1 = .ok (.iload_n 2, 1) := by decide +kernel
theorem dX12_turns_2 : decode cX12_turns 2 = .ok (.aload_n 0, 1) := by decide +kernel
theorem dX12_turns_3 : decode cX12_turns 3 = .ok (.getfield 110, 3) := by decide +kernel
theorem dX12_turns_6 : decode cX12_turns 6 = .ok (.iload_n 1, 1) := by decide +kernel
theorem dX12_turns_7 : decode cX12_turns 7 = .ok (.iaload, 1) := by decide +kernel
theorem dX12_turns_8 : decode cX12_turns 8 = .ok (.aload_n 0, 1) := by decide +kernel
theorem dX12_turns_9 : decode cX12_turns 9 = .ok (.getfield 395, 3) := by decide +kernel
theorem dX12_turns_12 : decode cX12_turns 12 = .ok (.aload_n 0, 1) := by decide +kernel
theorem dX12_turns_13 : decode cX12_turns 13 = .ok (.iload_n 1, 1) := by decide +kernel
theorem dX12_turns_14 : decode cX12_turns 14 = .ok (.invokevirtual 398, 3) := by decide +kernel
theorem dX12_turns_17 : decode cX12_turns 17 = .ok (.invokevirtual 324, 3) := by decide +kernel
theorem dX12_turns_20 : decode cX12_turns 20 = .ok (.istore_n 3, 1) := by decide +kernel
theorem dX12_turns_21 : decode cX12_turns 21 = .ok (.aload_n 0, 1) := by decide +kernel
theorem dX12_turns_22 : decode cX12_turns 22 = .ok (.iload_n 1, 1) := by decide +kernel
theorem dX12_turns_23 : decode cX12_turns 23 = .ok (.aload_n 0, 1) := by decide +kernel
theorem dX12_turns_24 : decode cX12_turns 24 = .ok (.getfield 110, 3) := by decide +kernel
theorem dX12_turns_27 : decode cX12_turns 27 = .ok (.iload_n 1, 1) := by decide +kernel
theorem dX12_turns_28 : decode cX12_turns 28 = .ok (.iaload, 1) := by decide +kernel
theorem dX12_turns_29 : decode cX12_turns 29 = .ok (.invokevirtual 401, 3) := by decide +kernel
theorem dX12_turns_32 : decode cX12_turns 32 = .ok (.iload_n 3, 1) := by decide +kernel
theorem dX12_turns_33 : decode cX12_turns 33 = .ok (.iconst (-1), 1) := by decide +kernel
theorem dX12_turns_34 : decode cX12_turns 34 = .ok (.if_icmp .eq 11, 3) := by decide +kernel
theorem dX12_turns_37 : decode cX12_turns 37 = .ok (.iload_n 3, 1) := by decide +kernel
theorem dX12_turns_38 : decode cX12_turns 38 = .ok (.aload_n 0, 1) := by decide +kernel
theorem dX12_turns_39 : decode cX12_turns 39 = .ok (.getfield 395, 3) := by decide +kernel
theorem dX12_turns_42 : decode cX12_turns 42 = .ok (.if_icmp .ne 4, 3) := by decide +kernel
theorem dX12_turns_45 : decode cX12_turns 45 = .ok (.return_, 1) := by decide +kernel
theorem dX12_turns_46 : decode cX12_turns 46 = .ok (.aload_n 0, 1) := by decide +kernel
theorem dX12_turns_47 : decode cX12_turns 47 = .ok (.getfield 128, 3) := by decide +kernel
theorem dX12_turns_50 : decode cX12_turns 50 = .ok (.iload_n 1, 1) := by decide +kernel
theorem dX12_turns_51 : decode cX12_turns 51 = .ok (.iconst 3, 1) := by decide +kernel
theorem dX12_turns_52 : decode cX12_turns 52 = .ok (.iastore, 1) := by decide +kernel
theorem dX12_turns_53 : decode cX12_turns 53 = .ok (.aload_n 0, 1) := by decide +kernel
theorem dX12_turns_54 : decode cX12_turns 54 = .ok (.getfield 134, 3) := by decide +kernel
theorem dX12_turns_57 : decode cX12_turns 57 = .ok (.iload_n 1, 1) := by decide +kernel
theorem dX12_turns_58 : decode cX12_turns 58 = .ok (.iload_n 3, 1) := by decide +kernel
theorem dX12_turns_59 : decode cX12_turns 59 = .ok (.iastore, 1) := by decide +kernel
theorem dX12_turns_60 : decode cX12_turns 60 = .ok (.return_, 1) := by decide +kernel
theorem okX12_turns : ab_okM MX12_turns 2 := ⟨by decide, ⟨by decide, by decide⟩, ab_in 2368 (by decide +kernel) (by decide +kernel), ab_in 99 (by decide +kernel) (by decide +kernel), by decide +kernel, by decide⟩
set_option maxHeartbeats 4000000 in
set_option maxRecDepth 100000 in
def wX12_turns (v1 : Int32) (v2 : Int32) (x : ab_X) (K : ab_X → Prop) : Prop := (vp_in v1 16 ∧ wX12_slowOf v1 x (fun r2 => wX12_comeBy v2 (x.1 280 (Int32.toNatClampNeg v1)) (x.1 246 1) r2 x (fun r3 x4 => (vp_in v1 16 ∧ wX12_rests v1 (x4.1 280 (Int32.toNatClampNeg v1)) x4 (fun x6 => ((r3 = (-1) → K x6) ∧ (¬ r3 = (-1) → ((¬ r3 = (x6.1 246 1) → (vp_in v1 16 ∧ vp_in v1 16 ∧ K (wr (wr x6 286 (Int32.toNatClampNeg v1) 3) 288 (Int32.toNatClampNeg v1) r3))) ∧ (r3 = (x6.1 246 1) → K x6)))))))))
set_option maxHeartbeats 4000000 in
set_option maxRecDepth 100000 in
theorem sX12_turns (v1 : Int32) (v2 : Int32)  (x : ab_X) (K : ab_X → Prop) (d bc bs : Nat) (hdp : 2 ≤ d) (h : wX12_turns v1 v2 x K) : EW MX12_turns 0 [(0, .ref 246), (1, .int v1), (2, .int v2)] [] (aS x) d bc bs (liV K) := by
  unfold wX12_turns at h
  refine EW_aload_n (pc2 := 1) rfl dX12_turns_0 0 rfl ?_
  refine EW_iload_n (pc2 := 2) rfl dX12_turns_1 2 rfl ?_
  refine EW_aload_n (pc2 := 3) rfl dX12_turns_2 0 rfl ?_
  refine AW_getr (r := 280) ⟨gfRX12_110, rfl⟩ (pc2 := 6) rfl dX12_turns_3 q246 rfl ?_
  refine EW_iload_n (pc2 := 7) rfl dX12_turns_6 1 rfl ?_
  obtain ⟨b1, h⟩ := h
  refine AW_iald (pc2 := 8) rfl dX12_turns_7 q280 b1 ?_
  refine EW_aload_n (pc2 := 9) rfl dX12_turns_8 0 rfl ?_
  refine AW_geti ⟨gfRX12_395, rfl⟩ (pc2 := 12) rfl dX12_turns_9 q246 ?_
  refine EW_aload_n (pc2 := 13) rfl dX12_turns_12 0 rfl ?_
  refine EW_iload_n (pc2 := 14) rfl dX12_turns_13 1 rfl ?_
  refine AW_invV (M' := MX12_slowOf) [.int v1] (rest := [.int (x.1 246 1), .int (x.1 280 (Int32.toNatClampNeg v1)), .int v2, .ref 246]) mlRX12_398 okX12_slowOf (pc2 := 17) rfl dX12_turns_14 rfl rfl (Nat.le_of_ble_eq_true rfl) (Nat.le_of_ble_eq_true rfl) (d' := 0) (by omega) q246 ⟨by decide, rfl⟩ (EW_mono (fun _ _ hr => ?_) (sX12_slowOf v1  x _ _ 0 0 (Nat.le_refl _) h))
  obtain ⟨r2, rfl, rfl, h⟩ := hr
  refine AW_invV (M' := MX12_comeBy) [.int v2, .int (x.1 280 (Int32.toNatClampNeg v1)), .int (x.1 246 1), .int r2] (rest := []) mlRX12_324 okX12_comeBy (pc2 := 20) rfl dX12_turns_17 rfl rfl (Nat.le_of_ble_eq_true rfl) (Nat.le_of_ble_eq_true rfl) (d' := 1) (by omega) q246 ⟨by decide, rfl⟩ (EW_mono (fun _ _ hr => ?_) (sX12_comeBy v2 (x.1 280 (Int32.toNatClampNeg v1)) (x.1 246 1) r2  x _ _ 0 0 (Nat.le_refl _) h))
  obtain ⟨r3, x4, rfl, rfl, h⟩ := hr
  refine EW_istore_n (pc2 := 21) rfl dX12_turns_20 (by decide) [1, 2, 3, 0] [(0, .ref 246), (1, .int v1), (2, .int v2), (3, .int r3)] rfl ?_
  refine EW_aload_n (pc2 := 22) rfl dX12_turns_21 0 rfl ?_
  refine EW_iload_n (pc2 := 23) rfl dX12_turns_22 1 rfl ?_
  refine EW_aload_n (pc2 := 24) rfl dX12_turns_23 0 rfl ?_
  refine AW_getr (r := 280) ⟨gfRX12_110, rfl⟩ (pc2 := 27) rfl dX12_turns_24 q246 rfl ?_
  refine EW_iload_n (pc2 := 28) rfl dX12_turns_27 1 rfl ?_
  obtain ⟨b5, h⟩ := h
  refine AW_iald (pc2 := 29) rfl dX12_turns_28 q280 b5 ?_
  refine AW_invV (M' := MX12_rests) [.int v1, .int (x4.1 280 (Int32.toNatClampNeg v1))] (rest := []) mlRX12_401 okX12_rests (pc2 := 32) rfl dX12_turns_29 rfl rfl (Nat.le_of_ble_eq_true rfl) (Nat.le_of_ble_eq_true rfl) (d' := 0) (by omega) q246 ⟨by decide, rfl⟩ (EW_mono (fun _ _ hr => ?_) (sX12_rests v1 (x4.1 280 (Int32.toNatClampNeg v1))  x4 _ _ 0 0 (Nat.le_refl _) h))
  obtain ⟨x6, rfl, rfl, h⟩ := hr
  refine EW_iload_n (pc2 := 33) rfl dX12_turns_32 3 rfl ?_
  refine EW_iconst (pc2 := 34) (v := (-1)) rfl dX12_turns_33 (by decide) ?_
  refine EW_icmp_eq (tgt := 45) (pc2 := 37) rfl dX12_turns_34 (by decide) (fun q => ?_) (fun q => ?_)
  · replace h := h.1 q
    exact EW_vret rfl dX12_turns_45 ⟨_, rfl, rfl, h⟩
  · replace h := h.2 q
    refine EW_iload_n (pc2 := 38) rfl dX12_turns_37 3 rfl ?_
    refine EW_aload_n (pc2 := 39) rfl dX12_turns_38 0 rfl ?_
    refine AW_geti ⟨gfRX12_395, rfl⟩ (pc2 := 42) rfl dX12_turns_39 q246 ?_
    refine EW_icmp_ne (tgt := 46) (pc2 := 45) rfl dX12_turns_42 (by decide) (fun q => ?_) (fun q => ?_)
    · replace h := h.1 q
      refine EW_aload_n (pc2 := 47) rfl dX12_turns_46 0 rfl ?_
      refine AW_getr (r := 286) ⟨gfRX12_128, rfl⟩ (pc2 := 50) rfl dX12_turns_47 q246 rfl ?_
      refine EW_iload_n (pc2 := 51) rfl dX12_turns_50 1 rfl ?_
      refine EW_iconst (pc2 := 52) (v := 3) rfl dX12_turns_51 (by decide) ?_
      obtain ⟨b7, h⟩ := h
      refine AW_iast (pc2 := 53) rfl dX12_turns_52 q286 b7 ?_
      refine EW_aload_n (pc2 := 54) rfl dX12_turns_53 0 rfl ?_
      refine AW_getr (r := 288) ⟨gfRX12_134, rfl⟩ (pc2 := 57) rfl dX12_turns_54 q246 rfl ?_
      refine EW_iload_n (pc2 := 58) rfl dX12_turns_57 1 rfl ?_
      refine EW_iload_n (pc2 := 59) rfl dX12_turns_58 3 rfl ?_
      obtain ⟨b8, h⟩ := h
      refine AW_iast (pc2 := 60) rfl dX12_turns_59 q288 b8 ?_
      exact EW_vret rfl dX12_turns_60 ⟨_, rfl, rfl, h⟩
    · replace h := h.2 q
      exact EW_vret rfl dX12_turns_45 ⟨_, rfl, rfl, h⟩
theorem gfRX12_41 : ab_L RX12 41 12 13 := ⟨by decide, by decide, ab_in 1862 (by decide +kernel) (by decide +kernel)⟩
abbrev MX12_floorOf : ab_M := (yX12_floorOf, cX12_floorOf, 3, (some .int))
theorem dX12_floorOf_0 : decode cX12_floorOf 0 = .ok (.iload_n 2, 1) := by decide +kernel
theorem dX12_floorOf_1 : decode cX12_floorOf 1 = .ok (.aload_n 0, 1) := by decide +kernel
theorem dX12_floorOf_2 : decode cX12_floorOf 2 = .ok (.getfield 41, 3) := by decide +kernel
theorem dX12_floorOf_5 : decode cX12_floorOf 5 = .ok (.iload_n 1, 1) := by decide +kernel
theorem dX12_floorOf_6 : decode cX12_floorOf 6 = .ok (.iaload, 1) := by decide +kernel
theorem dX12_floorOf_7 : decode cX12_floorOf 7 = .ok (.idiv, 1) := by decide +kernel
theorem dX12_floorOf_8 : decode cX12_floorOf 8 = .ok (.ireturn, 1) := by decide +kernel
theorem okX12_floorOf : ab_okM MX12_floorOf 2 := ⟨by decide, ⟨by decide, by decide⟩, ab_in 2303 (by decide +kernel) (by decide +kernel), ab_in 99 (by decide +kernel) (by decide +kernel), by decide +kernel, by decide⟩
set_option maxHeartbeats 4000000 in
set_option maxRecDepth 100000 in
def wX12_floorOf (v1 : Int32) (v2 : Int32) (x : ab_X) (K : Int32 → Prop) : Prop := (vp_in v1 12 ∧ ¬ (x.1 257 (Int32.toNatClampNeg v1)) = 0 ∧ K (v2 / (x.1 257 (Int32.toNatClampNeg v1))))
set_option maxHeartbeats 4000000 in
set_option maxRecDepth 100000 in
theorem sX12_floorOf (v1 : Int32) (v2 : Int32)  (x : ab_X) (K : Int32 → Prop) (d bc bs : Nat) (hdp : 0 ≤ d) (h : wX12_floorOf v1 v2 x K) : EW MX12_floorOf 0 [(0, .ref 246), (1, .int v1), (2, .int v2)] [] (aS x) d bc bs (liP x K) := by
  unfold wX12_floorOf at h
  refine EW_iload_n (pc2 := 1) rfl dX12_floorOf_0 2 rfl ?_
  refine EW_aload_n (pc2 := 2) rfl dX12_floorOf_1 0 rfl ?_
  refine AW_getr (r := 257) ⟨gfRX12_41, rfl⟩ (pc2 := 5) rfl dX12_floorOf_2 q246 rfl ?_
  refine EW_iload_n (pc2 := 6) rfl dX12_floorOf_5 1 rfl ?_
  obtain ⟨b1, h⟩ := h
  refine AW_iald (pc2 := 7) rfl dX12_floorOf_6 q257 b1 ?_
  obtain ⟨hz, h⟩ := h
  refine EW_idiv (pc2 := 8) rfl dX12_floorOf_7 hz ?_
  exact AW_iret rfl dX12_floorOf_8 ⟨_, rfl, rfl, h⟩
