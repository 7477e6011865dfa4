theorem mlRX12_509 : Cond.methodLink RX12 509 yX12_clause ∈ ab_G ∧ Cond.instanceMethod yX12_clause ∈ ab_G ∧ Cond.selects RX12 yX12_clause yX12_clause ∈ ab_G := ⟨ab_in 2471 (by decide +kernel) (by decide +kernel), ab_in 2473 (by decide +kernel) (by decide +kernel), ab_in 48 (by decide +kernel) (by decide +kernel)⟩
abbrev MX12_goThrough : ab_M := (yX12_goThrough, cX12_goThrough, 7, (some .boolean))
theorem dX12_goThrough_0 : decode cX12_goThrough 0 = .ok (.aload_n 0, 1) := by decide +kernel
theorem dX12_goThrough_1 : decode cX12_goThrough 1 = .ok (.aload_n 2, 1) := by decide +kernel
theorem dX12_goThrough_2 : decode cX12_goThrough 2 = .ok (.putfield 205, 3) := by decide +kernel
theorem dX12_goThrough_5 : decode cX12_goThrough 5 = .ok (.aload_n 0, 1) := by decide +kernel
theorem dX12_goThrough_6 : decode cX12_goThrough 6 = .ok (.iload_n 3, 1) := by decide +kernel
theorem dX12_goThrough_7 : decode cX12_goThrough 7 = .ok (.putfield 429, 3) := by decide +kernel
theorem dX12_goThrough_10 : decode cX12_goThrough 10 = .ok (.aload_n 0, 1) := by decide +kernel
theorem dX12_goThrough_11 : decode cX12_goThrough 11 = .ok (.iload 4, 2) := by decide +kernel
theorem dX12_goThrough_13 : decode cX12_goThrough 13 = .ok (.putfield 426, 3) := by decide +kernel
theorem dX12_goThrough_16 : decode cX12_goThrough 16 = .ok (.aload_n 0, 1) := by decide +kernel
theorem dX12_goThrough_17 : decode cX12_goThrough 17 = .ok (.iconst 0, 1) := by decide +kernel
theorem dX12_goThrough_18 : decode cX12_goThrough 18 = .ok (.putfield 423, 3) := by decide +kernel
theorem dX12_goThrough_21 : decode cX12_goThrough 21 = .ok (.aload_n 0, 1) := by decide +kernel
theorem dX12_goThrough_22 : decode cX12_goThrough 22 = .ok (.iconst (-1), 1) := by decide +kernel
theorem dX12_goThrough_23 : decode cX12_goThrough 23 = .ok (.putfield 432, 3) := by decide +kernel
theorem dX12_goThrough_26 : decode cX12_goThrough 26 = .ok (.aload_n 0, 1) := by decide +kernel
theorem dX12_goThrough_27 : decode cX12_goThrough 27 = .ok (.iconst 0, 1) := by decide +kernel
theorem dX12_goThrough_28 : decode cX12_goThrough 28 = .ok (.putfield 435, 3) := by decide +kernel
theorem dX12_goThrough_31 : decode cX12_goThrough 31 = .ok (.aload_n 0, 1) := by decide +kernel
theorem dX12_goThrough_32 : decode cX12_goThrough 32 = .ok (.iconst 0, 1) := by decide +kernel
theorem dX12_goThrough_33 : decode cX12_goThrough 33 = .ok (.putfield 497, 3) := by decide +kernel
theorem dX12_goThrough_36 : decode cX12_goThrough 36 = .ok (.aload_n 0, 1) := by decide +kernel
theorem dX12_goThrough_37 : decode cX12_goThrough 37 = .ok (.iconst 0, 1) := by decide +kernel
theorem dX12_goThrough_38 : decode cX12_goThrough 38 = .ok (.putfield 494, 3) := by decide +kernel
theorem dX12_goThrough_41 : decode cX12_goThrough 41 = .ok (.iconst 0, 1) := by decide +kernel
theorem dX12_goThrough_42 : decode cX12_goThrough 42 = .ok (.istore 5, 2) := by decide +kernel
theorem dX12_goThrough_44 : decode cX12_goThrough 44 = .ok (.iload 5, 2) := by decide +kernel
theorem dX12_goThrough_46 : decode cX12_goThrough 46 = .ok (.iconst 5, 1) := by decide +kernel
theorem dX12_goThrough_47 : decode cX12_goThrough 47 = .ok (.if_icmp .ge 17, 3) := by decide +kernel
theorem dX12_goThrough_50 : decode cX12_goThrough 50 = .ok (.aload_n 0, 1) := by decide +kernel
theorem dX12_goThrough_51 : decode cX12_goThrough 51 = .ok (.getfield 195, 3) := by decide +kernel
theorem dX12_goThrough_54 : decode cX12_goThrough 54 = .ok (.iload 5, 2) := by decide +kernel
theorem dX12_goThrough_56 : decode cX12_goThrough 56 = .ok (.iconst 0, 1) := by decide +kernel
theorem dX12_goThrough_57 : decode cX12_goThrough 57 = .ok (.iastore, 1) := by decide +kernel
theorem dX12_goThrough_58 : decode cX12_goThrough 58 = .ok (.iinc 5 1, 3) := by decide +kernel
theorem dX12_goThrough_61 : decode cX12_goThrough 61 = .ok (.goto (-17), 3) := by decide +kernel
theorem dX12_goThrough_64 : decode cX12_goThrough 64 = .ok (.aload_n 0, 1) := by decide +kernel
theorem dX12_goThrough_65 : decode cX12_goThrough 65 = .ok (.iload_n 1, 1) := by decide +kernel
theorem dX12_goThrough_66 : decode cX12_goThrough 66 = .ok (.ifCond .ne 9, 3) := by decide +kernel
theorem dX12_goThrough_69 : decode cX12_goThrough 69 = .ok (.ldc_w 503, 3) := by decide +kernel
theorem dX12_goThrough_72 : decode cX12_goThrough 72 = .ok (.goto 17, 3) := by decide +kernel
theorem dX12_goThrough_75 : decode cX12_goThrough 75 = .ok (.iload_n 1, 1) := by decide +kernel
theorem dX12_goThrough_76 : decode cX12_goThrough 76 = .ok (.iconst 1, 1) := by decide +kernel
theorem dX12_goThrough_77 : decode cX12_goThrough 77 = .ok (.if_icmp .ne 9, 3) := by decide +kernel
theorem dX12_goThrough_80 : decode cX12_goThrough 80 = .ok (.ldc_w 505, 3) := by decide +kernel
theorem dX12_goThrough_83 : decode cX12_goThrough 83 = .ok (.goto 6, 3) := by decide +kernel
theorem dX12_goThrough_86 : decode cX12_goThrough 86 = .ok (.ldc_w 507, 3) := by decide +kernel
theorem dX12_goThrough_89 : decode cX12_goThrough 89 = .ok (.putfield 210, 3) := by decide +kernel
theorem dX12_goThrough_92 : decode cX12_goThrough 92 = .ok (.iload_n 1, 1) := by decide +kernel
theorem dX12_goThrough_93 : decode cX12_goThrough 93 = .ok (.iconst 1, 1) := by decide +kernel
theorem dX12_goThrough_94 : decode cX12_goThrough 94 = .ok (.if_icmp .ne 33, 3) := by decide +kernel
theorem dX12_goThrough_97 : decode cX12_goThrough 97 = .ok (.aload_n 0, 1) := by decide +kernel
theorem dX12_goThrough_98 : decode cX12_goThrough 98 = .ok (.invokevirtual 488, 3) := by decide +kernel
theorem dX12_goThrough_101 : decode cX12_goThrough 101 = .ok (.istore 5, 2) := by decide +kernel
theorem dX12_goThrough_103 : decode cX12_goThrough 103 = .ok (.aload_n 0, 1) := by decide +kernel
theorem dX12_goThrough_104 : decode cX12_goThrough 104 = .ok (.getfield 432, 3) := by decide +kernel
theorem dX12_goThrough_107 : decode cX12_goThrough 107 = .ok (.iconst (-1), 1) := by decide +kernel
theorem dX12_goThrough_108 : decode cX12_goThrough 108 = .ok (.if_icmp .ne 16, 3) := by decide +kernel
theorem dX12_goThrough_111 : decode cX12_goThrough 111 = .ok (.aload_n 0, 1) := by decide +kernel
theorem dX12_goThrough_112 : decode cX12_goThrough 112 = .ok (.invokevirtual 442, 3) := by decide +kernel
theorem dX12_goThrough_115 : decode cX12_goThrough 115 = .ok (.iconst (-1), 1) := by decide +kernel
theorem dX12_goThrough_116 : decode cX12_goThrough 116 = .ok (.if_icmp .eq 8, 3) := by decide +kernel
theorem dX12_goThrough_119 : decode cX12_goThrough 119 = .ok (.aload_n 0, 1) := by decide +kernel
theorem dX12_goThrough_120 : decode cX12_goThrough 120 = .ok (.invokevirtual 438, 3) := by decide +kernel
theorem dX12_goThrough_123 : decode cX12_goThrough 123 = .ok (.pop, 1) := by decide +kernel
theorem dX12_goThrough_124 : decode cX12_goThrough 124 = .ok (.iload 5, 2) := by decide +kernel
theorem dX12_goThrough_126 : decode cX12_goThrough 126 = .ok (.ireturn, 1) := by decide +kernel
theorem dX12_goThrough_127 : decode cX12_goThrough 127 = .ok (.iconst 0, 1) := by decide +kernel
theorem dX12_goThrough_128 : decode cX12_goThrough 128 = .ok (.istore 5, 2) := by decide +kernel
theorem dX12_goThrough_130 : decode cX12_goThrough 130 = .ok (.iconst 1, 1) := by decide +kernel
theorem dX12_goThrough_131 : decode cX12_goThrough 131 = .ok (.istore 6, 2) := by decide +kernel
theorem dX12_goThrough_133 : decode cX12_goThrough 133 = .ok (.iload 6, 2) := by decide +kernel
theorem dX12_goThrough_135 : decode cX12_goThrough 135 = .ok (.ifCond .eq 64, 3) := by decide +kernel
theorem dX12_goThrough_138 : decode cX12_goThrough 138 = .ok (.aload_n 0, 1) := by decide +kernel
theorem dX12_goThrough_139 : decode cX12_goThrough 139 = .ok (.iload_n 1, 1) := by decide +kernel
theorem dX12_goThrough_140 : decode cX12_goThrough 140 = .ok (.iconst 2, 1) := by decide +kernel
theorem dX12_goThrough_141 : decode cX12_goThrough 141 = .ok (.if_icmp .ne 7, 3) := by decide +kernel
theorem dX12_goThrough_144 : decode cX12_goThrough 144 = .ok (.iconst 1, 1) := by decide +kernel
theorem dX12_goThrough_145 : decode cX12_goThrough 145 = .ok (.goto 4, 3) := by decide +kernel
theorem dX12_goThrough_148 : decode cX12_goThrough 148 = .ok (.iconst 0, 1) := by decide +kernel
theorem dX12_goThrough_149 : decode cX12_goThrough 149 = .ok (.iload 5, 2) := by decide +kernel
theorem dX12_goThrough_151 : decode cX12_goThrough 151 = .ok (.invokevirtual 509, 3) := by decide +kernel
theorem dX12_goThrough_154 : decode cX12_goThrough 154 = .ok (.iinc 5 1, 3) := by decide +kernel
theorem dX12_goThrough_157 : decode cX12_goThrough 157 = .ok (.aload_n 0, 1) := by decide +kernel
theorem dX12_goThrough_158 : decode cX12_goThrough 158 = .ok (.getfield 432, 3) := by decide +kernel
theorem dX12_goThrough_161 : decode cX12_goThrough 161 = .ok (.iconst (-1), 1) := by decide +kernel
theorem dX12_goThrough_162 : decode cX12_goThrough 162 = .ok (.if_icmp .ne 16, 3) := by decide +kernel
theorem dX12_goThrough_165 : decode cX12_goThrough 165 = .ok (.aload_n 0, 1) := by decide +kernel
theorem dX12_goThrough_166 : decode cX12_goThrough 166 = .ok (.invokevirtual 442, 3) := by decide +kernel
theorem dX12_goThrough_169 : decode cX12_goThrough 169 = .ok (.bipush 59, 2) := by decide +kernel
theorem dX12_goThrough_171 : decode cX12_goThrough 171 = .ok (.if_icmp .ne 7, 3) := by decide +kernel
theorem dX12_goThrough_174 : decode cX12_goThrough 174 = .ok (.iconst 1, 1) := by decide +kernel
theorem dX12_goThrough_175 : decode cX12_goThrough 175 = .ok (.goto 4, 3) := by decide +kernel
theorem dX12_goThrough_178 : decode cX12_goThrough 178 = .ok (.iconst 0, 1) := by decide +kernel
theorem dX12_goThrough_179 : decode cX12_goThrough 179 = .ok (.istore 6, 2) := by decide +kernel
theorem dX12_goThrough_181 : decode cX12_goThrough 181 = .ok (.iload 6, 2) := by decide +kernel
theorem dX12_goThrough_183 : decode cX12_goThrough 183 = .ok (.ifCond .eq (-50), 3) := by decide +kernel
theorem dX12_goThrough_186 : decode cX12_goThrough 186 = .ok (.aload_n 0, 1) := by decide +kernel
theorem dX12_goThrough_187 : decode cX12_goThrough 187 = .ok (.dup, 1) := by decide +kernel
theorem dX12_goThrough_188 : decode cX12_goThrough 188 = .ok (.getfield 423, 3) := by decide +kernel
theorem dX12_goThrough_191 : decode cX12_goThrough 191 = .ok (.iconst 1, 1) := by decide +kernel
theorem dX12_goThrough_192 : decode cX12_goThrough 192 = .ok (.iadd, 1) := by decide +kernel
theorem dX12_goThrough_193 : decode cX12_goThrough 193 = .ok (.putfield 423, 3) := by decide +kernel
theorem dX12_goThrough_196 : decode cX12_goThrough 196 = .ok (.goto (-63), 3) := by decide +kernel
theorem dX12_goThrough_199 : decode cX12_goThrough 199 = .ok (.aload_n 0, 1) := by decide +kernel
theorem dX12_goThrough_200 : decode cX12_goThrough 200 = .ok (.getfield 432, 3) := by decide +kernel
theorem dX12_goThrough_203 : decode cX12_goThrough 203 = .ok (.iconst (-1), 1) := by decide +kernel
theorem dX12_goThrough_204 : decode cX12_goThrough 204 = .ok (.if_icmp .ne 16, 3) := by decide +kernel
theorem dX12_goThrough_207 : decode cX12_goThrough 207 = .ok (.aload_n 0, 1) := by decide +kernel
theorem dX12_goThrough_208 : decode cX12_goThrough 208 = .ok (.invokevirtual 442, 3) := by decide +kernel
theorem dX12_goThrough_211 : decode cX12_goThrough 211 = .ok (.iconst (-1), 1) := by decide +kernel
theorem dX12_goThrough_212 : decode cX12_goThrough 212 = .ok (.if_icmp .eq 8, 3) := by decide +kernel
theorem dX12_goThrough_215 : decode cX12_goThrough 215 = .ok (.aload_n 0, 1) := by decide +kernel
theorem dX12_goThrough_216 : decode cX12_goThrough 216 = .ok (.invokevirtual 438, 3) := by decide +kernel
theorem dX12_goThrough_219 : decode cX12_goThrough 219 = .ok (.pop, 1) := by decide +kernel
theorem dX12_goThrough_220 : decode cX12_goThrough 220 = .ok (.aload_n 0, 1) := by decide +kernel
theorem dX12_goThrough_221 : decode cX12_goThrough 221 = .ok (.getfield 432, 3) := by decide +kernel
theorem dX12_goThrough_224 : decode cX12_goThrough 224 = .ok (.iconst (-1), 1) := by decide +kernel
theorem dX12_goThrough_225 : decode cX12_goThrough 225 = .ok (.if_icmp .ne 7, 3) := by decide +kernel
theorem dX12_goThrough_228 : decode cX12_goThrough 228 = .ok (.iconst 1, 1) := by decide +kernel
theorem dX12_goThrough_229 : decode cX12_goThrough 229 = .ok (.goto 4, 3) := by decide +kernel
theorem dX12_goThrough_232 : decode cX12_goThrough 232 = .ok (.iconst 0, 1) := by decide +kernel
theorem dX12_goThrough_233 : decode cX12_goThrough 233 = .ok (.ireturn, 1) := by decide +kernel
theorem okX12_goThrough : ab_okM MX12_goThrough 4 := ⟨by decide, ⟨by decide, by decide⟩, ab_in 2411 (by decide +kernel) (by decide +kernel), ab_in 99 (by decide +kernel) (by decide +kernel), by decide +kernel, by decide⟩
set_option maxHeartbeats 4000000 in
set_option maxRecDepth 100000 in
def wX12_goThrough_220  (x : ab_X) (K : Int32 → ab_X → Prop)  : Prop := ((¬ (x.1 246 81) = (-1) → K 0 x) ∧ ((x.1 246 81) = (-1) → K 1 x))
set_option maxHeartbeats 4000000 in
set_option maxRecDepth 100000 in
theorem sX12_goThrough_220   (x : ab_X) (K : Int32 → ab_X → Prop)  (d bc bs : Nat) (hdp : 209 ≤ d)  (h : wX12_goThrough_220  x K ) : EW MX12_goThrough 220 [(0, .ref 246)] [] (aS x) d bc bs (liI K) := by
  unfold wX12_goThrough_220 at h
  refine EW_aload_n (pc2 := 221) rfl dX12_goThrough_220 0 rfl ?_
  refine AW_geti ⟨gfRX12_432, rfl⟩ (pc2 := 224) rfl dX12_goThrough_221 q246 ?_
  refine EW_iconst (pc2 := 225) (v := (-1)) rfl dX12_goThrough_224 (by decide) ?_
  refine EW_icmp_ne (tgt := 232) (pc2 := 228) rfl dX12_goThrough_225 (by decide) (fun q => ?_) (fun q => ?_)
  · replace h := h.1 q
    refine EW_iconst (pc2 := 233) (v := 0) rfl dX12_goThrough_232 (by decide) ?_
    exact AW_zret rfl isB0 dX12_goThrough_233 ⟨_, _, rfl, rfl, h⟩
  · replace h := h.2 q
    refine EW_iconst (pc2 := 229) (v := 1) rfl dX12_goThrough_228 (by decide) ?_
    refine EW_goto (tgt := 233) dX12_goThrough_229 (by decide) ?_
    exact AW_zret rfl isB1 dX12_goThrough_233 ⟨_, _, rfl, rfl, h⟩
set_option maxHeartbeats 4000000 in
set_option maxRecDepth 100000 in
def wX12_goThrough_179 (v1 : Int32) (v5 : Int32) (s0 : Int32) (x : ab_X) (K : Int32 → ab_X → Prop) (L133 : Int32 → Int32 → ab_X → Prop) : Prop := ((s0 = 0 → L133 v5 s0 x) ∧ (¬ s0 = 0 → L133 v5 s0 (wr x 246 80 ((x.1 246 80) + 1))))
set_option maxHeartbeats 4000000 in
set_option maxRecDepth 100000 in
theorem sX12_goThrough_179 (v1 : Int32) (v5 : Int32) (s0 : Int32)  (x : ab_X) (K : Int32 → ab_X → Prop) (L133 : Int32 → Int32 → ab_X → Prop) (d bc bs : Nat) (hdp : 209 ≤ d) (hL133 : ∀ (v5 : Int32) (v6 : Int32) (x : ab_X), L133 v5 v6 x → EW MX12_goThrough 133 [(0, .ref 246), (1, .int v1), (5, .int v5), (6, .int v6)] [] (aS x) d bc bs (liI K)) (h : wX12_goThrough_179 v1 v5 s0 x K L133) : EW MX12_goThrough 179 [(0, .ref 246), (1, .int v1), (5, .int v5)] [.int s0] (aS x) d bc bs (liI K) := by
  unfold wX12_goThrough_179 at h
  refine EW_istore (pc2 := 181) rfl dX12_goThrough_179 (by decide) [1, 2, 3, 0] [(0, .ref 246), (1, .int v1), (5, .int v5), (6, .int s0)] rfl ?_
  refine EW_iload (pc2 := 183) rfl dX12_goThrough_181 3 rfl ?_
  refine EW_if_eq (tgt := 133) (pc2 := 186) rfl dX12_goThrough_183 (by decide) (fun q => ?_) (fun q => ?_)
  · replace h := h.1 q
    exact hL133 v5 s0 x h
  · replace h := h.2 q
    refine EW_aload_n (pc2 := 187) rfl dX12_goThrough_186 0 rfl ?_
    refine EW_dup (pc2 := 188) rfl dX12_goThrough_187 rfl ?_
    refine AW_geti ⟨gfRX12_423, rfl⟩ (pc2 := 191) rfl dX12_goThrough_188 q246 ?_
    refine EW_iconst (pc2 := 192) (v := 1) rfl dX12_goThrough_191 (by decide) ?_
    refine EW_iadd (pc2 := 193) rfl dX12_goThrough_192 ?_
    refine AW_puti ⟨gfRX12_423, rfl, rfl⟩ (pc2 := 196) rfl dX12_goThrough_193 q246 ?_
    refine EW_goto (tgt := 133) dX12_goThrough_196 (by decide) ?_
    exact hL133 v5 s0 (wr x 246 80 ((x.1 246 80) + 1)) h
set_option maxHeartbeats 4000000 in
set_option maxRecDepth 100000 in
def wX12_goThrough_178 (v1 : Int32) (v5 : Int32) (x : ab_X) (K : Int32 → ab_X → Prop) (L133 : Int32 → Int32 → ab_X → Prop) : Prop := wX12_goThrough_179 v1 v5 0 x K L133
set_option maxHeartbeats 4000000 in
set_option maxRecDepth 100000 in
theorem sX12_goThrough_178 (v1 : Int32) (v5 : Int32)  (x : ab_X) (K : Int32 → ab_X → Prop) (L133 : Int32 → Int32 → ab_X → Prop) (d bc bs : Nat) (hdp : 209 ≤ d) (hL133 : ∀ (v5 : Int32) (v6 : Int32) (x : ab_X), L133 v5 v6 x → EW MX12_goThrough 133 [(0, .ref 246), (1, .int v1), (5, .int v5), (6, .int v6)] [] (aS x) d bc bs (liI K)) (h : wX12_goThrough_178 v1 v5 x K L133) : EW MX12_goThrough 178 [(0, .ref 246), (1, .int v1), (5, .int v5)] [] (aS x) d bc bs (liI K) := by
  unfold wX12_goThrough_178 at h
  refine EW_iconst (pc2 := 179) (v := 0) rfl dX12_goThrough_178 (by decide) ?_
  exact sX12_goThrough_179 v1 v5 0 x K L133 d bc bs hdp hL133 h
set_option maxHeartbeats 4000000 in
set_option maxRecDepth 100000 in
def wX12_goThrough_149 (v1 : Int32) (v5 : Int32) (s1 : Int32) (x : ab_X) (K : Int32 → ab_X → Prop) (L133 : Int32 → Int32 → ab_X → Prop) : Prop := wX12_clause s1 v5 x (fun x15 => ((¬ (x15.1 246 81) = (-1) → wX12_goThrough_178 v1 (v5 + 1) x15 K L133) ∧ ((x15.1 246 81) = (-1) → wX12_look x15 (fun r16 x17 => ((¬ r16 = 59 → wX12_goThrough_178 v1 (v5 + 1) x17 K L133) ∧ (r16 = 59 → wX12_goThrough_179 v1 (v5 + 1) 1 x17 K L133))))))
set_option maxHeartbeats 4000000 in
set_option maxRecDepth 100000 in
theorem sX12_goThrough_149 (v1 : Int32) (v5 : Int32) (s1 : Int32)  (x : ab_X) (K : Int32 → ab_X → Prop) (L133 : Int32 → Int32 → ab_X → Prop) (d bc bs : Nat) (hdp : 209 ≤ d) (hL133 : ∀ (v5 : Int32) (v6 : Int32) (x : ab_X), L133 v5 v6 x → EW MX12_goThrough 133 [(0, .ref 246), (1, .int v1), (5, .int v5), (6, .int v6)] [] (aS x) d bc bs (liI K)) (h : wX12_goThrough_149 v1 v5 s1 x K L133) : EW MX12_goThrough 149 [(0, .ref 246), (1, .int v1), (5, .int v5)] [.int s1, .ref 246] (aS x) d bc bs (liI K) := by
  unfold wX12_goThrough_149 at h
  refine EW_iload (pc2 := 151) rfl dX12_goThrough_149 2 rfl ?_
  refine AW_invV (M' := MX12_clause) [.int s1, .int v5] (rest := []) mlRX12_509 okX12_clause (pc2 := 154) rfl dX12_goThrough_151 rfl rfl (Nat.le_of_ble_eq_true rfl) (Nat.le_of_ble_eq_true rfl) (d' := 208) (by omega) q246 ⟨by decide, rfl⟩ (EW_mono (fun _ _ hr => ?_) (sX12_clause s1 v5  x _ _ 0 0 (Nat.le_refl _) h))
  obtain ⟨x15, rfl, rfl, h⟩ := hr
  refine EW_iinc (v5 + 1) (pc2 := 157) rfl dX12_goThrough_154 2 rfl rfl (by decide) [1, 2, 0] [(0, .ref 246), (1, .int v1), (5, .int (v5 + 1))] rfl ?_
  refine EW_aload_n (pc2 := 158) rfl dX12_goThrough_157 0 rfl ?_
  refine AW_geti ⟨gfRX12_432, rfl⟩ (pc2 := 161) rfl dX12_goThrough_158 q246 ?_
  refine EW_iconst (pc2 := 162) (v := (-1)) rfl dX12_goThrough_161 (by decide) ?_
  refine EW_icmp_ne (tgt := 178) (pc2 := 165) rfl dX12_goThrough_162 (by decide) (fun q => ?_) (fun q => ?_)
  · replace h := h.1 q
    exact sX12_goThrough_178 v1 (v5 + 1) x15 K L133 d bc bs hdp hL133 h
  · replace h := h.2 q
    refine EW_aload_n (pc2 := 166) rfl dX12_goThrough_165 0 rfl ?_
    refine AW_invV (M' := MX12_look) [] (rest := []) mlRX12_442 okX12_look (pc2 := 169) rfl dX12_goThrough_166 rfl rfl (Nat.le_of_ble_eq_true rfl) (Nat.le_of_ble_eq_true rfl) (d' := 0) (by omega) q246 ⟨by decide, rfl⟩ (EW_mono (fun _ _ hr => ?_) (sX12_look   x15 _ _ 0 0 (Nat.le_refl _) h))
    obtain ⟨r16, x17, rfl, rfl, h⟩ := hr
    refine EW_bipush (pc2 := 171) (v := 59) rfl dX12_goThrough_169 (by decide) ?_
    refine EW_icmp_ne (tgt := 178) (pc2 := 174) rfl dX12_goThrough_171 (by decide) (fun q => ?_) (fun q => ?_)
    · replace h := h.1 q
      exact sX12_goThrough_178 v1 (v5 + 1) x17 K L133 d bc bs hdp hL133 h
    · replace h := h.2 q
      refine EW_iconst (pc2 := 175) (v := 1) rfl dX12_goThrough_174 (by decide) ?_
      refine EW_goto (tgt := 179) dX12_goThrough_175 (by decide) ?_
      exact sX12_goThrough_179 v1 (v5 + 1) 1 x17 K L133 d bc bs hdp hL133 h
set_option maxHeartbeats 4000000 in
set_option maxRecDepth 100000 in
def lX12_goThrough_133 (v1 : Int32) (K : Int32 → ab_X → Prop)  (L133 : Int32 → Int32 → ab_X → Prop) (v5 : Int32) (v6 : Int32) (x : ab_X) : Prop := ((v6 = 0 → ((¬ (x.1 246 81) = (-1) → wX12_goThrough_220 x K) ∧ ((x.1 246 81) = (-1) → wX12_look x (fun r11 x12 => ((r11 = (-1) → wX12_goThrough_220 x12 K) ∧ (¬ r11 = (-1) → wX12_stop x12 (fun r13 x14 => wX12_goThrough_220 x14 K))))))) ∧ (¬ v6 = 0 → ((¬ v1 = 2 → wX12_goThrough_149 v1 v5 0 x K L133) ∧ (v1 = 2 → wX12_goThrough_149 v1 v5 1 x K L133))))
set_option maxHeartbeats 4000000 in
set_option maxRecDepth 100000 in
theorem sX12_goThrough_133 (v1 : Int32) (v5 : Int32) (v6 : Int32)  (x : ab_X) (K : Int32 → ab_X → Prop)  (d bc bs : Nat) (hdp : 209 ≤ d)  (h : Lp3 (lX12_goThrough_133 v1 K ) v5 v6 x) : EW MX12_goThrough 133 [(0, .ref 246), (1, .int v1), (5, .int v5), (6, .int v6)] [] (aS x) d bc bs (liI K) := by
  refine Lp3.use (P := fun v5 v6 x => EW MX12_goThrough 133 [(0, .ref 246), (1, .int v1), (5, .int v5), (6, .int v6)] [] (aS x) d bc bs (liI K)) (fun L133 v5 v6 x hL133 h => ?_) v5 v6 x h
  unfold lX12_goThrough_133 at h
  refine EW_iload (pc2 := 135) rfl dX12_goThrough_133 3 rfl ?_
  refine EW_if_eq (tgt := 199) (pc2 := 138) rfl dX12_goThrough_135 (by decide) (fun q => ?_) (fun q => ?_)
  · replace h := h.1 q
    refine EW_aload_n (pc2 := 200) rfl dX12_goThrough_199 0 rfl ?_
    refine AW_geti ⟨gfRX12_432, rfl⟩ (pc2 := 203) rfl dX12_goThrough_200 q246 ?_
    refine EW_iconst (pc2 := 204) (v := (-1)) rfl dX12_goThrough_203 (by decide) ?_
    refine EW_icmp_ne (tgt := 220) (pc2 := 207) rfl dX12_goThrough_204 (by decide) (fun q => ?_) (fun q => ?_)
    · replace h := h.1 q
      refine EW_ls [0] rfl ?_
      exact sX12_goThrough_220  x K d bc bs hdp h
    · replace h := h.2 q
      refine EW_aload_n (pc2 := 208) rfl dX12_goThrough_207 0 rfl ?_
      refine AW_invV (M' := MX12_look) [] (rest := []) mlRX12_442 okX12_look (pc2 := 211) rfl dX12_goThrough_208 rfl rfl (Nat.le_of_ble_eq_true rfl) (Nat.le_of_ble_eq_true rfl) (d' := 0) (by omega) q246 ⟨by decide, rfl⟩ (EW_mono (fun _ _ hr => ?_) (sX12_look   x _ _ 0 0 (Nat.le_refl _) h))
      obtain ⟨r11, x12, rfl, rfl, h⟩ := hr
      refine EW_iconst (pc2 := 212) (v := (-1)) rfl dX12_goThrough_211 (by decide) ?_
      refine EW_icmp_eq (tgt := 220) (pc2 := 215) rfl dX12_goThrough_212 (by decide) (fun q => ?_) (fun q => ?_)
      · replace h := h.1 q
        refine EW_ls [0] rfl ?_
        exact sX12_goThrough_220  x12 K d bc bs hdp h
      · replace h := h.2 q
        refine EW_aload_n (pc2 := 216) rfl dX12_goThrough_215 0 rfl ?_
        refine AW_invV (M' := MX12_stop) [] (rest := []) mlRX12_438 okX12_stop (pc2 := 219) rfl dX12_goThrough_216 rfl rfl (Nat.le_of_ble_eq_true rfl) (Nat.le_of_ble_eq_true rfl) (d' := 0) (by omega) q246 ⟨by decide, rfl⟩ (EW_mono (fun _ _ hr => ?_) (sX12_stop   x12 _ _ 0 0 (Nat.le_refl _) h))
        obtain ⟨r13, x14, rfl, rfl, h⟩ := hr
        refine EW_pop (pc2 := 220) rfl dX12_goThrough_219 rfl ?_
        refine EW_ls [0] rfl ?_
        exact sX12_goThrough_220  x14 K d bc bs hdp h
  · replace h := h.2 q
    refine EW_aload_n (pc2 := 139) rfl dX12_goThrough_138 0 rfl ?_
    refine EW_iload_n (pc2 := 140) rfl dX12_goThrough_139 1 rfl ?_
    refine EW_iconst (pc2 := 141) (v := 2) rfl dX12_goThrough_140 (by decide) ?_
    refine EW_icmp_ne (tgt := 148) (pc2 := 144) rfl dX12_goThrough_141 (by decide) (fun q => ?_) (fun q => ?_)
    · replace h := h.1 q
      refine EW_iconst (pc2 := 149) (v := 0) rfl dX12_goThrough_148 (by decide) ?_
      refine EW_ls [0, 1, 2] rfl ?_
      exact sX12_goThrough_149 v1 v5 0 x K L133 d bc bs hdp hL133 h
    · replace h := h.2 q
      refine EW_iconst (pc2 := 145) (v := 1) rfl dX12_goThrough_144 (by decide) ?_
      refine EW_goto (tgt := 149) dX12_goThrough_145 (by decide) ?_
      refine EW_ls [0, 1, 2] rfl ?_
      exact sX12_goThrough_149 v1 v5 1 x K L133 d bc bs hdp hL133 h
set_option maxHeartbeats 4000000 in
set_option maxRecDepth 100000 in
def wX12_goThrough_89 (v1 : Int32) (s1 : Nat) (x : ab_X) (K : Int32 → ab_X → Prop)  : Prop := ((¬ v1 = 1 → Lp3 (lX12_goThrough_133 v1 K ) 0 1 (wmk x s1)) ∧ (v1 = 1 → wX12_condition (wmk x s1) (fun r2 x3 => ((¬ (x3.1 246 81) = (-1) → (isB r2 ∧ K r2 x3)) ∧ ((x3.1 246 81) = (-1) → wX12_look x3 (fun r5 x6 => ((r5 = (-1) → (isB r2 ∧ K r2 x6)) ∧ (¬ r5 = (-1) → wX12_stop x6 (fun r8 x9 => (isB r2 ∧ K r2 x9))))))))))
set_option maxHeartbeats 4000000 in
set_option maxRecDepth 100000 in
theorem sX12_goThrough_89 (v1 : Int32) (s1 : Nat) (hs1 : isS s1) (x : ab_X) (K : Int32 → ab_X → Prop)  (d bc bs : Nat) (hdp : 209 ≤ d)  (h : wX12_goThrough_89 v1 s1 x K ) : EW MX12_goThrough 89 [(0, .ref 246), (1, .int v1)] [.ref s1, .ref 246] (aS x) d bc bs (liI K) := by
  unfold wX12_goThrough_89 at h
  refine AW_putmk gfRX12_210 (pc2 := 92) rfl dX12_goThrough_89 ?_
  refine EW_iload_n (pc2 := 93) rfl dX12_goThrough_92 1 rfl ?_
  refine EW_iconst (pc2 := 94) (v := 1) rfl dX12_goThrough_93 (by decide) ?_
  refine EW_icmp_ne (tgt := 127) (pc2 := 97) rfl dX12_goThrough_94 (by decide) (fun q => ?_) (fun q => ?_)
  · replace h := h.1 q
    refine EW_iconst (pc2 := 128) (v := 0) rfl dX12_goThrough_127 (by decide) ?_
    refine EW_istore (pc2 := 130) rfl dX12_goThrough_128 (by decide) [1, 2, 0] [(0, .ref 246), (1, .int v1), (5, .int 0)] rfl ?_
    refine EW_iconst (pc2 := 131) (v := 1) rfl dX12_goThrough_130 (by decide) ?_
    refine EW_istore (pc2 := 133) rfl dX12_goThrough_131 (by decide) [1, 2, 3, 0] [(0, .ref 246), (1, .int v1), (5, .int 0), (6, .int 1)] rfl ?_
    exact sX12_goThrough_133 v1 0 1 (wmk x s1) K d bc bs hdp h
  · replace h := h.2 q
    refine EW_aload_n (pc2 := 98) rfl dX12_goThrough_97 0 rfl ?_
    refine AW_invV (M' := MX12_condition) [] (rest := []) mlRX12_488 okX12_condition (pc2 := 101) rfl dX12_goThrough_98 rfl rfl (Nat.le_of_ble_eq_true rfl) (Nat.le_of_ble_eq_true rfl) (d' := 207) (by omega) q246 ⟨by decide, rfl⟩ (EW_mono (fun _ _ hr => ?_) (sX12_condition   (wmk x s1) _ _ 0 0 (Nat.le_refl _) h))
    obtain ⟨r2, x3, rfl, rfl, h⟩ := hr
    refine EW_istore (pc2 := 103) rfl dX12_goThrough_101 (by decide) [1, 2, 0] [(0, .ref 246), (1, .int v1), (5, .int r2)] rfl ?_
    refine EW_aload_n (pc2 := 104) rfl dX12_goThrough_103 0 rfl ?_
    refine AW_geti ⟨gfRX12_432, rfl⟩ (pc2 := 107) rfl dX12_goThrough_104 q246 ?_
    refine EW_iconst (pc2 := 108) (v := (-1)) rfl dX12_goThrough_107 (by decide) ?_
    refine EW_icmp_ne (tgt := 124) (pc2 := 111) rfl dX12_goThrough_108 (by decide) (fun q => ?_) (fun q => ?_)
    · replace h := h.1 q
      refine EW_iload (pc2 := 126) rfl dX12_goThrough_124 2 rfl ?_
      obtain ⟨z4, h⟩ := h
      exact AW_zret rfl z4 dX12_goThrough_126 ⟨_, _, rfl, rfl, h⟩
    · replace h := h.2 q
      refine EW_aload_n (pc2 := 112) rfl dX12_goThrough_111 0 rfl ?_
      refine AW_invV (M' := MX12_look) [] (rest := []) mlRX12_442 okX12_look (pc2 := 115) rfl dX12_goThrough_112 rfl rfl (Nat.le_of_ble_eq_true rfl) (Nat.le_of_ble_eq_true rfl) (d' := 0) (by omega) q246 ⟨by decide, rfl⟩ (EW_mono (fun _ _ hr => ?_) (sX12_look   x3 _ _ 0 0 (Nat.le_refl _) h))
      obtain ⟨r5, x6, rfl, rfl, h⟩ := hr
      refine EW_iconst (pc2 := 116) (v := (-1)) rfl dX12_goThrough_115 (by decide) ?_
      refine EW_icmp_eq (tgt := 124) (pc2 := 119) rfl dX12_goThrough_116 (by decide) (fun q => ?_) (fun q => ?_)
      · replace h := h.1 q
        refine EW_iload (pc2 := 126) rfl dX12_goThrough_124 2 rfl ?_
        obtain ⟨z7, h⟩ := h
        exact AW_zret rfl z7 dX12_goThrough_126 ⟨_, _, rfl, rfl, h⟩
      · replace h := h.2 q
        refine EW_aload_n (pc2 := 120) rfl dX12_goThrough_119 0 rfl ?_
        refine AW_invV (M' := MX12_stop) [] (rest := []) mlRX12_438 okX12_stop (pc2 := 123) rfl dX12_goThrough_120 rfl rfl (Nat.le_of_ble_eq_true rfl) (Nat.le_of_ble_eq_true rfl) (d' := 0) (by omega) q246 ⟨by decide, rfl⟩ (EW_mono (fun _ _ hr => ?_) (sX12_stop   x6 _ _ 0 0 (Nat.le_refl _) h))
        obtain ⟨r8, x9, rfl, rfl, h⟩ := hr
        refine EW_pop (pc2 := 124) rfl dX12_goThrough_123 rfl ?_
        refine EW_iload (pc2 := 126) rfl dX12_goThrough_124 2 rfl ?_
        obtain ⟨z10, h⟩ := h
        exact AW_zret rfl z10 dX12_goThrough_126 ⟨_, _, rfl, rfl, h⟩
set_option maxHeartbeats 4000000 in
set_option maxRecDepth 100000 in
def lX12_goThrough_44 (v1 : Int32) (K : Int32 → ab_X → Prop)  (L44 : Int32 → ab_X → Prop) (v5 : Int32) (x : ab_X) : Prop := ((5 ≤ v5 → ((¬ v1 = 0 → ((¬ v1 = 1 → wX12_goThrough_89 v1 1000002 x K) ∧ (v1 = 1 → wX12_goThrough_89 v1 1000001 x K))) ∧ (v1 = 0 → wX12_goThrough_89 v1 1000000 x K))) ∧ (¬ 5 ≤ v5 → (vp_in v5 5 ∧ L44 (v5 + 1) (wr x 308 (Int32.toNatClampNeg v5) 0))))
set_option maxHeartbeats 4000000 in
set_option maxRecDepth 100000 in
theorem sX12_goThrough_44 (v1 : Int32) (v5 : Int32)  (x : ab_X) (K : Int32 → ab_X → Prop)  (d bc bs : Nat) (hdp : 209 ≤ d)  (h : Lp2 (lX12_goThrough_44 v1 K ) v5 x) : EW MX12_goThrough 44 [(0, .ref 246), (1, .int v1), (5, .int v5)] [] (aS x) d bc bs (liI K) := by
  refine Lp2.use (P := fun v5 x => EW MX12_goThrough 44 [(0, .ref 246), (1, .int v1), (5, .int v5)] [] (aS x) d bc bs (liI K)) (fun L44 v5 x hL44 h => ?_) v5 x h
  unfold lX12_goThrough_44 at h
  refine EW_iload (pc2 := 46) rfl dX12_goThrough_44 2 rfl ?_
  refine EW_iconst (pc2 := 47) (v := 5) rfl dX12_goThrough_46 (by decide) ?_
  refine EW_icmp_ge (tgt := 64) (pc2 := 50) rfl dX12_goThrough_47 (by decide) (fun q => ?_) (fun q => ?_)
  · replace h := h.1 q
    refine EW_aload_n (pc2 := 65) rfl dX12_goThrough_64 0 rfl ?_
    refine EW_iload_n (pc2 := 66) rfl dX12_goThrough_65 1 rfl ?_
    refine EW_if_ne (tgt := 75) (pc2 := 69) rfl dX12_goThrough_66 (by decide) (fun q => ?_) (fun q => ?_)
    · replace h := h.1 q
      refine EW_iload_n (pc2 := 76) rfl dX12_goThrough_75 1 rfl ?_
      refine EW_iconst (pc2 := 77) (v := 1) rfl dX12_goThrough_76 (by decide) ?_
      refine EW_icmp_ne (tgt := 86) (pc2 := 80) rfl dX12_goThrough_77 (by decide) (fun q => ?_) (fun q => ?_)
      · replace h := h.1 q
        refine AW_str_M507 rfl (pc2 := 89) rfl dX12_goThrough_86 ?_
        refine EW_ls [0, 1] rfl ?_
        exact sX12_goThrough_89 v1 1000002 (⟨2, by decide, rfl⟩ : isS 1000002) x K d bc bs hdp h
      · replace h := h.2 q
        refine AW_str_M505 rfl (pc2 := 83) rfl dX12_goThrough_80 ?_
        refine EW_goto (tgt := 89) dX12_goThrough_83 (by decide) ?_
        refine EW_ls [0, 1] rfl ?_
        exact sX12_goThrough_89 v1 1000001 (⟨1, by decide, rfl⟩ : isS 1000001) x K d bc bs hdp h
    · replace h := h.2 q
      refine AW_str_M503 rfl (pc2 := 72) rfl dX12_goThrough_69 ?_
      refine EW_goto (tgt := 89) dX12_goThrough_72 (by decide) ?_
      refine EW_ls [0, 1] rfl ?_
      exact sX12_goThrough_89 v1 1000000 (⟨0, by decide, rfl⟩ : isS 1000000) x K d bc bs hdp h
  · replace h := h.2 q
    refine EW_aload_n (pc2 := 51) rfl dX12_goThrough_50 0 rfl ?_
    refine AW_getr (r := 308) ⟨gfRX12_195, rfl⟩ (pc2 := 54) rfl dX12_goThrough_51 q246 rfl ?_
    refine EW_iload (pc2 := 56) rfl dX12_goThrough_54 2 rfl ?_
    refine EW_iconst (pc2 := 57) (v := 0) rfl dX12_goThrough_56 (by decide) ?_
    obtain ⟨b1, h⟩ := h
    refine AW_iast (pc2 := 58) rfl dX12_goThrough_57 q308 b1 ?_
    refine EW_iinc (v5 + 1) (pc2 := 61) rfl dX12_goThrough_58 2 rfl rfl (by decide) [1, 2, 0] [(0, .ref 246), (1, .int v1), (5, .int (v5 + 1))] rfl ?_
    refine EW_goto (tgt := 44) dX12_goThrough_61 (by decide) ?_
    exact hL44 (v5 + 1) (wr x 308 (Int32.toNatClampNeg v5) 0) h
set_option maxHeartbeats 4000000 in
set_option maxRecDepth 100000 in
def wX12_goThrough (v1 : Int32) (v2 : Nat) (v3 : Int32) (v4 : Int32) (x : ab_X) (K : Int32 → ab_X → Prop) : Prop := Lp2 (lX12_goThrough_44 v1 K ) 0 (wr (wr (wr (wr (wr (wr (wr (wmt x v2) 246 78 v3) 246 79 v4) 246 80 0) 246 81 (-1)) 246 82 0) 246 74 0) 246 75 0)
set_option maxHeartbeats 4000000 in
set_option maxRecDepth 100000 in
theorem sX12_goThrough (v1 : Int32) (v2 : Nat) (v3 : Int32) (v4 : Int32)  (x : ab_X) (K : Int32 → ab_X → Prop) (d bc bs : Nat) (hdp : 209 ≤ d) (h : wX12_goThrough v1 v2 v3 v4 x K) : EW MX12_goThrough 0 [(0, .ref 246), (1, .int v1), (2, .ref v2), (3, .int v3), (4, .int v4)] [] (aS x) d bc bs (liI K) := by
  unfold wX12_goThrough at h
  refine EW_aload_n (pc2 := 1) rfl dX12_goThrough_0 0 rfl ?_
  refine EW_aload_n (pc2 := 2) rfl dX12_goThrough_1 2 rfl ?_
  refine AW_putmt gfRX12_205 (pc2 := 5) rfl dX12_goThrough_2 ?_
  refine EW_aload_n (pc2 := 6) rfl dX12_goThrough_5 0 rfl ?_
  refine EW_iload_n (pc2 := 7) rfl dX12_goThrough_6 3 rfl ?_
  refine AW_puti ⟨gfRX12_429, rfl, rfl⟩ (pc2 := 10) rfl dX12_goThrough_7 q246 ?_
  refine EW_aload_n (pc2 := 11) rfl dX12_goThrough_10 0 rfl ?_
  refine EW_iload (pc2 := 13) rfl dX12_goThrough_11 4 rfl ?_
  refine AW_puti ⟨gfRX12_426, rfl, rfl⟩ (pc2 := 16) rfl dX12_goThrough_13 q246 ?_
  refine EW_aload_n (pc2 := 17) rfl dX12_goThrough_16 0 rfl ?_
  refine EW_iconst (pc2 := 18) (v := 0) rfl dX12_goThrough_17 (by decide) ?_
  refine AW_puti ⟨gfRX12_423, rfl, rfl⟩ (pc2 := 21) rfl dX12_goThrough_18 q246 ?_
  refine EW_aload_n (pc2 := 22) rfl dX12_goThrough_21 0 rfl ?_
  refine EW_iconst (pc2 := 23) (v := (-1)) rfl dX12_goThrough_22 (by decide) ?_
  refine AW_puti ⟨gfRX12_432, rfl, rfl⟩ (pc2 := 26) rfl dX12_goThrough_23 q246 ?_
  refine EW_aload_n (pc2 := 27) rfl dX12_goThrough_26 0 rfl ?_
  refine EW_iconst (pc2 := 28) (v := 0) rfl dX12_goThrough_27 (by decide) ?_
  refine AW_puti ⟨gfRX12_435, rfl, rfl⟩ (pc2 := 31) rfl dX12_goThrough_28 q246 ?_
  refine EW_aload_n (pc2 := 32) rfl dX12_goThrough_31 0 rfl ?_
  refine EW_iconst (pc2 := 33) (v := 0) rfl dX12_goThrough_32 (by decide) ?_
  refine AW_puti ⟨gfRX12_497, rfl, rfl⟩ (pc2 := 36) rfl dX12_goThrough_33 q246 ?_
  refine EW_aload_n (pc2 := 37) rfl dX12_goThrough_36 0 rfl ?_
  refine EW_iconst (pc2 := 38) (v := 0) rfl dX12_goThrough_37 (by decide) ?_
  refine AW_puti ⟨gfRX12_494, rfl, rfl⟩ (pc2 := 41) rfl dX12_goThrough_38 q246 ?_
  refine EW_iconst (pc2 := 42) (v := 0) rfl dX12_goThrough_41 (by decide) ?_
  refine EW_istore (pc2 := 44) rfl dX12_goThrough_42 (by decide) [1, 2, 3, 4, 5, 0] [(0, .ref 246), (1, .int v1), (2, .ref v2), (3, .int v3), (4, .int v4), (5, .int 0)] rfl ?_
  refine EW_ls [0, 1, 5] rfl ?_
  exact sX12_goThrough_44 v1 0 (wr (wr (wr (wr (wr (wr (wr (wmt x v2) 246 78 v3) 246 79 v4) 246 80 0) 246 81 (-1)) 246 82 0) 246 74 0) 246 75 0) K d bc bs hdp h
theorem gfRX12_167 : ab_L RX12 167 12 59 := ⟨by decide, by decide, ab_in 1908 (by decide +kernel) (by decide +kernel)⟩
theorem gfRX12_414 : ab_L RX12 414 12 70 := ⟨by decide, by decide, ab_in 1919 (by decide +kernel) (by decide +kernel)⟩
theorem mlRX12_513 : Cond.methodLink RX12 513 yX12_goThrough ∈ ab_G ∧ Cond.instanceMethod yX12_goThrough ∈ ab_G ∧ Cond.selects RX12 yX12_goThrough yX12_goThrough ∈ ab_G := ⟨ab_in 2408 (by decide +kernel) (by decide +kernel), ab_in 2410 (by decide +kernel) (by decide +kernel), ab_in 35 (by decide +kernel) (by decide +kernel)⟩
abbrev MX12_fault : ab_M := (yX12_fault, cX12_fault, 3, (some .int))
theorem dX12_fault_0 : decode cX12_fault 0 = .ok (.aload_n 0, 1) := by decide +kernel
theorem dX12_fault_1 : decode cX12_fault 1 = .ok (.iconst 0, 1) := by decide +kernel
theorem dX12_fault_2 : decode cX12_fault 2 = .ok (.putfield 297, 3) := by decide +kernel
theorem dX12_fault_5 : decode cX12_fault 5 = .ok (.iload_n 1, 1) := by decide +kernel
theorem dX12_fault_6 : decode cX12_fault 6 = .ok (.iconst 0, 1) := by decide +kernel
theorem dX12_fault_7 : decode cX12_fault 7 = .ok (.iconst 2, 1) := by decide +kernel
theorem dX12_fault_8 : decode cX12_fault 8 = .ok (.invokestatic 307, 3) := by decide +kernel
theorem dX12_fault_11 : decode cX12_fault 11 = .ok (.ifCond .ne 6, 3) := by decide +kernel
theorem dX12_fault_14 : decode cX12_fault 14 = .ok (.bipush (-2), 2) := by decide +kernel
theorem dX12_fault_16 : decode cX12_fault 16 = .ok (.ireturn, 1) := by decide +kernel
theorem dX12_fault_17 : decode cX12_fault 17 = .ok (.aload_n 0, 1) := by decide +kernel
theorem dX12_fault_18 : decode cX12_fault 18 = .ok (.iload_n 1, 1) := by decide +kernel
theorem dX12_fault_19 : decode cX12_fault 19 = .ok (.aload_n 0, 1) := by decide +kernel
theorem dX12_fault_20 : decode cX12_fault 20 = .ok (.getfield 167, 3) := by decide +kernel
theorem dX12_fault_23 : decode cX12_fault 23 = .ok (.iconst 0, 1) := by decide +kernel
theorem dX12_fault_24 : decode cX12_fault 24 = .ok (.aload_n 0, 1) := by decide +kernel
theorem dX12_fault_25 : decode cX12_fault 25 = .ok (.getfield 414, 3) := by decide +kernel
theorem dX12_fault_28 : decode cX12_fault 28 = .ok (.invokevirtual 513, 3) := by decide +kernel
theorem dX12_fault_31 : decode cX12_fault 31 = .ok (.istore_n 2, 1) := by decide +kernel
theorem dX12_fault_32 : decode cX12_fault 32 = .ok (.aload_n 0, 1) := by decide +kernel
theorem dX12_fault_33 : decode cX12_fault 33 = .ok (.getfield 432, 3) := by decide +kernel
theorem dX12_fault_36 : decode cX12_fault 36 = .ok (.ireturn, 1) := by decide +kernel
theorem okX12_fault : ab_okM MX12_fault 1 := ⟨by decide, ⟨by decide, by decide⟩, ab_in 2407 (by decide +kernel) (by decide +kernel), ab_in 99 (by decide +kernel) (by decide +kernel), by decide +kernel, by decide⟩
set_option maxHeartbeats 4000000 in
set_option maxRecDepth 100000 in
def wX12_fault (v1 : Int32) (x : ab_X) (K : Int32 → ab_X → Prop) : Prop := wX12_isIn v1 0 2 (wr x 246 0 0) (fun r1 => ((¬ r1 = 0 → wX12_goThrough v1 299 0 ((wr x 246 0 0).1 246 70) (wr x 246 0 0) (fun r2 x3 => K (x3.1 246 81) x3)) ∧ (r1 = 0 → K (-2) (wr x 246 0 0))))
set_option maxHeartbeats 4000000 in
set_option maxRecDepth 100000 in
theorem sX12_fault (v1 : Int32)  (x : ab_X) (K : Int32 → ab_X → Prop) (d bc bs : Nat) (hdp : 210 ≤ d) (h : wX12_fault v1 x K) : EW MX12_fault 0 [(0, .ref 246), (1, .int v1)] [] (aS x) d bc bs (liI K) := by
  unfold wX12_fault at h
  refine EW_aload_n (pc2 := 1) rfl dX12_fault_0 0 rfl ?_
  refine EW_iconst (pc2 := 2) (v := 0) rfl dX12_fault_1 (by decide) ?_
  refine AW_puti ⟨gfRX12_297, rfl, rfl⟩ (pc2 := 5) rfl dX12_fault_2 q246 ?_
  refine EW_iload_n (pc2 := 6) rfl dX12_fault_5 1 rfl ?_
  refine EW_iconst (pc2 := 7) (v := 0) rfl dX12_fault_6 (by decide) ?_
  refine EW_iconst (pc2 := 8) (v := 2) rfl dX12_fault_7 (by decide) ?_
  refine AW_invS (M' := MX12_isIn) [.int v1, .int 0, .int 2] (rest := []) mlRX12_307 okX12_isIn (pc2 := 11) rfl dX12_fault_8 rfl rfl (Nat.le_of_ble_eq_true rfl) (Nat.le_of_ble_eq_true rfl) (d' := 0) (by omega) (EW_mono (fun _ _ hr => ?_) (sX12_isIn v1 0 2  (wr x 246 0 0) _ _ 0 0 (Nat.le_refl _) h))
  obtain ⟨r1, rfl, rfl, h⟩ := hr
  refine EW_if_ne (tgt := 17) (pc2 := 14) rfl dX12_fault_11 (by decide) (fun q => ?_) (fun q => ?_)
  · replace h := h.1 q
    refine EW_aload_n (pc2 := 18) rfl dX12_fault_17 0 rfl ?_
    refine EW_iload_n (pc2 := 19) rfl dX12_fault_18 1 rfl ?_
    refine EW_aload_n (pc2 := 20) rfl dX12_fault_19 0 rfl ?_
    refine AW_getr (r := 299) ⟨gfRX12_167, rfl⟩ (pc2 := 23) rfl dX12_fault_20 q246 rfl ?_
    refine EW_iconst (pc2 := 24) (v := 0) rfl dX12_fault_23 (by decide) ?_
    refine EW_aload_n (pc2 := 25) rfl dX12_fault_24 0 rfl ?_
    refine AW_geti ⟨gfRX12_414, rfl⟩ (pc2 := 28) rfl dX12_fault_25 q246 ?_
    refine AW_invV (M' := MX12_goThrough) [.int v1, .ref 299, .int 0, .int ((wr x 246 0 0).1 246 70)] (rest := []) mlRX12_513 okX12_goThrough (pc2 := 31) rfl dX12_fault_28 rfl rfl (Nat.le_of_ble_eq_true rfl) (Nat.le_of_ble_eq_true rfl) (d' := 209) (by omega) q246 ⟨by decide, rfl⟩ (EW_mono (fun _ _ hr => ?_) (sX12_goThrough v1 299 0 ((wr x 246 0 0).1 246 70)  (wr x 246 0 0) _ _ 0 0 (Nat.le_refl _) h))
    obtain ⟨r2, x3, rfl, rfl, h⟩ := hr
    refine EW_istore_n (pc2 := 32) rfl dX12_fault_31 (by decide) [1, 2, 0] [(0, .ref 246), (1, .int v1), (2, .int r2)] rfl ?_
    refine EW_aload_n (pc2 := 33) rfl dX12_fault_32 0 rfl ?_
    refine AW_geti ⟨gfRX12_432, rfl⟩ (pc2 := 36) rfl dX12_fault_33 q246 ?_
    exact AW_iret rfl dX12_fault_36 ⟨_, _, rfl, rfl, h⟩
  · replace h := h.2 q
    refine EW_bipush (pc2 := 16) (v := (-2)) rfl dX12_fault_14 (by decide) ?_
    exact AW_iret rfl dX12_fault_16 ⟨_, _, rfl, rfl, h⟩
theorem gfRX12_183 : ab_L RX12 183 12 64 := ⟨by decide, by decide, ab_in 1913 (by decide +kernel) (by decide +kernel)⟩
theorem gfRX12_522 : ab_L RX12 522 12 72 := ⟨by decide, by decide, ab_in 1921 (by decide +kernel) (by decide +kernel)⟩
theorem gfRX12_186 : ab_L RX12 186 12 65 := ⟨by decide, by decide, ab_in 1914 (by decide +kernel) (by decide +kernel)⟩
theorem gfRX12_189 : ab_L RX12 189 12 66 := ⟨by decide, by decide, ab_in 1915 (by decide +kernel) (by decide +kernel)⟩
theorem gfRX12_395 : ab_L RX12 395 12 1 := ⟨by decide, by decide, ab_in 1850 (by decide +kernel) (by decide +kernel)⟩
theorem gfRX12_174 : ab_L RX12 174 12 61 := ⟨by decide, by decide, ab_in 1910 (by decide +kernel) (by decide +kernel)⟩
theorem mlRX12_517 : Cond.methodLink RX12 517 yX12_fault ∈ ab_G ∧ Cond.instanceMethod yX12_fault ∈ ab_G ∧ Cond.selects RX12 yX12_fault yX12_fault ∈ ab_G := ⟨ab_in 2482 (by decide +kernel) (by decide +kernel), ab_in 2405 (by decide +kernel) (by decide +kernel), ab_in 2406 (by decide +kernel) (by decide +kernel)⟩
abbrev MX12_act : ab_M := (yX12_act, cX12_act, 3, (some .int))
theorem dX12_act_0 : decode cX12_act 0 = .ok (.aload_n 0, 1) := by decide +kernel
theorem dX12_act_1 : decode cX12_act 1 = .ok (.iconst 2, 1) := by decide +kernel
theorem dX12_act_2 : decode cX12_act 2 = .ok (.invokevirtual 517, 3) := by decide +kernel
theorem dX12_act_5 : decode cX12_act 5 = .ok (.iconst (-1), 1) := by decide +kernel
theorem dX12_act_6 : decode cX12_act 6 = .ok (.if_icmp .ne 23, 3) := by decide +kernel
theorem dX12_act_9 : decode cX12_act 9 = .ok (.aload_n 0, 1) := by decide +kernel
theorem dX12_act_10 : decode cX12_act 10 = .ok (.getfield 522, 3) := by decide +kernel
theorem dX12_act_13 : decode cX12_act 13 = .ok (.bipush 12, 2) := by decide +kernel
theorem dX12_act_15 : decode cX12_act 15 = .ok (.if_icmp .eq 14, 3) := by decide +kernel
theorem dX12_act_18 : decode cX12_act 18 = .ok (.iload_n 1, 1) := by decide +kernel
theorem dX12_act_19 : decode cX12_act 19 = .ok (.iconst 1, 1) := by decide +kernel
theorem dX12_act_20 : decode cX12_act 20 = .ok (.sipush 200, 3) := by decide +kernel
theorem dX12_act_23 : decode cX12_act 23 = .ok (.invokestatic 307, 3) := by decide +kernel
theorem dX12_act_26 : decode cX12_act 26 = .ok (.ifCond .ne 5, 3) := by decide +kernel
theorem dX12_act_29 : decode cX12_act 29 = .ok (.iconst (-1), 1) := by decide +kernel
theorem dX12_act_30 : decode cX12_act 30 = .ok (.ireturn, 1) := by decide +kernel
theorem dX12_act_31 : decode cX12_act 31 = .ok (.iconst 0, 1) := by decide +kernel
theorem dX12_act_32 : decode cX12_act 32 = .ok (.istore_n 2, 1) := by decide +kernel
theorem dX12_act_33 : decode cX12_act 33 = .ok (.iload_n 2, 1) := by decide +kernel
theorem dX12_act_34 : decode cX12_act 34 = .ok (.aload_n 0, 1) := by decide +kernel
theorem dX12_act_35 : decode cX12_act 35 = .ok (.getfield 414, 3) := by decide +kernel
theorem dX12_act_38 : decode cX12_act 38 = .ok (.if_icmp .ge 30, 3) := by decide +kernel
theorem dX12_act_41 : decode cX12_act 41 = .ok (.aload_n 0, 1) := by decide +kernel
theorem dX12_act_42 : decode cX12_act 42 = .ok (.getfield 174, 3) := by decide +kernel
theorem dX12_act_45 : decode cX12_act 45 = .ok (.sipush 200, 3) := by decide +kernel
theorem dX12_act_48 : decode cX12_act 48 = .ok (.aload_n 0, 1) := by decide +kernel
theorem dX12_act_49 : decode cX12_act 49 = .ok (.getfield 522, 3) := by decide +kernel
theorem dX12_act_52 : decode cX12_act 52 = .ok (.imul, 1) := by decide +kernel
theorem dX12_act_53 : decode cX12_act 53 = .ok (.iload_n 2, 1) := by decide +kernel
theorem dX12_act_54 : decode cX12_act 54 = .ok (.iadd, 1) := by decide +kernel
theorem dX12_act_55 : decode cX12_act 55 = .ok (.aload_n 0, 1) := by decide +kernel
theorem dX12_act_56 : decode cX12_act 56 = .ok (.getfield 167, 3) := by decide +kernel
theorem dX12_act_59 : decode cX12_act 59 = .ok (.iload_n 2, 1) := by decide +kernel
theorem dX12_act_60 : decode cX12_act 60 = .ok (.baload, 1) := by decide +kernel
theorem dX12_act_61 : decode cX12_act 61 = .ok (.bastore, 1) := by decide +kernel
theorem dX12_act_62 : decode cX12_act 62 = .ok (.iinc 2 1, 3) := by decide +kernel
theorem dX12_act_65 : decode cX12_act 65 = .ok (.goto (-32), 3) := by decide +kernel
theorem dX12_act_68 : decode cX12_act 68 = .ok (.aload_n 0, 1) := by decide +kernel
theorem dX12_act_69 : decode cX12_act 69 = .ok (.getfield 183, 3) := by decide +kernel
theorem dX12_act_72 : decode cX12_act 72 = .ok (.aload_n 0, 1) := by decide +kernel
theorem dX12_act_73 : decode cX12_act 73 = .ok (.getfield 522, 3) := by decide +kernel
theorem dX12_act_76 : decode cX12_act 76 = .ok (.aload_n 0, 1) := by decide +kernel
theorem dX12_act_77 : decode cX12_act 77 = .ok (.getfield 414, 3) := by decide +kernel
theorem dX12_act_80 : decode cX12_act 80 = .ok (.iastore, 1) := by decide +kernel
theorem dX12_act_81 : decode cX12_act 81 = .ok (.aload_n 0, 1) := by decide +kernel
theorem dX12_act_82 : decode cX12_act 82 = .ok (.getfield 186, 3) := by decide +kernel
theorem dX12_act_85 : decode cX12_act 85 = .ok (.aload_n 0, 1) := by decide +kernel
theorem dX12_act_86 : decode cX12_act 86 = .ok (.getfield 522, 3) := by decide +kernel
theorem dX12_act_89 : decode cX12_act 89 = .ok (.iload_n 1, 1) := by decide +kernel
theorem dX12_act_90 : decode cX12_act 90 = .ok (.iastore, 1) := by decide +kernel
theorem dX12_act_91 : decode cX12_act 91 = .ok (.aload_n 0, 1) := by decide +kernel
theorem dX12_act_92 : decode cX12_act 92 = .ok (.getfield 189, 3) := by decide +kernel
theorem dX12_act_95 : decode cX12_act 95 = .ok (.aload_n 0, 1) := by decide +kernel
theorem dX12_act_96 : decode cX12_act 96 = .ok (.getfield 522, 3) := by decide +kernel
theorem dX12_act_99 : decode cX12_act 99 = .ok (.aload_n 0, 1) := by decide +kernel
theorem dX12_act_100 : decode cX12_act 100 = .ok (.getfield 395, 3) := by decide +kernel
theorem dX12_act_103 : decode cX12_act 103 = .ok (.iastore, 1) := by decide +kernel
theorem dX12_act_104 : decode cX12_act 104 = .ok (.aload_n 0, 1) := by decide +kernel
theorem dX12_act_105 : decode cX12_act 105 = .ok (.dup, 1) := by decide +kernel
theorem dX12_act_106 : decode cX12_act 106 = .ok (.getfield 522, 3) := by decide +kernel
theorem dX12_act_109 : decode cX12_act 109 = .ok (.iconst 1, 1) := by decide +kernel
theorem dX12_act_110 : decode cX12_act 110 = .ok (.iadd, 1) := by decide +kernel
theorem dX12_act_111 : decode cX12_act 111 = .ok (.putfield 522, 3) := by decide +kernel
theorem dX12_act_114 : decode cX12_act 114 = .ok (.aload_n 0, 1) := by decide +kernel
theorem dX12_act_115 : decode cX12_act 115 = .ok (.iconst 0, 1) := by decide +kernel
theorem dX12_act_116 : decode cX12_act 116 = .ok (.putfield 414, 3) := by decide +kernel
theorem dX12_act_119 : decode cX12_act 119 = .ok (.aload_n 0, 1) := by decide +kernel
theorem dX12_act_120 : decode cX12_act 120 = .ok (.getfield 522, 3) := by decide +kernel
theorem dX12_act_123 : decode cX12_act 123 = .ok (.iconst 1, 1) := by decide +kernel
theorem dX12_act_124 : decode cX12_act 124 = .ok (.isub, 1) := by decide +kernel
theorem dX12_act_125 : decode cX12_act 125 = .ok (.ireturn, 1) := by decide +kernel
theorem okX12_act : ab_okM MX12_act 1 := ⟨by decide, ⟨by decide, by decide⟩, ab_in 2490 (by decide +kernel) (by decide +kernel), ab_in 99 (by decide +kernel) (by decide +kernel), by decide +kernel, by decide⟩
set_option maxHeartbeats 4000000 in
set_option maxRecDepth 100000 in
def lX12_act_33 (v1 : Int32) (K : Int32 → ab_X → Prop)  (L33 : Int32 → ab_X → Prop) (v2 : Int32) (x : ab_X) : Prop := (((x.1 246 70) ≤ v2 → (vp_in (x.1 246 72) 12 ∧ vp_in ((wr x 304 (Int32.toNatClampNeg (x.1 246 72)) (x.1 246 70)).1 246 72) 12 ∧ vp_in ((wr (wr x 304 (Int32.toNatClampNeg (x.1 246 72)) (x.1 246 70)) 305 (Int32.toNatClampNeg ((wr x 304 (Int32.toNatClampNeg (x.1 246 72)) (x.1 246 70)).1 246 72)) v1).1 246 72) 12 ∧ K (((wr (wr (wr (wr (wr x 304 (Int32.toNatClampNeg (x.1 246 72)) (x.1 246 70)) 305 (Int32.toNatClampNeg ((wr x 304 (Int32.toNatClampNeg (x.1 246 72)) (x.1 246 70)).1 246 72)) v1) 306 (Int32.toNatClampNeg ((wr (wr x 304 (Int32.toNatClampNeg (x.1 246 72)) (x.1 246 70)) 305 (Int32.toNatClampNeg ((wr x 304 (Int32.toNatClampNeg (x.1 246 72)) (x.1 246 70)).1 246 72)) v1).1 246 72)) ((wr (wr x 304 (Int32.toNatClampNeg (x.1 246 72)) (x.1 246 70)) 305 (Int32.toNatClampNeg ((wr x 304 (Int32.toNatClampNeg (x.1 246 72)) (x.1 246 70)).1 246 72)) v1).1 246 1)) 246 72 (((wr (wr (wr x 304 (Int32.toNatClampNeg (x.1 246 72)) (x.1 246 70)) 305 (Int32.toNatClampNeg ((wr x 304 (Int32.toNatClampNeg (x.1 246 72)) (x.1 246 70)).1 246 72)) v1) 306 (Int32.toNatClampNeg ((wr (wr x 304 (Int32.toNatClampNeg (x.1 246 72)) (x.1 246 70)) 305 (Int32.toNatClampNeg ((wr x 304 (Int32.toNatClampNeg (x.1 246 72)) (x.1 246 70)).1 246 72)) v1).1 246 72)) ((wr (wr x 304 (Int32.toNatClampNeg (x.1 246 72)) (x.1 246 70)) 305 (Int32.toNatClampNeg ((wr x 304 (Int32.toNatClampNeg (x.1 246 72)) (x.1 246 70)).1 246 72)) v1).1 246 1)).1 246 72) + 1)) 246 70 0).1 246 72) - 1) (wr (wr (wr (wr (wr x 304 (Int32.toNatClampNeg (x.1 246 72)) (x.1 246 70)) 305 (Int32.toNatClampNeg ((wr x 304 (Int32.toNatClampNeg (x.1 246 72)) (x.1 246 70)).1 246 72)) v1) 306 (Int32.toNatClampNeg ((wr (wr x 304 (Int32.toNatClampNeg (x.1 246 72)) (x.1 246 70)) 305 (Int32.toNatClampNeg ((wr x 304 (Int32.toNatClampNeg (x.1 246 72)) (x.1 246 70)).1 246 72)) v1).1 246 72)) ((wr (wr x 304 (Int32.toNatClampNeg (x.1 246 72)) (x.1 246 70)) 305 (Int32.toNatClampNeg ((wr x 304 (Int32.toNatClampNeg (x.1 246 72)) (x.1 246 70)).1 246 72)) v1).1 246 1)) 246 72 (((wr (wr (wr x 304 (Int32.toNatClampNeg (x.1 246 72)) (x.1 246 70)) 305 (Int32.toNatClampNeg ((wr x 304 (Int32.toNatClampNeg (x.1 246 72)) (x.1 246 70)).1 246 72)) v1) 306 (Int32.toNatClampNeg ((wr (wr x 304 (Int32.toNatClampNeg (x.1 246 72)) (x.1 246 70)) 305 (Int32.toNatClampNeg ((wr x 304 (Int32.toNatClampNeg (x.1 246 72)) (x.1 246 70)).1 246 72)) v1).1 246 72)) ((wr (wr x 304 (Int32.toNatClampNeg (x.1 246 72)) (x.1 246 70)) 305 (Int32.toNatClampNeg ((wr x 304 (Int32.toNatClampNeg (x.1 246 72)) (x.1 246 70)).1 246 72)) v1).1 246 1)).1 246 72) + 1)) 246 70 0))) ∧ (¬ (x.1 246 70) ≤ v2 → (vp_in v2 200 ∧ vp_in ((200 * (x.1 246 72)) + v2) 2400 ∧ L33 (v2 + 1) (wr x 301 (Int32.toNatClampNeg ((200 * (x.1 246 72)) + v2)) (vp_nar .byte (x.1 299 (Int32.toNatClampNeg v2)))))))
set_option maxHeartbeats 4000000 in
set_option maxRecDepth 100000 in
theorem sX12_act_33 (v1 : Int32) (v2 : Int32)  (x : ab_X) (K : Int32 → ab_X → Prop)  (d bc bs : Nat) (hdp : 211 ≤ d)  (h : Lp2 (lX12_act_33 v1 K ) v2 x) : EW MX12_act 33 [(0, .ref 246), (1, .int v1), (2, .int v2)] [] (aS x) d bc bs (liI K) := by
  refine Lp2.use (P := fun v2 x => EW MX12_act 33 [(0, .ref 246), (1, .int v1), (2, .int v2)] [] (aS x) d bc bs (liI K)) (fun L33 v2 x hL33 h => ?_) v2 x h
  unfold lX12_act_33 at h
  refine EW_iload_n (pc2 := 34) rfl dX12_act_33 2 rfl ?_
  refine EW_aload_n (pc2 := 35) rfl dX12_act_34 0 rfl ?_
  refine AW_geti ⟨gfRX12_414, rfl⟩ (pc2 := 38) rfl dX12_act_35 q246 ?_
  refine EW_icmp_ge (tgt := 68) (pc2 := 41) rfl dX12_act_38 (by decide) (fun q => ?_) (fun q => ?_)
  · replace h := h.1 q
    refine EW_aload_n (pc2 := 69) rfl dX12_act_68 0 rfl ?_
    refine AW_getr (r := 304) ⟨gfRX12_183, rfl⟩ (pc2 := 72) rfl dX12_act_69 q246 rfl ?_
    refine EW_aload_n (pc2 := 73) rfl dX12_act_72 0 rfl ?_
    refine AW_geti ⟨gfRX12_522, rfl⟩ (pc2 := 76) rfl dX12_act_73 q246 ?_
    refine EW_aload_n (pc2 := 77) rfl dX12_act_76 0 rfl ?_
    refine AW_geti ⟨gfRX12_414, rfl⟩ (pc2 := 80) rfl dX12_act_77 q246 ?_
    obtain ⟨b4, h⟩ := h
    refine AW_iast (pc2 := 81) rfl dX12_act_80 q304 b4 ?_
    refine EW_aload_n (pc2 := 82) rfl dX12_act_81 0 rfl ?_
    refine AW_getr (r := 305) ⟨gfRX12_186, rfl⟩ (pc2 := 85) rfl dX12_act_82 q246 rfl ?_
    refine EW_aload_n (pc2 := 86) rfl dX12_act_85 0 rfl ?_
    refine AW_geti ⟨gfRX12_522, rfl⟩ (pc2 := 89) rfl dX12_act_86 q246 ?_
    refine EW_iload_n (pc2 := 90) rfl dX12_act_89 1 rfl ?_
    obtain ⟨b5, h⟩ := h
    refine AW_iast (pc2 := 91) rfl dX12_act_90 q305 b5 ?_
    refine EW_aload_n (pc2 := 92) rfl dX12_act_91 0 rfl ?_
    refine AW_getr (r := 306) ⟨gfRX12_189, rfl⟩ (pc2 := 95) rfl dX12_act_92 q246 rfl ?_
    refine EW_aload_n (pc2 := 96) rfl dX12_act_95 0 rfl ?_
    refine AW_geti ⟨gfRX12_522, rfl⟩ (pc2 := 99) rfl dX12_act_96 q246 ?_
    refine EW_aload_n (pc2 := 100) rfl dX12_act_99 0 rfl ?_
    refine AW_geti ⟨gfRX12_395, rfl⟩ (pc2 := 103) rfl dX12_act_100 q246 ?_
    obtain ⟨b6, h⟩ := h
    refine AW_iast (pc2 := 104) rfl dX12_act_103 q306 b6 ?_
    refine EW_aload_n (pc2 := 105) rfl dX12_act_104 0 rfl ?_
    refine EW_dup (pc2 := 106) rfl dX12_act_105 rfl ?_
    refine AW_geti ⟨gfRX12_522, rfl⟩ (pc2 := 109) rfl dX12_act_106 q246 ?_
    refine EW_iconst (pc2 := 110) (v := 1) rfl dX12_act_109 (by decide) ?_
    refine EW_iadd (pc2 := 111) rfl dX12_act_110 ?_
    refine AW_puti ⟨gfRX12_522, rfl, rfl⟩ (pc2 := 114) rfl dX12_act_111 q246 ?_
    refine EW_aload_n (pc2 := 115) rfl dX12_act_114 0 rfl ?_
    refine EW_iconst (pc2 := 116) (v := 0) rfl dX12_act_115 (by decide) ?_
    refine AW_puti ⟨gfRX12_414, rfl, rfl⟩ (pc2 := 119) rfl dX12_act_116 q246 ?_
    refine EW_aload_n (pc2 := 120) rfl dX12_act_119 0 rfl ?_
    refine AW_geti ⟨gfRX12_522, rfl⟩ (pc2 := 123) rfl dX12_act_120 q246 ?_
    refine EW_iconst (pc2 := 124) (v := 1) rfl dX12_act_123 (by decide) ?_
    refine EW_isub (pc2 := 125) rfl dX12_act_124 ?_
    exact AW_iret rfl dX12_act_125 ⟨_, _, rfl, rfl, h⟩
  · replace h := h.2 q
    refine EW_aload_n (pc2 := 42) rfl dX12_act_41 0 rfl ?_
    refine AW_getr (r := 301) ⟨gfRX12_174, rfl⟩ (pc2 := 45) rfl dX12_act_42 q246 rfl ?_
    refine EW_sipush (pc2 := 48) (v := 200) rfl dX12_act_45 (by decide) ?_
    refine EW_aload_n (pc2 := 49) rfl dX12_act_48 0 rfl ?_
    refine AW_geti ⟨gfRX12_522, rfl⟩ (pc2 := 52) rfl dX12_act_49 q246 ?_
    refine EW_imul (pc2 := 53) rfl dX12_act_52 ?_
    refine EW_iload_n (pc2 := 54) rfl dX12_act_53 2 rfl ?_
    refine EW_iadd (pc2 := 55) rfl dX12_act_54 ?_
    refine EW_aload_n (pc2 := 56) rfl dX12_act_55 0 rfl ?_
    refine AW_getr (r := 299) ⟨gfRX12_167, rfl⟩ (pc2 := 59) rfl dX12_act_56 q246 rfl ?_
    refine EW_iload_n (pc2 := 60) rfl dX12_act_59 2 rfl ?_
    obtain ⟨b7, h⟩ := h
    refine AW_bald (pc2 := 61) rfl dX12_act_60 q299 b7 ?_
    obtain ⟨b8, h⟩ := h
    refine AW_bast (pc2 := 62) rfl dX12_act_61 q301 b8 ?_
    refine EW_iinc (v2 + 1) (pc2 := 65) rfl dX12_act_62 2 rfl rfl (by decide) [1, 2, 0] [(0, .ref 246), (1, .int v1), (2, .int (v2 + 1))] rfl ?_
    refine EW_goto (tgt := 33) dX12_act_65 (by decide) ?_
    exact hL33 (v2 + 1) (wr x 301 (Int32.toNatClampNeg ((200 * (x.1 246 72)) + v2)) (vp_nar .byte (x.1 299 (Int32.toNatClampNeg v2)))) h
set_option maxHeartbeats 4000000 in
set_option maxRecDepth 100000 in
def wX12_act (v1 : Int32) (x : ab_X) (K : Int32 → ab_X → Prop) : Prop := wX12_fault 2 x (fun r1 x2 => ((¬ r1 = (-1) → K (-1) x2) ∧ (r1 = (-1) → (((x2.1 246 72) = 12 → K (-1) x2) ∧ (¬ (x2.1 246 72) = 12 → wX12_isIn v1 1 200 x2 (fun r3 => ((¬ r3 = 0 → Lp2 (lX12_act_33 v1 K ) 0 x2) ∧ (r3 = 0 → K (-1) x2))))))))
set_option maxHeartbeats 4000000 in
set_option maxRecDepth 100000 in
theorem sX12_act (v1 : Int32)  (x : ab_X) (K : Int32 → ab_X → Prop) (d bc bs : Nat) (hdp : 211 ≤ d) (h : wX12_act v1 x K) : EW MX12_act 0 [(0, .ref 246), (1, .int v1)] [] (aS x) d bc bs (liI K) := by
  unfold wX12_act at h
  refine EW_aload_n (pc2 := 1) rfl dX12_act_0 0 rfl ?_
  refine EW_iconst (pc2 := 2) (v := 2) rfl dX12_act_1 (by decide) ?_
  refine AW_invV (M' := MX12_fault) [.int 2] (rest := []) mlRX12_517 okX12_fault (pc2 := 5) rfl dX12_act_2 rfl rfl (Nat.le_of_ble_eq_true rfl) (Nat.le_of_ble_eq_true rfl) (d' := 210) (by omega) q246 ⟨by decide, rfl⟩ (EW_mono (fun _ _ hr => ?_) (sX12_fault 2  x _ _ 0 0 (Nat.le_refl _) h))
  obtain ⟨r1, x2, rfl, rfl, h⟩ := hr
  refine EW_iconst (pc2 := 6) (v := (-1)) rfl dX12_act_5 (by decide) ?_
  refine EW_icmp_ne (tgt := 29) (pc2 := 9) rfl dX12_act_6 (by decide) (fun q => ?_) (fun q => ?_)
  · replace h := h.1 q
    refine EW_iconst (pc2 := 30) (v := (-1)) rfl dX12_act_29 (by decide) ?_
    exact AW_iret rfl dX12_act_30 ⟨_, _, rfl, rfl, h⟩
  · replace h := h.2 q
    refine EW_aload_n (pc2 := 10) rfl dX12_act_9 0 rfl ?_
    refine AW_geti ⟨gfRX12_522, rfl⟩ (pc2 := 13) rfl dX12_act_10 q246 ?_
    refine EW_bipush (pc2 := 15) (v := 12) rfl dX12_act_13 (by decide) ?_
    refine EW_icmp_eq (tgt := 29) (pc2 := 18) rfl dX12_act_15 (by decide) (fun q => ?_) (fun q => ?_)
    · replace h := h.1 q
      refine EW_iconst (pc2 := 30) (v := (-1)) rfl dX12_act_29 (by decide) ?_
      exact AW_iret rfl dX12_act_30 ⟨_, _, rfl, rfl, h⟩
    · replace h := h.2 q
      refine EW_iload_n (pc2 := 19) rfl dX12_act_18 1 rfl ?_
      refine EW_iconst (pc2 := 20) (v := 1) rfl dX12_act_19 (by decide) ?_
      refine EW_sipush (pc2 := 23) (v := 200) rfl dX12_act_20 (by decide) ?_
      refine AW_invS (M' := MX12_isIn) [.int v1, .int 1, .int 200] (rest := []) mlRX12_307 okX12_isIn (pc2 := 26) rfl dX12_act_23 rfl rfl (Nat.le_of_ble_eq_true rfl) (Nat.le_of_ble_eq_true rfl) (d' := 0) (by omega) (EW_mono (fun _ _ hr => ?_) (sX12_isIn v1 1 200  x2 _ _ 0 0 (Nat.le_refl _) h))
      obtain ⟨r3, rfl, rfl, h⟩ := hr
      refine EW_if_ne (tgt := 31) (pc2 := 29) rfl dX12_act_26 (by decide) (fun q => ?_) (fun q => ?_)
      · replace h := h.1 q
        refine EW_iconst (pc2 := 32) (v := 0) rfl dX12_act_31 (by decide) ?_
        refine EW_istore_n (pc2 := 33) rfl dX12_act_32 (by decide) [1, 2, 0] [(0, .ref 246), (1, .int v1), (2, .int 0)] rfl ?_
        exact sX12_act_33 v1 0 x2 K d bc bs hdp h
      · replace h := h.2 q
        refine EW_iconst (pc2 := 30) (v := (-1)) rfl dX12_act_29 (by decide) ?_
        exact AW_iret rfl dX12_act_30 ⟨_, _, rfl, rfl, h⟩
