theorem mlRX12_509 : Cond.methodLink RX12 509 yX12_clause ∈ ab_G ∧ Cond.instanceMethod yX12_clause ∈ ab_G ∧ Cond.selects RX12 yX12_clause yX12_clause ∈ ab_G := ⟨ab_in 2471 (by decide +kernel) (by decide +kernel), ab_in 2473 (by decide +kernel) (by decide +kernel), ab_in 48 (by decide +kernel) (by decide +kernel)⟩
abbrev MX12_goThrough : ab_M := (yX12_goThrough, cX12_goThrough, 7, (some .boolean))
theorem dX12_goThrough_0 : decode cX12_goThrough 0 = .ok (.aload_n 0, 1) := by decide +kernel
theorem dX12_goThrough_1 : decode cX12_goThrough 1 = .ok (.aload_n 2, 1) := by decide +kernel
theorem dX12_goThrough_2 : decode cX12_goThrough 2 = .ok (.putfield 205, 3) := by decide +kernel
theorem dX12_goThrough_5 : decode cX12_goThrough 5 = .ok (.aload_n 0, 1) := by decide +kernel
theorem dX12_goThrough_6 : decode cX12_goThrough 6 = .ok (.iload_n 3, 1) := by decide +kernel
theorem dX12_goThrough_7 : decode cX12_goThrough 7 = .ok (.putfield 429, 3) := by decide +kernel
theorem dX12_goThrough_10 : decode cX12_goThrough 10 = .ok (.aload_n 0, 1) := by decide +kernel
theorem dX12_goThrough_11 : decode cX12_goThrough 11 = .ok (.iload 4, 2) := by decide +kernel
theorem dX12_goThrough_13 : decode cX12_goThrough 13 = .ok (.putfield 426, 3) := by decide +kernel
theorem dX12_goThrough_16 : decode cX12_goThrough 16 = .ok (.aload_n 0, 1) := by decide +kernel
theorem dX12_goThrough_17 : decode cX12_goThrough 17 = .ok (.iconst 0, 1) := by decide +kernel
theorem dX12_goThrough_18 : decode cX12_goThrough 18 = .ok (.putfield 423, 3) := by decide +kernel
theorem dX12_goThrough_21 : decode cX12_goThrough 21 = .ok (.aload_n 0, 1) := by decide +kernel
theorem dX12_goThrough_22 : decode cX12_goThrough 22 = .ok (.iconst (-1), 1) := by decide +kernel
theorem dX12_goThrough_23 : decode cX12_goThrough 23 = .ok (.putfield 432, 3) := by decide +kernel
theorem dX12_goThrough_26 : decode cX12_goThrough 26 = .ok (.aload_n 0, 1) := by decide +kernel
theorem dX12_goThrough_27 : decode cX12_goThrough 27 = .ok (.iconst 0, 1) := by decide +kernel
theorem dX12_goThrough_28 : decode cX12_goThrough 28 = .ok (.putfield 435, 3) := by decide +kernel
theorem dX12_goThrough_31 : decode cX12_goThrough 31 = .ok (.aload_n 0, 1) := by decide +kernel
theorem dX12_goThrough_32 : decode cX12_goThrough 32 = .ok (.iconst 0, 1) := by decide +kernel
theorem dX12_goThrough_33 : decode cX12_goThrough 33 = .ok (.putfield 497, 3) := by decide +kernel
theorem dX12_goThrough_36 : decode cX12_goThrough 36 = .ok (.aload_n 0, 1) := by decide +kernel
theorem dX12_goThrough_37 : decode cX12_goThrough 37 = .ok (.iconst 0, 1) := by decide +kernel
theorem dX12_goThrough_38 : decode cX12_goThrough 38 = .ok (.putfield 494, 3) := by decide +kernel
theorem dX12_goThrough_41 : decode cX12_goThrough 41 = .ok (.iconst 0, 1) := by decide +kernel
theorem dX12_goThrough_42 : decode cX12_goThrough 42 = .ok (.istore 5, 2) := by decide +kernel
theorem dX12_goThrough_44 : decode cX12_goThrough 44 = .ok (.iload 5, 2) := by decide +kernel
theorem dX12_goThrough_46 : decode cX12_goThrough 46 = .ok (.iconst 5, 1) := by decide +kernel
theorem dX12_goThrough_47 : decode cX12_goThrough 47 = .ok (.if_icmp .ge 17, 3) := by decide +kernel
theorem dX12_goThrough_50 : decode cX12_goThrough 50 = .ok (.aload_n 0, 1) := by decide +kernel
theorem dX12_goThrough_51 : decode cX12_goThrough 51 = .ok (.getfield 195, 3) := by decide +kernel
theorem dX12_goThrough_54 : decode cX12_goThrough 54 = .ok (.iload 5, 2) := by decide +kernel
theorem dX12_goThrough_56 : decode cX12_goThrough 56 = .ok (.iconst 0, 1) := by decide +kernel
theorem dX12_goThrough_57 : decode cX12_goThrough 57 = .ok (.iastore, 1) := by decide +kernel
theorem dX12_goThrough_58 : decode cX12_goThrough 58 = .ok (.iinc 5 1, 3) := by decide +kernel
theorem dX12_goThrough_61 : decode cX12_goThrough 61 = .ok (.goto (-17), 3) := by decide +kernel
theorem dX12_goThrough_64 : decode cX12_goThrough 64 = .ok (.aload_n 0, 1) := by decide +kernel
theorem dX12_goThrough_65 : decode cX12_goThrough 65 = .ok (.iload_n 1, 1) := by decide +kernel
theorem dX12_goThrough_66 : decode cX12_goThrough 66 = .ok (.ifCond .ne 9, 3) := by decide +kernel
theorem dX12_goThrough_69 : decode cX12_goThrough 69 = .ok (.ldc_w 503, 3) := by decide +kernel
theorem dX12_goThrough_72 : decode cX12_goThrough 72 = .ok (.goto 17, 3) := by decide +kernel
theorem dX12_goThrough_75 : decode cX12_goThrough 75 = .ok (.iload_n 1, 1) := by decide +kernel
theorem dX12_goThrough_76 : decode cX12_goThrough 76 = .ok (.iconst 1, 1) := by decide +kernel
theorem dX12_goThrough_77 : decode cX12_goThrough 77 = .ok (.if_icmp .ne 9, 3) := by decide +kernel
theorem dX12_goThrough_80 : decode cX12_goThrough 80 = .ok (.ldc_w 505, 3) := by decide +kernel
theorem dX12_goThrough_83 : decode cX12_goThrough 83 = .ok (.goto 6, 3) := by decide +kernel
theorem dX12_goThrough_86 : decode cX12_goThrough 86 = .ok (.ldc_w 507, 3) := by decide +kernel
theorem dX12_goThrough_89 : decode cX12_goThrough 89 = .ok (.putfield 210, 3) := by decide +kernel
theorem dX12_goThrough_92 : decode cX12_goThrough 92 = .ok (.iload_n 1, 1) := by decide +kernel
theorem dX12_goThrough_93 : decode cX12_goThrough 93 = .ok (.iconst 1, 1) := by decide +kernel
theorem dX12_goThrough_94 : decode cX12_goThrough 94 = .ok (.if_icmp .ne 33, 3) := by decide +kernel
theorem dX12_goThrough_97 : decode cX12_goThrough 97 = .ok (.aload_n 0, 1) := by decide +kernel
theorem dX12_goThrough_98 : decode cX12_goThrough 98 = .ok (.invokevirtual 488, 3) := by decide +kernel
theorem dX12_goThrough_101 : decode cX12_goThrough 101 = .ok (.istore 5, 2) := by decide +kernel
theorem dX12_goThrough_103 : decode cX12_goThrough 103 = .ok (.aload_n 0, 1) := by decide +kernel
theorem dX12_goThrough_104 : decode cX12_goThrough 104 = .ok (.getfield 432, 3) := by decide +kernel
theorem dX12_goThrough_107 : decode cX12_goThrough 107 = .ok (.iconst (-1), 1) := by decide +kernel
theorem dX12_goThrough_108 : decode cX12_goThrough 108 = .ok (.if_icmp .ne 16, 3) := by decide +kernel
theorem dX12_goThrough_111 : decode cX12_goThrough 111 = .ok (.aload_n 0, 1) := by decide +kernel
theorem dX12_goThrough_112 : decode cX12_goThrough 112 = .ok (.invokevirtual 442, 3) := by decide +kernel
theorem dX12_goThrough_115 : decode cX12_goThrough 115 = .ok (.iconst (-1), 1) := by decide +kernel
theorem dX12_goThrough_116 : decode cX12_goThrough 116 = .ok (.if_icmp .eq 8, 3) := by decide +kernel
theorem dX12_goThrough_119 : decode cX12_goThrough 119 = .ok (.aload_n 0, 1) := by decide +kernel
theorem dX12_goThrough_120 : decode cX12_goThrough 120 = .ok (.invokevirtual 438, 3) := by decide +kernel
theorem dX12_goThrough_123 : decode cX12_goThrough 123 = .ok (.pop, 1) := by decide +kernel
theorem dX12_goThrough_124 : decode cX12_goThrough 124 = .ok (.iload 5, 2) := by decide +kernel
theorem dX12_goThrough_126 : decode cX12_goThrough 126 = .ok (.ireturn, 1) := by decide +kernel
theorem dX12_goThrough_127 : decode cX12_goThrough 127 = .ok (.iconst 0, 1) := by decide +kernel
theorem dX12_goThrough_128 : decode cX12_goThrough 128 = .ok (.istore 5, 2) := by decide +kernel
theorem dX12_goThrough_130 : decode cX12_goThrough 130 = .ok (.iconst 1, 1) := by decide +kernel
theorem dX12_goThrough_131 : decode cX12_goThrough 131 = .ok (.istore 6, 2) := by decide +kernel
theorem dX12_goThrough_133 : decode cX12_goThrough 133 = .ok (.iload 6, 2) := by decide +kernel
theorem dX12_goThrough_135 : decode cX12_goThrough 135 = .ok (.ifCond .eq 64, 3) := by decide +kernel
theorem dX12_goThrough_138 : decode cX12_goThrough 138 = .ok (.aload_n 0, 1) := by decide +kernel
theorem dX12_goThrough_139 : decode cX12_goThrough 139 = .ok (.iload_n 1, 1) := by decide +kernel
theorem dX12_goThrough_140 : decode cX12_goThrough 140 = .ok (.iconst 2, 1) := by decide +kernel
theorem dX12_goThrough_141 : decode cX12_goThrough 141 = .ok (.if_icmp .ne 7, 3) := by decide +kernel
theorem dX12_goThrough_144 : decode cX12_goThrough 144 = .ok (.iconst 1, 1) := by decide +kernel
theorem dX12_goThrough_145 : decode cX12_goThrough 145 = .ok (.goto 4, 3) := by decide +kernel
theorem dX12_goThrough_148 : decode cX12_goThrough 148 = .ok (.iconst 0, 1) := by decide +kernel
theorem dX12_goThrough_149 : decode cX12_goThrough 149 = .ok (.iload 5, 2) := by decide +kernel
theorem dX12_goThrough_151 : decode cX12_goThrough 151 = .ok (.invokevirtual 509, 3) := by decide +kernel
theorem dX12_goThrough_154 : decode cX12_goThrough 154 = .ok (.iinc 5 1, 3) := by decide +kernel
theorem dX12_goThrough_157 : decode cX12_goThrough 157 = .ok (.aload_n 0, 1) := by decide +kernel
theorem dX12_goThrough_158 : decode cX12_goThrough 158 = .ok (.getfield 432, 3) := by decide +kernel
theorem dX12_goThrough_161 : decode cX12_goThrough 161 = .ok (.iconst (-1), 1) := by decide +kernel
theorem dX12_goThrough_162 : decode cX12_goThrough 162 = .ok (.if_icmp .ne 16, 3) := by decide +kernel
theorem dX12_goThrough_165 : decode cX12_goThrough 165 = .ok (.aload_n 0, 1) := by decide +kernel
theorem dX12_goThrough_166 : decode cX12_goThrough 166 = .ok (.invokevirtual 442, 3) := by decide +kernel
theorem dX12_goThrough_169 : decode cX12_goThrough 169 = .ok (.bipush 59, 2) := by decide +kernel
theorem dX12_goThrough_171 : decode cX12_goThrough 171 = .ok (.if_icmp .ne 7, 3) := by decide +kernel
theorem dX12_goThrough_174 : decode cX12_goThrough 174 = .ok (.iconst 1, 1) := by decide +kernel
theorem dX12_goThrough_175 : decode cX12_goThrough 175 = .ok (.goto 4, 3) := by decide +kernel
theorem dX12_goThrough_178 : decode cX12_goThrough 178 = .ok (.iconst 0, 1) := by decide +kernel
theorem dX12_goThrough_179 : decode cX12_goThrough 179 = .ok (.istore 6, 2) := by decide +kernel
theorem dX12_goThrough_181 : decode cX12_goThrough 181 = .ok (.iload 6, 2) := by decide +kernel
theorem dX12_goThrough_183 : decode cX12_goThrough 183 = .ok (.ifCond .eq (-50), 3) := by decide +kernel
theorem dX12_goThrough_186 : decode cX12_goThrough 186 = .ok (.aload_n 0, 1) := by decide +kernel
theorem dX12_goThrough_187 : decode cX12_goThrough 187 = .ok (.dup, 1) := by decide +kernel
theorem dX12_goThrough_188 : decode cX12_goThrough 188 = .ok (.getfield 423, 3) := by decide +kernel
theorem dX12_goThrough_191 : decode cX12_goThrough 191 = .ok (.iconst 1, 1) := by decide +kernel
theorem dX12_goThrough_192 : decode cX12_goThrough 192 = .ok (.iadd, 1) := by decide +kernel
theorem dX12_goThrough_193 : decode cX12_goThrough 193 = .ok (.putfield 423, 3) := by decide +kernel
theorem dX12_goThrough_196 : decode cX12_goThrough 196 = .ok (.goto (-63), 3) := by decide +kernel
theorem dX12_goThrough_199 : decode cX12_goThrough 199 = .ok (.aload_n 0, 1) := by decide +kernel
theorem dX12_goThrough_200 : decode cX12_goThrough 200 = .ok (.getfield 432, 3) := by decide +kernel
theorem dX12_goThrough_203 : decode cX12_goThrough 203 = .ok (.iconst (-1), 1) := by decide +kernel
theorem dX12_goThrough_204 : decode cX12_goThrough 204 = .ok (.if_icmp .ne 16, 3) := by decide +kernel
theorem dX12_goThrough_207 : decode cX12_goThrough 207 = .ok (.aload_n 0, 1) := by decide +kernel
theorem dX12_goThrough_208 : decode cX12_goThrough 208 = .ok (.invokevirtual 442, 3) := by decide +kernel
theorem dX12_goThrough_211 : decode cX12_goThrough 211 = .ok (.iconst (-1), 1) := by decide +kernel
theorem dX12_goThrough_212 : decode cX12_goThrough 212 = .ok (.if_icmp .eq 8, 3) := by decide +kernel
theorem dX12_goThrough_215 : decode cX12_goThrough 215 = .ok (.aload_n 0, 1) := by decide +kernel
theorem dX12_goThrough_216 : decode cX12_goThrough 216 = .ok (.invokevirtual 438, 3) := by decide +kernel
theorem dX12_goThrough_219 : decode cX12_goThrough 219 = .ok (.pop, 1) := by decide +kernel
theorem dX12_goThrough_220 : decode cX12_goThrough 220 = .ok (.aload_n 0, 1) := by decide +kernel
theorem dX12_goThrough_221 : decode cX12_goThrough 221 = .ok (.getfield 432, 3) := by decide +kernel
theorem dX12_goThrough_224 : decode cX12_goThrough 224 = .ok (.iconst (-1), 1) := by decide +kernel
theorem dX12_goThrough_225 : decode cX12_goThrough 225 = .ok (.if_icmp .ne 7, 3) := by decide +kernel
theorem dX12_goThrough_228 : decode cX12_goThrough 228 = .ok (.iconst 1, 1) := by decide +kernel
theorem dX12_goThrough_229 : decode cX12_goThrough 229 = .ok (.goto 4, 3) := by decide +kernel
theorem dX12_goThrough_232 : decode cX12_goThrough 232 = .ok (.iconst 0, 1) := by decide +kernel
theorem dX12_goThrough_233 : decode cX12_goThrough 233 = .ok (.ireturn, 1) := by decide +kernel
theorem okX12_goThrough : ab_okM MX12_goThrough 4 := ⟨by decide, ⟨by decide, by decide⟩, ab_in 2411 (by decide +kernel) (by decide +kernel), ab_in 99 (by decide +kernel) (by decide +kernel), by decide +kernel, by decide⟩
set_option maxHeartbeats 4000000 in
set_option maxRecDepth 100000 in
theorem sX12_goThrough_220   (x : ab_X) (K : Int32 → ab_X → Prop)  (d bc bs : Nat) (hdp : 209 ≤ d)  (h : wX12_goThrough_220  x K ) : EW MX12_goThrough 220 [(0, .ref 246)] [] (aS x) d bc bs (liI K) := by
  unfold wX12_goThrough_220 at h
  refine EW_aload_n (pc2 := 221) rfl dX12_goThrough_220 0 rfl ?_
  refine AW_geti ⟨gfRX12_432, rfl⟩ (pc2 := 224) rfl dX12_goThrough_221 q246 ?_
  refine EW_iconst (pc2 := 225) (v := (-1)) rfl dX12_goThrough_224 (by decide) ?_
  refine EW_icmp_ne (tgt := 232) (pc2 := 228) rfl dX12_goThrough_225 (by decide) (fun q => ?_) (fun q => ?_)
  · replace h := h.1 q
    refine EW_iconst (pc2 := 233) (v := 0) rfl dX12_goThrough_232 (by decide) ?_
    exact AW_zret rfl isB0 dX12_goThrough_233 ⟨_, _, rfl, rfl, h⟩
  · replace h := h.2 q
    refine EW_iconst (pc2 := 229) (v := 1) rfl dX12_goThrough_228 (by decide) ?_
    refine EW_goto (tgt := 233) dX12_goThrough_229 (by decide) ?_
    exact AW_zret rfl isB1 dX12_goThrough_233 ⟨_, _, rfl, rfl, h⟩
set_option maxHeartbeats 4000000 in
set_option maxRecDepth 100000 in
theorem sX12_goThrough_179 (v1 : Int32) (v5 : Int32) (s0 : Int32)  (x : ab_X) (K : Int32 → ab_X → Prop) (L133 : Int32 → Int32 → ab_X → Prop) (d bc bs : Nat) (hdp : 209 ≤ d) (hL133 : ∀ (v5 : Int32) (v6 : Int32) (x : ab_X), L133 v5 v6 x → EW MX12_goThrough 133 [(0, .ref 246), (1, .int v1), (5, .int v5), (6, .int v6)] [] (aS x) d bc bs (liI K)) (h : wX12_goThrough_179 v1 v5 s0 x K L133) : EW MX12_goThrough 179 [(0, .ref 246), (1, .int v1), (5, .int v5)] [.int s0] (aS x) d bc bs (liI K) := by
  unfold wX12_goThrough_179 at h
  refine EW_istore (pc2 := 181) rfl dX12_goThrough_179 (by decide) [1, 2, 3, 0] [(0, .ref 246), (1, .int v1), (5, .int v5), (6, .int s0)] rfl ?_
  refine EW_iload (pc2 := 183) rfl dX12_goThrough_181 3 rfl ?_
  refine EW_if_eq (tgt := 133) (pc2 := 186) rfl dX12_goThrough_183 (by decide) (fun q => ?_) (fun q => ?_)
  · replace h := h.1 q
    exact hL133 v5 s0 x h
  · replace h := h.2 q
    refine EW_aload_n (pc2 := 187) rfl dX12_goThrough_186 0 rfl ?_
    refine EW_dup (pc2 := 188) rfl dX12_goThrough_187 rfl ?_
    refine AW_geti ⟨gfRX12_423, rfl⟩ (pc2 := 191) rfl dX12_goThrough_188 q246 ?_
    refine EW_iconst (pc2 := 192) (v := 1) rfl dX12_goThrough_191 (by decide) ?_
    refine EW_iadd (pc2 := 193) rfl dX12_goThrough_192 ?_
    refine AW_puti ⟨gfRX12_423, rfl, rfl⟩ (pc2 := 196) rfl dX12_goThrough_193 q246 ?_
    refine EW_goto (tgt := 133) dX12_goThrough_196 (by decide) ?_
    exact hL133 v5 s0 (wr x 246 80 ((x.1 246 80) + 1)) h
set_option maxHeartbeats 4000000 in
set_option maxRecDepth 100000 in
theorem sX12_goThrough_178 (v1 : Int32) (v5 : Int32)  (x : ab_X) (K : Int32 → ab_X → Prop) (L133 : Int32 → Int32 → ab_X → Prop) (d bc bs : Nat) (hdp : 209 ≤ d) (hL133 : ∀ (v5 : Int32) (v6 : Int32) (x : ab_X), L133 v5 v6 x → EW MX12_goThrough 133 [(0, .ref 246), (1, .int v1), (5, .int v5), (6, .int v6)] [] (aS x) d bc bs (liI K)) (h : wX12_goThrough_178 v1 v5 x K L133) : EW MX12_goThrough 178 [(0, .ref 246), (1, .int v1), (5, .int v5)] [] (aS x) d bc bs (liI K) := by
  unfold wX12_goThrough_178 at h
  refine EW_iconst (pc2 := 179) (v := 0) rfl dX12_goThrough_178 (by decide) ?_
  exact sX12_goThrough_179 v1 v5 0 x K L133 d bc bs hdp hL133 h
set_option maxHeartbeats 4000000 in
set_option maxRecDepth 100000 in
theorem sX12_goThrough_149 (v1 : Int32) (v5 : Int32) (s1 : Int32)  (x : ab_X) (K : Int32 → ab_X → Prop) (L133 : Int32 → Int32 → ab_X → Prop) (d bc bs : Nat) (hdp : 209 ≤ d) (hL133 : ∀ (v5 : Int32) (v6 : Int32) (x : ab_X), L133 v5 v6 x → EW MX12_goThrough 133 [(0, .ref 246), (1, .int v1), (5, .int v5), (6, .int v6)] [] (aS x) d bc bs (liI K)) (h : wX12_goThrough_149 v1 v5 s1 x K L133) : EW MX12_goThrough 149 [(0, .ref 246), (1, .int v1), (5, .int v5)] [.int s1, .ref 246] (aS x) d bc bs (liI K) := by
  unfold wX12_goThrough_149 at h
  refine EW_iload (pc2 := 151) rfl dX12_goThrough_149 2 rfl ?_
  refine AW_invV (M' := MX12_clause) [.int s1, .int v5] (rest := []) mlRX12_509 okX12_clause (pc2 := 154) rfl dX12_goThrough_151 rfl rfl (Nat.le_of_ble_eq_true rfl) (Nat.le_of_ble_eq_true rfl) (d' := 208) (by omega) q246 ⟨by decide, rfl⟩ (EW_mono (fun _ _ hr => ?_) (sX12_clause s1 v5  x _ _ 0 0 (Nat.le_refl _) h))
  obtain ⟨x15, rfl, rfl, h⟩ := hr
  refine EW_iinc (v5 + 1) (pc2 := 157) rfl dX12_goThrough_154 2 rfl rfl (by decide) [1, 2, 0] [(0, .ref 246), (1, .int v1), (5, .int (v5 + 1))] rfl ?_
  refine EW_aload_n (pc2 := 158) rfl dX12_goThrough_157 0 rfl ?_
  refine AW_geti ⟨gfRX12_432, rfl⟩ (pc2 := 161) rfl dX12_goThrough_158 q246 ?_
  refine EW_iconst (pc2 := 162) (v := (-1)) rfl dX12_goThrough_161 (by decide) ?_
  refine EW_icmp_ne (tgt := 178) (pc2 := 165) rfl dX12_goThrough_162 (by decide) (fun q => ?_) (fun q => ?_)
  · replace h := h.1 q
    exact sX12_goThrough_178 v1 (v5 + 1) x15 K L133 d bc bs hdp hL133 h
  · replace h := h.2 q
    refine EW_aload_n (pc2 := 166) rfl dX12_goThrough_165 0 rfl ?_
    refine AW_invV (M' := MX12_look) [] (rest := []) mlRX12_442 okX12_look (pc2 := 169) rfl dX12_goThrough_166 rfl rfl (Nat.le_of_ble_eq_true rfl) (Nat.le_of_ble_eq_true rfl) (d' := 0) (by omega) q246 ⟨by decide, rfl⟩ (EW_mono (fun _ _ hr => ?_) (sX12_look   x15 _ _ 0 0 (Nat.le_refl _) h))
    obtain ⟨r16, x17, rfl, rfl, h⟩ := hr
    refine EW_bipush (pc2 := 171) (v := 59) rfl dX12_goThrough_169 (by decide) ?_
    refine EW_icmp_ne (tgt := 178) (pc2 := 174) rfl dX12_goThrough_171 (by decide) (fun q => ?_) (fun q => ?_)
    · replace h := h.1 q
      exact sX12_goThrough_178 v1 (v5 + 1) x17 K L133 d bc bs hdp hL133 h
    · replace h := h.2 q
      refine EW_iconst (pc2 := 175) (v := 1) rfl dX12_goThrough_174 (by decide) ?_
      refine EW_goto (tgt := 179) dX12_goThrough_175 (by decide) ?_
      exact sX12_goThrough_179 v1 (v5 + 1) 1 x17 K L133 d bc bs hdp hL133 h
set_option maxHeartbeats 4000000 in
set_option maxRecDepth 100000 in
theorem sX12_goThrough_133 (v1 : Int32) (v5 : Int32) (v6 : Int32)  (x : ab_X) (K : Int32 → ab_X → Prop)  (d bc bs : Nat) (hdp : 209 ≤ d)  (h : Lp3 (lX12_goThrough_133 v1 K ) v5 v6 x) : EW MX12_goThrough 133 [(0, .ref 246), (1, .int v1), (5, .int v5), (6, .int v6)] [] (aS x) d bc bs (liI K) := by
  refine Lp3.use (P := fun v5 v6 x => EW MX12_goThrough 133 [(0, .ref 246), (1, .int v1), (5, .int v5), (6, .int v6)] [] (aS x) d bc bs (liI K)) (fun L133 v5 v6 x hL133 h => ?_) v5 v6 x h
  unfold lX12_goThrough_133 at h
  refine EW_iload (pc2 := 135) rfl dX12_goThrough_133 3 rfl ?_
  refine EW_if_eq (tgt := 199) (pc2 := 138) rfl dX12_goThrough_135 (by decide) (fun q => ?_) (fun q => ?_)
  · replace h := h.1 q
    refine EW_aload_n (pc2 := 200) rfl dX12_goThrough_199 0 rfl ?_
    refine AW_geti ⟨gfRX12_432, rfl⟩ (pc2 := 203) rfl dX12_goThrough_200 q246 ?_
    refine EW_iconst (pc2 := 204) (v := (-1)) rfl dX12_goThrough_203 (by decide) ?_
    refine EW_icmp_ne (tgt := 220) (pc2 := 207) rfl dX12_goThrough_204 (by decide) (fun q => ?_) (fun q => ?_)
    · replace h := h.1 q
      refine EW_ls [0] rfl ?_
      exact sX12_goThrough_220  x K d bc bs hdp h
    · replace h := h.2 q
      refine EW_aload_n (pc2 := 208) rfl dX12_goThrough_207 0 rfl ?_
      refine AW_invV (M' := MX12_look) [] (rest := []) mlRX12_442 okX12_look (pc2 := 211) rfl dX12_goThrough_208 rfl rfl (Nat.le_of_ble_eq_true rfl) (Nat.le_of_ble_eq_true rfl) (d' := 0) (by omega) q246 ⟨by decide, rfl⟩ (EW_mono (fun _ _ hr => ?_) (sX12_look   x _ _ 0 0 (Nat.le_refl _) h))
      obtain ⟨r11, x12, rfl, rfl, h⟩ := hr
      refine EW_iconst (pc2 := 212) (v := (-1)) rfl dX12_goThrough_211 (by decide) ?_
      refine EW_icmp_eq (tgt := 220) (pc2 := 215) rfl dX12_goThrough_212 (by decide) (fun q => ?_) (fun q => ?_)
      · replace h := h.1 q
        refine EW_ls [0] rfl ?_
        exact sX12_goThrough_220  x12 K d bc bs hdp h
      · replace h := h.2 q
        refine EW_aload_n (pc2 := 216) rfl dX12_goThrough_215 0 rfl ?_
        refine AW_invV (M' := MX12_stop) [] (rest := []) mlRX12_438 okX12_stop (pc2 := 219) rfl dX12_goThrough_216 rfl rfl (Nat.le_of_ble_eq_true rfl) (Nat.le_of_ble_eq_true rfl) (d' := 0) (by omega) q246 ⟨by decide, rfl⟩ (EW_mono (fun _ _ hr => ?_) (sX12_stop   x12 _ _ 0 0 (Nat.le_refl _) h))
        obtain ⟨r13, x14, rfl, rfl, h⟩ := hr
        refine EW_pop (pc2 := 220) rfl dX12_goThrough_219 rfl ?_
        refine EW_ls [0] rfl ?_
        exact sX12_goThrough_220  x14 K d bc bs hdp h
  · replace h := h.2 q
    refine EW_aload_n (pc2 := 139) rfl dX12_goThrough_138 0 rfl ?_
    refine EW_iload_n (pc2 := 140) rfl dX12_goThrough_139 1 rfl ?_
    refine EW_iconst (pc2 := 141) (v := 2) rfl dX12_goThrough_140 (by decide) ?_
    refine EW_icmp_ne (tgt := 148) (pc2 := 144) rfl dX12_goThrough_141 (by decide) (fun q => ?_) (fun q => ?_)
    · replace h := h.1 q
      refine EW_iconst (pc2 := 149) (v := 0) rfl dX12_goThrough_148 (by decide) ?_
      refine EW_ls [0, 1, 2] rfl ?_
      exact sX12_goThrough_149 v1 v5 0 x K L133 d bc bs hdp hL133 h
    · replace h := h.2 q
      refine EW_iconst (pc2 := 145) (v := 1) rfl dX12_goThrough_144 (by decide) ?_
      refine EW_goto (tgt := 149) dX12_goThrough_145 (by decide) ?_
      refine EW_ls [0, 1, 2] rfl ?_
      exact sX12_goThrough_149 v1 v5 1 x K L133 d bc bs hdp hL133 h
set_option maxHeartbeats 4000000 in
set_option maxRecDepth 100000 in
theorem sX12_goThrough_89 (v1 : Int32) (s1 : Nat) (hs1 : isS s1) (x : ab_X) (K : Int32 → ab_X → Prop)  (d bc bs : Nat) (hdp : 209 ≤ d)  (h : wX12_goThrough_89 v1 s1 x K ) : EW MX12_goThrough 89 [(0, .ref 246), (1, .int v1)] [.ref s1, .ref 246] (aS x) d bc bs (liI K) := by
  unfold wX12_goThrough_89 at h
  refine AW_putmk gfRX12_210 (pc2 := 92) rfl dX12_goThrough_89 ?_
  refine EW_iload_n (pc2 := 93) rfl dX12_goThrough_92 1 rfl ?_
  refine EW_iconst (pc2 := 94) (v := 1) rfl dX12_goThrough_93 (by decide) ?_
  refine EW_icmp_ne (tgt := 127) (pc2 := 97) rfl dX12_goThrough_94 (by decide) (fun q => ?_) (fun q => ?_)
  · replace h := h.1 q
    refine EW_iconst (pc2 := 128) (v := 0) rfl dX12_goThrough_127 (by decide) ?_
    refine EW_istore (pc2 := 130) rfl dX12_goThrough_128 (by decide) [1, 2, 0] [(0, .ref 246), (1, .int v1), (5, .int 0)] rfl ?_
    refine EW_iconst (pc2 := 131) (v := 1) rfl dX12_goThrough_130 (by decide) ?_
    refine EW_istore (pc2 := 133) rfl dX12_goThrough_131 (by decide) [1, 2, 3, 0] [(0, .ref 246), (1, .int v1), (5, .int 0), (6, .int 1)] rfl ?_
    exact sX12_goThrough_133 v1 0 1 (wmk x s1) K d bc bs hdp h
  · replace h := h.2 q
    refine EW_aload_n (pc2 := 98) rfl dX12_goThrough_97 0 rfl ?_
    refine AW_invV (M' := MX12_condition) [] (rest := []) mlRX12_488 okX12_condition (pc2 := 101) rfl dX12_goThrough_98 rfl rfl (Nat.le_of_ble_eq_true rfl) (Nat.le_of_ble_eq_true rfl) (d' := 207) (by omega) q246 ⟨by decide, rfl⟩ (EW_mono (fun _ _ hr => ?_) (sX12_condition   (wmk x s1) _ _ 0 0 (Nat.le_refl _) h))
    obtain ⟨r2, x3, rfl, rfl, h⟩ := hr
    refine EW_istore (pc2 := 103) rfl dX12_goThrough_101 (by decide) [1, 2, 0] [(0, .ref 246), (1, .int v1), (5, .int r2)] rfl ?_
    refine EW_aload_n (pc2 := 104) rfl dX12_goThrough_103 0 rfl ?_
    refine AW_geti ⟨gfRX12_432, rfl⟩ (pc2 := 107) rfl dX12_goThrough_104 q246 ?_
    refine EW_iconst (pc2 := 108) (v := (-1)) rfl dX12_goThrough_107 (by decide) ?_
    refine EW_icmp_ne (tgt := 124) (pc2 := 111) rfl dX12_goThrough_108 (by decide) (fun q => ?_) (fun q => ?_)
    · replace h := h.1 q
      refine EW_iload (pc2 := 126) rfl dX12_goThrough_124 2 rfl ?_
      obtain ⟨z4, h⟩ := h
      exact AW_zret rfl z4 dX12_goThrough_126 ⟨_, _, rfl, rfl, h⟩
    · replace h := h.2 q
      refine EW_aload_n (pc2 := 112) rfl dX12_goThrough_111 0 rfl ?_
      refine AW_invV (M' := MX12_look) [] (rest := []) mlRX12_442 okX12_look (pc2 := 115) rfl dX12_goThrough_112 rfl rfl (Nat.le_of_ble_eq_true rfl) (Nat.le_of_ble_eq_true rfl) (d' := 0) (by omega) q246 ⟨by decide, rfl⟩ (EW_mono (fun _ _ hr => ?_) (sX12_look   x3 _ _ 0 0 (Nat.le_refl _) h))
      obtain ⟨r5, x6, rfl, rfl, h⟩ := hr
      refine EW_iconst (pc2 := 116) (v := (-1)) rfl dX12_goThrough_115 (by decide) ?_
      refine EW_icmp_eq (tgt := 124) (pc2 := 119) rfl dX12_goThrough_116 (by decide) (fun q => ?_) (fun q => ?_)
      · replace h := h.1 q
        refine EW_iload (pc2 := 126) rfl dX12_goThrough_124 2 rfl ?_
        obtain ⟨z7, h⟩ := h
        exact AW_zret rfl z7 dX12_goThrough_126 ⟨_, _, rfl, rfl, h⟩
      · replace h := h.2 q
        refine EW_aload_n (pc2 := 120) rfl dX12_goThrough_119 0 rfl ?_
        refine AW_invV (M' := MX12_stop) [] (rest := []) mlRX12_438 okX12_stop (pc2 := 123) rfl dX12_goThrough_120 rfl rfl (Nat.le_of_ble_eq_true rfl) (Nat.le_of_ble_eq_true rfl) (d' := 0) (by omega) q246 ⟨by decide, rfl⟩ (EW_mono (fun _ _ hr => ?_) (sX12_stop   x6 _ _ 0 0 (Nat.le_refl _) h))
        obtain ⟨r8, x9, rfl, rfl, h⟩ := hr
        refine EW_pop (pc2 := 124) rfl dX12_goThrough_123 rfl ?_
        refine EW_iload (pc2 := 126) rfl dX12_goThrough_124 2 rfl ?_
        obtain ⟨z10, h⟩ := h
        exact AW_zret rfl z10 dX12_goThrough_126 ⟨_, _, rfl, rfl, h⟩
set_option maxHeartbeats 4000000 in
set_option maxRecDepth 100000 in
theorem sX12_goThrough_44 (v1 : Int32) (v5 : Int32)  (x : ab_X) (K : Int32 → ab_X → Prop)  (d bc bs : Nat) (hdp : 209 ≤ d)  (h : Lp2 (lX12_goThrough_44 v1 K ) v5 x) : EW MX12_goThrough 44 [(0, .ref 246), (1, .int v1), (5, .int v5)] [] (aS x) d bc bs (liI K) := by
  refine Lp2.use (P := fun v5 x => EW MX12_goThrough 44 [(0, .ref 246), (1, .int v1), (5, .int v5)] [] (aS x) d bc bs (liI K)) (fun L44 v5 x hL44 h => ?_) v5 x h
  unfold lX12_goThrough_44 at h
  refine EW_iload (pc2 := 46) rfl dX12_goThrough_44 2 rfl ?_
  refine EW_iconst (pc2 := 47) (v := 5) rfl dX12_goThrough_46 (by decide) ?_
  refine EW_icmp_ge (tgt := 64) (pc2 := 50) rfl dX12_goThrough_47 (by decide) (fun q => ?_) (fun q => ?_)
  · replace h := h.1 q
    refine EW_aload_n (pc2 := 65) rfl dX12_goThrough_64 0 rfl ?_
    refine EW_iload_n (pc2 := 66) rfl dX12_goThrough_65 1 rfl ?_
    refine EW_if_ne (tgt := 75) (pc2 := 69) rfl dX12_goThrough_66 (by decide) (fun q => ?_) (fun q => ?_)
    · replace h := h.1 q
      refine EW_iload_n (pc2 := 76) rfl dX12_goThrough_75 1 rfl ?_
      refine EW_iconst (pc2 := 77) (v := 1) rfl dX12_goThrough_76 (by decide) ?_
      refine EW_icmp_ne (tgt := 86) (pc2 := 80) rfl dX12_goThrough_77 (by decide) (fun q => ?_) (fun q => ?_)
      · replace h := h.1 q
        refine AW_strw_M507 rfl (pc2 := 89) rfl dX12_goThrough_86 ?_
        refine EW_ls [0, 1] rfl ?_
        exact sX12_goThrough_89 v1 1000002 (⟨2, by decide, rfl⟩ : isS 1000002) x K d bc bs hdp h
      · replace h := h.2 q
        refine AW_strw_M505 rfl (pc2 := 83) rfl dX12_goThrough_80 ?_
        refine EW_goto (tgt := 89) dX12_goThrough_83 (by decide) ?_
        refine EW_ls [0, 1] rfl ?_
        exact sX12_goThrough_89 v1 1000001 (⟨1, by decide, rfl⟩ : isS 1000001) x K d bc bs hdp h
    · replace h := h.2 q
      refine AW_strw_M503 rfl (pc2 := 72) rfl dX12_goThrough_69 ?_
      refine EW_goto (tgt := 89) dX12_goThrough_72 (by decide) ?_
      refine EW_ls [0, 1] rfl ?_
      exact sX12_goThrough_89 v1 1000000 (⟨0, by decide, rfl⟩ : isS 1000000) x K d bc bs hdp h
  · replace h := h.2 q
    refine EW_aload_n (pc2 := 51) rfl dX12_goThrough_50 0 rfl ?_
    refine AW_getr (r := 308) ⟨gfRX12_195, rfl⟩ (pc2 := 54) rfl dX12_goThrough_51 q246 rfl ?_
    refine EW_iload (pc2 := 56) rfl dX12_goThrough_54 2 rfl ?_
    refine EW_iconst (pc2 := 57) (v := 0) rfl dX12_goThrough_56 (by decide) ?_
    obtain ⟨b1, h⟩ := h
    refine AW_iast (pc2 := 58) rfl dX12_goThrough_57 q308 b1 ?_
    refine EW_iinc (v5 + 1) (pc2 := 61) rfl dX12_goThrough_58 2 rfl rfl (by decide) [1, 2, 0] [(0, .ref 246), (1, .int v1), (5, .int (v5 + 1))] rfl ?_
    refine EW_goto (tgt := 44) dX12_goThrough_61 (by decide) ?_
    exact hL44 (v5 + 1) (wr x 308 (Int32.toNatClampNeg v5) 0) h
set_option maxHeartbeats 4000000 in
set_option maxRecDepth 100000 in
theorem sX12_goThrough (v1 : Int32) (v2 : Nat) (v3 : Int32) (v4 : Int32)  (x : ab_X) (K : Int32 → ab_X → Prop) (d bc bs : Nat) (hdp : 209 ≤ d) (h : wX12_goThrough v1 v2 v3 v4 x K) : EW MX12_goThrough 0 [(0, .ref 246), (1, .int v1), (2, .ref v2), (3, .int v3), (4, .int v4)] [] (aS x) d bc bs (liI K) := by
  unfold wX12_goThrough at h
  refine EW_aload_n (pc2 := 1) rfl dX12_goThrough_0 0 rfl ?_
  refine EW_aload_n (pc2 := 2) rfl dX12_goThrough_1 2 rfl ?_
  refine AW_putmt gfRX12_205 (pc2 := 5) rfl dX12_goThrough_2 ?_
  refine EW_aload_n (pc2 := 6) rfl dX12_goThrough_5 0 rfl ?_
  refine EW_iload_n (pc2 := 7) rfl dX12_goThrough_6 3 rfl ?_
  refine AW_puti ⟨gfRX12_429, rfl, rfl⟩ (pc2 := 10) rfl dX12_goThrough_7 q246 ?_
  refine EW_aload_n (pc2 := 11) rfl dX12_goThrough_10 0 rfl ?_
  refine EW_iload (pc2 := 13) rfl dX12_goThrough_11 4 rfl ?_
  refine AW_puti ⟨gfRX12_426, rfl, rfl⟩ (pc2 := 16) rfl dX12_goThrough_13 q246 ?_
  refine EW_aload_n (pc2 := 17) rfl dX12_goThrough_16 0 rfl ?_
  refine EW_iconst (pc2 := 18) (v := 0) rfl dX12_goThrough_17 (by decide) ?_
  refine AW_puti ⟨gfRX12_423, rfl, rfl⟩ (pc2 := 21) rfl dX12_goThrough_18 q246 ?_
  refine EW_aload_n (pc2 := 22) rfl dX12_goThrough_21 0 rfl ?_
  refine EW_iconst (pc2 := 23) (v := (-1)) rfl dX12_goThrough_22 (by decide) ?_
  refine AW_puti ⟨gfRX12_432, rfl, rfl⟩ (pc2 := 26) rfl dX12_goThrough_23 q246 ?_
  refine EW_aload_n (pc2 := 27) rfl dX12_goThrough_26 0 rfl ?_
  refine EW_iconst (pc2 := 28) (v := 0) rfl dX12_goThrough_27 (by decide) ?_
  refine AW_puti ⟨gfRX12_435, rfl, rfl⟩ (pc2 := 31) rfl dX12_goThrough_28 q246 ?_
  refine EW_aload_n (pc2 := 32) rfl dX12_goThrough_31 0 rfl ?_
  refine EW_iconst (pc2 := 33) (v := 0) rfl dX12_goThrough_32 (by decide) ?_
  refine AW_puti ⟨gfRX12_497, rfl, rfl⟩ (pc2 := 36) rfl dX12_goThrough_33 q246 ?_
  refine EW_aload_n (pc2 := 37) rfl dX12_goThrough_36 0 rfl ?_
  refine EW_iconst (pc2 := 38) (v := 0) rfl dX12_goThrough_37 (by decide) ?_
  refine AW_puti ⟨gfRX12_494, rfl, rfl⟩ (pc2 := 41) rfl dX12_goThrough_38 q246 ?_
  refine EW_iconst (pc2 := 42) (v := 0) rfl dX12_goThrough_41 (by decide) ?_
  refine EW_istore (pc2 := 44) rfl dX12_goThrough_42 (by decide) [1, 2, 3, 4, 5, 0] [(0, .ref 246), (1, .int v1), (2, .ref v2), (3, .int v3), (4, .int v4), (5, .int 0)] rfl ?_
  refine EW_ls [0, 1, 5] rfl ?_
  exact sX12_goThrough_44 v1 0 (wr (wr (wr (wr (wr (wr (wr (wmt x v2) 246 78 v3) 246 79 v4) 246 80 0) 246 81 (-1)) 246 82 0) 246 74 0) 246 75 0) K d bc bs hdp h
theorem gfRX12_167 : ab_L RX12 167 12 59 := ⟨by decide, by decide, ab_in 1908 (by decide +kernel) (by decide +kernel)⟩
theorem gfRX12_414 : ab_L RX12 414 12 70 := ⟨by decide, by decide, ab_in 1919 (by decide +kernel) (by decide +kernel)⟩
theorem mlRX12_513 : Cond.methodLink RX12 513 yX12_goThrough ∈ ab_G ∧ Cond.instanceMethod yX12_goThrough ∈ ab_G ∧ Cond.selects RX12 yX12_goThrough yX12_goThrough ∈ ab_G := ⟨ab_in 2408 (by decide +kernel) (by decide +kernel), ab_in 2410 (by decide +kernel) (by decide +kernel), ab_in 35 (by decide +kernel) (by decide +kernel)⟩
abbrev MX12_fault : ab_M := (yX12_fault, cX12_fault, 3, (some .int))
theorem dX12_fault_0 : decode cX12_fault 0 = .ok (.aload_n 0, 1) := by decide +kernel
theorem dX12_fault_1 : decode cX12_fault 1 = .ok (.iconst 0, 1) := by decide +kernel
theorem dX12_fault_2 : decode cX12_fault 2 = .ok (.putfield 297, 3) := by decide +kernel
theorem dX12_fault_5 : decode cX12_fault 5 = .ok (.iload_n 1, 1) := by decide +kernel
theorem dX12_fault_6 : decode cX12_fault 6 = .ok (.iconst 0, 1) := by decide +kernel
theorem dX12_fault_7 : decode cX12_fault 7 = .ok (.iconst 2, 1) := by decide +kernel
theorem dX12_fault_8 : decode cX12_fault 8 = .ok (.invokestatic 307, 3) := by decide +kernel
theorem dX12_fault_11 : decode cX12_fault 11 = .ok (.ifCond .ne 6, 3) := by decide +kernel
theorem dX12_fault_14 : decode cX12_fault 14 = .ok (.bipush (-2), 2) := by decide +kernel
theorem dX12_fault_16 : decode cX12_fault 16 = .ok (.ireturn, 1) := by decide +kernel
theorem dX12_fault_17 : decode cX12_fault 17 = .ok (.aload_n 0, 1) := by decide +kernel
theorem dX12_fault_18 : decode cX12_fault 18 = .ok (.iload_n 1, 1) := by decide +kernel
theorem dX12_fault_19 : decode cX12_fault 19 = .ok (.aload_n 0, 1) := by decide +kernel
theorem dX12_fault_20 : decode cX12_fault 20 = .ok (.getfield 167, 3) := by decide +kernel
theorem dX12_fault_23 : decode cX12_fault 23 = .ok (.iconst 0, 1) := by decide +kernel
theorem dX12_fault_24 : decode cX12_fault 24 = .ok (.aload_n 0, 1) := by decide +kernel
theorem dX12_fault_25 : decode cX12_fault 25 = .ok (.getfield 414, 3) := by decide +kernel
theorem dX12_fault_28 : decode cX12_fault 28 = .ok (.invokevirtual 513, 3) := by decide +kernel
theorem dX12_fault_31 : decode cX12_fault 31 = .ok (.istore_n 2, 1) := by decide +kernel
theorem dX12_fault_32 : decode cX12_fault 32 = .ok (.aload_n 0, 1) := by decide +kernel
theorem dX12_fault_33 : decode cX12_fault 33 = .ok (.getfield 432, 3) := by decide +kernel
theorem dX12_fault_36 : decode cX12_fault 36 = .ok (.ireturn, 1) := by decide +kernel
theorem okX12_fault : ab_okM MX12_fault 1 := ⟨by decide, ⟨by decide, by decide⟩, ab_in 2407 (by decide +kernel) (by decide +kernel), ab_in 99 (by decide +kernel) (by decide +kernel), by decide +kernel, by decide⟩
set_option maxHeartbeats 4000000 in
set_option maxRecDepth 100000 in
theorem sX12_fault (v1 : Int32)  (x : ab_X) (K : Int32 → ab_X → Prop) (d bc bs : Nat) (hdp : 210 ≤ d) (h : wX12_fault v1 x K) : EW MX12_fault 0 [(0, .ref 246), (1, .int v1)] [] (aS x) d bc bs (liI K) := by
  unfold wX12_fault at h
  refine EW_aload_n (pc2 := 1) rfl dX12_fault_0 0 rfl ?_
  refine EW_iconst (pc2 := 2) (v := 0) rfl dX12_fault_1 (by decide) ?_
  refine AW_puti ⟨gfRX12_297, rfl, rfl⟩ (pc2 := 5) rfl dX12_fault_2 q246 ?_
  refine EW_iload_n (pc2 := 6) rfl dX12_fault_5 1 rfl ?_
  refine EW_iconst (pc2 := 7) (v := 0) rfl dX12_fault_6 (by decide) ?_
  refine EW_iconst (pc2 := 8) (v := 2) rfl dX12_fault_7 (by decide) ?_
  refine AW_invS (M' := MX12_isIn) [.int v1, .int 0, .int 2] (rest := []) mlRX12_307 okX12_isIn (pc2 := 11) rfl dX12_fault_8 rfl rfl (Nat.le_of_ble_eq_true rfl) (Nat.le_of_ble_eq_true rfl) (d' := 0) (by omega) (EW_mono (fun _ _ hr => ?_) (sX12_isIn v1 0 2  (wr x 246 0 0) _ _ 0 0 (Nat.le_refl _) h))
  obtain ⟨r1, rfl, rfl, h⟩ := hr
  refine EW_if_ne (tgt := 17) (pc2 := 14) rfl dX12_fault_11 (by decide) (fun q => ?_) (fun q => ?_)
  · replace h := h.1 q
    refine EW_aload_n (pc2 := 18) rfl dX12_fault_17 0 rfl ?_
    refine EW_iload_n (pc2 := 19) rfl dX12_fault_18 1 rfl ?_
    refine EW_aload_n (pc2 := 20) rfl dX12_fault_19 0 rfl ?_
    refine AW_getr (r := 299) ⟨gfRX12_167, rfl⟩ (pc2 := 23) rfl dX12_fault_20 q246 rfl ?_
    refine EW_iconst (pc2 := 24) (v := 0) rfl dX12_fault_23 (by decide) ?_
    refine EW_aload_n (pc2 := 25) rfl dX12_fault_24 0 rfl ?_
    refine AW_geti ⟨gfRX12_414, rfl⟩ (pc2 := 28) rfl dX12_fault_25 q246 ?_
    refine AW_invV (M' := MX12_goThrough) [.int v1, .ref 299, .int 0, .int ((wr x 246 0 0).1 246 70)] (rest := []) mlRX12_513 okX12_goThrough (pc2 := 31) rfl dX12_fault_28 rfl rfl (Nat.le_of_ble_eq_true rfl) (Nat.le_of_ble_eq_true rfl) (d' := 209) (by omega) q246 ⟨by decide, rfl⟩ (EW_mono (fun _ _ hr => ?_) (sX12_goThrough v1 299 0 ((wr x 246 0 0).1 246 70)  (wr x 246 0 0) _ _ 0 0 (Nat.le_refl _) h))
    obtain ⟨r2, x3, rfl, rfl, h⟩ := hr
    refine EW_istore_n (pc2 := 32) rfl dX12_fault_31 (by decide) [1, 2, 0] [(0, .ref 246), (1, .int v1), (2, .int r2)] rfl ?_
    refine EW_aload_n (pc2 := 33) rfl dX12_fault_32 0 rfl ?_
    refine AW_geti ⟨gfRX12_432, rfl⟩ (pc2 := 36) rfl dX12_fault_33 q246 ?_
    exact AW_iret rfl dX12_fault_36 ⟨_, _, rfl, rfl, h⟩
  · replace h := h.2 q
    refine EW_bipush (pc2 := 16) (v := (-2)) rfl dX12_fault_14 (by decide) ?_
    exact AW_iret rfl dX12_fault_16 ⟨_, _, rfl, rfl, h⟩
theorem gfRX12_183 : ab_L RX12 183 12 64 := ⟨by decide, by decide, ab_in 1913 (by decide +kernel) (by decide +kernel)⟩
theorem gfRX12_522 : ab_L RX12 522 12 72 := ⟨by decide, by decide, ab_in 1921 (by decide +kernel) (by decide +kernel)⟩
theorem gfRX12_186 : ab_L RX12 186 12 65 := ⟨by decide, by decide, ab_in 1914 (by decide +kernel) (by decide +kernel)⟩
theorem gfRX12_189 : ab_L RX12 189 12 66 := ⟨by decide, by decide, ab_in 1915 (by decide +kernel) (by decide +kernel)⟩
theorem gfRX12_395 : ab_L RX12 395 12 1 := ⟨by decide, by decide, ab_in 1850 (by decide +kernel) (by decide +kernel)⟩
theorem gfRX12_174 : ab_L RX12 174 12 61 := ⟨by decide, by decide, ab_in 1910 (by decide +kernel) (by decide +kernel)⟩
theorem mlRX12_517 : Cond.methodLink RX12 517 yX12_fault ∈ ab_G ∧ Cond.instanceMethod yX12_fault ∈ ab_G ∧ Cond.selects RX12 yX12_fault yX12_fault ∈ ab_G := ⟨ab_in 2482 (by decide +kernel) (by decide +kernel), ab_in 2405 (by decide +kernel) (by decide +kernel), ab_in 2406 (by decide +kernel) (by decide +kernel)⟩
abbrev MX12_act : ab_M := (yX12_act, cX12_act, 3, (some .int))
theorem dX12_act_0 : decode cX12_act 0 = .ok (.aload_n 0, 1) := by decide +kernel
theorem dX12_act_1 : decode cX12_act 1 = .ok (.iconst 2, 1) := by decide +kernel
theorem dX12_act_2 : decode cX12_act 2 = .ok (.invokevirtual 517, 3) := by decide +kernel
theorem dX12_act_5 : decode cX12_act 5 = .ok (.iconst (-1), 1) := by decide +kernel
theorem dX12_act_6 : decode cX12_act 6 = .ok (.if_icmp .ne 23, 3) := by decide +kernel
theorem dX12_act_9 : decode cX12_act 9 = .ok (.aload_n 0, 1) := by decide +kernel
theorem dX12_act_10 : decode cX12_act 10 = .ok (.getfield 522, 3) := by decide +kernel
theorem dX12_act_13 : decode cX12_act 13 = .ok (.bipush 12, 2) := by decide +kernel
theorem dX12_act_15 : decode cX12_act 15 = .ok (.if_icmp .eq 14, 3) := by decide +kernel
theorem dX12_act_18 : decode cX12_act 18 = .ok (.iload_n 1, 1) := by decide +kernel
theorem dX12_act_19 : decode cX12_act 19 = .ok (.iconst 1, 1) := by decide +kernel
theorem dX12_act_20 : decode cX12_act 20 = .ok (.sipush 200, 3) := by decide +kernel
theorem dX12_act_23 : decode cX12_act 23 = .ok (.invokestatic 307, 3) := by decide +kernel
theorem dX12_act_26 : decode cX12_act 26 = .ok (.ifCond .ne 5, 3) := by decide +kernel
theorem dX12_act_29 : decode cX12_act 29 = .ok (.iconst (-1), 1) := by decide +kernel
theorem dX12_act_30 : decode cX12_act 30 = .ok (.ireturn, 1) := by decide +kernel
theorem dX12_act_31 : decode cX12_act 31 = .ok (.iconst 0, 1) := by decide +kernel
theorem dX12_act_32 : decode cX12_act 32 = .ok (.istore_n 2, 1) := by decide +kernel
theorem dX12_act_33 : decode cX12_act 33 = .ok (.iload_n 2, 1) := by decide +kernel
theorem dX12_act_34 : decode cX12_act 34 = .ok (.aload_n 0, 1) := by decide +kernel
theorem dX12_act_35 : decode cX12_act 35 = .ok (.getfield 414, 3) := by decide +kernel
theorem dX12_act_38 : decode cX12_act 38 = .ok (.if_icmp .ge 30, 3) := by decide +kernel
theorem dX12_act_41 : decode cX12_act 41 = .ok (.aload_n 0, 1) := by decide +kernel
theorem dX12_act_42 : decode cX12_act 42 = .ok (.getfield 174, 3) := by decide +kernel
theorem dX12_act_45 : decode cX12_act 45 = .ok (.sipush 200, 3) := by decide +kernel
theorem dX12_act_48 : decode cX12_act 48 = .ok (.aload_n 0, 1) := by decide +kernel
theorem dX12_act_49 : decode cX12_act 49 = .ok (.getfield 522, 3) := by decide +kernel
theorem dX12_act_52 : decode cX12_act 52 = .ok (.imul, 1) := by decide +kernel
theorem dX12_act_53 : decode cX12_act 53 = .ok (.iload_n 2, 1) := by decide +kernel
theorem dX12_act_54 : decode cX12_act 54 = .ok (.iadd, 1) := by decide +kernel
theorem dX12_act_55 : decode cX12_act 55 = .ok (.aload_n 0, 1) := by decide +kernel
theorem dX12_act_56 : decode cX12_act 56 = .ok (.getfield 167, 3) := by decide +kernel
theorem dX12_act_59 : decode cX12_act 59 = .ok (.iload_n 2, 1) := by decide +kernel
theorem dX12_act_60 : decode cX12_act 60 = .ok (.baload, 1) := by decide +kernel
theorem dX12_act_61 : decode cX12_act 61 = .ok (.bastore, 1) := by decide +kernel
theorem dX12_act_62 : decode cX12_act 62 = .ok (.iinc 2 1, 3) := by decide +kernel
theorem dX12_act_65 : decode cX12_act 65 = .ok (.goto (-32), 3) := by decide +kernel
theorem dX12_act_68 : decode cX12_act 68 = .ok (.aload_n 0, 1) := by decide +kernel
theorem dX12_act_69 : decode cX12_act 69 = .ok (.getfield 183, 3) := by decide +kernel
theorem dX12_act_72 : decode cX12_act 72 = .ok (.aload_n 0, 1) := by decide +kernel
theorem dX12_act_73 : decode cX12_act 73 = .ok (.getfield 522, 3) := by decide +kernel
theorem dX12_act_76 : decode cX12_act 76 = .ok (.aload_n 0, 1) := by decide +kernel
theorem dX12_act_77 : decode cX12_act 77 = .ok (.getfield 414, 3) := by decide +kernel
theorem dX12_act_80 : decode cX12_act 80 = .ok (.iastore, 1) := by decide +kernel
theorem dX12_act_81 : decode cX12_act 81 = .ok (.aload_n 0, 1) := by decide +kernel
theorem dX12_act_82 : decode cX12_act 82 = .ok (.getfield 186, 3) := by decide +kernel
theorem dX12_act_85 : decode cX12_act 85 = .ok (.aload_n 0, 1) := by decide +kernel
theorem dX12_act_86 : decode cX12_act 86 = .ok (.getfield 522, 3) := by decide +kernel
theorem dX12_act_89 : decode cX12_act 89 = .ok (.iload_n 1, 1) := by decide +kernel
theorem dX12_act_90 : decode cX12_act 90 = .ok (.iastore, 1) := by decide +kernel
theorem dX12_act_91 : decode cX12_act 91 = .ok (.aload_n 0, 1) := by decide +kernel
theorem dX12_act_92 : decode cX12_act 92 = .ok (.getfield 189, 3) := by decide +kernel
theorem dX12_act_95 : decode cX12_act 95 = .ok (.aload_n 0, 1) := by decide +kernel
theorem dX12_act_96 : decode cX12_act 96 = .ok (.getfield 522, 3) := by decide +kernel
theorem dX12_act_99 : decode cX12_act 99 = .ok (.aload_n 0, 1) := by decide +kernel
theorem dX12_act_100 : decode cX12_act 100 = .ok (.getfield 395, 3) := by decide +kernel
theorem dX12_act_103 : decode cX12_act 103 = .ok (.iastore, 1) := by decide +kernel
theorem dX12_act_104 : decode cX12_act 104 = .ok (.aload_n 0, 1) := by decide +kernel
theorem dX12_act_105 : decode cX12_act 105 = .ok (.dup, 1) := by decide +kernel
theorem dX12_act_106 : decode cX12_act 106 = .ok (.getfield 522, 3) := by decide +kernel
theorem dX12_act_109 : decode cX12_act 109 = .ok (.iconst 1, 1) := by decide +kernel
theorem dX12_act_110 : decode cX12_act 110 = .ok (.iadd, 1) := by decide +kernel
theorem dX12_act_111 : decode cX12_act 111 = .ok (.putfield 522, 3) := by decide +kernel
theorem dX12_act_114 : decode cX12_act 114 = .ok (.aload_n 0, 1) := by decide +kernel
theorem dX12_act_115 : decode cX12_act 115 = .ok (.iconst 0, 1) := by decide +kernel
theorem dX12_act_116 : decode cX12_act 116 = .ok (.putfield 414, 3) := by decide +kernel
theorem dX12_act_119 : decode cX12_act 119 = .ok (.aload_n 0, 1) := by decide +kernel
theorem dX12_act_120 : decode cX12_act 120 = .ok (.getfield 522, 3) := by decide +kernel
theorem dX12_act_123 : decode cX12_act 123 = .ok (.iconst 1, 1) := by decide +kernel
theorem dX12_act_124 : decode cX12_act 124 = .ok (.isub, 1) := by decide +kernel
theorem dX12_act_125 : decode cX12_act 125 = .ok (.ireturn, 1) := by decide +kernel
theorem okX12_act : ab_okM MX12_act 1 := ⟨by decide, ⟨by decide, by decide⟩, ab_in 2490 (by decide +kernel) (by decide +kernel), ab_in 99 (by decide +kernel) (by decide +kernel), by decide +kernel, by decide⟩
set_option maxHeartbeats 4000000 in
set_option maxRecDepth 100000 in
theorem sX12_act_33 (v1 : Int32) (v2 : Int32)  (x : ab_X) (K : Int32 → ab_X → Prop)  (d bc bs : Nat) (hdp : 211 ≤ d)  (h : Lp2 (lX12_act_33 v1 K ) v2 x) : EW MX12_act 33 [(0, .ref 246), (1, .int v1), (2, .int v2)] [] (aS x) d bc bs (liI K) := by
  refine Lp2.use (P := fun v2 x => EW MX12_act 33 [(0, .ref 246), (1, .int v1), (2, .int v2)] [] (aS x) d bc bs (liI K)) (fun L33 v2 x hL33 h => ?_) v2 x h
  unfold lX12_act_33 at h
  refine EW_iload_n (pc2 := 34) rfl dX12_act_33 2 rfl ?_
  refine EW_aload_n (pc2 := 35) rfl dX12_act_34 0 rfl ?_
  refine AW_geti ⟨gfRX12_414, rfl⟩ (pc2 := 38) rfl dX12_act_35 q246 ?_
  refine EW_icmp_ge (tgt := 68) (pc2 := 41) rfl dX12_act_38 (by decide) (fun q => ?_) (fun q => ?_)
  · replace h := h.1 q
    refine EW_aload_n (pc2 := 69) rfl dX12_act_68 0 rfl ?_
    refine AW_getr (r := 304) ⟨gfRX12_183, rfl⟩ (pc2 := 72) rfl dX12_act_69 q246 rfl ?_
    refine EW_aload_n (pc2 := 73) rfl dX12_act_72 0 rfl ?_
    refine AW_geti ⟨gfRX12_522, rfl⟩ (pc2 := 76) rfl dX12_act_73 q246 ?_
    refine EW_aload_n (pc2 := 77) rfl dX12_act_76 0 rfl ?_
    refine AW_geti ⟨gfRX12_414, rfl⟩ (pc2 := 80) rfl dX12_act_77 q246 ?_
    obtain ⟨b4, h⟩ := h
    refine AW_iast (pc2 := 81) rfl dX12_act_80 q304 b4 ?_
    refine EW_aload_n (pc2 := 82) rfl dX12_act_81 0 rfl ?_
    refine AW_getr (r := 305) ⟨gfRX12_186, rfl⟩ (pc2 := 85) rfl dX12_act_82 q246 rfl ?_
    refine EW_aload_n (pc2 := 86) rfl dX12_act_85 0 rfl ?_
    refine AW_geti ⟨gfRX12_522, rfl⟩ (pc2 := 89) rfl dX12_act_86 q246 ?_
    refine EW_iload_n (pc2 := 90) rfl dX12_act_89 1 rfl ?_
    obtain ⟨b5, h⟩ := h
    refine AW_iast (pc2 := 91) rfl dX12_act_90 q305 b5 ?_
    refine EW_aload_n (pc2 := 92) rfl dX12_act_91 0 rfl ?_
    refine AW_getr (r := 306) ⟨gfRX12_189, rfl⟩ (pc2 := 95) rfl dX12_act_92 q246 rfl ?_
    refine EW_aload_n (pc2 := 96) rfl dX12_act_95 0 rfl ?_
    refine AW_geti ⟨gfRX12_522, rfl⟩ (pc2 := 99) rfl dX12_act_96 q246 ?_
    refine EW_aload_n (pc2 := 100) rfl dX12_act_99 0 rfl ?_
    refine AW_geti ⟨gfRX12_395, rfl⟩ (pc2 := 103) rfl dX12_act_100 q246 ?_
    obtain ⟨b6, h⟩ := h
    refine AW_iast (pc2 := 104) rfl dX12_act_103 q306 b6 ?_
    refine EW_aload_n (pc2 := 105) rfl dX12_act_104 0 rfl ?_
    refine EW_dup (pc2 := 106) rfl dX12_act_105 rfl ?_
    refine AW_geti ⟨gfRX12_522, rfl⟩ (pc2 := 109) rfl dX12_act_106 q246 ?_
    refine EW_iconst (pc2 := 110) (v := 1) rfl dX12_act_109 (by decide) ?_
    refine EW_iadd (pc2 := 111) rfl dX12_act_110 ?_
    refine AW_puti ⟨gfRX12_522, rfl, rfl⟩ (pc2 := 114) rfl dX12_act_111 q246 ?_
    refine EW_aload_n (pc2 := 115) rfl dX12_act_114 0 rfl ?_
    refine EW_iconst (pc2 := 116) (v := 0) rfl dX12_act_115 (by decide) ?_
    refine AW_puti ⟨gfRX12_414, rfl, rfl⟩ (pc2 := 119) rfl dX12_act_116 q246 ?_
    refine EW_aload_n (pc2 := 120) rfl dX12_act_119 0 rfl ?_
    refine AW_geti ⟨gfRX12_522, rfl⟩ (pc2 := 123) rfl dX12_act_120 q246 ?_
    refine EW_iconst (pc2 := 124) (v := 1) rfl dX12_act_123 (by decide) ?_
    refine EW_isub (pc2 := 125) rfl dX12_act_124 ?_
    exact AW_iret rfl dX12_act_125 ⟨_, _, rfl, rfl, h⟩
  · replace h := h.2 q
    refine EW_aload_n (pc2 := 42) rfl dX12_act_41 0 rfl ?_
    refine AW_getr (r := 301) ⟨gfRX12_174, rfl⟩ (pc2 := 45) rfl dX12_act_42 q246 rfl ?_
    refine EW_sipush (pc2 := 48) (v := 200) rfl dX12_act_45 (by decide) ?_
    refine EW_aload_n (pc2 := 49) rfl dX12_act_48 0 rfl ?_
    refine AW_geti ⟨gfRX12_522, rfl⟩ (pc2 := 52) rfl dX12_act_49 q246 ?_
    refine EW_imul (pc2 := 53) rfl dX12_act_52 ?_
    refine EW_iload_n (pc2 := 54) rfl dX12_act_53 2 rfl ?_
    refine EW_iadd (pc2 := 55) rfl dX12_act_54 ?_
    refine EW_aload_n (pc2 := 56) rfl dX12_act_55 0 rfl ?_
    refine AW_getr (r := 299) ⟨gfRX12_167, rfl⟩ (pc2 := 59) rfl dX12_act_56 q246 rfl ?_
    refine EW_iload_n (pc2 := 60) rfl dX12_act_59 2 rfl ?_
    obtain ⟨b7, h⟩ := h
    refine AW_bald (pc2 := 61) rfl dX12_act_60 q299 b7 ?_
    obtain ⟨b8, h⟩ := h
    refine AW_bast (pc2 := 62) rfl dX12_act_61 q301 b8 ?_
    refine EW_iinc (v2 + 1) (pc2 := 65) rfl dX12_act_62 2 rfl rfl (by decide) [1, 2, 0] [(0, .ref 246), (1, .int v1), (2, .int (v2 + 1))] rfl ?_
    refine EW_goto (tgt := 33) dX12_act_65 (by decide) ?_
    exact hL33 (v2 + 1) (wr x 301 (Int32.toNatClampNeg ((200 * (x.1 246 72)) + v2)) (vp_nar .byte (x.1 299 (Int32.toNatClampNeg v2)))) h
set_option maxHeartbeats 4000000 in
set_option maxRecDepth 100000 in
theorem sX12_act (v1 : Int32)  (x : ab_X) (K : Int32 → ab_X → Prop) (d bc bs : Nat) (hdp : 211 ≤ d) (h : wX12_act v1 x K) : EW MX12_act 0 [(0, .ref 246), (1, .int v1)] [] (aS x) d bc bs (liI K) := by
  unfold wX12_act at h
  refine EW_aload_n (pc2 := 1) rfl dX12_act_0 0 rfl ?_
  refine EW_iconst (pc2 := 2) (v := 2) rfl dX12_act_1 (by decide) ?_
  refine AW_invV (M' := MX12_fault) [.int 2] (rest := []) mlRX12_517 okX12_fault (pc2 := 5) rfl dX12_act_2 rfl rfl (Nat.le_of_ble_eq_true rfl) (Nat.le_of_ble_eq_true rfl) (d' := 210) (by omega) q246 ⟨by decide, rfl⟩ (EW_mono (fun _ _ hr => ?_) (sX12_fault 2  x _ _ 0 0 (Nat.le_refl _) h))
  obtain ⟨r1, x2, rfl, rfl, h⟩ := hr
  refine EW_iconst (pc2 := 6) (v := (-1)) rfl dX12_act_5 (by decide) ?_
  refine EW_icmp_ne (tgt := 29) (pc2 := 9) rfl dX12_act_6 (by decide) (fun q => ?_) (fun q => ?_)
  · replace h := h.1 q
    refine EW_iconst (pc2 := 30) (v := (-1)) rfl dX12_act_29 (by decide) ?_
    exact AW_iret rfl dX12_act_30 ⟨_, _, rfl, rfl, h⟩
  · replace h := h.2 q
    refine EW_aload_n (pc2 := 10) rfl dX12_act_9 0 rfl ?_
    refine AW_geti ⟨gfRX12_522, rfl⟩ (pc2 := 13) rfl dX12_act_10 q246 ?_
    refine EW_bipush (pc2 := 15) (v := 12) rfl dX12_act_13 (by decide) ?_
    refine EW_icmp_eq (tgt := 29) (pc2 := 18) rfl dX12_act_15 (by decide) (fun q => ?_) (fun q => ?_)
    · replace h := h.1 q
      refine EW_iconst (pc2 := 30) (v := (-1)) rfl dX12_act_29 (by decide) ?_
      exact AW_iret rfl dX12_act_30 ⟨_, _, rfl, rfl, h⟩
    · replace h := h.2 q
      refine EW_iload_n (pc2 := 19) rfl dX12_act_18 1 rfl ?_
      refine EW_iconst (pc2 := 20) (v := 1) rfl dX12_act_19 (by decide) ?_
      refine EW_sipush (pc2 := 23) (v := 200) rfl dX12_act_20 (by decide) ?_
      refine AW_invS (M' := MX12_isIn) [.int v1, .int 1, .int 200] (rest := []) mlRX12_307 okX12_isIn (pc2 := 26) rfl dX12_act_23 rfl rfl (Nat.le_of_ble_eq_true rfl) (Nat.le_of_ble_eq_true rfl) (d' := 0) (by omega) (EW_mono (fun _ _ hr => ?_) (sX12_isIn v1 1 200  x2 _ _ 0 0 (Nat.le_refl _) h))
      obtain ⟨r3, rfl, rfl, h⟩ := hr
      refine EW_if_ne (tgt := 31) (pc2 := 29) rfl dX12_act_26 (by decide) (fun q => ?_) (fun q => ?_)
      · replace h := h.1 q
        refine EW_iconst (pc2 := 32) (v := 0) rfl dX12_act_31 (by decide) ?_
        refine EW_istore_n (pc2 := 33) rfl dX12_act_32 (by decide) [1, 2, 0] [(0, .ref 246), (1, .int v1), (2, .int 0)] rfl ?_
        exact sX12_act_33 v1 0 x2 K d bc bs hdp h
      · replace h := h.2 q
        refine EW_iconst (pc2 := 30) (v := (-1)) rfl dX12_act_29 (by decide) ?_
        exact AW_iret rfl dX12_act_30 ⟨_, _, rfl, rfl, h⟩
theorem gfRX12_50 : ab_L RX12 50 12 16 := ⟨by decide, by decide, ab_in 1865 (by decide +kernel) (by decide +kernel)⟩
abbrev MX12_actFor : ab_M := (yX12_actFor, cX12_actFor, 5, (some .int))
theorem dX12_actFor_0 : decode cX12_actFor 0 = .ok (.iconst (-1), 1) := by decide +kernel
theorem dX12_actFor_1 : decode cX12_actFor 1 = .ok (.istore_n 3, 1) := by decide +kernel
theorem dX12_actFor_2 : decode cX12_actFor 2 = .ok (.iconst 0, 1) := by decide +kernel
theorem dX12_actFor_3 : decode cX12_actFor 3 = .ok (.istore 4, 2) := by decide +kernel
theorem dX12_actFor_5 : decode cX12_actFor 5 = .ok (.iload 4, 2) := by decide +kernel
theorem dX12_actFor_7 : decode cX12_actFor 7 = .ok (.aload_n 0, 1) := by decide +kernel
theorem dX12_actFor_8 : decode cX12_actFor 8 = .ok (.getfield 522, 3) := by decide +kernel
theorem dX12_actFor_11 : decode cX12_actFor 11 = .ok (.if_icmp .ge 60, 3) := by decide +kernel
theorem dX12_actFor_14 : decode cX12_actFor 14 = .ok (.aload_n 0, 1) := by decide +kernel
theorem dX12_actFor_15 : decode cX12_actFor 15 = .ok (.getfield 189, 3) := by decide +kernel
theorem dX12_actFor_18 : decode cX12_actFor 18 = .ok (.iload 4, 2) := by decide +kernel
theorem dX12_actFor_20 : decode cX12_actFor 20 = .ok (.iaload, 1) := by decide +kernel
theorem dX12_actFor_21 : decode cX12_actFor 21 = .ok (.iload_n 2, 1) := by decide +kernel
theorem dX12_actFor_22 : decode cX12_actFor 22 = .ok (.if_icmp .gt 43, 3) := by decide +kernel
theorem dX12_actFor_25 : decode cX12_actFor 25 = .ok (.aload_n 0, 1) := by decide +kernel
theorem dX12_actFor_26 : decode cX12_actFor 26 = .ok (.getfield 186, 3) := by decide +kernel
theorem dX12_actFor_29 : decode cX12_actFor 29 = .ok (.iload 4, 2) := by decide +kernel
theorem dX12_actFor_31 : decode cX12_actFor 31 = .ok (.iaload, 1) := by decide +kernel
theorem dX12_actFor_32 : decode cX12_actFor 32 = .ok (.aload_n 0, 1) := by decide +kernel
theorem dX12_actFor_33 : decode cX12_actFor 33 = .ok (.getfield 50, 3) := by decide +kernel
theorem dX12_actFor_36 : decode cX12_actFor 36 = .ok (.iload_n 1, 1) := by decide +kernel
theorem dX12_actFor_37 : decode cX12_actFor 37 = .ok (.iaload, 1) := by decide +kernel
theorem dX12_actFor_38 : decode cX12_actFor 38 = .ok (.if_icmp .gt 27, 3) := by decide +kernel
theorem dX12_actFor_41 : decode cX12_actFor 41 = .ok (.iload_n 3, 1) := by decide +kernel
theorem dX12_actFor_42 : decode cX12_actFor 42 = .ok (.iconst (-1), 1) := by decide +kernel
theorem dX12_actFor_43 : decode cX12_actFor 43 = .ok (.if_icmp .eq 19, 3) := by decide +kernel
theorem dX12_actFor_46 : decode cX12_actFor 46 = .ok (.aload_n 0, 1) := by decide +kernel
theorem dX12_actFor_47 : decode cX12_actFor 47 = .ok (.getfield 186, 3) := by decide +kernel
theorem dX12_actFor_50 : decode cX12_actFor 50 = .ok (.iload 4, 2) := by decide +kernel
theorem dX12_actFor_52 : decode cX12_actFor 52 = .ok (.iaload, 1) := by decide +kernel
theorem dX12_actFor_53 : decode cX12_actFor 53 = .ok (.aload_n 0, 1) := by decide +kernel
theorem dX12_actFor_54 : decode cX12_actFor 54 = .ok (.getfield 186, 3) := by decide +kernel
theorem dX12_actFor_57 : decode cX12_actFor 57 = .ok (.iload_n 3, 1) := by decide +kernel
theorem dX12_actFor_58 : decode cX12_actFor 58 = .ok (.iaload, 1) := by decide +kernel
theorem dX12_actFor_59 : decode cX12_actFor 59 = .ok (.if_icmp .lt 6, 3) := by decide +kernel
theorem dX12_actFor_62 : decode cX12_actFor 62 = .ok (.iload 4, 2) := by decide +kernel
theorem dX12_actFor_64 : decode cX12_actFor 64 = .ok (.istore_n 3, 1) := by decide +kernel
theorem dX12_actFor_65 : decode cX12_actFor 65 = .ok (.iinc 4 1, 3) := by decide +kernel
theorem dX12_actFor_68 : decode cX12_actFor 68 = .ok (.goto (-63), 3) := by decide +kernel
theorem dX12_actFor_71 : decode cX12_actFor 71 = .ok (.iload_n 3, 1) := by decide +kernel
theorem dX12_actFor_72 : decode cX12_actFor 72 = .ok (.ireturn, 1) := by decide +kernel
theorem okX12_actFor : ab_okM MX12_actFor 2 := ⟨by decide, ⟨by decide, by decide⟩, ab_in 2614 (by decide +kernel) (by decide +kernel), ab_in 99 (by decide +kernel) (by decide +kernel), by decide +kernel, by decide⟩
set_option maxHeartbeats 4000000 in
set_option maxRecDepth 100000 in
theorem sX12_actFor_62 (v1 : Int32) (v2 : Int32) (v4 : Int32)  (x : ab_X) (K : Int32 → Prop) (L5 : Int32 → Int32 → Prop) (d bc bs : Nat) (hdp : 0 ≤ d) (hL5 : ∀ (v3 : Int32) (v4 : Int32), L5 v3 v4 → EW MX12_actFor 5 [(0, .ref 246), (1, .int v1), (2, .int v2), (3, .int v3), (4, .int v4)] [] (aS x) d bc bs (liP x K)) (h : wX12_actFor_62 v1 v2 v4 x K L5) : EW MX12_actFor 62 [(0, .ref 246), (1, .int v1), (2, .int v2), (4, .int v4)] [] (aS x) d bc bs (liP x K) := by
  unfold wX12_actFor_62 at h
  refine EW_iload (pc2 := 64) rfl dX12_actFor_62 3 rfl ?_
  refine EW_istore_n (pc2 := 65) rfl dX12_actFor_64 (by decide) [1, 2, 3, 0, 4] [(0, .ref 246), (1, .int v1), (2, .int v2), (3, .int v4), (4, .int v4)] rfl ?_
  refine EW_iinc (v4 + 1) (pc2 := 68) rfl dX12_actFor_65 4 rfl rfl (by decide) [1, 2, 3, 4, 0] [(0, .ref 246), (1, .int v1), (2, .int v2), (3, .int v4), (4, .int (v4 + 1))] rfl ?_
  refine EW_goto (tgt := 5) dX12_actFor_68 (by decide) ?_
  exact hL5 v4 (v4 + 1) h
set_option maxHeartbeats 4000000 in
set_option maxRecDepth 100000 in
theorem sX12_actFor_5 (v1 : Int32) (v2 : Int32) (v3 : Int32) (v4 : Int32)  (x : ab_X) (K : Int32 → Prop)  (d bc bs : Nat) (hdp : 0 ≤ d)  (h : Lp2 (lX12_actFor_5 v1 v2 x K ) v3 v4) : EW MX12_actFor 5 [(0, .ref 246), (1, .int v1), (2, .int v2), (3, .int v3), (4, .int v4)] [] (aS x) d bc bs (liP x K) := by
  refine Lp2.use (P := fun v3 v4 => EW MX12_actFor 5 [(0, .ref 246), (1, .int v1), (2, .int v2), (3, .int v3), (4, .int v4)] [] (aS x) d bc bs (liP x K)) (fun L5 v3 v4 hL5 h => ?_) v3 v4 h
  unfold lX12_actFor_5 at h
  refine EW_iload (pc2 := 7) rfl dX12_actFor_5 4 rfl ?_
  refine EW_aload_n (pc2 := 8) rfl dX12_actFor_7 0 rfl ?_
  refine AW_geti ⟨gfRX12_522, rfl⟩ (pc2 := 11) rfl dX12_actFor_8 q246 ?_
  refine EW_icmp_ge (tgt := 71) (pc2 := 14) rfl dX12_actFor_11 (by decide) (fun q => ?_) (fun q => ?_)
  · replace h := h.1 q
    refine EW_iload_n (pc2 := 72) rfl dX12_actFor_71 3 rfl ?_
    exact AW_iret rfl dX12_actFor_72 ⟨_, rfl, rfl, h⟩
  · replace h := h.2 q
    refine EW_aload_n (pc2 := 15) rfl dX12_actFor_14 0 rfl ?_
    refine AW_getr (r := 306) ⟨gfRX12_189, rfl⟩ (pc2 := 18) rfl dX12_actFor_15 q246 rfl ?_
    refine EW_iload (pc2 := 20) rfl dX12_actFor_18 4 rfl ?_
    obtain ⟨b1, h⟩ := h
    refine AW_iald (pc2 := 21) rfl dX12_actFor_20 q306 b1 ?_
    refine EW_iload_n (pc2 := 22) rfl dX12_actFor_21 2 rfl ?_
    refine EW_icmp_gt (tgt := 65) (pc2 := 25) rfl dX12_actFor_22 (by decide) (fun q => ?_) (fun q => ?_)
    · replace h := h.1 q
      refine EW_iinc (v4 + 1) (pc2 := 68) rfl dX12_actFor_65 4 rfl rfl (by decide) [1, 2, 3, 4, 0] [(0, .ref 246), (1, .int v1), (2, .int v2), (3, .int v3), (4, .int (v4 + 1))] rfl ?_
      refine EW_goto (tgt := 5) dX12_actFor_68 (by decide) ?_
      exact hL5 v3 (v4 + 1) h
    · replace h := h.2 q
      refine EW_aload_n (pc2 := 26) rfl dX12_actFor_25 0 rfl ?_
      refine AW_getr (r := 305) ⟨gfRX12_186, rfl⟩ (pc2 := 29) rfl dX12_actFor_26 q246 rfl ?_
      refine EW_iload (pc2 := 31) rfl dX12_actFor_29 4 rfl ?_
      obtain ⟨b2, h⟩ := h
      refine AW_iald (pc2 := 32) rfl dX12_actFor_31 q305 b2 ?_
      refine EW_aload_n (pc2 := 33) rfl dX12_actFor_32 0 rfl ?_
      refine AW_getr (r := 260) ⟨gfRX12_50, rfl⟩ (pc2 := 36) rfl dX12_actFor_33 q246 rfl ?_
      refine EW_iload_n (pc2 := 37) rfl dX12_actFor_36 1 rfl ?_
      obtain ⟨b3, h⟩ := h
      refine AW_iald (pc2 := 38) rfl dX12_actFor_37 q260 b3 ?_
      refine EW_icmp_gt (tgt := 65) (pc2 := 41) rfl dX12_actFor_38 (by decide) (fun q => ?_) (fun q => ?_)
      · replace h := h.1 q
        refine EW_iinc (v4 + 1) (pc2 := 68) rfl dX12_actFor_65 4 rfl rfl (by decide) [1, 2, 3, 4, 0] [(0, .ref 246), (1, .int v1), (2, .int v2), (3, .int v3), (4, .int (v4 + 1))] rfl ?_
        refine EW_goto (tgt := 5) dX12_actFor_68 (by decide) ?_
        exact hL5 v3 (v4 + 1) h
      · replace h := h.2 q
        refine EW_iload_n (pc2 := 42) rfl dX12_actFor_41 3 rfl ?_
        refine EW_iconst (pc2 := 43) (v := (-1)) rfl dX12_actFor_42 (by decide) ?_
        refine EW_icmp_eq (tgt := 62) (pc2 := 46) rfl dX12_actFor_43 (by decide) (fun q => ?_) (fun q => ?_)
        · replace h := h.1 q
          refine EW_ls [0, 1, 2, 4] rfl ?_
          exact sX12_actFor_62 v1 v2 v4 x K L5 d bc bs hdp hL5 h
        · replace h := h.2 q
          refine EW_aload_n (pc2 := 47) rfl dX12_actFor_46 0 rfl ?_
          refine AW_getr (r := 305) ⟨gfRX12_186, rfl⟩ (pc2 := 50) rfl dX12_actFor_47 q246 rfl ?_
          refine EW_iload (pc2 := 52) rfl dX12_actFor_50 4 rfl ?_
          obtain ⟨b4, h⟩ := h
          refine AW_iald (pc2 := 53) rfl dX12_actFor_52 q305 b4 ?_
          refine EW_aload_n (pc2 := 54) rfl dX12_actFor_53 0 rfl ?_
          refine AW_getr (r := 305) ⟨gfRX12_186, rfl⟩ (pc2 := 57) rfl dX12_actFor_54 q246 rfl ?_
          refine EW_iload_n (pc2 := 58) rfl dX12_actFor_57 3 rfl ?_
          obtain ⟨b5, h⟩ := h
          refine AW_iald (pc2 := 59) rfl dX12_actFor_58 q305 b5 ?_
          refine EW_icmp_lt (tgt := 65) (pc2 := 62) rfl dX12_actFor_59 (by decide) (fun q => ?_) (fun q => ?_)
          · replace h := h.1 q
            refine EW_iinc (v4 + 1) (pc2 := 68) rfl dX12_actFor_65 4 rfl rfl (by decide) [1, 2, 3, 4, 0] [(0, .ref 246), (1, .int v1), (2, .int v2), (3, .int v3), (4, .int (v4 + 1))] rfl ?_
            refine EW_goto (tgt := 5) dX12_actFor_68 (by decide) ?_
            exact hL5 v3 (v4 + 1) h
          · replace h := h.2 q
            refine EW_ls [0, 1, 2, 4] rfl ?_
            exact sX12_actFor_62 v1 v2 v4 x K L5 d bc bs hdp hL5 h
set_option maxHeartbeats 4000000 in
set_option maxRecDepth 100000 in
theorem sX12_actFor (v1 : Int32) (v2 : Int32)  (x : ab_X) (K : Int32 → Prop) (d bc bs : Nat) (hdp : 0 ≤ d) (h : wX12_actFor v1 v2 x K) : EW MX12_actFor 0 [(0, .ref 246), (1, .int v1), (2, .int v2)] [] (aS x) d bc bs (liP x K) := by
  unfold wX12_actFor at h
  refine EW_iconst (pc2 := 1) (v := (-1)) rfl dX12_actFor_0 (by decide) ?_
  refine EW_istore_n (pc2 := 2) rfl dX12_actFor_1 (by decide) [1, 2, 3, 0] [(0, .ref 246), (1, .int v1), (2, .int v2), (3, .int (-1))] rfl ?_
  refine EW_iconst (pc2 := 3) (v := 0) rfl dX12_actFor_2 (by decide) ?_
  refine EW_istore (pc2 := 5) rfl dX12_actFor_3 (by decide) [1, 2, 3, 4, 0] [(0, .ref 246), (1, .int v1), (2, .int v2), (3, .int (-1)), (4, .int 0)] rfl ?_
  exact sX12_actFor_5 v1 v2 (-1) 0 x K d bc bs hdp h
abbrev MX12_partOf : ab_M := (yX12_partOf, cX12_partOf, 1, (some .int))
theorem dX12_partOf_0 : decode cX12_partOf 0 = .ok (.iload_n 0, 1) := by decide +kernel
theorem dX12_partOf_1 : decode cX12_partOf 1 = .ok (.sipush 360, 3) := by decide +kernel
theorem dX12_partOf_4 : decode cX12_partOf 4 = .ok (.idiv, 1) := by decide +kernel
theorem dX12_partOf_5 : decode cX12_partOf 5 = .ok (.iconst 4, 1) := by decide +kernel
theorem dX12_partOf_6 : decode cX12_partOf 6 = .ok (.irem, 1) := by decide +kernel
theorem dX12_partOf_7 : decode cX12_partOf 7 = .ok (.ireturn, 1) := by decide +kernel
theorem okX12_partOf : ab_okM MX12_partOf 1 := ⟨by decide, ⟨by decide, by decide⟩, ab_in 2251 (by decide +kernel) (by decide +kernel), ab_in 99 (by decide +kernel) (by decide +kernel), by decide +kernel, by decide⟩
set_option maxHeartbeats 4000000 in
set_option maxRecDepth 100000 in
theorem sX12_partOf (v0 : Int32)  (x : ab_X) (K : Int32 → Prop) (d bc bs : Nat) (hdp : 0 ≤ d) (h : wX12_partOf v0 x K) : EW MX12_partOf 0 [(0, .int v0)] [] (aS x) d bc bs (liP x K) := by
  unfold wX12_partOf at h
  refine EW_iload_n (pc2 := 1) rfl dX12_partOf_0 0 rfl ?_
  refine EW_sipush (pc2 := 4) (v := 360) rfl dX12_partOf_1 (by decide) ?_
  refine EW_idiv (pc2 := 5) rfl dX12_partOf_4 (by decide) ?_
  refine EW_iconst (pc2 := 6) (v := 4) rfl dX12_partOf_5 (by decide) ?_
  refine EW_irem (pc2 := 7) rfl dX12_partOf_6 (by decide) ?_
  exact AW_iret rfl dX12_partOf_7 ⟨_, rfl, rfl, h⟩
theorem gfRX12_525 : ab_L RX12 525 12 92 := ⟨by decide, by decide, ab_in 1941 (by decide +kernel) (by decide +kernel)⟩
theorem gfRX12_214 : ab_L RX12 214 12 83 := ⟨by decide, by decide, ab_in 1932 (by decide +kernel) (by decide +kernel)⟩
theorem gfRX12_220 : ab_L RX12 220 12 85 := ⟨by decide, by decide, ab_in 1934 (by decide +kernel) (by decide +kernel)⟩
theorem gfRX12_223 : ab_L RX12 223 12 86 := ⟨by decide, by decide, ab_in 1935 (by decide +kernel) (by decide +kernel)⟩
theorem mlRX12_320 : Cond.methodLink RX12 320 yX12_partOf ∈ ab_G ∧ Cond.static yX12_partOf ∈ ab_G := ⟨ab_in 2249 (by decide +kernel) (by decide +kernel), ab_in 2250 (by decide +kernel) (by decide +kernel)⟩
abbrev MX12_falseOf : ab_M := (yX12_falseOf, cX12_falseOf, 6, (some .int))
theorem dX12_falseOf_0 : decode cX12_falseOf 0 = .ok (.iconst 0, 1) := by decide +kernel
theorem dX12_falseOf_1 : decode cX12_falseOf 1 = .ok (.istore_n 3, 1) := by decide +kernel
theorem dX12_falseOf_2 : decode cX12_falseOf 2 = .ok (.iconst 0, 1) := by decide +kernel
theorem dX12_falseOf_3 : decode cX12_falseOf 3 = .ok (.istore 4, 2) := by decide +kernel
theorem dX12_falseOf_5 : decode cX12_falseOf 5 = .ok (.iconst 0, 1) := by decide +kernel
theorem dX12_falseOf_6 : decode cX12_falseOf 6 = .ok (.istore 5, 2) := by decide +kernel
theorem dX12_falseOf_8 : decode cX12_falseOf 8 = .ok (.iload 5, 2) := by decide +kernel
theorem dX12_falseOf_10 : decode cX12_falseOf 10 = .ok (.aload_n 0, 1) := by decide +kernel
theorem dX12_falseOf_11 : decode cX12_falseOf 11 = .ok (.getfield 525, 3) := by decide +kernel
theorem dX12_falseOf_14 : decode cX12_falseOf 14 = .ok (.if_icmp .ge 71, 3) := by decide +kernel
theorem dX12_falseOf_17 : decode cX12_falseOf 17 = .ok (.aload_n 0, 1) := by decide +kernel
theorem dX12_falseOf_18 : decode cX12_falseOf 18 = .ok (.getfield 214, 3) := by decide +kernel
theorem dX12_falseOf_21 : decode cX12_falseOf 21 = .ok (.iload 5, 2) := by decide +kernel
theorem dX12_falseOf_23 : decode cX12_falseOf 23 = .ok (.iaload, 1) := by decide +kernel
theorem dX12_falseOf_24 : decode cX12_falseOf 24 = .ok (.iload_n 1, 1) := by decide +kernel
theorem dX12_falseOf_25 : decode cX12_falseOf 25 = .ok (.if_icmp .ne 54, 3) := by decide +kernel
theorem dX12_falseOf_28 : decode cX12_falseOf 28 = .ok (.aload_n 0, 1) := by decide +kernel
theorem dX12_falseOf_29 : decode cX12_falseOf 29 = .ok (.getfield 220, 3) := by decide +kernel
theorem dX12_falseOf_32 : decode cX12_falseOf 32 = .ok (.iload 5, 2) := by decide +kernel
theorem dX12_falseOf_34 : decode cX12_falseOf 34 = .ok (.iaload, 1) := by decide +kernel
theorem dX12_falseOf_35 : decode cX12_falseOf 35 = .ok (.ifCond .eq 44, 3) := by decide +kernel
theorem dX12_falseOf_38 : decode cX12_falseOf 38 = .ok (.aload_n 0, 1) := by decide +kernel
theorem dX12_falseOf_39 : decode cX12_falseOf 39 = .ok (.getfield 223, 3) := by decide +kernel
theorem dX12_falseOf_42 : decode cX12_falseOf 42 = .ok (.iload 5, 2) := by decide +kernel
theorem dX12_falseOf_44 : decode cX12_falseOf 44 = .ok (.iaload, 1) := by decide +kernel
theorem dX12_falseOf_45 : decode cX12_falseOf 45 = .ok (.invokestatic 320, 3) := by decide +kernel
theorem dX12_falseOf_48 : decode cX12_falseOf 48 = .ok (.iload_n 2, 1) := by decide +kernel
theorem dX12_falseOf_49 : decode cX12_falseOf 49 = .ok (.if_icmp .eq 6, 3) := by decide +kernel
theorem dX12_falseOf_52 : decode cX12_falseOf 52 = .ok (.goto 27, 3) := by decide +kernel
theorem dX12_falseOf_55 : decode cX12_falseOf 55 = .ok (.iinc 3 1, 3) := by decide +kernel
theorem dX12_falseOf_58 : decode cX12_falseOf 58 = .ok (.iload 4, 2) := by decide +kernel
theorem dX12_falseOf_60 : decode cX12_falseOf 60 = .ok (.aload_n 0, 1) := by decide +kernel
theorem dX12_falseOf_61 : decode cX12_falseOf 61 = .ok (.getfield 220, 3) := by decide +kernel
theorem dX12_falseOf_64 : decode cX12_falseOf 64 = .ok (.iload 5, 2) := by decide +kernel
theorem dX12_falseOf_66 : decode cX12_falseOf 66 = .ok (.iaload, 1) := by decide +kernel
theorem dX12_falseOf_67 : decode cX12_falseOf 67 = .ok (.iconst 2, 1) := by decide +kernel
theorem dX12_falseOf_68 : decode cX12_falseOf 68 = .ok (.if_icmp .ne 7, 3) := by decide +kernel
theorem dX12_falseOf_71 : decode cX12_falseOf 71 = .ok (.iconst 1, 1) := by decide +kernel
theorem dX12_falseOf_72 : decode cX12_falseOf 72 = .ok (.goto 4, 3) := by decide +kernel
theorem dX12_falseOf_75 : decode cX12_falseOf 75 = .ok (.iconst 0, 1) := by decide +kernel
theorem dX12_falseOf_76 : decode cX12_falseOf 76 = .ok (.iadd, 1) := by decide +kernel
theorem dX12_falseOf_77 : decode cX12_falseOf 77 = .ok (.istore 4, 2) := by decide +kernel
theorem dX12_falseOf_79 : decode cX12_falseOf 79 = .ok (.iinc 5 1, 3) := by decide +kernel
theorem dX12_falseOf_82 : decode cX12_falseOf 82 = .ok (.goto (-74), 3) := by decide +kernel
theorem dX12_falseOf_85 : decode cX12_falseOf 85 = .ok (.iload_n 3, 1) := by decide +kernel
theorem dX12_falseOf_86 : decode cX12_falseOf 86 = .ok (.ifCond .ne 7, 3) := by decide +kernel
theorem dX12_falseOf_89 : decode cX12_falseOf 89 = .ok (.iconst 0, 1) := by decide +kernel
theorem dX12_falseOf_90 : decode cX12_falseOf 90 = .ok (.goto 10, 3) := by decide +kernel
theorem dX12_falseOf_93 : decode cX12_falseOf 93 = .ok (.bipush 100, 2) := by decide +kernel
theorem dX12_falseOf_95 : decode cX12_falseOf 95 = .ok (.iload 4, 2) := by decide +kernel
theorem dX12_falseOf_97 : decode cX12_falseOf 97 = .ok (.imul, 1) := by decide +kernel
theorem dX12_falseOf_98 : decode cX12_falseOf 98 = .ok (.iload_n 3, 1) := by decide +kernel
theorem dX12_falseOf_99 : decode cX12_falseOf 99 = .ok (.idiv, 1) := by decide +kernel
theorem dX12_falseOf_100 : decode cX12_falseOf 100 = .ok (.ireturn, 1) := by decide +kernel
theorem okX12_falseOf : ab_okM MX12_falseOf 2 := ⟨by decide, ⟨by decide, by decide⟩, ab_in 2498 (by decide +kernel) (by decide +kernel), ab_in 99 (by decide +kernel) (by decide +kernel), by decide +kernel, by decide⟩
set_option maxHeartbeats 4000000 in
set_option maxRecDepth 100000 in
theorem sX12_falseOf_76 (v1 : Int32) (v2 : Int32) (v3 : Int32) (v5 : Int32) (s0 : Int32) (s1 : Int32)  (x : ab_X) (K : Int32 → Prop) (L8 : Int32 → Int32 → Int32 → Prop) (d bc bs : Nat) (hdp : 1 ≤ d) (hL8 : ∀ (v3 : Int32) (v4 : Int32) (v5 : Int32), L8 v3 v4 v5 → EW MX12_falseOf 8 [(0, .ref 246), (1, .int v1), (2, .int v2), (3, .int v3), (4, .int v4), (5, .int v5)] [] (aS x) d bc bs (liP x K)) (h : wX12_falseOf_76 v1 v2 v3 v5 s0 s1 x K L8) : EW MX12_falseOf 76 [(0, .ref 246), (1, .int v1), (2, .int v2), (3, .int v3), (5, .int v5)] [.int s1, .int s0] (aS x) d bc bs (liP x K) := by
  unfold wX12_falseOf_76 at h
  refine EW_iadd (pc2 := 77) rfl dX12_falseOf_76 ?_
  refine EW_istore (pc2 := 79) rfl dX12_falseOf_77 (by decide) [1, 2, 3, 4, 0, 5] [(0, .ref 246), (1, .int v1), (2, .int v2), (3, .int v3), (4, .int (s0 + s1)), (5, .int v5)] rfl ?_
  refine EW_iinc (v5 + 1) (pc2 := 82) rfl dX12_falseOf_79 5 rfl rfl (by decide) [1, 2, 3, 4, 5, 0] [(0, .ref 246), (1, .int v1), (2, .int v2), (3, .int v3), (4, .int (s0 + s1)), (5, .int (v5 + 1))] rfl ?_
  refine EW_goto (tgt := 8) dX12_falseOf_82 (by decide) ?_
  exact hL8 v3 (s0 + s1) (v5 + 1) h
set_option maxHeartbeats 4000000 in
set_option maxRecDepth 100000 in
theorem sX12_falseOf_8 (v1 : Int32) (v2 : Int32) (v3 : Int32) (v4 : Int32) (v5 : Int32)  (x : ab_X) (K : Int32 → Prop)  (d bc bs : Nat) (hdp : 1 ≤ d)  (h : Lp3 (lX12_falseOf_8 v1 v2 x K ) v3 v4 v5) : EW MX12_falseOf 8 [(0, .ref 246), (1, .int v1), (2, .int v2), (3, .int v3), (4, .int v4), (5, .int v5)] [] (aS x) d bc bs (liP x K) := by
  refine Lp3.use (P := fun v3 v4 v5 => EW MX12_falseOf 8 [(0, .ref 246), (1, .int v1), (2, .int v2), (3, .int v3), (4, .int v4), (5, .int v5)] [] (aS x) d bc bs (liP x K)) (fun L8 v3 v4 v5 hL8 h => ?_) v3 v4 v5 h
  unfold lX12_falseOf_8 at h
  refine EW_iload (pc2 := 10) rfl dX12_falseOf_8 5 rfl ?_
  refine EW_aload_n (pc2 := 11) rfl dX12_falseOf_10 0 rfl ?_
  refine AW_geti ⟨gfRX12_525, rfl⟩ (pc2 := 14) rfl dX12_falseOf_11 q246 ?_
  refine EW_icmp_ge (tgt := 85) (pc2 := 17) rfl dX12_falseOf_14 (by decide) (fun q => ?_) (fun q => ?_)
  · replace h := h.1 q
    refine EW_iload_n (pc2 := 86) rfl dX12_falseOf_85 3 rfl ?_
    refine EW_if_ne (tgt := 93) (pc2 := 89) rfl dX12_falseOf_86 (by decide) (fun q => ?_) (fun q => ?_)
    · replace h := h.1 q
      refine EW_bipush (pc2 := 95) (v := 100) rfl dX12_falseOf_93 (by decide) ?_
      refine EW_iload (pc2 := 97) rfl dX12_falseOf_95 4 rfl ?_
      refine EW_imul (pc2 := 98) rfl dX12_falseOf_97 ?_
      refine EW_iload_n (pc2 := 99) rfl dX12_falseOf_98 3 rfl ?_
      obtain ⟨hz, h⟩ := h
      refine EW_idiv (pc2 := 100) rfl dX12_falseOf_99 hz ?_
      exact AW_iret rfl dX12_falseOf_100 ⟨_, rfl, rfl, h⟩
    · replace h := h.2 q
      refine EW_iconst (pc2 := 90) (v := 0) rfl dX12_falseOf_89 (by decide) ?_
      refine EW_goto (tgt := 100) dX12_falseOf_90 (by decide) ?_
      exact AW_iret rfl dX12_falseOf_100 ⟨_, rfl, rfl, h⟩
  · replace h := h.2 q
    refine EW_aload_n (pc2 := 18) rfl dX12_falseOf_17 0 rfl ?_
    refine AW_getr (r := 310) ⟨gfRX12_214, rfl⟩ (pc2 := 21) rfl dX12_falseOf_18 q246 rfl ?_
    refine EW_iload (pc2 := 23) rfl dX12_falseOf_21 5 rfl ?_
    obtain ⟨b1, h⟩ := h
    refine AW_iald (pc2 := 24) rfl dX12_falseOf_23 q310 b1 ?_
    refine EW_iload_n (pc2 := 25) rfl dX12_falseOf_24 1 rfl ?_
    refine EW_icmp_ne (tgt := 79) (pc2 := 28) rfl dX12_falseOf_25 (by decide) (fun q => ?_) (fun q => ?_)
    · replace h := h.1 q
      refine EW_iinc (v5 + 1) (pc2 := 82) rfl dX12_falseOf_79 5 rfl rfl (by decide) [1, 2, 3, 4, 5, 0] [(0, .ref 246), (1, .int v1), (2, .int v2), (3, .int v3), (4, .int v4), (5, .int (v5 + 1))] rfl ?_
      refine EW_goto (tgt := 8) dX12_falseOf_82 (by decide) ?_
      exact hL8 v3 v4 (v5 + 1) h
    · replace h := h.2 q
      refine EW_aload_n (pc2 := 29) rfl dX12_falseOf_28 0 rfl ?_
      refine AW_getr (r := 312) ⟨gfRX12_220, rfl⟩ (pc2 := 32) rfl dX12_falseOf_29 q246 rfl ?_
      refine EW_iload (pc2 := 34) rfl dX12_falseOf_32 5 rfl ?_
      obtain ⟨b2, h⟩ := h
      refine AW_iald (pc2 := 35) rfl dX12_falseOf_34 q312 b2 ?_
      refine EW_if_eq (tgt := 79) (pc2 := 38) rfl dX12_falseOf_35 (by decide) (fun q => ?_) (fun q => ?_)
      · replace h := h.1 q
        refine EW_iinc (v5 + 1) (pc2 := 82) rfl dX12_falseOf_79 5 rfl rfl (by decide) [1, 2, 3, 4, 5, 0] [(0, .ref 246), (1, .int v1), (2, .int v2), (3, .int v3), (4, .int v4), (5, .int (v5 + 1))] rfl ?_
        refine EW_goto (tgt := 8) dX12_falseOf_82 (by decide) ?_
        exact hL8 v3 v4 (v5 + 1) h
      · replace h := h.2 q
        refine EW_aload_n (pc2 := 39) rfl dX12_falseOf_38 0 rfl ?_
        refine AW_getr (r := 313) ⟨gfRX12_223, rfl⟩ (pc2 := 42) rfl dX12_falseOf_39 q246 rfl ?_
        refine EW_iload (pc2 := 44) rfl dX12_falseOf_42 5 rfl ?_
        obtain ⟨b3, h⟩ := h
        refine AW_iald (pc2 := 45) rfl dX12_falseOf_44 q313 b3 ?_
        refine AW_invS (M' := MX12_partOf) [.int (x.1 313 (Int32.toNatClampNeg v5))] (rest := []) mlRX12_320 okX12_partOf (pc2 := 48) rfl dX12_falseOf_45 rfl rfl (Nat.le_of_ble_eq_true rfl) (Nat.le_of_ble_eq_true rfl) (d' := 0) (by omega) (EW_mono (fun _ _ hr => ?_) (sX12_partOf (x.1 313 (Int32.toNatClampNeg v5))  x _ _ 0 0 (Nat.le_refl _) h))
        obtain ⟨r4, rfl, rfl, h⟩ := hr
        refine EW_iload_n (pc2 := 49) rfl dX12_falseOf_48 2 rfl ?_
        refine EW_icmp_eq (tgt := 55) (pc2 := 52) rfl dX12_falseOf_49 (by decide) (fun q => ?_) (fun q => ?_)
        · replace h := h.1 q
          refine EW_iinc (v3 + 1) (pc2 := 58) rfl dX12_falseOf_55 3 rfl rfl (by decide) [1, 2, 3, 0, 4, 5] [(0, .ref 246), (1, .int v1), (2, .int v2), (3, .int (v3 + 1)), (4, .int v4), (5, .int v5)] rfl ?_
          refine EW_iload (pc2 := 60) rfl dX12_falseOf_58 4 rfl ?_
          refine EW_aload_n (pc2 := 61) rfl dX12_falseOf_60 0 rfl ?_
          refine AW_getr (r := 312) ⟨gfRX12_220, rfl⟩ (pc2 := 64) rfl dX12_falseOf_61 q246 rfl ?_
          refine EW_iload (pc2 := 66) rfl dX12_falseOf_64 5 rfl ?_
          obtain ⟨b5, h⟩ := h
          refine AW_iald (pc2 := 67) rfl dX12_falseOf_66 q312 b5 ?_
          refine EW_iconst (pc2 := 68) (v := 2) rfl dX12_falseOf_67 (by decide) ?_
          refine EW_icmp_ne (tgt := 75) (pc2 := 71) rfl dX12_falseOf_68 (by decide) (fun q => ?_) (fun q => ?_)
          · replace h := h.1 q
            refine EW_iconst (pc2 := 76) (v := 0) rfl dX12_falseOf_75 (by decide) ?_
            refine EW_ls [0, 1, 2, 3, 5] rfl ?_
            exact sX12_falseOf_76 v1 v2 (v3 + 1) v5 v4 0 x K L8 d bc bs hdp hL8 h
          · replace h := h.2 q
            refine EW_iconst (pc2 := 72) (v := 1) rfl dX12_falseOf_71 (by decide) ?_
            refine EW_goto (tgt := 76) dX12_falseOf_72 (by decide) ?_
            refine EW_ls [0, 1, 2, 3, 5] rfl ?_
            exact sX12_falseOf_76 v1 v2 (v3 + 1) v5 v4 1 x K L8 d bc bs hdp hL8 h
        · replace h := h.2 q
          refine EW_goto (tgt := 79) dX12_falseOf_52 (by decide) ?_
          refine EW_iinc (v5 + 1) (pc2 := 82) rfl dX12_falseOf_79 5 rfl rfl (by decide) [1, 2, 3, 4, 5, 0] [(0, .ref 246), (1, .int v1), (2, .int v2), (3, .int v3), (4, .int v4), (5, .int (v5 + 1))] rfl ?_
          refine EW_goto (tgt := 8) dX12_falseOf_82 (by decide) ?_
          exact hL8 v3 v4 (v5 + 1) h
set_option maxHeartbeats 4000000 in
set_option maxRecDepth 100000 in
theorem sX12_falseOf (v1 : Int32) (v2 : Int32)  (x : ab_X) (K : Int32 → Prop) (d bc bs : Nat) (hdp : 1 ≤ d) (h : wX12_falseOf v1 v2 x K) : EW MX12_falseOf 0 [(0, .ref 246), (1, .int v1), (2, .int v2)] [] (aS x) d bc bs (liP x K) := by
  unfold wX12_falseOf at h
  refine EW_iconst (pc2 := 1) (v := 0) rfl dX12_falseOf_0 (by decide) ?_
  refine EW_istore_n (pc2 := 2) rfl dX12_falseOf_1 (by decide) [1, 2, 3, 0] [(0, .ref 246), (1, .int v1), (2, .int v2), (3, .int 0)] rfl ?_
  refine EW_iconst (pc2 := 3) (v := 0) rfl dX12_falseOf_2 (by decide) ?_
  refine EW_istore (pc2 := 5) rfl dX12_falseOf_3 (by decide) [1, 2, 3, 4, 0] [(0, .ref 246), (1, .int v1), (2, .int v2), (3, .int 0), (4, .int 0)] rfl ?_
  refine EW_iconst (pc2 := 6) (v := 0) rfl dX12_falseOf_5 (by decide) ?_
  refine EW_istore (pc2 := 8) rfl dX12_falseOf_6 (by decide) [1, 2, 3, 4, 5, 0] [(0, .ref 246), (1, .int v1), (2, .int v2), (3, .int 0), (4, .int 0), (5, .int 0)] rfl ?_
  exact sX12_falseOf_8 v1 v2 0 0 0 x K d bc bs hdp h
theorem gfRX12_107 : ab_L RX12 107 12 36 := ⟨by decide, by decide, ab_in 1885 (by decide +kernel) (by decide +kernel)⟩
abbrev MX12_readyOf : ab_M := (yX12_readyOf, cX12_readyOf, 4, (some .int))
theorem dX12_readyOf_0 : decode cX12_readyOf 0 = .ok (.iconst 0, 1) := by decide +kernel
theorem dX12_readyOf_1 : decode cX12_readyOf 1 = .ok (.istore_n 2, 1) := by decide +kernel
theorem dX12_readyOf_2 : decode cX12_readyOf 2 = .ok (.iconst 0, 1) := by decide +kernel
theorem dX12_readyOf_3 : decode cX12_readyOf 3 = .ok (.istore_n 3, 1) := by decide +kernel
theorem dX12_readyOf_4 : decode cX12_readyOf 4 = .ok (.iload_n 3, 1) := by decide +kernel
theorem dX12_readyOf_5 : decode cX12_readyOf 5 = .ok (.aload_n 0, 1) := by decide +kernel
theorem dX12_readyOf_6 : decode cX12_readyOf 6 = .ok (.getfield 366, 3) := by decide +kernel
theorem dX12_readyOf_9 : decode cX12_readyOf 9 = .ok (.if_icmp .ge 36, 3) := by decide +kernel
theorem dX12_readyOf_12 : decode cX12_readyOf 12 = .ok (.iload_n 2, 1) := by decide +kernel
theorem dX12_readyOf_13 : decode cX12_readyOf 13 = .ok (.aload_n 0, 1) := by decide +kernel
theorem dX12_readyOf_14 : decode cX12_readyOf 14 = .ok (.getfield 107, 3) := by decide +kernel
theorem dX12_readyOf_17 : decode cX12_readyOf 17 = .ok (.iload_n 3, 1) := by decide +kernel
theorem dX12_readyOf_18 : decode cX12_readyOf 18 = .ok (.iaload, 1) := by decide +kernel
theorem dX12_readyOf_19 : decode cX12_readyOf 19 = .ok (.iload_n 1, 1) := by decide +kernel
theorem dX12_readyOf_20 : decode cX12_readyOf 20 = .ok (.if_icmp .ne 16, 3) := by decide +kernel
theorem dX12_readyOf_23 : decode cX12_readyOf 23 = .ok (.aload_n 0, 1) := by decide +kernel
theorem dX12_readyOf_24 : decode cX12_readyOf 24 = .ok (.getfield 128, 3) := by decide +kernel
theorem dX12_readyOf_27 : decode cX12_readyOf 27 = .ok (.iload_n 3, 1) := by decide +kernel
theorem dX12_readyOf_28 : decode cX12_readyOf 28 = .ok (.iaload, 1) := by decide +kernel
theorem dX12_readyOf_29 : decode cX12_readyOf 29 = .ok (.ifCond .ne 7, 3) := by decide +kernel
theorem dX12_readyOf_32 : decode cX12_readyOf 32 = .ok (.iconst 1, 1) := by decide +kernel
theorem dX12_readyOf_33 : decode cX12_readyOf 33 = .ok (.goto 4, 3) := by decide +kernel
theorem dX12_readyOf_36 : decode cX12_readyOf 36 = .ok (.iconst 0, 1) := by decide +kernel
theorem dX12_readyOf_37 : decode cX12_readyOf 37 = .ok (.iadd, 1) := by decide +kernel
theorem dX12_readyOf_38 : decode cX12_readyOf 38 = .ok (.istore_n 2, 1) := by decide +kernel
theorem dX12_readyOf_39 : decode cX12_readyOf 39 = .ok (.iinc 3 1, 3) := by decide +kernel
theorem dX12_readyOf_42 : decode cX12_readyOf 42 = .ok (.goto (-38), 3) := by decide +kernel
theorem dX12_readyOf_45 : decode cX12_readyOf 45 = .ok (.iload_n 2, 1) := by decide +kernel
theorem dX12_readyOf_46 : decode cX12_readyOf 46 = .ok (.ireturn, 1) := by decide +kernel
theorem okX12_readyOf : ab_okM MX12_readyOf 1 := ⟨by decide, ⟨by decide, by decide⟩, ab_in 2510 (by decide +kernel) (by decide +kernel), ab_in 99 (by decide +kernel) (by decide +kernel), by decide +kernel, by decide⟩
set_option maxHeartbeats 4000000 in
set_option maxRecDepth 100000 in
theorem sX12_readyOf_37 (v1 : Int32) (v3 : Int32) (s0 : Int32) (s1 : Int32)  (x : ab_X) (K : Int32 → Prop) (L4 : Int32 → Int32 → Prop) (d bc bs : Nat) (hdp : 0 ≤ d) (hL4 : ∀ (v2 : Int32) (v3 : Int32), L4 v2 v3 → EW MX12_readyOf 4 [(0, .ref 246), (1, .int v1), (2, .int v2), (3, .int v3)] [] (aS x) d bc bs (liP x K)) (h : wX12_readyOf_37 v1 v3 s0 s1 x K L4) : EW MX12_readyOf 37 [(0, .ref 246), (1, .int v1), (3, .int v3)] [.int s1, .int s0] (aS x) d bc bs (liP x K) := by
  unfold wX12_readyOf_37 at h
  refine EW_iadd (pc2 := 38) rfl dX12_readyOf_37 ?_
  refine EW_istore_n (pc2 := 39) rfl dX12_readyOf_38 (by decide) [1, 2, 0, 3] [(0, .ref 246), (1, .int v1), (2, .int (s0 + s1)), (3, .int v3)] rfl ?_
  refine EW_iinc (v3 + 1) (pc2 := 42) rfl dX12_readyOf_39 3 rfl rfl (by decide) [1, 2, 3, 0] [(0, .ref 246), (1, .int v1), (2, .int (s0 + s1)), (3, .int (v3 + 1))] rfl ?_
  refine EW_goto (tgt := 4) dX12_readyOf_42 (by decide) ?_
  exact hL4 (s0 + s1) (v3 + 1) h
set_option maxHeartbeats 4000000 in
set_option maxRecDepth 100000 in
theorem sX12_readyOf_36 (v1 : Int32) (v3 : Int32) (s0 : Int32)  (x : ab_X) (K : Int32 → Prop) (L4 : Int32 → Int32 → Prop) (d bc bs : Nat) (hdp : 0 ≤ d) (hL4 : ∀ (v2 : Int32) (v3 : Int32), L4 v2 v3 → EW MX12_readyOf 4 [(0, .ref 246), (1, .int v1), (2, .int v2), (3, .int v3)] [] (aS x) d bc bs (liP x K)) (h : wX12_readyOf_36 v1 v3 s0 x K L4) : EW MX12_readyOf 36 [(0, .ref 246), (1, .int v1), (3, .int v3)] [.int s0] (aS x) d bc bs (liP x K) := by
  unfold wX12_readyOf_36 at h
  refine EW_iconst (pc2 := 37) (v := 0) rfl dX12_readyOf_36 (by decide) ?_
  exact sX12_readyOf_37 v1 v3 s0 0 x K L4 d bc bs hdp hL4 h
set_option maxHeartbeats 4000000 in
set_option maxRecDepth 100000 in
theorem sX12_readyOf_4 (v1 : Int32) (v2 : Int32) (v3 : Int32)  (x : ab_X) (K : Int32 → Prop)  (d bc bs : Nat) (hdp : 0 ≤ d)  (h : Lp2 (lX12_readyOf_4 v1 x K ) v2 v3) : EW MX12_readyOf 4 [(0, .ref 246), (1, .int v1), (2, .int v2), (3, .int v3)] [] (aS x) d bc bs (liP x K) := by
  refine Lp2.use (P := fun v2 v3 => EW MX12_readyOf 4 [(0, .ref 246), (1, .int v1), (2, .int v2), (3, .int v3)] [] (aS x) d bc bs (liP x K)) (fun L4 v2 v3 hL4 h => ?_) v2 v3 h
  unfold lX12_readyOf_4 at h
  refine EW_iload_n (pc2 := 5) rfl dX12_readyOf_4 3 rfl ?_
  refine EW_aload_n (pc2 := 6) rfl dX12_readyOf_5 0 rfl ?_
  refine AW_geti ⟨gfRX12_366, rfl⟩ (pc2 := 9) rfl dX12_readyOf_6 q246 ?_
  refine EW_icmp_ge (tgt := 45) (pc2 := 12) rfl dX12_readyOf_9 (by decide) (fun q => ?_) (fun q => ?_)
  · replace h := h.1 q
    refine EW_iload_n (pc2 := 46) rfl dX12_readyOf_45 2 rfl ?_
    exact AW_iret rfl dX12_readyOf_46 ⟨_, rfl, rfl, h⟩
  · replace h := h.2 q
    refine EW_iload_n (pc2 := 13) rfl dX12_readyOf_12 2 rfl ?_
    refine EW_aload_n (pc2 := 14) rfl dX12_readyOf_13 0 rfl ?_
    refine AW_getr (r := 279) ⟨gfRX12_107, rfl⟩ (pc2 := 17) rfl dX12_readyOf_14 q246 rfl ?_
    refine EW_iload_n (pc2 := 18) rfl dX12_readyOf_17 3 rfl ?_
    obtain ⟨b1, h⟩ := h
    refine AW_iald (pc2 := 19) rfl dX12_readyOf_18 q279 b1 ?_
    refine EW_iload_n (pc2 := 20) rfl dX12_readyOf_19 1 rfl ?_
    refine EW_icmp_ne (tgt := 36) (pc2 := 23) rfl dX12_readyOf_20 (by decide) (fun q => ?_) (fun q => ?_)
    · replace h := h.1 q
      refine EW_ls [0, 1, 3] rfl ?_
      exact sX12_readyOf_36 v1 v3 v2 x K L4 d bc bs hdp hL4 h
    · replace h := h.2 q
      refine EW_aload_n (pc2 := 24) rfl dX12_readyOf_23 0 rfl ?_
      refine AW_getr (r := 286) ⟨gfRX12_128, rfl⟩ (pc2 := 27) rfl dX12_readyOf_24 q246 rfl ?_
      refine EW_iload_n (pc2 := 28) rfl dX12_readyOf_27 3 rfl ?_
      obtain ⟨b2, h⟩ := h
      refine AW_iald (pc2 := 29) rfl dX12_readyOf_28 q286 b2 ?_
      refine EW_if_ne (tgt := 36) (pc2 := 32) rfl dX12_readyOf_29 (by decide) (fun q => ?_) (fun q => ?_)
      · replace h := h.1 q
        refine EW_ls [0, 1, 3] rfl ?_
        exact sX12_readyOf_36 v1 v3 v2 x K L4 d bc bs hdp hL4 h
      · replace h := h.2 q
        refine EW_iconst (pc2 := 33) (v := 1) rfl dX12_readyOf_32 (by decide) ?_
        refine EW_goto (tgt := 37) dX12_readyOf_33 (by decide) ?_
        refine EW_ls [0, 1, 3] rfl ?_
        exact sX12_readyOf_37 v1 v3 v2 1 x K L4 d bc bs hdp hL4 h
set_option maxHeartbeats 4000000 in
set_option maxRecDepth 100000 in
theorem sX12_readyOf (v1 : Int32)  (x : ab_X) (K : Int32 → Prop) (d bc bs : Nat) (hdp : 0 ≤ d) (h : wX12_readyOf v1 x K) : EW MX12_readyOf 0 [(0, .ref 246), (1, .int v1)] [] (aS x) d bc bs (liP x K) := by
  unfold wX12_readyOf at h
  refine EW_iconst (pc2 := 1) (v := 0) rfl dX12_readyOf_0 (by decide) ?_
  refine EW_istore_n (pc2 := 2) rfl dX12_readyOf_1 (by decide) [1, 2, 0] [(0, .ref 246), (1, .int v1), (2, .int 0)] rfl ?_
  refine EW_iconst (pc2 := 3) (v := 0) rfl dX12_readyOf_2 (by decide) ?_
  refine EW_istore_n (pc2 := 4) rfl dX12_readyOf_3 (by decide) [1, 2, 3, 0] [(0, .ref 246), (1, .int v1), (2, .int 0), (3, .int 0)] rfl ?_
  exact sX12_readyOf_4 v1 0 0 x K d bc bs hdp h
theorem mlRX12_534 : Cond.methodLink RX12 534 yX12_falseOf ∈ ab_G ∧ Cond.instanceMethod yX12_falseOf ∈ ab_G ∧ Cond.selects RX12 yX12_falseOf yX12_falseOf ∈ ab_G := ⟨ab_in 2495 (by decide +kernel) (by decide +kernel), ab_in 2497 (by decide +kernel) (by decide +kernel), ab_in 49 (by decide +kernel) (by decide +kernel)⟩
theorem mlRX12_537 : Cond.methodLink RX12 537 yX12_readyOf ∈ ab_G ∧ Cond.instanceMethod yX12_readyOf ∈ ab_G ∧ Cond.selects RX12 yX12_readyOf yX12_readyOf ∈ ab_G := ⟨ab_in 2507 (by decide +kernel) (by decide +kernel), ab_in 2509 (by decide +kernel) (by decide +kernel), ab_in 51 (by decide +kernel) (by decide +kernel)⟩
theorem gfRX12_519 : ab_L RX12 519 12 71 := ⟨by decide, by decide, ab_in 1920 (by decide +kernel) (by decide +kernel)⟩
theorem gfRX12_171 : ab_L RX12 171 12 60 := ⟨by decide, by decide, ab_in 1909 (by decide +kernel) (by decide +kernel)⟩
theorem gfRX12_180 : ab_L RX12 180 12 63 := ⟨by decide, by decide, ab_in 1912 (by decide +kernel) (by decide +kernel)⟩
theorem gfRX12_331 : ab_L RX12 331 12 31 := ⟨by decide, by decide, ab_in 1880 (by decide +kernel) (by decide +kernel)⟩
theorem gfRX12_32 : ab_L RX12 32 12 10 := ⟨by decide, by decide, ab_in 1859 (by decide +kernel) (by decide +kernel)⟩
theorem gfRX12_38 : ab_L RX12 38 12 12 := ⟨by decide, by decide, ab_in 1861 (by decide +kernel) (by decide +kernel)⟩
theorem mmRX12_357 : Cond.methodLink RX12 357 Lib.Math.max.name ∈ ab_G ∧ Cond.static Lib.Math.max.name ∈ ab_G ∧ Cond.initialized "java/lang/Math" ∈ ab_G ∧ Cond.code Lib.Math.max.name Lib.Math.max.code 2 (some .int) ∈ ab_G := ⟨ab_in 2312 (by decide +kernel) (by decide +kernel), ab_in 909 (by decide +kernel) (by decide +kernel), ab_in 100 (by decide +kernel) (by decide +kernel), ab_in 910 (by decide +kernel) (by decide +kernel)⟩
abbrev MX12_askFor : ab_M := (yX12_askFor, cX12_askFor, 7, none)
theorem dX12_askFor_0 : decode cX12_askFor 0 = .ok (.iconst 0, 1) := by decide +kernel
theorem dX12_askFor_1 : decode cX12_askFor 1 = .ok (.istore_n 3, 1) := by decide +kernel
theorem dX12_askFor_2 : decode cX12_askFor 2 = .ok (.iconst 0, 1) := by decide +kernel
theorem dX12_askFor_3 : decode cX12_askFor 3 = .ok (.istore 4, 2) := by decide +kernel
theorem dX12_askFor_5 : decode cX12_askFor 5 = .ok (.iconst 0, 1) := by decide +kernel
theorem dX12_askFor_6 : decode cX12_askFor 6 = .ok (.istore 5, 2) := by decide +kernel
theorem dX12_askFor_8 : decode cX12_askFor 8 = .ok (.iconst 0, 1) := by decide +kernel
theorem dX12_askFor_9 : decode cX12_askFor 9 = .ok (.istore 6, 2) := by decide +kernel
theorem dX12_askFor_11 : decode cX12_askFor 11 = .ok (.iload 6, 2) := by decide +kernel
theorem dX12_askFor_13 : decode cX12_askFor 13 = .ok (.aload_n 0, 1) := by decide +kernel
theorem dX12_askFor_14 : decode cX12_askFor 14 = .ok (.getfield 331, 3) := by decide +kernel
theorem dX12_askFor_17 : decode cX12_askFor 17 = .ok (.if_icmp .ge 38, 3) := by decide +kernel
theorem dX12_askFor_20 : decode cX12_askFor 20 = .ok (.aload_n 0, 1) := by decide +kernel
theorem dX12_askFor_21 : decode cX12_askFor 21 = .ok (.getfield 32, 3) := by decide +kernel
theorem dX12_askFor_24 : decode cX12_askFor 24 = .ok (.iload 6, 2) := by decide +kernel
theorem dX12_askFor_26 : decode cX12_askFor 26 = .ok (.iaload, 1) := by decide +kernel
theorem dX12_askFor_27 : decode cX12_askFor 27 = .ok (.iload_n 1, 1) := by decide +kernel
theorem dX12_askFor_28 : decode cX12_askFor 28 = .ok (.if_icmp .eq 6, 3) := by decide +kernel
theorem dX12_askFor_31 : decode cX12_askFor 31 = .ok (.goto 18, 3) := by decide +kernel
theorem dX12_askFor_34 : decode cX12_askFor 34 = .ok (.iload_n 3, 1) := by decide +kernel
theorem dX12_askFor_35 : decode cX12_askFor 35 = .ok (.aload_n 0, 1) := by decide +kernel
theorem dX12_askFor_36 : decode cX12_askFor 36 = .ok (.getfield 38, 3) := by decide +kernel
theorem dX12_askFor_39 : decode cX12_askFor 39 = .ok (.iload 6, 2) := by decide +kernel
theorem dX12_askFor_41 : decode cX12_askFor 41 = .ok (.iaload, 1) := by decide +kernel
theorem dX12_askFor_42 : decode cX12_askFor 42 = .ok (.invokestatic 357, 3) := by decide +kernel
theorem dX12_askFor_45 : decode cX12_askFor 45 = .ok (.istore_n 3, 1) := by decide +kernel
theorem dX12_askFor_46 : decode cX12_askFor 46 = .ok (.iinc 4 1, 3) := by decide +kernel
theorem dX12_askFor_49 : decode cX12_askFor 49 = .ok (.iinc 6 1, 3) := by decide +kernel
theorem dX12_askFor_52 : decode cX12_askFor 52 = .ok (.goto (-41), 3) := by decide +kernel
theorem dX12_askFor_55 : decode cX12_askFor 55 = .ok (.iconst 0, 1) := by decide +kernel
theorem dX12_askFor_56 : decode cX12_askFor 56 = .ok (.istore 6, 2) := by decide +kernel
theorem dX12_askFor_58 : decode cX12_askFor 58 = .ok (.iload 6, 2) := by decide +kernel
theorem dX12_askFor_60 : decode cX12_askFor 60 = .ok (.aload_n 0, 1) := by decide +kernel
theorem dX12_askFor_61 : decode cX12_askFor 61 = .ok (.getfield 525, 3) := by decide +kernel
theorem dX12_askFor_64 : decode cX12_askFor 64 = .ok (.if_icmp .ge 40, 3) := by decide +kernel
theorem dX12_askFor_67 : decode cX12_askFor 67 = .ok (.iload 5, 2) := by decide +kernel
theorem dX12_askFor_69 : decode cX12_askFor 69 = .ok (.aload_n 0, 1) := by decide +kernel
theorem dX12_askFor_70 : decode cX12_askFor 70 = .ok (.getfield 220, 3) := by decide +kernel
theorem dX12_askFor_73 : decode cX12_askFor 73 = .ok (.iload 6, 2) := by decide +kernel
theorem dX12_askFor_75 : decode cX12_askFor 75 = .ok (.iaload, 1) := by decide +kernel
theorem dX12_askFor_76 : decode cX12_askFor 76 = .ok (.ifCond .ne 18, 3) := by decide +kernel
theorem dX12_askFor_79 : decode cX12_askFor 79 = .ok (.aload_n 0, 1) := by decide +kernel
theorem dX12_askFor_80 : decode cX12_askFor 80 = .ok (.getfield 214, 3) := by decide +kernel
theorem dX12_askFor_83 : decode cX12_askFor 83 = .ok (.iload 6, 2) := by decide +kernel
theorem dX12_askFor_85 : decode cX12_askFor 85 = .ok (.iaload, 1) := by decide +kernel
theorem dX12_askFor_86 : decode cX12_askFor 86 = .ok (.iload_n 1, 1) := by decide +kernel
theorem dX12_askFor_87 : decode cX12_askFor 87 = .ok (.if_icmp .eq 7, 3) := by decide +kernel
theorem dX12_askFor_90 : decode cX12_askFor 90 = .ok (.iconst 1, 1) := by decide +kernel
theorem dX12_askFor_91 : decode cX12_askFor 91 = .ok (.goto 4, 3) := by decide +kernel
theorem dX12_askFor_94 : decode cX12_askFor 94 = .ok (.iconst 0, 1) := by decide +kernel
theorem dX12_askFor_95 : decode cX12_askFor 95 = .ok (.iadd, 1) := by decide +kernel
theorem dX12_askFor_96 : decode cX12_askFor 96 = .ok (.istore 5, 2) := by decide +kernel
theorem dX12_askFor_98 : decode cX12_askFor 98 = .ok (.iinc 6 1, 3) := by decide +kernel
theorem dX12_askFor_101 : decode cX12_askFor 101 = .ok (.goto (-43), 3) := by decide +kernel
theorem dX12_askFor_104 : decode cX12_askFor 104 = .ok (.aload_n 0, 1) := by decide +kernel
theorem dX12_askFor_105 : decode cX12_askFor 105 = .ok (.getfield 192, 3) := by decide +kernel
theorem dX12_askFor_108 : decode cX12_askFor 108 = .ok (.bipush 119, 2) := by decide +kernel
theorem dX12_askFor_110 : decode cX12_askFor 110 = .ok (.iload_n 2, 1) := by decide +kernel
theorem dX12_askFor_111 : decode cX12_askFor 111 = .ok (.iastore, 1) := by decide +kernel
theorem dX12_askFor_112 : decode cX12_askFor 112 = .ok (.aload_n 0, 1) := by decide +kernel
theorem dX12_askFor_113 : decode cX12_askFor 113 = .ok (.getfield 192, 3) := by decide +kernel
theorem dX12_askFor_116 : decode cX12_askFor 116 = .ok (.bipush 104, 2) := by decide +kernel
theorem dX12_askFor_118 : decode cX12_askFor 118 = .ok (.aload_n 0, 1) := by decide +kernel
theorem dX12_askFor_119 : decode cX12_askFor 119 = .ok (.getfield 395, 3) := by decide +kernel
theorem dX12_askFor_122 : decode cX12_askFor 122 = .ok (.bipush 60, 2) := by decide +kernel
theorem dX12_askFor_124 : decode cX12_askFor 124 = .ok (.idiv, 1) := by decide +kernel
theorem dX12_askFor_125 : decode cX12_askFor 125 = .ok (.bipush 24, 2) := by decide +kernel
theorem dX12_askFor_127 : decode cX12_askFor 127 = .ok (.irem, 1) := by decide +kernel
theorem dX12_askFor_128 : decode cX12_askFor 128 = .ok (.iastore, 1) := by decide +kernel
theorem dX12_askFor_129 : decode cX12_askFor 129 = .ok (.aload_n 0, 1) := by decide +kernel
theorem dX12_askFor_130 : decode cX12_askFor 130 = .ok (.getfield 192, 3) := by decide +kernel
theorem dX12_askFor_133 : decode cX12_askFor 133 = .ok (.bipush 102, 2) := by decide +kernel
theorem dX12_askFor_135 : decode cX12_askFor 135 = .ok (.iload_n 3, 1) := by decide +kernel
theorem dX12_askFor_136 : decode cX12_askFor 136 = .ok (.iastore, 1) := by decide +kernel
theorem dX12_askFor_137 : decode cX12_askFor 137 = .ok (.aload_n 0, 1) := by decide +kernel
theorem dX12_askFor_138 : decode cX12_askFor 138 = .ok (.getfield 192, 3) := by decide +kernel
theorem dX12_askFor_141 : decode cX12_askFor 141 = .ok (.bipush 107, 2) := by decide +kernel
theorem dX12_askFor_143 : decode cX12_askFor 143 = .ok (.iload 4, 2) := by decide +kernel
theorem dX12_askFor_145 : decode cX12_askFor 145 = .ok (.iastore, 1) := by decide +kernel
theorem dX12_askFor_146 : decode cX12_askFor 146 = .ok (.aload_n 0, 1) := by decide +kernel
theorem dX12_askFor_147 : decode cX12_askFor 147 = .ok (.getfield 192, 3) := by decide +kernel
theorem dX12_askFor_150 : decode cX12_askFor 150 = .ok (.bipush 97, 2) := by decide +kernel
theorem dX12_askFor_152 : decode cX12_askFor 152 = .ok (.aload_n 0, 1) := by decide +kernel
theorem dX12_askFor_153 : decode cX12_askFor 153 = .ok (.iload_n 1, 1) := by decide +kernel
theorem dX12_askFor_154 : decode cX12_askFor 154 = .ok (.aload_n 0, 1) := by decide +kernel
theorem dX12_askFor_155 : decode cX12_askFor 155 = .ok (.getfield 395, 3) := by decide +kernel
theorem dX12_askFor_158 : decode cX12_askFor 158 = .ok (.invokestatic 320, 3) := by decide +kernel
theorem dX12_askFor_161 : decode cX12_askFor 161 = .ok (.invokevirtual 534, 3) := by decide +kernel
theorem dX12_askFor_164 : decode cX12_askFor 164 = .ok (.iastore, 1) := by decide +kernel
theorem dX12_askFor_165 : decode cX12_askFor 165 = .ok (.aload_n 0, 1) := by decide +kernel
theorem dX12_askFor_166 : decode cX12_askFor 166 = .ok (.getfield 192, 3) := by decide +kernel
theorem dX12_askFor_169 : decode cX12_askFor 169 = .ok (.bipush 112, 2) := by decide +kernel
theorem dX12_askFor_171 : decode cX12_askFor 171 = .ok (.aload_n 0, 1) := by decide +kernel
theorem dX12_askFor_172 : decode cX12_askFor 172 = .ok (.iconst 0, 1) := by decide +kernel
theorem dX12_askFor_173 : decode cX12_askFor 173 = .ok (.invokevirtual 537, 3) := by decide +kernel
theorem dX12_askFor_176 : decode cX12_askFor 176 = .ok (.iastore, 1) := by decide +kernel
theorem dX12_askFor_177 : decode cX12_askFor 177 = .ok (.aload_n 0, 1) := by decide +kernel
theorem dX12_askFor_178 : decode cX12_askFor 178 = .ok (.getfield 192, 3) := by decide +kernel
theorem dX12_askFor_181 : decode cX12_askFor 181 = .ok (.bipush 115, 2) := by decide +kernel
theorem dX12_askFor_183 : decode cX12_askFor 183 = .ok (.aload_n 0, 1) := by decide +kernel
theorem dX12_askFor_184 : decode cX12_askFor 184 = .ok (.iconst 1, 1) := by decide +kernel
theorem dX12_askFor_185 : decode cX12_askFor 185 = .ok (.invokevirtual 537, 3) := by decide +kernel
theorem dX12_askFor_188 : decode cX12_askFor 188 = .ok (.iastore, 1) := by decide +kernel
theorem dX12_askFor_189 : decode cX12_askFor 189 = .ok (.aload_n 0, 1) := by decide +kernel
theorem dX12_askFor_190 : decode cX12_askFor 190 = .ok (.getfield 192, 3) := by decide +kernel
theorem dX12_askFor_193 : decode cX12_askFor 193 = .ok (.bipush 108, 2) := by decide +kernel
theorem dX12_askFor_195 : decode cX12_askFor 195 = .ok (.aload_n 0, 1) := by decide +kernel
theorem dX12_askFor_196 : decode cX12_askFor 196 = .ok (.iconst 2, 1) := by decide +kernel
theorem dX12_askFor_197 : decode cX12_askFor 197 = .ok (.invokevirtual 537, 3) := by decide +kernel
theorem dX12_askFor_200 : decode cX12_askFor 200 = .ok (.iastore, 1) := by decide +kernel
theorem dX12_askFor_201 : decode cX12_askFor 201 = .ok (.aload_n 0, 1) := by decide +kernel
theorem dX12_askFor_202 : decode cX12_askFor 202 = .ok (.getfield 192, 3) := by decide +kernel
theorem dX12_askFor_205 : decode cX12_askFor 205 = .ok (.bipush 99, 2) := by decide +kernel
theorem dX12_askFor_207 : decode cX12_askFor 207 = .ok (.aload_n 0, 1) := by decide +kernel
theorem dX12_askFor_208 : decode cX12_askFor 208 = .ok (.iconst 3, 1) := by decide +kernel
theorem dX12_askFor_209 : decode cX12_askFor 209 = .ok (.invokevirtual 537, 3) := by decide +kernel
theorem dX12_askFor_212 : decode cX12_askFor 212 = .ok (.iastore, 1) := by decide +kernel
theorem dX12_askFor_213 : decode cX12_askFor 213 = .ok (.aload_n 0, 1) := by decide +kernel
theorem dX12_askFor_214 : decode cX12_askFor 214 = .ok (.getfield 192, 3) := by decide +kernel
theorem dX12_askFor_217 : decode cX12_askFor 217 = .ok (.bipush 111, 2) := by decide +kernel
theorem dX12_askFor_219 : decode cX12_askFor 219 = .ok (.iload 5, 2) := by decide +kernel
theorem dX12_askFor_221 : decode cX12_askFor 221 = .ok (.iastore, 1) := by decide +kernel
theorem dX12_askFor_222 : decode cX12_askFor 222 = .ok (.aload_n 0, 1) := by decide +kernel
theorem dX12_askFor_223 : decode cX12_askFor 223 = .ok (.getfield 519, 3) := by decide +kernel
theorem dX12_askFor_226 : decode cX12_askFor 226 = .ok (.ifCond .le 36, 3) := by decide +kernel
theorem dX12_askFor_229 : decode cX12_askFor 229 = .ok (.aload_n 0, 1) := by decide +kernel
theorem dX12_askFor_230 : decode cX12_askFor 230 = .ok (.iconst 0, 1) := by decide +kernel
theorem dX12_askFor_231 : decode cX12_askFor 231 = .ok (.aload_n 0, 1) := by decide +kernel
theorem dX12_askFor_232 : decode cX12_askFor 232 = .ok (.getfield 171, 3) := by decide +kernel
theorem dX12_askFor_235 : decode cX12_askFor 235 = .ok (.sipush 200, 3) := by decide +kernel
theorem dX12_askFor_238 : decode cX12_askFor 238 = .ok (.aload_n 0, 1) := by decide +kernel
theorem dX12_askFor_239 : decode cX12_askFor 239 = .ok (.getfield 519, 3) := by decide +kernel
theorem dX12_askFor_242 : decode cX12_askFor 242 = .ok (.iconst 1, 1) := by decide +kernel
theorem dX12_askFor_243 : decode cX12_askFor 243 = .ok (.isub, 1) := by decide +kernel
theorem dX12_askFor_244 : decode cX12_askFor 244 = .ok (.imul, 1) := by decide +kernel
theorem dX12_askFor_245 : decode cX12_askFor 245 = .ok (.aload_n 0, 1) := by decide +kernel
theorem dX12_askFor_246 : decode cX12_askFor 246 = .ok (.getfield 180, 3) := by decide +kernel
theorem dX12_askFor_249 : decode cX12_askFor 249 = .ok (.aload_n 0, 1) := by decide +kernel
theorem dX12_askFor_250 : decode cX12_askFor 250 = .ok (.getfield 519, 3) := by decide +kernel
theorem dX12_askFor_253 : decode cX12_askFor 253 = .ok (.iconst 1, 1) := by decide +kernel
theorem dX12_askFor_254 : decode cX12_askFor 254 = .ok (.isub, 1) := by decide +kernel
theorem dX12_askFor_255 : decode cX12_askFor 255 = .ok (.iaload, 1) := by decide +kernel
theorem dX12_askFor_256 : decode cX12_askFor 256 = .ok (.invokevirtual 513, 3) := by decide +kernel
theorem dX12_askFor_259 : decode cX12_askFor 259 = .ok (.istore 6, 2) := by decide +kernel
theorem dX12_askFor_261 : decode cX12_askFor 261 = .ok (.return_, 1) := by decide +kernel
theorem dX12_askFor_262 : decode cX12_askFor 262 = .ok (.aload_n 0, 1) := by decide +kernel
theorem dX12_askFor_263 : decode cX12_askFor 263 = .ok (.iconst 0, 1) := by decide +kernel
theorem dX12_askFor_264 : decode cX12_askFor 264 = .ok (.putfield 494, 3) := by decide +kernel
theorem dX12_askFor_267 : decode cX12_askFor 267 = .ok (.iconst 0, 1) := by decide +kernel
theorem dX12_askFor_268 : decode cX12_askFor 268 = .ok (.istore 6, 2) := by decide +kernel
theorem dX12_askFor_270 : decode cX12_askFor 270 = .ok (.iload 6, 2) := by decide +kernel
theorem dX12_askFor_272 : decode cX12_askFor 272 = .ok (.iconst 5, 1) := by decide +kernel
theorem dX12_askFor_273 : decode cX12_askFor 273 = .ok (.if_icmp .ge 17, 3) := by decide +kernel
theorem dX12_askFor_276 : decode cX12_askFor 276 = .ok (.aload_n 0, 1) := by decide +kernel
theorem dX12_askFor_277 : decode cX12_askFor 277 = .ok (.getfield 195, 3) := by decide +kernel
theorem dX12_askFor_280 : decode cX12_askFor 280 = .ok (.iload 6, 2) := by decide +kernel
theorem dX12_askFor_282 : decode cX12_askFor 282 = .ok (.iconst 0, 1) := by decide +kernel
theorem dX12_askFor_283 : decode cX12_askFor 283 = .ok (.iastore, 1) := by decide +kernel
theorem dX12_askFor_284 : decode cX12_askFor 284 = .ok (.iinc 6 1, 3) := by decide +kernel
theorem dX12_askFor_287 : decode cX12_askFor 287 = .ok (.goto (-17), 3) := by decide +kernel
theorem dX12_askFor_290 : decode cX12_askFor 290 = .ok (.return_, 1) := by decide +kernel
theorem okX12_askFor : ab_okM MX12_askFor 2 := ⟨by decide, ⟨by decide, by decide⟩, ab_in 2506 (by decide +kernel) (by decide +kernel), ab_in 99 (by decide +kernel) (by decide +kernel), by decide +kernel, by decide⟩
set_option maxHeartbeats 4000000 in
set_option maxRecDepth 100000 in
theorem sX12_askFor_270 (v6 : Int32)  (x : ab_X) (K : ab_X → Prop)  (d bc bs : Nat) (hdp : 210 ≤ d)  (h : Lp2 (lX12_askFor_270  K ) v6 x) : EW MX12_askFor 270 [(0, .ref 246), (6, .int v6)] [] (aS x) d bc bs (liV K) := by
  refine Lp2.use (P := fun v6 x => EW MX12_askFor 270 [(0, .ref 246), (6, .int v6)] [] (aS x) d bc bs (liV K)) (fun L270 v6 x hL270 h => ?_) v6 x h
  unfold lX12_askFor_270 at h
  refine EW_iload (pc2 := 272) rfl dX12_askFor_270 1 rfl ?_
  refine EW_iconst (pc2 := 273) (v := 5) rfl dX12_askFor_272 (by decide) ?_
  refine EW_icmp_ge (tgt := 290) (pc2 := 276) rfl dX12_askFor_273 (by decide) (fun q => ?_) (fun q => ?_)
  · replace h := h.1 q
    exact EW_vret rfl dX12_askFor_290 ⟨_, rfl, rfl, h⟩
  · replace h := h.2 q
    refine EW_aload_n (pc2 := 277) rfl dX12_askFor_276 0 rfl ?_
    refine AW_getr (r := 308) ⟨gfRX12_195, rfl⟩ (pc2 := 280) rfl dX12_askFor_277 q246 rfl ?_
    refine EW_iload (pc2 := 282) rfl dX12_askFor_280 1 rfl ?_
    refine EW_iconst (pc2 := 283) (v := 0) rfl dX12_askFor_282 (by decide) ?_
    obtain ⟨b24, h⟩ := h
    refine AW_iast (pc2 := 284) rfl dX12_askFor_283 q308 b24 ?_
    refine EW_iinc (v6 + 1) (pc2 := 287) rfl dX12_askFor_284 1 rfl rfl (by decide) [1, 0] [(0, .ref 246), (6, .int (v6 + 1))] rfl ?_
    refine EW_goto (tgt := 270) dX12_askFor_287 (by decide) ?_
    exact hL270 (v6 + 1) (wr x 308 (Int32.toNatClampNeg v6) 0) h
set_option maxHeartbeats 4000000 in
set_option maxRecDepth 100000 in
theorem sX12_askFor_95 (v1 : Int32) (v2 : Int32) (v3 : Int32) (v4 : Int32) (v6 : Int32) (s0 : Int32) (s1 : Int32)  (x : ab_X) (K : ab_X → Prop) (L58 : Int32 → Int32 → Prop) (d bc bs : Nat) (hdp : 210 ≤ d) (hL58 : ∀ (v5 : Int32) (v6 : Int32), L58 v5 v6 → EW MX12_askFor 58 [(0, .ref 246), (1, .int v1), (2, .int v2), (3, .int v3), (4, .int v4), (5, .int v5), (6, .int v6)] [] (aS x) d bc bs (liV K)) (h : wX12_askFor_95 v1 v2 v3 v4 v6 s0 s1 x K L58) : EW MX12_askFor 95 [(0, .ref 246), (1, .int v1), (2, .int v2), (3, .int v3), (4, .int v4), (6, .int v6)] [.int s1, .int s0] (aS x) d bc bs (liV K) := by
  unfold wX12_askFor_95 at h
  refine EW_iadd (pc2 := 96) rfl dX12_askFor_95 ?_
  refine EW_istore (pc2 := 98) rfl dX12_askFor_96 (by decide) [1, 2, 3, 4, 5, 0, 6] [(0, .ref 246), (1, .int v1), (2, .int v2), (3, .int v3), (4, .int v4), (5, .int (s0 + s1)), (6, .int v6)] rfl ?_
  refine EW_iinc (v6 + 1) (pc2 := 101) rfl dX12_askFor_98 6 rfl rfl (by decide) [1, 2, 3, 4, 5, 6, 0] [(0, .ref 246), (1, .int v1), (2, .int v2), (3, .int v3), (4, .int v4), (5, .int (s0 + s1)), (6, .int (v6 + 1))] rfl ?_
  refine EW_goto (tgt := 58) dX12_askFor_101 (by decide) ?_
  exact hL58 (s0 + s1) (v6 + 1) h
set_option maxHeartbeats 4000000 in
set_option maxRecDepth 100000 in
theorem sX12_askFor_94 (v1 : Int32) (v2 : Int32) (v3 : Int32) (v4 : Int32) (v6 : Int32) (s0 : Int32)  (x : ab_X) (K : ab_X → Prop) (L58 : Int32 → Int32 → Prop) (d bc bs : Nat) (hdp : 210 ≤ d) (hL58 : ∀ (v5 : Int32) (v6 : Int32), L58 v5 v6 → EW MX12_askFor 58 [(0, .ref 246), (1, .int v1), (2, .int v2), (3, .int v3), (4, .int v4), (5, .int v5), (6, .int v6)] [] (aS x) d bc bs (liV K)) (h : wX12_askFor_94 v1 v2 v3 v4 v6 s0 x K L58) : EW MX12_askFor 94 [(0, .ref 246), (1, .int v1), (2, .int v2), (3, .int v3), (4, .int v4), (6, .int v6)] [.int s0] (aS x) d bc bs (liV K) := by
  unfold wX12_askFor_94 at h
  refine EW_iconst (pc2 := 95) (v := 0) rfl dX12_askFor_94 (by decide) ?_
  exact sX12_askFor_95 v1 v2 v3 v4 v6 s0 0 x K L58 d bc bs hdp hL58 h
set_option maxHeartbeats 4000000 in
set_option maxRecDepth 100000 in
theorem sX12_askFor_58 (v1 : Int32) (v2 : Int32) (v3 : Int32) (v4 : Int32) (v5 : Int32) (v6 : Int32)  (x : ab_X) (K : ab_X → Prop)  (d bc bs : Nat) (hdp : 210 ≤ d)  (h : Lp2 (lX12_askFor_58 v1 v2 v3 v4 x K ) v5 v6) : EW MX12_askFor 58 [(0, .ref 246), (1, .int v1), (2, .int v2), (3, .int v3), (4, .int v4), (5, .int v5), (6, .int v6)] [] (aS x) d bc bs (liV K) := by
  refine Lp2.use (P := fun v5 v6 => EW MX12_askFor 58 [(0, .ref 246), (1, .int v1), (2, .int v2), (3, .int v3), (4, .int v4), (5, .int v5), (6, .int v6)] [] (aS x) d bc bs (liV K)) (fun L58 v5 v6 hL58 h => ?_) v5 v6 h
  unfold lX12_askFor_58 at h
  refine EW_iload (pc2 := 60) rfl dX12_askFor_58 6 rfl ?_
  refine EW_aload_n (pc2 := 61) rfl dX12_askFor_60 0 rfl ?_
  refine AW_geti ⟨gfRX12_525, rfl⟩ (pc2 := 64) rfl dX12_askFor_61 q246 ?_
  refine EW_icmp_ge (tgt := 104) (pc2 := 67) rfl dX12_askFor_64 (by decide) (fun q => ?_) (fun q => ?_)
  · replace h := h.1 q
    refine EW_aload_n (pc2 := 105) rfl dX12_askFor_104 0 rfl ?_
    refine AW_getr (r := 307) ⟨gfRX12_192, rfl⟩ (pc2 := 108) rfl dX12_askFor_105 q246 rfl ?_
    refine EW_bipush (pc2 := 110) (v := 119) rfl dX12_askFor_108 (by decide) ?_
    refine EW_iload_n (pc2 := 111) rfl dX12_askFor_110 2 rfl ?_
    obtain ⟨b3, h⟩ := h
    refine AW_iast (pc2 := 112) rfl dX12_askFor_111 q307 b3 ?_
    refine EW_aload_n (pc2 := 113) rfl dX12_askFor_112 0 rfl ?_
    refine AW_getr (r := 307) ⟨gfRX12_192, rfl⟩ (pc2 := 116) rfl dX12_askFor_113 q246 rfl ?_
    refine EW_bipush (pc2 := 118) (v := 104) rfl dX12_askFor_116 (by decide) ?_
    refine EW_aload_n (pc2 := 119) rfl dX12_askFor_118 0 rfl ?_
    refine AW_geti ⟨gfRX12_395, rfl⟩ (pc2 := 122) rfl dX12_askFor_119 q246 ?_
    refine EW_bipush (pc2 := 124) (v := 60) rfl dX12_askFor_122 (by decide) ?_
    refine EW_idiv (pc2 := 125) rfl dX12_askFor_124 (by decide) ?_
    refine EW_bipush (pc2 := 127) (v := 24) rfl dX12_askFor_125 (by decide) ?_
    refine EW_irem (pc2 := 128) rfl dX12_askFor_127 (by decide) ?_
    obtain ⟨b4, h⟩ := h
    refine AW_iast (pc2 := 129) rfl dX12_askFor_128 q307 b4 ?_
    refine EW_aload_n (pc2 := 130) rfl dX12_askFor_129 0 rfl ?_
    refine AW_getr (r := 307) ⟨gfRX12_192, rfl⟩ (pc2 := 133) rfl dX12_askFor_130 q246 rfl ?_
    refine EW_bipush (pc2 := 135) (v := 102) rfl dX12_askFor_133 (by decide) ?_
    refine EW_iload_n (pc2 := 136) rfl dX12_askFor_135 3 rfl ?_
    obtain ⟨b5, h⟩ := h
    refine AW_iast (pc2 := 137) rfl dX12_askFor_136 q307 b5 ?_
    refine EW_aload_n (pc2 := 138) rfl dX12_askFor_137 0 rfl ?_
    refine AW_getr (r := 307) ⟨gfRX12_192, rfl⟩ (pc2 := 141) rfl dX12_askFor_138 q246 rfl ?_
    refine EW_bipush (pc2 := 143) (v := 107) rfl dX12_askFor_141 (by decide) ?_
    refine EW_iload (pc2 := 145) rfl dX12_askFor_143 4 rfl ?_
    obtain ⟨b6, h⟩ := h
    refine AW_iast (pc2 := 146) rfl dX12_askFor_145 q307 b6 ?_
    refine EW_aload_n (pc2 := 147) rfl dX12_askFor_146 0 rfl ?_
    refine AW_getr (r := 307) ⟨gfRX12_192, rfl⟩ (pc2 := 150) rfl dX12_askFor_147 q246 rfl ?_
    refine EW_bipush (pc2 := 152) (v := 97) rfl dX12_askFor_150 (by decide) ?_
    refine EW_aload_n (pc2 := 153) rfl dX12_askFor_152 0 rfl ?_
    refine EW_iload_n (pc2 := 154) rfl dX12_askFor_153 1 rfl ?_
    refine EW_aload_n (pc2 := 155) rfl dX12_askFor_154 0 rfl ?_
    refine AW_geti ⟨gfRX12_395, rfl⟩ (pc2 := 158) rfl dX12_askFor_155 q246 ?_
    refine AW_invS (M' := MX12_partOf) [.int ((wr (wr (wr (wr x 307 (Int32.toNatClampNeg 119) v2) 307 (Int32.toNatClampNeg 104) ((((wr x 307 (Int32.toNatClampNeg 119) v2).1 246 1) / 60) - (((wr x 307 (Int32.toNatClampNeg 119) v2).1 246 1) / 60) / 24 * 24)) 307 (Int32.toNatClampNeg 102) v3) 307 (Int32.toNatClampNeg 107) v4).1 246 1)] (rest := [.int v1, .ref 246, .int 97, .ref 307]) mlRX12_320 okX12_partOf (pc2 := 161) rfl dX12_askFor_158 rfl rfl (Nat.le_of_ble_eq_true rfl) (Nat.le_of_ble_eq_true rfl) (d' := 0) (by omega) (EW_mono (fun _ _ hr => ?_) (sX12_partOf ((wr (wr (wr (wr x 307 (Int32.toNatClampNeg 119) v2) 307 (Int32.toNatClampNeg 104) ((((wr x 307 (Int32.toNatClampNeg 119) v2).1 246 1) / 60) - (((wr x 307 (Int32.toNatClampNeg 119) v2).1 246 1) / 60) / 24 * 24)) 307 (Int32.toNatClampNeg 102) v3) 307 (Int32.toNatClampNeg 107) v4).1 246 1)  (wr (wr (wr (wr x 307 (Int32.toNatClampNeg 119) v2) 307 (Int32.toNatClampNeg 104) ((((wr x 307 (Int32.toNatClampNeg 119) v2).1 246 1) / 60) - (((wr x 307 (Int32.toNatClampNeg 119) v2).1 246 1) / 60) / 24 * 24)) 307 (Int32.toNatClampNeg 102) v3) 307 (Int32.toNatClampNeg 107) v4) _ _ 0 0 (Nat.le_refl _) h))
    obtain ⟨r7, rfl, rfl, h⟩ := hr
    refine AW_invV (M' := MX12_falseOf) [.int v1, .int r7] (rest := [.int 97, .ref 307]) mlRX12_534 okX12_falseOf (pc2 := 164) rfl dX12_askFor_161 rfl rfl (Nat.le_of_ble_eq_true rfl) (Nat.le_of_ble_eq_true rfl) (d' := 1) (by omega) q246 ⟨by decide, rfl⟩ (EW_mono (fun _ _ hr => ?_) (sX12_falseOf v1 r7  (wr (wr (wr (wr x 307 (Int32.toNatClampNeg 119) v2) 307 (Int32.toNatClampNeg 104) ((((wr x 307 (Int32.toNatClampNeg 119) v2).1 246 1) / 60) - (((wr x 307 (Int32.toNatClampNeg 119) v2).1 246 1) / 60) / 24 * 24)) 307 (Int32.toNatClampNeg 102) v3) 307 (Int32.toNatClampNeg 107) v4) _ _ 0 0 (Nat.le_refl _) h))
    obtain ⟨r8, rfl, rfl, h⟩ := hr
    obtain ⟨b9, h⟩ := h
    refine AW_iast (pc2 := 165) rfl dX12_askFor_164 q307 b9 ?_
    refine EW_aload_n (pc2 := 166) rfl dX12_askFor_165 0 rfl ?_
    refine AW_getr (r := 307) ⟨gfRX12_192, rfl⟩ (pc2 := 169) rfl dX12_askFor_166 q246 rfl ?_
    refine EW_bipush (pc2 := 171) (v := 112) rfl dX12_askFor_169 (by decide) ?_
    refine EW_aload_n (pc2 := 172) rfl dX12_askFor_171 0 rfl ?_
    refine EW_iconst (pc2 := 173) (v := 0) rfl dX12_askFor_172 (by decide) ?_
    refine AW_invV (M' := MX12_readyOf) [.int 0] (rest := [.int 112, .ref 307]) mlRX12_537 okX12_readyOf (pc2 := 176) rfl dX12_askFor_173 rfl rfl (Nat.le_of_ble_eq_true rfl) (Nat.le_of_ble_eq_true rfl) (d' := 0) (by omega) q246 ⟨by decide, rfl⟩ (EW_mono (fun _ _ hr => ?_) (sX12_readyOf 0  (wr (wr (wr (wr (wr x 307 (Int32.toNatClampNeg 119) v2) 307 (Int32.toNatClampNeg 104) ((((wr x 307 (Int32.toNatClampNeg 119) v2).1 246 1) / 60) - (((wr x 307 (Int32.toNatClampNeg 119) v2).1 246 1) / 60) / 24 * 24)) 307 (Int32.toNatClampNeg 102) v3) 307 (Int32.toNatClampNeg 107) v4) 307 (Int32.toNatClampNeg 97) r8) _ _ 0 0 (Nat.le_refl _) h))
    obtain ⟨r10, rfl, rfl, h⟩ := hr
    obtain ⟨b11, h⟩ := h
    refine AW_iast (pc2 := 177) rfl dX12_askFor_176 q307 b11 ?_
    refine EW_aload_n (pc2 := 178) rfl dX12_askFor_177 0 rfl ?_
    refine AW_getr (r := 307) ⟨gfRX12_192, rfl⟩ (pc2 := 181) rfl dX12_askFor_178 q246 rfl ?_
    refine EW_bipush (pc2 := 183) (v := 115) rfl dX12_askFor_181 (by decide) ?_
    refine EW_aload_n (pc2 := 184) rfl dX12_askFor_183 0 rfl ?_
    refine EW_iconst (pc2 := 185) (v := 1) rfl dX12_askFor_184 (by decide) ?_
    refine AW_invV (M' := MX12_readyOf) [.int 1] (rest := [.int 115, .ref 307]) mlRX12_537 okX12_readyOf (pc2 := 188) rfl dX12_askFor_185 rfl rfl (Nat.le_of_ble_eq_true rfl) (Nat.le_of_ble_eq_true rfl) (d' := 0) (by omega) q246 ⟨by decide, rfl⟩ (EW_mono (fun _ _ hr => ?_) (sX12_readyOf 1  (wr (wr (wr (wr (wr (wr x 307 (Int32.toNatClampNeg 119) v2) 307 (Int32.toNatClampNeg 104) ((((wr x 307 (Int32.toNatClampNeg 119) v2).1 246 1) / 60) - (((wr x 307 (Int32.toNatClampNeg 119) v2).1 246 1) / 60) / 24 * 24)) 307 (Int32.toNatClampNeg 102) v3) 307 (Int32.toNatClampNeg 107) v4) 307 (Int32.toNatClampNeg 97) r8) 307 (Int32.toNatClampNeg 112) r10) _ _ 0 0 (Nat.le_refl _) h))
    obtain ⟨r12, rfl, rfl, h⟩ := hr
    obtain ⟨b13, h⟩ := h
    refine AW_iast (pc2 := 189) rfl dX12_askFor_188 q307 b13 ?_
    refine EW_aload_n (pc2 := 190) rfl dX12_askFor_189 0 rfl ?_
    refine AW_getr (r := 307) ⟨gfRX12_192, rfl⟩ (pc2 := 193) rfl dX12_askFor_190 q246 rfl ?_
    refine EW_bipush (pc2 := 195) (v := 108) rfl dX12_askFor_193 (by decide) ?_
    refine EW_aload_n (pc2 := 196) rfl dX12_askFor_195 0 rfl ?_
    refine EW_iconst (pc2 := 197) (v := 2) rfl dX12_askFor_196 (by decide) ?_
    refine AW_invV (M' := MX12_readyOf) [.int 2] (rest := [.int 108, .ref 307]) mlRX12_537 okX12_readyOf (pc2 := 200) rfl dX12_askFor_197 rfl rfl (Nat.le_of_ble_eq_true rfl) (Nat.le_of_ble_eq_true rfl) (d' := 0) (by omega) q246 ⟨by decide, rfl⟩ (EW_mono (fun _ _ hr => ?_) (sX12_readyOf 2  (wr (wr (wr (wr (wr (wr (wr x 307 (Int32.toNatClampNeg 119) v2) 307 (Int32.toNatClampNeg 104) ((((wr x 307 (Int32.toNatClampNeg 119) v2).1 246 1) / 60) - (((wr x 307 (Int32.toNatClampNeg 119) v2).1 246 1) / 60) / 24 * 24)) 307 (Int32.toNatClampNeg 102) v3) 307 (Int32.toNatClampNeg 107) v4) 307 (Int32.toNatClampNeg 97) r8) 307 (Int32.toNatClampNeg 112) r10) 307 (Int32.toNatClampNeg 115) r12) _ _ 0 0 (Nat.le_refl _) h))
    obtain ⟨r14, rfl, rfl, h⟩ := hr
    obtain ⟨b15, h⟩ := h
    refine AW_iast (pc2 := 201) rfl dX12_askFor_200 q307 b15 ?_
    refine EW_aload_n (pc2 := 202) rfl dX12_askFor_201 0 rfl ?_
    refine AW_getr (r := 307) ⟨gfRX12_192, rfl⟩ (pc2 := 205) rfl dX12_askFor_202 q246 rfl ?_
    refine EW_bipush (pc2 := 207) (v := 99) rfl dX12_askFor_205 (by decide) ?_
    refine EW_aload_n (pc2 := 208) rfl dX12_askFor_207 0 rfl ?_
    refine EW_iconst (pc2 := 209) (v := 3) rfl dX12_askFor_208 (by decide) ?_
    refine AW_invV (M' := MX12_readyOf) [.int 3] (rest := [.int 99, .ref 307]) mlRX12_537 okX12_readyOf (pc2 := 212) rfl dX12_askFor_209 rfl rfl (Nat.le_of_ble_eq_true rfl) (Nat.le_of_ble_eq_true rfl) (d' := 0) (by omega) q246 ⟨by decide, rfl⟩ (EW_mono (fun _ _ hr => ?_) (sX12_readyOf 3  (wr (wr (wr (wr (wr (wr (wr (wr x 307 (Int32.toNatClampNeg 119) v2) 307 (Int32.toNatClampNeg 104) ((((wr x 307 (Int32.toNatClampNeg 119) v2).1 246 1) / 60) - (((wr x 307 (Int32.toNatClampNeg 119) v2).1 246 1) / 60) / 24 * 24)) 307 (Int32.toNatClampNeg 102) v3) 307 (Int32.toNatClampNeg 107) v4) 307 (Int32.toNatClampNeg 97) r8) 307 (Int32.toNatClampNeg 112) r10) 307 (Int32.toNatClampNeg 115) r12) 307 (Int32.toNatClampNeg 108) r14) _ _ 0 0 (Nat.le_refl _) h))
    obtain ⟨r16, rfl, rfl, h⟩ := hr
    obtain ⟨b17, h⟩ := h
    refine AW_iast (pc2 := 213) rfl dX12_askFor_212 q307 b17 ?_
    refine EW_aload_n (pc2 := 214) rfl dX12_askFor_213 0 rfl ?_
    refine AW_getr (r := 307) ⟨gfRX12_192, rfl⟩ (pc2 := 217) rfl dX12_askFor_214 q246 rfl ?_
    refine EW_bipush (pc2 := 219) (v := 111) rfl dX12_askFor_217 (by decide) ?_
    refine EW_iload (pc2 := 221) rfl dX12_askFor_219 5 rfl ?_
    obtain ⟨b18, h⟩ := h
    refine AW_iast (pc2 := 222) rfl dX12_askFor_221 q307 b18 ?_
    refine EW_aload_n (pc2 := 223) rfl dX12_askFor_222 0 rfl ?_
    refine AW_geti ⟨gfRX12_519, rfl⟩ (pc2 := 226) rfl dX12_askFor_223 q246 ?_
    refine EW_if_le (tgt := 262) (pc2 := 229) rfl dX12_askFor_226 (by decide) (fun q => ?_) (fun q => ?_)
    · replace h := h.1 q
      refine EW_aload_n (pc2 := 263) rfl dX12_askFor_262 0 rfl ?_
      refine EW_iconst (pc2 := 264) (v := 0) rfl dX12_askFor_263 (by decide) ?_
      refine AW_puti ⟨gfRX12_494, rfl, rfl⟩ (pc2 := 267) rfl dX12_askFor_264 q246 ?_
      refine EW_iconst (pc2 := 268) (v := 0) rfl dX12_askFor_267 (by decide) ?_
      refine EW_istore (pc2 := 270) rfl dX12_askFor_268 (by decide) [1, 2, 3, 4, 5, 6, 0] [(0, .ref 246), (1, .int v1), (2, .int v2), (3, .int v3), (4, .int v4), (5, .int v5), (6, .int 0)] rfl ?_
      refine EW_ls [0, 6] rfl ?_
      exact sX12_askFor_270 0 (wr (wr (wr (wr (wr (wr (wr (wr (wr (wr (wr x 307 (Int32.toNatClampNeg 119) v2) 307 (Int32.toNatClampNeg 104) ((((wr x 307 (Int32.toNatClampNeg 119) v2).1 246 1) / 60) - (((wr x 307 (Int32.toNatClampNeg 119) v2).1 246 1) / 60) / 24 * 24)) 307 (Int32.toNatClampNeg 102) v3) 307 (Int32.toNatClampNeg 107) v4) 307 (Int32.toNatClampNeg 97) r8) 307 (Int32.toNatClampNeg 112) r10) 307 (Int32.toNatClampNeg 115) r12) 307 (Int32.toNatClampNeg 108) r14) 307 (Int32.toNatClampNeg 99) r16) 307 (Int32.toNatClampNeg 111) v5) 246 75 0) K d bc bs hdp h
    · replace h := h.2 q
      refine EW_aload_n (pc2 := 230) rfl dX12_askFor_229 0 rfl ?_
      refine EW_iconst (pc2 := 231) (v := 0) rfl dX12_askFor_230 (by decide) ?_
      refine EW_aload_n (pc2 := 232) rfl dX12_askFor_231 0 rfl ?_
      refine AW_getr (r := 300) ⟨gfRX12_171, rfl⟩ (pc2 := 235) rfl dX12_askFor_232 q246 rfl ?_
      refine EW_sipush (pc2 := 238) (v := 200) rfl dX12_askFor_235 (by decide) ?_
      refine EW_aload_n (pc2 := 239) rfl dX12_askFor_238 0 rfl ?_
      refine AW_geti ⟨gfRX12_519, rfl⟩ (pc2 := 242) rfl dX12_askFor_239 q246 ?_
      refine EW_iconst (pc2 := 243) (v := 1) rfl dX12_askFor_242 (by decide) ?_
      refine EW_isub (pc2 := 244) rfl dX12_askFor_243 ?_
      refine EW_imul (pc2 := 245) rfl dX12_askFor_244 ?_
      refine EW_aload_n (pc2 := 246) rfl dX12_askFor_245 0 rfl ?_
      refine AW_getr (r := 303) ⟨gfRX12_180, rfl⟩ (pc2 := 249) rfl dX12_askFor_246 q246 rfl ?_
      refine EW_aload_n (pc2 := 250) rfl dX12_askFor_249 0 rfl ?_
      refine AW_geti ⟨gfRX12_519, rfl⟩ (pc2 := 253) rfl dX12_askFor_250 q246 ?_
      refine EW_iconst (pc2 := 254) (v := 1) rfl dX12_askFor_253 (by decide) ?_
      refine EW_isub (pc2 := 255) rfl dX12_askFor_254 ?_
      obtain ⟨b19, h⟩ := h
      refine AW_iald (pc2 := 256) rfl dX12_askFor_255 q303 b19 ?_
      refine AW_invV (M' := MX12_goThrough) [.int 0, .ref 300, .int (200 * (((wr (wr (wr (wr (wr (wr (wr (wr (wr (wr x 307 (Int32.toNatClampNeg 119) v2) 307 (Int32.toNatClampNeg 104) ((((wr x 307 (Int32.toNatClampNeg 119) v2).1 246 1) / 60) - (((wr x 307 (Int32.toNatClampNeg 119) v2).1 246 1) / 60) / 24 * 24)) 307 (Int32.toNatClampNeg 102) v3) 307 (Int32.toNatClampNeg 107) v4) 307 (Int32.toNatClampNeg 97) r8) 307 (Int32.toNatClampNeg 112) r10) 307 (Int32.toNatClampNeg 115) r12) 307 (Int32.toNatClampNeg 108) r14) 307 (Int32.toNatClampNeg 99) r16) 307 (Int32.toNatClampNeg 111) v5).1 246 71) - 1)), .int ((wr (wr (wr (wr (wr (wr (wr (wr (wr (wr x 307 (Int32.toNatClampNeg 119) v2) 307 (Int32.toNatClampNeg 104) ((((wr x 307 (Int32.toNatClampNeg 119) v2).1 246 1) / 60) - (((wr x 307 (Int32.toNatClampNeg 119) v2).1 246 1) / 60) / 24 * 24)) 307 (Int32.toNatClampNeg 102) v3) 307 (Int32.toNatClampNeg 107) v4) 307 (Int32.toNatClampNeg 97) r8) 307 (Int32.toNatClampNeg 112) r10) 307 (Int32.toNatClampNeg 115) r12) 307 (Int32.toNatClampNeg 108) r14) 307 (Int32.toNatClampNeg 99) r16) 307 (Int32.toNatClampNeg 111) v5).1 303 (Int32.toNatClampNeg (((wr (wr (wr (wr (wr (wr (wr (wr (wr (wr x 307 (Int32.toNatClampNeg 119) v2) 307 (Int32.toNatClampNeg 104) ((((wr x 307 (Int32.toNatClampNeg 119) v2).1 246 1) / 60) - (((wr x 307 (Int32.toNatClampNeg 119) v2).1 246 1) / 60) / 24 * 24)) 307 (Int32.toNatClampNeg 102) v3) 307 (Int32.toNatClampNeg 107) v4) 307 (Int32.toNatClampNeg 97) r8) 307 (Int32.toNatClampNeg 112) r10) 307 (Int32.toNatClampNeg 115) r12) 307 (Int32.toNatClampNeg 108) r14) 307 (Int32.toNatClampNeg 99) r16) 307 (Int32.toNatClampNeg 111) v5).1 246 71) - 1)))] (rest := []) mlRX12_513 okX12_goThrough (pc2 := 259) rfl dX12_askFor_256 rfl rfl (Nat.le_of_ble_eq_true rfl) (Nat.le_of_ble_eq_true rfl) (d' := 209) (by omega) q246 ⟨by decide, rfl⟩ (EW_mono (fun _ _ hr => ?_) (sX12_goThrough 0 300 (200 * (((wr (wr (wr (wr (wr (wr (wr (wr (wr (wr x 307 (Int32.toNatClampNeg 119) v2) 307 (Int32.toNatClampNeg 104) ((((wr x 307 (Int32.toNatClampNeg 119) v2).1 246 1) / 60) - (((wr x 307 (Int32.toNatClampNeg 119) v2).1 246 1) / 60) / 24 * 24)) 307 (Int32.toNatClampNeg 102) v3) 307 (Int32.toNatClampNeg 107) v4) 307 (Int32.toNatClampNeg 97) r8) 307 (Int32.toNatClampNeg 112) r10) 307 (Int32.toNatClampNeg 115) r12) 307 (Int32.toNatClampNeg 108) r14) 307 (Int32.toNatClampNeg 99) r16) 307 (Int32.toNatClampNeg 111) v5).1 246 71) - 1)) ((wr (wr (wr (wr (wr (wr (wr (wr (wr (wr x 307 (Int32.toNatClampNeg 119) v2) 307 (Int32.toNatClampNeg 104) ((((wr x 307 (Int32.toNatClampNeg 119) v2).1 246 1) / 60) - (((wr x 307 (Int32.toNatClampNeg 119) v2).1 246 1) / 60) / 24 * 24)) 307 (Int32.toNatClampNeg 102) v3) 307 (Int32.toNatClampNeg 107) v4) 307 (Int32.toNatClampNeg 97) r8) 307 (Int32.toNatClampNeg 112) r10) 307 (Int32.toNatClampNeg 115) r12) 307 (Int32.toNatClampNeg 108) r14) 307 (Int32.toNatClampNeg 99) r16) 307 (Int32.toNatClampNeg 111) v5).1 303 (Int32.toNatClampNeg (((wr (wr (wr (wr (wr (wr (wr (wr (wr (wr x 307 (Int32.toNatClampNeg 119) v2) 307 (Int32.toNatClampNeg 104) ((((wr x 307 (Int32.toNatClampNeg 119) v2).1 246 1) / 60) - (((wr x 307 (Int32.toNatClampNeg 119) v2).1 246 1) / 60) / 24 * 24)) 307 (Int32.toNatClampNeg 102) v3) 307 (Int32.toNatClampNeg 107) v4) 307 (Int32.toNatClampNeg 97) r8) 307 (Int32.toNatClampNeg 112) r10) 307 (Int32.toNatClampNeg 115) r12) 307 (Int32.toNatClampNeg 108) r14) 307 (Int32.toNatClampNeg 99) r16) 307 (Int32.toNatClampNeg 111) v5).1 246 71) - 1)))  (wr (wr (wr (wr (wr (wr (wr (wr (wr (wr x 307 (Int32.toNatClampNeg 119) v2) 307 (Int32.toNatClampNeg 104) ((((wr x 307 (Int32.toNatClampNeg 119) v2).1 246 1) / 60) - (((wr x 307 (Int32.toNatClampNeg 119) v2).1 246 1) / 60) / 24 * 24)) 307 (Int32.toNatClampNeg 102) v3) 307 (Int32.toNatClampNeg 107) v4) 307 (Int32.toNatClampNeg 97) r8) 307 (Int32.toNatClampNeg 112) r10) 307 (Int32.toNatClampNeg 115) r12) 307 (Int32.toNatClampNeg 108) r14) 307 (Int32.toNatClampNeg 99) r16) 307 (Int32.toNatClampNeg 111) v5) _ _ 0 0 (Nat.le_refl _) h))
      obtain ⟨r20, x21, rfl, rfl, h⟩ := hr
      refine EW_istore (pc2 := 261) rfl dX12_askFor_259 (by decide) [1, 2, 3, 4, 5, 6, 0] [(0, .ref 246), (1, .int v1), (2, .int v2), (3, .int v3), (4, .int v4), (5, .int v5), (6, .int r20)] rfl ?_
      exact EW_vret rfl dX12_askFor_261 ⟨_, rfl, rfl, h⟩
  · replace h := h.2 q
    refine EW_iload (pc2 := 69) rfl dX12_askFor_67 5 rfl ?_
    refine EW_aload_n (pc2 := 70) rfl dX12_askFor_69 0 rfl ?_
    refine AW_getr (r := 312) ⟨gfRX12_220, rfl⟩ (pc2 := 73) rfl dX12_askFor_70 q246 rfl ?_
    refine EW_iload (pc2 := 75) rfl dX12_askFor_73 6 rfl ?_
    obtain ⟨b22, h⟩ := h
    refine AW_iald (pc2 := 76) rfl dX12_askFor_75 q312 b22 ?_
    refine EW_if_ne (tgt := 94) (pc2 := 79) rfl dX12_askFor_76 (by decide) (fun q => ?_) (fun q => ?_)
    · replace h := h.1 q
      refine EW_ls [0, 1, 2, 3, 4, 6] rfl ?_
      exact sX12_askFor_94 v1 v2 v3 v4 v6 v5 x K L58 d bc bs hdp hL58 h
    · replace h := h.2 q
      refine EW_aload_n (pc2 := 80) rfl dX12_askFor_79 0 rfl ?_
      refine AW_getr (r := 310) ⟨gfRX12_214, rfl⟩ (pc2 := 83) rfl dX12_askFor_80 q246 rfl ?_
      refine EW_iload (pc2 := 85) rfl dX12_askFor_83 6 rfl ?_
      obtain ⟨b23, h⟩ := h
      refine AW_iald (pc2 := 86) rfl dX12_askFor_85 q310 b23 ?_
      refine EW_iload_n (pc2 := 87) rfl dX12_askFor_86 1 rfl ?_
      refine EW_icmp_eq (tgt := 94) (pc2 := 90) rfl dX12_askFor_87 (by decide) (fun q => ?_) (fun q => ?_)
      · replace h := h.1 q
        refine EW_ls [0, 1, 2, 3, 4, 6] rfl ?_
        exact sX12_askFor_94 v1 v2 v3 v4 v6 v5 x K L58 d bc bs hdp hL58 h
      · replace h := h.2 q
        refine EW_iconst (pc2 := 91) (v := 1) rfl dX12_askFor_90 (by decide) ?_
        refine EW_goto (tgt := 95) dX12_askFor_91 (by decide) ?_
        refine EW_ls [0, 1, 2, 3, 4, 6] rfl ?_
        exact sX12_askFor_95 v1 v2 v3 v4 v6 v5 1 x K L58 d bc bs hdp hL58 h
set_option maxHeartbeats 4000000 in
set_option maxRecDepth 100000 in
theorem sX12_askFor_11 (v1 : Int32) (v2 : Int32) (v3 : Int32) (v4 : Int32) (v5 : Int32) (v6 : Int32)  (x : ab_X) (K : ab_X → Prop)  (d bc bs : Nat) (hdp : 210 ≤ d)  (h : Lp3 (lX12_askFor_11 v1 v2 v5 x K ) v3 v4 v6) : EW MX12_askFor 11 [(0, .ref 246), (1, .int v1), (2, .int v2), (3, .int v3), (4, .int v4), (5, .int v5), (6, .int v6)] [] (aS x) d bc bs (liV K) := by
  refine Lp3.use (P := fun v3 v4 v6 => EW MX12_askFor 11 [(0, .ref 246), (1, .int v1), (2, .int v2), (3, .int v3), (4, .int v4), (5, .int v5), (6, .int v6)] [] (aS x) d bc bs (liV K)) (fun L11 v3 v4 v6 hL11 h => ?_) v3 v4 v6 h
  unfold lX12_askFor_11 at h
  refine EW_iload (pc2 := 13) rfl dX12_askFor_11 6 rfl ?_
  refine EW_aload_n (pc2 := 14) rfl dX12_askFor_13 0 rfl ?_
  refine AW_geti ⟨gfRX12_331, rfl⟩ (pc2 := 17) rfl dX12_askFor_14 q246 ?_
  refine EW_icmp_ge (tgt := 55) (pc2 := 20) rfl dX12_askFor_17 (by decide) (fun q => ?_) (fun q => ?_)
  · replace h := h.1 q
    refine EW_iconst (pc2 := 56) (v := 0) rfl dX12_askFor_55 (by decide) ?_
    refine EW_istore (pc2 := 58) rfl dX12_askFor_56 (by decide) [1, 2, 3, 4, 5, 6, 0] [(0, .ref 246), (1, .int v1), (2, .int v2), (3, .int v3), (4, .int v4), (5, .int v5), (6, .int 0)] rfl ?_
    exact sX12_askFor_58 v1 v2 v3 v4 v5 0 x K d bc bs hdp h
  · replace h := h.2 q
    refine EW_aload_n (pc2 := 21) rfl dX12_askFor_20 0 rfl ?_
    refine AW_getr (r := 254) ⟨gfRX12_32, rfl⟩ (pc2 := 24) rfl dX12_askFor_21 q246 rfl ?_
    refine EW_iload (pc2 := 26) rfl dX12_askFor_24 6 rfl ?_
    obtain ⟨b1, h⟩ := h
    refine AW_iald (pc2 := 27) rfl dX12_askFor_26 q254 b1 ?_
    refine EW_iload_n (pc2 := 28) rfl dX12_askFor_27 1 rfl ?_
    refine EW_icmp_eq (tgt := 34) (pc2 := 31) rfl dX12_askFor_28 (by decide) (fun q => ?_) (fun q => ?_)
    · replace h := h.1 q
      refine EW_iload_n (pc2 := 35) rfl dX12_askFor_34 3 rfl ?_
      refine EW_aload_n (pc2 := 36) rfl dX12_askFor_35 0 rfl ?_
      refine AW_getr (r := 256) ⟨gfRX12_38, rfl⟩ (pc2 := 39) rfl dX12_askFor_36 q246 rfl ?_
      refine EW_iload (pc2 := 41) rfl dX12_askFor_39 6 rfl ?_
      obtain ⟨b2, h⟩ := h
      refine AW_iald (pc2 := 42) rfl dX12_askFor_41 q256 b2 ?_
      refine AW_mmax mmRX12_357 (pc2 := 45) rfl dX12_askFor_42 (Nat.le_of_ble_eq_true rfl) (by omega) ?_
      refine EW_istore_n (pc2 := 46) rfl dX12_askFor_45 (by decide) [1, 2, 3, 0, 4, 5, 6] [(0, .ref 246), (1, .int v1), (2, .int v2), (3, .int (imax v3 (x.1 256 (Int32.toNatClampNeg v6)))), (4, .int v4), (5, .int v5), (6, .int v6)] rfl ?_
      refine EW_iinc (v4 + 1) (pc2 := 49) rfl dX12_askFor_46 4 rfl rfl (by decide) [1, 2, 3, 4, 0, 5, 6] [(0, .ref 246), (1, .int v1), (2, .int v2), (3, .int (imax v3 (x.1 256 (Int32.toNatClampNeg v6)))), (4, .int (v4 + 1)), (5, .int v5), (6, .int v6)] rfl ?_
      refine EW_iinc (v6 + 1) (pc2 := 52) rfl dX12_askFor_49 6 rfl rfl (by decide) [1, 2, 3, 4, 5, 6, 0] [(0, .ref 246), (1, .int v1), (2, .int v2), (3, .int (imax v3 (x.1 256 (Int32.toNatClampNeg v6)))), (4, .int (v4 + 1)), (5, .int v5), (6, .int (v6 + 1))] rfl ?_
      refine EW_goto (tgt := 11) dX12_askFor_52 (by decide) ?_
      exact hL11 (imax v3 (x.1 256 (Int32.toNatClampNeg v6))) (v4 + 1) (v6 + 1) h
    · replace h := h.2 q
      refine EW_goto (tgt := 49) dX12_askFor_31 (by decide) ?_
      refine EW_iinc (v6 + 1) (pc2 := 52) rfl dX12_askFor_49 6 rfl rfl (by decide) [1, 2, 3, 4, 5, 6, 0] [(0, .ref 246), (1, .int v1), (2, .int v2), (3, .int v3), (4, .int v4), (5, .int v5), (6, .int (v6 + 1))] rfl ?_
      refine EW_goto (tgt := 11) dX12_askFor_52 (by decide) ?_
      exact hL11 v3 v4 (v6 + 1) h
set_option maxHeartbeats 4000000 in
set_option maxRecDepth 100000 in
theorem sX12_askFor (v1 : Int32) (v2 : Int32)  (x : ab_X) (K : ab_X → Prop) (d bc bs : Nat) (hdp : 210 ≤ d) (h : wX12_askFor v1 v2 x K) : EW MX12_askFor 0 [(0, .ref 246), (1, .int v1), (2, .int v2)] [] (aS x) d bc bs (liV K) := by
  unfold wX12_askFor at h
  refine EW_iconst (pc2 := 1) (v := 0) rfl dX12_askFor_0 (by decide) ?_
  refine EW_istore_n (pc2 := 2) rfl dX12_askFor_1 (by decide) [1, 2, 3, 0] [(0, .ref 246), (1, .int v1), (2, .int v2), (3, .int 0)] rfl ?_
  refine EW_iconst (pc2 := 3) (v := 0) rfl dX12_askFor_2 (by decide) ?_
  refine EW_istore (pc2 := 5) rfl dX12_askFor_3 (by decide) [1, 2, 3, 4, 0] [(0, .ref 246), (1, .int v1), (2, .int v2), (3, .int 0), (4, .int 0)] rfl ?_
  refine EW_iconst (pc2 := 6) (v := 0) rfl dX12_askFor_5 (by decide) ?_
  refine EW_istore (pc2 := 8) rfl dX12_askFor_6 (by decide) [1, 2, 3, 4, 5, 0] [(0, .ref 246), (1, .int v1), (2, .int v2), (3, .int 0), (4, .int 0), (5, .int 0)] rfl ?_
  refine EW_iconst (pc2 := 9) (v := 0) rfl dX12_askFor_8 (by decide) ?_
  refine EW_istore (pc2 := 11) rfl dX12_askFor_9 (by decide) [1, 2, 3, 4, 5, 6, 0] [(0, .ref 246), (1, .int v1), (2, .int v2), (3, .int 0), (4, .int 0), (5, .int 0), (6, .int 0)] rfl ?_
  exact sX12_askFor_11 v1 v2 0 0 0 0 x K d bc bs hdp h
