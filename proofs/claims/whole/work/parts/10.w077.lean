abbrev MX12_used : ab_M := (yX12_used, cX12_used, 3, (some .int))
theorem dX12_used_0 : decode cX12_used 0 = .ok (.aload_n 0, 1) := by decide +kernel
theorem dX12_used_1 : decode cX12_used 1 = .ok (.iconst 0, 1) := by decide +kernel
theorem dX12_used_2 : decode cX12_used 2 = .ok (.putfield 297, 3) := by decide +kernel
theorem dX12_used_5 : decode cX12_used 5 = .ok (.aload_n 0, 1) := by decide +kernel
theorem dX12_used_6 : decode cX12_used 6 = .ok (.iload_n 1, 1) := by decide +kernel
theorem dX12_used_7 : decode cX12_used 7 = .ok (.invokevirtual 334, 3) := by decide +kernel
theorem dX12_used_10 : decode cX12_used 10 = .ok (.ifCond .eq 24, 3) := by decide +kernel
theorem dX12_used_13 : decode cX12_used 13 = .ok (.iload_n 2, 1) := by decide +kernel
theorem dX12_used_14 : decode cX12_used 14 = .ok (.iconst 0, 1) := by decide +kernel
theorem dX12_used_15 : decode cX12_used 15 = .ok (.aload_n 0, 1) := by decide +kernel
theorem dX12_used_16 : decode cX12_used 16 = .ok (.getfield 395, 3) := by decide +kernel
theorem dX12_used_19 : decode cX12_used 19 = .ok (.invokestatic 307, 3) := by decide +kernel
theorem dX12_used_22 : decode cX12_used 22 = .ok (.ifCond .eq 12, 3) := by decide +kernel
theorem dX12_used_25 : decode cX12_used 25 = .ok (.aload_n 0, 1) := by decide +kernel
theorem dX12_used_26 : decode cX12_used 26 = .ok (.iload_n 1, 1) := by decide +kernel
theorem dX12_used_27 : decode cX12_used 27 = .ok (.iload_n 2, 1) := by decide +kernel
theorem dX12_used_28 : decode cX12_used 28 = .ok (.invokevirtual 602, 3) := by decide +kernel
theorem dX12_used_31 : decode cX12_used 31 = .ok (.goto 4, 3) := by decide +kernel
theorem dX12_used_34 : decode cX12_used 34 = .ok (.iconst (-1), 1) := by decide +kernel
theorem dX12_used_35 : decode cX12_used 35 = .ok (.ireturn, 1) := by decide +kernel
theorem okX12_used : ab_okM MX12_used 2 := ⟨by decide, ⟨by decide, by decide⟩, ab_in 2634 (by decide +kernel) (by decide +kernel), ab_in 99 (by decide +kernel) (by decide +kernel), by decide +kernel, by decide⟩
set_option maxHeartbeats 4000000 in
set_option maxRecDepth 100000 in
def wX12_used (v1 : Int32) (v2 : Int32) (x : ab_X) (K : Int32 → ab_X → Prop) : Prop := wX12_isHouse v1 (wr x 246 0 0) (fun r1 => ((r1 = 0 → K (-1) (wr x 246 0 0)) ∧ (¬ r1 = 0 → wX12_isIn v2 0 ((wr x 246 0 0).1 246 1) (wr x 246 0 0) (fun r2 => ((r2 = 0 → K (-1) (wr x 246 0 0)) ∧ (¬ r2 = 0 → wX12_useOf v1 v2 (wr x 246 0 0) (fun r3 => K r3 (wr x 246 0 0))))))))
set_option maxHeartbeats 4000000 in
set_option maxRecDepth 100000 in
theorem sX12_used (v1 : Int32) (v2 : Int32)  (x : ab_X) (K : Int32 → ab_X → Prop) (d bc bs : Nat) (hdp : 1 ≤ d) (h : wX12_used v1 v2 x K) : EW MX12_used 0 [(0, .ref 246), (1, .int v1), (2, .int v2)] [] (aS x) d bc bs (liI K) := by
  unfold wX12_used at h
  refine EW_aload_n (pc2 := 1) rfl dX12_used_0 0 rfl ?_
  refine EW_iconst (pc2 := 2) (v := 0) rfl dX12_used_1 (by decide) ?_
  refine AW_puti ⟨gfRX12_297, rfl, rfl⟩ (pc2 := 5) rfl dX12_used_2 q246 ?_
  refine EW_aload_n (pc2 := 6) rfl dX12_used_5 0 rfl ?_
  refine EW_iload_n (pc2 := 7) rfl dX12_used_6 1 rfl ?_
  refine AW_invV (M' := MX12_isHouse) [.int v1] (rest := []) mlRX12_334 okX12_isHouse (pc2 := 10) rfl dX12_used_7 rfl rfl (Nat.le_of_ble_eq_true rfl) (Nat.le_of_ble_eq_true rfl) (d' := 0) (by omega) q246 ⟨by decide, rfl⟩ (EW_mono (fun _ _ hr => ?_) (sX12_isHouse v1  (wr x 246 0 0) _ _ 0 0 (Nat.le_refl _) h))
  obtain ⟨r1, rfl, rfl, h⟩ := hr
  refine EW_if_eq (tgt := 34) (pc2 := 13) rfl dX12_used_10 (by decide) (fun q => ?_) (fun q => ?_)
  · replace h := h.1 q
    refine EW_iconst (pc2 := 35) (v := (-1)) rfl dX12_used_34 (by decide) ?_
    exact AW_iret rfl dX12_used_35 ⟨_, _, rfl, rfl, h⟩
  · replace h := h.2 q
    refine EW_iload_n (pc2 := 14) rfl dX12_used_13 2 rfl ?_
    refine EW_iconst (pc2 := 15) (v := 0) rfl dX12_used_14 (by decide) ?_
    refine EW_aload_n (pc2 := 16) rfl dX12_used_15 0 rfl ?_
    refine AW_geti ⟨gfRX12_395, rfl⟩ (pc2 := 19) rfl dX12_used_16 q246 ?_
    refine AW_invS (M' := MX12_isIn) [.int v2, .int 0, .int ((wr x 246 0 0).1 246 1)] (rest := []) mlRX12_307 okX12_isIn (pc2 := 22) rfl dX12_used_19 rfl rfl (Nat.le_of_ble_eq_true rfl) (Nat.le_of_ble_eq_true rfl) (d' := 0) (by omega) (EW_mono (fun _ _ hr => ?_) (sX12_isIn v2 0 ((wr x 246 0 0).1 246 1)  (wr x 246 0 0) _ _ 0 0 (Nat.le_refl _) h))
    obtain ⟨r2, rfl, rfl, h⟩ := hr
    refine EW_if_eq (tgt := 34) (pc2 := 25) rfl dX12_used_22 (by decide) (fun q => ?_) (fun q => ?_)
    · replace h := h.1 q
      refine EW_iconst (pc2 := 35) (v := (-1)) rfl dX12_used_34 (by decide) ?_
      exact AW_iret rfl dX12_used_35 ⟨_, _, rfl, rfl, h⟩
    · replace h := h.2 q
      refine EW_aload_n (pc2 := 26) rfl dX12_used_25 0 rfl ?_
      refine EW_iload_n (pc2 := 27) rfl dX12_used_26 1 rfl ?_
      refine EW_iload_n (pc2 := 28) rfl dX12_used_27 2 rfl ?_
      refine AW_invV (M' := MX12_useOf) [.int v1, .int v2] (rest := []) mlRX12_602 okX12_useOf (pc2 := 31) rfl dX12_used_28 rfl rfl (Nat.le_of_ble_eq_true rfl) (Nat.le_of_ble_eq_true rfl) (d' := 0) (by omega) q246 ⟨by decide, rfl⟩ (EW_mono (fun _ _ hr => ?_) (sX12_useOf v1 v2  (wr x 246 0 0) _ _ 0 0 (Nat.le_refl _) h))
      obtain ⟨r3, rfl, rfl, h⟩ := hr
      refine EW_goto (tgt := 35) dX12_used_31 (by decide) ?_
      exact AW_iret rfl dX12_used_35 ⟨_, _, rfl, rfl, h⟩
theorem gfRX12_290 : ab_L RX12 290 12 119 := ⟨by decide, by decide, ab_in 1968 (by decide +kernel) (by decide +kernel)⟩
theorem gfRX12_293 : ab_L RX12 293 12 120 := ⟨by decide, by decide, ab_in 1969 (by decide +kernel) (by decide +kernel)⟩
theorem gfRX12_284 : ab_L RX12 284 12 117 := ⟨by decide, by decide, ab_in 1966 (by decide +kernel) (by decide +kernel)⟩
theorem gfRX12_287 : ab_L RX12 287 12 118 := ⟨by decide, by decide, ab_in 1967 (by decide +kernel) (by decide +kernel)⟩
abbrev MX12_what : ab_M := (yX12_what, cX12_what, 8, (some .int))
theorem dX12_what_0 : decode cX12_what 0 = .ok (.aload_n 0, 1) := by decide +kernel
theorem dX12_what_1 : decode cX12_what 1 = .ok (.iconst 0, 1) := by decide +kernel
theorem dX12_what_2 : decode cX12_what 2 = .ok (.putfield 297, 3) := by decide +kernel
theorem dX12_what_5 : decode cX12_what 5 = .ok (.aload_n 0, 1) := by decide +kernel
theorem dX12_what_6 : decode cX12_what 6 = .ok (.iload_n 1, 1) := by decide +kernel
theorem dX12_what_7 : decode cX12_what 7 = .ok (.iload_n 2, 1) := by decide +kernel
theorem dX12_what_8 : decode cX12_what 8 = .ok (.invokevirtual 354, 3) := by decide +kernel
theorem dX12_what_11 : decode cX12_what 11 = .ok (.ifCond .eq 26, 3) := by decide +kernel
theorem dX12_what_14 : decode cX12_what 14 = .ok (.iload_n 3, 1) := by decide +kernel
theorem dX12_what_15 : decode cX12_what 15 = .ok (.iconst 0, 1) := by decide +kernel
theorem dX12_what_16 : decode cX12_what 16 = .ok (.sipush 500, 3) := by decide +kernel
theorem dX12_what_19 : decode cX12_what 19 = .ok (.invokestatic 307, 3) := by decide +kernel
theorem dX12_what_22 : decode cX12_what 22 = .ok (.ifCond .eq 15, 3) := by decide +kernel
theorem dX12_what_25 : decode cX12_what 25 = .ok (.iload 4, 2) := by decide +kernel
theorem dX12_what_27 : decode cX12_what 27 = .ok (.iconst 1, 1) := by decide +kernel
theorem dX12_what_28 : decode cX12_what 28 = .ok (.sipush 200, 3) := by decide +kernel
theorem dX12_what_31 : decode cX12_what 31 = .ok (.invokestatic 307, 3) := by decide +kernel
theorem dX12_what_34 : decode cX12_what 34 = .ok (.ifCond .ne 5, 3) := by decide +kernel
theorem dX12_what_37 : decode cX12_what 37 = .ok (.iconst (-1), 1) := by decide +kernel
theorem dX12_what_38 : decode cX12_what 38 = .ok (.ireturn, 1) := by decide +kernel
theorem dX12_what_39 : decode cX12_what 39 = .ok (.iconst 0, 1) := by decide +kernel
theorem dX12_what_40 : decode cX12_what 40 = .ok (.istore 5, 2) := by decide +kernel
theorem dX12_what_42 : decode cX12_what 42 = .ok (.iload 5, 2) := by decide +kernel
theorem dX12_what_44 : decode cX12_what 44 = .ok (.sipush 288, 3) := by decide +kernel
theorem dX12_what_47 : decode cX12_what 47 = .ok (.if_icmp .ge 37, 3) := by decide +kernel
theorem dX12_what_50 : decode cX12_what 50 = .ok (.aload_n 0, 1) := by decide +kernel
theorem dX12_what_51 : decode cX12_what 51 = .ok (.getfield 284, 3) := by decide +kernel
theorem dX12_what_54 : decode cX12_what 54 = .ok (.iload 5, 2) := by decide +kernel
theorem dX12_what_56 : decode cX12_what 56 = .ok (.aload_n 0, 1) := by decide +kernel
theorem dX12_what_57 : decode cX12_what 57 = .ok (.getfield 68, 3) := by decide +kernel
theorem dX12_what_60 : decode cX12_what 60 = .ok (.iload 5, 2) := by decide +kernel
theorem dX12_what_62 : decode cX12_what 62 = .ok (.iaload, 1) := by decide +kernel
theorem dX12_what_63 : decode cX12_what 63 = .ok (.iastore, 1) := by decide +kernel
theorem dX12_what_64 : decode cX12_what 64 = .ok (.aload_n 0, 1) := by decide +kernel
theorem dX12_what_65 : decode cX12_what 65 = .ok (.getfield 287, 3) := by decide +kernel
theorem dX12_what_68 : decode cX12_what 68 = .ok (.iload 5, 2) := by decide +kernel
theorem dX12_what_70 : decode cX12_what 70 = .ok (.aload_n 0, 1) := by decide +kernel
theorem dX12_what_71 : decode cX12_what 71 = .ok (.getfield 71, 3) := by decide +kernel
theorem dX12_what_74 : decode cX12_what 74 = .ok (.iload 5, 2) := by decide +kernel
theorem dX12_what_76 : decode cX12_what 76 = .ok (.iaload, 1) := by decide +kernel
theorem dX12_what_77 : decode cX12_what 77 = .ok (.iastore, 1) := by decide +kernel
theorem dX12_what_78 : decode cX12_what 78 = .ok (.iinc 5 1, 3) := by decide +kernel
theorem dX12_what_81 : decode cX12_what 81 = .ok (.goto (-39), 3) := by decide +kernel
theorem dX12_what_84 : decode cX12_what 84 = .ok (.iconst 0, 1) := by decide +kernel
theorem dX12_what_85 : decode cX12_what 85 = .ok (.istore 5, 2) := by decide +kernel
theorem dX12_what_87 : decode cX12_what 87 = .ok (.iload 5, 2) := by decide +kernel
theorem dX12_what_89 : decode cX12_what 89 = .ok (.bipush 72, 2) := by decide +kernel
theorem dX12_what_91 : decode cX12_what 91 = .ok (.if_icmp .ge 37, 3) := by decide +kernel
theorem dX12_what_94 : decode cX12_what 94 = .ok (.aload_n 0, 1) := by decide +kernel
theorem dX12_what_95 : decode cX12_what 95 = .ok (.getfield 290, 3) := by decide +kernel
theorem dX12_what_98 : decode cX12_what 98 = .ok (.iload 5, 2) := by decide +kernel
theorem dX12_what_100 : decode cX12_what 100 = .ok (.aload_n 0, 1) := by decide +kernel
theorem dX12_what_101 : decode cX12_what 101 = .ok (.getfield 83, 3) := by decide +kernel
theorem dX12_what_104 : decode cX12_what 104 = .ok (.iload 5, 2) := by decide +kernel
theorem dX12_what_106 : decode cX12_what 106 = .ok (.iaload, 1) := by decide +kernel
theorem dX12_what_107 : decode cX12_what 107 = .ok (.iastore, 1) := by decide +kernel
theorem dX12_what_108 : decode cX12_what 108 = .ok (.aload_n 0, 1) := by decide +kernel
theorem dX12_what_109 : decode cX12_what 109 = .ok (.getfield 293, 3) := by decide +kernel
theorem dX12_what_112 : decode cX12_what 112 = .ok (.iload 5, 2) := by decide +kernel
theorem dX12_what_114 : decode cX12_what 114 = .ok (.aload_n 0, 1) := by decide +kernel
theorem dX12_what_115 : decode cX12_what 115 = .ok (.getfield 92, 3) := by decide +kernel
theorem dX12_what_118 : decode cX12_what 118 = .ok (.iload 5, 2) := by decide +kernel
theorem dX12_what_120 : decode cX12_what 120 = .ok (.baload, 1) := by decide +kernel
theorem dX12_what_121 : decode cX12_what 121 = .ok (.bastore, 1) := by decide +kernel
theorem dX12_what_122 : decode cX12_what 122 = .ok (.iinc 5 1, 3) := by decide +kernel
theorem dX12_what_125 : decode cX12_what 125 = .ok (.goto (-38), 3) := by decide +kernel
theorem dX12_what_128 : decode cX12_what 128 = .ok (.aload_n 0, 1) := by decide +kernel
theorem dX12_what_129 : decode cX12_what 129 = .ok (.iload_n 1, 1) := by decide +kernel
theorem dX12_what_130 : decode cX12_what 130 = .ok (.invokevirtual 363, 3) := by decide +kernel
theorem dX12_what_133 : decode cX12_what 133 = .ok (.istore 5, 2) := by decide +kernel
theorem dX12_what_135 : decode cX12_what 135 = .ok (.aload_n 0, 1) := by decide +kernel
theorem dX12_what_136 : decode cX12_what 136 = .ok (.getfield 74, 3) := by decide +kernel
theorem dX12_what_139 : decode cX12_what 139 = .ok (.bipush 24, 2) := by decide +kernel
theorem dX12_what_141 : decode cX12_what 141 = .ok (.iload_n 1, 1) := by decide +kernel
theorem dX12_what_142 : decode cX12_what 142 = .ok (.imul, 1) := by decide +kernel
theorem dX12_what_143 : decode cX12_what 143 = .ok (.iload_n 2, 1) := by decide +kernel
theorem dX12_what_144 : decode cX12_what 144 = .ok (.iadd, 1) := by decide +kernel
theorem dX12_what_145 : decode cX12_what 145 = .ok (.iload_n 3, 1) := by decide +kernel
theorem dX12_what_146 : decode cX12_what 146 = .ok (.iastore, 1) := by decide +kernel
theorem dX12_what_147 : decode cX12_what 147 = .ok (.iconst 0, 1) := by decide +kernel
theorem dX12_what_148 : decode cX12_what 148 = .ok (.istore 6, 2) := by decide +kernel
theorem dX12_what_150 : decode cX12_what 150 = .ok (.iload 6, 2) := by decide +kernel
theorem dX12_what_152 : decode cX12_what 152 = .ok (.iload 4, 2) := by decide +kernel
theorem dX12_what_154 : decode cX12_what 154 = .ok (.if_icmp .ge 14, 3) := by decide +kernel
theorem dX12_what_157 : decode cX12_what 157 = .ok (.aload_n 0, 1) := by decide +kernel
theorem dX12_what_158 : decode cX12_what 158 = .ok (.iconst 0, 1) := by decide +kernel
theorem dX12_what_159 : decode cX12_what 159 = .ok (.invokevirtual 586, 3) := by decide +kernel
theorem dX12_what_162 : decode cX12_what 162 = .ok (.iinc 6 1, 3) := by decide +kernel
theorem dX12_what_165 : decode cX12_what 165 = .ok (.goto (-15), 3) := by decide +kernel
theorem dX12_what_168 : decode cX12_what 168 = .ok (.aload_n 0, 1) := by decide +kernel
theorem dX12_what_169 : decode cX12_what 169 = .ok (.getfield 74, 3) := by decide +kernel
theorem dX12_what_172 : decode cX12_what 172 = .ok (.bipush 24, 2) := by decide +kernel
theorem dX12_what_174 : decode cX12_what 174 = .ok (.iload_n 1, 1) := by decide +kernel
theorem dX12_what_175 : decode cX12_what 175 = .ok (.imul, 1) := by decide +kernel
theorem dX12_what_176 : decode cX12_what 176 = .ok (.iload_n 2, 1) := by decide +kernel
theorem dX12_what_177 : decode cX12_what 177 = .ok (.iadd, 1) := by decide +kernel
theorem dX12_what_178 : decode cX12_what 178 = .ok (.iconst 0, 1) := by decide +kernel
theorem dX12_what_179 : decode cX12_what 179 = .ok (.iastore, 1) := by decide +kernel
theorem dX12_what_180 : decode cX12_what 180 = .ok (.aload_n 0, 1) := by decide +kernel
theorem dX12_what_181 : decode cX12_what 181 = .ok (.iload_n 1, 1) := by decide +kernel
theorem dX12_what_182 : decode cX12_what 182 = .ok (.invokevirtual 363, 3) := by decide +kernel
theorem dX12_what_185 : decode cX12_what 185 = .ok (.iload 5, 2) := by decide +kernel
theorem dX12_what_187 : decode cX12_what 187 = .ok (.isub, 1) := by decide +kernel
theorem dX12_what_188 : decode cX12_what 188 = .ok (.istore 6, 2) := by decide +kernel
theorem dX12_what_190 : decode cX12_what 190 = .ok (.iconst 0, 1) := by decide +kernel
theorem dX12_what_191 : decode cX12_what 191 = .ok (.istore 7, 2) := by decide +kernel
theorem dX12_what_193 : decode cX12_what 193 = .ok (.iload 7, 2) := by decide +kernel
theorem dX12_what_195 : decode cX12_what 195 = .ok (.sipush 288, 3) := by decide +kernel
theorem dX12_what_198 : decode cX12_what 198 = .ok (.if_icmp .ge 37, 3) := by decide +kernel
theorem dX12_what_201 : decode cX12_what 201 = .ok (.aload_n 0, 1) := by decide +kernel
theorem dX12_what_202 : decode cX12_what 202 = .ok (.getfield 68, 3) := by decide +kernel
theorem dX12_what_205 : decode cX12_what 205 = .ok (.iload 7, 2) := by decide +kernel
theorem dX12_what_207 : decode cX12_what 207 = .ok (.aload_n 0, 1) := by decide +kernel
theorem dX12_what_208 : decode cX12_what 208 = .ok (.getfield 284, 3) := by decide +kernel
theorem dX12_what_211 : decode cX12_what 211 = .ok (.iload 7, 2) := by decide +kernel
theorem dX12_what_213 : decode cX12_what 213 = .ok (.iaload, 1) := by decide +kernel
theorem dX12_what_214 : decode cX12_what 214 = .ok (.iastore, 1) := by decide +kernel
theorem dX12_what_215 : decode cX12_what 215 = .ok (.aload_n 0, 1) := by decide +kernel
theorem dX12_what_216 : decode cX12_what 216 = .ok (.getfield 71, 3) := by decide +kernel
theorem dX12_what_219 : decode cX12_what 219 = .ok (.iload 7, 2) := by decide +kernel
theorem dX12_what_221 : decode cX12_what 221 = .ok (.aload_n 0, 1) := by decide +kernel
theorem dX12_what_222 : decode cX12_what 222 = .ok (.getfield 287, 3) := by decide +kernel
theorem dX12_what_225 : decode cX12_what 225 = .ok (.iload 7, 2) := by decide +kernel
theorem dX12_what_227 : decode cX12_what 227 = .ok (.iaload, 1) := by decide +kernel
theorem dX12_what_228 : decode cX12_what 228 = .ok (.iastore, 1) := by decide +kernel
theorem dX12_what_229 : decode cX12_what 229 = .ok (.iinc 7 1, 3) := by decide +kernel
theorem dX12_what_232 : decode cX12_what 232 = .ok (.goto (-39), 3) := by decide +kernel
theorem dX12_what_235 : decode cX12_what 235 = .ok (.iconst 0, 1) := by decide +kernel
theorem dX12_what_236 : decode cX12_what 236 = .ok (.istore 7, 2) := by decide +kernel
theorem dX12_what_238 : decode cX12_what 238 = .ok (.iload 7, 2) := by decide +kernel
theorem dX12_what_240 : decode cX12_what 240 = .ok (.bipush 72, 2) := by decide +kernel
theorem dX12_what_242 : decode cX12_what 242 = .ok (.if_icmp .ge 37, 3) := by decide +kernel
theorem dX12_what_245 : decode cX12_what 245 = .ok (.aload_n 0, 1) := by decide +kernel
theorem dX12_what_246 : decode cX12_what 246 = .ok (.getfield 83, 3) := by decide +kernel
theorem dX12_what_249 : decode cX12_what 249 = .ok (.iload 7, 2) := by decide +kernel
theorem dX12_what_251 : decode cX12_what 251 = .ok (.aload_n 0, 1) := by decide +kernel
theorem dX12_what_252 : decode cX12_what 252 = .ok (.getfield 290, 3) := by decide +kernel
theorem dX12_what_255 : decode cX12_what 255 = .ok (.iload 7, 2) := by decide +kernel
theorem dX12_what_257 : decode cX12_what 257 = .ok (.iaload, 1) := by decide +kernel
theorem dX12_what_258 : decode cX12_what 258 = .ok (.iastore, 1) := by decide +kernel
theorem dX12_what_259 : decode cX12_what 259 = .ok (.aload_n 0, 1) := by decide +kernel
theorem dX12_what_260 : decode cX12_what 260 = .ok (.getfield 92, 3) := by decide +kernel
theorem dX12_what_263 : decode cX12_what 263 = .ok (.iload 7, 2) := by decide +kernel
theorem dX12_what_265 : decode cX12_what 265 = .ok (.aload_n 0, 1) := by decide +kernel
theorem dX12_what_266 : decode cX12_what 266 = .ok (.getfield 293, 3) := by decide +kernel
theorem dX12_what_269 : decode cX12_what 269 = .ok (.iload 7, 2) := by decide +kernel
theorem dX12_what_271 : decode cX12_what 271 = .ok (.baload, 1) := by decide +kernel
theorem dX12_what_272 : decode cX12_what 272 = .ok (.bastore, 1) := by decide +kernel
theorem dX12_what_273 : decode cX12_what 273 = .ok (.iinc 7 1, 3) := by decide +kernel
theorem dX12_what_276 : decode cX12_what 276 = .ok (.goto (-38), 3) := by decide +kernel
theorem dX12_what_279 : decode cX12_what 279 = .ok (.iload 6, 2) := by decide +kernel
theorem dX12_what_281 : decode cX12_what 281 = .ok (.ireturn, 1) := by decide +kernel
theorem okX12_what : ab_okM MX12_what 4 := ⟨by decide, ⟨by decide, by decide⟩, ab_in 2745 (by decide +kernel) (by decide +kernel), ab_in 99 (by decide +kernel) (by decide +kernel), by decide +kernel, by decide⟩
set_option maxHeartbeats 4000000 in
set_option maxRecDepth 100000 in
def lX12_what_238 (v6 : Int32) (K : Int32 → ab_X → Prop)  (L238 : Int32 → ab_X → Prop) (v7 : Int32) (x : ab_X) : Prop := ((72 ≤ v7 → K v6 x) ∧ (¬ 72 ≤ v7 → (vp_in v7 72 ∧ vp_in v7 72 ∧ vp_in v7 72 ∧ vp_in v7 72 ∧ isB ((wr x 271 (Int32.toNatClampNeg v7) (x.1 335 (Int32.toNatClampNeg v7))).1 336 (Int32.toNatClampNeg v7)) ∧ L238 (v7 + 1) (wr (wr x 271 (Int32.toNatClampNeg v7) (x.1 335 (Int32.toNatClampNeg v7))) 274 (Int32.toNatClampNeg v7) ((wr x 271 (Int32.toNatClampNeg v7) (x.1 335 (Int32.toNatClampNeg v7))).1 336 (Int32.toNatClampNeg v7))))))
set_option maxHeartbeats 4000000 in
set_option maxRecDepth 100000 in
theorem sX12_what_238 (v6 : Int32) (v7 : Int32)  (x : ab_X) (K : Int32 → ab_X → Prop)  (d bc bs : Nat) (hdp : 5 ≤ d)  (h : Lp2 (lX12_what_238 v6 K ) v7 x) : EW MX12_what 238 [(0, .ref 246), (6, .int v6), (7, .int v7)] [] (aS x) d bc bs (liI K) := by
  refine Lp2.use (P := fun v7 x => EW MX12_what 238 [(0, .ref 246), (6, .int v6), (7, .int v7)] [] (aS x) d bc bs (liI K)) (fun L238 v7 x hL238 h => ?_) v7 x h
  unfold lX12_what_238 at h
  refine EW_iload (pc2 := 240) rfl dX12_what_238 2 rfl ?_
  refine EW_bipush (pc2 := 242) (v := 72) rfl dX12_what_240 (by decide) ?_
  refine EW_icmp_ge (tgt := 279) (pc2 := 245) rfl dX12_what_242 (by decide) (fun q => ?_) (fun q => ?_)
  · replace h := h.1 q
    refine EW_iload (pc2 := 281) rfl dX12_what_279 1 rfl ?_
    exact AW_iret rfl dX12_what_281 ⟨_, _, rfl, rfl, h⟩
  · replace h := h.2 q
    refine EW_aload_n (pc2 := 246) rfl dX12_what_245 0 rfl ?_
    refine AW_getr (r := 271) ⟨gfRX12_83, rfl⟩ (pc2 := 249) rfl dX12_what_246 q246 rfl ?_
    refine EW_iload (pc2 := 251) rfl dX12_what_249 2 rfl ?_
    refine EW_aload_n (pc2 := 252) rfl dX12_what_251 0 rfl ?_
    refine AW_getr (r := 335) ⟨gfRX12_290, rfl⟩ (pc2 := 255) rfl dX12_what_252 q246 rfl ?_
    refine EW_iload (pc2 := 257) rfl dX12_what_255 2 rfl ?_
    obtain ⟨b22, h⟩ := h
    refine AW_iald (pc2 := 258) rfl dX12_what_257 q335 b22 ?_
    obtain ⟨b23, h⟩ := h
    refine AW_iast (pc2 := 259) rfl dX12_what_258 q271 b23 ?_
    refine EW_aload_n (pc2 := 260) rfl dX12_what_259 0 rfl ?_
    refine AW_getr (r := 274) ⟨gfRX12_92, rfl⟩ (pc2 := 263) rfl dX12_what_260 q246 rfl ?_
    refine EW_iload (pc2 := 265) rfl dX12_what_263 2 rfl ?_
    refine EW_aload_n (pc2 := 266) rfl dX12_what_265 0 rfl ?_
    refine AW_getr (r := 336) ⟨gfRX12_293, rfl⟩ (pc2 := 269) rfl dX12_what_266 q246 rfl ?_
    refine EW_iload (pc2 := 271) rfl dX12_what_269 2 rfl ?_
    obtain ⟨b24, h⟩ := h
    refine AW_zald (pc2 := 272) rfl dX12_what_271 q336 b24 ?_
    obtain ⟨b25, h⟩ := h
    obtain ⟨z26, h⟩ := h
    refine AW_zast (pc2 := 273) rfl dX12_what_272 q274 b25 z26 ?_
    refine EW_iinc (v7 + 1) (pc2 := 276) rfl dX12_what_273 2 rfl rfl (by decide) [1, 2, 0] [(0, .ref 246), (6, .int v6), (7, .int (v7 + 1))] rfl ?_
    refine EW_goto (tgt := 238) dX12_what_276 (by decide) ?_
    exact hL238 (v7 + 1) (wr (wr x 271 (Int32.toNatClampNeg v7) (x.1 335 (Int32.toNatClampNeg v7))) 274 (Int32.toNatClampNeg v7) ((wr x 271 (Int32.toNatClampNeg v7) (x.1 335 (Int32.toNatClampNeg v7))).1 336 (Int32.toNatClampNeg v7))) h
set_option maxHeartbeats 4000000 in
set_option maxRecDepth 100000 in
def lX12_what_193 (v6 : Int32) (K : Int32 → ab_X → Prop)  (L193 : Int32 → ab_X → Prop) (v7 : Int32) (x : ab_X) : Prop := ((288 ≤ v7 → Lp2 (lX12_what_238 v6 K ) 0 x) ∧ (¬ 288 ≤ v7 → (vp_in v7 288 ∧ vp_in v7 288 ∧ vp_in v7 288 ∧ vp_in v7 288 ∧ L193 (v7 + 1) (wr (wr x 266 (Int32.toNatClampNeg v7) (x.1 333 (Int32.toNatClampNeg v7))) 267 (Int32.toNatClampNeg v7) ((wr x 266 (Int32.toNatClampNeg v7) (x.1 333 (Int32.toNatClampNeg v7))).1 334 (Int32.toNatClampNeg v7))))))
set_option maxHeartbeats 4000000 in
set_option maxRecDepth 100000 in
theorem sX12_what_193 (v6 : Int32) (v7 : Int32)  (x : ab_X) (K : Int32 → ab_X → Prop)  (d bc bs : Nat) (hdp : 5 ≤ d)  (h : Lp2 (lX12_what_193 v6 K ) v7 x) : EW MX12_what 193 [(0, .ref 246), (6, .int v6), (7, .int v7)] [] (aS x) d bc bs (liI K) := by
  refine Lp2.use (P := fun v7 x => EW MX12_what 193 [(0, .ref 246), (6, .int v6), (7, .int v7)] [] (aS x) d bc bs (liI K)) (fun L193 v7 x hL193 h => ?_) v7 x h
  unfold lX12_what_193 at h
  refine EW_iload (pc2 := 195) rfl dX12_what_193 2 rfl ?_
  refine EW_sipush (pc2 := 198) (v := 288) rfl dX12_what_195 (by decide) ?_
  refine EW_icmp_ge (tgt := 235) (pc2 := 201) rfl dX12_what_198 (by decide) (fun q => ?_) (fun q => ?_)
  · replace h := h.1 q
    refine EW_iconst (pc2 := 236) (v := 0) rfl dX12_what_235 (by decide) ?_
    refine EW_istore (pc2 := 238) rfl dX12_what_236 (by decide) [1, 2, 0] [(0, .ref 246), (6, .int v6), (7, .int 0)] rfl ?_
    exact sX12_what_238 v6 0 x K d bc bs hdp h
  · replace h := h.2 q
    refine EW_aload_n (pc2 := 202) rfl dX12_what_201 0 rfl ?_
    refine AW_getr (r := 266) ⟨gfRX12_68, rfl⟩ (pc2 := 205) rfl dX12_what_202 q246 rfl ?_
    refine EW_iload (pc2 := 207) rfl dX12_what_205 2 rfl ?_
    refine EW_aload_n (pc2 := 208) rfl dX12_what_207 0 rfl ?_
    refine AW_getr (r := 333) ⟨gfRX12_284, rfl⟩ (pc2 := 211) rfl dX12_what_208 q246 rfl ?_
    refine EW_iload (pc2 := 213) rfl dX12_what_211 2 rfl ?_
    obtain ⟨b18, h⟩ := h
    refine AW_iald (pc2 := 214) rfl dX12_what_213 q333 b18 ?_
    obtain ⟨b19, h⟩ := h
    refine AW_iast (pc2 := 215) rfl dX12_what_214 q266 b19 ?_
    refine EW_aload_n (pc2 := 216) rfl dX12_what_215 0 rfl ?_
    refine AW_getr (r := 267) ⟨gfRX12_71, rfl⟩ (pc2 := 219) rfl dX12_what_216 q246 rfl ?_
    refine EW_iload (pc2 := 221) rfl dX12_what_219 2 rfl ?_
    refine EW_aload_n (pc2 := 222) rfl dX12_what_221 0 rfl ?_
    refine AW_getr (r := 334) ⟨gfRX12_287, rfl⟩ (pc2 := 225) rfl dX12_what_222 q246 rfl ?_
    refine EW_iload (pc2 := 227) rfl dX12_what_225 2 rfl ?_
    obtain ⟨b20, h⟩ := h
    refine AW_iald (pc2 := 228) rfl dX12_what_227 q334 b20 ?_
    obtain ⟨b21, h⟩ := h
    refine AW_iast (pc2 := 229) rfl dX12_what_228 q267 b21 ?_
    refine EW_iinc (v7 + 1) (pc2 := 232) rfl dX12_what_229 2 rfl rfl (by decide) [1, 2, 0] [(0, .ref 246), (6, .int v6), (7, .int (v7 + 1))] rfl ?_
    refine EW_goto (tgt := 193) dX12_what_232 (by decide) ?_
    exact hL193 (v7 + 1) (wr (wr x 266 (Int32.toNatClampNeg v7) (x.1 333 (Int32.toNatClampNeg v7))) 267 (Int32.toNatClampNeg v7) ((wr x 266 (Int32.toNatClampNeg v7) (x.1 333 (Int32.toNatClampNeg v7))).1 334 (Int32.toNatClampNeg v7))) h
set_option maxHeartbeats 4000000 in
set_option maxRecDepth 100000 in
def lX12_what_150 (v1 : Int32) (v2 : Int32) (v4 : Int32) (v5 : Int32) (K : Int32 → ab_X → Prop)  (L150 : Int32 → ab_X → Prop) (v6 : Int32) (x : ab_X) : Prop := ((v4 ≤ v6 → (vp_in ((24 * v1) + v2) 288 ∧ wX12_burntOf v1 (wr x 268 (Int32.toNatClampNeg ((24 * v1) + v2)) 0) (fun r16 => Lp2 (lX12_what_193 (r16 - v5) K ) 0 (wr x 268 (Int32.toNatClampNeg ((24 * v1) + v2)) 0)))) ∧ (¬ v4 ≤ v6 → wX12_burn 0 x (fun x17 => L150 (v6 + 1) x17)))
set_option maxHeartbeats 4000000 in
set_option maxRecDepth 100000 in
theorem sX12_what_150 (v1 : Int32) (v2 : Int32) (v4 : Int32) (v5 : Int32) (v6 : Int32)  (x : ab_X) (K : Int32 → ab_X → Prop)  (d bc bs : Nat) (hdp : 5 ≤ d)  (h : Lp2 (lX12_what_150 v1 v2 v4 v5 K ) v6 x) : EW MX12_what 150 [(0, .ref 246), (1, .int v1), (2, .int v2), (4, .int v4), (5, .int v5), (6, .int v6)] [] (aS x) d bc bs (liI K) := by
  refine Lp2.use (P := fun v6 x => EW MX12_what 150 [(0, .ref 246), (1, .int v1), (2, .int v2), (4, .int v4), (5, .int v5), (6, .int v6)] [] (aS x) d bc bs (liI K)) (fun L150 v6 x hL150 h => ?_) v6 x h
  unfold lX12_what_150 at h
  refine EW_iload (pc2 := 152) rfl dX12_what_150 5 rfl ?_
  refine EW_iload (pc2 := 154) rfl dX12_what_152 3 rfl ?_
  refine EW_icmp_ge (tgt := 168) (pc2 := 157) rfl dX12_what_154 (by decide) (fun q => ?_) (fun q => ?_)
  · replace h := h.1 q
    refine EW_aload_n (pc2 := 169) rfl dX12_what_168 0 rfl ?_
    refine AW_getr (r := 268) ⟨gfRX12_74, rfl⟩ (pc2 := 172) rfl dX12_what_169 q246 rfl ?_
    refine EW_bipush (pc2 := 174) (v := 24) rfl dX12_what_172 (by decide) ?_
    refine EW_iload_n (pc2 := 175) rfl dX12_what_174 1 rfl ?_
    refine EW_imul (pc2 := 176) rfl dX12_what_175 ?_
    refine EW_iload_n (pc2 := 177) rfl dX12_what_176 2 rfl ?_
    refine EW_iadd (pc2 := 178) rfl dX12_what_177 ?_
    refine EW_iconst (pc2 := 179) (v := 0) rfl dX12_what_178 (by decide) ?_
    obtain ⟨b15, h⟩ := h
    refine AW_iast (pc2 := 180) rfl dX12_what_179 q268 b15 ?_
    refine EW_aload_n (pc2 := 181) rfl dX12_what_180 0 rfl ?_
    refine EW_iload_n (pc2 := 182) rfl dX12_what_181 1 rfl ?_
    refine AW_invV (M' := MX12_burntOf) [.int v1] (rest := []) mlRX12_363 okX12_burntOf (pc2 := 185) rfl dX12_what_182 rfl rfl (Nat.le_of_ble_eq_true rfl) (Nat.le_of_ble_eq_true rfl) (d' := 0) (by omega) q246 ⟨by decide, rfl⟩ (EW_mono (fun _ _ hr => ?_) (sX12_burntOf v1  (wr x 268 (Int32.toNatClampNeg ((24 * v1) + v2)) 0) _ _ 0 0 (Nat.le_refl _) h))
    obtain ⟨r16, rfl, rfl, h⟩ := hr
    refine EW_iload (pc2 := 187) rfl dX12_what_185 4 rfl ?_
    refine EW_isub (pc2 := 188) rfl dX12_what_187 ?_
    refine EW_istore (pc2 := 190) rfl dX12_what_188 (by decide) [1, 2, 3, 4, 5, 0] [(0, .ref 246), (1, .int v1), (2, .int v2), (4, .int v4), (5, .int v5), (6, .int (r16 - v5))] rfl ?_
    refine EW_iconst (pc2 := 191) (v := 0) rfl dX12_what_190 (by decide) ?_
    refine EW_istore (pc2 := 193) rfl dX12_what_191 (by decide) [1, 2, 3, 4, 5, 6, 0] [(0, .ref 246), (1, .int v1), (2, .int v2), (4, .int v4), (5, .int v5), (6, .int (r16 - v5)), (7, .int 0)] rfl ?_
    refine EW_ls [0, 5, 6] rfl ?_
    exact sX12_what_193 (r16 - v5) 0 (wr x 268 (Int32.toNatClampNeg ((24 * v1) + v2)) 0) K d bc bs hdp h
  · replace h := h.2 q
    refine EW_aload_n (pc2 := 158) rfl dX12_what_157 0 rfl ?_
    refine EW_iconst (pc2 := 159) (v := 0) rfl dX12_what_158 (by decide) ?_
    refine AW_invV (M' := MX12_burn) [.int 0] (rest := []) mlRX12_586 okX12_burn (pc2 := 162) rfl dX12_what_159 rfl rfl (Nat.le_of_ble_eq_true rfl) (Nat.le_of_ble_eq_true rfl) (d' := 4) (by omega) q246 ⟨by decide, rfl⟩ (EW_mono (fun _ _ hr => ?_) (sX12_burn 0  x _ _ 0 0 (Nat.le_refl _) h))
    obtain ⟨x17, rfl, rfl, h⟩ := hr
    refine EW_iinc (v6 + 1) (pc2 := 165) rfl dX12_what_162 5 rfl rfl (by decide) [1, 2, 3, 4, 5, 0] [(0, .ref 246), (1, .int v1), (2, .int v2), (4, .int v4), (5, .int v5), (6, .int (v6 + 1))] rfl ?_
    refine EW_goto (tgt := 150) dX12_what_165 (by decide) ?_
    exact hL150 (v6 + 1) x17 h
set_option maxHeartbeats 4000000 in
set_option maxRecDepth 100000 in
def lX12_what_87 (v1 : Int32) (v2 : Int32) (v3 : Int32) (v4 : Int32) (K : Int32 → ab_X → Prop)  (L87 : Int32 → ab_X → Prop) (v5 : Int32) (x : ab_X) : Prop := ((72 ≤ v5 → wX12_burntOf v1 x (fun r8 => (vp_in ((24 * v1) + v2) 288 ∧ Lp2 (lX12_what_150 v1 v2 v4 r8 K ) 0 (wr x 268 (Int32.toNatClampNeg ((24 * v1) + v2)) v3)))) ∧ (¬ 72 ≤ v5 → (vp_in v5 72 ∧ vp_in v5 72 ∧ vp_in v5 72 ∧ vp_in v5 72 ∧ isB ((wr x 335 (Int32.toNatClampNeg v5) (x.1 271 (Int32.toNatClampNeg v5))).1 274 (Int32.toNatClampNeg v5)) ∧ L87 (v5 + 1) (wr (wr x 335 (Int32.toNatClampNeg v5) (x.1 271 (Int32.toNatClampNeg v5))) 336 (Int32.toNatClampNeg v5) ((wr x 335 (Int32.toNatClampNeg v5) (x.1 271 (Int32.toNatClampNeg v5))).1 274 (Int32.toNatClampNeg v5))))))
set_option maxHeartbeats 4000000 in
set_option maxRecDepth 100000 in
theorem sX12_what_87 (v1 : Int32) (v2 : Int32) (v3 : Int32) (v4 : Int32) (v5 : Int32)  (x : ab_X) (K : Int32 → ab_X → Prop)  (d bc bs : Nat) (hdp : 5 ≤ d)  (h : Lp2 (lX12_what_87 v1 v2 v3 v4 K ) v5 x) : EW MX12_what 87 [(0, .ref 246), (1, .int v1), (2, .int v2), (3, .int v3), (4, .int v4), (5, .int v5)] [] (aS x) d bc bs (liI K) := by
  refine Lp2.use (P := fun v5 x => EW MX12_what 87 [(0, .ref 246), (1, .int v1), (2, .int v2), (3, .int v3), (4, .int v4), (5, .int v5)] [] (aS x) d bc bs (liI K)) (fun L87 v5 x hL87 h => ?_) v5 x h
  unfold lX12_what_87 at h
  refine EW_iload (pc2 := 89) rfl dX12_what_87 5 rfl ?_
  refine EW_bipush (pc2 := 91) (v := 72) rfl dX12_what_89 (by decide) ?_
  refine EW_icmp_ge (tgt := 128) (pc2 := 94) rfl dX12_what_91 (by decide) (fun q => ?_) (fun q => ?_)
  · replace h := h.1 q
    refine EW_aload_n (pc2 := 129) rfl dX12_what_128 0 rfl ?_
    refine EW_iload_n (pc2 := 130) rfl dX12_what_129 1 rfl ?_
    refine AW_invV (M' := MX12_burntOf) [.int v1] (rest := []) mlRX12_363 okX12_burntOf (pc2 := 133) rfl dX12_what_130 rfl rfl (Nat.le_of_ble_eq_true rfl) (Nat.le_of_ble_eq_true rfl) (d' := 0) (by omega) q246 ⟨by decide, rfl⟩ (EW_mono (fun _ _ hr => ?_) (sX12_burntOf v1  x _ _ 0 0 (Nat.le_refl _) h))
    obtain ⟨r8, rfl, rfl, h⟩ := hr
    refine EW_istore (pc2 := 135) rfl dX12_what_133 (by decide) [1, 2, 3, 4, 5, 0] [(0, .ref 246), (1, .int v1), (2, .int v2), (3, .int v3), (4, .int v4), (5, .int r8)] rfl ?_
    refine EW_aload_n (pc2 := 136) rfl dX12_what_135 0 rfl ?_
    refine AW_getr (r := 268) ⟨gfRX12_74, rfl⟩ (pc2 := 139) rfl dX12_what_136 q246 rfl ?_
    refine EW_bipush (pc2 := 141) (v := 24) rfl dX12_what_139 (by decide) ?_
    refine EW_iload_n (pc2 := 142) rfl dX12_what_141 1 rfl ?_
    refine EW_imul (pc2 := 143) rfl dX12_what_142 ?_
    refine EW_iload_n (pc2 := 144) rfl dX12_what_143 2 rfl ?_
    refine EW_iadd (pc2 := 145) rfl dX12_what_144 ?_
    refine EW_iload_n (pc2 := 146) rfl dX12_what_145 3 rfl ?_
    obtain ⟨b9, h⟩ := h
    refine AW_iast (pc2 := 147) rfl dX12_what_146 q268 b9 ?_
    refine EW_iconst (pc2 := 148) (v := 0) rfl dX12_what_147 (by decide) ?_
    refine EW_istore (pc2 := 150) rfl dX12_what_148 (by decide) [1, 2, 3, 4, 5, 6, 0] [(0, .ref 246), (1, .int v1), (2, .int v2), (3, .int v3), (4, .int v4), (5, .int r8), (6, .int 0)] rfl ?_
    refine EW_ls [0, 1, 2, 4, 5, 6] rfl ?_
    exact sX12_what_150 v1 v2 v4 r8 0 (wr x 268 (Int32.toNatClampNeg ((24 * v1) + v2)) v3) K d bc bs hdp h
  · replace h := h.2 q
    refine EW_aload_n (pc2 := 95) rfl dX12_what_94 0 rfl ?_
    refine AW_getr (r := 335) ⟨gfRX12_290, rfl⟩ (pc2 := 98) rfl dX12_what_95 q246 rfl ?_
    refine EW_iload (pc2 := 100) rfl dX12_what_98 5 rfl ?_
    refine EW_aload_n (pc2 := 101) rfl dX12_what_100 0 rfl ?_
    refine AW_getr (r := 271) ⟨gfRX12_83, rfl⟩ (pc2 := 104) rfl dX12_what_101 q246 rfl ?_
    refine EW_iload (pc2 := 106) rfl dX12_what_104 5 rfl ?_
    obtain ⟨b10, h⟩ := h
    refine AW_iald (pc2 := 107) rfl dX12_what_106 q271 b10 ?_
    obtain ⟨b11, h⟩ := h
    refine AW_iast (pc2 := 108) rfl dX12_what_107 q335 b11 ?_
    refine EW_aload_n (pc2 := 109) rfl dX12_what_108 0 rfl ?_
    refine AW_getr (r := 336) ⟨gfRX12_293, rfl⟩ (pc2 := 112) rfl dX12_what_109 q246 rfl ?_
    refine EW_iload (pc2 := 114) rfl dX12_what_112 5 rfl ?_
    refine EW_aload_n (pc2 := 115) rfl dX12_what_114 0 rfl ?_
    refine AW_getr (r := 274) ⟨gfRX12_92, rfl⟩ (pc2 := 118) rfl dX12_what_115 q246 rfl ?_
    refine EW_iload (pc2 := 120) rfl dX12_what_118 5 rfl ?_
    obtain ⟨b12, h⟩ := h
    refine AW_zald (pc2 := 121) rfl dX12_what_120 q274 b12 ?_
    obtain ⟨b13, h⟩ := h
    obtain ⟨z14, h⟩ := h
    refine AW_zast (pc2 := 122) rfl dX12_what_121 q336 b13 z14 ?_
    refine EW_iinc (v5 + 1) (pc2 := 125) rfl dX12_what_122 5 rfl rfl (by decide) [1, 2, 3, 4, 5, 0] [(0, .ref 246), (1, .int v1), (2, .int v2), (3, .int v3), (4, .int v4), (5, .int (v5 + 1))] rfl ?_
    refine EW_goto (tgt := 87) dX12_what_125 (by decide) ?_
    exact hL87 (v5 + 1) (wr (wr x 335 (Int32.toNatClampNeg v5) (x.1 271 (Int32.toNatClampNeg v5))) 336 (Int32.toNatClampNeg v5) ((wr x 335 (Int32.toNatClampNeg v5) (x.1 271 (Int32.toNatClampNeg v5))).1 274 (Int32.toNatClampNeg v5))) h
set_option maxHeartbeats 4000000 in
set_option maxRecDepth 100000 in
def lX12_what_42 (v1 : Int32) (v2 : Int32) (v3 : Int32) (v4 : Int32) (K : Int32 → ab_X → Prop)  (L42 : Int32 → ab_X → Prop) (v5 : Int32) (x : ab_X) : Prop := ((288 ≤ v5 → Lp2 (lX12_what_87 v1 v2 v3 v4 K ) 0 x) ∧ (¬ 288 ≤ v5 → (vp_in v5 288 ∧ vp_in v5 288 ∧ vp_in v5 288 ∧ vp_in v5 288 ∧ L42 (v5 + 1) (wr (wr x 333 (Int32.toNatClampNeg v5) (x.1 266 (Int32.toNatClampNeg v5))) 334 (Int32.toNatClampNeg v5) ((wr x 333 (Int32.toNatClampNeg v5) (x.1 266 (Int32.toNatClampNeg v5))).1 267 (Int32.toNatClampNeg v5))))))
set_option maxHeartbeats 4000000 in
set_option maxRecDepth 100000 in
theorem sX12_what_42 (v1 : Int32) (v2 : Int32) (v3 : Int32) (v4 : Int32) (v5 : Int32)  (x : ab_X) (K : Int32 → ab_X → Prop)  (d bc bs : Nat) (hdp : 5 ≤ d)  (h : Lp2 (lX12_what_42 v1 v2 v3 v4 K ) v5 x) : EW MX12_what 42 [(0, .ref 246), (1, .int v1), (2, .int v2), (3, .int v3), (4, .int v4), (5, .int v5)] [] (aS x) d bc bs (liI K) := by
  refine Lp2.use (P := fun v5 x => EW MX12_what 42 [(0, .ref 246), (1, .int v1), (2, .int v2), (3, .int v3), (4, .int v4), (5, .int v5)] [] (aS x) d bc bs (liI K)) (fun L42 v5 x hL42 h => ?_) v5 x h
  unfold lX12_what_42 at h
  refine EW_iload (pc2 := 44) rfl dX12_what_42 5 rfl ?_
  refine EW_sipush (pc2 := 47) (v := 288) rfl dX12_what_44 (by decide) ?_
  refine EW_icmp_ge (tgt := 84) (pc2 := 50) rfl dX12_what_47 (by decide) (fun q => ?_) (fun q => ?_)
  · replace h := h.1 q
    refine EW_iconst (pc2 := 85) (v := 0) rfl dX12_what_84 (by decide) ?_
    refine EW_istore (pc2 := 87) rfl dX12_what_85 (by decide) [1, 2, 3, 4, 5, 0] [(0, .ref 246), (1, .int v1), (2, .int v2), (3, .int v3), (4, .int v4), (5, .int 0)] rfl ?_
    exact sX12_what_87 v1 v2 v3 v4 0 x K d bc bs hdp h
  · replace h := h.2 q
    refine EW_aload_n (pc2 := 51) rfl dX12_what_50 0 rfl ?_
    refine AW_getr (r := 333) ⟨gfRX12_284, rfl⟩ (pc2 := 54) rfl dX12_what_51 q246 rfl ?_
    refine EW_iload (pc2 := 56) rfl dX12_what_54 5 rfl ?_
    refine EW_aload_n (pc2 := 57) rfl dX12_what_56 0 rfl ?_
    refine AW_getr (r := 266) ⟨gfRX12_68, rfl⟩ (pc2 := 60) rfl dX12_what_57 q246 rfl ?_
    refine EW_iload (pc2 := 62) rfl dX12_what_60 5 rfl ?_
    obtain ⟨b4, h⟩ := h
    refine AW_iald (pc2 := 63) rfl dX12_what_62 q266 b4 ?_
    obtain ⟨b5, h⟩ := h
    refine AW_iast (pc2 := 64) rfl dX12_what_63 q333 b5 ?_
    refine EW_aload_n (pc2 := 65) rfl dX12_what_64 0 rfl ?_
    refine AW_getr (r := 334) ⟨gfRX12_287, rfl⟩ (pc2 := 68) rfl dX12_what_65 q246 rfl ?_
    refine EW_iload (pc2 := 70) rfl dX12_what_68 5 rfl ?_
    refine EW_aload_n (pc2 := 71) rfl dX12_what_70 0 rfl ?_
    refine AW_getr (r := 267) ⟨gfRX12_71, rfl⟩ (pc2 := 74) rfl dX12_what_71 q246 rfl ?_
    refine EW_iload (pc2 := 76) rfl dX12_what_74 5 rfl ?_
    obtain ⟨b6, h⟩ := h
    refine AW_iald (pc2 := 77) rfl dX12_what_76 q267 b6 ?_
    obtain ⟨b7, h⟩ := h
    refine AW_iast (pc2 := 78) rfl dX12_what_77 q334 b7 ?_
    refine EW_iinc (v5 + 1) (pc2 := 81) rfl dX12_what_78 5 rfl rfl (by decide) [1, 2, 3, 4, 5, 0] [(0, .ref 246), (1, .int v1), (2, .int v2), (3, .int v3), (4, .int v4), (5, .int (v5 + 1))] rfl ?_
    refine EW_goto (tgt := 42) dX12_what_81 (by decide) ?_
    exact hL42 (v5 + 1) (wr (wr x 333 (Int32.toNatClampNeg v5) (x.1 266 (Int32.toNatClampNeg v5))) 334 (Int32.toNatClampNeg v5) ((wr x 333 (Int32.toNatClampNeg v5) (x.1 266 (Int32.toNatClampNeg v5))).1 267 (Int32.toNatClampNeg v5))) h
set_option maxHeartbeats 4000000 in
set_option maxRecDepth 100000 in
def wX12_what (v1 : Int32) (v2 : Int32) (v3 : Int32) (v4 : Int32) (x : ab_X) (K : Int32 → ab_X → Prop) : Prop := wX12_isRoom v1 v2 (wr x 246 0 0) (fun r1 => ((r1 = 0 → K (-1) (wr x 246 0 0)) ∧ (¬ r1 = 0 → wX12_isIn v3 0 500 (wr x 246 0 0) (fun r2 => ((r2 = 0 → K (-1) (wr x 246 0 0)) ∧ (¬ r2 = 0 → wX12_isIn v4 1 200 (wr x 246 0 0) (fun r3 => ((¬ r3 = 0 → Lp2 (lX12_what_42 v1 v2 v3 v4 K ) 0 (wr x 246 0 0)) ∧ (r3 = 0 → K (-1) (wr x 246 0 0))))))))))
set_option maxHeartbeats 4000000 in
set_option maxRecDepth 100000 in
theorem sX12_what (v1 : Int32) (v2 : Int32) (v3 : Int32) (v4 : Int32)  (x : ab_X) (K : Int32 → ab_X → Prop) (d bc bs : Nat) (hdp : 5 ≤ d) (h : wX12_what v1 v2 v3 v4 x K) : EW MX12_what 0 [(0, .ref 246), (1, .int v1), (2, .int v2), (3, .int v3), (4, .int v4)] [] (aS x) d bc bs (liI K) := by
  unfold wX12_what at h
  refine EW_aload_n (pc2 := 1) rfl dX12_what_0 0 rfl ?_
  refine EW_iconst (pc2 := 2) (v := 0) rfl dX12_what_1 (by decide) ?_
  refine AW_puti ⟨gfRX12_297, rfl, rfl⟩ (pc2 := 5) rfl dX12_what_2 q246 ?_
  refine EW_aload_n (pc2 := 6) rfl dX12_what_5 0 rfl ?_
  refine EW_iload_n (pc2 := 7) rfl dX12_what_6 1 rfl ?_
  refine EW_iload_n (pc2 := 8) rfl dX12_what_7 2 rfl ?_
  refine AW_invV (M' := MX12_isRoom) [.int v1, .int v2] (rest := []) mlRX12_354 okX12_isRoom (pc2 := 11) rfl dX12_what_8 rfl rfl (Nat.le_of_ble_eq_true rfl) (Nat.le_of_ble_eq_true rfl) (d' := 1) (by omega) q246 ⟨by decide, rfl⟩ (EW_mono (fun _ _ hr => ?_) (sX12_isRoom v1 v2  (wr x 246 0 0) _ _ 0 0 (Nat.le_refl _) h))
  obtain ⟨r1, rfl, rfl, h⟩ := hr
  refine EW_if_eq (tgt := 37) (pc2 := 14) rfl dX12_what_11 (by decide) (fun q => ?_) (fun q => ?_)
  · replace h := h.1 q
    refine EW_iconst (pc2 := 38) (v := (-1)) rfl dX12_what_37 (by decide) ?_
    exact AW_iret rfl dX12_what_38 ⟨_, _, rfl, rfl, h⟩
  · replace h := h.2 q
    refine EW_iload_n (pc2 := 15) rfl dX12_what_14 3 rfl ?_
    refine EW_iconst (pc2 := 16) (v := 0) rfl dX12_what_15 (by decide) ?_
    refine EW_sipush (pc2 := 19) (v := 500) rfl dX12_what_16 (by decide) ?_
    refine AW_invS (M' := MX12_isIn) [.int v3, .int 0, .int 500] (rest := []) mlRX12_307 okX12_isIn (pc2 := 22) rfl dX12_what_19 rfl rfl (Nat.le_of_ble_eq_true rfl) (Nat.le_of_ble_eq_true rfl) (d' := 0) (by omega) (EW_mono (fun _ _ hr => ?_) (sX12_isIn v3 0 500  (wr x 246 0 0) _ _ 0 0 (Nat.le_refl _) h))
    obtain ⟨r2, rfl, rfl, h⟩ := hr
    refine EW_if_eq (tgt := 37) (pc2 := 25) rfl dX12_what_22 (by decide) (fun q => ?_) (fun q => ?_)
    · replace h := h.1 q
      refine EW_iconst (pc2 := 38) (v := (-1)) rfl dX12_what_37 (by decide) ?_
      exact AW_iret rfl dX12_what_38 ⟨_, _, rfl, rfl, h⟩
    · replace h := h.2 q
      refine EW_iload (pc2 := 27) rfl dX12_what_25 4 rfl ?_
      refine EW_iconst (pc2 := 28) (v := 1) rfl dX12_what_27 (by decide) ?_
      refine EW_sipush (pc2 := 31) (v := 200) rfl dX12_what_28 (by decide) ?_
      refine AW_invS (M' := MX12_isIn) [.int v4, .int 1, .int 200] (rest := []) mlRX12_307 okX12_isIn (pc2 := 34) rfl dX12_what_31 rfl rfl (Nat.le_of_ble_eq_true rfl) (Nat.le_of_ble_eq_true rfl) (d' := 0) (by omega) (EW_mono (fun _ _ hr => ?_) (sX12_isIn v4 1 200  (wr x 246 0 0) _ _ 0 0 (Nat.le_refl _) h))
      obtain ⟨r3, rfl, rfl, h⟩ := hr
      refine EW_if_ne (tgt := 39) (pc2 := 37) rfl dX12_what_34 (by decide) (fun q => ?_) (fun q => ?_)
      · replace h := h.1 q
        refine EW_iconst (pc2 := 40) (v := 0) rfl dX12_what_39 (by decide) ?_
        refine EW_istore (pc2 := 42) rfl dX12_what_40 (by decide) [1, 2, 3, 4, 5, 0] [(0, .ref 246), (1, .int v1), (2, .int v2), (3, .int v3), (4, .int v4), (5, .int 0)] rfl ?_
        exact sX12_what_42 v1 v2 v3 v4 0 (wr x 246 0 0) K d bc bs hdp h
      · replace h := h.2 q
        refine EW_iconst (pc2 := 38) (v := (-1)) rfl dX12_what_37 (by decide) ?_
        exact AW_iret rfl dX12_what_38 ⟨_, _, rfl, rfl, h⟩
abbrev MX12_why : ab_M := (yX12_why, cX12_why, 3, (some .int))
theorem dX12_why_0 : decode cX12_why 0 = .ok (.aload_n 0, 1) := by decide +kernel
theorem dX12_why_1 : decode cX12_why 1 = .ok (.iconst 0, 1) := by decide +kernel
theorem dX12_why_2 : decode cX12_why 2 = .ok (.putfield 297, 3) := by decide +kernel
theorem dX12_why_5 : decode cX12_why 5 = .ok (.iload_n 1, 1) := by decide +kernel
theorem dX12_why_6 : decode cX12_why 6 = .ok (.invokestatic 303, 3) := by decide +kernel
theorem dX12_why_9 : decode cX12_why 9 = .ok (.ifCond .eq 12, 3) := by decide +kernel
theorem dX12_why_12 : decode cX12_why 12 = .ok (.iload_n 2, 1) := by decide +kernel
theorem dX12_why_13 : decode cX12_why 13 = .ok (.iconst 1, 1) := by decide +kernel
theorem dX12_why_14 : decode cX12_why 14 = .ok (.iconst 3, 1) := by decide +kernel
theorem dX12_why_15 : decode cX12_why 15 = .ok (.invokestatic 307, 3) := by decide +kernel
theorem dX12_why_18 : decode cX12_why 18 = .ok (.ifCond .ne 5, 3) := by decide +kernel
theorem dX12_why_21 : decode cX12_why 21 = .ok (.iconst (-1), 1) := by decide +kernel
theorem dX12_why_22 : decode cX12_why 22 = .ok (.ireturn, 1) := by decide +kernel
theorem dX12_why_23 : decode cX12_why 23 = .ok (.aload_n 0, 1) := by decide +kernel
theorem dX12_why_24 : decode cX12_why 24 = .ok (.iload_n 1, 1) := by decide +kernel
theorem dX12_why_25 : decode cX12_why 25 = .ok (.iload_n 2, 1) := by decide +kernel
theorem dX12_why_26 : decode cX12_why 26 = .ok (.invokevirtual 540, 3) := by decide +kernel
theorem dX12_why_29 : decode cX12_why 29 = .ok (.aload_n 0, 1) := by decide +kernel
theorem dX12_why_30 : decode cX12_why 30 = .ok (.getfield 494, 3) := by decide +kernel
theorem dX12_why_33 : decode cX12_why 33 = .ok (.ireturn, 1) := by decide +kernel
theorem okX12_why : ab_okM MX12_why 2 := ⟨by decide, ⟨by decide, by decide⟩, ab_in 2514 (by decide +kernel) (by decide +kernel), ab_in 99 (by decide +kernel) (by decide +kernel), by decide +kernel, by decide⟩
set_option maxHeartbeats 4000000 in
set_option maxRecDepth 100000 in
def wX12_why (v1 : Int32) (v2 : Int32) (x : ab_X) (K : Int32 → ab_X → Prop) : Prop := wX12_isCorner v1 (wr x 246 0 0) (fun r1 => ((r1 = 0 → K (-1) (wr x 246 0 0)) ∧ (¬ r1 = 0 → wX12_isIn v2 1 3 (wr x 246 0 0) (fun r2 => ((¬ r2 = 0 → wX12_askFor v1 v2 (wr x 246 0 0) (fun x3 => K (x3.1 246 75) x3)) ∧ (r2 = 0 → K (-1) (wr x 246 0 0)))))))
set_option maxHeartbeats 4000000 in
set_option maxRecDepth 100000 in
theorem sX12_why (v1 : Int32) (v2 : Int32)  (x : ab_X) (K : Int32 → ab_X → Prop) (d bc bs : Nat) (hdp : 211 ≤ d) (h : wX12_why v1 v2 x K) : EW MX12_why 0 [(0, .ref 246), (1, .int v1), (2, .int v2)] [] (aS x) d bc bs (liI K) := by
  unfold wX12_why at h
  refine EW_aload_n (pc2 := 1) rfl dX12_why_0 0 rfl ?_
  refine EW_iconst (pc2 := 2) (v := 0) rfl dX12_why_1 (by decide) ?_
  refine AW_puti ⟨gfRX12_297, rfl, rfl⟩ (pc2 := 5) rfl dX12_why_2 q246 ?_
  refine EW_iload_n (pc2 := 6) rfl dX12_why_5 1 rfl ?_
  refine AW_invS (M' := MX12_isCorner) [.int v1] (rest := []) mlRX12_303 okX12_isCorner (pc2 := 9) rfl dX12_why_6 rfl rfl (Nat.le_of_ble_eq_true rfl) (Nat.le_of_ble_eq_true rfl) (d' := 0) (by omega) (EW_mono (fun _ _ hr => ?_) (sX12_isCorner v1  (wr x 246 0 0) _ _ 0 0 (Nat.le_refl _) h))
  obtain ⟨r1, rfl, rfl, h⟩ := hr
  refine EW_if_eq (tgt := 21) (pc2 := 12) rfl dX12_why_9 (by decide) (fun q => ?_) (fun q => ?_)
  · replace h := h.1 q
    refine EW_iconst (pc2 := 22) (v := (-1)) rfl dX12_why_21 (by decide) ?_
    exact AW_iret rfl dX12_why_22 ⟨_, _, rfl, rfl, h⟩
  · replace h := h.2 q
    refine EW_iload_n (pc2 := 13) rfl dX12_why_12 2 rfl ?_
    refine EW_iconst (pc2 := 14) (v := 1) rfl dX12_why_13 (by decide) ?_
    refine EW_iconst (pc2 := 15) (v := 3) rfl dX12_why_14 (by decide) ?_
    refine AW_invS (M' := MX12_isIn) [.int v2, .int 1, .int 3] (rest := []) mlRX12_307 okX12_isIn (pc2 := 18) rfl dX12_why_15 rfl rfl (Nat.le_of_ble_eq_true rfl) (Nat.le_of_ble_eq_true rfl) (d' := 0) (by omega) (EW_mono (fun _ _ hr => ?_) (sX12_isIn v2 1 3  (wr x 246 0 0) _ _ 0 0 (Nat.le_refl _) h))
    obtain ⟨r2, rfl, rfl, h⟩ := hr
    refine EW_if_ne (tgt := 23) (pc2 := 21) rfl dX12_why_18 (by decide) (fun q => ?_) (fun q => ?_)
    · replace h := h.1 q
      refine EW_aload_n (pc2 := 24) rfl dX12_why_23 0 rfl ?_
      refine EW_iload_n (pc2 := 25) rfl dX12_why_24 1 rfl ?_
      refine EW_iload_n (pc2 := 26) rfl dX12_why_25 2 rfl ?_
      refine AW_invV (M' := MX12_askFor) [.int v1, .int v2] (rest := []) mlRX12_540 okX12_askFor (pc2 := 29) rfl dX12_why_26 rfl rfl (Nat.le_of_ble_eq_true rfl) (Nat.le_of_ble_eq_true rfl) (d' := 210) (by omega) q246 ⟨by decide, rfl⟩ (EW_mono (fun _ _ hr => ?_) (sX12_askFor v1 v2  (wr x 246 0 0) _ _ 0 0 (Nat.le_refl _) h))
      obtain ⟨x3, rfl, rfl, h⟩ := hr
      refine EW_aload_n (pc2 := 30) rfl dX12_why_29 0 rfl ?_
      refine AW_geti ⟨gfRX12_494, rfl⟩ (pc2 := 33) rfl dX12_why_30 q246 ?_
      exact AW_iret rfl dX12_why_33 ⟨_, _, rfl, rfl, h⟩
    · replace h := h.2 q
      refine EW_iconst (pc2 := 22) (v := (-1)) rfl dX12_why_21 (by decide) ?_
      exact AW_iret rfl dX12_why_22 ⟨_, _, rfl, rfl, h⟩
