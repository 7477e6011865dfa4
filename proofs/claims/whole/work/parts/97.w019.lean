theorem mlRX12_369 : Cond.methodLink RX12 369 yX12_beside ∈ ab_G ∧ Cond.instanceMethod yX12_beside ∈ ab_G ∧ Cond.selects RX12 yX12_beside yX12_beside ∈ ab_G := ⟨ab_in 2595 (by decide +kernel) (by decide +kernel), ab_in 2597 (by decide +kernel) (by decide +kernel), ab_in 69 (by decide +kernel) (by decide +kernel)⟩
theorem mlRX12_372 : Cond.methodLink RX12 372 yX12_fromBeside ∈ ab_G ∧ Cond.instanceMethod yX12_fromBeside ∈ ab_G ∧ Cond.selects RX12 yX12_fromBeside yX12_fromBeside ∈ ab_G := ⟨ab_in 2599 (by decide +kernel) (by decide +kernel), ab_in 2601 (by decide +kernel) (by decide +kernel), ab_in 70 (by decide +kernel) (by decide +kernel)⟩
theorem gfRX12_74 : ab_L RX12 74 12 24 := ⟨by decide, by decide, ab_in 1873 (by decide +kernel) (by decide +kernel)⟩
theorem gfRX12_44 : ab_L RX12 44 12 14 := ⟨by decide, by decide, ab_in 1863 (by decide +kernel) (by decide +kernel)⟩
abbrev MX12_gain : ab_M := (yX12_gain, cX12_gain, 8, (some .int))
theorem dX12_gain_0 : decode cX12_gain 0 = .ok (.aload_n 0, 1) := by decide +kernel
theorem dX12_gain_1 : decode cX12_gain 1 = .ok (.getfield 41, 3) := by decide +kernel
theorem dX12_gain_4 : decode cX12_gain 4 = .ok (.iload_n 1, 1) := by decide +kernel
theorem dX12_gain_5 : decode cX12_gain 5 = .ok (.iaload, 1) := by decide +kernel
theorem dX12_gain_6 : decode cX12_gain 6 = .ok (.istore_n 3, 1) := by decide +kernel
theorem dX12_gain_7 : decode cX12_gain 7 = .ok (.aload_n 0, 1) := by decide +kernel
theorem dX12_gain_8 : decode cX12_gain 8 = .ok (.iload_n 1, 1) := by decide +kernel
theorem dX12_gain_9 : decode cX12_gain 9 = .ok (.iload_n 2, 1) := by decide +kernel
theorem dX12_gain_10 : decode cX12_gain 10 = .ok (.invokevirtual 345, 3) := by decide +kernel
theorem dX12_gain_13 : decode cX12_gain 13 = .ok (.istore 4, 2) := by decide +kernel
theorem dX12_gain_15 : decode cX12_gain 15 = .ok (.iload_n 2, 1) := by decide +kernel
theorem dX12_gain_16 : decode cX12_gain 16 = .ok (.iload_n 3, 1) := by decide +kernel
theorem dX12_gain_17 : decode cX12_gain 17 = .ok (.irem, 1) := by decide +kernel
theorem dX12_gain_18 : decode cX12_gain 18 = .ok (.istore 5, 2) := by decide +kernel
theorem dX12_gain_20 : decode cX12_gain 20 = .ok (.aload_n 0, 1) := by decide +kernel
theorem dX12_gain_21 : decode cX12_gain 21 = .ok (.iload_n 1, 1) := by decide +kernel
theorem dX12_gain_22 : decode cX12_gain 22 = .ok (.iload_n 2, 1) := by decide +kernel
theorem dX12_gain_23 : decode cX12_gain 23 = .ok (.invokevirtual 348, 3) := by decide +kernel
theorem dX12_gain_26 : decode cX12_gain 26 = .ok (.ifCond .eq 8, 3) := by decide +kernel
theorem dX12_gain_29 : decode cX12_gain 29 = .ok (.bipush 50, 2) := by decide +kernel
theorem dX12_gain_31 : decode cX12_gain 31 = .ok (.goto 5, 3) := by decide +kernel
theorem dX12_gain_34 : decode cX12_gain 34 = .ok (.bipush (-10), 2) := by decide +kernel
theorem dX12_gain_36 : decode cX12_gain 36 = .ok (.istore 6, 2) := by decide +kernel
theorem dX12_gain_38 : decode cX12_gain 38 = .ok (.aload_n 0, 1) := by decide +kernel
theorem dX12_gain_39 : decode cX12_gain 39 = .ok (.getfield 65, 3) := by decide +kernel
theorem dX12_gain_42 : decode cX12_gain 42 = .ok (.iload_n 1, 1) := by decide +kernel
theorem dX12_gain_43 : decode cX12_gain 43 = .ok (.baload, 1) := by decide +kernel
theorem dX12_gain_44 : decode cX12_gain 44 = .ok (.ifCond .eq 8, 3) := by decide +kernel
theorem dX12_gain_47 : decode cX12_gain 47 = .ok (.bipush 30, 2) := by decide +kernel
theorem dX12_gain_49 : decode cX12_gain 49 = .ok (.goto 5, 3) := by decide +kernel
theorem dX12_gain_52 : decode cX12_gain 52 = .ok (.bipush 10, 2) := by decide +kernel
theorem dX12_gain_54 : decode cX12_gain 54 = .ok (.istore 7, 2) := by decide +kernel
theorem dX12_gain_56 : decode cX12_gain 56 = .ok (.iload 5, 2) := by decide +kernel
theorem dX12_gain_58 : decode cX12_gain 58 = .ok (.ifCond .le 21, 3) := by decide +kernel
theorem dX12_gain_61 : decode cX12_gain 61 = .ok (.aload_n 0, 1) := by decide +kernel
theorem dX12_gain_62 : decode cX12_gain 62 = .ok (.iload_n 1, 1) := by decide +kernel
theorem dX12_gain_63 : decode cX12_gain 63 = .ok (.iload_n 2, 1) := by decide +kernel
theorem dX12_gain_64 : decode cX12_gain 64 = .ok (.iconst 1, 1) := by decide +kernel
theorem dX12_gain_65 : decode cX12_gain 65 = .ok (.isub, 1) := by decide +kernel
theorem dX12_gain_66 : decode cX12_gain 66 = .ok (.invokevirtual 348, 3) := by decide +kernel
theorem dX12_gain_69 : decode cX12_gain 69 = .ok (.ifCond .eq 10, 3) := by decide +kernel
theorem dX12_gain_72 : decode cX12_gain 72 = .ok (.iload 6, 2) := by decide +kernel
theorem dX12_gain_74 : decode cX12_gain 74 = .ok (.iload 7, 2) := by decide +kernel
theorem dX12_gain_76 : decode cX12_gain 76 = .ok (.iadd, 1) := by decide +kernel
theorem dX12_gain_77 : decode cX12_gain 77 = .ok (.istore 6, 2) := by decide +kernel
theorem dX12_gain_79 : decode cX12_gain 79 = .ok (.iload 5, 2) := by decide +kernel
theorem dX12_gain_81 : decode cX12_gain 81 = .ok (.iload_n 3, 1) := by decide +kernel
theorem dX12_gain_82 : decode cX12_gain 82 = .ok (.iconst 1, 1) := by decide +kernel
theorem dX12_gain_83 : decode cX12_gain 83 = .ok (.isub, 1) := by decide +kernel
theorem dX12_gain_84 : decode cX12_gain 84 = .ok (.if_icmp .ge 21, 3) := by decide +kernel
theorem dX12_gain_87 : decode cX12_gain 87 = .ok (.aload_n 0, 1) := by decide +kernel
theorem dX12_gain_88 : decode cX12_gain 88 = .ok (.iload_n 1, 1) := by decide +kernel
theorem dX12_gain_89 : decode cX12_gain 89 = .ok (.iload_n 2, 1) := by decide +kernel
theorem dX12_gain_90 : decode cX12_gain 90 = .ok (.iconst 1, 1) := by decide +kernel
theorem dX12_gain_91 : decode cX12_gain 91 = .ok (.iadd, 1) := by decide +kernel
theorem dX12_gain_92 : decode cX12_gain 92 = .ok (.invokevirtual 348, 3) := by decide +kernel
theorem dX12_gain_95 : decode cX12_gain 95 = .ok (.ifCond .eq 10, 3) := by decide +kernel
theorem dX12_gain_98 : decode cX12_gain 98 = .ok (.iload 6, 2) := by decide +kernel
theorem dX12_gain_100 : decode cX12_gain 100 = .ok (.iload 7, 2) := by decide +kernel
theorem dX12_gain_102 : decode cX12_gain 102 = .ok (.iadd, 1) := by decide +kernel
theorem dX12_gain_103 : decode cX12_gain 103 = .ok (.istore 6, 2) := by decide +kernel
theorem dX12_gain_105 : decode cX12_gain 105 = .ok (.iload 4, 2) := by decide +kernel
theorem dX12_gain_107 : decode cX12_gain 107 = .ok (.ifCond .le 37, 3) := by decide +kernel
theorem dX12_gain_110 : decode cX12_gain 110 = .ok (.aload_n 0, 1) := by decide +kernel
theorem dX12_gain_111 : decode cX12_gain 111 = .ok (.iload_n 1, 1) := by decide +kernel
theorem dX12_gain_112 : decode cX12_gain 112 = .ok (.iload_n 2, 1) := by decide +kernel
theorem dX12_gain_113 : decode cX12_gain 113 = .ok (.iload_n 3, 1) := by decide +kernel
theorem dX12_gain_114 : decode cX12_gain 114 = .ok (.isub, 1) := by decide +kernel
theorem dX12_gain_115 : decode cX12_gain 115 = .ok (.invokevirtual 348, 3) := by decide +kernel
theorem dX12_gain_118 : decode cX12_gain 118 = .ok (.ifCond .eq 26, 3) := by decide +kernel
theorem dX12_gain_121 : decode cX12_gain 121 = .ok (.iload 6, 2) := by decide +kernel
theorem dX12_gain_123 : decode cX12_gain 123 = .ok (.iload 5, 2) := by decide +kernel
theorem dX12_gain_125 : decode cX12_gain 125 = .ok (.aload_n 0, 1) := by decide +kernel
theorem dX12_gain_126 : decode cX12_gain 126 = .ok (.getfield 44, 3) := by decide +kernel
theorem dX12_gain_129 : decode cX12_gain 129 = .ok (.iload_n 1, 1) := by decide +kernel
theorem dX12_gain_130 : decode cX12_gain 130 = .ok (.iaload, 1) := by decide +kernel
theorem dX12_gain_131 : decode cX12_gain 131 = .ok (.if_icmp .ne 8, 3) := by decide +kernel
theorem dX12_gain_134 : decode cX12_gain 134 = .ok (.bipush 60, 2) := by decide +kernel
theorem dX12_gain_136 : decode cX12_gain 136 = .ok (.goto 5, 3) := by decide +kernel
theorem dX12_gain_139 : decode cX12_gain 139 = .ok (.bipush 20, 2) := by decide +kernel
theorem dX12_gain_141 : decode cX12_gain 141 = .ok (.iadd, 1) := by decide +kernel
theorem dX12_gain_142 : decode cX12_gain 142 = .ok (.istore 6, 2) := by decide +kernel
theorem dX12_gain_144 : decode cX12_gain 144 = .ok (.iload 4, 2) := by decide +kernel
theorem dX12_gain_146 : decode cX12_gain 146 = .ok (.aload_n 0, 1) := by decide +kernel
theorem dX12_gain_147 : decode cX12_gain 147 = .ok (.getfield 38, 3) := by decide +kernel
theorem dX12_gain_150 : decode cX12_gain 150 = .ok (.iload_n 1, 1) := by decide +kernel
theorem dX12_gain_151 : decode cX12_gain 151 = .ok (.iaload, 1) := by decide +kernel
theorem dX12_gain_152 : decode cX12_gain 152 = .ok (.iconst 1, 1) := by decide +kernel
theorem dX12_gain_153 : decode cX12_gain 153 = .ok (.isub, 1) := by decide +kernel
theorem dX12_gain_154 : decode cX12_gain 154 = .ok (.if_icmp .ge 17, 3) := by decide +kernel
theorem dX12_gain_157 : decode cX12_gain 157 = .ok (.aload_n 0, 1) := by decide +kernel
theorem dX12_gain_158 : decode cX12_gain 158 = .ok (.iload_n 1, 1) := by decide +kernel
theorem dX12_gain_159 : decode cX12_gain 159 = .ok (.iload_n 2, 1) := by decide +kernel
theorem dX12_gain_160 : decode cX12_gain 160 = .ok (.iload_n 3, 1) := by decide +kernel
theorem dX12_gain_161 : decode cX12_gain 161 = .ok (.iadd, 1) := by decide +kernel
theorem dX12_gain_162 : decode cX12_gain 162 = .ok (.invokevirtual 348, 3) := by decide +kernel
theorem dX12_gain_165 : decode cX12_gain 165 = .ok (.ifCond .eq 6, 3) := by decide +kernel
theorem dX12_gain_168 : decode cX12_gain 168 = .ok (.iinc 6 5, 3) := by decide +kernel
theorem dX12_gain_171 : decode cX12_gain 171 = .ok (.iload 6, 2) := by decide +kernel
theorem dX12_gain_173 : decode cX12_gain 173 = .ok (.aload_n 0, 1) := by decide +kernel
theorem dX12_gain_174 : decode cX12_gain 174 = .ok (.iload_n 1, 1) := by decide +kernel
theorem dX12_gain_175 : decode cX12_gain 175 = .ok (.aload_n 0, 1) := by decide +kernel
theorem dX12_gain_176 : decode cX12_gain 176 = .ok (.iload_n 1, 1) := by decide +kernel
theorem dX12_gain_177 : decode cX12_gain 177 = .ok (.iconst (-1), 1) := by decide +kernel
theorem dX12_gain_178 : decode cX12_gain 178 = .ok (.invokevirtual 369, 3) := by decide +kernel
theorem dX12_gain_181 : decode cX12_gain 181 = .ok (.iload 4, 2) := by decide +kernel
theorem dX12_gain_183 : decode cX12_gain 183 = .ok (.invokevirtual 372, 3) := by decide +kernel
theorem dX12_gain_186 : decode cX12_gain 186 = .ok (.aload_n 0, 1) := by decide +kernel
theorem dX12_gain_187 : decode cX12_gain 187 = .ok (.iload_n 1, 1) := by decide +kernel
theorem dX12_gain_188 : decode cX12_gain 188 = .ok (.aload_n 0, 1) := by decide +kernel
theorem dX12_gain_189 : decode cX12_gain 189 = .ok (.iload_n 1, 1) := by decide +kernel
theorem dX12_gain_190 : decode cX12_gain 190 = .ok (.iconst 1, 1) := by decide +kernel
theorem dX12_gain_191 : decode cX12_gain 191 = .ok (.invokevirtual 369, 3) := by decide +kernel
theorem dX12_gain_194 : decode cX12_gain 194 = .ok (.iload 4, 2) := by decide +kernel
theorem dX12_gain_196 : decode cX12_gain 196 = .ok (.invokevirtual 372, 3) := by decide +kernel
theorem dX12_gain_199 : decode cX12_gain 199 = .ok (.iadd, 1) := by decide +kernel
theorem dX12_gain_200 : decode cX12_gain 200 = .ok (.iadd, 1) := by decide +kernel
theorem dX12_gain_201 : decode cX12_gain 201 = .ok (.istore 6, 2) := by decide +kernel
theorem dX12_gain_203 : decode cX12_gain 203 = .ok (.iload 6, 2) := by decide +kernel
theorem dX12_gain_205 : decode cX12_gain 205 = .ok (.aload_n 0, 1) := by decide +kernel
theorem dX12_gain_206 : decode cX12_gain 206 = .ok (.getfield 74, 3) := by decide +kernel
theorem dX12_gain_209 : decode cX12_gain 209 = .ok (.bipush 24, 2) := by decide +kernel
theorem dX12_gain_211 : decode cX12_gain 211 = .ok (.iload_n 1, 1) := by decide +kernel
theorem dX12_gain_212 : decode cX12_gain 212 = .ok (.imul, 1) := by decide +kernel
theorem dX12_gain_213 : decode cX12_gain 213 = .ok (.iload_n 2, 1) := by decide +kernel
theorem dX12_gain_214 : decode cX12_gain 214 = .ok (.iadd, 1) := by decide +kernel
theorem dX12_gain_215 : decode cX12_gain 215 = .ok (.iaload, 1) := by decide +kernel
theorem dX12_gain_216 : decode cX12_gain 216 = .ok (.iconst 4, 1) := by decide +kernel
theorem dX12_gain_217 : decode cX12_gain 217 = .ok (.idiv, 1) := by decide +kernel
theorem dX12_gain_218 : decode cX12_gain 218 = .ok (.isub, 1) := by decide +kernel
theorem dX12_gain_219 : decode cX12_gain 219 = .ok (.ireturn, 1) := by decide +kernel
theorem okX12_gain : ab_okM MX12_gain 2 := ⟨by decide, ⟨by decide, by decide⟩, ab_in 2594 (by decide +kernel) (by decide +kernel), ab_in 99 (by decide +kernel) (by decide +kernel), by decide +kernel, by decide⟩
set_option maxHeartbeats 4000000 in
set_option maxRecDepth 100000 in
theorem sX12_gain_171 (v1 : Int32) (v2 : Int32) (v4 : Int32) (v6 : Int32)  (x : ab_X) (K : Int32 → Prop)  (d bc bs : Nat) (hdp : 3 ≤ d)  (h : wX12_gain_171 v1 v2 v4 v6 x K ) : EW MX12_gain 171 [(0, .ref 246), (1, .int v1), (2, .int v2), (4, .int v4), (6, .int v6)] [] (aS x) d bc bs (liP x K) := by
  unfold wX12_gain_171 at h
  refine EW_iload (pc2 := 173) rfl dX12_gain_171 4 rfl ?_
  refine EW_aload_n (pc2 := 174) rfl dX12_gain_173 0 rfl ?_
  refine EW_iload_n (pc2 := 175) rfl dX12_gain_174 1 rfl ?_
  refine EW_aload_n (pc2 := 176) rfl dX12_gain_175 0 rfl ?_
  refine EW_iload_n (pc2 := 177) rfl dX12_gain_176 1 rfl ?_
  refine EW_iconst (pc2 := 178) (v := (-1)) rfl dX12_gain_177 (by decide) ?_
  refine AW_invV (M' := MX12_beside) [.int v1, .int (-1)] (rest := [.int v1, .ref 246, .int v6]) mlRX12_369 okX12_beside (pc2 := 181) rfl dX12_gain_178 rfl rfl (Nat.le_of_ble_eq_true rfl) (Nat.le_of_ble_eq_true rfl) (d' := 0) (by omega) q246 ⟨by decide, rfl⟩ (EW_mono (fun _ _ hr => ?_) (sX12_beside v1 (-1)  x _ _ 0 0 (Nat.le_refl _) h))
  obtain ⟨r11, rfl, rfl, h⟩ := hr
  refine EW_iload (pc2 := 183) rfl dX12_gain_181 3 rfl ?_
  refine AW_invV (M' := MX12_fromBeside) [.int v1, .int r11, .int v4] (rest := [.int v6]) mlRX12_372 okX12_fromBeside (pc2 := 186) rfl dX12_gain_183 rfl rfl (Nat.le_of_ble_eq_true rfl) (Nat.le_of_ble_eq_true rfl) (d' := 2) (by omega) q246 ⟨by decide, rfl⟩ (EW_mono (fun _ _ hr => ?_) (sX12_fromBeside v1 r11 v4  x _ _ 0 0 (Nat.le_refl _) h))
  obtain ⟨r12, rfl, rfl, h⟩ := hr
  refine EW_aload_n (pc2 := 187) rfl dX12_gain_186 0 rfl ?_
  refine EW_iload_n (pc2 := 188) rfl dX12_gain_187 1 rfl ?_
  refine EW_aload_n (pc2 := 189) rfl dX12_gain_188 0 rfl ?_
  refine EW_iload_n (pc2 := 190) rfl dX12_gain_189 1 rfl ?_
  refine EW_iconst (pc2 := 191) (v := 1) rfl dX12_gain_190 (by decide) ?_
  refine AW_invV (M' := MX12_beside) [.int v1, .int 1] (rest := [.int v1, .ref 246, .int r12, .int v6]) mlRX12_369 okX12_beside (pc2 := 194) rfl dX12_gain_191 rfl rfl (Nat.le_of_ble_eq_true rfl) (Nat.le_of_ble_eq_true rfl) (d' := 0) (by omega) q246 ⟨by decide, rfl⟩ (EW_mono (fun _ _ hr => ?_) (sX12_beside v1 1  x _ _ 0 0 (Nat.le_refl _) h))
  obtain ⟨r13, rfl, rfl, h⟩ := hr
  refine EW_iload (pc2 := 196) rfl dX12_gain_194 3 rfl ?_
  refine AW_invV (M' := MX12_fromBeside) [.int v1, .int r13, .int v4] (rest := [.int r12, .int v6]) mlRX12_372 okX12_fromBeside (pc2 := 199) rfl dX12_gain_196 rfl rfl (Nat.le_of_ble_eq_true rfl) (Nat.le_of_ble_eq_true rfl) (d' := 2) (by omega) q246 ⟨by decide, rfl⟩ (EW_mono (fun _ _ hr => ?_) (sX12_fromBeside v1 r13 v4  x _ _ 0 0 (Nat.le_refl _) h))
  obtain ⟨r14, rfl, rfl, h⟩ := hr
  refine EW_iadd (pc2 := 200) rfl dX12_gain_199 ?_
  refine EW_iadd (pc2 := 201) rfl dX12_gain_200 ?_
  refine EW_istore (pc2 := 203) rfl dX12_gain_201 (by decide) [1, 2, 3, 4, 0] [(0, .ref 246), (1, .int v1), (2, .int v2), (4, .int v4), (6, .int (v6 + (r12 + r14)))] rfl ?_
  refine EW_iload (pc2 := 205) rfl dX12_gain_203 4 rfl ?_
  refine EW_aload_n (pc2 := 206) rfl dX12_gain_205 0 rfl ?_
  refine AW_getr (r := 268) ⟨gfRX12_74, rfl⟩ (pc2 := 209) rfl dX12_gain_206 q246 rfl ?_
  refine EW_bipush (pc2 := 211) (v := 24) rfl dX12_gain_209 (by decide) ?_
  refine EW_iload_n (pc2 := 212) rfl dX12_gain_211 1 rfl ?_
  refine EW_imul (pc2 := 213) rfl dX12_gain_212 ?_
  refine EW_iload_n (pc2 := 214) rfl dX12_gain_213 2 rfl ?_
  refine EW_iadd (pc2 := 215) rfl dX12_gain_214 ?_
  obtain ⟨b15, h⟩ := h
  refine AW_iald (pc2 := 216) rfl dX12_gain_215 q268 b15 ?_
  refine EW_iconst (pc2 := 217) (v := 4) rfl dX12_gain_216 (by decide) ?_
  refine EW_idiv (pc2 := 218) rfl dX12_gain_217 (by decide) ?_
  refine EW_isub (pc2 := 219) rfl dX12_gain_218 ?_
  exact AW_iret rfl dX12_gain_219 ⟨_, rfl, rfl, h⟩
set_option maxHeartbeats 4000000 in
set_option maxRecDepth 100000 in
theorem sX12_gain_144 (v1 : Int32) (v2 : Int32) (v3 : Int32) (v4 : Int32) (v6 : Int32)  (x : ab_X) (K : Int32 → Prop)  (d bc bs : Nat) (hdp : 3 ≤ d)  (h : wX12_gain_144 v1 v2 v3 v4 v6 x K ) : EW MX12_gain 144 [(0, .ref 246), (1, .int v1), (2, .int v2), (3, .int v3), (4, .int v4), (6, .int v6)] [] (aS x) d bc bs (liP x K) := by
  unfold wX12_gain_144 at h
  refine EW_iload (pc2 := 146) rfl dX12_gain_144 4 rfl ?_
  refine EW_aload_n (pc2 := 147) rfl dX12_gain_146 0 rfl ?_
  refine AW_getr (r := 256) ⟨gfRX12_38, rfl⟩ (pc2 := 150) rfl dX12_gain_147 q246 rfl ?_
  refine EW_iload_n (pc2 := 151) rfl dX12_gain_150 1 rfl ?_
  obtain ⟨b9, h⟩ := h
  refine AW_iald (pc2 := 152) rfl dX12_gain_151 q256 b9 ?_
  refine EW_iconst (pc2 := 153) (v := 1) rfl dX12_gain_152 (by decide) ?_
  refine EW_isub (pc2 := 154) rfl dX12_gain_153 ?_
  refine EW_icmp_ge (tgt := 171) (pc2 := 157) rfl dX12_gain_154 (by decide) (fun q => ?_) (fun q => ?_)
  · replace h := h.1 q
    refine EW_ls [0, 1, 2, 4, 5] rfl ?_
    exact sX12_gain_171 v1 v2 v4 v6 x K d bc bs hdp h
  · replace h := h.2 q
    refine EW_aload_n (pc2 := 158) rfl dX12_gain_157 0 rfl ?_
    refine EW_iload_n (pc2 := 159) rfl dX12_gain_158 1 rfl ?_
    refine EW_iload_n (pc2 := 160) rfl dX12_gain_159 2 rfl ?_
    refine EW_iload_n (pc2 := 161) rfl dX12_gain_160 3 rfl ?_
    refine EW_iadd (pc2 := 162) rfl dX12_gain_161 ?_
    refine AW_invV (M' := MX12_burns) [.int v1, .int (v2 + v3)] (rest := []) mlRX12_348 okX12_burns (pc2 := 165) rfl dX12_gain_162 rfl rfl (Nat.le_of_ble_eq_true rfl) (Nat.le_of_ble_eq_true rfl) (d' := 1) (by omega) q246 ⟨by decide, rfl⟩ (EW_mono (fun _ _ hr => ?_) (sX12_burns v1 (v2 + v3)  x _ _ 0 0 (Nat.le_refl _) h))
    obtain ⟨r10, rfl, rfl, h⟩ := hr
    refine EW_if_eq (tgt := 171) (pc2 := 168) rfl dX12_gain_165 (by decide) (fun q => ?_) (fun q => ?_)
    · replace h := h.1 q
      refine EW_ls [0, 1, 2, 4, 5] rfl ?_
      exact sX12_gain_171 v1 v2 v4 v6 x K d bc bs hdp h
    · replace h := h.2 q
      refine EW_iinc (v6 + 5) (pc2 := 171) rfl dX12_gain_168 5 rfl rfl (by decide) [1, 2, 3, 4, 5, 0] [(0, .ref 246), (1, .int v1), (2, .int v2), (3, .int v3), (4, .int v4), (6, .int (v6 + 5))] rfl ?_
      refine EW_ls [0, 1, 2, 4, 5] rfl ?_
      exact sX12_gain_171 v1 v2 v4 (v6 + 5) x K d bc bs hdp h
set_option maxHeartbeats 4000000 in
set_option maxRecDepth 100000 in
theorem sX12_gain_141 (v1 : Int32) (v2 : Int32) (v3 : Int32) (v4 : Int32) (s0 : Int32) (s1 : Int32)  (x : ab_X) (K : Int32 → Prop)  (d bc bs : Nat) (hdp : 3 ≤ d)  (h : wX12_gain_141 v1 v2 v3 v4 s0 s1 x K ) : EW MX12_gain 141 [(0, .ref 246), (1, .int v1), (2, .int v2), (3, .int v3), (4, .int v4)] [.int s1, .int s0] (aS x) d bc bs (liP x K) := by
  unfold wX12_gain_141 at h
  refine EW_iadd (pc2 := 142) rfl dX12_gain_141 ?_
  refine EW_istore (pc2 := 144) rfl dX12_gain_142 (by decide) [1, 2, 3, 4, 5, 0] [(0, .ref 246), (1, .int v1), (2, .int v2), (3, .int v3), (4, .int v4), (6, .int (s0 + s1))] rfl ?_
  exact sX12_gain_144 v1 v2 v3 v4 (s0 + s1) x K d bc bs hdp h
set_option maxHeartbeats 4000000 in
set_option maxRecDepth 100000 in
theorem sX12_gain_105 (v1 : Int32) (v2 : Int32) (v3 : Int32) (v4 : Int32) (v5 : Int32) (v6 : Int32)  (x : ab_X) (K : Int32 → Prop)  (d bc bs : Nat) (hdp : 3 ≤ d)  (h : wX12_gain_105 v1 v2 v3 v4 v5 v6 x K ) : EW MX12_gain 105 [(0, .ref 246), (1, .int v1), (2, .int v2), (3, .int v3), (4, .int v4), (5, .int v5), (6, .int v6)] [] (aS x) d bc bs (liP x K) := by
  unfold wX12_gain_105 at h
  refine EW_iload (pc2 := 107) rfl dX12_gain_105 4 rfl ?_
  refine EW_if_le (tgt := 144) (pc2 := 110) rfl dX12_gain_107 (by decide) (fun q => ?_) (fun q => ?_)
  · replace h := h.1 q
    refine EW_ls [0, 1, 2, 3, 4, 6] rfl ?_
    exact sX12_gain_144 v1 v2 v3 v4 v6 x K d bc bs hdp h
  · replace h := h.2 q
    refine EW_aload_n (pc2 := 111) rfl dX12_gain_110 0 rfl ?_
    refine EW_iload_n (pc2 := 112) rfl dX12_gain_111 1 rfl ?_
    refine EW_iload_n (pc2 := 113) rfl dX12_gain_112 2 rfl ?_
    refine EW_iload_n (pc2 := 114) rfl dX12_gain_113 3 rfl ?_
    refine EW_isub (pc2 := 115) rfl dX12_gain_114 ?_
    refine AW_invV (M' := MX12_burns) [.int v1, .int (v2 - v3)] (rest := []) mlRX12_348 okX12_burns (pc2 := 118) rfl dX12_gain_115 rfl rfl (Nat.le_of_ble_eq_true rfl) (Nat.le_of_ble_eq_true rfl) (d' := 1) (by omega) q246 ⟨by decide, rfl⟩ (EW_mono (fun _ _ hr => ?_) (sX12_burns v1 (v2 - v3)  x _ _ 0 0 (Nat.le_refl _) h))
    obtain ⟨r7, rfl, rfl, h⟩ := hr
    refine EW_if_eq (tgt := 144) (pc2 := 121) rfl dX12_gain_118 (by decide) (fun q => ?_) (fun q => ?_)
    · replace h := h.1 q
      refine EW_ls [0, 1, 2, 3, 4, 6] rfl ?_
      exact sX12_gain_144 v1 v2 v3 v4 v6 x K d bc bs hdp h
    · replace h := h.2 q
      refine EW_iload (pc2 := 123) rfl dX12_gain_121 6 rfl ?_
      refine EW_iload (pc2 := 125) rfl dX12_gain_123 5 rfl ?_
      refine EW_aload_n (pc2 := 126) rfl dX12_gain_125 0 rfl ?_
      refine AW_getr (r := 258) ⟨gfRX12_44, rfl⟩ (pc2 := 129) rfl dX12_gain_126 q246 rfl ?_
      refine EW_iload_n (pc2 := 130) rfl dX12_gain_129 1 rfl ?_
      obtain ⟨b8, h⟩ := h
      refine AW_iald (pc2 := 131) rfl dX12_gain_130 q258 b8 ?_
      refine EW_icmp_ne (tgt := 139) (pc2 := 134) rfl dX12_gain_131 (by decide) (fun q => ?_) (fun q => ?_)
      · replace h := h.1 q
        refine EW_bipush (pc2 := 141) (v := 20) rfl dX12_gain_139 (by decide) ?_
        refine EW_ls [0, 1, 2, 3, 4] rfl ?_
        exact sX12_gain_141 v1 v2 v3 v4 v6 20 x K d bc bs hdp h
      · replace h := h.2 q
        refine EW_bipush (pc2 := 136) (v := 60) rfl dX12_gain_134 (by decide) ?_
        refine EW_goto (tgt := 141) dX12_gain_136 (by decide) ?_
        refine EW_ls [0, 1, 2, 3, 4] rfl ?_
        exact sX12_gain_141 v1 v2 v3 v4 v6 60 x K d bc bs hdp h
set_option maxHeartbeats 4000000 in
set_option maxRecDepth 100000 in
theorem sX12_gain_79 (v1 : Int32) (v2 : Int32) (v3 : Int32) (v4 : Int32) (v5 : Int32) (v6 : Int32) (v7 : Int32)  (x : ab_X) (K : Int32 → Prop)  (d bc bs : Nat) (hdp : 3 ≤ d)  (h : wX12_gain_79 v1 v2 v3 v4 v5 v6 v7 x K ) : EW MX12_gain 79 [(0, .ref 246), (1, .int v1), (2, .int v2), (3, .int v3), (4, .int v4), (5, .int v5), (6, .int v6), (7, .int v7)] [] (aS x) d bc bs (liP x K) := by
  unfold wX12_gain_79 at h
  refine EW_iload (pc2 := 81) rfl dX12_gain_79 5 rfl ?_
  refine EW_iload_n (pc2 := 82) rfl dX12_gain_81 3 rfl ?_
  refine EW_iconst (pc2 := 83) (v := 1) rfl dX12_gain_82 (by decide) ?_
  refine EW_isub (pc2 := 84) rfl dX12_gain_83 ?_
  refine EW_icmp_ge (tgt := 105) (pc2 := 87) rfl dX12_gain_84 (by decide) (fun q => ?_) (fun q => ?_)
  · replace h := h.1 q
    refine EW_ls [0, 1, 2, 3, 4, 5, 6] rfl ?_
    exact sX12_gain_105 v1 v2 v3 v4 v5 v6 x K d bc bs hdp h
  · replace h := h.2 q
    refine EW_aload_n (pc2 := 88) rfl dX12_gain_87 0 rfl ?_
    refine EW_iload_n (pc2 := 89) rfl dX12_gain_88 1 rfl ?_
    refine EW_iload_n (pc2 := 90) rfl dX12_gain_89 2 rfl ?_
    refine EW_iconst (pc2 := 91) (v := 1) rfl dX12_gain_90 (by decide) ?_
    refine EW_iadd (pc2 := 92) rfl dX12_gain_91 ?_
    refine AW_invV (M' := MX12_burns) [.int v1, .int (v2 + 1)] (rest := []) mlRX12_348 okX12_burns (pc2 := 95) rfl dX12_gain_92 rfl rfl (Nat.le_of_ble_eq_true rfl) (Nat.le_of_ble_eq_true rfl) (d' := 1) (by omega) q246 ⟨by decide, rfl⟩ (EW_mono (fun _ _ hr => ?_) (sX12_burns v1 (v2 + 1)  x _ _ 0 0 (Nat.le_refl _) h))
    obtain ⟨r6, rfl, rfl, h⟩ := hr
    refine EW_if_eq (tgt := 105) (pc2 := 98) rfl dX12_gain_95 (by decide) (fun q => ?_) (fun q => ?_)
    · replace h := h.1 q
      refine EW_ls [0, 1, 2, 3, 4, 5, 6] rfl ?_
      exact sX12_gain_105 v1 v2 v3 v4 v5 v6 x K d bc bs hdp h
    · replace h := h.2 q
      refine EW_iload (pc2 := 100) rfl dX12_gain_98 6 rfl ?_
      refine EW_iload (pc2 := 102) rfl dX12_gain_100 7 rfl ?_
      refine EW_iadd (pc2 := 103) rfl dX12_gain_102 ?_
      refine EW_istore (pc2 := 105) rfl dX12_gain_103 (by decide) [1, 2, 3, 4, 5, 6, 0, 7] [(0, .ref 246), (1, .int v1), (2, .int v2), (3, .int v3), (4, .int v4), (5, .int v5), (6, .int (v6 + v7)), (7, .int v7)] rfl ?_
      refine EW_ls [0, 1, 2, 3, 4, 5, 6] rfl ?_
      exact sX12_gain_105 v1 v2 v3 v4 v5 (v6 + v7) x K d bc bs hdp h
set_option maxHeartbeats 4000000 in
set_option maxRecDepth 100000 in
theorem sX12_gain_54 (v1 : Int32) (v2 : Int32) (v3 : Int32) (v4 : Int32) (v5 : Int32) (v6 : Int32) (s0 : Int32)  (x : ab_X) (K : Int32 → Prop)  (d bc bs : Nat) (hdp : 3 ≤ d)  (h : wX12_gain_54 v1 v2 v3 v4 v5 v6 s0 x K ) : EW MX12_gain 54 [(0, .ref 246), (1, .int v1), (2, .int v2), (3, .int v3), (4, .int v4), (5, .int v5), (6, .int v6)] [.int s0] (aS x) d bc bs (liP x K) := by
  unfold wX12_gain_54 at h
  refine EW_istore (pc2 := 56) rfl dX12_gain_54 (by decide) [1, 2, 3, 4, 5, 6, 7, 0] [(0, .ref 246), (1, .int v1), (2, .int v2), (3, .int v3), (4, .int v4), (5, .int v5), (6, .int v6), (7, .int s0)] rfl ?_
  refine EW_iload (pc2 := 58) rfl dX12_gain_56 5 rfl ?_
  refine EW_if_le (tgt := 79) (pc2 := 61) rfl dX12_gain_58 (by decide) (fun q => ?_) (fun q => ?_)
  · replace h := h.1 q
    exact sX12_gain_79 v1 v2 v3 v4 v5 v6 s0 x K d bc bs hdp h
  · replace h := h.2 q
    refine EW_aload_n (pc2 := 62) rfl dX12_gain_61 0 rfl ?_
    refine EW_iload_n (pc2 := 63) rfl dX12_gain_62 1 rfl ?_
    refine EW_iload_n (pc2 := 64) rfl dX12_gain_63 2 rfl ?_
    refine EW_iconst (pc2 := 65) (v := 1) rfl dX12_gain_64 (by decide) ?_
    refine EW_isub (pc2 := 66) rfl dX12_gain_65 ?_
    refine AW_invV (M' := MX12_burns) [.int v1, .int (v2 - 1)] (rest := []) mlRX12_348 okX12_burns (pc2 := 69) rfl dX12_gain_66 rfl rfl (Nat.le_of_ble_eq_true rfl) (Nat.le_of_ble_eq_true rfl) (d' := 1) (by omega) q246 ⟨by decide, rfl⟩ (EW_mono (fun _ _ hr => ?_) (sX12_burns v1 (v2 - 1)  x _ _ 0 0 (Nat.le_refl _) h))
    obtain ⟨r5, rfl, rfl, h⟩ := hr
    refine EW_if_eq (tgt := 79) (pc2 := 72) rfl dX12_gain_69 (by decide) (fun q => ?_) (fun q => ?_)
    · replace h := h.1 q
      exact sX12_gain_79 v1 v2 v3 v4 v5 v6 s0 x K d bc bs hdp h
    · replace h := h.2 q
      refine EW_iload (pc2 := 74) rfl dX12_gain_72 6 rfl ?_
      refine EW_iload (pc2 := 76) rfl dX12_gain_74 7 rfl ?_
      refine EW_iadd (pc2 := 77) rfl dX12_gain_76 ?_
      refine EW_istore (pc2 := 79) rfl dX12_gain_77 (by decide) [1, 2, 3, 4, 5, 6, 0, 7] [(0, .ref 246), (1, .int v1), (2, .int v2), (3, .int v3), (4, .int v4), (5, .int v5), (6, .int (v6 + s0)), (7, .int s0)] rfl ?_
      exact sX12_gain_79 v1 v2 v3 v4 v5 (v6 + s0) s0 x K d bc bs hdp h
set_option maxHeartbeats 4000000 in
set_option maxRecDepth 100000 in
theorem sX12_gain_36 (v1 : Int32) (v2 : Int32) (v3 : Int32) (v4 : Int32) (v5 : Int32) (s0 : Int32)  (x : ab_X) (K : Int32 → Prop)  (d bc bs : Nat) (hdp : 3 ≤ d)  (h : wX12_gain_36 v1 v2 v3 v4 v5 s0 x K ) : EW MX12_gain 36 [(0, .ref 246), (1, .int v1), (2, .int v2), (3, .int v3), (4, .int v4), (5, .int v5)] [.int s0] (aS x) d bc bs (liP x K) := by
  unfold wX12_gain_36 at h
  refine EW_istore (pc2 := 38) rfl dX12_gain_36 (by decide) [1, 2, 3, 4, 5, 6, 0] [(0, .ref 246), (1, .int v1), (2, .int v2), (3, .int v3), (4, .int v4), (5, .int v5), (6, .int s0)] rfl ?_
  refine EW_aload_n (pc2 := 39) rfl dX12_gain_38 0 rfl ?_
  refine AW_getr (r := 265) ⟨gfRX12_65, rfl⟩ (pc2 := 42) rfl dX12_gain_39 q246 rfl ?_
  refine EW_iload_n (pc2 := 43) rfl dX12_gain_42 1 rfl ?_
  obtain ⟨b4, h⟩ := h
  refine AW_zald (pc2 := 44) rfl dX12_gain_43 q265 b4 ?_
  refine EW_if_eq (tgt := 52) (pc2 := 47) rfl dX12_gain_44 (by decide) (fun q => ?_) (fun q => ?_)
  · replace h := h.1 q
    refine EW_bipush (pc2 := 54) (v := 10) rfl dX12_gain_52 (by decide) ?_
    exact sX12_gain_54 v1 v2 v3 v4 v5 s0 10 x K d bc bs hdp h
  · replace h := h.2 q
    refine EW_bipush (pc2 := 49) (v := 30) rfl dX12_gain_47 (by decide) ?_
    refine EW_goto (tgt := 54) dX12_gain_49 (by decide) ?_
    exact sX12_gain_54 v1 v2 v3 v4 v5 s0 30 x K d bc bs hdp h
set_option maxHeartbeats 4000000 in
set_option maxRecDepth 100000 in
theorem sX12_gain (v1 : Int32) (v2 : Int32)  (x : ab_X) (K : Int32 → Prop) (d bc bs : Nat) (hdp : 3 ≤ d) (h : wX12_gain v1 v2 x K) : EW MX12_gain 0 [(0, .ref 246), (1, .int v1), (2, .int v2)] [] (aS x) d bc bs (liP x K) := by
  unfold wX12_gain at h
  refine EW_aload_n (pc2 := 1) rfl dX12_gain_0 0 rfl ?_
  refine AW_getr (r := 257) ⟨gfRX12_41, rfl⟩ (pc2 := 4) rfl dX12_gain_1 q246 rfl ?_
  refine EW_iload_n (pc2 := 5) rfl dX12_gain_4 1 rfl ?_
  obtain ⟨b1, h⟩ := h
  refine AW_iald (pc2 := 6) rfl dX12_gain_5 q257 b1 ?_
  refine EW_istore_n (pc2 := 7) rfl dX12_gain_6 (by decide) [1, 2, 3, 0] [(0, .ref 246), (1, .int v1), (2, .int v2), (3, .int (x.1 257 (Int32.toNatClampNeg v1)))] rfl ?_
  refine EW_aload_n (pc2 := 8) rfl dX12_gain_7 0 rfl ?_
  refine EW_iload_n (pc2 := 9) rfl dX12_gain_8 1 rfl ?_
  refine EW_iload_n (pc2 := 10) rfl dX12_gain_9 2 rfl ?_
  refine AW_invV (M' := MX12_floorOf) [.int v1, .int v2] (rest := []) mlRX12_345 okX12_floorOf (pc2 := 13) rfl dX12_gain_10 rfl rfl (Nat.le_of_ble_eq_true rfl) (Nat.le_of_ble_eq_true rfl) (d' := 0) (by omega) q246 ⟨by decide, rfl⟩ (EW_mono (fun _ _ hr => ?_) (sX12_floorOf v1 v2  x _ _ 0 0 (Nat.le_refl _) h))
  obtain ⟨r2, rfl, rfl, h⟩ := hr
  refine EW_istore (pc2 := 15) rfl dX12_gain_13 (by decide) [1, 2, 3, 4, 0] [(0, .ref 246), (1, .int v1), (2, .int v2), (3, .int (x.1 257 (Int32.toNatClampNeg v1))), (4, .int r2)] rfl ?_
  refine EW_iload_n (pc2 := 16) rfl dX12_gain_15 2 rfl ?_
  refine EW_iload_n (pc2 := 17) rfl dX12_gain_16 3 rfl ?_
  obtain ⟨hz, h⟩ := h
  refine EW_irem (pc2 := 18) rfl dX12_gain_17 hz ?_
  refine EW_istore (pc2 := 20) rfl dX12_gain_18 (by decide) [1, 2, 3, 4, 5, 0] [(0, .ref 246), (1, .int v1), (2, .int v2), (3, .int (x.1 257 (Int32.toNatClampNeg v1))), (4, .int r2), (5, .int (v2 - v2 / (x.1 257 (Int32.toNatClampNeg v1)) * (x.1 257 (Int32.toNatClampNeg v1))))] rfl ?_
  refine EW_aload_n (pc2 := 21) rfl dX12_gain_20 0 rfl ?_
  refine EW_iload_n (pc2 := 22) rfl dX12_gain_21 1 rfl ?_
  refine EW_iload_n (pc2 := 23) rfl dX12_gain_22 2 rfl ?_
  refine AW_invV (M' := MX12_burns) [.int v1, .int v2] (rest := []) mlRX12_348 okX12_burns (pc2 := 26) rfl dX12_gain_23 rfl rfl (Nat.le_of_ble_eq_true rfl) (Nat.le_of_ble_eq_true rfl) (d' := 1) (by omega) q246 ⟨by decide, rfl⟩ (EW_mono (fun _ _ hr => ?_) (sX12_burns v1 v2  x _ _ 0 0 (Nat.le_refl _) h))
  obtain ⟨r3, rfl, rfl, h⟩ := hr
  refine EW_if_eq (tgt := 34) (pc2 := 29) rfl dX12_gain_26 (by decide) (fun q => ?_) (fun q => ?_)
  · replace h := h.1 q
    refine EW_bipush (pc2 := 36) (v := (-10)) rfl dX12_gain_34 (by decide) ?_
    exact sX12_gain_36 v1 v2 (x.1 257 (Int32.toNatClampNeg v1)) r2 (v2 - v2 / (x.1 257 (Int32.toNatClampNeg v1)) * (x.1 257 (Int32.toNatClampNeg v1))) (-10) x K d bc bs hdp h
  · replace h := h.2 q
    refine EW_bipush (pc2 := 31) (v := 50) rfl dX12_gain_29 (by decide) ?_
    refine EW_goto (tgt := 36) dX12_gain_31 (by decide) ?_
    exact sX12_gain_36 v1 v2 (x.1 257 (Int32.toNatClampNeg v1)) r2 (v2 - v2 / (x.1 257 (Int32.toNatClampNeg v1)) * (x.1 257 (Int32.toNatClampNeg v1))) 50 x K d bc bs hdp h
theorem gfRX12_83 : ab_L RX12 83 12 27 := ⟨by decide, by decide, ab_in 1876 (by decide +kernel) (by decide +kernel)⟩
abbrev MX12_loadOf : ab_M := (yX12_loadOf, cX12_loadOf, 3, (some .int))
theorem dX12_loadOf_0 : decode cX12_loadOf 0 = .ok (.iload_n 2, 1) := by decide +kernel
theorem dX12_loadOf_1 : decode cX12_loadOf 1 = .ok (.ifCond .ne 7, 3) := by decide +kernel
theorem dX12_loadOf_4 : decode cX12_loadOf 4 = .ok (.iconst 0, 1) := by decide +kernel
theorem dX12_loadOf_5 : decode cX12_loadOf 5 = .ok (.goto 30, 3) := by decide +kernel
theorem dX12_loadOf_8 : decode cX12_loadOf 8 = .ok (.aload_n 0, 1) := by decide +kernel
theorem dX12_loadOf_9 : decode cX12_loadOf 9 = .ok (.getfield 83, 3) := by decide +kernel
theorem dX12_loadOf_12 : decode cX12_loadOf 12 = .ok (.bipush 6, 2) := by decide +kernel
theorem dX12_loadOf_14 : decode cX12_loadOf 14 = .ok (.iload_n 1, 1) := by decide +kernel
theorem dX12_loadOf_15 : decode cX12_loadOf 15 = .ok (.imul, 1) := by decide +kernel
theorem dX12_loadOf_16 : decode cX12_loadOf 16 = .ok (.iload_n 2, 1) := by decide +kernel
theorem dX12_loadOf_17 : decode cX12_loadOf 17 = .ok (.iadd, 1) := by decide +kernel
theorem dX12_loadOf_18 : decode cX12_loadOf 18 = .ok (.iaload, 1) := by decide +kernel
theorem dX12_loadOf_19 : decode cX12_loadOf 19 = .ok (.iconst 2, 1) := by decide +kernel
theorem dX12_loadOf_20 : decode cX12_loadOf 20 = .ok (.aload_n 0, 1) := by decide +kernel
theorem dX12_loadOf_21 : decode cX12_loadOf 21 = .ok (.getfield 83, 3) := by decide +kernel
theorem dX12_loadOf_24 : decode cX12_loadOf 24 = .ok (.bipush 6, 2) := by decide +kernel
theorem dX12_loadOf_26 : decode cX12_loadOf 26 = .ok (.iload_n 1, 1) := by decide +kernel
theorem dX12_loadOf_27 : decode cX12_loadOf 27 = .ok (.imul, 1) := by decide +kernel
theorem dX12_loadOf_28 : decode cX12_loadOf 28 = .ok (.iload_n 2, 1) := by decide +kernel
theorem dX12_loadOf_29 : decode cX12_loadOf 29 = .ok (.iadd, 1) := by decide +kernel
theorem dX12_loadOf_30 : decode cX12_loadOf 30 = .ok (.iconst 1, 1) := by decide +kernel
theorem dX12_loadOf_31 : decode cX12_loadOf 31 = .ok (.isub, 1) := by decide +kernel
theorem dX12_loadOf_32 : decode cX12_loadOf 32 = .ok (.iaload, 1) := by decide +kernel
theorem dX12_loadOf_33 : decode cX12_loadOf 33 = .ok (.imul, 1) := by decide +kernel
theorem dX12_loadOf_34 : decode cX12_loadOf 34 = .ok (.iadd, 1) := by decide +kernel
theorem dX12_loadOf_35 : decode cX12_loadOf 35 = .ok (.ireturn, 1) := by decide +kernel
theorem okX12_loadOf : ab_okM MX12_loadOf 2 := ⟨by decide, ⟨by decide, by decide⟩, ab_in 2324 (by decide +kernel) (by decide +kernel), ab_in 99 (by decide +kernel) (by decide +kernel), by decide +kernel, by decide⟩
set_option maxHeartbeats 4000000 in
set_option maxRecDepth 100000 in
theorem sX12_loadOf (v1 : Int32) (v2 : Int32)  (x : ab_X) (K : Int32 → Prop) (d bc bs : Nat) (hdp : 0 ≤ d) (h : wX12_loadOf v1 v2 x K) : EW MX12_loadOf 0 [(0, .ref 246), (1, .int v1), (2, .int v2)] [] (aS x) d bc bs (liP x K) := by
  unfold wX12_loadOf at h
  refine EW_iload_n (pc2 := 1) rfl dX12_loadOf_0 2 rfl ?_
  refine EW_if_ne (tgt := 8) (pc2 := 4) rfl dX12_loadOf_1 (by decide) (fun q => ?_) (fun q => ?_)
  · replace h := h.1 q
    refine EW_aload_n (pc2 := 9) rfl dX12_loadOf_8 0 rfl ?_
    refine AW_getr (r := 271) ⟨gfRX12_83, rfl⟩ (pc2 := 12) rfl dX12_loadOf_9 q246 rfl ?_
    refine EW_bipush (pc2 := 14) (v := 6) rfl dX12_loadOf_12 (by decide) ?_
    refine EW_iload_n (pc2 := 15) rfl dX12_loadOf_14 1 rfl ?_
    refine EW_imul (pc2 := 16) rfl dX12_loadOf_15 ?_
    refine EW_iload_n (pc2 := 17) rfl dX12_loadOf_16 2 rfl ?_
    refine EW_iadd (pc2 := 18) rfl dX12_loadOf_17 ?_
    obtain ⟨b1, h⟩ := h
    refine AW_iald (pc2 := 19) rfl dX12_loadOf_18 q271 b1 ?_
    refine EW_iconst (pc2 := 20) (v := 2) rfl dX12_loadOf_19 (by decide) ?_
    refine EW_aload_n (pc2 := 21) rfl dX12_loadOf_20 0 rfl ?_
    refine AW_getr (r := 271) ⟨gfRX12_83, rfl⟩ (pc2 := 24) rfl dX12_loadOf_21 q246 rfl ?_
    refine EW_bipush (pc2 := 26) (v := 6) rfl dX12_loadOf_24 (by decide) ?_
    refine EW_iload_n (pc2 := 27) rfl dX12_loadOf_26 1 rfl ?_
    refine EW_imul (pc2 := 28) rfl dX12_loadOf_27 ?_
    refine EW_iload_n (pc2 := 29) rfl dX12_loadOf_28 2 rfl ?_
    refine EW_iadd (pc2 := 30) rfl dX12_loadOf_29 ?_
    refine EW_iconst (pc2 := 31) (v := 1) rfl dX12_loadOf_30 (by decide) ?_
    refine EW_isub (pc2 := 32) rfl dX12_loadOf_31 ?_
    obtain ⟨b2, h⟩ := h
    refine AW_iald (pc2 := 33) rfl dX12_loadOf_32 q271 b2 ?_
    refine EW_imul (pc2 := 34) rfl dX12_loadOf_33 ?_
    refine EW_iadd (pc2 := 35) rfl dX12_loadOf_34 ?_
    exact AW_iret rfl dX12_loadOf_35 ⟨_, rfl, rfl, h⟩
  · replace h := h.2 q
    refine EW_iconst (pc2 := 5) (v := 0) rfl dX12_loadOf_4 (by decide) ?_
    refine EW_goto (tgt := 35) dX12_loadOf_5 (by decide) ?_
    exact AW_iret rfl dX12_loadOf_35 ⟨_, rfl, rfl, h⟩
theorem mlRX12_360 : Cond.methodLink RX12 360 yX12_loadOf ∈ ab_G ∧ Cond.instanceMethod yX12_loadOf ∈ ab_G ∧ Cond.selects RX12 yX12_loadOf yX12_loadOf ∈ ab_G := ⟨ab_in 2321 (by decide +kernel) (by decide +kernel), ab_in 2323 (by decide +kernel) (by decide +kernel), ab_in 26 (by decide +kernel) (by decide +kernel)⟩
theorem mlRX12_379 : Cond.methodLink RX12 379 yX12_bears ∈ ab_G ∧ Cond.instanceMethod yX12_bears ∈ ab_G ∧ Cond.selects RX12 yX12_bears yX12_bears ∈ ab_G := ⟨ab_in 2583 (by decide +kernel) (by decide +kernel), ab_in 2585 (by decide +kernel) (by decide +kernel), ab_in 66 (by decide +kernel) (by decide +kernel)⟩
theorem mlRX12_382 : Cond.methodLink RX12 382 yX12_falls ∈ ab_G ∧ Cond.instanceMethod yX12_falls ∈ ab_G ∧ Cond.selects RX12 yX12_falls yX12_falls ∈ ab_G := ⟨ab_in 2603 (by decide +kernel) (by decide +kernel), ab_in 2605 (by decide +kernel) (by decide +kernel), ab_in 71 (by decide +kernel) (by decide +kernel)⟩
theorem gfRX12_77 : ab_L RX12 77 12 25 := ⟨by decide, by decide, ab_in 1874 (by decide +kernel) (by decide +kernel)⟩
theorem gfRX12_80 : ab_L RX12 80 12 26 := ⟨by decide, by decide, ab_in 1875 (by decide +kernel) (by decide +kernel)⟩
theorem mlRX12_376 : Cond.methodLink RX12 376 yX12_gain ∈ ab_G ∧ Cond.instanceMethod yX12_gain ∈ ab_G ∧ Cond.selects RX12 yX12_gain yX12_gain ∈ ab_G := ⟨ab_in 2591 (by decide +kernel) (by decide +kernel), ab_in 2593 (by decide +kernel) (by decide +kernel), ab_in 68 (by decide +kernel) (by decide +kernel)⟩
abbrev MX12_burn : ab_M := (yX12_burn, cX12_burn, 5, none)
theorem dX12_burn_0 : decode cX12_burn 0 = .ok (.iconst 0, 1) := by decide +kernel
theorem dX12_burn_1 : decode cX12_burn 1 = .ok (.istore_n 2, 1) := by decide +kernel
theorem dX12_burn_2 : decode cX12_burn 2 = .ok (.iload_n 2, 1) := by decide +kernel
theorem dX12_burn_3 : decode cX12_burn 3 = .ok (.aload_n 0, 1) := by decide +kernel
theorem dX12_burn_4 : decode cX12_burn 4 = .ok (.getfield 331, 3) := by decide +kernel
theorem dX12_burn_7 : decode cX12_burn 7 = .ok (.if_icmp .ge 139, 3) := by decide +kernel
theorem dX12_burn_10 : decode cX12_burn 10 = .ok (.iconst 0, 1) := by decide +kernel
theorem dX12_burn_11 : decode cX12_burn 11 = .ok (.istore_n 3, 1) := by decide +kernel
theorem dX12_burn_12 : decode cX12_burn 12 = .ok (.iload_n 3, 1) := by decide +kernel
theorem dX12_burn_13 : decode cX12_burn 13 = .ok (.aload_n 0, 1) := by decide +kernel
theorem dX12_burn_14 : decode cX12_burn 14 = .ok (.getfield 38, 3) := by decide +kernel
theorem dX12_burn_17 : decode cX12_burn 17 = .ok (.iload_n 2, 1) := by decide +kernel
theorem dX12_burn_18 : decode cX12_burn 18 = .ok (.iaload, 1) := by decide +kernel
theorem dX12_burn_19 : decode cX12_burn 19 = .ok (.aload_n 0, 1) := by decide +kernel
theorem dX12_burn_20 : decode cX12_burn 20 = .ok (.getfield 41, 3) := by decide +kernel
theorem dX12_burn_23 : decode cX12_burn 23 = .ok (.iload_n 2, 1) := by decide +kernel
theorem dX12_burn_24 : decode cX12_burn 24 = .ok (.iaload, 1) := by decide +kernel
theorem dX12_burn_25 : decode cX12_burn 25 = .ok (.imul, 1) := by decide +kernel
theorem dX12_burn_26 : decode cX12_burn 26 = .ok (.if_icmp .ge 114, 3) := by decide +kernel
theorem dX12_burn_29 : decode cX12_burn 29 = .ok (.bipush 24, 2) := by decide +kernel
theorem dX12_burn_31 : decode cX12_burn 31 = .ok (.iload_n 2, 1) := by decide +kernel
theorem dX12_burn_32 : decode cX12_burn 32 = .ok (.imul, 1) := by decide +kernel
theorem dX12_burn_33 : decode cX12_burn 33 = .ok (.iload_n 3, 1) := by decide +kernel
theorem dX12_burn_34 : decode cX12_burn 34 = .ok (.iadd, 1) := by decide +kernel
theorem dX12_burn_35 : decode cX12_burn 35 = .ok (.istore 4, 2) := by decide +kernel
theorem dX12_burn_37 : decode cX12_burn 37 = .ok (.aload_n 0, 1) := by decide +kernel
theorem dX12_burn_38 : decode cX12_burn 38 = .ok (.getfield 77, 3) := by decide +kernel
theorem dX12_burn_41 : decode cX12_burn 41 = .ok (.iload 4, 2) := by decide +kernel
theorem dX12_burn_43 : decode cX12_burn 43 = .ok (.aload_n 0, 1) := by decide +kernel
theorem dX12_burn_44 : decode cX12_burn 44 = .ok (.getfield 92, 3) := by decide +kernel
theorem dX12_burn_47 : decode cX12_burn 47 = .ok (.bipush 6, 2) := by decide +kernel
theorem dX12_burn_49 : decode cX12_burn 49 = .ok (.iload_n 2, 1) := by decide +kernel
theorem dX12_burn_50 : decode cX12_burn 50 = .ok (.imul, 1) := by decide +kernel
theorem dX12_burn_51 : decode cX12_burn 51 = .ok (.aload_n 0, 1) := by decide +kernel
theorem dX12_burn_52 : decode cX12_burn 52 = .ok (.iload_n 2, 1) := by decide +kernel
theorem dX12_burn_53 : decode cX12_burn 53 = .ok (.iload_n 3, 1) := by decide +kernel
theorem dX12_burn_54 : decode cX12_burn 54 = .ok (.invokevirtual 345, 3) := by decide +kernel
theorem dX12_burn_57 : decode cX12_burn 57 = .ok (.iadd, 1) := by decide +kernel
theorem dX12_burn_58 : decode cX12_burn 58 = .ok (.baload, 1) := by decide +kernel
theorem dX12_burn_59 : decode cX12_burn 59 = .ok (.ifCond .eq 7, 3) := by decide +kernel
theorem dX12_burn_62 : decode cX12_burn 62 = .ok (.iconst 0, 1) := by decide +kernel
theorem dX12_burn_63 : decode cX12_burn 63 = .ok (.goto 27, 3) := by decide +kernel
theorem dX12_burn_66 : decode cX12_burn 66 = .ok (.iconst 0, 1) := by decide +kernel
theorem dX12_burn_67 : decode cX12_burn 67 = .ok (.sipush 1000, 3) := by decide +kernel
theorem dX12_burn_70 : decode cX12_burn 70 = .ok (.aload_n 0, 1) := by decide +kernel
theorem dX12_burn_71 : decode cX12_burn 71 = .ok (.getfield 68, 3) := by decide +kernel
theorem dX12_burn_74 : decode cX12_burn 74 = .ok (.iload 4, 2) := by decide +kernel
theorem dX12_burn_76 : decode cX12_burn 76 = .ok (.iaload, 1) := by decide +kernel
theorem dX12_burn_77 : decode cX12_burn 77 = .ok (.aload_n 0, 1) := by decide +kernel
theorem dX12_burn_78 : decode cX12_burn 78 = .ok (.iload_n 2, 1) := by decide +kernel
theorem dX12_burn_79 : decode cX12_burn 79 = .ok (.iload_n 3, 1) := by decide +kernel
theorem dX12_burn_80 : decode cX12_burn 80 = .ok (.invokevirtual 376, 3) := by decide +kernel
theorem dX12_burn_83 : decode cX12_burn 83 = .ok (.iadd, 1) := by decide +kernel
theorem dX12_burn_84 : decode cX12_burn 84 = .ok (.invokestatic 311, 3) := by decide +kernel
theorem dX12_burn_87 : decode cX12_burn 87 = .ok (.invokestatic 357, 3) := by decide +kernel
theorem dX12_burn_90 : decode cX12_burn 90 = .ok (.iastore, 1) := by decide +kernel
theorem dX12_burn_91 : decode cX12_burn 91 = .ok (.aload_n 0, 1) := by decide +kernel
theorem dX12_burn_92 : decode cX12_burn 92 = .ok (.getfield 80, 3) := by decide +kernel
theorem dX12_burn_95 : decode cX12_burn 95 = .ok (.iload 4, 2) := by decide +kernel
theorem dX12_burn_97 : decode cX12_burn 97 = .ok (.aload_n 0, 1) := by decide +kernel
theorem dX12_burn_98 : decode cX12_burn 98 = .ok (.iload_n 2, 1) := by decide +kernel
theorem dX12_burn_99 : decode cX12_burn 99 = .ok (.iload_n 3, 1) := by decide +kernel
theorem dX12_burn_100 : decode cX12_burn 100 = .ok (.invokevirtual 348, 3) := by decide +kernel
theorem dX12_burn_103 : decode cX12_burn 103 = .ok (.ifCond .eq 29, 3) := by decide +kernel
theorem dX12_burn_106 : decode cX12_burn 106 = .ok (.aload_n 0, 1) := by decide +kernel
theorem dX12_burn_107 : decode cX12_burn 107 = .ok (.getfield 71, 3) := by decide +kernel
theorem dX12_burn_110 : decode cX12_burn 110 = .ok (.iload 4, 2) := by decide +kernel
theorem dX12_burn_112 : decode cX12_burn 112 = .ok (.iaload, 1) := by decide +kernel
theorem dX12_burn_113 : decode cX12_burn 113 = .ok (.iconst 1, 1) := by decide +kernel
theorem dX12_burn_114 : decode cX12_burn 114 = .ok (.aload_n 0, 1) := by decide +kernel
theorem dX12_burn_115 : decode cX12_burn 115 = .ok (.getfield 68, 3) := by decide +kernel
theorem dX12_burn_118 : decode cX12_burn 118 = .ok (.iload 4, 2) := by decide +kernel
theorem dX12_burn_120 : decode cX12_burn 120 = .ok (.iaload, 1) := by decide +kernel
theorem dX12_burn_121 : decode cX12_burn 121 = .ok (.sipush 250, 3) := by decide +kernel
theorem dX12_burn_124 : decode cX12_burn 124 = .ok (.idiv, 1) := by decide +kernel
theorem dX12_burn_125 : decode cX12_burn 125 = .ok (.iadd, 1) := by decide +kernel
theorem dX12_burn_126 : decode cX12_burn 126 = .ok (.invokestatic 311, 3) := by decide +kernel
theorem dX12_burn_129 : decode cX12_burn 129 = .ok (.goto 4, 3) := by decide +kernel
theorem dX12_burn_132 : decode cX12_burn 132 = .ok (.iconst 0, 1) := by decide +kernel
theorem dX12_burn_133 : decode cX12_burn 133 = .ok (.iastore, 1) := by decide +kernel
theorem dX12_burn_134 : decode cX12_burn 134 = .ok (.iinc 3 1, 3) := by decide +kernel
theorem dX12_burn_137 : decode cX12_burn 137 = .ok (.goto (-125), 3) := by decide +kernel
theorem dX12_burn_140 : decode cX12_burn 140 = .ok (.iinc 2 1, 3) := by decide +kernel
theorem dX12_burn_143 : decode cX12_burn 143 = .ok (.goto (-141), 3) := by decide +kernel
theorem dX12_burn_146 : decode cX12_burn 146 = .ok (.iconst 0, 1) := by decide +kernel
theorem dX12_burn_147 : decode cX12_burn 147 = .ok (.istore_n 2, 1) := by decide +kernel
theorem dX12_burn_148 : decode cX12_burn 148 = .ok (.iload_n 2, 1) := by decide +kernel
theorem dX12_burn_149 : decode cX12_burn 149 = .ok (.aload_n 0, 1) := by decide +kernel
theorem dX12_burn_150 : decode cX12_burn 150 = .ok (.getfield 331, 3) := by decide +kernel
theorem dX12_burn_153 : decode cX12_burn 153 = .ok (.if_icmp .ge 99, 3) := by decide +kernel
theorem dX12_burn_156 : decode cX12_burn 156 = .ok (.iconst 0, 1) := by decide +kernel
theorem dX12_burn_157 : decode cX12_burn 157 = .ok (.istore_n 3, 1) := by decide +kernel
theorem dX12_burn_158 : decode cX12_burn 158 = .ok (.iload_n 3, 1) := by decide +kernel
theorem dX12_burn_159 : decode cX12_burn 159 = .ok (.aload_n 0, 1) := by decide +kernel
theorem dX12_burn_160 : decode cX12_burn 160 = .ok (.getfield 38, 3) := by decide +kernel
theorem dX12_burn_163 : decode cX12_burn 163 = .ok (.iload_n 2, 1) := by decide +kernel
theorem dX12_burn_164 : decode cX12_burn 164 = .ok (.iaload, 1) := by decide +kernel
theorem dX12_burn_165 : decode cX12_burn 165 = .ok (.aload_n 0, 1) := by decide +kernel
theorem dX12_burn_166 : decode cX12_burn 166 = .ok (.getfield 41, 3) := by decide +kernel
theorem dX12_burn_169 : decode cX12_burn 169 = .ok (.iload_n 2, 1) := by decide +kernel
theorem dX12_burn_170 : decode cX12_burn 170 = .ok (.iaload, 1) := by decide +kernel
theorem dX12_burn_171 : decode cX12_burn 171 = .ok (.imul, 1) := by decide +kernel
theorem dX12_burn_172 : decode cX12_burn 172 = .ok (.if_icmp .ge 74, 3) := by decide +kernel
theorem dX12_burn_175 : decode cX12_burn 175 = .ok (.bipush 24, 2) := by decide +kernel
theorem dX12_burn_177 : decode cX12_burn 177 = .ok (.iload_n 2, 1) := by decide +kernel
theorem dX12_burn_178 : decode cX12_burn 178 = .ok (.imul, 1) := by decide +kernel
theorem dX12_burn_179 : decode cX12_burn 179 = .ok (.iload_n 3, 1) := by decide +kernel
theorem dX12_burn_180 : decode cX12_burn 180 = .ok (.iadd, 1) := by decide +kernel
theorem dX12_burn_181 : decode cX12_burn 181 = .ok (.istore 4, 2) := by decide +kernel
theorem dX12_burn_183 : decode cX12_burn 183 = .ok (.aload_n 0, 1) := by decide +kernel
theorem dX12_burn_184 : decode cX12_burn 184 = .ok (.getfield 68, 3) := by decide +kernel
theorem dX12_burn_187 : decode cX12_burn 187 = .ok (.iload 4, 2) := by decide +kernel
theorem dX12_burn_189 : decode cX12_burn 189 = .ok (.aload_n 0, 1) := by decide +kernel
theorem dX12_burn_190 : decode cX12_burn 190 = .ok (.getfield 77, 3) := by decide +kernel
theorem dX12_burn_193 : decode cX12_burn 193 = .ok (.iload 4, 2) := by decide +kernel
theorem dX12_burn_195 : decode cX12_burn 195 = .ok (.iaload, 1) := by decide +kernel
theorem dX12_burn_196 : decode cX12_burn 196 = .ok (.iastore, 1) := by decide +kernel
theorem dX12_burn_197 : decode cX12_burn 197 = .ok (.aload_n 0, 1) := by decide +kernel
theorem dX12_burn_198 : decode cX12_burn 198 = .ok (.getfield 71, 3) := by decide +kernel
theorem dX12_burn_201 : decode cX12_burn 201 = .ok (.iload 4, 2) := by decide +kernel
theorem dX12_burn_203 : decode cX12_burn 203 = .ok (.dup2, 1) := by decide +kernel
theorem dX12_burn_204 : decode cX12_burn 204 = .ok (.iaload, 1) := by decide +kernel
theorem dX12_burn_205 : decode cX12_burn 205 = .ok (.aload_n 0, 1) := by decide +kernel
theorem dX12_burn_206 : decode cX12_burn 206 = .ok (.getfield 80, 3) := by decide +kernel
theorem dX12_burn_209 : decode cX12_burn 209 = .ok (.iload 4, 2) := by decide +kernel
theorem dX12_burn_211 : decode cX12_burn 211 = .ok (.iaload, 1) := by decide +kernel
theorem dX12_burn_212 : decode cX12_burn 212 = .ok (.isub, 1) := by decide +kernel
theorem dX12_burn_213 : decode cX12_burn 213 = .ok (.iastore, 1) := by decide +kernel
theorem dX12_burn_214 : decode cX12_burn 214 = .ok (.aload_n 0, 1) := by decide +kernel
theorem dX12_burn_215 : decode cX12_burn 215 = .ok (.getfield 83, 3) := by decide +kernel
theorem dX12_burn_218 : decode cX12_burn 218 = .ok (.bipush 6, 2) := by decide +kernel
theorem dX12_burn_220 : decode cX12_burn 220 = .ok (.iload_n 2, 1) := by decide +kernel
theorem dX12_burn_221 : decode cX12_burn 221 = .ok (.imul, 1) := by decide +kernel
theorem dX12_burn_222 : decode cX12_burn 222 = .ok (.aload_n 0, 1) := by decide +kernel
theorem dX12_burn_223 : decode cX12_burn 223 = .ok (.iload_n 2, 1) := by decide +kernel
theorem dX12_burn_224 : decode cX12_burn 224 = .ok (.iload_n 3, 1) := by decide +kernel
theorem dX12_burn_225 : decode cX12_burn 225 = .ok (.invokevirtual 345, 3) := by decide +kernel
theorem dX12_burn_228 : decode cX12_burn 228 = .ok (.iadd, 1) := by decide +kernel
theorem dX12_burn_229 : decode cX12_burn 229 = .ok (.dup2, 1) := by decide +kernel
theorem dX12_burn_230 : decode cX12_burn 230 = .ok (.iaload, 1) := by decide +kernel
theorem dX12_burn_231 : decode cX12_burn 231 = .ok (.aload_n 0, 1) := by decide +kernel
theorem dX12_burn_232 : decode cX12_burn 232 = .ok (.getfield 80, 3) := by decide +kernel
theorem dX12_burn_235 : decode cX12_burn 235 = .ok (.iload 4, 2) := by decide +kernel
theorem dX12_burn_237 : decode cX12_burn 237 = .ok (.iaload, 1) := by decide +kernel
theorem dX12_burn_238 : decode cX12_burn 238 = .ok (.iadd, 1) := by decide +kernel
theorem dX12_burn_239 : decode cX12_burn 239 = .ok (.iastore, 1) := by decide +kernel
theorem dX12_burn_240 : decode cX12_burn 240 = .ok (.iinc 3 1, 3) := by decide +kernel
theorem dX12_burn_243 : decode cX12_burn 243 = .ok (.goto (-85), 3) := by decide +kernel
theorem dX12_burn_246 : decode cX12_burn 246 = .ok (.iinc 2 1, 3) := by decide +kernel
theorem dX12_burn_249 : decode cX12_burn 249 = .ok (.goto (-101), 3) := by decide +kernel
theorem dX12_burn_252 : decode cX12_burn 252 = .ok (.iconst 0, 1) := by decide +kernel
theorem dX12_burn_253 : decode cX12_burn 253 = .ok (.istore_n 2, 1) := by decide +kernel
theorem dX12_burn_254 : decode cX12_burn 254 = .ok (.iload_n 2, 1) := by decide +kernel
theorem dX12_burn_255 : decode cX12_burn 255 = .ok (.aload_n 0, 1) := by decide +kernel
theorem dX12_burn_256 : decode cX12_burn 256 = .ok (.getfield 331, 3) := by decide +kernel
theorem dX12_burn_259 : decode cX12_burn 259 = .ok (.if_icmp .ge 63, 3) := by decide +kernel
theorem dX12_burn_262 : decode cX12_burn 262 = .ok (.aload_n 0, 1) := by decide +kernel
theorem dX12_burn_263 : decode cX12_burn 263 = .ok (.getfield 38, 3) := by decide +kernel
theorem dX12_burn_266 : decode cX12_burn 266 = .ok (.iload_n 2, 1) := by decide +kernel
theorem dX12_burn_267 : decode cX12_burn 267 = .ok (.iaload, 1) := by decide +kernel
theorem dX12_burn_268 : decode cX12_burn 268 = .ok (.iconst 1, 1) := by decide +kernel
theorem dX12_burn_269 : decode cX12_burn 269 = .ok (.isub, 1) := by decide +kernel
theorem dX12_burn_270 : decode cX12_burn 270 = .ok (.istore_n 3, 1) := by decide +kernel
theorem dX12_burn_271 : decode cX12_burn 271 = .ok (.iload_n 3, 1) := by decide +kernel
theorem dX12_burn_272 : decode cX12_burn 272 = .ok (.ifCond .le 44, 3) := by decide +kernel
theorem dX12_burn_275 : decode cX12_burn 275 = .ok (.aload_n 0, 1) := by decide +kernel
theorem dX12_burn_276 : decode cX12_burn 276 = .ok (.getfield 92, 3) := by decide +kernel
theorem dX12_burn_279 : decode cX12_burn 279 = .ok (.bipush 6, 2) := by decide +kernel
theorem dX12_burn_281 : decode cX12_burn 281 = .ok (.iload_n 2, 1) := by decide +kernel
theorem dX12_burn_282 : decode cX12_burn 282 = .ok (.imul, 1) := by decide +kernel
theorem dX12_burn_283 : decode cX12_burn 283 = .ok (.iload_n 3, 1) := by decide +kernel
theorem dX12_burn_284 : decode cX12_burn 284 = .ok (.iadd, 1) := by decide +kernel
theorem dX12_burn_285 : decode cX12_burn 285 = .ok (.baload, 1) := by decide +kernel
theorem dX12_burn_286 : decode cX12_burn 286 = .ok (.ifCond .ne 24, 3) := by decide +kernel
theorem dX12_burn_289 : decode cX12_burn 289 = .ok (.aload_n 0, 1) := by decide +kernel
theorem dX12_burn_290 : decode cX12_burn 290 = .ok (.iload_n 2, 1) := by decide +kernel
theorem dX12_burn_291 : decode cX12_burn 291 = .ok (.iload_n 3, 1) := by decide +kernel
theorem dX12_burn_292 : decode cX12_burn 292 = .ok (.invokevirtual 360, 3) := by decide +kernel
theorem dX12_burn_295 : decode cX12_burn 295 = .ok (.aload_n 0, 1) := by decide +kernel
theorem dX12_burn_296 : decode cX12_burn 296 = .ok (.iload_n 2, 1) := by decide +kernel
theorem dX12_burn_297 : decode cX12_burn 297 = .ok (.invokevirtual 379, 3) := by decide +kernel
theorem dX12_burn_300 : decode cX12_burn 300 = .ok (.if_icmp .lt 10, 3) := by decide +kernel
theorem dX12_burn_303 : decode cX12_burn 303 = .ok (.aload_n 0, 1) := by decide +kernel
theorem dX12_burn_304 : decode cX12_burn 304 = .ok (.iload_n 2, 1) := by decide +kernel
theorem dX12_burn_305 : decode cX12_burn 305 = .ok (.iload_n 3, 1) := by decide +kernel
theorem dX12_burn_306 : decode cX12_burn 306 = .ok (.iload_n 1, 1) := by decide +kernel
theorem dX12_burn_307 : decode cX12_burn 307 = .ok (.invokevirtual 382, 3) := by decide +kernel
theorem dX12_burn_310 : decode cX12_burn 310 = .ok (.iinc 3 (-1), 3) := by decide +kernel
theorem dX12_burn_313 : decode cX12_burn 313 = .ok (.goto (-42), 3) := by decide +kernel
theorem dX12_burn_316 : decode cX12_burn 316 = .ok (.iinc 2 1, 3) := by decide +kernel
theorem dX12_burn_319 : decode cX12_burn 319 = .ok (.goto (-65), 3) := by decide +kernel
theorem dX12_burn_322 : decode cX12_burn 322 = .ok (.iconst 0, 1) := by decide +kernel
theorem dX12_burn_323 : decode cX12_burn 323 = .ok (.istore_n 2, 1) := by decide +kernel
theorem dX12_burn_324 : decode cX12_burn 324 = .ok (.iload_n 2, 1) := by decide +kernel
theorem dX12_burn_325 : decode cX12_burn 325 = .ok (.aload_n 0, 1) := by decide +kernel
theorem dX12_burn_326 : decode cX12_burn 326 = .ok (.getfield 331, 3) := by decide +kernel
theorem dX12_burn_329 : decode cX12_burn 329 = .ok (.if_icmp .ge 111, 3) := by decide +kernel
theorem dX12_burn_332 : decode cX12_burn 332 = .ok (.iload_n 1, 1) := by decide +kernel
theorem dX12_burn_333 : decode cX12_burn 333 = .ok (.ifCond .eq 107, 3) := by decide +kernel
theorem dX12_burn_336 : decode cX12_burn 336 = .ok (.iconst 0, 1) := by decide +kernel
theorem dX12_burn_337 : decode cX12_burn 337 = .ok (.istore_n 3, 1) := by decide +kernel
theorem dX12_burn_338 : decode cX12_burn 338 = .ok (.iload_n 3, 1) := by decide +kernel
theorem dX12_burn_339 : decode cX12_burn 339 = .ok (.aload_n 0, 1) := by decide +kernel
theorem dX12_burn_340 : decode cX12_burn 340 = .ok (.getfield 38, 3) := by decide +kernel
theorem dX12_burn_343 : decode cX12_burn 343 = .ok (.iload_n 2, 1) := by decide +kernel
theorem dX12_burn_344 : decode cX12_burn 344 = .ok (.iaload, 1) := by decide +kernel
theorem dX12_burn_345 : decode cX12_burn 345 = .ok (.aload_n 0, 1) := by decide +kernel
theorem dX12_burn_346 : decode cX12_burn 346 = .ok (.getfield 41, 3) := by decide +kernel
theorem dX12_burn_349 : decode cX12_burn 349 = .ok (.iload_n 2, 1) := by decide +kernel
theorem dX12_burn_350 : decode cX12_burn 350 = .ok (.iaload, 1) := by decide +kernel
theorem dX12_burn_351 : decode cX12_burn 351 = .ok (.imul, 1) := by decide +kernel
theorem dX12_burn_352 : decode cX12_burn 352 = .ok (.if_icmp .ge 82, 3) := by decide +kernel
theorem dX12_burn_355 : decode cX12_burn 355 = .ok (.bipush 6, 2) := by decide +kernel
theorem dX12_burn_357 : decode cX12_burn 357 = .ok (.iload_n 2, 1) := by decide +kernel
theorem dX12_burn_358 : decode cX12_burn 358 = .ok (.imul, 1) := by decide +kernel
theorem dX12_burn_359 : decode cX12_burn 359 = .ok (.aload_n 0, 1) := by decide +kernel
theorem dX12_burn_360 : decode cX12_burn 360 = .ok (.iload_n 2, 1) := by decide +kernel
theorem dX12_burn_361 : decode cX12_burn 361 = .ok (.iload_n 3, 1) := by decide +kernel
theorem dX12_burn_362 : decode cX12_burn 362 = .ok (.invokevirtual 345, 3) := by decide +kernel
theorem dX12_burn_365 : decode cX12_burn 365 = .ok (.iadd, 1) := by decide +kernel
theorem dX12_burn_366 : decode cX12_burn 366 = .ok (.istore 4, 2) := by decide +kernel
theorem dX12_burn_368 : decode cX12_burn 368 = .ok (.aload_n 0, 1) := by decide +kernel
theorem dX12_burn_369 : decode cX12_burn 369 = .ok (.iload_n 2, 1) := by decide +kernel
theorem dX12_burn_370 : decode cX12_burn 370 = .ok (.iload_n 3, 1) := by decide +kernel
theorem dX12_burn_371 : decode cX12_burn 371 = .ok (.invokevirtual 348, 3) := by decide +kernel
theorem dX12_burn_374 : decode cX12_burn 374 = .ok (.ifCond .eq 54, 3) := by decide +kernel
theorem dX12_burn_377 : decode cX12_burn 377 = .ok (.aload_n 0, 1) := by decide +kernel
theorem dX12_burn_378 : decode cX12_burn 378 = .ok (.getfield 68, 3) := by decide +kernel
theorem dX12_burn_381 : decode cX12_burn 381 = .ok (.bipush 24, 2) := by decide +kernel
theorem dX12_burn_383 : decode cX12_burn 383 = .ok (.iload_n 2, 1) := by decide +kernel
theorem dX12_burn_384 : decode cX12_burn 384 = .ok (.imul, 1) := by decide +kernel
theorem dX12_burn_385 : decode cX12_burn 385 = .ok (.iload_n 3, 1) := by decide +kernel
theorem dX12_burn_386 : decode cX12_burn 386 = .ok (.iadd, 1) := by decide +kernel
theorem dX12_burn_387 : decode cX12_burn 387 = .ok (.iaload, 1) := by decide +kernel
theorem dX12_burn_388 : decode cX12_burn 388 = .ok (.sipush 600, 3) := by decide +kernel
theorem dX12_burn_391 : decode cX12_burn 391 = .ok (.if_icmp .lt 37, 3) := by decide +kernel
theorem dX12_burn_394 : decode cX12_burn 394 = .ok (.aload_n 0, 1) := by decide +kernel
theorem dX12_burn_395 : decode cX12_burn 395 = .ok (.getfield 86, 3) := by decide +kernel
theorem dX12_burn_398 : decode cX12_burn 398 = .ok (.iload 4, 2) := by decide +kernel
theorem dX12_burn_400 : decode cX12_burn 400 = .ok (.iaload, 1) := by decide +kernel
theorem dX12_burn_401 : decode cX12_burn 401 = .ok (.ifCond .ne 6, 3) := by decide +kernel
theorem dX12_burn_404 : decode cX12_burn 404 = .ok (.goto 24, 3) := by decide +kernel
theorem dX12_burn_407 : decode cX12_burn 407 = .ok (.aload_n 0, 1) := by decide +kernel
theorem dX12_burn_408 : decode cX12_burn 408 = .ok (.getfield 86, 3) := by decide +kernel
theorem dX12_burn_411 : decode cX12_burn 411 = .ok (.iload 4, 2) := by decide +kernel
theorem dX12_burn_413 : decode cX12_burn 413 = .ok (.dup2, 1) := by decide +kernel
theorem dX12_burn_414 : decode cX12_burn 414 = .ok (.iaload, 1) := by decide +kernel
theorem dX12_burn_415 : decode cX12_burn 415 = .ok (.iconst 1, 1) := by decide +kernel
theorem dX12_burn_416 : decode cX12_burn 416 = .ok (.isub, 1) := by decide +kernel
theorem dX12_burn_417 : decode cX12_burn 417 = .ok (.iastore, 1) := by decide +kernel
theorem dX12_burn_418 : decode cX12_burn 418 = .ok (.aload_n 0, 1) := by decide +kernel
theorem dX12_burn_419 : decode cX12_burn 419 = .ok (.getfield 59, 3) := by decide +kernel
theorem dX12_burn_422 : decode cX12_burn 422 = .ok (.iload_n 2, 1) := by decide +kernel
theorem dX12_burn_423 : decode cX12_burn 423 = .ok (.dup2, 1) := by decide +kernel
theorem dX12_burn_424 : decode cX12_burn 424 = .ok (.iaload, 1) := by decide +kernel
theorem dX12_burn_425 : decode cX12_burn 425 = .ok (.iconst 1, 1) := by decide +kernel
theorem dX12_burn_426 : decode cX12_burn 426 = .ok (.iadd, 1) := by decide +kernel
theorem dX12_burn_427 : decode cX12_burn 427 = .ok (.iastore, 1) := by decide +kernel
theorem dX12_burn_428 : decode cX12_burn 428 = .ok (.iinc 3 1, 3) := by decide +kernel
theorem dX12_burn_431 : decode cX12_burn 431 = .ok (.goto (-93), 3) := by decide +kernel
theorem dX12_burn_434 : decode cX12_burn 434 = .ok (.iinc 2 1, 3) := by decide +kernel
theorem dX12_burn_437 : decode cX12_burn 437 = .ok (.goto (-113), 3) := by decide +kernel
theorem dX12_burn_440 : decode cX12_burn 440 = .ok (.return_, 1) := by decide +kernel
theorem okX12_burn : ab_okM MX12_burn 1 := ⟨by decide, ⟨by decide, by decide⟩, ab_in 2590 (by decide +kernel) (by decide +kernel), ab_in 99 (by decide +kernel) (by decide +kernel), by decide +kernel, by decide⟩
set_option maxHeartbeats 4000000 in
set_option maxRecDepth 100000 in
theorem sX12_burn_338 (v1 : Int32) (v2 : Int32) (v3 : Int32)  (x : ab_X) (K : ab_X → Prop) (L324 : Int32 → ab_X → Prop) (d bc bs : Nat) (hdp : 4 ≤ d) (hL324 : ∀ (v2 : Int32) (x : ab_X), L324 v2 x → EW MX12_burn 324 [(0, .ref 246), (1, .int v1), (2, .int v2)] [] (aS x) d bc bs (liV K)) (h : Lp2 (lX12_burn_338 v1 v2 K L324) v3 x) : EW MX12_burn 338 [(0, .ref 246), (1, .int v1), (2, .int v2), (3, .int v3)] [] (aS x) d bc bs (liV K) := by
  refine Lp2.use (P := fun v3 x => EW MX12_burn 338 [(0, .ref 246), (1, .int v1), (2, .int v2), (3, .int v3)] [] (aS x) d bc bs (liV K)) (fun L338 v3 x hL338 h => ?_) v3 x h
  unfold lX12_burn_338 at h
  refine EW_iload_n (pc2 := 339) rfl dX12_burn_338 3 rfl ?_
  refine EW_aload_n (pc2 := 340) rfl dX12_burn_339 0 rfl ?_
  refine AW_getr (r := 256) ⟨gfRX12_38, rfl⟩ (pc2 := 343) rfl dX12_burn_340 q246 rfl ?_
  refine EW_iload_n (pc2 := 344) rfl dX12_burn_343 2 rfl ?_
  obtain ⟨b2, h⟩ := h
  refine AW_iald (pc2 := 345) rfl dX12_burn_344 q256 b2 ?_
  refine EW_aload_n (pc2 := 346) rfl dX12_burn_345 0 rfl ?_
  refine AW_getr (r := 257) ⟨gfRX12_41, rfl⟩ (pc2 := 349) rfl dX12_burn_346 q246 rfl ?_
  refine EW_iload_n (pc2 := 350) rfl dX12_burn_349 2 rfl ?_
  obtain ⟨b3, h⟩ := h
  refine AW_iald (pc2 := 351) rfl dX12_burn_350 q257 b3 ?_
  refine EW_imul (pc2 := 352) rfl dX12_burn_351 ?_
  refine EW_icmp_ge (tgt := 434) (pc2 := 355) rfl dX12_burn_352 (by decide) (fun q => ?_) (fun q => ?_)
  · replace h := h.1 q
    refine EW_iinc (v2 + 1) (pc2 := 437) rfl dX12_burn_434 2 rfl rfl (by decide) [1, 2, 0, 3] [(0, .ref 246), (1, .int v1), (2, .int (v2 + 1)), (3, .int v3)] rfl ?_
    refine EW_goto (tgt := 324) dX12_burn_437 (by decide) ?_
    refine EW_ls [0, 1, 2] rfl ?_
    exact hL324 (v2 + 1) x h
  · replace h := h.2 q
    refine EW_bipush (pc2 := 357) (v := 6) rfl dX12_burn_355 (by decide) ?_
    refine EW_iload_n (pc2 := 358) rfl dX12_burn_357 2 rfl ?_
    refine EW_imul (pc2 := 359) rfl dX12_burn_358 ?_
    refine EW_aload_n (pc2 := 360) rfl dX12_burn_359 0 rfl ?_
    refine EW_iload_n (pc2 := 361) rfl dX12_burn_360 2 rfl ?_
    refine EW_iload_n (pc2 := 362) rfl dX12_burn_361 3 rfl ?_
    refine AW_invV (M' := MX12_floorOf) [.int v2, .int v3] (rest := [.int (6 * v2)]) mlRX12_345 okX12_floorOf (pc2 := 365) rfl dX12_burn_362 rfl rfl (Nat.le_of_ble_eq_true rfl) (Nat.le_of_ble_eq_true rfl) (d' := 0) (by omega) q246 ⟨by decide, rfl⟩ (EW_mono (fun _ _ hr => ?_) (sX12_floorOf v2 v3  x _ _ 0 0 (Nat.le_refl _) h))
    obtain ⟨r4, rfl, rfl, h⟩ := hr
    refine EW_iadd (pc2 := 366) rfl dX12_burn_365 ?_
    refine EW_istore (pc2 := 368) rfl dX12_burn_366 (by decide) [1, 2, 3, 4, 0] [(0, .ref 246), (1, .int v1), (2, .int v2), (3, .int v3), (4, .int ((6 * v2) + r4))] rfl ?_
    refine EW_aload_n (pc2 := 369) rfl dX12_burn_368 0 rfl ?_
    refine EW_iload_n (pc2 := 370) rfl dX12_burn_369 2 rfl ?_
    refine EW_iload_n (pc2 := 371) rfl dX12_burn_370 3 rfl ?_
    refine AW_invV (M' := MX12_burns) [.int v2, .int v3] (rest := []) mlRX12_348 okX12_burns (pc2 := 374) rfl dX12_burn_371 rfl rfl (Nat.le_of_ble_eq_true rfl) (Nat.le_of_ble_eq_true rfl) (d' := 1) (by omega) q246 ⟨by decide, rfl⟩ (EW_mono (fun _ _ hr => ?_) (sX12_burns v2 v3  x _ _ 0 0 (Nat.le_refl _) h))
    obtain ⟨r5, rfl, rfl, h⟩ := hr
    refine EW_if_eq (tgt := 428) (pc2 := 377) rfl dX12_burn_374 (by decide) (fun q => ?_) (fun q => ?_)
    · replace h := h.1 q
      refine EW_iinc (v3 + 1) (pc2 := 431) rfl dX12_burn_428 3 rfl rfl (by decide) [1, 2, 3, 0, 4] [(0, .ref 246), (1, .int v1), (2, .int v2), (3, .int (v3 + 1)), (4, .int ((6 * v2) + r4))] rfl ?_
      refine EW_goto (tgt := 338) dX12_burn_431 (by decide) ?_
      refine EW_ls [0, 1, 2, 3] rfl ?_
      exact hL338 (v3 + 1) x h
    · replace h := h.2 q
      refine EW_aload_n (pc2 := 378) rfl dX12_burn_377 0 rfl ?_
      refine AW_getr (r := 266) ⟨gfRX12_68, rfl⟩ (pc2 := 381) rfl dX12_burn_378 q246 rfl ?_
      refine EW_bipush (pc2 := 383) (v := 24) rfl dX12_burn_381 (by decide) ?_
      refine EW_iload_n (pc2 := 384) rfl dX12_burn_383 2 rfl ?_
      refine EW_imul (pc2 := 385) rfl dX12_burn_384 ?_
      refine EW_iload_n (pc2 := 386) rfl dX12_burn_385 3 rfl ?_
      refine EW_iadd (pc2 := 387) rfl dX12_burn_386 ?_
      obtain ⟨b6, h⟩ := h
      refine AW_iald (pc2 := 388) rfl dX12_burn_387 q266 b6 ?_
      refine EW_sipush (pc2 := 391) (v := 600) rfl dX12_burn_388 (by decide) ?_
      refine EW_icmp_lt (tgt := 428) (pc2 := 394) rfl dX12_burn_391 (by decide) (fun q => ?_) (fun q => ?_)
      · replace h := h.1 q
        refine EW_iinc (v3 + 1) (pc2 := 431) rfl dX12_burn_428 3 rfl rfl (by decide) [1, 2, 3, 0, 4] [(0, .ref 246), (1, .int v1), (2, .int v2), (3, .int (v3 + 1)), (4, .int ((6 * v2) + r4))] rfl ?_
        refine EW_goto (tgt := 338) dX12_burn_431 (by decide) ?_
        refine EW_ls [0, 1, 2, 3] rfl ?_
        exact hL338 (v3 + 1) x h
      · replace h := h.2 q
        refine EW_aload_n (pc2 := 395) rfl dX12_burn_394 0 rfl ?_
        refine AW_getr (r := 272) ⟨gfRX12_86, rfl⟩ (pc2 := 398) rfl dX12_burn_395 q246 rfl ?_
        refine EW_iload (pc2 := 400) rfl dX12_burn_398 4 rfl ?_
        obtain ⟨b7, h⟩ := h
        refine AW_iald (pc2 := 401) rfl dX12_burn_400 q272 b7 ?_
        refine EW_if_ne (tgt := 407) (pc2 := 404) rfl dX12_burn_401 (by decide) (fun q => ?_) (fun q => ?_)
        · replace h := h.1 q
          refine EW_aload_n (pc2 := 408) rfl dX12_burn_407 0 rfl ?_
          refine AW_getr (r := 272) ⟨gfRX12_86, rfl⟩ (pc2 := 411) rfl dX12_burn_408 q246 rfl ?_
          refine EW_iload (pc2 := 413) rfl dX12_burn_411 4 rfl ?_
          refine EW_dup2 (pc2 := 414) rfl dX12_burn_413 rfl rfl ?_
          obtain ⟨b8, h⟩ := h
          refine AW_iald (pc2 := 415) rfl dX12_burn_414 q272 b8 ?_
          refine EW_iconst (pc2 := 416) (v := 1) rfl dX12_burn_415 (by decide) ?_
          refine EW_isub (pc2 := 417) rfl dX12_burn_416 ?_
          obtain ⟨b9, h⟩ := h
          refine AW_iast (pc2 := 418) rfl dX12_burn_417 q272 b9 ?_
          refine EW_aload_n (pc2 := 419) rfl dX12_burn_418 0 rfl ?_
          refine AW_getr (r := 263) ⟨gfRX12_59, rfl⟩ (pc2 := 422) rfl dX12_burn_419 q246 rfl ?_
          refine EW_iload_n (pc2 := 423) rfl dX12_burn_422 2 rfl ?_
          refine EW_dup2 (pc2 := 424) rfl dX12_burn_423 rfl rfl ?_
          obtain ⟨b10, h⟩ := h
          refine AW_iald (pc2 := 425) rfl dX12_burn_424 q263 b10 ?_
          refine EW_iconst (pc2 := 426) (v := 1) rfl dX12_burn_425 (by decide) ?_
          refine EW_iadd (pc2 := 427) rfl dX12_burn_426 ?_
          obtain ⟨b11, h⟩ := h
          refine AW_iast (pc2 := 428) rfl dX12_burn_427 q263 b11 ?_
          refine EW_iinc (v3 + 1) (pc2 := 431) rfl dX12_burn_428 3 rfl rfl (by decide) [1, 2, 3, 0, 4] [(0, .ref 246), (1, .int v1), (2, .int v2), (3, .int (v3 + 1)), (4, .int ((6 * v2) + r4))] rfl ?_
          refine EW_goto (tgt := 338) dX12_burn_431 (by decide) ?_
          refine EW_ls [0, 1, 2, 3] rfl ?_
          exact hL338 (v3 + 1) (wr (wr x 272 (Int32.toNatClampNeg ((6 * v2) + r4)) ((x.1 272 (Int32.toNatClampNeg ((6 * v2) + r4))) - 1)) 263 (Int32.toNatClampNeg v2) (((wr x 272 (Int32.toNatClampNeg ((6 * v2) + r4)) ((x.1 272 (Int32.toNatClampNeg ((6 * v2) + r4))) - 1)).1 263 (Int32.toNatClampNeg v2)) + 1)) h
        · replace h := h.2 q
          refine EW_goto (tgt := 428) dX12_burn_404 (by decide) ?_
          refine EW_iinc (v3 + 1) (pc2 := 431) rfl dX12_burn_428 3 rfl rfl (by decide) [1, 2, 3, 0, 4] [(0, .ref 246), (1, .int v1), (2, .int v2), (3, .int (v3 + 1)), (4, .int ((6 * v2) + r4))] rfl ?_
          refine EW_goto (tgt := 338) dX12_burn_431 (by decide) ?_
          refine EW_ls [0, 1, 2, 3] rfl ?_
          exact hL338 (v3 + 1) x h
set_option maxHeartbeats 4000000 in
set_option maxRecDepth 100000 in
theorem sX12_burn_324 (v1 : Int32) (v2 : Int32)  (x : ab_X) (K : ab_X → Prop)  (d bc bs : Nat) (hdp : 4 ≤ d)  (h : Lp2 (lX12_burn_324 v1 K ) v2 x) : EW MX12_burn 324 [(0, .ref 246), (1, .int v1), (2, .int v2)] [] (aS x) d bc bs (liV K) := by
  refine Lp2.use (P := fun v2 x => EW MX12_burn 324 [(0, .ref 246), (1, .int v1), (2, .int v2)] [] (aS x) d bc bs (liV K)) (fun L324 v2 x hL324 h => ?_) v2 x h
  unfold lX12_burn_324 at h
  refine EW_iload_n (pc2 := 325) rfl dX12_burn_324 2 rfl ?_
  refine EW_aload_n (pc2 := 326) rfl dX12_burn_325 0 rfl ?_
  refine AW_geti ⟨gfRX12_331, rfl⟩ (pc2 := 329) rfl dX12_burn_326 q246 ?_
  refine EW_icmp_ge (tgt := 440) (pc2 := 332) rfl dX12_burn_329 (by decide) (fun q => ?_) (fun q => ?_)
  · replace h := h.1 q
    exact EW_vret rfl dX12_burn_440 ⟨_, rfl, rfl, h⟩
  · replace h := h.2 q
    refine EW_iload_n (pc2 := 333) rfl dX12_burn_332 1 rfl ?_
    refine EW_if_eq (tgt := 440) (pc2 := 336) rfl dX12_burn_333 (by decide) (fun q => ?_) (fun q => ?_)
    · replace h := h.1 q
      exact EW_vret rfl dX12_burn_440 ⟨_, rfl, rfl, h⟩
    · replace h := h.2 q
      refine EW_iconst (pc2 := 337) (v := 0) rfl dX12_burn_336 (by decide) ?_
      refine EW_istore_n (pc2 := 338) rfl dX12_burn_337 (by decide) [1, 2, 3, 0] [(0, .ref 246), (1, .int v1), (2, .int v2), (3, .int 0)] rfl ?_
      exact sX12_burn_338 v1 v2 0 x K L324 d bc bs hdp hL324 h
set_option maxHeartbeats 4000000 in
set_option maxRecDepth 100000 in
theorem sX12_burn_271 (v1 : Int32) (v2 : Int32) (v3 : Int32)  (x : ab_X) (K : ab_X → Prop) (L254 : Int32 → ab_X → Prop) (d bc bs : Nat) (hdp : 4 ≤ d) (hL254 : ∀ (v2 : Int32) (x : ab_X), L254 v2 x → EW MX12_burn 254 [(0, .ref 246), (1, .int v1), (2, .int v2)] [] (aS x) d bc bs (liV K)) (h : Lp2 (lX12_burn_271 v1 v2 K L254) v3 x) : EW MX12_burn 271 [(0, .ref 246), (1, .int v1), (2, .int v2), (3, .int v3)] [] (aS x) d bc bs (liV K) := by
  refine Lp2.use (P := fun v3 x => EW MX12_burn 271 [(0, .ref 246), (1, .int v1), (2, .int v2), (3, .int v3)] [] (aS x) d bc bs (liV K)) (fun L271 v3 x hL271 h => ?_) v3 x h
  unfold lX12_burn_271 at h
  refine EW_iload_n (pc2 := 272) rfl dX12_burn_271 3 rfl ?_
  refine EW_if_le (tgt := 316) (pc2 := 275) rfl dX12_burn_272 (by decide) (fun q => ?_) (fun q => ?_)
  · replace h := h.1 q
    refine EW_iinc (v2 + 1) (pc2 := 319) rfl dX12_burn_316 2 rfl rfl (by decide) [1, 2, 0, 3] [(0, .ref 246), (1, .int v1), (2, .int (v2 + 1)), (3, .int v3)] rfl ?_
    refine EW_goto (tgt := 254) dX12_burn_319 (by decide) ?_
    refine EW_ls [0, 1, 2] rfl ?_
    exact hL254 (v2 + 1) x h
  · replace h := h.2 q
    refine EW_aload_n (pc2 := 276) rfl dX12_burn_275 0 rfl ?_
    refine AW_getr (r := 274) ⟨gfRX12_92, rfl⟩ (pc2 := 279) rfl dX12_burn_276 q246 rfl ?_
    refine EW_bipush (pc2 := 281) (v := 6) rfl dX12_burn_279 (by decide) ?_
    refine EW_iload_n (pc2 := 282) rfl dX12_burn_281 2 rfl ?_
    refine EW_imul (pc2 := 283) rfl dX12_burn_282 ?_
    refine EW_iload_n (pc2 := 284) rfl dX12_burn_283 3 rfl ?_
    refine EW_iadd (pc2 := 285) rfl dX12_burn_284 ?_
    obtain ⟨b12, h⟩ := h
    refine AW_zald (pc2 := 286) rfl dX12_burn_285 q274 b12 ?_
    refine EW_if_ne (tgt := 310) (pc2 := 289) rfl dX12_burn_286 (by decide) (fun q => ?_) (fun q => ?_)
    · replace h := h.1 q
      refine EW_iinc (v3 + (-1)) (pc2 := 313) rfl dX12_burn_310 3 rfl rfl (by decide) [1, 2, 3, 0] [(0, .ref 246), (1, .int v1), (2, .int v2), (3, .int (v3 + (-1)))] rfl ?_
      refine EW_goto (tgt := 271) dX12_burn_313 (by decide) ?_
      exact hL271 (v3 + (-1)) x h
    · replace h := h.2 q
      refine EW_aload_n (pc2 := 290) rfl dX12_burn_289 0 rfl ?_
      refine EW_iload_n (pc2 := 291) rfl dX12_burn_290 2 rfl ?_
      refine EW_iload_n (pc2 := 292) rfl dX12_burn_291 3 rfl ?_
      refine AW_invV (M' := MX12_loadOf) [.int v2, .int v3] (rest := []) mlRX12_360 okX12_loadOf (pc2 := 295) rfl dX12_burn_292 rfl rfl (Nat.le_of_ble_eq_true rfl) (Nat.le_of_ble_eq_true rfl) (d' := 0) (by omega) q246 ⟨by decide, rfl⟩ (EW_mono (fun _ _ hr => ?_) (sX12_loadOf v2 v3  x _ _ 0 0 (Nat.le_refl _) h))
      obtain ⟨r13, rfl, rfl, h⟩ := hr
      refine EW_aload_n (pc2 := 296) rfl dX12_burn_295 0 rfl ?_
      refine EW_iload_n (pc2 := 297) rfl dX12_burn_296 2 rfl ?_
      refine AW_invV (M' := MX12_bears) [.int v2] (rest := [.int r13]) mlRX12_379 okX12_bears (pc2 := 300) rfl dX12_burn_297 rfl rfl (Nat.le_of_ble_eq_true rfl) (Nat.le_of_ble_eq_true rfl) (d' := 0) (by omega) q246 ⟨by decide, rfl⟩ (EW_mono (fun _ _ hr => ?_) (sX12_bears v2  x _ _ 0 0 (Nat.le_refl _) h))
      obtain ⟨r14, rfl, rfl, h⟩ := hr
      refine EW_icmp_lt (tgt := 310) (pc2 := 303) rfl dX12_burn_300 (by decide) (fun q => ?_) (fun q => ?_)
      · replace h := h.1 q
        refine EW_iinc (v3 + (-1)) (pc2 := 313) rfl dX12_burn_310 3 rfl rfl (by decide) [1, 2, 3, 0] [(0, .ref 246), (1, .int v1), (2, .int v2), (3, .int (v3 + (-1)))] rfl ?_
        refine EW_goto (tgt := 271) dX12_burn_313 (by decide) ?_
        exact hL271 (v3 + (-1)) x h
      · replace h := h.2 q
        refine EW_aload_n (pc2 := 304) rfl dX12_burn_303 0 rfl ?_
        refine EW_iload_n (pc2 := 305) rfl dX12_burn_304 2 rfl ?_
        refine EW_iload_n (pc2 := 306) rfl dX12_burn_305 3 rfl ?_
        refine EW_iload_n (pc2 := 307) rfl dX12_burn_306 1 rfl ?_
        refine AW_invV (M' := MX12_falls) [.int v2, .int v3, .int v1] (rest := []) mlRX12_382 okX12_falls (pc2 := 310) rfl dX12_burn_307 rfl rfl (Nat.le_of_ble_eq_true rfl) (Nat.le_of_ble_eq_true rfl) (d' := 1) (by omega) q246 ⟨by decide, rfl⟩ (EW_mono (fun _ _ hr => ?_) (sX12_falls v2 v3 v1  x _ _ 0 0 (Nat.le_refl _) h))
        obtain ⟨x15, rfl, rfl, h⟩ := hr
        refine EW_iinc (v3 + (-1)) (pc2 := 313) rfl dX12_burn_310 3 rfl rfl (by decide) [1, 2, 3, 0] [(0, .ref 246), (1, .int v1), (2, .int v2), (3, .int (v3 + (-1)))] rfl ?_
        refine EW_goto (tgt := 271) dX12_burn_313 (by decide) ?_
        exact hL271 (v3 + (-1)) x15 h
set_option maxHeartbeats 4000000 in
set_option maxRecDepth 100000 in
theorem sX12_burn_254 (v1 : Int32) (v2 : Int32)  (x : ab_X) (K : ab_X → Prop)  (d bc bs : Nat) (hdp : 4 ≤ d)  (h : Lp2 (lX12_burn_254 v1 K ) v2 x) : EW MX12_burn 254 [(0, .ref 246), (1, .int v1), (2, .int v2)] [] (aS x) d bc bs (liV K) := by
  refine Lp2.use (P := fun v2 x => EW MX12_burn 254 [(0, .ref 246), (1, .int v1), (2, .int v2)] [] (aS x) d bc bs (liV K)) (fun L254 v2 x hL254 h => ?_) v2 x h
  unfold lX12_burn_254 at h
  refine EW_iload_n (pc2 := 255) rfl dX12_burn_254 2 rfl ?_
  refine EW_aload_n (pc2 := 256) rfl dX12_burn_255 0 rfl ?_
  refine AW_geti ⟨gfRX12_331, rfl⟩ (pc2 := 259) rfl dX12_burn_256 q246 ?_
  refine EW_icmp_ge (tgt := 322) (pc2 := 262) rfl dX12_burn_259 (by decide) (fun q => ?_) (fun q => ?_)
  · replace h := h.1 q
    refine EW_iconst (pc2 := 323) (v := 0) rfl dX12_burn_322 (by decide) ?_
    refine EW_istore_n (pc2 := 324) rfl dX12_burn_323 (by decide) [1, 2, 0] [(0, .ref 246), (1, .int v1), (2, .int 0)] rfl ?_
    exact sX12_burn_324 v1 0 x K d bc bs hdp h
  · replace h := h.2 q
    refine EW_aload_n (pc2 := 263) rfl dX12_burn_262 0 rfl ?_
    refine AW_getr (r := 256) ⟨gfRX12_38, rfl⟩ (pc2 := 266) rfl dX12_burn_263 q246 rfl ?_
    refine EW_iload_n (pc2 := 267) rfl dX12_burn_266 2 rfl ?_
    obtain ⟨b1, h⟩ := h
    refine AW_iald (pc2 := 268) rfl dX12_burn_267 q256 b1 ?_
    refine EW_iconst (pc2 := 269) (v := 1) rfl dX12_burn_268 (by decide) ?_
    refine EW_isub (pc2 := 270) rfl dX12_burn_269 ?_
    refine EW_istore_n (pc2 := 271) rfl dX12_burn_270 (by decide) [1, 2, 3, 0] [(0, .ref 246), (1, .int v1), (2, .int v2), (3, .int ((x.1 256 (Int32.toNatClampNeg v2)) - 1))] rfl ?_
    exact sX12_burn_271 v1 v2 ((x.1 256 (Int32.toNatClampNeg v2)) - 1) x K L254 d bc bs hdp hL254 h
set_option maxHeartbeats 4000000 in
set_option maxRecDepth 100000 in
theorem sX12_burn_158 (v1 : Int32) (v2 : Int32) (v3 : Int32)  (x : ab_X) (K : ab_X → Prop) (L148 : Int32 → ab_X → Prop) (d bc bs : Nat) (hdp : 4 ≤ d) (hL148 : ∀ (v2 : Int32) (x : ab_X), L148 v2 x → EW MX12_burn 148 [(0, .ref 246), (1, .int v1), (2, .int v2)] [] (aS x) d bc bs (liV K)) (h : Lp2 (lX12_burn_158 v1 v2 K L148) v3 x) : EW MX12_burn 158 [(0, .ref 246), (1, .int v1), (2, .int v2), (3, .int v3)] [] (aS x) d bc bs (liV K) := by
  refine Lp2.use (P := fun v3 x => EW MX12_burn 158 [(0, .ref 246), (1, .int v1), (2, .int v2), (3, .int v3)] [] (aS x) d bc bs (liV K)) (fun L158 v3 x hL158 h => ?_) v3 x h
  unfold lX12_burn_158 at h
  refine EW_iload_n (pc2 := 159) rfl dX12_burn_158 3 rfl ?_
  refine EW_aload_n (pc2 := 160) rfl dX12_burn_159 0 rfl ?_
  refine AW_getr (r := 256) ⟨gfRX12_38, rfl⟩ (pc2 := 163) rfl dX12_burn_160 q246 rfl ?_
  refine EW_iload_n (pc2 := 164) rfl dX12_burn_163 2 rfl ?_
  obtain ⟨b16, h⟩ := h
  refine AW_iald (pc2 := 165) rfl dX12_burn_164 q256 b16 ?_
  refine EW_aload_n (pc2 := 166) rfl dX12_burn_165 0 rfl ?_
  refine AW_getr (r := 257) ⟨gfRX12_41, rfl⟩ (pc2 := 169) rfl dX12_burn_166 q246 rfl ?_
  refine EW_iload_n (pc2 := 170) rfl dX12_burn_169 2 rfl ?_
  obtain ⟨b17, h⟩ := h
  refine AW_iald (pc2 := 171) rfl dX12_burn_170 q257 b17 ?_
  refine EW_imul (pc2 := 172) rfl dX12_burn_171 ?_
  refine EW_icmp_ge (tgt := 246) (pc2 := 175) rfl dX12_burn_172 (by decide) (fun q => ?_) (fun q => ?_)
  · replace h := h.1 q
    refine EW_iinc (v2 + 1) (pc2 := 249) rfl dX12_burn_246 2 rfl rfl (by decide) [1, 2, 0, 3] [(0, .ref 246), (1, .int v1), (2, .int (v2 + 1)), (3, .int v3)] rfl ?_
    refine EW_goto (tgt := 148) dX12_burn_249 (by decide) ?_
    refine EW_ls [0, 1, 2] rfl ?_
    exact hL148 (v2 + 1) x h
  · replace h := h.2 q
    refine EW_bipush (pc2 := 177) (v := 24) rfl dX12_burn_175 (by decide) ?_
    refine EW_iload_n (pc2 := 178) rfl dX12_burn_177 2 rfl ?_
    refine EW_imul (pc2 := 179) rfl dX12_burn_178 ?_
    refine EW_iload_n (pc2 := 180) rfl dX12_burn_179 3 rfl ?_
    refine EW_iadd (pc2 := 181) rfl dX12_burn_180 ?_
    refine EW_istore (pc2 := 183) rfl dX12_burn_181 (by decide) [1, 2, 3, 4, 0] [(0, .ref 246), (1, .int v1), (2, .int v2), (3, .int v3), (4, .int ((24 * v2) + v3))] rfl ?_
    refine EW_aload_n (pc2 := 184) rfl dX12_burn_183 0 rfl ?_
    refine AW_getr (r := 266) ⟨gfRX12_68, rfl⟩ (pc2 := 187) rfl dX12_burn_184 q246 rfl ?_
    refine EW_iload (pc2 := 189) rfl dX12_burn_187 4 rfl ?_
    refine EW_aload_n (pc2 := 190) rfl dX12_burn_189 0 rfl ?_
    refine AW_getr (r := 269) ⟨gfRX12_77, rfl⟩ (pc2 := 193) rfl dX12_burn_190 q246 rfl ?_
    refine EW_iload (pc2 := 195) rfl dX12_burn_193 4 rfl ?_
    obtain ⟨b18, h⟩ := h
    refine AW_iald (pc2 := 196) rfl dX12_burn_195 q269 b18 ?_
    obtain ⟨b19, h⟩ := h
    refine AW_iast (pc2 := 197) rfl dX12_burn_196 q266 b19 ?_
    refine EW_aload_n (pc2 := 198) rfl dX12_burn_197 0 rfl ?_
    refine AW_getr (r := 267) ⟨gfRX12_71, rfl⟩ (pc2 := 201) rfl dX12_burn_198 q246 rfl ?_
    refine EW_iload (pc2 := 203) rfl dX12_burn_201 4 rfl ?_
    refine EW_dup2 (pc2 := 204) rfl dX12_burn_203 rfl rfl ?_
    obtain ⟨b20, h⟩ := h
    refine AW_iald (pc2 := 205) rfl dX12_burn_204 q267 b20 ?_
    refine EW_aload_n (pc2 := 206) rfl dX12_burn_205 0 rfl ?_
    refine AW_getr (r := 270) ⟨gfRX12_80, rfl⟩ (pc2 := 209) rfl dX12_burn_206 q246 rfl ?_
    refine EW_iload (pc2 := 211) rfl dX12_burn_209 4 rfl ?_
    obtain ⟨b21, h⟩ := h
    refine AW_iald (pc2 := 212) rfl dX12_burn_211 q270 b21 ?_
    refine EW_isub (pc2 := 213) rfl dX12_burn_212 ?_
    obtain ⟨b22, h⟩ := h
    refine AW_iast (pc2 := 214) rfl dX12_burn_213 q267 b22 ?_
    refine EW_aload_n (pc2 := 215) rfl dX12_burn_214 0 rfl ?_
    refine AW_getr (r := 271) ⟨gfRX12_83, rfl⟩ (pc2 := 218) rfl dX12_burn_215 q246 rfl ?_
    refine EW_bipush (pc2 := 220) (v := 6) rfl dX12_burn_218 (by decide) ?_
    refine EW_iload_n (pc2 := 221) rfl dX12_burn_220 2 rfl ?_
    refine EW_imul (pc2 := 222) rfl dX12_burn_221 ?_
    refine EW_aload_n (pc2 := 223) rfl dX12_burn_222 0 rfl ?_
    refine EW_iload_n (pc2 := 224) rfl dX12_burn_223 2 rfl ?_
    refine EW_iload_n (pc2 := 225) rfl dX12_burn_224 3 rfl ?_
    refine AW_invV (M' := MX12_floorOf) [.int v2, .int v3] (rest := [.int (6 * v2), .ref 271]) mlRX12_345 okX12_floorOf (pc2 := 228) rfl dX12_burn_225 rfl rfl (Nat.le_of_ble_eq_true rfl) (Nat.le_of_ble_eq_true rfl) (d' := 0) (by omega) q246 ⟨by decide, rfl⟩ (EW_mono (fun _ _ hr => ?_) (sX12_floorOf v2 v3  (wr (wr x 266 (Int32.toNatClampNeg ((24 * v2) + v3)) (x.1 269 (Int32.toNatClampNeg ((24 * v2) + v3)))) 267 (Int32.toNatClampNeg ((24 * v2) + v3)) (((wr x 266 (Int32.toNatClampNeg ((24 * v2) + v3)) (x.1 269 (Int32.toNatClampNeg ((24 * v2) + v3)))).1 267 (Int32.toNatClampNeg ((24 * v2) + v3))) - ((wr x 266 (Int32.toNatClampNeg ((24 * v2) + v3)) (x.1 269 (Int32.toNatClampNeg ((24 * v2) + v3)))).1 270 (Int32.toNatClampNeg ((24 * v2) + v3))))) _ _ 0 0 (Nat.le_refl _) h))
    obtain ⟨r23, rfl, rfl, h⟩ := hr
    refine EW_iadd (pc2 := 229) rfl dX12_burn_228 ?_
    refine EW_dup2 (pc2 := 230) rfl dX12_burn_229 rfl rfl ?_
    obtain ⟨b24, h⟩ := h
    refine AW_iald (pc2 := 231) rfl dX12_burn_230 q271 b24 ?_
    refine EW_aload_n (pc2 := 232) rfl dX12_burn_231 0 rfl ?_
    refine AW_getr (r := 270) ⟨gfRX12_80, rfl⟩ (pc2 := 235) rfl dX12_burn_232 q246 rfl ?_
    refine EW_iload (pc2 := 237) rfl dX12_burn_235 4 rfl ?_
    obtain ⟨b25, h⟩ := h
    refine AW_iald (pc2 := 238) rfl dX12_burn_237 q270 b25 ?_
    refine EW_iadd (pc2 := 239) rfl dX12_burn_238 ?_
    obtain ⟨b26, h⟩ := h
    refine AW_iast (pc2 := 240) rfl dX12_burn_239 q271 b26 ?_
    refine EW_iinc (v3 + 1) (pc2 := 243) rfl dX12_burn_240 3 rfl rfl (by decide) [1, 2, 3, 0, 4] [(0, .ref 246), (1, .int v1), (2, .int v2), (3, .int (v3 + 1)), (4, .int ((24 * v2) + v3))] rfl ?_
    refine EW_goto (tgt := 158) dX12_burn_243 (by decide) ?_
    refine EW_ls [0, 1, 2, 3] rfl ?_
    exact hL158 (v3 + 1) (wr (wr (wr x 266 (Int32.toNatClampNeg ((24 * v2) + v3)) (x.1 269 (Int32.toNatClampNeg ((24 * v2) + v3)))) 267 (Int32.toNatClampNeg ((24 * v2) + v3)) (((wr x 266 (Int32.toNatClampNeg ((24 * v2) + v3)) (x.1 269 (Int32.toNatClampNeg ((24 * v2) + v3)))).1 267 (Int32.toNatClampNeg ((24 * v2) + v3))) - ((wr x 266 (Int32.toNatClampNeg ((24 * v2) + v3)) (x.1 269 (Int32.toNatClampNeg ((24 * v2) + v3)))).1 270 (Int32.toNatClampNeg ((24 * v2) + v3))))) 271 (Int32.toNatClampNeg ((6 * v2) + r23)) (((wr (wr x 266 (Int32.toNatClampNeg ((24 * v2) + v3)) (x.1 269 (Int32.toNatClampNeg ((24 * v2) + v3)))) 267 (Int32.toNatClampNeg ((24 * v2) + v3)) (((wr x 266 (Int32.toNatClampNeg ((24 * v2) + v3)) (x.1 269 (Int32.toNatClampNeg ((24 * v2) + v3)))).1 267 (Int32.toNatClampNeg ((24 * v2) + v3))) - ((wr x 266 (Int32.toNatClampNeg ((24 * v2) + v3)) (x.1 269 (Int32.toNatClampNeg ((24 * v2) + v3)))).1 270 (Int32.toNatClampNeg ((24 * v2) + v3))))).1 271 (Int32.toNatClampNeg ((6 * v2) + r23))) + ((wr (wr x 266 (Int32.toNatClampNeg ((24 * v2) + v3)) (x.1 269 (Int32.toNatClampNeg ((24 * v2) + v3)))) 267 (Int32.toNatClampNeg ((24 * v2) + v3)) (((wr x 266 (Int32.toNatClampNeg ((24 * v2) + v3)) (x.1 269 (Int32.toNatClampNeg ((24 * v2) + v3)))).1 267 (Int32.toNatClampNeg ((24 * v2) + v3))) - ((wr x 266 (Int32.toNatClampNeg ((24 * v2) + v3)) (x.1 269 (Int32.toNatClampNeg ((24 * v2) + v3)))).1 270 (Int32.toNatClampNeg ((24 * v2) + v3))))).1 270 (Int32.toNatClampNeg ((24 * v2) + v3))))) h
set_option maxHeartbeats 4000000 in
set_option maxRecDepth 100000 in
theorem sX12_burn_148 (v1 : Int32) (v2 : Int32)  (x : ab_X) (K : ab_X → Prop)  (d bc bs : Nat) (hdp : 4 ≤ d)  (h : Lp2 (lX12_burn_148 v1 K ) v2 x) : EW MX12_burn 148 [(0, .ref 246), (1, .int v1), (2, .int v2)] [] (aS x) d bc bs (liV K) := by
  refine Lp2.use (P := fun v2 x => EW MX12_burn 148 [(0, .ref 246), (1, .int v1), (2, .int v2)] [] (aS x) d bc bs (liV K)) (fun L148 v2 x hL148 h => ?_) v2 x h
  unfold lX12_burn_148 at h
  refine EW_iload_n (pc2 := 149) rfl dX12_burn_148 2 rfl ?_
  refine EW_aload_n (pc2 := 150) rfl dX12_burn_149 0 rfl ?_
  refine AW_geti ⟨gfRX12_331, rfl⟩ (pc2 := 153) rfl dX12_burn_150 q246 ?_
  refine EW_icmp_ge (tgt := 252) (pc2 := 156) rfl dX12_burn_153 (by decide) (fun q => ?_) (fun q => ?_)
  · replace h := h.1 q
    refine EW_iconst (pc2 := 253) (v := 0) rfl dX12_burn_252 (by decide) ?_
    refine EW_istore_n (pc2 := 254) rfl dX12_burn_253 (by decide) [1, 2, 0] [(0, .ref 246), (1, .int v1), (2, .int 0)] rfl ?_
    exact sX12_burn_254 v1 0 x K d bc bs hdp h
  · replace h := h.2 q
    refine EW_iconst (pc2 := 157) (v := 0) rfl dX12_burn_156 (by decide) ?_
    refine EW_istore_n (pc2 := 158) rfl dX12_burn_157 (by decide) [1, 2, 3, 0] [(0, .ref 246), (1, .int v1), (2, .int v2), (3, .int 0)] rfl ?_
    exact sX12_burn_158 v1 v2 0 x K L148 d bc bs hdp hL148 h
set_option maxHeartbeats 4000000 in
set_option maxRecDepth 100000 in
theorem sX12_burn_90 (v1 : Int32) (v2 : Int32) (v3 : Int32) (v4 : Int32) (s1 : Int32) (s2 : Int32)  (x : ab_X) (K : ab_X → Prop) (L2 : Int32 → ab_X → Prop) (L12 : Int32 → ab_X → Prop) (d bc bs : Nat) (hdp : 4 ≤ d) (hL2 : ∀ (v2 : Int32) (x : ab_X), L2 v2 x → EW MX12_burn 2 [(0, .ref 246), (1, .int v1), (2, .int v2)] [] (aS x) d bc bs (liV K)) (hL12 : ∀ (v3 : Int32) (x : ab_X), L12 v3 x → EW MX12_burn 12 [(0, .ref 246), (1, .int v1), (2, .int v2), (3, .int v3)] [] (aS x) d bc bs (liV K)) (h : wX12_burn_90 v1 v2 v3 v4 s1 s2 x K L2 L12) : EW MX12_burn 90 [(0, .ref 246), (1, .int v1), (2, .int v2), (3, .int v3), (4, .int v4)] [.int s2, .int s1, .ref 269] (aS x) d bc bs (liV K) := by
  unfold wX12_burn_90 at h
  obtain ⟨b33, h⟩ := h
  refine AW_iast (pc2 := 91) rfl dX12_burn_90 q269 b33 ?_
  refine EW_aload_n (pc2 := 92) rfl dX12_burn_91 0 rfl ?_
  refine AW_getr (r := 270) ⟨gfRX12_80, rfl⟩ (pc2 := 95) rfl dX12_burn_92 q246 rfl ?_
  refine EW_iload (pc2 := 97) rfl dX12_burn_95 4 rfl ?_
  refine EW_aload_n (pc2 := 98) rfl dX12_burn_97 0 rfl ?_
  refine EW_iload_n (pc2 := 99) rfl dX12_burn_98 2 rfl ?_
  refine EW_iload_n (pc2 := 100) rfl dX12_burn_99 3 rfl ?_
  refine AW_invV (M' := MX12_burns) [.int v2, .int v3] (rest := [.int v4, .ref 270]) mlRX12_348 okX12_burns (pc2 := 103) rfl dX12_burn_100 rfl rfl (Nat.le_of_ble_eq_true rfl) (Nat.le_of_ble_eq_true rfl) (d' := 1) (by omega) q246 ⟨by decide, rfl⟩ (EW_mono (fun _ _ hr => ?_) (sX12_burns v2 v3  (wr x 269 (Int32.toNatClampNeg s1) s2) _ _ 0 0 (Nat.le_refl _) h))
  obtain ⟨r34, rfl, rfl, h⟩ := hr
  refine EW_if_eq (tgt := 132) (pc2 := 106) rfl dX12_burn_103 (by decide) (fun q => ?_) (fun q => ?_)
  · replace h := h.1 q
    refine EW_iconst (pc2 := 133) (v := 0) rfl dX12_burn_132 (by decide) ?_
    obtain ⟨b35, h⟩ := h
    refine AW_iast (pc2 := 134) rfl dX12_burn_133 q270 b35 ?_
    refine EW_iinc (v3 + 1) (pc2 := 137) rfl dX12_burn_134 3 rfl rfl (by decide) [1, 2, 3, 0, 4] [(0, .ref 246), (1, .int v1), (2, .int v2), (3, .int (v3 + 1)), (4, .int v4)] rfl ?_
    refine EW_goto (tgt := 12) dX12_burn_137 (by decide) ?_
    refine EW_ls [0, 1, 2, 3] rfl ?_
    exact hL12 (v3 + 1) (wr (wr x 269 (Int32.toNatClampNeg s1) s2) 270 (Int32.toNatClampNeg v4) 0) h
  · replace h := h.2 q
    refine EW_aload_n (pc2 := 107) rfl dX12_burn_106 0 rfl ?_
    refine AW_getr (r := 267) ⟨gfRX12_71, rfl⟩ (pc2 := 110) rfl dX12_burn_107 q246 rfl ?_
    refine EW_iload (pc2 := 112) rfl dX12_burn_110 4 rfl ?_
    obtain ⟨b36, h⟩ := h
    refine AW_iald (pc2 := 113) rfl dX12_burn_112 q267 b36 ?_
    refine EW_iconst (pc2 := 114) (v := 1) rfl dX12_burn_113 (by decide) ?_
    refine EW_aload_n (pc2 := 115) rfl dX12_burn_114 0 rfl ?_
    refine AW_getr (r := 266) ⟨gfRX12_68, rfl⟩ (pc2 := 118) rfl dX12_burn_115 q246 rfl ?_
    refine EW_iload (pc2 := 120) rfl dX12_burn_118 4 rfl ?_
    obtain ⟨b37, h⟩ := h
    refine AW_iald (pc2 := 121) rfl dX12_burn_120 q266 b37 ?_
    refine EW_sipush (pc2 := 124) (v := 250) rfl dX12_burn_121 (by decide) ?_
    refine EW_idiv (pc2 := 125) rfl dX12_burn_124 (by decide) ?_
    refine EW_iadd (pc2 := 126) rfl dX12_burn_125 ?_
    refine AW_mmin mmRX12_311 (pc2 := 129) rfl dX12_burn_126 (Nat.le_of_ble_eq_true rfl) (by omega) ?_
    refine EW_goto (tgt := 133) dX12_burn_129 (by decide) ?_
    obtain ⟨b38, h⟩ := h
    refine AW_iast (pc2 := 134) rfl dX12_burn_133 q270 b38 ?_
    refine EW_iinc (v3 + 1) (pc2 := 137) rfl dX12_burn_134 3 rfl rfl (by decide) [1, 2, 3, 0, 4] [(0, .ref 246), (1, .int v1), (2, .int v2), (3, .int (v3 + 1)), (4, .int v4)] rfl ?_
    refine EW_goto (tgt := 12) dX12_burn_137 (by decide) ?_
    refine EW_ls [0, 1, 2, 3] rfl ?_
    exact hL12 (v3 + 1) (wr (wr x 269 (Int32.toNatClampNeg s1) s2) 270 (Int32.toNatClampNeg v4) (imin ((wr x 269 (Int32.toNatClampNeg s1) s2).1 267 (Int32.toNatClampNeg v4)) (1 + (((wr x 269 (Int32.toNatClampNeg s1) s2).1 266 (Int32.toNatClampNeg v4)) / 250)))) h
set_option maxHeartbeats 4000000 in
set_option maxRecDepth 100000 in
theorem sX12_burn_12 (v1 : Int32) (v2 : Int32) (v3 : Int32)  (x : ab_X) (K : ab_X → Prop) (L2 : Int32 → ab_X → Prop) (d bc bs : Nat) (hdp : 4 ≤ d) (hL2 : ∀ (v2 : Int32) (x : ab_X), L2 v2 x → EW MX12_burn 2 [(0, .ref 246), (1, .int v1), (2, .int v2)] [] (aS x) d bc bs (liV K)) (h : Lp2 (lX12_burn_12 v1 v2 K L2) v3 x) : EW MX12_burn 12 [(0, .ref 246), (1, .int v1), (2, .int v2), (3, .int v3)] [] (aS x) d bc bs (liV K) := by
  refine Lp2.use (P := fun v3 x => EW MX12_burn 12 [(0, .ref 246), (1, .int v1), (2, .int v2), (3, .int v3)] [] (aS x) d bc bs (liV K)) (fun L12 v3 x hL12 h => ?_) v3 x h
  unfold lX12_burn_12 at h
  refine EW_iload_n (pc2 := 13) rfl dX12_burn_12 3 rfl ?_
  refine EW_aload_n (pc2 := 14) rfl dX12_burn_13 0 rfl ?_
  refine AW_getr (r := 256) ⟨gfRX12_38, rfl⟩ (pc2 := 17) rfl dX12_burn_14 q246 rfl ?_
  refine EW_iload_n (pc2 := 18) rfl dX12_burn_17 2 rfl ?_
  obtain ⟨b27, h⟩ := h
  refine AW_iald (pc2 := 19) rfl dX12_burn_18 q256 b27 ?_
  refine EW_aload_n (pc2 := 20) rfl dX12_burn_19 0 rfl ?_
  refine AW_getr (r := 257) ⟨gfRX12_41, rfl⟩ (pc2 := 23) rfl dX12_burn_20 q246 rfl ?_
  refine EW_iload_n (pc2 := 24) rfl dX12_burn_23 2 rfl ?_
  obtain ⟨b28, h⟩ := h
  refine AW_iald (pc2 := 25) rfl dX12_burn_24 q257 b28 ?_
  refine EW_imul (pc2 := 26) rfl dX12_burn_25 ?_
  refine EW_icmp_ge (tgt := 140) (pc2 := 29) rfl dX12_burn_26 (by decide) (fun q => ?_) (fun q => ?_)
  · replace h := h.1 q
    refine EW_iinc (v2 + 1) (pc2 := 143) rfl dX12_burn_140 2 rfl rfl (by decide) [1, 2, 0, 3] [(0, .ref 246), (1, .int v1), (2, .int (v2 + 1)), (3, .int v3)] rfl ?_
    refine EW_goto (tgt := 2) dX12_burn_143 (by decide) ?_
    refine EW_ls [0, 1, 2] rfl ?_
    exact hL2 (v2 + 1) x h
  · replace h := h.2 q
    refine EW_bipush (pc2 := 31) (v := 24) rfl dX12_burn_29 (by decide) ?_
    refine EW_iload_n (pc2 := 32) rfl dX12_burn_31 2 rfl ?_
    refine EW_imul (pc2 := 33) rfl dX12_burn_32 ?_
    refine EW_iload_n (pc2 := 34) rfl dX12_burn_33 3 rfl ?_
    refine EW_iadd (pc2 := 35) rfl dX12_burn_34 ?_
    refine EW_istore (pc2 := 37) rfl dX12_burn_35 (by decide) [1, 2, 3, 4, 0] [(0, .ref 246), (1, .int v1), (2, .int v2), (3, .int v3), (4, .int ((24 * v2) + v3))] rfl ?_
    refine EW_aload_n (pc2 := 38) rfl dX12_burn_37 0 rfl ?_
    refine AW_getr (r := 269) ⟨gfRX12_77, rfl⟩ (pc2 := 41) rfl dX12_burn_38 q246 rfl ?_
    refine EW_iload (pc2 := 43) rfl dX12_burn_41 4 rfl ?_
    refine EW_aload_n (pc2 := 44) rfl dX12_burn_43 0 rfl ?_
    refine AW_getr (r := 274) ⟨gfRX12_92, rfl⟩ (pc2 := 47) rfl dX12_burn_44 q246 rfl ?_
    refine EW_bipush (pc2 := 49) (v := 6) rfl dX12_burn_47 (by decide) ?_
    refine EW_iload_n (pc2 := 50) rfl dX12_burn_49 2 rfl ?_
    refine EW_imul (pc2 := 51) rfl dX12_burn_50 ?_
    refine EW_aload_n (pc2 := 52) rfl dX12_burn_51 0 rfl ?_
    refine EW_iload_n (pc2 := 53) rfl dX12_burn_52 2 rfl ?_
    refine EW_iload_n (pc2 := 54) rfl dX12_burn_53 3 rfl ?_
    refine AW_invV (M' := MX12_floorOf) [.int v2, .int v3] (rest := [.int (6 * v2), .ref 274, .int ((24 * v2) + v3), .ref 269]) mlRX12_345 okX12_floorOf (pc2 := 57) rfl dX12_burn_54 rfl rfl (Nat.le_of_ble_eq_true rfl) (Nat.le_of_ble_eq_true rfl) (d' := 0) (by omega) q246 ⟨by decide, rfl⟩ (EW_mono (fun _ _ hr => ?_) (sX12_floorOf v2 v3  x _ _ 0 0 (Nat.le_refl _) h))
    obtain ⟨r29, rfl, rfl, h⟩ := hr
    refine EW_iadd (pc2 := 58) rfl dX12_burn_57 ?_
    obtain ⟨b30, h⟩ := h
    refine AW_zald (pc2 := 59) rfl dX12_burn_58 q274 b30 ?_
    refine EW_if_eq (tgt := 66) (pc2 := 62) rfl dX12_burn_59 (by decide) (fun q => ?_) (fun q => ?_)
    · replace h := h.1 q
      refine EW_iconst (pc2 := 67) (v := 0) rfl dX12_burn_66 (by decide) ?_
      refine EW_sipush (pc2 := 70) (v := 1000) rfl dX12_burn_67 (by decide) ?_
      refine EW_aload_n (pc2 := 71) rfl dX12_burn_70 0 rfl ?_
      refine AW_getr (r := 266) ⟨gfRX12_68, rfl⟩ (pc2 := 74) rfl dX12_burn_71 q246 rfl ?_
      refine EW_iload (pc2 := 76) rfl dX12_burn_74 4 rfl ?_
      obtain ⟨b31, h⟩ := h
      refine AW_iald (pc2 := 77) rfl dX12_burn_76 q266 b31 ?_
      refine EW_aload_n (pc2 := 78) rfl dX12_burn_77 0 rfl ?_
      refine EW_iload_n (pc2 := 79) rfl dX12_burn_78 2 rfl ?_
      refine EW_iload_n (pc2 := 80) rfl dX12_burn_79 3 rfl ?_
      refine AW_invV (M' := MX12_gain) [.int v2, .int v3] (rest := [.int (x.1 266 (Int32.toNatClampNeg ((24 * v2) + v3))), .int 1000, .int 0, .int ((24 * v2) + v3), .ref 269]) mlRX12_376 okX12_gain (pc2 := 83) rfl dX12_burn_80 rfl rfl (Nat.le_of_ble_eq_true rfl) (Nat.le_of_ble_eq_true rfl) (d' := 3) (by omega) q246 ⟨by decide, rfl⟩ (EW_mono (fun _ _ hr => ?_) (sX12_gain v2 v3  x _ _ 0 0 (Nat.le_refl _) h))
      obtain ⟨r32, rfl, rfl, h⟩ := hr
      refine EW_iadd (pc2 := 84) rfl dX12_burn_83 ?_
      refine AW_mmin mmRX12_311 (pc2 := 87) rfl dX12_burn_84 (Nat.le_of_ble_eq_true rfl) (by omega) ?_
      refine AW_mmax mmRX12_357 (pc2 := 90) rfl dX12_burn_87 (Nat.le_of_ble_eq_true rfl) (by omega) ?_
      exact sX12_burn_90 v1 v2 v3 ((24 * v2) + v3) ((24 * v2) + v3) (imax 0 (imin 1000 ((x.1 266 (Int32.toNatClampNeg ((24 * v2) + v3))) + r32))) x K L2 L12 d bc bs hdp hL2 hL12 h
    · replace h := h.2 q
      refine EW_iconst (pc2 := 63) (v := 0) rfl dX12_burn_62 (by decide) ?_
      refine EW_goto (tgt := 90) dX12_burn_63 (by decide) ?_
      exact sX12_burn_90 v1 v2 v3 ((24 * v2) + v3) ((24 * v2) + v3) 0 x K L2 L12 d bc bs hdp hL2 hL12 h
set_option maxHeartbeats 4000000 in
set_option maxRecDepth 100000 in
theorem sX12_burn_2 (v1 : Int32) (v2 : Int32)  (x : ab_X) (K : ab_X → Prop)  (d bc bs : Nat) (hdp : 4 ≤ d)  (h : Lp2 (lX12_burn_2 v1 K ) v2 x) : EW MX12_burn 2 [(0, .ref 246), (1, .int v1), (2, .int v2)] [] (aS x) d bc bs (liV K) := by
  refine Lp2.use (P := fun v2 x => EW MX12_burn 2 [(0, .ref 246), (1, .int v1), (2, .int v2)] [] (aS x) d bc bs (liV K)) (fun L2 v2 x hL2 h => ?_) v2 x h
  unfold lX12_burn_2 at h
  refine EW_iload_n (pc2 := 3) rfl dX12_burn_2 2 rfl ?_
  refine EW_aload_n (pc2 := 4) rfl dX12_burn_3 0 rfl ?_
  refine AW_geti ⟨gfRX12_331, rfl⟩ (pc2 := 7) rfl dX12_burn_4 q246 ?_
  refine EW_icmp_ge (tgt := 146) (pc2 := 10) rfl dX12_burn_7 (by decide) (fun q => ?_) (fun q => ?_)
  · replace h := h.1 q
    refine EW_iconst (pc2 := 147) (v := 0) rfl dX12_burn_146 (by decide) ?_
    refine EW_istore_n (pc2 := 148) rfl dX12_burn_147 (by decide) [1, 2, 0] [(0, .ref 246), (1, .int v1), (2, .int 0)] rfl ?_
    exact sX12_burn_148 v1 0 x K d bc bs hdp h
  · replace h := h.2 q
    refine EW_iconst (pc2 := 11) (v := 0) rfl dX12_burn_10 (by decide) ?_
    refine EW_istore_n (pc2 := 12) rfl dX12_burn_11 (by decide) [1, 2, 3, 0] [(0, .ref 246), (1, .int v1), (2, .int v2), (3, .int 0)] rfl ?_
    exact sX12_burn_12 v1 v2 0 x K L2 d bc bs hdp hL2 h
set_option maxHeartbeats 4000000 in
set_option maxRecDepth 100000 in
theorem sX12_burn (v1 : Int32)  (x : ab_X) (K : ab_X → Prop) (d bc bs : Nat) (hdp : 4 ≤ d) (h : wX12_burn v1 x K) : EW MX12_burn 0 [(0, .ref 246), (1, .int v1)] [] (aS x) d bc bs (liV K) := by
  unfold wX12_burn at h
  refine EW_iconst (pc2 := 1) (v := 0) rfl dX12_burn_0 (by decide) ?_
  refine EW_istore_n (pc2 := 2) rfl dX12_burn_1 (by decide) [1, 2, 0] [(0, .ref 246), (1, .int v1), (2, .int 0)] rfl ?_
  exact sX12_burn_2 v1 0 x K d bc bs hdp h
abbrev MX12_burnsAt : ab_M := (yX12_burnsAt, cX12_burnsAt, 3, (some .boolean))
theorem dX12_burnsAt_0 : decode cX12_burnsAt 0 = .ok (.iconst 0, 1) := by decide +kernel
theorem dX12_burnsAt_1 : decode cX12_burnsAt 1 = .ok (.istore_n 2, 1) := by decide +kernel
theorem dX12_burnsAt_2 : decode cX12_burnsAt 2 = .ok (.iload_n 2, 1) := by decide +kernel
theorem dX12_burnsAt_3 : decode cX12_burnsAt 3 = .ok (.aload_n 0, 1) := by decide +kernel
theorem dX12_burnsAt_4 : decode cX12_burnsAt 4 = .ok (.getfield 331, 3) := by decide +kernel
theorem dX12_burnsAt_7 : decode cX12_burnsAt 7 = .ok (.if_icmp .ge 29, 3) := by decide +kernel
theorem dX12_burnsAt_10 : decode cX12_burnsAt 10 = .ok (.aload_n 0, 1) := by decide +kernel
theorem dX12_burnsAt_11 : decode cX12_burnsAt 11 = .ok (.getfield 32, 3) := by decide +kernel
theorem dX12_burnsAt_14 : decode cX12_burnsAt 14 = .ok (.iload_n 2, 1) := by decide +kernel
theorem dX12_burnsAt_15 : decode cX12_burnsAt 15 = .ok (.iaload, 1) := by decide +kernel
theorem dX12_burnsAt_16 : decode cX12_burnsAt 16 = .ok (.iload_n 1, 1) := by decide +kernel
theorem dX12_burnsAt_17 : decode cX12_burnsAt 17 = .ok (.if_icmp .ne 13, 3) := by decide +kernel
theorem dX12_burnsAt_20 : decode cX12_burnsAt 20 = .ok (.aload_n 0, 1) := by decide +kernel
theorem dX12_burnsAt_21 : decode cX12_burnsAt 21 = .ok (.iload_n 2, 1) := by decide +kernel
theorem dX12_burnsAt_22 : decode cX12_burnsAt 22 = .ok (.invokevirtual 351, 3) := by decide +kernel
theorem dX12_burnsAt_25 : decode cX12_burnsAt 25 = .ok (.ifCond .le 5, 3) := by decide +kernel
theorem dX12_burnsAt_28 : decode cX12_burnsAt 28 = .ok (.iconst 1, 1) := by decide +kernel
theorem dX12_burnsAt_29 : decode cX12_burnsAt 29 = .ok (.ireturn, 1) := by decide +kernel
theorem dX12_burnsAt_30 : decode cX12_burnsAt 30 = .ok (.iinc 2 1, 3) := by decide +kernel
theorem dX12_burnsAt_33 : decode cX12_burnsAt 33 = .ok (.goto (-31), 3) := by decide +kernel
theorem dX12_burnsAt_36 : decode cX12_burnsAt 36 = .ok (.iconst 0, 1) := by decide +kernel
theorem dX12_burnsAt_37 : decode cX12_burnsAt 37 = .ok (.ireturn, 1) := by decide +kernel
theorem okX12_burnsAt : ab_okM MX12_burnsAt 1 := ⟨by decide, ⟨by decide, by decide⟩, ab_in 2291 (by decide +kernel) (by decide +kernel), ab_in 99 (by decide +kernel) (by decide +kernel), by decide +kernel, by decide⟩
set_option maxHeartbeats 4000000 in
set_option maxRecDepth 100000 in
theorem sX12_burnsAt_2 (v1 : Int32) (v2 : Int32)  (x : ab_X) (K : Int32 → Prop)  (d bc bs : Nat) (hdp : 3 ≤ d)  (h : Lp1 (lX12_burnsAt_2 v1 x K ) v2) : EW MX12_burnsAt 2 [(0, .ref 246), (1, .int v1), (2, .int v2)] [] (aS x) d bc bs (liP x K) := by
  refine Lp1.use (P := fun v2 => EW MX12_burnsAt 2 [(0, .ref 246), (1, .int v1), (2, .int v2)] [] (aS x) d bc bs (liP x K)) (fun L2 v2 hL2 h => ?_) v2 h
  unfold lX12_burnsAt_2 at h
  refine EW_iload_n (pc2 := 3) rfl dX12_burnsAt_2 2 rfl ?_
  refine EW_aload_n (pc2 := 4) rfl dX12_burnsAt_3 0 rfl ?_
  refine AW_geti ⟨gfRX12_331, rfl⟩ (pc2 := 7) rfl dX12_burnsAt_4 q246 ?_
  refine EW_icmp_ge (tgt := 36) (pc2 := 10) rfl dX12_burnsAt_7 (by decide) (fun q => ?_) (fun q => ?_)
  · replace h := h.1 q
    refine EW_iconst (pc2 := 37) (v := 0) rfl dX12_burnsAt_36 (by decide) ?_
    exact AW_zret rfl isB0 dX12_burnsAt_37 ⟨_, rfl, rfl, h⟩
  · replace h := h.2 q
    refine EW_aload_n (pc2 := 11) rfl dX12_burnsAt_10 0 rfl ?_
    refine AW_getr (r := 254) ⟨gfRX12_32, rfl⟩ (pc2 := 14) rfl dX12_burnsAt_11 q246 rfl ?_
    refine EW_iload_n (pc2 := 15) rfl dX12_burnsAt_14 2 rfl ?_
    obtain ⟨b1, h⟩ := h
    refine AW_iald (pc2 := 16) rfl dX12_burnsAt_15 q254 b1 ?_
    refine EW_iload_n (pc2 := 17) rfl dX12_burnsAt_16 1 rfl ?_
    refine EW_icmp_ne (tgt := 30) (pc2 := 20) rfl dX12_burnsAt_17 (by decide) (fun q => ?_) (fun q => ?_)
    · replace h := h.1 q
      refine EW_iinc (v2 + 1) (pc2 := 33) rfl dX12_burnsAt_30 2 rfl rfl (by decide) [1, 2, 0] [(0, .ref 246), (1, .int v1), (2, .int (v2 + 1))] rfl ?_
      refine EW_goto (tgt := 2) dX12_burnsAt_33 (by decide) ?_
      exact hL2 (v2 + 1) h
    · replace h := h.2 q
      refine EW_aload_n (pc2 := 21) rfl dX12_burnsAt_20 0 rfl ?_
      refine EW_iload_n (pc2 := 22) rfl dX12_burnsAt_21 2 rfl ?_
      refine AW_invV (M' := MX12_burning) [.int v2] (rest := []) mlRX12_351 okX12_burning (pc2 := 25) rfl dX12_burnsAt_22 rfl rfl (Nat.le_of_ble_eq_true rfl) (Nat.le_of_ble_eq_true rfl) (d' := 2) (by omega) q246 ⟨by decide, rfl⟩ (EW_mono (fun _ _ hr => ?_) (sX12_burning v2  x _ _ 0 0 (Nat.le_refl _) h))
      obtain ⟨r2, rfl, rfl, h⟩ := hr
      refine EW_if_le (tgt := 30) (pc2 := 28) rfl dX12_burnsAt_25 (by decide) (fun q => ?_) (fun q => ?_)
      · replace h := h.1 q
        refine EW_iinc (v2 + 1) (pc2 := 33) rfl dX12_burnsAt_30 2 rfl rfl (by decide) [1, 2, 0] [(0, .ref 246), (1, .int v1), (2, .int (v2 + 1))] rfl ?_
        refine EW_goto (tgt := 2) dX12_burnsAt_33 (by decide) ?_
        exact hL2 (v2 + 1) h
      · replace h := h.2 q
        refine EW_iconst (pc2 := 29) (v := 1) rfl dX12_burnsAt_28 (by decide) ?_
        exact AW_zret rfl isB1 dX12_burnsAt_29 ⟨_, rfl, rfl, h⟩
set_option maxHeartbeats 4000000 in
set_option maxRecDepth 100000 in
theorem sX12_burnsAt (v1 : Int32)  (x : ab_X) (K : Int32 → Prop) (d bc bs : Nat) (hdp : 3 ≤ d) (h : wX12_burnsAt v1 x K) : EW MX12_burnsAt 0 [(0, .ref 246), (1, .int v1)] [] (aS x) d bc bs (liP x K) := by
  unfold wX12_burnsAt at h
  refine EW_iconst (pc2 := 1) (v := 0) rfl dX12_burnsAt_0 (by decide) ?_
  refine EW_istore_n (pc2 := 2) rfl dX12_burnsAt_1 (by decide) [1, 2, 0] [(0, .ref 246), (1, .int v1), (2, .int 0)] rfl ?_
  exact sX12_burnsAt_2 v1 0 x K d bc bs hdp h
abbrev MX12_burntOf : ab_M := (yX12_burntOf, cX12_burntOf, 4, (some .int))
theorem dX12_burntOf_0 : decode cX12_burntOf 0 = .ok (.iconst 0, 1) := by decide +kernel
theorem dX12_burntOf_1 : decode cX12_burntOf 1 = .ok (.istore_n 2, 1) := by decide +kernel
theorem dX12_burntOf_2 : decode cX12_burntOf 2 = .ok (.iconst 0, 1) := by decide +kernel
theorem dX12_burntOf_3 : decode cX12_burntOf 3 = .ok (.istore_n 3, 1) := by decide +kernel
theorem dX12_burntOf_4 : decode cX12_burntOf 4 = .ok (.iload_n 3, 1) := by decide +kernel
theorem dX12_burntOf_5 : decode cX12_burntOf 5 = .ok (.aload_n 0, 1) := by decide +kernel
theorem dX12_burntOf_6 : decode cX12_burntOf 6 = .ok (.getfield 38, 3) := by decide +kernel
theorem dX12_burntOf_9 : decode cX12_burntOf 9 = .ok (.iload_n 1, 1) := by decide +kernel
theorem dX12_burntOf_10 : decode cX12_burntOf 10 = .ok (.iaload, 1) := by decide +kernel
theorem dX12_burntOf_11 : decode cX12_burntOf 11 = .ok (.if_icmp .ge 23, 3) := by decide +kernel
theorem dX12_burntOf_14 : decode cX12_burntOf 14 = .ok (.iload_n 2, 1) := by decide +kernel
theorem dX12_burntOf_15 : decode cX12_burntOf 15 = .ok (.aload_n 0, 1) := by decide +kernel
theorem dX12_burntOf_16 : decode cX12_burntOf 16 = .ok (.getfield 83, 3) := by decide +kernel
theorem dX12_burntOf_19 : decode cX12_burntOf 19 = .ok (.bipush 6, 2) := by decide +kernel
theorem dX12_burntOf_21 : decode cX12_burntOf 21 = .ok (.iload_n 1, 1) := by decide +kernel
theorem dX12_burntOf_22 : decode cX12_burntOf 22 = .ok (.imul, 1) := by decide +kernel
theorem dX12_burntOf_23 : decode cX12_burntOf 23 = .ok (.iload_n 3, 1) := by decide +kernel
theorem dX12_burntOf_24 : decode cX12_burntOf 24 = .ok (.iadd, 1) := by decide +kernel
theorem dX12_burntOf_25 : decode cX12_burntOf 25 = .ok (.iaload, 1) := by decide +kernel
theorem dX12_burntOf_26 : decode cX12_burntOf 26 = .ok (.iadd, 1) := by decide +kernel
theorem dX12_burntOf_27 : decode cX12_burntOf 27 = .ok (.istore_n 2, 1) := by decide +kernel
theorem dX12_burntOf_28 : decode cX12_burntOf 28 = .ok (.iinc 3 1, 3) := by decide +kernel
theorem dX12_burntOf_31 : decode cX12_burntOf 31 = .ok (.goto (-27), 3) := by decide +kernel
theorem dX12_burntOf_34 : decode cX12_burntOf 34 = .ok (.iload_n 2, 1) := by decide +kernel
theorem dX12_burntOf_35 : decode cX12_burntOf 35 = .ok (.ireturn, 1) := by decide +kernel
theorem okX12_burntOf : ab_okM MX12_burntOf 1 := ⟨by decide, ⟨by decide, by decide⟩, ab_in 2332 (by decide +kernel) (by decide +kernel), ab_in 99 (by decide +kernel) (by decide +kernel), by decide +kernel, by decide⟩
set_option maxHeartbeats 4000000 in
set_option maxRecDepth 100000 in
theorem sX12_burntOf_4 (v1 : Int32) (v2 : Int32) (v3 : Int32)  (x : ab_X) (K : Int32 → Prop)  (d bc bs : Nat) (hdp : 0 ≤ d)  (h : Lp2 (lX12_burntOf_4 v1 x K ) v2 v3) : EW MX12_burntOf 4 [(0, .ref 246), (1, .int v1), (2, .int v2), (3, .int v3)] [] (aS x) d bc bs (liP x K) := by
  refine Lp2.use (P := fun v2 v3 => EW MX12_burntOf 4 [(0, .ref 246), (1, .int v1), (2, .int v2), (3, .int v3)] [] (aS x) d bc bs (liP x K)) (fun L4 v2 v3 hL4 h => ?_) v2 v3 h
  unfold lX12_burntOf_4 at h
  refine EW_iload_n (pc2 := 5) rfl dX12_burntOf_4 3 rfl ?_
  refine EW_aload_n (pc2 := 6) rfl dX12_burntOf_5 0 rfl ?_
  refine AW_getr (r := 256) ⟨gfRX12_38, rfl⟩ (pc2 := 9) rfl dX12_burntOf_6 q246 rfl ?_
  refine EW_iload_n (pc2 := 10) rfl dX12_burntOf_9 1 rfl ?_
  obtain ⟨b1, h⟩ := h
  refine AW_iald (pc2 := 11) rfl dX12_burntOf_10 q256 b1 ?_
  refine EW_icmp_ge (tgt := 34) (pc2 := 14) rfl dX12_burntOf_11 (by decide) (fun q => ?_) (fun q => ?_)
  · replace h := h.1 q
    refine EW_iload_n (pc2 := 35) rfl dX12_burntOf_34 2 rfl ?_
    exact AW_iret rfl dX12_burntOf_35 ⟨_, rfl, rfl, h⟩
  · replace h := h.2 q
    refine EW_iload_n (pc2 := 15) rfl dX12_burntOf_14 2 rfl ?_
    refine EW_aload_n (pc2 := 16) rfl dX12_burntOf_15 0 rfl ?_
    refine AW_getr (r := 271) ⟨gfRX12_83, rfl⟩ (pc2 := 19) rfl dX12_burntOf_16 q246 rfl ?_
    refine EW_bipush (pc2 := 21) (v := 6) rfl dX12_burntOf_19 (by decide) ?_
    refine EW_iload_n (pc2 := 22) rfl dX12_burntOf_21 1 rfl ?_
    refine EW_imul (pc2 := 23) rfl dX12_burntOf_22 ?_
    refine EW_iload_n (pc2 := 24) rfl dX12_burntOf_23 3 rfl ?_
    refine EW_iadd (pc2 := 25) rfl dX12_burntOf_24 ?_
    obtain ⟨b2, h⟩ := h
    refine AW_iald (pc2 := 26) rfl dX12_burntOf_25 q271 b2 ?_
    refine EW_iadd (pc2 := 27) rfl dX12_burntOf_26 ?_
    refine EW_istore_n (pc2 := 28) rfl dX12_burntOf_27 (by decide) [1, 2, 0, 3] [(0, .ref 246), (1, .int v1), (2, .int (v2 + (x.1 271 (Int32.toNatClampNeg ((6 * v1) + v3))))), (3, .int v3)] rfl ?_
    refine EW_iinc (v3 + 1) (pc2 := 31) rfl dX12_burntOf_28 3 rfl rfl (by decide) [1, 2, 3, 0] [(0, .ref 246), (1, .int v1), (2, .int (v2 + (x.1 271 (Int32.toNatClampNeg ((6 * v1) + v3))))), (3, .int (v3 + 1))] rfl ?_
    refine EW_goto (tgt := 4) dX12_burntOf_31 (by decide) ?_
    exact hL4 (v2 + (x.1 271 (Int32.toNatClampNeg ((6 * v1) + v3)))) (v3 + 1) h
set_option maxHeartbeats 4000000 in
set_option maxRecDepth 100000 in
theorem sX12_burntOf (v1 : Int32)  (x : ab_X) (K : Int32 → Prop) (d bc bs : Nat) (hdp : 0 ≤ d) (h : wX12_burntOf v1 x K) : EW MX12_burntOf 0 [(0, .ref 246), (1, .int v1)] [] (aS x) d bc bs (liP x K) := by
  unfold wX12_burntOf at h
  refine EW_iconst (pc2 := 1) (v := 0) rfl dX12_burntOf_0 (by decide) ?_
  refine EW_istore_n (pc2 := 2) rfl dX12_burntOf_1 (by decide) [1, 2, 0] [(0, .ref 246), (1, .int v1), (2, .int 0)] rfl ?_
  refine EW_iconst (pc2 := 3) (v := 0) rfl dX12_burntOf_2 (by decide) ?_
  refine EW_istore_n (pc2 := 4) rfl dX12_burntOf_3 (by decide) [1, 2, 3, 0] [(0, .ref 246), (1, .int v1), (2, .int 0), (3, .int 0)] rfl ?_
  exact sX12_burntOf_4 v1 0 0 x K d bc bs hdp h
abbrev MX12_bytesIn : ab_M := (yX12_bytesIn, cX12_bytesIn, 3, (some .int))
theorem dX12_bytesIn_0 : decode cX12_bytesIn 0 = .ok (.iconst 0, 1) := by decide +kernel
theorem dX12_bytesIn_1 : decode cX12_bytesIn 1 = .ok (.istore_n 1, 1) := by decide +kernel
theorem dX12_bytesIn_2 : decode cX12_bytesIn 2 = .ok (.bipush 24, 2) := by decide +kernel
theorem dX12_bytesIn_4 : decode cX12_bytesIn 4 = .ok (.istore_n 2, 1) := by decide +kernel
theorem dX12_bytesIn_5 : decode cX12_bytesIn 5 = .ok (.iload_n 2, 1) := by decide +kernel
theorem dX12_bytesIn_6 : decode cX12_bytesIn 6 = .ok (.ifCond .lt 27, 3) := by decide +kernel
theorem dX12_bytesIn_9 : decode cX12_bytesIn 9 = .ok (.iload_n 1, 1) := by decide +kernel
theorem dX12_bytesIn_10 : decode cX12_bytesIn 10 = .ok (.iload_n 0, 1) := by decide +kernel
theorem dX12_bytesIn_11 : decode cX12_bytesIn 11 = .ok (.iload_n 2, 1) := by decide +kernel
theorem dX12_bytesIn_12 : decode cX12_bytesIn 12 = .ok (.ishr, 1) := by decide +kernel
theorem dX12_bytesIn_13 : decode cX12_bytesIn 13 = .ok (.sipush 255, 3) := by decide +kernel
theorem dX12_bytesIn_16 : decode cX12_bytesIn 16 = .ok (.iand, 1) := by decide +kernel
theorem dX12_bytesIn_17 : decode cX12_bytesIn 17 = .ok (.ifCond .eq 7, 3) := by decide +kernel
theorem dX12_bytesIn_20 : decode cX12_bytesIn 20 = .ok (.iconst 1, 1) := by decide +kernel
theorem dX12_bytesIn_21 : decode cX12_bytesIn 21 = .ok (.goto 4, 3) := by decide +kernel
theorem dX12_bytesIn_24 : decode cX12_bytesIn 24 = .ok (.iconst 0, 1) := by decide +kernel
theorem dX12_bytesIn_25 : decode cX12_bytesIn 25 = .ok (.iadd, 1) := by decide +kernel
theorem dX12_bytesIn_26 : decode cX12_bytesIn 26 = .ok (.istore_n 1, 1) := by decide +kernel
theorem dX12_bytesIn_27 : decode cX12_bytesIn 27 = .ok (.iinc 2 (-8), 3) := by decide +kernel
theorem dX12_bytesIn_30 : decode cX12_bytesIn 30 = .ok (.goto (-25), 3) := by decide +kernel
theorem dX12_bytesIn_33 : decode cX12_bytesIn 33 = .ok (.iload_n 1, 1) := by decide +kernel
theorem dX12_bytesIn_34 : decode cX12_bytesIn 34 = .ok (.ireturn, 1) := by decide +kernel
theorem okX12_bytesIn : ab_okM MX12_bytesIn 1 := ⟨by decide, ⟨by decide, by decide⟩, ab_in 2395 (by decide +kernel) (by decide +kernel), ab_in 99 (by decide +kernel) (by decide +kernel), by decide +kernel, by decide⟩
set_option maxHeartbeats 4000000 in
set_option maxRecDepth 100000 in
theorem sX12_bytesIn_25 (v0 : Int32) (v2 : Int32) (s0 : Int32) (s1 : Int32)  (x : ab_X) (K : Int32 → Prop) (L5 : Int32 → Int32 → Prop) (d bc bs : Nat) (hdp : 0 ≤ d) (hL5 : ∀ (v1 : Int32) (v2 : Int32), L5 v1 v2 → EW MX12_bytesIn 5 [(0, .int v0), (1, .int v1), (2, .int v2)] [] (aS x) d bc bs (liP x K)) (h : wX12_bytesIn_25 v0 v2 s0 s1 x K L5) : EW MX12_bytesIn 25 [(0, .int v0), (2, .int v2)] [.int s1, .int s0] (aS x) d bc bs (liP x K) := by
  unfold wX12_bytesIn_25 at h
  refine EW_iadd (pc2 := 26) rfl dX12_bytesIn_25 ?_
  refine EW_istore_n (pc2 := 27) rfl dX12_bytesIn_26 (by decide) [1, 0, 2] [(0, .int v0), (1, .int (s0 + s1)), (2, .int v2)] rfl ?_
  refine EW_iinc (v2 + (-8)) (pc2 := 30) rfl dX12_bytesIn_27 2 rfl rfl (by decide) [1, 2, 0] [(0, .int v0), (1, .int (s0 + s1)), (2, .int (v2 + (-8)))] rfl ?_
  refine EW_goto (tgt := 5) dX12_bytesIn_30 (by decide) ?_
  exact hL5 (s0 + s1) (v2 + (-8)) h
set_option maxHeartbeats 4000000 in
set_option maxRecDepth 100000 in
theorem sX12_bytesIn_5 (v0 : Int32) (v1 : Int32) (v2 : Int32)  (x : ab_X) (K : Int32 → Prop)  (d bc bs : Nat) (hdp : 0 ≤ d)  (h : Lp2 (lX12_bytesIn_5 v0 x K ) v1 v2) : EW MX12_bytesIn 5 [(0, .int v0), (1, .int v1), (2, .int v2)] [] (aS x) d bc bs (liP x K) := by
  refine Lp2.use (P := fun v1 v2 => EW MX12_bytesIn 5 [(0, .int v0), (1, .int v1), (2, .int v2)] [] (aS x) d bc bs (liP x K)) (fun L5 v1 v2 hL5 h => ?_) v1 v2 h
  unfold lX12_bytesIn_5 at h
  refine EW_iload_n (pc2 := 6) rfl dX12_bytesIn_5 2 rfl ?_
  refine EW_if_lt (tgt := 33) (pc2 := 9) rfl dX12_bytesIn_6 (by decide) (fun q => ?_) (fun q => ?_)
  · replace h := h.1 q
    refine EW_iload_n (pc2 := 34) rfl dX12_bytesIn_33 1 rfl ?_
    exact AW_iret rfl dX12_bytesIn_34 ⟨_, rfl, rfl, h⟩
  · replace h := h.2 q
    refine EW_iload_n (pc2 := 10) rfl dX12_bytesIn_9 1 rfl ?_
    refine EW_iload_n (pc2 := 11) rfl dX12_bytesIn_10 0 rfl ?_
    refine EW_iload_n (pc2 := 12) rfl dX12_bytesIn_11 2 rfl ?_
    refine EW_ishr (pc2 := 13) rfl dX12_bytesIn_12 ?_
    refine EW_sipush (pc2 := 16) (v := 255) rfl dX12_bytesIn_13 (by decide) ?_
    refine EW_iand (pc2 := 17) rfl dX12_bytesIn_16 ?_
    refine EW_if_eq (tgt := 24) (pc2 := 20) rfl dX12_bytesIn_17 (by decide) (fun q => ?_) (fun q => ?_)
    · replace h := h.1 q
      refine EW_iconst (pc2 := 25) (v := 0) rfl dX12_bytesIn_24 (by decide) ?_
      refine EW_ls [0, 2] rfl ?_
      exact sX12_bytesIn_25 v0 v2 v1 0 x K L5 d bc bs hdp hL5 h
    · replace h := h.2 q
      refine EW_iconst (pc2 := 21) (v := 1) rfl dX12_bytesIn_20 (by decide) ?_
      refine EW_goto (tgt := 25) dX12_bytesIn_21 (by decide) ?_
      refine EW_ls [0, 2] rfl ?_
      exact sX12_bytesIn_25 v0 v2 v1 1 x K L5 d bc bs hdp hL5 h
set_option maxHeartbeats 4000000 in
set_option maxRecDepth 100000 in
theorem sX12_bytesIn (v0 : Int32)  (x : ab_X) (K : Int32 → Prop) (d bc bs : Nat) (hdp : 0 ≤ d) (h : wX12_bytesIn v0 x K) : EW MX12_bytesIn 0 [(0, .int v0)] [] (aS x) d bc bs (liP x K) := by
  unfold wX12_bytesIn at h
  refine EW_iconst (pc2 := 1) (v := 0) rfl dX12_bytesIn_0 (by decide) ?_
  refine EW_istore_n (pc2 := 2) rfl dX12_bytesIn_1 (by decide) [1, 0] [(0, .int v0), (1, .int 0)] rfl ?_
  refine EW_bipush (pc2 := 4) (v := 24) rfl dX12_bytesIn_2 (by decide) ?_
  refine EW_istore_n (pc2 := 5) rfl dX12_bytesIn_4 (by decide) [1, 2, 0] [(0, .int v0), (1, .int 0), (2, .int 24)] rfl ?_
  exact sX12_bytesIn_5 v0 0 24 x K d bc bs hdp h
abbrev MX12_openAt : ab_M := (yX12_openAt, cX12_openAt, 3, (some .int))
theorem dX12_openAt_0 : decode cX12_openAt 0 = .ok (.iconst 0, 1) := by decide +kernel
theorem dX12_openAt_1 : decode cX12_openAt 1 = .ok (.istore_n 2, 1) := by decide +kernel
theorem dX12_openAt_2 : decode cX12_openAt 2 = .ok (.iload_n 2, 1) := by decide +kernel
theorem dX12_openAt_3 : decode cX12_openAt 3 = .ok (.aload_n 0, 1) := by decide +kernel
theorem dX12_openAt_4 : decode cX12_openAt 4 = .ok (.getfield 525, 3) := by decide +kernel
theorem dX12_openAt_7 : decode cX12_openAt 7 = .ok (.if_icmp .ge 30, 3) := by decide +kernel
theorem dX12_openAt_10 : decode cX12_openAt 10 = .ok (.aload_n 0, 1) := by decide +kernel
theorem dX12_openAt_11 : decode cX12_openAt 11 = .ok (.getfield 214, 3) := by decide +kernel
theorem dX12_openAt_14 : decode cX12_openAt 14 = .ok (.iload_n 2, 1) := by decide +kernel
theorem dX12_openAt_15 : decode cX12_openAt 15 = .ok (.iaload, 1) := by decide +kernel
theorem dX12_openAt_16 : decode cX12_openAt 16 = .ok (.iload_n 1, 1) := by decide +kernel
theorem dX12_openAt_17 : decode cX12_openAt 17 = .ok (.if_icmp .ne 14, 3) := by decide +kernel
theorem dX12_openAt_20 : decode cX12_openAt 20 = .ok (.aload_n 0, 1) := by decide +kernel
theorem dX12_openAt_21 : decode cX12_openAt 21 = .ok (.getfield 220, 3) := by decide +kernel
theorem dX12_openAt_24 : decode cX12_openAt 24 = .ok (.iload_n 2, 1) := by decide +kernel
theorem dX12_openAt_25 : decode cX12_openAt 25 = .ok (.iaload, 1) := by decide +kernel
theorem dX12_openAt_26 : decode cX12_openAt 26 = .ok (.ifCond .ne 5, 3) := by decide +kernel
theorem dX12_openAt_29 : decode cX12_openAt 29 = .ok (.iload_n 2, 1) := by decide +kernel
theorem dX12_openAt_30 : decode cX12_openAt 30 = .ok (.ireturn, 1) := by decide +kernel
theorem dX12_openAt_31 : decode cX12_openAt 31 = .ok (.iinc 2 1, 3) := by decide +kernel
theorem dX12_openAt_34 : decode cX12_openAt 34 = .ok (.goto (-32), 3) := by decide +kernel
theorem dX12_openAt_37 : decode cX12_openAt 37 = .ok (.iconst (-1), 1) := by decide +kernel
theorem dX12_openAt_38 : decode cX12_openAt 38 = .ok (.ireturn, 1) := by decide +kernel
theorem okX12_openAt : ab_okM MX12_openAt 1 := ⟨by decide, ⟨by decide, by decide⟩, ab_in 2287 (by decide +kernel) (by decide +kernel), ab_in 99 (by decide +kernel) (by decide +kernel), by decide +kernel, by decide⟩
set_option maxHeartbeats 4000000 in
set_option maxRecDepth 100000 in
theorem sX12_openAt_2 (v1 : Int32) (v2 : Int32)  (x : ab_X) (K : Int32 → Prop)  (d bc bs : Nat) (hdp : 0 ≤ d)  (h : Lp1 (lX12_openAt_2 v1 x K ) v2) : EW MX12_openAt 2 [(0, .ref 246), (1, .int v1), (2, .int v2)] [] (aS x) d bc bs (liP x K) := by
  refine Lp1.use (P := fun v2 => EW MX12_openAt 2 [(0, .ref 246), (1, .int v1), (2, .int v2)] [] (aS x) d bc bs (liP x K)) (fun L2 v2 hL2 h => ?_) v2 h
  unfold lX12_openAt_2 at h
  refine EW_iload_n (pc2 := 3) rfl dX12_openAt_2 2 rfl ?_
  refine EW_aload_n (pc2 := 4) rfl dX12_openAt_3 0 rfl ?_
  refine AW_geti ⟨gfRX12_525, rfl⟩ (pc2 := 7) rfl dX12_openAt_4 q246 ?_
  refine EW_icmp_ge (tgt := 37) (pc2 := 10) rfl dX12_openAt_7 (by decide) (fun q => ?_) (fun q => ?_)
  · replace h := h.1 q
    refine EW_iconst (pc2 := 38) (v := (-1)) rfl dX12_openAt_37 (by decide) ?_
    exact AW_iret rfl dX12_openAt_38 ⟨_, rfl, rfl, h⟩
  · replace h := h.2 q
    refine EW_aload_n (pc2 := 11) rfl dX12_openAt_10 0 rfl ?_
    refine AW_getr (r := 310) ⟨gfRX12_214, rfl⟩ (pc2 := 14) rfl dX12_openAt_11 q246 rfl ?_
    refine EW_iload_n (pc2 := 15) rfl dX12_openAt_14 2 rfl ?_
    obtain ⟨b1, h⟩ := h
    refine AW_iald (pc2 := 16) rfl dX12_openAt_15 q310 b1 ?_
    refine EW_iload_n (pc2 := 17) rfl dX12_openAt_16 1 rfl ?_
    refine EW_icmp_ne (tgt := 31) (pc2 := 20) rfl dX12_openAt_17 (by decide) (fun q => ?_) (fun q => ?_)
    · replace h := h.1 q
      refine EW_iinc (v2 + 1) (pc2 := 34) rfl dX12_openAt_31 2 rfl rfl (by decide) [1, 2, 0] [(0, .ref 246), (1, .int v1), (2, .int (v2 + 1))] rfl ?_
      refine EW_goto (tgt := 2) dX12_openAt_34 (by decide) ?_
      exact hL2 (v2 + 1) h
    · replace h := h.2 q
      refine EW_aload_n (pc2 := 21) rfl dX12_openAt_20 0 rfl ?_
      refine AW_getr (r := 312) ⟨gfRX12_220, rfl⟩ (pc2 := 24) rfl dX12_openAt_21 q246 rfl ?_
      refine EW_iload_n (pc2 := 25) rfl dX12_openAt_24 2 rfl ?_
      obtain ⟨b2, h⟩ := h
      refine AW_iald (pc2 := 26) rfl dX12_openAt_25 q312 b2 ?_
      refine EW_if_ne (tgt := 31) (pc2 := 29) rfl dX12_openAt_26 (by decide) (fun q => ?_) (fun q => ?_)
      · replace h := h.1 q
        refine EW_iinc (v2 + 1) (pc2 := 34) rfl dX12_openAt_31 2 rfl rfl (by decide) [1, 2, 0] [(0, .ref 246), (1, .int v1), (2, .int (v2 + 1))] rfl ?_
        refine EW_goto (tgt := 2) dX12_openAt_34 (by decide) ?_
        exact hL2 (v2 + 1) h
      · replace h := h.2 q
        refine EW_iload_n (pc2 := 30) rfl dX12_openAt_29 2 rfl ?_
        exact AW_iret rfl dX12_openAt_30 ⟨_, rfl, rfl, h⟩
set_option maxHeartbeats 4000000 in
set_option maxRecDepth 100000 in
theorem sX12_openAt (v1 : Int32)  (x : ab_X) (K : Int32 → Prop) (d bc bs : Nat) (hdp : 0 ≤ d) (h : wX12_openAt v1 x K) : EW MX12_openAt 0 [(0, .ref 246), (1, .int v1)] [] (aS x) d bc bs (liP x K) := by
  unfold wX12_openAt at h
  refine EW_iconst (pc2 := 1) (v := 0) rfl dX12_openAt_0 (by decide) ?_
  refine EW_istore_n (pc2 := 2) rfl dX12_openAt_1 (by decide) [1, 2, 0] [(0, .ref 246), (1, .int v1), (2, .int 0)] rfl ?_
  exact sX12_openAt_2 v1 0 x K d bc bs hdp h
