theorem mlRX12_369 : Cond.methodLink RX12 369 yX12_beside ∈ ab_G ∧ Cond.instanceMethod yX12_beside ∈ ab_G ∧ Cond.selects RX12 yX12_beside yX12_beside ∈ ab_G := ⟨ab_in 2595 (by decide +kernel) (by decide +kernel), ab_in 2597 (by decide +kernel) (by decide +kernel), ab_in 69 (by decide +kernel) (by decide +kernel)⟩
theorem mlRX12_372 : Cond.methodLink RX12 372 yX12_fromBeside ∈ ab_G ∧ Cond.instanceMethod yX12_fromBeside ∈ ab_G ∧ Cond.selects RX12 yX12_fromBeside yX12_fromBeside ∈ ab_G := ⟨ab_in 2599 (by decide +kernel) (by decide +kernel), ab_in 2601 (by decide +kernel) (by decide +kernel), ab_in 70 (by decide +kernel) (by decide +kernel)⟩
theorem gfRX12_74 : ab_L RX12 74 12 24 := ⟨by decide, by decide, ab_in 1873 (by decide +kernel) (by decide +kernel)⟩
theorem gfRX12_44 : ab_L RX12 44 12 14 := ⟨by decide, by decide, ab_in 1863 (by decide +kernel) (by decide +kernel)⟩
abbrev MX12_gain : ab_M := (yX12_gain, cX12_gain, 8, (some .int))
theorem dX12_gain_0 : decode cX12_gain 0 = .ok (.aload_n 0, 1) := by decide +kernel
theorem dX12_gain_1 : decode cX12_gain 1 = .ok (.getfield 41, 3) := by decide +kernel
theorem dX12_gain_4 : decode cX12_gain 4 = .ok (.iload_n 1, 1) := by decide +kernel
theorem dX12_gain_5 : decode cX12_gain 5 = .ok (.iaload, 1) := by decide +kernel
theorem dX12_gain_6 : decode cX12_gain 6 = .ok (.istore_n 3, 1) := by decide +kernel
theorem dX12_gain_7 : decode cX12_gain 7 = .ok (.aload_n 0, 1) := by decide +kernel
theorem dX12_gain_8 : decode cX12_gain 8 = .ok (.iload_n 1, 1) := by decide +kernel
theorem dX12_gain_9 : decode cX12_gain 9 = .ok (.iload_n 2, 1) := by decide +kernel
theorem dX12_gain_10 : decode cX12_gain 10 = .ok (.invokevirtual 345, 3) := by decide +kernel
theorem dX12_gain_13 : decode cX12_gain 13 = .ok (.istore 4, 2) := by decide +kernel
theorem dX12_gain_15 : decode cX12_gain 15 = .ok (.iload_n 2, 1) := by decide +kernel
theorem dX12_gain_16 : decode cX12_gain 16 = .ok (.iload_n 3, 1) := by decide +kernel
theorem dX12_gain_17 : decode cX12_gain 17 = .ok (.irem, 1) := by decide +kernel
theorem dX12_gain_18 : decode cX12_gain 18 = .ok (.istore 5, 2) := by decide +kernel
theorem dX12_gain_20 : decode cX12_gain 20 = .ok (.aload_n 0, 1) := by decide +kernel
theorem dX12_gain_21 : decode cX12_gain 21 = .ok (.iload_n 1, 1) := by decide +kernel
theorem dX12_gain_22 : decode cX12_gain 22 = .ok (.iload_n 2, 1) := by decide +kernel
theorem dX12_gain_23 : decode cX12_gain 23 = .ok (.invokevirtual 348, 3) := by decide +kernel
theorem dX12_gain_26 : decode cX12_gain 26 = .ok (.ifCond .eq 8, 3) := by decide +kernel
theorem dX12_gain_29 : decode cX12_gain 29 = .ok (.bipush 50, 2) := by decide +kernel
theorem dX12_gain_31 : decode cX12_gain 31 = .ok (.goto 5, 3) := by decide +kernel
theorem dX12_gain_34 : decode cX12_gain 34 = .ok (.bipush (-10), 2) := by decide +kernel
theorem dX12_gain_36 : decode cX12_gain 36 = .ok (.istore 6, 2) := by decide +kernel
theorem dX12_gain_38 : decode cX12_gain 38 = .ok (.aload_n 0, 1) := by decide +kernel
theorem dX12_gain_39 : decode cX12_gain 39 = .ok (.getfield 65, 3) := by decide +kernel
theorem dX12_gain_42 : decode cX12_gain 42 = .ok (.iload_n 1, 1) := by decide +kernel
theorem dX12_gain_43 : decode cX12_gain 43 = .ok (.baload, 1) := by decide +kernel
theorem dX12_gain_44 : decode cX12_gain 44 = .ok (.ifCond .eq 8, 3) := by decide +kernel
theorem dX12_gain_47 : decode cX12_gain 47 = .ok (.bipush 30, 2) := by decide +kernel
theorem dX12_gain_49 : decode cX12_gain 49 = .ok (.goto 5, 3) := by decide +kernel
theorem dX12_gain_52 : decode cX12_gain 52 = .ok (.bipush 10, 2) := by decide +kernel
theorem dX12_gain_54 : decode cX12_gain 54 = .ok (.istore 7, 2) := by decide +kernel
theorem dX12_gain_56 : decode cX12_gain 56 = .ok (.iload 5, 2) := by decide +kernel
theorem dX12_gain_58 : decode cX12_gain 58 = .ok (.ifCond .le 21, 3) := by decide +kernel
theorem dX12_gain_61 : decode cX12_gain 61 = .ok (.aload_n 0, 1) := by decide +kernel
theorem dX12_gain_62 : decode cX12_gain 62 = .ok (.iload_n 1, 1) := by decide +kernel
theorem dX12_gain_63 : decode cX12_gain 63 = .ok (.iload_n 2, 1) := by decide +kernel
theorem dX12_gain_64 : decode cX12_gain 64 = .ok (.iconst 1, 1) := by decide +kernel
theorem dX12_gain_65 : decode cX12_gain 65 = .ok (.isub, 1) := by decide +kernel
theorem dX12_gain_66 : decode cX12_gain 66 = .ok (.invokevirtual 348, 3) := by decide +kernel
theorem dX12_gain_69 : decode cX12_gain 69 = .ok (.ifCond .eq 10, 3) := by decide +kernel
theorem dX12_gain_72 : decode cX12_gain 72 = .ok (.iload 6, 2) := by decide +kernel
theorem dX12_gain_74 : decode cX12_gain 74 = .ok (.iload 7, 2) := by decide +kernel
theorem dX12_gain_76 : decode cX12_gain 76 = .ok (.iadd, 1) := by decide +kernel
theorem dX12_gain_77 : decode cX12_gain 77 = .ok (.istore 6, 2) := by decide +kernel
theorem dX12_gain_79 : decode cX12_gain 79 = .ok (.iload 5, 2) := by decide +kernel
theorem dX12_gain_81 : decode cX12_gain 81 = .ok (.iload_n 3, 1) := by decide +kernel
theorem dX12_gain_82 : decode cX12_gain 82 = .ok (.iconst 1, 1) := by decide +kernel
theorem dX12_gain_83 : decode cX12_gain 83 = .ok (.isub, 1) := by decide +kernel
theorem dX12_gain_84 : decode cX12_gain 84 = .ok (.if_icmp .ge 21, 3) := by decide +kernel
theorem dX12_gain_87 : decode cX12_gain 87 = .ok (.aload_n 0, 1) := by decide +kernel
theorem dX12_gain_88 : decode cX12_gain 88 = .ok (.iload_n 1, 1) := by decide +kernel
theorem dX12_gain_89 : decode cX12_gain 89 = .ok (.iload_n 2, 1) := by decide +kernel
theorem dX12_gain_90 : decode cX12_gain 90 = .ok (.iconst 1, 1) := by decide +kernel
theorem dX12_gain_91 : decode cX12_gain 91 = .ok (.iadd, 1) := by decide +kernel
theorem dX12_gain_92 : decode cX12_gain 92 = .ok (.invokevirtual 348, 3) := by decide +kernel
theorem dX12_gain_95 : decode cX12_gain 95 = .ok (.ifCond .eq 10, 3) := by decide +kernel
theorem dX12_gain_98 : decode cX12_gain 98 = .ok (.iload 6, 2) := by decide +kernel
theorem dX12_gain_100 : decode cX12_gain 100 = .ok (.iload 7, 2) := by decide +kernel
theorem dX12_gain_102 : decode cX12_gain 102 = .ok (.iadd, 1) := by decide +kernel
theorem dX12_gain_103 : decode cX12_gain 103 = .ok (.istore 6, 2) := by decide +kernel
theorem dX12_gain_105 : decode cX12_gain 105 = .ok (.iload 4, 2) := by decide +kernel
theorem dX12_gain_107 : decode cX12_gain 107 = .ok (.ifCond .le 37, 3) := by decide +kernel
theorem dX12_gain_110 : decode cX12_gain 110 = .ok (.aload_n 0, 1) := by decide +kernel
theorem dX12_gain_111 : decode cX12_gain 111 = .ok (.iload_n 1, 1) := by decide +kernel
theorem dX12_gain_112 : decode cX12_gain 112 = .ok (.iload_n 2, 1) := by decide +kernel
theorem dX12_gain_113 : decode cX12_gain 113 = .ok (.iload_n 3, 1) := by decide +kernel
theorem dX12_gain_114 : decode cX12_gain 114 = .ok (.isub, 1) := by decide +kernel
theorem dX12_gain_115 : decode cX12_gain 115 = .ok (.invokevirtual 348, 3) := by decide +kernel
theorem dX12_gain_118 : decode cX12_gain 118 = .ok (.ifCond .eq 26, 3) := by decide +kernel
theorem dX12_gain_121 : decode cX12_gain 121 = .ok (.iload 6, 2) := by decide +kernel
theorem dX12_gain_123 : decode cX12_gain 123 = .ok (.iload 5, 2) := by decide +kernel
theorem dX12_gain_125 : decode cX12_gain 125 = .ok (.aload_n 0, 1) := by decide +kernel
theorem dX12_gain_126 : decode cX12_gain 126 = .ok (.getfield 44, 3) := by decide +kernel
theorem dX12_gain_129 : decode cX12_gain 129 = .ok (.iload_n 1, 1) := by decide +kernel
theorem dX12_gain_130 : decode cX12_gain 130 = .ok (.iaload, 1) := by decide +kernel
theorem dX12_gain_131 : decode cX12_gain 131 = .ok (.if_icmp .ne 8, 3) := by decide +kernel
theorem dX12_gain_134 : decode cX12_gain 134 = .ok (.bipush 60, 2) := by decide +kernel
theorem dX12_gain_136 : decode cX12_gain 136 = .ok (.goto 5, 3) := by decide +kernel
theorem dX12_gain_139 : decode cX12_gain 139 = .ok (.bipush 20, 2) := by decide +kernel
theorem dX12_gain_141 : decode cX12_gain 141 = .ok (.iadd, 1) := by decide +kernel
theorem dX12_gain_142 : decode cX12_gain 142 = .ok (.istore 6, 2) := by decide +kernel
theorem dX12_gain_144 : decode cX12_gain 144 = .ok (.iload 4, 2) := by decide +kernel
theorem dX12_gain_146 : decode cX12_gain 146 = .ok (.aload_n 0, 1) := by decide +kernel
theorem dX12_gain_147 : decode cX12_gain 147 = .ok (.getfield 38, 3) := by decide +kernel
theorem dX12_gain_150 : decode cX12_gain 150 = .ok (.iload_n 1, 1) := by decide +kernel
theorem dX12_gain_151 : decode cX12_gain 151 = .ok (.iaload, 1) := by decide +kernel
theorem dX12_gain_152 : decode cX12_gain 152 = .ok (.iconst 1, 1) := by decide +kernel
theorem dX12_gain_153 : decode cX12_gain 153 = .ok (.isub, 1) := by decide +kernel
theorem dX12_gain_154 : decode cX12_gain 154 = .ok (.if_icmp .ge 17, 3) := by decide +kernel
theorem dX12_gain_157 : decode cX12_gain 157 = .ok (.aload_n 0, 1) := by decide +kernel
theorem dX12_gain_158 : decode cX12_gain 158 = .ok (.iload_n 1, 1) := by decide +kernel
theorem dX12_gain_159 : decode cX12_gain 159 = .ok (.iload_n 2, 1) := by decide +kernel
theorem dX12_gain_160 : decode cX12_gain 160 = .ok (.iload_n 3, 1) := by decide +kernel
theorem dX12_gain_161 : decode cX12_gain 161 = .ok (.iadd, 1) := by decide +kernel
theorem dX12_gain_162 : decode cX12_gain 162 = .ok (.invokevirtual 348, 3) := by decide +kernel
theorem dX12_gain_165 : decode cX12_gain 165 = .ok (.ifCond .eq 6, 3) := by decide +kernel
theorem dX12_gain_168 : decode cX12_gain 168 = .ok (.iinc 6 5, 3) := by decide +kernel
theorem dX12_gain_171 : decode cX12_gain 171 = .ok (.iload 6, 2) := by decide +kernel
theorem dX12_gain_173 : decode cX12_gain 173 = .ok (.aload_n 0, 1) := by decide +kernel
theorem dX12_gain_174 : decode cX12_gain 174 = .ok (.iload_n 1, 1) := by decide +kernel
theorem dX12_gain_175 : decode cX12_gain 175 = .ok (.aload_n 0, 1) := by decide +kernel
theorem dX12_gain_176 : decode cX12_gain 176 = .ok (.iload_n 1, 1) := by decide +kernel
theorem dX12_gain_177 : decode cX12_gain 177 = .ok (.iconst (-1), 1) := by decide +kernel
theorem dX12_gain_178 : decode cX12_gain 178 = .ok (.invokevirtual 369, 3) := by decide +kernel
theorem dX12_gain_181 : decode cX12_gain 181 = .ok (.iload 4, 2) := by decide +kernel
theorem dX12_gain_183 : decode cX12_gain 183 = .ok (.invokevirtual 372, 3) := by decide +kernel
theorem dX12_gain_186 : decode cX12_gain 186 = .ok (.aload_n 0, 1) := by decide +kernel
theorem dX12_gain_187 : decode cX12_gain 187 = .ok (.iload_n 1, 1) := by decide +kernel
theorem dX12_gain_188 : decode cX12_gain 188 = .ok (.aload_n 0, 1) := by decide +kernel
theorem dX12_gain_189 : decode cX12_gain 189 = .ok (.iload_n 1, 1) := by decide +kernel
theorem dX12_gain_190 : decode cX12_gain 190 = .ok (.iconst 1, 1) := by decide +kernel
theorem dX12_gain_191 : decode cX12_gain 191 = .ok (.invokevirtual 369, 3) := by decide +kernel
theorem dX12_gain_194 : decode cX12_gain 194 = .ok (.iload 4, 2) := by decide +kernel
theorem dX12_gain_196 : decode cX12_gain 196 = .ok (.invokevirtual 372, 3) := by decide +kernel
theorem dX12_gain_199 : decode cX12_gain 199 = .ok (.iadd, 1) := by decide +kernel
theorem dX12_gain_200 : decode cX12_gain 200 = .ok (.iadd, 1) := by decide +kernel
theorem dX12_gain_201 : decode cX12_gain 201 = .ok (.istore 6, 2) := by decide +kernel
theorem dX12_gain_203 : decode cX12_gain 203 = .ok (.iload 6, 2) := by decide +kernel
theorem dX12_gain_205 : decode cX12_gain 205 = .ok (.aload_n 0, 1) := by decide +kernel
theorem dX12_gain_206 : decode cX12_gain 206 = .ok (.getfield 74, 3) := by decide +kernel
theorem dX12_gain_209 : decode cX12_gain 209 = .ok (.bipush 24, 2) := by decide +kernel
theorem dX12_gain_211 : decode cX12_gain 211 = .ok (.iload_n 1, 1) := by decide +kernel
theorem dX12_gain_212 : decode cX12_gain 212 = .ok (.imul, 1) := by decide +kernel
theorem dX12_gain_213 : decode cX12_gain 213 = .ok (.iload_n 2, 1) := by decide +kernel
theorem dX12_gain_214 : decode cX12_gain 214 = .ok (.iadd, 1) := by decide +kernel
theorem dX12_gain_215 : decode cX12_gain 215 = .ok (.iaload, 1) := by decide +kernel
theorem dX12_gain_216 : decode cX12_gain 216 = .ok (.iconst 4, 1) := by decide +kernel
theorem dX12_gain_217 : decode cX12_gain 217 = .ok (.idiv, 1) := by decide +kernel
theorem dX12_gain_218 : decode cX12_gain 218 = .ok (.isub, 1) := by decide +kernel
theorem dX12_gain_219 : decode cX12_gain 219 = .ok (.ireturn, 1) := by decide +kernel
theorem okX12_gain : ab_okM MX12_gain 2 := ⟨by decide, ⟨by decide, by decide⟩, ab_in 2594 (by decide +kernel) (by decide +kernel), ab_in 99 (by decide +kernel) (by decide +kernel), by decide +kernel, by decide⟩
set_option maxHeartbeats 4000000 in
set_option maxRecDepth 100000 in
def wX12_gain_171 (v1 : Int32) (v2 : Int32) (v4 : Int32) (v6 : Int32) (x : ab_X) (K : Int32 → Prop)  : Prop := wX12_beside v1 (-1) x (fun r11 => wX12_fromBeside v1 r11 v4 x (fun r12 => wX12_beside v1 1 x (fun r13 => wX12_fromBeside v1 r13 v4 x (fun r14 => (vp_in ((24 * v1) + v2) 288 ∧ K ((v6 + (r12 + r14)) - ((x.1 268 (Int32.toNatClampNeg ((24 * v1) + v2))) / 4)))))))
set_option maxHeartbeats 4000000 in
set_option maxRecDepth 100000 in
theorem sX12_gain_171 (v1 : Int32) (v2 : Int32) (v4 : Int32) (v6 : Int32)  (x : ab_X) (K : Int32 → Prop)  (d bc bs : Nat) (hdp : 3 ≤ d)  (h : wX12_gain_171 v1 v2 v4 v6 x K ) : EW MX12_gain 171 [(0, .ref 246), (1, .int v1), (2, .int v2), (4, .int v4), (6, .int v6)] [] (aS x) d bc bs (liP x K) := by
  unfold wX12_gain_171 at h
  refine EW_iload (pc2 := 173) rfl dX12_gain_171 4 rfl ?_
  refine EW_aload_n (pc2 := 174) rfl dX12_gain_173 0 rfl ?_
  refine EW_iload_n (pc2 := 175) rfl dX12_gain_174 1 rfl ?_
  refine EW_aload_n (pc2 := 176) rfl dX12_gain_175 0 rfl ?_
  refine EW_iload_n (pc2 := 177) rfl dX12_gain_176 1 rfl ?_
  refine EW_iconst (pc2 := 178) (v := (-1)) rfl dX12_gain_177 (by decide) ?_
  refine AW_invV (M' := MX12_beside) [.int v1, .int (-1)] (rest := [.int v1, .ref 246, .int v6]) mlRX12_369 okX12_beside (pc2 := 181) rfl dX12_gain_178 rfl rfl (Nat.le_of_ble_eq_true rfl) (Nat.le_of_ble_eq_true rfl) (d' := 0) (by omega) q246 ⟨by decide, rfl⟩ (EW_mono (fun _ _ hr => ?_) (sX12_beside v1 (-1)  x _ _ 0 0 (Nat.le_refl _) h))
  obtain ⟨r11, rfl, rfl, h⟩ := hr
  refine EW_iload (pc2 := 183) rfl dX12_gain_181 3 rfl ?_
  refine AW_invV (M' := MX12_fromBeside) [.int v1, .int r11, .int v4] (rest := [.int v6]) mlRX12_372 okX12_fromBeside (pc2 := 186) rfl dX12_gain_183 rfl rfl (Nat.le_of_ble_eq_true rfl) (Nat.le_of_ble_eq_true rfl) (d' := 2) (by omega) q246 ⟨by decide, rfl⟩ (EW_mono (fun _ _ hr => ?_) (sX12_fromBeside v1 r11 v4  x _ _ 0 0 (Nat.le_refl _) h))
  obtain ⟨r12, rfl, rfl, h⟩ := hr
  refine EW_aload_n (pc2 := 187) rfl dX12_gain_186 0 rfl ?_
  refine EW_iload_n (pc2 := 188) rfl dX12_gain_187 1 rfl ?_
  refine EW_aload_n (pc2 := 189) rfl dX12_gain_188 0 rfl ?_
  refine EW_iload_n (pc2 := 190) rfl dX12_gain_189 1 rfl ?_
  refine EW_iconst (pc2 := 191) (v := 1) rfl dX12_gain_190 (by decide) ?_
  refine AW_invV (M' := MX12_beside) [.int v1, .int 1] (rest := [.int v1, .ref 246, .int r12, .int v6]) mlRX12_369 okX12_beside (pc2 := 194) rfl dX12_gain_191 rfl rfl (Nat.le_of_ble_eq_true rfl) (Nat.le_of_ble_eq_true rfl) (d' := 0) (by omega) q246 ⟨by decide, rfl⟩ (EW_mono (fun _ _ hr => ?_) (sX12_beside v1 1  x _ _ 0 0 (Nat.le_refl _) h))
  obtain ⟨r13, rfl, rfl, h⟩ := hr
  refine EW_iload (pc2 := 196) rfl dX12_gain_194 3 rfl ?_
  refine AW_invV (M' := MX12_fromBeside) [.int v1, .int r13, .int v4] (rest := [.int r12, .int v6]) mlRX12_372 okX12_fromBeside (pc2 := 199) rfl dX12_gain_196 rfl rfl (Nat.le_of_ble_eq_true rfl) (Nat.le_of_ble_eq_true rfl) (d' := 2) (by omega) q246 ⟨by decide, rfl⟩ (EW_mono (fun _ _ hr => ?_) (sX12_fromBeside v1 r13 v4  x _ _ 0 0 (Nat.le_refl _) h))
  obtain ⟨r14, rfl, rfl, h⟩ := hr
  refine EW_iadd (pc2 := 200) rfl dX12_gain_199 ?_
  refine EW_iadd (pc2 := 201) rfl dX12_gain_200 ?_
  refine EW_istore (pc2 := 203) rfl dX12_gain_201 (by decide) [1, 2, 3, 4, 0] [(0, .ref 246), (1, .int v1), (2, .int v2), (4, .int v4), (6, .int (v6 + (r12 + r14)))] rfl ?_
  refine EW_iload (pc2 := 205) rfl dX12_gain_203 4 rfl ?_
  refine EW_aload_n (pc2 := 206) rfl dX12_gain_205 0 rfl ?_
  refine AW_getr (r := 268) ⟨gfRX12_74, rfl⟩ (pc2 := 209) rfl dX12_gain_206 q246 rfl ?_
  refine EW_bipush (pc2 := 211) (v := 24) rfl dX12_gain_209 (by decide) ?_
  refine EW_iload_n (pc2 := 212) rfl dX12_gain_211 1 rfl ?_
  refine EW_imul (pc2 := 213) rfl dX12_gain_212 ?_
  refine EW_iload_n (pc2 := 214) rfl dX12_gain_213 2 rfl ?_
  refine EW_iadd (pc2 := 215) rfl dX12_gain_214 ?_
  obtain ⟨b15, h⟩ := h
  refine AW_iald (pc2 := 216) rfl dX12_gain_215 q268 b15 ?_
  refine EW_iconst (pc2 := 217) (v := 4) rfl dX12_gain_216 (by decide) ?_
  refine EW_idiv (pc2 := 218) rfl dX12_gain_217 (by decide) ?_
  refine EW_isub (pc2 := 219) rfl dX12_gain_218 ?_
  exact AW_iret rfl dX12_gain_219 ⟨_, rfl, rfl, h⟩
set_option maxHeartbeats 4000000 in
set_option maxRecDepth 100000 in
def wX12_gain_144 (v1 : Int32) (v2 : Int32) (v3 : Int32) (v4 : Int32) (v6 : Int32) (x : ab_X) (K : Int32 → Prop)  : Prop := (vp_in v1 12 ∧ ((((x.1 256 (Int32.toNatClampNeg v1)) - 1) ≤ v4 → wX12_gain_171 v1 v2 v4 v6 x K) ∧ (¬ ((x.1 256 (Int32.toNatClampNeg v1)) - 1) ≤ v4 → wX12_burns v1 (v2 + v3) x (fun r10 => ((r10 = 0 → wX12_gain_171 v1 v2 v4 v6 x K) ∧ (¬ r10 = 0 → wX12_gain_171 v1 v2 v4 (v6 + 5) x K))))))
set_option maxHeartbeats 4000000 in
set_option maxRecDepth 100000 in
theorem sX12_gain_144 (v1 : Int32) (v2 : Int32) (v3 : Int32) (v4 : Int32) (v6 : Int32)  (x : ab_X) (K : Int32 → Prop)  (d bc bs : Nat) (hdp : 3 ≤ d)  (h : wX12_gain_144 v1 v2 v3 v4 v6 x K ) : EW MX12_gain 144 [(0, .ref 246), (1, .int v1), (2, .int v2), (3, .int v3), (4, .int v4), (6, .int v6)] [] (aS x) d bc bs (liP x K) := by
  unfold wX12_gain_144 at h
  refine EW_iload (pc2 := 146) rfl dX12_gain_144 4 rfl ?_
  refine EW_aload_n (pc2 := 147) rfl dX12_gain_146 0 rfl ?_
  refine AW_getr (r := 256) ⟨gfRX12_38, rfl⟩ (pc2 := 150) rfl dX12_gain_147 q246 rfl ?_
  refine EW_iload_n (pc2 := 151) rfl dX12_gain_150 1 rfl ?_
  obtain ⟨b9, h⟩ := h
  refine AW_iald (pc2 := 152) rfl dX12_gain_151 q256 b9 ?_
  refine EW_iconst (pc2 := 153) (v := 1) rfl dX12_gain_152 (by decide) ?_
  refine EW_isub (pc2 := 154) rfl dX12_gain_153 ?_
  refine EW_icmp_ge (tgt := 171) (pc2 := 157) rfl dX12_gain_154 (by decide) (fun q => ?_) (fun q => ?_)
  · replace h := h.1 q
    refine EW_ls [0, 1, 2, 4, 5] rfl ?_
    exact sX12_gain_171 v1 v2 v4 v6 x K d bc bs hdp h
  · replace h := h.2 q
    refine EW_aload_n (pc2 := 158) rfl dX12_gain_157 0 rfl ?_
    refine EW_iload_n (pc2 := 159) rfl dX12_gain_158 1 rfl ?_
    refine EW_iload_n (pc2 := 160) rfl dX12_gain_159 2 rfl ?_
    refine EW_iload_n (pc2 := 161) rfl dX12_gain_160 3 rfl ?_
    refine EW_iadd (pc2 := 162) rfl dX12_gain_161 ?_
    refine AW_invV (M' := MX12_burns) [.int v1, .int (v2 + v3)] (rest := []) mlRX12_348 okX12_burns (pc2 := 165) rfl dX12_gain_162 rfl rfl (Nat.le_of_ble_eq_true rfl) (Nat.le_of_ble_eq_true rfl) (d' := 1) (by omega) q246 ⟨by decide, rfl⟩ (EW_mono (fun _ _ hr => ?_) (sX12_burns v1 (v2 + v3)  x _ _ 0 0 (Nat.le_refl _) h))
    obtain ⟨r10, rfl, rfl, h⟩ := hr
    refine EW_if_eq (tgt := 171) (pc2 := 168) rfl dX12_gain_165 (by decide) (fun q => ?_) (fun q => ?_)
    · replace h := h.1 q
      refine EW_ls [0, 1, 2, 4, 5] rfl ?_
      exact sX12_gain_171 v1 v2 v4 v6 x K d bc bs hdp h
    · replace h := h.2 q
      refine EW_iinc (v6 + 5) (pc2 := 171) rfl dX12_gain_168 5 rfl rfl (by decide) [1, 2, 3, 4, 5, 0] [(0, .ref 246), (1, .int v1), (2, .int v2), (3, .int v3), (4, .int v4), (6, .int (v6 + 5))] rfl ?_
      refine EW_ls [0, 1, 2, 4, 5] rfl ?_
      exact sX12_gain_171 v1 v2 v4 (v6 + 5) x K d bc bs hdp h
set_option maxHeartbeats 4000000 in
set_option maxRecDepth 100000 in
def wX12_gain_141 (v1 : Int32) (v2 : Int32) (v3 : Int32) (v4 : Int32) (s0 : Int32) (s1 : Int32) (x : ab_X) (K : Int32 → Prop)  : Prop := wX12_gain_144 v1 v2 v3 v4 (s0 + s1) x K
set_option maxHeartbeats 4000000 in
set_option maxRecDepth 100000 in
theorem sX12_gain_141 (v1 : Int32) (v2 : Int32) (v3 : Int32) (v4 : Int32) (s0 : Int32) (s1 : Int32)  (x : ab_X) (K : Int32 → Prop)  (d bc bs : Nat) (hdp : 3 ≤ d)  (h : wX12_gain_141 v1 v2 v3 v4 s0 s1 x K ) : EW MX12_gain 141 [(0, .ref 246), (1, .int v1), (2, .int v2), (3, .int v3), (4, .int v4)] [.int s1, .int s0] (aS x) d bc bs (liP x K) := by
  unfold wX12_gain_141 at h
  refine EW_iadd (pc2 := 142) rfl dX12_gain_141 ?_
  refine EW_istore (pc2 := 144) rfl dX12_gain_142 (by decide) [1, 2, 3, 4, 5, 0] [(0, .ref 246), (1, .int v1), (2, .int v2), (3, .int v3), (4, .int v4), (6, .int (s0 + s1))] rfl ?_
  exact sX12_gain_144 v1 v2 v3 v4 (s0 + s1) x K d bc bs hdp h
set_option maxHeartbeats 4000000 in
set_option maxRecDepth 100000 in
def wX12_gain_105 (v1 : Int32) (v2 : Int32) (v3 : Int32) (v4 : Int32) (v5 : Int32) (v6 : Int32) (x : ab_X) (K : Int32 → Prop)  : Prop := ((v4 ≤ 0 → wX12_gain_144 v1 v2 v3 v4 v6 x K) ∧ (¬ v4 ≤ 0 → wX12_burns v1 (v2 - v3) x (fun r7 => ((r7 = 0 → wX12_gain_144 v1 v2 v3 v4 v6 x K) ∧ (¬ r7 = 0 → (vp_in v1 12 ∧ ((¬ v5 = (x.1 258 (Int32.toNatClampNeg v1)) → wX12_gain_141 v1 v2 v3 v4 v6 20 x K) ∧ (v5 = (x.1 258 (Int32.toNatClampNeg v1)) → wX12_gain_141 v1 v2 v3 v4 v6 60 x K))))))))
set_option maxHeartbeats 4000000 in
set_option maxRecDepth 100000 in
theorem sX12_gain_105 (v1 : Int32) (v2 : Int32) (v3 : Int32) (v4 : Int32) (v5 : Int32) (v6 : Int32)  (x : ab_X) (K : Int32 → Prop)  (d bc bs : Nat) (hdp : 3 ≤ d)  (h : wX12_gain_105 v1 v2 v3 v4 v5 v6 x K ) : EW MX12_gain 105 [(0, .ref 246), (1, .int v1), (2, .int v2), (3, .int v3), (4, .int v4), (5, .int v5), (6, .int v6)] [] (aS x) d bc bs (liP x K) := by
  unfold wX12_gain_105 at h
  refine EW_iload (pc2 := 107) rfl dX12_gain_105 4 rfl ?_
  refine EW_if_le (tgt := 144) (pc2 := 110) rfl dX12_gain_107 (by decide) (fun q => ?_) (fun q => ?_)
  · replace h := h.1 q
    refine EW_ls [0, 1, 2, 3, 4, 6] rfl ?_
    exact sX12_gain_144 v1 v2 v3 v4 v6 x K d bc bs hdp h
  · replace h := h.2 q
    refine EW_aload_n (pc2 := 111) rfl dX12_gain_110 0 rfl ?_
    refine EW_iload_n (pc2 := 112) rfl dX12_gain_111 1 rfl ?_
    refine EW_iload_n (pc2 := 113) rfl dX12_gain_112 2 rfl ?_
    refine EW_iload_n (pc2 := 114) rfl dX12_gain_113 3 rfl ?_
    refine EW_isub (pc2 := 115) rfl dX12_gain_114 ?_
    refine AW_invV (M' := MX12_burns) [.int v1, .int (v2 - v3)] (rest := []) mlRX12_348 okX12_burns (pc2 := 118) rfl dX12_gain_115 rfl rfl (Nat.le_of_ble_eq_true rfl) (Nat.le_of_ble_eq_true rfl) (d' := 1) (by omega) q246 ⟨by decide, rfl⟩ (EW_mono (fun _ _ hr => ?_) (sX12_burns v1 (v2 - v3)  x _ _ 0 0 (Nat.le_refl _) h))
    obtain ⟨r7, rfl, rfl, h⟩ := hr
    refine EW_if_eq (tgt := 144) (pc2 := 121) rfl dX12_gain_118 (by decide) (fun q => ?_) (fun q => ?_)
    · replace h := h.1 q
      refine EW_ls [0, 1, 2, 3, 4, 6] rfl ?_
      exact sX12_gain_144 v1 v2 v3 v4 v6 x K d bc bs hdp h
    · replace h := h.2 q
      refine EW_iload (pc2 := 123) rfl dX12_gain_121 6 rfl ?_
      refine EW_iload (pc2 := 125) rfl dX12_gain_123 5 rfl ?_
      refine EW_aload_n (pc2 := 126) rfl dX12_gain_125 0 rfl ?_
      refine AW_getr (r := 258) ⟨gfRX12_44, rfl⟩ (pc2 := 129) rfl dX12_gain_126 q246 rfl ?_
      refine EW_iload_n (pc2 := 130) rfl dX12_gain_129 1 rfl ?_
      obtain ⟨b8, h⟩ := h
      refine AW_iald (pc2 := 131) rfl dX12_gain_130 q258 b8 ?_
      refine EW_icmp_ne (tgt := 139) (pc2 := 134) rfl dX12_gain_131 (by decide) (fun q => ?_) (fun q => ?_)
      · replace h := h.1 q
        refine EW_bipush (pc2 := 141) (v := 20) rfl dX12_gain_139 (by decide) ?_
        refine EW_ls [0, 1, 2, 3, 4] rfl ?_
        exact sX12_gain_141 v1 v2 v3 v4 v6 20 x K d bc bs hdp h
      · replace h := h.2 q
        refine EW_bipush (pc2 := 136) (v := 60) rfl dX12_gain_134 (by decide) ?_
        refine EW_goto (tgt := 141) dX12_gain_136 (by decide) ?_
        refine EW_ls [0, 1, 2, 3, 4] rfl ?_
        exact sX12_gain_141 v1 v2 v3 v4 v6 60 x K d bc bs hdp h
set_option maxHeartbeats 4000000 in
set_option maxRecDepth 100000 in
def wX12_gain_79 (v1 : Int32) (v2 : Int32) (v3 : Int32) (v4 : Int32) (v5 : Int32) (v6 : Int32) (v7 : Int32) (x : ab_X) (K : Int32 → Prop)  : Prop := (((v3 - 1) ≤ v5 → wX12_gain_105 v1 v2 v3 v4 v5 v6 x K) ∧ (¬ (v3 - 1) ≤ v5 → wX12_burns v1 (v2 + 1) x (fun r6 => ((r6 = 0 → wX12_gain_105 v1 v2 v3 v4 v5 v6 x K) ∧ (¬ r6 = 0 → wX12_gain_105 v1 v2 v3 v4 v5 (v6 + v7) x K)))))
set_option maxHeartbeats 4000000 in
set_option maxRecDepth 100000 in
theorem sX12_gain_79 (v1 : Int32) (v2 : Int32) (v3 : Int32) (v4 : Int32) (v5 : Int32) (v6 : Int32) (v7 : Int32)  (x : ab_X) (K : Int32 → Prop)  (d bc bs : Nat) (hdp : 3 ≤ d)  (h : wX12_gain_79 v1 v2 v3 v4 v5 v6 v7 x K ) : EW MX12_gain 79 [(0, .ref 246), (1, .int v1), (2, .int v2), (3, .int v3), (4, .int v4), (5, .int v5), (6, .int v6), (7, .int v7)] [] (aS x) d bc bs (liP x K) := by
  unfold wX12_gain_79 at h
  refine EW_iload (pc2 := 81) rfl dX12_gain_79 5 rfl ?_
  refine EW_iload_n (pc2 := 82) rfl dX12_gain_81 3 rfl ?_
  refine EW_iconst (pc2 := 83) (v := 1) rfl dX12_gain_82 (by decide) ?_
  refine EW_isub (pc2 := 84) rfl dX12_gain_83 ?_
  refine EW_icmp_ge (tgt := 105) (pc2 := 87) rfl dX12_gain_84 (by decide) (fun q => ?_) (fun q => ?_)
  · replace h := h.1 q
    refine EW_ls [0, 1, 2, 3, 4, 5, 6] rfl ?_
    exact sX12_gain_105 v1 v2 v3 v4 v5 v6 x K d bc bs hdp h
  · replace h := h.2 q
    refine EW_aload_n (pc2 := 88) rfl dX12_gain_87 0 rfl ?_
    refine EW_iload_n (pc2 := 89) rfl dX12_gain_88 1 rfl ?_
    refine EW_iload_n (pc2 := 90) rfl dX12_gain_89 2 rfl ?_
    refine EW_iconst (pc2 := 91) (v := 1) rfl dX12_gain_90 (by decide) ?_
    refine EW_iadd (pc2 := 92) rfl dX12_gain_91 ?_
    refine AW_invV (M' := MX12_burns) [.int v1, .int (v2 + 1)] (rest := []) mlRX12_348 okX12_burns (pc2 := 95) rfl dX12_gain_92 rfl rfl (Nat.le_of_ble_eq_true rfl) (Nat.le_of_ble_eq_true rfl) (d' := 1) (by omega) q246 ⟨by decide, rfl⟩ (EW_mono (fun _ _ hr => ?_) (sX12_burns v1 (v2 + 1)  x _ _ 0 0 (Nat.le_refl _) h))
    obtain ⟨r6, rfl, rfl, h⟩ := hr
    refine EW_if_eq (tgt := 105) (pc2 := 98) rfl dX12_gain_95 (by decide) (fun q => ?_) (fun q => ?_)
    · replace h := h.1 q
      refine EW_ls [0, 1, 2, 3, 4, 5, 6] rfl ?_
      exact sX12_gain_105 v1 v2 v3 v4 v5 v6 x K d bc bs hdp h
    · replace h := h.2 q
      refine EW_iload (pc2 := 100) rfl dX12_gain_98 6 rfl ?_
      refine EW_iload (pc2 := 102) rfl dX12_gain_100 7 rfl ?_
      refine EW_iadd (pc2 := 103) rfl dX12_gain_102 ?_
      refine EW_istore (pc2 := 105) rfl dX12_gain_103 (by decide) [1, 2, 3, 4, 5, 6, 0, 7] [(0, .ref 246), (1, .int v1), (2, .int v2), (3, .int v3), (4, .int v4), (5, .int v5), (6, .int (v6 + v7)), (7, .int v7)] rfl ?_
      refine EW_ls [0, 1, 2, 3, 4, 5, 6] rfl ?_
      exact sX12_gain_105 v1 v2 v3 v4 v5 (v6 + v7) x K d bc bs hdp h
set_option maxHeartbeats 4000000 in
set_option maxRecDepth 100000 in
def wX12_gain_54 (v1 : Int32) (v2 : Int32) (v3 : Int32) (v4 : Int32) (v5 : Int32) (v6 : Int32) (s0 : Int32) (x : ab_X) (K : Int32 → Prop)  : Prop := ((v5 ≤ 0 → wX12_gain_79 v1 v2 v3 v4 v5 v6 s0 x K) ∧ (¬ v5 ≤ 0 → wX12_burns v1 (v2 - 1) x (fun r5 => ((r5 = 0 → wX12_gain_79 v1 v2 v3 v4 v5 v6 s0 x K) ∧ (¬ r5 = 0 → wX12_gain_79 v1 v2 v3 v4 v5 (v6 + s0) s0 x K)))))
set_option maxHeartbeats 4000000 in
set_option maxRecDepth 100000 in
theorem sX12_gain_54 (v1 : Int32) (v2 : Int32) (v3 : Int32) (v4 : Int32) (v5 : Int32) (v6 : Int32) (s0 : Int32)  (x : ab_X) (K : Int32 → Prop)  (d bc bs : Nat) (hdp : 3 ≤ d)  (h : wX12_gain_54 v1 v2 v3 v4 v5 v6 s0 x K ) : EW MX12_gain 54 [(0, .ref 246), (1, .int v1), (2, .int v2), (3, .int v3), (4, .int v4), (5, .int v5), (6, .int v6)] [.int s0] (aS x) d bc bs (liP x K) := by
  unfold wX12_gain_54 at h
  refine EW_istore (pc2 := 56) rfl dX12_gain_54 (by decide) [1, 2, 3, 4, 5, 6, 7, 0] [(0, .ref 246), (1, .int v1), (2, .int v2), (3, .int v3), (4, .int v4), (5, .int v5), (6, .int v6), (7, .int s0)] rfl ?_
  refine EW_iload (pc2 := 58) rfl dX12_gain_56 5 rfl ?_
  refine EW_if_le (tgt := 79) (pc2 := 61) rfl dX12_gain_58 (by decide) (fun q => ?_) (fun q => ?_)
  · replace h := h.1 q
    exact sX12_gain_79 v1 v2 v3 v4 v5 v6 s0 x K d bc bs hdp h
  · replace h := h.2 q
    refine EW_aload_n (pc2 := 62) rfl dX12_gain_61 0 rfl ?_
    refine EW_iload_n (pc2 := 63) rfl dX12_gain_62 1 rfl ?_
    refine EW_iload_n (pc2 := 64) rfl dX12_gain_63 2 rfl ?_
    refine EW_iconst (pc2 := 65) (v := 1) rfl dX12_gain_64 (by decide) ?_
    refine EW_isub (pc2 := 66) rfl dX12_gain_65 ?_
    refine AW_invV (M' := MX12_burns) [.int v1, .int (v2 - 1)] (rest := []) mlRX12_348 okX12_burns (pc2 := 69) rfl dX12_gain_66 rfl rfl (Nat.le_of_ble_eq_true rfl) (Nat.le_of_ble_eq_true rfl) (d' := 1) (by omega) q246 ⟨by decide, rfl⟩ (EW_mono (fun _ _ hr => ?_) (sX12_burns v1 (v2 - 1)  x _ _ 0 0 (Nat.le_refl _) h))
    obtain ⟨r5, rfl, rfl, h⟩ := hr
    refine EW_if_eq (tgt := 79) (pc2 := 72) rfl dX12_gain_69 (by decide) (fun q => ?_) (fun q => ?_)
    · replace h := h.1 q
      exact sX12_gain_79 v1 v2 v3 v4 v5 v6 s0 x K d bc bs hdp h
    · replace h := h.2 q
      refine EW_iload (pc2 := 74) rfl dX12_gain_72 6 rfl ?_
      refine EW_iload (pc2 := 76) rfl dX12_gain_74 7 rfl ?_
      refine EW_iadd (pc2 := 77) rfl dX12_gain_76 ?_
      refine EW_istore (pc2 := 79) rfl dX12_gain_77 (by decide) [1, 2, 3, 4, 5, 6, 0, 7] [(0, .ref 246), (1, .int v1), (2, .int v2), (3, .int v3), (4, .int v4), (5, .int v5), (6, .int (v6 + s0)), (7, .int s0)] rfl ?_
      exact sX12_gain_79 v1 v2 v3 v4 v5 (v6 + s0) s0 x K d bc bs hdp h
set_option maxHeartbeats 4000000 in
set_option maxRecDepth 100000 in
def wX12_gain_36 (v1 : Int32) (v2 : Int32) (v3 : Int32) (v4 : Int32) (v5 : Int32) (s0 : Int32) (x : ab_X) (K : Int32 → Prop)  : Prop := (vp_in v1 12 ∧ (((x.1 265 (Int32.toNatClampNeg v1)) = 0 → wX12_gain_54 v1 v2 v3 v4 v5 s0 10 x K) ∧ (¬ (x.1 265 (Int32.toNatClampNeg v1)) = 0 → wX12_gain_54 v1 v2 v3 v4 v5 s0 30 x K)))
set_option maxHeartbeats 4000000 in
set_option maxRecDepth 100000 in
theorem sX12_gain_36 (v1 : Int32) (v2 : Int32) (v3 : Int32) (v4 : Int32) (v5 : Int32) (s0 : Int32)  (x : ab_X) (K : Int32 → Prop)  (d bc bs : Nat) (hdp : 3 ≤ d)  (h : wX12_gain_36 v1 v2 v3 v4 v5 s0 x K ) : EW MX12_gain 36 [(0, .ref 246), (1, .int v1), (2, .int v2), (3, .int v3), (4, .int v4), (5, .int v5)] [.int s0] (aS x) d bc bs (liP x K) := by
  unfold wX12_gain_36 at h
  refine EW_istore (pc2 := 38) rfl dX12_gain_36 (by decide) [1, 2, 3, 4, 5, 6, 0] [(0, .ref 246), (1, .int v1), (2, .int v2), (3, .int v3), (4, .int v4), (5, .int v5), (6, .int s0)] rfl ?_
  refine EW_aload_n (pc2 := 39) rfl dX12_gain_38 0 rfl ?_
  refine AW_getr (r := 265) ⟨gfRX12_65, rfl⟩ (pc2 := 42) rfl dX12_gain_39 q246 rfl ?_
  refine EW_iload_n (pc2 := 43) rfl dX12_gain_42 1 rfl ?_
  obtain ⟨b4, h⟩ := h
  refine AW_zald (pc2 := 44) rfl dX12_gain_43 q265 b4 ?_
  refine EW_if_eq (tgt := 52) (pc2 := 47) rfl dX12_gain_44 (by decide) (fun q => ?_) (fun q => ?_)
  · replace h := h.1 q
    refine EW_bipush (pc2 := 54) (v := 10) rfl dX12_gain_52 (by decide) ?_
    exact sX12_gain_54 v1 v2 v3 v4 v5 s0 10 x K d bc bs hdp h
  · replace h := h.2 q
    refine EW_bipush (pc2 := 49) (v := 30) rfl dX12_gain_47 (by decide) ?_
    refine EW_goto (tgt := 54) dX12_gain_49 (by decide) ?_
    exact sX12_gain_54 v1 v2 v3 v4 v5 s0 30 x K d bc bs hdp h
set_option maxHeartbeats 4000000 in
set_option maxRecDepth 100000 in
def wX12_gain (v1 : Int32) (v2 : Int32) (x : ab_X) (K : Int32 → Prop) : Prop := (vp_in v1 12 ∧ wX12_floorOf v1 v2 x (fun r2 => (¬ (x.1 257 (Int32.toNatClampNeg v1)) = 0 ∧ wX12_burns v1 v2 x (fun r3 => ((r3 = 0 → wX12_gain_36 v1 v2 (x.1 257 (Int32.toNatClampNeg v1)) r2 (v2 - v2 / (x.1 257 (Int32.toNatClampNeg v1)) * (x.1 257 (Int32.toNatClampNeg v1))) (-10) x K) ∧ (¬ r3 = 0 → wX12_gain_36 v1 v2 (x.1 257 (Int32.toNatClampNeg v1)) r2 (v2 - v2 / (x.1 257 (Int32.toNatClampNeg v1)) * (x.1 257 (Int32.toNatClampNeg v1))) 50 x K))))))
set_option maxHeartbeats 4000000 in
set_option maxRecDepth 100000 in
theorem sX12_gain (v1 : Int32) (v2 : Int32)  (x : ab_X) (K : Int32 → Prop) (d bc bs : Nat) (hdp : 3 ≤ d) (h : wX12_gain v1 v2 x K) : EW MX12_gain 0 [(0, .ref 246), (1, .int v1), (2, .int v2)] [] (aS x) d bc bs (liP x K) := by
  unfold wX12_gain at h
  refine EW_aload_n (pc2 := 1) rfl dX12_gain_0 0 rfl ?_
  refine AW_getr (r := 257) ⟨gfRX12_41, rfl⟩ (pc2 := 4) rfl dX12_gain_1 q246 rfl ?_
  refine EW_iload_n (pc2 := 5) rfl dX12_gain_4 1 rfl ?_
  obtain ⟨b1, h⟩ := h
  refine AW_iald (pc2 := 6) rfl dX12_gain_5 q257 b1 ?_
  refine EW_istore_n (pc2 := 7) rfl dX12_gain_6 (by decide) [1, 2, 3, 0] [(0, .ref 246), (1, .int v1), (2, .int v2), (3, .int (x.1 257 (Int32.toNatClampNeg v1)))] rfl ?_
  refine EW_aload_n (pc2 := 8) rfl dX12_gain_7 0 rfl ?_
  refine EW_iload_n (pc2 := 9) rfl dX12_gain_8 1 rfl ?_
  refine EW_iload_n (pc2 := 10) rfl dX12_gain_9 2 rfl ?_
  refine AW_invV (M' := MX12_floorOf) [.int v1, .int v2] (rest := []) mlRX12_345 okX12_floorOf (pc2 := 13) rfl dX12_gain_10 rfl rfl (Nat.le_of_ble_eq_true rfl) (Nat.le_of_ble_eq_true rfl) (d' := 0) (by omega) q246 ⟨by decide, rfl⟩ (EW_mono (fun _ _ hr => ?_) (sX12_floorOf v1 v2  x _ _ 0 0 (Nat.le_refl _) h))
  obtain ⟨r2, rfl, rfl, h⟩ := hr
  refine EW_istore (pc2 := 15) rfl dX12_gain_13 (by decide) [1, 2, 3, 4, 0] [(0, .ref 246), (1, .int v1), (2, .int v2), (3, .int (x.1 257 (Int32.toNatClampNeg v1))), (4, .int r2)] rfl ?_
  refine EW_iload_n (pc2 := 16) rfl dX12_gain_15 2 rfl ?_
  refine EW_iload_n (pc2 := 17) rfl dX12_gain_16 3 rfl ?_
  obtain ⟨hz, h⟩ := h
  refine EW_irem (pc2 := 18) rfl dX12_gain_17 hz ?_
  refine EW_istore (pc2 := 20) rfl dX12_gain_18 (by decide) [1, 2, 3, 4, 5, 0] [(0, .ref 246), (1, .int v1), (2, .int v2), (3, .int (x.1 257 (Int32.toNatClampNeg v1))), (4, .int r2), (5, .int (v2 - v2 / (x.1 257 (Int32.toNatClampNeg v1)) * (x.1 257 (Int32.toNatClampNeg v1))))] rfl ?_
  refine EW_aload_n (pc2 := 21) rfl dX12_gain_20 0 rfl ?_
  refine EW_iload_n (pc2 := 22) rfl dX12_gain_21 1 rfl ?_
  refine EW_iload_n (pc2 := 23) rfl dX12_gain_22 2 rfl ?_
  refine AW_invV (M' := MX12_burns) [.int v1, .int v2] (rest := []) mlRX12_348 okX12_burns (pc2 := 26) rfl dX12_gain_23 rfl rfl (Nat.le_of_ble_eq_true rfl) (Nat.le_of_ble_eq_true rfl) (d' := 1) (by omega) q246 ⟨by decide, rfl⟩ (EW_mono (fun _ _ hr => ?_) (sX12_burns v1 v2  x _ _ 0 0 (Nat.le_refl _) h))
  obtain ⟨r3, rfl, rfl, h⟩ := hr
  refine EW_if_eq (tgt := 34) (pc2 := 29) rfl dX12_gain_26 (by decide) (fun q => ?_) (fun q => ?_)
  · replace h := h.1 q
    refine EW_bipush (pc2 := 36) (v := (-10)) rfl dX12_gain_34 (by decide) ?_
    exact sX12_gain_36 v1 v2 (x.1 257 (Int32.toNatClampNeg v1)) r2 (v2 - v2 / (x.1 257 (Int32.toNatClampNeg v1)) * (x.1 257 (Int32.toNatClampNeg v1))) (-10) x K d bc bs hdp h
  · replace h := h.2 q
    refine EW_bipush (pc2 := 31) (v := 50) rfl dX12_gain_29 (by decide) ?_
    refine EW_goto (tgt := 36) dX12_gain_31 (by decide) ?_
    exact sX12_gain_36 v1 v2 (x.1 257 (Int32.toNatClampNeg v1)) r2 (v2 - v2 / (x.1 257 (Int32.toNatClampNeg v1)) * (x.1 257 (Int32.toNatClampNeg v1))) 50 x K d bc bs hdp h
theorem gfRX12_83 : ab_L RX12 83 12 27 := ⟨by decide, by decide, ab_in 1876 (by decide +kernel) (by decide +kernel)⟩
abbrev MX12_loadOf : ab_M := (yX12_loadOf, cX12_loadOf, 3, (some .int))
theorem dX12_loadOf_0 : decode cX12_loadOf 0 = .ok (.iload_n 2, 1) := by decide +kernel
theorem dX12_loadOf_1 : decode cX12_loadOf 1 = .ok (.ifCond .ne 7, 3) := by decide +kernel
theorem dX12_loadOf_4 : decode cX12_loadOf 4 = .ok (.iconst 0, 1) := by decide +kernel
theorem dX12_loadOf_5 : decode cX12_loadOf 5 = .ok (.goto 30, 3) := by decide +kernel
theorem dX12_loadOf_8 : decode cX12_loadOf 8 = .ok (.aload_n 0, 1) := by decide +kernel
theorem dX12_loadOf_9 : decode cX12_loadOf 9 = .ok (.getfield 83, 3) := by decide +kernel
theorem dX12_loadOf_12 : decode cX12_loadOf 12 = .ok (.bipush 6, 2) := by decide +kernel
theorem dX12_loadOf_14 : decode cX12_loadOf 14 = .ok (.iload_n 1, 1) := by decide +kernel
theorem dX12_loadOf_15 : decode cX12_loadOf 15 = .ok (.imul, 1) := by decide +kernel
theorem dX12_loadOf_16 : decode cX12_loadOf 16 = .ok (.iload_n 2, 1) := by decide +kernel
theorem dX12_loadOf_17 : decode cX12_loadOf 17 = .ok (.iadd, 1) := by decide +kernel
theorem dX12_loadOf_18 : decode cX12_loadOf 18 = .ok (.iaload, 1) := by decide +kernel
theorem dX12_loadOf_19 : decode cX12_loadOf 19 = .ok (.iconst 2, 1) := by decide +kernel
theorem dX12_loadOf_20 : decode cX12_loadOf 20 = .ok (.aload_n 0, 1) := by decide +kernel
theorem dX12_loadOf_21 : decode cX12_loadOf 21 = .ok (.getfield 83, 3) := by decide +kernel
theorem dX12_loadOf_24 : decode cX12_loadOf 24 = .ok (.bipush 6, 2) := by decide +kernel
theorem dX12_loadOf_26 : decode cX12_loadOf 26 = .ok (.iload_n 1, 1) := by decide +kernel
theorem dX12_loadOf_27 : decode cX12_loadOf 27 = .ok (.imul, 1) := by decide +kernel
theorem dX12_loadOf_28 : decode cX12_loadOf 28 = .ok (.iload_n 2, 1) := by decide +kernel
theorem dX12_loadOf_29 : decode cX12_loadOf 29 = .ok (.iadd, 1) := by decide +kernel
theorem dX12_loadOf_30 : decode cX12_loadOf 30 = .ok (.iconst 1, 1) := by decide +kernel
theorem dX12_loadOf_31 : decode cX12_loadOf 31 = .ok (.isub, 1) := by decide +kernel
theorem dX12_loadOf_32 : decode cX12_loadOf 32 = .ok (.iaload, 1) := by decide +kernel
theorem dX12_loadOf_33 : decode cX12_loadOf 33 = .ok (.imul, 1) := by decide +kernel
theorem dX12_loadOf_34 : decode cX12_loadOf 34 = .ok (.iadd, 1) := by decide +kernel
theorem dX12_loadOf_35 : decode cX12_loadOf 35 = .ok (.ireturn, 1) := by decide +kernel
theorem okX12_loadOf : ab_okM MX12_loadOf 2 := ⟨by decide, ⟨by decide, by decide⟩, ab_in 2324 (by decide +kernel) (by decide +kernel), ab_in 99 (by decide +kernel) (by decide +kernel), by decide +kernel, by decide⟩
set_option maxHeartbeats 4000000 in
set_option maxRecDepth 100000 in
def wX12_loadOf (v1 : Int32) (v2 : Int32) (x : ab_X) (K : Int32 → Prop) : Prop := ((¬ v2 = 0 → (vp_in ((6 * v1) + v2) 72 ∧ vp_in (((6 * v1) + v2) - 1) 72 ∧ K ((x.1 271 (Int32.toNatClampNeg ((6 * v1) + v2))) + (2 * (x.1 271 (Int32.toNatClampNeg (((6 * v1) + v2) - 1))))))) ∧ (v2 = 0 → K 0))
set_option maxHeartbeats 4000000 in
set_option maxRecDepth 100000 in
theorem sX12_loadOf (v1 : Int32) (v2 : Int32)  (x : ab_X) (K : Int32 → Prop) (d bc bs : Nat) (hdp : 0 ≤ d) (h : wX12_loadOf v1 v2 x K) : EW MX12_loadOf 0 [(0, .ref 246), (1, .int v1), (2, .int v2)] [] (aS x) d bc bs (liP x K) := by
  unfold wX12_loadOf at h
  refine EW_iload_n (pc2 := 1) rfl dX12_loadOf_0 2 rfl ?_
  refine EW_if_ne (tgt := 8) (pc2 := 4) rfl dX12_loadOf_1 (by decide) (fun q => ?_) (fun q => ?_)
  · replace h := h.1 q
    refine EW_aload_n (pc2 := 9) rfl dX12_loadOf_8 0 rfl ?_
    refine AW_getr (r := 271) ⟨gfRX12_83, rfl⟩ (pc2 := 12) rfl dX12_loadOf_9 q246 rfl ?_
    refine EW_bipush (pc2 := 14) (v := 6) rfl dX12_loadOf_12 (by decide) ?_
    refine EW_iload_n (pc2 := 15) rfl dX12_loadOf_14 1 rfl ?_
    refine EW_imul (pc2 := 16) rfl dX12_loadOf_15 ?_
    refine EW_iload_n (pc2 := 17) rfl dX12_loadOf_16 2 rfl ?_
    refine EW_iadd (pc2 := 18) rfl dX12_loadOf_17 ?_
    obtain ⟨b1, h⟩ := h
    refine AW_iald (pc2 := 19) rfl dX12_loadOf_18 q271 b1 ?_
    refine EW_iconst (pc2 := 20) (v := 2) rfl dX12_loadOf_19 (by decide) ?_
    refine EW_aload_n (pc2 := 21) rfl dX12_loadOf_20 0 rfl ?_
    refine AW_getr (r := 271) ⟨gfRX12_83, rfl⟩ (pc2 := 24) rfl dX12_loadOf_21 q246 rfl ?_
    refine EW_bipush (pc2 := 26) (v := 6) rfl dX12_loadOf_24 (by decide) ?_
    refine EW_iload_n (pc2 := 27) rfl dX12_loadOf_26 1 rfl ?_
    refine EW_imul (pc2 := 28) rfl dX12_loadOf_27 ?_
    refine EW_iload_n (pc2 := 29) rfl dX12_loadOf_28 2 rfl ?_
    refine EW_iadd (pc2 := 30) rfl dX12_loadOf_29 ?_
    refine EW_iconst (pc2 := 31) (v := 1) rfl dX12_loadOf_30 (by decide) ?_
    refine EW_isub (pc2 := 32) rfl dX12_loadOf_31 ?_
    obtain ⟨b2, h⟩ := h
    refine AW_iald (pc2 := 33) rfl dX12_loadOf_32 q271 b2 ?_
    refine EW_imul (pc2 := 34) rfl dX12_loadOf_33 ?_
    refine EW_iadd (pc2 := 35) rfl dX12_loadOf_34 ?_
    exact AW_iret rfl dX12_loadOf_35 ⟨_, rfl, rfl, h⟩
  · replace h := h.2 q
    refine EW_iconst (pc2 := 5) (v := 0) rfl dX12_loadOf_4 (by decide) ?_
    refine EW_goto (tgt := 35) dX12_loadOf_5 (by decide) ?_
    exact AW_iret rfl dX12_loadOf_35 ⟨_, rfl, rfl, h⟩
