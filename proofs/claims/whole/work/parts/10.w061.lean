theorem gfRX12_125 : ab_L RX12 125 12 42 := ⟨by decide, by decide, ab_in 1891 (by decide +kernel) (by decide +kernel)⟩
theorem gfRX12_122 : ab_L RX12 122 12 41 := ⟨by decide, by decide, ab_in 1890 (by decide +kernel) (by decide +kernel)⟩
theorem gfRX12_116 : ab_L RX12 116 12 39 := ⟨by decide, by decide, ab_in 1888 (by decide +kernel) (by decide +kernel)⟩
theorem gfRX12_119 : ab_L RX12 119 12 40 := ⟨by decide, by decide, ab_in 1889 (by decide +kernel) (by decide +kernel)⟩
abbrev MX12_crew : ab_M := (yX12_crew, cX12_crew, 7, (some .int))
theorem dX12_crew_0 : decode cX12_crew 0 = .ok (.aload_n 0, 1) := by decide +kernel
theorem dX12_crew_1 : decode cX12_crew 1 = .ok (.iconst 0, 1) := by decide +kernel
theorem dX12_crew_2 : decode cX12_crew 2 = .ok (.putfield 297, 3) := by decide +kernel
theorem dX12_crew_5 : decode cX12_crew 5 = .ok (.aload_n 0, 1) := by decide +kernel
theorem dX12_crew_6 : decode cX12_crew 6 = .ok (.getfield 366, 3) := by decide +kernel
theorem dX12_crew_9 : decode cX12_crew 9 = .ok (.bipush 16, 2) := by decide +kernel
theorem dX12_crew_11 : decode cX12_crew 11 = .ok (.if_icmp .eq 43, 3) := by decide +kernel
theorem dX12_crew_14 : decode cX12_crew 14 = .ok (.iload_n 1, 1) := by decide +kernel
theorem dX12_crew_15 : decode cX12_crew 15 = .ok (.iconst 0, 1) := by decide +kernel
theorem dX12_crew_16 : decode cX12_crew 16 = .ok (.iconst 3, 1) := by decide +kernel
theorem dX12_crew_17 : decode cX12_crew 17 = .ok (.invokestatic 307, 3) := by decide +kernel
theorem dX12_crew_20 : decode cX12_crew 20 = .ok (.ifCond .eq 34, 3) := by decide +kernel
theorem dX12_crew_23 : decode cX12_crew 23 = .ok (.iload_n 2, 1) := by decide +kernel
theorem dX12_crew_24 : decode cX12_crew 24 = .ok (.invokestatic 303, 3) := by decide +kernel
theorem dX12_crew_27 : decode cX12_crew 27 = .ok (.ifCond .eq 27, 3) := by decide +kernel
theorem dX12_crew_30 : decode cX12_crew 30 = .ok (.iload 4, 2) := by decide +kernel
theorem dX12_crew_32 : decode cX12_crew 32 = .ok (.bipush 50, 2) := by decide +kernel
theorem dX12_crew_34 : decode cX12_crew 34 = .ok (.sipush 150, 3) := by decide +kernel
theorem dX12_crew_37 : decode cX12_crew 37 = .ok (.invokestatic 307, 3) := by decide +kernel
theorem dX12_crew_40 : decode cX12_crew 40 = .ok (.ifCond .eq 14, 3) := by decide +kernel
theorem dX12_crew_43 : decode cX12_crew 43 = .ok (.iload 5, 2) := by decide +kernel
theorem dX12_crew_45 : decode cX12_crew 45 = .ok (.iconst 1, 1) := by decide +kernel
theorem dX12_crew_46 : decode cX12_crew 46 = .ok (.bipush 9, 2) := by decide +kernel
theorem dX12_crew_48 : decode cX12_crew 48 = .ok (.invokestatic 307, 3) := by decide +kernel
theorem dX12_crew_51 : decode cX12_crew 51 = .ok (.ifCond .ne 5, 3) := by decide +kernel
theorem dX12_crew_54 : decode cX12_crew 54 = .ok (.iconst (-1), 1) := by decide +kernel
theorem dX12_crew_55 : decode cX12_crew 55 = .ok (.ireturn, 1) := by decide +kernel
theorem dX12_crew_56 : decode cX12_crew 56 = .ok (.aload_n 0, 1) := by decide +kernel
theorem dX12_crew_57 : decode cX12_crew 57 = .ok (.getfield 366, 3) := by decide +kernel
theorem dX12_crew_60 : decode cX12_crew 60 = .ok (.istore 6, 2) := by decide +kernel
theorem dX12_crew_62 : decode cX12_crew 62 = .ok (.aload_n 0, 1) := by decide +kernel
theorem dX12_crew_63 : decode cX12_crew 63 = .ok (.getfield 107, 3) := by decide +kernel
theorem dX12_crew_66 : decode cX12_crew 66 = .ok (.iload 6, 2) := by decide +kernel
theorem dX12_crew_68 : decode cX12_crew 68 = .ok (.iload_n 1, 1) := by decide +kernel
theorem dX12_crew_69 : decode cX12_crew 69 = .ok (.iastore, 1) := by decide +kernel
theorem dX12_crew_70 : decode cX12_crew 70 = .ok (.aload_n 0, 1) := by decide +kernel
theorem dX12_crew_71 : decode cX12_crew 71 = .ok (.getfield 110, 3) := by decide +kernel
theorem dX12_crew_74 : decode cX12_crew 74 = .ok (.iload 6, 2) := by decide +kernel
theorem dX12_crew_76 : decode cX12_crew 76 = .ok (.iload_n 2, 1) := by decide +kernel
theorem dX12_crew_77 : decode cX12_crew 77 = .ok (.iastore, 1) := by decide +kernel
theorem dX12_crew_78 : decode cX12_crew 78 = .ok (.aload_n 0, 1) := by decide +kernel
theorem dX12_crew_79 : decode cX12_crew 79 = .ok (.getfield 164, 3) := by decide +kernel
theorem dX12_crew_82 : decode cX12_crew 82 = .ok (.iload 6, 2) := by decide +kernel
theorem dX12_crew_84 : decode cX12_crew 84 = .ok (.iload_n 3, 1) := by decide +kernel
theorem dX12_crew_85 : decode cX12_crew 85 = .ok (.bastore, 1) := by decide +kernel
theorem dX12_crew_86 : decode cX12_crew 86 = .ok (.aload_n 0, 1) := by decide +kernel
theorem dX12_crew_87 : decode cX12_crew 87 = .ok (.getfield 113, 3) := by decide +kernel
theorem dX12_crew_90 : decode cX12_crew 90 = .ok (.iload 6, 2) := by decide +kernel
theorem dX12_crew_92 : decode cX12_crew 92 = .ok (.iload 4, 2) := by decide +kernel
theorem dX12_crew_94 : decode cX12_crew 94 = .ok (.iastore, 1) := by decide +kernel
theorem dX12_crew_95 : decode cX12_crew 95 = .ok (.aload_n 0, 1) := by decide +kernel
theorem dX12_crew_96 : decode cX12_crew 96 = .ok (.getfield 116, 3) := by decide +kernel
theorem dX12_crew_99 : decode cX12_crew 99 = .ok (.iload 6, 2) := by decide +kernel
theorem dX12_crew_101 : decode cX12_crew 101 = .ok (.iload 5, 2) := by decide +kernel
theorem dX12_crew_103 : decode cX12_crew 103 = .ok (.iastore, 1) := by decide +kernel
theorem dX12_crew_104 : decode cX12_crew 104 = .ok (.aload_n 0, 1) := by decide +kernel
theorem dX12_crew_105 : decode cX12_crew 105 = .ok (.getfield 119, 3) := by decide +kernel
theorem dX12_crew_108 : decode cX12_crew 108 = .ok (.iload 6, 2) := by decide +kernel
theorem dX12_crew_110 : decode cX12_crew 110 = .ok (.iload_n 1, 1) := by decide +kernel
theorem dX12_crew_111 : decode cX12_crew 111 = .ok (.iconst 2, 1) := by decide +kernel
theorem dX12_crew_112 : decode cX12_crew 112 = .ok (.if_icmp .ge 8, 3) := by decide +kernel
theorem dX12_crew_115 : decode cX12_crew 115 = .ok (.bipush 100, 2) := by decide +kernel
theorem dX12_crew_117 : decode cX12_crew 117 = .ok (.goto 13, 3) := by decide +kernel
theorem dX12_crew_120 : decode cX12_crew 120 = .ok (.iload_n 1, 1) := by decide +kernel
theorem dX12_crew_121 : decode cX12_crew 121 = .ok (.iconst 2, 1) := by decide +kernel
theorem dX12_crew_122 : decode cX12_crew 122 = .ok (.if_icmp .ne 7, 3) := by decide +kernel
theorem dX12_crew_125 : decode cX12_crew 125 = .ok (.iconst 1, 1) := by decide +kernel
theorem dX12_crew_126 : decode cX12_crew 126 = .ok (.goto 4, 3) := by decide +kernel
theorem dX12_crew_129 : decode cX12_crew 129 = .ok (.iconst 0, 1) := by decide +kernel
theorem dX12_crew_130 : decode cX12_crew 130 = .ok (.iastore, 1) := by decide +kernel
theorem dX12_crew_131 : decode cX12_crew 131 = .ok (.aload_n 0, 1) := by decide +kernel
theorem dX12_crew_132 : decode cX12_crew 132 = .ok (.getfield 122, 3) := by decide +kernel
theorem dX12_crew_135 : decode cX12_crew 135 = .ok (.iload 6, 2) := by decide +kernel
theorem dX12_crew_137 : decode cX12_crew 137 = .ok (.iload_n 1, 1) := by decide +kernel
theorem dX12_crew_138 : decode cX12_crew 138 = .ok (.iconst 2, 1) := by decide +kernel
theorem dX12_crew_139 : decode cX12_crew 139 = .ok (.if_icmp .ge 8, 3) := by decide +kernel
theorem dX12_crew_142 : decode cX12_crew 142 = .ok (.bipush 10, 2) := by decide +kernel
theorem dX12_crew_144 : decode cX12_crew 144 = .ok (.goto 4, 3) := by decide +kernel
theorem dX12_crew_147 : decode cX12_crew 147 = .ok (.iconst 0, 1) := by decide +kernel
theorem dX12_crew_148 : decode cX12_crew 148 = .ok (.iastore, 1) := by decide +kernel
theorem dX12_crew_149 : decode cX12_crew 149 = .ok (.aload_n 0, 1) := by decide +kernel
theorem dX12_crew_150 : decode cX12_crew 150 = .ok (.getfield 125, 3) := by decide +kernel
theorem dX12_crew_153 : decode cX12_crew 153 = .ok (.iload 6, 2) := by decide +kernel
theorem dX12_crew_155 : decode cX12_crew 155 = .ok (.iload_n 1, 1) := by decide +kernel
theorem dX12_crew_156 : decode cX12_crew 156 = .ok (.iconst 1, 1) := by decide +kernel
theorem dX12_crew_157 : decode cX12_crew 157 = .ok (.if_icmp .ne 7, 3) := by decide +kernel
theorem dX12_crew_160 : decode cX12_crew 160 = .ok (.iconst 1, 1) := by decide +kernel
theorem dX12_crew_161 : decode cX12_crew 161 = .ok (.goto 4, 3) := by decide +kernel
theorem dX12_crew_164 : decode cX12_crew 164 = .ok (.iconst 0, 1) := by decide +kernel
theorem dX12_crew_165 : decode cX12_crew 165 = .ok (.iastore, 1) := by decide +kernel
theorem dX12_crew_166 : decode cX12_crew 166 = .ok (.aload_n 0, 1) := by decide +kernel
theorem dX12_crew_167 : decode cX12_crew 167 = .ok (.getfield 131, 3) := by decide +kernel
theorem dX12_crew_170 : decode cX12_crew 170 = .ok (.iload 6, 2) := by decide +kernel
theorem dX12_crew_172 : decode cX12_crew 172 = .ok (.iload_n 2, 1) := by decide +kernel
theorem dX12_crew_173 : decode cX12_crew 173 = .ok (.iastore, 1) := by decide +kernel
theorem dX12_crew_174 : decode cX12_crew 174 = .ok (.aload_n 0, 1) := by decide +kernel
theorem dX12_crew_175 : decode cX12_crew 175 = .ok (.getfield 134, 3) := by decide +kernel
theorem dX12_crew_178 : decode cX12_crew 178 = .ok (.iload 6, 2) := by decide +kernel
theorem dX12_crew_180 : decode cX12_crew 180 = .ok (.iconst (-1), 1) := by decide +kernel
theorem dX12_crew_181 : decode cX12_crew 181 = .ok (.iastore, 1) := by decide +kernel
theorem dX12_crew_182 : decode cX12_crew 182 = .ok (.aload_n 0, 1) := by decide +kernel
theorem dX12_crew_183 : decode cX12_crew 183 = .ok (.getfield 137, 3) := by decide +kernel
theorem dX12_crew_186 : decode cX12_crew 186 = .ok (.iload 6, 2) := by decide +kernel
theorem dX12_crew_188 : decode cX12_crew 188 = .ok (.iconst (-1), 1) := by decide +kernel
theorem dX12_crew_189 : decode cX12_crew 189 = .ok (.iastore, 1) := by decide +kernel
theorem dX12_crew_190 : decode cX12_crew 190 = .ok (.aload_n 0, 1) := by decide +kernel
theorem dX12_crew_191 : decode cX12_crew 191 = .ok (.getfield 140, 3) := by decide +kernel
theorem dX12_crew_194 : decode cX12_crew 194 = .ok (.iload 6, 2) := by decide +kernel
theorem dX12_crew_196 : decode cX12_crew 196 = .ok (.iconst (-1), 1) := by decide +kernel
theorem dX12_crew_197 : decode cX12_crew 197 = .ok (.iastore, 1) := by decide +kernel
theorem dX12_crew_198 : decode cX12_crew 198 = .ok (.aload_n 0, 1) := by decide +kernel
theorem dX12_crew_199 : decode cX12_crew 199 = .ok (.getfield 143, 3) := by decide +kernel
theorem dX12_crew_202 : decode cX12_crew 202 = .ok (.iload 6, 2) := by decide +kernel
theorem dX12_crew_204 : decode cX12_crew 204 = .ok (.iconst (-1), 1) := by decide +kernel
theorem dX12_crew_205 : decode cX12_crew 205 = .ok (.iastore, 1) := by decide +kernel
theorem dX12_crew_206 : decode cX12_crew 206 = .ok (.aload_n 0, 1) := by decide +kernel
theorem dX12_crew_207 : decode cX12_crew 207 = .ok (.dup, 1) := by decide +kernel
theorem dX12_crew_208 : decode cX12_crew 208 = .ok (.getfield 366, 3) := by decide +kernel
theorem dX12_crew_211 : decode cX12_crew 211 = .ok (.iconst 1, 1) := by decide +kernel
theorem dX12_crew_212 : decode cX12_crew 212 = .ok (.iadd, 1) := by decide +kernel
theorem dX12_crew_213 : decode cX12_crew 213 = .ok (.putfield 366, 3) := by decide +kernel
theorem dX12_crew_216 : decode cX12_crew 216 = .ok (.iload 6, 2) := by decide +kernel
theorem dX12_crew_218 : decode cX12_crew 218 = .ok (.ireturn, 1) := by decide +kernel
theorem okX12_crew : ab_okM MX12_crew 5 := ⟨by decide, ⟨by decide, by decide⟩, ab_in 2344 (by decide +kernel) (by decide +kernel), ab_in 99 (by decide +kernel) (by decide +kernel), by decide +kernel, by decide⟩
set_option maxHeartbeats 4000000 in
set_option maxRecDepth 100000 in
def wX12_crew_165 (v2 : Int32) (v6 : Int32) (s1 : Int32) (s2 : Int32) (x : ab_X) (K : Int32 → ab_X → Prop)  : Prop := (vp_in s1 16 ∧ vp_in v6 16 ∧ vp_in v6 16 ∧ vp_in v6 16 ∧ vp_in v6 16 ∧ vp_in v6 16 ∧ K v6 (wr (wr (wr (wr (wr (wr (wr x 285 (Int32.toNatClampNeg s1) s2) 287 (Int32.toNatClampNeg v6) v2) 288 (Int32.toNatClampNeg v6) (-1)) 289 (Int32.toNatClampNeg v6) (-1)) 290 (Int32.toNatClampNeg v6) (-1)) 291 (Int32.toNatClampNeg v6) (-1)) 246 58 (((wr (wr (wr (wr (wr (wr x 285 (Int32.toNatClampNeg s1) s2) 287 (Int32.toNatClampNeg v6) v2) 288 (Int32.toNatClampNeg v6) (-1)) 289 (Int32.toNatClampNeg v6) (-1)) 290 (Int32.toNatClampNeg v6) (-1)) 291 (Int32.toNatClampNeg v6) (-1)).1 246 58) + 1)))
set_option maxHeartbeats 4000000 in
set_option maxRecDepth 100000 in
theorem sX12_crew_165 (v2 : Int32) (v6 : Int32) (s1 : Int32) (s2 : Int32)  (x : ab_X) (K : Int32 → ab_X → Prop)  (d bc bs : Nat) (hdp : 1 ≤ d)  (h : wX12_crew_165 v2 v6 s1 s2 x K ) : EW MX12_crew 165 [(0, .ref 246), (2, .int v2), (6, .int v6)] [.int s2, .int s1, .ref 285] (aS x) d bc bs (liI K) := by
  unfold wX12_crew_165 at h
  obtain ⟨b13, h⟩ := h
  refine AW_iast (pc2 := 166) rfl dX12_crew_165 q285 b13 ?_
  refine EW_aload_n (pc2 := 167) rfl dX12_crew_166 0 rfl ?_
  refine AW_getr (r := 287) ⟨gfRX12_131, rfl⟩ (pc2 := 170) rfl dX12_crew_167 q246 rfl ?_
  refine EW_iload (pc2 := 172) rfl dX12_crew_170 2 rfl ?_
  refine EW_iload_n (pc2 := 173) rfl dX12_crew_172 1 rfl ?_
  obtain ⟨b14, h⟩ := h
  refine AW_iast (pc2 := 174) rfl dX12_crew_173 q287 b14 ?_
  refine EW_aload_n (pc2 := 175) rfl dX12_crew_174 0 rfl ?_
  refine AW_getr (r := 288) ⟨gfRX12_134, rfl⟩ (pc2 := 178) rfl dX12_crew_175 q246 rfl ?_
  refine EW_iload (pc2 := 180) rfl dX12_crew_178 2 rfl ?_
  refine EW_iconst (pc2 := 181) (v := (-1)) rfl dX12_crew_180 (by decide) ?_
  obtain ⟨b15, h⟩ := h
  refine AW_iast (pc2 := 182) rfl dX12_crew_181 q288 b15 ?_
  refine EW_aload_n (pc2 := 183) rfl dX12_crew_182 0 rfl ?_
  refine AW_getr (r := 289) ⟨gfRX12_137, rfl⟩ (pc2 := 186) rfl dX12_crew_183 q246 rfl ?_
  refine EW_iload (pc2 := 188) rfl dX12_crew_186 2 rfl ?_
  refine EW_iconst (pc2 := 189) (v := (-1)) rfl dX12_crew_188 (by decide) ?_
  obtain ⟨b16, h⟩ := h
  refine AW_iast (pc2 := 190) rfl dX12_crew_189 q289 b16 ?_
  refine EW_aload_n (pc2 := 191) rfl dX12_crew_190 0 rfl ?_
  refine AW_getr (r := 290) ⟨gfRX12_140, rfl⟩ (pc2 := 194) rfl dX12_crew_191 q246 rfl ?_
  refine EW_iload (pc2 := 196) rfl dX12_crew_194 2 rfl ?_
  refine EW_iconst (pc2 := 197) (v := (-1)) rfl dX12_crew_196 (by decide) ?_
  obtain ⟨b17, h⟩ := h
  refine AW_iast (pc2 := 198) rfl dX12_crew_197 q290 b17 ?_
  refine EW_aload_n (pc2 := 199) rfl dX12_crew_198 0 rfl ?_
  refine AW_getr (r := 291) ⟨gfRX12_143, rfl⟩ (pc2 := 202) rfl dX12_crew_199 q246 rfl ?_
  refine EW_iload (pc2 := 204) rfl dX12_crew_202 2 rfl ?_
  refine EW_iconst (pc2 := 205) (v := (-1)) rfl dX12_crew_204 (by decide) ?_
  obtain ⟨b18, h⟩ := h
  refine AW_iast (pc2 := 206) rfl dX12_crew_205 q291 b18 ?_
  refine EW_aload_n (pc2 := 207) rfl dX12_crew_206 0 rfl ?_
  refine EW_dup (pc2 := 208) rfl dX12_crew_207 rfl ?_
  refine AW_geti ⟨gfRX12_366, rfl⟩ (pc2 := 211) rfl dX12_crew_208 q246 ?_
  refine EW_iconst (pc2 := 212) (v := 1) rfl dX12_crew_211 (by decide) ?_
  refine EW_iadd (pc2 := 213) rfl dX12_crew_212 ?_
  refine AW_puti ⟨gfRX12_366, rfl, rfl⟩ (pc2 := 216) rfl dX12_crew_213 q246 ?_
  refine EW_iload (pc2 := 218) rfl dX12_crew_216 2 rfl ?_
  exact AW_iret rfl dX12_crew_218 ⟨_, _, rfl, rfl, h⟩
set_option maxHeartbeats 4000000 in
set_option maxRecDepth 100000 in
def wX12_crew_148 (v1 : Int32) (v2 : Int32) (v6 : Int32) (s1 : Int32) (s2 : Int32) (x : ab_X) (K : Int32 → ab_X → Prop)  : Prop := (vp_in s1 16 ∧ ((¬ v1 = 1 → wX12_crew_165 v2 v6 v6 0 (wr x 284 (Int32.toNatClampNeg s1) s2) K) ∧ (v1 = 1 → wX12_crew_165 v2 v6 v6 1 (wr x 284 (Int32.toNatClampNeg s1) s2) K)))
set_option maxHeartbeats 4000000 in
set_option maxRecDepth 100000 in
theorem sX12_crew_148 (v1 : Int32) (v2 : Int32) (v6 : Int32) (s1 : Int32) (s2 : Int32)  (x : ab_X) (K : Int32 → ab_X → Prop)  (d bc bs : Nat) (hdp : 1 ≤ d)  (h : wX12_crew_148 v1 v2 v6 s1 s2 x K ) : EW MX12_crew 148 [(0, .ref 246), (1, .int v1), (2, .int v2), (6, .int v6)] [.int s2, .int s1, .ref 284] (aS x) d bc bs (liI K) := by
  unfold wX12_crew_148 at h
  obtain ⟨b12, h⟩ := h
  refine AW_iast (pc2 := 149) rfl dX12_crew_148 q284 b12 ?_
  refine EW_aload_n (pc2 := 150) rfl dX12_crew_149 0 rfl ?_
  refine AW_getr (r := 285) ⟨gfRX12_125, rfl⟩ (pc2 := 153) rfl dX12_crew_150 q246 rfl ?_
  refine EW_iload (pc2 := 155) rfl dX12_crew_153 3 rfl ?_
  refine EW_iload_n (pc2 := 156) rfl dX12_crew_155 1 rfl ?_
  refine EW_iconst (pc2 := 157) (v := 1) rfl dX12_crew_156 (by decide) ?_
  refine EW_icmp_ne (tgt := 164) (pc2 := 160) rfl dX12_crew_157 (by decide) (fun q => ?_) (fun q => ?_)
  · replace h := h.1 q
    refine EW_iconst (pc2 := 165) (v := 0) rfl dX12_crew_164 (by decide) ?_
    refine EW_ls [0, 2, 3] rfl ?_
    exact sX12_crew_165 v2 v6 v6 0 (wr x 284 (Int32.toNatClampNeg s1) s2) K d bc bs hdp h
  · replace h := h.2 q
    refine EW_iconst (pc2 := 161) (v := 1) rfl dX12_crew_160 (by decide) ?_
    refine EW_goto (tgt := 165) dX12_crew_161 (by decide) ?_
    refine EW_ls [0, 2, 3] rfl ?_
    exact sX12_crew_165 v2 v6 v6 1 (wr x 284 (Int32.toNatClampNeg s1) s2) K d bc bs hdp h
set_option maxHeartbeats 4000000 in
set_option maxRecDepth 100000 in
def wX12_crew_130 (v1 : Int32) (v2 : Int32) (v6 : Int32) (s1 : Int32) (s2 : Int32) (x : ab_X) (K : Int32 → ab_X → Prop)  : Prop := (vp_in s1 16 ∧ ((2 ≤ v1 → wX12_crew_148 v1 v2 v6 v6 0 (wr x 283 (Int32.toNatClampNeg s1) s2) K) ∧ (¬ 2 ≤ v1 → wX12_crew_148 v1 v2 v6 v6 10 (wr x 283 (Int32.toNatClampNeg s1) s2) K)))
set_option maxHeartbeats 4000000 in
set_option maxRecDepth 100000 in
theorem sX12_crew_130 (v1 : Int32) (v2 : Int32) (v6 : Int32) (s1 : Int32) (s2 : Int32)  (x : ab_X) (K : Int32 → ab_X → Prop)  (d bc bs : Nat) (hdp : 1 ≤ d)  (h : wX12_crew_130 v1 v2 v6 s1 s2 x K ) : EW MX12_crew 130 [(0, .ref 246), (1, .int v1), (2, .int v2), (6, .int v6)] [.int s2, .int s1, .ref 283] (aS x) d bc bs (liI K) := by
  unfold wX12_crew_130 at h
  obtain ⟨b11, h⟩ := h
  refine AW_iast (pc2 := 131) rfl dX12_crew_130 q283 b11 ?_
  refine EW_aload_n (pc2 := 132) rfl dX12_crew_131 0 rfl ?_
  refine AW_getr (r := 284) ⟨gfRX12_122, rfl⟩ (pc2 := 135) rfl dX12_crew_132 q246 rfl ?_
  refine EW_iload (pc2 := 137) rfl dX12_crew_135 3 rfl ?_
  refine EW_iload_n (pc2 := 138) rfl dX12_crew_137 1 rfl ?_
  refine EW_iconst (pc2 := 139) (v := 2) rfl dX12_crew_138 (by decide) ?_
  refine EW_icmp_ge (tgt := 147) (pc2 := 142) rfl dX12_crew_139 (by decide) (fun q => ?_) (fun q => ?_)
  · replace h := h.1 q
    refine EW_iconst (pc2 := 148) (v := 0) rfl dX12_crew_147 (by decide) ?_
    exact sX12_crew_148 v1 v2 v6 v6 0 (wr x 283 (Int32.toNatClampNeg s1) s2) K d bc bs hdp h
  · replace h := h.2 q
    refine EW_bipush (pc2 := 144) (v := 10) rfl dX12_crew_142 (by decide) ?_
    refine EW_goto (tgt := 148) dX12_crew_144 (by decide) ?_
    exact sX12_crew_148 v1 v2 v6 v6 10 (wr x 283 (Int32.toNatClampNeg s1) s2) K d bc bs hdp h
set_option maxHeartbeats 4000000 in
set_option maxRecDepth 100000 in
def wX12_crew (v1 : Int32) (v2 : Int32) (v3 : Int32) (v4 : Int32) (v5 : Int32) (x : ab_X) (K : Int32 → ab_X → Prop) : Prop := ((((wr x 246 0 0).1 246 58) = 16 → K (-1) (wr x 246 0 0)) ∧ (¬ ((wr x 246 0 0).1 246 58) = 16 → wX12_isIn v1 0 3 (wr x 246 0 0) (fun r1 => ((r1 = 0 → K (-1) (wr x 246 0 0)) ∧ (¬ r1 = 0 → wX12_isCorner v2 (wr x 246 0 0) (fun r2 => ((r2 = 0 → K (-1) (wr x 246 0 0)) ∧ (¬ r2 = 0 → wX12_isIn v4 50 150 (wr x 246 0 0) (fun r3 => ((r3 = 0 → K (-1) (wr x 246 0 0)) ∧ (¬ r3 = 0 → wX12_isIn v5 1 9 (wr x 246 0 0) (fun r4 => ((¬ r4 = 0 → (vp_in ((wr x 246 0 0).1 246 58) 16 ∧ vp_in ((wr x 246 0 0).1 246 58) 16 ∧ vp_in ((wr x 246 0 0).1 246 58) 16 ∧ isB v3 ∧ vp_in ((wr x 246 0 0).1 246 58) 16 ∧ vp_in ((wr x 246 0 0).1 246 58) 16 ∧ ((2 ≤ v1 → ((¬ v1 = 2 → wX12_crew_130 v1 v2 ((wr x 246 0 0).1 246 58) ((wr x 246 0 0).1 246 58) 0 (wr (wr (wr (wr (wr (wr x 246 0 0) 279 (Int32.toNatClampNeg ((wr x 246 0 0).1 246 58)) v1) 280 (Int32.toNatClampNeg ((wr x 246 0 0).1 246 58)) v2) 298 (Int32.toNatClampNeg ((wr x 246 0 0).1 246 58)) v3) 281 (Int32.toNatClampNeg ((wr x 246 0 0).1 246 58)) v4) 282 (Int32.toNatClampNeg ((wr x 246 0 0).1 246 58)) v5) K) ∧ (v1 = 2 → wX12_crew_130 v1 v2 ((wr x 246 0 0).1 246 58) ((wr x 246 0 0).1 246 58) 1 (wr (wr (wr (wr (wr (wr x 246 0 0) 279 (Int32.toNatClampNeg ((wr x 246 0 0).1 246 58)) v1) 280 (Int32.toNatClampNeg ((wr x 246 0 0).1 246 58)) v2) 298 (Int32.toNatClampNeg ((wr x 246 0 0).1 246 58)) v3) 281 (Int32.toNatClampNeg ((wr x 246 0 0).1 246 58)) v4) 282 (Int32.toNatClampNeg ((wr x 246 0 0).1 246 58)) v5) K))) ∧ (¬ 2 ≤ v1 → wX12_crew_130 v1 v2 ((wr x 246 0 0).1 246 58) ((wr x 246 0 0).1 246 58) 100 (wr (wr (wr (wr (wr (wr x 246 0 0) 279 (Int32.toNatClampNeg ((wr x 246 0 0).1 246 58)) v1) 280 (Int32.toNatClampNeg ((wr x 246 0 0).1 246 58)) v2) 298 (Int32.toNatClampNeg ((wr x 246 0 0).1 246 58)) v3) 281 (Int32.toNatClampNeg ((wr x 246 0 0).1 246 58)) v4) 282 (Int32.toNatClampNeg ((wr x 246 0 0).1 246 58)) v5) K)))) ∧ (r4 = 0 → K (-1) (wr x 246 0 0)))))))))))))))
set_option maxHeartbeats 4000000 in
set_option maxRecDepth 100000 in
theorem sX12_crew (v1 : Int32) (v2 : Int32) (v3 : Int32) (v4 : Int32) (v5 : Int32)  (x : ab_X) (K : Int32 → ab_X → Prop) (d bc bs : Nat) (hdp : 1 ≤ d) (h : wX12_crew v1 v2 v3 v4 v5 x K) : EW MX12_crew 0 [(0, .ref 246), (1, .int v1), (2, .int v2), (3, .int v3), (4, .int v4), (5, .int v5)] [] (aS x) d bc bs (liI K) := by
  unfold wX12_crew at h
  refine EW_aload_n (pc2 := 1) rfl dX12_crew_0 0 rfl ?_
  refine EW_iconst (pc2 := 2) (v := 0) rfl dX12_crew_1 (by decide) ?_
  refine AW_puti ⟨gfRX12_297, rfl, rfl⟩ (pc2 := 5) rfl dX12_crew_2 q246 ?_
  refine EW_aload_n (pc2 := 6) rfl dX12_crew_5 0 rfl ?_
  refine AW_geti ⟨gfRX12_366, rfl⟩ (pc2 := 9) rfl dX12_crew_6 q246 ?_
  refine EW_bipush (pc2 := 11) (v := 16) rfl dX12_crew_9 (by decide) ?_
  refine EW_icmp_eq (tgt := 54) (pc2 := 14) rfl dX12_crew_11 (by decide) (fun q => ?_) (fun q => ?_)
  · replace h := h.1 q
    refine EW_iconst (pc2 := 55) (v := (-1)) rfl dX12_crew_54 (by decide) ?_
    exact AW_iret rfl dX12_crew_55 ⟨_, _, rfl, rfl, h⟩
  · replace h := h.2 q
    refine EW_iload_n (pc2 := 15) rfl dX12_crew_14 1 rfl ?_
    refine EW_iconst (pc2 := 16) (v := 0) rfl dX12_crew_15 (by decide) ?_
    refine EW_iconst (pc2 := 17) (v := 3) rfl dX12_crew_16 (by decide) ?_
    refine AW_invS (M' := MX12_isIn) [.int v1, .int 0, .int 3] (rest := []) mlRX12_307 okX12_isIn (pc2 := 20) rfl dX12_crew_17 rfl rfl (Nat.le_of_ble_eq_true rfl) (Nat.le_of_ble_eq_true rfl) (d' := 0) (by omega) (EW_mono (fun _ _ hr => ?_) (sX12_isIn v1 0 3  (wr x 246 0 0) _ _ 0 0 (Nat.le_refl _) h))
    obtain ⟨r1, rfl, rfl, h⟩ := hr
    refine EW_if_eq (tgt := 54) (pc2 := 23) rfl dX12_crew_20 (by decide) (fun q => ?_) (fun q => ?_)
    · replace h := h.1 q
      refine EW_iconst (pc2 := 55) (v := (-1)) rfl dX12_crew_54 (by decide) ?_
      exact AW_iret rfl dX12_crew_55 ⟨_, _, rfl, rfl, h⟩
    · replace h := h.2 q
      refine EW_iload_n (pc2 := 24) rfl dX12_crew_23 2 rfl ?_
      refine AW_invS (M' := MX12_isCorner) [.int v2] (rest := []) mlRX12_303 okX12_isCorner (pc2 := 27) rfl dX12_crew_24 rfl rfl (Nat.le_of_ble_eq_true rfl) (Nat.le_of_ble_eq_true rfl) (d' := 0) (by omega) (EW_mono (fun _ _ hr => ?_) (sX12_isCorner v2  (wr x 246 0 0) _ _ 0 0 (Nat.le_refl _) h))
      obtain ⟨r2, rfl, rfl, h⟩ := hr
      refine EW_if_eq (tgt := 54) (pc2 := 30) rfl dX12_crew_27 (by decide) (fun q => ?_) (fun q => ?_)
      · replace h := h.1 q
        refine EW_iconst (pc2 := 55) (v := (-1)) rfl dX12_crew_54 (by decide) ?_
        exact AW_iret rfl dX12_crew_55 ⟨_, _, rfl, rfl, h⟩
      · replace h := h.2 q
        refine EW_iload (pc2 := 32) rfl dX12_crew_30 4 rfl ?_
        refine EW_bipush (pc2 := 34) (v := 50) rfl dX12_crew_32 (by decide) ?_
        refine EW_sipush (pc2 := 37) (v := 150) rfl dX12_crew_34 (by decide) ?_
        refine AW_invS (M' := MX12_isIn) [.int v4, .int 50, .int 150] (rest := []) mlRX12_307 okX12_isIn (pc2 := 40) rfl dX12_crew_37 rfl rfl (Nat.le_of_ble_eq_true rfl) (Nat.le_of_ble_eq_true rfl) (d' := 0) (by omega) (EW_mono (fun _ _ hr => ?_) (sX12_isIn v4 50 150  (wr x 246 0 0) _ _ 0 0 (Nat.le_refl _) h))
        obtain ⟨r3, rfl, rfl, h⟩ := hr
        refine EW_if_eq (tgt := 54) (pc2 := 43) rfl dX12_crew_40 (by decide) (fun q => ?_) (fun q => ?_)
        · replace h := h.1 q
          refine EW_iconst (pc2 := 55) (v := (-1)) rfl dX12_crew_54 (by decide) ?_
          exact AW_iret rfl dX12_crew_55 ⟨_, _, rfl, rfl, h⟩
        · replace h := h.2 q
          refine EW_iload (pc2 := 45) rfl dX12_crew_43 5 rfl ?_
          refine EW_iconst (pc2 := 46) (v := 1) rfl dX12_crew_45 (by decide) ?_
          refine EW_bipush (pc2 := 48) (v := 9) rfl dX12_crew_46 (by decide) ?_
          refine AW_invS (M' := MX12_isIn) [.int v5, .int 1, .int 9] (rest := []) mlRX12_307 okX12_isIn (pc2 := 51) rfl dX12_crew_48 rfl rfl (Nat.le_of_ble_eq_true rfl) (Nat.le_of_ble_eq_true rfl) (d' := 0) (by omega) (EW_mono (fun _ _ hr => ?_) (sX12_isIn v5 1 9  (wr x 246 0 0) _ _ 0 0 (Nat.le_refl _) h))
          obtain ⟨r4, rfl, rfl, h⟩ := hr
          refine EW_if_ne (tgt := 56) (pc2 := 54) rfl dX12_crew_51 (by decide) (fun q => ?_) (fun q => ?_)
          · replace h := h.1 q
            refine EW_aload_n (pc2 := 57) rfl dX12_crew_56 0 rfl ?_
            refine AW_geti ⟨gfRX12_366, rfl⟩ (pc2 := 60) rfl dX12_crew_57 q246 ?_
            refine EW_istore (pc2 := 62) rfl dX12_crew_60 (by decide) [1, 2, 3, 4, 5, 6, 0] [(0, .ref 246), (1, .int v1), (2, .int v2), (3, .int v3), (4, .int v4), (5, .int v5), (6, .int ((wr x 246 0 0).1 246 58))] rfl ?_
            refine EW_aload_n (pc2 := 63) rfl dX12_crew_62 0 rfl ?_
            refine AW_getr (r := 279) ⟨gfRX12_107, rfl⟩ (pc2 := 66) rfl dX12_crew_63 q246 rfl ?_
            refine EW_iload (pc2 := 68) rfl dX12_crew_66 6 rfl ?_
            refine EW_iload_n (pc2 := 69) rfl dX12_crew_68 1 rfl ?_
            obtain ⟨b5, h⟩ := h
            refine AW_iast (pc2 := 70) rfl dX12_crew_69 q279 b5 ?_
            refine EW_aload_n (pc2 := 71) rfl dX12_crew_70 0 rfl ?_
            refine AW_getr (r := 280) ⟨gfRX12_110, rfl⟩ (pc2 := 74) rfl dX12_crew_71 q246 rfl ?_
            refine EW_iload (pc2 := 76) rfl dX12_crew_74 6 rfl ?_
            refine EW_iload_n (pc2 := 77) rfl dX12_crew_76 2 rfl ?_
            obtain ⟨b6, h⟩ := h
            refine AW_iast (pc2 := 78) rfl dX12_crew_77 q280 b6 ?_
            refine EW_aload_n (pc2 := 79) rfl dX12_crew_78 0 rfl ?_
            refine AW_getr (r := 298) ⟨gfRX12_164, rfl⟩ (pc2 := 82) rfl dX12_crew_79 q246 rfl ?_
            refine EW_iload (pc2 := 84) rfl dX12_crew_82 6 rfl ?_
            refine EW_iload_n (pc2 := 85) rfl dX12_crew_84 3 rfl ?_
            obtain ⟨b7, h⟩ := h
            obtain ⟨z8, h⟩ := h
            refine AW_zast (pc2 := 86) rfl dX12_crew_85 q298 b7 z8 ?_
            refine EW_aload_n (pc2 := 87) rfl dX12_crew_86 0 rfl ?_
            refine AW_getr (r := 281) ⟨gfRX12_113, rfl⟩ (pc2 := 90) rfl dX12_crew_87 q246 rfl ?_
            refine EW_iload (pc2 := 92) rfl dX12_crew_90 6 rfl ?_
            refine EW_iload (pc2 := 94) rfl dX12_crew_92 4 rfl ?_
            obtain ⟨b9, h⟩ := h
            refine AW_iast (pc2 := 95) rfl dX12_crew_94 q281 b9 ?_
            refine EW_aload_n (pc2 := 96) rfl dX12_crew_95 0 rfl ?_
            refine AW_getr (r := 282) ⟨gfRX12_116, rfl⟩ (pc2 := 99) rfl dX12_crew_96 q246 rfl ?_
            refine EW_iload (pc2 := 101) rfl dX12_crew_99 6 rfl ?_
            refine EW_iload (pc2 := 103) rfl dX12_crew_101 5 rfl ?_
            obtain ⟨b10, h⟩ := h
            refine AW_iast (pc2 := 104) rfl dX12_crew_103 q282 b10 ?_
            refine EW_aload_n (pc2 := 105) rfl dX12_crew_104 0 rfl ?_
            refine AW_getr (r := 283) ⟨gfRX12_119, rfl⟩ (pc2 := 108) rfl dX12_crew_105 q246 rfl ?_
            refine EW_iload (pc2 := 110) rfl dX12_crew_108 6 rfl ?_
            refine EW_iload_n (pc2 := 111) rfl dX12_crew_110 1 rfl ?_
            refine EW_iconst (pc2 := 112) (v := 2) rfl dX12_crew_111 (by decide) ?_
            refine EW_icmp_ge (tgt := 120) (pc2 := 115) rfl dX12_crew_112 (by decide) (fun q => ?_) (fun q => ?_)
            · replace h := h.1 q
              refine EW_iload_n (pc2 := 121) rfl dX12_crew_120 1 rfl ?_
              refine EW_iconst (pc2 := 122) (v := 2) rfl dX12_crew_121 (by decide) ?_
              refine EW_icmp_ne (tgt := 129) (pc2 := 125) rfl dX12_crew_122 (by decide) (fun q => ?_) (fun q => ?_)
              · replace h := h.1 q
                refine EW_iconst (pc2 := 130) (v := 0) rfl dX12_crew_129 (by decide) ?_
                refine EW_ls [0, 1, 2, 6] rfl ?_
                exact sX12_crew_130 v1 v2 ((wr x 246 0 0).1 246 58) ((wr x 246 0 0).1 246 58) 0 (wr (wr (wr (wr (wr (wr x 246 0 0) 279 (Int32.toNatClampNeg ((wr x 246 0 0).1 246 58)) v1) 280 (Int32.toNatClampNeg ((wr x 246 0 0).1 246 58)) v2) 298 (Int32.toNatClampNeg ((wr x 246 0 0).1 246 58)) v3) 281 (Int32.toNatClampNeg ((wr x 246 0 0).1 246 58)) v4) 282 (Int32.toNatClampNeg ((wr x 246 0 0).1 246 58)) v5) K d bc bs hdp h
              · replace h := h.2 q
                refine EW_iconst (pc2 := 126) (v := 1) rfl dX12_crew_125 (by decide) ?_
                refine EW_goto (tgt := 130) dX12_crew_126 (by decide) ?_
                refine EW_ls [0, 1, 2, 6] rfl ?_
                exact sX12_crew_130 v1 v2 ((wr x 246 0 0).1 246 58) ((wr x 246 0 0).1 246 58) 1 (wr (wr (wr (wr (wr (wr x 246 0 0) 279 (Int32.toNatClampNeg ((wr x 246 0 0).1 246 58)) v1) 280 (Int32.toNatClampNeg ((wr x 246 0 0).1 246 58)) v2) 298 (Int32.toNatClampNeg ((wr x 246 0 0).1 246 58)) v3) 281 (Int32.toNatClampNeg ((wr x 246 0 0).1 246 58)) v4) 282 (Int32.toNatClampNeg ((wr x 246 0 0).1 246 58)) v5) K d bc bs hdp h
            · replace h := h.2 q
              refine EW_bipush (pc2 := 117) (v := 100) rfl dX12_crew_115 (by decide) ?_
              refine EW_goto (tgt := 130) dX12_crew_117 (by decide) ?_
              refine EW_ls [0, 1, 2, 6] rfl ?_
              exact sX12_crew_130 v1 v2 ((wr x 246 0 0).1 246 58) ((wr x 246 0 0).1 246 58) 100 (wr (wr (wr (wr (wr (wr x 246 0 0) 279 (Int32.toNatClampNeg ((wr x 246 0 0).1 246 58)) v1) 280 (Int32.toNatClampNeg ((wr x 246 0 0).1 246 58)) v2) 298 (Int32.toNatClampNeg ((wr x 246 0 0).1 246 58)) v3) 281 (Int32.toNatClampNeg ((wr x 246 0 0).1 246 58)) v4) 282 (Int32.toNatClampNeg ((wr x 246 0 0).1 246 58)) v5) K d bc bs hdp h
          · replace h := h.2 q
            refine EW_iconst (pc2 := 55) (v := (-1)) rfl dX12_crew_54 (by decide) ?_
            exact AW_iret rfl dX12_crew_55 ⟨_, _, rfl, rfl, h⟩
abbrev MX12_end : ab_M := (yX12_end, cX12_end, 2, (some .boolean))
theorem dX12_end_0 : decode cX12_end 0 = .ok (.aload_n 0, 1) := by decide +kernel
theorem dX12_end_1 : decode cX12_end 1 = .ok (.iconst 0, 1) := by decide +kernel
theorem dX12_end_2 : decode cX12_end 2 = .ok (.putfield 297, 3) := by decide +kernel
theorem dX12_end_5 : decode cX12_end 5 = .ok (.iload_n 1, 1) := by decide +kernel
theorem dX12_end_6 : decode cX12_end 6 = .ok (.ifCond .lt 11, 3) := by decide +kernel
theorem dX12_end_9 : decode cX12_end 9 = .ok (.iload_n 1, 1) := by decide +kernel
theorem dX12_end_10 : decode cX12_end 10 = .ok (.aload_n 0, 1) := by decide +kernel
theorem dX12_end_11 : decode cX12_end 11 = .ok (.getfield 414, 3) := by decide +kernel
theorem dX12_end_14 : decode cX12_end 14 = .ok (.if_icmp .le 5, 3) := by decide +kernel
theorem dX12_end_17 : decode cX12_end 17 = .ok (.iconst 0, 1) := by decide +kernel
theorem dX12_end_18 : decode cX12_end 18 = .ok (.ireturn, 1) := by decide +kernel
theorem dX12_end_19 : decode cX12_end 19 = .ok (.aload_n 0, 1) := by decide +kernel
theorem dX12_end_20 : decode cX12_end 20 = .ok (.iload_n 1, 1) := by decide +kernel
theorem dX12_end_21 : decode cX12_end 21 = .ok (.putfield 414, 3) := by decide +kernel
theorem dX12_end_24 : decode cX12_end 24 = .ok (.iconst 1, 1) := by decide +kernel
theorem dX12_end_25 : decode cX12_end 25 = .ok (.ireturn, 1) := by decide +kernel
theorem okX12_end : ab_okM MX12_end 1 := ⟨by decide, ⟨by decide, by decide⟩, ab_in 2403 (by decide +kernel) (by decide +kernel), ab_in 99 (by decide +kernel) (by decide +kernel), by decide +kernel, by decide⟩
set_option maxHeartbeats 4000000 in
set_option maxRecDepth 100000 in
def wX12_end (v1 : Int32) (x : ab_X) (K : Int32 → ab_X → Prop) : Prop := ((v1 < 0 → K 0 (wr x 246 0 0)) ∧ (¬ v1 < 0 → ((v1 ≤ ((wr x 246 0 0).1 246 70) → K 1 (wr (wr x 246 0 0) 246 70 v1)) ∧ (¬ v1 ≤ ((wr x 246 0 0).1 246 70) → K 0 (wr x 246 0 0)))))
set_option maxHeartbeats 4000000 in
set_option maxRecDepth 100000 in
theorem sX12_end (v1 : Int32)  (x : ab_X) (K : Int32 → ab_X → Prop) (d bc bs : Nat) (hdp : 0 ≤ d) (h : wX12_end v1 x K) : EW MX12_end 0 [(0, .ref 246), (1, .int v1)] [] (aS x) d bc bs (liI K) := by
  unfold wX12_end at h
  refine EW_aload_n (pc2 := 1) rfl dX12_end_0 0 rfl ?_
  refine EW_iconst (pc2 := 2) (v := 0) rfl dX12_end_1 (by decide) ?_
  refine AW_puti ⟨gfRX12_297, rfl, rfl⟩ (pc2 := 5) rfl dX12_end_2 q246 ?_
  refine EW_iload_n (pc2 := 6) rfl dX12_end_5 1 rfl ?_
  refine EW_if_lt (tgt := 17) (pc2 := 9) rfl dX12_end_6 (by decide) (fun q => ?_) (fun q => ?_)
  · replace h := h.1 q
    refine EW_iconst (pc2 := 18) (v := 0) rfl dX12_end_17 (by decide) ?_
    exact AW_zret rfl isB0 dX12_end_18 ⟨_, _, rfl, rfl, h⟩
  · replace h := h.2 q
    refine EW_iload_n (pc2 := 10) rfl dX12_end_9 1 rfl ?_
    refine EW_aload_n (pc2 := 11) rfl dX12_end_10 0 rfl ?_
    refine AW_geti ⟨gfRX12_414, rfl⟩ (pc2 := 14) rfl dX12_end_11 q246 ?_
    refine EW_icmp_le (tgt := 19) (pc2 := 17) rfl dX12_end_14 (by decide) (fun q => ?_) (fun q => ?_)
    · replace h := h.1 q
      refine EW_aload_n (pc2 := 20) rfl dX12_end_19 0 rfl ?_
      refine EW_iload_n (pc2 := 21) rfl dX12_end_20 1 rfl ?_
      refine AW_puti ⟨gfRX12_414, rfl, rfl⟩ (pc2 := 24) rfl dX12_end_21 q246 ?_
      refine EW_iconst (pc2 := 25) (v := 1) rfl dX12_end_24 (by decide) ?_
      exact AW_zret rfl isB1 dX12_end_25 ⟨_, _, rfl, rfl, h⟩
    · replace h := h.2 q
      refine EW_iconst (pc2 := 18) (v := 0) rfl dX12_end_17 (by decide) ?_
      exact AW_zret rfl isB0 dX12_end_18 ⟨_, _, rfl, rfl, h⟩
abbrev MX12_failing : ab_M := (yX12_failing, cX12_failing, 3, (some .int))
theorem dX12_failing_0 : decode cX12_failing 0 = .ok (.aload_n 0, 1) := by decide +kernel
theorem dX12_failing_1 : decode cX12_failing 1 = .ok (.iconst 0, 1) := by decide +kernel
theorem dX12_failing_2 : decode cX12_failing 2 = .ok (.putfield 297, 3) := by decide +kernel
theorem dX12_failing_5 : decode cX12_failing 5 = .ok (.iconst 0, 1) := by decide +kernel
theorem dX12_failing_6 : decode cX12_failing 6 = .ok (.istore_n 1, 1) := by decide +kernel
theorem dX12_failing_7 : decode cX12_failing 7 = .ok (.iconst 0, 1) := by decide +kernel
theorem dX12_failing_8 : decode cX12_failing 8 = .ok (.istore_n 2, 1) := by decide +kernel
theorem dX12_failing_9 : decode cX12_failing 9 = .ok (.iload_n 2, 1) := by decide +kernel
theorem dX12_failing_10 : decode cX12_failing 10 = .ok (.aload_n 0, 1) := by decide +kernel
theorem dX12_failing_11 : decode cX12_failing 11 = .ok (.getfield 331, 3) := by decide +kernel
theorem dX12_failing_14 : decode cX12_failing 14 = .ok (.if_icmp .ge 31, 3) := by decide +kernel
theorem dX12_failing_17 : decode cX12_failing 17 = .ok (.iload_n 1, 1) := by decide +kernel
theorem dX12_failing_18 : decode cX12_failing 18 = .ok (.aload_n 0, 1) := by decide +kernel
theorem dX12_failing_19 : decode cX12_failing 19 = .ok (.iload_n 2, 1) := by decide +kernel
theorem dX12_failing_20 : decode cX12_failing 20 = .ok (.aload_n 0, 1) := by decide +kernel
theorem dX12_failing_21 : decode cX12_failing 21 = .ok (.getfield 395, 3) := by decide +kernel
theorem dX12_failing_24 : decode cX12_failing 24 = .ok (.invokevirtual 608, 3) := by decide +kernel
theorem dX12_failing_27 : decode cX12_failing 27 = .ok (.ifCond .le 9, 3) := by decide +kernel
theorem dX12_failing_30 : decode cX12_failing 30 = .ok (.iconst 1, 1) := by decide +kernel
theorem dX12_failing_31 : decode cX12_failing 31 = .ok (.iload_n 2, 1) := by decide +kernel
theorem dX12_failing_32 : decode cX12_failing 32 = .ok (.ishl, 1) := by decide +kernel
theorem dX12_failing_33 : decode cX12_failing 33 = .ok (.goto 4, 3) := by decide +kernel
theorem dX12_failing_36 : decode cX12_failing 36 = .ok (.iconst 0, 1) := by decide +kernel
theorem dX12_failing_37 : decode cX12_failing 37 = .ok (.ior, 1) := by decide +kernel
theorem dX12_failing_38 : decode cX12_failing 38 = .ok (.istore_n 1, 1) := by decide +kernel
theorem dX12_failing_39 : decode cX12_failing 39 = .ok (.iinc 2 1, 3) := by decide +kernel
theorem dX12_failing_42 : decode cX12_failing 42 = .ok (.goto (-33), 3) := by decide +kernel
theorem dX12_failing_45 : decode cX12_failing 45 = .ok (.iload_n 1, 1) := by decide +kernel
theorem dX12_failing_46 : decode cX12_failing 46 = .ok (.ireturn, 1) := by decide +kernel
theorem okX12_failing : ab_okM MX12_failing 0 := ⟨by decide, ⟨by decide, by decide⟩, ab_in 2658 (by decide +kernel) (by decide +kernel), ab_in 99 (by decide +kernel) (by decide +kernel), by decide +kernel, by decide⟩
set_option maxHeartbeats 4000000 in
set_option maxRecDepth 100000 in
def wX12_failing_37 (v2 : Int32) (s0 : Int32) (s1 : Int32) (x : ab_X) (K : Int32 → ab_X → Prop) (L9 : Int32 → Int32 → ab_X → Prop) : Prop := L9 (s0 ||| s1) (v2 + 1) x
set_option maxHeartbeats 4000000 in
set_option maxRecDepth 100000 in
theorem sX12_failing_37 (v2 : Int32) (s0 : Int32) (s1 : Int32)  (x : ab_X) (K : Int32 → ab_X → Prop) (L9 : Int32 → Int32 → ab_X → Prop) (d bc bs : Nat) (hdp : 211 ≤ d) (hL9 : ∀ (v1 : Int32) (v2 : Int32) (x : ab_X), L9 v1 v2 x → EW MX12_failing 9 [(0, .ref 246), (1, .int v1), (2, .int v2)] [] (aS x) d bc bs (liI K)) (h : wX12_failing_37 v2 s0 s1 x K L9) : EW MX12_failing 37 [(0, .ref 246), (2, .int v2)] [.int s1, .int s0] (aS x) d bc bs (liI K) := by
  unfold wX12_failing_37 at h
  refine EW_ior (pc2 := 38) rfl dX12_failing_37 ?_
  refine EW_istore_n (pc2 := 39) rfl dX12_failing_38 (by decide) [1, 0, 2] [(0, .ref 246), (1, .int (s0 ||| s1)), (2, .int v2)] rfl ?_
  refine EW_iinc (v2 + 1) (pc2 := 42) rfl dX12_failing_39 2 rfl rfl (by decide) [1, 2, 0] [(0, .ref 246), (1, .int (s0 ||| s1)), (2, .int (v2 + 1))] rfl ?_
  refine EW_goto (tgt := 9) dX12_failing_42 (by decide) ?_
  exact hL9 (s0 ||| s1) (v2 + 1) x h
set_option maxHeartbeats 4000000 in
set_option maxRecDepth 100000 in
def lX12_failing_9  (K : Int32 → ab_X → Prop)  (L9 : Int32 → Int32 → ab_X → Prop) (v1 : Int32) (v2 : Int32) (x : ab_X) : Prop := (((x.1 246 31) ≤ v2 → K v1 x) ∧ (¬ (x.1 246 31) ≤ v2 → wX12_failsBy v2 (x.1 246 1) x (fun r1 x2 => ((r1 ≤ 0 → wX12_failing_37 v2 v1 0 x2 K L9) ∧ (¬ r1 ≤ 0 → wX12_failing_37 v2 v1 (1 <<< (v2 &&& 31)) x2 K L9)))))
set_option maxHeartbeats 4000000 in
set_option maxRecDepth 100000 in
theorem sX12_failing_9 (v1 : Int32) (v2 : Int32)  (x : ab_X) (K : Int32 → ab_X → Prop)  (d bc bs : Nat) (hdp : 211 ≤ d)  (h : Lp3 (lX12_failing_9  K ) v1 v2 x) : EW MX12_failing 9 [(0, .ref 246), (1, .int v1), (2, .int v2)] [] (aS x) d bc bs (liI K) := by
  refine Lp3.use (P := fun v1 v2 x => EW MX12_failing 9 [(0, .ref 246), (1, .int v1), (2, .int v2)] [] (aS x) d bc bs (liI K)) (fun L9 v1 v2 x hL9 h => ?_) v1 v2 x h
  unfold lX12_failing_9 at h
  refine EW_iload_n (pc2 := 10) rfl dX12_failing_9 2 rfl ?_
  refine EW_aload_n (pc2 := 11) rfl dX12_failing_10 0 rfl ?_
  refine AW_geti ⟨gfRX12_331, rfl⟩ (pc2 := 14) rfl dX12_failing_11 q246 ?_
  refine EW_icmp_ge (tgt := 45) (pc2 := 17) rfl dX12_failing_14 (by decide) (fun q => ?_) (fun q => ?_)
  · replace h := h.1 q
    refine EW_iload_n (pc2 := 46) rfl dX12_failing_45 1 rfl ?_
    exact AW_iret rfl dX12_failing_46 ⟨_, _, rfl, rfl, h⟩
  · replace h := h.2 q
    refine EW_iload_n (pc2 := 18) rfl dX12_failing_17 1 rfl ?_
    refine EW_aload_n (pc2 := 19) rfl dX12_failing_18 0 rfl ?_
    refine EW_iload_n (pc2 := 20) rfl dX12_failing_19 2 rfl ?_
    refine EW_aload_n (pc2 := 21) rfl dX12_failing_20 0 rfl ?_
    refine AW_geti ⟨gfRX12_395, rfl⟩ (pc2 := 24) rfl dX12_failing_21 q246 ?_
    refine AW_invV (M' := MX12_failsBy) [.int v2, .int (x.1 246 1)] (rest := [.int v1]) mlRX12_608 okX12_failsBy (pc2 := 27) rfl dX12_failing_24 rfl rfl (Nat.le_of_ble_eq_true rfl) (Nat.le_of_ble_eq_true rfl) (d' := 210) (by omega) q246 ⟨by decide, rfl⟩ (EW_mono (fun _ _ hr => ?_) (sX12_failsBy v2 (x.1 246 1)  x _ _ 0 0 (Nat.le_refl _) h))
    obtain ⟨r1, x2, rfl, rfl, h⟩ := hr
    refine EW_if_le (tgt := 36) (pc2 := 30) rfl dX12_failing_27 (by decide) (fun q => ?_) (fun q => ?_)
    · replace h := h.1 q
      refine EW_iconst (pc2 := 37) (v := 0) rfl dX12_failing_36 (by decide) ?_
      refine EW_ls [0, 2] rfl ?_
      exact sX12_failing_37 v2 v1 0 x2 K L9 d bc bs hdp hL9 h
    · replace h := h.2 q
      refine EW_iconst (pc2 := 31) (v := 1) rfl dX12_failing_30 (by decide) ?_
      refine EW_iload_n (pc2 := 32) rfl dX12_failing_31 2 rfl ?_
      refine EW_ishl (pc2 := 33) rfl dX12_failing_32 ?_
      refine EW_goto (tgt := 37) dX12_failing_33 (by decide) ?_
      refine EW_ls [0, 2] rfl ?_
      exact sX12_failing_37 v2 v1 (1 <<< (v2 &&& 31)) x2 K L9 d bc bs hdp hL9 h
set_option maxHeartbeats 4000000 in
set_option maxRecDepth 100000 in
def wX12_failing  (x : ab_X) (K : Int32 → ab_X → Prop) : Prop := Lp3 (lX12_failing_9 K ) 0 0 (wr x 246 0 0)
set_option maxHeartbeats 4000000 in
set_option maxRecDepth 100000 in
theorem sX12_failing   (x : ab_X) (K : Int32 → ab_X → Prop) (d bc bs : Nat) (hdp : 211 ≤ d) (h : wX12_failing  x K) : EW MX12_failing 0 [(0, .ref 246)] [] (aS x) d bc bs (liI K) := by
  unfold wX12_failing at h
  refine EW_aload_n (pc2 := 1) rfl dX12_failing_0 0 rfl ?_
  refine EW_iconst (pc2 := 2) (v := 0) rfl dX12_failing_1 (by decide) ?_
  refine AW_puti ⟨gfRX12_297, rfl, rfl⟩ (pc2 := 5) rfl dX12_failing_2 q246 ?_
  refine EW_iconst (pc2 := 6) (v := 0) rfl dX12_failing_5 (by decide) ?_
  refine EW_istore_n (pc2 := 7) rfl dX12_failing_6 (by decide) [1, 0] [(0, .ref 246), (1, .int 0)] rfl ?_
  refine EW_iconst (pc2 := 8) (v := 0) rfl dX12_failing_7 (by decide) ?_
  refine EW_istore_n (pc2 := 9) rfl dX12_failing_8 (by decide) [1, 2, 0] [(0, .ref 246), (1, .int 0), (2, .int 0)] rfl ?_
  exact sX12_failing_9 0 0 (wr x 246 0 0) K d bc bs hdp h
abbrev MX12_fails : ab_M := (yX12_fails, cX12_fails, 3, (some .int))
theorem dX12_fails_0 : decode cX12_fails 0 = .ok (.aload_n 0, 1) := by decide +kernel
theorem dX12_fails_1 : decode cX12_fails 1 = .ok (.iconst 0, 1) := by decide +kernel
theorem dX12_fails_2 : decode cX12_fails 2 = .ok (.putfield 297, 3) := by decide +kernel
theorem dX12_fails_5 : decode cX12_fails 5 = .ok (.aload_n 0, 1) := by decide +kernel
theorem dX12_fails_6 : decode cX12_fails 6 = .ok (.iload_n 1, 1) := by decide +kernel
theorem dX12_fails_7 : decode cX12_fails 7 = .ok (.invokevirtual 334, 3) := by decide +kernel
theorem dX12_fails_10 : decode cX12_fails 10 = .ok (.ifCond .eq 24, 3) := by decide +kernel
theorem dX12_fails_13 : decode cX12_fails 13 = .ok (.iload_n 2, 1) := by decide +kernel
theorem dX12_fails_14 : decode cX12_fails 14 = .ok (.iconst 0, 1) := by decide +kernel
theorem dX12_fails_15 : decode cX12_fails 15 = .ok (.aload_n 0, 1) := by decide +kernel
theorem dX12_fails_16 : decode cX12_fails 16 = .ok (.getfield 395, 3) := by decide +kernel
theorem dX12_fails_19 : decode cX12_fails 19 = .ok (.invokestatic 307, 3) := by decide +kernel
theorem dX12_fails_22 : decode cX12_fails 22 = .ok (.ifCond .eq 12, 3) := by decide +kernel
theorem dX12_fails_25 : decode cX12_fails 25 = .ok (.aload_n 0, 1) := by decide +kernel
theorem dX12_fails_26 : decode cX12_fails 26 = .ok (.iload_n 1, 1) := by decide +kernel
theorem dX12_fails_27 : decode cX12_fails 27 = .ok (.iload_n 2, 1) := by decide +kernel
theorem dX12_fails_28 : decode cX12_fails 28 = .ok (.invokevirtual 608, 3) := by decide +kernel
theorem dX12_fails_31 : decode cX12_fails 31 = .ok (.goto 4, 3) := by decide +kernel
theorem dX12_fails_34 : decode cX12_fails 34 = .ok (.iconst (-1), 1) := by decide +kernel
theorem dX12_fails_35 : decode cX12_fails 35 = .ok (.ireturn, 1) := by decide +kernel
theorem okX12_fails : ab_okM MX12_fails 2 := ⟨by decide, ⟨by decide, by decide⟩, ab_in 2642 (by decide +kernel) (by decide +kernel), ab_in 99 (by decide +kernel) (by decide +kernel), by decide +kernel, by decide⟩
set_option maxHeartbeats 4000000 in
set_option maxRecDepth 100000 in
def wX12_fails (v1 : Int32) (v2 : Int32) (x : ab_X) (K : Int32 → ab_X → Prop) : Prop := wX12_isHouse v1 (wr x 246 0 0) (fun r1 => ((r1 = 0 → K (-1) (wr x 246 0 0)) ∧ (¬ r1 = 0 → wX12_isIn v2 0 ((wr x 246 0 0).1 246 1) (wr x 246 0 0) (fun r2 => ((r2 = 0 → K (-1) (wr x 246 0 0)) ∧ (¬ r2 = 0 → wX12_failsBy v1 v2 (wr x 246 0 0) (fun r3 x4 => K r3 x4)))))))
set_option maxHeartbeats 4000000 in
set_option maxRecDepth 100000 in
theorem sX12_fails (v1 : Int32) (v2 : Int32)  (x : ab_X) (K : Int32 → ab_X → Prop) (d bc bs : Nat) (hdp : 211 ≤ d) (h : wX12_fails v1 v2 x K) : EW MX12_fails 0 [(0, .ref 246), (1, .int v1), (2, .int v2)] [] (aS x) d bc bs (liI K) := by
  unfold wX12_fails at h
  refine EW_aload_n (pc2 := 1) rfl dX12_fails_0 0 rfl ?_
  refine EW_iconst (pc2 := 2) (v := 0) rfl dX12_fails_1 (by decide) ?_
  refine AW_puti ⟨gfRX12_297, rfl, rfl⟩ (pc2 := 5) rfl dX12_fails_2 q246 ?_
  refine EW_aload_n (pc2 := 6) rfl dX12_fails_5 0 rfl ?_
  refine EW_iload_n (pc2 := 7) rfl dX12_fails_6 1 rfl ?_
  refine AW_invV (M' := MX12_isHouse) [.int v1] (rest := []) mlRX12_334 okX12_isHouse (pc2 := 10) rfl dX12_fails_7 rfl rfl (Nat.le_of_ble_eq_true rfl) (Nat.le_of_ble_eq_true rfl) (d' := 0) (by omega) q246 ⟨by decide, rfl⟩ (EW_mono (fun _ _ hr => ?_) (sX12_isHouse v1  (wr x 246 0 0) _ _ 0 0 (Nat.le_refl _) h))
  obtain ⟨r1, rfl, rfl, h⟩ := hr
  refine EW_if_eq (tgt := 34) (pc2 := 13) rfl dX12_fails_10 (by decide) (fun q => ?_) (fun q => ?_)
  · replace h := h.1 q
    refine EW_iconst (pc2 := 35) (v := (-1)) rfl dX12_fails_34 (by decide) ?_
    exact AW_iret rfl dX12_fails_35 ⟨_, _, rfl, rfl, h⟩
  · replace h := h.2 q
    refine EW_iload_n (pc2 := 14) rfl dX12_fails_13 2 rfl ?_
    refine EW_iconst (pc2 := 15) (v := 0) rfl dX12_fails_14 (by decide) ?_
    refine EW_aload_n (pc2 := 16) rfl dX12_fails_15 0 rfl ?_
    refine AW_geti ⟨gfRX12_395, rfl⟩ (pc2 := 19) rfl dX12_fails_16 q246 ?_
    refine AW_invS (M' := MX12_isIn) [.int v2, .int 0, .int ((wr x 246 0 0).1 246 1)] (rest := []) mlRX12_307 okX12_isIn (pc2 := 22) rfl dX12_fails_19 rfl rfl (Nat.le_of_ble_eq_true rfl) (Nat.le_of_ble_eq_true rfl) (d' := 0) (by omega) (EW_mono (fun _ _ hr => ?_) (sX12_isIn v2 0 ((wr x 246 0 0).1 246 1)  (wr x 246 0 0) _ _ 0 0 (Nat.le_refl _) h))
    obtain ⟨r2, rfl, rfl, h⟩ := hr
    refine EW_if_eq (tgt := 34) (pc2 := 25) rfl dX12_fails_22 (by decide) (fun q => ?_) (fun q => ?_)
    · replace h := h.1 q
      refine EW_iconst (pc2 := 35) (v := (-1)) rfl dX12_fails_34 (by decide) ?_
      exact AW_iret rfl dX12_fails_35 ⟨_, _, rfl, rfl, h⟩
    · replace h := h.2 q
      refine EW_aload_n (pc2 := 26) rfl dX12_fails_25 0 rfl ?_
      refine EW_iload_n (pc2 := 27) rfl dX12_fails_26 1 rfl ?_
      refine EW_iload_n (pc2 := 28) rfl dX12_fails_27 2 rfl ?_
      refine AW_invV (M' := MX12_failsBy) [.int v1, .int v2] (rest := []) mlRX12_608 okX12_failsBy (pc2 := 31) rfl dX12_fails_28 rfl rfl (Nat.le_of_ble_eq_true rfl) (Nat.le_of_ble_eq_true rfl) (d' := 210) (by omega) q246 ⟨by decide, rfl⟩ (EW_mono (fun _ _ hr => ?_) (sX12_failsBy v1 v2  (wr x 246 0 0) _ _ 0 0 (Nat.le_refl _) h))
      obtain ⟨r3, x4, rfl, rfl, h⟩ := hr
      refine EW_goto (tgt := 35) dX12_fails_31 (by decide) ?_
      exact AW_iret rfl dX12_fails_35 ⟨_, _, rfl, rfl, h⟩
abbrev MX12_falses : ab_M := (yX12_falses, cX12_falses, 3, (some .int))
theorem dX12_falses_0 : decode cX12_falses 0 = .ok (.aload_n 0, 1) := by decide +kernel
theorem dX12_falses_1 : decode cX12_falses 1 = .ok (.iconst 0, 1) := by decide +kernel
theorem dX12_falses_2 : decode cX12_falses 2 = .ok (.putfield 297, 3) := by decide +kernel
theorem dX12_falses_5 : decode cX12_falses 5 = .ok (.iload_n 1, 1) := by decide +kernel
theorem dX12_falses_6 : decode cX12_falses 6 = .ok (.invokestatic 303, 3) := by decide +kernel
theorem dX12_falses_9 : decode cX12_falses 9 = .ok (.ifCond .eq 21, 3) := by decide +kernel
theorem dX12_falses_12 : decode cX12_falses 12 = .ok (.iload_n 2, 1) := by decide +kernel
theorem dX12_falses_13 : decode cX12_falses 13 = .ok (.iconst 0, 1) := by decide +kernel
theorem dX12_falses_14 : decode cX12_falses 14 = .ok (.iconst 3, 1) := by decide +kernel
theorem dX12_falses_15 : decode cX12_falses 15 = .ok (.invokestatic 307, 3) := by decide +kernel
theorem dX12_falses_18 : decode cX12_falses 18 = .ok (.ifCond .eq 12, 3) := by decide +kernel
theorem dX12_falses_21 : decode cX12_falses 21 = .ok (.aload_n 0, 1) := by decide +kernel
theorem dX12_falses_22 : decode cX12_falses 22 = .ok (.iload_n 1, 1) := by decide +kernel
theorem dX12_falses_23 : decode cX12_falses 23 = .ok (.iload_n 2, 1) := by decide +kernel
theorem dX12_falses_24 : decode cX12_falses 24 = .ok (.invokevirtual 534, 3) := by decide +kernel
theorem dX12_falses_27 : decode cX12_falses 27 = .ok (.goto 4, 3) := by decide +kernel
theorem dX12_falses_30 : decode cX12_falses 30 = .ok (.iconst (-1), 1) := by decide +kernel
theorem dX12_falses_31 : decode cX12_falses 31 = .ok (.ireturn, 1) := by decide +kernel
theorem okX12_falses : ab_okM MX12_falses 2 := ⟨by decide, ⟨by decide, by decide⟩, ab_in 2494 (by decide +kernel) (by decide +kernel), ab_in 99 (by decide +kernel) (by decide +kernel), by decide +kernel, by decide⟩
set_option maxHeartbeats 4000000 in
set_option maxRecDepth 100000 in
def wX12_falses (v1 : Int32) (v2 : Int32) (x : ab_X) (K : Int32 → ab_X → Prop) : Prop := wX12_isCorner v1 (wr x 246 0 0) (fun r1 => ((r1 = 0 → K (-1) (wr x 246 0 0)) ∧ (¬ r1 = 0 → wX12_isIn v2 0 3 (wr x 246 0 0) (fun r2 => ((r2 = 0 → K (-1) (wr x 246 0 0)) ∧ (¬ r2 = 0 → wX12_falseOf v1 v2 (wr x 246 0 0) (fun r3 => K r3 (wr x 246 0 0))))))))
set_option maxHeartbeats 4000000 in
set_option maxRecDepth 100000 in
theorem sX12_falses (v1 : Int32) (v2 : Int32)  (x : ab_X) (K : Int32 → ab_X → Prop) (d bc bs : Nat) (hdp : 2 ≤ d) (h : wX12_falses v1 v2 x K) : EW MX12_falses 0 [(0, .ref 246), (1, .int v1), (2, .int v2)] [] (aS x) d bc bs (liI K) := by
  unfold wX12_falses at h
  refine EW_aload_n (pc2 := 1) rfl dX12_falses_0 0 rfl ?_
  refine EW_iconst (pc2 := 2) (v := 0) rfl dX12_falses_1 (by decide) ?_
  refine AW_puti ⟨gfRX12_297, rfl, rfl⟩ (pc2 := 5) rfl dX12_falses_2 q246 ?_
  refine EW_iload_n (pc2 := 6) rfl dX12_falses_5 1 rfl ?_
  refine AW_invS (M' := MX12_isCorner) [.int v1] (rest := []) mlRX12_303 okX12_isCorner (pc2 := 9) rfl dX12_falses_6 rfl rfl (Nat.le_of_ble_eq_true rfl) (Nat.le_of_ble_eq_true rfl) (d' := 0) (by omega) (EW_mono (fun _ _ hr => ?_) (sX12_isCorner v1  (wr x 246 0 0) _ _ 0 0 (Nat.le_refl _) h))
  obtain ⟨r1, rfl, rfl, h⟩ := hr
  refine EW_if_eq (tgt := 30) (pc2 := 12) rfl dX12_falses_9 (by decide) (fun q => ?_) (fun q => ?_)
  · replace h := h.1 q
    refine EW_iconst (pc2 := 31) (v := (-1)) rfl dX12_falses_30 (by decide) ?_
    exact AW_iret rfl dX12_falses_31 ⟨_, _, rfl, rfl, h⟩
  · replace h := h.2 q
    refine EW_iload_n (pc2 := 13) rfl dX12_falses_12 2 rfl ?_
    refine EW_iconst (pc2 := 14) (v := 0) rfl dX12_falses_13 (by decide) ?_
    refine EW_iconst (pc2 := 15) (v := 3) rfl dX12_falses_14 (by decide) ?_
    refine AW_invS (M' := MX12_isIn) [.int v2, .int 0, .int 3] (rest := []) mlRX12_307 okX12_isIn (pc2 := 18) rfl dX12_falses_15 rfl rfl (Nat.le_of_ble_eq_true rfl) (Nat.le_of_ble_eq_true rfl) (d' := 0) (by omega) (EW_mono (fun _ _ hr => ?_) (sX12_isIn v2 0 3  (wr x 246 0 0) _ _ 0 0 (Nat.le_refl _) h))
    obtain ⟨r2, rfl, rfl, h⟩ := hr
    refine EW_if_eq (tgt := 30) (pc2 := 21) rfl dX12_falses_18 (by decide) (fun q => ?_) (fun q => ?_)
    · replace h := h.1 q
      refine EW_iconst (pc2 := 31) (v := (-1)) rfl dX12_falses_30 (by decide) ?_
      exact AW_iret rfl dX12_falses_31 ⟨_, _, rfl, rfl, h⟩
    · replace h := h.2 q
      refine EW_aload_n (pc2 := 22) rfl dX12_falses_21 0 rfl ?_
      refine EW_iload_n (pc2 := 23) rfl dX12_falses_22 1 rfl ?_
      refine EW_iload_n (pc2 := 24) rfl dX12_falses_23 2 rfl ?_
      refine AW_invV (M' := MX12_falseOf) [.int v1, .int v2] (rest := []) mlRX12_534 okX12_falseOf (pc2 := 27) rfl dX12_falses_24 rfl rfl (Nat.le_of_ble_eq_true rfl) (Nat.le_of_ble_eq_true rfl) (d' := 1) (by omega) q246 ⟨by decide, rfl⟩ (EW_mono (fun _ _ hr => ?_) (sX12_falseOf v1 v2  (wr x 246 0 0) _ _ 0 0 (Nat.le_refl _) h))
      obtain ⟨r3, rfl, rfl, h⟩ := hr
      refine EW_goto (tgt := 31) dX12_falses_27 (by decide) ?_
      exact AW_iret rfl dX12_falses_31 ⟨_, _, rfl, rfl, h⟩
abbrev MX12_put4 : ab_M := (yX12_put4, cX12_put4, 3, none)
theorem dX12_put4_0 : decode cX12_put4 0 = .ok (.bipush 24, 2) := by decide +kernel
theorem dX12_put4_2 : decode cX12_put4 2 = .ok (.istore_n 2, 1) := by decide +kernel
theorem dX12_put4_3 : decode cX12_put4 3 = .ok (.iload_n 2, 1) := by decide +kernel
theorem dX12_put4_4 : decode cX12_put4 4 = .ok (.ifCond .lt 45, 3) := by decide +kernel
theorem dX12_put4_7 : decode cX12_put4 7 = .ok (.iload_n 1, 1) := by decide +kernel
theorem dX12_put4_8 : decode cX12_put4 8 = .ok (.iload_n 2, 1) := by decide +kernel
theorem dX12_put4_9 : decode cX12_put4 9 = .ok (.ishr, 1) := by decide +kernel
theorem dX12_put4_10 : decode cX12_put4 10 = .ok (.sipush 255, 3) := by decide +kernel
theorem dX12_put4_13 : decode cX12_put4 13 = .ok (.iand, 1) := by decide +kernel
theorem dX12_put4_14 : decode cX12_put4 14 = .ok (.ifCond .ne 6, 3) := by decide +kernel
theorem dX12_put4_17 : decode cX12_put4 17 = .ok (.goto 26, 3) := by decide +kernel
theorem dX12_put4_20 : decode cX12_put4 20 = .ok (.aload_n 0, 1) := by decide +kernel
theorem dX12_put4_21 : decode cX12_put4 21 = .ok (.getfield 167, 3) := by decide +kernel
theorem dX12_put4_24 : decode cX12_put4 24 = .ok (.aload_n 0, 1) := by decide +kernel
theorem dX12_put4_25 : decode cX12_put4 25 = .ok (.getfield 414, 3) := by decide +kernel
theorem dX12_put4_28 : decode cX12_put4 28 = .ok (.iload_n 1, 1) := by decide +kernel
theorem dX12_put4_29 : decode cX12_put4 29 = .ok (.iload_n 2, 1) := by decide +kernel
theorem dX12_put4_30 : decode cX12_put4 30 = .ok (.ishr, 1) := by decide +kernel
theorem dX12_put4_31 : decode cX12_put4 31 = .ok (.i2b, 1) := by decide +kernel
theorem dX12_put4_32 : decode cX12_put4 32 = .ok (.bastore, 1) := by decide +kernel
theorem dX12_put4_33 : decode cX12_put4 33 = .ok (.aload_n 0, 1) := by decide +kernel
theorem dX12_put4_34 : decode cX12_put4 34 = .ok (.dup, 1) := by decide +kernel
theorem dX12_put4_35 : decode cX12_put4 35 = .ok (.getfield 414, 3) := by decide +kernel
theorem dX12_put4_38 : decode cX12_put4 38 = .ok (.iconst 1, 1) := by decide +kernel
theorem dX12_put4_39 : decode cX12_put4 39 = .ok (.iadd, 1) := by decide +kernel
theorem dX12_put4_40 : decode cX12_put4 40 = .ok (.putfield 414, 3) := by decide +kernel
theorem dX12_put4_43 : decode cX12_put4 43 = .ok (.iinc 2 (-8), 3) := by decide +kernel
theorem dX12_put4_46 : decode cX12_put4 46 = .ok (.goto (-43), 3) := by decide +kernel
theorem dX12_put4_49 : decode cX12_put4 49 = .ok (.return_, 1) := by decide +kernel
theorem okX12_put4 : ab_okM MX12_put4 1 := ⟨by decide, ⟨by decide, by decide⟩, ab_in 2399 (by decide +kernel) (by decide +kernel), ab_in 99 (by decide +kernel) (by decide +kernel), by decide +kernel, by decide⟩
set_option maxHeartbeats 4000000 in
set_option maxRecDepth 100000 in
def lX12_put4_3 (v1 : Int32) (K : ab_X → Prop)  (L3 : Int32 → ab_X → Prop) (v2 : Int32) (x : ab_X) : Prop := ((v2 < 0 → K x) ∧ (¬ v2 < 0 → ((¬ ((v1 >>> (v2 &&& 31)) &&& 255) = 0 → (vp_in (x.1 246 70) 200 ∧ L3 (v2 + (-8)) (wr (wr x 299 (Int32.toNatClampNeg (x.1 246 70)) (vp_nar .byte ((v1 >>> (v2 &&& 31))).toInt8.toInt32)) 246 70 (((wr x 299 (Int32.toNatClampNeg (x.1 246 70)) (vp_nar .byte ((v1 >>> (v2 &&& 31))).toInt8.toInt32)).1 246 70) + 1)))) ∧ (((v1 >>> (v2 &&& 31)) &&& 255) = 0 → L3 (v2 + (-8)) x))))
set_option maxHeartbeats 4000000 in
set_option maxRecDepth 100000 in
theorem sX12_put4_3 (v1 : Int32) (v2 : Int32)  (x : ab_X) (K : ab_X → Prop)  (d bc bs : Nat) (hdp : 0 ≤ d)  (h : Lp2 (lX12_put4_3 v1 K ) v2 x) : EW MX12_put4 3 [(0, .ref 246), (1, .int v1), (2, .int v2)] [] (aS x) d bc bs (liV K) := by
  refine Lp2.use (P := fun v2 x => EW MX12_put4 3 [(0, .ref 246), (1, .int v1), (2, .int v2)] [] (aS x) d bc bs (liV K)) (fun L3 v2 x hL3 h => ?_) v2 x h
  unfold lX12_put4_3 at h
  refine EW_iload_n (pc2 := 4) rfl dX12_put4_3 2 rfl ?_
  refine EW_if_lt (tgt := 49) (pc2 := 7) rfl dX12_put4_4 (by decide) (fun q => ?_) (fun q => ?_)
  · replace h := h.1 q
    exact EW_vret rfl dX12_put4_49 ⟨_, rfl, rfl, h⟩
  · replace h := h.2 q
    refine EW_iload_n (pc2 := 8) rfl dX12_put4_7 1 rfl ?_
    refine EW_iload_n (pc2 := 9) rfl dX12_put4_8 2 rfl ?_
    refine EW_ishr (pc2 := 10) rfl dX12_put4_9 ?_
    refine EW_sipush (pc2 := 13) (v := 255) rfl dX12_put4_10 (by decide) ?_
    refine EW_iand (pc2 := 14) rfl dX12_put4_13 ?_
    refine EW_if_ne (tgt := 20) (pc2 := 17) rfl dX12_put4_14 (by decide) (fun q => ?_) (fun q => ?_)
    · replace h := h.1 q
      refine EW_aload_n (pc2 := 21) rfl dX12_put4_20 0 rfl ?_
      refine AW_getr (r := 299) ⟨gfRX12_167, rfl⟩ (pc2 := 24) rfl dX12_put4_21 q246 rfl ?_
      refine EW_aload_n (pc2 := 25) rfl dX12_put4_24 0 rfl ?_
      refine AW_geti ⟨gfRX12_414, rfl⟩ (pc2 := 28) rfl dX12_put4_25 q246 ?_
      refine EW_iload_n (pc2 := 29) rfl dX12_put4_28 1 rfl ?_
      refine EW_iload_n (pc2 := 30) rfl dX12_put4_29 2 rfl ?_
      refine EW_ishr (pc2 := 31) rfl dX12_put4_30 ?_
      refine EW_i2b (pc2 := 32) (v := ((v1 >>> (v2 &&& 31))).toInt8.toInt32) rfl dX12_put4_31 rfl ?_
      obtain ⟨b1, h⟩ := h
      refine AW_bast (pc2 := 33) rfl dX12_put4_32 q299 b1 ?_
      refine EW_aload_n (pc2 := 34) rfl dX12_put4_33 0 rfl ?_
      refine EW_dup (pc2 := 35) rfl dX12_put4_34 rfl ?_
      refine AW_geti ⟨gfRX12_414, rfl⟩ (pc2 := 38) rfl dX12_put4_35 q246 ?_
      refine EW_iconst (pc2 := 39) (v := 1) rfl dX12_put4_38 (by decide) ?_
      refine EW_iadd (pc2 := 40) rfl dX12_put4_39 ?_
      refine AW_puti ⟨gfRX12_414, rfl, rfl⟩ (pc2 := 43) rfl dX12_put4_40 q246 ?_
      refine EW_iinc (v2 + (-8)) (pc2 := 46) rfl dX12_put4_43 2 rfl rfl (by decide) [1, 2, 0] [(0, .ref 246), (1, .int v1), (2, .int (v2 + (-8)))] rfl ?_
      refine EW_goto (tgt := 3) dX12_put4_46 (by decide) ?_
      exact hL3 (v2 + (-8)) (wr (wr x 299 (Int32.toNatClampNeg (x.1 246 70)) (vp_nar .byte ((v1 >>> (v2 &&& 31))).toInt8.toInt32)) 246 70 (((wr x 299 (Int32.toNatClampNeg (x.1 246 70)) (vp_nar .byte ((v1 >>> (v2 &&& 31))).toInt8.toInt32)).1 246 70) + 1)) h
    · replace h := h.2 q
      refine EW_goto (tgt := 43) dX12_put4_17 (by decide) ?_
      refine EW_iinc (v2 + (-8)) (pc2 := 46) rfl dX12_put4_43 2 rfl rfl (by decide) [1, 2, 0] [(0, .ref 246), (1, .int v1), (2, .int (v2 + (-8)))] rfl ?_
      refine EW_goto (tgt := 3) dX12_put4_46 (by decide) ?_
      exact hL3 (v2 + (-8)) x h
set_option maxHeartbeats 4000000 in
set_option maxRecDepth 100000 in
def wX12_put4 (v1 : Int32) (x : ab_X) (K : ab_X → Prop) : Prop := Lp2 (lX12_put4_3 v1 K ) 24 x
set_option maxHeartbeats 4000000 in
set_option maxRecDepth 100000 in
theorem sX12_put4 (v1 : Int32)  (x : ab_X) (K : ab_X → Prop) (d bc bs : Nat) (hdp : 0 ≤ d) (h : wX12_put4 v1 x K) : EW MX12_put4 0 [(0, .ref 246), (1, .int v1)] [] (aS x) d bc bs (liV K) := by
  unfold wX12_put4 at h
  refine EW_bipush (pc2 := 2) (v := 24) rfl dX12_put4_0 (by decide) ?_
  refine EW_istore_n (pc2 := 3) rfl dX12_put4_2 (by decide) [1, 2, 0] [(0, .ref 246), (1, .int v1), (2, .int 24)] rfl ?_
  exact sX12_put4_3 v1 24 x K d bc bs hdp h
