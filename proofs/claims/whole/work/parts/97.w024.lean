theorem mlRX12_363 : Cond.methodLink RX12 363 yX12_burntOf ∈ ab_G ∧ Cond.instanceMethod yX12_burntOf ∈ ab_G ∧ Cond.selects RX12 yX12_burntOf yX12_burntOf ∈ ab_G := ⟨ab_in 2329 (by decide +kernel) (by decide +kernel), ab_in 2331 (by decide +kernel) (by decide +kernel), ab_in 27 (by decide +kernel) (by decide +kernel)⟩
theorem gfRX12_62 : ab_L RX12 62 12 20 := ⟨by decide, by decide, ab_in 1869 (by decide +kernel) (by decide +kernel)⟩
abbrev MX12_housed : ab_M := (yX12_housed, cX12_housed, 5, (some .int))
theorem dX12_housed_0 : decode cX12_housed 0 = .ok (.aload_n 0, 1) := by decide +kernel
theorem dX12_housed_1 : decode cX12_housed 1 = .ok (.iconst 0, 1) := by decide +kernel
theorem dX12_housed_2 : decode cX12_housed 2 = .ok (.putfield 297, 3) := by decide +kernel
theorem dX12_housed_5 : decode cX12_housed 5 = .ok (.aload_n 0, 1) := by decide +kernel
theorem dX12_housed_6 : decode cX12_housed 6 = .ok (.iload_n 1, 1) := by decide +kernel
theorem dX12_housed_7 : decode cX12_housed 7 = .ok (.invokevirtual 334, 3) := by decide +kernel
theorem dX12_housed_10 : decode cX12_housed 10 = .ok (.ifCond .ne 5, 3) := by decide +kernel
theorem dX12_housed_13 : decode cX12_housed 13 = .ok (.iconst (-1), 1) := by decide +kernel
theorem dX12_housed_14 : decode cX12_housed 14 = .ok (.ireturn, 1) := by decide +kernel
theorem dX12_housed_15 : decode cX12_housed 15 = .ok (.iconst 0, 1) := by decide +kernel
theorem dX12_housed_16 : decode cX12_housed 16 = .ok (.istore_n 3, 1) := by decide +kernel
theorem dX12_housed_17 : decode cX12_housed 17 = .ok (.iload_n 2, 1) := by decide +kernel
theorem dX12_housed_18 : decode cX12_housed 18 = .ok (.tableswitch 170 0 6 #[42, 48, 54, 61, 68, 113, 163], 42) := by decide +kernel
theorem dX12_housed_60 : decode cX12_housed 60 = .ok (.aload_n 0, 1) := by decide +kernel
theorem dX12_housed_61 : decode cX12_housed 61 = .ok (.iload_n 1, 1) := by decide +kernel
theorem dX12_housed_62 : decode cX12_housed 62 = .ok (.invokevirtual 351, 3) := by decide +kernel
theorem dX12_housed_65 : decode cX12_housed 65 = .ok (.ireturn, 1) := by decide +kernel
theorem dX12_housed_66 : decode cX12_housed 66 = .ok (.aload_n 0, 1) := by decide +kernel
theorem dX12_housed_67 : decode cX12_housed 67 = .ok (.iload_n 1, 1) := by decide +kernel
theorem dX12_housed_68 : decode cX12_housed 68 = .ok (.invokevirtual 363, 3) := by decide +kernel
theorem dX12_housed_71 : decode cX12_housed 71 = .ok (.ireturn, 1) := by decide +kernel
theorem dX12_housed_72 : decode cX12_housed 72 = .ok (.aload_n 0, 1) := by decide +kernel
theorem dX12_housed_73 : decode cX12_housed 73 = .ok (.getfield 56, 3) := by decide +kernel
theorem dX12_housed_76 : decode cX12_housed 76 = .ok (.iload_n 1, 1) := by decide +kernel
theorem dX12_housed_77 : decode cX12_housed 77 = .ok (.iaload, 1) := by decide +kernel
theorem dX12_housed_78 : decode cX12_housed 78 = .ok (.ireturn, 1) := by decide +kernel
theorem dX12_housed_79 : decode cX12_housed 79 = .ok (.aload_n 0, 1) := by decide +kernel
theorem dX12_housed_80 : decode cX12_housed 80 = .ok (.getfield 59, 3) := by decide +kernel
theorem dX12_housed_83 : decode cX12_housed 83 = .ok (.iload_n 1, 1) := by decide +kernel
theorem dX12_housed_84 : decode cX12_housed 84 = .ok (.iaload, 1) := by decide +kernel
theorem dX12_housed_85 : decode cX12_housed 85 = .ok (.ireturn, 1) := by decide +kernel
theorem dX12_housed_86 : decode cX12_housed 86 = .ok (.iconst 0, 1) := by decide +kernel
theorem dX12_housed_87 : decode cX12_housed 87 = .ok (.istore 4, 2) := by decide +kernel
theorem dX12_housed_89 : decode cX12_housed 89 = .ok (.iload 4, 2) := by decide +kernel
theorem dX12_housed_91 : decode cX12_housed 91 = .ok (.aload_n 0, 1) := by decide +kernel
theorem dX12_housed_92 : decode cX12_housed 92 = .ok (.getfield 38, 3) := by decide +kernel
theorem dX12_housed_95 : decode cX12_housed 95 = .ok (.iload_n 1, 1) := by decide +kernel
theorem dX12_housed_96 : decode cX12_housed 96 = .ok (.iaload, 1) := by decide +kernel
theorem dX12_housed_97 : decode cX12_housed 97 = .ok (.if_icmp .ge 32, 3) := by decide +kernel
theorem dX12_housed_100 : decode cX12_housed 100 = .ok (.iload_n 3, 1) := by decide +kernel
theorem dX12_housed_101 : decode cX12_housed 101 = .ok (.aload_n 0, 1) := by decide +kernel
theorem dX12_housed_102 : decode cX12_housed 102 = .ok (.getfield 92, 3) := by decide +kernel
theorem dX12_housed_105 : decode cX12_housed 105 = .ok (.bipush 6, 2) := by decide +kernel
theorem dX12_housed_107 : decode cX12_housed 107 = .ok (.iload_n 1, 1) := by decide +kernel
theorem dX12_housed_108 : decode cX12_housed 108 = .ok (.imul, 1) := by decide +kernel
theorem dX12_housed_109 : decode cX12_housed 109 = .ok (.iload 4, 2) := by decide +kernel
theorem dX12_housed_111 : decode cX12_housed 111 = .ok (.iadd, 1) := by decide +kernel
theorem dX12_housed_112 : decode cX12_housed 112 = .ok (.baload, 1) := by decide +kernel
theorem dX12_housed_113 : decode cX12_housed 113 = .ok (.ifCond .eq 7, 3) := by decide +kernel
theorem dX12_housed_116 : decode cX12_housed 116 = .ok (.iconst 1, 1) := by decide +kernel
theorem dX12_housed_117 : decode cX12_housed 117 = .ok (.goto 4, 3) := by decide +kernel
theorem dX12_housed_120 : decode cX12_housed 120 = .ok (.iconst 0, 1) := by decide +kernel
theorem dX12_housed_121 : decode cX12_housed 121 = .ok (.iadd, 1) := by decide +kernel
theorem dX12_housed_122 : decode cX12_housed 122 = .ok (.istore_n 3, 1) := by decide +kernel
theorem dX12_housed_123 : decode cX12_housed 123 = .ok (.iinc 4 1, 3) := by decide +kernel
theorem dX12_housed_126 : decode cX12_housed 126 = .ok (.goto (-37), 3) := by decide +kernel
theorem dX12_housed_129 : decode cX12_housed 129 = .ok (.iload_n 3, 1) := by decide +kernel
theorem dX12_housed_130 : decode cX12_housed 130 = .ok (.ireturn, 1) := by decide +kernel
theorem dX12_housed_131 : decode cX12_housed 131 = .ok (.iconst 0, 1) := by decide +kernel
theorem dX12_housed_132 : decode cX12_housed 132 = .ok (.istore 4, 2) := by decide +kernel
theorem dX12_housed_134 : decode cX12_housed 134 = .ok (.iload 4, 2) := by decide +kernel
theorem dX12_housed_136 : decode cX12_housed 136 = .ok (.aload_n 0, 1) := by decide +kernel
theorem dX12_housed_137 : decode cX12_housed 137 = .ok (.getfield 366, 3) := by decide +kernel
theorem dX12_housed_140 : decode cX12_housed 140 = .ok (.if_icmp .ge 39, 3) := by decide +kernel
theorem dX12_housed_143 : decode cX12_housed 143 = .ok (.iload_n 3, 1) := by decide +kernel
theorem dX12_housed_144 : decode cX12_housed 144 = .ok (.aload_n 0, 1) := by decide +kernel
theorem dX12_housed_145 : decode cX12_housed 145 = .ok (.getfield 128, 3) := by decide +kernel
theorem dX12_housed_148 : decode cX12_housed 148 = .ok (.iload 4, 2) := by decide +kernel
theorem dX12_housed_150 : decode cX12_housed 150 = .ok (.iaload, 1) := by decide +kernel
theorem dX12_housed_151 : decode cX12_housed 151 = .ok (.iconst 2, 1) := by decide +kernel
theorem dX12_housed_152 : decode cX12_housed 152 = .ok (.if_icmp .ne 18, 3) := by decide +kernel
theorem dX12_housed_155 : decode cX12_housed 155 = .ok (.aload_n 0, 1) := by decide +kernel
theorem dX12_housed_156 : decode cX12_housed 156 = .ok (.getfield 140, 3) := by decide +kernel
theorem dX12_housed_159 : decode cX12_housed 159 = .ok (.iload 4, 2) := by decide +kernel
theorem dX12_housed_161 : decode cX12_housed 161 = .ok (.iaload, 1) := by decide +kernel
theorem dX12_housed_162 : decode cX12_housed 162 = .ok (.iload_n 1, 1) := by decide +kernel
theorem dX12_housed_163 : decode cX12_housed 163 = .ok (.if_icmp .ne 7, 3) := by decide +kernel
theorem dX12_housed_166 : decode cX12_housed 166 = .ok (.iconst 1, 1) := by decide +kernel
theorem dX12_housed_167 : decode cX12_housed 167 = .ok (.goto 4, 3) := by decide +kernel
theorem dX12_housed_170 : decode cX12_housed 170 = .ok (.iconst 0, 1) := by decide +kernel
theorem dX12_housed_171 : decode cX12_housed 171 = .ok (.iadd, 1) := by decide +kernel
theorem dX12_housed_172 : decode cX12_housed 172 = .ok (.istore_n 3, 1) := by decide +kernel
theorem dX12_housed_173 : decode cX12_housed 173 = .ok (.iinc 4 1, 3) := by decide +kernel
theorem dX12_housed_176 : decode cX12_housed 176 = .ok (.goto (-42), 3) := by decide +kernel
theorem dX12_housed_179 : decode cX12_housed 179 = .ok (.iload_n 3, 1) := by decide +kernel
theorem dX12_housed_180 : decode cX12_housed 180 = .ok (.ireturn, 1) := by decide +kernel
theorem dX12_housed_181 : decode cX12_housed 181 = .ok (.aload_n 0, 1) := by decide +kernel
theorem dX12_housed_182 : decode cX12_housed 182 = .ok (.getfield 62, 3) := by decide +kernel
theorem dX12_housed_185 : decode cX12_housed 185 = .ok (.iload_n 1, 1) := by decide +kernel
theorem dX12_housed_186 : decode cX12_housed 186 = .ok (.iaload, 1) := by decide +kernel
theorem dX12_housed_187 : decode cX12_housed 187 = .ok (.ireturn, 1) := by decide +kernel
theorem dX12_housed_188 : decode cX12_housed 188 = .ok (.iconst (-1), 1) := by decide +kernel
theorem dX12_housed_189 : decode cX12_housed 189 = .ok (.ireturn, 1) := by decide +kernel
theorem okX12_housed : ab_okM MX12_housed 2 := ⟨by decide, ⟨by decide, by decide⟩, ab_in 2328 (by decide +kernel) (by decide +kernel), ab_in 99 (by decide +kernel) (by decide +kernel), by decide +kernel, by decide⟩
set_option maxHeartbeats 4000000 in
set_option maxRecDepth 100000 in
theorem sX12_housed_121 (v1 : Int32) (v4 : Int32) (s0 : Int32) (s1 : Int32)  (x : ab_X) (K : Int32 → ab_X → Prop) (L89 : Int32 → Int32 → Prop) (d bc bs : Nat) (hdp : 3 ≤ d) (hL89 : ∀ (v3 : Int32) (v4 : Int32), L89 v3 v4 → EW MX12_housed 89 [(0, .ref 246), (1, .int v1), (3, .int v3), (4, .int v4)] [] (aS x) d bc bs (liI K)) (h : wX12_housed_121 v1 v4 s0 s1 x K L89) : EW MX12_housed 121 [(0, .ref 246), (1, .int v1), (4, .int v4)] [.int s1, .int s0] (aS x) d bc bs (liI K) := by
  unfold wX12_housed_121 at h
  refine EW_iadd (pc2 := 122) rfl dX12_housed_121 ?_
  refine EW_istore_n (pc2 := 123) rfl dX12_housed_122 (by decide) [1, 2, 0, 3] [(0, .ref 246), (1, .int v1), (3, .int (s0 + s1)), (4, .int v4)] rfl ?_
  refine EW_iinc (v4 + 1) (pc2 := 126) rfl dX12_housed_123 3 rfl rfl (by decide) [1, 2, 3, 0] [(0, .ref 246), (1, .int v1), (3, .int (s0 + s1)), (4, .int (v4 + 1))] rfl ?_
  refine EW_goto (tgt := 89) dX12_housed_126 (by decide) ?_
  exact hL89 (s0 + s1) (v4 + 1) h
set_option maxHeartbeats 4000000 in
set_option maxRecDepth 100000 in
theorem sX12_housed_89 (v1 : Int32) (v3 : Int32) (v4 : Int32)  (x : ab_X) (K : Int32 → ab_X → Prop)  (d bc bs : Nat) (hdp : 3 ≤ d)  (h : Lp2 (lX12_housed_89 v1 x K ) v3 v4) : EW MX12_housed 89 [(0, .ref 246), (1, .int v1), (3, .int v3), (4, .int v4)] [] (aS x) d bc bs (liI K) := by
  refine Lp2.use (P := fun v3 v4 => EW MX12_housed 89 [(0, .ref 246), (1, .int v1), (3, .int v3), (4, .int v4)] [] (aS x) d bc bs (liI K)) (fun L89 v3 v4 hL89 h => ?_) v3 v4 h
  unfold lX12_housed_89 at h
  refine EW_iload (pc2 := 91) rfl dX12_housed_89 3 rfl ?_
  refine EW_aload_n (pc2 := 92) rfl dX12_housed_91 0 rfl ?_
  refine AW_getr (r := 256) ⟨gfRX12_38, rfl⟩ (pc2 := 95) rfl dX12_housed_92 q246 rfl ?_
  refine EW_iload_n (pc2 := 96) rfl dX12_housed_95 1 rfl ?_
  obtain ⟨b7, h⟩ := h
  refine AW_iald (pc2 := 97) rfl dX12_housed_96 q256 b7 ?_
  refine EW_icmp_ge (tgt := 129) (pc2 := 100) rfl dX12_housed_97 (by decide) (fun q => ?_) (fun q => ?_)
  · replace h := h.1 q
    refine EW_iload_n (pc2 := 130) rfl dX12_housed_129 2 rfl ?_
    exact AW_iret rfl dX12_housed_130 ⟨_, _, rfl, rfl, h⟩
  · replace h := h.2 q
    refine EW_iload_n (pc2 := 101) rfl dX12_housed_100 2 rfl ?_
    refine EW_aload_n (pc2 := 102) rfl dX12_housed_101 0 rfl ?_
    refine AW_getr (r := 274) ⟨gfRX12_92, rfl⟩ (pc2 := 105) rfl dX12_housed_102 q246 rfl ?_
    refine EW_bipush (pc2 := 107) (v := 6) rfl dX12_housed_105 (by decide) ?_
    refine EW_iload_n (pc2 := 108) rfl dX12_housed_107 1 rfl ?_
    refine EW_imul (pc2 := 109) rfl dX12_housed_108 ?_
    refine EW_iload (pc2 := 111) rfl dX12_housed_109 3 rfl ?_
    refine EW_iadd (pc2 := 112) rfl dX12_housed_111 ?_
    obtain ⟨b8, h⟩ := h
    refine AW_zald (pc2 := 113) rfl dX12_housed_112 q274 b8 ?_
    refine EW_if_eq (tgt := 120) (pc2 := 116) rfl dX12_housed_113 (by decide) (fun q => ?_) (fun q => ?_)
    · replace h := h.1 q
      refine EW_iconst (pc2 := 121) (v := 0) rfl dX12_housed_120 (by decide) ?_
      refine EW_ls [0, 1, 3] rfl ?_
      exact sX12_housed_121 v1 v4 v3 0 x K L89 d bc bs hdp hL89 h
    · replace h := h.2 q
      refine EW_iconst (pc2 := 117) (v := 1) rfl dX12_housed_116 (by decide) ?_
      refine EW_goto (tgt := 121) dX12_housed_117 (by decide) ?_
      refine EW_ls [0, 1, 3] rfl ?_
      exact sX12_housed_121 v1 v4 v3 1 x K L89 d bc bs hdp hL89 h
set_option maxHeartbeats 4000000 in
set_option maxRecDepth 100000 in
theorem sX12_housed_171 (v1 : Int32) (v4 : Int32) (s0 : Int32) (s1 : Int32)  (x : ab_X) (K : Int32 → ab_X → Prop) (L134 : Int32 → Int32 → Prop) (d bc bs : Nat) (hdp : 3 ≤ d) (hL134 : ∀ (v3 : Int32) (v4 : Int32), L134 v3 v4 → EW MX12_housed 134 [(0, .ref 246), (1, .int v1), (3, .int v3), (4, .int v4)] [] (aS x) d bc bs (liI K)) (h : wX12_housed_171 v1 v4 s0 s1 x K L134) : EW MX12_housed 171 [(0, .ref 246), (1, .int v1), (4, .int v4)] [.int s1, .int s0] (aS x) d bc bs (liI K) := by
  unfold wX12_housed_171 at h
  refine EW_iadd (pc2 := 172) rfl dX12_housed_171 ?_
  refine EW_istore_n (pc2 := 173) rfl dX12_housed_172 (by decide) [1, 2, 0, 3] [(0, .ref 246), (1, .int v1), (3, .int (s0 + s1)), (4, .int v4)] rfl ?_
  refine EW_iinc (v4 + 1) (pc2 := 176) rfl dX12_housed_173 3 rfl rfl (by decide) [1, 2, 3, 0] [(0, .ref 246), (1, .int v1), (3, .int (s0 + s1)), (4, .int (v4 + 1))] rfl ?_
  refine EW_goto (tgt := 134) dX12_housed_176 (by decide) ?_
  exact hL134 (s0 + s1) (v4 + 1) h
set_option maxHeartbeats 4000000 in
set_option maxRecDepth 100000 in
theorem sX12_housed_170 (v1 : Int32) (v4 : Int32) (s0 : Int32)  (x : ab_X) (K : Int32 → ab_X → Prop) (L134 : Int32 → Int32 → Prop) (d bc bs : Nat) (hdp : 3 ≤ d) (hL134 : ∀ (v3 : Int32) (v4 : Int32), L134 v3 v4 → EW MX12_housed 134 [(0, .ref 246), (1, .int v1), (3, .int v3), (4, .int v4)] [] (aS x) d bc bs (liI K)) (h : wX12_housed_170 v1 v4 s0 x K L134) : EW MX12_housed 170 [(0, .ref 246), (1, .int v1), (4, .int v4)] [.int s0] (aS x) d bc bs (liI K) := by
  unfold wX12_housed_170 at h
  refine EW_iconst (pc2 := 171) (v := 0) rfl dX12_housed_170 (by decide) ?_
  exact sX12_housed_171 v1 v4 s0 0 x K L134 d bc bs hdp hL134 h
set_option maxHeartbeats 4000000 in
set_option maxRecDepth 100000 in
theorem sX12_housed_134 (v1 : Int32) (v3 : Int32) (v4 : Int32)  (x : ab_X) (K : Int32 → ab_X → Prop)  (d bc bs : Nat) (hdp : 3 ≤ d)  (h : Lp2 (lX12_housed_134 v1 x K ) v3 v4) : EW MX12_housed 134 [(0, .ref 246), (1, .int v1), (3, .int v3), (4, .int v4)] [] (aS x) d bc bs (liI K) := by
  refine Lp2.use (P := fun v3 v4 => EW MX12_housed 134 [(0, .ref 246), (1, .int v1), (3, .int v3), (4, .int v4)] [] (aS x) d bc bs (liI K)) (fun L134 v3 v4 hL134 h => ?_) v3 v4 h
  unfold lX12_housed_134 at h
  refine EW_iload (pc2 := 136) rfl dX12_housed_134 3 rfl ?_
  refine EW_aload_n (pc2 := 137) rfl dX12_housed_136 0 rfl ?_
  refine AW_geti ⟨gfRX12_366, rfl⟩ (pc2 := 140) rfl dX12_housed_137 q246 ?_
  refine EW_icmp_ge (tgt := 179) (pc2 := 143) rfl dX12_housed_140 (by decide) (fun q => ?_) (fun q => ?_)
  · replace h := h.1 q
    refine EW_iload_n (pc2 := 180) rfl dX12_housed_179 2 rfl ?_
    exact AW_iret rfl dX12_housed_180 ⟨_, _, rfl, rfl, h⟩
  · replace h := h.2 q
    refine EW_iload_n (pc2 := 144) rfl dX12_housed_143 2 rfl ?_
    refine EW_aload_n (pc2 := 145) rfl dX12_housed_144 0 rfl ?_
    refine AW_getr (r := 286) ⟨gfRX12_128, rfl⟩ (pc2 := 148) rfl dX12_housed_145 q246 rfl ?_
    refine EW_iload (pc2 := 150) rfl dX12_housed_148 3 rfl ?_
    obtain ⟨b9, h⟩ := h
    refine AW_iald (pc2 := 151) rfl dX12_housed_150 q286 b9 ?_
    refine EW_iconst (pc2 := 152) (v := 2) rfl dX12_housed_151 (by decide) ?_
    refine EW_icmp_ne (tgt := 170) (pc2 := 155) rfl dX12_housed_152 (by decide) (fun q => ?_) (fun q => ?_)
    · replace h := h.1 q
      refine EW_ls [0, 1, 3] rfl ?_
      exact sX12_housed_170 v1 v4 v3 x K L134 d bc bs hdp hL134 h
    · replace h := h.2 q
      refine EW_aload_n (pc2 := 156) rfl dX12_housed_155 0 rfl ?_
      refine AW_getr (r := 290) ⟨gfRX12_140, rfl⟩ (pc2 := 159) rfl dX12_housed_156 q246 rfl ?_
      refine EW_iload (pc2 := 161) rfl dX12_housed_159 3 rfl ?_
      obtain ⟨b10, h⟩ := h
      refine AW_iald (pc2 := 162) rfl dX12_housed_161 q290 b10 ?_
      refine EW_iload_n (pc2 := 163) rfl dX12_housed_162 1 rfl ?_
      refine EW_icmp_ne (tgt := 170) (pc2 := 166) rfl dX12_housed_163 (by decide) (fun q => ?_) (fun q => ?_)
      · replace h := h.1 q
        refine EW_ls [0, 1, 3] rfl ?_
        exact sX12_housed_170 v1 v4 v3 x K L134 d bc bs hdp hL134 h
      · replace h := h.2 q
        refine EW_iconst (pc2 := 167) (v := 1) rfl dX12_housed_166 (by decide) ?_
        refine EW_goto (tgt := 171) dX12_housed_167 (by decide) ?_
        refine EW_ls [0, 1, 3] rfl ?_
        exact sX12_housed_171 v1 v4 v3 1 x K L134 d bc bs hdp hL134 h
set_option maxHeartbeats 4000000 in
set_option maxRecDepth 100000 in
theorem sX12_housed (v1 : Int32) (v2 : Int32)  (x : ab_X) (K : Int32 → ab_X → Prop) (d bc bs : Nat) (hdp : 3 ≤ d) (h : wX12_housed v1 v2 x K) : EW MX12_housed 0 [(0, .ref 246), (1, .int v1), (2, .int v2)] [] (aS x) d bc bs (liI K) := by
  unfold wX12_housed at h
  refine EW_aload_n (pc2 := 1) rfl dX12_housed_0 0 rfl ?_
  refine EW_iconst (pc2 := 2) (v := 0) rfl dX12_housed_1 (by decide) ?_
  refine AW_puti ⟨gfRX12_297, rfl, rfl⟩ (pc2 := 5) rfl dX12_housed_2 q246 ?_
  refine EW_aload_n (pc2 := 6) rfl dX12_housed_5 0 rfl ?_
  refine EW_iload_n (pc2 := 7) rfl dX12_housed_6 1 rfl ?_
  refine AW_invV (M' := MX12_isHouse) [.int v1] (rest := []) mlRX12_334 okX12_isHouse (pc2 := 10) rfl dX12_housed_7 rfl rfl (Nat.le_of_ble_eq_true rfl) (Nat.le_of_ble_eq_true rfl) (d' := 0) (by omega) q246 ⟨by decide, rfl⟩ (EW_mono (fun _ _ hr => ?_) (sX12_isHouse v1  (wr x 246 0 0) _ _ 0 0 (Nat.le_refl _) h))
  obtain ⟨r1, rfl, rfl, h⟩ := hr
  refine EW_if_ne (tgt := 15) (pc2 := 13) rfl dX12_housed_10 (by decide) (fun q => ?_) (fun q => ?_)
  · replace h := h.1 q
    refine EW_iconst (pc2 := 16) (v := 0) rfl dX12_housed_15 (by decide) ?_
    refine EW_istore_n (pc2 := 17) rfl dX12_housed_16 (by decide) [1, 2, 3, 0] [(0, .ref 246), (1, .int v1), (2, .int v2), (3, .int 0)] rfl ?_
    refine EW_iload_n (pc2 := 18) rfl dX12_housed_17 2 rfl ?_
    by_cases qo : Int32.toInt v2 < 0 ∨ 6 < Int32.toInt v2
    · replace h := h.1 qo
      refine EW_tabOut (tgt := 188) dX12_housed_18 qo (by decide) ?_
      refine EW_iconst (pc2 := 189) (v := (-1)) rfl dX12_housed_188 (by decide) ?_
      exact AW_iret rfl dX12_housed_189 ⟨_, _, rfl, rfl, h⟩
    · obtain ⟨kk, hkk, qk⟩ := sw_in 0 6 (by decide) qo
      match kk, hkk, qk with
      | 0, _, qk =>
        replace h := h.2.1 qk
        refine EW_tabIn (off := 42) (tgt := 60) dX12_housed_18 (by rw [qk]; decide) (by rw [qk]; decide) (by rw [qk]; decide) (by decide) ?_
        refine EW_aload_n (pc2 := 61) rfl dX12_housed_60 0 rfl ?_
        refine EW_iload_n (pc2 := 62) rfl dX12_housed_61 1 rfl ?_
        refine AW_invV (M' := MX12_burning) [.int v1] (rest := []) mlRX12_351 okX12_burning (pc2 := 65) rfl dX12_housed_62 rfl rfl (Nat.le_of_ble_eq_true rfl) (Nat.le_of_ble_eq_true rfl) (d' := 2) (by omega) q246 ⟨by decide, rfl⟩ (EW_mono (fun _ _ hr => ?_) (sX12_burning v1  (wr x 246 0 0) _ _ 0 0 (Nat.le_refl _) h))
        obtain ⟨r2, rfl, rfl, h⟩ := hr
        exact AW_iret rfl dX12_housed_65 ⟨_, _, rfl, rfl, h⟩
      | 1, _, qk =>
        replace h := h.2.2.1 qk
        refine EW_tabIn (off := 48) (tgt := 66) dX12_housed_18 (by rw [qk]; decide) (by rw [qk]; decide) (by rw [qk]; decide) (by decide) ?_
        refine EW_aload_n (pc2 := 67) rfl dX12_housed_66 0 rfl ?_
        refine EW_iload_n (pc2 := 68) rfl dX12_housed_67 1 rfl ?_
        refine AW_invV (M' := MX12_burntOf) [.int v1] (rest := []) mlRX12_363 okX12_burntOf (pc2 := 71) rfl dX12_housed_68 rfl rfl (Nat.le_of_ble_eq_true rfl) (Nat.le_of_ble_eq_true rfl) (d' := 0) (by omega) q246 ⟨by decide, rfl⟩ (EW_mono (fun _ _ hr => ?_) (sX12_burntOf v1  (wr x 246 0 0) _ _ 0 0 (Nat.le_refl _) h))
        obtain ⟨r3, rfl, rfl, h⟩ := hr
        exact AW_iret rfl dX12_housed_71 ⟨_, _, rfl, rfl, h⟩
      | 2, _, qk =>
        replace h := h.2.2.2.1 qk
        refine EW_tabIn (off := 54) (tgt := 72) dX12_housed_18 (by rw [qk]; decide) (by rw [qk]; decide) (by rw [qk]; decide) (by decide) ?_
        refine EW_aload_n (pc2 := 73) rfl dX12_housed_72 0 rfl ?_
        refine AW_getr (r := 262) ⟨gfRX12_56, rfl⟩ (pc2 := 76) rfl dX12_housed_73 q246 rfl ?_
        refine EW_iload_n (pc2 := 77) rfl dX12_housed_76 1 rfl ?_
        obtain ⟨b4, h⟩ := h
        refine AW_iald (pc2 := 78) rfl dX12_housed_77 q262 b4 ?_
        exact AW_iret rfl dX12_housed_78 ⟨_, _, rfl, rfl, h⟩
      | 3, _, qk =>
        replace h := h.2.2.2.2.1 qk
        refine EW_tabIn (off := 61) (tgt := 79) dX12_housed_18 (by rw [qk]; decide) (by rw [qk]; decide) (by rw [qk]; decide) (by decide) ?_
        refine EW_aload_n (pc2 := 80) rfl dX12_housed_79 0 rfl ?_
        refine AW_getr (r := 263) ⟨gfRX12_59, rfl⟩ (pc2 := 83) rfl dX12_housed_80 q246 rfl ?_
        refine EW_iload_n (pc2 := 84) rfl dX12_housed_83 1 rfl ?_
        obtain ⟨b5, h⟩ := h
        refine AW_iald (pc2 := 85) rfl dX12_housed_84 q263 b5 ?_
        exact AW_iret rfl dX12_housed_85 ⟨_, _, rfl, rfl, h⟩
      | 4, _, qk =>
        replace h := h.2.2.2.2.2.1 qk
        refine EW_tabIn (off := 68) (tgt := 86) dX12_housed_18 (by rw [qk]; decide) (by rw [qk]; decide) (by rw [qk]; decide) (by decide) ?_
        refine EW_iconst (pc2 := 87) (v := 0) rfl dX12_housed_86 (by decide) ?_
        refine EW_istore (pc2 := 89) rfl dX12_housed_87 (by decide) [1, 2, 3, 4, 0] [(0, .ref 246), (1, .int v1), (2, .int v2), (3, .int 0), (4, .int 0)] rfl ?_
        refine EW_ls [0, 1, 3, 4] rfl ?_
        exact sX12_housed_89 v1 0 0 (wr x 246 0 0) K d bc bs hdp h
      | 5, _, qk =>
        replace h := h.2.2.2.2.2.2.1 qk
        refine EW_tabIn (off := 113) (tgt := 131) dX12_housed_18 (by rw [qk]; decide) (by rw [qk]; decide) (by rw [qk]; decide) (by decide) ?_
        refine EW_iconst (pc2 := 132) (v := 0) rfl dX12_housed_131 (by decide) ?_
        refine EW_istore (pc2 := 134) rfl dX12_housed_132 (by decide) [1, 2, 3, 4, 0] [(0, .ref 246), (1, .int v1), (2, .int v2), (3, .int 0), (4, .int 0)] rfl ?_
        refine EW_ls [0, 1, 3, 4] rfl ?_
        exact sX12_housed_134 v1 0 0 (wr x 246 0 0) K d bc bs hdp h
      | 6, _, qk =>
        replace h := h.2.2.2.2.2.2.2 qk
        refine EW_tabIn (off := 163) (tgt := 181) dX12_housed_18 (by rw [qk]; decide) (by rw [qk]; decide) (by rw [qk]; decide) (by decide) ?_
        refine EW_aload_n (pc2 := 182) rfl dX12_housed_181 0 rfl ?_
        refine AW_getr (r := 264) ⟨gfRX12_62, rfl⟩ (pc2 := 185) rfl dX12_housed_182 q246 rfl ?_
        refine EW_iload_n (pc2 := 186) rfl dX12_housed_185 1 rfl ?_
        obtain ⟨b6, h⟩ := h
        refine AW_iald (pc2 := 187) rfl dX12_housed_186 q264 b6 ?_
        exact AW_iret rfl dX12_housed_187 ⟨_, _, rfl, rfl, h⟩
      | n9 + 7, hkk, _ => exact absurd hkk (by omega)
  · replace h := h.2 q
    refine EW_iconst (pc2 := 14) (v := (-1)) rfl dX12_housed_13 (by decide) ?_
    exact AW_iret rfl dX12_housed_14 ⟨_, _, rfl, rfl, h⟩
abbrev MX12_isRoom : ab_M := (yX12_isRoom, cX12_isRoom, 3, (some .boolean))
theorem dX12_isRoom_0 : decode cX12_isRoom 0 = .ok (.aload_n 0, 1) := by decide +kernel
theorem dX12_isRoom_1 : decode cX12_isRoom 1 = .ok (.iload_n 1, 1) := by decide +kernel
theorem dX12_isRoom_2 : decode cX12_isRoom 2 = .ok (.invokevirtual 334, 3) := by decide +kernel
theorem dX12_isRoom_5 : decode cX12_isRoom 5 = .ok (.ifCond .eq 28, 3) := by decide +kernel
theorem dX12_isRoom_8 : decode cX12_isRoom 8 = .ok (.iload_n 2, 1) := by decide +kernel
theorem dX12_isRoom_9 : decode cX12_isRoom 9 = .ok (.ifCond .lt 24, 3) := by decide +kernel
theorem dX12_isRoom_12 : decode cX12_isRoom 12 = .ok (.iload_n 2, 1) := by decide +kernel
theorem dX12_isRoom_13 : decode cX12_isRoom 13 = .ok (.aload_n 0, 1) := by decide +kernel
theorem dX12_isRoom_14 : decode cX12_isRoom 14 = .ok (.getfield 38, 3) := by decide +kernel
theorem dX12_isRoom_17 : decode cX12_isRoom 17 = .ok (.iload_n 1, 1) := by decide +kernel
theorem dX12_isRoom_18 : decode cX12_isRoom 18 = .ok (.iaload, 1) := by decide +kernel
theorem dX12_isRoom_19 : decode cX12_isRoom 19 = .ok (.aload_n 0, 1) := by decide +kernel
theorem dX12_isRoom_20 : decode cX12_isRoom 20 = .ok (.getfield 41, 3) := by decide +kernel
theorem dX12_isRoom_23 : decode cX12_isRoom 23 = .ok (.iload_n 1, 1) := by decide +kernel
theorem dX12_isRoom_24 : decode cX12_isRoom 24 = .ok (.iaload, 1) := by decide +kernel
theorem dX12_isRoom_25 : decode cX12_isRoom 25 = .ok (.imul, 1) := by decide +kernel
theorem dX12_isRoom_26 : decode cX12_isRoom 26 = .ok (.if_icmp .ge 7, 3) := by decide +kernel
theorem dX12_isRoom_29 : decode cX12_isRoom 29 = .ok (.iconst 1, 1) := by decide +kernel
theorem dX12_isRoom_30 : decode cX12_isRoom 30 = .ok (.goto 4, 3) := by decide +kernel
theorem dX12_isRoom_33 : decode cX12_isRoom 33 = .ok (.iconst 0, 1) := by decide +kernel
theorem dX12_isRoom_34 : decode cX12_isRoom 34 = .ok (.ireturn, 1) := by decide +kernel
theorem okX12_isRoom : ab_okM MX12_isRoom 2 := ⟨by decide, ⟨by decide, by decide⟩, ab_in 2311 (by decide +kernel) (by decide +kernel), ab_in 99 (by decide +kernel) (by decide +kernel), by decide +kernel, by decide⟩
set_option maxHeartbeats 4000000 in
set_option maxRecDepth 100000 in
theorem sX12_isRoom (v1 : Int32) (v2 : Int32)  (x : ab_X) (K : Int32 → Prop) (d bc bs : Nat) (hdp : 1 ≤ d) (h : wX12_isRoom v1 v2 x K) : EW MX12_isRoom 0 [(0, .ref 246), (1, .int v1), (2, .int v2)] [] (aS x) d bc bs (liP x K) := by
  unfold wX12_isRoom at h
  refine EW_aload_n (pc2 := 1) rfl dX12_isRoom_0 0 rfl ?_
  refine EW_iload_n (pc2 := 2) rfl dX12_isRoom_1 1 rfl ?_
  refine AW_invV (M' := MX12_isHouse) [.int v1] (rest := []) mlRX12_334 okX12_isHouse (pc2 := 5) rfl dX12_isRoom_2 rfl rfl (Nat.le_of_ble_eq_true rfl) (Nat.le_of_ble_eq_true rfl) (d' := 0) (by omega) q246 ⟨by decide, rfl⟩ (EW_mono (fun _ _ hr => ?_) (sX12_isHouse v1  x _ _ 0 0 (Nat.le_refl _) h))
  obtain ⟨r1, rfl, rfl, h⟩ := hr
  refine EW_if_eq (tgt := 33) (pc2 := 8) rfl dX12_isRoom_5 (by decide) (fun q => ?_) (fun q => ?_)
  · replace h := h.1 q
    refine EW_iconst (pc2 := 34) (v := 0) rfl dX12_isRoom_33 (by decide) ?_
    exact AW_zret rfl isB0 dX12_isRoom_34 ⟨_, rfl, rfl, h⟩
  · replace h := h.2 q
    refine EW_iload_n (pc2 := 9) rfl dX12_isRoom_8 2 rfl ?_
    refine EW_if_lt (tgt := 33) (pc2 := 12) rfl dX12_isRoom_9 (by decide) (fun q => ?_) (fun q => ?_)
    · replace h := h.1 q
      refine EW_iconst (pc2 := 34) (v := 0) rfl dX12_isRoom_33 (by decide) ?_
      exact AW_zret rfl isB0 dX12_isRoom_34 ⟨_, rfl, rfl, h⟩
    · replace h := h.2 q
      refine EW_iload_n (pc2 := 13) rfl dX12_isRoom_12 2 rfl ?_
      refine EW_aload_n (pc2 := 14) rfl dX12_isRoom_13 0 rfl ?_
      refine AW_getr (r := 256) ⟨gfRX12_38, rfl⟩ (pc2 := 17) rfl dX12_isRoom_14 q246 rfl ?_
      refine EW_iload_n (pc2 := 18) rfl dX12_isRoom_17 1 rfl ?_
      obtain ⟨b2, h⟩ := h
      refine AW_iald (pc2 := 19) rfl dX12_isRoom_18 q256 b2 ?_
      refine EW_aload_n (pc2 := 20) rfl dX12_isRoom_19 0 rfl ?_
      refine AW_getr (r := 257) ⟨gfRX12_41, rfl⟩ (pc2 := 23) rfl dX12_isRoom_20 q246 rfl ?_
      refine EW_iload_n (pc2 := 24) rfl dX12_isRoom_23 1 rfl ?_
      obtain ⟨b3, h⟩ := h
      refine AW_iald (pc2 := 25) rfl dX12_isRoom_24 q257 b3 ?_
      refine EW_imul (pc2 := 26) rfl dX12_isRoom_25 ?_
      refine EW_icmp_ge (tgt := 33) (pc2 := 29) rfl dX12_isRoom_26 (by decide) (fun q => ?_) (fun q => ?_)
      · replace h := h.1 q
        refine EW_iconst (pc2 := 34) (v := 0) rfl dX12_isRoom_33 (by decide) ?_
        exact AW_zret rfl isB0 dX12_isRoom_34 ⟨_, rfl, rfl, h⟩
      · replace h := h.2 q
        refine EW_iconst (pc2 := 30) (v := 1) rfl dX12_isRoom_29 (by decide) ?_
        refine EW_goto (tgt := 34) dX12_isRoom_30 (by decide) ?_
        exact AW_zret rfl isB1 dX12_isRoom_34 ⟨_, rfl, rfl, h⟩
abbrev MX12_jam : ab_M := (yX12_jam, cX12_jam, 4, (some .boolean))
theorem dX12_jam_0 : decode cX12_jam 0 = .ok (.aload_n 0, 1) := by decide +kernel
theorem dX12_jam_1 : decode cX12_jam 1 = .ok (.iconst 0, 1) := by decide +kernel
theorem dX12_jam_2 : decode cX12_jam 2 = .ok (.putfield 297, 3) := by decide +kernel
theorem dX12_jam_5 : decode cX12_jam 5 = .ok (.aload_n 0, 1) := by decide +kernel
theorem dX12_jam_6 : decode cX12_jam 6 = .ok (.iload_n 1, 1) := by decide +kernel
theorem dX12_jam_7 : decode cX12_jam 7 = .ok (.invokevirtual 317, 3) := by decide +kernel
theorem dX12_jam_10 : decode cX12_jam 10 = .ok (.ifCond .eq 24, 3) := by decide +kernel
theorem dX12_jam_13 : decode cX12_jam 13 = .ok (.iload_n 2, 1) := by decide +kernel
theorem dX12_jam_14 : decode cX12_jam 14 = .ok (.iconst 0, 1) := by decide +kernel
theorem dX12_jam_15 : decode cX12_jam 15 = .ok (.iconst 3, 1) := by decide +kernel
theorem dX12_jam_16 : decode cX12_jam 16 = .ok (.invokestatic 307, 3) := by decide +kernel
theorem dX12_jam_19 : decode cX12_jam 19 = .ok (.ifCond .eq 15, 3) := by decide +kernel
theorem dX12_jam_22 : decode cX12_jam 22 = .ok (.iload_n 3, 1) := by decide +kernel
theorem dX12_jam_23 : decode cX12_jam 23 = .ok (.bipush 100, 2) := by decide +kernel
theorem dX12_jam_25 : decode cX12_jam 25 = .ok (.sipush 400, 3) := by decide +kernel
theorem dX12_jam_28 : decode cX12_jam 28 = .ok (.invokestatic 307, 3) := by decide +kernel
theorem dX12_jam_31 : decode cX12_jam 31 = .ok (.ifCond .ne 5, 3) := by decide +kernel
theorem dX12_jam_34 : decode cX12_jam 34 = .ok (.iconst 0, 1) := by decide +kernel
theorem dX12_jam_35 : decode cX12_jam 35 = .ok (.ireturn, 1) := by decide +kernel
theorem dX12_jam_36 : decode cX12_jam 36 = .ok (.aload_n 0, 1) := by decide +kernel
theorem dX12_jam_37 : decode cX12_jam 37 = .ok (.getfield 19, 3) := by decide +kernel
theorem dX12_jam_40 : decode cX12_jam 40 = .ok (.iconst 4, 1) := by decide +kernel
theorem dX12_jam_41 : decode cX12_jam 41 = .ok (.iload_n 1, 1) := by decide +kernel
theorem dX12_jam_42 : decode cX12_jam 42 = .ok (.imul, 1) := by decide +kernel
theorem dX12_jam_43 : decode cX12_jam 43 = .ok (.iload_n 2, 1) := by decide +kernel
theorem dX12_jam_44 : decode cX12_jam 44 = .ok (.iadd, 1) := by decide +kernel
theorem dX12_jam_45 : decode cX12_jam 45 = .ok (.iload_n 3, 1) := by decide +kernel
theorem dX12_jam_46 : decode cX12_jam 46 = .ok (.iastore, 1) := by decide +kernel
theorem dX12_jam_47 : decode cX12_jam 47 = .ok (.iconst 1, 1) := by decide +kernel
theorem dX12_jam_48 : decode cX12_jam 48 = .ok (.ireturn, 1) := by decide +kernel
theorem okX12_jam : ab_okM MX12_jam 3 := ⟨by decide, ⟨by decide, by decide⟩, ab_in 2232 (by decide +kernel) (by decide +kernel), ab_in 99 (by decide +kernel) (by decide +kernel), by decide +kernel, by decide⟩
set_option maxHeartbeats 4000000 in
set_option maxRecDepth 100000 in
theorem sX12_jam (v1 : Int32) (v2 : Int32) (v3 : Int32)  (x : ab_X) (K : Int32 → ab_X → Prop) (d bc bs : Nat) (hdp : 1 ≤ d) (h : wX12_jam v1 v2 v3 x K) : EW MX12_jam 0 [(0, .ref 246), (1, .int v1), (2, .int v2), (3, .int v3)] [] (aS x) d bc bs (liI K) := by
  unfold wX12_jam at h
  refine EW_aload_n (pc2 := 1) rfl dX12_jam_0 0 rfl ?_
  refine EW_iconst (pc2 := 2) (v := 0) rfl dX12_jam_1 (by decide) ?_
  refine AW_puti ⟨gfRX12_297, rfl, rfl⟩ (pc2 := 5) rfl dX12_jam_2 q246 ?_
  refine EW_aload_n (pc2 := 6) rfl dX12_jam_5 0 rfl ?_
  refine EW_iload_n (pc2 := 7) rfl dX12_jam_6 1 rfl ?_
  refine AW_invV (M' := MX12_isStreet) [.int v1] (rest := []) mlRX12_317 okX12_isStreet (pc2 := 10) rfl dX12_jam_7 rfl rfl (Nat.le_of_ble_eq_true rfl) (Nat.le_of_ble_eq_true rfl) (d' := 0) (by omega) q246 ⟨by decide, rfl⟩ (EW_mono (fun _ _ hr => ?_) (sX12_isStreet v1  (wr x 246 0 0) _ _ 0 0 (Nat.le_refl _) h))
  obtain ⟨r1, rfl, rfl, h⟩ := hr
  refine EW_if_eq (tgt := 34) (pc2 := 13) rfl dX12_jam_10 (by decide) (fun q => ?_) (fun q => ?_)
  · replace h := h.1 q
    refine EW_iconst (pc2 := 35) (v := 0) rfl dX12_jam_34 (by decide) ?_
    exact AW_zret rfl isB0 dX12_jam_35 ⟨_, _, rfl, rfl, h⟩
  · replace h := h.2 q
    refine EW_iload_n (pc2 := 14) rfl dX12_jam_13 2 rfl ?_
    refine EW_iconst (pc2 := 15) (v := 0) rfl dX12_jam_14 (by decide) ?_
    refine EW_iconst (pc2 := 16) (v := 3) rfl dX12_jam_15 (by decide) ?_
    refine AW_invS (M' := MX12_isIn) [.int v2, .int 0, .int 3] (rest := []) mlRX12_307 okX12_isIn (pc2 := 19) rfl dX12_jam_16 rfl rfl (Nat.le_of_ble_eq_true rfl) (Nat.le_of_ble_eq_true rfl) (d' := 0) (by omega) (EW_mono (fun _ _ hr => ?_) (sX12_isIn v2 0 3  (wr x 246 0 0) _ _ 0 0 (Nat.le_refl _) h))
    obtain ⟨r2, rfl, rfl, h⟩ := hr
    refine EW_if_eq (tgt := 34) (pc2 := 22) rfl dX12_jam_19 (by decide) (fun q => ?_) (fun q => ?_)
    · replace h := h.1 q
      refine EW_iconst (pc2 := 35) (v := 0) rfl dX12_jam_34 (by decide) ?_
      exact AW_zret rfl isB0 dX12_jam_35 ⟨_, _, rfl, rfl, h⟩
    · replace h := h.2 q
      refine EW_iload_n (pc2 := 23) rfl dX12_jam_22 3 rfl ?_
      refine EW_bipush (pc2 := 25) (v := 100) rfl dX12_jam_23 (by decide) ?_
      refine EW_sipush (pc2 := 28) (v := 400) rfl dX12_jam_25 (by decide) ?_
      refine AW_invS (M' := MX12_isIn) [.int v3, .int 100, .int 400] (rest := []) mlRX12_307 okX12_isIn (pc2 := 31) rfl dX12_jam_28 rfl rfl (Nat.le_of_ble_eq_true rfl) (Nat.le_of_ble_eq_true rfl) (d' := 0) (by omega) (EW_mono (fun _ _ hr => ?_) (sX12_isIn v3 100 400  (wr x 246 0 0) _ _ 0 0 (Nat.le_refl _) h))
      obtain ⟨r3, rfl, rfl, h⟩ := hr
      refine EW_if_ne (tgt := 36) (pc2 := 34) rfl dX12_jam_31 (by decide) (fun q => ?_) (fun q => ?_)
      · replace h := h.1 q
        refine EW_aload_n (pc2 := 37) rfl dX12_jam_36 0 rfl ?_
        refine AW_getr (r := 250) ⟨gfRX12_19, rfl⟩ (pc2 := 40) rfl dX12_jam_37 q246 rfl ?_
        refine EW_iconst (pc2 := 41) (v := 4) rfl dX12_jam_40 (by decide) ?_
        refine EW_iload_n (pc2 := 42) rfl dX12_jam_41 1 rfl ?_
        refine EW_imul (pc2 := 43) rfl dX12_jam_42 ?_
        refine EW_iload_n (pc2 := 44) rfl dX12_jam_43 2 rfl ?_
        refine EW_iadd (pc2 := 45) rfl dX12_jam_44 ?_
        refine EW_iload_n (pc2 := 46) rfl dX12_jam_45 3 rfl ?_
        obtain ⟨b4, h⟩ := h
        refine AW_iast (pc2 := 47) rfl dX12_jam_46 q250 b4 ?_
        refine EW_iconst (pc2 := 48) (v := 1) rfl dX12_jam_47 (by decide) ?_
        exact AW_zret rfl isB1 dX12_jam_48 ⟨_, _, rfl, rfl, h⟩
      · replace h := h.2 q
        refine EW_iconst (pc2 := 35) (v := 0) rfl dX12_jam_34 (by decide) ?_
        exact AW_zret rfl isB0 dX12_jam_35 ⟨_, _, rfl, rfl, h⟩
abbrev MJxe99ae_isNaN_b9ae7 : ab_M := (yJxe99ae_isNaN_b9ae7, cJxe99ae_isNaN_b9ae7, 2, (some .boolean))
theorem dJxe99ae_isNaN_b9ae7_0 : decode cJxe99ae_isNaN_b9ae7 0 = .ok (.dload_n 0, 1) := by decide +kernel
theorem dJxe99ae_isNaN_b9ae7_1 : decode cJxe99ae_isNaN_b9ae7 1 = .ok (.dload_n 0, 1) := by decide +kernel
theorem dJxe99ae_isNaN_b9ae7_2 : decode cJxe99ae_isNaN_b9ae7 2 = .ok (.dcmp .l, 1) := by decide +kernel
theorem dJxe99ae_isNaN_b9ae7_3 : decode cJxe99ae_isNaN_b9ae7 3 = .ok (.ifCond .eq 7, 3) := by decide +kernel
theorem dJxe99ae_isNaN_b9ae7_6 : decode cJxe99ae_isNaN_b9ae7 6 = .ok (.iconst 1, 1) := by decide +kernel
theorem dJxe99ae_isNaN_b9ae7_7 : decode cJxe99ae_isNaN_b9ae7 7 = .ok (.goto 4, 3) := by decide +kernel
theorem dJxe99ae_isNaN_b9ae7_10 : decode cJxe99ae_isNaN_b9ae7 10 = .ok (.iconst 0, 1) := by decide +kernel
theorem dJxe99ae_isNaN_b9ae7_11 : decode cJxe99ae_isNaN_b9ae7 11 = .ok (.ireturn, 1) := by decide +kernel
theorem okJxe99ae_isNaN_b9ae7 : ab_okM MJxe99ae_isNaN_b9ae7 1 := ⟨by decide, ⟨by decide, by decide⟩, ab_in 2736 (by decide +kernel) (by decide +kernel), ab_in 112 (by decide +kernel) (by decide +kernel), by decide +kernel, by decide⟩
set_option maxHeartbeats 4000000 in
set_option maxRecDepth 100000 in
theorem sJxe99ae_isNaN_b9ae7 (v0 : UInt64)  (x : ab_X) (K : Int32 → Prop) (d bc bs : Nat) (hdp : 0 ≤ d) (h : wJxe99ae_isNaN_b9ae7 v0 x K) : EW MJxe99ae_isNaN_b9ae7 0 [(0, .double v0)] [] (aS x) d bc bs (liP x K) := by
  unfold wJxe99ae_isNaN_b9ae7 at h
  refine EW_dload_n (pc2 := 1) rfl dJxe99ae_isNaN_b9ae7_0 0 rfl ?_
  refine EW_dload_n (pc2 := 2) rfl dJxe99ae_isNaN_b9ae7_1 0 rfl ?_
  refine EW_dcmp (pc2 := 3) rfl dJxe99ae_isNaN_b9ae7_2 ?_
  refine EW_if_eq (tgt := 10) (pc2 := 6) rfl dJxe99ae_isNaN_b9ae7_3 (by decide) (fun q => ?_) (fun q => ?_)
  · replace h := h.1 q
    refine EW_iconst (pc2 := 11) (v := 0) rfl dJxe99ae_isNaN_b9ae7_10 (by decide) ?_
    exact AW_zret rfl isB0 dJxe99ae_isNaN_b9ae7_11 ⟨_, rfl, rfl, h⟩
  · replace h := h.2 q
    refine EW_iconst (pc2 := 7) (v := 1) rfl dJxe99ae_isNaN_b9ae7_6 (by decide) ?_
    refine EW_goto (tgt := 11) dJxe99ae_isNaN_b9ae7_7 (by decide) ?_
    exact AW_zret rfl isB1 dJxe99ae_isNaN_b9ae7_11 ⟨_, rfl, rfl, h⟩
theorem mlRX12_663 : Cond.methodLink RX12 663 yJxe99ae_isNaN_b9ae7 ∈ ab_G ∧ Cond.static yJxe99ae_isNaN_b9ae7 ∈ ab_G := ⟨ab_in 2734 (by decide +kernel) (by decide +kernel), ab_in 2735 (by decide +kernel) (by decide +kernel)⟩
theorem cnRX12_667 : Cond.constantDouble RX12 667 4652007308841189376 ∈ ab_G := ab_in 2737 (by decide +kernel) (by decide +kernel)
abbrev MX12_judged : ab_M := (yX12_judged, cX12_judged, 9, (some .double))
theorem dX12_judged_0 : decode cX12_judged 0 = .ok (.dconst 0, 1) := by decide +kernel
theorem dX12_judged_1 : decode cX12_judged 1 = .ok (.dstore 4, 2) := by decide +kernel
theorem dX12_judged_3 : decode cX12_judged 3 = .ok (.iconst 0, 1) := by decide +kernel
theorem dX12_judged_4 : decode cX12_judged 4 = .ok (.istore 6, 2) := by decide +kernel
theorem dX12_judged_6 : decode cX12_judged 6 = .ok (.iload 6, 2) := by decide +kernel
theorem dX12_judged_8 : decode cX12_judged 8 = .ok (.bipush 20, 2) := by decide +kernel
theorem dX12_judged_10 : decode cX12_judged 10 = .ok (.if_icmp .ge 53, 3) := by decide +kernel
theorem dX12_judged_13 : decode cX12_judged 13 = .ok (.aload_n 0, 1) := by decide +kernel
theorem dX12_judged_14 : decode cX12_judged 14 = .ok (.getfield 271, 3) := by decide +kernel
theorem dX12_judged_17 : decode cX12_judged 17 = .ok (.bipush 20, 2) := by decide +kernel
theorem dX12_judged_19 : decode cX12_judged 19 = .ok (.iload_n 1, 1) := by decide +kernel
theorem dX12_judged_20 : decode cX12_judged 20 = .ok (.imul, 1) := by decide +kernel
theorem dX12_judged_21 : decode cX12_judged 21 = .ok (.iload 6, 2) := by decide +kernel
theorem dX12_judged_23 : decode cX12_judged 23 = .ok (.iadd, 1) := by decide +kernel
theorem dX12_judged_24 : decode cX12_judged 24 = .ok (.daload, 1) := by decide +kernel
theorem dX12_judged_25 : decode cX12_judged 25 = .ok (.dstore 7, 2) := by decide +kernel
theorem dX12_judged_27 : decode cX12_judged 27 = .ok (.dload 7, 2) := by decide +kernel
theorem dX12_judged_29 : decode cX12_judged 29 = .ok (.invokestatic 663, 3) := by decide +kernel
theorem dX12_judged_32 : decode cX12_judged 32 = .ok (.ifCond .eq 8, 3) := by decide +kernel
theorem dX12_judged_35 : decode cX12_judged 35 = .ok (.ldc2_w 667, 3) := by decide +kernel
theorem dX12_judged_38 : decode cX12_judged 38 = .ok (.dstore 7, 2) := by decide +kernel
theorem dX12_judged_40 : decode cX12_judged 40 = .ok (.dload 4, 2) := by decide +kernel
theorem dX12_judged_42 : decode cX12_judged 42 = .ok (.dload 7, 2) := by decide +kernel
theorem dX12_judged_44 : decode cX12_judged 44 = .ok (.aload_n 0, 1) := by decide +kernel
theorem dX12_judged_45 : decode cX12_judged 45 = .ok (.iload 6, 2) := by decide +kernel
theorem dX12_judged_47 : decode cX12_judged 47 = .ok (.iload_n 2, 1) := by decide +kernel
theorem dX12_judged_48 : decode cX12_judged 48 = .ok (.iload_n 3, 1) := by decide +kernel
theorem dX12_judged_49 : decode cX12_judged 49 = .ok (.invokevirtual 636, 3) := by decide +kernel
theorem dX12_judged_52 : decode cX12_judged 52 = .ok (.i2d, 1) := by decide +kernel
theorem dX12_judged_53 : decode cX12_judged 53 = .ok (.dmul, 1) := by decide +kernel
theorem dX12_judged_54 : decode cX12_judged 54 = .ok (.dadd, 1) := by decide +kernel
theorem dX12_judged_55 : decode cX12_judged 55 = .ok (.dstore 4, 2) := by decide +kernel
theorem dX12_judged_57 : decode cX12_judged 57 = .ok (.iinc 6 1, 3) := by decide +kernel
theorem dX12_judged_60 : decode cX12_judged 60 = .ok (.goto (-54), 3) := by decide +kernel
theorem dX12_judged_63 : decode cX12_judged 63 = .ok (.dload 4, 2) := by decide +kernel
theorem dX12_judged_65 : decode cX12_judged 65 = .ok (.dreturn, 1) := by decide +kernel
theorem okX12_judged : ab_okM MX12_judged 3 := ⟨by decide, ⟨by decide, by decide⟩, ab_in 2733 (by decide +kernel) (by decide +kernel), ab_in 99 (by decide +kernel) (by decide +kernel), by decide +kernel, by decide⟩
set_option maxHeartbeats 4000000 in
set_option maxRecDepth 100000 in
theorem sX12_judged_40 (v1 : Int32) (v2 : Int32) (v3 : Int32) (v4 : UInt64) (v6 : Int32) (v7 : UInt64)  (x : ab_X) (K : UInt64 → Prop) (L6 : UInt64 → Int32 → Prop) (d bc bs : Nat) (hdp : 2 ≤ d) (hL6 : ∀ (v4 : UInt64) (v6 : Int32), L6 v4 v6 → EW MX12_judged 6 [(0, .ref 246), (1, .int v1), (2, .int v2), (3, .int v3), (4, .double v4), (6, .int v6)] [] (aS x) d bc bs (liD x K)) (h : wX12_judged_40 v1 v2 v3 v4 v6 v7 x K L6) : EW MX12_judged 40 [(0, .ref 246), (1, .int v1), (2, .int v2), (3, .int v3), (4, .double v4), (6, .int v6), (7, .double v7)] [] (aS x) d bc bs (liD x K) := by
  unfold wX12_judged_40 at h
  refine EW_dload (pc2 := 42) rfl dX12_judged_40 4 rfl ?_
  refine EW_dload (pc2 := 44) rfl dX12_judged_42 6 rfl ?_
  refine EW_aload_n (pc2 := 45) rfl dX12_judged_44 0 rfl ?_
  refine EW_iload (pc2 := 47) rfl dX12_judged_45 5 rfl ?_
  refine EW_iload_n (pc2 := 48) rfl dX12_judged_47 2 rfl ?_
  refine EW_iload_n (pc2 := 49) rfl dX12_judged_48 3 rfl ?_
  refine AW_invV (M' := MX12_pointsOf) [.int v6, .int v2, .int v3] (rest := [.double v7, .double v4]) mlRX12_636 okX12_pointsOf (pc2 := 52) rfl dX12_judged_49 rfl rfl (Nat.le_of_ble_eq_true rfl) (Nat.le_of_ble_eq_true rfl) (d' := 1) (by omega) q246 ⟨by decide, rfl⟩ (EW_mono (fun _ _ hr => ?_) (sX12_pointsOf v6 v2 v3  x _ _ 0 0 (Nat.le_refl _) h))
  obtain ⟨r3, rfl, rfl, h⟩ := hr
  refine EW_i2d (pc2 := 53) rfl dX12_judged_52 ?_
  refine EW_dmul_any (pc2 := 54) rfl dX12_judged_53 (fun r4 qr4 => ?_)
  replace h := h r4 qr4
  refine EW_dadd_any (pc2 := 55) rfl dX12_judged_54 (fun r5 qr5 => ?_)
  replace h := h r5 qr5
  refine EW_dstore (pc2 := 57) rfl dX12_judged_55 (by decide) [1, 2, 3, 4, 0, 5, 6] [(0, .ref 246), (1, .int v1), (2, .int v2), (3, .int v3), (4, .double r5), (6, .int v6), (7, .double v7)] rfl ?_
  refine EW_iinc (v6 + 1) (pc2 := 60) rfl dX12_judged_57 5 rfl rfl (by decide) [1, 2, 3, 4, 5, 0, 6] [(0, .ref 246), (1, .int v1), (2, .int v2), (3, .int v3), (4, .double r5), (6, .int (v6 + 1)), (7, .double v7)] rfl ?_
  refine EW_goto (tgt := 6) dX12_judged_60 (by decide) ?_
  refine EW_ls [0, 1, 2, 3, 4, 5] rfl ?_
  exact hL6 r5 (v6 + 1) h
set_option maxHeartbeats 4000000 in
set_option maxRecDepth 100000 in
theorem sX12_judged_6 (v1 : Int32) (v2 : Int32) (v3 : Int32) (v4 : UInt64) (v6 : Int32)  (x : ab_X) (K : UInt64 → Prop)  (d bc bs : Nat) (hdp : 2 ≤ d)  (h : Lp2 (lX12_judged_6 v1 v2 v3 x K ) v4 v6) : EW MX12_judged 6 [(0, .ref 246), (1, .int v1), (2, .int v2), (3, .int v3), (4, .double v4), (6, .int v6)] [] (aS x) d bc bs (liD x K) := by
  refine Lp2.use (P := fun v4 v6 => EW MX12_judged 6 [(0, .ref 246), (1, .int v1), (2, .int v2), (3, .int v3), (4, .double v4), (6, .int v6)] [] (aS x) d bc bs (liD x K)) (fun L6 v4 v6 hL6 h => ?_) v4 v6 h
  unfold lX12_judged_6 at h
  refine EW_iload (pc2 := 8) rfl dX12_judged_6 5 rfl ?_
  refine EW_bipush (pc2 := 10) (v := 20) rfl dX12_judged_8 (by decide) ?_
  refine EW_icmp_ge (tgt := 63) (pc2 := 13) rfl dX12_judged_10 (by decide) (fun q => ?_) (fun q => ?_)
  · replace h := h.1 q
    refine EW_dload (pc2 := 65) rfl dX12_judged_63 4 rfl ?_
    exact EW_dret rfl dX12_judged_65 ⟨_, rfl, rfl, h⟩
  · replace h := h.2 q
    refine EW_aload_n (pc2 := 14) rfl dX12_judged_13 0 rfl ?_
    refine AW_getr (r := 329) ⟨gfRX12_271, rfl⟩ (pc2 := 17) rfl dX12_judged_14 q246 rfl ?_
    refine EW_bipush (pc2 := 19) (v := 20) rfl dX12_judged_17 (by decide) ?_
    refine EW_iload_n (pc2 := 20) rfl dX12_judged_19 1 rfl ?_
    refine EW_imul (pc2 := 21) rfl dX12_judged_20 ?_
    refine EW_iload (pc2 := 23) rfl dX12_judged_21 5 rfl ?_
    refine EW_iadd (pc2 := 24) rfl dX12_judged_23 ?_
    obtain ⟨b1, h⟩ := h
    refine AW_dald (pc2 := 25) rfl dX12_judged_24 q329 b1 ?_
    refine EW_dstore (pc2 := 27) rfl dX12_judged_25 (by decide) [1, 2, 3, 4, 5, 6, 0] [(0, .ref 246), (1, .int v1), (2, .int v2), (3, .int v3), (4, .double v4), (6, .int v6), (7, .double (x.2.1 329 (Int32.toNatClampNeg ((20 * v1) + v6))))] rfl ?_
    refine EW_dload (pc2 := 29) rfl dX12_judged_27 6 rfl ?_
    refine AW_invS (M' := MJxe99ae_isNaN_b9ae7) [.double (x.2.1 329 (Int32.toNatClampNeg ((20 * v1) + v6)))] (rest := []) mlRX12_663 okJxe99ae_isNaN_b9ae7 (pc2 := 32) rfl dX12_judged_29 rfl rfl (Nat.le_of_ble_eq_true rfl) (Nat.le_of_ble_eq_true rfl) (d' := 0) (by omega) (EW_mono (fun _ _ hr => ?_) (sJxe99ae_isNaN_b9ae7 (x.2.1 329 (Int32.toNatClampNeg ((20 * v1) + v6)))  x _ _ 0 0 (Nat.le_refl _) h))
    obtain ⟨r2, rfl, rfl, h⟩ := hr
    refine EW_if_eq (tgt := 40) (pc2 := 35) rfl dX12_judged_32 (by decide) (fun q => ?_) (fun q => ?_)
    · replace h := h.1 q
      exact sX12_judged_40 v1 v2 v3 v4 v6 (x.2.1 329 (Int32.toNatClampNeg ((20 * v1) + v6))) x K L6 d bc bs hdp hL6 h
    · replace h := h.2 q
      refine EW_ldc2d cnRX12_667 (pc2 := 38) rfl dX12_judged_35 ?_
      refine EW_dstore (pc2 := 40) rfl dX12_judged_38 (by decide) [1, 2, 3, 4, 5, 6, 0] [(0, .ref 246), (1, .int v1), (2, .int v2), (3, .int v3), (4, .double v4), (6, .int v6), (7, .double 4652007308841189376)] rfl ?_
      exact sX12_judged_40 v1 v2 v3 v4 v6 4652007308841189376 x K L6 d bc bs hdp hL6 h
set_option maxHeartbeats 4000000 in
set_option maxRecDepth 100000 in
theorem sX12_judged (v1 : Int32) (v2 : Int32) (v3 : Int32)  (x : ab_X) (K : UInt64 → Prop) (d bc bs : Nat) (hdp : 2 ≤ d) (h : wX12_judged v1 v2 v3 x K) : EW MX12_judged 0 [(0, .ref 246), (1, .int v1), (2, .int v2), (3, .int v3)] [] (aS x) d bc bs (liD x K) := by
  unfold wX12_judged at h
  refine EW_dconst0 (pc2 := 1) rfl dX12_judged_0 ?_
  refine EW_dstore (pc2 := 3) rfl dX12_judged_1 (by decide) [1, 2, 3, 4, 0] [(0, .ref 246), (1, .int v1), (2, .int v2), (3, .int v3), (4, .double 0)] rfl ?_
  refine EW_iconst (pc2 := 4) (v := 0) rfl dX12_judged_3 (by decide) ?_
  refine EW_istore (pc2 := 6) rfl dX12_judged_4 (by decide) [1, 2, 3, 4, 5, 0] [(0, .ref 246), (1, .int v1), (2, .int v2), (3, .int v3), (4, .double 0), (6, .int 0)] rfl ?_
  exact sX12_judged_6 v1 v2 v3 0 0 x K d bc bs hdp h
theorem mlRX12_670 : Cond.methodLink RX12 670 yX12_canJudge ∈ ab_G ∧ Cond.instanceMethod yX12_canJudge ∈ ab_G ∧ Cond.selects RX12 yX12_canJudge yX12_canJudge ∈ ab_G := ⟨ab_in 2725 (by decide +kernel) (by decide +kernel), ab_in 2727 (by decide +kernel) (by decide +kernel), ab_in 83 (by decide +kernel) (by decide +kernel)⟩
theorem cnRX12_657 : Cond.constantDouble RX12 657 9221120237041090560 ∈ ab_G := ab_in 2708 (by decide +kernel) (by decide +kernel)
theorem mlRX12_673 : Cond.methodLink RX12 673 yX12_judged ∈ ab_G ∧ Cond.instanceMethod yX12_judged ∈ ab_G ∧ Cond.selects RX12 yX12_judged yX12_judged ∈ ab_G := ⟨ab_in 2730 (by decide +kernel) (by decide +kernel), ab_in 2732 (by decide +kernel) (by decide +kernel), ab_in 84 (by decide +kernel) (by decide +kernel)⟩
abbrev MX12_judge : ab_M := (yX12_judge, cX12_judge, 4, (some .double))
theorem dX12_judge_0 : decode cX12_judge 0 = .ok (.aload_n 0, 1) := by decide +kernel
theorem dX12_judge_1 : decode cX12_judge 1 = .ok (.iload_n 1, 1) := by decide +kernel
theorem dX12_judge_2 : decode cX12_judge 2 = .ok (.iload_n 2, 1) := by decide +kernel
theorem dX12_judge_3 : decode cX12_judge 3 = .ok (.iload_n 3, 1) := by decide +kernel
theorem dX12_judge_4 : decode cX12_judge 4 = .ok (.invokevirtual 670, 3) := by decide +kernel
theorem dX12_judge_7 : decode cX12_judge 7 = .ok (.ifCond .eq 13, 3) := by decide +kernel
theorem dX12_judge_10 : decode cX12_judge 10 = .ok (.aload_n 0, 1) := by decide +kernel
theorem dX12_judge_11 : decode cX12_judge 11 = .ok (.iload_n 1, 1) := by decide +kernel
theorem dX12_judge_12 : decode cX12_judge 12 = .ok (.iload_n 2, 1) := by decide +kernel
theorem dX12_judge_13 : decode cX12_judge 13 = .ok (.iload_n 3, 1) := by decide +kernel
theorem dX12_judge_14 : decode cX12_judge 14 = .ok (.invokevirtual 673, 3) := by decide +kernel
theorem dX12_judge_17 : decode cX12_judge 17 = .ok (.goto 6, 3) := by decide +kernel
theorem dX12_judge_20 : decode cX12_judge 20 = .ok (.ldc2_w 657, 3) := by decide +kernel
theorem dX12_judge_23 : decode cX12_judge 23 = .ok (.dreturn, 1) := by decide +kernel
theorem okX12_judge : ab_okM MX12_judge 3 := ⟨by decide, ⟨by decide, by decide⟩, ab_in 2724 (by decide +kernel) (by decide +kernel), ab_in 99 (by decide +kernel) (by decide +kernel), by decide +kernel, by decide⟩
set_option maxHeartbeats 4000000 in
set_option maxRecDepth 100000 in
theorem sX12_judge (v1 : Int32) (v2 : Int32) (v3 : Int32)  (x : ab_X) (K : UInt64 → ab_X → Prop) (d bc bs : Nat) (hdp : 3 ≤ d) (h : wX12_judge v1 v2 v3 x K) : EW MX12_judge 0 [(0, .ref 246), (1, .int v1), (2, .int v2), (3, .int v3)] [] (aS x) d bc bs (liDI K) := by
  unfold wX12_judge at h
  refine EW_aload_n (pc2 := 1) rfl dX12_judge_0 0 rfl ?_
  refine EW_iload_n (pc2 := 2) rfl dX12_judge_1 1 rfl ?_
  refine EW_iload_n (pc2 := 3) rfl dX12_judge_2 2 rfl ?_
  refine EW_iload_n (pc2 := 4) rfl dX12_judge_3 3 rfl ?_
  refine AW_invV (M' := MX12_canJudge) [.int v1, .int v2, .int v3] (rest := []) mlRX12_670 okX12_canJudge (pc2 := 7) rfl dX12_judge_4 rfl rfl (Nat.le_of_ble_eq_true rfl) (Nat.le_of_ble_eq_true rfl) (d' := 1) (by omega) q246 ⟨by decide, rfl⟩ (EW_mono (fun _ _ hr => ?_) (sX12_canJudge v1 v2 v3  x _ _ 0 0 (Nat.le_refl _) h))
  obtain ⟨r1, x2, rfl, rfl, h⟩ := hr
  refine EW_if_eq (tgt := 20) (pc2 := 10) rfl dX12_judge_7 (by decide) (fun q => ?_) (fun q => ?_)
  · replace h := h.1 q
    refine EW_ldc2d cnRX12_657 (pc2 := 23) rfl dX12_judge_20 ?_
    exact EW_dret rfl dX12_judge_23 ⟨_, _, rfl, rfl, h⟩
  · replace h := h.2 q
    refine EW_aload_n (pc2 := 11) rfl dX12_judge_10 0 rfl ?_
    refine EW_iload_n (pc2 := 12) rfl dX12_judge_11 1 rfl ?_
    refine EW_iload_n (pc2 := 13) rfl dX12_judge_12 2 rfl ?_
    refine EW_iload_n (pc2 := 14) rfl dX12_judge_13 3 rfl ?_
    refine AW_invV (M' := MX12_judged) [.int v1, .int v2, .int v3] (rest := []) mlRX12_673 okX12_judged (pc2 := 17) rfl dX12_judge_14 rfl rfl (Nat.le_of_ble_eq_true rfl) (Nat.le_of_ble_eq_true rfl) (d' := 2) (by omega) q246 ⟨by decide, rfl⟩ (EW_mono (fun _ _ hr => ?_) (sX12_judged v1 v2 v3  x2 _ _ 0 0 (Nat.le_refl _) h))
    obtain ⟨r3, rfl, rfl, h⟩ := hr
    refine EW_goto (tgt := 23) dX12_judge_17 (by decide) ?_
    exact EW_dret rfl dX12_judge_23 ⟨_, _, rfl, rfl, h⟩
theorem gfRX12_201 : ab_L RX12 201 12 73 := ⟨by decide, by decide, ab_in 1922 (by decide +kernel) (by decide +kernel)⟩
theorem gfRX12_177 : ab_L RX12 177 12 62 := ⟨by decide, by decide, ab_in 1911 (by decide +kernel) (by decide +kernel)⟩
abbrev MX12_leaves : ab_M := (yX12_leaves, cX12_leaves, 5, (some .boolean))
theorem dX12_leaves_0 : decode cX12_leaves 0 = .ok (.aload_n 0, 1) := by decide +kernel
theorem dX12_leaves_1 : decode cX12_leaves 1 = .ok (.getfield 201, 3) := by decide +kernel
theorem dX12_leaves_4 : decode cX12_leaves 4 = .ok (.iconst (-1), 1) := by decide +kernel
theorem dX12_leaves_5 : decode cX12_leaves 5 = .ok (.if_icmp .ne 5, 3) := by decide +kernel
theorem dX12_leaves_8 : decode cX12_leaves 8 = .ok (.iconst 0, 1) := by decide +kernel
theorem dX12_leaves_9 : decode cX12_leaves 9 = .ok (.ireturn, 1) := by decide +kernel
theorem dX12_leaves_10 : decode cX12_leaves 10 = .ok (.aload_n 0, 1) := by decide +kernel
theorem dX12_leaves_11 : decode cX12_leaves 11 = .ok (.iload_n 2, 1) := by decide +kernel
theorem dX12_leaves_12 : decode cX12_leaves 12 = .ok (.iload_n 3, 1) := by decide +kernel
theorem dX12_leaves_13 : decode cX12_leaves 13 = .ok (.invokevirtual 345, 3) := by decide +kernel
theorem dX12_leaves_16 : decode cX12_leaves 16 = .ok (.istore 4, 2) := by decide +kernel
theorem dX12_leaves_18 : decode cX12_leaves 18 = .ok (.aload_n 0, 1) := by decide +kernel
theorem dX12_leaves_19 : decode cX12_leaves 19 = .ok (.getfield 192, 3) := by decide +kernel
theorem dX12_leaves_22 : decode cX12_leaves 22 = .ok (.bipush 118, 2) := by decide +kernel
theorem dX12_leaves_24 : decode cX12_leaves 24 = .ok (.iload 4, 2) := by decide +kernel
theorem dX12_leaves_26 : decode cX12_leaves 26 = .ok (.iastore, 1) := by decide +kernel
theorem dX12_leaves_27 : decode cX12_leaves 27 = .ok (.aload_n 0, 1) := by decide +kernel
theorem dX12_leaves_28 : decode cX12_leaves 28 = .ok (.getfield 192, 3) := by decide +kernel
theorem dX12_leaves_31 : decode cX12_leaves 31 = .ok (.bipush 98, 2) := by decide +kernel
theorem dX12_leaves_33 : decode cX12_leaves 33 = .ok (.bipush 100, 2) := by decide +kernel
theorem dX12_leaves_35 : decode cX12_leaves 35 = .ok (.aload_n 0, 1) := by decide +kernel
theorem dX12_leaves_36 : decode cX12_leaves 36 = .ok (.iload_n 2, 1) := by decide +kernel
theorem dX12_leaves_37 : decode cX12_leaves 37 = .ok (.iload 4, 2) := by decide +kernel
theorem dX12_leaves_39 : decode cX12_leaves 39 = .ok (.invokevirtual 360, 3) := by decide +kernel
theorem dX12_leaves_42 : decode cX12_leaves 42 = .ok (.imul, 1) := by decide +kernel
theorem dX12_leaves_43 : decode cX12_leaves 43 = .ok (.aload_n 0, 1) := by decide +kernel
theorem dX12_leaves_44 : decode cX12_leaves 44 = .ok (.iload_n 2, 1) := by decide +kernel
theorem dX12_leaves_45 : decode cX12_leaves 45 = .ok (.invokevirtual 379, 3) := by decide +kernel
theorem dX12_leaves_48 : decode cX12_leaves 48 = .ok (.idiv, 1) := by decide +kernel
theorem dX12_leaves_49 : decode cX12_leaves 49 = .ok (.iastore, 1) := by decide +kernel
theorem dX12_leaves_50 : decode cX12_leaves 50 = .ok (.aload_n 0, 1) := by decide +kernel
theorem dX12_leaves_51 : decode cX12_leaves 51 = .ok (.getfield 192, 3) := by decide +kernel
theorem dX12_leaves_54 : decode cX12_leaves 54 = .ok (.bipush 101, 2) := by decide +kernel
theorem dX12_leaves_56 : decode cX12_leaves 56 = .ok (.aload_n 0, 1) := by decide +kernel
theorem dX12_leaves_57 : decode cX12_leaves 57 = .ok (.getfield 395, 3) := by decide +kernel
theorem dX12_leaves_60 : decode cX12_leaves 60 = .ok (.aload_n 0, 1) := by decide +kernel
theorem dX12_leaves_61 : decode cX12_leaves 61 = .ok (.getfield 149, 3) := by decide +kernel
theorem dX12_leaves_64 : decode cX12_leaves 64 = .ok (.iload_n 1, 1) := by decide +kernel
theorem dX12_leaves_65 : decode cX12_leaves 65 = .ok (.iaload, 1) := by decide +kernel
theorem dX12_leaves_66 : decode cX12_leaves 66 = .ok (.isub, 1) := by decide +kernel
theorem dX12_leaves_67 : decode cX12_leaves 67 = .ok (.iastore, 1) := by decide +kernel
theorem dX12_leaves_68 : decode cX12_leaves 68 = .ok (.aload_n 0, 1) := by decide +kernel
theorem dX12_leaves_69 : decode cX12_leaves 69 = .ok (.getfield 192, 3) := by decide +kernel
theorem dX12_leaves_72 : decode cX12_leaves 72 = .ok (.bipush 116, 2) := by decide +kernel
theorem dX12_leaves_74 : decode cX12_leaves 74 = .ok (.aload_n 0, 1) := by decide +kernel
theorem dX12_leaves_75 : decode cX12_leaves 75 = .ok (.getfield 68, 3) := by decide +kernel
theorem dX12_leaves_78 : decode cX12_leaves 78 = .ok (.bipush 24, 2) := by decide +kernel
theorem dX12_leaves_80 : decode cX12_leaves 80 = .ok (.iload_n 2, 1) := by decide +kernel
theorem dX12_leaves_81 : decode cX12_leaves 81 = .ok (.imul, 1) := by decide +kernel
theorem dX12_leaves_82 : decode cX12_leaves 82 = .ok (.iload_n 3, 1) := by decide +kernel
theorem dX12_leaves_83 : decode cX12_leaves 83 = .ok (.iadd, 1) := by decide +kernel
theorem dX12_leaves_84 : decode cX12_leaves 84 = .ok (.iaload, 1) := by decide +kernel
theorem dX12_leaves_85 : decode cX12_leaves 85 = .ok (.iastore, 1) := by decide +kernel
theorem dX12_leaves_86 : decode cX12_leaves 86 = .ok (.aload_n 0, 1) := by decide +kernel
theorem dX12_leaves_87 : decode cX12_leaves 87 = .ok (.getfield 192, 3) := by decide +kernel
theorem dX12_leaves_90 : decode cX12_leaves 90 = .ok (.bipush 109, 2) := by decide +kernel
theorem dX12_leaves_92 : decode cX12_leaves 92 = .ok (.aload_n 0, 1) := by decide +kernel
theorem dX12_leaves_93 : decode cX12_leaves 93 = .ok (.getfield 116, 3) := by decide +kernel
theorem dX12_leaves_96 : decode cX12_leaves 96 = .ok (.iload_n 1, 1) := by decide +kernel
theorem dX12_leaves_97 : decode cX12_leaves 97 = .ok (.iaload, 1) := by decide +kernel
theorem dX12_leaves_98 : decode cX12_leaves 98 = .ok (.iastore, 1) := by decide +kernel
theorem dX12_leaves_99 : decode cX12_leaves 99 = .ok (.aload_n 0, 1) := by decide +kernel
theorem dX12_leaves_100 : decode cX12_leaves 100 = .ok (.getfield 192, 3) := by decide +kernel
theorem dX12_leaves_103 : decode cX12_leaves 103 = .ok (.bipush 103, 2) := by decide +kernel
theorem dX12_leaves_105 : decode cX12_leaves 105 = .ok (.aload_n 0, 1) := by decide +kernel
theorem dX12_leaves_106 : decode cX12_leaves 106 = .ok (.iload_n 2, 1) := by decide +kernel
theorem dX12_leaves_107 : decode cX12_leaves 107 = .ok (.invokevirtual 351, 3) := by decide +kernel
theorem dX12_leaves_110 : decode cX12_leaves 110 = .ok (.iastore, 1) := by decide +kernel
theorem dX12_leaves_111 : decode cX12_leaves 111 = .ok (.aload_n 0, 1) := by decide +kernel
theorem dX12_leaves_112 : decode cX12_leaves 112 = .ok (.iconst 1, 1) := by decide +kernel
theorem dX12_leaves_113 : decode cX12_leaves 113 = .ok (.aload_n 0, 1) := by decide +kernel
theorem dX12_leaves_114 : decode cX12_leaves 114 = .ok (.getfield 177, 3) := by decide +kernel
theorem dX12_leaves_117 : decode cX12_leaves 117 = .ok (.iconst 0, 1) := by decide +kernel
theorem dX12_leaves_118 : decode cX12_leaves 118 = .ok (.aload_n 0, 1) := by decide +kernel
theorem dX12_leaves_119 : decode cX12_leaves 119 = .ok (.getfield 201, 3) := by decide +kernel
theorem dX12_leaves_122 : decode cX12_leaves 122 = .ok (.invokevirtual 513, 3) := by decide +kernel
theorem dX12_leaves_125 : decode cX12_leaves 125 = .ok (.ireturn, 1) := by decide +kernel
theorem okX12_leaves : ab_okM MX12_leaves 3 := ⟨by decide, ⟨by decide, by decide⟩, ab_in 2582 (by decide +kernel) (by decide +kernel), ab_in 99 (by decide +kernel) (by decide +kernel), by decide +kernel, by decide⟩
set_option maxHeartbeats 4000000 in
set_option maxRecDepth 100000 in
theorem sX12_leaves (v1 : Int32) (v2 : Int32) (v3 : Int32)  (x : ab_X) (K : Int32 → ab_X → Prop) (d bc bs : Nat) (hdp : 210 ≤ d) (h : wX12_leaves v1 v2 v3 x K) : EW MX12_leaves 0 [(0, .ref 246), (1, .int v1), (2, .int v2), (3, .int v3)] [] (aS x) d bc bs (liI K) := by
  unfold wX12_leaves at h
  refine EW_aload_n (pc2 := 1) rfl dX12_leaves_0 0 rfl ?_
  refine AW_geti ⟨gfRX12_201, rfl⟩ (pc2 := 4) rfl dX12_leaves_1 q246 ?_
  refine EW_iconst (pc2 := 5) (v := (-1)) rfl dX12_leaves_4 (by decide) ?_
  refine EW_icmp_ne (tgt := 10) (pc2 := 8) rfl dX12_leaves_5 (by decide) (fun q => ?_) (fun q => ?_)
  · replace h := h.1 q
    refine EW_aload_n (pc2 := 11) rfl dX12_leaves_10 0 rfl ?_
    refine EW_iload_n (pc2 := 12) rfl dX12_leaves_11 2 rfl ?_
    refine EW_iload_n (pc2 := 13) rfl dX12_leaves_12 3 rfl ?_
    refine AW_invV (M' := MX12_floorOf) [.int v2, .int v3] (rest := []) mlRX12_345 okX12_floorOf (pc2 := 16) rfl dX12_leaves_13 rfl rfl (Nat.le_of_ble_eq_true rfl) (Nat.le_of_ble_eq_true rfl) (d' := 0) (by omega) q246 ⟨by decide, rfl⟩ (EW_mono (fun _ _ hr => ?_) (sX12_floorOf v2 v3  x _ _ 0 0 (Nat.le_refl _) h))
    obtain ⟨r1, rfl, rfl, h⟩ := hr
    refine EW_istore (pc2 := 18) rfl dX12_leaves_16 (by decide) [1, 2, 3, 4, 0] [(0, .ref 246), (1, .int v1), (2, .int v2), (3, .int v3), (4, .int r1)] rfl ?_
    refine EW_aload_n (pc2 := 19) rfl dX12_leaves_18 0 rfl ?_
    refine AW_getr (r := 307) ⟨gfRX12_192, rfl⟩ (pc2 := 22) rfl dX12_leaves_19 q246 rfl ?_
    refine EW_bipush (pc2 := 24) (v := 118) rfl dX12_leaves_22 (by decide) ?_
    refine EW_iload (pc2 := 26) rfl dX12_leaves_24 4 rfl ?_
    obtain ⟨b2, h⟩ := h
    refine AW_iast (pc2 := 27) rfl dX12_leaves_26 q307 b2 ?_
    refine EW_aload_n (pc2 := 28) rfl dX12_leaves_27 0 rfl ?_
    refine AW_getr (r := 307) ⟨gfRX12_192, rfl⟩ (pc2 := 31) rfl dX12_leaves_28 q246 rfl ?_
    refine EW_bipush (pc2 := 33) (v := 98) rfl dX12_leaves_31 (by decide) ?_
    refine EW_bipush (pc2 := 35) (v := 100) rfl dX12_leaves_33 (by decide) ?_
    refine EW_aload_n (pc2 := 36) rfl dX12_leaves_35 0 rfl ?_
    refine EW_iload_n (pc2 := 37) rfl dX12_leaves_36 2 rfl ?_
    refine EW_iload (pc2 := 39) rfl dX12_leaves_37 4 rfl ?_
    refine AW_invV (M' := MX12_loadOf) [.int v2, .int r1] (rest := [.int 100, .int 98, .ref 307]) mlRX12_360 okX12_loadOf (pc2 := 42) rfl dX12_leaves_39 rfl rfl (Nat.le_of_ble_eq_true rfl) (Nat.le_of_ble_eq_true rfl) (d' := 0) (by omega) q246 ⟨by decide, rfl⟩ (EW_mono (fun _ _ hr => ?_) (sX12_loadOf v2 r1  (wr x 307 (Int32.toNatClampNeg 118) r1) _ _ 0 0 (Nat.le_refl _) h))
    obtain ⟨r3, rfl, rfl, h⟩ := hr
    refine EW_imul (pc2 := 43) rfl dX12_leaves_42 ?_
    refine EW_aload_n (pc2 := 44) rfl dX12_leaves_43 0 rfl ?_
    refine EW_iload_n (pc2 := 45) rfl dX12_leaves_44 2 rfl ?_
    refine AW_invV (M' := MX12_bears) [.int v2] (rest := [.int (100 * r3), .int 98, .ref 307]) mlRX12_379 okX12_bears (pc2 := 48) rfl dX12_leaves_45 rfl rfl (Nat.le_of_ble_eq_true rfl) (Nat.le_of_ble_eq_true rfl) (d' := 0) (by omega) q246 ⟨by decide, rfl⟩ (EW_mono (fun _ _ hr => ?_) (sX12_bears v2  (wr x 307 (Int32.toNatClampNeg 118) r1) _ _ 0 0 (Nat.le_refl _) h))
    obtain ⟨r4, rfl, rfl, h⟩ := hr
    obtain ⟨hz, h⟩ := h
    refine EW_idiv (pc2 := 49) rfl dX12_leaves_48 hz ?_
    obtain ⟨b5, h⟩ := h
    refine AW_iast (pc2 := 50) rfl dX12_leaves_49 q307 b5 ?_
    refine EW_aload_n (pc2 := 51) rfl dX12_leaves_50 0 rfl ?_
    refine AW_getr (r := 307) ⟨gfRX12_192, rfl⟩ (pc2 := 54) rfl dX12_leaves_51 q246 rfl ?_
    refine EW_bipush (pc2 := 56) (v := 101) rfl dX12_leaves_54 (by decide) ?_
    refine EW_aload_n (pc2 := 57) rfl dX12_leaves_56 0 rfl ?_
    refine AW_geti ⟨gfRX12_395, rfl⟩ (pc2 := 60) rfl dX12_leaves_57 q246 ?_
    refine EW_aload_n (pc2 := 61) rfl dX12_leaves_60 0 rfl ?_
    refine AW_getr (r := 293) ⟨gfRX12_149, rfl⟩ (pc2 := 64) rfl dX12_leaves_61 q246 rfl ?_
    refine EW_iload_n (pc2 := 65) rfl dX12_leaves_64 1 rfl ?_
    obtain ⟨b6, h⟩ := h
    refine AW_iald (pc2 := 66) rfl dX12_leaves_65 q293 b6 ?_
    refine EW_isub (pc2 := 67) rfl dX12_leaves_66 ?_
    obtain ⟨b7, h⟩ := h
    refine AW_iast (pc2 := 68) rfl dX12_leaves_67 q307 b7 ?_
    refine EW_aload_n (pc2 := 69) rfl dX12_leaves_68 0 rfl ?_
    refine AW_getr (r := 307) ⟨gfRX12_192, rfl⟩ (pc2 := 72) rfl dX12_leaves_69 q246 rfl ?_
    refine EW_bipush (pc2 := 74) (v := 116) rfl dX12_leaves_72 (by decide) ?_
    refine EW_aload_n (pc2 := 75) rfl dX12_leaves_74 0 rfl ?_
    refine AW_getr (r := 266) ⟨gfRX12_68, rfl⟩ (pc2 := 78) rfl dX12_leaves_75 q246 rfl ?_
    refine EW_bipush (pc2 := 80) (v := 24) rfl dX12_leaves_78 (by decide) ?_
    refine EW_iload_n (pc2 := 81) rfl dX12_leaves_80 2 rfl ?_
    refine EW_imul (pc2 := 82) rfl dX12_leaves_81 ?_
    refine EW_iload_n (pc2 := 83) rfl dX12_leaves_82 3 rfl ?_
    refine EW_iadd (pc2 := 84) rfl dX12_leaves_83 ?_
    obtain ⟨b8, h⟩ := h
    refine AW_iald (pc2 := 85) rfl dX12_leaves_84 q266 b8 ?_
    obtain ⟨b9, h⟩ := h
    refine AW_iast (pc2 := 86) rfl dX12_leaves_85 q307 b9 ?_
    refine EW_aload_n (pc2 := 87) rfl dX12_leaves_86 0 rfl ?_
    refine AW_getr (r := 307) ⟨gfRX12_192, rfl⟩ (pc2 := 90) rfl dX12_leaves_87 q246 rfl ?_
    refine EW_bipush (pc2 := 92) (v := 109) rfl dX12_leaves_90 (by decide) ?_
    refine EW_aload_n (pc2 := 93) rfl dX12_leaves_92 0 rfl ?_
    refine AW_getr (r := 282) ⟨gfRX12_116, rfl⟩ (pc2 := 96) rfl dX12_leaves_93 q246 rfl ?_
    refine EW_iload_n (pc2 := 97) rfl dX12_leaves_96 1 rfl ?_
    obtain ⟨b10, h⟩ := h
    refine AW_iald (pc2 := 98) rfl dX12_leaves_97 q282 b10 ?_
    obtain ⟨b11, h⟩ := h
    refine AW_iast (pc2 := 99) rfl dX12_leaves_98 q307 b11 ?_
    refine EW_aload_n (pc2 := 100) rfl dX12_leaves_99 0 rfl ?_
    refine AW_getr (r := 307) ⟨gfRX12_192, rfl⟩ (pc2 := 103) rfl dX12_leaves_100 q246 rfl ?_
    refine EW_bipush (pc2 := 105) (v := 103) rfl dX12_leaves_103 (by decide) ?_
    refine EW_aload_n (pc2 := 106) rfl dX12_leaves_105 0 rfl ?_
    refine EW_iload_n (pc2 := 107) rfl dX12_leaves_106 2 rfl ?_
    refine AW_invV (M' := MX12_burning) [.int v2] (rest := [.int 103, .ref 307]) mlRX12_351 okX12_burning (pc2 := 110) rfl dX12_leaves_107 rfl rfl (Nat.le_of_ble_eq_true rfl) (Nat.le_of_ble_eq_true rfl) (d' := 2) (by omega) q246 ⟨by decide, rfl⟩ (EW_mono (fun _ _ hr => ?_) (sX12_burning v2  (wr (wr (wr (wr (wr x 307 (Int32.toNatClampNeg 118) r1) 307 (Int32.toNatClampNeg 98) ((100 * r3) / r4)) 307 (Int32.toNatClampNeg 101) (((wr (wr x 307 (Int32.toNatClampNeg 118) r1) 307 (Int32.toNatClampNeg 98) ((100 * r3) / r4)).1 246 1) - ((wr (wr x 307 (Int32.toNatClampNeg 118) r1) 307 (Int32.toNatClampNeg 98) ((100 * r3) / r4)).1 293 (Int32.toNatClampNeg v1)))) 307 (Int32.toNatClampNeg 116) ((wr (wr (wr x 307 (Int32.toNatClampNeg 118) r1) 307 (Int32.toNatClampNeg 98) ((100 * r3) / r4)) 307 (Int32.toNatClampNeg 101) (((wr (wr x 307 (Int32.toNatClampNeg 118) r1) 307 (Int32.toNatClampNeg 98) ((100 * r3) / r4)).1 246 1) - ((wr (wr x 307 (Int32.toNatClampNeg 118) r1) 307 (Int32.toNatClampNeg 98) ((100 * r3) / r4)).1 293 (Int32.toNatClampNeg v1)))).1 266 (Int32.toNatClampNeg ((24 * v2) + v3)))) 307 (Int32.toNatClampNeg 109) ((wr (wr (wr (wr x 307 (Int32.toNatClampNeg 118) r1) 307 (Int32.toNatClampNeg 98) ((100 * r3) / r4)) 307 (Int32.toNatClampNeg 101) (((wr (wr x 307 (Int32.toNatClampNeg 118) r1) 307 (Int32.toNatClampNeg 98) ((100 * r3) / r4)).1 246 1) - ((wr (wr x 307 (Int32.toNatClampNeg 118) r1) 307 (Int32.toNatClampNeg 98) ((100 * r3) / r4)).1 293 (Int32.toNatClampNeg v1)))) 307 (Int32.toNatClampNeg 116) ((wr (wr (wr x 307 (Int32.toNatClampNeg 118) r1) 307 (Int32.toNatClampNeg 98) ((100 * r3) / r4)) 307 (Int32.toNatClampNeg 101) (((wr (wr x 307 (Int32.toNatClampNeg 118) r1) 307 (Int32.toNatClampNeg 98) ((100 * r3) / r4)).1 246 1) - ((wr (wr x 307 (Int32.toNatClampNeg 118) r1) 307 (Int32.toNatClampNeg 98) ((100 * r3) / r4)).1 293 (Int32.toNatClampNeg v1)))).1 266 (Int32.toNatClampNeg ((24 * v2) + v3)))).1 282 (Int32.toNatClampNeg v1))) _ _ 0 0 (Nat.le_refl _) h))
    obtain ⟨r12, rfl, rfl, h⟩ := hr
    obtain ⟨b13, h⟩ := h
    refine AW_iast (pc2 := 111) rfl dX12_leaves_110 q307 b13 ?_
    refine EW_aload_n (pc2 := 112) rfl dX12_leaves_111 0 rfl ?_
    refine EW_iconst (pc2 := 113) (v := 1) rfl dX12_leaves_112 (by decide) ?_
    refine EW_aload_n (pc2 := 114) rfl dX12_leaves_113 0 rfl ?_
    refine AW_getr (r := 302) ⟨gfRX12_177, rfl⟩ (pc2 := 117) rfl dX12_leaves_114 q246 rfl ?_
    refine EW_iconst (pc2 := 118) (v := 0) rfl dX12_leaves_117 (by decide) ?_
    refine EW_aload_n (pc2 := 119) rfl dX12_leaves_118 0 rfl ?_
    refine AW_geti ⟨gfRX12_201, rfl⟩ (pc2 := 122) rfl dX12_leaves_119 q246 ?_
    refine AW_invV (M' := MX12_goThrough) [.int 1, .ref 302, .int 0, .int ((wr (wr (wr (wr (wr (wr x 307 (Int32.toNatClampNeg 118) r1) 307 (Int32.toNatClampNeg 98) ((100 * r3) / r4)) 307 (Int32.toNatClampNeg 101) (((wr (wr x 307 (Int32.toNatClampNeg 118) r1) 307 (Int32.toNatClampNeg 98) ((100 * r3) / r4)).1 246 1) - ((wr (wr x 307 (Int32.toNatClampNeg 118) r1) 307 (Int32.toNatClampNeg 98) ((100 * r3) / r4)).1 293 (Int32.toNatClampNeg v1)))) 307 (Int32.toNatClampNeg 116) ((wr (wr (wr x 307 (Int32.toNatClampNeg 118) r1) 307 (Int32.toNatClampNeg 98) ((100 * r3) / r4)) 307 (Int32.toNatClampNeg 101) (((wr (wr x 307 (Int32.toNatClampNeg 118) r1) 307 (Int32.toNatClampNeg 98) ((100 * r3) / r4)).1 246 1) - ((wr (wr x 307 (Int32.toNatClampNeg 118) r1) 307 (Int32.toNatClampNeg 98) ((100 * r3) / r4)).1 293 (Int32.toNatClampNeg v1)))).1 266 (Int32.toNatClampNeg ((24 * v2) + v3)))) 307 (Int32.toNatClampNeg 109) ((wr (wr (wr (wr x 307 (Int32.toNatClampNeg 118) r1) 307 (Int32.toNatClampNeg 98) ((100 * r3) / r4)) 307 (Int32.toNatClampNeg 101) (((wr (wr x 307 (Int32.toNatClampNeg 118) r1) 307 (Int32.toNatClampNeg 98) ((100 * r3) / r4)).1 246 1) - ((wr (wr x 307 (Int32.toNatClampNeg 118) r1) 307 (Int32.toNatClampNeg 98) ((100 * r3) / r4)).1 293 (Int32.toNatClampNeg v1)))) 307 (Int32.toNatClampNeg 116) ((wr (wr (wr x 307 (Int32.toNatClampNeg 118) r1) 307 (Int32.toNatClampNeg 98) ((100 * r3) / r4)) 307 (Int32.toNatClampNeg 101) (((wr (wr x 307 (Int32.toNatClampNeg 118) r1) 307 (Int32.toNatClampNeg 98) ((100 * r3) / r4)).1 246 1) - ((wr (wr x 307 (Int32.toNatClampNeg 118) r1) 307 (Int32.toNatClampNeg 98) ((100 * r3) / r4)).1 293 (Int32.toNatClampNeg v1)))).1 266 (Int32.toNatClampNeg ((24 * v2) + v3)))).1 282 (Int32.toNatClampNeg v1))) 307 (Int32.toNatClampNeg 103) r12).1 246 73)] (rest := []) mlRX12_513 okX12_goThrough (pc2 := 125) rfl dX12_leaves_122 rfl rfl (Nat.le_of_ble_eq_true rfl) (Nat.le_of_ble_eq_true rfl) (d' := 209) (by omega) q246 ⟨by decide, rfl⟩ (EW_mono (fun _ _ hr => ?_) (sX12_goThrough 1 302 0 ((wr (wr (wr (wr (wr (wr x 307 (Int32.toNatClampNeg 118) r1) 307 (Int32.toNatClampNeg 98) ((100 * r3) / r4)) 307 (Int32.toNatClampNeg 101) (((wr (wr x 307 (Int32.toNatClampNeg 118) r1) 307 (Int32.toNatClampNeg 98) ((100 * r3) / r4)).1 246 1) - ((wr (wr x 307 (Int32.toNatClampNeg 118) r1) 307 (Int32.toNatClampNeg 98) ((100 * r3) / r4)).1 293 (Int32.toNatClampNeg v1)))) 307 (Int32.toNatClampNeg 116) ((wr (wr (wr x 307 (Int32.toNatClampNeg 118) r1) 307 (Int32.toNatClampNeg 98) ((100 * r3) / r4)) 307 (Int32.toNatClampNeg 101) (((wr (wr x 307 (Int32.toNatClampNeg 118) r1) 307 (Int32.toNatClampNeg 98) ((100 * r3) / r4)).1 246 1) - ((wr (wr x 307 (Int32.toNatClampNeg 118) r1) 307 (Int32.toNatClampNeg 98) ((100 * r3) / r4)).1 293 (Int32.toNatClampNeg v1)))).1 266 (Int32.toNatClampNeg ((24 * v2) + v3)))) 307 (Int32.toNatClampNeg 109) ((wr (wr (wr (wr x 307 (Int32.toNatClampNeg 118) r1) 307 (Int32.toNatClampNeg 98) ((100 * r3) / r4)) 307 (Int32.toNatClampNeg 101) (((wr (wr x 307 (Int32.toNatClampNeg 118) r1) 307 (Int32.toNatClampNeg 98) ((100 * r3) / r4)).1 246 1) - ((wr (wr x 307 (Int32.toNatClampNeg 118) r1) 307 (Int32.toNatClampNeg 98) ((100 * r3) / r4)).1 293 (Int32.toNatClampNeg v1)))) 307 (Int32.toNatClampNeg 116) ((wr (wr (wr x 307 (Int32.toNatClampNeg 118) r1) 307 (Int32.toNatClampNeg 98) ((100 * r3) / r4)) 307 (Int32.toNatClampNeg 101) (((wr (wr x 307 (Int32.toNatClampNeg 118) r1) 307 (Int32.toNatClampNeg 98) ((100 * r3) / r4)).1 246 1) - ((wr (wr x 307 (Int32.toNatClampNeg 118) r1) 307 (Int32.toNatClampNeg 98) ((100 * r3) / r4)).1 293 (Int32.toNatClampNeg v1)))).1 266 (Int32.toNatClampNeg ((24 * v2) + v3)))).1 282 (Int32.toNatClampNeg v1))) 307 (Int32.toNatClampNeg 103) r12).1 246 73)  (wr (wr (wr (wr (wr (wr x 307 (Int32.toNatClampNeg 118) r1) 307 (Int32.toNatClampNeg 98) ((100 * r3) / r4)) 307 (Int32.toNatClampNeg 101) (((wr (wr x 307 (Int32.toNatClampNeg 118) r1) 307 (Int32.toNatClampNeg 98) ((100 * r3) / r4)).1 246 1) - ((wr (wr x 307 (Int32.toNatClampNeg 118) r1) 307 (Int32.toNatClampNeg 98) ((100 * r3) / r4)).1 293 (Int32.toNatClampNeg v1)))) 307 (Int32.toNatClampNeg 116) ((wr (wr (wr x 307 (Int32.toNatClampNeg 118) r1) 307 (Int32.toNatClampNeg 98) ((100 * r3) / r4)) 307 (Int32.toNatClampNeg 101) (((wr (wr x 307 (Int32.toNatClampNeg 118) r1) 307 (Int32.toNatClampNeg 98) ((100 * r3) / r4)).1 246 1) - ((wr (wr x 307 (Int32.toNatClampNeg 118) r1) 307 (Int32.toNatClampNeg 98) ((100 * r3) / r4)).1 293 (Int32.toNatClampNeg v1)))).1 266 (Int32.toNatClampNeg ((24 * v2) + v3)))) 307 (Int32.toNatClampNeg 109) ((wr (wr (wr (wr x 307 (Int32.toNatClampNeg 118) r1) 307 (Int32.toNatClampNeg 98) ((100 * r3) / r4)) 307 (Int32.toNatClampNeg 101) (((wr (wr x 307 (Int32.toNatClampNeg 118) r1) 307 (Int32.toNatClampNeg 98) ((100 * r3) / r4)).1 246 1) - ((wr (wr x 307 (Int32.toNatClampNeg 118) r1) 307 (Int32.toNatClampNeg 98) ((100 * r3) / r4)).1 293 (Int32.toNatClampNeg v1)))) 307 (Int32.toNatClampNeg 116) ((wr (wr (wr x 307 (Int32.toNatClampNeg 118) r1) 307 (Int32.toNatClampNeg 98) ((100 * r3) / r4)) 307 (Int32.toNatClampNeg 101) (((wr (wr x 307 (Int32.toNatClampNeg 118) r1) 307 (Int32.toNatClampNeg 98) ((100 * r3) / r4)).1 246 1) - ((wr (wr x 307 (Int32.toNatClampNeg 118) r1) 307 (Int32.toNatClampNeg 98) ((100 * r3) / r4)).1 293 (Int32.toNatClampNeg v1)))).1 266 (Int32.toNatClampNeg ((24 * v2) + v3)))).1 282 (Int32.toNatClampNeg v1))) 307 (Int32.toNatClampNeg 103) r12) _ _ 0 0 (Nat.le_refl _) h))
    obtain ⟨r14, x15, rfl, rfl, h⟩ := hr
    obtain ⟨z16, h⟩ := h
    exact AW_zret rfl z16 dX12_leaves_125 ⟨_, _, rfl, rfl, h⟩
  · replace h := h.2 q
    refine EW_iconst (pc2 := 9) (v := 0) rfl dX12_leaves_8 (by decide) ?_
    exact AW_zret rfl isB0 dX12_leaves_9 ⟨_, _, rfl, rfl, h⟩
abbrev MX12_leaving : ab_M := (yX12_leaving, cX12_leaving, 2, (some .boolean))
theorem dX12_leaving_0 : decode cX12_leaving 0 = .ok (.aload_n 0, 1) := by decide +kernel
theorem dX12_leaving_1 : decode cX12_leaving 1 = .ok (.iconst 1, 1) := by decide +kernel
theorem dX12_leaving_2 : decode cX12_leaving 2 = .ok (.invokevirtual 517, 3) := by decide +kernel
theorem dX12_leaving_5 : decode cX12_leaving 5 = .ok (.iconst (-1), 1) := by decide +kernel
theorem dX12_leaving_6 : decode cX12_leaving 6 = .ok (.if_icmp .eq 5, 3) := by decide +kernel
theorem dX12_leaving_9 : decode cX12_leaving 9 = .ok (.iconst 0, 1) := by decide +kernel
theorem dX12_leaving_10 : decode cX12_leaving 10 = .ok (.ireturn, 1) := by decide +kernel
theorem dX12_leaving_11 : decode cX12_leaving 11 = .ok (.iconst 0, 1) := by decide +kernel
theorem dX12_leaving_12 : decode cX12_leaving 12 = .ok (.istore_n 1, 1) := by decide +kernel
theorem dX12_leaving_13 : decode cX12_leaving 13 = .ok (.iload_n 1, 1) := by decide +kernel
theorem dX12_leaving_14 : decode cX12_leaving 14 = .ok (.aload_n 0, 1) := by decide +kernel
theorem dX12_leaving_15 : decode cX12_leaving 15 = .ok (.getfield 414, 3) := by decide +kernel
theorem dX12_leaving_18 : decode cX12_leaving 18 = .ok (.if_icmp .ge 21, 3) := by decide +kernel
theorem dX12_leaving_21 : decode cX12_leaving 21 = .ok (.aload_n 0, 1) := by decide +kernel
theorem dX12_leaving_22 : decode cX12_leaving 22 = .ok (.getfield 177, 3) := by decide +kernel
theorem dX12_leaving_25 : decode cX12_leaving 25 = .ok (.iload_n 1, 1) := by decide +kernel
theorem dX12_leaving_26 : decode cX12_leaving 26 = .ok (.aload_n 0, 1) := by decide +kernel
theorem dX12_leaving_27 : decode cX12_leaving 27 = .ok (.getfield 167, 3) := by decide +kernel
theorem dX12_leaving_30 : decode cX12_leaving 30 = .ok (.iload_n 1, 1) := by decide +kernel
theorem dX12_leaving_31 : decode cX12_leaving 31 = .ok (.baload, 1) := by decide +kernel
theorem dX12_leaving_32 : decode cX12_leaving 32 = .ok (.bastore, 1) := by decide +kernel
theorem dX12_leaving_33 : decode cX12_leaving 33 = .ok (.iinc 1 1, 3) := by decide +kernel
theorem dX12_leaving_36 : decode cX12_leaving 36 = .ok (.goto (-23), 3) := by decide +kernel
theorem dX12_leaving_39 : decode cX12_leaving 39 = .ok (.aload_n 0, 1) := by decide +kernel
theorem dX12_leaving_40 : decode cX12_leaving 40 = .ok (.aload_n 0, 1) := by decide +kernel
theorem dX12_leaving_41 : decode cX12_leaving 41 = .ok (.getfield 414, 3) := by decide +kernel
theorem dX12_leaving_44 : decode cX12_leaving 44 = .ok (.putfield 201, 3) := by decide +kernel
theorem dX12_leaving_47 : decode cX12_leaving 47 = .ok (.aload_n 0, 1) := by decide +kernel
theorem dX12_leaving_48 : decode cX12_leaving 48 = .ok (.iconst 0, 1) := by decide +kernel
theorem dX12_leaving_49 : decode cX12_leaving 49 = .ok (.putfield 414, 3) := by decide +kernel
theorem dX12_leaving_52 : decode cX12_leaving 52 = .ok (.iconst 1, 1) := by decide +kernel
theorem dX12_leaving_53 : decode cX12_leaving 53 = .ok (.ireturn, 1) := by decide +kernel
theorem okX12_leaving : ab_okM MX12_leaving 0 := ⟨by decide, ⟨by decide, by decide⟩, ab_in 2486 (by decide +kernel) (by decide +kernel), ab_in 99 (by decide +kernel) (by decide +kernel), by decide +kernel, by decide⟩
set_option maxHeartbeats 4000000 in
set_option maxRecDepth 100000 in
theorem sX12_leaving_13 (v1 : Int32)  (x : ab_X) (K : Int32 → ab_X → Prop)  (d bc bs : Nat) (hdp : 211 ≤ d)  (h : Lp2 (lX12_leaving_13  K ) v1 x) : EW MX12_leaving 13 [(0, .ref 246), (1, .int v1)] [] (aS x) d bc bs (liI K) := by
  refine Lp2.use (P := fun v1 x => EW MX12_leaving 13 [(0, .ref 246), (1, .int v1)] [] (aS x) d bc bs (liI K)) (fun L13 v1 x hL13 h => ?_) v1 x h
  unfold lX12_leaving_13 at h
  refine EW_iload_n (pc2 := 14) rfl dX12_leaving_13 1 rfl ?_
  refine EW_aload_n (pc2 := 15) rfl dX12_leaving_14 0 rfl ?_
  refine AW_geti ⟨gfRX12_414, rfl⟩ (pc2 := 18) rfl dX12_leaving_15 q246 ?_
  refine EW_icmp_ge (tgt := 39) (pc2 := 21) rfl dX12_leaving_18 (by decide) (fun q => ?_) (fun q => ?_)
  · replace h := h.1 q
    refine EW_aload_n (pc2 := 40) rfl dX12_leaving_39 0 rfl ?_
    refine EW_aload_n (pc2 := 41) rfl dX12_leaving_40 0 rfl ?_
    refine AW_geti ⟨gfRX12_414, rfl⟩ (pc2 := 44) rfl dX12_leaving_41 q246 ?_
    refine AW_puti ⟨gfRX12_201, rfl, rfl⟩ (pc2 := 47) rfl dX12_leaving_44 q246 ?_
    refine EW_aload_n (pc2 := 48) rfl dX12_leaving_47 0 rfl ?_
    refine EW_iconst (pc2 := 49) (v := 0) rfl dX12_leaving_48 (by decide) ?_
    refine AW_puti ⟨gfRX12_414, rfl, rfl⟩ (pc2 := 52) rfl dX12_leaving_49 q246 ?_
    refine EW_iconst (pc2 := 53) (v := 1) rfl dX12_leaving_52 (by decide) ?_
    exact AW_zret rfl isB1 dX12_leaving_53 ⟨_, _, rfl, rfl, h⟩
  · replace h := h.2 q
    refine EW_aload_n (pc2 := 22) rfl dX12_leaving_21 0 rfl ?_
    refine AW_getr (r := 302) ⟨gfRX12_177, rfl⟩ (pc2 := 25) rfl dX12_leaving_22 q246 rfl ?_
    refine EW_iload_n (pc2 := 26) rfl dX12_leaving_25 1 rfl ?_
    refine EW_aload_n (pc2 := 27) rfl dX12_leaving_26 0 rfl ?_
    refine AW_getr (r := 299) ⟨gfRX12_167, rfl⟩ (pc2 := 30) rfl dX12_leaving_27 q246 rfl ?_
    refine EW_iload_n (pc2 := 31) rfl dX12_leaving_30 1 rfl ?_
    obtain ⟨b3, h⟩ := h
    refine AW_bald (pc2 := 32) rfl dX12_leaving_31 q299 b3 ?_
    obtain ⟨b4, h⟩ := h
    refine AW_bast (pc2 := 33) rfl dX12_leaving_32 q302 b4 ?_
    refine EW_iinc (v1 + 1) (pc2 := 36) rfl dX12_leaving_33 1 rfl rfl (by decide) [1, 0] [(0, .ref 246), (1, .int (v1 + 1))] rfl ?_
    refine EW_goto (tgt := 13) dX12_leaving_36 (by decide) ?_
    exact hL13 (v1 + 1) (wr x 302 (Int32.toNatClampNeg v1) (vp_nar .byte (x.1 299 (Int32.toNatClampNeg v1)))) h
set_option maxHeartbeats 4000000 in
set_option maxRecDepth 100000 in
theorem sX12_leaving   (x : ab_X) (K : Int32 → ab_X → Prop) (d bc bs : Nat) (hdp : 211 ≤ d) (h : wX12_leaving  x K) : EW MX12_leaving 0 [(0, .ref 246)] [] (aS x) d bc bs (liI K) := by
  unfold wX12_leaving at h
  refine EW_aload_n (pc2 := 1) rfl dX12_leaving_0 0 rfl ?_
  refine EW_iconst (pc2 := 2) (v := 1) rfl dX12_leaving_1 (by decide) ?_
  refine AW_invV (M' := MX12_fault) [.int 1] (rest := []) mlRX12_517 okX12_fault (pc2 := 5) rfl dX12_leaving_2 rfl rfl (Nat.le_of_ble_eq_true rfl) (Nat.le_of_ble_eq_true rfl) (d' := 210) (by omega) q246 ⟨by decide, rfl⟩ (EW_mono (fun _ _ hr => ?_) (sX12_fault 1  x _ _ 0 0 (Nat.le_refl _) h))
  obtain ⟨r1, x2, rfl, rfl, h⟩ := hr
  refine EW_iconst (pc2 := 6) (v := (-1)) rfl dX12_leaving_5 (by decide) ?_
  refine EW_icmp_eq (tgt := 11) (pc2 := 9) rfl dX12_leaving_6 (by decide) (fun q => ?_) (fun q => ?_)
  · replace h := h.1 q
    refine EW_iconst (pc2 := 12) (v := 0) rfl dX12_leaving_11 (by decide) ?_
    refine EW_istore_n (pc2 := 13) rfl dX12_leaving_12 (by decide) [1, 0] [(0, .ref 246), (1, .int 0)] rfl ?_
    exact sX12_leaving_13 0 x2 K d bc bs hdp h
  · replace h := h.2 q
    refine EW_iconst (pc2 := 10) (v := 0) rfl dX12_leaving_9 (by decide) ?_
    exact AW_zret rfl isB0 dX12_leaving_10 ⟨_, _, rfl, rfl, h⟩
theorem mlRX12_354 : Cond.methodLink RX12 354 yX12_isRoom ∈ ab_G ∧ Cond.instanceMethod yX12_isRoom ∈ ab_G ∧ Cond.selects RX12 yX12_isRoom yX12_isRoom ∈ ab_G := ⟨ab_in 2308 (by decide +kernel) (by decide +kernel), ab_in 2310 (by decide +kernel) (by decide +kernel), ab_in 25 (by decide +kernel) (by decide +kernel)⟩
abbrev MX12_light : ab_M := (yX12_light, cX12_light, 3, (some .boolean))
theorem dX12_light_0 : decode cX12_light 0 = .ok (.aload_n 0, 1) := by decide +kernel
theorem dX12_light_1 : decode cX12_light 1 = .ok (.iconst 0, 1) := by decide +kernel
theorem dX12_light_2 : decode cX12_light 2 = .ok (.putfield 297, 3) := by decide +kernel
theorem dX12_light_5 : decode cX12_light 5 = .ok (.aload_n 0, 1) := by decide +kernel
theorem dX12_light_6 : decode cX12_light 6 = .ok (.iload_n 1, 1) := by decide +kernel
theorem dX12_light_7 : decode cX12_light 7 = .ok (.iload_n 2, 1) := by decide +kernel
theorem dX12_light_8 : decode cX12_light 8 = .ok (.invokevirtual 354, 3) := by decide +kernel
theorem dX12_light_11 : decode cX12_light 11 = .ok (.ifCond .eq 22, 3) := by decide +kernel
theorem dX12_light_14 : decode cX12_light 14 = .ok (.aload_n 0, 1) := by decide +kernel
theorem dX12_light_15 : decode cX12_light 15 = .ok (.getfield 92, 3) := by decide +kernel
theorem dX12_light_18 : decode cX12_light 18 = .ok (.bipush 6, 2) := by decide +kernel
theorem dX12_light_20 : decode cX12_light 20 = .ok (.iload_n 1, 1) := by decide +kernel
theorem dX12_light_21 : decode cX12_light 21 = .ok (.imul, 1) := by decide +kernel
theorem dX12_light_22 : decode cX12_light 22 = .ok (.aload_n 0, 1) := by decide +kernel
theorem dX12_light_23 : decode cX12_light 23 = .ok (.iload_n 1, 1) := by decide +kernel
theorem dX12_light_24 : decode cX12_light 24 = .ok (.iload_n 2, 1) := by decide +kernel
theorem dX12_light_25 : decode cX12_light 25 = .ok (.invokevirtual 345, 3) := by decide +kernel
theorem dX12_light_28 : decode cX12_light 28 = .ok (.iadd, 1) := by decide +kernel
theorem dX12_light_29 : decode cX12_light 29 = .ok (.baload, 1) := by decide +kernel
theorem dX12_light_30 : decode cX12_light 30 = .ok (.ifCond .eq 5, 3) := by decide +kernel
theorem dX12_light_33 : decode cX12_light 33 = .ok (.iconst 0, 1) := by decide +kernel
theorem dX12_light_34 : decode cX12_light 34 = .ok (.ireturn, 1) := by decide +kernel
theorem dX12_light_35 : decode cX12_light 35 = .ok (.aload_n 0, 1) := by decide +kernel
theorem dX12_light_36 : decode cX12_light 36 = .ok (.getfield 68, 3) := by decide +kernel
theorem dX12_light_39 : decode cX12_light 39 = .ok (.bipush 24, 2) := by decide +kernel
theorem dX12_light_41 : decode cX12_light 41 = .ok (.iload_n 1, 1) := by decide +kernel
theorem dX12_light_42 : decode cX12_light 42 = .ok (.imul, 1) := by decide +kernel
theorem dX12_light_43 : decode cX12_light 43 = .ok (.iload_n 2, 1) := by decide +kernel
theorem dX12_light_44 : decode cX12_light 44 = .ok (.iadd, 1) := by decide +kernel
theorem dX12_light_45 : decode cX12_light 45 = .ok (.sipush 400, 3) := by decide +kernel
theorem dX12_light_48 : decode cX12_light 48 = .ok (.aload_n 0, 1) := by decide +kernel
theorem dX12_light_49 : decode cX12_light 49 = .ok (.getfield 68, 3) := by decide +kernel
theorem dX12_light_52 : decode cX12_light 52 = .ok (.bipush 24, 2) := by decide +kernel
theorem dX12_light_54 : decode cX12_light 54 = .ok (.iload_n 1, 1) := by decide +kernel
theorem dX12_light_55 : decode cX12_light 55 = .ok (.imul, 1) := by decide +kernel
theorem dX12_light_56 : decode cX12_light 56 = .ok (.iload_n 2, 1) := by decide +kernel
theorem dX12_light_57 : decode cX12_light 57 = .ok (.iadd, 1) := by decide +kernel
theorem dX12_light_58 : decode cX12_light 58 = .ok (.iaload, 1) := by decide +kernel
theorem dX12_light_59 : decode cX12_light 59 = .ok (.invokestatic 357, 3) := by decide +kernel
theorem dX12_light_62 : decode cX12_light 62 = .ok (.iastore, 1) := by decide +kernel
theorem dX12_light_63 : decode cX12_light 63 = .ok (.aload_n 0, 1) := by decide +kernel
theorem dX12_light_64 : decode cX12_light 64 = .ok (.aload_n 0, 1) := by decide +kernel
theorem dX12_light_65 : decode cX12_light 65 = .ok (.getfield 32, 3) := by decide +kernel
theorem dX12_light_68 : decode cX12_light 68 = .ok (.iload_n 1, 1) := by decide +kernel
theorem dX12_light_69 : decode cX12_light 69 = .ok (.iaload, 1) := by decide +kernel
theorem dX12_light_70 : decode cX12_light 70 = .ok (.invokevirtual 341, 3) := by decide +kernel
theorem dX12_light_73 : decode cX12_light 73 = .ok (.iconst 1, 1) := by decide +kernel
theorem dX12_light_74 : decode cX12_light 74 = .ok (.ireturn, 1) := by decide +kernel
theorem okX12_light : ab_okM MX12_light 2 := ⟨by decide, ⟨by decide, by decide⟩, ab_in 2307 (by decide +kernel) (by decide +kernel), ab_in 99 (by decide +kernel) (by decide +kernel), by decide +kernel, by decide⟩
set_option maxHeartbeats 4000000 in
set_option maxRecDepth 100000 in
theorem sX12_light (v1 : Int32) (v2 : Int32)  (x : ab_X) (K : Int32 → ab_X → Prop) (d bc bs : Nat) (hdp : 5 ≤ d) (h : wX12_light v1 v2 x K) : EW MX12_light 0 [(0, .ref 246), (1, .int v1), (2, .int v2)] [] (aS x) d bc bs (liI K) := by
  unfold wX12_light at h
  refine EW_aload_n (pc2 := 1) rfl dX12_light_0 0 rfl ?_
  refine EW_iconst (pc2 := 2) (v := 0) rfl dX12_light_1 (by decide) ?_
  refine AW_puti ⟨gfRX12_297, rfl, rfl⟩ (pc2 := 5) rfl dX12_light_2 q246 ?_
  refine EW_aload_n (pc2 := 6) rfl dX12_light_5 0 rfl ?_
  refine EW_iload_n (pc2 := 7) rfl dX12_light_6 1 rfl ?_
  refine EW_iload_n (pc2 := 8) rfl dX12_light_7 2 rfl ?_
  refine AW_invV (M' := MX12_isRoom) [.int v1, .int v2] (rest := []) mlRX12_354 okX12_isRoom (pc2 := 11) rfl dX12_light_8 rfl rfl (Nat.le_of_ble_eq_true rfl) (Nat.le_of_ble_eq_true rfl) (d' := 1) (by omega) q246 ⟨by decide, rfl⟩ (EW_mono (fun _ _ hr => ?_) (sX12_isRoom v1 v2  (wr x 246 0 0) _ _ 0 0 (Nat.le_refl _) h))
  obtain ⟨r1, rfl, rfl, h⟩ := hr
  refine EW_if_eq (tgt := 33) (pc2 := 14) rfl dX12_light_11 (by decide) (fun q => ?_) (fun q => ?_)
  · replace h := h.1 q
    refine EW_iconst (pc2 := 34) (v := 0) rfl dX12_light_33 (by decide) ?_
    exact AW_zret rfl isB0 dX12_light_34 ⟨_, _, rfl, rfl, h⟩
  · replace h := h.2 q
    refine EW_aload_n (pc2 := 15) rfl dX12_light_14 0 rfl ?_
    refine AW_getr (r := 274) ⟨gfRX12_92, rfl⟩ (pc2 := 18) rfl dX12_light_15 q246 rfl ?_
    refine EW_bipush (pc2 := 20) (v := 6) rfl dX12_light_18 (by decide) ?_
    refine EW_iload_n (pc2 := 21) rfl dX12_light_20 1 rfl ?_
    refine EW_imul (pc2 := 22) rfl dX12_light_21 ?_
    refine EW_aload_n (pc2 := 23) rfl dX12_light_22 0 rfl ?_
    refine EW_iload_n (pc2 := 24) rfl dX12_light_23 1 rfl ?_
    refine EW_iload_n (pc2 := 25) rfl dX12_light_24 2 rfl ?_
    refine AW_invV (M' := MX12_floorOf) [.int v1, .int v2] (rest := [.int (6 * v1), .ref 274]) mlRX12_345 okX12_floorOf (pc2 := 28) rfl dX12_light_25 rfl rfl (Nat.le_of_ble_eq_true rfl) (Nat.le_of_ble_eq_true rfl) (d' := 0) (by omega) q246 ⟨by decide, rfl⟩ (EW_mono (fun _ _ hr => ?_) (sX12_floorOf v1 v2  (wr x 246 0 0) _ _ 0 0 (Nat.le_refl _) h))
    obtain ⟨r2, rfl, rfl, h⟩ := hr
    refine EW_iadd (pc2 := 29) rfl dX12_light_28 ?_
    obtain ⟨b3, h⟩ := h
    refine AW_zald (pc2 := 30) rfl dX12_light_29 q274 b3 ?_
    refine EW_if_eq (tgt := 35) (pc2 := 33) rfl dX12_light_30 (by decide) (fun q => ?_) (fun q => ?_)
    · replace h := h.1 q
      refine EW_aload_n (pc2 := 36) rfl dX12_light_35 0 rfl ?_
      refine AW_getr (r := 266) ⟨gfRX12_68, rfl⟩ (pc2 := 39) rfl dX12_light_36 q246 rfl ?_
      refine EW_bipush (pc2 := 41) (v := 24) rfl dX12_light_39 (by decide) ?_
      refine EW_iload_n (pc2 := 42) rfl dX12_light_41 1 rfl ?_
      refine EW_imul (pc2 := 43) rfl dX12_light_42 ?_
      refine EW_iload_n (pc2 := 44) rfl dX12_light_43 2 rfl ?_
      refine EW_iadd (pc2 := 45) rfl dX12_light_44 ?_
      refine EW_sipush (pc2 := 48) (v := 400) rfl dX12_light_45 (by decide) ?_
      refine EW_aload_n (pc2 := 49) rfl dX12_light_48 0 rfl ?_
      refine AW_getr (r := 266) ⟨gfRX12_68, rfl⟩ (pc2 := 52) rfl dX12_light_49 q246 rfl ?_
      refine EW_bipush (pc2 := 54) (v := 24) rfl dX12_light_52 (by decide) ?_
      refine EW_iload_n (pc2 := 55) rfl dX12_light_54 1 rfl ?_
      refine EW_imul (pc2 := 56) rfl dX12_light_55 ?_
      refine EW_iload_n (pc2 := 57) rfl dX12_light_56 2 rfl ?_
      refine EW_iadd (pc2 := 58) rfl dX12_light_57 ?_
      obtain ⟨b4, h⟩ := h
      refine AW_iald (pc2 := 59) rfl dX12_light_58 q266 b4 ?_
      refine AW_mmax mmRX12_357 (pc2 := 62) rfl dX12_light_59 (Nat.le_of_ble_eq_true rfl) (by omega) ?_
      obtain ⟨b5, h⟩ := h
      refine AW_iast (pc2 := 63) rfl dX12_light_62 q266 b5 ?_
      refine EW_aload_n (pc2 := 64) rfl dX12_light_63 0 rfl ?_
      refine EW_aload_n (pc2 := 65) rfl dX12_light_64 0 rfl ?_
      refine AW_getr (r := 254) ⟨gfRX12_32, rfl⟩ (pc2 := 68) rfl dX12_light_65 q246 rfl ?_
      refine EW_iload_n (pc2 := 69) rfl dX12_light_68 1 rfl ?_
      obtain ⟨b6, h⟩ := h
      refine AW_iald (pc2 := 70) rfl dX12_light_69 q254 b6 ?_
      refine AW_invV (M' := MX12_mark) [.int ((wr (wr x 246 0 0) 266 (Int32.toNatClampNeg ((24 * v1) + v2)) (imax 400 ((wr x 246 0 0).1 266 (Int32.toNatClampNeg ((24 * v1) + v2))))).1 254 (Int32.toNatClampNeg v1))] (rest := []) mlRX12_341 okX12_mark (pc2 := 73) rfl dX12_light_70 rfl rfl (Nat.le_of_ble_eq_true rfl) (Nat.le_of_ble_eq_true rfl) (d' := 4) (by omega) q246 ⟨by decide, rfl⟩ (EW_mono (fun _ _ hr => ?_) (sX12_mark ((wr (wr x 246 0 0) 266 (Int32.toNatClampNeg ((24 * v1) + v2)) (imax 400 ((wr x 246 0 0).1 266 (Int32.toNatClampNeg ((24 * v1) + v2))))).1 254 (Int32.toNatClampNeg v1))  (wr (wr x 246 0 0) 266 (Int32.toNatClampNeg ((24 * v1) + v2)) (imax 400 ((wr x 246 0 0).1 266 (Int32.toNatClampNeg ((24 * v1) + v2))))) _ _ 0 0 (Nat.le_refl _) h))
      obtain ⟨x7, rfl, rfl, h⟩ := hr
      refine EW_iconst (pc2 := 74) (v := 1) rfl dX12_light_73 (by decide) ?_
      exact AW_zret rfl isB1 dX12_light_74 ⟨_, _, rfl, rfl, h⟩
    · replace h := h.2 q
      refine EW_iconst (pc2 := 34) (v := 0) rfl dX12_light_33 (by decide) ?_
      exact AW_zret rfl isB0 dX12_light_34 ⟨_, _, rfl, rfl, h⟩
abbrev MX12_look_ : ab_M := (yX12_look_, cX12_look_, 2, (some .boolean))
theorem dX12_look__0 : decode cX12_look_ 0 = .ok (.aload_n 0, 1) := by decide +kernel
theorem dX12_look__1 : decode cX12_look_ 1 = .ok (.iconst 0, 1) := by decide +kernel
theorem dX12_look__2 : decode cX12_look_ 2 = .ok (.putfield 297, 3) := by decide +kernel
theorem dX12_look__5 : decode cX12_look_ 5 = .ok (.aload_n 0, 1) := by decide +kernel
theorem dX12_look__6 : decode cX12_look_ 6 = .ok (.iload_n 1, 1) := by decide +kernel
theorem dX12_look__7 : decode cX12_look_ 7 = .ok (.iconst (-1), 1) := by decide +kernel
theorem dX12_look__8 : decode cX12_look_ 8 = .ok (.aload_n 0, 1) := by decide +kernel
theorem dX12_look__9 : decode cX12_look_ 9 = .ok (.getfield 395, 3) := by decide +kernel
theorem dX12_look__12 : decode cX12_look_ 12 = .ok (.invokevirtual 599, 3) := by decide +kernel
theorem dX12_look__15 : decode cX12_look_ 15 = .ok (.ireturn, 1) := by decide +kernel
theorem okX12_look_ : ab_okM MX12_look_ 1 := ⟨by decide, ⟨by decide, by decide⟩, ab_in 2630 (by decide +kernel) (by decide +kernel), ab_in 99 (by decide +kernel) (by decide +kernel), by decide +kernel, by decide⟩
set_option maxHeartbeats 4000000 in
set_option maxRecDepth 100000 in
theorem sX12_look_ (v1 : Int32)  (x : ab_X) (K : Int32 → ab_X → Prop) (d bc bs : Nat) (hdp : 2 ≤ d) (h : wX12_look_ v1 x K) : EW MX12_look_ 0 [(0, .ref 246), (1, .int v1)] [] (aS x) d bc bs (liI K) := by
  unfold wX12_look_ at h
  refine EW_aload_n (pc2 := 1) rfl dX12_look__0 0 rfl ?_
  refine EW_iconst (pc2 := 2) (v := 0) rfl dX12_look__1 (by decide) ?_
  refine AW_puti ⟨gfRX12_297, rfl, rfl⟩ (pc2 := 5) rfl dX12_look__2 q246 ?_
  refine EW_aload_n (pc2 := 6) rfl dX12_look__5 0 rfl ?_
  refine EW_iload_n (pc2 := 7) rfl dX12_look__6 1 rfl ?_
  refine EW_iconst (pc2 := 8) (v := (-1)) rfl dX12_look__7 (by decide) ?_
  refine EW_aload_n (pc2 := 9) rfl dX12_look__8 0 rfl ?_
  refine AW_geti ⟨gfRX12_395, rfl⟩ (pc2 := 12) rfl dX12_look__9 q246 ?_
  refine AW_invV (M' := MX12_tell) [.int v1, .int (-1), .int ((wr x 246 0 0).1 246 1)] (rest := []) mlRX12_599 okX12_tell (pc2 := 15) rfl dX12_look__12 rfl rfl (Nat.le_of_ble_eq_true rfl) (Nat.le_of_ble_eq_true rfl) (d' := 1) (by omega) q246 ⟨by decide, rfl⟩ (EW_mono (fun _ _ hr => ?_) (sX12_tell v1 (-1) ((wr x 246 0 0).1 246 1)  (wr x 246 0 0) _ _ 0 0 (Nat.le_refl _) h))
  obtain ⟨r1, x2, rfl, rfl, h⟩ := hr
  obtain ⟨z3, h⟩ := h
  exact AW_zret rfl z3 dX12_look__15 ⟨_, _, rfl, rfl, h⟩
abbrev MX12_lose : ab_M := (yX12_lose, cX12_lose, 2, (some .boolean))
theorem dX12_lose_0 : decode cX12_lose 0 = .ok (.aload_n 0, 1) := by decide +kernel
theorem dX12_lose_1 : decode cX12_lose 1 = .ok (.iconst 0, 1) := by decide +kernel
theorem dX12_lose_2 : decode cX12_lose 2 = .ok (.putfield 297, 3) := by decide +kernel
theorem dX12_lose_5 : decode cX12_lose 5 = .ok (.aload_n 0, 1) := by decide +kernel
theorem dX12_lose_6 : decode cX12_lose 6 = .ok (.iload_n 1, 1) := by decide +kernel
theorem dX12_lose_7 : decode cX12_lose 7 = .ok (.invokevirtual 651, 3) := by decide +kernel
theorem dX12_lose_10 : decode cX12_lose 10 = .ok (.ifCond .eq 12, 3) := by decide +kernel
theorem dX12_lose_13 : decode cX12_lose 13 = .ok (.aload_n 0, 1) := by decide +kernel
theorem dX12_lose_14 : decode cX12_lose 14 = .ok (.getfield 281, 3) := by decide +kernel
theorem dX12_lose_17 : decode cX12_lose 17 = .ok (.iload_n 1, 1) := by decide +kernel
theorem dX12_lose_18 : decode cX12_lose 18 = .ok (.baload, 1) := by decide +kernel
theorem dX12_lose_19 : decode cX12_lose 19 = .ok (.ifCond .eq 5, 3) := by decide +kernel
theorem dX12_lose_22 : decode cX12_lose 22 = .ok (.iconst 0, 1) := by decide +kernel
theorem dX12_lose_23 : decode cX12_lose 23 = .ok (.ireturn, 1) := by decide +kernel
theorem dX12_lose_24 : decode cX12_lose 24 = .ok (.aload_n 0, 1) := by decide +kernel
theorem dX12_lose_25 : decode cX12_lose 25 = .ok (.getfield 281, 3) := by decide +kernel
theorem dX12_lose_28 : decode cX12_lose 28 = .ok (.iload_n 1, 1) := by decide +kernel
theorem dX12_lose_29 : decode cX12_lose 29 = .ok (.iconst 1, 1) := by decide +kernel
theorem dX12_lose_30 : decode cX12_lose 30 = .ok (.bastore, 1) := by decide +kernel
theorem dX12_lose_31 : decode cX12_lose 31 = .ok (.iconst 1, 1) := by decide +kernel
theorem dX12_lose_32 : decode cX12_lose 32 = .ok (.ireturn, 1) := by decide +kernel
theorem okX12_lose : ab_okM MX12_lose 1 := ⟨by decide, ⟨by decide, by decide⟩, ab_in 2713 (by decide +kernel) (by decide +kernel), ab_in 99 (by decide +kernel) (by decide +kernel), by decide +kernel, by decide⟩
set_option maxHeartbeats 4000000 in
set_option maxRecDepth 100000 in
theorem sX12_lose (v1 : Int32)  (x : ab_X) (K : Int32 → ab_X → Prop) (d bc bs : Nat) (hdp : 1 ≤ d) (h : wX12_lose v1 x K) : EW MX12_lose 0 [(0, .ref 246), (1, .int v1)] [] (aS x) d bc bs (liI K) := by
  unfold wX12_lose at h
  refine EW_aload_n (pc2 := 1) rfl dX12_lose_0 0 rfl ?_
  refine EW_iconst (pc2 := 2) (v := 0) rfl dX12_lose_1 (by decide) ?_
  refine AW_puti ⟨gfRX12_297, rfl, rfl⟩ (pc2 := 5) rfl dX12_lose_2 q246 ?_
  refine EW_aload_n (pc2 := 6) rfl dX12_lose_5 0 rfl ?_
  refine EW_iload_n (pc2 := 7) rfl dX12_lose_6 1 rfl ?_
  refine AW_invV (M' := MX12_isRow) [.int v1] (rest := []) mlRX12_651 okX12_isRow (pc2 := 10) rfl dX12_lose_7 rfl rfl (Nat.le_of_ble_eq_true rfl) (Nat.le_of_ble_eq_true rfl) (d' := 0) (by omega) q246 ⟨by decide, rfl⟩ (EW_mono (fun _ _ hr => ?_) (sX12_isRow v1  (wr x 246 0 0) _ _ 0 0 (Nat.le_refl _) h))
  obtain ⟨r1, rfl, rfl, h⟩ := hr
  refine EW_if_eq (tgt := 22) (pc2 := 13) rfl dX12_lose_10 (by decide) (fun q => ?_) (fun q => ?_)
  · replace h := h.1 q
    refine EW_iconst (pc2 := 23) (v := 0) rfl dX12_lose_22 (by decide) ?_
    exact AW_zret rfl isB0 dX12_lose_23 ⟨_, _, rfl, rfl, h⟩
  · replace h := h.2 q
    refine EW_aload_n (pc2 := 14) rfl dX12_lose_13 0 rfl ?_
    refine AW_getr (r := 332) ⟨gfRX12_281, rfl⟩ (pc2 := 17) rfl dX12_lose_14 q246 rfl ?_
    refine EW_iload_n (pc2 := 18) rfl dX12_lose_17 1 rfl ?_
    obtain ⟨b2, h⟩ := h
    refine AW_zald (pc2 := 19) rfl dX12_lose_18 q332 b2 ?_
    refine EW_if_eq (tgt := 24) (pc2 := 22) rfl dX12_lose_19 (by decide) (fun q => ?_) (fun q => ?_)
    · replace h := h.1 q
      refine EW_aload_n (pc2 := 25) rfl dX12_lose_24 0 rfl ?_
      refine AW_getr (r := 332) ⟨gfRX12_281, rfl⟩ (pc2 := 28) rfl dX12_lose_25 q246 rfl ?_
      refine EW_iload_n (pc2 := 29) rfl dX12_lose_28 1 rfl ?_
      refine EW_iconst (pc2 := 30) (v := 1) rfl dX12_lose_29 (by decide) ?_
      obtain ⟨b3, h⟩ := h
      refine AW_zast (pc2 := 31) rfl dX12_lose_30 q332 b3 isB1 ?_
      refine EW_iconst (pc2 := 32) (v := 1) rfl dX12_lose_31 (by decide) ?_
      exact AW_zret rfl isB1 dX12_lose_32 ⟨_, _, rfl, rfl, h⟩
    · replace h := h.2 q
      refine EW_iconst (pc2 := 23) (v := 0) rfl dX12_lose_22 (by decide) ?_
      exact AW_zret rfl isB0 dX12_lose_23 ⟨_, _, rfl, rfl, h⟩
abbrev MX12_loss : ab_M := (yX12_loss, cX12_loss, 5, (some .double))
theorem dX12_loss_0 : decode cX12_loss 0 = .ok (.aload_n 0, 1) := by decide +kernel
theorem dX12_loss_1 : decode cX12_loss 1 = .ok (.iload_n 1, 1) := by decide +kernel
theorem dX12_loss_2 : decode cX12_loss 2 = .ok (.iload_n 2, 1) := by decide +kernel
theorem dX12_loss_3 : decode cX12_loss 3 = .ok (.iload_n 3, 1) := by decide +kernel
theorem dX12_loss_4 : decode cX12_loss 4 = .ok (.invokevirtual 670, 3) := by decide +kernel
theorem dX12_loss_7 : decode cX12_loss 7 = .ok (.ifCond .eq 20, 3) := by decide +kernel
theorem dX12_loss_10 : decode cX12_loss 10 = .ok (.iload 4, 2) := by decide +kernel
theorem dX12_loss_12 : decode cX12_loss 12 = .ok (.invokestatic 303, 3) := by decide +kernel
theorem dX12_loss_15 : decode cX12_loss 15 = .ok (.ifCond .eq 12, 3) := by decide +kernel
theorem dX12_loss_18 : decode cX12_loss 18 = .ok (.iload_n 2, 1) := by decide +kernel
theorem dX12_loss_19 : decode cX12_loss 19 = .ok (.iload 4, 2) := by decide +kernel
theorem dX12_loss_21 : decode cX12_loss 21 = .ok (.ishr, 1) := by decide +kernel
theorem dX12_loss_22 : decode cX12_loss 22 = .ok (.iconst 1, 1) := by decide +kernel
theorem dX12_loss_23 : decode cX12_loss 23 = .ok (.iand, 1) := by decide +kernel
theorem dX12_loss_24 : decode cX12_loss 24 = .ok (.ifCond .ne 7, 3) := by decide +kernel
theorem dX12_loss_27 : decode cX12_loss 27 = .ok (.ldc2_w 657, 3) := by decide +kernel
theorem dX12_loss_30 : decode cX12_loss 30 = .ok (.dreturn, 1) := by decide +kernel
theorem dX12_loss_31 : decode cX12_loss 31 = .ok (.aload_n 0, 1) := by decide +kernel
theorem dX12_loss_32 : decode cX12_loss 32 = .ok (.iload_n 1, 1) := by decide +kernel
theorem dX12_loss_33 : decode cX12_loss 33 = .ok (.iload_n 2, 1) := by decide +kernel
theorem dX12_loss_34 : decode cX12_loss 34 = .ok (.iload_n 3, 1) := by decide +kernel
theorem dX12_loss_35 : decode cX12_loss 35 = .ok (.invokevirtual 673, 3) := by decide +kernel
theorem dX12_loss_38 : decode cX12_loss 38 = .ok (.aload_n 0, 1) := by decide +kernel
theorem dX12_loss_39 : decode cX12_loss 39 = .ok (.iload_n 1, 1) := by decide +kernel
theorem dX12_loss_40 : decode cX12_loss 40 = .ok (.iload_n 2, 1) := by decide +kernel
theorem dX12_loss_41 : decode cX12_loss 41 = .ok (.iconst 1, 1) := by decide +kernel
theorem dX12_loss_42 : decode cX12_loss 42 = .ok (.iload 4, 2) := by decide +kernel
theorem dX12_loss_44 : decode cX12_loss 44 = .ok (.ishl, 1) := by decide +kernel
theorem dX12_loss_45 : decode cX12_loss 45 = .ok (.iconst (-1), 1) := by decide +kernel
theorem dX12_loss_46 : decode cX12_loss 46 = .ok (.ixor, 1) := by decide +kernel
theorem dX12_loss_47 : decode cX12_loss 47 = .ok (.iand, 1) := by decide +kernel
theorem dX12_loss_48 : decode cX12_loss 48 = .ok (.iload_n 3, 1) := by decide +kernel
theorem dX12_loss_49 : decode cX12_loss 49 = .ok (.invokevirtual 673, 3) := by decide +kernel
theorem dX12_loss_52 : decode cX12_loss 52 = .ok (.dsub, 1) := by decide +kernel
theorem dX12_loss_53 : decode cX12_loss 53 = .ok (.dreturn, 1) := by decide +kernel
theorem okX12_loss : ab_okM MX12_loss 4 := ⟨by decide, ⟨by decide, by decide⟩, ab_in 2741 (by decide +kernel) (by decide +kernel), ab_in 99 (by decide +kernel) (by decide +kernel), by decide +kernel, by decide⟩
set_option maxHeartbeats 4000000 in
set_option maxRecDepth 100000 in
theorem sX12_loss (v1 : Int32) (v2 : Int32) (v3 : Int32) (v4 : Int32)  (x : ab_X) (K : UInt64 → ab_X → Prop) (d bc bs : Nat) (hdp : 3 ≤ d) (h : wX12_loss v1 v2 v3 v4 x K) : EW MX12_loss 0 [(0, .ref 246), (1, .int v1), (2, .int v2), (3, .int v3), (4, .int v4)] [] (aS x) d bc bs (liDI K) := by
  unfold wX12_loss at h
  refine EW_aload_n (pc2 := 1) rfl dX12_loss_0 0 rfl ?_
  refine EW_iload_n (pc2 := 2) rfl dX12_loss_1 1 rfl ?_
  refine EW_iload_n (pc2 := 3) rfl dX12_loss_2 2 rfl ?_
  refine EW_iload_n (pc2 := 4) rfl dX12_loss_3 3 rfl ?_
  refine AW_invV (M' := MX12_canJudge) [.int v1, .int v2, .int v3] (rest := []) mlRX12_670 okX12_canJudge (pc2 := 7) rfl dX12_loss_4 rfl rfl (Nat.le_of_ble_eq_true rfl) (Nat.le_of_ble_eq_true rfl) (d' := 1) (by omega) q246 ⟨by decide, rfl⟩ (EW_mono (fun _ _ hr => ?_) (sX12_canJudge v1 v2 v3  x _ _ 0 0 (Nat.le_refl _) h))
  obtain ⟨r1, x2, rfl, rfl, h⟩ := hr
  refine EW_if_eq (tgt := 27) (pc2 := 10) rfl dX12_loss_7 (by decide) (fun q => ?_) (fun q => ?_)
  · replace h := h.1 q
    refine EW_ldc2d cnRX12_657 (pc2 := 30) rfl dX12_loss_27 ?_
    exact EW_dret rfl dX12_loss_30 ⟨_, _, rfl, rfl, h⟩
  · replace h := h.2 q
    refine EW_iload (pc2 := 12) rfl dX12_loss_10 4 rfl ?_
    refine AW_invS (M' := MX12_isCorner) [.int v4] (rest := []) mlRX12_303 okX12_isCorner (pc2 := 15) rfl dX12_loss_12 rfl rfl (Nat.le_of_ble_eq_true rfl) (Nat.le_of_ble_eq_true rfl) (d' := 0) (by omega) (EW_mono (fun _ _ hr => ?_) (sX12_isCorner v4  x2 _ _ 0 0 (Nat.le_refl _) h))
    obtain ⟨r3, rfl, rfl, h⟩ := hr
    refine EW_if_eq (tgt := 27) (pc2 := 18) rfl dX12_loss_15 (by decide) (fun q => ?_) (fun q => ?_)
    · replace h := h.1 q
      refine EW_ldc2d cnRX12_657 (pc2 := 30) rfl dX12_loss_27 ?_
      exact EW_dret rfl dX12_loss_30 ⟨_, _, rfl, rfl, h⟩
    · replace h := h.2 q
      refine EW_iload_n (pc2 := 19) rfl dX12_loss_18 2 rfl ?_
      refine EW_iload (pc2 := 21) rfl dX12_loss_19 4 rfl ?_
      refine EW_ishr (pc2 := 22) rfl dX12_loss_21 ?_
      refine EW_iconst (pc2 := 23) (v := 1) rfl dX12_loss_22 (by decide) ?_
      refine EW_iand (pc2 := 24) rfl dX12_loss_23 ?_
      refine EW_if_ne (tgt := 31) (pc2 := 27) rfl dX12_loss_24 (by decide) (fun q => ?_) (fun q => ?_)
      · replace h := h.1 q
        refine EW_aload_n (pc2 := 32) rfl dX12_loss_31 0 rfl ?_
        refine EW_iload_n (pc2 := 33) rfl dX12_loss_32 1 rfl ?_
        refine EW_iload_n (pc2 := 34) rfl dX12_loss_33 2 rfl ?_
        refine EW_iload_n (pc2 := 35) rfl dX12_loss_34 3 rfl ?_
        refine AW_invV (M' := MX12_judged) [.int v1, .int v2, .int v3] (rest := []) mlRX12_673 okX12_judged (pc2 := 38) rfl dX12_loss_35 rfl rfl (Nat.le_of_ble_eq_true rfl) (Nat.le_of_ble_eq_true rfl) (d' := 2) (by omega) q246 ⟨by decide, rfl⟩ (EW_mono (fun _ _ hr => ?_) (sX12_judged v1 v2 v3  x2 _ _ 0 0 (Nat.le_refl _) h))
        obtain ⟨r4, rfl, rfl, h⟩ := hr
        refine EW_aload_n (pc2 := 39) rfl dX12_loss_38 0 rfl ?_
        refine EW_iload_n (pc2 := 40) rfl dX12_loss_39 1 rfl ?_
        refine EW_iload_n (pc2 := 41) rfl dX12_loss_40 2 rfl ?_
        refine EW_iconst (pc2 := 42) (v := 1) rfl dX12_loss_41 (by decide) ?_
        refine EW_iload (pc2 := 44) rfl dX12_loss_42 4 rfl ?_
        refine EW_ishl (pc2 := 45) rfl dX12_loss_44 ?_
        refine EW_iconst (pc2 := 46) (v := (-1)) rfl dX12_loss_45 (by decide) ?_
        refine EW_ixor (pc2 := 47) rfl dX12_loss_46 ?_
        refine EW_iand (pc2 := 48) rfl dX12_loss_47 ?_
        refine EW_iload_n (pc2 := 49) rfl dX12_loss_48 3 rfl ?_
        refine AW_invV (M' := MX12_judged) [.int v1, .int (v2 &&& ((1 <<< (v4 &&& 31)) ^^^ (-1))), .int v3] (rest := [.double r4]) mlRX12_673 okX12_judged (pc2 := 52) rfl dX12_loss_49 rfl rfl (Nat.le_of_ble_eq_true rfl) (Nat.le_of_ble_eq_true rfl) (d' := 2) (by omega) q246 ⟨by decide, rfl⟩ (EW_mono (fun _ _ hr => ?_) (sX12_judged v1 (v2 &&& ((1 <<< (v4 &&& 31)) ^^^ (-1))) v3  x2 _ _ 0 0 (Nat.le_refl _) h))
        obtain ⟨r5, rfl, rfl, h⟩ := hr
        refine EW_dsub_any (pc2 := 53) rfl dX12_loss_52 (fun r6 qr6 => ?_)
        replace h := h r6 qr6
        exact EW_dret rfl dX12_loss_53 ⟨_, _, rfl, rfl, h⟩
      · replace h := h.2 q
        refine EW_ldc2d cnRX12_657 (pc2 := 30) rfl dX12_loss_27 ?_
        exact EW_dret rfl dX12_loss_30 ⟨_, _, rfl, rfl, h⟩
theorem gfRX12_95 : ab_L RX12 95 12 32 := ⟨by decide, by decide, ab_in 1881 (by decide +kernel) (by decide +kernel)⟩
abbrev MX12_main : ab_M := (yX12_main, cX12_main, 2, (some .int))
theorem dX12_main_0 : decode cX12_main 0 = .ok (.aload_n 0, 1) := by decide +kernel
theorem dX12_main_1 : decode cX12_main 1 = .ok (.iconst 0, 1) := by decide +kernel
theorem dX12_main_2 : decode cX12_main 2 = .ok (.putfield 297, 3) := by decide +kernel
theorem dX12_main_5 : decode cX12_main 5 = .ok (.aload_n 0, 1) := by decide +kernel
theorem dX12_main_6 : decode cX12_main 6 = .ok (.getfield 386, 3) := by decide +kernel
theorem dX12_main_9 : decode cX12_main 9 = .ok (.bipush 6, 2) := by decide +kernel
theorem dX12_main_11 : decode cX12_main 11 = .ok (.if_icmp .eq 15, 3) := by decide +kernel
theorem dX12_main_14 : decode cX12_main 14 = .ok (.iload_n 1, 1) := by decide +kernel
theorem dX12_main_15 : decode cX12_main 15 = .ok (.bipush 10, 2) := by decide +kernel
theorem dX12_main_17 : decode cX12_main 17 = .ok (.sipush 2000, 3) := by decide +kernel
theorem dX12_main_20 : decode cX12_main 20 = .ok (.invokestatic 307, 3) := by decide +kernel
theorem dX12_main_23 : decode cX12_main 23 = .ok (.ifCond .ne 5, 3) := by decide +kernel
theorem dX12_main_26 : decode cX12_main 26 = .ok (.iconst (-1), 1) := by decide +kernel
theorem dX12_main_27 : decode cX12_main 27 = .ok (.ireturn, 1) := by decide +kernel
theorem dX12_main_28 : decode cX12_main 28 = .ok (.aload_n 0, 1) := by decide +kernel
theorem dX12_main_29 : decode cX12_main 29 = .ok (.getfield 95, 3) := by decide +kernel
theorem dX12_main_32 : decode cX12_main 32 = .ok (.aload_n 0, 1) := by decide +kernel
theorem dX12_main_33 : decode cX12_main 33 = .ok (.getfield 386, 3) := by decide +kernel
theorem dX12_main_36 : decode cX12_main 36 = .ok (.iload_n 1, 1) := by decide +kernel
theorem dX12_main_37 : decode cX12_main 37 = .ok (.iastore, 1) := by decide +kernel
theorem dX12_main_38 : decode cX12_main 38 = .ok (.aload_n 0, 1) := by decide +kernel
theorem dX12_main_39 : decode cX12_main 39 = .ok (.dup, 1) := by decide +kernel
theorem dX12_main_40 : decode cX12_main 40 = .ok (.getfield 386, 3) := by decide +kernel
theorem dX12_main_43 : decode cX12_main 43 = .ok (.iconst 1, 1) := by decide +kernel
theorem dX12_main_44 : decode cX12_main 44 = .ok (.iadd, 1) := by decide +kernel
theorem dX12_main_45 : decode cX12_main 45 = .ok (.putfield 386, 3) := by decide +kernel
theorem dX12_main_48 : decode cX12_main 48 = .ok (.aload_n 0, 1) := by decide +kernel
theorem dX12_main_49 : decode cX12_main 49 = .ok (.getfield 386, 3) := by decide +kernel
theorem dX12_main_52 : decode cX12_main 52 = .ok (.iconst 1, 1) := by decide +kernel
theorem dX12_main_53 : decode cX12_main 53 = .ok (.isub, 1) := by decide +kernel
theorem dX12_main_54 : decode cX12_main 54 = .ok (.ireturn, 1) := by decide +kernel
theorem okX12_main : ab_okM MX12_main 1 := ⟨by decide, ⟨by decide, by decide⟩, ab_in 2336 (by decide +kernel) (by decide +kernel), ab_in 99 (by decide +kernel) (by decide +kernel), by decide +kernel, by decide⟩
set_option maxHeartbeats 4000000 in
set_option maxRecDepth 100000 in
theorem sX12_main (v1 : Int32)  (x : ab_X) (K : Int32 → ab_X → Prop) (d bc bs : Nat) (hdp : 1 ≤ d) (h : wX12_main v1 x K) : EW MX12_main 0 [(0, .ref 246), (1, .int v1)] [] (aS x) d bc bs (liI K) := by
  unfold wX12_main at h
  refine EW_aload_n (pc2 := 1) rfl dX12_main_0 0 rfl ?_
  refine EW_iconst (pc2 := 2) (v := 0) rfl dX12_main_1 (by decide) ?_
  refine AW_puti ⟨gfRX12_297, rfl, rfl⟩ (pc2 := 5) rfl dX12_main_2 q246 ?_
  refine EW_aload_n (pc2 := 6) rfl dX12_main_5 0 rfl ?_
  refine AW_geti ⟨gfRX12_386, rfl⟩ (pc2 := 9) rfl dX12_main_6 q246 ?_
  refine EW_bipush (pc2 := 11) (v := 6) rfl dX12_main_9 (by decide) ?_
  refine EW_icmp_eq (tgt := 26) (pc2 := 14) rfl dX12_main_11 (by decide) (fun q => ?_) (fun q => ?_)
  · replace h := h.1 q
    refine EW_iconst (pc2 := 27) (v := (-1)) rfl dX12_main_26 (by decide) ?_
    exact AW_iret rfl dX12_main_27 ⟨_, _, rfl, rfl, h⟩
  · replace h := h.2 q
    refine EW_iload_n (pc2 := 15) rfl dX12_main_14 1 rfl ?_
    refine EW_bipush (pc2 := 17) (v := 10) rfl dX12_main_15 (by decide) ?_
    refine EW_sipush (pc2 := 20) (v := 2000) rfl dX12_main_17 (by decide) ?_
    refine AW_invS (M' := MX12_isIn) [.int v1, .int 10, .int 2000] (rest := []) mlRX12_307 okX12_isIn (pc2 := 23) rfl dX12_main_20 rfl rfl (Nat.le_of_ble_eq_true rfl) (Nat.le_of_ble_eq_true rfl) (d' := 0) (by omega) (EW_mono (fun _ _ hr => ?_) (sX12_isIn v1 10 2000  (wr x 246 0 0) _ _ 0 0 (Nat.le_refl _) h))
    obtain ⟨r1, rfl, rfl, h⟩ := hr
    refine EW_if_ne (tgt := 28) (pc2 := 26) rfl dX12_main_23 (by decide) (fun q => ?_) (fun q => ?_)
    · replace h := h.1 q
      refine EW_aload_n (pc2 := 29) rfl dX12_main_28 0 rfl ?_
      refine AW_getr (r := 275) ⟨gfRX12_95, rfl⟩ (pc2 := 32) rfl dX12_main_29 q246 rfl ?_
      refine EW_aload_n (pc2 := 33) rfl dX12_main_32 0 rfl ?_
      refine AW_geti ⟨gfRX12_386, rfl⟩ (pc2 := 36) rfl dX12_main_33 q246 ?_
      refine EW_iload_n (pc2 := 37) rfl dX12_main_36 1 rfl ?_
      obtain ⟨b2, h⟩ := h
      refine AW_iast (pc2 := 38) rfl dX12_main_37 q275 b2 ?_
      refine EW_aload_n (pc2 := 39) rfl dX12_main_38 0 rfl ?_
      refine EW_dup (pc2 := 40) rfl dX12_main_39 rfl ?_
      refine AW_geti ⟨gfRX12_386, rfl⟩ (pc2 := 43) rfl dX12_main_40 q246 ?_
      refine EW_iconst (pc2 := 44) (v := 1) rfl dX12_main_43 (by decide) ?_
      refine EW_iadd (pc2 := 45) rfl dX12_main_44 ?_
      refine AW_puti ⟨gfRX12_386, rfl, rfl⟩ (pc2 := 48) rfl dX12_main_45 q246 ?_
      refine EW_aload_n (pc2 := 49) rfl dX12_main_48 0 rfl ?_
      refine AW_geti ⟨gfRX12_386, rfl⟩ (pc2 := 52) rfl dX12_main_49 q246 ?_
      refine EW_iconst (pc2 := 53) (v := 1) rfl dX12_main_52 (by decide) ?_
      refine EW_isub (pc2 := 54) rfl dX12_main_53 ?_
      exact AW_iret rfl dX12_main_54 ⟨_, _, rfl, rfl, h⟩
    · replace h := h.2 q
      refine EW_iconst (pc2 := 27) (v := (-1)) rfl dX12_main_26 (by decide) ?_
      exact AW_iret rfl dX12_main_27 ⟨_, _, rfl, rfl, h⟩
theorem mlRX12_408 : Cond.methodLink RX12 408 yX12_headFor ∈ ab_G ∧ Cond.instanceMethod yX12_headFor ∈ ab_G ∧ Cond.selects RX12 yX12_headFor yX12_headFor ∈ ab_G := ⟨ab_in 2385 (by decide +kernel) (by decide +kernel), ab_in 2387 (by decide +kernel) (by decide +kernel), ab_in 33 (by decide +kernel) (by decide +kernel)⟩
abbrev MX12_reachOf : ab_M := (yX12_reachOf, cX12_reachOf, 5, (some .int))
theorem dX12_reachOf_0 : decode cX12_reachOf 0 = .ok (.aload_n 0, 1) := by decide +kernel
theorem dX12_reachOf_1 : decode cX12_reachOf 1 = .ok (.iload_n 2, 1) := by decide +kernel
theorem dX12_reachOf_2 : decode cX12_reachOf 2 = .ok (.invokevirtual 408, 3) := by decide +kernel
theorem dX12_reachOf_5 : decode cX12_reachOf 5 = .ok (.istore_n 3, 1) := by decide +kernel
theorem dX12_reachOf_6 : decode cX12_reachOf 6 = .ok (.aload_n 0, 1) := by decide +kernel
theorem dX12_reachOf_7 : decode cX12_reachOf 7 = .ok (.getfield 107, 3) := by decide +kernel
theorem dX12_reachOf_10 : decode cX12_reachOf 10 = .ok (.iload_n 1, 1) := by decide +kernel
theorem dX12_reachOf_11 : decode cX12_reachOf 11 = .ok (.iaload, 1) := by decide +kernel
theorem dX12_reachOf_12 : decode cX12_reachOf 12 = .ok (.iconst 2, 1) := by decide +kernel
theorem dX12_reachOf_13 : decode cX12_reachOf 13 = .ok (.if_icmp .ge 8, 3) := by decide +kernel
theorem dX12_reachOf_16 : decode cX12_reachOf 16 = .ok (.iload_n 3, 1) := by decide +kernel
theorem dX12_reachOf_17 : decode cX12_reachOf 17 = .ok (.iconst (-1), 1) := by decide +kernel
theorem dX12_reachOf_18 : decode cX12_reachOf 18 = .ok (.if_icmp .ne 5, 3) := by decide +kernel
theorem dX12_reachOf_21 : decode cX12_reachOf 21 = .ok (.iconst (-1), 1) := by decide +kernel
theorem dX12_reachOf_22 : decode cX12_reachOf 22 = .ok (.ireturn, 1) := by decide +kernel
theorem dX12_reachOf_23 : decode cX12_reachOf 23 = .ok (.aload_n 0, 1) := by decide +kernel
theorem dX12_reachOf_24 : decode cX12_reachOf 24 = .ok (.getfield 38, 3) := by decide +kernel
theorem dX12_reachOf_27 : decode cX12_reachOf 27 = .ok (.iload_n 2, 1) := by decide +kernel
theorem dX12_reachOf_28 : decode cX12_reachOf 28 = .ok (.iaload, 1) := by decide +kernel
theorem dX12_reachOf_29 : decode cX12_reachOf 29 = .ok (.iconst 1, 1) := by decide +kernel
theorem dX12_reachOf_30 : decode cX12_reachOf 30 = .ok (.isub, 1) := by decide +kernel
theorem dX12_reachOf_31 : decode cX12_reachOf 31 = .ok (.istore 4, 2) := by decide +kernel
theorem dX12_reachOf_33 : decode cX12_reachOf 33 = .ok (.iload 4, 2) := by decide +kernel
theorem dX12_reachOf_35 : decode cX12_reachOf 35 = .ok (.ifCond .lt 45, 3) := by decide +kernel
theorem dX12_reachOf_38 : decode cX12_reachOf 38 = .ok (.bipush 100, 2) := by decide +kernel
theorem dX12_reachOf_40 : decode cX12_reachOf 40 = .ok (.aload_n 0, 1) := by decide +kernel
theorem dX12_reachOf_41 : decode cX12_reachOf 41 = .ok (.aload_n 0, 1) := by decide +kernel
theorem dX12_reachOf_42 : decode cX12_reachOf 42 = .ok (.getfield 98, 3) := by decide +kernel
theorem dX12_reachOf_45 : decode cX12_reachOf 45 = .ok (.iload_n 3, 1) := by decide +kernel
theorem dX12_reachOf_46 : decode cX12_reachOf 46 = .ok (.iaload, 1) := by decide +kernel
theorem dX12_reachOf_47 : decode cX12_reachOf 47 = .ok (.aload_n 0, 1) := by decide +kernel
theorem dX12_reachOf_48 : decode cX12_reachOf 48 = .ok (.getfield 32, 3) := by decide +kernel
theorem dX12_reachOf_51 : decode cX12_reachOf 51 = .ok (.iload_n 2, 1) := by decide +kernel
theorem dX12_reachOf_52 : decode cX12_reachOf 52 = .ok (.iaload, 1) := by decide +kernel
theorem dX12_reachOf_53 : decode cX12_reachOf 53 = .ok (.invokevirtual 328, 3) := by decide +kernel
theorem dX12_reachOf_56 : decode cX12_reachOf 56 = .ok (.imul, 1) := by decide +kernel
theorem dX12_reachOf_57 : decode cX12_reachOf 57 = .ok (.bipush 20, 2) := by decide +kernel
theorem dX12_reachOf_59 : decode cX12_reachOf 59 = .ok (.iload 4, 2) := by decide +kernel
theorem dX12_reachOf_61 : decode cX12_reachOf 61 = .ok (.iconst 1, 1) := by decide +kernel
theorem dX12_reachOf_62 : decode cX12_reachOf 62 = .ok (.iadd, 1) := by decide +kernel
theorem dX12_reachOf_63 : decode cX12_reachOf 63 = .ok (.imul, 1) := by decide +kernel
theorem dX12_reachOf_64 : decode cX12_reachOf 64 = .ok (.iadd, 1) := by decide +kernel
theorem dX12_reachOf_65 : decode cX12_reachOf 65 = .ok (.aload_n 0, 1) := by decide +kernel
theorem dX12_reachOf_66 : decode cX12_reachOf 66 = .ok (.getfield 119, 3) := by decide +kernel
theorem dX12_reachOf_69 : decode cX12_reachOf 69 = .ok (.iload_n 1, 1) := by decide +kernel
theorem dX12_reachOf_70 : decode cX12_reachOf 70 = .ok (.iaload, 1) := by decide +kernel
theorem dX12_reachOf_71 : decode cX12_reachOf 71 = .ok (.if_icmp .le 9, 3) := by decide +kernel
theorem dX12_reachOf_74 : decode cX12_reachOf 74 = .ok (.iinc 4 (-1), 3) := by decide +kernel
theorem dX12_reachOf_77 : decode cX12_reachOf 77 = .ok (.goto (-44), 3) := by decide +kernel
theorem dX12_reachOf_80 : decode cX12_reachOf 80 = .ok (.iload 4, 2) := by decide +kernel
theorem dX12_reachOf_82 : decode cX12_reachOf 82 = .ok (.ireturn, 1) := by decide +kernel
theorem okX12_reachOf : ab_okM MX12_reachOf 2 := ⟨by decide, ⟨by decide, by decide⟩, ab_in 2384 (by decide +kernel) (by decide +kernel), ab_in 99 (by decide +kernel) (by decide +kernel), by decide +kernel, by decide⟩
set_option maxHeartbeats 4000000 in
set_option maxRecDepth 100000 in
theorem sX12_reachOf_33 (v1 : Int32) (v2 : Int32) (v3 : Int32) (v4 : Int32)  (x : ab_X) (K : Int32 → Prop)  (d bc bs : Nat) (hdp : 2 ≤ d)  (h : Lp1 (lX12_reachOf_33 v1 v2 v3 x K ) v4) : EW MX12_reachOf 33 [(0, .ref 246), (1, .int v1), (2, .int v2), (3, .int v3), (4, .int v4)] [] (aS x) d bc bs (liP x K) := by
  refine Lp1.use (P := fun v4 => EW MX12_reachOf 33 [(0, .ref 246), (1, .int v1), (2, .int v2), (3, .int v3), (4, .int v4)] [] (aS x) d bc bs (liP x K)) (fun L33 v4 hL33 h => ?_) v4 h
  unfold lX12_reachOf_33 at h
  refine EW_iload (pc2 := 35) rfl dX12_reachOf_33 4 rfl ?_
  refine EW_if_lt (tgt := 80) (pc2 := 38) rfl dX12_reachOf_35 (by decide) (fun q => ?_) (fun q => ?_)
  · replace h := h.1 q
    refine EW_iload (pc2 := 82) rfl dX12_reachOf_80 4 rfl ?_
    exact AW_iret rfl dX12_reachOf_82 ⟨_, rfl, rfl, h⟩
  · replace h := h.2 q
    refine EW_bipush (pc2 := 40) (v := 100) rfl dX12_reachOf_38 (by decide) ?_
    refine EW_aload_n (pc2 := 41) rfl dX12_reachOf_40 0 rfl ?_
    refine EW_aload_n (pc2 := 42) rfl dX12_reachOf_41 0 rfl ?_
    refine AW_getr (r := 276) ⟨gfRX12_98, rfl⟩ (pc2 := 45) rfl dX12_reachOf_42 q246 rfl ?_
    refine EW_iload_n (pc2 := 46) rfl dX12_reachOf_45 3 rfl ?_
    obtain ⟨b4, h⟩ := h
    refine AW_iald (pc2 := 47) rfl dX12_reachOf_46 q276 b4 ?_
    refine EW_aload_n (pc2 := 48) rfl dX12_reachOf_47 0 rfl ?_
    refine AW_getr (r := 254) ⟨gfRX12_32, rfl⟩ (pc2 := 51) rfl dX12_reachOf_48 q246 rfl ?_
    refine EW_iload_n (pc2 := 52) rfl dX12_reachOf_51 2 rfl ?_
    obtain ⟨b5, h⟩ := h
    refine AW_iald (pc2 := 53) rfl dX12_reachOf_52 q254 b5 ?_
    refine AW_invV (M' := MX12_walkOf) [.int (x.1 276 (Int32.toNatClampNeg v3)), .int (x.1 254 (Int32.toNatClampNeg v2))] (rest := [.int 100]) mlRX12_328 okX12_walkOf (pc2 := 56) rfl dX12_reachOf_53 rfl rfl (Nat.le_of_ble_eq_true rfl) (Nat.le_of_ble_eq_true rfl) (d' := 0) (by omega) q246 ⟨by decide, rfl⟩ (EW_mono (fun _ _ hr => ?_) (sX12_walkOf (x.1 276 (Int32.toNatClampNeg v3)) (x.1 254 (Int32.toNatClampNeg v2))  x _ _ 0 0 (Nat.le_refl _) h))
    obtain ⟨r6, rfl, rfl, h⟩ := hr
    refine EW_imul (pc2 := 57) rfl dX12_reachOf_56 ?_
    refine EW_bipush (pc2 := 59) (v := 20) rfl dX12_reachOf_57 (by decide) ?_
    refine EW_iload (pc2 := 61) rfl dX12_reachOf_59 4 rfl ?_
    refine EW_iconst (pc2 := 62) (v := 1) rfl dX12_reachOf_61 (by decide) ?_
    refine EW_iadd (pc2 := 63) rfl dX12_reachOf_62 ?_
    refine EW_imul (pc2 := 64) rfl dX12_reachOf_63 ?_
    refine EW_iadd (pc2 := 65) rfl dX12_reachOf_64 ?_
    refine EW_aload_n (pc2 := 66) rfl dX12_reachOf_65 0 rfl ?_
    refine AW_getr (r := 283) ⟨gfRX12_119, rfl⟩ (pc2 := 69) rfl dX12_reachOf_66 q246 rfl ?_
    refine EW_iload_n (pc2 := 70) rfl dX12_reachOf_69 1 rfl ?_
    obtain ⟨b7, h⟩ := h
    refine AW_iald (pc2 := 71) rfl dX12_reachOf_70 q283 b7 ?_
    refine EW_icmp_le (tgt := 80) (pc2 := 74) rfl dX12_reachOf_71 (by decide) (fun q => ?_) (fun q => ?_)
    · replace h := h.1 q
      refine EW_iload (pc2 := 82) rfl dX12_reachOf_80 4 rfl ?_
      exact AW_iret rfl dX12_reachOf_82 ⟨_, rfl, rfl, h⟩
    · replace h := h.2 q
      refine EW_iinc (v4 + (-1)) (pc2 := 77) rfl dX12_reachOf_74 4 rfl rfl (by decide) [1, 2, 3, 4, 0] [(0, .ref 246), (1, .int v1), (2, .int v2), (3, .int v3), (4, .int (v4 + (-1)))] rfl ?_
      refine EW_goto (tgt := 33) dX12_reachOf_77 (by decide) ?_
      exact hL33 (v4 + (-1)) h
set_option maxHeartbeats 4000000 in
set_option maxRecDepth 100000 in
theorem sX12_reachOf (v1 : Int32) (v2 : Int32)  (x : ab_X) (K : Int32 → Prop) (d bc bs : Nat) (hdp : 2 ≤ d) (h : wX12_reachOf v1 v2 x K) : EW MX12_reachOf 0 [(0, .ref 246), (1, .int v1), (2, .int v2)] [] (aS x) d bc bs (liP x K) := by
  unfold wX12_reachOf at h
  refine EW_aload_n (pc2 := 1) rfl dX12_reachOf_0 0 rfl ?_
  refine EW_iload_n (pc2 := 2) rfl dX12_reachOf_1 2 rfl ?_
  refine AW_invV (M' := MX12_headFor) [.int v2] (rest := []) mlRX12_408 okX12_headFor (pc2 := 5) rfl dX12_reachOf_2 rfl rfl (Nat.le_of_ble_eq_true rfl) (Nat.le_of_ble_eq_true rfl) (d' := 1) (by omega) q246 ⟨by decide, rfl⟩ (EW_mono (fun _ _ hr => ?_) (sX12_headFor v2  x _ _ 0 0 (Nat.le_refl _) h))
  obtain ⟨r1, rfl, rfl, h⟩ := hr
  refine EW_istore_n (pc2 := 6) rfl dX12_reachOf_5 (by decide) [1, 2, 3, 0] [(0, .ref 246), (1, .int v1), (2, .int v2), (3, .int r1)] rfl ?_
  refine EW_aload_n (pc2 := 7) rfl dX12_reachOf_6 0 rfl ?_
  refine AW_getr (r := 279) ⟨gfRX12_107, rfl⟩ (pc2 := 10) rfl dX12_reachOf_7 q246 rfl ?_
  refine EW_iload_n (pc2 := 11) rfl dX12_reachOf_10 1 rfl ?_
  obtain ⟨b2, h⟩ := h
  refine AW_iald (pc2 := 12) rfl dX12_reachOf_11 q279 b2 ?_
  refine EW_iconst (pc2 := 13) (v := 2) rfl dX12_reachOf_12 (by decide) ?_
  refine EW_icmp_ge (tgt := 21) (pc2 := 16) rfl dX12_reachOf_13 (by decide) (fun q => ?_) (fun q => ?_)
  · replace h := h.1 q
    refine EW_iconst (pc2 := 22) (v := (-1)) rfl dX12_reachOf_21 (by decide) ?_
    exact AW_iret rfl dX12_reachOf_22 ⟨_, rfl, rfl, h⟩
  · replace h := h.2 q
    refine EW_iload_n (pc2 := 17) rfl dX12_reachOf_16 3 rfl ?_
    refine EW_iconst (pc2 := 18) (v := (-1)) rfl dX12_reachOf_17 (by decide) ?_
    refine EW_icmp_ne (tgt := 23) (pc2 := 21) rfl dX12_reachOf_18 (by decide) (fun q => ?_) (fun q => ?_)
    · replace h := h.1 q
      refine EW_aload_n (pc2 := 24) rfl dX12_reachOf_23 0 rfl ?_
      refine AW_getr (r := 256) ⟨gfRX12_38, rfl⟩ (pc2 := 27) rfl dX12_reachOf_24 q246 rfl ?_
      refine EW_iload_n (pc2 := 28) rfl dX12_reachOf_27 2 rfl ?_
      obtain ⟨b3, h⟩ := h
      refine AW_iald (pc2 := 29) rfl dX12_reachOf_28 q256 b3 ?_
      refine EW_iconst (pc2 := 30) (v := 1) rfl dX12_reachOf_29 (by decide) ?_
      refine EW_isub (pc2 := 31) rfl dX12_reachOf_30 ?_
      refine EW_istore (pc2 := 33) rfl dX12_reachOf_31 (by decide) [1, 2, 3, 4, 0] [(0, .ref 246), (1, .int v1), (2, .int v2), (3, .int r1), (4, .int ((x.1 256 (Int32.toNatClampNeg v2)) - 1))] rfl ?_
      exact sX12_reachOf_33 v1 v2 r1 ((x.1 256 (Int32.toNatClampNeg v2)) - 1) x K d bc bs hdp h
    · replace h := h.2 q
      refine EW_iconst (pc2 := 22) (v := (-1)) rfl dX12_reachOf_21 (by decide) ?_
      exact AW_iret rfl dX12_reachOf_22 ⟨_, rfl, rfl, h⟩
abbrev MX12_wantedAt : ab_M := (yX12_wantedAt, cX12_wantedAt, 3, (some .int))
theorem dX12_wantedAt_0 : decode cX12_wantedAt 0 = .ok (.aload_n 0, 1) := by decide +kernel
theorem dX12_wantedAt_1 : decode cX12_wantedAt 1 = .ok (.getfield 68, 3) := by decide +kernel
theorem dX12_wantedAt_4 : decode cX12_wantedAt 4 = .ok (.bipush 24, 2) := by decide +kernel
theorem dX12_wantedAt_6 : decode cX12_wantedAt 6 = .ok (.iload_n 1, 1) := by decide +kernel
theorem dX12_wantedAt_7 : decode cX12_wantedAt 7 = .ok (.imul, 1) := by decide +kernel
theorem dX12_wantedAt_8 : decode cX12_wantedAt 8 = .ok (.iload_n 2, 1) := by decide +kernel
theorem dX12_wantedAt_9 : decode cX12_wantedAt 9 = .ok (.iadd, 1) := by decide +kernel
theorem dX12_wantedAt_10 : decode cX12_wantedAt 10 = .ok (.iaload, 1) := by decide +kernel
theorem dX12_wantedAt_11 : decode cX12_wantedAt 11 = .ok (.aload_n 0, 1) := by decide +kernel
theorem dX12_wantedAt_12 : decode cX12_wantedAt 12 = .ok (.getfield 74, 3) := by decide +kernel
theorem dX12_wantedAt_15 : decode cX12_wantedAt 15 = .ok (.bipush 24, 2) := by decide +kernel
theorem dX12_wantedAt_17 : decode cX12_wantedAt 17 = .ok (.iload_n 1, 1) := by decide +kernel
theorem dX12_wantedAt_18 : decode cX12_wantedAt 18 = .ok (.imul, 1) := by decide +kernel
theorem dX12_wantedAt_19 : decode cX12_wantedAt 19 = .ok (.iload_n 2, 1) := by decide +kernel
theorem dX12_wantedAt_20 : decode cX12_wantedAt 20 = .ok (.iadd, 1) := by decide +kernel
theorem dX12_wantedAt_21 : decode cX12_wantedAt 21 = .ok (.iaload, 1) := by decide +kernel
theorem dX12_wantedAt_22 : decode cX12_wantedAt 22 = .ok (.iconst 4, 1) := by decide +kernel
theorem dX12_wantedAt_23 : decode cX12_wantedAt 23 = .ok (.idiv, 1) := by decide +kernel
theorem dX12_wantedAt_24 : decode cX12_wantedAt 24 = .ok (.isub, 1) := by decide +kernel
theorem dX12_wantedAt_25 : decode cX12_wantedAt 25 = .ok (.ireturn, 1) := by decide +kernel
theorem okX12_wantedAt : ab_okM MX12_wantedAt 2 := ⟨by decide, ⟨by decide, by decide⟩, ab_in 2578 (by decide +kernel) (by decide +kernel), ab_in 99 (by decide +kernel) (by decide +kernel), by decide +kernel, by decide⟩
set_option maxHeartbeats 4000000 in
set_option maxRecDepth 100000 in
theorem sX12_wantedAt (v1 : Int32) (v2 : Int32)  (x : ab_X) (K : Int32 → Prop) (d bc bs : Nat) (hdp : 0 ≤ d) (h : wX12_wantedAt v1 v2 x K) : EW MX12_wantedAt 0 [(0, .ref 246), (1, .int v1), (2, .int v2)] [] (aS x) d bc bs (liP x K) := by
  unfold wX12_wantedAt at h
  refine EW_aload_n (pc2 := 1) rfl dX12_wantedAt_0 0 rfl ?_
  refine AW_getr (r := 266) ⟨gfRX12_68, rfl⟩ (pc2 := 4) rfl dX12_wantedAt_1 q246 rfl ?_
  refine EW_bipush (pc2 := 6) (v := 24) rfl dX12_wantedAt_4 (by decide) ?_
  refine EW_iload_n (pc2 := 7) rfl dX12_wantedAt_6 1 rfl ?_
  refine EW_imul (pc2 := 8) rfl dX12_wantedAt_7 ?_
  refine EW_iload_n (pc2 := 9) rfl dX12_wantedAt_8 2 rfl ?_
  refine EW_iadd (pc2 := 10) rfl dX12_wantedAt_9 ?_
  obtain ⟨b1, h⟩ := h
  refine AW_iald (pc2 := 11) rfl dX12_wantedAt_10 q266 b1 ?_
  refine EW_aload_n (pc2 := 12) rfl dX12_wantedAt_11 0 rfl ?_
  refine AW_getr (r := 268) ⟨gfRX12_74, rfl⟩ (pc2 := 15) rfl dX12_wantedAt_12 q246 rfl ?_
  refine EW_bipush (pc2 := 17) (v := 24) rfl dX12_wantedAt_15 (by decide) ?_
  refine EW_iload_n (pc2 := 18) rfl dX12_wantedAt_17 1 rfl ?_
  refine EW_imul (pc2 := 19) rfl dX12_wantedAt_18 ?_
  refine EW_iload_n (pc2 := 20) rfl dX12_wantedAt_19 2 rfl ?_
  refine EW_iadd (pc2 := 21) rfl dX12_wantedAt_20 ?_
  obtain ⟨b2, h⟩ := h
  refine AW_iald (pc2 := 22) rfl dX12_wantedAt_21 q268 b2 ?_
  refine EW_iconst (pc2 := 23) (v := 4) rfl dX12_wantedAt_22 (by decide) ?_
  refine EW_idiv (pc2 := 24) rfl dX12_wantedAt_23 (by decide) ?_
  refine EW_isub (pc2 := 25) rfl dX12_wantedAt_24 ?_
  exact AW_iret rfl dX12_wantedAt_25 ⟨_, rfl, rfl, h⟩
