theorem mlRX12_363 : Cond.methodLink RX12 363 yX12_burntOf ∈ ab_G ∧ Cond.instanceMethod yX12_burntOf ∈ ab_G ∧ Cond.selects RX12 yX12_burntOf yX12_burntOf ∈ ab_G := ⟨ab_in 2329 (by decide +kernel) (by decide +kernel), ab_in 2331 (by decide +kernel) (by decide +kernel), ab_in 27 (by decide +kernel) (by decide +kernel)⟩
theorem gfRX12_62 : ab_L RX12 62 12 20 := ⟨by decide, by decide, ab_in 1869 (by decide +kernel) (by decide +kernel)⟩
abbrev MX12_housed : ab_M := (yX12_housed, cX12_housed, 5, (some .int))
theorem dX12_housed_0 : decode cX12_housed 0 = .ok (.aload_n 0, 1) := by decide +kernel
theorem dX12_housed_1 : decode cX12_housed 1 = .ok (.iconst 0, 1) := by decide +kernel
theorem dX12_housed_2 : decode cX12_housed 2 = .ok (.putfield 297, 3) := by decide +kernel
theorem dX12_housed_5 : decode cX12_housed 5 = .ok (.aload_n 0, 1) := by decide +kernel
theorem dX12_housed_6 : decode cX12_housed 6 = .ok (.iload_n 1, 1) := by decide +kernel
theorem dX12_housed_7 : decode cX12_housed 7 = .ok (.invokevirtual 334, 3) := by decide +kernel
theorem dX12_housed_10 : decode cX12_housed 10 = .ok (.ifCond .ne 5, 3) := by decide +kernel
theorem dX12_housed_13 : decode cX12_housed 13 = .ok (.iconst (-1), 1) := by decide +kernel
theorem dX12_housed_14 : decode cX12_housed 14 = .ok (.ireturn, 1) := by decide +kernel
theorem dX12_housed_15 : decode cX12_housed 15 = .ok (.iconst 0, 1) := by decide +kernel
theorem dX12_housed_16 : decode cX12_housed 16 = .ok (.istore_n 3, 1) := by decide +kernel
theorem dX12_housed_17 : decode cX12_housed 17 = .ok (.iload_n 2, 1) := by decide +kernel
theorem dX12_housed_18 : decode cX12_housed 18 = .ok (.tableswitch 170 0 6 #[42, 48, 54, 61, 68, 113, 163], 42) := by decide +kernel
theorem dX12_housed_60 : decode cX12_housed 60 = .ok (.aload_n 0, 1) := by decide +kernel
theorem dX12_housed_61 : decode cX12_housed 61 = .ok (.iload_n 1, 1) := by decide +kernel
theorem dX12_housed_62 : decode cX12_housed 62 = .ok (.invokevirtual 351, 3) := by decide +kernel
theorem dX12_housed_65 : decode cX12_housed 65 = .ok (.ireturn, 1) := by decide +kernel
theorem dX12_housed_66 : decode cX12_housed 66 = .ok (.aload_n 0, 1) := by decide +kernel
theorem dX12_housed_67 : decode cX12_housed 67 = .ok (.iload_n 1, 1) := by decide +kernel
theorem dX12_housed_68 : decode cX12_housed 68 = .ok (.invokevirtual 363, 3) := by decide +kernel
theorem dX12_housed_71 : decode cX12_housed 71 = .ok (.ireturn, 1) := by decide +kernel
theorem dX12_housed_72 : decode cX12_housed 72 = .ok (.aload_n 0, 1) := by decide +kernel
theorem dX12_housed_73 : decode cX12_housed 73 = .ok (.getfield 56, 3) := by decide +kernel
theorem dX12_housed_76 : decode cX12_housed 76 = .ok (.iload_n 1, 1) := by decide +kernel
theorem dX12_housed_77 : decode cX12_housed 77 = .ok (.iaload, 1) := by decide +kernel
theorem dX12_housed_78 : decode cX12_housed 78 = .ok (.ireturn, 1) := by decide +kernel
theorem dX12_housed_79 : decode cX12_housed 79 = .ok (.aload_n 0, 1) := by decide +kernel
theorem dX12_housed_80 : decode cX12_housed 80 = .ok (.getfield 59, 3) := by decide +kernel
theorem dX12_housed_83 : decode cX12_housed 83 = .ok (.iload_n 1, 1) := by decide +kernel
theorem dX12_housed_84 : decode cX12_housed 84 = .ok (.iaload, 1) := by decide +kernel
theorem dX12_housed_85 : decode cX12_housed 85 = .ok (.ireturn, 1) := by decide +kernel
theorem dX12_housed_86 : decode cX12_housed 86 = .ok (.iconst 0, 1) := by decide +kernel
theorem dX12_housed_87 : decode cX12_housed 87 = .ok (.istore 4, 2) := by decide +kernel
theorem dX12_housed_89 : decode cX12_housed 89 = .ok (.iload 4, 2) := by decide +kernel
theorem dX12_housed_91 : decode cX12_housed 91 = .ok (.aload_n 0, 1) := by decide +kernel
theorem dX12_housed_92 : decode cX12_housed 92 = .ok (.getfield 38, 3) := by decide +kernel
theorem dX12_housed_95 : decode cX12_housed 95 = .ok (.iload_n 1, 1) := by decide +kernel
theorem dX12_housed_96 : decode cX12_housed 96 = .ok (.iaload, 1) := by decide +kernel
theorem dX12_housed_97 : decode cX12_housed 97 = .ok (.if_icmp .ge 32, 3) := by decide +kernel
theorem dX12_housed_100 : decode cX12_housed 100 = .ok (.iload_n 3, 1) := by decide +kernel
theorem dX12_housed_101 : decode cX12_housed 101 = .ok (.aload_n 0, 1) := by decide +kernel
theorem dX12_housed_102 : decode cX12_housed 102 = .ok (.getfield 92, 3) := by decide +kernel
theorem dX12_housed_105 : decode cX12_housed 105 = .ok (.bipush 6, 2) := by decide +kernel
theorem dX12_housed_107 : decode cX12_housed 107 = .ok (.iload_n 1, 1) := by decide +kernel
theorem dX12_housed_108 : decode cX12_housed 108 = .ok (.imul, 1) := by decide +kernel
theorem dX12_housed_109 : decode cX12_housed 109 = .ok (.iload 4, 2) := by decide +kernel
theorem dX12_housed_111 : decode cX12_housed 111 = .ok (.iadd, 1) := by decide +kernel
theorem dX12_housed_112 : decode cX12_housed 112 = .ok (.baload, 1) := by decide +kernel
theorem dX12_housed_113 : decode cX12_housed 113 = .ok (.ifCond .eq 7, 3) := by decide +kernel
theorem dX12_housed_116 : decode cX12_housed 116 = .ok (.iconst 1, 1) := by decide +kernel
theorem dX12_housed_117 : decode cX12_housed 117 = .ok (.goto 4, 3) := by decide +kernel
theorem dX12_housed_120 : decode cX12_housed 120 = .ok (.iconst 0, 1) := by decide +kernel
theorem dX12_housed_121 : decode cX12_housed 121 = .ok (.iadd, 1) := by decide +kernel
theorem dX12_housed_122 : decode cX12_housed 122 = .ok (.istore_n 3, 1) := by decide +kernel
theorem dX12_housed_123 : decode cX12_housed 123 = .ok (.iinc 4 1, 3) := by decide +kernel
theorem dX12_housed_126 : decode cX12_housed 126 = .ok (.goto (-37), 3) := by decide +kernel
theorem dX12_housed_129 : decode cX12_housed 129 = .ok (.iload_n 3, 1) := by decide +kernel
theorem dX12_housed_130 : decode cX12_housed 130 = .ok (.ireturn, 1) := by decide +kernel
theorem dX12_housed_131 : decode cX12_housed 131 = .ok (.iconst 0, 1) := by decide +kernel
theorem dX12_housed_132 : decode cX12_housed 132 = .ok (.istore 4, 2) := by decide +kernel
theorem dX12_housed_134 : decode cX12_housed 134 = .ok (.iload 4, 2) := by decide +kernel
theorem dX12_housed_136 : decode cX12_housed 136 = .ok (.aload_n 0, 1) := by decide +kernel
theorem dX12_housed_137 : decode cX12_housed 137 = .ok (.getfield 366, 3) := by decide +kernel
theorem dX12_housed_140 : decode cX12_housed 140 = .ok (.if_icmp .ge 39, 3) := by decide +kernel
theorem dX12_housed_143 : decode cX12_housed 143 = .ok (.iload_n 3, 1) := by decide +kernel
theorem dX12_housed_144 : decode cX12_housed 144 = .ok (.aload_n 0, 1) := by decide +kernel
theorem dX12_housed_145 : decode cX12_housed 145 = .ok (.getfield 128, 3) := by decide +kernel
theorem dX12_housed_148 : decode cX12_housed 148 = .ok (.iload 4, 2) := by decide +kernel
theorem dX12_housed_150 : decode cX12_housed 150 = .ok (.iaload, 1) := by decide +kernel
theorem dX12_housed_151 : decode cX12_housed 151 = .ok (.iconst 2, 1) := by decide +kernel
theorem dX12_housed_152 : decode cX12_housed 152 = .ok (.if_icmp .ne 18, 3) := by decide +kernel
theorem dX12_housed_155 : decode cX12_housed 155 = .ok (.aload_n 0, 1) := by decide +kernel
theorem dX12_housed_156 : decode cX12_housed 156 = .ok (.getfield 140, 3) := by decide +kernel
theorem dX12_housed_159 : decode cX12_housed 159 = .ok (.iload 4, 2) := by decide +kernel
theorem dX12_housed_161 : decode cX12_housed 161 = .ok (.iaload, 1) := by decide +kernel
theorem dX12_housed_162 : decode cX12_housed 162 = .ok (.iload_n 1, 1) := by decide +kernel
theorem dX12_housed_163 : decode cX12_housed 163 = .ok (.if_icmp .ne 7, 3) := by decide +kernel
theorem dX12_housed_166 : decode cX12_housed 166 = .ok (.iconst 1, 1) := by decide +kernel
theorem dX12_housed_167 : decode cX12_housed 167 = .ok (.goto 4, 3) := by decide +kernel
theorem dX12_housed_170 : decode cX12_housed 170 = .ok (.iconst 0, 1) := by decide +kernel
theorem dX12_housed_171 : decode cX12_housed 171 = .ok (.iadd, 1) := by decide +kernel
theorem dX12_housed_172 : decode cX12_housed 172 = .ok (.istore_n 3, 1) := by decide +kernel
theorem dX12_housed_173 : decode cX12_housed 173 = .ok (.iinc 4 1, 3) := by decide +kernel
theorem dX12_housed_176 : decode cX12_housed 176 = .ok (.goto (-42), 3) := by decide +kernel
theorem dX12_housed_179 : decode cX12_housed 179 = .ok (.iload_n 3, 1) := by decide +kernel
theorem dX12_housed_180 : decode cX12_housed 180 = .ok (.ireturn, 1) := by decide +kernel
theorem dX12_housed_181 : decode cX12_housed 181 = .ok (.aload_n 0, 1) := by decide +kernel
theorem dX12_housed_182 : decode cX12_housed 182 = .ok (.getfield 62, 3) := by decide +kernel
theorem dX12_housed_185 : decode cX12_housed 185 = .ok (.iload_n 1, 1) := by decide +kernel
theorem dX12_housed_186 : decode cX12_housed 186 = .ok (.iaload, 1) := by decide +kernel
theorem dX12_housed_187 : decode cX12_housed 187 = .ok (.ireturn, 1) := by decide +kernel
theorem dX12_housed_188 : decode cX12_housed 188 = .ok (.iconst (-1), 1) := by decide +kernel
theorem dX12_housed_189 : decode cX12_housed 189 = .ok (.ireturn, 1) := by decide +kernel
theorem okX12_housed : ab_okM MX12_housed 2 := ⟨by decide, ⟨by decide, by decide⟩, ab_in 2328 (by decide +kernel) (by decide +kernel), ab_in 99 (by decide +kernel) (by decide +kernel), by decide +kernel, by decide⟩
set_option maxHeartbeats 4000000 in
set_option maxRecDepth 100000 in
def wX12_housed_121 (v1 : Int32) (v4 : Int32) (s0 : Int32) (s1 : Int32) (x : ab_X) (K : Int32 → ab_X → Prop) (L89 : Int32 → Int32 → Prop) : Prop := L89 (s0 + s1) (v4 + 1)
set_option maxHeartbeats 4000000 in
set_option maxRecDepth 100000 in
theorem sX12_housed_121 (v1 : Int32) (v4 : Int32) (s0 : Int32) (s1 : Int32)  (x : ab_X) (K : Int32 → ab_X → Prop) (L89 : Int32 → Int32 → Prop) (d bc bs : Nat) (hdp : 3 ≤ d) (hL89 : ∀ (v3 : Int32) (v4 : Int32), L89 v3 v4 → EW MX12_housed 89 [(0, .ref 246), (1, .int v1), (3, .int v3), (4, .int v4)] [] (aS x) d bc bs (liI K)) (h : wX12_housed_121 v1 v4 s0 s1 x K L89) : EW MX12_housed 121 [(0, .ref 246), (1, .int v1), (4, .int v4)] [.int s1, .int s0] (aS x) d bc bs (liI K) := by
  unfold wX12_housed_121 at h
  refine EW_iadd (pc2 := 122) rfl dX12_housed_121 ?_
  refine EW_istore_n (pc2 := 123) rfl dX12_housed_122 (by decide) [1, 2, 0, 3] [(0, .ref 246), (1, .int v1), (3, .int (s0 + s1)), (4, .int v4)] rfl ?_
  refine EW_iinc (v4 + 1) (pc2 := 126) rfl dX12_housed_123 3 rfl rfl (by decide) [1, 2, 3, 0] [(0, .ref 246), (1, .int v1), (3, .int (s0 + s1)), (4, .int (v4 + 1))] rfl ?_
  refine EW_goto (tgt := 89) dX12_housed_126 (by decide) ?_
  exact hL89 (s0 + s1) (v4 + 1) h
set_option maxHeartbeats 4000000 in
set_option maxRecDepth 100000 in
def lX12_housed_89 (v1 : Int32) (x : ab_X) (K : Int32 → ab_X → Prop)  (L89 : Int32 → Int32 → Prop) (v3 : Int32) (v4 : Int32) : Prop := (vp_in v1 12 ∧ (((x.1 256 (Int32.toNatClampNeg v1)) ≤ v4 → K v3 x) ∧ (¬ (x.1 256 (Int32.toNatClampNeg v1)) ≤ v4 → (vp_in ((6 * v1) + v4) 72 ∧ (((x.1 274 (Int32.toNatClampNeg ((6 * v1) + v4))) = 0 → wX12_housed_121 v1 v4 v3 0 x K L89) ∧ (¬ (x.1 274 (Int32.toNatClampNeg ((6 * v1) + v4))) = 0 → wX12_housed_121 v1 v4 v3 1 x K L89))))))
set_option maxHeartbeats 4000000 in
set_option maxRecDepth 100000 in
theorem sX12_housed_89 (v1 : Int32) (v3 : Int32) (v4 : Int32)  (x : ab_X) (K : Int32 → ab_X → Prop)  (d bc bs : Nat) (hdp : 3 ≤ d)  (h : Lp2 (lX12_housed_89 v1 x K ) v3 v4) : EW MX12_housed 89 [(0, .ref 246), (1, .int v1), (3, .int v3), (4, .int v4)] [] (aS x) d bc bs (liI K) := by
  refine Lp2.use (P := fun v3 v4 => EW MX12_housed 89 [(0, .ref 246), (1, .int v1), (3, .int v3), (4, .int v4)] [] (aS x) d bc bs (liI K)) (fun L89 v3 v4 hL89 h => ?_) v3 v4 h
  unfold lX12_housed_89 at h
  refine EW_iload (pc2 := 91) rfl dX12_housed_89 3 rfl ?_
  refine EW_aload_n (pc2 := 92) rfl dX12_housed_91 0 rfl ?_
  refine AW_getr (r := 256) ⟨gfRX12_38, rfl⟩ (pc2 := 95) rfl dX12_housed_92 q246 rfl ?_
  refine EW_iload_n (pc2 := 96) rfl dX12_housed_95 1 rfl ?_
  obtain ⟨b7, h⟩ := h
  refine AW_iald (pc2 := 97) rfl dX12_housed_96 q256 b7 ?_
  refine EW_icmp_ge (tgt := 129) (pc2 := 100) rfl dX12_housed_97 (by decide) (fun q => ?_) (fun q => ?_)
  · replace h := h.1 q
    refine EW_iload_n (pc2 := 130) rfl dX12_housed_129 2 rfl ?_
    exact AW_iret rfl dX12_housed_130 ⟨_, _, rfl, rfl, h⟩
  · replace h := h.2 q
    refine EW_iload_n (pc2 := 101) rfl dX12_housed_100 2 rfl ?_
    refine EW_aload_n (pc2 := 102) rfl dX12_housed_101 0 rfl ?_
    refine AW_getr (r := 274) ⟨gfRX12_92, rfl⟩ (pc2 := 105) rfl dX12_housed_102 q246 rfl ?_
    refine EW_bipush (pc2 := 107) (v := 6) rfl dX12_housed_105 (by decide) ?_
    refine EW_iload_n (pc2 := 108) rfl dX12_housed_107 1 rfl ?_
    refine EW_imul (pc2 := 109) rfl dX12_housed_108 ?_
    refine EW_iload (pc2 := 111) rfl dX12_housed_109 3 rfl ?_
    refine EW_iadd (pc2 := 112) rfl dX12_housed_111 ?_
    obtain ⟨b8, h⟩ := h
    refine AW_zald (pc2 := 113) rfl dX12_housed_112 q274 b8 ?_
    refine EW_if_eq (tgt := 120) (pc2 := 116) rfl dX12_housed_113 (by decide) (fun q => ?_) (fun q => ?_)
    · replace h := h.1 q
      refine EW_iconst (pc2 := 121) (v := 0) rfl dX12_housed_120 (by decide) ?_
      refine EW_ls [0, 1, 3] rfl ?_
      exact sX12_housed_121 v1 v4 v3 0 x K L89 d bc bs hdp hL89 h
    · replace h := h.2 q
      refine EW_iconst (pc2 := 117) (v := 1) rfl dX12_housed_116 (by decide) ?_
      refine EW_goto (tgt := 121) dX12_housed_117 (by decide) ?_
      refine EW_ls [0, 1, 3] rfl ?_
      exact sX12_housed_121 v1 v4 v3 1 x K L89 d bc bs hdp hL89 h
set_option maxHeartbeats 4000000 in
set_option maxRecDepth 100000 in
def wX12_housed_171 (v1 : Int32) (v4 : Int32) (s0 : Int32) (s1 : Int32) (x : ab_X) (K : Int32 → ab_X → Prop) (L134 : Int32 → Int32 → Prop) : Prop := L134 (s0 + s1) (v4 + 1)
set_option maxHeartbeats 4000000 in
set_option maxRecDepth 100000 in
theorem sX12_housed_171 (v1 : Int32) (v4 : Int32) (s0 : Int32) (s1 : Int32)  (x : ab_X) (K : Int32 → ab_X → Prop) (L134 : Int32 → Int32 → Prop) (d bc bs : Nat) (hdp : 3 ≤ d) (hL134 : ∀ (v3 : Int32) (v4 : Int32), L134 v3 v4 → EW MX12_housed 134 [(0, .ref 246), (1, .int v1), (3, .int v3), (4, .int v4)] [] (aS x) d bc bs (liI K)) (h : wX12_housed_171 v1 v4 s0 s1 x K L134) : EW MX12_housed 171 [(0, .ref 246), (1, .int v1), (4, .int v4)] [.int s1, .int s0] (aS x) d bc bs (liI K) := by
  unfold wX12_housed_171 at h
  refine EW_iadd (pc2 := 172) rfl dX12_housed_171 ?_
  refine EW_istore_n (pc2 := 173) rfl dX12_housed_172 (by decide) [1, 2, 0, 3] [(0, .ref 246), (1, .int v1), (3, .int (s0 + s1)), (4, .int v4)] rfl ?_
  refine EW_iinc (v4 + 1) (pc2 := 176) rfl dX12_housed_173 3 rfl rfl (by decide) [1, 2, 3, 0] [(0, .ref 246), (1, .int v1), (3, .int (s0 + s1)), (4, .int (v4 + 1))] rfl ?_
  refine EW_goto (tgt := 134) dX12_housed_176 (by decide) ?_
  exact hL134 (s0 + s1) (v4 + 1) h
set_option maxHeartbeats 4000000 in
set_option maxRecDepth 100000 in
def wX12_housed_170 (v1 : Int32) (v4 : Int32) (s0 : Int32) (x : ab_X) (K : Int32 → ab_X → Prop) (L134 : Int32 → Int32 → Prop) : Prop := wX12_housed_171 v1 v4 s0 0 x K L134
set_option maxHeartbeats 4000000 in
set_option maxRecDepth 100000 in
theorem sX12_housed_170 (v1 : Int32) (v4 : Int32) (s0 : Int32)  (x : ab_X) (K : Int32 → ab_X → Prop) (L134 : Int32 → Int32 → Prop) (d bc bs : Nat) (hdp : 3 ≤ d) (hL134 : ∀ (v3 : Int32) (v4 : Int32), L134 v3 v4 → EW MX12_housed 134 [(0, .ref 246), (1, .int v1), (3, .int v3), (4, .int v4)] [] (aS x) d bc bs (liI K)) (h : wX12_housed_170 v1 v4 s0 x K L134) : EW MX12_housed 170 [(0, .ref 246), (1, .int v1), (4, .int v4)] [.int s0] (aS x) d bc bs (liI K) := by
  unfold wX12_housed_170 at h
  refine EW_iconst (pc2 := 171) (v := 0) rfl dX12_housed_170 (by decide) ?_
  exact sX12_housed_171 v1 v4 s0 0 x K L134 d bc bs hdp hL134 h
set_option maxHeartbeats 4000000 in
set_option maxRecDepth 100000 in
def lX12_housed_134 (v1 : Int32) (x : ab_X) (K : Int32 → ab_X → Prop)  (L134 : Int32 → Int32 → Prop) (v3 : Int32) (v4 : Int32) : Prop := (((x.1 246 58) ≤ v4 → K v3 x) ∧ (¬ (x.1 246 58) ≤ v4 → (vp_in v4 16 ∧ ((¬ (x.1 286 (Int32.toNatClampNeg v4)) = 2 → wX12_housed_170 v1 v4 v3 x K L134) ∧ ((x.1 286 (Int32.toNatClampNeg v4)) = 2 → (vp_in v4 16 ∧ ((¬ (x.1 290 (Int32.toNatClampNeg v4)) = v1 → wX12_housed_170 v1 v4 v3 x K L134) ∧ ((x.1 290 (Int32.toNatClampNeg v4)) = v1 → wX12_housed_171 v1 v4 v3 1 x K L134))))))))
set_option maxHeartbeats 4000000 in
set_option maxRecDepth 100000 in
theorem sX12_housed_134 (v1 : Int32) (v3 : Int32) (v4 : Int32)  (x : ab_X) (K : Int32 → ab_X → Prop)  (d bc bs : Nat) (hdp : 3 ≤ d)  (h : Lp2 (lX12_housed_134 v1 x K ) v3 v4) : EW MX12_housed 134 [(0, .ref 246), (1, .int v1), (3, .int v3), (4, .int v4)] [] (aS x) d bc bs (liI K) := by
  refine Lp2.use (P := fun v3 v4 => EW MX12_housed 134 [(0, .ref 246), (1, .int v1), (3, .int v3), (4, .int v4)] [] (aS x) d bc bs (liI K)) (fun L134 v3 v4 hL134 h => ?_) v3 v4 h
  unfold lX12_housed_134 at h
  refine EW_iload (pc2 := 136) rfl dX12_housed_134 3 rfl ?_
  refine EW_aload_n (pc2 := 137) rfl dX12_housed_136 0 rfl ?_
  refine AW_geti ⟨gfRX12_366, rfl⟩ (pc2 := 140) rfl dX12_housed_137 q246 ?_
  refine EW_icmp_ge (tgt := 179) (pc2 := 143) rfl dX12_housed_140 (by decide) (fun q => ?_) (fun q => ?_)
  · replace h := h.1 q
    refine EW_iload_n (pc2 := 180) rfl dX12_housed_179 2 rfl ?_
    exact AW_iret rfl dX12_housed_180 ⟨_, _, rfl, rfl, h⟩
  · replace h := h.2 q
    refine EW_iload_n (pc2 := 144) rfl dX12_housed_143 2 rfl ?_
    refine EW_aload_n (pc2 := 145) rfl dX12_housed_144 0 rfl ?_
    refine AW_getr (r := 286) ⟨gfRX12_128, rfl⟩ (pc2 := 148) rfl dX12_housed_145 q246 rfl ?_
    refine EW_iload (pc2 := 150) rfl dX12_housed_148 3 rfl ?_
    obtain ⟨b9, h⟩ := h
    refine AW_iald (pc2 := 151) rfl dX12_housed_150 q286 b9 ?_
    refine EW_iconst (pc2 := 152) (v := 2) rfl dX12_housed_151 (by decide) ?_
    refine EW_icmp_ne (tgt := 170) (pc2 := 155) rfl dX12_housed_152 (by decide) (fun q => ?_) (fun q => ?_)
    · replace h := h.1 q
      refine EW_ls [0, 1, 3] rfl ?_
      exact sX12_housed_170 v1 v4 v3 x K L134 d bc bs hdp hL134 h
    · replace h := h.2 q
      refine EW_aload_n (pc2 := 156) rfl dX12_housed_155 0 rfl ?_
      refine AW_getr (r := 290) ⟨gfRX12_140, rfl⟩ (pc2 := 159) rfl dX12_housed_156 q246 rfl ?_
      refine EW_iload (pc2 := 161) rfl dX12_housed_159 3 rfl ?_
      obtain ⟨b10, h⟩ := h
      refine AW_iald (pc2 := 162) rfl dX12_housed_161 q290 b10 ?_
      refine EW_iload_n (pc2 := 163) rfl dX12_housed_162 1 rfl ?_
      refine EW_icmp_ne (tgt := 170) (pc2 := 166) rfl dX12_housed_163 (by decide) (fun q => ?_) (fun q => ?_)
      · replace h := h.1 q
        refine EW_ls [0, 1, 3] rfl ?_
        exact sX12_housed_170 v1 v4 v3 x K L134 d bc bs hdp hL134 h
      · replace h := h.2 q
        refine EW_iconst (pc2 := 167) (v := 1) rfl dX12_housed_166 (by decide) ?_
        refine EW_goto (tgt := 171) dX12_housed_167 (by decide) ?_
        refine EW_ls [0, 1, 3] rfl ?_
        exact sX12_housed_171 v1 v4 v3 1 x K L134 d bc bs hdp hL134 h
set_option maxHeartbeats 4000000 in
set_option maxRecDepth 100000 in
def wX12_housed (v1 : Int32) (v2 : Int32) (x : ab_X) (K : Int32 → ab_X → Prop) : Prop := wX12_isHouse v1 (wr x 246 0 0) (fun r1 => ((¬ r1 = 0 → (((v2.toInt < 0 ∨ 6 < v2.toInt) → K (-1) (wr x 246 0 0)) ∧ (v2 = 0 → wX12_burning v1 (wr x 246 0 0) (fun r2 => K r2 (wr x 246 0 0))) ∧ (v2 = 1 → wX12_burntOf v1 (wr x 246 0 0) (fun r3 => K r3 (wr x 246 0 0))) ∧ (v2 = 2 → (vp_in v1 12 ∧ K ((wr x 246 0 0).1 262 (Int32.toNatClampNeg v1)) (wr x 246 0 0))) ∧ (v2 = 3 → (vp_in v1 12 ∧ K ((wr x 246 0 0).1 263 (Int32.toNatClampNeg v1)) (wr x 246 0 0))) ∧ (v2 = 4 → Lp2 (lX12_housed_89 v1 (wr x 246 0 0) K ) 0 0) ∧ (v2 = 5 → Lp2 (lX12_housed_134 v1 (wr x 246 0 0) K ) 0 0) ∧ (v2 = 6 → (vp_in v1 12 ∧ K ((wr x 246 0 0).1 264 (Int32.toNatClampNeg v1)) (wr x 246 0 0))))) ∧ (r1 = 0 → K (-1) (wr x 246 0 0))))
set_option maxHeartbeats 4000000 in
set_option maxRecDepth 100000 in
theorem sX12_housed (v1 : Int32) (v2 : Int32)  (x : ab_X) (K : Int32 → ab_X → Prop) (d bc bs : Nat) (hdp : 3 ≤ d) (h : wX12_housed v1 v2 x K) : EW MX12_housed 0 [(0, .ref 246), (1, .int v1), (2, .int v2)] [] (aS x) d bc bs (liI K) := by
  unfold wX12_housed at h
  refine EW_aload_n (pc2 := 1) rfl dX12_housed_0 0 rfl ?_
  refine EW_iconst (pc2 := 2) (v := 0) rfl dX12_housed_1 (by decide) ?_
  refine AW_puti ⟨gfRX12_297, rfl, rfl⟩ (pc2 := 5) rfl dX12_housed_2 q246 ?_
  refine EW_aload_n (pc2 := 6) rfl dX12_housed_5 0 rfl ?_
  refine EW_iload_n (pc2 := 7) rfl dX12_housed_6 1 rfl ?_
  refine AW_invV (M' := MX12_isHouse) [.int v1] (rest := []) mlRX12_334 okX12_isHouse (pc2 := 10) rfl dX12_housed_7 rfl rfl (Nat.le_of_ble_eq_true rfl) (Nat.le_of_ble_eq_true rfl) (d' := 0) (by omega) q246 ⟨by decide, rfl⟩ (EW_mono (fun _ _ hr => ?_) (sX12_isHouse v1  (wr x 246 0 0) _ _ 0 0 (Nat.le_refl _) h))
  obtain ⟨r1, rfl, rfl, h⟩ := hr
  refine EW_if_ne (tgt := 15) (pc2 := 13) rfl dX12_housed_10 (by decide) (fun q => ?_) (fun q => ?_)
  · replace h := h.1 q
    refine EW_iconst (pc2 := 16) (v := 0) rfl dX12_housed_15 (by decide) ?_
    refine EW_istore_n (pc2 := 17) rfl dX12_housed_16 (by decide) [1, 2, 3, 0] [(0, .ref 246), (1, .int v1), (2, .int v2), (3, .int 0)] rfl ?_
    refine EW_iload_n (pc2 := 18) rfl dX12_housed_17 2 rfl ?_
    by_cases qo : Int32.toInt v2 < 0 ∨ 6 < Int32.toInt v2
    · replace h := h.1 qo
      refine EW_tabOut (tgt := 188) dX12_housed_18 qo (by decide) ?_
      refine EW_iconst (pc2 := 189) (v := (-1)) rfl dX12_housed_188 (by decide) ?_
      exact AW_iret rfl dX12_housed_189 ⟨_, _, rfl, rfl, h⟩
    · obtain ⟨kk, hkk, qk⟩ := sw_in 0 6 (by decide) qo
      match kk, hkk, qk with
      | 0, _, qk =>
        replace h := h.2.1 qk
        refine EW_tabIn (off := 42) (tgt := 60) dX12_housed_18 (by rw [qk]; decide) (by rw [qk]; decide) (by rw [qk]; decide) (by decide) ?_
        refine EW_aload_n (pc2 := 61) rfl dX12_housed_60 0 rfl ?_
        refine EW_iload_n (pc2 := 62) rfl dX12_housed_61 1 rfl ?_
        refine AW_invV (M' := MX12_burning) [.int v1] (rest := []) mlRX12_351 okX12_burning (pc2 := 65) rfl dX12_housed_62 rfl rfl (Nat.le_of_ble_eq_true rfl) (Nat.le_of_ble_eq_true rfl) (d' := 2) (by omega) q246 ⟨by decide, rfl⟩ (EW_mono (fun _ _ hr => ?_) (sX12_burning v1  (wr x 246 0 0) _ _ 0 0 (Nat.le_refl _) h))
        obtain ⟨r2, rfl, rfl, h⟩ := hr
        exact AW_iret rfl dX12_housed_65 ⟨_, _, rfl, rfl, h⟩
      | 1, _, qk =>
        replace h := h.2.2.1 qk
        refine EW_tabIn (off := 48) (tgt := 66) dX12_housed_18 (by rw [qk]; decide) (by rw [qk]; decide) (by rw [qk]; decide) (by decide) ?_
        refine EW_aload_n (pc2 := 67) rfl dX12_housed_66 0 rfl ?_
        refine EW_iload_n (pc2 := 68) rfl dX12_housed_67 1 rfl ?_
        refine AW_invV (M' := MX12_burntOf) [.int v1] (rest := []) mlRX12_363 okX12_burntOf (pc2 := 71) rfl dX12_housed_68 rfl rfl (Nat.le_of_ble_eq_true rfl) (Nat.le_of_ble_eq_true rfl) (d' := 0) (by omega) q246 ⟨by decide, rfl⟩ (EW_mono (fun _ _ hr => ?_) (sX12_burntOf v1  (wr x 246 0 0) _ _ 0 0 (Nat.le_refl _) h))
        obtain ⟨r3, rfl, rfl, h⟩ := hr
        exact AW_iret rfl dX12_housed_71 ⟨_, _, rfl, rfl, h⟩
      | 2, _, qk =>
        replace h := h.2.2.2.1 qk
        refine EW_tabIn (off := 54) (tgt := 72) dX12_housed_18 (by rw [qk]; decide) (by rw [qk]; decide) (by rw [qk]; decide) (by decide) ?_
        refine EW_aload_n (pc2 := 73) rfl dX12_housed_72 0 rfl ?_
        refine AW_getr (r := 262) ⟨gfRX12_56, rfl⟩ (pc2 := 76) rfl dX12_housed_73 q246 rfl ?_
        refine EW_iload_n (pc2 := 77) rfl dX12_housed_76 1 rfl ?_
        obtain ⟨b4, h⟩ := h
        refine AW_iald (pc2 := 78) rfl dX12_housed_77 q262 b4 ?_
        exact AW_iret rfl dX12_housed_78 ⟨_, _, rfl, rfl, h⟩
      | 3, _, qk =>
        replace h := h.2.2.2.2.1 qk
        refine EW_tabIn (off := 61) (tgt := 79) dX12_housed_18 (by rw [qk]; decide) (by rw [qk]; decide) (by rw [qk]; decide) (by decide) ?_
        refine EW_aload_n (pc2 := 80) rfl dX12_housed_79 0 rfl ?_
        refine AW_getr (r := 263) ⟨gfRX12_59, rfl⟩ (pc2 := 83) rfl dX12_housed_80 q246 rfl ?_
        refine EW_iload_n (pc2 := 84) rfl dX12_housed_83 1 rfl ?_
        obtain ⟨b5, h⟩ := h
        refine AW_iald (pc2 := 85) rfl dX12_housed_84 q263 b5 ?_
        exact AW_iret rfl dX12_housed_85 ⟨_, _, rfl, rfl, h⟩
      | 4, _, qk =>
        replace h := h.2.2.2.2.2.1 qk
        refine EW_tabIn (off := 68) (tgt := 86) dX12_housed_18 (by rw [qk]; decide) (by rw [qk]; decide) (by rw [qk]; decide) (by decide) ?_
        refine EW_iconst (pc2 := 87) (v := 0) rfl dX12_housed_86 (by decide) ?_
        refine EW_istore (pc2 := 89) rfl dX12_housed_87 (by decide) [1, 2, 3, 4, 0] [(0, .ref 246), (1, .int v1), (2, .int v2), (3, .int 0), (4, .int 0)] rfl ?_
        refine EW_ls [0, 1, 3, 4] rfl ?_
        exact sX12_housed_89 v1 0 0 (wr x 246 0 0) K d bc bs hdp h
      | 5, _, qk =>
        replace h := h.2.2.2.2.2.2.1 qk
        refine EW_tabIn (off := 113) (tgt := 131) dX12_housed_18 (by rw [qk]; decide) (by rw [qk]; decide) (by rw [qk]; decide) (by decide) ?_
        refine EW_iconst (pc2 := 132) (v := 0) rfl dX12_housed_131 (by decide) ?_
        refine EW_istore (pc2 := 134) rfl dX12_housed_132 (by decide) [1, 2, 3, 4, 0] [(0, .ref 246), (1, .int v1), (2, .int v2), (3, .int 0), (4, .int 0)] rfl ?_
        refine EW_ls [0, 1, 3, 4] rfl ?_
        exact sX12_housed_134 v1 0 0 (wr x 246 0 0) K d bc bs hdp h
      | 6, _, qk =>
        replace h := h.2.2.2.2.2.2.2 qk
        refine EW_tabIn (off := 163) (tgt := 181) dX12_housed_18 (by rw [qk]; decide) (by rw [qk]; decide) (by rw [qk]; decide) (by decide) ?_
        refine EW_aload_n (pc2 := 182) rfl dX12_housed_181 0 rfl ?_
        refine AW_getr (r := 264) ⟨gfRX12_62, rfl⟩ (pc2 := 185) rfl dX12_housed_182 q246 rfl ?_
        refine EW_iload_n (pc2 := 186) rfl dX12_housed_185 1 rfl ?_
        obtain ⟨b6, h⟩ := h
        refine AW_iald (pc2 := 187) rfl dX12_housed_186 q264 b6 ?_
        exact AW_iret rfl dX12_housed_187 ⟨_, _, rfl, rfl, h⟩
      | n9 + 7, hkk, _ => exact absurd hkk (by omega)
  · replace h := h.2 q
    refine EW_iconst (pc2 := 14) (v := (-1)) rfl dX12_housed_13 (by decide) ?_
    exact AW_iret rfl dX12_housed_14 ⟨_, _, rfl, rfl, h⟩
abbrev MX12_isRoom : ab_M := (yX12_isRoom, cX12_isRoom, 3, (some .boolean))
theorem dX12_isRoom_0 : decode cX12_isRoom 0 = .ok (.aload_n 0, 1) := by decide +kernel
theorem dX12_isRoom_1 : decode cX12_isRoom 1 = .ok (.iload_n 1, 1) := by decide +kernel
theorem dX12_isRoom_2 : decode cX12_isRoom 2 = .ok (.invokevirtual 334, 3) := by decide +kernel
theorem dX12_isRoom_5 : decode cX12_isRoom 5 = .ok (.ifCond .eq 28, 3) := by decide +kernel
theorem dX12_isRoom_8 : decode cX12_isRoom 8 = .ok (.iload_n 2, 1) := by decide +kernel
theorem dX12_isRoom_9 : decode cX12_isRoom 9 = .ok (.ifCond .lt 24, 3) := by decide +kernel
theorem dX12_isRoom_12 : decode cX12_isRoom 12 = .ok (.iload_n 2, 1) := by decide +kernel
theorem dX12_isRoom_13 : decode cX12_isRoom 13 = .ok (.aload_n 0, 1) := by decide +kernel
theorem dX12_isRoom_14 : decode cX12_isRoom 14 = .ok (.getfield 38, 3) := by decide +kernel
theorem dX12_isRoom_17 : decode cX12_isRoom 17 = .ok (.iload_n 1, 1) := by decide +kernel
theorem dX12_isRoom_18 : decode cX12_isRoom 18 = .ok (.iaload, 1) := by decide +kernel
theorem dX12_isRoom_19 : decode cX12_isRoom 19 = .ok (.aload_n 0, 1) := by decide +kernel
theorem dX12_isRoom_20 : decode cX12_isRoom 20 = .ok (.getfield 41, 3) := by decide +kernel
theorem dX12_isRoom_23 : decode cX12_isRoom 23 = .ok (.iload_n 1, 1) := by decide +kernel
theorem dX12_isRoom_24 : decode cX12_isRoom 24 = .ok (.iaload, 1) := by decide +kernel
theorem dX12_isRoom_25 : decode cX12_isRoom 25 = .ok (.imul, 1) := by decide +kernel
theorem dX12_isRoom_26 : decode cX12_isRoom 26 = .ok (.if_icmp .ge 7, 3) := by decide +kernel
theorem dX12_isRoom_29 : decode cX12_isRoom 29 = .ok (.iconst 1, 1) := by decide +kernel
theorem dX12_isRoom_30 : decode cX12_isRoom 30 = .ok (.goto 4, 3) := by decide +kernel
theorem dX12_isRoom_33 : decode cX12_isRoom 33 = .ok (.iconst 0, 1) := by decide +kernel
theorem dX12_isRoom_34 : decode cX12_isRoom 34 = .ok (.ireturn, 1) := by decide +kernel
theorem okX12_isRoom : ab_okM MX12_isRoom 2 := ⟨by decide, ⟨by decide, by decide⟩, ab_in 2311 (by decide +kernel) (by decide +kernel), ab_in 99 (by decide +kernel) (by decide +kernel), by decide +kernel, by decide⟩
set_option maxHeartbeats 4000000 in
set_option maxRecDepth 100000 in
def wX12_isRoom (v1 : Int32) (v2 : Int32) (x : ab_X) (K : Int32 → Prop) : Prop := wX12_isHouse v1 x (fun r1 => ((r1 = 0 → K 0) ∧ (¬ r1 = 0 → ((v2 < 0 → K 0) ∧ (¬ v2 < 0 → (vp_in v1 12 ∧ vp_in v1 12 ∧ ((((x.1 256 (Int32.toNatClampNeg v1)) * (x.1 257 (Int32.toNatClampNeg v1))) ≤ v2 → K 0) ∧ (¬ ((x.1 256 (Int32.toNatClampNeg v1)) * (x.1 257 (Int32.toNatClampNeg v1))) ≤ v2 → K 1))))))))
set_option maxHeartbeats 4000000 in
set_option maxRecDepth 100000 in
theorem sX12_isRoom (v1 : Int32) (v2 : Int32)  (x : ab_X) (K : Int32 → Prop) (d bc bs : Nat) (hdp : 1 ≤ d) (h : wX12_isRoom v1 v2 x K) : EW MX12_isRoom 0 [(0, .ref 246), (1, .int v1), (2, .int v2)] [] (aS x) d bc bs (liP x K) := by
  unfold wX12_isRoom at h
  refine EW_aload_n (pc2 := 1) rfl dX12_isRoom_0 0 rfl ?_
  refine EW_iload_n (pc2 := 2) rfl dX12_isRoom_1 1 rfl ?_
  refine AW_invV (M' := MX12_isHouse) [.int v1] (rest := []) mlRX12_334 okX12_isHouse (pc2 := 5) rfl dX12_isRoom_2 rfl rfl (Nat.le_of_ble_eq_true rfl) (Nat.le_of_ble_eq_true rfl) (d' := 0) (by omega) q246 ⟨by decide, rfl⟩ (EW_mono (fun _ _ hr => ?_) (sX12_isHouse v1  x _ _ 0 0 (Nat.le_refl _) h))
  obtain ⟨r1, rfl, rfl, h⟩ := hr
  refine EW_if_eq (tgt := 33) (pc2 := 8) rfl dX12_isRoom_5 (by decide) (fun q => ?_) (fun q => ?_)
  · replace h := h.1 q
    refine EW_iconst (pc2 := 34) (v := 0) rfl dX12_isRoom_33 (by decide) ?_
    exact AW_zret rfl isB0 dX12_isRoom_34 ⟨_, rfl, rfl, h⟩
  · replace h := h.2 q
    refine EW_iload_n (pc2 := 9) rfl dX12_isRoom_8 2 rfl ?_
    refine EW_if_lt (tgt := 33) (pc2 := 12) rfl dX12_isRoom_9 (by decide) (fun q => ?_) (fun q => ?_)
    · replace h := h.1 q
      refine EW_iconst (pc2 := 34) (v := 0) rfl dX12_isRoom_33 (by decide) ?_
      exact AW_zret rfl isB0 dX12_isRoom_34 ⟨_, rfl, rfl, h⟩
    · replace h := h.2 q
      refine EW_iload_n (pc2 := 13) rfl dX12_isRoom_12 2 rfl ?_
      refine EW_aload_n (pc2 := 14) rfl dX12_isRoom_13 0 rfl ?_
      refine AW_getr (r := 256) ⟨gfRX12_38, rfl⟩ (pc2 := 17) rfl dX12_isRoom_14 q246 rfl ?_
      refine EW_iload_n (pc2 := 18) rfl dX12_isRoom_17 1 rfl ?_
      obtain ⟨b2, h⟩ := h
      refine AW_iald (pc2 := 19) rfl dX12_isRoom_18 q256 b2 ?_
      refine EW_aload_n (pc2 := 20) rfl dX12_isRoom_19 0 rfl ?_
      refine AW_getr (r := 257) ⟨gfRX12_41, rfl⟩ (pc2 := 23) rfl dX12_isRoom_20 q246 rfl ?_
      refine EW_iload_n (pc2 := 24) rfl dX12_isRoom_23 1 rfl ?_
      obtain ⟨b3, h⟩ := h
      refine AW_iald (pc2 := 25) rfl dX12_isRoom_24 q257 b3 ?_
      refine EW_imul (pc2 := 26) rfl dX12_isRoom_25 ?_
      refine EW_icmp_ge (tgt := 33) (pc2 := 29) rfl dX12_isRoom_26 (by decide) (fun q => ?_) (fun q => ?_)
      · replace h := h.1 q
        refine EW_iconst (pc2 := 34) (v := 0) rfl dX12_isRoom_33 (by decide) ?_
        exact AW_zret rfl isB0 dX12_isRoom_34 ⟨_, rfl, rfl, h⟩
      · replace h := h.2 q
        refine EW_iconst (pc2 := 30) (v := 1) rfl dX12_isRoom_29 (by decide) ?_
        refine EW_goto (tgt := 34) dX12_isRoom_30 (by decide) ?_
        exact AW_zret rfl isB1 dX12_isRoom_34 ⟨_, rfl, rfl, h⟩
abbrev MX12_jam : ab_M := (yX12_jam, cX12_jam, 4, (some .boolean))
theorem dX12_jam_0 : decode cX12_jam 0 = .ok (.aload_n 0, 1) := by decide +kernel
theorem dX12_jam_1 : decode cX12_jam 1 = .ok (.iconst 0, 1) := by decide +kernel
theorem dX12_jam_2 : decode cX12_jam 2 = .ok (.putfield 297, 3) := by decide +kernel
theorem dX12_jam_5 : decode cX12_jam 5 = .ok (.aload_n 0, 1) := by decide +kernel
theorem dX12_jam_6 : decode cX12_jam 6 = .ok (.iload_n 1, 1) := by decide +kernel
theorem dX12_jam_7 : decode cX12_jam 7 = .ok (.invokevirtual 317, 3) := by decide +kernel
theorem dX12_jam_10 : decode cX12_jam 10 = .ok (.ifCond .eq 24, 3) := by decide +kernel
theorem dX12_jam_13 : decode cX12_jam 13 = .ok (.iload_n 2, 1) := by decide +kernel
theorem dX12_jam_14 : decode cX12_jam 14 = .ok (.iconst 0, 1) := by decide +kernel
theorem dX12_jam_15 : decode cX12_jam 15 = .ok (.iconst 3, 1) := by decide +kernel
theorem dX12_jam_16 : decode cX12_jam 16 = .ok (.invokestatic 307, 3) := by decide +kernel
theorem dX12_jam_19 : decode cX12_jam 19 = .ok (.ifCond .eq 15, 3) := by decide +kernel
theorem dX12_jam_22 : decode cX12_jam 22 = .ok (.iload_n 3, 1) := by decide +kernel
theorem dX12_jam_23 : decode cX12_jam 23 = .ok (.bipush 100, 2) := by decide +kernel
theorem dX12_jam_25 : decode cX12_jam 25 = .ok (.sipush 400, 3) := by decide +kernel
theorem dX12_jam_28 : decode cX12_jam 28 = .ok (.invokestatic 307, 3) := by decide +kernel
theorem dX12_jam_31 : decode cX12_jam 31 = .ok (.ifCond .ne 5, 3) := by decide +kernel
theorem dX12_jam_34 : decode cX12_jam 34 = .ok (.iconst 0, 1) := by decide +kernel
theorem dX12_jam_35 : decode cX12_jam 35 = .ok (.ireturn, 1) := by decide +kernel
theorem dX12_jam_36 : decode cX12_jam 36 = .ok (.aload_n 0, 1) := by decide +kernel
theorem dX12_jam_37 : decode cX12_jam 37 = .ok (.getfield 19, 3) := by decide +kernel
theorem dX12_jam_40 : decode cX12_jam 40 = .ok (.iconst 4, 1) := by decide +kernel
theorem dX12_jam_41 : decode cX12_jam 41 = .ok (.iload_n 1, 1) := by decide +kernel
theorem dX12_jam_42 : decode cX12_jam 42 = .ok (.imul, 1) := by decide +kernel
theorem dX12_jam_43 : decode cX12_jam 43 = .ok (.iload_n 2, 1) := by decide +kernel
theorem dX12_jam_44 : decode cX12_jam 44 = .ok (.iadd, 1) := by decide +kernel
theorem dX12_jam_45 : decode cX12_jam 45 = .ok (.iload_n 3, 1) := by decide +kernel
theorem dX12_jam_46 : decode cX12_jam 46 = .ok (.iastore, 1) := by decide +kernel
theorem dX12_jam_47 : decode cX12_jam 47 = .ok (.iconst 1, 1) := by decide +kernel
theorem dX12_jam_48 : decode cX12_jam 48 = .ok (.ireturn, 1) := by decide +kernel
theorem okX12_jam : ab_okM MX12_jam 3 := ⟨by decide, ⟨by decide, by decide⟩, ab_in 2232 (by decide +kernel) (by decide +kernel), ab_in 99 (by decide +kernel) (by decide +kernel), by decide +kernel, by decide⟩
set_option maxHeartbeats 4000000 in
set_option maxRecDepth 100000 in
def wX12_jam (v1 : Int32) (v2 : Int32) (v3 : Int32) (x : ab_X) (K : Int32 → ab_X → Prop) : Prop := wX12_isStreet v1 (wr x 246 0 0) (fun r1 => ((r1 = 0 → K 0 (wr x 246 0 0)) ∧ (¬ r1 = 0 → wX12_isIn v2 0 3 (wr x 246 0 0) (fun r2 => ((r2 = 0 → K 0 (wr x 246 0 0)) ∧ (¬ r2 = 0 → wX12_isIn v3 100 400 (wr x 246 0 0) (fun r3 => ((¬ r3 = 0 → (vp_in ((4 * v1) + v2) 160 ∧ K 1 (wr (wr x 246 0 0) 250 (Int32.toNatClampNeg ((4 * v1) + v2)) v3))) ∧ (r3 = 0 → K 0 (wr x 246 0 0))))))))))
set_option maxHeartbeats 4000000 in
set_option maxRecDepth 100000 in
theorem sX12_jam (v1 : Int32) (v2 : Int32) (v3 : Int32)  (x : ab_X) (K : Int32 → ab_X → Prop) (d bc bs : Nat) (hdp : 1 ≤ d) (h : wX12_jam v1 v2 v3 x K) : EW MX12_jam 0 [(0, .ref 246), (1, .int v1), (2, .int v2), (3, .int v3)] [] (aS x) d bc bs (liI K) := by
  unfold wX12_jam at h
  refine EW_aload_n (pc2 := 1) rfl dX12_jam_0 0 rfl ?_
  refine EW_iconst (pc2 := 2) (v := 0) rfl dX12_jam_1 (by decide) ?_
  refine AW_puti ⟨gfRX12_297, rfl, rfl⟩ (pc2 := 5) rfl dX12_jam_2 q246 ?_
  refine EW_aload_n (pc2 := 6) rfl dX12_jam_5 0 rfl ?_
  refine EW_iload_n (pc2 := 7) rfl dX12_jam_6 1 rfl ?_
  refine AW_invV (M' := MX12_isStreet) [.int v1] (rest := []) mlRX12_317 okX12_isStreet (pc2 := 10) rfl dX12_jam_7 rfl rfl (Nat.le_of_ble_eq_true rfl) (Nat.le_of_ble_eq_true rfl) (d' := 0) (by omega) q246 ⟨by decide, rfl⟩ (EW_mono (fun _ _ hr => ?_) (sX12_isStreet v1  (wr x 246 0 0) _ _ 0 0 (Nat.le_refl _) h))
  obtain ⟨r1, rfl, rfl, h⟩ := hr
  refine EW_if_eq (tgt := 34) (pc2 := 13) rfl dX12_jam_10 (by decide) (fun q => ?_) (fun q => ?_)
  · replace h := h.1 q
    refine EW_iconst (pc2 := 35) (v := 0) rfl dX12_jam_34 (by decide) ?_
    exact AW_zret rfl isB0 dX12_jam_35 ⟨_, _, rfl, rfl, h⟩
  · replace h := h.2 q
    refine EW_iload_n (pc2 := 14) rfl dX12_jam_13 2 rfl ?_
    refine EW_iconst (pc2 := 15) (v := 0) rfl dX12_jam_14 (by decide) ?_
    refine EW_iconst (pc2 := 16) (v := 3) rfl dX12_jam_15 (by decide) ?_
    refine AW_invS (M' := MX12_isIn) [.int v2, .int 0, .int 3] (rest := []) mlRX12_307 okX12_isIn (pc2 := 19) rfl dX12_jam_16 rfl rfl (Nat.le_of_ble_eq_true rfl) (Nat.le_of_ble_eq_true rfl) (d' := 0) (by omega) (EW_mono (fun _ _ hr => ?_) (sX12_isIn v2 0 3  (wr x 246 0 0) _ _ 0 0 (Nat.le_refl _) h))
    obtain ⟨r2, rfl, rfl, h⟩ := hr
    refine EW_if_eq (tgt := 34) (pc2 := 22) rfl dX12_jam_19 (by decide) (fun q => ?_) (fun q => ?_)
    · replace h := h.1 q
      refine EW_iconst (pc2 := 35) (v := 0) rfl dX12_jam_34 (by decide) ?_
      exact AW_zret rfl isB0 dX12_jam_35 ⟨_, _, rfl, rfl, h⟩
    · replace h := h.2 q
      refine EW_iload_n (pc2 := 23) rfl dX12_jam_22 3 rfl ?_
      refine EW_bipush (pc2 := 25) (v := 100) rfl dX12_jam_23 (by decide) ?_
      refine EW_sipush (pc2 := 28) (v := 400) rfl dX12_jam_25 (by decide) ?_
      refine AW_invS (M' := MX12_isIn) [.int v3, .int 100, .int 400] (rest := []) mlRX12_307 okX12_isIn (pc2 := 31) rfl dX12_jam_28 rfl rfl (Nat.le_of_ble_eq_true rfl) (Nat.le_of_ble_eq_true rfl) (d' := 0) (by omega) (EW_mono (fun _ _ hr => ?_) (sX12_isIn v3 100 400  (wr x 246 0 0) _ _ 0 0 (Nat.le_refl _) h))
      obtain ⟨r3, rfl, rfl, h⟩ := hr
      refine EW_if_ne (tgt := 36) (pc2 := 34) rfl dX12_jam_31 (by decide) (fun q => ?_) (fun q => ?_)
      · replace h := h.1 q
        refine EW_aload_n (pc2 := 37) rfl dX12_jam_36 0 rfl ?_
        refine AW_getr (r := 250) ⟨gfRX12_19, rfl⟩ (pc2 := 40) rfl dX12_jam_37 q246 rfl ?_
        refine EW_iconst (pc2 := 41) (v := 4) rfl dX12_jam_40 (by decide) ?_
        refine EW_iload_n (pc2 := 42) rfl dX12_jam_41 1 rfl ?_
        refine EW_imul (pc2 := 43) rfl dX12_jam_42 ?_
        refine EW_iload_n (pc2 := 44) rfl dX12_jam_43 2 rfl ?_
        refine EW_iadd (pc2 := 45) rfl dX12_jam_44 ?_
        refine EW_iload_n (pc2 := 46) rfl dX12_jam_45 3 rfl ?_
        obtain ⟨b4, h⟩ := h
        refine AW_iast (pc2 := 47) rfl dX12_jam_46 q250 b4 ?_
        refine EW_iconst (pc2 := 48) (v := 1) rfl dX12_jam_47 (by decide) ?_
        exact AW_zret rfl isB1 dX12_jam_48 ⟨_, _, rfl, rfl, h⟩
      · replace h := h.2 q
        refine EW_iconst (pc2 := 35) (v := 0) rfl dX12_jam_34 (by decide) ?_
        exact AW_zret rfl isB0 dX12_jam_35 ⟨_, _, rfl, rfl, h⟩
abbrev MJxe99ae_isNaN_b9ae7 : ab_M := (yJxe99ae_isNaN_b9ae7, cJxe99ae_isNaN_b9ae7, 2, (some .boolean))
theorem dJxe99ae_isNaN_b9ae7_0 : decode cJxe99ae_isNaN_b9ae7 0 = .ok (.dload_n 0, 1) := by decide +kernel
theorem dJxe99ae_isNaN_b9ae7_1 : decode cJxe99ae_isNaN_b9ae7 1 = .ok (.dload_n 0, 1) := by decide +kernel
theorem dJxe99ae_isNaN_b9ae7_2 : decode cJxe99ae_isNaN_b9ae7 2 = .ok (.dcmp .l, 1) := by decide +kernel
theorem dJxe99ae_isNaN_b9ae7_3 : decode cJxe99ae_isNaN_b9ae7 3 = .ok (.ifCond .eq 7, 3) := by decide +kernel
theorem dJxe99ae_isNaN_b9ae7_6 : decode cJxe99ae_isNaN_b9ae7 6 = .ok (.iconst 1, 1) := by decide +kernel
theorem dJxe99ae_isNaN_b9ae7_7 : decode cJxe99ae_isNaN_b9ae7 7 = .ok (.goto 4, 3) := by decide +kernel
theorem dJxe99ae_isNaN_b9ae7_10 : decode cJxe99ae_isNaN_b9ae7 10 = .ok (.iconst 0, 1) := by decide +kernel
theorem dJxe99ae_isNaN_b9ae7_11 : decode cJxe99ae_isNaN_b9ae7 11 = .ok (.ireturn, 1) := by decide +kernel
theorem okJxe99ae_isNaN_b9ae7 : ab_okM MJxe99ae_isNaN_b9ae7 1 := ⟨by decide, ⟨by decide, by decide⟩, ab_in 2736 (by decide +kernel) (by decide +kernel), ab_in 112 (by decide +kernel) (by decide +kernel), by decide +kernel, by decide⟩
set_option maxHeartbeats 4000000 in
set_option maxRecDepth 100000 in
def wJxe99ae_isNaN_b9ae7 (v0 : UInt64) (x : ab_X) (K : Int32 → Prop) : Prop := (((Op.cmpValue (FP.dcmp v0 v0) .l) = 0 → K 0) ∧ (¬ (Op.cmpValue (FP.dcmp v0 v0) .l) = 0 → K 1))
set_option maxHeartbeats 4000000 in
set_option maxRecDepth 100000 in
theorem sJxe99ae_isNaN_b9ae7 (v0 : UInt64)  (x : ab_X) (K : Int32 → Prop) (d bc bs : Nat) (hdp : 0 ≤ d) (h : wJxe99ae_isNaN_b9ae7 v0 x K) : EW MJxe99ae_isNaN_b9ae7 0 [(0, .double v0)] [] (aS x) d bc bs (liP x K) := by
  unfold wJxe99ae_isNaN_b9ae7 at h
  refine EW_dload_n (pc2 := 1) rfl dJxe99ae_isNaN_b9ae7_0 0 rfl ?_
  refine EW_dload_n (pc2 := 2) rfl dJxe99ae_isNaN_b9ae7_1 0 rfl ?_
  refine EW_dcmp (pc2 := 3) rfl dJxe99ae_isNaN_b9ae7_2 ?_
  refine EW_if_eq (tgt := 10) (pc2 := 6) rfl dJxe99ae_isNaN_b9ae7_3 (by decide) (fun q => ?_) (fun q => ?_)
  · replace h := h.1 q
    refine EW_iconst (pc2 := 11) (v := 0) rfl dJxe99ae_isNaN_b9ae7_10 (by decide) ?_
    exact AW_zret rfl isB0 dJxe99ae_isNaN_b9ae7_11 ⟨_, rfl, rfl, h⟩
  · replace h := h.2 q
    refine EW_iconst (pc2 := 7) (v := 1) rfl dJxe99ae_isNaN_b9ae7_6 (by decide) ?_
    refine EW_goto (tgt := 11) dJxe99ae_isNaN_b9ae7_7 (by decide) ?_
    exact AW_zret rfl isB1 dJxe99ae_isNaN_b9ae7_11 ⟨_, rfl, rfl, h⟩
theorem mlRX12_663 : Cond.methodLink RX12 663 yJxe99ae_isNaN_b9ae7 ∈ ab_G ∧ Cond.static yJxe99ae_isNaN_b9ae7 ∈ ab_G := ⟨ab_in 2734 (by decide +kernel) (by decide +kernel), ab_in 2735 (by decide +kernel) (by decide +kernel)⟩
theorem cnRX12_667 : Cond.constantDouble RX12 667 4652007308841189376 ∈ ab_G := ab_in 2737 (by decide +kernel) (by decide +kernel)
abbrev MX12_judged : ab_M := (yX12_judged, cX12_judged, 9, (some .double))
theorem dX12_judged_0 : decode cX12_judged 0 = .ok (.dconst 0, 1) := by decide +kernel
theorem dX12_judged_1 : decode cX12_judged 1 = .ok (.dstore 4, 2) := by decide +kernel
theorem dX12_judged_3 : decode cX12_judged 3 = .ok (.iconst 0, 1) := by decide +kernel
theorem dX12_judged_4 : decode cX12_judged 4 = .ok (.istore 6, 2) := by decide +kernel
theorem dX12_judged_6 : decode cX12_judged 6 = .ok (.iload 6, 2) := by decide +kernel
theorem dX12_judged_8 : decode cX12_judged 8 = .ok (.bipush 20, 2) := by decide +kernel
theorem dX12_judged_10 : decode cX12_judged 10 = .ok (.if_icmp .ge 53, 3) := by decide +kernel
theorem dX12_judged_13 : decode cX12_judged 13 = .ok (.aload_n 0, 1) := by decide +kernel
theorem dX12_judged_14 : decode cX12_judged 14 = .ok (.getfield 271, 3) := by decide +kernel
theorem dX12_judged_17 : decode cX12_judged 17 = .ok (.bipush 20, 2) := by decide +kernel
theorem dX12_judged_19 : decode cX12_judged 19 = .ok (.iload_n 1, 1) := by decide +kernel
theorem dX12_judged_20 : decode cX12_judged 20 = .ok (.imul, 1) := by decide +kernel
theorem dX12_judged_21 : decode cX12_judged 21 = .ok (.iload 6, 2) := by decide +kernel
theorem dX12_judged_23 : decode cX12_judged 23 = .ok (.iadd, 1) := by decide +kernel
theorem dX12_judged_24 : decode cX12_judged 24 = .ok (.daload, 1) := by decide +kernel
theorem dX12_judged_25 : decode cX12_judged 25 = .ok (.dstore 7, 2) := by decide +kernel
theorem dX12_judged_27 : decode cX12_judged 27 = .ok (.dload 7, 2) := by decide +kernel
theorem dX12_judged_29 : decode cX12_judged 29 = .ok (.invokestatic 663, 3) := by decide +kernel
theorem dX12_judged_32 : decode cX12_judged 32 = .ok (.ifCond .eq 8, 3) := by decide +kernel
theorem dX12_judged_35 : decode cX12_judged 35 = .ok (.ldc2_w 667, 3) := by decide +kernel
theorem dX12_judged_38 : decode cX12_judged 38 = .ok (.dstore 7, 2) := by decide +kernel
theorem dX12_judged_40 : decode cX12_judged 40 = .ok (.dload 4, 2) := by decide +kernel
theorem dX12_judged_42 : decode cX12_judged 42 = .ok (.dload 7, 2) := by decide +kernel
theorem dX12_judged_44 : decode cX12_judged 44 = .ok (.aload_n 0, 1) := by decide +kernel
theorem dX12_judged_45 : decode cX12_judged 45 = .ok (.iload 6, 2) := by decide +kernel
theorem dX12_judged_47 : decode cX12_judged 47 = .ok (.iload_n 2, 1) := by decide +kernel
theorem dX12_judged_48 : decode cX12_judged 48 = .ok (.iload_n 3, 1) := by decide +kernel
theorem dX12_judged_49 : decode cX12_judged 49 = .ok (.invokevirtual 636, 3) := by decide +kernel
theorem dX12_judged_52 : decode cX12_judged 52 = .ok (.i2d, 1) := by decide +kernel
theorem dX12_judged_53 : decode cX12_judged 53 = .ok (.dmul, 1) := by decide +kernel
theorem dX12_judged_54 : decode cX12_judged 54 = .ok (.dadd, 1) := by decide +kernel
theorem dX12_judged_55 : decode cX12_judged 55 = .ok (.dstore 4, 2) := by decide +kernel
theorem dX12_judged_57 : decode cX12_judged 57 = .ok (.iinc 6 1, 3) := by decide +kernel
theorem dX12_judged_60 : decode cX12_judged 60 = .ok (.goto (-54), 3) := by decide +kernel
theorem dX12_judged_63 : decode cX12_judged 63 = .ok (.dload 4, 2) := by decide +kernel
theorem dX12_judged_65 : decode cX12_judged 65 = .ok (.dreturn, 1) := by decide +kernel
theorem okX12_judged : ab_okM MX12_judged 3 := ⟨by decide, ⟨by decide, by decide⟩, ab_in 2733 (by decide +kernel) (by decide +kernel), ab_in 99 (by decide +kernel) (by decide +kernel), by decide +kernel, by decide⟩
set_option maxHeartbeats 4000000 in
set_option maxRecDepth 100000 in
def wX12_judged_40 (v1 : Int32) (v2 : Int32) (v3 : Int32) (v4 : UInt64) (v6 : Int32) (v7 : UInt64) (x : ab_X) (K : UInt64 → Prop) (L6 : UInt64 → Int32 → Prop) : Prop := wX12_pointsOf v6 v2 v3 x (fun r3 => (∀ r4, alike64 r4 (FP.dmul v7 (FP.i2d r3)) = true → (∀ r5, alike64 r5 (FP.dadd v4 r4) = true → L6 r5 (v6 + 1))))
set_option maxHeartbeats 4000000 in
set_option maxRecDepth 100000 in
theorem sX12_judged_40 (v1 : Int32) (v2 : Int32) (v3 : Int32) (v4 : UInt64) (v6 : Int32) (v7 : UInt64)  (x : ab_X) (K : UInt64 → Prop) (L6 : UInt64 → Int32 → Prop) (d bc bs : Nat) (hdp : 2 ≤ d) (hL6 : ∀ (v4 : UInt64) (v6 : Int32), L6 v4 v6 → EW MX12_judged 6 [(0, .ref 246), (1, .int v1), (2, .int v2), (3, .int v3), (4, .double v4), (6, .int v6)] [] (aS x) d bc bs (liD x K)) (h : wX12_judged_40 v1 v2 v3 v4 v6 v7 x K L6) : EW MX12_judged 40 [(0, .ref 246), (1, .int v1), (2, .int v2), (3, .int v3), (4, .double v4), (6, .int v6), (7, .double v7)] [] (aS x) d bc bs (liD x K) := by
  unfold wX12_judged_40 at h
  refine EW_dload (pc2 := 42) rfl dX12_judged_40 4 rfl ?_
  refine EW_dload (pc2 := 44) rfl dX12_judged_42 6 rfl ?_
  refine EW_aload_n (pc2 := 45) rfl dX12_judged_44 0 rfl ?_
  refine EW_iload (pc2 := 47) rfl dX12_judged_45 5 rfl ?_
  refine EW_iload_n (pc2 := 48) rfl dX12_judged_47 2 rfl ?_
  refine EW_iload_n (pc2 := 49) rfl dX12_judged_48 3 rfl ?_
  refine AW_invV (M' := MX12_pointsOf) [.int v6, .int v2, .int v3] (rest := [.double v7, .double v4]) mlRX12_636 okX12_pointsOf (pc2 := 52) rfl dX12_judged_49 rfl rfl (Nat.le_of_ble_eq_true rfl) (Nat.le_of_ble_eq_true rfl) (d' := 1) (by omega) q246 ⟨by decide, rfl⟩ (EW_mono (fun _ _ hr => ?_) (sX12_pointsOf v6 v2 v3  x _ _ 0 0 (Nat.le_refl _) h))
  obtain ⟨r3, rfl, rfl, h⟩ := hr
  refine EW_i2d (pc2 := 53) rfl dX12_judged_52 ?_
  refine EW_dmul_any (pc2 := 54) rfl dX12_judged_53 (fun r4 qr4 => ?_)
  replace h := h r4 qr4
  refine EW_dadd_any (pc2 := 55) rfl dX12_judged_54 (fun r5 qr5 => ?_)
  replace h := h r5 qr5
  refine EW_dstore (pc2 := 57) rfl dX12_judged_55 (by decide) [1, 2, 3, 4, 0, 5, 6] [(0, .ref 246), (1, .int v1), (2, .int v2), (3, .int v3), (4, .double r5), (6, .int v6), (7, .double v7)] rfl ?_
  refine EW_iinc (v6 + 1) (pc2 := 60) rfl dX12_judged_57 5 rfl rfl (by decide) [1, 2, 3, 4, 5, 0, 6] [(0, .ref 246), (1, .int v1), (2, .int v2), (3, .int v3), (4, .double r5), (6, .int (v6 + 1)), (7, .double v7)] rfl ?_
  refine EW_goto (tgt := 6) dX12_judged_60 (by decide) ?_
  refine EW_ls [0, 1, 2, 3, 4, 5] rfl ?_
  exact hL6 r5 (v6 + 1) h
set_option maxHeartbeats 4000000 in
set_option maxRecDepth 100000 in
def lX12_judged_6 (v1 : Int32) (v2 : Int32) (v3 : Int32) (x : ab_X) (K : UInt64 → Prop)  (L6 : UInt64 → Int32 → Prop) (v4 : UInt64) (v6 : Int32) : Prop := ((20 ≤ v6 → K v4) ∧ (¬ 20 ≤ v6 → (vp_in ((20 * v1) + v6) 120 ∧ wJxe99ae_isNaN_b9ae7 (x.2.1 329 (Int32.toNatClampNeg ((20 * v1) + v6))) x (fun r2 => ((r2 = 0 → wX12_judged_40 v1 v2 v3 v4 v6 (x.2.1 329 (Int32.toNatClampNeg ((20 * v1) + v6))) x K L6) ∧ (¬ r2 = 0 → wX12_judged_40 v1 v2 v3 v4 v6 4652007308841189376 x K L6))))))
set_option maxHeartbeats 4000000 in
set_option maxRecDepth 100000 in
theorem sX12_judged_6 (v1 : Int32) (v2 : Int32) (v3 : Int32) (v4 : UInt64) (v6 : Int32)  (x : ab_X) (K : UInt64 → Prop)  (d bc bs : Nat) (hdp : 2 ≤ d)  (h : Lp2 (lX12_judged_6 v1 v2 v3 x K ) v4 v6) : EW MX12_judged 6 [(0, .ref 246), (1, .int v1), (2, .int v2), (3, .int v3), (4, .double v4), (6, .int v6)] [] (aS x) d bc bs (liD x K) := by
  refine Lp2.use (P := fun v4 v6 => EW MX12_judged 6 [(0, .ref 246), (1, .int v1), (2, .int v2), (3, .int v3), (4, .double v4), (6, .int v6)] [] (aS x) d bc bs (liD x K)) (fun L6 v4 v6 hL6 h => ?_) v4 v6 h
  unfold lX12_judged_6 at h
  refine EW_iload (pc2 := 8) rfl dX12_judged_6 5 rfl ?_
  refine EW_bipush (pc2 := 10) (v := 20) rfl dX12_judged_8 (by decide) ?_
  refine EW_icmp_ge (tgt := 63) (pc2 := 13) rfl dX12_judged_10 (by decide) (fun q => ?_) (fun q => ?_)
  · replace h := h.1 q
    refine EW_dload (pc2 := 65) rfl dX12_judged_63 4 rfl ?_
    exact EW_dret rfl dX12_judged_65 ⟨_, rfl, rfl, h⟩
  · replace h := h.2 q
    refine EW_aload_n (pc2 := 14) rfl dX12_judged_13 0 rfl ?_
    refine AW_getr (r := 329) ⟨gfRX12_271, rfl⟩ (pc2 := 17) rfl dX12_judged_14 q246 rfl ?_
    refine EW_bipush (pc2 := 19) (v := 20) rfl dX12_judged_17 (by decide) ?_
    refine EW_iload_n (pc2 := 20) rfl dX12_judged_19 1 rfl ?_
    refine EW_imul (pc2 := 21) rfl dX12_judged_20 ?_
    refine EW_iload (pc2 := 23) rfl dX12_judged_21 5 rfl ?_
    refine EW_iadd (pc2 := 24) rfl dX12_judged_23 ?_
    obtain ⟨b1, h⟩ := h
    refine AW_dald (pc2 := 25) rfl dX12_judged_24 q329 b1 ?_
    refine EW_dstore (pc2 := 27) rfl dX12_judged_25 (by decide) [1, 2, 3, 4, 5, 6, 0] [(0, .ref 246), (1, .int v1), (2, .int v2), (3, .int v3), (4, .double v4), (6, .int v6), (7, .double (x.2.1 329 (Int32.toNatClampNeg ((20 * v1) + v6))))] rfl ?_
    refine EW_dload (pc2 := 29) rfl dX12_judged_27 6 rfl ?_
    refine AW_invS (M' := MJxe99ae_isNaN_b9ae7) [.double (x.2.1 329 (Int32.toNatClampNeg ((20 * v1) + v6)))] (rest := []) mlRX12_663 okJxe99ae_isNaN_b9ae7 (pc2 := 32) rfl dX12_judged_29 rfl rfl (Nat.le_of_ble_eq_true rfl) (Nat.le_of_ble_eq_true rfl) (d' := 0) (by omega) (EW_mono (fun _ _ hr => ?_) (sJxe99ae_isNaN_b9ae7 (x.2.1 329 (Int32.toNatClampNeg ((20 * v1) + v6)))  x _ _ 0 0 (Nat.le_refl _) h))
    obtain ⟨r2, rfl, rfl, h⟩ := hr
    refine EW_if_eq (tgt := 40) (pc2 := 35) rfl dX12_judged_32 (by decide) (fun q => ?_) (fun q => ?_)
    · replace h := h.1 q
      exact sX12_judged_40 v1 v2 v3 v4 v6 (x.2.1 329 (Int32.toNatClampNeg ((20 * v1) + v6))) x K L6 d bc bs hdp hL6 h
    · replace h := h.2 q
      refine EW_ldc2d cnRX12_667 (pc2 := 38) rfl dX12_judged_35 ?_
      refine EW_dstore (pc2 := 40) rfl dX12_judged_38 (by decide) [1, 2, 3, 4, 5, 6, 0] [(0, .ref 246), (1, .int v1), (2, .int v2), (3, .int v3), (4, .double v4), (6, .int v6), (7, .double 4652007308841189376)] rfl ?_
      exact sX12_judged_40 v1 v2 v3 v4 v6 4652007308841189376 x K L6 d bc bs hdp hL6 h
set_option maxHeartbeats 4000000 in
set_option maxRecDepth 100000 in
def wX12_judged (v1 : Int32) (v2 : Int32) (v3 : Int32) (x : ab_X) (K : UInt64 → Prop) : Prop := Lp2 (lX12_judged_6 v1 v2 v3 x K ) 0 0
set_option maxHeartbeats 4000000 in
set_option maxRecDepth 100000 in
theorem sX12_judged (v1 : Int32) (v2 : Int32) (v3 : Int32)  (x : ab_X) (K : UInt64 → Prop) (d bc bs : Nat) (hdp : 2 ≤ d) (h : wX12_judged v1 v2 v3 x K) : EW MX12_judged 0 [(0, .ref 246), (1, .int v1), (2, .int v2), (3, .int v3)] [] (aS x) d bc bs (liD x K) := by
  unfold wX12_judged at h
  refine EW_dconst0 (pc2 := 1) rfl dX12_judged_0 ?_
  refine EW_dstore (pc2 := 3) rfl dX12_judged_1 (by decide) [1, 2, 3, 4, 0] [(0, .ref 246), (1, .int v1), (2, .int v2), (3, .int v3), (4, .double 0)] rfl ?_
  refine EW_iconst (pc2 := 4) (v := 0) rfl dX12_judged_3 (by decide) ?_
  refine EW_istore (pc2 := 6) rfl dX12_judged_4 (by decide) [1, 2, 3, 4, 5, 0] [(0, .ref 246), (1, .int v1), (2, .int v2), (3, .int v3), (4, .double 0), (6, .int 0)] rfl ?_
  exact sX12_judged_6 v1 v2 v3 0 0 x K d bc bs hdp h
theorem mlRX12_670 : Cond.methodLink RX12 670 yX12_canJudge ∈ ab_G ∧ Cond.instanceMethod yX12_canJudge ∈ ab_G ∧ Cond.selects RX12 yX12_canJudge yX12_canJudge ∈ ab_G := ⟨ab_in 2725 (by decide +kernel) (by decide +kernel), ab_in 2727 (by decide +kernel) (by decide +kernel), ab_in 83 (by decide +kernel) (by decide +kernel)⟩
theorem cnRX12_657 : Cond.constantDouble RX12 657 9221120237041090560 ∈ ab_G := ab_in 2708 (by decide +kernel) (by decide +kernel)
theorem mlRX12_673 : Cond.methodLink RX12 673 yX12_judged ∈ ab_G ∧ Cond.instanceMethod yX12_judged ∈ ab_G ∧ Cond.selects RX12 yX12_judged yX12_judged ∈ ab_G := ⟨ab_in 2730 (by decide +kernel) (by decide +kernel), ab_in 2732 (by decide +kernel) (by decide +kernel), ab_in 84 (by decide +kernel) (by decide +kernel)⟩
abbrev MX12_judge : ab_M := (yX12_judge, cX12_judge, 4, (some .double))
theorem dX12_judge_0 : decode cX12_judge 0 = .ok (.aload_n 0, 1) := by decide +kernel
theorem dX12_judge_1 : decode cX12_judge 1 = .ok (.iload_n 1, 1) := by decide +kernel
theorem dX12_judge_2 : decode cX12_judge 2 = .ok (.iload_n 2, 1) := by decide +kernel
theorem dX12_judge_3 : decode cX12_judge 3 = .ok (.iload_n 3, 1) := by decide +kernel
theorem dX12_judge_4 : decode cX12_judge 4 = .ok (.invokevirtual 670, 3) := by decide +kernel
theorem dX12_judge_7 : decode cX12_judge 7 = .ok (.ifCond .eq 13, 3) := by decide +kernel
theorem dX12_judge_10 : decode cX12_judge 10 = .ok (.aload_n 0, 1) := by decide +kernel
theorem dX12_judge_11 : decode cX12_judge 11 = .ok (.iload_n 1, 1) := by decide +kernel
theorem dX12_judge_12 : decode cX12_judge 12 = .ok (.iload_n 2, 1) := by decide +kernel
theorem dX12_judge_13 : decode cX12_judge 13 = .ok (.iload_n 3, 1) := by decide +kernel
theorem dX12_judge_14 : decode cX12_judge 14 = .ok (.invokevirtual 673, 3) := by decide +kernel
theorem dX12_judge_17 : decode cX12_judge 17 = .ok (.goto 6, 3) := by decide +kernel
theorem dX12_judge_20 : decode cX12_judge 20 = .ok (.ldc2_w 657, 3) := by decide +kernel
theorem dX12_judge_23 : decode cX12_judge 23 = .ok (.dreturn, 1) := by decide +kernel
theorem okX12_judge : ab_okM MX12_judge 3 := ⟨by decide, ⟨by decide, by decide⟩, ab_in 2724 (by decide +kernel) (by decide +kernel), ab_in 99 (by decide +kernel) (by decide +kernel), by decide +kernel, by decide⟩
set_option maxHeartbeats 4000000 in
set_option maxRecDepth 100000 in
def wX12_judge (v1 : Int32) (v2 : Int32) (v3 : Int32) (x : ab_X) (K : UInt64 → ab_X → Prop) : Prop := wX12_canJudge v1 v2 v3 x (fun r1 x2 => ((r1 = 0 → K 9221120237041090560 x2) ∧ (¬ r1 = 0 → wX12_judged v1 v2 v3 x2 (fun r3 => K r3 x2))))
set_option maxHeartbeats 4000000 in
set_option maxRecDepth 100000 in
theorem sX12_judge (v1 : Int32) (v2 : Int32) (v3 : Int32)  (x : ab_X) (K : UInt64 → ab_X → Prop) (d bc bs : Nat) (hdp : 3 ≤ d) (h : wX12_judge v1 v2 v3 x K) : EW MX12_judge 0 [(0, .ref 246), (1, .int v1), (2, .int v2), (3, .int v3)] [] (aS x) d bc bs (liDI K) := by
  unfold wX12_judge at h
  refine EW_aload_n (pc2 := 1) rfl dX12_judge_0 0 rfl ?_
  refine EW_iload_n (pc2 := 2) rfl dX12_judge_1 1 rfl ?_
  refine EW_iload_n (pc2 := 3) rfl dX12_judge_2 2 rfl ?_
  refine EW_iload_n (pc2 := 4) rfl dX12_judge_3 3 rfl ?_
  refine AW_invV (M' := MX12_canJudge) [.int v1, .int v2, .int v3] (rest := []) mlRX12_670 okX12_canJudge (pc2 := 7) rfl dX12_judge_4 rfl rfl (Nat.le_of_ble_eq_true rfl) (Nat.le_of_ble_eq_true rfl) (d' := 1) (by omega) q246 ⟨by decide, rfl⟩ (EW_mono (fun _ _ hr => ?_) (sX12_canJudge v1 v2 v3  x _ _ 0 0 (Nat.le_refl _) h))
  obtain ⟨r1, x2, rfl, rfl, h⟩ := hr
  refine EW_if_eq (tgt := 20) (pc2 := 10) rfl dX12_judge_7 (by decide) (fun q => ?_) (fun q => ?_)
  · replace h := h.1 q
    refine EW_ldc2d cnRX12_657 (pc2 := 23) rfl dX12_judge_20 ?_
    exact EW_dret rfl dX12_judge_23 ⟨_, _, rfl, rfl, h⟩
  · replace h := h.2 q
    refine EW_aload_n (pc2 := 11) rfl dX12_judge_10 0 rfl ?_
    refine EW_iload_n (pc2 := 12) rfl dX12_judge_11 1 rfl ?_
    refine EW_iload_n (pc2 := 13) rfl dX12_judge_12 2 rfl ?_
    refine EW_iload_n (pc2 := 14) rfl dX12_judge_13 3 rfl ?_
    refine AW_invV (M' := MX12_judged) [.int v1, .int v2, .int v3] (rest := []) mlRX12_673 okX12_judged (pc2 := 17) rfl dX12_judge_14 rfl rfl (Nat.le_of_ble_eq_true rfl) (Nat.le_of_ble_eq_true rfl) (d' := 2) (by omega) q246 ⟨by decide, rfl⟩ (EW_mono (fun _ _ hr => ?_) (sX12_judged v1 v2 v3  x2 _ _ 0 0 (Nat.le_refl _) h))
    obtain ⟨r3, rfl, rfl, h⟩ := hr
    refine EW_goto (tgt := 23) dX12_judge_17 (by decide) ?_
    exact EW_dret rfl dX12_judge_23 ⟨_, _, rfl, rfl, h⟩
