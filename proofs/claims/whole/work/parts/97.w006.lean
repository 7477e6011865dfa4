theorem gfRX3_123 : ab_L RX3 123 4 5 := ⟨by decide, by decide, ab_in 239 (by decide +kernel) (by decide +kernel)⟩
theorem gfRX3_120 : ab_L RX3 120 4 6 := ⟨by decide, by decide, ab_in 242 (by decide +kernel) (by decide +kernel)⟩
abbrev MX3_gain : ab_M := (yX3_gain, cX3_gain, 7, (some .int))
theorem dX3_gain_0 : decode cX3_gain 0 = .ok (.aload_n 1, 1) := by decide +kernel
theorem dX3_gain_1 : decode cX3_gain 1 = .ok (.iload_n 2, 1) := by decide +kernel
theorem dX3_gain_2 : decode cX3_gain 2 = .ok (.aload_n 1, 1) := by decide +kernel
theorem dX3_gain_3 : decode cX3_gain 3 = .ok (.getfield 60, 3) := by decide +kernel
theorem dX3_gain_6 : decode cX3_gain 6 = .ok (.imul, 1) := by decide +kernel
theorem dX3_gain_7 : decode cX3_gain 7 = .ok (.iload_n 3, 1) := by decide +kernel
theorem dX3_gain_8 : decode cX3_gain 8 = .ok (.iadd, 1) := by decide +kernel
theorem dX3_gain_9 : decode cX3_gain 9 = .ok (.invokevirtual 63, 3) := by decide +kernel
theorem dX3_gain_12 : decode cX3_gain 12 = .ok (.istore 4, 2) := by decide +kernel
theorem dX3_gain_14 : decode cX3_gain 14 = .ok (.aload_n 0, 1) := by decide +kernel
theorem dX3_gain_15 : decode cX3_gain 15 = .ok (.getfield 28, 3) := by decide +kernel
theorem dX3_gain_18 : decode cX3_gain 18 = .ok (.iload 4, 2) := by decide +kernel
theorem dX3_gain_20 : decode cX3_gain 20 = .ok (.baload, 1) := by decide +kernel
theorem dX3_gain_21 : decode cX3_gain 21 = .ok (.ifCond .eq 8, 3) := by decide +kernel
theorem dX3_gain_24 : decode cX3_gain 24 = .ok (.bipush 50, 2) := by decide +kernel
theorem dX3_gain_26 : decode cX3_gain 26 = .ok (.goto 5, 3) := by decide +kernel
theorem dX3_gain_29 : decode cX3_gain 29 = .ok (.bipush (-10), 2) := by decide +kernel
theorem dX3_gain_31 : decode cX3_gain 31 = .ok (.istore 5, 2) := by decide +kernel
theorem dX3_gain_33 : decode cX3_gain 33 = .ok (.aload_n 1, 1) := by decide +kernel
theorem dX3_gain_34 : decode cX3_gain 34 = .ok (.getfield 120, 3) := by decide +kernel
theorem dX3_gain_37 : decode cX3_gain 37 = .ok (.ifCond .eq 8, 3) := by decide +kernel
theorem dX3_gain_40 : decode cX3_gain 40 = .ok (.bipush 30, 2) := by decide +kernel
theorem dX3_gain_42 : decode cX3_gain 42 = .ok (.goto 5, 3) := by decide +kernel
theorem dX3_gain_45 : decode cX3_gain 45 = .ok (.bipush 10, 2) := by decide +kernel
theorem dX3_gain_47 : decode cX3_gain 47 = .ok (.istore 6, 2) := by decide +kernel
theorem dX3_gain_49 : decode cX3_gain 49 = .ok (.iload_n 3, 1) := by decide +kernel
theorem dX3_gain_50 : decode cX3_gain 50 = .ok (.ifCond .le 22, 3) := by decide +kernel
theorem dX3_gain_53 : decode cX3_gain 53 = .ok (.aload_n 0, 1) := by decide +kernel
theorem dX3_gain_54 : decode cX3_gain 54 = .ok (.getfield 28, 3) := by decide +kernel
theorem dX3_gain_57 : decode cX3_gain 57 = .ok (.iload 4, 2) := by decide +kernel
theorem dX3_gain_59 : decode cX3_gain 59 = .ok (.iconst 1, 1) := by decide +kernel
theorem dX3_gain_60 : decode cX3_gain 60 = .ok (.isub, 1) := by decide +kernel
theorem dX3_gain_61 : decode cX3_gain 61 = .ok (.baload, 1) := by decide +kernel
theorem dX3_gain_62 : decode cX3_gain 62 = .ok (.ifCond .eq 10, 3) := by decide +kernel
theorem dX3_gain_65 : decode cX3_gain 65 = .ok (.iload 5, 2) := by decide +kernel
theorem dX3_gain_67 : decode cX3_gain 67 = .ok (.iload 6, 2) := by decide +kernel
theorem dX3_gain_69 : decode cX3_gain 69 = .ok (.iadd, 1) := by decide +kernel
theorem dX3_gain_70 : decode cX3_gain 70 = .ok (.istore 5, 2) := by decide +kernel
theorem dX3_gain_72 : decode cX3_gain 72 = .ok (.iload_n 3, 1) := by decide +kernel
theorem dX3_gain_73 : decode cX3_gain 73 = .ok (.iconst 1, 1) := by decide +kernel
theorem dX3_gain_74 : decode cX3_gain 74 = .ok (.iadd, 1) := by decide +kernel
theorem dX3_gain_75 : decode cX3_gain 75 = .ok (.aload_n 1, 1) := by decide +kernel
theorem dX3_gain_76 : decode cX3_gain 76 = .ok (.getfield 60, 3) := by decide +kernel
theorem dX3_gain_79 : decode cX3_gain 79 = .ok (.if_icmp .ge 22, 3) := by decide +kernel
theorem dX3_gain_82 : decode cX3_gain 82 = .ok (.aload_n 0, 1) := by decide +kernel
theorem dX3_gain_83 : decode cX3_gain 83 = .ok (.getfield 28, 3) := by decide +kernel
theorem dX3_gain_86 : decode cX3_gain 86 = .ok (.iload 4, 2) := by decide +kernel
theorem dX3_gain_88 : decode cX3_gain 88 = .ok (.iconst 1, 1) := by decide +kernel
theorem dX3_gain_89 : decode cX3_gain 89 = .ok (.iadd, 1) := by decide +kernel
theorem dX3_gain_90 : decode cX3_gain 90 = .ok (.baload, 1) := by decide +kernel
theorem dX3_gain_91 : decode cX3_gain 91 = .ok (.ifCond .eq 10, 3) := by decide +kernel
theorem dX3_gain_94 : decode cX3_gain 94 = .ok (.iload 5, 2) := by decide +kernel
theorem dX3_gain_96 : decode cX3_gain 96 = .ok (.iload 6, 2) := by decide +kernel
theorem dX3_gain_98 : decode cX3_gain 98 = .ok (.iadd, 1) := by decide +kernel
theorem dX3_gain_99 : decode cX3_gain 99 = .ok (.istore 5, 2) := by decide +kernel
theorem dX3_gain_101 : decode cX3_gain 101 = .ok (.iload_n 2, 1) := by decide +kernel
theorem dX3_gain_102 : decode cX3_gain 102 = .ok (.ifCond .le 38, 3) := by decide +kernel
theorem dX3_gain_105 : decode cX3_gain 105 = .ok (.aload_n 0, 1) := by decide +kernel
theorem dX3_gain_106 : decode cX3_gain 106 = .ok (.getfield 28, 3) := by decide +kernel
theorem dX3_gain_109 : decode cX3_gain 109 = .ok (.iload 4, 2) := by decide +kernel
theorem dX3_gain_111 : decode cX3_gain 111 = .ok (.aload_n 1, 1) := by decide +kernel
theorem dX3_gain_112 : decode cX3_gain 112 = .ok (.getfield 60, 3) := by decide +kernel
theorem dX3_gain_115 : decode cX3_gain 115 = .ok (.isub, 1) := by decide +kernel
theorem dX3_gain_116 : decode cX3_gain 116 = .ok (.baload, 1) := by decide +kernel
theorem dX3_gain_117 : decode cX3_gain 117 = .ok (.ifCond .eq 23, 3) := by decide +kernel
theorem dX3_gain_120 : decode cX3_gain 120 = .ok (.iload 5, 2) := by decide +kernel
theorem dX3_gain_122 : decode cX3_gain 122 = .ok (.iload_n 3, 1) := by decide +kernel
theorem dX3_gain_123 : decode cX3_gain 123 = .ok (.aload_n 1, 1) := by decide +kernel
theorem dX3_gain_124 : decode cX3_gain 124 = .ok (.getfield 123, 3) := by decide +kernel
theorem dX3_gain_127 : decode cX3_gain 127 = .ok (.if_icmp .ne 8, 3) := by decide +kernel
theorem dX3_gain_130 : decode cX3_gain 130 = .ok (.bipush 60, 2) := by decide +kernel
theorem dX3_gain_132 : decode cX3_gain 132 = .ok (.goto 5, 3) := by decide +kernel
theorem dX3_gain_135 : decode cX3_gain 135 = .ok (.bipush 20, 2) := by decide +kernel
theorem dX3_gain_137 : decode cX3_gain 137 = .ok (.iadd, 1) := by decide +kernel
theorem dX3_gain_138 : decode cX3_gain 138 = .ok (.istore 5, 2) := by decide +kernel
theorem dX3_gain_140 : decode cX3_gain 140 = .ok (.iload_n 2, 1) := by decide +kernel
theorem dX3_gain_141 : decode cX3_gain 141 = .ok (.iconst 1, 1) := by decide +kernel
theorem dX3_gain_142 : decode cX3_gain 142 = .ok (.iadd, 1) := by decide +kernel
theorem dX3_gain_143 : decode cX3_gain 143 = .ok (.aload_n 1, 1) := by decide +kernel
theorem dX3_gain_144 : decode cX3_gain 144 = .ok (.getfield 56, 3) := by decide +kernel
theorem dX3_gain_147 : decode cX3_gain 147 = .ok (.if_icmp .ge 21, 3) := by decide +kernel
theorem dX3_gain_150 : decode cX3_gain 150 = .ok (.aload_n 0, 1) := by decide +kernel
theorem dX3_gain_151 : decode cX3_gain 151 = .ok (.getfield 28, 3) := by decide +kernel
theorem dX3_gain_154 : decode cX3_gain 154 = .ok (.iload 4, 2) := by decide +kernel
theorem dX3_gain_156 : decode cX3_gain 156 = .ok (.aload_n 1, 1) := by decide +kernel
theorem dX3_gain_157 : decode cX3_gain 157 = .ok (.getfield 60, 3) := by decide +kernel
theorem dX3_gain_160 : decode cX3_gain 160 = .ok (.iadd, 1) := by decide +kernel
theorem dX3_gain_161 : decode cX3_gain 161 = .ok (.baload, 1) := by decide +kernel
theorem dX3_gain_162 : decode cX3_gain 162 = .ok (.ifCond .eq 6, 3) := by decide +kernel
theorem dX3_gain_165 : decode cX3_gain 165 = .ok (.iinc 5 5, 3) := by decide +kernel
theorem dX3_gain_168 : decode cX3_gain 168 = .ok (.iload 5, 2) := by decide +kernel
theorem dX3_gain_170 : decode cX3_gain 170 = .ok (.ireturn, 1) := by decide +kernel
theorem okX3_gain : ab_okM MX3_gain 3 := ⟨by decide, ⟨by decide, by decide⟩, ab_in 1466 (by decide +kernel) (by decide +kernel), ab_in 90 (by decide +kernel) (by decide +kernel), by decide +kernel, by decide⟩
set_option maxHeartbeats 4000000 in
set_option maxRecDepth 100000 in
theorem sX3_gain_140 (v0 : Nat) (v1 : Nat) (v2 : Int32) (v4 : Int32) (v5 : Int32) (hv0 : isF v0) (hv1 : isH v1) (x : ab_X) (K : Int32 → Prop)  (d bc bs : Nat) (hdp : 1 ≤ d)  (h : wX3_gain_140 v0 v1 v2 v4 v5 x K ) : EW MX3_gain 140 [(0, .ref v0), (1, .ref v1), (2, .int v2), (4, .int v4), (5, .int v5)] [] (aS x) d bc bs (liP x K) := by
  unfold wX3_gain_140 at h
  refine EW_iload_n (pc2 := 141) rfl dX3_gain_140 2 rfl ?_
  refine EW_iconst (pc2 := 142) (v := 1) rfl dX3_gain_141 (by decide) ?_
  refine EW_iadd (pc2 := 143) rfl dX3_gain_142 ?_
  refine EW_aload_n (pc2 := 144) rfl dX3_gain_143 1 rfl ?_
  refine AW_geti ⟨gfRX3_56, rfl⟩ (pc2 := 147) rfl dX3_gain_144 (isH.o hv1) ?_
  refine EW_icmp_ge (tgt := 168) (pc2 := 150) rfl dX3_gain_147 (by decide) (fun q => ?_) (fun q => ?_)
  · replace h := h.1 q
    refine EW_iload (pc2 := 170) rfl dX3_gain_168 4 rfl ?_
    exact AW_iret rfl dX3_gain_170 ⟨_, rfl, rfl, h⟩
  · replace h := h.2 q
    refine EW_aload_n (pc2 := 151) rfl dX3_gain_150 0 rfl ?_
    refine AW_getr (r := (v0 + 6)) ⟨gfRX3_28, rfl⟩ (pc2 := 154) rfl dX3_gain_151 (isF.o hv0) (isF.r5 hv0) ?_
    refine EW_iload (pc2 := 156) rfl dX3_gain_154 3 rfl ?_
    refine EW_aload_n (pc2 := 157) rfl dX3_gain_156 1 rfl ?_
    refine AW_geti ⟨gfRX3_60, rfl⟩ (pc2 := 160) rfl dX3_gain_157 (isH.o hv1) ?_
    refine EW_iadd (pc2 := 161) rfl dX3_gain_160 ?_
    obtain ⟨b6, h⟩ := h
    refine AW_zald (pc2 := 162) rfl dX3_gain_161 (isF.a5 hv0) b6 ?_
    refine EW_if_eq (tgt := 168) (pc2 := 165) rfl dX3_gain_162 (by decide) (fun q => ?_) (fun q => ?_)
    · replace h := h.1 q
      refine EW_iload (pc2 := 170) rfl dX3_gain_168 4 rfl ?_
      exact AW_iret rfl dX3_gain_170 ⟨_, rfl, rfl, h⟩
    · replace h := h.2 q
      refine EW_iinc (v5 + 5) (pc2 := 168) rfl dX3_gain_165 4 rfl rfl (by decide) [1, 2, 3, 4, 0] [(0, .ref v0), (1, .ref v1), (2, .int v2), (4, .int v4), (5, .int (v5 + 5))] rfl ?_
      refine EW_iload (pc2 := 170) rfl dX3_gain_168 4 rfl ?_
      exact AW_iret rfl dX3_gain_170 ⟨_, rfl, rfl, h⟩
set_option maxHeartbeats 4000000 in
set_option maxRecDepth 100000 in
theorem sX3_gain_137 (v0 : Nat) (v1 : Nat) (v2 : Int32) (v4 : Int32) (s0 : Int32) (s1 : Int32) (hv0 : isF v0) (hv1 : isH v1) (x : ab_X) (K : Int32 → Prop)  (d bc bs : Nat) (hdp : 1 ≤ d)  (h : wX3_gain_137 v0 v1 v2 v4 s0 s1 x K ) : EW MX3_gain 137 [(0, .ref v0), (1, .ref v1), (2, .int v2), (4, .int v4)] [.int s1, .int s0] (aS x) d bc bs (liP x K) := by
  unfold wX3_gain_137 at h
  refine EW_iadd (pc2 := 138) rfl dX3_gain_137 ?_
  refine EW_istore (pc2 := 140) rfl dX3_gain_138 (by decide) [1, 2, 3, 4, 0] [(0, .ref v0), (1, .ref v1), (2, .int v2), (4, .int v4), (5, .int (s0 + s1))] rfl ?_
  exact sX3_gain_140 v0 v1 v2 v4 (s0 + s1) hv0 hv1 x K d bc bs hdp h
set_option maxHeartbeats 4000000 in
set_option maxRecDepth 100000 in
theorem sX3_gain_101 (v0 : Nat) (v1 : Nat) (v2 : Int32) (v3 : Int32) (v4 : Int32) (v5 : Int32) (hv0 : isF v0) (hv1 : isH v1) (x : ab_X) (K : Int32 → Prop)  (d bc bs : Nat) (hdp : 1 ≤ d)  (h : wX3_gain_101 v0 v1 v2 v3 v4 v5 x K ) : EW MX3_gain 101 [(0, .ref v0), (1, .ref v1), (2, .int v2), (3, .int v3), (4, .int v4), (5, .int v5)] [] (aS x) d bc bs (liP x K) := by
  unfold wX3_gain_101 at h
  refine EW_iload_n (pc2 := 102) rfl dX3_gain_101 2 rfl ?_
  refine EW_if_le (tgt := 140) (pc2 := 105) rfl dX3_gain_102 (by decide) (fun q => ?_) (fun q => ?_)
  · replace h := h.1 q
    refine EW_ls [0, 1, 2, 4, 5] rfl ?_
    exact sX3_gain_140 v0 v1 v2 v4 v5 hv0 hv1 x K d bc bs hdp h
  · replace h := h.2 q
    refine EW_aload_n (pc2 := 106) rfl dX3_gain_105 0 rfl ?_
    refine AW_getr (r := (v0 + 6)) ⟨gfRX3_28, rfl⟩ (pc2 := 109) rfl dX3_gain_106 (isF.o hv0) (isF.r5 hv0) ?_
    refine EW_iload (pc2 := 111) rfl dX3_gain_109 4 rfl ?_
    refine EW_aload_n (pc2 := 112) rfl dX3_gain_111 1 rfl ?_
    refine AW_geti ⟨gfRX3_60, rfl⟩ (pc2 := 115) rfl dX3_gain_112 (isH.o hv1) ?_
    refine EW_isub (pc2 := 116) rfl dX3_gain_115 ?_
    obtain ⟨b5, h⟩ := h
    refine AW_zald (pc2 := 117) rfl dX3_gain_116 (isF.a5 hv0) b5 ?_
    refine EW_if_eq (tgt := 140) (pc2 := 120) rfl dX3_gain_117 (by decide) (fun q => ?_) (fun q => ?_)
    · replace h := h.1 q
      refine EW_ls [0, 1, 2, 4, 5] rfl ?_
      exact sX3_gain_140 v0 v1 v2 v4 v5 hv0 hv1 x K d bc bs hdp h
    · replace h := h.2 q
      refine EW_iload (pc2 := 122) rfl dX3_gain_120 5 rfl ?_
      refine EW_iload_n (pc2 := 123) rfl dX3_gain_122 3 rfl ?_
      refine EW_aload_n (pc2 := 124) rfl dX3_gain_123 1 rfl ?_
      refine AW_geti ⟨gfRX3_123, rfl⟩ (pc2 := 127) rfl dX3_gain_124 (isH.o hv1) ?_
      refine EW_icmp_ne (tgt := 135) (pc2 := 130) rfl dX3_gain_127 (by decide) (fun q => ?_) (fun q => ?_)
      · replace h := h.1 q
        refine EW_bipush (pc2 := 137) (v := 20) rfl dX3_gain_135 (by decide) ?_
        refine EW_ls [0, 1, 2, 4] rfl ?_
        exact sX3_gain_137 v0 v1 v2 v4 v5 20 hv0 hv1 x K d bc bs hdp h
      · replace h := h.2 q
        refine EW_bipush (pc2 := 132) (v := 60) rfl dX3_gain_130 (by decide) ?_
        refine EW_goto (tgt := 137) dX3_gain_132 (by decide) ?_
        refine EW_ls [0, 1, 2, 4] rfl ?_
        exact sX3_gain_137 v0 v1 v2 v4 v5 60 hv0 hv1 x K d bc bs hdp h
set_option maxHeartbeats 4000000 in
set_option maxRecDepth 100000 in
theorem sX3_gain_72 (v0 : Nat) (v1 : Nat) (v2 : Int32) (v3 : Int32) (v4 : Int32) (v5 : Int32) (v6 : Int32) (hv0 : isF v0) (hv1 : isH v1) (x : ab_X) (K : Int32 → Prop)  (d bc bs : Nat) (hdp : 1 ≤ d)  (h : wX3_gain_72 v0 v1 v2 v3 v4 v5 v6 x K ) : EW MX3_gain 72 [(0, .ref v0), (1, .ref v1), (2, .int v2), (3, .int v3), (4, .int v4), (5, .int v5), (6, .int v6)] [] (aS x) d bc bs (liP x K) := by
  unfold wX3_gain_72 at h
  refine EW_iload_n (pc2 := 73) rfl dX3_gain_72 3 rfl ?_
  refine EW_iconst (pc2 := 74) (v := 1) rfl dX3_gain_73 (by decide) ?_
  refine EW_iadd (pc2 := 75) rfl dX3_gain_74 ?_
  refine EW_aload_n (pc2 := 76) rfl dX3_gain_75 1 rfl ?_
  refine AW_geti ⟨gfRX3_60, rfl⟩ (pc2 := 79) rfl dX3_gain_76 (isH.o hv1) ?_
  refine EW_icmp_ge (tgt := 101) (pc2 := 82) rfl dX3_gain_79 (by decide) (fun q => ?_) (fun q => ?_)
  · replace h := h.1 q
    refine EW_ls [0, 1, 2, 3, 4, 5] rfl ?_
    exact sX3_gain_101 v0 v1 v2 v3 v4 v5 hv0 hv1 x K d bc bs hdp h
  · replace h := h.2 q
    refine EW_aload_n (pc2 := 83) rfl dX3_gain_82 0 rfl ?_
    refine AW_getr (r := (v0 + 6)) ⟨gfRX3_28, rfl⟩ (pc2 := 86) rfl dX3_gain_83 (isF.o hv0) (isF.r5 hv0) ?_
    refine EW_iload (pc2 := 88) rfl dX3_gain_86 4 rfl ?_
    refine EW_iconst (pc2 := 89) (v := 1) rfl dX3_gain_88 (by decide) ?_
    refine EW_iadd (pc2 := 90) rfl dX3_gain_89 ?_
    obtain ⟨b4, h⟩ := h
    refine AW_zald (pc2 := 91) rfl dX3_gain_90 (isF.a5 hv0) b4 ?_
    refine EW_if_eq (tgt := 101) (pc2 := 94) rfl dX3_gain_91 (by decide) (fun q => ?_) (fun q => ?_)
    · replace h := h.1 q
      refine EW_ls [0, 1, 2, 3, 4, 5] rfl ?_
      exact sX3_gain_101 v0 v1 v2 v3 v4 v5 hv0 hv1 x K d bc bs hdp h
    · replace h := h.2 q
      refine EW_iload (pc2 := 96) rfl dX3_gain_94 5 rfl ?_
      refine EW_iload (pc2 := 98) rfl dX3_gain_96 6 rfl ?_
      refine EW_iadd (pc2 := 99) rfl dX3_gain_98 ?_
      refine EW_istore (pc2 := 101) rfl dX3_gain_99 (by decide) [1, 2, 3, 4, 5, 0, 6] [(0, .ref v0), (1, .ref v1), (2, .int v2), (3, .int v3), (4, .int v4), (5, .int (v5 + v6)), (6, .int v6)] rfl ?_
      refine EW_ls [0, 1, 2, 3, 4, 5] rfl ?_
      exact sX3_gain_101 v0 v1 v2 v3 v4 (v5 + v6) hv0 hv1 x K d bc bs hdp h
set_option maxHeartbeats 4000000 in
set_option maxRecDepth 100000 in
theorem sX3_gain_47 (v0 : Nat) (v1 : Nat) (v2 : Int32) (v3 : Int32) (v4 : Int32) (v5 : Int32) (s0 : Int32) (hv0 : isF v0) (hv1 : isH v1) (x : ab_X) (K : Int32 → Prop)  (d bc bs : Nat) (hdp : 1 ≤ d)  (h : wX3_gain_47 v0 v1 v2 v3 v4 v5 s0 x K ) : EW MX3_gain 47 [(0, .ref v0), (1, .ref v1), (2, .int v2), (3, .int v3), (4, .int v4), (5, .int v5)] [.int s0] (aS x) d bc bs (liP x K) := by
  unfold wX3_gain_47 at h
  refine EW_istore (pc2 := 49) rfl dX3_gain_47 (by decide) [1, 2, 3, 4, 5, 6, 0] [(0, .ref v0), (1, .ref v1), (2, .int v2), (3, .int v3), (4, .int v4), (5, .int v5), (6, .int s0)] rfl ?_
  refine EW_iload_n (pc2 := 50) rfl dX3_gain_49 3 rfl ?_
  refine EW_if_le (tgt := 72) (pc2 := 53) rfl dX3_gain_50 (by decide) (fun q => ?_) (fun q => ?_)
  · replace h := h.1 q
    exact sX3_gain_72 v0 v1 v2 v3 v4 v5 s0 hv0 hv1 x K d bc bs hdp h
  · replace h := h.2 q
    refine EW_aload_n (pc2 := 54) rfl dX3_gain_53 0 rfl ?_
    refine AW_getr (r := (v0 + 6)) ⟨gfRX3_28, rfl⟩ (pc2 := 57) rfl dX3_gain_54 (isF.o hv0) (isF.r5 hv0) ?_
    refine EW_iload (pc2 := 59) rfl dX3_gain_57 4 rfl ?_
    refine EW_iconst (pc2 := 60) (v := 1) rfl dX3_gain_59 (by decide) ?_
    refine EW_isub (pc2 := 61) rfl dX3_gain_60 ?_
    obtain ⟨b3, h⟩ := h
    refine AW_zald (pc2 := 62) rfl dX3_gain_61 (isF.a5 hv0) b3 ?_
    refine EW_if_eq (tgt := 72) (pc2 := 65) rfl dX3_gain_62 (by decide) (fun q => ?_) (fun q => ?_)
    · replace h := h.1 q
      exact sX3_gain_72 v0 v1 v2 v3 v4 v5 s0 hv0 hv1 x K d bc bs hdp h
    · replace h := h.2 q
      refine EW_iload (pc2 := 67) rfl dX3_gain_65 5 rfl ?_
      refine EW_iload (pc2 := 69) rfl dX3_gain_67 6 rfl ?_
      refine EW_iadd (pc2 := 70) rfl dX3_gain_69 ?_
      refine EW_istore (pc2 := 72) rfl dX3_gain_70 (by decide) [1, 2, 3, 4, 5, 0, 6] [(0, .ref v0), (1, .ref v1), (2, .int v2), (3, .int v3), (4, .int v4), (5, .int (v5 + s0)), (6, .int s0)] rfl ?_
      exact sX3_gain_72 v0 v1 v2 v3 v4 (v5 + s0) s0 hv0 hv1 x K d bc bs hdp h
set_option maxHeartbeats 4000000 in
set_option maxRecDepth 100000 in
theorem sX3_gain_31 (v0 : Nat) (v1 : Nat) (v2 : Int32) (v3 : Int32) (v4 : Int32) (s0 : Int32) (hv0 : isF v0) (hv1 : isH v1) (x : ab_X) (K : Int32 → Prop)  (d bc bs : Nat) (hdp : 1 ≤ d)  (h : wX3_gain_31 v0 v1 v2 v3 v4 s0 x K ) : EW MX3_gain 31 [(0, .ref v0), (1, .ref v1), (2, .int v2), (3, .int v3), (4, .int v4)] [.int s0] (aS x) d bc bs (liP x K) := by
  unfold wX3_gain_31 at h
  refine EW_istore (pc2 := 33) rfl dX3_gain_31 (by decide) [1, 2, 3, 4, 5, 0] [(0, .ref v0), (1, .ref v1), (2, .int v2), (3, .int v3), (4, .int v4), (5, .int s0)] rfl ?_
  refine EW_aload_n (pc2 := 34) rfl dX3_gain_33 1 rfl ?_
  refine AW_geti ⟨gfRX3_120, rfl⟩ (pc2 := 37) rfl dX3_gain_34 (isH.o hv1) ?_
  refine EW_if_eq (tgt := 45) (pc2 := 40) rfl dX3_gain_37 (by decide) (fun q => ?_) (fun q => ?_)
  · replace h := h.1 q
    refine EW_bipush (pc2 := 47) (v := 10) rfl dX3_gain_45 (by decide) ?_
    exact sX3_gain_47 v0 v1 v2 v3 v4 s0 10 hv0 hv1 x K d bc bs hdp h
  · replace h := h.2 q
    refine EW_bipush (pc2 := 42) (v := 30) rfl dX3_gain_40 (by decide) ?_
    refine EW_goto (tgt := 47) dX3_gain_42 (by decide) ?_
    exact sX3_gain_47 v0 v1 v2 v3 v4 s0 30 hv0 hv1 x K d bc bs hdp h
set_option maxHeartbeats 4000000 in
set_option maxRecDepth 100000 in
theorem sX3_gain (v0 : Nat) (v1 : Nat) (v2 : Int32) (v3 : Int32) (hv0 : isF v0) (hv1 : isH v1) (x : ab_X) (K : Int32 → Prop) (d bc bs : Nat) (hdp : 1 ≤ d) (h : wX3_gain v0 v1 v2 v3 x K) : EW MX3_gain 0 [(0, .ref v0), (1, .ref v1), (2, .int v2), (3, .int v3)] [] (aS x) d bc bs (liP x K) := by
  unfold wX3_gain at h
  refine EW_aload_n (pc2 := 1) rfl dX3_gain_0 1 rfl ?_
  refine EW_iload_n (pc2 := 2) rfl dX3_gain_1 2 rfl ?_
  refine EW_aload_n (pc2 := 3) rfl dX3_gain_2 1 rfl ?_
  refine AW_geti ⟨gfRX3_60, rfl⟩ (pc2 := 6) rfl dX3_gain_3 (isH.o hv1) ?_
  refine EW_imul (pc2 := 7) rfl dX3_gain_6 ?_
  refine EW_iload_n (pc2 := 8) rfl dX3_gain_7 3 rfl ?_
  refine EW_iadd (pc2 := 9) rfl dX3_gain_8 ?_
  refine AW_invV (M' := MX4_place) [.int ((v2 * (x.1 v1 4)) + v3)] (rest := []) mlRX3_63 okX4_place (pc2 := 12) rfl dX3_gain_9 rfl rfl (Nat.le_of_ble_eq_true rfl) (Nat.le_of_ble_eq_true rfl) (d' := 0) (by omega) (isH.o hv1) ⟨by decide, rfl⟩ (EW_mono (fun _ _ hr => ?_) (sX4_place v1 ((v2 * (x.1 v1 4)) + v3) hv1 x _ _ 0 0 (Nat.le_refl _) h))
  obtain ⟨r1, rfl, rfl, h⟩ := hr
  refine EW_istore (pc2 := 14) rfl dX3_gain_12 (by decide) [1, 2, 3, 4, 0] [(0, .ref v0), (1, .ref v1), (2, .int v2), (3, .int v3), (4, .int r1)] rfl ?_
  refine EW_aload_n (pc2 := 15) rfl dX3_gain_14 0 rfl ?_
  refine AW_getr (r := (v0 + 6)) ⟨gfRX3_28, rfl⟩ (pc2 := 18) rfl dX3_gain_15 (isF.o hv0) (isF.r5 hv0) ?_
  refine EW_iload (pc2 := 20) rfl dX3_gain_18 4 rfl ?_
  obtain ⟨b2, h⟩ := h
  refine AW_zald (pc2 := 21) rfl dX3_gain_20 (isF.a5 hv0) b2 ?_
  refine EW_if_eq (tgt := 29) (pc2 := 24) rfl dX3_gain_21 (by decide) (fun q => ?_) (fun q => ?_)
  · replace h := h.1 q
    refine EW_bipush (pc2 := 31) (v := (-10)) rfl dX3_gain_29 (by decide) ?_
    exact sX3_gain_31 v0 v1 v2 v3 r1 (-10) hv0 hv1 x K d bc bs hdp h
  · replace h := h.2 q
    refine EW_bipush (pc2 := 26) (v := 50) rfl dX3_gain_24 (by decide) ?_
    refine EW_goto (tgt := 31) dX3_gain_26 (by decide) ?_
    exact sX3_gain_31 v0 v1 v2 v3 r1 50 hv0 hv1 x K d bc bs hdp h
theorem mlRX3_126 : Cond.methodLinkNest RX3 126 yX11_below "CityBrigade" ∈ tables_1.filter ab_isN ∧ Cond.static yX11_below ∈ ab_G := ⟨List.mem_filter.mpr ⟨List.mem_of_getElem? (i := 1377) (by decide +kernel), rfl⟩, ab_in 794 (by decide +kernel) (by decide +kernel)⟩
theorem gfRX3_130 : ab_L RX3 130 4 7 := ⟨by decide, by decide, ab_in 245 (by decide +kernel) (by decide +kernel)⟩
abbrev MX3_glow : ab_M := (yX3_glow, cX3_glow, 6, (some .int))
theorem dX3_glow_0 : decode cX3_glow 0 = .ok (.iload_n 2, 1) := by decide +kernel
theorem dX3_glow_1 : decode cX3_glow 1 = .ok (.aload_n 3, 1) := by decide +kernel
theorem dX3_glow_2 : decode cX3_glow 2 = .ok (.arraylength, 1) := by decide +kernel
theorem dX3_glow_3 : decode cX3_glow 3 = .ok (.invokestatic 126, 3) := by decide +kernel
theorem dX3_glow_6 : decode cX3_glow 6 = .ok (.ifCond .ne 5, 3) := by decide +kernel
theorem dX3_glow_9 : decode cX3_glow 9 = .ok (.iconst 0, 1) := by decide +kernel
theorem dX3_glow_10 : decode cX3_glow 10 = .ok (.ireturn, 1) := by decide +kernel
theorem dX3_glow_11 : decode cX3_glow 11 = .ok (.aload_n 3, 1) := by decide +kernel
theorem dX3_glow_12 : decode cX3_glow 12 = .ok (.iload_n 2, 1) := by decide +kernel
theorem dX3_glow_13 : decode cX3_glow 13 = .ok (.aaload, 1) := by decide +kernel
theorem dX3_glow_14 : decode cX3_glow 14 = .ok (.astore 5, 2) := by decide +kernel
theorem dX3_glow_16 : decode cX3_glow 16 = .ok (.iload 4, 2) := by decide +kernel
theorem dX3_glow_18 : decode cX3_glow 18 = .ok (.aload 5, 2) := by decide +kernel
theorem dX3_glow_20 : decode cX3_glow 20 = .ok (.getfield 56, 3) := by decide +kernel
theorem dX3_glow_23 : decode cX3_glow 23 = .ok (.if_icmp .lt 7, 3) := by decide +kernel
theorem dX3_glow_26 : decode cX3_glow 26 = .ok (.iconst 0, 1) := by decide +kernel
theorem dX3_glow_27 : decode cX3_glow 27 = .ok (.goto 31, 3) := by decide +kernel
theorem dX3_glow_30 : decode cX3_glow 30 = .ok (.aload_n 0, 1) := by decide +kernel
theorem dX3_glow_31 : decode cX3_glow 31 = .ok (.getfield 31, 3) := by decide +kernel
theorem dX3_glow_34 : decode cX3_glow 34 = .ok (.aload 5, 2) := by decide +kernel
theorem dX3_glow_36 : decode cX3_glow 36 = .ok (.iload 4, 2) := by decide +kernel
theorem dX3_glow_38 : decode cX3_glow 38 = .ok (.invokevirtual 50, 3) := by decide +kernel
theorem dX3_glow_41 : decode cX3_glow 41 = .ok (.iaload, 1) := by decide +kernel
theorem dX3_glow_42 : decode cX3_glow 42 = .ok (.bipush 24, 2) := by decide +kernel
theorem dX3_glow_44 : decode cX3_glow 44 = .ok (.iconst 1, 1) := by decide +kernel
theorem dX3_glow_45 : decode cX3_glow 45 = .ok (.aload_n 1, 1) := by decide +kernel
theorem dX3_glow_46 : decode cX3_glow 46 = .ok (.getfield 130, 3) := by decide +kernel
theorem dX3_glow_49 : decode cX3_glow 49 = .ok (.iadd, 1) := by decide +kernel
theorem dX3_glow_50 : decode cX3_glow 50 = .ok (.aload 5, 2) := by decide +kernel
theorem dX3_glow_52 : decode cX3_glow 52 = .ok (.getfield 130, 3) := by decide +kernel
theorem dX3_glow_55 : decode cX3_glow 55 = .ok (.iadd, 1) := by decide +kernel
theorem dX3_glow_56 : decode cX3_glow 56 = .ok (.idiv, 1) := by decide +kernel
theorem dX3_glow_57 : decode cX3_glow 57 = .ok (.imul, 1) := by decide +kernel
theorem dX3_glow_58 : decode cX3_glow 58 = .ok (.ireturn, 1) := by decide +kernel
theorem okX3_glow : ab_okM MX3_glow 4 := ⟨by decide, ⟨by decide, by decide⟩, ab_in 1461 (by decide +kernel) (by decide +kernel), ab_in 90 (by decide +kernel) (by decide +kernel), by decide +kernel, by decide⟩
set_option maxHeartbeats 4000000 in
set_option maxRecDepth 100000 in
theorem sX3_glow (v0 : Nat) (v1 : Nat) (v2 : Int32) (v4 : Int32) (hv0 : isF v0) (hv1 : isH v1) (x : ab_X) (K : Int32 → Prop) (d bc bs : Nat) (hdp : 1 ≤ d) (h : wX3_glow v0 v1 v2 v4 x K) : EW MX3_glow 0 [(0, .ref v0), (1, .ref v1), (2, .int v2), (3, .ref 10), (4, .int v4)] [] (aS x) d bc bs (liP x K) := by
  unfold wX3_glow at h
  refine EW_iload_n (pc2 := 1) rfl dX3_glow_0 2 rfl ?_
  refine EW_aload_n (pc2 := 2) rfl dX3_glow_1 3 rfl ?_
  refine AW_alen (t := 5) (by decide) (pc2 := 3) rfl dX3_glow_2 q10 (v := 12) rfl ?_
  refine AW_invSN (M' := MX11_below) [.int v2, .int 12] (rest := []) mlRX3_126 okX11_below (pc2 := 6) rfl dX3_glow_3 rfl rfl (Nat.le_of_ble_eq_true rfl) (Nat.le_of_ble_eq_true rfl) (d' := 0) (by omega) (EW_mono (fun _ _ hr => ?_) (sX11_below v2 12  x _ _ 0 0 (Nat.le_refl _) h))
  obtain ⟨r1, rfl, rfl, h⟩ := hr
  refine EW_if_ne (tgt := 11) (pc2 := 9) rfl dX3_glow_6 (by decide) (fun q => ?_) (fun q => ?_)
  · replace h := h.1 q
    refine EW_aload_n (pc2 := 12) rfl dX3_glow_11 3 rfl ?_
    refine EW_iload_n (pc2 := 13) rfl dX3_glow_12 2 rfl ?_
    obtain ⟨b2, h⟩ := h
    refine AW_aald5 (pc2 := 14) rfl dX3_glow_13 b2 ?_
    refine EW_astore (pc2 := 16) rfl dX3_glow_14 (by decide) [1, 2, 3, 4, 5, 0] [(0, .ref v0), (1, .ref v1), (2, .int v2), (3, .ref 10), (4, .int v4), (5, .ref (30 + 3 * Int32.toNatClampNeg v2))] rfl ?_
    refine EW_iload (pc2 := 18) rfl dX3_glow_16 4 rfl ?_
    refine EW_aload (pc2 := 20) rfl dX3_glow_18 5 rfl ?_
    refine AW_geti ⟨gfRX3_56, rfl⟩ (pc2 := 23) rfl dX3_glow_20 (isH.o (isH_of b2)) ?_
    refine EW_icmp_lt (tgt := 30) (pc2 := 26) rfl dX3_glow_23 (by decide) (fun q => ?_) (fun q => ?_)
    · replace h := h.1 q
      refine EW_aload_n (pc2 := 31) rfl dX3_glow_30 0 rfl ?_
      refine AW_getr (r := (v0 + 7)) ⟨gfRX3_31, rfl⟩ (pc2 := 34) rfl dX3_glow_31 (isF.o hv0) (isF.r6 hv0) ?_
      refine EW_aload (pc2 := 36) rfl dX3_glow_34 5 rfl ?_
      refine EW_iload (pc2 := 38) rfl dX3_glow_36 4 rfl ?_
      refine AW_invV (M' := MX4_storey) [.int v4] (rest := [.ref (v0 + 7)]) mlRX3_50 okX4_storey (pc2 := 41) rfl dX3_glow_38 rfl rfl (Nat.le_of_ble_eq_true rfl) (Nat.le_of_ble_eq_true rfl) (d' := 0) (by omega) (isH.o (isH_of b2)) ⟨by decide, rfl⟩ (EW_mono (fun _ _ hr => ?_) (sX4_storey (30 + 3 * Int32.toNatClampNeg v2) v4 (isH_of b2) x _ _ 0 0 (Nat.le_refl _) h))
      obtain ⟨r3, rfl, rfl, h⟩ := hr
      obtain ⟨b4, h⟩ := h
      refine AW_iald (pc2 := 42) rfl dX3_glow_41 (isF.a6 hv0) b4 ?_
      refine EW_bipush (pc2 := 44) (v := 24) rfl dX3_glow_42 (by decide) ?_
      refine EW_iconst (pc2 := 45) (v := 1) rfl dX3_glow_44 (by decide) ?_
      refine EW_aload_n (pc2 := 46) rfl dX3_glow_45 1 rfl ?_
      refine AW_geti ⟨gfRX3_130, rfl⟩ (pc2 := 49) rfl dX3_glow_46 (isH.o hv1) ?_
      refine EW_iadd (pc2 := 50) rfl dX3_glow_49 ?_
      refine EW_aload (pc2 := 52) rfl dX3_glow_50 5 rfl ?_
      refine AW_geti ⟨gfRX3_130, rfl⟩ (pc2 := 55) rfl dX3_glow_52 (isH.o (isH_of b2)) ?_
      refine EW_iadd (pc2 := 56) rfl dX3_glow_55 ?_
      obtain ⟨hz, h⟩ := h
      refine EW_idiv (pc2 := 57) rfl dX3_glow_56 hz ?_
      refine EW_imul (pc2 := 58) rfl dX3_glow_57 ?_
      exact AW_iret rfl dX3_glow_58 ⟨_, rfl, rfl, h⟩
    · replace h := h.2 q
      refine EW_iconst (pc2 := 27) (v := 0) rfl dX3_glow_26 (by decide) ?_
      refine EW_goto (tgt := 58) dX3_glow_27 (by decide) ?_
      exact AW_iret rfl dX3_glow_58 ⟨_, rfl, rfl, h⟩
  · replace h := h.2 q
    refine EW_iconst (pc2 := 10) (v := 0) rfl dX3_glow_9 (by decide) ?_
    exact AW_iret rfl dX3_glow_10 ⟨_, rfl, rfl, h⟩
theorem mlRX3_116 : Cond.methodLink RX3 116 yX3_gain ∈ ab_G ∧ Cond.instanceMethod yX3_gain ∈ ab_G ∧ Cond.selects RX3 yX3_gain yX3_gain ∈ ab_G := ⟨ab_in 1463 (by decide +kernel) (by decide +kernel), ab_in 1464 (by decide +kernel) (by decide +kernel), ab_in 1465 (by decide +kernel) (by decide +kernel)⟩
theorem gfRX3_106 : ab_L RX3 106 4 10 := ⟨by decide, by decide, ab_in 253 (by decide +kernel) (by decide +kernel)⟩
theorem mlRX3_109 : Cond.methodLink RX3 109 yX3_glow ∈ ab_G ∧ Cond.instanceMethod yX3_glow ∈ ab_G ∧ Cond.selects RX3 yX3_glow yX3_glow ∈ ab_G := ⟨ab_in 1458 (by decide +kernel) (by decide +kernel), ab_in 1459 (by decide +kernel) (by decide +kernel), ab_in 1460 (by decide +kernel) (by decide +kernel)⟩
theorem gfRX3_113 : ab_L RX3 113 4 11 := ⟨by decide, by decide, ab_in 256 (by decide +kernel) (by decide +kernel)⟩
abbrev MX3_warm : ab_M := (yX3_warm, cX3_warm, 9, none)
theorem dX3_warm_0 : decode cX3_warm 0 = .ok (.iconst 0, 1) := by decide +kernel
theorem dX3_warm_1 : decode cX3_warm 1 = .ok (.istore_n 3, 1) := by decide +kernel
theorem dX3_warm_2 : decode cX3_warm 2 = .ok (.iload_n 3, 1) := by decide +kernel
theorem dX3_warm_3 : decode cX3_warm 3 = .ok (.aload_n 1, 1) := by decide +kernel
theorem dX3_warm_4 : decode cX3_warm 4 = .ok (.getfield 56, 3) := by decide +kernel
theorem dX3_warm_7 : decode cX3_warm 7 = .ok (.if_icmp .ge 160, 3) := by decide +kernel
theorem dX3_warm_10 : decode cX3_warm 10 = .ok (.aload_n 0, 1) := by decide +kernel
theorem dX3_warm_11 : decode cX3_warm 11 = .ok (.aload_n 1, 1) := by decide +kernel
theorem dX3_warm_12 : decode cX3_warm 12 = .ok (.aload_n 1, 1) := by decide +kernel
theorem dX3_warm_13 : decode cX3_warm 13 = .ok (.getfield 106, 3) := by decide +kernel
theorem dX3_warm_16 : decode cX3_warm 16 = .ok (.aload_n 2, 1) := by decide +kernel
theorem dX3_warm_17 : decode cX3_warm 17 = .ok (.iload_n 3, 1) := by decide +kernel
theorem dX3_warm_18 : decode cX3_warm 18 = .ok (.invokevirtual 109, 3) := by decide +kernel
theorem dX3_warm_21 : decode cX3_warm 21 = .ok (.aload_n 0, 1) := by decide +kernel
theorem dX3_warm_22 : decode cX3_warm 22 = .ok (.aload_n 1, 1) := by decide +kernel
theorem dX3_warm_23 : decode cX3_warm 23 = .ok (.aload_n 1, 1) := by decide +kernel
theorem dX3_warm_24 : decode cX3_warm 24 = .ok (.getfield 113, 3) := by decide +kernel
theorem dX3_warm_27 : decode cX3_warm 27 = .ok (.aload_n 2, 1) := by decide +kernel
theorem dX3_warm_28 : decode cX3_warm 28 = .ok (.iload_n 3, 1) := by decide +kernel
theorem dX3_warm_29 : decode cX3_warm 29 = .ok (.invokevirtual 109, 3) := by decide +kernel
theorem dX3_warm_32 : decode cX3_warm 32 = .ok (.iadd, 1) := by decide +kernel
theorem dX3_warm_33 : decode cX3_warm 33 = .ok (.istore 4, 2) := by decide +kernel
theorem dX3_warm_35 : decode cX3_warm 35 = .ok (.iconst 0, 1) := by decide +kernel
theorem dX3_warm_36 : decode cX3_warm 36 = .ok (.istore 5, 2) := by decide +kernel
theorem dX3_warm_38 : decode cX3_warm 38 = .ok (.iload 5, 2) := by decide +kernel
theorem dX3_warm_40 : decode cX3_warm 40 = .ok (.aload_n 1, 1) := by decide +kernel
theorem dX3_warm_41 : decode cX3_warm 41 = .ok (.getfield 60, 3) := by decide +kernel
theorem dX3_warm_44 : decode cX3_warm 44 = .ok (.if_icmp .ge 117, 3) := by decide +kernel
theorem dX3_warm_47 : decode cX3_warm 47 = .ok (.aload_n 1, 1) := by decide +kernel
theorem dX3_warm_48 : decode cX3_warm 48 = .ok (.iload_n 3, 1) := by decide +kernel
theorem dX3_warm_49 : decode cX3_warm 49 = .ok (.aload_n 1, 1) := by decide +kernel
theorem dX3_warm_50 : decode cX3_warm 50 = .ok (.getfield 60, 3) := by decide +kernel
theorem dX3_warm_53 : decode cX3_warm 53 = .ok (.imul, 1) := by decide +kernel
theorem dX3_warm_54 : decode cX3_warm 54 = .ok (.iload 5, 2) := by decide +kernel
theorem dX3_warm_56 : decode cX3_warm 56 = .ok (.iadd, 1) := by decide +kernel
theorem dX3_warm_57 : decode cX3_warm 57 = .ok (.invokevirtual 63, 3) := by decide +kernel
theorem dX3_warm_60 : decode cX3_warm 60 = .ok (.istore 6, 2) := by decide +kernel
theorem dX3_warm_62 : decode cX3_warm 62 = .ok (.aload_n 0, 1) := by decide +kernel
theorem dX3_warm_63 : decode cX3_warm 63 = .ok (.getfield 9, 3) := by decide +kernel
theorem dX3_warm_66 : decode cX3_warm 66 = .ok (.iload 6, 2) := by decide +kernel
theorem dX3_warm_68 : decode cX3_warm 68 = .ok (.iaload, 1) := by decide +kernel
theorem dX3_warm_69 : decode cX3_warm 69 = .ok (.iload 4, 2) := by decide +kernel
theorem dX3_warm_71 : decode cX3_warm 71 = .ok (.iadd, 1) := by decide +kernel
theorem dX3_warm_72 : decode cX3_warm 72 = .ok (.aload_n 0, 1) := by decide +kernel
theorem dX3_warm_73 : decode cX3_warm 73 = .ok (.aload_n 1, 1) := by decide +kernel
theorem dX3_warm_74 : decode cX3_warm 74 = .ok (.iload_n 3, 1) := by decide +kernel
theorem dX3_warm_75 : decode cX3_warm 75 = .ok (.iload 5, 2) := by decide +kernel
theorem dX3_warm_77 : decode cX3_warm 77 = .ok (.invokevirtual 116, 3) := by decide +kernel
theorem dX3_warm_80 : decode cX3_warm 80 = .ok (.iadd, 1) := by decide +kernel
theorem dX3_warm_81 : decode cX3_warm 81 = .ok (.aload_n 0, 1) := by decide +kernel
theorem dX3_warm_82 : decode cX3_warm 82 = .ok (.getfield 18, 3) := by decide +kernel
theorem dX3_warm_85 : decode cX3_warm 85 = .ok (.iload 6, 2) := by decide +kernel
theorem dX3_warm_87 : decode cX3_warm 87 = .ok (.iaload, 1) := by decide +kernel
theorem dX3_warm_88 : decode cX3_warm 88 = .ok (.iconst 4, 1) := by decide +kernel
theorem dX3_warm_89 : decode cX3_warm 89 = .ok (.idiv, 1) := by decide +kernel
theorem dX3_warm_90 : decode cX3_warm 90 = .ok (.isub, 1) := by decide +kernel
theorem dX3_warm_91 : decode cX3_warm 91 = .ok (.istore 7, 2) := by decide +kernel
theorem dX3_warm_93 : decode cX3_warm 93 = .ok (.iconst 0, 1) := by decide +kernel
theorem dX3_warm_94 : decode cX3_warm 94 = .ok (.sipush 1000, 3) := by decide +kernel
theorem dX3_warm_97 : decode cX3_warm 97 = .ok (.iload 7, 2) := by decide +kernel
theorem dX3_warm_99 : decode cX3_warm 99 = .ok (.invokestatic 103, 3) := by decide +kernel
theorem dX3_warm_102 : decode cX3_warm 102 = .ok (.invokestatic 74, 3) := by decide +kernel
theorem dX3_warm_105 : decode cX3_warm 105 = .ok (.istore 8, 2) := by decide +kernel
theorem dX3_warm_107 : decode cX3_warm 107 = .ok (.aload_n 0, 1) := by decide +kernel
theorem dX3_warm_108 : decode cX3_warm 108 = .ok (.getfield 9, 3) := by decide +kernel
theorem dX3_warm_111 : decode cX3_warm 111 = .ok (.iload 6, 2) := by decide +kernel
theorem dX3_warm_113 : decode cX3_warm 113 = .ok (.aload_n 0, 1) := by decide +kernel
theorem dX3_warm_114 : decode cX3_warm 114 = .ok (.aload_n 1, 1) := by decide +kernel
theorem dX3_warm_115 : decode cX3_warm 115 = .ok (.iload_n 3, 1) := by decide +kernel
theorem dX3_warm_116 : decode cX3_warm 116 = .ok (.invokevirtual 70, 3) := by decide +kernel
theorem dX3_warm_119 : decode cX3_warm 119 = .ok (.ifCond .eq 7, 3) := by decide +kernel
theorem dX3_warm_122 : decode cX3_warm 122 = .ok (.iconst 0, 1) := by decide +kernel
theorem dX3_warm_123 : decode cX3_warm 123 = .ok (.goto 5, 3) := by decide +kernel
theorem dX3_warm_126 : decode cX3_warm 126 = .ok (.iload 8, 2) := by decide +kernel
theorem dX3_warm_128 : decode cX3_warm 128 = .ok (.iastore, 1) := by decide +kernel
theorem dX3_warm_129 : decode cX3_warm 129 = .ok (.aload_n 0, 1) := by decide +kernel
theorem dX3_warm_130 : decode cX3_warm 130 = .ok (.aload_n 0, 1) := by decide +kernel
theorem dX3_warm_131 : decode cX3_warm 131 = .ok (.getfield 34, 3) := by decide +kernel
theorem dX3_warm_134 : decode cX3_warm 134 = .ok (.ifCond .eq 17, 3) := by decide +kernel
theorem dX3_warm_137 : decode cX3_warm 137 = .ok (.aload_n 0, 1) := by decide +kernel
theorem dX3_warm_138 : decode cX3_warm 138 = .ok (.getfield 9, 3) := by decide +kernel
theorem dX3_warm_141 : decode cX3_warm 141 = .ok (.iload 6, 2) := by decide +kernel
theorem dX3_warm_143 : decode cX3_warm 143 = .ok (.iaload, 1) := by decide +kernel
theorem dX3_warm_144 : decode cX3_warm 144 = .ok (.ifCond .ne 7, 3) := by decide +kernel
theorem dX3_warm_147 : decode cX3_warm 147 = .ok (.iconst 1, 1) := by decide +kernel
theorem dX3_warm_148 : decode cX3_warm 148 = .ok (.goto 4, 3) := by decide +kernel
theorem dX3_warm_151 : decode cX3_warm 151 = .ok (.iconst 0, 1) := by decide +kernel
theorem dX3_warm_152 : decode cX3_warm 152 = .ok (.putfield 34, 3) := by decide +kernel
theorem dX3_warm_155 : decode cX3_warm 155 = .ok (.iinc 5 1, 3) := by decide +kernel
theorem dX3_warm_158 : decode cX3_warm 158 = .ok (.goto (-120), 3) := by decide +kernel
theorem dX3_warm_161 : decode cX3_warm 161 = .ok (.iinc 3 1, 3) := by decide +kernel
theorem dX3_warm_164 : decode cX3_warm 164 = .ok (.goto (-162), 3) := by decide +kernel
theorem dX3_warm_167 : decode cX3_warm 167 = .ok (.return_, 1) := by decide +kernel
theorem okX3_warm : ab_okM MX3_warm 2 := ⟨by decide, ⟨by decide, by decide⟩, ab_in 1457 (by decide +kernel) (by decide +kernel), ab_in 90 (by decide +kernel) (by decide +kernel), by decide +kernel, by decide⟩
set_option maxHeartbeats 4000000 in
set_option maxRecDepth 100000 in
theorem sX3_warm_151 (v0 : Nat) (v1 : Nat) (v3 : Int32) (v4 : Int32) (v5 : Int32) (s0 : Nat) (hv0 : isF v0) (hv1 : isH v1) (hs0 : isF s0) (x : ab_X) (K : ab_X → Prop) (L2 : Int32 → ab_X → Prop) (L38 : Int32 → ab_X → Prop) (d bc bs : Nat) (hdp : 2 ≤ d) (hL2 : ∀ (v3 : Int32) (x : ab_X), L2 v3 x → EW MX3_warm 2 [(0, .ref v0), (1, .ref v1), (2, .ref 10), (3, .int v3)] [] (aS x) d bc bs (liV K)) (hL38 : ∀ (v5 : Int32) (x : ab_X), L38 v5 x → EW MX3_warm 38 [(0, .ref v0), (1, .ref v1), (2, .ref 10), (3, .int v3), (4, .int v4), (5, .int v5)] [] (aS x) d bc bs (liV K)) (h : wX3_warm_151 v0 v1 v3 v4 v5 s0 x K L2 L38) : EW MX3_warm 151 [(0, .ref v0), (1, .ref v1), (2, .ref 10), (3, .int v3), (4, .int v4), (5, .int v5)] [.ref s0] (aS x) d bc bs (liV K) := by
  unfold wX3_warm_151 at h
  refine EW_iconst (pc2 := 152) (v := 0) rfl dX3_warm_151 (by decide) ?_
  refine AW_putz ⟨gfRX3_34, rfl, rfl⟩ isB0 (pc2 := 155) rfl dX3_warm_152 (isF.o hs0) ?_
  refine EW_iinc (v5 + 1) (pc2 := 158) rfl dX3_warm_155 5 rfl rfl (by decide) [1, 2, 3, 4, 5, 0] [(0, .ref v0), (1, .ref v1), (2, .ref 10), (3, .int v3), (4, .int v4), (5, .int (v5 + 1))] rfl ?_
  refine EW_goto (tgt := 38) dX3_warm_158 (by decide) ?_
  exact hL38 (v5 + 1) (wr x s0 7 0) h
set_option maxHeartbeats 4000000 in
set_option maxRecDepth 100000 in
theorem sX3_warm_128 (v0 : Nat) (v1 : Nat) (v3 : Int32) (v4 : Int32) (v5 : Int32) (v6 : Int32) (s0b : Nat) (s1 : Int32) (s2 : Int32) (hv0 : isF v0) (hv1 : isH v1) (hs0b : isF s0b) (x : ab_X) (K : ab_X → Prop) (L2 : Int32 → ab_X → Prop) (L38 : Int32 → ab_X → Prop) (d bc bs : Nat) (hdp : 2 ≤ d) (hL2 : ∀ (v3 : Int32) (x : ab_X), L2 v3 x → EW MX3_warm 2 [(0, .ref v0), (1, .ref v1), (2, .ref 10), (3, .int v3)] [] (aS x) d bc bs (liV K)) (hL38 : ∀ (v5 : Int32) (x : ab_X), L38 v5 x → EW MX3_warm 38 [(0, .ref v0), (1, .ref v1), (2, .ref 10), (3, .int v3), (4, .int v4), (5, .int v5)] [] (aS x) d bc bs (liV K)) (h : wX3_warm_128 v0 v1 v3 v4 v5 v6 s0b s1 s2 x K L2 L38) : EW MX3_warm 128 [(0, .ref v0), (1, .ref v1), (2, .ref 10), (3, .int v3), (4, .int v4), (5, .int v5), (6, .int v6)] [.int s2, .int s1, .ref (s0b + 1)] (aS x) d bc bs (liV K) := by
  unfold wX3_warm_128 at h
  obtain ⟨b8, h⟩ := h
  refine AW_iast (pc2 := 129) rfl dX3_warm_128 (isF.a0 hs0b) b8 ?_
  refine EW_aload_n (pc2 := 130) rfl dX3_warm_129 0 rfl ?_
  refine EW_aload_n (pc2 := 131) rfl dX3_warm_130 0 rfl ?_
  refine AW_geti ⟨gfRX3_34, rfl⟩ (pc2 := 134) rfl dX3_warm_131 (isF.o hv0) ?_
  refine EW_if_eq (tgt := 151) (pc2 := 137) rfl dX3_warm_134 (by decide) (fun q => ?_) (fun q => ?_)
  · replace h := h.1 q
    refine EW_ls [0, 1, 2, 3, 4, 5] rfl ?_
    exact sX3_warm_151 v0 v1 v3 v4 v5 v0 hv0 hv1 hv0 (wr x (s0b + 1) (Int32.toNatClampNeg s1) s2) K L2 L38 d bc bs hdp hL2 hL38 h
  · replace h := h.2 q
    refine EW_aload_n (pc2 := 138) rfl dX3_warm_137 0 rfl ?_
    refine AW_getr (r := (v0 + 1)) ⟨gfRX3_9, rfl⟩ (pc2 := 141) rfl dX3_warm_138 (isF.o hv0) (isF.r0 hv0) ?_
    refine EW_iload (pc2 := 143) rfl dX3_warm_141 6 rfl ?_
    obtain ⟨b9, h⟩ := h
    refine AW_iald (pc2 := 144) rfl dX3_warm_143 (isF.a0 hv0) b9 ?_
    refine EW_if_ne (tgt := 151) (pc2 := 147) rfl dX3_warm_144 (by decide) (fun q => ?_) (fun q => ?_)
    · replace h := h.1 q
      refine EW_ls [0, 1, 2, 3, 4, 5] rfl ?_
      exact sX3_warm_151 v0 v1 v3 v4 v5 v0 hv0 hv1 hv0 (wr x (s0b + 1) (Int32.toNatClampNeg s1) s2) K L2 L38 d bc bs hdp hL2 hL38 h
    · replace h := h.2 q
      refine EW_iconst (pc2 := 148) (v := 1) rfl dX3_warm_147 (by decide) ?_
      refine EW_goto (tgt := 152) dX3_warm_148 (by decide) ?_
      refine AW_putz ⟨gfRX3_34, rfl, rfl⟩ isB1 (pc2 := 155) rfl dX3_warm_152 (isF.o hv0) ?_
      refine EW_iinc (v5 + 1) (pc2 := 158) rfl dX3_warm_155 5 rfl rfl (by decide) [1, 2, 3, 4, 5, 0, 6] [(0, .ref v0), (1, .ref v1), (2, .ref 10), (3, .int v3), (4, .int v4), (5, .int (v5 + 1)), (6, .int v6)] rfl ?_
      refine EW_goto (tgt := 38) dX3_warm_158 (by decide) ?_
      refine EW_ls [0, 1, 2, 3, 4, 5] rfl ?_
      exact hL38 (v5 + 1) (wr (wr x (s0b + 1) (Int32.toNatClampNeg s1) s2) v0 7 1) h
set_option maxHeartbeats 4000000 in
set_option maxRecDepth 100000 in
theorem sX3_warm_38 (v0 : Nat) (v1 : Nat) (v3 : Int32) (v4 : Int32) (v5 : Int32) (hv0 : isF v0) (hv1 : isH v1) (x : ab_X) (K : ab_X → Prop) (L2 : Int32 → ab_X → Prop) (d bc bs : Nat) (hdp : 2 ≤ d) (hL2 : ∀ (v3 : Int32) (x : ab_X), L2 v3 x → EW MX3_warm 2 [(0, .ref v0), (1, .ref v1), (2, .ref 10), (3, .int v3)] [] (aS x) d bc bs (liV K)) (h : Lp2 (lX3_warm_38 v0 v1 v3 v4 K L2) v5 x) : EW MX3_warm 38 [(0, .ref v0), (1, .ref v1), (2, .ref 10), (3, .int v3), (4, .int v4), (5, .int v5)] [] (aS x) d bc bs (liV K) := by
  refine Lp2.use (P := fun v5 x => EW MX3_warm 38 [(0, .ref v0), (1, .ref v1), (2, .ref 10), (3, .int v3), (4, .int v4), (5, .int v5)] [] (aS x) d bc bs (liV K)) (fun L38 v5 x hL38 h => ?_) v5 x h
  unfold lX3_warm_38 at h
  refine EW_iload (pc2 := 40) rfl dX3_warm_38 5 rfl ?_
  refine EW_aload_n (pc2 := 41) rfl dX3_warm_40 1 rfl ?_
  refine AW_geti ⟨gfRX3_60, rfl⟩ (pc2 := 44) rfl dX3_warm_41 (isH.o hv1) ?_
  refine EW_icmp_ge (tgt := 161) (pc2 := 47) rfl dX3_warm_44 (by decide) (fun q => ?_) (fun q => ?_)
  · replace h := h.1 q
    refine EW_iinc (v3 + 1) (pc2 := 164) rfl dX3_warm_161 3 rfl rfl (by decide) [1, 2, 3, 0, 4, 5] [(0, .ref v0), (1, .ref v1), (2, .ref 10), (3, .int (v3 + 1)), (4, .int v4), (5, .int v5)] rfl ?_
    refine EW_goto (tgt := 2) dX3_warm_164 (by decide) ?_
    refine EW_ls [0, 1, 2, 3] rfl ?_
    exact hL2 (v3 + 1) x h
  · replace h := h.2 q
    refine EW_aload_n (pc2 := 48) rfl dX3_warm_47 1 rfl ?_
    refine EW_iload_n (pc2 := 49) rfl dX3_warm_48 3 rfl ?_
    refine EW_aload_n (pc2 := 50) rfl dX3_warm_49 1 rfl ?_
    refine AW_geti ⟨gfRX3_60, rfl⟩ (pc2 := 53) rfl dX3_warm_50 (isH.o hv1) ?_
    refine EW_imul (pc2 := 54) rfl dX3_warm_53 ?_
    refine EW_iload (pc2 := 56) rfl dX3_warm_54 5 rfl ?_
    refine EW_iadd (pc2 := 57) rfl dX3_warm_56 ?_
    refine AW_invV (M' := MX4_place) [.int ((v3 * (x.1 v1 4)) + v5)] (rest := []) mlRX3_63 okX4_place (pc2 := 60) rfl dX3_warm_57 rfl rfl (Nat.le_of_ble_eq_true rfl) (Nat.le_of_ble_eq_true rfl) (d' := 0) (by omega) (isH.o hv1) ⟨by decide, rfl⟩ (EW_mono (fun _ _ hr => ?_) (sX4_place v1 ((v3 * (x.1 v1 4)) + v5) hv1 x _ _ 0 0 (Nat.le_refl _) h))
    obtain ⟨r3, rfl, rfl, h⟩ := hr
    refine EW_istore (pc2 := 62) rfl dX3_warm_60 (by decide) [1, 2, 3, 4, 5, 6, 0] [(0, .ref v0), (1, .ref v1), (2, .ref 10), (3, .int v3), (4, .int v4), (5, .int v5), (6, .int r3)] rfl ?_
    refine EW_aload_n (pc2 := 63) rfl dX3_warm_62 0 rfl ?_
    refine AW_getr (r := (v0 + 1)) ⟨gfRX3_9, rfl⟩ (pc2 := 66) rfl dX3_warm_63 (isF.o hv0) (isF.r0 hv0) ?_
    refine EW_iload (pc2 := 68) rfl dX3_warm_66 6 rfl ?_
    obtain ⟨b4, h⟩ := h
    refine AW_iald (pc2 := 69) rfl dX3_warm_68 (isF.a0 hv0) b4 ?_
    refine EW_iload (pc2 := 71) rfl dX3_warm_69 4 rfl ?_
    refine EW_iadd (pc2 := 72) rfl dX3_warm_71 ?_
    refine EW_aload_n (pc2 := 73) rfl dX3_warm_72 0 rfl ?_
    refine EW_aload_n (pc2 := 74) rfl dX3_warm_73 1 rfl ?_
    refine EW_iload_n (pc2 := 75) rfl dX3_warm_74 3 rfl ?_
    refine EW_iload (pc2 := 77) rfl dX3_warm_75 5 rfl ?_
    refine AW_invV (M' := MX3_gain) [.ref v1, .int v3, .int v5] (rest := [.int ((x.1 (v0 + 1) (Int32.toNatClampNeg r3)) + v4)]) mlRX3_116 okX3_gain (pc2 := 80) rfl dX3_warm_77 rfl rfl (Nat.le_of_ble_eq_true rfl) (Nat.le_of_ble_eq_true rfl) (d' := 1) (by omega) (isF.o hv0) ⟨by decide, rfl⟩ (EW_mono (fun _ _ hr => ?_) (sX3_gain v0 v1 v3 v5 hv0 hv1 x _ _ 0 0 (Nat.le_refl _) h))
    obtain ⟨r5, rfl, rfl, h⟩ := hr
    refine EW_iadd (pc2 := 81) rfl dX3_warm_80 ?_
    refine EW_aload_n (pc2 := 82) rfl dX3_warm_81 0 rfl ?_
    refine AW_getr (r := (v0 + 3)) ⟨gfRX3_18, rfl⟩ (pc2 := 85) rfl dX3_warm_82 (isF.o hv0) (isF.r2 hv0) ?_
    refine EW_iload (pc2 := 87) rfl dX3_warm_85 6 rfl ?_
    obtain ⟨b6, h⟩ := h
    refine AW_iald (pc2 := 88) rfl dX3_warm_87 (isF.a2 hv0) b6 ?_
    refine EW_iconst (pc2 := 89) (v := 4) rfl dX3_warm_88 (by decide) ?_
    refine EW_idiv (pc2 := 90) rfl dX3_warm_89 (by decide) ?_
    refine EW_isub (pc2 := 91) rfl dX3_warm_90 ?_
    refine EW_istore (pc2 := 93) rfl dX3_warm_91 (by decide) [1, 2, 3, 4, 5, 6, 7, 0] [(0, .ref v0), (1, .ref v1), (2, .ref 10), (3, .int v3), (4, .int v4), (5, .int v5), (6, .int r3), (7, .int ((((x.1 (v0 + 1) (Int32.toNatClampNeg r3)) + v4) + r5) - ((x.1 (v0 + 3) (Int32.toNatClampNeg r3)) / 4)))] rfl ?_
    refine EW_iconst (pc2 := 94) (v := 0) rfl dX3_warm_93 (by decide) ?_
    refine EW_sipush (pc2 := 97) (v := 1000) rfl dX3_warm_94 (by decide) ?_
    refine EW_iload (pc2 := 99) rfl dX3_warm_97 7 rfl ?_
    refine AW_mmin mmRX3_103 (pc2 := 102) rfl dX3_warm_99 (Nat.le_of_ble_eq_true rfl) (by omega) ?_
    refine AW_mmax mmRX3_74 (pc2 := 105) rfl dX3_warm_102 (Nat.le_of_ble_eq_true rfl) (by omega) ?_
    refine EW_istore (pc2 := 107) rfl dX3_warm_105 (by decide) [1, 2, 3, 4, 5, 6, 7, 8, 0] [(0, .ref v0), (1, .ref v1), (2, .ref 10), (3, .int v3), (4, .int v4), (5, .int v5), (6, .int r3), (7, .int ((((x.1 (v0 + 1) (Int32.toNatClampNeg r3)) + v4) + r5) - ((x.1 (v0 + 3) (Int32.toNatClampNeg r3)) / 4))), (8, .int (imax 0 (imin 1000 ((((x.1 (v0 + 1) (Int32.toNatClampNeg r3)) + v4) + r5) - ((x.1 (v0 + 3) (Int32.toNatClampNeg r3)) / 4)))))] rfl ?_
    refine EW_aload_n (pc2 := 108) rfl dX3_warm_107 0 rfl ?_
    refine AW_getr (r := (v0 + 1)) ⟨gfRX3_9, rfl⟩ (pc2 := 111) rfl dX3_warm_108 (isF.o hv0) (isF.r0 hv0) ?_
    refine EW_iload (pc2 := 113) rfl dX3_warm_111 6 rfl ?_
    refine EW_aload_n (pc2 := 114) rfl dX3_warm_113 0 rfl ?_
    refine EW_aload_n (pc2 := 115) rfl dX3_warm_114 1 rfl ?_
    refine EW_iload_n (pc2 := 116) rfl dX3_warm_115 3 rfl ?_
    refine AW_invV (M' := MX3_hasFallen) [.ref v1, .int v3] (rest := [.int r3, .ref (v0 + 1)]) mlRX3_70 okX3_hasFallen (pc2 := 119) rfl dX3_warm_116 rfl rfl (Nat.le_of_ble_eq_true rfl) (Nat.le_of_ble_eq_true rfl) (d' := 1) (by omega) (isF.o hv0) ⟨by decide, rfl⟩ (EW_mono (fun _ _ hr => ?_) (sX3_hasFallen v0 v1 v3 hv0 hv1 x _ _ 0 0 (Nat.le_refl _) h))
    obtain ⟨r7, rfl, rfl, h⟩ := hr
    refine EW_if_eq (tgt := 126) (pc2 := 122) rfl dX3_warm_119 (by decide) (fun q => ?_) (fun q => ?_)
    · replace h := h.1 q
      refine EW_iload (pc2 := 128) rfl dX3_warm_126 8 rfl ?_
      refine EW_ls [0, 1, 2, 3, 4, 5, 6] rfl ?_
      exact sX3_warm_128 v0 v1 v3 v4 v5 r3 v0 r3 (imax 0 (imin 1000 ((((x.1 (v0 + 1) (Int32.toNatClampNeg r3)) + v4) + r5) - ((x.1 (v0 + 3) (Int32.toNatClampNeg r3)) / 4)))) hv0 hv1 hv0 x K L2 L38 d bc bs hdp hL2 hL38 h
    · replace h := h.2 q
      refine EW_iconst (pc2 := 123) (v := 0) rfl dX3_warm_122 (by decide) ?_
      refine EW_goto (tgt := 128) dX3_warm_123 (by decide) ?_
      refine EW_ls [0, 1, 2, 3, 4, 5, 6] rfl ?_
      exact sX3_warm_128 v0 v1 v3 v4 v5 r3 v0 r3 0 hv0 hv1 hv0 x K L2 L38 d bc bs hdp hL2 hL38 h
set_option maxHeartbeats 4000000 in
set_option maxRecDepth 100000 in
theorem sX3_warm_2 (v0 : Nat) (v1 : Nat) (v3 : Int32) (hv0 : isF v0) (hv1 : isH v1) (x : ab_X) (K : ab_X → Prop)  (d bc bs : Nat) (hdp : 2 ≤ d)  (h : Lp2 (lX3_warm_2 v0 v1 K ) v3 x) : EW MX3_warm 2 [(0, .ref v0), (1, .ref v1), (2, .ref 10), (3, .int v3)] [] (aS x) d bc bs (liV K) := by
  refine Lp2.use (P := fun v3 x => EW MX3_warm 2 [(0, .ref v0), (1, .ref v1), (2, .ref 10), (3, .int v3)] [] (aS x) d bc bs (liV K)) (fun L2 v3 x hL2 h => ?_) v3 x h
  unfold lX3_warm_2 at h
  refine EW_iload_n (pc2 := 3) rfl dX3_warm_2 3 rfl ?_
  refine EW_aload_n (pc2 := 4) rfl dX3_warm_3 1 rfl ?_
  refine AW_geti ⟨gfRX3_56, rfl⟩ (pc2 := 7) rfl dX3_warm_4 (isH.o hv1) ?_
  refine EW_icmp_ge (tgt := 167) (pc2 := 10) rfl dX3_warm_7 (by decide) (fun q => ?_) (fun q => ?_)
  · replace h := h.1 q
    exact EW_vret rfl dX3_warm_167 ⟨_, rfl, rfl, h⟩
  · replace h := h.2 q
    refine EW_aload_n (pc2 := 11) rfl dX3_warm_10 0 rfl ?_
    refine EW_aload_n (pc2 := 12) rfl dX3_warm_11 1 rfl ?_
    refine EW_aload_n (pc2 := 13) rfl dX3_warm_12 1 rfl ?_
    refine AW_geti ⟨gfRX3_106, rfl⟩ (pc2 := 16) rfl dX3_warm_13 (isH.o hv1) ?_
    refine EW_aload_n (pc2 := 17) rfl dX3_warm_16 2 rfl ?_
    refine EW_iload_n (pc2 := 18) rfl dX3_warm_17 3 rfl ?_
    refine AW_invV (M' := MX3_glow) [.ref v1, .int (x.1 v1 10), .ref 10, .int v3] (rest := []) mlRX3_109 okX3_glow (pc2 := 21) rfl dX3_warm_18 rfl rfl (Nat.le_of_ble_eq_true rfl) (Nat.le_of_ble_eq_true rfl) (d' := 1) (by omega) (isF.o hv0) ⟨by decide, rfl⟩ (EW_mono (fun _ _ hr => ?_) (sX3_glow v0 v1 (x.1 v1 10) v3 hv0 hv1 x _ _ 0 0 (Nat.le_refl _) h))
    obtain ⟨r1, rfl, rfl, h⟩ := hr
    refine EW_aload_n (pc2 := 22) rfl dX3_warm_21 0 rfl ?_
    refine EW_aload_n (pc2 := 23) rfl dX3_warm_22 1 rfl ?_
    refine EW_aload_n (pc2 := 24) rfl dX3_warm_23 1 rfl ?_
    refine AW_geti ⟨gfRX3_113, rfl⟩ (pc2 := 27) rfl dX3_warm_24 (isH.o hv1) ?_
    refine EW_aload_n (pc2 := 28) rfl dX3_warm_27 2 rfl ?_
    refine EW_iload_n (pc2 := 29) rfl dX3_warm_28 3 rfl ?_
    refine AW_invV (M' := MX3_glow) [.ref v1, .int (x.1 v1 11), .ref 10, .int v3] (rest := [.int r1]) mlRX3_109 okX3_glow (pc2 := 32) rfl dX3_warm_29 rfl rfl (Nat.le_of_ble_eq_true rfl) (Nat.le_of_ble_eq_true rfl) (d' := 1) (by omega) (isF.o hv0) ⟨by decide, rfl⟩ (EW_mono (fun _ _ hr => ?_) (sX3_glow v0 v1 (x.1 v1 11) v3 hv0 hv1 x _ _ 0 0 (Nat.le_refl _) h))
    obtain ⟨r2, rfl, rfl, h⟩ := hr
    refine EW_iadd (pc2 := 33) rfl dX3_warm_32 ?_
    refine EW_istore (pc2 := 35) rfl dX3_warm_33 (by decide) [1, 2, 3, 4, 0] [(0, .ref v0), (1, .ref v1), (2, .ref 10), (3, .int v3), (4, .int (r1 + r2))] rfl ?_
    refine EW_iconst (pc2 := 36) (v := 0) rfl dX3_warm_35 (by decide) ?_
    refine EW_istore (pc2 := 38) rfl dX3_warm_36 (by decide) [1, 2, 3, 4, 5, 0] [(0, .ref v0), (1, .ref v1), (2, .ref 10), (3, .int v3), (4, .int (r1 + r2)), (5, .int 0)] rfl ?_
    exact sX3_warm_38 v0 v1 v3 (r1 + r2) 0 hv0 hv1 x K L2 d bc bs hdp hL2 h
set_option maxHeartbeats 4000000 in
set_option maxRecDepth 100000 in
theorem sX3_warm (v0 : Nat) (v1 : Nat) (hv0 : isF v0) (hv1 : isH v1) (x : ab_X) (K : ab_X → Prop) (d bc bs : Nat) (hdp : 2 ≤ d) (h : wX3_warm v0 v1 x K) : EW MX3_warm 0 [(0, .ref v0), (1, .ref v1), (2, .ref 10)] [] (aS x) d bc bs (liV K) := by
  unfold wX3_warm at h
  refine EW_iconst (pc2 := 1) (v := 0) rfl dX3_warm_0 (by decide) ?_
  refine EW_istore_n (pc2 := 2) rfl dX3_warm_1 (by decide) [1, 2, 3, 0] [(0, .ref v0), (1, .ref v1), (2, .ref 10), (3, .int 0)] rfl ?_
  exact sX3_warm_2 v0 v1 0 hv0 hv1 x K d bc bs hdp h
abbrev MX3_waste : ab_M := (yX3_waste, cX3_waste, 6, none)
theorem dX3_waste_0 : decode cX3_waste 0 = .ok (.iconst 0, 1) := by decide +kernel
theorem dX3_waste_1 : decode cX3_waste 1 = .ok (.istore_n 2, 1) := by decide +kernel
theorem dX3_waste_2 : decode cX3_waste 2 = .ok (.iload_n 2, 1) := by decide +kernel
theorem dX3_waste_3 : decode cX3_waste 3 = .ok (.aload_n 1, 1) := by decide +kernel
theorem dX3_waste_4 : decode cX3_waste 4 = .ok (.getfield 56, 3) := by decide +kernel
theorem dX3_waste_7 : decode cX3_waste 7 = .ok (.if_icmp .ge 101, 3) := by decide +kernel
theorem dX3_waste_10 : decode cX3_waste 10 = .ok (.iconst 0, 1) := by decide +kernel
theorem dX3_waste_11 : decode cX3_waste 11 = .ok (.istore_n 3, 1) := by decide +kernel
theorem dX3_waste_12 : decode cX3_waste 12 = .ok (.iload_n 3, 1) := by decide +kernel
theorem dX3_waste_13 : decode cX3_waste 13 = .ok (.aload_n 1, 1) := by decide +kernel
theorem dX3_waste_14 : decode cX3_waste 14 = .ok (.getfield 60, 3) := by decide +kernel
theorem dX3_waste_17 : decode cX3_waste 17 = .ok (.if_icmp .ge 85, 3) := by decide +kernel
theorem dX3_waste_20 : decode cX3_waste 20 = .ok (.aload_n 1, 1) := by decide +kernel
theorem dX3_waste_21 : decode cX3_waste 21 = .ok (.iload_n 2, 1) := by decide +kernel
theorem dX3_waste_22 : decode cX3_waste 22 = .ok (.aload_n 1, 1) := by decide +kernel
theorem dX3_waste_23 : decode cX3_waste 23 = .ok (.getfield 60, 3) := by decide +kernel
theorem dX3_waste_26 : decode cX3_waste 26 = .ok (.imul, 1) := by decide +kernel
theorem dX3_waste_27 : decode cX3_waste 27 = .ok (.iload_n 3, 1) := by decide +kernel
theorem dX3_waste_28 : decode cX3_waste 28 = .ok (.iadd, 1) := by decide +kernel
theorem dX3_waste_29 : decode cX3_waste 29 = .ok (.invokevirtual 63, 3) := by decide +kernel
theorem dX3_waste_32 : decode cX3_waste 32 = .ok (.istore 4, 2) := by decide +kernel
theorem dX3_waste_34 : decode cX3_waste 34 = .ok (.aload_n 0, 1) := by decide +kernel
theorem dX3_waste_35 : decode cX3_waste 35 = .ok (.getfield 28, 3) := by decide +kernel
theorem dX3_waste_38 : decode cX3_waste 38 = .ok (.iload 4, 2) := by decide +kernel
theorem dX3_waste_40 : decode cX3_waste 40 = .ok (.baload, 1) := by decide +kernel
theorem dX3_waste_41 : decode cX3_waste 41 = .ok (.ifCond .eq 55, 3) := by decide +kernel
theorem dX3_waste_44 : decode cX3_waste 44 = .ok (.aload_n 0, 1) := by decide +kernel
theorem dX3_waste_45 : decode cX3_waste 45 = .ok (.getfield 15, 3) := by decide +kernel
theorem dX3_waste_48 : decode cX3_waste 48 = .ok (.iload 4, 2) := by decide +kernel
theorem dX3_waste_50 : decode cX3_waste 50 = .ok (.iaload, 1) := by decide +kernel
theorem dX3_waste_51 : decode cX3_waste 51 = .ok (.iconst 1, 1) := by decide +kernel
theorem dX3_waste_52 : decode cX3_waste 52 = .ok (.aload_n 0, 1) := by decide +kernel
theorem dX3_waste_53 : decode cX3_waste 53 = .ok (.getfield 9, 3) := by decide +kernel
theorem dX3_waste_56 : decode cX3_waste 56 = .ok (.iload 4, 2) := by decide +kernel
theorem dX3_waste_58 : decode cX3_waste 58 = .ok (.iaload, 1) := by decide +kernel
theorem dX3_waste_59 : decode cX3_waste 59 = .ok (.sipush 250, 3) := by decide +kernel
theorem dX3_waste_62 : decode cX3_waste 62 = .ok (.idiv, 1) := by decide +kernel
theorem dX3_waste_63 : decode cX3_waste 63 = .ok (.iadd, 1) := by decide +kernel
theorem dX3_waste_64 : decode cX3_waste 64 = .ok (.invokestatic 103, 3) := by decide +kernel
theorem dX3_waste_67 : decode cX3_waste 67 = .ok (.istore 5, 2) := by decide +kernel
theorem dX3_waste_69 : decode cX3_waste 69 = .ok (.aload_n 0, 1) := by decide +kernel
theorem dX3_waste_70 : decode cX3_waste 70 = .ok (.getfield 15, 3) := by decide +kernel
theorem dX3_waste_73 : decode cX3_waste 73 = .ok (.iload 4, 2) := by decide +kernel
theorem dX3_waste_75 : decode cX3_waste 75 = .ok (.dup2, 1) := by decide +kernel
theorem dX3_waste_76 : decode cX3_waste 76 = .ok (.iaload, 1) := by decide +kernel
theorem dX3_waste_77 : decode cX3_waste 77 = .ok (.iload 5, 2) := by decide +kernel
theorem dX3_waste_79 : decode cX3_waste 79 = .ok (.isub, 1) := by decide +kernel
theorem dX3_waste_80 : decode cX3_waste 80 = .ok (.iastore, 1) := by decide +kernel
theorem dX3_waste_81 : decode cX3_waste 81 = .ok (.aload_n 0, 1) := by decide +kernel
theorem dX3_waste_82 : decode cX3_waste 82 = .ok (.getfield 21, 3) := by decide +kernel
theorem dX3_waste_85 : decode cX3_waste 85 = .ok (.aload_n 1, 1) := by decide +kernel
theorem dX3_waste_86 : decode cX3_waste 86 = .ok (.iload_n 2, 1) := by decide +kernel
theorem dX3_waste_87 : decode cX3_waste 87 = .ok (.invokevirtual 50, 3) := by decide +kernel
theorem dX3_waste_90 : decode cX3_waste 90 = .ok (.dup2, 1) := by decide +kernel
theorem dX3_waste_91 : decode cX3_waste 91 = .ok (.iaload, 1) := by decide +kernel
theorem dX3_waste_92 : decode cX3_waste 92 = .ok (.iload 5, 2) := by decide +kernel
theorem dX3_waste_94 : decode cX3_waste 94 = .ok (.iadd, 1) := by decide +kernel
theorem dX3_waste_95 : decode cX3_waste 95 = .ok (.iastore, 1) := by decide +kernel
theorem dX3_waste_96 : decode cX3_waste 96 = .ok (.iinc 3 1, 3) := by decide +kernel
theorem dX3_waste_99 : decode cX3_waste 99 = .ok (.goto (-87), 3) := by decide +kernel
theorem dX3_waste_102 : decode cX3_waste 102 = .ok (.iinc 2 1, 3) := by decide +kernel
theorem dX3_waste_105 : decode cX3_waste 105 = .ok (.goto (-103), 3) := by decide +kernel
theorem dX3_waste_108 : decode cX3_waste 108 = .ok (.return_, 1) := by decide +kernel
theorem okX3_waste : ab_okM MX3_waste 1 := ⟨by decide, ⟨by decide, by decide⟩, ab_in 1452 (by decide +kernel) (by decide +kernel), ab_in 90 (by decide +kernel) (by decide +kernel), by decide +kernel, by decide⟩
set_option maxHeartbeats 4000000 in
set_option maxRecDepth 100000 in
theorem sX3_waste_12 (v0 : Nat) (v1 : Nat) (v2 : Int32) (v3 : Int32) (hv0 : isF v0) (hv1 : isH v1) (x : ab_X) (K : ab_X → Prop) (L2 : Int32 → ab_X → Prop) (d bc bs : Nat) (hdp : 1 ≤ d) (hL2 : ∀ (v2 : Int32) (x : ab_X), L2 v2 x → EW MX3_waste 2 [(0, .ref v0), (1, .ref v1), (2, .int v2)] [] (aS x) d bc bs (liV K)) (h : Lp2 (lX3_waste_12 v0 v1 v2 K L2) v3 x) : EW MX3_waste 12 [(0, .ref v0), (1, .ref v1), (2, .int v2), (3, .int v3)] [] (aS x) d bc bs (liV K) := by
  refine Lp2.use (P := fun v3 x => EW MX3_waste 12 [(0, .ref v0), (1, .ref v1), (2, .int v2), (3, .int v3)] [] (aS x) d bc bs (liV K)) (fun L12 v3 x hL12 h => ?_) v3 x h
  unfold lX3_waste_12 at h
  refine EW_iload_n (pc2 := 13) rfl dX3_waste_12 3 rfl ?_
  refine EW_aload_n (pc2 := 14) rfl dX3_waste_13 1 rfl ?_
  refine AW_geti ⟨gfRX3_60, rfl⟩ (pc2 := 17) rfl dX3_waste_14 (isH.o hv1) ?_
  refine EW_icmp_ge (tgt := 102) (pc2 := 20) rfl dX3_waste_17 (by decide) (fun q => ?_) (fun q => ?_)
  · replace h := h.1 q
    refine EW_iinc (v2 + 1) (pc2 := 105) rfl dX3_waste_102 2 rfl rfl (by decide) [1, 2, 0, 3] [(0, .ref v0), (1, .ref v1), (2, .int (v2 + 1)), (3, .int v3)] rfl ?_
    refine EW_goto (tgt := 2) dX3_waste_105 (by decide) ?_
    refine EW_ls [0, 1, 2] rfl ?_
    exact hL2 (v2 + 1) x h
  · replace h := h.2 q
    refine EW_aload_n (pc2 := 21) rfl dX3_waste_20 1 rfl ?_
    refine EW_iload_n (pc2 := 22) rfl dX3_waste_21 2 rfl ?_
    refine EW_aload_n (pc2 := 23) rfl dX3_waste_22 1 rfl ?_
    refine AW_geti ⟨gfRX3_60, rfl⟩ (pc2 := 26) rfl dX3_waste_23 (isH.o hv1) ?_
    refine EW_imul (pc2 := 27) rfl dX3_waste_26 ?_
    refine EW_iload_n (pc2 := 28) rfl dX3_waste_27 3 rfl ?_
    refine EW_iadd (pc2 := 29) rfl dX3_waste_28 ?_
    refine AW_invV (M' := MX4_place) [.int ((v2 * (x.1 v1 4)) + v3)] (rest := []) mlRX3_63 okX4_place (pc2 := 32) rfl dX3_waste_29 rfl rfl (Nat.le_of_ble_eq_true rfl) (Nat.le_of_ble_eq_true rfl) (d' := 0) (by omega) (isH.o hv1) ⟨by decide, rfl⟩ (EW_mono (fun _ _ hr => ?_) (sX4_place v1 ((v2 * (x.1 v1 4)) + v3) hv1 x _ _ 0 0 (Nat.le_refl _) h))
    obtain ⟨r1, rfl, rfl, h⟩ := hr
    refine EW_istore (pc2 := 34) rfl dX3_waste_32 (by decide) [1, 2, 3, 4, 0] [(0, .ref v0), (1, .ref v1), (2, .int v2), (3, .int v3), (4, .int r1)] rfl ?_
    refine EW_aload_n (pc2 := 35) rfl dX3_waste_34 0 rfl ?_
    refine AW_getr (r := (v0 + 6)) ⟨gfRX3_28, rfl⟩ (pc2 := 38) rfl dX3_waste_35 (isF.o hv0) (isF.r5 hv0) ?_
    refine EW_iload (pc2 := 40) rfl dX3_waste_38 4 rfl ?_
    obtain ⟨b2, h⟩ := h
    refine AW_zald (pc2 := 41) rfl dX3_waste_40 (isF.a5 hv0) b2 ?_
    refine EW_if_eq (tgt := 96) (pc2 := 44) rfl dX3_waste_41 (by decide) (fun q => ?_) (fun q => ?_)
    · replace h := h.1 q
      refine EW_iinc (v3 + 1) (pc2 := 99) rfl dX3_waste_96 3 rfl rfl (by decide) [1, 2, 3, 0, 4] [(0, .ref v0), (1, .ref v1), (2, .int v2), (3, .int (v3 + 1)), (4, .int r1)] rfl ?_
      refine EW_goto (tgt := 12) dX3_waste_99 (by decide) ?_
      refine EW_ls [0, 1, 2, 3] rfl ?_
      exact hL12 (v3 + 1) x h
    · replace h := h.2 q
      refine EW_aload_n (pc2 := 45) rfl dX3_waste_44 0 rfl ?_
      refine AW_getr (r := (v0 + 2)) ⟨gfRX3_15, rfl⟩ (pc2 := 48) rfl dX3_waste_45 (isF.o hv0) (isF.r1 hv0) ?_
      refine EW_iload (pc2 := 50) rfl dX3_waste_48 4 rfl ?_
      obtain ⟨b3, h⟩ := h
      refine AW_iald (pc2 := 51) rfl dX3_waste_50 (isF.a1 hv0) b3 ?_
      refine EW_iconst (pc2 := 52) (v := 1) rfl dX3_waste_51 (by decide) ?_
      refine EW_aload_n (pc2 := 53) rfl dX3_waste_52 0 rfl ?_
      refine AW_getr (r := (v0 + 1)) ⟨gfRX3_9, rfl⟩ (pc2 := 56) rfl dX3_waste_53 (isF.o hv0) (isF.r0 hv0) ?_
      refine EW_iload (pc2 := 58) rfl dX3_waste_56 4 rfl ?_
      obtain ⟨b4, h⟩ := h
      refine AW_iald (pc2 := 59) rfl dX3_waste_58 (isF.a0 hv0) b4 ?_
      refine EW_sipush (pc2 := 62) (v := 250) rfl dX3_waste_59 (by decide) ?_
      refine EW_idiv (pc2 := 63) rfl dX3_waste_62 (by decide) ?_
      refine EW_iadd (pc2 := 64) rfl dX3_waste_63 ?_
      refine AW_mmin mmRX3_103 (pc2 := 67) rfl dX3_waste_64 (Nat.le_of_ble_eq_true rfl) (by omega) ?_
      refine EW_istore (pc2 := 69) rfl dX3_waste_67 (by decide) [1, 2, 3, 4, 5, 0] [(0, .ref v0), (1, .ref v1), (2, .int v2), (3, .int v3), (4, .int r1), (5, .int (imin (x.1 (v0 + 2) (Int32.toNatClampNeg r1)) (1 + ((x.1 (v0 + 1) (Int32.toNatClampNeg r1)) / 250))))] rfl ?_
      refine EW_aload_n (pc2 := 70) rfl dX3_waste_69 0 rfl ?_
      refine AW_getr (r := (v0 + 2)) ⟨gfRX3_15, rfl⟩ (pc2 := 73) rfl dX3_waste_70 (isF.o hv0) (isF.r1 hv0) ?_
      refine EW_iload (pc2 := 75) rfl dX3_waste_73 4 rfl ?_
      refine EW_dup2 (pc2 := 76) rfl dX3_waste_75 rfl rfl ?_
      obtain ⟨b5, h⟩ := h
      refine AW_iald (pc2 := 77) rfl dX3_waste_76 (isF.a1 hv0) b5 ?_
      refine EW_iload (pc2 := 79) rfl dX3_waste_77 5 rfl ?_
      refine EW_isub (pc2 := 80) rfl dX3_waste_79 ?_
      obtain ⟨b6, h⟩ := h
      refine AW_iast (pc2 := 81) rfl dX3_waste_80 (isF.a1 hv0) b6 ?_
      refine EW_aload_n (pc2 := 82) rfl dX3_waste_81 0 rfl ?_
      refine AW_getr (r := (v0 + 4)) ⟨gfRX3_21, rfl⟩ (pc2 := 85) rfl dX3_waste_82 (isF.o hv0) (isF.r3 hv0) ?_
      refine EW_aload_n (pc2 := 86) rfl dX3_waste_85 1 rfl ?_
      refine EW_iload_n (pc2 := 87) rfl dX3_waste_86 2 rfl ?_
      refine AW_invV (M' := MX4_storey) [.int v2] (rest := [.ref (v0 + 4)]) mlRX3_50 okX4_storey (pc2 := 90) rfl dX3_waste_87 rfl rfl (Nat.le_of_ble_eq_true rfl) (Nat.le_of_ble_eq_true rfl) (d' := 0) (by omega) (isH.o hv1) ⟨by decide, rfl⟩ (EW_mono (fun _ _ hr => ?_) (sX4_storey v1 v2 hv1 (wr x (v0 + 2) (Int32.toNatClampNeg r1) ((x.1 (v0 + 2) (Int32.toNatClampNeg r1)) - (imin (x.1 (v0 + 2) (Int32.toNatClampNeg r1)) (1 + ((x.1 (v0 + 1) (Int32.toNatClampNeg r1)) / 250))))) _ _ 0 0 (Nat.le_refl _) h))
      obtain ⟨r7, rfl, rfl, h⟩ := hr
      refine EW_dup2 (pc2 := 91) rfl dX3_waste_90 rfl rfl ?_
      obtain ⟨b8, h⟩ := h
      refine AW_iald (pc2 := 92) rfl dX3_waste_91 (isF.a3 hv0) b8 ?_
      refine EW_iload (pc2 := 94) rfl dX3_waste_92 5 rfl ?_
      refine EW_iadd (pc2 := 95) rfl dX3_waste_94 ?_
      obtain ⟨b9, h⟩ := h
      refine AW_iast (pc2 := 96) rfl dX3_waste_95 (isF.a3 hv0) b9 ?_
      refine EW_iinc (v3 + 1) (pc2 := 99) rfl dX3_waste_96 3 rfl rfl (by decide) [1, 2, 3, 0, 4, 5] [(0, .ref v0), (1, .ref v1), (2, .int v2), (3, .int (v3 + 1)), (4, .int r1), (5, .int (imin (x.1 (v0 + 2) (Int32.toNatClampNeg r1)) (1 + ((x.1 (v0 + 1) (Int32.toNatClampNeg r1)) / 250))))] rfl ?_
      refine EW_goto (tgt := 12) dX3_waste_99 (by decide) ?_
      refine EW_ls [0, 1, 2, 3] rfl ?_
      exact hL12 (v3 + 1) (wr (wr x (v0 + 2) (Int32.toNatClampNeg r1) ((x.1 (v0 + 2) (Int32.toNatClampNeg r1)) - (imin (x.1 (v0 + 2) (Int32.toNatClampNeg r1)) (1 + ((x.1 (v0 + 1) (Int32.toNatClampNeg r1)) / 250))))) (v0 + 4) (Int32.toNatClampNeg r7) (((wr x (v0 + 2) (Int32.toNatClampNeg r1) ((x.1 (v0 + 2) (Int32.toNatClampNeg r1)) - (imin (x.1 (v0 + 2) (Int32.toNatClampNeg r1)) (1 + ((x.1 (v0 + 1) (Int32.toNatClampNeg r1)) / 250))))).1 (v0 + 4) (Int32.toNatClampNeg r7)) + (imin (x.1 (v0 + 2) (Int32.toNatClampNeg r1)) (1 + ((x.1 (v0 + 1) (Int32.toNatClampNeg r1)) / 250))))) h
set_option maxHeartbeats 4000000 in
set_option maxRecDepth 100000 in
theorem sX3_waste_2 (v0 : Nat) (v1 : Nat) (v2 : Int32) (hv0 : isF v0) (hv1 : isH v1) (x : ab_X) (K : ab_X → Prop)  (d bc bs : Nat) (hdp : 1 ≤ d)  (h : Lp2 (lX3_waste_2 v0 v1 K ) v2 x) : EW MX3_waste 2 [(0, .ref v0), (1, .ref v1), (2, .int v2)] [] (aS x) d bc bs (liV K) := by
  refine Lp2.use (P := fun v2 x => EW MX3_waste 2 [(0, .ref v0), (1, .ref v1), (2, .int v2)] [] (aS x) d bc bs (liV K)) (fun L2 v2 x hL2 h => ?_) v2 x h
  unfold lX3_waste_2 at h
  refine EW_iload_n (pc2 := 3) rfl dX3_waste_2 2 rfl ?_
  refine EW_aload_n (pc2 := 4) rfl dX3_waste_3 1 rfl ?_
  refine AW_geti ⟨gfRX3_56, rfl⟩ (pc2 := 7) rfl dX3_waste_4 (isH.o hv1) ?_
  refine EW_icmp_ge (tgt := 108) (pc2 := 10) rfl dX3_waste_7 (by decide) (fun q => ?_) (fun q => ?_)
  · replace h := h.1 q
    exact EW_vret rfl dX3_waste_108 ⟨_, rfl, rfl, h⟩
  · replace h := h.2 q
    refine EW_iconst (pc2 := 11) (v := 0) rfl dX3_waste_10 (by decide) ?_
    refine EW_istore_n (pc2 := 12) rfl dX3_waste_11 (by decide) [1, 2, 3, 0] [(0, .ref v0), (1, .ref v1), (2, .int v2), (3, .int 0)] rfl ?_
    exact sX3_waste_12 v0 v1 v2 0 hv0 hv1 x K L2 d bc bs hdp hL2 h
set_option maxHeartbeats 4000000 in
set_option maxRecDepth 100000 in
theorem sX3_waste (v0 : Nat) (v1 : Nat) (hv0 : isF v0) (hv1 : isH v1) (x : ab_X) (K : ab_X → Prop) (d bc bs : Nat) (hdp : 1 ≤ d) (h : wX3_waste v0 v1 x K) : EW MX3_waste 0 [(0, .ref v0), (1, .ref v1)] [] (aS x) d bc bs (liV K) := by
  unfold wX3_waste at h
  refine EW_iconst (pc2 := 1) (v := 0) rfl dX3_waste_0 (by decide) ?_
  refine EW_istore_n (pc2 := 2) rfl dX3_waste_1 (by decide) [1, 2, 0] [(0, .ref v0), (1, .ref v1), (2, .int 0)] rfl ?_
  exact sX3_waste_2 v0 v1 0 hv0 hv1 x K d bc bs hdp h
theorem mlRX3_91 : Cond.methodLink RX3 91 yX3_load ∈ ab_G ∧ Cond.instanceMethod yX3_load ∈ ab_G ∧ Cond.selects RX3 yX3_load yX3_load ∈ ab_G := ⟨ab_in 1467 (by decide +kernel) (by decide +kernel), ab_in 922 (by decide +kernel) (by decide +kernel), ab_in 923 (by decide +kernel) (by decide +kernel)⟩
theorem mlRX3_95 : Cond.methodLink RX3 95 yX4_limit ∈ ab_G ∧ Cond.instanceMethod yX4_limit ∈ ab_G ∧ Cond.selects RX4 yX4_limit yX4_limit ∈ ab_G := ⟨ab_in 1468 (by decide +kernel) (by decide +kernel), ab_in 1420 (by decide +kernel) (by decide +kernel), ab_in 1421 (by decide +kernel) (by decide +kernel)⟩
theorem mlRX3_99 : Cond.methodLink RX3 99 yX3_drop ∈ ab_G ∧ Cond.instanceMethod yX3_drop ∈ ab_G ∧ Cond.selects RX3 yX3_drop yX3_drop ∈ ab_G := ⟨ab_in 1469 (by decide +kernel) (by decide +kernel), ab_in 1470 (by decide +kernel) (by decide +kernel), ab_in 1471 (by decide +kernel) (by decide +kernel)⟩
theorem mlRX3_84 : Cond.methodLink RX3 84 yX3_waste ∈ ab_G ∧ Cond.instanceMethod yX3_waste ∈ ab_G ∧ Cond.selects RX3 yX3_waste yX3_waste ∈ ab_G := ⟨ab_in 1449 (by decide +kernel) (by decide +kernel), ab_in 1450 (by decide +kernel) (by decide +kernel), ab_in 1451 (by decide +kernel) (by decide +kernel)⟩
theorem mlRX3_87 : Cond.methodLink RX3 87 yX3_warm ∈ ab_G ∧ Cond.instanceMethod yX3_warm ∈ ab_G ∧ Cond.selects RX3 yX3_warm yX3_warm ∈ ab_G := ⟨ab_in 1454 (by decide +kernel) (by decide +kernel), ab_in 1455 (by decide +kernel) (by decide +kernel), ab_in 1456 (by decide +kernel) (by decide +kernel)⟩
theorem mlRX3_80 : Cond.methodLink RX3 80 yX3_noteBurning ∈ ab_G ∧ Cond.instanceMethod yX3_noteBurning ∈ ab_G ∧ Cond.selects RX3 yX3_noteBurning yX3_noteBurning ∈ ab_G := ⟨ab_in 1445 (by decide +kernel) (by decide +kernel), ab_in 1446 (by decide +kernel) (by decide +kernel), ab_in 1447 (by decide +kernel) (by decide +kernel)⟩
abbrev MX3_step : ab_M := (yX3_step, cX3_step, 5, none)
theorem dX3_step_0 : decode cX3_step 0 = .ok (.aload_n 0, 1) := by decide +kernel
theorem dX3_step_1 : decode cX3_step 1 = .ok (.getfield 34, 3) := by decide +kernel
theorem dX3_step_4 : decode cX3_step 4 = .ok (.ifCond .eq 4, 3) := by decide +kernel
theorem dX3_step_7 : decode cX3_step 7 = .ok (.return_, 1) := by decide +kernel
theorem dX3_step_8 : decode cX3_step 8 = .ok (.iconst 0, 1) := by decide +kernel
theorem dX3_step_9 : decode cX3_step 9 = .ok (.istore_n 3, 1) := by decide +kernel
theorem dX3_step_10 : decode cX3_step 10 = .ok (.iload_n 3, 1) := by decide +kernel
theorem dX3_step_11 : decode cX3_step 11 = .ok (.iload_n 2, 1) := by decide +kernel
theorem dX3_step_12 : decode cX3_step 12 = .ok (.if_icmp .ge 16, 3) := by decide +kernel
theorem dX3_step_15 : decode cX3_step 15 = .ok (.aload_n 0, 1) := by decide +kernel
theorem dX3_step_16 : decode cX3_step 16 = .ok (.aload_n 1, 1) := by decide +kernel
theorem dX3_step_17 : decode cX3_step 17 = .ok (.iload_n 3, 1) := by decide +kernel
theorem dX3_step_18 : decode cX3_step 18 = .ok (.aaload, 1) := by decide +kernel
theorem dX3_step_19 : decode cX3_step 19 = .ok (.invokevirtual 80, 3) := by decide +kernel
theorem dX3_step_22 : decode cX3_step 22 = .ok (.iinc 3 1, 3) := by decide +kernel
theorem dX3_step_25 : decode cX3_step 25 = .ok (.goto (-15), 3) := by decide +kernel
theorem dX3_step_28 : decode cX3_step 28 = .ok (.aload_n 0, 1) := by decide +kernel
theorem dX3_step_29 : decode cX3_step 29 = .ok (.iconst 1, 1) := by decide +kernel
theorem dX3_step_30 : decode cX3_step 30 = .ok (.putfield 34, 3) := by decide +kernel
theorem dX3_step_33 : decode cX3_step 33 = .ok (.iconst 0, 1) := by decide +kernel
theorem dX3_step_34 : decode cX3_step 34 = .ok (.istore_n 3, 1) := by decide +kernel
theorem dX3_step_35 : decode cX3_step 35 = .ok (.iload_n 3, 1) := by decide +kernel
theorem dX3_step_36 : decode cX3_step 36 = .ok (.iload_n 2, 1) := by decide +kernel
theorem dX3_step_37 : decode cX3_step 37 = .ok (.if_icmp .ge 27, 3) := by decide +kernel
theorem dX3_step_40 : decode cX3_step 40 = .ok (.aload_n 1, 1) := by decide +kernel
theorem dX3_step_41 : decode cX3_step 41 = .ok (.iload_n 3, 1) := by decide +kernel
theorem dX3_step_42 : decode cX3_step 42 = .ok (.aaload, 1) := by decide +kernel
theorem dX3_step_43 : decode cX3_step 43 = .ok (.astore 4, 2) := by decide +kernel
theorem dX3_step_45 : decode cX3_step 45 = .ok (.aload_n 0, 1) := by decide +kernel
theorem dX3_step_46 : decode cX3_step 46 = .ok (.aload 4, 2) := by decide +kernel
theorem dX3_step_48 : decode cX3_step 48 = .ok (.invokevirtual 84, 3) := by decide +kernel
theorem dX3_step_51 : decode cX3_step 51 = .ok (.aload_n 0, 1) := by decide +kernel
theorem dX3_step_52 : decode cX3_step 52 = .ok (.aload 4, 2) := by decide +kernel
theorem dX3_step_54 : decode cX3_step 54 = .ok (.aload_n 1, 1) := by decide +kernel
theorem dX3_step_55 : decode cX3_step 55 = .ok (.invokevirtual 87, 3) := by decide +kernel
theorem dX3_step_58 : decode cX3_step 58 = .ok (.iinc 3 1, 3) := by decide +kernel
theorem dX3_step_61 : decode cX3_step 61 = .ok (.goto (-26), 3) := by decide +kernel
theorem dX3_step_64 : decode cX3_step 64 = .ok (.iconst 0, 1) := by decide +kernel
theorem dX3_step_65 : decode cX3_step 65 = .ok (.istore_n 3, 1) := by decide +kernel
theorem dX3_step_66 : decode cX3_step 66 = .ok (.iload_n 3, 1) := by decide +kernel
theorem dX3_step_67 : decode cX3_step 67 = .ok (.iload_n 2, 1) := by decide +kernel
theorem dX3_step_68 : decode cX3_step 68 = .ok (.if_icmp .ge 70, 3) := by decide +kernel
theorem dX3_step_71 : decode cX3_step 71 = .ok (.aload_n 1, 1) := by decide +kernel
theorem dX3_step_72 : decode cX3_step 72 = .ok (.iload_n 3, 1) := by decide +kernel
theorem dX3_step_73 : decode cX3_step 73 = .ok (.aaload, 1) := by decide +kernel
theorem dX3_step_74 : decode cX3_step 74 = .ok (.getfield 56, 3) := by decide +kernel
theorem dX3_step_77 : decode cX3_step 77 = .ok (.iconst 1, 1) := by decide +kernel
theorem dX3_step_78 : decode cX3_step 78 = .ok (.isub, 1) := by decide +kernel
theorem dX3_step_79 : decode cX3_step 79 = .ok (.istore 4, 2) := by decide +kernel
theorem dX3_step_81 : decode cX3_step 81 = .ok (.iload 4, 2) := by decide +kernel
theorem dX3_step_83 : decode cX3_step 83 = .ok (.iconst 1, 1) := by decide +kernel
theorem dX3_step_84 : decode cX3_step 84 = .ok (.if_icmp .lt 48, 3) := by decide +kernel
theorem dX3_step_87 : decode cX3_step 87 = .ok (.aload_n 0, 1) := by decide +kernel
theorem dX3_step_88 : decode cX3_step 88 = .ok (.aload_n 1, 1) := by decide +kernel
theorem dX3_step_89 : decode cX3_step 89 = .ok (.iload_n 3, 1) := by decide +kernel
theorem dX3_step_90 : decode cX3_step 90 = .ok (.aaload, 1) := by decide +kernel
theorem dX3_step_91 : decode cX3_step 91 = .ok (.iload 4, 2) := by decide +kernel
theorem dX3_step_93 : decode cX3_step 93 = .ok (.invokevirtual 70, 3) := by decide +kernel
theorem dX3_step_96 : decode cX3_step 96 = .ok (.ifCond .ne 30, 3) := by decide +kernel
theorem dX3_step_99 : decode cX3_step 99 = .ok (.aload_n 0, 1) := by decide +kernel
theorem dX3_step_100 : decode cX3_step 100 = .ok (.aload_n 1, 1) := by decide +kernel
theorem dX3_step_101 : decode cX3_step 101 = .ok (.iload_n 3, 1) := by decide +kernel
theorem dX3_step_102 : decode cX3_step 102 = .ok (.aaload, 1) := by decide +kernel
theorem dX3_step_103 : decode cX3_step 103 = .ok (.iload 4, 2) := by decide +kernel
theorem dX3_step_105 : decode cX3_step 105 = .ok (.invokevirtual 91, 3) := by decide +kernel
theorem dX3_step_108 : decode cX3_step 108 = .ok (.aload_n 1, 1) := by decide +kernel
theorem dX3_step_109 : decode cX3_step 109 = .ok (.iload_n 3, 1) := by decide +kernel
theorem dX3_step_110 : decode cX3_step 110 = .ok (.aaload, 1) := by decide +kernel
theorem dX3_step_111 : decode cX3_step 111 = .ok (.invokevirtual 95, 3) := by decide +kernel
theorem dX3_step_114 : decode cX3_step 114 = .ok (.if_icmp .lt 12, 3) := by decide +kernel
theorem dX3_step_117 : decode cX3_step 117 = .ok (.aload_n 0, 1) := by decide +kernel
theorem dX3_step_118 : decode cX3_step 118 = .ok (.aload_n 1, 1) := by decide +kernel
theorem dX3_step_119 : decode cX3_step 119 = .ok (.iload_n 3, 1) := by decide +kernel
theorem dX3_step_120 : decode cX3_step 120 = .ok (.aaload, 1) := by decide +kernel
theorem dX3_step_121 : decode cX3_step 121 = .ok (.iload 4, 2) := by decide +kernel
theorem dX3_step_123 : decode cX3_step 123 = .ok (.invokevirtual 99, 3) := by decide +kernel
theorem dX3_step_126 : decode cX3_step 126 = .ok (.iinc 4 (-1), 3) := by decide +kernel
theorem dX3_step_129 : decode cX3_step 129 = .ok (.goto (-48), 3) := by decide +kernel
theorem dX3_step_132 : decode cX3_step 132 = .ok (.iinc 3 1, 3) := by decide +kernel
theorem dX3_step_135 : decode cX3_step 135 = .ok (.goto (-69), 3) := by decide +kernel
theorem dX3_step_138 : decode cX3_step 138 = .ok (.return_, 1) := by decide +kernel
theorem okX3_step : ab_okM MX3_step 2 := ⟨by decide, ⟨by decide, by decide⟩, ab_in 1444 (by decide +kernel) (by decide +kernel), ab_in 90 (by decide +kernel) (by decide +kernel), by decide +kernel, by decide⟩
set_option maxHeartbeats 4000000 in
set_option maxRecDepth 100000 in
theorem sX3_step_81 (v0 : Nat) (v2 : Int32) (v3 : Int32) (v4 : Int32) (hv0 : isF v0) (x : ab_X) (K : ab_X → Prop) (L66 : Int32 → ab_X → Prop) (d bc bs : Nat) (hdp : 3 ≤ d) (hL66 : ∀ (v3 : Int32) (x : ab_X), L66 v3 x → EW MX3_step 66 [(0, .ref v0), (1, .ref 10), (2, .int v2), (3, .int v3)] [] (aS x) d bc bs (liV K)) (h : Lp2 (lX3_step_81 v0 v2 v3 K L66) v4 x) : EW MX3_step 81 [(0, .ref v0), (1, .ref 10), (2, .int v2), (3, .int v3), (4, .int v4)] [] (aS x) d bc bs (liV K) := by
  refine Lp2.use (P := fun v4 x => EW MX3_step 81 [(0, .ref v0), (1, .ref 10), (2, .int v2), (3, .int v3), (4, .int v4)] [] (aS x) d bc bs (liV K)) (fun L81 v4 x hL81 h => ?_) v4 x h
  unfold lX3_step_81 at h
  refine EW_iload (pc2 := 83) rfl dX3_step_81 4 rfl ?_
  refine EW_iconst (pc2 := 84) (v := 1) rfl dX3_step_83 (by decide) ?_
  refine EW_icmp_lt (tgt := 132) (pc2 := 87) rfl dX3_step_84 (by decide) (fun q => ?_) (fun q => ?_)
  · replace h := h.1 q
    refine EW_iinc (v3 + 1) (pc2 := 135) rfl dX3_step_132 3 rfl rfl (by decide) [1, 2, 3, 0, 4] [(0, .ref v0), (1, .ref 10), (2, .int v2), (3, .int (v3 + 1)), (4, .int v4)] rfl ?_
    refine EW_goto (tgt := 66) dX3_step_135 (by decide) ?_
    refine EW_ls [0, 1, 2, 3] rfl ?_
    exact hL66 (v3 + 1) x h
  · replace h := h.2 q
    refine EW_aload_n (pc2 := 88) rfl dX3_step_87 0 rfl ?_
    refine EW_aload_n (pc2 := 89) rfl dX3_step_88 1 rfl ?_
    refine EW_iload_n (pc2 := 90) rfl dX3_step_89 3 rfl ?_
    obtain ⟨b7, h⟩ := h
    refine AW_aald5 (pc2 := 91) rfl dX3_step_90 b7 ?_
    refine EW_iload (pc2 := 93) rfl dX3_step_91 4 rfl ?_
    refine AW_invV (M' := MX3_hasFallen) [.ref (30 + 3 * Int32.toNatClampNeg v3), .int v4] (rest := []) mlRX3_70 okX3_hasFallen (pc2 := 96) rfl dX3_step_93 rfl rfl (Nat.le_of_ble_eq_true rfl) (Nat.le_of_ble_eq_true rfl) (d' := 1) (by omega) (isF.o hv0) ⟨by decide, rfl⟩ (EW_mono (fun _ _ hr => ?_) (sX3_hasFallen v0 (30 + 3 * Int32.toNatClampNeg v3) v4 hv0 (isH_of b7) x _ _ 0 0 (Nat.le_refl _) h))
    obtain ⟨r8, rfl, rfl, h⟩ := hr
    refine EW_if_ne (tgt := 126) (pc2 := 99) rfl dX3_step_96 (by decide) (fun q => ?_) (fun q => ?_)
    · replace h := h.1 q
      refine EW_iinc (v4 + (-1)) (pc2 := 129) rfl dX3_step_126 4 rfl rfl (by decide) [1, 2, 3, 4, 0] [(0, .ref v0), (1, .ref 10), (2, .int v2), (3, .int v3), (4, .int (v4 + (-1)))] rfl ?_
      refine EW_goto (tgt := 81) dX3_step_129 (by decide) ?_
      exact hL81 (v4 + (-1)) x h
    · replace h := h.2 q
      refine EW_aload_n (pc2 := 100) rfl dX3_step_99 0 rfl ?_
      refine EW_aload_n (pc2 := 101) rfl dX3_step_100 1 rfl ?_
      refine EW_iload_n (pc2 := 102) rfl dX3_step_101 3 rfl ?_
      obtain ⟨b9, h⟩ := h
      refine AW_aald5 (pc2 := 103) rfl dX3_step_102 b9 ?_
      refine EW_iload (pc2 := 105) rfl dX3_step_103 4 rfl ?_
      refine AW_invV (M' := MX3_load) [.ref (30 + 3 * Int32.toNatClampNeg v3), .int v4] (rest := []) mlRX3_91 okX3_load (pc2 := 108) rfl dX3_step_105 rfl rfl (Nat.le_of_ble_eq_true rfl) (Nat.le_of_ble_eq_true rfl) (d' := 1) (by omega) (isF.o hv0) ⟨by decide, rfl⟩ (EW_mono (fun _ _ hr => ?_) (sX3_load v0 (30 + 3 * Int32.toNatClampNeg v3) v4 hv0 (isH_of b9) x _ _ 0 0 (Nat.le_refl _) h))
      obtain ⟨r10, rfl, rfl, h⟩ := hr
      refine EW_aload_n (pc2 := 109) rfl dX3_step_108 1 rfl ?_
      refine EW_iload_n (pc2 := 110) rfl dX3_step_109 3 rfl ?_
      obtain ⟨b11, h⟩ := h
      refine AW_aald5 (pc2 := 111) rfl dX3_step_110 b11 ?_
      refine AW_invV (M' := MX4_limit) [] (rest := [.int r10]) mlRX3_95 okX4_limit (pc2 := 114) rfl dX3_step_111 rfl rfl (Nat.le_of_ble_eq_true rfl) (Nat.le_of_ble_eq_true rfl) (d' := 0) (by omega) (isH.o (isH_of b11)) ⟨by decide, rfl⟩ (EW_mono (fun _ _ hr => ?_) (sX4_limit (30 + 3 * Int32.toNatClampNeg v3) (isH_of b11) x _ _ 0 0 (Nat.le_refl _) h))
      obtain ⟨r12, rfl, rfl, h⟩ := hr
      refine EW_icmp_lt (tgt := 126) (pc2 := 117) rfl dX3_step_114 (by decide) (fun q => ?_) (fun q => ?_)
      · replace h := h.1 q
        refine EW_iinc (v4 + (-1)) (pc2 := 129) rfl dX3_step_126 4 rfl rfl (by decide) [1, 2, 3, 4, 0] [(0, .ref v0), (1, .ref 10), (2, .int v2), (3, .int v3), (4, .int (v4 + (-1)))] rfl ?_
        refine EW_goto (tgt := 81) dX3_step_129 (by decide) ?_
        exact hL81 (v4 + (-1)) x h
      · replace h := h.2 q
        refine EW_aload_n (pc2 := 118) rfl dX3_step_117 0 rfl ?_
        refine EW_aload_n (pc2 := 119) rfl dX3_step_118 1 rfl ?_
        refine EW_iload_n (pc2 := 120) rfl dX3_step_119 3 rfl ?_
        obtain ⟨b13, h⟩ := h
        refine AW_aald5 (pc2 := 121) rfl dX3_step_120 b13 ?_
        refine EW_iload (pc2 := 123) rfl dX3_step_121 4 rfl ?_
        refine AW_invV (M' := MX3_drop) [.ref (30 + 3 * Int32.toNatClampNeg v3), .int v4] (rest := []) mlRX3_99 okX3_drop (pc2 := 126) rfl dX3_step_123 rfl rfl (Nat.le_of_ble_eq_true rfl) (Nat.le_of_ble_eq_true rfl) (d' := 2) (by omega) (isF.o hv0) ⟨by decide, rfl⟩ (EW_mono (fun _ _ hr => ?_) (sX3_drop v0 (30 + 3 * Int32.toNatClampNeg v3) v4 hv0 (isH_of b13) x _ _ 0 0 (Nat.le_refl _) h))
        obtain ⟨x14, rfl, rfl, h⟩ := hr
        refine EW_iinc (v4 + (-1)) (pc2 := 129) rfl dX3_step_126 4 rfl rfl (by decide) [1, 2, 3, 4, 0] [(0, .ref v0), (1, .ref 10), (2, .int v2), (3, .int v3), (4, .int (v4 + (-1)))] rfl ?_
        refine EW_goto (tgt := 81) dX3_step_129 (by decide) ?_
        exact hL81 (v4 + (-1)) x14 h
set_option maxHeartbeats 4000000 in
set_option maxRecDepth 100000 in
theorem sX3_step_66 (v0 : Nat) (v2 : Int32) (v3 : Int32) (hv0 : isF v0) (x : ab_X) (K : ab_X → Prop)  (d bc bs : Nat) (hdp : 3 ≤ d)  (h : Lp2 (lX3_step_66 v0 v2 K ) v3 x) : EW MX3_step 66 [(0, .ref v0), (1, .ref 10), (2, .int v2), (3, .int v3)] [] (aS x) d bc bs (liV K) := by
  refine Lp2.use (P := fun v3 x => EW MX3_step 66 [(0, .ref v0), (1, .ref 10), (2, .int v2), (3, .int v3)] [] (aS x) d bc bs (liV K)) (fun L66 v3 x hL66 h => ?_) v3 x h
  unfold lX3_step_66 at h
  refine EW_iload_n (pc2 := 67) rfl dX3_step_66 3 rfl ?_
  refine EW_iload_n (pc2 := 68) rfl dX3_step_67 2 rfl ?_
  refine EW_icmp_ge (tgt := 138) (pc2 := 71) rfl dX3_step_68 (by decide) (fun q => ?_) (fun q => ?_)
  · replace h := h.1 q
    exact EW_vret rfl dX3_step_138 ⟨_, rfl, rfl, h⟩
  · replace h := h.2 q
    refine EW_aload_n (pc2 := 72) rfl dX3_step_71 1 rfl ?_
    refine EW_iload_n (pc2 := 73) rfl dX3_step_72 3 rfl ?_
    obtain ⟨b6, h⟩ := h
    refine AW_aald5 (pc2 := 74) rfl dX3_step_73 b6 ?_
    refine AW_geti ⟨gfRX3_56, rfl⟩ (pc2 := 77) rfl dX3_step_74 (isH.o (isH_of b6)) ?_
    refine EW_iconst (pc2 := 78) (v := 1) rfl dX3_step_77 (by decide) ?_
    refine EW_isub (pc2 := 79) rfl dX3_step_78 ?_
    refine EW_istore (pc2 := 81) rfl dX3_step_79 (by decide) [1, 2, 3, 4, 0] [(0, .ref v0), (1, .ref 10), (2, .int v2), (3, .int v3), (4, .int ((x.1 (30 + 3 * Int32.toNatClampNeg v3) 3) - 1))] rfl ?_
    exact sX3_step_81 v0 v2 v3 ((x.1 (30 + 3 * Int32.toNatClampNeg v3) 3) - 1) hv0 x K L66 d bc bs hdp hL66 h
set_option maxHeartbeats 4000000 in
set_option maxRecDepth 100000 in
theorem sX3_step_35 (v0 : Nat) (v2 : Int32) (v3 : Int32) (hv0 : isF v0) (x : ab_X) (K : ab_X → Prop)  (d bc bs : Nat) (hdp : 3 ≤ d)  (h : Lp2 (lX3_step_35 v0 v2 K ) v3 x) : EW MX3_step 35 [(0, .ref v0), (1, .ref 10), (2, .int v2), (3, .int v3)] [] (aS x) d bc bs (liV K) := by
  refine Lp2.use (P := fun v3 x => EW MX3_step 35 [(0, .ref v0), (1, .ref 10), (2, .int v2), (3, .int v3)] [] (aS x) d bc bs (liV K)) (fun L35 v3 x hL35 h => ?_) v3 x h
  unfold lX3_step_35 at h
  refine EW_iload_n (pc2 := 36) rfl dX3_step_35 3 rfl ?_
  refine EW_iload_n (pc2 := 37) rfl dX3_step_36 2 rfl ?_
  refine EW_icmp_ge (tgt := 64) (pc2 := 40) rfl dX3_step_37 (by decide) (fun q => ?_) (fun q => ?_)
  · replace h := h.1 q
    refine EW_iconst (pc2 := 65) (v := 0) rfl dX3_step_64 (by decide) ?_
    refine EW_istore_n (pc2 := 66) rfl dX3_step_65 (by decide) [1, 2, 3, 0] [(0, .ref v0), (1, .ref 10), (2, .int v2), (3, .int 0)] rfl ?_
    exact sX3_step_66 v0 v2 0 hv0 x K d bc bs hdp h
  · replace h := h.2 q
    refine EW_aload_n (pc2 := 41) rfl dX3_step_40 1 rfl ?_
    refine EW_iload_n (pc2 := 42) rfl dX3_step_41 3 rfl ?_
    obtain ⟨b3, h⟩ := h
    refine AW_aald5 (pc2 := 43) rfl dX3_step_42 b3 ?_
    refine EW_astore (pc2 := 45) rfl dX3_step_43 (by decide) [1, 2, 3, 4, 0] [(0, .ref v0), (1, .ref 10), (2, .int v2), (3, .int v3), (4, .ref (30 + 3 * Int32.toNatClampNeg v3))] rfl ?_
    refine EW_aload_n (pc2 := 46) rfl dX3_step_45 0 rfl ?_
    refine EW_aload (pc2 := 48) rfl dX3_step_46 4 rfl ?_
    refine AW_invV (M' := MX3_waste) [.ref (30 + 3 * Int32.toNatClampNeg v3)] (rest := []) mlRX3_84 okX3_waste (pc2 := 51) rfl dX3_step_48 rfl rfl (Nat.le_of_ble_eq_true rfl) (Nat.le_of_ble_eq_true rfl) (d' := 1) (by omega) (isF.o hv0) ⟨by decide, rfl⟩ (EW_mono (fun _ _ hr => ?_) (sX3_waste v0 (30 + 3 * Int32.toNatClampNeg v3) hv0 (isH_of b3) x _ _ 0 0 (Nat.le_refl _) h))
    obtain ⟨x4, rfl, rfl, h⟩ := hr
    refine EW_aload_n (pc2 := 52) rfl dX3_step_51 0 rfl ?_
    refine EW_aload (pc2 := 54) rfl dX3_step_52 4 rfl ?_
    refine EW_aload_n (pc2 := 55) rfl dX3_step_54 1 rfl ?_
    refine AW_invV (M' := MX3_warm) [.ref (30 + 3 * Int32.toNatClampNeg v3), .ref 10] (rest := []) mlRX3_87 okX3_warm (pc2 := 58) rfl dX3_step_55 rfl rfl (Nat.le_of_ble_eq_true rfl) (Nat.le_of_ble_eq_true rfl) (d' := 2) (by omega) (isF.o hv0) ⟨by decide, rfl⟩ (EW_mono (fun _ _ hr => ?_) (sX3_warm v0 (30 + 3 * Int32.toNatClampNeg v3) hv0 (isH_of b3) x4 _ _ 0 0 (Nat.le_refl _) h))
    obtain ⟨x5, rfl, rfl, h⟩ := hr
    refine EW_iinc (v3 + 1) (pc2 := 61) rfl dX3_step_58 3 rfl rfl (by decide) [1, 2, 3, 0, 4] [(0, .ref v0), (1, .ref 10), (2, .int v2), (3, .int (v3 + 1)), (4, .ref (30 + 3 * Int32.toNatClampNeg v3))] rfl ?_
    refine EW_goto (tgt := 35) dX3_step_61 (by decide) ?_
    refine EW_ls [0, 1, 2, 3] rfl ?_
    exact hL35 (v3 + 1) x5 h
set_option maxHeartbeats 4000000 in
set_option maxRecDepth 100000 in
theorem sX3_step_10 (v0 : Nat) (v2 : Int32) (v3 : Int32) (hv0 : isF v0) (x : ab_X) (K : ab_X → Prop)  (d bc bs : Nat) (hdp : 3 ≤ d)  (h : Lp2 (lX3_step_10 v0 v2 K ) v3 x) : EW MX3_step 10 [(0, .ref v0), (1, .ref 10), (2, .int v2), (3, .int v3)] [] (aS x) d bc bs (liV K) := by
  refine Lp2.use (P := fun v3 x => EW MX3_step 10 [(0, .ref v0), (1, .ref 10), (2, .int v2), (3, .int v3)] [] (aS x) d bc bs (liV K)) (fun L10 v3 x hL10 h => ?_) v3 x h
  unfold lX3_step_10 at h
  refine EW_iload_n (pc2 := 11) rfl dX3_step_10 3 rfl ?_
  refine EW_iload_n (pc2 := 12) rfl dX3_step_11 2 rfl ?_
  refine EW_icmp_ge (tgt := 28) (pc2 := 15) rfl dX3_step_12 (by decide) (fun q => ?_) (fun q => ?_)
  · replace h := h.1 q
    refine EW_aload_n (pc2 := 29) rfl dX3_step_28 0 rfl ?_
    refine EW_iconst (pc2 := 30) (v := 1) rfl dX3_step_29 (by decide) ?_
    refine AW_putz ⟨gfRX3_34, rfl, rfl⟩ isB1 (pc2 := 33) rfl dX3_step_30 (isF.o hv0) ?_
    refine EW_iconst (pc2 := 34) (v := 0) rfl dX3_step_33 (by decide) ?_
    refine EW_istore_n (pc2 := 35) rfl dX3_step_34 (by decide) [1, 2, 3, 0] [(0, .ref v0), (1, .ref 10), (2, .int v2), (3, .int 0)] rfl ?_
    exact sX3_step_35 v0 v2 0 hv0 (wr x v0 7 1) K d bc bs hdp h
  · replace h := h.2 q
    refine EW_aload_n (pc2 := 16) rfl dX3_step_15 0 rfl ?_
    refine EW_aload_n (pc2 := 17) rfl dX3_step_16 1 rfl ?_
    refine EW_iload_n (pc2 := 18) rfl dX3_step_17 3 rfl ?_
    obtain ⟨b1, h⟩ := h
    refine AW_aald5 (pc2 := 19) rfl dX3_step_18 b1 ?_
    refine AW_invV (M' := MX3_noteBurning) [.ref (30 + 3 * Int32.toNatClampNeg v3)] (rest := []) mlRX3_80 okX3_noteBurning (pc2 := 22) rfl dX3_step_19 rfl rfl (Nat.le_of_ble_eq_true rfl) (Nat.le_of_ble_eq_true rfl) (d' := 1) (by omega) (isF.o hv0) ⟨by decide, rfl⟩ (EW_mono (fun _ _ hr => ?_) (sX3_noteBurning v0 (30 + 3 * Int32.toNatClampNeg v3) hv0 (isH_of b1) x _ _ 0 0 (Nat.le_refl _) h))
    obtain ⟨x2, rfl, rfl, h⟩ := hr
    refine EW_iinc (v3 + 1) (pc2 := 25) rfl dX3_step_22 3 rfl rfl (by decide) [1, 2, 3, 0] [(0, .ref v0), (1, .ref 10), (2, .int v2), (3, .int (v3 + 1))] rfl ?_
    refine EW_goto (tgt := 10) dX3_step_25 (by decide) ?_
    exact hL10 (v3 + 1) x2 h
set_option maxHeartbeats 4000000 in
set_option maxRecDepth 100000 in
theorem sX3_step (v0 : Nat) (v2 : Int32) (hv0 : isF v0) (x : ab_X) (K : ab_X → Prop) (d bc bs : Nat) (hdp : 3 ≤ d) (h : wX3_step v0 v2 x K) : EW MX3_step 0 [(0, .ref v0), (1, .ref 10), (2, .int v2)] [] (aS x) d bc bs (liV K) := by
  unfold wX3_step at h
  refine EW_aload_n (pc2 := 1) rfl dX3_step_0 0 rfl ?_
  refine AW_geti ⟨gfRX3_34, rfl⟩ (pc2 := 4) rfl dX3_step_1 (isF.o hv0) ?_
  refine EW_if_eq (tgt := 8) (pc2 := 7) rfl dX3_step_4 (by decide) (fun q => ?_) (fun q => ?_)
  · replace h := h.1 q
    refine EW_iconst (pc2 := 9) (v := 0) rfl dX3_step_8 (by decide) ?_
    refine EW_istore_n (pc2 := 10) rfl dX3_step_9 (by decide) [1, 2, 3, 0] [(0, .ref v0), (1, .ref 10), (2, .int v2), (3, .int 0)] rfl ?_
    exact sX3_step_10 v0 v2 0 hv0 x K d bc bs hdp h
  · replace h := h.2 q
    exact EW_vret rfl dX3_step_7 ⟨_, rfl, rfl, h⟩
theorem mlRX10_101 : Cond.methodLink RX10 101 yX10_loseIn ∈ ab_G ∧ Cond.instanceMethod yX10_loseIn ∈ ab_G ∧ Cond.selects RX10 yX10_loseIn yX10_loseIn ∈ ab_G := ⟨ab_in 1473 (by decide +kernel) (by decide +kernel), ab_in 1474 (by decide +kernel) (by decide +kernel), ab_in 1475 (by decide +kernel) (by decide +kernel)⟩
theorem mlRX10_97 : Cond.methodLink RX10 97 yX3_step ∈ ab_G ∧ Cond.instanceMethod yX3_step ∈ ab_G ∧ Cond.selects RX3 yX3_step yX3_step ∈ ab_G := ⟨ab_in 1441 (by decide +kernel) (by decide +kernel), ab_in 1442 (by decide +kernel) (by decide +kernel), ab_in 1443 (by decide +kernel) (by decide +kernel)⟩
abbrev MX10_passMinute : ab_M := (yX10_passMinute, cX10_passMinute, 2, none)
theorem dX10_passMinute_0 : decode cX10_passMinute 0 = .ok (.aload_n 0, 1) := by decide +kernel
theorem dX10_passMinute_1 : decode cX10_passMinute 1 = .ok (.getfield 20, 3) := by decide +kernel
theorem dX10_passMinute_4 : decode cX10_passMinute 4 = .ok (.aload_n 0, 1) := by decide +kernel
theorem dX10_passMinute_5 : decode cX10_passMinute 5 = .ok (.getfield 11, 3) := by decide +kernel
theorem dX10_passMinute_8 : decode cX10_passMinute 8 = .ok (.aload_n 0, 1) := by decide +kernel
theorem dX10_passMinute_9 : decode cX10_passMinute 9 = .ok (.getfield 44, 3) := by decide +kernel
theorem dX10_passMinute_12 : decode cX10_passMinute 12 = .ok (.invokevirtual 97, 3) := by decide +kernel
theorem dX10_passMinute_15 : decode cX10_passMinute 15 = .ok (.iconst 0, 1) := by decide +kernel
theorem dX10_passMinute_16 : decode cX10_passMinute 16 = .ok (.istore_n 1, 1) := by decide +kernel
theorem dX10_passMinute_17 : decode cX10_passMinute 17 = .ok (.iload_n 1, 1) := by decide +kernel
theorem dX10_passMinute_18 : decode cX10_passMinute 18 = .ok (.aload_n 0, 1) := by decide +kernel
theorem dX10_passMinute_19 : decode cX10_passMinute 19 = .ok (.getfield 44, 3) := by decide +kernel
theorem dX10_passMinute_22 : decode cX10_passMinute 22 = .ok (.if_icmp .ge 19, 3) := by decide +kernel
theorem dX10_passMinute_25 : decode cX10_passMinute 25 = .ok (.aload_n 0, 1) := by decide +kernel
theorem dX10_passMinute_26 : decode cX10_passMinute 26 = .ok (.aload_n 0, 1) := by decide +kernel
theorem dX10_passMinute_27 : decode cX10_passMinute 27 = .ok (.getfield 11, 3) := by decide +kernel
theorem dX10_passMinute_30 : decode cX10_passMinute 30 = .ok (.iload_n 1, 1) := by decide +kernel
theorem dX10_passMinute_31 : decode cX10_passMinute 31 = .ok (.aaload, 1) := by decide +kernel
theorem dX10_passMinute_32 : decode cX10_passMinute 32 = .ok (.invokevirtual 101, 3) := by decide +kernel
theorem dX10_passMinute_35 : decode cX10_passMinute 35 = .ok (.iinc 1 1, 3) := by decide +kernel
theorem dX10_passMinute_38 : decode cX10_passMinute 38 = .ok (.goto (-21), 3) := by decide +kernel
theorem dX10_passMinute_41 : decode cX10_passMinute 41 = .ok (.return_, 1) := by decide +kernel
theorem okX10_passMinute : ab_okM MX10_passMinute 0 := ⟨by decide, ⟨by decide, by decide⟩, ab_in 1440 (by decide +kernel) (by decide +kernel), ab_in 89 (by decide +kernel) (by decide +kernel), by decide +kernel, by decide⟩
set_option maxHeartbeats 4000000 in
set_option maxRecDepth 100000 in
theorem sX10_passMinute_17 (v1 : Int32)  (x : ab_X) (K : ab_X → Prop)  (d bc bs : Nat) (hdp : 4 ≤ d)  (h : Lp2 (lX10_passMinute_17  K ) v1 x) : EW MX10_passMinute 17 [(0, .ref 9), (1, .int v1)] [] (aS x) d bc bs (liV K) := by
  refine Lp2.use (P := fun v1 x => EW MX10_passMinute 17 [(0, .ref 9), (1, .int v1)] [] (aS x) d bc bs (liV K)) (fun L17 v1 x hL17 h => ?_) v1 x h
  unfold lX10_passMinute_17 at h
  refine EW_iload_n (pc2 := 18) rfl dX10_passMinute_17 1 rfl ?_
  refine EW_aload_n (pc2 := 19) rfl dX10_passMinute_18 0 rfl ?_
  refine AW_geti ⟨gfRX10_44, rfl⟩ (pc2 := 22) rfl dX10_passMinute_19 q9 ?_
  refine EW_icmp_ge (tgt := 41) (pc2 := 25) rfl dX10_passMinute_22 (by decide) (fun q => ?_) (fun q => ?_)
  · replace h := h.1 q
    exact EW_vret rfl dX10_passMinute_41 ⟨_, rfl, rfl, h⟩
  · replace h := h.2 q
    refine EW_aload_n (pc2 := 26) rfl dX10_passMinute_25 0 rfl ?_
    refine EW_aload_n (pc2 := 27) rfl dX10_passMinute_26 0 rfl ?_
    refine AW_getr (r := 10) ⟨gfRX10_11, rfl⟩ (pc2 := 30) rfl dX10_passMinute_27 q9 rfl ?_
    refine EW_iload_n (pc2 := 31) rfl dX10_passMinute_30 1 rfl ?_
    obtain ⟨b2, h⟩ := h
    refine AW_aald5 (pc2 := 32) rfl dX10_passMinute_31 b2 ?_
    refine AW_invV (M' := MX10_loseIn) [.ref (30 + 3 * Int32.toNatClampNeg v1)] (rest := []) mlRX10_101 okX10_loseIn (pc2 := 35) rfl dX10_passMinute_32 rfl rfl (Nat.le_of_ble_eq_true rfl) (Nat.le_of_ble_eq_true rfl) (d' := 2) (by omega) q9 ⟨by decide, rfl⟩ (EW_mono (fun _ _ hr => ?_) (sX10_loseIn (30 + 3 * Int32.toNatClampNeg v1) (isH_of b2) x _ _ 0 0 (Nat.le_refl _) h))
    obtain ⟨x3, rfl, rfl, h⟩ := hr
    refine EW_iinc (v1 + 1) (pc2 := 38) rfl dX10_passMinute_35 1 rfl rfl (by decide) [1, 0] [(0, .ref 9), (1, .int (v1 + 1))] rfl ?_
    refine EW_goto (tgt := 17) dX10_passMinute_38 (by decide) ?_
    exact hL17 (v1 + 1) x3 h
set_option maxHeartbeats 4000000 in
set_option maxRecDepth 100000 in
theorem sX10_passMinute   (x : ab_X) (K : ab_X → Prop) (d bc bs : Nat) (hdp : 4 ≤ d) (h : wX10_passMinute  x K) : EW MX10_passMinute 0 [(0, .ref 9)] [] (aS x) d bc bs (liV K) := by
  unfold wX10_passMinute at h
  refine EW_aload_n (pc2 := 1) rfl dX10_passMinute_0 0 rfl ?_
  refine AW_getr (r := 11) ⟨gfRX10_20, rfl⟩ (pc2 := 4) rfl dX10_passMinute_1 q9 rfl ?_
  refine EW_aload_n (pc2 := 5) rfl dX10_passMinute_4 0 rfl ?_
  refine AW_getr (r := 10) ⟨gfRX10_11, rfl⟩ (pc2 := 8) rfl dX10_passMinute_5 q9 rfl ?_
  refine EW_aload_n (pc2 := 9) rfl dX10_passMinute_8 0 rfl ?_
  refine AW_geti ⟨gfRX10_44, rfl⟩ (pc2 := 12) rfl dX10_passMinute_9 q9 ?_
  refine AW_invV (M' := MX3_step) [.ref 10, .int (x.1 9 2)] (rest := []) mlRX10_97 okX3_step (pc2 := 15) rfl dX10_passMinute_12 rfl rfl (Nat.le_of_ble_eq_true rfl) (Nat.le_of_ble_eq_true rfl) (d' := 3) (by omega) q11 ⟨by decide, rfl⟩ (EW_mono (fun _ _ hr => ?_) (sX3_step 11 (x.1 9 2) (Or.inl rfl : isF 11) x _ _ 0 0 (Nat.le_refl _) h))
  obtain ⟨x1, rfl, rfl, h⟩ := hr
  refine EW_iconst (pc2 := 16) (v := 0) rfl dX10_passMinute_15 (by decide) ?_
  refine EW_istore_n (pc2 := 17) rfl dX10_passMinute_16 (by decide) [1, 0] [(0, .ref 9), (1, .int 0)] rfl ?_
  exact sX10_passMinute_17 0 x1 K d bc bs hdp h
theorem mmRX2_78 : Cond.methodLink RX2 78 Lib.Math.min.name ∈ ab_G ∧ Cond.static Lib.Math.min.name ∈ ab_G ∧ Cond.initialized "java/lang/Math" ∈ ab_G ∧ Cond.code Lib.Math.min.name Lib.Math.min.code 2 (some .int) ∈ ab_G := ⟨ab_in 1508 (by decide +kernel) (by decide +kernel), ab_in 787 (by decide +kernel) (by decide +kernel), ab_in 100 (by decide +kernel) (by decide +kernel), ab_in 788 (by decide +kernel) (by decide +kernel)⟩
theorem mmRX2_84 : Cond.methodLink RX2 84 Lib.Math.max.name ∈ ab_G ∧ Cond.static Lib.Math.max.name ∈ ab_G ∧ Cond.initialized "java/lang/Math" ∈ ab_G ∧ Cond.code Lib.Math.max.name Lib.Math.max.code 2 (some .int) ∈ ab_G := ⟨ab_in 1509 (by decide +kernel) (by decide +kernel), ab_in 909 (by decide +kernel) (by decide +kernel), ab_in 100 (by decide +kernel) (by decide +kernel), ab_in 910 (by decide +kernel) (by decide +kernel)⟩
abbrev MX2_tire : ab_M := (yX2_tire, cX2_tire, 2, none)
theorem dX2_tire_0 : decode cX2_tire 0 = .ok (.aload_n 0, 1) := by decide +kernel
theorem dX2_tire_1 : decode cX2_tire 1 = .ok (.getfield 63, 3) := by decide +kernel
theorem dX2_tire_4 : decode cX2_tire 4 = .ok (.iconst 4, 1) := by decide +kernel
theorem dX2_tire_5 : decode cX2_tire 5 = .ok (.if_icmp .ne 9, 3) := by decide +kernel
theorem dX2_tire_8 : decode cX2_tire 8 = .ok (.aload_n 0, 1) := by decide +kernel
theorem dX2_tire_9 : decode cX2_tire 9 = .ok (.iconst 0, 1) := by decide +kernel
theorem dX2_tire_10 : decode cX2_tire 10 = .ok (.putfield 40, 3) := by decide +kernel
theorem dX2_tire_13 : decode cX2_tire 13 = .ok (.return_, 1) := by decide +kernel
theorem dX2_tire_14 : decode cX2_tire 14 = .ok (.aload_n 0, 1) := by decide +kernel
theorem dX2_tire_15 : decode cX2_tire 15 = .ok (.getfield 63, 3) := by decide +kernel
theorem dX2_tire_18 : decode cX2_tire 18 = .ok (.ifCond .ne 7, 3) := by decide +kernel
theorem dX2_tire_21 : decode cX2_tire 21 = .ok (.iconst (-1), 1) := by decide +kernel
theorem dX2_tire_22 : decode cX2_tire 22 = .ok (.goto 16, 3) := by decide +kernel
theorem dX2_tire_25 : decode cX2_tire 25 = .ok (.aload_n 0, 1) := by decide +kernel
theorem dX2_tire_26 : decode cX2_tire 26 = .ok (.getfield 63, 3) := by decide +kernel
theorem dX2_tire_29 : decode cX2_tire 29 = .ok (.iconst 2, 1) := by decide +kernel
theorem dX2_tire_30 : decode cX2_tire 30 = .ok (.if_icmp .ne 7, 3) := by decide +kernel
theorem dX2_tire_33 : decode cX2_tire 33 = .ok (.iconst 2, 1) := by decide +kernel
theorem dX2_tire_34 : decode cX2_tire 34 = .ok (.goto 4, 3) := by decide +kernel
theorem dX2_tire_37 : decode cX2_tire 37 = .ok (.iconst 1, 1) := by decide +kernel
theorem dX2_tire_38 : decode cX2_tire 38 = .ok (.istore_n 1, 1) := by decide +kernel
theorem dX2_tire_39 : decode cX2_tire 39 = .ok (.aload_n 0, 1) := by decide +kernel
theorem dX2_tire_40 : decode cX2_tire 40 = .ok (.iconst 0, 1) := by decide +kernel
theorem dX2_tire_41 : decode cX2_tire 41 = .ok (.sipush 300, 3) := by decide +kernel
theorem dX2_tire_44 : decode cX2_tire 44 = .ok (.aload_n 0, 1) := by decide +kernel
theorem dX2_tire_45 : decode cX2_tire 45 = .ok (.getfield 40, 3) := by decide +kernel
theorem dX2_tire_48 : decode cX2_tire 48 = .ok (.iload_n 1, 1) := by decide +kernel
theorem dX2_tire_49 : decode cX2_tire 49 = .ok (.iadd, 1) := by decide +kernel
theorem dX2_tire_50 : decode cX2_tire 50 = .ok (.invokestatic 78, 3) := by decide +kernel
theorem dX2_tire_53 : decode cX2_tire 53 = .ok (.invokestatic 84, 3) := by decide +kernel
theorem dX2_tire_56 : decode cX2_tire 56 = .ok (.putfield 40, 3) := by decide +kernel
theorem dX2_tire_59 : decode cX2_tire 59 = .ok (.return_, 1) := by decide +kernel
theorem okX2_tire : ab_okM MX2_tire 0 := ⟨by decide, ⟨by decide, by decide⟩, ab_in 1507 (by decide +kernel) (by decide +kernel), ab_in 94 (by decide +kernel) (by decide +kernel), by decide +kernel, by decide⟩
set_option maxHeartbeats 4000000 in
set_option maxRecDepth 100000 in
theorem sX2_tire_38 (v0 : Nat) (s0 : Int32) (hv0 : isW v0) (x : ab_X) (K : ab_X → Prop)  (d bc bs : Nat) (hdp : 1 ≤ d)  (h : wX2_tire_38 v0 s0 x K ) : EW MX2_tire 38 [(0, .ref v0)] [.int s0] (aS x) d bc bs (liV K) := by
  unfold wX2_tire_38 at h
  refine EW_istore_n (pc2 := 39) rfl dX2_tire_38 (by decide) [1, 0] [(0, .ref v0), (1, .int s0)] rfl ?_
  refine EW_aload_n (pc2 := 40) rfl dX2_tire_39 0 rfl ?_
  refine EW_iconst (pc2 := 41) (v := 0) rfl dX2_tire_40 (by decide) ?_
  refine EW_sipush (pc2 := 44) (v := 300) rfl dX2_tire_41 (by decide) ?_
  refine EW_aload_n (pc2 := 45) rfl dX2_tire_44 0 rfl ?_
  refine AW_geti ⟨gfRX2_40, rfl⟩ (pc2 := 48) rfl dX2_tire_45 (isW.o hv0) ?_
  refine EW_iload_n (pc2 := 49) rfl dX2_tire_48 1 rfl ?_
  refine EW_iadd (pc2 := 50) rfl dX2_tire_49 ?_
  refine AW_mmin mmRX2_78 (pc2 := 53) rfl dX2_tire_50 (Nat.le_of_ble_eq_true rfl) (by omega) ?_
  refine AW_mmax mmRX2_84 (pc2 := 56) rfl dX2_tire_53 (Nat.le_of_ble_eq_true rfl) (by omega) ?_
  refine AW_puti ⟨gfRX2_40, rfl, rfl⟩ (pc2 := 59) rfl dX2_tire_56 (isW.o hv0) ?_
  exact EW_vret rfl dX2_tire_59 ⟨_, rfl, rfl, h⟩
set_option maxHeartbeats 4000000 in
set_option maxRecDepth 100000 in
theorem sX2_tire (v0 : Nat) (hv0 : isW v0) (x : ab_X) (K : ab_X → Prop) (d bc bs : Nat) (hdp : 1 ≤ d) (h : wX2_tire v0 x K) : EW MX2_tire 0 [(0, .ref v0)] [] (aS x) d bc bs (liV K) := by
  unfold wX2_tire at h
  refine EW_aload_n (pc2 := 1) rfl dX2_tire_0 0 rfl ?_
  refine AW_geti ⟨gfRX2_63, rfl⟩ (pc2 := 4) rfl dX2_tire_1 (isW.o hv0) ?_
  refine EW_iconst (pc2 := 5) (v := 4) rfl dX2_tire_4 (by decide) ?_
  refine EW_icmp_ne (tgt := 14) (pc2 := 8) rfl dX2_tire_5 (by decide) (fun q => ?_) (fun q => ?_)
  · replace h := h.1 q
    refine EW_aload_n (pc2 := 15) rfl dX2_tire_14 0 rfl ?_
    refine AW_geti ⟨gfRX2_63, rfl⟩ (pc2 := 18) rfl dX2_tire_15 (isW.o hv0) ?_
    refine EW_if_ne (tgt := 25) (pc2 := 21) rfl dX2_tire_18 (by decide) (fun q => ?_) (fun q => ?_)
    · replace h := h.1 q
      refine EW_aload_n (pc2 := 26) rfl dX2_tire_25 0 rfl ?_
      refine AW_geti ⟨gfRX2_63, rfl⟩ (pc2 := 29) rfl dX2_tire_26 (isW.o hv0) ?_
      refine EW_iconst (pc2 := 30) (v := 2) rfl dX2_tire_29 (by decide) ?_
      refine EW_icmp_ne (tgt := 37) (pc2 := 33) rfl dX2_tire_30 (by decide) (fun q => ?_) (fun q => ?_)
      · replace h := h.1 q
        refine EW_iconst (pc2 := 38) (v := 1) rfl dX2_tire_37 (by decide) ?_
        exact sX2_tire_38 v0 1 hv0 x K d bc bs hdp h
      · replace h := h.2 q
        refine EW_iconst (pc2 := 34) (v := 2) rfl dX2_tire_33 (by decide) ?_
        refine EW_goto (tgt := 38) dX2_tire_34 (by decide) ?_
        exact sX2_tire_38 v0 2 hv0 x K d bc bs hdp h
    · replace h := h.2 q
      refine EW_iconst (pc2 := 22) (v := (-1)) rfl dX2_tire_21 (by decide) ?_
      refine EW_goto (tgt := 38) dX2_tire_22 (by decide) ?_
      exact sX2_tire_38 v0 (-1) hv0 x K d bc bs hdp h
  · replace h := h.2 q
    refine EW_aload_n (pc2 := 9) rfl dX2_tire_8 0 rfl ?_
    refine EW_iconst (pc2 := 10) (v := 0) rfl dX2_tire_9 (by decide) ?_
    refine AW_puti ⟨gfRX2_40, rfl, rfl⟩ (pc2 := 13) rfl dX2_tire_10 (isW.o hv0) ?_
    exact EW_vret rfl dX2_tire_13 ⟨_, rfl, rfl, h⟩
theorem mlRX0_251 : Cond.methodLink RX0 251 yX0_witness ∈ ab_G ∧ Cond.instanceMethod yX0_witness ∈ ab_G ∧ Cond.selects RX0 yX0_witness yX0_witness ∈ ab_G := ⟨ab_in 1510 (by decide +kernel) (by decide +kernel), ab_in 876 (by decide +kernel) (by decide +kernel), ab_in 877 (by decide +kernel) (by decide +kernel)⟩
theorem mlRX0_248 : Cond.methodLink RX0 248 yX2_tire ∈ ab_G ∧ Cond.instanceMethod yX2_tire ∈ ab_G ∧ Cond.selects RX2 yX2_tire yX2_tire ∈ ab_G := ⟨ab_in 1504 (by decide +kernel) (by decide +kernel), ab_in 1505 (by decide +kernel) (by decide +kernel), ab_in 1506 (by decide +kernel) (by decide +kernel)⟩
theorem gfRX0_220 : ab_L RX0 220 2 10 := ⟨by decide, by decide, ab_in 436 (by decide +kernel) (by decide +kernel)⟩
theorem mlRX0_223 : Cond.methodLink RX0 223 yX0_arrive ∈ ab_G ∧ Cond.instanceMethod yX0_arrive ∈ ab_G ∧ Cond.selects RX0 yX0_arrive yX0_arrive ∈ ab_G := ⟨ab_in 1359 (by decide +kernel) (by decide +kernel), ab_in 1360 (by decide +kernel) (by decide +kernel), ab_in 1361 (by decide +kernel) (by decide +kernel)⟩
theorem mlRX0_227 : Cond.methodLink RX0 227 yX0_goOver ∈ ab_G ∧ Cond.instanceMethod yX0_goOver ∈ ab_G ∧ Cond.selects RX0 yX0_goOver yX0_goOver ∈ ab_G := ⟨ab_in 1372 (by decide +kernel) (by decide +kernel), ab_in 1373 (by decide +kernel) (by decide +kernel), ab_in 1374 (by decide +kernel) (by decide +kernel)⟩
theorem mlRX0_230 : Cond.methodLink RX0 230 yX0_workAll ∈ ab_G ∧ Cond.instanceMethod yX0_workAll ∈ ab_G ∧ Cond.selects RX0 yX0_workAll yX0_workAll ∈ ab_G := ⟨ab_in 1378 (by decide +kernel) (by decide +kernel), ab_in 1379 (by decide +kernel) (by decide +kernel), ab_in 1380 (by decide +kernel) (by decide +kernel)⟩
theorem mlRX0_233 : Cond.methodLink RX0 233 yX0_shareWater ∈ ab_G ∧ Cond.instanceMethod yX0_shareWater ∈ ab_G ∧ Cond.selects RX0 yX0_shareWater yX0_shareWater ∈ ab_G := ⟨ab_in 1428 (by decide +kernel) (by decide +kernel), ab_in 1429 (by decide +kernel) (by decide +kernel), ab_in 1430 (by decide +kernel) (by decide +kernel)⟩
theorem mlRX0_236 : Cond.methodLink RX0 236 yX10_passMinute ∈ ab_G ∧ Cond.instanceMethod yX10_passMinute ∈ ab_G ∧ Cond.selects RX10 yX10_passMinute yX10_passMinute ∈ ab_G := ⟨ab_in 1437 (by decide +kernel) (by decide +kernel), ab_in 1438 (by decide +kernel) (by decide +kernel), ab_in 1439 (by decide +kernel) (by decide +kernel)⟩
theorem mlRX0_239 : Cond.methodLink RX0 239 yX0_hurtFallen ∈ ab_G ∧ Cond.instanceMethod yX0_hurtFallen ∈ ab_G ∧ Cond.selects RX0 yX0_hurtFallen yX0_hurtFallen ∈ ab_G := ⟨ab_in 1487 (by decide +kernel) (by decide +kernel), ab_in 1488 (by decide +kernel) (by decide +kernel), ab_in 1489 (by decide +kernel) (by decide +kernel)⟩
theorem mlRX0_242 : Cond.methodLink RX0 242 yX0_closeOut ∈ ab_G ∧ Cond.instanceMethod yX0_closeOut ∈ ab_G ∧ Cond.selects RX0 yX0_closeOut yX0_closeOut ∈ ab_G := ⟨ab_in 1492 (by decide +kernel) (by decide +kernel), ab_in 1493 (by decide +kernel) (by decide +kernel), ab_in 1494 (by decide +kernel) (by decide +kernel)⟩
theorem mlRX0_245 : Cond.methodLink RX0 245 yX0_sendHome ∈ ab_G ∧ Cond.instanceMethod yX0_sendHome ∈ ab_G ∧ Cond.selects RX0 yX0_sendHome yX0_sendHome ∈ ab_G := ⟨ab_in 1500 (by decide +kernel) (by decide +kernel), ab_in 1501 (by decide +kernel) (by decide +kernel), ab_in 1502 (by decide +kernel) (by decide +kernel)⟩
abbrev MX0_passMinute : ab_M := (yX0_passMinute, cX0_passMinute, 2, none)
theorem dX0_passMinute_0 : decode cX0_passMinute 0 = .ok (.aload_n 0, 1) := by decide +kernel
theorem dX0_passMinute_1 : decode cX0_passMinute 1 = .ok (.dup, 1) := by decide +kernel
theorem dX0_passMinute_2 : decode cX0_passMinute 2 = .ok (.getfield 144, 3) := by decide +kernel
theorem dX0_passMinute_5 : decode cX0_passMinute 5 = .ok (.iconst 1, 1) := by decide +kernel
theorem dX0_passMinute_6 : decode cX0_passMinute 6 = .ok (.iadd, 1) := by decide +kernel
theorem dX0_passMinute_7 : decode cX0_passMinute 7 = .ok (.putfield 144, 3) := by decide +kernel
theorem dX0_passMinute_10 : decode cX0_passMinute 10 = .ok (.iconst 0, 1) := by decide +kernel
theorem dX0_passMinute_11 : decode cX0_passMinute 11 = .ok (.istore_n 1, 1) := by decide +kernel
theorem dX0_passMinute_12 : decode cX0_passMinute 12 = .ok (.iload_n 1, 1) := by decide +kernel
theorem dX0_passMinute_13 : decode cX0_passMinute 13 = .ok (.aload_n 0, 1) := by decide +kernel
theorem dX0_passMinute_14 : decode cX0_passMinute 14 = .ok (.getfield 55, 3) := by decide +kernel
theorem dX0_passMinute_17 : decode cX0_passMinute 17 = .ok (.if_icmp .ge 61, 3) := by decide +kernel
theorem dX0_passMinute_20 : decode cX0_passMinute 20 = .ok (.aload_n 0, 1) := by decide +kernel
theorem dX0_passMinute_21 : decode cX0_passMinute 21 = .ok (.getfield 11, 3) := by decide +kernel
theorem dX0_passMinute_24 : decode cX0_passMinute 24 = .ok (.iload_n 1, 1) := by decide +kernel
theorem dX0_passMinute_25 : decode cX0_passMinute 25 = .ok (.aaload, 1) := by decide +kernel
theorem dX0_passMinute_26 : decode cX0_passMinute 26 = .ok (.getfield 75, 3) := by decide +kernel
theorem dX0_passMinute_29 : decode cX0_passMinute 29 = .ok (.iconst 1, 1) := by decide +kernel
theorem dX0_passMinute_30 : decode cX0_passMinute 30 = .ok (.if_icmp .eq 16, 3) := by decide +kernel
theorem dX0_passMinute_33 : decode cX0_passMinute 33 = .ok (.aload_n 0, 1) := by decide +kernel
theorem dX0_passMinute_34 : decode cX0_passMinute 34 = .ok (.getfield 11, 3) := by decide +kernel
theorem dX0_passMinute_37 : decode cX0_passMinute 37 = .ok (.iload_n 1, 1) := by decide +kernel
theorem dX0_passMinute_38 : decode cX0_passMinute 38 = .ok (.aaload, 1) := by decide +kernel
theorem dX0_passMinute_39 : decode cX0_passMinute 39 = .ok (.getfield 75, 3) := by decide +kernel
theorem dX0_passMinute_42 : decode cX0_passMinute 42 = .ok (.iconst 3, 1) := by decide +kernel
theorem dX0_passMinute_43 : decode cX0_passMinute 43 = .ok (.if_icmp .ne 29, 3) := by decide +kernel
theorem dX0_passMinute_46 : decode cX0_passMinute 46 = .ok (.aload_n 0, 1) := by decide +kernel
theorem dX0_passMinute_47 : decode cX0_passMinute 47 = .ok (.getfield 11, 3) := by decide +kernel
theorem dX0_passMinute_50 : decode cX0_passMinute 50 = .ok (.iload_n 1, 1) := by decide +kernel
theorem dX0_passMinute_51 : decode cX0_passMinute 51 = .ok (.aaload, 1) := by decide +kernel
theorem dX0_passMinute_52 : decode cX0_passMinute 52 = .ok (.getfield 220, 3) := by decide +kernel
theorem dX0_passMinute_55 : decode cX0_passMinute 55 = .ok (.aload_n 0, 1) := by decide +kernel
theorem dX0_passMinute_56 : decode cX0_passMinute 56 = .ok (.getfield 144, 3) := by decide +kernel
theorem dX0_passMinute_59 : decode cX0_passMinute 59 = .ok (.if_icmp .gt 13, 3) := by decide +kernel
theorem dX0_passMinute_62 : decode cX0_passMinute 62 = .ok (.aload_n 0, 1) := by decide +kernel
theorem dX0_passMinute_63 : decode cX0_passMinute 63 = .ok (.aload_n 0, 1) := by decide +kernel
theorem dX0_passMinute_64 : decode cX0_passMinute 64 = .ok (.getfield 11, 3) := by decide +kernel
theorem dX0_passMinute_67 : decode cX0_passMinute 67 = .ok (.iload_n 1, 1) := by decide +kernel
theorem dX0_passMinute_68 : decode cX0_passMinute 68 = .ok (.aaload, 1) := by decide +kernel
theorem dX0_passMinute_69 : decode cX0_passMinute 69 = .ok (.invokevirtual 223, 3) := by decide +kernel
theorem dX0_passMinute_72 : decode cX0_passMinute 72 = .ok (.iinc 1 1, 3) := by decide +kernel
theorem dX0_passMinute_75 : decode cX0_passMinute 75 = .ok (.goto (-63), 3) := by decide +kernel
theorem dX0_passMinute_78 : decode cX0_passMinute 78 = .ok (.aload_n 0, 1) := by decide +kernel
theorem dX0_passMinute_79 : decode cX0_passMinute 79 = .ok (.invokevirtual 227, 3) := by decide +kernel
theorem dX0_passMinute_82 : decode cX0_passMinute 82 = .ok (.aload_n 0, 1) := by decide +kernel
theorem dX0_passMinute_83 : decode cX0_passMinute 83 = .ok (.invokevirtual 230, 3) := by decide +kernel
theorem dX0_passMinute_86 : decode cX0_passMinute 86 = .ok (.aload_n 0, 1) := by decide +kernel
theorem dX0_passMinute_87 : decode cX0_passMinute 87 = .ok (.invokevirtual 233, 3) := by decide +kernel
theorem dX0_passMinute_90 : decode cX0_passMinute 90 = .ok (.aload_n 0, 1) := by decide +kernel
theorem dX0_passMinute_91 : decode cX0_passMinute 91 = .ok (.getfield 49, 3) := by decide +kernel
theorem dX0_passMinute_94 : decode cX0_passMinute 94 = .ok (.invokevirtual 236, 3) := by decide +kernel
theorem dX0_passMinute_97 : decode cX0_passMinute 97 = .ok (.aload_n 0, 1) := by decide +kernel
theorem dX0_passMinute_98 : decode cX0_passMinute 98 = .ok (.invokevirtual 239, 3) := by decide +kernel
theorem dX0_passMinute_101 : decode cX0_passMinute 101 = .ok (.aload_n 0, 1) := by decide +kernel
theorem dX0_passMinute_102 : decode cX0_passMinute 102 = .ok (.invokevirtual 242, 3) := by decide +kernel
theorem dX0_passMinute_105 : decode cX0_passMinute 105 = .ok (.aload_n 0, 1) := by decide +kernel
theorem dX0_passMinute_106 : decode cX0_passMinute 106 = .ok (.invokevirtual 245, 3) := by decide +kernel
theorem dX0_passMinute_109 : decode cX0_passMinute 109 = .ok (.iconst 0, 1) := by decide +kernel
theorem dX0_passMinute_110 : decode cX0_passMinute 110 = .ok (.istore_n 1, 1) := by decide +kernel
theorem dX0_passMinute_111 : decode cX0_passMinute 111 = .ok (.iload_n 1, 1) := by decide +kernel
theorem dX0_passMinute_112 : decode cX0_passMinute 112 = .ok (.aload_n 0, 1) := by decide +kernel
theorem dX0_passMinute_113 : decode cX0_passMinute 113 = .ok (.getfield 55, 3) := by decide +kernel
theorem dX0_passMinute_116 : decode cX0_passMinute 116 = .ok (.if_icmp .ge 18, 3) := by decide +kernel
theorem dX0_passMinute_119 : decode cX0_passMinute 119 = .ok (.aload_n 0, 1) := by decide +kernel
theorem dX0_passMinute_120 : decode cX0_passMinute 120 = .ok (.getfield 11, 3) := by decide +kernel
theorem dX0_passMinute_123 : decode cX0_passMinute 123 = .ok (.iload_n 1, 1) := by decide +kernel
theorem dX0_passMinute_124 : decode cX0_passMinute 124 = .ok (.aaload, 1) := by decide +kernel
theorem dX0_passMinute_125 : decode cX0_passMinute 125 = .ok (.invokevirtual 248, 3) := by decide +kernel
theorem dX0_passMinute_128 : decode cX0_passMinute 128 = .ok (.iinc 1 1, 3) := by decide +kernel
theorem dX0_passMinute_131 : decode cX0_passMinute 131 = .ok (.goto (-20), 3) := by decide +kernel
theorem dX0_passMinute_134 : decode cX0_passMinute 134 = .ok (.aload_n 0, 1) := by decide +kernel
theorem dX0_passMinute_135 : decode cX0_passMinute 135 = .ok (.invokevirtual 251, 3) := by decide +kernel
theorem dX0_passMinute_138 : decode cX0_passMinute 138 = .ok (.return_, 1) := by decide +kernel
theorem okX0_passMinute : ab_okM MX0_passMinute 0 := ⟨by decide, ⟨by decide, by decide⟩, ab_in 1358 (by decide +kernel) (by decide +kernel), ab_in 92 (by decide +kernel) (by decide +kernel), by decide +kernel, by decide⟩
set_option maxHeartbeats 4000000 in
set_option maxRecDepth 100000 in
theorem sX0_passMinute_111 (v1 : Int32)  (x : ab_X) (K : ab_X → Prop)  (d bc bs : Nat) (hdp : 6 ≤ d)  (h : Lp2 (lX0_passMinute_111  K ) v1 x) : EW MX0_passMinute 111 [(0, .ref 66), (1, .int v1)] [] (aS x) d bc bs (liV K) := by
  refine Lp2.use (P := fun v1 x => EW MX0_passMinute 111 [(0, .ref 66), (1, .int v1)] [] (aS x) d bc bs (liV K)) (fun L111 v1 x hL111 h => ?_) v1 x h
  unfold lX0_passMinute_111 at h
  refine EW_iload_n (pc2 := 112) rfl dX0_passMinute_111 1 rfl ?_
  refine EW_aload_n (pc2 := 113) rfl dX0_passMinute_112 0 rfl ?_
  refine AW_geti ⟨gfRX0_55, rfl⟩ (pc2 := 116) rfl dX0_passMinute_113 q66 ?_
  refine EW_icmp_ge (tgt := 134) (pc2 := 119) rfl dX0_passMinute_116 (by decide) (fun q => ?_) (fun q => ?_)
  · replace h := h.1 q
    refine EW_aload_n (pc2 := 135) rfl dX0_passMinute_134 0 rfl ?_
    refine AW_invV (M' := MX0_witness) [] (rest := []) mlRX0_251 okX0_witness (pc2 := 138) rfl dX0_passMinute_135 rfl rfl (Nat.le_of_ble_eq_true rfl) (Nat.le_of_ble_eq_true rfl) (d' := 3) (by omega) q66 ⟨by decide, rfl⟩ (EW_mono (fun _ _ hr => ?_) (sX0_witness   x _ _ 0 0 (Nat.le_refl _) h))
    obtain ⟨x10, rfl, rfl, h⟩ := hr
    exact EW_vret rfl dX0_passMinute_138 ⟨_, rfl, rfl, h⟩
  · replace h := h.2 q
    refine EW_aload_n (pc2 := 120) rfl dX0_passMinute_119 0 rfl ?_
    refine AW_getr (r := 67) ⟨gfRX0_11, rfl⟩ (pc2 := 123) rfl dX0_passMinute_120 q66 rfl ?_
    refine EW_iload_n (pc2 := 124) rfl dX0_passMinute_123 1 rfl ?_
    obtain ⟨b11, h⟩ := h
    refine AW_aald6 (pc2 := 125) rfl dX0_passMinute_124 b11 ?_
    refine AW_invV (M' := MX2_tire) [] (rest := []) mlRX0_248 okX2_tire (pc2 := 128) rfl dX0_passMinute_125 rfl rfl (Nat.le_of_ble_eq_true rfl) (Nat.le_of_ble_eq_true rfl) (d' := 1) (by omega) (isW.o (isW_of b11)) ⟨by decide, rfl⟩ (EW_mono (fun _ _ hr => ?_) (sX2_tire (82 + Int32.toNatClampNeg v1) (isW_of b11) x _ _ 0 0 (Nat.le_refl _) h))
    obtain ⟨x12, rfl, rfl, h⟩ := hr
    refine EW_iinc (v1 + 1) (pc2 := 131) rfl dX0_passMinute_128 1 rfl rfl (by decide) [1, 0] [(0, .ref 66), (1, .int (v1 + 1))] rfl ?_
    refine EW_goto (tgt := 111) dX0_passMinute_131 (by decide) ?_
    exact hL111 (v1 + 1) x12 h
set_option maxHeartbeats 4000000 in
set_option maxRecDepth 100000 in
theorem sX0_passMinute_46 (v1 : Int32)  (x : ab_X) (K : ab_X → Prop) (L12 : Int32 → ab_X → Prop) (d bc bs : Nat) (hdp : 6 ≤ d) (hL12 : ∀ (v1 : Int32) (x : ab_X), L12 v1 x → EW MX0_passMinute 12 [(0, .ref 66), (1, .int v1)] [] (aS x) d bc bs (liV K)) (h : wX0_passMinute_46 v1 x K L12) : EW MX0_passMinute 46 [(0, .ref 66), (1, .int v1)] [] (aS x) d bc bs (liV K) := by
  unfold wX0_passMinute_46 at h
  refine EW_aload_n (pc2 := 47) rfl dX0_passMinute_46 0 rfl ?_
  refine AW_getr (r := 67) ⟨gfRX0_11, rfl⟩ (pc2 := 50) rfl dX0_passMinute_47 q66 rfl ?_
  refine EW_iload_n (pc2 := 51) rfl dX0_passMinute_50 1 rfl ?_
  obtain ⟨b13, h⟩ := h
  refine AW_aald6 (pc2 := 52) rfl dX0_passMinute_51 b13 ?_
  refine AW_geti ⟨gfRX0_220, rfl⟩ (pc2 := 55) rfl dX0_passMinute_52 (isW.o (isW_of b13)) ?_
  refine EW_aload_n (pc2 := 56) rfl dX0_passMinute_55 0 rfl ?_
  refine AW_geti ⟨gfRX0_144, rfl⟩ (pc2 := 59) rfl dX0_passMinute_56 q66 ?_
  refine EW_icmp_gt (tgt := 72) (pc2 := 62) rfl dX0_passMinute_59 (by decide) (fun q => ?_) (fun q => ?_)
  · replace h := h.1 q
    refine EW_iinc (v1 + 1) (pc2 := 75) rfl dX0_passMinute_72 1 rfl rfl (by decide) [1, 0] [(0, .ref 66), (1, .int (v1 + 1))] rfl ?_
    refine EW_goto (tgt := 12) dX0_passMinute_75 (by decide) ?_
    exact hL12 (v1 + 1) x h
  · replace h := h.2 q
    refine EW_aload_n (pc2 := 63) rfl dX0_passMinute_62 0 rfl ?_
    refine EW_aload_n (pc2 := 64) rfl dX0_passMinute_63 0 rfl ?_
    refine AW_getr (r := 67) ⟨gfRX0_11, rfl⟩ (pc2 := 67) rfl dX0_passMinute_64 q66 rfl ?_
    refine EW_iload_n (pc2 := 68) rfl dX0_passMinute_67 1 rfl ?_
    obtain ⟨b14, h⟩ := h
    refine AW_aald6 (pc2 := 69) rfl dX0_passMinute_68 b14 ?_
    refine AW_invV (M' := MX0_arrive) [.ref (82 + Int32.toNatClampNeg v1)] (rest := []) mlRX0_223 okX0_arrive (pc2 := 72) rfl dX0_passMinute_69 rfl rfl (Nat.le_of_ble_eq_true rfl) (Nat.le_of_ble_eq_true rfl) (d' := 4) (by omega) q66 ⟨by decide, rfl⟩ (EW_mono (fun _ _ hr => ?_) (sX0_arrive (82 + Int32.toNatClampNeg v1) (isW_of b14) x _ _ 0 0 (Nat.le_refl _) h))
    obtain ⟨x15, rfl, rfl, h⟩ := hr
    refine EW_iinc (v1 + 1) (pc2 := 75) rfl dX0_passMinute_72 1 rfl rfl (by decide) [1, 0] [(0, .ref 66), (1, .int (v1 + 1))] rfl ?_
    refine EW_goto (tgt := 12) dX0_passMinute_75 (by decide) ?_
    exact hL12 (v1 + 1) x15 h
set_option maxHeartbeats 4000000 in
set_option maxRecDepth 100000 in
theorem sX0_passMinute_12 (v1 : Int32)  (x : ab_X) (K : ab_X → Prop)  (d bc bs : Nat) (hdp : 6 ≤ d)  (h : Lp2 (lX0_passMinute_12  K ) v1 x) : EW MX0_passMinute 12 [(0, .ref 66), (1, .int v1)] [] (aS x) d bc bs (liV K) := by
  refine Lp2.use (P := fun v1 x => EW MX0_passMinute 12 [(0, .ref 66), (1, .int v1)] [] (aS x) d bc bs (liV K)) (fun L12 v1 x hL12 h => ?_) v1 x h
  unfold lX0_passMinute_12 at h
  refine EW_iload_n (pc2 := 13) rfl dX0_passMinute_12 1 rfl ?_
  refine EW_aload_n (pc2 := 14) rfl dX0_passMinute_13 0 rfl ?_
  refine AW_geti ⟨gfRX0_55, rfl⟩ (pc2 := 17) rfl dX0_passMinute_14 q66 ?_
  refine EW_icmp_ge (tgt := 78) (pc2 := 20) rfl dX0_passMinute_17 (by decide) (fun q => ?_) (fun q => ?_)
  · replace h := h.1 q
    refine EW_aload_n (pc2 := 79) rfl dX0_passMinute_78 0 rfl ?_
    refine AW_invV (M' := MX0_goOver) [] (rest := []) mlRX0_227 okX0_goOver (pc2 := 82) rfl dX0_passMinute_79 rfl rfl (Nat.le_of_ble_eq_true rfl) (Nat.le_of_ble_eq_true rfl) (d' := 3) (by omega) q66 ⟨by decide, rfl⟩ (EW_mono (fun _ _ hr => ?_) (sX0_goOver   x _ _ 0 0 (Nat.le_refl _) h))
    obtain ⟨x1, rfl, rfl, h⟩ := hr
    refine EW_aload_n (pc2 := 83) rfl dX0_passMinute_82 0 rfl ?_
    refine AW_invV (M' := MX0_workAll) [] (rest := []) mlRX0_230 okX0_workAll (pc2 := 86) rfl dX0_passMinute_83 rfl rfl (Nat.le_of_ble_eq_true rfl) (Nat.le_of_ble_eq_true rfl) (d' := 5) (by omega) q66 ⟨by decide, rfl⟩ (EW_mono (fun _ _ hr => ?_) (sX0_workAll   x1 _ _ 0 0 (Nat.le_refl _) h))
    obtain ⟨x2, rfl, rfl, h⟩ := hr
    refine EW_aload_n (pc2 := 87) rfl dX0_passMinute_86 0 rfl ?_
    refine AW_invV (M' := MX0_shareWater) [] (rest := []) mlRX0_233 okX0_shareWater (pc2 := 90) rfl dX0_passMinute_87 rfl rfl (Nat.le_of_ble_eq_true rfl) (Nat.le_of_ble_eq_true rfl) (d' := 2) (by omega) q66 ⟨by decide, rfl⟩ (EW_mono (fun _ _ hr => ?_) (sX0_shareWater   x2 _ _ 0 0 (Nat.le_refl _) h))
    obtain ⟨x3, rfl, rfl, h⟩ := hr
    refine EW_aload_n (pc2 := 91) rfl dX0_passMinute_90 0 rfl ?_
    refine AW_getr (r := 9) ⟨gfRX0_49, rfl⟩ (pc2 := 94) rfl dX0_passMinute_91 q66 rfl ?_
    refine AW_invV (M' := MX10_passMinute) [] (rest := []) mlRX0_236 okX10_passMinute (pc2 := 97) rfl dX0_passMinute_94 rfl rfl (Nat.le_of_ble_eq_true rfl) (Nat.le_of_ble_eq_true rfl) (d' := 4) (by omega) q9 ⟨by decide, rfl⟩ (EW_mono (fun _ _ hr => ?_) (sX10_passMinute   x3 _ _ 0 0 (Nat.le_refl _) h))
    obtain ⟨x4, rfl, rfl, h⟩ := hr
    refine EW_aload_n (pc2 := 98) rfl dX0_passMinute_97 0 rfl ?_
    refine AW_invV (M' := MX0_hurtFallen) [] (rest := []) mlRX0_239 okX0_hurtFallen (pc2 := 101) rfl dX0_passMinute_98 rfl rfl (Nat.le_of_ble_eq_true rfl) (Nat.le_of_ble_eq_true rfl) (d' := 3) (by omega) q66 ⟨by decide, rfl⟩ (EW_mono (fun _ _ hr => ?_) (sX0_hurtFallen   x4 _ _ 0 0 (Nat.le_refl _) h))
    obtain ⟨x5, rfl, rfl, h⟩ := hr
    refine EW_aload_n (pc2 := 102) rfl dX0_passMinute_101 0 rfl ?_
    refine AW_invV (M' := MX0_closeOut) [] (rest := []) mlRX0_242 okX0_closeOut (pc2 := 105) rfl dX0_passMinute_102 rfl rfl (Nat.le_of_ble_eq_true rfl) (Nat.le_of_ble_eq_true rfl) (d' := 3) (by omega) q66 ⟨by decide, rfl⟩ (EW_mono (fun _ _ hr => ?_) (sX0_closeOut   x5 _ _ 0 0 (Nat.le_refl _) h))
    obtain ⟨x6, rfl, rfl, h⟩ := hr
    refine EW_aload_n (pc2 := 106) rfl dX0_passMinute_105 0 rfl ?_
    refine AW_invV (M' := MX0_sendHome) [] (rest := []) mlRX0_245 okX0_sendHome (pc2 := 109) rfl dX0_passMinute_106 rfl rfl (Nat.le_of_ble_eq_true rfl) (Nat.le_of_ble_eq_true rfl) (d' := 4) (by omega) q66 ⟨by decide, rfl⟩ (EW_mono (fun _ _ hr => ?_) (sX0_sendHome   x6 _ _ 0 0 (Nat.le_refl _) h))
    obtain ⟨x7, rfl, rfl, h⟩ := hr
    refine EW_iconst (pc2 := 110) (v := 0) rfl dX0_passMinute_109 (by decide) ?_
    refine EW_istore_n (pc2 := 111) rfl dX0_passMinute_110 (by decide) [1, 0] [(0, .ref 66), (1, .int 0)] rfl ?_
    exact sX0_passMinute_111 0 x7 K d bc bs hdp h
  · replace h := h.2 q
    refine EW_aload_n (pc2 := 21) rfl dX0_passMinute_20 0 rfl ?_
    refine AW_getr (r := 67) ⟨gfRX0_11, rfl⟩ (pc2 := 24) rfl dX0_passMinute_21 q66 rfl ?_
    refine EW_iload_n (pc2 := 25) rfl dX0_passMinute_24 1 rfl ?_
    obtain ⟨b8, h⟩ := h
    refine AW_aald6 (pc2 := 26) rfl dX0_passMinute_25 b8 ?_
    refine AW_geti ⟨gfRX0_75, rfl⟩ (pc2 := 29) rfl dX0_passMinute_26 (isW.o (isW_of b8)) ?_
    refine EW_iconst (pc2 := 30) (v := 1) rfl dX0_passMinute_29 (by decide) ?_
    refine EW_icmp_eq (tgt := 46) (pc2 := 33) rfl dX0_passMinute_30 (by decide) (fun q => ?_) (fun q => ?_)
    · replace h := h.1 q
      exact sX0_passMinute_46 v1 x K L12 d bc bs hdp hL12 h
    · replace h := h.2 q
      refine EW_aload_n (pc2 := 34) rfl dX0_passMinute_33 0 rfl ?_
      refine AW_getr (r := 67) ⟨gfRX0_11, rfl⟩ (pc2 := 37) rfl dX0_passMinute_34 q66 rfl ?_
      refine EW_iload_n (pc2 := 38) rfl dX0_passMinute_37 1 rfl ?_
      obtain ⟨b9, h⟩ := h
      refine AW_aald6 (pc2 := 39) rfl dX0_passMinute_38 b9 ?_
      refine AW_geti ⟨gfRX0_75, rfl⟩ (pc2 := 42) rfl dX0_passMinute_39 (isW.o (isW_of b9)) ?_
      refine EW_iconst (pc2 := 43) (v := 3) rfl dX0_passMinute_42 (by decide) ?_
      refine EW_icmp_ne (tgt := 72) (pc2 := 46) rfl dX0_passMinute_43 (by decide) (fun q => ?_) (fun q => ?_)
      · replace h := h.1 q
        refine EW_iinc (v1 + 1) (pc2 := 75) rfl dX0_passMinute_72 1 rfl rfl (by decide) [1, 0] [(0, .ref 66), (1, .int (v1 + 1))] rfl ?_
        refine EW_goto (tgt := 12) dX0_passMinute_75 (by decide) ?_
        exact hL12 (v1 + 1) x h
      · replace h := h.2 q
        exact sX0_passMinute_46 v1 x K L12 d bc bs hdp hL12 h
set_option maxHeartbeats 4000000 in
set_option maxRecDepth 100000 in
theorem sX0_passMinute   (x : ab_X) (K : ab_X → Prop) (d bc bs : Nat) (hdp : 6 ≤ d) (h : wX0_passMinute  x K) : EW MX0_passMinute 0 [(0, .ref 66)] [] (aS x) d bc bs (liV K) := by
  unfold wX0_passMinute at h
  refine EW_aload_n (pc2 := 1) rfl dX0_passMinute_0 0 rfl ?_
  refine EW_dup (pc2 := 2) rfl dX0_passMinute_1 rfl ?_
  refine AW_geti ⟨gfRX0_144, rfl⟩ (pc2 := 5) rfl dX0_passMinute_2 q66 ?_
  refine EW_iconst (pc2 := 6) (v := 1) rfl dX0_passMinute_5 (by decide) ?_
  refine EW_iadd (pc2 := 7) rfl dX0_passMinute_6 ?_
  refine AW_puti ⟨gfRX0_144, rfl, rfl⟩ (pc2 := 10) rfl dX0_passMinute_7 q66 ?_
  refine EW_iconst (pc2 := 11) (v := 0) rfl dX0_passMinute_10 (by decide) ?_
  refine EW_istore_n (pc2 := 12) rfl dX0_passMinute_11 (by decide) [1, 0] [(0, .ref 66), (1, .int 0)] rfl ?_
  exact sX0_passMinute_12 0 (wr x 66 12 ((x.1 66 12) + 1)) K d bc bs hdp h
abbrev MX0_workersIn : ab_M := (yX0_workersIn, cX0_workersIn, 4, (some .int))
theorem dX0_workersIn_0 : decode cX0_workersIn 0 = .ok (.iconst 0, 1) := by decide +kernel
theorem dX0_workersIn_1 : decode cX0_workersIn 1 = .ok (.istore_n 2, 1) := by decide +kernel
theorem dX0_workersIn_2 : decode cX0_workersIn 2 = .ok (.iconst 0, 1) := by decide +kernel
theorem dX0_workersIn_3 : decode cX0_workersIn 3 = .ok (.istore_n 3, 1) := by decide +kernel
theorem dX0_workersIn_4 : decode cX0_workersIn 4 = .ok (.iload_n 3, 1) := by decide +kernel
theorem dX0_workersIn_5 : decode cX0_workersIn 5 = .ok (.aload_n 0, 1) := by decide +kernel
theorem dX0_workersIn_6 : decode cX0_workersIn 6 = .ok (.getfield 55, 3) := by decide +kernel
theorem dX0_workersIn_9 : decode cX0_workersIn 9 = .ok (.if_icmp .ge 43, 3) := by decide +kernel
theorem dX0_workersIn_12 : decode cX0_workersIn 12 = .ok (.iload_n 2, 1) := by decide +kernel
theorem dX0_workersIn_13 : decode cX0_workersIn 13 = .ok (.aload_n 0, 1) := by decide +kernel
theorem dX0_workersIn_14 : decode cX0_workersIn 14 = .ok (.getfield 11, 3) := by decide +kernel
theorem dX0_workersIn_17 : decode cX0_workersIn 17 = .ok (.iload_n 3, 1) := by decide +kernel
theorem dX0_workersIn_18 : decode cX0_workersIn 18 = .ok (.aaload, 1) := by decide +kernel
theorem dX0_workersIn_19 : decode cX0_workersIn 19 = .ok (.getfield 75, 3) := by decide +kernel
theorem dX0_workersIn_22 : decode cX0_workersIn 22 = .ok (.iconst 2, 1) := by decide +kernel
theorem dX0_workersIn_23 : decode cX0_workersIn 23 = .ok (.if_icmp .ne 20, 3) := by decide +kernel
theorem dX0_workersIn_26 : decode cX0_workersIn 26 = .ok (.aload_n 0, 1) := by decide +kernel
theorem dX0_workersIn_27 : decode cX0_workersIn 27 = .ok (.getfield 11, 3) := by decide +kernel
theorem dX0_workersIn_30 : decode cX0_workersIn 30 = .ok (.iload_n 3, 1) := by decide +kernel
theorem dX0_workersIn_31 : decode cX0_workersIn 31 = .ok (.aaload, 1) := by decide +kernel
theorem dX0_workersIn_32 : decode cX0_workersIn 32 = .ok (.getfield 78, 3) := by decide +kernel
theorem dX0_workersIn_35 : decode cX0_workersIn 35 = .ok (.iload_n 1, 1) := by decide +kernel
theorem dX0_workersIn_36 : decode cX0_workersIn 36 = .ok (.if_icmp .ne 7, 3) := by decide +kernel
theorem dX0_workersIn_39 : decode cX0_workersIn 39 = .ok (.iconst 1, 1) := by decide +kernel
theorem dX0_workersIn_40 : decode cX0_workersIn 40 = .ok (.goto 4, 3) := by decide +kernel
theorem dX0_workersIn_43 : decode cX0_workersIn 43 = .ok (.iconst 0, 1) := by decide +kernel
theorem dX0_workersIn_44 : decode cX0_workersIn 44 = .ok (.iadd, 1) := by decide +kernel
theorem dX0_workersIn_45 : decode cX0_workersIn 45 = .ok (.istore_n 2, 1) := by decide +kernel
theorem dX0_workersIn_46 : decode cX0_workersIn 46 = .ok (.iinc 3 1, 3) := by decide +kernel
theorem dX0_workersIn_49 : decode cX0_workersIn 49 = .ok (.goto (-45), 3) := by decide +kernel
theorem dX0_workersIn_52 : decode cX0_workersIn 52 = .ok (.iload_n 2, 1) := by decide +kernel
theorem dX0_workersIn_53 : decode cX0_workersIn 53 = .ok (.ireturn, 1) := by decide +kernel
theorem okX0_workersIn : ab_okM MX0_workersIn 1 := ⟨by decide, ⟨by decide, by decide⟩, ab_in 942 (by decide +kernel) (by decide +kernel), ab_in 92 (by decide +kernel) (by decide +kernel), by decide +kernel, by decide⟩
set_option maxHeartbeats 4000000 in
set_option maxRecDepth 100000 in
theorem sX0_workersIn_44 (v1 : Int32) (v3 : Int32) (s0 : Int32) (s1 : Int32)  (x : ab_X) (K : Int32 → Prop) (L4 : Int32 → Int32 → Prop) (d bc bs : Nat) (hdp : 0 ≤ d) (hL4 : ∀ (v2 : Int32) (v3 : Int32), L4 v2 v3 → EW MX0_workersIn 4 [(0, .ref 66), (1, .int v1), (2, .int v2), (3, .int v3)] [] (aS x) d bc bs (liP x K)) (h : wX0_workersIn_44 v1 v3 s0 s1 x K L4) : EW MX0_workersIn 44 [(0, .ref 66), (1, .int v1), (3, .int v3)] [.int s1, .int s0] (aS x) d bc bs (liP x K) := by
  unfold wX0_workersIn_44 at h
  refine EW_iadd (pc2 := 45) rfl dX0_workersIn_44 ?_
  refine EW_istore_n (pc2 := 46) rfl dX0_workersIn_45 (by decide) [1, 2, 0, 3] [(0, .ref 66), (1, .int v1), (2, .int (s0 + s1)), (3, .int v3)] rfl ?_
  refine EW_iinc (v3 + 1) (pc2 := 49) rfl dX0_workersIn_46 3 rfl rfl (by decide) [1, 2, 3, 0] [(0, .ref 66), (1, .int v1), (2, .int (s0 + s1)), (3, .int (v3 + 1))] rfl ?_
  refine EW_goto (tgt := 4) dX0_workersIn_49 (by decide) ?_
  exact hL4 (s0 + s1) (v3 + 1) h
set_option maxHeartbeats 4000000 in
set_option maxRecDepth 100000 in
theorem sX0_workersIn_43 (v1 : Int32) (v3 : Int32) (s0 : Int32)  (x : ab_X) (K : Int32 → Prop) (L4 : Int32 → Int32 → Prop) (d bc bs : Nat) (hdp : 0 ≤ d) (hL4 : ∀ (v2 : Int32) (v3 : Int32), L4 v2 v3 → EW MX0_workersIn 4 [(0, .ref 66), (1, .int v1), (2, .int v2), (3, .int v3)] [] (aS x) d bc bs (liP x K)) (h : wX0_workersIn_43 v1 v3 s0 x K L4) : EW MX0_workersIn 43 [(0, .ref 66), (1, .int v1), (3, .int v3)] [.int s0] (aS x) d bc bs (liP x K) := by
  unfold wX0_workersIn_43 at h
  refine EW_iconst (pc2 := 44) (v := 0) rfl dX0_workersIn_43 (by decide) ?_
  exact sX0_workersIn_44 v1 v3 s0 0 x K L4 d bc bs hdp hL4 h
set_option maxHeartbeats 4000000 in
set_option maxRecDepth 100000 in
theorem sX0_workersIn_4 (v1 : Int32) (v2 : Int32) (v3 : Int32)  (x : ab_X) (K : Int32 → Prop)  (d bc bs : Nat) (hdp : 0 ≤ d)  (h : Lp2 (lX0_workersIn_4 v1 x K ) v2 v3) : EW MX0_workersIn 4 [(0, .ref 66), (1, .int v1), (2, .int v2), (3, .int v3)] [] (aS x) d bc bs (liP x K) := by
  refine Lp2.use (P := fun v2 v3 => EW MX0_workersIn 4 [(0, .ref 66), (1, .int v1), (2, .int v2), (3, .int v3)] [] (aS x) d bc bs (liP x K)) (fun L4 v2 v3 hL4 h => ?_) v2 v3 h
  unfold lX0_workersIn_4 at h
  refine EW_iload_n (pc2 := 5) rfl dX0_workersIn_4 3 rfl ?_
  refine EW_aload_n (pc2 := 6) rfl dX0_workersIn_5 0 rfl ?_
  refine AW_geti ⟨gfRX0_55, rfl⟩ (pc2 := 9) rfl dX0_workersIn_6 q66 ?_
  refine EW_icmp_ge (tgt := 52) (pc2 := 12) rfl dX0_workersIn_9 (by decide) (fun q => ?_) (fun q => ?_)
  · replace h := h.1 q
    refine EW_iload_n (pc2 := 53) rfl dX0_workersIn_52 2 rfl ?_
    exact AW_iret rfl dX0_workersIn_53 ⟨_, rfl, rfl, h⟩
  · replace h := h.2 q
    refine EW_iload_n (pc2 := 13) rfl dX0_workersIn_12 2 rfl ?_
    refine EW_aload_n (pc2 := 14) rfl dX0_workersIn_13 0 rfl ?_
    refine AW_getr (r := 67) ⟨gfRX0_11, rfl⟩ (pc2 := 17) rfl dX0_workersIn_14 q66 rfl ?_
    refine EW_iload_n (pc2 := 18) rfl dX0_workersIn_17 3 rfl ?_
    obtain ⟨b1, h⟩ := h
    refine AW_aald6 (pc2 := 19) rfl dX0_workersIn_18 b1 ?_
    refine AW_geti ⟨gfRX0_75, rfl⟩ (pc2 := 22) rfl dX0_workersIn_19 (isW.o (isW_of b1)) ?_
    refine EW_iconst (pc2 := 23) (v := 2) rfl dX0_workersIn_22 (by decide) ?_
    refine EW_icmp_ne (tgt := 43) (pc2 := 26) rfl dX0_workersIn_23 (by decide) (fun q => ?_) (fun q => ?_)
    · replace h := h.1 q
      refine EW_ls [0, 1, 3] rfl ?_
      exact sX0_workersIn_43 v1 v3 v2 x K L4 d bc bs hdp hL4 h
    · replace h := h.2 q
      refine EW_aload_n (pc2 := 27) rfl dX0_workersIn_26 0 rfl ?_
      refine AW_getr (r := 67) ⟨gfRX0_11, rfl⟩ (pc2 := 30) rfl dX0_workersIn_27 q66 rfl ?_
      refine EW_iload_n (pc2 := 31) rfl dX0_workersIn_30 3 rfl ?_
      obtain ⟨b2, h⟩ := h
      refine AW_aald6 (pc2 := 32) rfl dX0_workersIn_31 b2 ?_
      refine AW_geti ⟨gfRX0_78, rfl⟩ (pc2 := 35) rfl dX0_workersIn_32 (isW.o (isW_of b2)) ?_
      refine EW_iload_n (pc2 := 36) rfl dX0_workersIn_35 1 rfl ?_
      refine EW_icmp_ne (tgt := 43) (pc2 := 39) rfl dX0_workersIn_36 (by decide) (fun q => ?_) (fun q => ?_)
      · replace h := h.1 q
        refine EW_ls [0, 1, 3] rfl ?_
        exact sX0_workersIn_43 v1 v3 v2 x K L4 d bc bs hdp hL4 h
      · replace h := h.2 q
        refine EW_iconst (pc2 := 40) (v := 1) rfl dX0_workersIn_39 (by decide) ?_
        refine EW_goto (tgt := 44) dX0_workersIn_40 (by decide) ?_
        refine EW_ls [0, 1, 3] rfl ?_
        exact sX0_workersIn_44 v1 v3 v2 1 x K L4 d bc bs hdp hL4 h
set_option maxHeartbeats 4000000 in
set_option maxRecDepth 100000 in
theorem sX0_workersIn (v1 : Int32)  (x : ab_X) (K : Int32 → Prop) (d bc bs : Nat) (hdp : 0 ≤ d) (h : wX0_workersIn v1 x K) : EW MX0_workersIn 0 [(0, .ref 66), (1, .int v1)] [] (aS x) d bc bs (liP x K) := by
  unfold wX0_workersIn at h
  refine EW_iconst (pc2 := 1) (v := 0) rfl dX0_workersIn_0 (by decide) ?_
  refine EW_istore_n (pc2 := 2) rfl dX0_workersIn_1 (by decide) [1, 2, 0] [(0, .ref 66), (1, .int v1), (2, .int 0)] rfl ?_
  refine EW_iconst (pc2 := 3) (v := 0) rfl dX0_workersIn_2 (by decide) ?_
  refine EW_istore_n (pc2 := 4) rfl dX0_workersIn_3 (by decide) [1, 2, 3, 0] [(0, .ref 66), (1, .int v1), (2, .int 0), (3, .int 0)] rfl ?_
  exact sX0_workersIn_4 v1 0 0 x K d bc bs hdp h
