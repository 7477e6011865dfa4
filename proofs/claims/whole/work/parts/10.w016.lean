theorem gfRX3_123 : ab_L RX3 123 4 5 := ⟨by decide, by decide, ab_in 239 (by decide +kernel) (by decide +kernel)⟩
theorem gfRX3_120 : ab_L RX3 120 4 6 := ⟨by decide, by decide, ab_in 242 (by decide +kernel) (by decide +kernel)⟩
abbrev MX3_gain : ab_M := (yX3_gain, cX3_gain, 7, (some .int))
theorem dX3_gain_0 : decode cX3_gain 0 = .ok (.aload_n 1, 1) := by decide +kernel
theorem dX3_gain_1 : decode cX3_gain 1 = .ok (.iload_n 2, 1) := by decide +kernel
theorem dX3_gain_2 : decode cX3_gain 2 = .ok (.aload_n 1, 1) := by decide +kernel
theorem dX3_gain_3 : decode cX3_gain 3 = .ok (.getfield 60, 3) := by decide +kernel
theorem dX3_gain_6 : decode cX3_gain 6 = .ok (.imul, 1) := by decide +kernel
theorem dX3_gain_7 : decode cX3_gain 7 = .ok (.iload_n 3, 1) := by decide +kernel
theorem dX3_gain_8 : decode cX3_gain 8 = .ok (.iadd, 1) := by decide +kernel
theorem dX3_gain_9 : decode cX3_gain 9 = .ok (.invokevirtual 63, 3) := by decide +kernel
theorem dX3_gain_12 : decode cX3_gain 12 = .ok (.istore 4, 2) := by decide +kernel
theorem dX3_gain_14 : decode cX3_gain 14 = .ok (.aload_n 0, 1) := by decide +kernel
theorem dX3_gain_15 : decode cX3_gain 15 = .ok (.getfield 28, 3) := by decide +kernel
theorem dX3_gain_18 : decode cX3_gain 18 = .ok (.iload 4, 2) := by decide +kernel
theorem dX3_gain_20 : decode cX3_gain 20 = .ok (.baload, 1) := by decide +kernel
theorem dX3_gain_21 : decode cX3_gain 21 = .ok (.ifCond .eq 8, 3) := by decide +kernel
theorem dX3_gain_24 : decode cX3_gain 24 = .ok (.bipush 50, 2) := by decide +kernel
theorem dX3_gain_26 : decode cX3_gain 26 = .ok (.goto 5, 3) := by decide +kernel
theorem dX3_gain_29 : decode cX3_gain 29 = .ok (.bipush (-10), 2) := by decide +kernel
theorem dX3_gain_31 : decode cX3_gain 31 = .ok (.istore 5, 2) := by decide +kernel
theorem dX3_gain_33 : decode cX3_gain 33 = .ok (.aload_n 1, 1) := by decide +kernel
theorem dX3_gain_34 : decode cX3_gain 34 = .ok (.getfield 120, 3) := by decide +kernel
theorem dX3_gain_37 : decode cX3_gain 37 = .ok (.ifCond .eq 8, 3) := by decide +kernel
theorem dX3_gain_40 : decode cX3_gain 40 = .ok (.bipush 30, 2) := by decide +kernel
theorem dX3_gain_42 : decode cX3_gain 42 = .ok (.goto 5, 3) := by decide +kernel
theorem dX3_gain_45 : decode cX3_gain 45 = .ok (.bipush 10, 2) := by decide +kernel
theorem dX3_gain_47 : decode cX3_gain 47 = .ok (.istore 6, 2) := by decide +kernel
theorem dX3_gain_49 : decode cX3_gain 49 = .ok (.iload_n 3, 1) := by decide +kernel
theorem dX3_gain_50 : decode cX3_gain 50 = .ok (.ifCond .le 22, 3) := by decide +kernel
theorem dX3_gain_53 : decode cX3_gain 53 = .ok (.aload_n 0, 1) := by decide +kernel
theorem dX3_gain_54 : decode cX3_gain 54 = .ok (.getfield 28, 3) := by decide +kernel
theorem dX3_gain_57 : decode cX3_gain 57 = .ok (.iload 4, 2) := by decide +kernel
theorem dX3_gain_59 : decode cX3_gain 59 = .ok (.iconst 1, 1) := by decide +kernel
theorem dX3_gain_60 : decode cX3_gain 60 = .ok (.isub, 1) := by decide +kernel
theorem dX3_gain_61 : decode cX3_gain 61 = .ok (.baload, 1) := by decide +kernel
theorem dX3_gain_62 : decode cX3_gain 62 = .ok (.ifCond .eq 10, 3) := by decide +kernel
theorem dX3_gain_65 : decode cX3_gain 65 = .ok (.iload 5, 2) := by decide +kernel
theorem dX3_gain_67 : decode cX3_gain 67 = .ok (.iload 6, 2) := by decide +kernel
theorem dX3_gain_69 : decode cX3_gain 69 = .ok (.iadd, 1) := by decide +kernel
theorem dX3_gain_70 : decode cX3_gain 70 = .ok (.istore 5, 2) := by decide +kernel
theorem dX3_gain_72 : decode cX3_gain 72 = .ok (.iload_n 3, 1) := by decide +kernel
theorem dX3_gain_73 : decode cX3_gain 73 = .ok (.iconst 1, 1) := by decide +kernel
theorem dX3_gain_74 : decode cX3_gain 74 = .ok (.iadd, 1) := by decide +kernel
theorem dX3_gain_75 : decode cX3_gain 75 = .ok (.aload_n 1, 1) := by decide +kernel
theorem dX3_gain_76 : decode cX3_gain 76 = .ok (.getfield 60, 3) := by decide +kernel
theorem dX3_gain_79 : decode cX3_gain 79 = .ok (.if_icmp .ge 22, 3) := by decide +kernel
theorem dX3_gain_82 : decode cX3_gain 82 = .ok (.aload_n 0, 1) := by decide +kernel
theorem dX3_gain_83 : decode cX3_gain 83 = .ok (.getfield 28, 3) := by decide +kernel
theorem dX3_gain_86 : decode cX3_gain 86 = .ok (.iload 4, 2) := by decide +kernel
theorem dX3_gain_88 : decode cX3_gain 88 = .ok (.iconst 1, 1) := by decide +kernel
theorem dX3_gain_89 : decode cX3_gain 89 = .ok (.iadd, 1) := by decide +kernel
theorem dX3_gain_90 : decode cX3_gain 90 = .ok (.baload, 1) := by decide +kernel
theorem dX3_gain_91 : decode cX3_gain 91 = .ok (.ifCond .eq 10, 3) := by decide +kernel
theorem dX3_gain_94 : decode cX3_gain 94 = .ok (.iload 5, 2) := by decide +kernel
theorem dX3_gain_96 : decode cX3_gain 96 = .ok (.iload 6, 2) := by decide +kernel
theorem dX3_gain_98 : decode cX3_gain 98 = .ok (.iadd, 1) := by decide +kernel
theorem dX3_gain_99 : decode cX3_gain 99 = .ok (.istore 5, 2) := by decide +kernel
theorem dX3_gain_101 : decode cX3_gain 101 = .ok (.iload_n 2, 1) := by decide +kernel
theorem dX3_gain_102 : decode cX3_gain 102 = .ok (.ifCond .le 38, 3) := by decide +kernel
theorem dX3_gain_105 : decode cX3_gain 105 = .ok (.aload_n 0, 1) := by decide +kernel
theorem dX3_gain_106 : decode cX3_gain 106 = .ok (.getfield 28, 3) := by decide +kernel
theorem dX3_gain_109 : decode cX3_gain 109 = .ok (.iload 4, 2) := by decide +kernel
theorem dX3_gain_111 : decode cX3_gain 111 = .ok (.aload_n 1, 1) := by decide +kernel
theorem dX3_gain_112 : decode cX3_gain 112 = .ok (.getfield 60, 3) := by decide +kernel
theorem dX3_gain_115 : decode cX3_gain 115 = .ok (.isub, 1) := by decide +kernel
theorem dX3_gain_116 : decode cX3_gain 116 = .ok (.baload, 1) := by decide +kernel
theorem dX3_gain_117 : decode cX3_gain 117 = .ok (.ifCond .eq 23, 3) := by decide +kernel
theorem dX3_gain_120 : decode cX3_gain 120 = .ok (.iload 5, 2) := by decide +kernel
theorem dX3_gain_122 : decode cX3_gain 122 = .ok (.iload_n 3, 1) := by decide +kernel
theorem dX3_gain_123 : decode cX3_gain 123 = .ok (.aload_n 1, 1) := by decide +kernel
theorem dX3_gain_124 : decode cX3_gain 124 = .ok (.getfield 123, 3) := by decide +kernel
theorem dX3_gain_127 : decode cX3_gain 127 = .ok (.if_icmp .ne 8, 3) := by decide +kernel
theorem dX3_gain_130 : decode cX3_gain 130 = .ok (.bipush 60, 2) := by decide +kernel
theorem dX3_gain_132 : decode cX3_gain 132 = .ok (.goto 5, 3) := by decide +kernel
theorem dX3_gain_135 : decode cX3_gain 135 = .ok (.bipush 20, 2) := by decide +kernel
theorem dX3_gain_137 : decode cX3_gain 137 = .ok (.iadd, 1) := by decide +kernel
theorem dX3_gain_138 : decode cX3_gain 138 = .ok (.istore 5, 2) := by decide +kernel
theorem dX3_gain_140 : decode cX3_gain 140 = .ok (.iload_n 2, 1) := by decide +kernel
theorem dX3_gain_141 : decode cX3_gain 141 = .ok (.iconst 1, 1) := by decide +kernel
theorem dX3_gain_142 : decode cX3_gain 142 = .ok (.iadd, 1) := by decide +kernel
theorem dX3_gain_143 : decode cX3_gain 143 = .ok (.aload_n 1, 1) := by decide +kernel
theorem dX3_gain_144 : decode cX3_gain 144 = .ok (.getfield 56, 3) := by decide +kernel
theorem dX3_gain_147 : decode cX3_gain 147 = .ok (.if_icmp .ge 21, 3) := by decide +kernel
theorem dX3_gain_150 : decode cX3_gain 150 = .ok (.aload_n 0, 1) := by decide +kernel
theorem dX3_gain_151 : decode cX3_gain 151 = .ok (.getfield 28, 3) := by decide +kernel
theorem dX3_gain_154 : decode cX3_gain 154 = .ok (.iload 4, 2) := by decide +kernel
theorem dX3_gain_156 : decode cX3_gain 156 = .ok (.aload_n 1, 1) := by decide +kernel
theorem dX3_gain_157 : decode cX3_gain 157 = .ok (.getfield 60, 3) := by decide +kernel
theorem dX3_gain_160 : decode cX3_gain 160 = .ok (.iadd, 1) := by decide +kernel
theorem dX3_gain_161 : decode cX3_gain 161 = .ok (.baload, 1) := by decide +kernel
theorem dX3_gain_162 : decode cX3_gain 162 = .ok (.ifCond .eq 6, 3) := by decide +kernel
theorem dX3_gain_165 : decode cX3_gain 165 = .ok (.iinc 5 5, 3) := by decide +kernel
theorem dX3_gain_168 : decode cX3_gain 168 = .ok (.iload 5, 2) := by decide +kernel
theorem dX3_gain_170 : decode cX3_gain 170 = .ok (.ireturn, 1) := by decide +kernel
theorem okX3_gain : ab_okM MX3_gain 3 := ⟨by decide, ⟨by decide, by decide⟩, ab_in 1466 (by decide +kernel) (by decide +kernel), ab_in 90 (by decide +kernel) (by decide +kernel), by decide +kernel, by decide⟩
set_option maxHeartbeats 4000000 in
set_option maxRecDepth 100000 in
def wX3_gain_140 (v0 : Nat) (v1 : Nat) (v2 : Int32) (v4 : Int32) (v5 : Int32) (x : ab_X) (K : Int32 → Prop)  : Prop := (((x.1 v1 3) ≤ (v2 + 1) → K v5) ∧ (¬ (x.1 v1 3) ≤ (v2 + 1) → (vp_in (v4 + (x.1 v1 4)) 288 ∧ (((x.1 (v0 + 6) (Int32.toNatClampNeg (v4 + (x.1 v1 4)))) = 0 → K v5) ∧ (¬ (x.1 (v0 + 6) (Int32.toNatClampNeg (v4 + (x.1 v1 4)))) = 0 → K (v5 + 5))))))
set_option maxHeartbeats 4000000 in
set_option maxRecDepth 100000 in
theorem sX3_gain_140 (v0 : Nat) (v1 : Nat) (v2 : Int32) (v4 : Int32) (v5 : Int32) (hv0 : isF v0) (hv1 : isH v1) (x : ab_X) (K : Int32 → Prop)  (d bc bs : Nat) (hdp : 1 ≤ d)  (h : wX3_gain_140 v0 v1 v2 v4 v5 x K ) : EW MX3_gain 140 [(0, .ref v0), (1, .ref v1), (2, .int v2), (4, .int v4), (5, .int v5)] [] (aS x) d bc bs (liP x K) := by
  unfold wX3_gain_140 at h
  refine EW_iload_n (pc2 := 141) rfl dX3_gain_140 2 rfl ?_
  refine EW_iconst (pc2 := 142) (v := 1) rfl dX3_gain_141 (by decide) ?_
  refine EW_iadd (pc2 := 143) rfl dX3_gain_142 ?_
  refine EW_aload_n (pc2 := 144) rfl dX3_gain_143 1 rfl ?_
  refine AW_geti ⟨gfRX3_56, rfl⟩ (pc2 := 147) rfl dX3_gain_144 (isH.o hv1) ?_
  refine EW_icmp_ge (tgt := 168) (pc2 := 150) rfl dX3_gain_147 (by decide) (fun q => ?_) (fun q => ?_)
  · replace h := h.1 q
    refine EW_iload (pc2 := 170) rfl dX3_gain_168 4 rfl ?_
    exact AW_iret rfl dX3_gain_170 ⟨_, rfl, rfl, h⟩
  · replace h := h.2 q
    refine EW_aload_n (pc2 := 151) rfl dX3_gain_150 0 rfl ?_
    refine AW_getr (r := (v0 + 6)) ⟨gfRX3_28, rfl⟩ (pc2 := 154) rfl dX3_gain_151 (isF.o hv0) (isF.r5 hv0) ?_
    refine EW_iload (pc2 := 156) rfl dX3_gain_154 3 rfl ?_
    refine EW_aload_n (pc2 := 157) rfl dX3_gain_156 1 rfl ?_
    refine AW_geti ⟨gfRX3_60, rfl⟩ (pc2 := 160) rfl dX3_gain_157 (isH.o hv1) ?_
    refine EW_iadd (pc2 := 161) rfl dX3_gain_160 ?_
    obtain ⟨b6, h⟩ := h
    refine AW_zald (pc2 := 162) rfl dX3_gain_161 (isF.a5 hv0) b6 ?_
    refine EW_if_eq (tgt := 168) (pc2 := 165) rfl dX3_gain_162 (by decide) (fun q => ?_) (fun q => ?_)
    · replace h := h.1 q
      refine EW_iload (pc2 := 170) rfl dX3_gain_168 4 rfl ?_
      exact AW_iret rfl dX3_gain_170 ⟨_, rfl, rfl, h⟩
    · replace h := h.2 q
      refine EW_iinc (v5 + 5) (pc2 := 168) rfl dX3_gain_165 4 rfl rfl (by decide) [1, 2, 3, 4, 0] [(0, .ref v0), (1, .ref v1), (2, .int v2), (4, .int v4), (5, .int (v5 + 5))] rfl ?_
      refine EW_iload (pc2 := 170) rfl dX3_gain_168 4 rfl ?_
      exact AW_iret rfl dX3_gain_170 ⟨_, rfl, rfl, h⟩
set_option maxHeartbeats 4000000 in
set_option maxRecDepth 100000 in
def wX3_gain_137 (v0 : Nat) (v1 : Nat) (v2 : Int32) (v4 : Int32) (s0 : Int32) (s1 : Int32) (x : ab_X) (K : Int32 → Prop)  : Prop := wX3_gain_140 v0 v1 v2 v4 (s0 + s1) x K
set_option maxHeartbeats 4000000 in
set_option maxRecDepth 100000 in
theorem sX3_gain_137 (v0 : Nat) (v1 : Nat) (v2 : Int32) (v4 : Int32) (s0 : Int32) (s1 : Int32) (hv0 : isF v0) (hv1 : isH v1) (x : ab_X) (K : Int32 → Prop)  (d bc bs : Nat) (hdp : 1 ≤ d)  (h : wX3_gain_137 v0 v1 v2 v4 s0 s1 x K ) : EW MX3_gain 137 [(0, .ref v0), (1, .ref v1), (2, .int v2), (4, .int v4)] [.int s1, .int s0] (aS x) d bc bs (liP x K) := by
  unfold wX3_gain_137 at h
  refine EW_iadd (pc2 := 138) rfl dX3_gain_137 ?_
  refine EW_istore (pc2 := 140) rfl dX3_gain_138 (by decide) [1, 2, 3, 4, 0] [(0, .ref v0), (1, .ref v1), (2, .int v2), (4, .int v4), (5, .int (s0 + s1))] rfl ?_
  exact sX3_gain_140 v0 v1 v2 v4 (s0 + s1) hv0 hv1 x K d bc bs hdp h
set_option maxHeartbeats 4000000 in
set_option maxRecDepth 100000 in
def wX3_gain_101 (v0 : Nat) (v1 : Nat) (v2 : Int32) (v3 : Int32) (v4 : Int32) (v5 : Int32) (x : ab_X) (K : Int32 → Prop)  : Prop := ((v2 ≤ 0 → wX3_gain_140 v0 v1 v2 v4 v5 x K) ∧ (¬ v2 ≤ 0 → (vp_in (v4 - (x.1 v1 4)) 288 ∧ (((x.1 (v0 + 6) (Int32.toNatClampNeg (v4 - (x.1 v1 4)))) = 0 → wX3_gain_140 v0 v1 v2 v4 v5 x K) ∧ (¬ (x.1 (v0 + 6) (Int32.toNatClampNeg (v4 - (x.1 v1 4)))) = 0 → ((¬ v3 = (x.1 v1 5) → wX3_gain_137 v0 v1 v2 v4 v5 20 x K) ∧ (v3 = (x.1 v1 5) → wX3_gain_137 v0 v1 v2 v4 v5 60 x K)))))))
set_option maxHeartbeats 4000000 in
set_option maxRecDepth 100000 in
theorem sX3_gain_101 (v0 : Nat) (v1 : Nat) (v2 : Int32) (v3 : Int32) (v4 : Int32) (v5 : Int32) (hv0 : isF v0) (hv1 : isH v1) (x : ab_X) (K : Int32 → Prop)  (d bc bs : Nat) (hdp : 1 ≤ d)  (h : wX3_gain_101 v0 v1 v2 v3 v4 v5 x K ) : EW MX3_gain 101 [(0, .ref v0), (1, .ref v1), (2, .int v2), (3, .int v3), (4, .int v4), (5, .int v5)] [] (aS x) d bc bs (liP x K) := by
  unfold wX3_gain_101 at h
  refine EW_iload_n (pc2 := 102) rfl dX3_gain_101 2 rfl ?_
  refine EW_if_le (tgt := 140) (pc2 := 105) rfl dX3_gain_102 (by decide) (fun q => ?_) (fun q => ?_)
  · replace h := h.1 q
    refine EW_ls [0, 1, 2, 4, 5] rfl ?_
    exact sX3_gain_140 v0 v1 v2 v4 v5 hv0 hv1 x K d bc bs hdp h
  · replace h := h.2 q
    refine EW_aload_n (pc2 := 106) rfl dX3_gain_105 0 rfl ?_
    refine AW_getr (r := (v0 + 6)) ⟨gfRX3_28, rfl⟩ (pc2 := 109) rfl dX3_gain_106 (isF.o hv0) (isF.r5 hv0) ?_
    refine EW_iload (pc2 := 111) rfl dX3_gain_109 4 rfl ?_
    refine EW_aload_n (pc2 := 112) rfl dX3_gain_111 1 rfl ?_
    refine AW_geti ⟨gfRX3_60, rfl⟩ (pc2 := 115) rfl dX3_gain_112 (isH.o hv1) ?_
    refine EW_isub (pc2 := 116) rfl dX3_gain_115 ?_
    obtain ⟨b5, h⟩ := h
    refine AW_zald (pc2 := 117) rfl dX3_gain_116 (isF.a5 hv0) b5 ?_
    refine EW_if_eq (tgt := 140) (pc2 := 120) rfl dX3_gain_117 (by decide) (fun q => ?_) (fun q => ?_)
    · replace h := h.1 q
      refine EW_ls [0, 1, 2, 4, 5] rfl ?_
      exact sX3_gain_140 v0 v1 v2 v4 v5 hv0 hv1 x K d bc bs hdp h
    · replace h := h.2 q
      refine EW_iload (pc2 := 122) rfl dX3_gain_120 5 rfl ?_
      refine EW_iload_n (pc2 := 123) rfl dX3_gain_122 3 rfl ?_
      refine EW_aload_n (pc2 := 124) rfl dX3_gain_123 1 rfl ?_
      refine AW_geti ⟨gfRX3_123, rfl⟩ (pc2 := 127) rfl dX3_gain_124 (isH.o hv1) ?_
      refine EW_icmp_ne (tgt := 135) (pc2 := 130) rfl dX3_gain_127 (by decide) (fun q => ?_) (fun q => ?_)
      · replace h := h.1 q
        refine EW_bipush (pc2 := 137) (v := 20) rfl dX3_gain_135 (by decide) ?_
        refine EW_ls [0, 1, 2, 4] rfl ?_
        exact sX3_gain_137 v0 v1 v2 v4 v5 20 hv0 hv1 x K d bc bs hdp h
      · replace h := h.2 q
        refine EW_bipush (pc2 := 132) (v := 60) rfl dX3_gain_130 (by decide) ?_
        refine EW_goto (tgt := 137) dX3_gain_132 (by decide) ?_
        refine EW_ls [0, 1, 2, 4] rfl ?_
        exact sX3_gain_137 v0 v1 v2 v4 v5 60 hv0 hv1 x K d bc bs hdp h
set_option maxHeartbeats 4000000 in
set_option maxRecDepth 100000 in
def wX3_gain_72 (v0 : Nat) (v1 : Nat) (v2 : Int32) (v3 : Int32) (v4 : Int32) (v5 : Int32) (v6 : Int32) (x : ab_X) (K : Int32 → Prop)  : Prop := (((x.1 v1 4) ≤ (v3 + 1) → wX3_gain_101 v0 v1 v2 v3 v4 v5 x K) ∧ (¬ (x.1 v1 4) ≤ (v3 + 1) → (vp_in (v4 + 1) 288 ∧ (((x.1 (v0 + 6) (Int32.toNatClampNeg (v4 + 1))) = 0 → wX3_gain_101 v0 v1 v2 v3 v4 v5 x K) ∧ (¬ (x.1 (v0 + 6) (Int32.toNatClampNeg (v4 + 1))) = 0 → wX3_gain_101 v0 v1 v2 v3 v4 (v5 + v6) x K)))))
set_option maxHeartbeats 4000000 in
set_option maxRecDepth 100000 in
theorem sX3_gain_72 (v0 : Nat) (v1 : Nat) (v2 : Int32) (v3 : Int32) (v4 : Int32) (v5 : Int32) (v6 : Int32) (hv0 : isF v0) (hv1 : isH v1) (x : ab_X) (K : Int32 → Prop)  (d bc bs : Nat) (hdp : 1 ≤ d)  (h : wX3_gain_72 v0 v1 v2 v3 v4 v5 v6 x K ) : EW MX3_gain 72 [(0, .ref v0), (1, .ref v1), (2, .int v2), (3, .int v3), (4, .int v4), (5, .int v5), (6, .int v6)] [] (aS x) d bc bs (liP x K) := by
  unfold wX3_gain_72 at h
  refine EW_iload_n (pc2 := 73) rfl dX3_gain_72 3 rfl ?_
  refine EW_iconst (pc2 := 74) (v := 1) rfl dX3_gain_73 (by decide) ?_
  refine EW_iadd (pc2 := 75) rfl dX3_gain_74 ?_
  refine EW_aload_n (pc2 := 76) rfl dX3_gain_75 1 rfl ?_
  refine AW_geti ⟨gfRX3_60, rfl⟩ (pc2 := 79) rfl dX3_gain_76 (isH.o hv1) ?_
  refine EW_icmp_ge (tgt := 101) (pc2 := 82) rfl dX3_gain_79 (by decide) (fun q => ?_) (fun q => ?_)
  · replace h := h.1 q
    refine EW_ls [0, 1, 2, 3, 4, 5] rfl ?_
    exact sX3_gain_101 v0 v1 v2 v3 v4 v5 hv0 hv1 x K d bc bs hdp h
  · replace h := h.2 q
    refine EW_aload_n (pc2 := 83) rfl dX3_gain_82 0 rfl ?_
    refine AW_getr (r := (v0 + 6)) ⟨gfRX3_28, rfl⟩ (pc2 := 86) rfl dX3_gain_83 (isF.o hv0) (isF.r5 hv0) ?_
    refine EW_iload (pc2 := 88) rfl dX3_gain_86 4 rfl ?_
    refine EW_iconst (pc2 := 89) (v := 1) rfl dX3_gain_88 (by decide) ?_
    refine EW_iadd (pc2 := 90) rfl dX3_gain_89 ?_
    obtain ⟨b4, h⟩ := h
    refine AW_zald (pc2 := 91) rfl dX3_gain_90 (isF.a5 hv0) b4 ?_
    refine EW_if_eq (tgt := 101) (pc2 := 94) rfl dX3_gain_91 (by decide) (fun q => ?_) (fun q => ?_)
    · replace h := h.1 q
      refine EW_ls [0, 1, 2, 3, 4, 5] rfl ?_
      exact sX3_gain_101 v0 v1 v2 v3 v4 v5 hv0 hv1 x K d bc bs hdp h
    · replace h := h.2 q
      refine EW_iload (pc2 := 96) rfl dX3_gain_94 5 rfl ?_
      refine EW_iload (pc2 := 98) rfl dX3_gain_96 6 rfl ?_
      refine EW_iadd (pc2 := 99) rfl dX3_gain_98 ?_
      refine EW_istore (pc2 := 101) rfl dX3_gain_99 (by decide) [1, 2, 3, 4, 5, 0, 6] [(0, .ref v0), (1, .ref v1), (2, .int v2), (3, .int v3), (4, .int v4), (5, .int (v5 + v6)), (6, .int v6)] rfl ?_
      refine EW_ls [0, 1, 2, 3, 4, 5] rfl ?_
      exact sX3_gain_101 v0 v1 v2 v3 v4 (v5 + v6) hv0 hv1 x K d bc bs hdp h
set_option maxHeartbeats 4000000 in
set_option maxRecDepth 100000 in
def wX3_gain_47 (v0 : Nat) (v1 : Nat) (v2 : Int32) (v3 : Int32) (v4 : Int32) (v5 : Int32) (s0 : Int32) (x : ab_X) (K : Int32 → Prop)  : Prop := ((v3 ≤ 0 → wX3_gain_72 v0 v1 v2 v3 v4 v5 s0 x K) ∧ (¬ v3 ≤ 0 → (vp_in (v4 - 1) 288 ∧ (((x.1 (v0 + 6) (Int32.toNatClampNeg (v4 - 1))) = 0 → wX3_gain_72 v0 v1 v2 v3 v4 v5 s0 x K) ∧ (¬ (x.1 (v0 + 6) (Int32.toNatClampNeg (v4 - 1))) = 0 → wX3_gain_72 v0 v1 v2 v3 v4 (v5 + s0) s0 x K)))))
set_option maxHeartbeats 4000000 in
set_option maxRecDepth 100000 in
theorem sX3_gain_47 (v0 : Nat) (v1 : Nat) (v2 : Int32) (v3 : Int32) (v4 : Int32) (v5 : Int32) (s0 : Int32) (hv0 : isF v0) (hv1 : isH v1) (x : ab_X) (K : Int32 → Prop)  (d bc bs : Nat) (hdp : 1 ≤ d)  (h : wX3_gain_47 v0 v1 v2 v3 v4 v5 s0 x K ) : EW MX3_gain 47 [(0, .ref v0), (1, .ref v1), (2, .int v2), (3, .int v3), (4, .int v4), (5, .int v5)] [.int s0] (aS x) d bc bs (liP x K) := by
  unfold wX3_gain_47 at h
  refine EW_istore (pc2 := 49) rfl dX3_gain_47 (by decide) [1, 2, 3, 4, 5, 6, 0] [(0, .ref v0), (1, .ref v1), (2, .int v2), (3, .int v3), (4, .int v4), (5, .int v5), (6, .int s0)] rfl ?_
  refine EW_iload_n (pc2 := 50) rfl dX3_gain_49 3 rfl ?_
  refine EW_if_le (tgt := 72) (pc2 := 53) rfl dX3_gain_50 (by decide) (fun q => ?_) (fun q => ?_)
  · replace h := h.1 q
    exact sX3_gain_72 v0 v1 v2 v3 v4 v5 s0 hv0 hv1 x K d bc bs hdp h
  · replace h := h.2 q
    refine EW_aload_n (pc2 := 54) rfl dX3_gain_53 0 rfl ?_
    refine AW_getr (r := (v0 + 6)) ⟨gfRX3_28, rfl⟩ (pc2 := 57) rfl dX3_gain_54 (isF.o hv0) (isF.r5 hv0) ?_
    refine EW_iload (pc2 := 59) rfl dX3_gain_57 4 rfl ?_
    refine EW_iconst (pc2 := 60) (v := 1) rfl dX3_gain_59 (by decide) ?_
    refine EW_isub (pc2 := 61) rfl dX3_gain_60 ?_
    obtain ⟨b3, h⟩ := h
    refine AW_zald (pc2 := 62) rfl dX3_gain_61 (isF.a5 hv0) b3 ?_
    refine EW_if_eq (tgt := 72) (pc2 := 65) rfl dX3_gain_62 (by decide) (fun q => ?_) (fun q => ?_)
    · replace h := h.1 q
      exact sX3_gain_72 v0 v1 v2 v3 v4 v5 s0 hv0 hv1 x K d bc bs hdp h
    · replace h := h.2 q
      refine EW_iload (pc2 := 67) rfl dX3_gain_65 5 rfl ?_
      refine EW_iload (pc2 := 69) rfl dX3_gain_67 6 rfl ?_
      refine EW_iadd (pc2 := 70) rfl dX3_gain_69 ?_
      refine EW_istore (pc2 := 72) rfl dX3_gain_70 (by decide) [1, 2, 3, 4, 5, 0, 6] [(0, .ref v0), (1, .ref v1), (2, .int v2), (3, .int v3), (4, .int v4), (5, .int (v5 + s0)), (6, .int s0)] rfl ?_
      exact sX3_gain_72 v0 v1 v2 v3 v4 (v5 + s0) s0 hv0 hv1 x K d bc bs hdp h
set_option maxHeartbeats 4000000 in
set_option maxRecDepth 100000 in
def wX3_gain_31 (v0 : Nat) (v1 : Nat) (v2 : Int32) (v3 : Int32) (v4 : Int32) (s0 : Int32) (x : ab_X) (K : Int32 → Prop)  : Prop := (((x.1 v1 6) = 0 → wX3_gain_47 v0 v1 v2 v3 v4 s0 10 x K) ∧ (¬ (x.1 v1 6) = 0 → wX3_gain_47 v0 v1 v2 v3 v4 s0 30 x K))
set_option maxHeartbeats 4000000 in
set_option maxRecDepth 100000 in
theorem sX3_gain_31 (v0 : Nat) (v1 : Nat) (v2 : Int32) (v3 : Int32) (v4 : Int32) (s0 : Int32) (hv0 : isF v0) (hv1 : isH v1) (x : ab_X) (K : Int32 → Prop)  (d bc bs : Nat) (hdp : 1 ≤ d)  (h : wX3_gain_31 v0 v1 v2 v3 v4 s0 x K ) : EW MX3_gain 31 [(0, .ref v0), (1, .ref v1), (2, .int v2), (3, .int v3), (4, .int v4)] [.int s0] (aS x) d bc bs (liP x K) := by
  unfold wX3_gain_31 at h
  refine EW_istore (pc2 := 33) rfl dX3_gain_31 (by decide) [1, 2, 3, 4, 5, 0] [(0, .ref v0), (1, .ref v1), (2, .int v2), (3, .int v3), (4, .int v4), (5, .int s0)] rfl ?_
  refine EW_aload_n (pc2 := 34) rfl dX3_gain_33 1 rfl ?_
  refine AW_geti ⟨gfRX3_120, rfl⟩ (pc2 := 37) rfl dX3_gain_34 (isH.o hv1) ?_
  refine EW_if_eq (tgt := 45) (pc2 := 40) rfl dX3_gain_37 (by decide) (fun q => ?_) (fun q => ?_)
  · replace h := h.1 q
    refine EW_bipush (pc2 := 47) (v := 10) rfl dX3_gain_45 (by decide) ?_
    exact sX3_gain_47 v0 v1 v2 v3 v4 s0 10 hv0 hv1 x K d bc bs hdp h
  · replace h := h.2 q
    refine EW_bipush (pc2 := 42) (v := 30) rfl dX3_gain_40 (by decide) ?_
    refine EW_goto (tgt := 47) dX3_gain_42 (by decide) ?_
    exact sX3_gain_47 v0 v1 v2 v3 v4 s0 30 hv0 hv1 x K d bc bs hdp h
set_option maxHeartbeats 4000000 in
set_option maxRecDepth 100000 in
def wX3_gain (v0 : Nat) (v1 : Nat) (v2 : Int32) (v3 : Int32) (x : ab_X) (K : Int32 → Prop) : Prop := wX4_place v1 ((v2 * (x.1 v1 4)) + v3) x (fun r1 => (vp_in r1 288 ∧ (((x.1 (v0 + 6) (Int32.toNatClampNeg r1)) = 0 → wX3_gain_31 v0 v1 v2 v3 r1 (-10) x K) ∧ (¬ (x.1 (v0 + 6) (Int32.toNatClampNeg r1)) = 0 → wX3_gain_31 v0 v1 v2 v3 r1 50 x K))))
set_option maxHeartbeats 4000000 in
set_option maxRecDepth 100000 in
theorem sX3_gain (v0 : Nat) (v1 : Nat) (v2 : Int32) (v3 : Int32) (hv0 : isF v0) (hv1 : isH v1) (x : ab_X) (K : Int32 → Prop) (d bc bs : Nat) (hdp : 1 ≤ d) (h : wX3_gain v0 v1 v2 v3 x K) : EW MX3_gain 0 [(0, .ref v0), (1, .ref v1), (2, .int v2), (3, .int v3)] [] (aS x) d bc bs (liP x K) := by
  unfold wX3_gain at h
  refine EW_aload_n (pc2 := 1) rfl dX3_gain_0 1 rfl ?_
  refine EW_iload_n (pc2 := 2) rfl dX3_gain_1 2 rfl ?_
  refine EW_aload_n (pc2 := 3) rfl dX3_gain_2 1 rfl ?_
  refine AW_geti ⟨gfRX3_60, rfl⟩ (pc2 := 6) rfl dX3_gain_3 (isH.o hv1) ?_
  refine EW_imul (pc2 := 7) rfl dX3_gain_6 ?_
  refine EW_iload_n (pc2 := 8) rfl dX3_gain_7 3 rfl ?_
  refine EW_iadd (pc2 := 9) rfl dX3_gain_8 ?_
  refine AW_invV (M' := MX4_place) [.int ((v2 * (x.1 v1 4)) + v3)] (rest := []) mlRX3_63 okX4_place (pc2 := 12) rfl dX3_gain_9 rfl rfl (Nat.le_of_ble_eq_true rfl) (Nat.le_of_ble_eq_true rfl) (d' := 0) (by omega) (isH.o hv1) ⟨by decide, rfl⟩ (EW_mono (fun _ _ hr => ?_) (sX4_place v1 ((v2 * (x.1 v1 4)) + v3) hv1 x _ _ 0 0 (Nat.le_refl _) h))
  obtain ⟨r1, rfl, rfl, h⟩ := hr
  refine EW_istore (pc2 := 14) rfl dX3_gain_12 (by decide) [1, 2, 3, 4, 0] [(0, .ref v0), (1, .ref v1), (2, .int v2), (3, .int v3), (4, .int r1)] rfl ?_
  refine EW_aload_n (pc2 := 15) rfl dX3_gain_14 0 rfl ?_
  refine AW_getr (r := (v0 + 6)) ⟨gfRX3_28, rfl⟩ (pc2 := 18) rfl dX3_gain_15 (isF.o hv0) (isF.r5 hv0) ?_
  refine EW_iload (pc2 := 20) rfl dX3_gain_18 4 rfl ?_
  obtain ⟨b2, h⟩ := h
  refine AW_zald (pc2 := 21) rfl dX3_gain_20 (isF.a5 hv0) b2 ?_
  refine EW_if_eq (tgt := 29) (pc2 := 24) rfl dX3_gain_21 (by decide) (fun q => ?_) (fun q => ?_)
  · replace h := h.1 q
    refine EW_bipush (pc2 := 31) (v := (-10)) rfl dX3_gain_29 (by decide) ?_
    exact sX3_gain_31 v0 v1 v2 v3 r1 (-10) hv0 hv1 x K d bc bs hdp h
  · replace h := h.2 q
    refine EW_bipush (pc2 := 26) (v := 50) rfl dX3_gain_24 (by decide) ?_
    refine EW_goto (tgt := 31) dX3_gain_26 (by decide) ?_
    exact sX3_gain_31 v0 v1 v2 v3 r1 50 hv0 hv1 x K d bc bs hdp h
theorem mlRX3_126 : Cond.methodLinkNest RX3 126 yX11_below "CityBrigade" ∈ tables_1.filter ab_isN ∧ Cond.static yX11_below ∈ ab_G := ⟨List.mem_filter.mpr ⟨List.mem_of_getElem? (i := 1377) (by decide +kernel), rfl⟩, ab_in 794 (by decide +kernel) (by decide +kernel)⟩
theorem gfRX3_130 : ab_L RX3 130 4 7 := ⟨by decide, by decide, ab_in 245 (by decide +kernel) (by decide +kernel)⟩
abbrev MX3_glow : ab_M := (yX3_glow, cX3_glow, 6, (some .int))
theorem dX3_glow_0 : decode cX3_glow 0 = .ok (.iload_n 2, 1) := by decide +kernel
theorem dX3_glow_1 : decode cX3_glow 1 = .ok (.aload_n 3, 1) := by decide +kernel
theorem dX3_glow_2 : decode cX3_glow 2 = .ok (.arraylength, 1) := by decide +kernel
theorem dX3_glow_3 : decode cX3_glow 3 = .ok (.invokestatic 126, 3) := by decide +kernel
theorem dX3_glow_6 : decode cX3_glow 6 = .ok (.ifCond .ne 5, 3) := by decide +kernel
theorem dX3_glow_9 : decode cX3_glow 9 = .ok (.iconst 0, 1) := by decide +kernel
theorem dX3_glow_10 : decode cX3_glow 10 = .ok (.ireturn, 1) := by decide +kernel
theorem dX3_glow_11 : decode cX3_glow 11 = .ok (.aload_n 3, 1) := by decide +kernel
theorem dX3_glow_12 : decode cX3_glow 12 = .ok (.iload_n 2, 1) := by decide +kernel
theorem dX3_glow_13 : decode cX3_glow 13 = .ok (.aaload, 1) := by decide +kernel
theorem dX3_glow_14 : decode cX3_glow 14 = .ok (.astore 5, 2) := by decide +kernel
theorem dX3_glow_16 : decode cX3_glow 16 = .ok (.iload 4, 2) := by decide +kernel
theorem dX3_glow_18 : decode cX3_glow 18 = .ok (.aload 5, 2) := by decide +kernel
theorem dX3_glow_20 : decode cX3_glow 20 = .ok (.getfield 56, 3) := by decide +kernel
theorem dX3_glow_23 : decode cX3_glow 23 = .ok (.if_icmp .lt 7, 3) := by decide +kernel
theorem dX3_glow_26 : decode cX3_glow 26 = .ok (.iconst 0, 1) := by decide +kernel
theorem dX3_glow_27 : decode cX3_glow 27 = .ok (.goto 31, 3) := by decide +kernel
theorem dX3_glow_30 : decode cX3_glow 30 = .ok (.aload_n 0, 1) := by decide +kernel
theorem dX3_glow_31 : decode cX3_glow 31 = .ok (.getfield 31, 3) := by decide +kernel
theorem dX3_glow_34 : decode cX3_glow 34 = .ok (.aload 5, 2) := by decide +kernel
theorem dX3_glow_36 : decode cX3_glow 36 = .ok (.iload 4, 2) := by decide +kernel
theorem dX3_glow_38 : decode cX3_glow 38 = .ok (.invokevirtual 50, 3) := by decide +kernel
theorem dX3_glow_41 : decode cX3_glow 41 = .ok (.iaload, 1) := by decide +kernel
theorem dX3_glow_42 : decode cX3_glow 42 = .ok (.bipush 24, 2) := by decide +kernel
theorem dX3_glow_44 : decode cX3_glow 44 = .ok (.iconst 1, 1) := by decide +kernel
theorem dX3_glow_45 : decode cX3_glow 45 = .ok (.aload_n 1, 1) := by decide +kernel
theorem dX3_glow_46 : decode cX3_glow 46 = .ok (.getfield 130, 3) := by decide +kernel
theorem dX3_glow_49 : decode cX3_glow 49 = .ok (.iadd, 1) := by decide +kernel
theorem dX3_glow_50 : decode cX3_glow 50 = .ok (.aload 5, 2) := by decide +kernel
theorem dX3_glow_52 : decode cX3_glow 52 = .ok (.getfield 130, 3) := by decide +kernel
theorem dX3_glow_55 : decode cX3_glow 55 = .ok (.iadd, 1) := by decide +kernel
theorem dX3_glow_56 : decode cX3_glow 56 = .ok (.idiv, 1) := by decide +kernel
theorem dX3_glow_57 : decode cX3_glow 57 = .ok (.imul, 1) := by decide +kernel
theorem dX3_glow_58 : decode cX3_glow 58 = .ok (.ireturn, 1) := by decide +kernel
theorem okX3_glow : ab_okM MX3_glow 4 := ⟨by decide, ⟨by decide, by decide⟩, ab_in 1461 (by decide +kernel) (by decide +kernel), ab_in 90 (by decide +kernel) (by decide +kernel), by decide +kernel, by decide⟩
set_option maxHeartbeats 4000000 in
set_option maxRecDepth 100000 in
def wX3_glow (v0 : Nat) (v1 : Nat) (v2 : Int32) (v4 : Int32) (x : ab_X) (K : Int32 → Prop) : Prop := wX11_below v2 12 x (fun r1 => ((¬ r1 = 0 → (vp_in v2 12 ∧ ((v4 < (x.1 (30 + 3 * Int32.toNatClampNeg v2) 3) → wX4_storey (30 + 3 * Int32.toNatClampNeg v2) v4 x (fun r3 => (vp_in r3 72 ∧ ¬ ((1 + (x.1 v1 7)) + (x.1 (30 + 3 * Int32.toNatClampNeg v2) 7)) = 0 ∧ K ((x.1 (v0 + 7) (Int32.toNatClampNeg r3)) * (24 / ((1 + (x.1 v1 7)) + (x.1 (30 + 3 * Int32.toNatClampNeg v2) 7))))))) ∧ (¬ v4 < (x.1 (30 + 3 * Int32.toNatClampNeg v2) 3) → K 0)))) ∧ (r1 = 0 → K 0)))
set_option maxHeartbeats 4000000 in
set_option maxRecDepth 100000 in
theorem sX3_glow (v0 : Nat) (v1 : Nat) (v2 : Int32) (v4 : Int32) (hv0 : isF v0) (hv1 : isH v1) (x : ab_X) (K : Int32 → Prop) (d bc bs : Nat) (hdp : 1 ≤ d) (h : wX3_glow v0 v1 v2 v4 x K) : EW MX3_glow 0 [(0, .ref v0), (1, .ref v1), (2, .int v2), (3, .ref 10), (4, .int v4)] [] (aS x) d bc bs (liP x K) := by
  unfold wX3_glow at h
  refine EW_iload_n (pc2 := 1) rfl dX3_glow_0 2 rfl ?_
  refine EW_aload_n (pc2 := 2) rfl dX3_glow_1 3 rfl ?_
  refine AW_alen (t := 5) (by decide) (pc2 := 3) rfl dX3_glow_2 q10 (v := 12) rfl ?_
  refine AW_invSN (M' := MX11_below) [.int v2, .int 12] (rest := []) mlRX3_126 okX11_below (pc2 := 6) rfl dX3_glow_3 rfl rfl (Nat.le_of_ble_eq_true rfl) (Nat.le_of_ble_eq_true rfl) (d' := 0) (by omega) (EW_mono (fun _ _ hr => ?_) (sX11_below v2 12  x _ _ 0 0 (Nat.le_refl _) h))
  obtain ⟨r1, rfl, rfl, h⟩ := hr
  refine EW_if_ne (tgt := 11) (pc2 := 9) rfl dX3_glow_6 (by decide) (fun q => ?_) (fun q => ?_)
  · replace h := h.1 q
    refine EW_aload_n (pc2 := 12) rfl dX3_glow_11 3 rfl ?_
    refine EW_iload_n (pc2 := 13) rfl dX3_glow_12 2 rfl ?_
    obtain ⟨b2, h⟩ := h
    refine AW_aald5 (pc2 := 14) rfl dX3_glow_13 b2 ?_
    refine EW_astore (pc2 := 16) rfl dX3_glow_14 (by decide) [1, 2, 3, 4, 5, 0] [(0, .ref v0), (1, .ref v1), (2, .int v2), (3, .ref 10), (4, .int v4), (5, .ref (30 + 3 * Int32.toNatClampNeg v2))] rfl ?_
    refine EW_iload (pc2 := 18) rfl dX3_glow_16 4 rfl ?_
    refine EW_aload (pc2 := 20) rfl dX3_glow_18 5 rfl ?_
    refine AW_geti ⟨gfRX3_56, rfl⟩ (pc2 := 23) rfl dX3_glow_20 (isH.o (isH_of b2)) ?_
    refine EW_icmp_lt (tgt := 30) (pc2 := 26) rfl dX3_glow_23 (by decide) (fun q => ?_) (fun q => ?_)
    · replace h := h.1 q
      refine EW_aload_n (pc2 := 31) rfl dX3_glow_30 0 rfl ?_
      refine AW_getr (r := (v0 + 7)) ⟨gfRX3_31, rfl⟩ (pc2 := 34) rfl dX3_glow_31 (isF.o hv0) (isF.r6 hv0) ?_
      refine EW_aload (pc2 := 36) rfl dX3_glow_34 5 rfl ?_
      refine EW_iload (pc2 := 38) rfl dX3_glow_36 4 rfl ?_
      refine AW_invV (M' := MX4_storey) [.int v4] (rest := [.ref (v0 + 7)]) mlRX3_50 okX4_storey (pc2 := 41) rfl dX3_glow_38 rfl rfl (Nat.le_of_ble_eq_true rfl) (Nat.le_of_ble_eq_true rfl) (d' := 0) (by omega) (isH.o (isH_of b2)) ⟨by decide, rfl⟩ (EW_mono (fun _ _ hr => ?_) (sX4_storey (30 + 3 * Int32.toNatClampNeg v2) v4 (isH_of b2) x _ _ 0 0 (Nat.le_refl _) h))
      obtain ⟨r3, rfl, rfl, h⟩ := hr
      obtain ⟨b4, h⟩ := h
      refine AW_iald (pc2 := 42) rfl dX3_glow_41 (isF.a6 hv0) b4 ?_
      refine EW_bipush (pc2 := 44) (v := 24) rfl dX3_glow_42 (by decide) ?_
      refine EW_iconst (pc2 := 45) (v := 1) rfl dX3_glow_44 (by decide) ?_
      refine EW_aload_n (pc2 := 46) rfl dX3_glow_45 1 rfl ?_
      refine AW_geti ⟨gfRX3_130, rfl⟩ (pc2 := 49) rfl dX3_glow_46 (isH.o hv1) ?_
      refine EW_iadd (pc2 := 50) rfl dX3_glow_49 ?_
      refine EW_aload (pc2 := 52) rfl dX3_glow_50 5 rfl ?_
      refine AW_geti ⟨gfRX3_130, rfl⟩ (pc2 := 55) rfl dX3_glow_52 (isH.o (isH_of b2)) ?_
      refine EW_iadd (pc2 := 56) rfl dX3_glow_55 ?_
      obtain ⟨hz, h⟩ := h
      refine EW_idiv (pc2 := 57) rfl dX3_glow_56 hz ?_
      refine EW_imul (pc2 := 58) rfl dX3_glow_57 ?_
      exact AW_iret rfl dX3_glow_58 ⟨_, rfl, rfl, h⟩
    · replace h := h.2 q
      refine EW_iconst (pc2 := 27) (v := 0) rfl dX3_glow_26 (by decide) ?_
      refine EW_goto (tgt := 58) dX3_glow_27 (by decide) ?_
      exact AW_iret rfl dX3_glow_58 ⟨_, rfl, rfl, h⟩
  · replace h := h.2 q
    refine EW_iconst (pc2 := 10) (v := 0) rfl dX3_glow_9 (by decide) ?_
    exact AW_iret rfl dX3_glow_10 ⟨_, rfl, rfl, h⟩
theorem mlRX3_116 : Cond.methodLink RX3 116 yX3_gain ∈ ab_G ∧ Cond.instanceMethod yX3_gain ∈ ab_G ∧ Cond.selects RX3 yX3_gain yX3_gain ∈ ab_G := ⟨ab_in 1463 (by decide +kernel) (by decide +kernel), ab_in 1464 (by decide +kernel) (by decide +kernel), ab_in 1465 (by decide +kernel) (by decide +kernel)⟩
theorem gfRX3_106 : ab_L RX3 106 4 10 := ⟨by decide, by decide, ab_in 253 (by decide +kernel) (by decide +kernel)⟩
theorem mlRX3_109 : Cond.methodLink RX3 109 yX3_glow ∈ ab_G ∧ Cond.instanceMethod yX3_glow ∈ ab_G ∧ Cond.selects RX3 yX3_glow yX3_glow ∈ ab_G := ⟨ab_in 1458 (by decide +kernel) (by decide +kernel), ab_in 1459 (by decide +kernel) (by decide +kernel), ab_in 1460 (by decide +kernel) (by decide +kernel)⟩
theorem gfRX3_113 : ab_L RX3 113 4 11 := ⟨by decide, by decide, ab_in 256 (by decide +kernel) (by decide +kernel)⟩
abbrev MX3_warm : ab_M := (yX3_warm, cX3_warm, 9, none)
theorem dX3_warm_0 : decode cX3_warm 0 = .ok (.iconst 0, 1) := by decide +kernel
theorem dX3_warm_1 : decode cX3_warm 1 = .ok (.istore_n 3, 1) := by decide +kernel
theorem dX3_warm_2 : decode cX3_warm 2 = .ok (.iload_n 3, 1) := by decide +kernel
theorem dX3_warm_3 : decode cX3_warm 3 = .ok (.aload_n 1, 1) := by decide +kernel
theorem dX3_warm_4 : decode cX3_warm 4 = .ok (.getfield 56, 3) := by decide +kernel
theorem dX3_warm_7 : decode cX3_warm 7 = .ok (.if_icmp .ge 160, 3) := by decide +kernel
theorem dX3_warm_10 : decode cX3_warm 10 = .ok (.aload_n 0, 1) := by decide +kernel
theorem dX3_warm_11 : decode cX3_warm 11 = .ok (.aload_n 1, 1) := by decide +kernel
theorem dX3_warm_12 : decode cX3_warm 12 = .ok (.aload_n 1, 1) := by decide +kernel
theorem dX3_warm_13 : decode cX3_warm 13 = .ok (.getfield 106, 3) := by decide +kernel
theorem dX3_warm_16 : decode cX3_warm 16 = .ok (.aload_n 2, 1) := by decide +kernel
theorem dX3_warm_17 : decode cX3_warm 17 = .ok (.iload_n 3, 1) := by decide +kernel
theorem dX3_warm_18 : decode cX3_warm 18 = .ok (.invokevirtual 109, 3) := by decide +kernel
theorem dX3_warm_21 : decode cX3_warm 21 = .ok (.aload_n 0, 1) := by decide +kernel
theorem dX3_warm_22 : decode cX3_warm 22 = .ok (.aload_n 1, 1) := by decide +kernel
theorem dX3_warm_23 : decode cX3_warm 23 = .ok (.aload_n 1, 1) := by decide +kernel
theorem dX3_warm_24 : decode cX3_warm 24 = .ok (.getfield 113, 3) := by decide +kernel
theorem dX3_warm_27 : decode cX3_warm 27 = .ok (.aload_n 2, 1) := by decide +kernel
theorem dX3_warm_28 : decode cX3_warm 28 = .ok (.iload_n 3, 1) := by decide +kernel
theorem dX3_warm_29 : decode cX3_warm 29 = .ok (.invokevirtual 109, 3) := by decide +kernel
theorem dX3_warm_32 : decode cX3_warm 32 = .ok (.iadd, 1) := by decide +kernel
theorem dX3_warm_33 : decode cX3_warm 33 = .ok (.istore 4, 2) := by decide +kernel
theorem dX3_warm_35 : decode cX3_warm 35 = .ok (.iconst 0, 1) := by decide +kernel
theorem dX3_warm_36 : decode cX3_warm 36 = .ok (.istore 5, 2) := by decide +kernel
theorem dX3_warm_38 : decode cX3_warm 38 = .ok (.iload 5, 2) := by decide +kernel
theorem dX3_warm_40 : decode cX3_warm 40 = .ok (.aload_n 1, 1) := by decide +kernel
theorem dX3_warm_41 : decode cX3_warm 41 = .ok (.getfield 60, 3) := by decide +kernel
theorem dX3_warm_44 : decode cX3_warm 44 = .ok (.if_icmp .ge 117, 3) := by decide +kernel
theorem dX3_warm_47 : decode cX3_warm 47 = .ok (.aload_n 1, 1) := by decide +kernel
theorem dX3_warm_48 : decode cX3_warm 48 = .ok (.iload_n 3, 1) := by decide +kernel
theorem dX3_warm_49 : decode cX3_warm 49 = .ok (.aload_n 1, 1) := by decide +kernel
theorem dX3_warm_50 : decode cX3_warm 50 = .ok (.getfield 60, 3) := by decide +kernel
theorem dX3_warm_53 : decode cX3_warm 53 = .ok (.imul, 1) := by decide +kernel
theorem dX3_warm_54 : decode cX3_warm 54 = .ok (.iload 5, 2) := by decide +kernel
theorem dX3_warm_56 : decode cX3_warm 56 = .ok (.iadd, 1) := by decide +kernel
theorem dX3_warm_57 : decode cX3_warm 57 = .ok (.invokevirtual 63, 3) := by decide +kernel
theorem dX3_warm_60 : decode cX3_warm 60 = .ok (.istore 6, 2) := by decide +kernel
theorem dX3_warm_62 : decode cX3_warm 62 = .ok (.aload_n 0, 1) := by decide +kernel
theorem dX3_warm_63 : decode cX3_warm 63 = .ok (.getfield 9, 3) := by decide +kernel
theorem dX3_warm_66 : decode cX3_warm 66 = .ok (.iload 6, 2) := by decide +kernel
theorem dX3_warm_68 : decode cX3_warm 68 = .ok (.iaload, 1) := by decide +kernel
theorem dX3_warm_69 : decode cX3_warm 69 = .ok (.iload 4, 2) := by decide +kernel
theorem dX3_warm_71 : decode cX3_warm 71 = .ok (.iadd, 1) := by decide +kernel
theorem dX3_warm_72 : decode cX3_warm 72 = .ok (.aload_n 0, 1) := by decide +kernel
theorem dX3_warm_73 : decode cX3_warm 73 = .ok (.aload_n 1, 1) := by decide +kernel
theorem dX3_warm_74 : decode cX3_warm 74 = .ok (.iload_n 3, 1) := by decide +kernel
theorem dX3_warm_75 : decode cX3_warm 75 = .ok (.iload 5, 2) := by decide +kernel
theorem dX3_warm_77 : decode cX3_warm 77 = .ok (.invokevirtual 116, 3) := by decide +kernel
theorem dX3_warm_80 : decode cX3_warm 80 = .ok (.iadd, 1) := by decide +kernel
theorem dX3_warm_81 : decode cX3_warm 81 = .ok (.aload_n 0, 1) := by decide +kernel
theorem dX3_warm_82 : decode cX3_warm 82 = .ok (.getfield 18, 3) := by decide +kernel
theorem dX3_warm_85 : decode cX3_warm 85 = .ok (.iload 6, 2) := by decide +kernel
theorem dX3_warm_87 : decode cX3_warm 87 = .ok (.iaload, 1) := by decide +kernel
theorem dX3_warm_88 : decode cX3_warm 88 = .ok (.iconst 4, 1) := by decide +kernel
theorem dX3_warm_89 : decode cX3_warm 89 = .ok (.idiv, 1) := by decide +kernel
theorem dX3_warm_90 : decode cX3_warm 90 = .ok (.isub, 1) := by decide +kernel
theorem dX3_warm_91 : decode cX3_warm 91 = .ok (.istore 7, 2) := by decide +kernel
theorem dX3_warm_93 : decode cX3_warm 93 = .ok (.iconst 0, 1) := by decide +kernel
theorem dX3_warm_94 : decode cX3_warm 94 = .ok (.sipush 1000, 3) := by decide +kernel
theorem dX3_warm_97 : decode cX3_warm 97 = .ok (.iload 7, 2) := by decide +kernel
theorem dX3_warm_99 : decode cX3_warm 99 = .ok (.invokestatic 103, 3) := by decide +kernel
theorem dX3_warm_102 : decode cX3_warm 102 = .ok (.invokestatic 74, 3) := by decide +kernel
theorem dX3_warm_105 : decode cX3_warm 105 = .ok (.istore 8, 2) := by decide +kernel
theorem dX3_warm_107 : decode cX3_warm 107 = .ok (.aload_n 0, 1) := by decide +kernel
theorem dX3_warm_108 : decode cX3_warm 108 = .ok (.getfield 9, 3) := by decide +kernel
theorem dX3_warm_111 : decode cX3_warm 111 = .ok (.iload 6, 2) := by decide +kernel
theorem dX3_warm_113 : decode cX3_warm 113 = .ok (.aload_n 0, 1) := by decide +kernel
theorem dX3_warm_114 : decode cX3_warm 114 = .ok (.aload_n 1, 1) := by decide +kernel
theorem dX3_warm_115 : decode cX3_warm 115 = .ok (.iload_n 3, 1) := by decide +kernel
theorem dX3_warm_116 : decode cX3_warm 116 = .ok (.invokevirtual 70, 3) := by decide +kernel
theorem dX3_warm_119 : decode cX3_warm 119 = .ok (.ifCond .eq 7, 3) := by decide +kernel
theorem dX3_warm_122 : decode cX3_warm 122 = .ok (.iconst 0, 1) := by decide +kernel
theorem dX3_warm_123 : decode cX3_warm 123 = .ok (.goto 5, 3) := by decide +kernel
theorem dX3_warm_126 : decode cX3_warm 126 = .ok (.iload 8, 2) := by decide +kernel
theorem dX3_warm_128 : decode cX3_warm 128 = .ok (.iastore, 1) := by decide +kernel
theorem dX3_warm_129 : decode cX3_warm 129 = .ok (.aload_n 0, 1) := by decide +kernel
theorem dX3_warm_130 : decode cX3_warm 130 = .ok (.aload_n 0, 1) := by decide +kernel
theorem dX3_warm_131 : decode cX3_warm 131 = .ok (.getfield 34, 3) := by decide +kernel
theorem dX3_warm_134 : decode cX3_warm 134 = .ok (.ifCond .eq 17, 3) := by decide +kernel
theorem dX3_warm_137 : decode cX3_warm 137 = .ok (.aload_n 0, 1) := by decide +kernel
theorem dX3_warm_138 : decode cX3_warm 138 = .ok (.getfield 9, 3) := by decide +kernel
theorem dX3_warm_141 : decode cX3_warm 141 = .ok (.iload 6, 2) := by decide +kernel
theorem dX3_warm_143 : decode cX3_warm 143 = .ok (.iaload, 1) := by decide +kernel
theorem dX3_warm_144 : decode cX3_warm 144 = .ok (.ifCond .ne 7, 3) := by decide +kernel
theorem dX3_warm_147 : decode cX3_warm 147 = .ok (.iconst 1, 1) := by decide +kernel
theorem dX3_warm_148 : decode cX3_warm 148 = .ok (.goto 4, 3) := by decide +kernel
theorem dX3_warm_151 : decode cX3_warm 151 = .ok (.iconst 0, 1) := by decide +kernel
theorem dX3_warm_152 : decode cX3_warm 152 = .ok (.putfield 34, 3) := by decide +kernel
theorem dX3_warm_155 : decode cX3_warm 155 = .ok (.iinc 5 1, 3) := by decide +kernel
theorem dX3_warm_158 : decode cX3_warm 158 = .ok (.goto (-120), 3) := by decide +kernel
theorem dX3_warm_161 : decode cX3_warm 161 = .ok (.iinc 3 1, 3) := by decide +kernel
theorem dX3_warm_164 : decode cX3_warm 164 = .ok (.goto (-162), 3) := by decide +kernel
theorem dX3_warm_167 : decode cX3_warm 167 = .ok (.return_, 1) := by decide +kernel
theorem okX3_warm : ab_okM MX3_warm 2 := ⟨by decide, ⟨by decide, by decide⟩, ab_in 1457 (by decide +kernel) (by decide +kernel), ab_in 90 (by decide +kernel) (by decide +kernel), by decide +kernel, by decide⟩
set_option maxHeartbeats 4000000 in
set_option maxRecDepth 100000 in
def wX3_warm_151 (v0 : Nat) (v1 : Nat) (v3 : Int32) (v4 : Int32) (v5 : Int32) (s0 : Nat) (x : ab_X) (K : ab_X → Prop) (L2 : Int32 → ab_X → Prop) (L38 : Int32 → ab_X → Prop) : Prop := L38 (v5 + 1) (wr x s0 7 0)
set_option maxHeartbeats 4000000 in
set_option maxRecDepth 100000 in
theorem sX3_warm_151 (v0 : Nat) (v1 : Nat) (v3 : Int32) (v4 : Int32) (v5 : Int32) (s0 : Nat) (hv0 : isF v0) (hv1 : isH v1) (hs0 : isF s0) (x : ab_X) (K : ab_X → Prop) (L2 : Int32 → ab_X → Prop) (L38 : Int32 → ab_X → Prop) (d bc bs : Nat) (hdp : 2 ≤ d) (hL2 : ∀ (v3 : Int32) (x : ab_X), L2 v3 x → EW MX3_warm 2 [(0, .ref v0), (1, .ref v1), (2, .ref 10), (3, .int v3)] [] (aS x) d bc bs (liV K)) (hL38 : ∀ (v5 : Int32) (x : ab_X), L38 v5 x → EW MX3_warm 38 [(0, .ref v0), (1, .ref v1), (2, .ref 10), (3, .int v3), (4, .int v4), (5, .int v5)] [] (aS x) d bc bs (liV K)) (h : wX3_warm_151 v0 v1 v3 v4 v5 s0 x K L2 L38) : EW MX3_warm 151 [(0, .ref v0), (1, .ref v1), (2, .ref 10), (3, .int v3), (4, .int v4), (5, .int v5)] [.ref s0] (aS x) d bc bs (liV K) := by
  unfold wX3_warm_151 at h
  refine EW_iconst (pc2 := 152) (v := 0) rfl dX3_warm_151 (by decide) ?_
  refine AW_putz ⟨gfRX3_34, rfl, rfl⟩ isB0 (pc2 := 155) rfl dX3_warm_152 (isF.o hs0) ?_
  refine EW_iinc (v5 + 1) (pc2 := 158) rfl dX3_warm_155 5 rfl rfl (by decide) [1, 2, 3, 4, 5, 0] [(0, .ref v0), (1, .ref v1), (2, .ref 10), (3, .int v3), (4, .int v4), (5, .int (v5 + 1))] rfl ?_
  refine EW_goto (tgt := 38) dX3_warm_158 (by decide) ?_
  exact hL38 (v5 + 1) (wr x s0 7 0) h
set_option maxHeartbeats 4000000 in
set_option maxRecDepth 100000 in
def wX3_warm_128 (v0 : Nat) (v1 : Nat) (v3 : Int32) (v4 : Int32) (v5 : Int32) (v6 : Int32) (s0b : Nat) (s1 : Int32) (s2 : Int32) (x : ab_X) (K : ab_X → Prop) (L2 : Int32 → ab_X → Prop) (L38 : Int32 → ab_X → Prop) : Prop := (vp_in s1 288 ∧ ((((wr x (s0b + 1) (Int32.toNatClampNeg s1) s2).1 v0 7) = 0 → wX3_warm_151 v0 v1 v3 v4 v5 v0 (wr x (s0b + 1) (Int32.toNatClampNeg s1) s2) K L2 L38) ∧ (¬ ((wr x (s0b + 1) (Int32.toNatClampNeg s1) s2).1 v0 7) = 0 → (vp_in v6 288 ∧ ((¬ ((wr x (s0b + 1) (Int32.toNatClampNeg s1) s2).1 (v0 + 1) (Int32.toNatClampNeg v6)) = 0 → wX3_warm_151 v0 v1 v3 v4 v5 v0 (wr x (s0b + 1) (Int32.toNatClampNeg s1) s2) K L2 L38) ∧ (((wr x (s0b + 1) (Int32.toNatClampNeg s1) s2).1 (v0 + 1) (Int32.toNatClampNeg v6)) = 0 → L38 (v5 + 1) (wr (wr x (s0b + 1) (Int32.toNatClampNeg s1) s2) v0 7 1)))))))
set_option maxHeartbeats 4000000 in
set_option maxRecDepth 100000 in
theorem sX3_warm_128 (v0 : Nat) (v1 : Nat) (v3 : Int32) (v4 : Int32) (v5 : Int32) (v6 : Int32) (s0b : Nat) (s1 : Int32) (s2 : Int32) (hv0 : isF v0) (hv1 : isH v1) (hs0b : isF s0b) (x : ab_X) (K : ab_X → Prop) (L2 : Int32 → ab_X → Prop) (L38 : Int32 → ab_X → Prop) (d bc bs : Nat) (hdp : 2 ≤ d) (hL2 : ∀ (v3 : Int32) (x : ab_X), L2 v3 x → EW MX3_warm 2 [(0, .ref v0), (1, .ref v1), (2, .ref 10), (3, .int v3)] [] (aS x) d bc bs (liV K)) (hL38 : ∀ (v5 : Int32) (x : ab_X), L38 v5 x → EW MX3_warm 38 [(0, .ref v0), (1, .ref v1), (2, .ref 10), (3, .int v3), (4, .int v4), (5, .int v5)] [] (aS x) d bc bs (liV K)) (h : wX3_warm_128 v0 v1 v3 v4 v5 v6 s0b s1 s2 x K L2 L38) : EW MX3_warm 128 [(0, .ref v0), (1, .ref v1), (2, .ref 10), (3, .int v3), (4, .int v4), (5, .int v5), (6, .int v6)] [.int s2, .int s1, .ref (s0b + 1)] (aS x) d bc bs (liV K) := by
  unfold wX3_warm_128 at h
  obtain ⟨b8, h⟩ := h
  refine AW_iast (pc2 := 129) rfl dX3_warm_128 (isF.a0 hs0b) b8 ?_
  refine EW_aload_n (pc2 := 130) rfl dX3_warm_129 0 rfl ?_
  refine EW_aload_n (pc2 := 131) rfl dX3_warm_130 0 rfl ?_
  refine AW_geti ⟨gfRX3_34, rfl⟩ (pc2 := 134) rfl dX3_warm_131 (isF.o hv0) ?_
  refine EW_if_eq (tgt := 151) (pc2 := 137) rfl dX3_warm_134 (by decide) (fun q => ?_) (fun q => ?_)
  · replace h := h.1 q
    refine EW_ls [0, 1, 2, 3, 4, 5] rfl ?_
    exact sX3_warm_151 v0 v1 v3 v4 v5 v0 hv0 hv1 hv0 (wr x (s0b + 1) (Int32.toNatClampNeg s1) s2) K L2 L38 d bc bs hdp hL2 hL38 h
  · replace h := h.2 q
    refine EW_aload_n (pc2 := 138) rfl dX3_warm_137 0 rfl ?_
    refine AW_getr (r := (v0 + 1)) ⟨gfRX3_9, rfl⟩ (pc2 := 141) rfl dX3_warm_138 (isF.o hv0) (isF.r0 hv0) ?_
    refine EW_iload (pc2 := 143) rfl dX3_warm_141 6 rfl ?_
    obtain ⟨b9, h⟩ := h
    refine AW_iald (pc2 := 144) rfl dX3_warm_143 (isF.a0 hv0) b9 ?_
    refine EW_if_ne (tgt := 151) (pc2 := 147) rfl dX3_warm_144 (by decide) (fun q => ?_) (fun q => ?_)
    · replace h := h.1 q
      refine EW_ls [0, 1, 2, 3, 4, 5] rfl ?_
      exact sX3_warm_151 v0 v1 v3 v4 v5 v0 hv0 hv1 hv0 (wr x (s0b + 1) (Int32.toNatClampNeg s1) s2) K L2 L38 d bc bs hdp hL2 hL38 h
    · replace h := h.2 q
      refine EW_iconst (pc2 := 148) (v := 1) rfl dX3_warm_147 (by decide) ?_
      refine EW_goto (tgt := 152) dX3_warm_148 (by decide) ?_
      refine AW_putz ⟨gfRX3_34, rfl, rfl⟩ isB1 (pc2 := 155) rfl dX3_warm_152 (isF.o hv0) ?_
      refine EW_iinc (v5 + 1) (pc2 := 158) rfl dX3_warm_155 5 rfl rfl (by decide) [1, 2, 3, 4, 5, 0, 6] [(0, .ref v0), (1, .ref v1), (2, .ref 10), (3, .int v3), (4, .int v4), (5, .int (v5 + 1)), (6, .int v6)] rfl ?_
      refine EW_goto (tgt := 38) dX3_warm_158 (by decide) ?_
      refine EW_ls [0, 1, 2, 3, 4, 5] rfl ?_
      exact hL38 (v5 + 1) (wr (wr x (s0b + 1) (Int32.toNatClampNeg s1) s2) v0 7 1) h
set_option maxHeartbeats 4000000 in
set_option maxRecDepth 100000 in
def lX3_warm_38 (v0 : Nat) (v1 : Nat) (v3 : Int32) (v4 : Int32) (K : ab_X → Prop) (L2 : Int32 → ab_X → Prop) (L38 : Int32 → ab_X → Prop) (v5 : Int32) (x : ab_X) : Prop := (((x.1 v1 4) ≤ v5 → L2 (v3 + 1) x) ∧ (¬ (x.1 v1 4) ≤ v5 → wX4_place v1 ((v3 * (x.1 v1 4)) + v5) x (fun r3 => (vp_in r3 288 ∧ wX3_gain v0 v1 v3 v5 x (fun r5 => (vp_in r3 288 ∧ wX3_hasFallen v0 v1 v3 x (fun r7 => ((r7 = 0 → wX3_warm_128 v0 v1 v3 v4 v5 r3 v0 r3 (imax 0 (imin 1000 ((((x.1 (v0 + 1) (Int32.toNatClampNeg r3)) + v4) + r5) - ((x.1 (v0 + 3) (Int32.toNatClampNeg r3)) / 4)))) x K L2 L38) ∧ (¬ r7 = 0 → wX3_warm_128 v0 v1 v3 v4 v5 r3 v0 r3 0 x K L2 L38)))))))))
set_option maxHeartbeats 4000000 in
set_option maxRecDepth 100000 in
theorem sX3_warm_38 (v0 : Nat) (v1 : Nat) (v3 : Int32) (v4 : Int32) (v5 : Int32) (hv0 : isF v0) (hv1 : isH v1) (x : ab_X) (K : ab_X → Prop) (L2 : Int32 → ab_X → Prop) (d bc bs : Nat) (hdp : 2 ≤ d) (hL2 : ∀ (v3 : Int32) (x : ab_X), L2 v3 x → EW MX3_warm 2 [(0, .ref v0), (1, .ref v1), (2, .ref 10), (3, .int v3)] [] (aS x) d bc bs (liV K)) (h : Lp2 (lX3_warm_38 v0 v1 v3 v4 K L2) v5 x) : EW MX3_warm 38 [(0, .ref v0), (1, .ref v1), (2, .ref 10), (3, .int v3), (4, .int v4), (5, .int v5)] [] (aS x) d bc bs (liV K) := by
  refine Lp2.use (P := fun v5 x => EW MX3_warm 38 [(0, .ref v0), (1, .ref v1), (2, .ref 10), (3, .int v3), (4, .int v4), (5, .int v5)] [] (aS x) d bc bs (liV K)) (fun L38 v5 x hL38 h => ?_) v5 x h
  unfold lX3_warm_38 at h
  refine EW_iload (pc2 := 40) rfl dX3_warm_38 5 rfl ?_
  refine EW_aload_n (pc2 := 41) rfl dX3_warm_40 1 rfl ?_
  refine AW_geti ⟨gfRX3_60, rfl⟩ (pc2 := 44) rfl dX3_warm_41 (isH.o hv1) ?_
  refine EW_icmp_ge (tgt := 161) (pc2 := 47) rfl dX3_warm_44 (by decide) (fun q => ?_) (fun q => ?_)
  · replace h := h.1 q
    refine EW_iinc (v3 + 1) (pc2 := 164) rfl dX3_warm_161 3 rfl rfl (by decide) [1, 2, 3, 0, 4, 5] [(0, .ref v0), (1, .ref v1), (2, .ref 10), (3, .int (v3 + 1)), (4, .int v4), (5, .int v5)] rfl ?_
    refine EW_goto (tgt := 2) dX3_warm_164 (by decide) ?_
    refine EW_ls [0, 1, 2, 3] rfl ?_
    exact hL2 (v3 + 1) x h
  · replace h := h.2 q
    refine EW_aload_n (pc2 := 48) rfl dX3_warm_47 1 rfl ?_
    refine EW_iload_n (pc2 := 49) rfl dX3_warm_48 3 rfl ?_
    refine EW_aload_n (pc2 := 50) rfl dX3_warm_49 1 rfl ?_
    refine AW_geti ⟨gfRX3_60, rfl⟩ (pc2 := 53) rfl dX3_warm_50 (isH.o hv1) ?_
    refine EW_imul (pc2 := 54) rfl dX3_warm_53 ?_
    refine EW_iload (pc2 := 56) rfl dX3_warm_54 5 rfl ?_
    refine EW_iadd (pc2 := 57) rfl dX3_warm_56 ?_
    refine AW_invV (M' := MX4_place) [.int ((v3 * (x.1 v1 4)) + v5)] (rest := []) mlRX3_63 okX4_place (pc2 := 60) rfl dX3_warm_57 rfl rfl (Nat.le_of_ble_eq_true rfl) (Nat.le_of_ble_eq_true rfl) (d' := 0) (by omega) (isH.o hv1) ⟨by decide, rfl⟩ (EW_mono (fun _ _ hr => ?_) (sX4_place v1 ((v3 * (x.1 v1 4)) + v5) hv1 x _ _ 0 0 (Nat.le_refl _) h))
    obtain ⟨r3, rfl, rfl, h⟩ := hr
    refine EW_istore (pc2 := 62) rfl dX3_warm_60 (by decide) [1, 2, 3, 4, 5, 6, 0] [(0, .ref v0), (1, .ref v1), (2, .ref 10), (3, .int v3), (4, .int v4), (5, .int v5), (6, .int r3)] rfl ?_
    refine EW_aload_n (pc2 := 63) rfl dX3_warm_62 0 rfl ?_
    refine AW_getr (r := (v0 + 1)) ⟨gfRX3_9, rfl⟩ (pc2 := 66) rfl dX3_warm_63 (isF.o hv0) (isF.r0 hv0) ?_
    refine EW_iload (pc2 := 68) rfl dX3_warm_66 6 rfl ?_
    obtain ⟨b4, h⟩ := h
    refine AW_iald (pc2 := 69) rfl dX3_warm_68 (isF.a0 hv0) b4 ?_
    refine EW_iload (pc2 := 71) rfl dX3_warm_69 4 rfl ?_
    refine EW_iadd (pc2 := 72) rfl dX3_warm_71 ?_
    refine EW_aload_n (pc2 := 73) rfl dX3_warm_72 0 rfl ?_
    refine EW_aload_n (pc2 := 74) rfl dX3_warm_73 1 rfl ?_
    refine EW_iload_n (pc2 := 75) rfl dX3_warm_74 3 rfl ?_
    refine EW_iload (pc2 := 77) rfl dX3_warm_75 5 rfl ?_
    refine AW_invV (M' := MX3_gain) [.ref v1, .int v3, .int v5] (rest := [.int ((x.1 (v0 + 1) (Int32.toNatClampNeg r3)) + v4)]) mlRX3_116 okX3_gain (pc2 := 80) rfl dX3_warm_77 rfl rfl (Nat.le_of_ble_eq_true rfl) (Nat.le_of_ble_eq_true rfl) (d' := 1) (by omega) (isF.o hv0) ⟨by decide, rfl⟩ (EW_mono (fun _ _ hr => ?_) (sX3_gain v0 v1 v3 v5 hv0 hv1 x _ _ 0 0 (Nat.le_refl _) h))
    obtain ⟨r5, rfl, rfl, h⟩ := hr
    refine EW_iadd (pc2 := 81) rfl dX3_warm_80 ?_
    refine EW_aload_n (pc2 := 82) rfl dX3_warm_81 0 rfl ?_
    refine AW_getr (r := (v0 + 3)) ⟨gfRX3_18, rfl⟩ (pc2 := 85) rfl dX3_warm_82 (isF.o hv0) (isF.r2 hv0) ?_
    refine EW_iload (pc2 := 87) rfl dX3_warm_85 6 rfl ?_
    obtain ⟨b6, h⟩ := h
    refine AW_iald (pc2 := 88) rfl dX3_warm_87 (isF.a2 hv0) b6 ?_
    refine EW_iconst (pc2 := 89) (v := 4) rfl dX3_warm_88 (by decide) ?_
    refine EW_idiv (pc2 := 90) rfl dX3_warm_89 (by decide) ?_
    refine EW_isub (pc2 := 91) rfl dX3_warm_90 ?_
    refine EW_istore (pc2 := 93) rfl dX3_warm_91 (by decide) [1, 2, 3, 4, 5, 6, 7, 0] [(0, .ref v0), (1, .ref v1), (2, .ref 10), (3, .int v3), (4, .int v4), (5, .int v5), (6, .int r3), (7, .int ((((x.1 (v0 + 1) (Int32.toNatClampNeg r3)) + v4) + r5) - ((x.1 (v0 + 3) (Int32.toNatClampNeg r3)) / 4)))] rfl ?_
    refine EW_iconst (pc2 := 94) (v := 0) rfl dX3_warm_93 (by decide) ?_
    refine EW_sipush (pc2 := 97) (v := 1000) rfl dX3_warm_94 (by decide) ?_
    refine EW_iload (pc2 := 99) rfl dX3_warm_97 7 rfl ?_
    refine AW_mmin mmRX3_103 (pc2 := 102) rfl dX3_warm_99 (Nat.le_of_ble_eq_true rfl) (by omega) ?_
    refine AW_mmax mmRX3_74 (pc2 := 105) rfl dX3_warm_102 (Nat.le_of_ble_eq_true rfl) (by omega) ?_
    refine EW_istore (pc2 := 107) rfl dX3_warm_105 (by decide) [1, 2, 3, 4, 5, 6, 7, 8, 0] [(0, .ref v0), (1, .ref v1), (2, .ref 10), (3, .int v3), (4, .int v4), (5, .int v5), (6, .int r3), (7, .int ((((x.1 (v0 + 1) (Int32.toNatClampNeg r3)) + v4) + r5) - ((x.1 (v0 + 3) (Int32.toNatClampNeg r3)) / 4))), (8, .int (imax 0 (imin 1000 ((((x.1 (v0 + 1) (Int32.toNatClampNeg r3)) + v4) + r5) - ((x.1 (v0 + 3) (Int32.toNatClampNeg r3)) / 4)))))] rfl ?_
    refine EW_aload_n (pc2 := 108) rfl dX3_warm_107 0 rfl ?_
    refine AW_getr (r := (v0 + 1)) ⟨gfRX3_9, rfl⟩ (pc2 := 111) rfl dX3_warm_108 (isF.o hv0) (isF.r0 hv0) ?_
    refine EW_iload (pc2 := 113) rfl dX3_warm_111 6 rfl ?_
    refine EW_aload_n (pc2 := 114) rfl dX3_warm_113 0 rfl ?_
    refine EW_aload_n (pc2 := 115) rfl dX3_warm_114 1 rfl ?_
    refine EW_iload_n (pc2 := 116) rfl dX3_warm_115 3 rfl ?_
    refine AW_invV (M' := MX3_hasFallen) [.ref v1, .int v3] (rest := [.int r3, .ref (v0 + 1)]) mlRX3_70 okX3_hasFallen (pc2 := 119) rfl dX3_warm_116 rfl rfl (Nat.le_of_ble_eq_true rfl) (Nat.le_of_ble_eq_true rfl) (d' := 1) (by omega) (isF.o hv0) ⟨by decide, rfl⟩ (EW_mono (fun _ _ hr => ?_) (sX3_hasFallen v0 v1 v3 hv0 hv1 x _ _ 0 0 (Nat.le_refl _) h))
    obtain ⟨r7, rfl, rfl, h⟩ := hr
    refine EW_if_eq (tgt := 126) (pc2 := 122) rfl dX3_warm_119 (by decide) (fun q => ?_) (fun q => ?_)
    · replace h := h.1 q
      refine EW_iload (pc2 := 128) rfl dX3_warm_126 8 rfl ?_
      refine EW_ls [0, 1, 2, 3, 4, 5, 6] rfl ?_
      exact sX3_warm_128 v0 v1 v3 v4 v5 r3 v0 r3 (imax 0 (imin 1000 ((((x.1 (v0 + 1) (Int32.toNatClampNeg r3)) + v4) + r5) - ((x.1 (v0 + 3) (Int32.toNatClampNeg r3)) / 4)))) hv0 hv1 hv0 x K L2 L38 d bc bs hdp hL2 hL38 h
    · replace h := h.2 q
      refine EW_iconst (pc2 := 123) (v := 0) rfl dX3_warm_122 (by decide) ?_
      refine EW_goto (tgt := 128) dX3_warm_123 (by decide) ?_
      refine EW_ls [0, 1, 2, 3, 4, 5, 6] rfl ?_
      exact sX3_warm_128 v0 v1 v3 v4 v5 r3 v0 r3 0 hv0 hv1 hv0 x K L2 L38 d bc bs hdp hL2 hL38 h
set_option maxHeartbeats 4000000 in
set_option maxRecDepth 100000 in
def lX3_warm_2 (v0 : Nat) (v1 : Nat) (K : ab_X → Prop)  (L2 : Int32 → ab_X → Prop) (v3 : Int32) (x : ab_X) : Prop := (((x.1 v1 3) ≤ v3 → K x) ∧ (¬ (x.1 v1 3) ≤ v3 → wX3_glow v0 v1 (x.1 v1 10) v3 x (fun r1 => wX3_glow v0 v1 (x.1 v1 11) v3 x (fun r2 => Lp2 (lX3_warm_38 v0 v1 v3 (r1 + r2) K L2) 0 x))))
set_option maxHeartbeats 4000000 in
set_option maxRecDepth 100000 in
theorem sX3_warm_2 (v0 : Nat) (v1 : Nat) (v3 : Int32) (hv0 : isF v0) (hv1 : isH v1) (x : ab_X) (K : ab_X → Prop)  (d bc bs : Nat) (hdp : 2 ≤ d)  (h : Lp2 (lX3_warm_2 v0 v1 K ) v3 x) : EW MX3_warm 2 [(0, .ref v0), (1, .ref v1), (2, .ref 10), (3, .int v3)] [] (aS x) d bc bs (liV K) := by
  refine Lp2.use (P := fun v3 x => EW MX3_warm 2 [(0, .ref v0), (1, .ref v1), (2, .ref 10), (3, .int v3)] [] (aS x) d bc bs (liV K)) (fun L2 v3 x hL2 h => ?_) v3 x h
  unfold lX3_warm_2 at h
  refine EW_iload_n (pc2 := 3) rfl dX3_warm_2 3 rfl ?_
  refine EW_aload_n (pc2 := 4) rfl dX3_warm_3 1 rfl ?_
  refine AW_geti ⟨gfRX3_56, rfl⟩ (pc2 := 7) rfl dX3_warm_4 (isH.o hv1) ?_
  refine EW_icmp_ge (tgt := 167) (pc2 := 10) rfl dX3_warm_7 (by decide) (fun q => ?_) (fun q => ?_)
  · replace h := h.1 q
    exact EW_vret rfl dX3_warm_167 ⟨_, rfl, rfl, h⟩
  · replace h := h.2 q
    refine EW_aload_n (pc2 := 11) rfl dX3_warm_10 0 rfl ?_
    refine EW_aload_n (pc2 := 12) rfl dX3_warm_11 1 rfl ?_
    refine EW_aload_n (pc2 := 13) rfl dX3_warm_12 1 rfl ?_
    refine AW_geti ⟨gfRX3_106, rfl⟩ (pc2 := 16) rfl dX3_warm_13 (isH.o hv1) ?_
    refine EW_aload_n (pc2 := 17) rfl dX3_warm_16 2 rfl ?_
    refine EW_iload_n (pc2 := 18) rfl dX3_warm_17 3 rfl ?_
    refine AW_invV (M' := MX3_glow) [.ref v1, .int (x.1 v1 10), .ref 10, .int v3] (rest := []) mlRX3_109 okX3_glow (pc2 := 21) rfl dX3_warm_18 rfl rfl (Nat.le_of_ble_eq_true rfl) (Nat.le_of_ble_eq_true rfl) (d' := 1) (by omega) (isF.o hv0) ⟨by decide, rfl⟩ (EW_mono (fun _ _ hr => ?_) (sX3_glow v0 v1 (x.1 v1 10) v3 hv0 hv1 x _ _ 0 0 (Nat.le_refl _) h))
    obtain ⟨r1, rfl, rfl, h⟩ := hr
    refine EW_aload_n (pc2 := 22) rfl dX3_warm_21 0 rfl ?_
    refine EW_aload_n (pc2 := 23) rfl dX3_warm_22 1 rfl ?_
    refine EW_aload_n (pc2 := 24) rfl dX3_warm_23 1 rfl ?_
    refine AW_geti ⟨gfRX3_113, rfl⟩ (pc2 := 27) rfl dX3_warm_24 (isH.o hv1) ?_
    refine EW_aload_n (pc2 := 28) rfl dX3_warm_27 2 rfl ?_
    refine EW_iload_n (pc2 := 29) rfl dX3_warm_28 3 rfl ?_
    refine AW_invV (M' := MX3_glow) [.ref v1, .int (x.1 v1 11), .ref 10, .int v3] (rest := [.int r1]) mlRX3_109 okX3_glow (pc2 := 32) rfl dX3_warm_29 rfl rfl (Nat.le_of_ble_eq_true rfl) (Nat.le_of_ble_eq_true rfl) (d' := 1) (by omega) (isF.o hv0) ⟨by decide, rfl⟩ (EW_mono (fun _ _ hr => ?_) (sX3_glow v0 v1 (x.1 v1 11) v3 hv0 hv1 x _ _ 0 0 (Nat.le_refl _) h))
    obtain ⟨r2, rfl, rfl, h⟩ := hr
    refine EW_iadd (pc2 := 33) rfl dX3_warm_32 ?_
    refine EW_istore (pc2 := 35) rfl dX3_warm_33 (by decide) [1, 2, 3, 4, 0] [(0, .ref v0), (1, .ref v1), (2, .ref 10), (3, .int v3), (4, .int (r1 + r2))] rfl ?_
    refine EW_iconst (pc2 := 36) (v := 0) rfl dX3_warm_35 (by decide) ?_
    refine EW_istore (pc2 := 38) rfl dX3_warm_36 (by decide) [1, 2, 3, 4, 5, 0] [(0, .ref v0), (1, .ref v1), (2, .ref 10), (3, .int v3), (4, .int (r1 + r2)), (5, .int 0)] rfl ?_
    exact sX3_warm_38 v0 v1 v3 (r1 + r2) 0 hv0 hv1 x K L2 d bc bs hdp hL2 h
set_option maxHeartbeats 4000000 in
set_option maxRecDepth 100000 in
def wX3_warm (v0 : Nat) (v1 : Nat) (x : ab_X) (K : ab_X → Prop) : Prop := Lp2 (lX3_warm_2 v0 v1 K ) 0 x
set_option maxHeartbeats 4000000 in
set_option maxRecDepth 100000 in
theorem sX3_warm (v0 : Nat) (v1 : Nat) (hv0 : isF v0) (hv1 : isH v1) (x : ab_X) (K : ab_X → Prop) (d bc bs : Nat) (hdp : 2 ≤ d) (h : wX3_warm v0 v1 x K) : EW MX3_warm 0 [(0, .ref v0), (1, .ref v1), (2, .ref 10)] [] (aS x) d bc bs (liV K) := by
  unfold wX3_warm at h
  refine EW_iconst (pc2 := 1) (v := 0) rfl dX3_warm_0 (by decide) ?_
  refine EW_istore_n (pc2 := 2) rfl dX3_warm_1 (by decide) [1, 2, 3, 0] [(0, .ref v0), (1, .ref v1), (2, .ref 10), (3, .int 0)] rfl ?_
  exact sX3_warm_2 v0 v1 0 hv0 hv1 x K d bc bs hdp h
