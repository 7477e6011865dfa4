abbrev MX12_findTour : ab_M := (yX12_findTour, cX12_findTour, 5, (some .boolean))
theorem dX12_findTour_0 : decode cX12_findTour 0 = .ok (.aload_n 0, 1) := by decide +kernel
theorem dX12_findTour_1 : decode cX12_findTour 1 = .ok (.iconst 0, 1) := by decide +kernel
theorem dX12_findTour_2 : decode cX12_findTour 2 = .ok (.putfield 297, 3) := by decide +kernel
theorem dX12_findTour_5 : decode cX12_findTour 5 = .ok (.iload_n 1, 1) := by decide +kernel
theorem dX12_findTour_6 : decode cX12_findTour 6 = .ok (.invokestatic 303, 3) := by decide +kernel
theorem dX12_findTour_9 : decode cX12_findTour 9 = .ok (.ifCond .eq 14, 3) := by decide +kernel
theorem dX12_findTour_12 : decode cX12_findTour 12 = .ok (.iload_n 2, 1) := by decide +kernel
theorem dX12_findTour_13 : decode cX12_findTour 13 = .ok (.iconst 0, 1) := by decide +kernel
theorem dX12_findTour_14 : decode cX12_findTour 14 = .ok (.sipush 500, 3) := by decide +kernel
theorem dX12_findTour_17 : decode cX12_findTour 17 = .ok (.invokestatic 307, 3) := by decide +kernel
theorem dX12_findTour_20 : decode cX12_findTour 20 = .ok (.ifCond .ne 5, 3) := by decide +kernel
theorem dX12_findTour_23 : decode cX12_findTour 23 = .ok (.iconst 0, 1) := by decide +kernel
theorem dX12_findTour_24 : decode cX12_findTour 24 = .ok (.ireturn, 1) := by decide +kernel
theorem dX12_findTour_25 : decode cX12_findTour 25 = .ok (.iconst 0, 1) := by decide +kernel
theorem dX12_findTour_26 : decode cX12_findTour 26 = .ok (.istore_n 3, 1) := by decide +kernel
theorem dX12_findTour_27 : decode cX12_findTour 27 = .ok (.iconst 0, 1) := by decide +kernel
theorem dX12_findTour_28 : decode cX12_findTour 28 = .ok (.istore 4, 2) := by decide +kernel
theorem dX12_findTour_30 : decode cX12_findTour 30 = .ok (.iload 4, 2) := by decide +kernel
theorem dX12_findTour_32 : decode cX12_findTour 32 = .ok (.aload_n 0, 1) := by decide +kernel
theorem dX12_findTour_33 : decode cX12_findTour 33 = .ok (.getfield 331, 3) := by decide +kernel
theorem dX12_findTour_36 : decode cX12_findTour 36 = .ok (.if_icmp .ge 113, 3) := by decide +kernel
theorem dX12_findTour_39 : decode cX12_findTour 39 = .ok (.aload_n 0, 1) := by decide +kernel
theorem dX12_findTour_40 : decode cX12_findTour 40 = .ok (.getfield 265, 3) := by decide +kernel
theorem dX12_findTour_43 : decode cX12_findTour 43 = .ok (.iload 4, 2) := by decide +kernel
theorem dX12_findTour_45 : decode cX12_findTour 45 = .ok (.iload_n 3, 1) := by decide +kernel
theorem dX12_findTour_46 : decode cX12_findTour 46 = .ok (.bipush 8, 2) := by decide +kernel
theorem dX12_findTour_48 : decode cX12_findTour 48 = .ok (.if_icmp .ge 25, 3) := by decide +kernel
theorem dX12_findTour_51 : decode cX12_findTour 51 = .ok (.aload_n 0, 1) := by decide +kernel
theorem dX12_findTour_52 : decode cX12_findTour 52 = .ok (.iload_n 1, 1) := by decide +kernel
theorem dX12_findTour_53 : decode cX12_findTour 53 = .ok (.aload_n 0, 1) := by decide +kernel
theorem dX12_findTour_54 : decode cX12_findTour 54 = .ok (.getfield 32, 3) := by decide +kernel
theorem dX12_findTour_57 : decode cX12_findTour 57 = .ok (.iload 4, 2) := by decide +kernel
theorem dX12_findTour_59 : decode cX12_findTour 59 = .ok (.iaload, 1) := by decide +kernel
theorem dX12_findTour_60 : decode cX12_findTour 60 = .ok (.invokevirtual 328, 3) := by decide +kernel
theorem dX12_findTour_63 : decode cX12_findTour 63 = .ok (.ldc_w 296, 3) := by decide +kernel
theorem dX12_findTour_66 : decode cX12_findTour 66 = .ok (.if_icmp .ge 7, 3) := by decide +kernel
theorem dX12_findTour_69 : decode cX12_findTour 69 = .ok (.iconst 1, 1) := by decide +kernel
theorem dX12_findTour_70 : decode cX12_findTour 70 = .ok (.goto 4, 3) := by decide +kernel
theorem dX12_findTour_73 : decode cX12_findTour 73 = .ok (.iconst 0, 1) := by decide +kernel
theorem dX12_findTour_74 : decode cX12_findTour 74 = .ok (.bastore, 1) := by decide +kernel
theorem dX12_findTour_75 : decode cX12_findTour 75 = .ok (.iload_n 3, 1) := by decide +kernel
theorem dX12_findTour_76 : decode cX12_findTour 76 = .ok (.aload_n 0, 1) := by decide +kernel
theorem dX12_findTour_77 : decode cX12_findTour 77 = .ok (.getfield 265, 3) := by decide +kernel
theorem dX12_findTour_80 : decode cX12_findTour 80 = .ok (.iload 4, 2) := by decide +kernel
theorem dX12_findTour_82 : decode cX12_findTour 82 = .ok (.baload, 1) := by decide +kernel
theorem dX12_findTour_83 : decode cX12_findTour 83 = .ok (.ifCond .eq 7, 3) := by decide +kernel
theorem dX12_findTour_86 : decode cX12_findTour 86 = .ok (.iconst 1, 1) := by decide +kernel
theorem dX12_findTour_87 : decode cX12_findTour 87 = .ok (.goto 4, 3) := by decide +kernel
theorem dX12_findTour_90 : decode cX12_findTour 90 = .ok (.iconst 0, 1) := by decide +kernel
theorem dX12_findTour_91 : decode cX12_findTour 91 = .ok (.iadd, 1) := by decide +kernel
theorem dX12_findTour_92 : decode cX12_findTour 92 = .ok (.istore_n 3, 1) := by decide +kernel
theorem dX12_findTour_93 : decode cX12_findTour 93 = .ok (.aload_n 0, 1) := by decide +kernel
theorem dX12_findTour_94 : decode cX12_findTour 94 = .ok (.getfield 256, 3) := by decide +kernel
theorem dX12_findTour_97 : decode cX12_findTour 97 = .ok (.iload 4, 2) := by decide +kernel
theorem dX12_findTour_99 : decode cX12_findTour 99 = .ok (.aload_n 0, 1) := by decide +kernel
theorem dX12_findTour_100 : decode cX12_findTour 100 = .ok (.getfield 265, 3) := by decide +kernel
theorem dX12_findTour_103 : decode cX12_findTour 103 = .ok (.iload 4, 2) := by decide +kernel
theorem dX12_findTour_105 : decode cX12_findTour 105 = .ok (.baload, 1) := by decide +kernel
theorem dX12_findTour_106 : decode cX12_findTour 106 = .ok (.ifCond .eq 35, 3) := by decide +kernel
theorem dX12_findTour_109 : decode cX12_findTour 109 = .ok (.bipush 10, 2) := by decide +kernel
theorem dX12_findTour_111 : decode cX12_findTour 111 = .ok (.aload_n 0, 1) := by decide +kernel
theorem dX12_findTour_112 : decode cX12_findTour 112 = .ok (.iload 4, 2) := by decide +kernel
theorem dX12_findTour_114 : decode cX12_findTour 114 = .ok (.aload_n 0, 1) := by decide +kernel
theorem dX12_findTour_115 : decode cX12_findTour 115 = .ok (.getfield 395, 3) := by decide +kernel
theorem dX12_findTour_118 : decode cX12_findTour 118 = .ok (.invokevirtual 608, 3) := by decide +kernel
theorem dX12_findTour_121 : decode cX12_findTour 121 = .ok (.imul, 1) := by decide +kernel
theorem dX12_findTour_122 : decode cX12_findTour 122 = .ok (.bipush 30, 2) := by decide +kernel
theorem dX12_findTour_124 : decode cX12_findTour 124 = .ok (.aload_n 0, 1) := by decide +kernel
theorem dX12_findTour_125 : decode cX12_findTour 125 = .ok (.iload 4, 2) := by decide +kernel
theorem dX12_findTour_127 : decode cX12_findTour 127 = .ok (.aload_n 0, 1) := by decide +kernel
theorem dX12_findTour_128 : decode cX12_findTour 128 = .ok (.getfield 395, 3) := by decide +kernel
theorem dX12_findTour_131 : decode cX12_findTour 131 = .ok (.invokevirtual 605, 3) := by decide +kernel
theorem dX12_findTour_134 : decode cX12_findTour 134 = .ok (.invokestatic 311, 3) := by decide +kernel
theorem dX12_findTour_137 : decode cX12_findTour 137 = .ok (.iadd, 1) := by decide +kernel
theorem dX12_findTour_138 : decode cX12_findTour 138 = .ok (.goto 4, 3) := by decide +kernel
theorem dX12_findTour_141 : decode cX12_findTour 141 = .ok (.iconst 0, 1) := by decide +kernel
theorem dX12_findTour_142 : decode cX12_findTour 142 = .ok (.iastore, 1) := by decide +kernel
theorem dX12_findTour_143 : decode cX12_findTour 143 = .ok (.iinc 4 1, 3) := by decide +kernel
theorem dX12_findTour_146 : decode cX12_findTour 146 = .ok (.goto (-116), 3) := by decide +kernel
theorem dX12_findTour_149 : decode cX12_findTour 149 = .ok (.aload_n 0, 1) := by decide +kernel
theorem dX12_findTour_150 : decode cX12_findTour 150 = .ok (.iload_n 1, 1) := by decide +kernel
theorem dX12_findTour_151 : decode cX12_findTour 151 = .ok (.putfield 611, 3) := by decide +kernel
theorem dX12_findTour_154 : decode cX12_findTour 154 = .ok (.aload_n 0, 1) := by decide +kernel
theorem dX12_findTour_155 : decode cX12_findTour 155 = .ok (.iload_n 2, 1) := by decide +kernel
theorem dX12_findTour_156 : decode cX12_findTour 156 = .ok (.putfield 614, 3) := by decide +kernel
theorem dX12_findTour_159 : decode cX12_findTour 159 = .ok (.aload_n 0, 1) := by decide +kernel
theorem dX12_findTour_160 : decode cX12_findTour 160 = .ok (.iconst (-1), 1) := by decide +kernel
theorem dX12_findTour_161 : decode cX12_findTour 161 = .ok (.putfield 617, 3) := by decide +kernel
theorem dX12_findTour_164 : decode cX12_findTour 164 = .ok (.aload_n 0, 1) := by decide +kernel
theorem dX12_findTour_165 : decode cX12_findTour 165 = .ok (.iconst 0, 1) := by decide +kernel
theorem dX12_findTour_166 : decode cX12_findTour 166 = .ok (.iload_n 1, 1) := by decide +kernel
theorem dX12_findTour_167 : decode cX12_findTour 167 = .ok (.iconst 0, 1) := by decide +kernel
theorem dX12_findTour_168 : decode cX12_findTour 168 = .ok (.iconst 0, 1) := by decide +kernel
theorem dX12_findTour_169 : decode cX12_findTour 169 = .ok (.invokevirtual 626, 3) := by decide +kernel
theorem dX12_findTour_172 : decode cX12_findTour 172 = .ok (.iconst 1, 1) := by decide +kernel
theorem dX12_findTour_173 : decode cX12_findTour 173 = .ok (.ireturn, 1) := by decide +kernel
theorem okX12_findTour : ab_okM MX12_findTour 2 := ⟨by decide, ⟨by decide, by decide⟩, ab_in 2666 (by decide +kernel) (by decide +kernel), ab_in 99 (by decide +kernel) (by decide +kernel), by decide +kernel, by decide⟩
set_option maxHeartbeats 4000000 in
set_option maxRecDepth 100000 in
def wX12_findTour_91 (v1 : Int32) (v2 : Int32) (v4 : Int32) (s0 : Int32) (s1 : Int32) (x : ab_X) (K : Int32 → ab_X → Prop) (L30 : Int32 → Int32 → ab_X → Prop) : Prop := (vp_in v4 12 ∧ (((x.1 327 (Int32.toNatClampNeg v4)) = 0 → (vp_in v4 12 ∧ L30 (s0 + s1) (v4 + 1) (wr x 324 (Int32.toNatClampNeg v4) 0))) ∧ (¬ (x.1 327 (Int32.toNatClampNeg v4)) = 0 → wX12_failsBy v4 (x.1 246 1) x (fun r11 x12 => wX12_daysFrom v4 (x12.1 246 1) x12 (fun r13 => (vp_in v4 12 ∧ L30 (s0 + s1) (v4 + 1) (wr x12 324 (Int32.toNatClampNeg v4) ((10 * r11) + (imin 30 r13)))))))))
set_option maxHeartbeats 4000000 in
set_option maxRecDepth 100000 in
theorem sX12_findTour_91 (v1 : Int32) (v2 : Int32) (v4 : Int32) (s0 : Int32) (s1 : Int32)  (x : ab_X) (K : Int32 → ab_X → Prop) (L30 : Int32 → Int32 → ab_X → Prop) (d bc bs : Nat) (hdp : 211 ≤ d) (hL30 : ∀ (v3 : Int32) (v4 : Int32) (x : ab_X), L30 v3 v4 x → EW MX12_findTour 30 [(0, .ref 246), (1, .int v1), (2, .int v2), (3, .int v3), (4, .int v4)] [] (aS x) d bc bs (liI K)) (h : wX12_findTour_91 v1 v2 v4 s0 s1 x K L30) : EW MX12_findTour 91 [(0, .ref 246), (1, .int v1), (2, .int v2), (4, .int v4)] [.int s1, .int s0] (aS x) d bc bs (liI K) := by
  unfold wX12_findTour_91 at h
  refine EW_iadd (pc2 := 92) rfl dX12_findTour_91 ?_
  refine EW_istore_n (pc2 := 93) rfl dX12_findTour_92 (by decide) [1, 2, 3, 0, 4] [(0, .ref 246), (1, .int v1), (2, .int v2), (3, .int (s0 + s1)), (4, .int v4)] rfl ?_
  refine EW_aload_n (pc2 := 94) rfl dX12_findTour_93 0 rfl ?_
  refine AW_getr (r := 324) ⟨gfRX12_256, rfl⟩ (pc2 := 97) rfl dX12_findTour_94 q246 rfl ?_
  refine EW_iload (pc2 := 99) rfl dX12_findTour_97 4 rfl ?_
  refine EW_aload_n (pc2 := 100) rfl dX12_findTour_99 0 rfl ?_
  refine AW_getr (r := 327) ⟨gfRX12_265, rfl⟩ (pc2 := 103) rfl dX12_findTour_100 q246 rfl ?_
  refine EW_iload (pc2 := 105) rfl dX12_findTour_103 4 rfl ?_
  obtain ⟨b9, h⟩ := h
  refine AW_zald (pc2 := 106) rfl dX12_findTour_105 q327 b9 ?_
  refine EW_if_eq (tgt := 141) (pc2 := 109) rfl dX12_findTour_106 (by decide) (fun q => ?_) (fun q => ?_)
  · replace h := h.1 q
    refine EW_iconst (pc2 := 142) (v := 0) rfl dX12_findTour_141 (by decide) ?_
    obtain ⟨b10, h⟩ := h
    refine AW_iast (pc2 := 143) rfl dX12_findTour_142 q324 b10 ?_
    refine EW_iinc (v4 + 1) (pc2 := 146) rfl dX12_findTour_143 4 rfl rfl (by decide) [1, 2, 3, 4, 0] [(0, .ref 246), (1, .int v1), (2, .int v2), (3, .int (s0 + s1)), (4, .int (v4 + 1))] rfl ?_
    refine EW_goto (tgt := 30) dX12_findTour_146 (by decide) ?_
    exact hL30 (s0 + s1) (v4 + 1) (wr x 324 (Int32.toNatClampNeg v4) 0) h
  · replace h := h.2 q
    refine EW_bipush (pc2 := 111) (v := 10) rfl dX12_findTour_109 (by decide) ?_
    refine EW_aload_n (pc2 := 112) rfl dX12_findTour_111 0 rfl ?_
    refine EW_iload (pc2 := 114) rfl dX12_findTour_112 4 rfl ?_
    refine EW_aload_n (pc2 := 115) rfl dX12_findTour_114 0 rfl ?_
    refine AW_geti ⟨gfRX12_395, rfl⟩ (pc2 := 118) rfl dX12_findTour_115 q246 ?_
    refine AW_invV (M' := MX12_failsBy) [.int v4, .int (x.1 246 1)] (rest := [.int 10, .int v4, .ref 324]) mlRX12_608 okX12_failsBy (pc2 := 121) rfl dX12_findTour_118 rfl rfl (Nat.le_of_ble_eq_true rfl) (Nat.le_of_ble_eq_true rfl) (d' := 210) (by omega) q246 ⟨by decide, rfl⟩ (EW_mono (fun _ _ hr => ?_) (sX12_failsBy v4 (x.1 246 1)  x _ _ 0 0 (Nat.le_refl _) h))
    obtain ⟨r11, x12, rfl, rfl, h⟩ := hr
    refine EW_imul (pc2 := 122) rfl dX12_findTour_121 ?_
    refine EW_bipush (pc2 := 124) (v := 30) rfl dX12_findTour_122 (by decide) ?_
    refine EW_aload_n (pc2 := 125) rfl dX12_findTour_124 0 rfl ?_
    refine EW_iload (pc2 := 127) rfl dX12_findTour_125 4 rfl ?_
    refine EW_aload_n (pc2 := 128) rfl dX12_findTour_127 0 rfl ?_
    refine AW_geti ⟨gfRX12_395, rfl⟩ (pc2 := 131) rfl dX12_findTour_128 q246 ?_
    refine AW_invV (M' := MX12_daysFrom) [.int v4, .int (x12.1 246 1)] (rest := [.int 30, .int (10 * r11), .int v4, .ref 324]) mlRX12_605 okX12_daysFrom (pc2 := 134) rfl dX12_findTour_131 rfl rfl (Nat.le_of_ble_eq_true rfl) (Nat.le_of_ble_eq_true rfl) (d' := 0) (by omega) q246 ⟨by decide, rfl⟩ (EW_mono (fun _ _ hr => ?_) (sX12_daysFrom v4 (x12.1 246 1)  x12 _ _ 0 0 (Nat.le_refl _) h))
    obtain ⟨r13, rfl, rfl, h⟩ := hr
    refine AW_mmin mmRX12_311 (pc2 := 137) rfl dX12_findTour_134 (Nat.le_of_ble_eq_true rfl) (by omega) ?_
    refine EW_iadd (pc2 := 138) rfl dX12_findTour_137 ?_
    refine EW_goto (tgt := 142) dX12_findTour_138 (by decide) ?_
    obtain ⟨b14, h⟩ := h
    refine AW_iast (pc2 := 143) rfl dX12_findTour_142 q324 b14 ?_
    refine EW_iinc (v4 + 1) (pc2 := 146) rfl dX12_findTour_143 4 rfl rfl (by decide) [1, 2, 3, 4, 0] [(0, .ref 246), (1, .int v1), (2, .int v2), (3, .int (s0 + s1)), (4, .int (v4 + 1))] rfl ?_
    refine EW_goto (tgt := 30) dX12_findTour_146 (by decide) ?_
    exact hL30 (s0 + s1) (v4 + 1) (wr x12 324 (Int32.toNatClampNeg v4) ((10 * r11) + (imin 30 r13))) h
set_option maxHeartbeats 4000000 in
set_option maxRecDepth 100000 in
def wX12_findTour_74 (v1 : Int32) (v2 : Int32) (v3 : Int32) (v4 : Int32) (s1 : Int32) (s2 : Int32) (x : ab_X) (K : Int32 → ab_X → Prop) (L30 : Int32 → Int32 → ab_X → Prop) : Prop := (vp_in s1 12 ∧ isB s2 ∧ vp_in v4 12 ∧ ((((wr x 327 (Int32.toNatClampNeg s1) s2).1 327 (Int32.toNatClampNeg v4)) = 0 → wX12_findTour_91 v1 v2 v4 v3 0 (wr x 327 (Int32.toNatClampNeg s1) s2) K L30) ∧ (¬ ((wr x 327 (Int32.toNatClampNeg s1) s2).1 327 (Int32.toNatClampNeg v4)) = 0 → wX12_findTour_91 v1 v2 v4 v3 1 (wr x 327 (Int32.toNatClampNeg s1) s2) K L30)))
set_option maxHeartbeats 4000000 in
set_option maxRecDepth 100000 in
theorem sX12_findTour_74 (v1 : Int32) (v2 : Int32) (v3 : Int32) (v4 : Int32) (s1 : Int32) (s2 : Int32)  (x : ab_X) (K : Int32 → ab_X → Prop) (L30 : Int32 → Int32 → ab_X → Prop) (d bc bs : Nat) (hdp : 211 ≤ d) (hL30 : ∀ (v3 : Int32) (v4 : Int32) (x : ab_X), L30 v3 v4 x → EW MX12_findTour 30 [(0, .ref 246), (1, .int v1), (2, .int v2), (3, .int v3), (4, .int v4)] [] (aS x) d bc bs (liI K)) (h : wX12_findTour_74 v1 v2 v3 v4 s1 s2 x K L30) : EW MX12_findTour 74 [(0, .ref 246), (1, .int v1), (2, .int v2), (3, .int v3), (4, .int v4)] [.int s2, .int s1, .ref 327] (aS x) d bc bs (liI K) := by
  unfold wX12_findTour_74 at h
  obtain ⟨b6, h⟩ := h
  obtain ⟨z7, h⟩ := h
  refine AW_zast (pc2 := 75) rfl dX12_findTour_74 q327 b6 z7 ?_
  refine EW_iload_n (pc2 := 76) rfl dX12_findTour_75 3 rfl ?_
  refine EW_aload_n (pc2 := 77) rfl dX12_findTour_76 0 rfl ?_
  refine AW_getr (r := 327) ⟨gfRX12_265, rfl⟩ (pc2 := 80) rfl dX12_findTour_77 q246 rfl ?_
  refine EW_iload (pc2 := 82) rfl dX12_findTour_80 4 rfl ?_
  obtain ⟨b8, h⟩ := h
  refine AW_zald (pc2 := 83) rfl dX12_findTour_82 q327 b8 ?_
  refine EW_if_eq (tgt := 90) (pc2 := 86) rfl dX12_findTour_83 (by decide) (fun q => ?_) (fun q => ?_)
  · replace h := h.1 q
    refine EW_iconst (pc2 := 91) (v := 0) rfl dX12_findTour_90 (by decide) ?_
    refine EW_ls [0, 1, 2, 4] rfl ?_
    exact sX12_findTour_91 v1 v2 v4 v3 0 (wr x 327 (Int32.toNatClampNeg s1) s2) K L30 d bc bs hdp hL30 h
  · replace h := h.2 q
    refine EW_iconst (pc2 := 87) (v := 1) rfl dX12_findTour_86 (by decide) ?_
    refine EW_goto (tgt := 91) dX12_findTour_87 (by decide) ?_
    refine EW_ls [0, 1, 2, 4] rfl ?_
    exact sX12_findTour_91 v1 v2 v4 v3 1 (wr x 327 (Int32.toNatClampNeg s1) s2) K L30 d bc bs hdp hL30 h
set_option maxHeartbeats 4000000 in
set_option maxRecDepth 100000 in
def wX12_findTour_73 (v1 : Int32) (v2 : Int32) (v3 : Int32) (v4 : Int32) (s1 : Int32) (x : ab_X) (K : Int32 → ab_X → Prop) (L30 : Int32 → Int32 → ab_X → Prop) : Prop := wX12_findTour_74 v1 v2 v3 v4 s1 0 x K L30
set_option maxHeartbeats 4000000 in
set_option maxRecDepth 100000 in
theorem sX12_findTour_73 (v1 : Int32) (v2 : Int32) (v3 : Int32) (v4 : Int32) (s1 : Int32)  (x : ab_X) (K : Int32 → ab_X → Prop) (L30 : Int32 → Int32 → ab_X → Prop) (d bc bs : Nat) (hdp : 211 ≤ d) (hL30 : ∀ (v3 : Int32) (v4 : Int32) (x : ab_X), L30 v3 v4 x → EW MX12_findTour 30 [(0, .ref 246), (1, .int v1), (2, .int v2), (3, .int v3), (4, .int v4)] [] (aS x) d bc bs (liI K)) (h : wX12_findTour_73 v1 v2 v3 v4 s1 x K L30) : EW MX12_findTour 73 [(0, .ref 246), (1, .int v1), (2, .int v2), (3, .int v3), (4, .int v4)] [.int s1, .ref 327] (aS x) d bc bs (liI K) := by
  unfold wX12_findTour_73 at h
  refine EW_iconst (pc2 := 74) (v := 0) rfl dX12_findTour_73 (by decide) ?_
  exact sX12_findTour_74 v1 v2 v3 v4 s1 0 x K L30 d bc bs hdp hL30 h
set_option maxHeartbeats 4000000 in
set_option maxRecDepth 100000 in
def lX12_findTour_30 (v1 : Int32) (v2 : Int32) (K : Int32 → ab_X → Prop)  (L30 : Int32 → Int32 → ab_X → Prop) (v3 : Int32) (v4 : Int32) (x : ab_X) : Prop := (((x.1 246 31) ≤ v4 → wX12_tours 0 v1 0 0 (wr (wr (wr x 246 104 v1) 246 105 v2) 246 108 (-1)) (fun x3 => K 1 x3)) ∧ (¬ (x.1 246 31) ≤ v4 → ((8 ≤ v3 → wX12_findTour_73 v1 v2 v3 v4 v4 x K L30) ∧ (¬ 8 ≤ v3 → (vp_in v4 12 ∧ wX12_walkOf v1 (x.1 254 (Int32.toNatClampNeg v4)) x (fun r5 => ((1000000 ≤ r5 → wX12_findTour_73 v1 v2 v3 v4 v4 x K L30) ∧ (¬ 1000000 ≤ r5 → wX12_findTour_74 v1 v2 v3 v4 v4 1 x K L30))))))))
set_option maxHeartbeats 4000000 in
set_option maxRecDepth 100000 in
theorem sX12_findTour_30 (v1 : Int32) (v2 : Int32) (v3 : Int32) (v4 : Int32)  (x : ab_X) (K : Int32 → ab_X → Prop)  (d bc bs : Nat) (hdp : 211 ≤ d)  (h : Lp3 (lX12_findTour_30 v1 v2 K ) v3 v4 x) : EW MX12_findTour 30 [(0, .ref 246), (1, .int v1), (2, .int v2), (3, .int v3), (4, .int v4)] [] (aS x) d bc bs (liI K) := by
  refine Lp3.use (P := fun v3 v4 x => EW MX12_findTour 30 [(0, .ref 246), (1, .int v1), (2, .int v2), (3, .int v3), (4, .int v4)] [] (aS x) d bc bs (liI K)) (fun L30 v3 v4 x hL30 h => ?_) v3 v4 x h
  unfold lX12_findTour_30 at h
  refine EW_iload (pc2 := 32) rfl dX12_findTour_30 4 rfl ?_
  refine EW_aload_n (pc2 := 33) rfl dX12_findTour_32 0 rfl ?_
  refine AW_geti ⟨gfRX12_331, rfl⟩ (pc2 := 36) rfl dX12_findTour_33 q246 ?_
  refine EW_icmp_ge (tgt := 149) (pc2 := 39) rfl dX12_findTour_36 (by decide) (fun q => ?_) (fun q => ?_)
  · replace h := h.1 q
    refine EW_aload_n (pc2 := 150) rfl dX12_findTour_149 0 rfl ?_
    refine EW_iload_n (pc2 := 151) rfl dX12_findTour_150 1 rfl ?_
    refine AW_puti ⟨gfRX12_611, rfl, rfl⟩ (pc2 := 154) rfl dX12_findTour_151 q246 ?_
    refine EW_aload_n (pc2 := 155) rfl dX12_findTour_154 0 rfl ?_
    refine EW_iload_n (pc2 := 156) rfl dX12_findTour_155 2 rfl ?_
    refine AW_puti ⟨gfRX12_614, rfl, rfl⟩ (pc2 := 159) rfl dX12_findTour_156 q246 ?_
    refine EW_aload_n (pc2 := 160) rfl dX12_findTour_159 0 rfl ?_
    refine EW_iconst (pc2 := 161) (v := (-1)) rfl dX12_findTour_160 (by decide) ?_
    refine AW_puti ⟨gfRX12_617, rfl, rfl⟩ (pc2 := 164) rfl dX12_findTour_161 q246 ?_
    refine EW_aload_n (pc2 := 165) rfl dX12_findTour_164 0 rfl ?_
    refine EW_iconst (pc2 := 166) (v := 0) rfl dX12_findTour_165 (by decide) ?_
    refine EW_iload_n (pc2 := 167) rfl dX12_findTour_166 1 rfl ?_
    refine EW_iconst (pc2 := 168) (v := 0) rfl dX12_findTour_167 (by decide) ?_
    refine EW_iconst (pc2 := 169) (v := 0) rfl dX12_findTour_168 (by decide) ?_
    refine AW_invV (M' := MX12_tours) [.int 0, .int v1, .int 0, .int 0] (rest := []) mlRX12_626 okX12_tours (pc2 := 172) rfl dX12_findTour_169 rfl rfl (Nat.le_of_ble_eq_true rfl) (Nat.le_of_ble_eq_true rfl) (d' := 102) (by omega) q246 ⟨by decide, rfl⟩ (EW_mono (fun _ _ hr => ?_) (sX12_tours 0 v1 0 0  (wr (wr (wr x 246 104 v1) 246 105 v2) 246 108 (-1)) _ _ 0 0 (Nat.le_refl _) h))
    obtain ⟨x3, rfl, rfl, h⟩ := hr
    refine EW_iconst (pc2 := 173) (v := 1) rfl dX12_findTour_172 (by decide) ?_
    exact AW_zret rfl isB1 dX12_findTour_173 ⟨_, _, rfl, rfl, h⟩
  · replace h := h.2 q
    refine EW_aload_n (pc2 := 40) rfl dX12_findTour_39 0 rfl ?_
    refine AW_getr (r := 327) ⟨gfRX12_265, rfl⟩ (pc2 := 43) rfl dX12_findTour_40 q246 rfl ?_
    refine EW_iload (pc2 := 45) rfl dX12_findTour_43 4 rfl ?_
    refine EW_iload_n (pc2 := 46) rfl dX12_findTour_45 3 rfl ?_
    refine EW_bipush (pc2 := 48) (v := 8) rfl dX12_findTour_46 (by decide) ?_
    refine EW_icmp_ge (tgt := 73) (pc2 := 51) rfl dX12_findTour_48 (by decide) (fun q => ?_) (fun q => ?_)
    · replace h := h.1 q
      exact sX12_findTour_73 v1 v2 v3 v4 v4 x K L30 d bc bs hdp hL30 h
    · replace h := h.2 q
      refine EW_aload_n (pc2 := 52) rfl dX12_findTour_51 0 rfl ?_
      refine EW_iload_n (pc2 := 53) rfl dX12_findTour_52 1 rfl ?_
      refine EW_aload_n (pc2 := 54) rfl dX12_findTour_53 0 rfl ?_
      refine AW_getr (r := 254) ⟨gfRX12_32, rfl⟩ (pc2 := 57) rfl dX12_findTour_54 q246 rfl ?_
      refine EW_iload (pc2 := 59) rfl dX12_findTour_57 4 rfl ?_
      obtain ⟨b4, h⟩ := h
      refine AW_iald (pc2 := 60) rfl dX12_findTour_59 q254 b4 ?_
      refine AW_invV (M' := MX12_walkOf) [.int v1, .int (x.1 254 (Int32.toNatClampNeg v4))] (rest := [.int v4, .ref 327]) mlRX12_328 okX12_walkOf (pc2 := 63) rfl dX12_findTour_60 rfl rfl (Nat.le_of_ble_eq_true rfl) (Nat.le_of_ble_eq_true rfl) (d' := 0) (by omega) q246 ⟨by decide, rfl⟩ (EW_mono (fun _ _ hr => ?_) (sX12_walkOf v1 (x.1 254 (Int32.toNatClampNeg v4))  x _ _ 0 0 (Nat.le_refl _) h))
      obtain ⟨r5, rfl, rfl, h⟩ := hr
      refine EW_ldcw cnRX12_296 (pc2 := 66) rfl dX12_findTour_63 ?_
      refine EW_icmp_ge (tgt := 73) (pc2 := 69) rfl dX12_findTour_66 (by decide) (fun q => ?_) (fun q => ?_)
      · replace h := h.1 q
        exact sX12_findTour_73 v1 v2 v3 v4 v4 x K L30 d bc bs hdp hL30 h
      · replace h := h.2 q
        refine EW_iconst (pc2 := 70) (v := 1) rfl dX12_findTour_69 (by decide) ?_
        refine EW_goto (tgt := 74) dX12_findTour_70 (by decide) ?_
        exact sX12_findTour_74 v1 v2 v3 v4 v4 1 x K L30 d bc bs hdp hL30 h
set_option maxHeartbeats 4000000 in
set_option maxRecDepth 100000 in
def wX12_findTour (v1 : Int32) (v2 : Int32) (x : ab_X) (K : Int32 → ab_X → Prop) : Prop := wX12_isCorner v1 (wr x 246 0 0) (fun r1 => ((r1 = 0 → K 0 (wr x 246 0 0)) ∧ (¬ r1 = 0 → wX12_isIn v2 0 500 (wr x 246 0 0) (fun r2 => ((¬ r2 = 0 → Lp3 (lX12_findTour_30 v1 v2 K ) 0 0 (wr x 246 0 0)) ∧ (r2 = 0 → K 0 (wr x 246 0 0)))))))
set_option maxHeartbeats 4000000 in
set_option maxRecDepth 100000 in
theorem sX12_findTour (v1 : Int32) (v2 : Int32)  (x : ab_X) (K : Int32 → ab_X → Prop) (d bc bs : Nat) (hdp : 211 ≤ d) (h : wX12_findTour v1 v2 x K) : EW MX12_findTour 0 [(0, .ref 246), (1, .int v1), (2, .int v2)] [] (aS x) d bc bs (liI K) := by
  unfold wX12_findTour at h
  refine EW_aload_n (pc2 := 1) rfl dX12_findTour_0 0 rfl ?_
  refine EW_iconst (pc2 := 2) (v := 0) rfl dX12_findTour_1 (by decide) ?_
  refine AW_puti ⟨gfRX12_297, rfl, rfl⟩ (pc2 := 5) rfl dX12_findTour_2 q246 ?_
  refine EW_iload_n (pc2 := 6) rfl dX12_findTour_5 1 rfl ?_
  refine AW_invS (M' := MX12_isCorner) [.int v1] (rest := []) mlRX12_303 okX12_isCorner (pc2 := 9) rfl dX12_findTour_6 rfl rfl (Nat.le_of_ble_eq_true rfl) (Nat.le_of_ble_eq_true rfl) (d' := 0) (by omega) (EW_mono (fun _ _ hr => ?_) (sX12_isCorner v1  (wr x 246 0 0) _ _ 0 0 (Nat.le_refl _) h))
  obtain ⟨r1, rfl, rfl, h⟩ := hr
  refine EW_if_eq (tgt := 23) (pc2 := 12) rfl dX12_findTour_9 (by decide) (fun q => ?_) (fun q => ?_)
  · replace h := h.1 q
    refine EW_iconst (pc2 := 24) (v := 0) rfl dX12_findTour_23 (by decide) ?_
    exact AW_zret rfl isB0 dX12_findTour_24 ⟨_, _, rfl, rfl, h⟩
  · replace h := h.2 q
    refine EW_iload_n (pc2 := 13) rfl dX12_findTour_12 2 rfl ?_
    refine EW_iconst (pc2 := 14) (v := 0) rfl dX12_findTour_13 (by decide) ?_
    refine EW_sipush (pc2 := 17) (v := 500) rfl dX12_findTour_14 (by decide) ?_
    refine AW_invS (M' := MX12_isIn) [.int v2, .int 0, .int 500] (rest := []) mlRX12_307 okX12_isIn (pc2 := 20) rfl dX12_findTour_17 rfl rfl (Nat.le_of_ble_eq_true rfl) (Nat.le_of_ble_eq_true rfl) (d' := 0) (by omega) (EW_mono (fun _ _ hr => ?_) (sX12_isIn v2 0 500  (wr x 246 0 0) _ _ 0 0 (Nat.le_refl _) h))
    obtain ⟨r2, rfl, rfl, h⟩ := hr
    refine EW_if_ne (tgt := 25) (pc2 := 23) rfl dX12_findTour_20 (by decide) (fun q => ?_) (fun q => ?_)
    · replace h := h.1 q
      refine EW_iconst (pc2 := 26) (v := 0) rfl dX12_findTour_25 (by decide) ?_
      refine EW_istore_n (pc2 := 27) rfl dX12_findTour_26 (by decide) [1, 2, 3, 0] [(0, .ref 246), (1, .int v1), (2, .int v2), (3, .int 0)] rfl ?_
      refine EW_iconst (pc2 := 28) (v := 0) rfl dX12_findTour_27 (by decide) ?_
      refine EW_istore (pc2 := 30) rfl dX12_findTour_28 (by decide) [1, 2, 3, 4, 0] [(0, .ref 246), (1, .int v1), (2, .int v2), (3, .int 0), (4, .int 0)] rfl ?_
      exact sX12_findTour_30 v1 v2 0 0 (wr x 246 0 0) K d bc bs hdp h
    · replace h := h.2 q
      refine EW_iconst (pc2 := 24) (v := 0) rfl dX12_findTour_23 (by decide) ?_
      exact AW_zret rfl isB0 dX12_findTour_24 ⟨_, _, rfl, rfl, h⟩
abbrev MX12_isFloor : ab_M := (yX12_isFloor, cX12_isFloor, 3, (some .boolean))
theorem dX12_isFloor_0 : decode cX12_isFloor 0 = .ok (.aload_n 0, 1) := by decide +kernel
theorem dX12_isFloor_1 : decode cX12_isFloor 1 = .ok (.iload_n 1, 1) := by decide +kernel
theorem dX12_isFloor_2 : decode cX12_isFloor 2 = .ok (.invokevirtual 334, 3) := by decide +kernel
theorem dX12_isFloor_5 : decode cX12_isFloor 5 = .ok (.ifCond .eq 21, 3) := by decide +kernel
theorem dX12_isFloor_8 : decode cX12_isFloor 8 = .ok (.iload_n 2, 1) := by decide +kernel
theorem dX12_isFloor_9 : decode cX12_isFloor 9 = .ok (.ifCond .lt 17, 3) := by decide +kernel
theorem dX12_isFloor_12 : decode cX12_isFloor 12 = .ok (.iload_n 2, 1) := by decide +kernel
theorem dX12_isFloor_13 : decode cX12_isFloor 13 = .ok (.aload_n 0, 1) := by decide +kernel
theorem dX12_isFloor_14 : decode cX12_isFloor 14 = .ok (.getfield 38, 3) := by decide +kernel
theorem dX12_isFloor_17 : decode cX12_isFloor 17 = .ok (.iload_n 1, 1) := by decide +kernel
theorem dX12_isFloor_18 : decode cX12_isFloor 18 = .ok (.iaload, 1) := by decide +kernel
theorem dX12_isFloor_19 : decode cX12_isFloor 19 = .ok (.if_icmp .ge 7, 3) := by decide +kernel
theorem dX12_isFloor_22 : decode cX12_isFloor 22 = .ok (.iconst 1, 1) := by decide +kernel
theorem dX12_isFloor_23 : decode cX12_isFloor 23 = .ok (.goto 4, 3) := by decide +kernel
theorem dX12_isFloor_26 : decode cX12_isFloor 26 = .ok (.iconst 0, 1) := by decide +kernel
theorem dX12_isFloor_27 : decode cX12_isFloor 27 = .ok (.ireturn, 1) := by decide +kernel
theorem okX12_isFloor : ab_okM MX12_isFloor 2 := ⟨by decide, ⟨by decide, by decide⟩, ab_in 2279 (by decide +kernel) (by decide +kernel), ab_in 99 (by decide +kernel) (by decide +kernel), by decide +kernel, by decide⟩
set_option maxHeartbeats 4000000 in
set_option maxRecDepth 100000 in
def wX12_isFloor (v1 : Int32) (v2 : Int32) (x : ab_X) (K : Int32 → Prop) : Prop := wX12_isHouse v1 x (fun r1 => ((r1 = 0 → K 0) ∧ (¬ r1 = 0 → ((v2 < 0 → K 0) ∧ (¬ v2 < 0 → (vp_in v1 12 ∧ (((x.1 256 (Int32.toNatClampNeg v1)) ≤ v2 → K 0) ∧ (¬ (x.1 256 (Int32.toNatClampNeg v1)) ≤ v2 → K 1))))))))
set_option maxHeartbeats 4000000 in
set_option maxRecDepth 100000 in
theorem sX12_isFloor (v1 : Int32) (v2 : Int32)  (x : ab_X) (K : Int32 → Prop) (d bc bs : Nat) (hdp : 1 ≤ d) (h : wX12_isFloor v1 v2 x K) : EW MX12_isFloor 0 [(0, .ref 246), (1, .int v1), (2, .int v2)] [] (aS x) d bc bs (liP x K) := by
  unfold wX12_isFloor at h
  refine EW_aload_n (pc2 := 1) rfl dX12_isFloor_0 0 rfl ?_
  refine EW_iload_n (pc2 := 2) rfl dX12_isFloor_1 1 rfl ?_
  refine AW_invV (M' := MX12_isHouse) [.int v1] (rest := []) mlRX12_334 okX12_isHouse (pc2 := 5) rfl dX12_isFloor_2 rfl rfl (Nat.le_of_ble_eq_true rfl) (Nat.le_of_ble_eq_true rfl) (d' := 0) (by omega) q246 ⟨by decide, rfl⟩ (EW_mono (fun _ _ hr => ?_) (sX12_isHouse v1  x _ _ 0 0 (Nat.le_refl _) h))
  obtain ⟨r1, rfl, rfl, h⟩ := hr
  refine EW_if_eq (tgt := 26) (pc2 := 8) rfl dX12_isFloor_5 (by decide) (fun q => ?_) (fun q => ?_)
  · replace h := h.1 q
    refine EW_iconst (pc2 := 27) (v := 0) rfl dX12_isFloor_26 (by decide) ?_
    exact AW_zret rfl isB0 dX12_isFloor_27 ⟨_, rfl, rfl, h⟩
  · replace h := h.2 q
    refine EW_iload_n (pc2 := 9) rfl dX12_isFloor_8 2 rfl ?_
    refine EW_if_lt (tgt := 26) (pc2 := 12) rfl dX12_isFloor_9 (by decide) (fun q => ?_) (fun q => ?_)
    · replace h := h.1 q
      refine EW_iconst (pc2 := 27) (v := 0) rfl dX12_isFloor_26 (by decide) ?_
      exact AW_zret rfl isB0 dX12_isFloor_27 ⟨_, rfl, rfl, h⟩
    · replace h := h.2 q
      refine EW_iload_n (pc2 := 13) rfl dX12_isFloor_12 2 rfl ?_
      refine EW_aload_n (pc2 := 14) rfl dX12_isFloor_13 0 rfl ?_
      refine AW_getr (r := 256) ⟨gfRX12_38, rfl⟩ (pc2 := 17) rfl dX12_isFloor_14 q246 rfl ?_
      refine EW_iload_n (pc2 := 18) rfl dX12_isFloor_17 1 rfl ?_
      obtain ⟨b2, h⟩ := h
      refine AW_iald (pc2 := 19) rfl dX12_isFloor_18 q256 b2 ?_
      refine EW_icmp_ge (tgt := 26) (pc2 := 22) rfl dX12_isFloor_19 (by decide) (fun q => ?_) (fun q => ?_)
      · replace h := h.1 q
        refine EW_iconst (pc2 := 27) (v := 0) rfl dX12_isFloor_26 (by decide) ?_
        exact AW_zret rfl isB0 dX12_isFloor_27 ⟨_, rfl, rfl, h⟩
      · replace h := h.2 q
        refine EW_iconst (pc2 := 23) (v := 1) rfl dX12_isFloor_22 (by decide) ?_
        refine EW_goto (tgt := 27) dX12_isFloor_23 (by decide) ?_
        exact AW_zret rfl isB1 dX12_isFloor_27 ⟨_, rfl, rfl, h⟩
abbrev MX12_mark : ab_M := (yX12_mark, cX12_mark, 3, none)
theorem dX12_mark_0 : decode cX12_mark 0 = .ok (.aload_n 0, 1) := by decide +kernel
theorem dX12_mark_1 : decode cX12_mark 1 = .ok (.iload_n 1, 1) := by decide +kernel
theorem dX12_mark_2 : decode cX12_mark 2 = .ok (.invokevirtual 528, 3) := by decide +kernel
theorem dX12_mark_5 : decode cX12_mark 5 = .ok (.istore_n 2, 1) := by decide +kernel
theorem dX12_mark_6 : decode cX12_mark 6 = .ok (.iload_n 2, 1) := by decide +kernel
theorem dX12_mark_7 : decode cX12_mark 7 = .ok (.iconst (-1), 1) := by decide +kernel
theorem dX12_mark_8 : decode cX12_mark 8 = .ok (.if_icmp .eq 18, 3) := by decide +kernel
theorem dX12_mark_11 : decode cX12_mark 11 = .ok (.aload_n 0, 1) := by decide +kernel
theorem dX12_mark_12 : decode cX12_mark 12 = .ok (.iload_n 1, 1) := by decide +kernel
theorem dX12_mark_13 : decode cX12_mark 13 = .ok (.invokevirtual 531, 3) := by decide +kernel
theorem dX12_mark_16 : decode cX12_mark 16 = .ok (.ifCond .eq 10, 3) := by decide +kernel
theorem dX12_mark_19 : decode cX12_mark 19 = .ok (.aload_n 0, 1) := by decide +kernel
theorem dX12_mark_20 : decode cX12_mark 20 = .ok (.getfield 238, 3) := by decide +kernel
theorem dX12_mark_23 : decode cX12_mark 23 = .ok (.iload_n 2, 1) := by decide +kernel
theorem dX12_mark_24 : decode cX12_mark 24 = .ok (.iconst 1, 1) := by decide +kernel
theorem dX12_mark_25 : decode cX12_mark 25 = .ok (.bastore, 1) := by decide +kernel
theorem dX12_mark_26 : decode cX12_mark 26 = .ok (.return_, 1) := by decide +kernel
theorem okX12_mark : ab_okM MX12_mark 1 := ⟨by decide, ⟨by decide, by decide⟩, ab_in 2283 (by decide +kernel) (by decide +kernel), ab_in 99 (by decide +kernel) (by decide +kernel), by decide +kernel, by decide⟩
set_option maxHeartbeats 4000000 in
set_option maxRecDepth 100000 in
def wX12_mark (v1 : Int32) (x : ab_X) (K : ab_X → Prop) : Prop := wX12_openAt v1 x (fun r1 => ((r1 = (-1) → K x) ∧ (¬ r1 = (-1) → wX12_burnsAt v1 x (fun r2 => ((r2 = 0 → K x) ∧ (¬ r2 = 0 → (vp_in r1 60 ∧ K (wr x 318 (Int32.toNatClampNeg r1) 1))))))))
set_option maxHeartbeats 4000000 in
set_option maxRecDepth 100000 in
theorem sX12_mark (v1 : Int32)  (x : ab_X) (K : ab_X → Prop) (d bc bs : Nat) (hdp : 4 ≤ d) (h : wX12_mark v1 x K) : EW MX12_mark 0 [(0, .ref 246), (1, .int v1)] [] (aS x) d bc bs (liV K) := by
  unfold wX12_mark at h
  refine EW_aload_n (pc2 := 1) rfl dX12_mark_0 0 rfl ?_
  refine EW_iload_n (pc2 := 2) rfl dX12_mark_1 1 rfl ?_
  refine AW_invV (M' := MX12_openAt) [.int v1] (rest := []) mlRX12_528 okX12_openAt (pc2 := 5) rfl dX12_mark_2 rfl rfl (Nat.le_of_ble_eq_true rfl) (Nat.le_of_ble_eq_true rfl) (d' := 0) (by omega) q246 ⟨by decide, rfl⟩ (EW_mono (fun _ _ hr => ?_) (sX12_openAt v1  x _ _ 0 0 (Nat.le_refl _) h))
  obtain ⟨r1, rfl, rfl, h⟩ := hr
  refine EW_istore_n (pc2 := 6) rfl dX12_mark_5 (by decide) [1, 2, 0] [(0, .ref 246), (1, .int v1), (2, .int r1)] rfl ?_
  refine EW_iload_n (pc2 := 7) rfl dX12_mark_6 2 rfl ?_
  refine EW_iconst (pc2 := 8) (v := (-1)) rfl dX12_mark_7 (by decide) ?_
  refine EW_icmp_eq (tgt := 26) (pc2 := 11) rfl dX12_mark_8 (by decide) (fun q => ?_) (fun q => ?_)
  · replace h := h.1 q
    exact EW_vret rfl dX12_mark_26 ⟨_, rfl, rfl, h⟩
  · replace h := h.2 q
    refine EW_aload_n (pc2 := 12) rfl dX12_mark_11 0 rfl ?_
    refine EW_iload_n (pc2 := 13) rfl dX12_mark_12 1 rfl ?_
    refine AW_invV (M' := MX12_burnsAt) [.int v1] (rest := []) mlRX12_531 okX12_burnsAt (pc2 := 16) rfl dX12_mark_13 rfl rfl (Nat.le_of_ble_eq_true rfl) (Nat.le_of_ble_eq_true rfl) (d' := 3) (by omega) q246 ⟨by decide, rfl⟩ (EW_mono (fun _ _ hr => ?_) (sX12_burnsAt v1  x _ _ 0 0 (Nat.le_refl _) h))
    obtain ⟨r2, rfl, rfl, h⟩ := hr
    refine EW_if_eq (tgt := 26) (pc2 := 19) rfl dX12_mark_16 (by decide) (fun q => ?_) (fun q => ?_)
    · replace h := h.1 q
      exact EW_vret rfl dX12_mark_26 ⟨_, rfl, rfl, h⟩
    · replace h := h.2 q
      refine EW_aload_n (pc2 := 20) rfl dX12_mark_19 0 rfl ?_
      refine AW_getr (r := 318) ⟨gfRX12_238, rfl⟩ (pc2 := 23) rfl dX12_mark_20 q246 rfl ?_
      refine EW_iload_n (pc2 := 24) rfl dX12_mark_23 2 rfl ?_
      refine EW_iconst (pc2 := 25) (v := 1) rfl dX12_mark_24 (by decide) ?_
      obtain ⟨b3, h⟩ := h
      refine AW_zast (pc2 := 26) rfl dX12_mark_25 q318 b3 isB1 ?_
      exact EW_vret rfl dX12_mark_26 ⟨_, rfl, rfl, h⟩
theorem mlRX12_341 : Cond.methodLink RX12 341 yX12_mark ∈ ab_G ∧ Cond.instanceMethod yX12_mark ∈ ab_G ∧ Cond.selects RX12 yX12_mark yX12_mark ∈ ab_G := ⟨ab_in 2280 (by decide +kernel) (by decide +kernel), ab_in 2282 (by decide +kernel) (by decide +kernel), ab_in 19 (by decide +kernel) (by decide +kernel)⟩
theorem mlRX12_337 : Cond.methodLink RX12 337 yX12_isFloor ∈ ab_G ∧ Cond.instanceMethod yX12_isFloor ∈ ab_G ∧ Cond.selects RX12 yX12_isFloor yX12_isFloor ∈ ab_G := ⟨ab_in 2276 (by decide +kernel) (by decide +kernel), ab_in 2278 (by decide +kernel) (by decide +kernel), ab_in 18 (by decide +kernel) (by decide +kernel)⟩
abbrev MX12_floor : ab_M := (yX12_floor, cX12_floor, 6, (some .boolean))
theorem dX12_floor_0 : decode cX12_floor 0 = .ok (.aload_n 0, 1) := by decide +kernel
theorem dX12_floor_1 : decode cX12_floor 1 = .ok (.iconst 0, 1) := by decide +kernel
theorem dX12_floor_2 : decode cX12_floor 2 = .ok (.putfield 297, 3) := by decide +kernel
theorem dX12_floor_5 : decode cX12_floor 5 = .ok (.aload_n 0, 1) := by decide +kernel
theorem dX12_floor_6 : decode cX12_floor 6 = .ok (.iload_n 1, 1) := by decide +kernel
theorem dX12_floor_7 : decode cX12_floor 7 = .ok (.iload_n 2, 1) := by decide +kernel
theorem dX12_floor_8 : decode cX12_floor 8 = .ok (.invokevirtual 337, 3) := by decide +kernel
theorem dX12_floor_11 : decode cX12_floor 11 = .ok (.ifCond .eq 39, 3) := by decide +kernel
theorem dX12_floor_14 : decode cX12_floor 14 = .ok (.iload_n 3, 1) := by decide +kernel
theorem dX12_floor_15 : decode cX12_floor 15 = .ok (.iconst 0, 1) := by decide +kernel
theorem dX12_floor_16 : decode cX12_floor 16 = .ok (.sipush 500, 3) := by decide +kernel
theorem dX12_floor_19 : decode cX12_floor 19 = .ok (.invokestatic 307, 3) := by decide +kernel
theorem dX12_floor_22 : decode cX12_floor 22 = .ok (.ifCond .eq 28, 3) := by decide +kernel
theorem dX12_floor_25 : decode cX12_floor 25 = .ok (.iload 4, 2) := by decide +kernel
theorem dX12_floor_27 : decode cX12_floor 27 = .ok (.iconst 0, 1) := by decide +kernel
theorem dX12_floor_28 : decode cX12_floor 28 = .ok (.bipush 20, 2) := by decide +kernel
theorem dX12_floor_30 : decode cX12_floor 30 = .ok (.invokestatic 307, 3) := by decide +kernel
theorem dX12_floor_33 : decode cX12_floor 33 = .ok (.ifCond .eq 17, 3) := by decide +kernel
theorem dX12_floor_36 : decode cX12_floor 36 = .ok (.aload_n 0, 1) := by decide +kernel
theorem dX12_floor_37 : decode cX12_floor 37 = .ok (.getfield 92, 3) := by decide +kernel
theorem dX12_floor_40 : decode cX12_floor 40 = .ok (.bipush 6, 2) := by decide +kernel
theorem dX12_floor_42 : decode cX12_floor 42 = .ok (.iload_n 1, 1) := by decide +kernel
theorem dX12_floor_43 : decode cX12_floor 43 = .ok (.imul, 1) := by decide +kernel
theorem dX12_floor_44 : decode cX12_floor 44 = .ok (.iload_n 2, 1) := by decide +kernel
theorem dX12_floor_45 : decode cX12_floor 45 = .ok (.iadd, 1) := by decide +kernel
theorem dX12_floor_46 : decode cX12_floor 46 = .ok (.baload, 1) := by decide +kernel
theorem dX12_floor_47 : decode cX12_floor 47 = .ok (.ifCond .eq 5, 3) := by decide +kernel
theorem dX12_floor_50 : decode cX12_floor 50 = .ok (.iconst 0, 1) := by decide +kernel
theorem dX12_floor_51 : decode cX12_floor 51 = .ok (.ireturn, 1) := by decide +kernel
theorem dX12_floor_52 : decode cX12_floor 52 = .ok (.iconst 0, 1) := by decide +kernel
theorem dX12_floor_53 : decode cX12_floor 53 = .ok (.istore 5, 2) := by decide +kernel
theorem dX12_floor_55 : decode cX12_floor 55 = .ok (.iload 5, 2) := by decide +kernel
theorem dX12_floor_57 : decode cX12_floor 57 = .ok (.aload_n 0, 1) := by decide +kernel
theorem dX12_floor_58 : decode cX12_floor 58 = .ok (.getfield 41, 3) := by decide +kernel
theorem dX12_floor_61 : decode cX12_floor 61 = .ok (.iload_n 1, 1) := by decide +kernel
theorem dX12_floor_62 : decode cX12_floor 62 = .ok (.iaload, 1) := by decide +kernel
theorem dX12_floor_63 : decode cX12_floor 63 = .ok (.if_icmp .ge 31, 3) := by decide +kernel
theorem dX12_floor_66 : decode cX12_floor 66 = .ok (.aload_n 0, 1) := by decide +kernel
theorem dX12_floor_67 : decode cX12_floor 67 = .ok (.getfield 71, 3) := by decide +kernel
theorem dX12_floor_70 : decode cX12_floor 70 = .ok (.bipush 24, 2) := by decide +kernel
theorem dX12_floor_72 : decode cX12_floor 72 = .ok (.iload_n 1, 1) := by decide +kernel
theorem dX12_floor_73 : decode cX12_floor 73 = .ok (.imul, 1) := by decide +kernel
theorem dX12_floor_74 : decode cX12_floor 74 = .ok (.iload_n 2, 1) := by decide +kernel
theorem dX12_floor_75 : decode cX12_floor 75 = .ok (.aload_n 0, 1) := by decide +kernel
theorem dX12_floor_76 : decode cX12_floor 76 = .ok (.getfield 41, 3) := by decide +kernel
theorem dX12_floor_79 : decode cX12_floor 79 = .ok (.iload_n 1, 1) := by decide +kernel
theorem dX12_floor_80 : decode cX12_floor 80 = .ok (.iaload, 1) := by decide +kernel
theorem dX12_floor_81 : decode cX12_floor 81 = .ok (.imul, 1) := by decide +kernel
theorem dX12_floor_82 : decode cX12_floor 82 = .ok (.iadd, 1) := by decide +kernel
theorem dX12_floor_83 : decode cX12_floor 83 = .ok (.iload 5, 2) := by decide +kernel
theorem dX12_floor_85 : decode cX12_floor 85 = .ok (.iadd, 1) := by decide +kernel
theorem dX12_floor_86 : decode cX12_floor 86 = .ok (.iload_n 3, 1) := by decide +kernel
theorem dX12_floor_87 : decode cX12_floor 87 = .ok (.iastore, 1) := by decide +kernel
theorem dX12_floor_88 : decode cX12_floor 88 = .ok (.iinc 5 1, 3) := by decide +kernel
theorem dX12_floor_91 : decode cX12_floor 91 = .ok (.goto (-36), 3) := by decide +kernel
theorem dX12_floor_94 : decode cX12_floor 94 = .ok (.aload_n 0, 1) := by decide +kernel
theorem dX12_floor_95 : decode cX12_floor 95 = .ok (.getfield 89, 3) := by decide +kernel
theorem dX12_floor_98 : decode cX12_floor 98 = .ok (.bipush 6, 2) := by decide +kernel
theorem dX12_floor_100 : decode cX12_floor 100 = .ok (.iload_n 1, 1) := by decide +kernel
theorem dX12_floor_101 : decode cX12_floor 101 = .ok (.imul, 1) := by decide +kernel
theorem dX12_floor_102 : decode cX12_floor 102 = .ok (.iload_n 2, 1) := by decide +kernel
theorem dX12_floor_103 : decode cX12_floor 103 = .ok (.iadd, 1) := by decide +kernel
theorem dX12_floor_104 : decode cX12_floor 104 = .ok (.iload_n 3, 1) := by decide +kernel
theorem dX12_floor_105 : decode cX12_floor 105 = .ok (.iastore, 1) := by decide +kernel
theorem dX12_floor_106 : decode cX12_floor 106 = .ok (.aload_n 0, 1) := by decide +kernel
theorem dX12_floor_107 : decode cX12_floor 107 = .ok (.getfield 86, 3) := by decide +kernel
theorem dX12_floor_110 : decode cX12_floor 110 = .ok (.bipush 6, 2) := by decide +kernel
theorem dX12_floor_112 : decode cX12_floor 112 = .ok (.iload_n 1, 1) := by decide +kernel
theorem dX12_floor_113 : decode cX12_floor 113 = .ok (.imul, 1) := by decide +kernel
theorem dX12_floor_114 : decode cX12_floor 114 = .ok (.iload_n 2, 1) := by decide +kernel
theorem dX12_floor_115 : decode cX12_floor 115 = .ok (.iadd, 1) := by decide +kernel
theorem dX12_floor_116 : decode cX12_floor 116 = .ok (.iload 4, 2) := by decide +kernel
theorem dX12_floor_118 : decode cX12_floor 118 = .ok (.iastore, 1) := by decide +kernel
theorem dX12_floor_119 : decode cX12_floor 119 = .ok (.aload_n 0, 1) := by decide +kernel
theorem dX12_floor_120 : decode cX12_floor 120 = .ok (.aload_n 0, 1) := by decide +kernel
theorem dX12_floor_121 : decode cX12_floor 121 = .ok (.getfield 32, 3) := by decide +kernel
theorem dX12_floor_124 : decode cX12_floor 124 = .ok (.iload_n 1, 1) := by decide +kernel
theorem dX12_floor_125 : decode cX12_floor 125 = .ok (.iaload, 1) := by decide +kernel
theorem dX12_floor_126 : decode cX12_floor 126 = .ok (.invokevirtual 341, 3) := by decide +kernel
theorem dX12_floor_129 : decode cX12_floor 129 = .ok (.iconst 1, 1) := by decide +kernel
theorem dX12_floor_130 : decode cX12_floor 130 = .ok (.ireturn, 1) := by decide +kernel
theorem okX12_floor : ab_okM MX12_floor 4 := ⟨by decide, ⟨by decide, by decide⟩, ab_in 2275 (by decide +kernel) (by decide +kernel), ab_in 99 (by decide +kernel) (by decide +kernel), by decide +kernel, by decide⟩
set_option maxHeartbeats 4000000 in
set_option maxRecDepth 100000 in
def lX12_floor_55 (v1 : Int32) (v2 : Int32) (v3 : Int32) (v4 : Int32) (K : Int32 → ab_X → Prop)  (L55 : Int32 → ab_X → Prop) (v5 : Int32) (x : ab_X) : Prop := (vp_in v1 12 ∧ (((x.1 257 (Int32.toNatClampNeg v1)) ≤ v5 → (vp_in ((6 * v1) + v2) 72 ∧ vp_in ((6 * v1) + v2) 72 ∧ vp_in v1 12 ∧ wX12_mark ((wr (wr x 273 (Int32.toNatClampNeg ((6 * v1) + v2)) v3) 272 (Int32.toNatClampNeg ((6 * v1) + v2)) v4).1 254 (Int32.toNatClampNeg v1)) (wr (wr x 273 (Int32.toNatClampNeg ((6 * v1) + v2)) v3) 272 (Int32.toNatClampNeg ((6 * v1) + v2)) v4) (fun x9 => K 1 x9))) ∧ (¬ (x.1 257 (Int32.toNatClampNeg v1)) ≤ v5 → (vp_in v1 12 ∧ vp_in (((24 * v1) + (v2 * (x.1 257 (Int32.toNatClampNeg v1)))) + v5) 288 ∧ L55 (v5 + 1) (wr x 267 (Int32.toNatClampNeg (((24 * v1) + (v2 * (x.1 257 (Int32.toNatClampNeg v1)))) + v5)) v3)))))
set_option maxHeartbeats 4000000 in
set_option maxRecDepth 100000 in
theorem sX12_floor_55 (v1 : Int32) (v2 : Int32) (v3 : Int32) (v4 : Int32) (v5 : Int32)  (x : ab_X) (K : Int32 → ab_X → Prop)  (d bc bs : Nat) (hdp : 5 ≤ d)  (h : Lp2 (lX12_floor_55 v1 v2 v3 v4 K ) v5 x) : EW MX12_floor 55 [(0, .ref 246), (1, .int v1), (2, .int v2), (3, .int v3), (4, .int v4), (5, .int v5)] [] (aS x) d bc bs (liI K) := by
  refine Lp2.use (P := fun v5 x => EW MX12_floor 55 [(0, .ref 246), (1, .int v1), (2, .int v2), (3, .int v3), (4, .int v4), (5, .int v5)] [] (aS x) d bc bs (liI K)) (fun L55 v5 x hL55 h => ?_) v5 x h
  unfold lX12_floor_55 at h
  refine EW_iload (pc2 := 57) rfl dX12_floor_55 5 rfl ?_
  refine EW_aload_n (pc2 := 58) rfl dX12_floor_57 0 rfl ?_
  refine AW_getr (r := 257) ⟨gfRX12_41, rfl⟩ (pc2 := 61) rfl dX12_floor_58 q246 rfl ?_
  refine EW_iload_n (pc2 := 62) rfl dX12_floor_61 1 rfl ?_
  obtain ⟨b5, h⟩ := h
  refine AW_iald (pc2 := 63) rfl dX12_floor_62 q257 b5 ?_
  refine EW_icmp_ge (tgt := 94) (pc2 := 66) rfl dX12_floor_63 (by decide) (fun q => ?_) (fun q => ?_)
  · replace h := h.1 q
    refine EW_aload_n (pc2 := 95) rfl dX12_floor_94 0 rfl ?_
    refine AW_getr (r := 273) ⟨gfRX12_89, rfl⟩ (pc2 := 98) rfl dX12_floor_95 q246 rfl ?_
    refine EW_bipush (pc2 := 100) (v := 6) rfl dX12_floor_98 (by decide) ?_
    refine EW_iload_n (pc2 := 101) rfl dX12_floor_100 1 rfl ?_
    refine EW_imul (pc2 := 102) rfl dX12_floor_101 ?_
    refine EW_iload_n (pc2 := 103) rfl dX12_floor_102 2 rfl ?_
    refine EW_iadd (pc2 := 104) rfl dX12_floor_103 ?_
    refine EW_iload_n (pc2 := 105) rfl dX12_floor_104 3 rfl ?_
    obtain ⟨b6, h⟩ := h
    refine AW_iast (pc2 := 106) rfl dX12_floor_105 q273 b6 ?_
    refine EW_aload_n (pc2 := 107) rfl dX12_floor_106 0 rfl ?_
    refine AW_getr (r := 272) ⟨gfRX12_86, rfl⟩ (pc2 := 110) rfl dX12_floor_107 q246 rfl ?_
    refine EW_bipush (pc2 := 112) (v := 6) rfl dX12_floor_110 (by decide) ?_
    refine EW_iload_n (pc2 := 113) rfl dX12_floor_112 1 rfl ?_
    refine EW_imul (pc2 := 114) rfl dX12_floor_113 ?_
    refine EW_iload_n (pc2 := 115) rfl dX12_floor_114 2 rfl ?_
    refine EW_iadd (pc2 := 116) rfl dX12_floor_115 ?_
    refine EW_iload (pc2 := 118) rfl dX12_floor_116 4 rfl ?_
    obtain ⟨b7, h⟩ := h
    refine AW_iast (pc2 := 119) rfl dX12_floor_118 q272 b7 ?_
    refine EW_aload_n (pc2 := 120) rfl dX12_floor_119 0 rfl ?_
    refine EW_aload_n (pc2 := 121) rfl dX12_floor_120 0 rfl ?_
    refine AW_getr (r := 254) ⟨gfRX12_32, rfl⟩ (pc2 := 124) rfl dX12_floor_121 q246 rfl ?_
    refine EW_iload_n (pc2 := 125) rfl dX12_floor_124 1 rfl ?_
    obtain ⟨b8, h⟩ := h
    refine AW_iald (pc2 := 126) rfl dX12_floor_125 q254 b8 ?_
    refine AW_invV (M' := MX12_mark) [.int ((wr (wr x 273 (Int32.toNatClampNeg ((6 * v1) + v2)) v3) 272 (Int32.toNatClampNeg ((6 * v1) + v2)) v4).1 254 (Int32.toNatClampNeg v1))] (rest := []) mlRX12_341 okX12_mark (pc2 := 129) rfl dX12_floor_126 rfl rfl (Nat.le_of_ble_eq_true rfl) (Nat.le_of_ble_eq_true rfl) (d' := 4) (by omega) q246 ⟨by decide, rfl⟩ (EW_mono (fun _ _ hr => ?_) (sX12_mark ((wr (wr x 273 (Int32.toNatClampNeg ((6 * v1) + v2)) v3) 272 (Int32.toNatClampNeg ((6 * v1) + v2)) v4).1 254 (Int32.toNatClampNeg v1))  (wr (wr x 273 (Int32.toNatClampNeg ((6 * v1) + v2)) v3) 272 (Int32.toNatClampNeg ((6 * v1) + v2)) v4) _ _ 0 0 (Nat.le_refl _) h))
    obtain ⟨x9, rfl, rfl, h⟩ := hr
    refine EW_iconst (pc2 := 130) (v := 1) rfl dX12_floor_129 (by decide) ?_
    exact AW_zret rfl isB1 dX12_floor_130 ⟨_, _, rfl, rfl, h⟩
  · replace h := h.2 q
    refine EW_aload_n (pc2 := 67) rfl dX12_floor_66 0 rfl ?_
    refine AW_getr (r := 267) ⟨gfRX12_71, rfl⟩ (pc2 := 70) rfl dX12_floor_67 q246 rfl ?_
    refine EW_bipush (pc2 := 72) (v := 24) rfl dX12_floor_70 (by decide) ?_
    refine EW_iload_n (pc2 := 73) rfl dX12_floor_72 1 rfl ?_
    refine EW_imul (pc2 := 74) rfl dX12_floor_73 ?_
    refine EW_iload_n (pc2 := 75) rfl dX12_floor_74 2 rfl ?_
    refine EW_aload_n (pc2 := 76) rfl dX12_floor_75 0 rfl ?_
    refine AW_getr (r := 257) ⟨gfRX12_41, rfl⟩ (pc2 := 79) rfl dX12_floor_76 q246 rfl ?_
    refine EW_iload_n (pc2 := 80) rfl dX12_floor_79 1 rfl ?_
    obtain ⟨b10, h⟩ := h
    refine AW_iald (pc2 := 81) rfl dX12_floor_80 q257 b10 ?_
    refine EW_imul (pc2 := 82) rfl dX12_floor_81 ?_
    refine EW_iadd (pc2 := 83) rfl dX12_floor_82 ?_
    refine EW_iload (pc2 := 85) rfl dX12_floor_83 5 rfl ?_
    refine EW_iadd (pc2 := 86) rfl dX12_floor_85 ?_
    refine EW_iload_n (pc2 := 87) rfl dX12_floor_86 3 rfl ?_
    obtain ⟨b11, h⟩ := h
    refine AW_iast (pc2 := 88) rfl dX12_floor_87 q267 b11 ?_
    refine EW_iinc (v5 + 1) (pc2 := 91) rfl dX12_floor_88 5 rfl rfl (by decide) [1, 2, 3, 4, 5, 0] [(0, .ref 246), (1, .int v1), (2, .int v2), (3, .int v3), (4, .int v4), (5, .int (v5 + 1))] rfl ?_
    refine EW_goto (tgt := 55) dX12_floor_91 (by decide) ?_
    exact hL55 (v5 + 1) (wr x 267 (Int32.toNatClampNeg (((24 * v1) + (v2 * (x.1 257 (Int32.toNatClampNeg v1)))) + v5)) v3) h
set_option maxHeartbeats 4000000 in
set_option maxRecDepth 100000 in
def wX12_floor (v1 : Int32) (v2 : Int32) (v3 : Int32) (v4 : Int32) (x : ab_X) (K : Int32 → ab_X → Prop) : Prop := wX12_isFloor v1 v2 (wr x 246 0 0) (fun r1 => ((r1 = 0 → K 0 (wr x 246 0 0)) ∧ (¬ r1 = 0 → wX12_isIn v3 0 500 (wr x 246 0 0) (fun r2 => ((r2 = 0 → K 0 (wr x 246 0 0)) ∧ (¬ r2 = 0 → wX12_isIn v4 0 20 (wr x 246 0 0) (fun r3 => ((r3 = 0 → K 0 (wr x 246 0 0)) ∧ (¬ r3 = 0 → (vp_in ((6 * v1) + v2) 72 ∧ ((((wr x 246 0 0).1 274 (Int32.toNatClampNeg ((6 * v1) + v2))) = 0 → Lp2 (lX12_floor_55 v1 v2 v3 v4 K ) 0 (wr x 246 0 0)) ∧ (¬ ((wr x 246 0 0).1 274 (Int32.toNatClampNeg ((6 * v1) + v2))) = 0 → K 0 (wr x 246 0 0)))))))))))))
set_option maxHeartbeats 4000000 in
set_option maxRecDepth 100000 in
theorem sX12_floor (v1 : Int32) (v2 : Int32) (v3 : Int32) (v4 : Int32)  (x : ab_X) (K : Int32 → ab_X → Prop) (d bc bs : Nat) (hdp : 5 ≤ d) (h : wX12_floor v1 v2 v3 v4 x K) : EW MX12_floor 0 [(0, .ref 246), (1, .int v1), (2, .int v2), (3, .int v3), (4, .int v4)] [] (aS x) d bc bs (liI K) := by
  unfold wX12_floor at h
  refine EW_aload_n (pc2 := 1) rfl dX12_floor_0 0 rfl ?_
  refine EW_iconst (pc2 := 2) (v := 0) rfl dX12_floor_1 (by decide) ?_
  refine AW_puti ⟨gfRX12_297, rfl, rfl⟩ (pc2 := 5) rfl dX12_floor_2 q246 ?_
  refine EW_aload_n (pc2 := 6) rfl dX12_floor_5 0 rfl ?_
  refine EW_iload_n (pc2 := 7) rfl dX12_floor_6 1 rfl ?_
  refine EW_iload_n (pc2 := 8) rfl dX12_floor_7 2 rfl ?_
  refine AW_invV (M' := MX12_isFloor) [.int v1, .int v2] (rest := []) mlRX12_337 okX12_isFloor (pc2 := 11) rfl dX12_floor_8 rfl rfl (Nat.le_of_ble_eq_true rfl) (Nat.le_of_ble_eq_true rfl) (d' := 1) (by omega) q246 ⟨by decide, rfl⟩ (EW_mono (fun _ _ hr => ?_) (sX12_isFloor v1 v2  (wr x 246 0 0) _ _ 0 0 (Nat.le_refl _) h))
  obtain ⟨r1, rfl, rfl, h⟩ := hr
  refine EW_if_eq (tgt := 50) (pc2 := 14) rfl dX12_floor_11 (by decide) (fun q => ?_) (fun q => ?_)
  · replace h := h.1 q
    refine EW_iconst (pc2 := 51) (v := 0) rfl dX12_floor_50 (by decide) ?_
    exact AW_zret rfl isB0 dX12_floor_51 ⟨_, _, rfl, rfl, h⟩
  · replace h := h.2 q
    refine EW_iload_n (pc2 := 15) rfl dX12_floor_14 3 rfl ?_
    refine EW_iconst (pc2 := 16) (v := 0) rfl dX12_floor_15 (by decide) ?_
    refine EW_sipush (pc2 := 19) (v := 500) rfl dX12_floor_16 (by decide) ?_
    refine AW_invS (M' := MX12_isIn) [.int v3, .int 0, .int 500] (rest := []) mlRX12_307 okX12_isIn (pc2 := 22) rfl dX12_floor_19 rfl rfl (Nat.le_of_ble_eq_true rfl) (Nat.le_of_ble_eq_true rfl) (d' := 0) (by omega) (EW_mono (fun _ _ hr => ?_) (sX12_isIn v3 0 500  (wr x 246 0 0) _ _ 0 0 (Nat.le_refl _) h))
    obtain ⟨r2, rfl, rfl, h⟩ := hr
    refine EW_if_eq (tgt := 50) (pc2 := 25) rfl dX12_floor_22 (by decide) (fun q => ?_) (fun q => ?_)
    · replace h := h.1 q
      refine EW_iconst (pc2 := 51) (v := 0) rfl dX12_floor_50 (by decide) ?_
      exact AW_zret rfl isB0 dX12_floor_51 ⟨_, _, rfl, rfl, h⟩
    · replace h := h.2 q
      refine EW_iload (pc2 := 27) rfl dX12_floor_25 4 rfl ?_
      refine EW_iconst (pc2 := 28) (v := 0) rfl dX12_floor_27 (by decide) ?_
      refine EW_bipush (pc2 := 30) (v := 20) rfl dX12_floor_28 (by decide) ?_
      refine AW_invS (M' := MX12_isIn) [.int v4, .int 0, .int 20] (rest := []) mlRX12_307 okX12_isIn (pc2 := 33) rfl dX12_floor_30 rfl rfl (Nat.le_of_ble_eq_true rfl) (Nat.le_of_ble_eq_true rfl) (d' := 0) (by omega) (EW_mono (fun _ _ hr => ?_) (sX12_isIn v4 0 20  (wr x 246 0 0) _ _ 0 0 (Nat.le_refl _) h))
      obtain ⟨r3, rfl, rfl, h⟩ := hr
      refine EW_if_eq (tgt := 50) (pc2 := 36) rfl dX12_floor_33 (by decide) (fun q => ?_) (fun q => ?_)
      · replace h := h.1 q
        refine EW_iconst (pc2 := 51) (v := 0) rfl dX12_floor_50 (by decide) ?_
        exact AW_zret rfl isB0 dX12_floor_51 ⟨_, _, rfl, rfl, h⟩
      · replace h := h.2 q
        refine EW_aload_n (pc2 := 37) rfl dX12_floor_36 0 rfl ?_
        refine AW_getr (r := 274) ⟨gfRX12_92, rfl⟩ (pc2 := 40) rfl dX12_floor_37 q246 rfl ?_
        refine EW_bipush (pc2 := 42) (v := 6) rfl dX12_floor_40 (by decide) ?_
        refine EW_iload_n (pc2 := 43) rfl dX12_floor_42 1 rfl ?_
        refine EW_imul (pc2 := 44) rfl dX12_floor_43 ?_
        refine EW_iload_n (pc2 := 45) rfl dX12_floor_44 2 rfl ?_
        refine EW_iadd (pc2 := 46) rfl dX12_floor_45 ?_
        obtain ⟨b4, h⟩ := h
        refine AW_zald (pc2 := 47) rfl dX12_floor_46 q274 b4 ?_
        refine EW_if_eq (tgt := 52) (pc2 := 50) rfl dX12_floor_47 (by decide) (fun q => ?_) (fun q => ?_)
        · replace h := h.1 q
          refine EW_iconst (pc2 := 53) (v := 0) rfl dX12_floor_52 (by decide) ?_
          refine EW_istore (pc2 := 55) rfl dX12_floor_53 (by decide) [1, 2, 3, 4, 5, 0] [(0, .ref 246), (1, .int v1), (2, .int v2), (3, .int v3), (4, .int v4), (5, .int 0)] rfl ?_
          exact sX12_floor_55 v1 v2 v3 v4 0 (wr x 246 0 0) K d bc bs hdp h
        · replace h := h.2 q
          refine EW_iconst (pc2 := 51) (v := 0) rfl dX12_floor_50 (by decide) ?_
          exact AW_zret rfl isB0 dX12_floor_51 ⟨_, _, rfl, rfl, h⟩
