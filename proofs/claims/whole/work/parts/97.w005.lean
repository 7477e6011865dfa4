theorem mlRX0_381 : Cond.methodLink RX0 381 yX0_pour ∈ ab_G ∧ Cond.instanceMethod yX0_pour ∈ ab_G ∧ Cond.selects RX0 yX0_pour yX0_pour ∈ ab_G := ⟨ab_in 1433 (by decide +kernel) (by decide +kernel), ab_in 1434 (by decide +kernel) (by decide +kernel), ab_in 1435 (by decide +kernel) (by decide +kernel)⟩
theorem mlRX0_270 : Cond.methodLink RX0 270 yX3_dry ∈ ab_G ∧ Cond.instanceMethod yX3_dry ∈ ab_G ∧ Cond.selects RX3 yX3_dry yX3_dry ∈ ab_G := ⟨ab_in 1382 (by decide +kernel) (by decide +kernel), ab_in 1383 (by decide +kernel) (by decide +kernel), ab_in 1384 (by decide +kernel) (by decide +kernel)⟩
theorem mlRX0_375 : Cond.methodLink RX0 375 yJ7_fill_53178 ∈ ab_G ∧ Cond.static yJ7_fill_53178 ∈ ab_G := ⟨ab_in 1432 (by decide +kernel) (by decide +kernel), ab_in 128 (by decide +kernel) (by decide +kernel)⟩
abbrev MX0_shareWater : ab_M := (yX0_shareWater, cX0_shareWater, 2, none)
theorem dX0_shareWater_0 : decode cX0_shareWater 0 = .ok (.aload_n 0, 1) := by decide +kernel
theorem dX0_shareWater_1 : decode cX0_shareWater 1 = .ok (.getfield 49, 3) := by decide +kernel
theorem dX0_shareWater_4 : decode cX0_shareWater 4 = .ok (.getfield 100, 3) := by decide +kernel
theorem dX0_shareWater_7 : decode cX0_shareWater 7 = .ok (.invokevirtual 270, 3) := by decide +kernel
theorem dX0_shareWater_10 : decode cX0_shareWater 10 = .ok (.aload_n 0, 1) := by decide +kernel
theorem dX0_shareWater_11 : decode cX0_shareWater 11 = .ok (.getfield 42, 3) := by decide +kernel
theorem dX0_shareWater_14 : decode cX0_shareWater 14 = .ok (.iconst 0, 1) := by decide +kernel
theorem dX0_shareWater_15 : decode cX0_shareWater 15 = .ok (.invokestatic 375, 3) := by decide +kernel
theorem dX0_shareWater_18 : decode cX0_shareWater 18 = .ok (.iconst 0, 1) := by decide +kernel
theorem dX0_shareWater_19 : decode cX0_shareWater 19 = .ok (.istore_n 1, 1) := by decide +kernel
theorem dX0_shareWater_20 : decode cX0_shareWater 20 = .ok (.iload_n 1, 1) := by decide +kernel
theorem dX0_shareWater_21 : decode cX0_shareWater 21 = .ok (.aload_n 0, 1) := by decide +kernel
theorem dX0_shareWater_22 : decode cX0_shareWater 22 = .ok (.getfield 55, 3) := by decide +kernel
theorem dX0_shareWater_25 : decode cX0_shareWater 25 = .ok (.if_icmp .ge 52, 3) := by decide +kernel
theorem dX0_shareWater_28 : decode cX0_shareWater 28 = .ok (.aload_n 0, 1) := by decide +kernel
theorem dX0_shareWater_29 : decode cX0_shareWater 29 = .ok (.getfield 11, 3) := by decide +kernel
theorem dX0_shareWater_32 : decode cX0_shareWater 32 = .ok (.iload_n 1, 1) := by decide +kernel
theorem dX0_shareWater_33 : decode cX0_shareWater 33 = .ok (.aaload, 1) := by decide +kernel
theorem dX0_shareWater_34 : decode cX0_shareWater 34 = .ok (.getfield 332, 3) := by decide +kernel
theorem dX0_shareWater_37 : decode cX0_shareWater 37 = .ok (.bipush 6, 2) := by decide +kernel
theorem dX0_shareWater_39 : decode cX0_shareWater 39 = .ok (.invokestatic 59, 3) := by decide +kernel
theorem dX0_shareWater_42 : decode cX0_shareWater 42 = .ok (.ifCond .eq 29, 3) := by decide +kernel
theorem dX0_shareWater_45 : decode cX0_shareWater 45 = .ok (.aload_n 0, 1) := by decide +kernel
theorem dX0_shareWater_46 : decode cX0_shareWater 46 = .ok (.getfield 42, 3) := by decide +kernel
theorem dX0_shareWater_49 : decode cX0_shareWater 49 = .ok (.aload_n 0, 1) := by decide +kernel
theorem dX0_shareWater_50 : decode cX0_shareWater 50 = .ok (.getfield 11, 3) := by decide +kernel
theorem dX0_shareWater_53 : decode cX0_shareWater 53 = .ok (.iload_n 1, 1) := by decide +kernel
theorem dX0_shareWater_54 : decode cX0_shareWater 54 = .ok (.aaload, 1) := by decide +kernel
theorem dX0_shareWater_55 : decode cX0_shareWater 55 = .ok (.getfield 332, 3) := by decide +kernel
theorem dX0_shareWater_58 : decode cX0_shareWater 58 = .ok (.dup2, 1) := by decide +kernel
theorem dX0_shareWater_59 : decode cX0_shareWater 59 = .ok (.iaload, 1) := by decide +kernel
theorem dX0_shareWater_60 : decode cX0_shareWater 60 = .ok (.aload_n 0, 1) := by decide +kernel
theorem dX0_shareWater_61 : decode cX0_shareWater 61 = .ok (.getfield 11, 3) := by decide +kernel
theorem dX0_shareWater_64 : decode cX0_shareWater 64 = .ok (.iload_n 1, 1) := by decide +kernel
theorem dX0_shareWater_65 : decode cX0_shareWater 65 = .ok (.aaload, 1) := by decide +kernel
theorem dX0_shareWater_66 : decode cX0_shareWater 66 = .ok (.getfield 338, 3) := by decide +kernel
theorem dX0_shareWater_69 : decode cX0_shareWater 69 = .ok (.iadd, 1) := by decide +kernel
theorem dX0_shareWater_70 : decode cX0_shareWater 70 = .ok (.iastore, 1) := by decide +kernel
theorem dX0_shareWater_71 : decode cX0_shareWater 71 = .ok (.iinc 1 1, 3) := by decide +kernel
theorem dX0_shareWater_74 : decode cX0_shareWater 74 = .ok (.goto (-54), 3) := by decide +kernel
theorem dX0_shareWater_77 : decode cX0_shareWater 77 = .ok (.iconst 0, 1) := by decide +kernel
theorem dX0_shareWater_78 : decode cX0_shareWater 78 = .ok (.istore_n 1, 1) := by decide +kernel
theorem dX0_shareWater_79 : decode cX0_shareWater 79 = .ok (.iload_n 1, 1) := by decide +kernel
theorem dX0_shareWater_80 : decode cX0_shareWater 80 = .ok (.aload_n 0, 1) := by decide +kernel
theorem dX0_shareWater_81 : decode cX0_shareWater 81 = .ok (.getfield 55, 3) := by decide +kernel
theorem dX0_shareWater_84 : decode cX0_shareWater 84 = .ok (.if_icmp .ge 72, 3) := by decide +kernel
theorem dX0_shareWater_87 : decode cX0_shareWater 87 = .ok (.aload_n 0, 1) := by decide +kernel
theorem dX0_shareWater_88 : decode cX0_shareWater 88 = .ok (.getfield 11, 3) := by decide +kernel
theorem dX0_shareWater_91 : decode cX0_shareWater 91 = .ok (.iload_n 1, 1) := by decide +kernel
theorem dX0_shareWater_92 : decode cX0_shareWater 92 = .ok (.aaload, 1) := by decide +kernel
theorem dX0_shareWater_93 : decode cX0_shareWater 93 = .ok (.getfield 332, 3) := by decide +kernel
theorem dX0_shareWater_96 : decode cX0_shareWater 96 = .ok (.bipush 6, 2) := by decide +kernel
theorem dX0_shareWater_98 : decode cX0_shareWater 98 = .ok (.invokestatic 59, 3) := by decide +kernel
theorem dX0_shareWater_101 : decode cX0_shareWater 101 = .ok (.ifCond .eq 49, 3) := by decide +kernel
theorem dX0_shareWater_104 : decode cX0_shareWater 104 = .ok (.aload_n 0, 1) := by decide +kernel
theorem dX0_shareWater_105 : decode cX0_shareWater 105 = .ok (.getfield 49, 3) := by decide +kernel
theorem dX0_shareWater_108 : decode cX0_shareWater 108 = .ok (.aload_n 0, 1) := by decide +kernel
theorem dX0_shareWater_109 : decode cX0_shareWater 109 = .ok (.getfield 11, 3) := by decide +kernel
theorem dX0_shareWater_112 : decode cX0_shareWater 112 = .ok (.iload_n 1, 1) := by decide +kernel
theorem dX0_shareWater_113 : decode cX0_shareWater 113 = .ok (.aaload, 1) := by decide +kernel
theorem dX0_shareWater_114 : decode cX0_shareWater 114 = .ok (.getfield 78, 3) := by decide +kernel
theorem dX0_shareWater_117 : decode cX0_shareWater 117 = .ok (.invokevirtual 263, 3) := by decide +kernel
theorem dX0_shareWater_120 : decode cX0_shareWater 120 = .ok (.ifCond .eq 30, 3) := by decide +kernel
theorem dX0_shareWater_123 : decode cX0_shareWater 123 = .ok (.aload_n 0, 1) := by decide +kernel
theorem dX0_shareWater_124 : decode cX0_shareWater 124 = .ok (.aload_n 0, 1) := by decide +kernel
theorem dX0_shareWater_125 : decode cX0_shareWater 125 = .ok (.getfield 11, 3) := by decide +kernel
theorem dX0_shareWater_128 : decode cX0_shareWater 128 = .ok (.iload_n 1, 1) := by decide +kernel
theorem dX0_shareWater_129 : decode cX0_shareWater 129 = .ok (.aaload, 1) := by decide +kernel
theorem dX0_shareWater_130 : decode cX0_shareWater 130 = .ok (.aload_n 0, 1) := by decide +kernel
theorem dX0_shareWater_131 : decode cX0_shareWater 131 = .ok (.getfield 49, 3) := by decide +kernel
theorem dX0_shareWater_134 : decode cX0_shareWater 134 = .ok (.getfield 148, 3) := by decide +kernel
theorem dX0_shareWater_137 : decode cX0_shareWater 137 = .ok (.aload_n 0, 1) := by decide +kernel
theorem dX0_shareWater_138 : decode cX0_shareWater 138 = .ok (.getfield 11, 3) := by decide +kernel
theorem dX0_shareWater_141 : decode cX0_shareWater 141 = .ok (.iload_n 1, 1) := by decide +kernel
theorem dX0_shareWater_142 : decode cX0_shareWater 142 = .ok (.aaload, 1) := by decide +kernel
theorem dX0_shareWater_143 : decode cX0_shareWater 143 = .ok (.getfield 78, 3) := by decide +kernel
theorem dX0_shareWater_146 : decode cX0_shareWater 146 = .ok (.aaload, 1) := by decide +kernel
theorem dX0_shareWater_147 : decode cX0_shareWater 147 = .ok (.invokevirtual 381, 3) := by decide +kernel
theorem dX0_shareWater_150 : decode cX0_shareWater 150 = .ok (.iinc 1 1, 3) := by decide +kernel
theorem dX0_shareWater_153 : decode cX0_shareWater 153 = .ok (.goto (-74), 3) := by decide +kernel
theorem dX0_shareWater_156 : decode cX0_shareWater 156 = .ok (.return_, 1) := by decide +kernel
theorem okX0_shareWater : ab_okM MX0_shareWater 0 := ⟨by decide, ⟨by decide, by decide⟩, ab_in 1431 (by decide +kernel) (by decide +kernel), ab_in 92 (by decide +kernel) (by decide +kernel), by decide +kernel, by decide⟩
set_option maxHeartbeats 4000000 in
set_option maxRecDepth 100000 in
theorem sX0_shareWater_79 (v1 : Int32)  (x : ab_X) (K : ab_X → Prop)  (d bc bs : Nat) (hdp : 2 ≤ d)  (h : Lp2 (lX0_shareWater_79  K ) v1 x) : EW MX0_shareWater 79 [(0, .ref 66), (1, .int v1)] [] (aS x) d bc bs (liV K) := by
  refine Lp2.use (P := fun v1 x => EW MX0_shareWater 79 [(0, .ref 66), (1, .int v1)] [] (aS x) d bc bs (liV K)) (fun L79 v1 x hL79 h => ?_) v1 x h
  unfold lX0_shareWater_79 at h
  refine EW_iload_n (pc2 := 80) rfl dX0_shareWater_79 1 rfl ?_
  refine EW_aload_n (pc2 := 81) rfl dX0_shareWater_80 0 rfl ?_
  refine AW_geti ⟨gfRX0_55, rfl⟩ (pc2 := 84) rfl dX0_shareWater_81 q66 ?_
  refine EW_icmp_ge (tgt := 156) (pc2 := 87) rfl dX0_shareWater_84 (by decide) (fun q => ?_) (fun q => ?_)
  · replace h := h.1 q
    exact EW_vret rfl dX0_shareWater_156 ⟨_, rfl, rfl, h⟩
  · replace h := h.2 q
    refine EW_aload_n (pc2 := 88) rfl dX0_shareWater_87 0 rfl ?_
    refine AW_getr (r := 67) ⟨gfRX0_11, rfl⟩ (pc2 := 91) rfl dX0_shareWater_88 q66 rfl ?_
    refine EW_iload_n (pc2 := 92) rfl dX0_shareWater_91 1 rfl ?_
    obtain ⟨b9, h⟩ := h
    refine AW_aald6 (pc2 := 93) rfl dX0_shareWater_92 b9 ?_
    refine AW_geti ⟨gfRX0_332, rfl⟩ (pc2 := 96) rfl dX0_shareWater_93 (isW.o (isW_of b9)) ?_
    refine EW_bipush (pc2 := 98) (v := 6) rfl dX0_shareWater_96 (by decide) ?_
    refine AW_invSN (M' := MX11_below) [.int (x.1 (82 + Int32.toNatClampNeg v1) 18), .int 6] (rest := []) mlRX0_59 okX11_below (pc2 := 101) rfl dX0_shareWater_98 rfl rfl (Nat.le_of_ble_eq_true rfl) (Nat.le_of_ble_eq_true rfl) (d' := 0) (by omega) (EW_mono (fun _ _ hr => ?_) (sX11_below (x.1 (82 + Int32.toNatClampNeg v1) 18) 6  x _ _ 0 0 (Nat.le_refl _) h))
    obtain ⟨r10, rfl, rfl, h⟩ := hr
    refine EW_if_eq (tgt := 150) (pc2 := 104) rfl dX0_shareWater_101 (by decide) (fun q => ?_) (fun q => ?_)
    · replace h := h.1 q
      refine EW_iinc (v1 + 1) (pc2 := 153) rfl dX0_shareWater_150 1 rfl rfl (by decide) [1, 0] [(0, .ref 66), (1, .int (v1 + 1))] rfl ?_
      refine EW_goto (tgt := 79) dX0_shareWater_153 (by decide) ?_
      exact hL79 (v1 + 1) x h
    · replace h := h.2 q
      refine EW_aload_n (pc2 := 105) rfl dX0_shareWater_104 0 rfl ?_
      refine AW_getr (r := 9) ⟨gfRX0_49, rfl⟩ (pc2 := 108) rfl dX0_shareWater_105 q66 rfl ?_
      refine EW_aload_n (pc2 := 109) rfl dX0_shareWater_108 0 rfl ?_
      refine AW_getr (r := 67) ⟨gfRX0_11, rfl⟩ (pc2 := 112) rfl dX0_shareWater_109 q66 rfl ?_
      refine EW_iload_n (pc2 := 113) rfl dX0_shareWater_112 1 rfl ?_
      obtain ⟨b11, h⟩ := h
      refine AW_aald6 (pc2 := 114) rfl dX0_shareWater_113 b11 ?_
      refine AW_geti ⟨gfRX0_78, rfl⟩ (pc2 := 117) rfl dX0_shareWater_114 (isW.o (isW_of b11)) ?_
      refine AW_invV (M' := MX10_has) [.int (x.1 (82 + Int32.toNatClampNeg v1) 12)] (rest := []) mlRX0_263 okX10_has (pc2 := 120) rfl dX0_shareWater_117 rfl rfl (Nat.le_of_ble_eq_true rfl) (Nat.le_of_ble_eq_true rfl) (d' := 1) (by omega) q9 ⟨by decide, rfl⟩ (EW_mono (fun _ _ hr => ?_) (sX10_has (x.1 (82 + Int32.toNatClampNeg v1) 12)  x _ _ 0 0 (Nat.le_refl _) h))
      obtain ⟨r12, rfl, rfl, h⟩ := hr
      refine EW_if_eq (tgt := 150) (pc2 := 123) rfl dX0_shareWater_120 (by decide) (fun q => ?_) (fun q => ?_)
      · replace h := h.1 q
        refine EW_iinc (v1 + 1) (pc2 := 153) rfl dX0_shareWater_150 1 rfl rfl (by decide) [1, 0] [(0, .ref 66), (1, .int (v1 + 1))] rfl ?_
        refine EW_goto (tgt := 79) dX0_shareWater_153 (by decide) ?_
        exact hL79 (v1 + 1) x h
      · replace h := h.2 q
        refine EW_aload_n (pc2 := 124) rfl dX0_shareWater_123 0 rfl ?_
        refine EW_aload_n (pc2 := 125) rfl dX0_shareWater_124 0 rfl ?_
        refine AW_getr (r := 67) ⟨gfRX0_11, rfl⟩ (pc2 := 128) rfl dX0_shareWater_125 q66 rfl ?_
        refine EW_iload_n (pc2 := 129) rfl dX0_shareWater_128 1 rfl ?_
        obtain ⟨b13, h⟩ := h
        refine AW_aald6 (pc2 := 130) rfl dX0_shareWater_129 b13 ?_
        refine EW_aload_n (pc2 := 131) rfl dX0_shareWater_130 0 rfl ?_
        refine AW_getr (r := 9) ⟨gfRX0_49, rfl⟩ (pc2 := 134) rfl dX0_shareWater_131 q66 rfl ?_
        refine AW_getr (r := 10) ⟨gfRX0_148, rfl⟩ (pc2 := 137) rfl dX0_shareWater_134 q9 rfl ?_
        refine EW_aload_n (pc2 := 138) rfl dX0_shareWater_137 0 rfl ?_
        refine AW_getr (r := 67) ⟨gfRX0_11, rfl⟩ (pc2 := 141) rfl dX0_shareWater_138 q66 rfl ?_
        refine EW_iload_n (pc2 := 142) rfl dX0_shareWater_141 1 rfl ?_
        obtain ⟨b14, h⟩ := h
        refine AW_aald6 (pc2 := 143) rfl dX0_shareWater_142 b14 ?_
        refine AW_geti ⟨gfRX0_78, rfl⟩ (pc2 := 146) rfl dX0_shareWater_143 (isW.o (isW_of b14)) ?_
        obtain ⟨b15, h⟩ := h
        refine AW_aald5 (pc2 := 147) rfl dX0_shareWater_146 b15 ?_
        refine AW_invV (M' := MX0_pour) [.ref (82 + Int32.toNatClampNeg v1), .ref (30 + 3 * Int32.toNatClampNeg (x.1 (82 + Int32.toNatClampNeg v1) 12))] (rest := []) mlRX0_381 okX0_pour (pc2 := 150) rfl dX0_shareWater_147 rfl rfl (Nat.le_of_ble_eq_true rfl) (Nat.le_of_ble_eq_true rfl) (d' := 1) (by omega) q66 ⟨by decide, rfl⟩ (EW_mono (fun _ _ hr => ?_) (sX0_pour (82 + Int32.toNatClampNeg v1) (30 + 3 * Int32.toNatClampNeg (x.1 (82 + Int32.toNatClampNeg v1) 12)) (isW_of b13) (isH_of b15) x _ _ 0 0 (Nat.le_refl _) h))
        obtain ⟨x16, rfl, rfl, h⟩ := hr
        refine EW_iinc (v1 + 1) (pc2 := 153) rfl dX0_shareWater_150 1 rfl rfl (by decide) [1, 0] [(0, .ref 66), (1, .int (v1 + 1))] rfl ?_
        refine EW_goto (tgt := 79) dX0_shareWater_153 (by decide) ?_
        exact hL79 (v1 + 1) x16 h
set_option maxHeartbeats 4000000 in
set_option maxRecDepth 100000 in
theorem sX0_shareWater_20 (v1 : Int32)  (x : ab_X) (K : ab_X → Prop)  (d bc bs : Nat) (hdp : 2 ≤ d)  (h : Lp2 (lX0_shareWater_20  K ) v1 x) : EW MX0_shareWater 20 [(0, .ref 66), (1, .int v1)] [] (aS x) d bc bs (liV K) := by
  refine Lp2.use (P := fun v1 x => EW MX0_shareWater 20 [(0, .ref 66), (1, .int v1)] [] (aS x) d bc bs (liV K)) (fun L20 v1 x hL20 h => ?_) v1 x h
  unfold lX0_shareWater_20 at h
  refine EW_iload_n (pc2 := 21) rfl dX0_shareWater_20 1 rfl ?_
  refine EW_aload_n (pc2 := 22) rfl dX0_shareWater_21 0 rfl ?_
  refine AW_geti ⟨gfRX0_55, rfl⟩ (pc2 := 25) rfl dX0_shareWater_22 q66 ?_
  refine EW_icmp_ge (tgt := 77) (pc2 := 28) rfl dX0_shareWater_25 (by decide) (fun q => ?_) (fun q => ?_)
  · replace h := h.1 q
    refine EW_iconst (pc2 := 78) (v := 0) rfl dX0_shareWater_77 (by decide) ?_
    refine EW_istore_n (pc2 := 79) rfl dX0_shareWater_78 (by decide) [1, 0] [(0, .ref 66), (1, .int 0)] rfl ?_
    exact sX0_shareWater_79 0 x K d bc bs hdp h
  · replace h := h.2 q
    refine EW_aload_n (pc2 := 29) rfl dX0_shareWater_28 0 rfl ?_
    refine AW_getr (r := 67) ⟨gfRX0_11, rfl⟩ (pc2 := 32) rfl dX0_shareWater_29 q66 rfl ?_
    refine EW_iload_n (pc2 := 33) rfl dX0_shareWater_32 1 rfl ?_
    obtain ⟨b3, h⟩ := h
    refine AW_aald6 (pc2 := 34) rfl dX0_shareWater_33 b3 ?_
    refine AW_geti ⟨gfRX0_332, rfl⟩ (pc2 := 37) rfl dX0_shareWater_34 (isW.o (isW_of b3)) ?_
    refine EW_bipush (pc2 := 39) (v := 6) rfl dX0_shareWater_37 (by decide) ?_
    refine AW_invSN (M' := MX11_below) [.int (x.1 (82 + Int32.toNatClampNeg v1) 18), .int 6] (rest := []) mlRX0_59 okX11_below (pc2 := 42) rfl dX0_shareWater_39 rfl rfl (Nat.le_of_ble_eq_true rfl) (Nat.le_of_ble_eq_true rfl) (d' := 0) (by omega) (EW_mono (fun _ _ hr => ?_) (sX11_below (x.1 (82 + Int32.toNatClampNeg v1) 18) 6  x _ _ 0 0 (Nat.le_refl _) h))
    obtain ⟨r4, rfl, rfl, h⟩ := hr
    refine EW_if_eq (tgt := 71) (pc2 := 45) rfl dX0_shareWater_42 (by decide) (fun q => ?_) (fun q => ?_)
    · replace h := h.1 q
      refine EW_iinc (v1 + 1) (pc2 := 74) rfl dX0_shareWater_71 1 rfl rfl (by decide) [1, 0] [(0, .ref 66), (1, .int (v1 + 1))] rfl ?_
      refine EW_goto (tgt := 20) dX0_shareWater_74 (by decide) ?_
      exact hL20 (v1 + 1) x h
    · replace h := h.2 q
      refine EW_aload_n (pc2 := 46) rfl dX0_shareWater_45 0 rfl ?_
      refine AW_getr (r := 81) ⟨gfRX0_42, rfl⟩ (pc2 := 49) rfl dX0_shareWater_46 q66 rfl ?_
      refine EW_aload_n (pc2 := 50) rfl dX0_shareWater_49 0 rfl ?_
      refine AW_getr (r := 67) ⟨gfRX0_11, rfl⟩ (pc2 := 53) rfl dX0_shareWater_50 q66 rfl ?_
      refine EW_iload_n (pc2 := 54) rfl dX0_shareWater_53 1 rfl ?_
      obtain ⟨b5, h⟩ := h
      refine AW_aald6 (pc2 := 55) rfl dX0_shareWater_54 b5 ?_
      refine AW_geti ⟨gfRX0_332, rfl⟩ (pc2 := 58) rfl dX0_shareWater_55 (isW.o (isW_of b5)) ?_
      refine EW_dup2 (pc2 := 59) rfl dX0_shareWater_58 rfl rfl ?_
      obtain ⟨b6, h⟩ := h
      refine AW_iald (pc2 := 60) rfl dX0_shareWater_59 q81 b6 ?_
      refine EW_aload_n (pc2 := 61) rfl dX0_shareWater_60 0 rfl ?_
      refine AW_getr (r := 67) ⟨gfRX0_11, rfl⟩ (pc2 := 64) rfl dX0_shareWater_61 q66 rfl ?_
      refine EW_iload_n (pc2 := 65) rfl dX0_shareWater_64 1 rfl ?_
      obtain ⟨b7, h⟩ := h
      refine AW_aald6 (pc2 := 66) rfl dX0_shareWater_65 b7 ?_
      refine AW_geti ⟨gfRX0_338, rfl⟩ (pc2 := 69) rfl dX0_shareWater_66 (isW.o (isW_of b7)) ?_
      refine EW_iadd (pc2 := 70) rfl dX0_shareWater_69 ?_
      obtain ⟨b8, h⟩ := h
      refine AW_iast (pc2 := 71) rfl dX0_shareWater_70 q81 b8 ?_
      refine EW_iinc (v1 + 1) (pc2 := 74) rfl dX0_shareWater_71 1 rfl rfl (by decide) [1, 0] [(0, .ref 66), (1, .int (v1 + 1))] rfl ?_
      refine EW_goto (tgt := 20) dX0_shareWater_74 (by decide) ?_
      exact hL20 (v1 + 1) (wr x 81 (Int32.toNatClampNeg (x.1 (82 + Int32.toNatClampNeg v1) 18)) ((x.1 81 (Int32.toNatClampNeg (x.1 (82 + Int32.toNatClampNeg v1) 18))) + (x.1 (82 + Int32.toNatClampNeg v1) 17))) h
set_option maxHeartbeats 4000000 in
set_option maxRecDepth 100000 in
theorem sX0_shareWater   (x : ab_X) (K : ab_X → Prop) (d bc bs : Nat) (hdp : 2 ≤ d) (h : wX0_shareWater  x K) : EW MX0_shareWater 0 [(0, .ref 66)] [] (aS x) d bc bs (liV K) := by
  unfold wX0_shareWater at h
  refine EW_aload_n (pc2 := 1) rfl dX0_shareWater_0 0 rfl ?_
  refine AW_getr (r := 9) ⟨gfRX0_49, rfl⟩ (pc2 := 4) rfl dX0_shareWater_1 q66 rfl ?_
  refine AW_getr (r := 11) ⟨gfRX0_100, rfl⟩ (pc2 := 7) rfl dX0_shareWater_4 q9 rfl ?_
  refine AW_invV (M' := MX3_dry) [] (rest := []) mlRX0_270 okX3_dry (pc2 := 10) rfl dX0_shareWater_7 rfl rfl (Nat.le_of_ble_eq_true rfl) (Nat.le_of_ble_eq_true rfl) (d' := 1) (by omega) q11 ⟨by decide, rfl⟩ (EW_mono (fun _ _ hr => ?_) (sX3_dry 11 (Or.inl rfl : isF 11) x _ _ 0 0 (Nat.le_refl _) h))
  obtain ⟨x1, rfl, rfl, h⟩ := hr
  refine EW_aload_n (pc2 := 11) rfl dX0_shareWater_10 0 rfl ?_
  refine AW_getr (r := 81) ⟨gfRX0_42, rfl⟩ (pc2 := 14) rfl dX0_shareWater_11 q66 rfl ?_
  refine EW_iconst (pc2 := 15) (v := 0) rfl dX0_shareWater_14 (by decide) ?_
  refine AW_invS (M' := MJ7_fill_53178) [.ref 81, .int 0] (rest := []) mlRX0_375 okJ7_fill_53178 (pc2 := 18) rfl dX0_shareWater_15 rfl rfl (Nat.le_of_ble_eq_true rfl) (Nat.le_of_ble_eq_true rfl) (d' := 0) (by omega) (EW_mono (fun _ _ hr => ?_) (sJ7_fill_53178 81 6 0 q81 x1 _ _ 0 0 (Nat.le_refl _) h))
  obtain ⟨x2, rfl, rfl, h⟩ := hr
  refine EW_iconst (pc2 := 19) (v := 0) rfl dX0_shareWater_18 (by decide) ?_
  refine EW_istore_n (pc2 := 20) rfl dX0_shareWater_19 (by decide) [1, 0] [(0, .ref 66), (1, .int 0)] rfl ?_
  exact sX0_shareWater_20 0 x2 K d bc bs hdp h
theorem gfRX0_106 : ab_L RX0 106 3 7 := ⟨by decide, by decide, ab_in 189 (by decide +kernel) (by decide +kernel)⟩
abbrev MX0_witness : ab_M := (yX0_witness, cX0_witness, 2, none)
theorem dX0_witness_0 : decode cX0_witness 0 = .ok (.iconst 0, 1) := by decide +kernel
theorem dX0_witness_1 : decode cX0_witness 1 = .ok (.istore_n 1, 1) := by decide +kernel
theorem dX0_witness_2 : decode cX0_witness 2 = .ok (.iload_n 1, 1) := by decide +kernel
theorem dX0_witness_3 : decode cX0_witness 3 = .ok (.aload_n 0, 1) := by decide +kernel
theorem dX0_witness_4 : decode cX0_witness 4 = .ok (.getfield 81, 3) := by decide +kernel
theorem dX0_witness_7 : decode cX0_witness 7 = .ok (.if_icmp .ge 80, 3) := by decide +kernel
theorem dX0_witness_10 : decode cX0_witness 10 = .ok (.aload_n 0, 1) := by decide +kernel
theorem dX0_witness_11 : decode cX0_witness 11 = .ok (.getfield 49, 3) := by decide +kernel
theorem dX0_witness_14 : decode cX0_witness 14 = .ok (.getfield 100, 3) := by decide +kernel
theorem dX0_witness_17 : decode cX0_witness 17 = .ok (.getfield 106, 3) := by decide +kernel
theorem dX0_witness_20 : decode cX0_witness 20 = .ok (.ifCond .ne 67, 3) := by decide +kernel
theorem dX0_witness_23 : decode cX0_witness 23 = .ok (.aload_n 0, 1) := by decide +kernel
theorem dX0_witness_24 : decode cX0_witness 24 = .ok (.getfield 19, 3) := by decide +kernel
theorem dX0_witness_27 : decode cX0_witness 27 = .ok (.iload_n 1, 1) := by decide +kernel
theorem dX0_witness_28 : decode cX0_witness 28 = .ok (.aaload, 1) := by decide +kernel
theorem dX0_witness_29 : decode cX0_witness 29 = .ok (.getfield 84, 3) := by decide +kernel
theorem dX0_witness_32 : decode cX0_witness 32 = .ok (.ifCond .ne 49, 3) := by decide +kernel
theorem dX0_witness_35 : decode cX0_witness 35 = .ok (.aload_n 0, 1) := by decide +kernel
theorem dX0_witness_36 : decode cX0_witness 36 = .ok (.getfield 19, 3) := by decide +kernel
theorem dX0_witness_39 : decode cX0_witness 39 = .ok (.iload_n 1, 1) := by decide +kernel
theorem dX0_witness_40 : decode cX0_witness 40 = .ok (.aaload, 1) := by decide +kernel
theorem dX0_witness_41 : decode cX0_witness 41 = .ok (.getfield 112, 3) := by decide +kernel
theorem dX0_witness_44 : decode cX0_witness 44 = .ok (.ifCond .ne 37, 3) := by decide +kernel
theorem dX0_witness_47 : decode cX0_witness 47 = .ok (.aload_n 0, 1) := by decide +kernel
theorem dX0_witness_48 : decode cX0_witness 48 = .ok (.getfield 19, 3) := by decide +kernel
theorem dX0_witness_51 : decode cX0_witness 51 = .ok (.iload_n 1, 1) := by decide +kernel
theorem dX0_witness_52 : decode cX0_witness 52 = .ok (.aaload, 1) := by decide +kernel
theorem dX0_witness_53 : decode cX0_witness 53 = .ok (.aload_n 0, 1) := by decide +kernel
theorem dX0_witness_54 : decode cX0_witness 54 = .ok (.getfield 49, 3) := by decide +kernel
theorem dX0_witness_57 : decode cX0_witness 57 = .ok (.aload_n 0, 1) := by decide +kernel
theorem dX0_witness_58 : decode cX0_witness 58 = .ok (.getfield 19, 3) := by decide +kernel
theorem dX0_witness_61 : decode cX0_witness 61 = .ok (.iload_n 1, 1) := by decide +kernel
theorem dX0_witness_62 : decode cX0_witness 62 = .ok (.aaload, 1) := by decide +kernel
theorem dX0_witness_63 : decode cX0_witness 63 = .ok (.getfield 88, 3) := by decide +kernel
theorem dX0_witness_66 : decode cX0_witness 66 = .ok (.invokevirtual 115, 3) := by decide +kernel
theorem dX0_witness_69 : decode cX0_witness 69 = .ok (.iconst (-1), 1) := by decide +kernel
theorem dX0_witness_70 : decode cX0_witness 70 = .ok (.if_icmp .eq 7, 3) := by decide +kernel
theorem dX0_witness_73 : decode cX0_witness 73 = .ok (.iconst 1, 1) := by decide +kernel
theorem dX0_witness_74 : decode cX0_witness 74 = .ok (.goto 4, 3) := by decide +kernel
theorem dX0_witness_77 : decode cX0_witness 77 = .ok (.iconst 0, 1) := by decide +kernel
theorem dX0_witness_78 : decode cX0_witness 78 = .ok (.putfield 112, 3) := by decide +kernel
theorem dX0_witness_81 : decode cX0_witness 81 = .ok (.iinc 1 1, 3) := by decide +kernel
theorem dX0_witness_84 : decode cX0_witness 84 = .ok (.goto (-82), 3) := by decide +kernel
theorem dX0_witness_87 : decode cX0_witness 87 = .ok (.return_, 1) := by decide +kernel
theorem okX0_witness : ab_okM MX0_witness 0 := ⟨by decide, ⟨by decide, by decide⟩, ab_in 878 (by decide +kernel) (by decide +kernel), ab_in 92 (by decide +kernel) (by decide +kernel), by decide +kernel, by decide⟩
set_option maxHeartbeats 4000000 in
set_option maxRecDepth 100000 in
theorem sX0_witness_2 (v1 : Int32)  (x : ab_X) (K : ab_X → Prop)  (d bc bs : Nat) (hdp : 3 ≤ d)  (h : Lp2 (lX0_witness_2  K ) v1 x) : EW MX0_witness 2 [(0, .ref 66), (1, .int v1)] [] (aS x) d bc bs (liV K) := by
  refine Lp2.use (P := fun v1 x => EW MX0_witness 2 [(0, .ref 66), (1, .int v1)] [] (aS x) d bc bs (liV K)) (fun L2 v1 x hL2 h => ?_) v1 x h
  unfold lX0_witness_2 at h
  refine EW_iload_n (pc2 := 3) rfl dX0_witness_2 1 rfl ?_
  refine EW_aload_n (pc2 := 4) rfl dX0_witness_3 0 rfl ?_
  refine AW_geti ⟨gfRX0_81, rfl⟩ (pc2 := 7) rfl dX0_witness_4 q66 ?_
  refine EW_icmp_ge (tgt := 87) (pc2 := 10) rfl dX0_witness_7 (by decide) (fun q => ?_) (fun q => ?_)
  · replace h := h.1 q
    exact EW_vret rfl dX0_witness_87 ⟨_, rfl, rfl, h⟩
  · replace h := h.2 q
    refine EW_aload_n (pc2 := 11) rfl dX0_witness_10 0 rfl ?_
    refine AW_getr (r := 9) ⟨gfRX0_49, rfl⟩ (pc2 := 14) rfl dX0_witness_11 q66 rfl ?_
    refine AW_getr (r := 11) ⟨gfRX0_100, rfl⟩ (pc2 := 17) rfl dX0_witness_14 q9 rfl ?_
    refine AW_geti ⟨gfRX0_106, rfl⟩ (pc2 := 20) rfl dX0_witness_17 q11 ?_
    refine EW_if_ne (tgt := 87) (pc2 := 23) rfl dX0_witness_20 (by decide) (fun q => ?_) (fun q => ?_)
    · replace h := h.1 q
      exact EW_vret rfl dX0_witness_87 ⟨_, rfl, rfl, h⟩
    · replace h := h.2 q
      refine EW_aload_n (pc2 := 24) rfl dX0_witness_23 0 rfl ?_
      refine AW_getr (r := 68) ⟨gfRX0_19, rfl⟩ (pc2 := 27) rfl dX0_witness_24 q66 rfl ?_
      refine EW_iload_n (pc2 := 28) rfl dX0_witness_27 1 rfl ?_
      obtain ⟨b1, h⟩ := h
      refine AW_aald7 (pc2 := 29) rfl dX0_witness_28 b1 ?_
      refine AW_geti ⟨gfRX0_84, rfl⟩ (pc2 := 32) rfl dX0_witness_29 (isK.o (isK_of b1)) ?_
      refine EW_if_ne (tgt := 81) (pc2 := 35) rfl dX0_witness_32 (by decide) (fun q => ?_) (fun q => ?_)
      · replace h := h.1 q
        refine EW_iinc (v1 + 1) (pc2 := 84) rfl dX0_witness_81 1 rfl rfl (by decide) [1, 0] [(0, .ref 66), (1, .int (v1 + 1))] rfl ?_
        refine EW_goto (tgt := 2) dX0_witness_84 (by decide) ?_
        exact hL2 (v1 + 1) x h
      · replace h := h.2 q
        refine EW_aload_n (pc2 := 36) rfl dX0_witness_35 0 rfl ?_
        refine AW_getr (r := 68) ⟨gfRX0_19, rfl⟩ (pc2 := 39) rfl dX0_witness_36 q66 rfl ?_
        refine EW_iload_n (pc2 := 40) rfl dX0_witness_39 1 rfl ?_
        obtain ⟨b2, h⟩ := h
        refine AW_aald7 (pc2 := 41) rfl dX0_witness_40 b2 ?_
        refine AW_geti ⟨gfRX0_112, rfl⟩ (pc2 := 44) rfl dX0_witness_41 (isK.o (isK_of b2)) ?_
        refine EW_if_ne (tgt := 81) (pc2 := 47) rfl dX0_witness_44 (by decide) (fun q => ?_) (fun q => ?_)
        · replace h := h.1 q
          refine EW_iinc (v1 + 1) (pc2 := 84) rfl dX0_witness_81 1 rfl rfl (by decide) [1, 0] [(0, .ref 66), (1, .int (v1 + 1))] rfl ?_
          refine EW_goto (tgt := 2) dX0_witness_84 (by decide) ?_
          exact hL2 (v1 + 1) x h
        · replace h := h.2 q
          refine EW_aload_n (pc2 := 48) rfl dX0_witness_47 0 rfl ?_
          refine AW_getr (r := 68) ⟨gfRX0_19, rfl⟩ (pc2 := 51) rfl dX0_witness_48 q66 rfl ?_
          refine EW_iload_n (pc2 := 52) rfl dX0_witness_51 1 rfl ?_
          obtain ⟨b3, h⟩ := h
          refine AW_aald7 (pc2 := 53) rfl dX0_witness_52 b3 ?_
          refine EW_aload_n (pc2 := 54) rfl dX0_witness_53 0 rfl ?_
          refine AW_getr (r := 9) ⟨gfRX0_49, rfl⟩ (pc2 := 57) rfl dX0_witness_54 q66 rfl ?_
          refine EW_aload_n (pc2 := 58) rfl dX0_witness_57 0 rfl ?_
          refine AW_getr (r := 68) ⟨gfRX0_19, rfl⟩ (pc2 := 61) rfl dX0_witness_58 q66 rfl ?_
          refine EW_iload_n (pc2 := 62) rfl dX0_witness_61 1 rfl ?_
          obtain ⟨b4, h⟩ := h
          refine AW_aald7 (pc2 := 63) rfl dX0_witness_62 b4 ?_
          refine AW_geti ⟨gfRX0_88, rfl⟩ (pc2 := 66) rfl dX0_witness_63 (isK.o (isK_of b4)) ?_
          refine AW_invV (M' := MX10_worstAt) [.int (x.1 (98 + Int32.toNatClampNeg v1) 0)] (rest := [.ref (98 + Int32.toNatClampNeg v1)]) mlRX0_115 okX10_worstAt (pc2 := 69) rfl dX0_witness_66 rfl rfl (Nat.le_of_ble_eq_true rfl) (Nat.le_of_ble_eq_true rfl) (d' := 2) (by omega) q9 ⟨by decide, rfl⟩ (EW_mono (fun _ _ hr => ?_) (sX10_worstAt (x.1 (98 + Int32.toNatClampNeg v1) 0)  x _ _ 0 0 (Nat.le_refl _) h))
          obtain ⟨r5, rfl, rfl, h⟩ := hr
          refine EW_iconst (pc2 := 70) (v := (-1)) rfl dX0_witness_69 (by decide) ?_
          refine EW_icmp_eq (tgt := 77) (pc2 := 73) rfl dX0_witness_70 (by decide) (fun q => ?_) (fun q => ?_)
          · replace h := h.1 q
            refine EW_iconst (pc2 := 78) (v := 0) rfl dX0_witness_77 (by decide) ?_
            refine AW_putz ⟨gfRX0_112, rfl, rfl⟩ isB0 (pc2 := 81) rfl dX0_witness_78 (isK.o (isK_of b3)) ?_
            refine EW_iinc (v1 + 1) (pc2 := 84) rfl dX0_witness_81 1 rfl rfl (by decide) [1, 0] [(0, .ref 66), (1, .int (v1 + 1))] rfl ?_
            refine EW_goto (tgt := 2) dX0_witness_84 (by decide) ?_
            exact hL2 (v1 + 1) (wr x (98 + Int32.toNatClampNeg v1) 8 0) h
          · replace h := h.2 q
            refine EW_iconst (pc2 := 74) (v := 1) rfl dX0_witness_73 (by decide) ?_
            refine EW_goto (tgt := 78) dX0_witness_74 (by decide) ?_
            refine AW_putz ⟨gfRX0_112, rfl, rfl⟩ isB1 (pc2 := 81) rfl dX0_witness_78 (isK.o (isK_of b3)) ?_
            refine EW_iinc (v1 + 1) (pc2 := 84) rfl dX0_witness_81 1 rfl rfl (by decide) [1, 0] [(0, .ref 66), (1, .int (v1 + 1))] rfl ?_
            refine EW_goto (tgt := 2) dX0_witness_84 (by decide) ?_
            exact hL2 (v1 + 1) (wr x (98 + Int32.toNatClampNeg v1) 8 1) h
set_option maxHeartbeats 4000000 in
set_option maxRecDepth 100000 in
theorem sX0_witness   (x : ab_X) (K : ab_X → Prop) (d bc bs : Nat) (hdp : 3 ≤ d) (h : wX0_witness  x K) : EW MX0_witness 0 [(0, .ref 66)] [] (aS x) d bc bs (liV K) := by
  unfold wX0_witness at h
  refine EW_iconst (pc2 := 1) (v := 0) rfl dX0_witness_0 (by decide) ?_
  refine EW_istore_n (pc2 := 2) rfl dX0_witness_1 (by decide) [1, 0] [(0, .ref 66), (1, .int 0)] rfl ?_
  exact sX0_witness_2 0 x K d bc bs hdp h
theorem gfRX0_293 : ab_L RX0 293 4 13 := ⟨by decide, by decide, ab_in 263 (by decide +kernel) (by decide +kernel)⟩
theorem mmRX0_290 : Cond.methodLink RX0 290 Lib.Math.min.name ∈ ab_G ∧ Cond.static Lib.Math.min.name ∈ ab_G ∧ Cond.initialized "java/lang/Math" ∈ ab_G ∧ Cond.code Lib.Math.min.name Lib.Math.min.code 2 (some .int) ∈ ab_G := ⟨ab_in 1395 (by decide +kernel) (by decide +kernel), ab_in 787 (by decide +kernel) (by decide +kernel), ab_in 100 (by decide +kernel) (by decide +kernel), ab_in 788 (by decide +kernel) (by decide +kernel)⟩
theorem gfRX0_300 : ab_L RX0 300 4 14 := ⟨by decide, by decide, ab_in 266 (by decide +kernel) (by decide +kernel)⟩
abbrev MX0_takeOut : ab_M := (yX0_takeOut, cX0_takeOut, 5, none)
theorem dX0_takeOut_0 : decode cX0_takeOut 0 = .ok (.aload_n 2, 1) := by decide +kernel
theorem dX0_takeOut_1 : decode cX0_takeOut 1 = .ok (.getfield 155, 3) := by decide +kernel
theorem dX0_takeOut_4 : decode cX0_takeOut 4 = .ok (.aload_n 1, 1) := by decide +kernel
theorem dX0_takeOut_5 : decode cX0_takeOut 5 = .ok (.getfield 287, 3) := by decide +kernel
theorem dX0_takeOut_8 : decode cX0_takeOut 8 = .ok (.invokestatic 290, 3) := by decide +kernel
theorem dX0_takeOut_11 : decode cX0_takeOut 11 = .ok (.iconst 1, 1) := by decide +kernel
theorem dX0_takeOut_12 : decode cX0_takeOut 12 = .ok (.isub, 1) := by decide +kernel
theorem dX0_takeOut_13 : decode cX0_takeOut 13 = .ok (.istore_n 3, 1) := by decide +kernel
theorem dX0_takeOut_14 : decode cX0_takeOut 14 = .ok (.iload_n 3, 1) := by decide +kernel
theorem dX0_takeOut_15 : decode cX0_takeOut 15 = .ok (.ifCond .lt 68, 3) := by decide +kernel
theorem dX0_takeOut_18 : decode cX0_takeOut 18 = .ok (.aload_n 2, 1) := by decide +kernel
theorem dX0_takeOut_19 : decode cX0_takeOut 19 = .ok (.getfield 293, 3) := by decide +kernel
theorem dX0_takeOut_22 : decode cX0_takeOut 22 = .ok (.iload_n 3, 1) := by decide +kernel
theorem dX0_takeOut_23 : decode cX0_takeOut 23 = .ok (.iaload, 1) := by decide +kernel
theorem dX0_takeOut_24 : decode cX0_takeOut 24 = .ok (.ifCond .le 53, 3) := by decide +kernel
theorem dX0_takeOut_27 : decode cX0_takeOut 27 = .ok (.aload_n 0, 1) := by decide +kernel
theorem dX0_takeOut_28 : decode cX0_takeOut 28 = .ok (.getfield 49, 3) := by decide +kernel
theorem dX0_takeOut_31 : decode cX0_takeOut 31 = .ok (.getfield 100, 3) := by decide +kernel
theorem dX0_takeOut_34 : decode cX0_takeOut 34 = .ok (.aload_n 2, 1) := by decide +kernel
theorem dX0_takeOut_35 : decode cX0_takeOut 35 = .ok (.iload_n 3, 1) := by decide +kernel
theorem dX0_takeOut_36 : decode cX0_takeOut 36 = .ok (.invokevirtual 296, 3) := by decide +kernel
theorem dX0_takeOut_39 : decode cX0_takeOut 39 = .ok (.ifCond .ne 38, 3) := by decide +kernel
theorem dX0_takeOut_42 : decode cX0_takeOut 42 = .ok (.iconst 2, 1) := by decide +kernel
theorem dX0_takeOut_43 : decode cX0_takeOut 43 = .ok (.aload_n 2, 1) := by decide +kernel
theorem dX0_takeOut_44 : decode cX0_takeOut 44 = .ok (.getfield 293, 3) := by decide +kernel
theorem dX0_takeOut_47 : decode cX0_takeOut 47 = .ok (.iload_n 3, 1) := by decide +kernel
theorem dX0_takeOut_48 : decode cX0_takeOut 48 = .ok (.iaload, 1) := by decide +kernel
theorem dX0_takeOut_49 : decode cX0_takeOut 49 = .ok (.invokestatic 290, 3) := by decide +kernel
theorem dX0_takeOut_52 : decode cX0_takeOut 52 = .ok (.istore 4, 2) := by decide +kernel
theorem dX0_takeOut_54 : decode cX0_takeOut 54 = .ok (.aload_n 2, 1) := by decide +kernel
theorem dX0_takeOut_55 : decode cX0_takeOut 55 = .ok (.getfield 293, 3) := by decide +kernel
theorem dX0_takeOut_58 : decode cX0_takeOut 58 = .ok (.iload_n 3, 1) := by decide +kernel
theorem dX0_takeOut_59 : decode cX0_takeOut 59 = .ok (.dup2, 1) := by decide +kernel
theorem dX0_takeOut_60 : decode cX0_takeOut 60 = .ok (.iaload, 1) := by decide +kernel
theorem dX0_takeOut_61 : decode cX0_takeOut 61 = .ok (.iload 4, 2) := by decide +kernel
theorem dX0_takeOut_63 : decode cX0_takeOut 63 = .ok (.isub, 1) := by decide +kernel
theorem dX0_takeOut_64 : decode cX0_takeOut 64 = .ok (.iastore, 1) := by decide +kernel
theorem dX0_takeOut_65 : decode cX0_takeOut 65 = .ok (.aload_n 2, 1) := by decide +kernel
theorem dX0_takeOut_66 : decode cX0_takeOut 66 = .ok (.dup, 1) := by decide +kernel
theorem dX0_takeOut_67 : decode cX0_takeOut 67 = .ok (.getfield 300, 3) := by decide +kernel
theorem dX0_takeOut_70 : decode cX0_takeOut 70 = .ok (.iload 4, 2) := by decide +kernel
theorem dX0_takeOut_72 : decode cX0_takeOut 72 = .ok (.iadd, 1) := by decide +kernel
theorem dX0_takeOut_73 : decode cX0_takeOut 73 = .ok (.putfield 300, 3) := by decide +kernel
theorem dX0_takeOut_76 : decode cX0_takeOut 76 = .ok (.return_, 1) := by decide +kernel
theorem dX0_takeOut_77 : decode cX0_takeOut 77 = .ok (.iinc 3 (-1), 3) := by decide +kernel
theorem dX0_takeOut_80 : decode cX0_takeOut 80 = .ok (.goto (-66), 3) := by decide +kernel
theorem dX0_takeOut_83 : decode cX0_takeOut 83 = .ok (.return_, 1) := by decide +kernel
theorem okX0_takeOut : ab_okM MX0_takeOut 2 := ⟨by decide, ⟨by decide, by decide⟩, ab_in 1394 (by decide +kernel) (by decide +kernel), ab_in 92 (by decide +kernel) (by decide +kernel), by decide +kernel, by decide⟩
set_option maxHeartbeats 4000000 in
set_option maxRecDepth 100000 in
theorem sX0_takeOut_14 (v2 : Nat) (v3 : Int32) (hv2 : isH v2) (x : ab_X) (K : ab_X → Prop)  (d bc bs : Nat) (hdp : 2 ≤ d)  (h : Lp1 (lX0_takeOut_14 v2 x K ) v3) : EW MX0_takeOut 14 [(0, .ref 66), (2, .ref v2), (3, .int v3)] [] (aS x) d bc bs (liV K) := by
  refine Lp1.use (P := fun v3 => EW MX0_takeOut 14 [(0, .ref 66), (2, .ref v2), (3, .int v3)] [] (aS x) d bc bs (liV K)) (fun L14 v3 hL14 h => ?_) v3 h
  unfold lX0_takeOut_14 at h
  refine EW_iload_n (pc2 := 15) rfl dX0_takeOut_14 2 rfl ?_
  refine EW_if_lt (tgt := 83) (pc2 := 18) rfl dX0_takeOut_15 (by decide) (fun q => ?_) (fun q => ?_)
  · replace h := h.1 q
    exact EW_vret rfl dX0_takeOut_83 ⟨_, rfl, rfl, h⟩
  · replace h := h.2 q
    refine EW_aload_n (pc2 := 19) rfl dX0_takeOut_18 1 rfl ?_
    refine AW_getr (r := (v2 + 2)) ⟨gfRX0_293, rfl⟩ (pc2 := 22) rfl dX0_takeOut_19 (isH.o hv2) (isH.r2 hv2) ?_
    refine EW_iload_n (pc2 := 23) rfl dX0_takeOut_22 2 rfl ?_
    obtain ⟨b1, h⟩ := h
    refine AW_iald (pc2 := 24) rfl dX0_takeOut_23 (isH.a2 hv2) b1 ?_
    refine EW_if_le (tgt := 77) (pc2 := 27) rfl dX0_takeOut_24 (by decide) (fun q => ?_) (fun q => ?_)
    · replace h := h.1 q
      refine EW_iinc (v3 + (-1)) (pc2 := 80) rfl dX0_takeOut_77 2 rfl rfl (by decide) [1, 2, 0] [(0, .ref 66), (2, .ref v2), (3, .int (v3 + (-1)))] rfl ?_
      refine EW_goto (tgt := 14) dX0_takeOut_80 (by decide) ?_
      exact hL14 (v3 + (-1)) h
    · replace h := h.2 q
      refine EW_aload_n (pc2 := 28) rfl dX0_takeOut_27 0 rfl ?_
      refine AW_getr (r := 9) ⟨gfRX0_49, rfl⟩ (pc2 := 31) rfl dX0_takeOut_28 q66 rfl ?_
      refine AW_getr (r := 11) ⟨gfRX0_100, rfl⟩ (pc2 := 34) rfl dX0_takeOut_31 q9 rfl ?_
      refine EW_aload_n (pc2 := 35) rfl dX0_takeOut_34 1 rfl ?_
      refine EW_iload_n (pc2 := 36) rfl dX0_takeOut_35 2 rfl ?_
      refine AW_invV (M' := MX3_hasFallen) [.ref v2, .int v3] (rest := []) mlRX0_296 okX3_hasFallen (pc2 := 39) rfl dX0_takeOut_36 rfl rfl (Nat.le_of_ble_eq_true rfl) (Nat.le_of_ble_eq_true rfl) (d' := 1) (by omega) q11 ⟨by decide, rfl⟩ (EW_mono (fun _ _ hr => ?_) (sX3_hasFallen 11 v2 v3 (Or.inl rfl : isF 11) hv2 x _ _ 0 0 (Nat.le_refl _) h))
      obtain ⟨r2, rfl, rfl, h⟩ := hr
      refine EW_if_ne (tgt := 77) (pc2 := 42) rfl dX0_takeOut_39 (by decide) (fun q => ?_) (fun q => ?_)
      · replace h := h.1 q
        refine EW_iinc (v3 + (-1)) (pc2 := 80) rfl dX0_takeOut_77 2 rfl rfl (by decide) [1, 2, 0] [(0, .ref 66), (2, .ref v2), (3, .int (v3 + (-1)))] rfl ?_
        refine EW_goto (tgt := 14) dX0_takeOut_80 (by decide) ?_
        exact hL14 (v3 + (-1)) h
      · replace h := h.2 q
        refine EW_iconst (pc2 := 43) (v := 2) rfl dX0_takeOut_42 (by decide) ?_
        refine EW_aload_n (pc2 := 44) rfl dX0_takeOut_43 1 rfl ?_
        refine AW_getr (r := (v2 + 2)) ⟨gfRX0_293, rfl⟩ (pc2 := 47) rfl dX0_takeOut_44 (isH.o hv2) (isH.r2 hv2) ?_
        refine EW_iload_n (pc2 := 48) rfl dX0_takeOut_47 2 rfl ?_
        obtain ⟨b3, h⟩ := h
        refine AW_iald (pc2 := 49) rfl dX0_takeOut_48 (isH.a2 hv2) b3 ?_
        refine AW_mmin mmRX0_290 (pc2 := 52) rfl dX0_takeOut_49 (Nat.le_of_ble_eq_true rfl) (by omega) ?_
        refine EW_istore (pc2 := 54) rfl dX0_takeOut_52 (by decide) [1, 2, 3, 0] [(0, .ref 66), (2, .ref v2), (3, .int v3), (4, .int (imin 2 (x.1 (v2 + 2) (Int32.toNatClampNeg v3))))] rfl ?_
        refine EW_aload_n (pc2 := 55) rfl dX0_takeOut_54 1 rfl ?_
        refine AW_getr (r := (v2 + 2)) ⟨gfRX0_293, rfl⟩ (pc2 := 58) rfl dX0_takeOut_55 (isH.o hv2) (isH.r2 hv2) ?_
        refine EW_iload_n (pc2 := 59) rfl dX0_takeOut_58 2 rfl ?_
        refine EW_dup2 (pc2 := 60) rfl dX0_takeOut_59 rfl rfl ?_
        obtain ⟨b4, h⟩ := h
        refine AW_iald (pc2 := 61) rfl dX0_takeOut_60 (isH.a2 hv2) b4 ?_
        refine EW_iload (pc2 := 63) rfl dX0_takeOut_61 3 rfl ?_
        refine EW_isub (pc2 := 64) rfl dX0_takeOut_63 ?_
        obtain ⟨b5, h⟩ := h
        refine AW_iast (pc2 := 65) rfl dX0_takeOut_64 (isH.a2 hv2) b5 ?_
        refine EW_aload_n (pc2 := 66) rfl dX0_takeOut_65 1 rfl ?_
        refine EW_dup (pc2 := 67) rfl dX0_takeOut_66 rfl ?_
        refine AW_geti ⟨gfRX0_300, rfl⟩ (pc2 := 70) rfl dX0_takeOut_67 (isH.o hv2) ?_
        refine EW_iload (pc2 := 72) rfl dX0_takeOut_70 3 rfl ?_
        refine EW_iadd (pc2 := 73) rfl dX0_takeOut_72 ?_
        refine AW_puti ⟨gfRX0_300, rfl, rfl⟩ (pc2 := 76) rfl dX0_takeOut_73 (isH.o hv2) ?_
        exact EW_vret rfl dX0_takeOut_76 ⟨_, rfl, rfl, h⟩
set_option maxHeartbeats 4000000 in
set_option maxRecDepth 100000 in
theorem sX0_takeOut (v1 : Nat) (v2 : Nat) (hv1 : isW v1) (hv2 : isH v2) (x : ab_X) (K : ab_X → Prop) (d bc bs : Nat) (hdp : 2 ≤ d) (h : wX0_takeOut v1 v2 x K) : EW MX0_takeOut 0 [(0, .ref 66), (1, .ref v1), (2, .ref v2)] [] (aS x) d bc bs (liV K) := by
  unfold wX0_takeOut at h
  refine EW_aload_n (pc2 := 1) rfl dX0_takeOut_0 2 rfl ?_
  refine AW_geti ⟨gfRX0_155, rfl⟩ (pc2 := 4) rfl dX0_takeOut_1 (isH.o hv2) ?_
  refine EW_aload_n (pc2 := 5) rfl dX0_takeOut_4 1 rfl ?_
  refine AW_geti ⟨gfRX0_287, rfl⟩ (pc2 := 8) rfl dX0_takeOut_5 (isW.o hv1) ?_
  refine AW_mmin mmRX0_290 (pc2 := 11) rfl dX0_takeOut_8 (Nat.le_of_ble_eq_true rfl) (by omega) ?_
  refine EW_iconst (pc2 := 12) (v := 1) rfl dX0_takeOut_11 (by decide) ?_
  refine EW_isub (pc2 := 13) rfl dX0_takeOut_12 ?_
  refine EW_istore_n (pc2 := 14) rfl dX0_takeOut_13 (by decide) [1, 2, 3, 0] [(0, .ref 66), (1, .ref v1), (2, .ref v2), (3, .int ((imin (x.1 v2 3) (x.1 v1 5)) - 1))] rfl ?_
  refine EW_ls [0, 2, 3] rfl ?_
  exact sX0_takeOut_14 v2 ((imin (x.1 v2 3) (x.1 v1 5)) - 1) hv2 x K d bc bs hdp h
theorem gfRX2_72 : ab_L RX2 72 2 16 := ⟨by decide, by decide, ab_in 450 (by decide +kernel) (by decide +kernel)⟩
theorem gfRX2_75 : ab_L RX2 75 2 17 := ⟨by decide, by decide, ab_in 453 (by decide +kernel) (by decide +kernel)⟩
theorem gfRX2_24 : ab_L RX2 24 2 18 := ⟨by decide, by decide, ab_in 455 (by decide +kernel) (by decide +kernel)⟩
theorem gfRX2_27 : ab_L RX2 27 2 19 := ⟨by decide, by decide, ab_in 457 (by decide +kernel) (by decide +kernel)⟩
abbrev MX2_beginMinute : ab_M := (yX2_beginMinute, cX2_beginMinute, 1, none)
theorem dX2_beginMinute_0 : decode cX2_beginMinute 0 = .ok (.aload_n 0, 1) := by decide +kernel
theorem dX2_beginMinute_1 : decode cX2_beginMinute 1 = .ok (.iconst 0, 1) := by decide +kernel
theorem dX2_beginMinute_2 : decode cX2_beginMinute 2 = .ok (.putfield 72, 3) := by decide +kernel
theorem dX2_beginMinute_5 : decode cX2_beginMinute 5 = .ok (.aload_n 0, 1) := by decide +kernel
theorem dX2_beginMinute_6 : decode cX2_beginMinute 6 = .ok (.iconst 0, 1) := by decide +kernel
theorem dX2_beginMinute_7 : decode cX2_beginMinute 7 = .ok (.putfield 75, 3) := by decide +kernel
theorem dX2_beginMinute_10 : decode cX2_beginMinute 10 = .ok (.aload_n 0, 1) := by decide +kernel
theorem dX2_beginMinute_11 : decode cX2_beginMinute 11 = .ok (.iconst (-1), 1) := by decide +kernel
theorem dX2_beginMinute_12 : decode cX2_beginMinute 12 = .ok (.putfield 21, 3) := by decide +kernel
theorem dX2_beginMinute_15 : decode cX2_beginMinute 15 = .ok (.aload_n 0, 1) := by decide +kernel
theorem dX2_beginMinute_16 : decode cX2_beginMinute 16 = .ok (.iconst (-1), 1) := by decide +kernel
theorem dX2_beginMinute_17 : decode cX2_beginMinute 17 = .ok (.putfield 24, 3) := by decide +kernel
theorem dX2_beginMinute_20 : decode cX2_beginMinute 20 = .ok (.aload_n 0, 1) := by decide +kernel
theorem dX2_beginMinute_21 : decode cX2_beginMinute 21 = .ok (.iconst (-1), 1) := by decide +kernel
theorem dX2_beginMinute_22 : decode cX2_beginMinute 22 = .ok (.putfield 27, 3) := by decide +kernel
theorem dX2_beginMinute_25 : decode cX2_beginMinute 25 = .ok (.return_, 1) := by decide +kernel
theorem okX2_beginMinute : ab_okM MX2_beginMinute 0 := ⟨by decide, ⟨by decide, by decide⟩, ab_in 1390 (by decide +kernel) (by decide +kernel), ab_in 94 (by decide +kernel) (by decide +kernel), by decide +kernel, by decide⟩
set_option maxHeartbeats 4000000 in
set_option maxRecDepth 100000 in
theorem sX2_beginMinute (v0 : Nat) (hv0 : isW v0) (x : ab_X) (K : ab_X → Prop) (d bc bs : Nat) (hdp : 0 ≤ d) (h : wX2_beginMinute v0 x K) : EW MX2_beginMinute 0 [(0, .ref v0)] [] (aS x) d bc bs (liV K) := by
  unfold wX2_beginMinute at h
  refine EW_aload_n (pc2 := 1) rfl dX2_beginMinute_0 0 rfl ?_
  refine EW_iconst (pc2 := 2) (v := 0) rfl dX2_beginMinute_1 (by decide) ?_
  refine AW_puti ⟨gfRX2_72, rfl, rfl⟩ (pc2 := 5) rfl dX2_beginMinute_2 (isW.o hv0) ?_
  refine EW_aload_n (pc2 := 6) rfl dX2_beginMinute_5 0 rfl ?_
  refine EW_iconst (pc2 := 7) (v := 0) rfl dX2_beginMinute_6 (by decide) ?_
  refine AW_puti ⟨gfRX2_75, rfl, rfl⟩ (pc2 := 10) rfl dX2_beginMinute_7 (isW.o hv0) ?_
  refine EW_aload_n (pc2 := 11) rfl dX2_beginMinute_10 0 rfl ?_
  refine EW_iconst (pc2 := 12) (v := (-1)) rfl dX2_beginMinute_11 (by decide) ?_
  refine AW_puti ⟨gfRX2_21, rfl, rfl⟩ (pc2 := 15) rfl dX2_beginMinute_12 (isW.o hv0) ?_
  refine EW_aload_n (pc2 := 16) rfl dX2_beginMinute_15 0 rfl ?_
  refine EW_iconst (pc2 := 17) (v := (-1)) rfl dX2_beginMinute_16 (by decide) ?_
  refine AW_puti ⟨gfRX2_24, rfl, rfl⟩ (pc2 := 20) rfl dX2_beginMinute_17 (isW.o hv0) ?_
  refine EW_aload_n (pc2 := 21) rfl dX2_beginMinute_20 0 rfl ?_
  refine EW_iconst (pc2 := 22) (v := (-1)) rfl dX2_beginMinute_21 (by decide) ?_
  refine AW_puti ⟨gfRX2_27, rfl, rfl⟩ (pc2 := 25) rfl dX2_beginMinute_22 (isW.o hv0) ?_
  exact EW_vret rfl dX2_beginMinute_25 ⟨_, rfl, rfl, h⟩
theorem mlRX0_280 : Cond.methodLink RX0 280 yX2_hasHose ∈ ab_G ∧ Cond.instanceMethod yX2_hasHose ∈ ab_G ∧ Cond.selects RX2 yX2_hasHose yX2_hasHose ∈ ab_G := ⟨ab_in 1397 (by decide +kernel) (by decide +kernel), ab_in 972 (by decide +kernel) (by decide +kernel), ab_in 973 (by decide +kernel) (by decide +kernel)⟩
theorem mlRX0_284 : Cond.methodLink RX0 284 yX0_aim ∈ ab_G ∧ Cond.instanceMethod yX0_aim ∈ ab_G ∧ Cond.selects RX0 yX0_aim yX0_aim ∈ ab_G := ⟨ab_in 1398 (by decide +kernel) (by decide +kernel), ab_in 1399 (by decide +kernel) (by decide +kernel), ab_in 1400 (by decide +kernel) (by decide +kernel)⟩
theorem mlRX0_276 : Cond.methodLink RX0 276 yX0_takeOut ∈ ab_G ∧ Cond.instanceMethod yX0_takeOut ∈ ab_G ∧ Cond.selects RX0 yX0_takeOut yX0_takeOut ∈ ab_G := ⟨ab_in 1391 (by decide +kernel) (by decide +kernel), ab_in 1392 (by decide +kernel) (by decide +kernel), ab_in 1393 (by decide +kernel) (by decide +kernel)⟩
theorem mlRX0_273 : Cond.methodLink RX0 273 yX2_beginMinute ∈ ab_G ∧ Cond.instanceMethod yX2_beginMinute ∈ ab_G ∧ Cond.selects RX2 yX2_beginMinute yX2_beginMinute ∈ ab_G := ⟨ab_in 1387 (by decide +kernel) (by decide +kernel), ab_in 1388 (by decide +kernel) (by decide +kernel), ab_in 1389 (by decide +kernel) (by decide +kernel)⟩
abbrev MX0_workAll : ab_M := (yX0_workAll, cX0_workAll, 3, none)
theorem dX0_workAll_0 : decode cX0_workAll 0 = .ok (.aload_n 0, 1) := by decide +kernel
theorem dX0_workAll_1 : decode cX0_workAll 1 = .ok (.getfield 49, 3) := by decide +kernel
theorem dX0_workAll_4 : decode cX0_workAll 4 = .ok (.getfield 100, 3) := by decide +kernel
theorem dX0_workAll_7 : decode cX0_workAll 7 = .ok (.invokevirtual 270, 3) := by decide +kernel
theorem dX0_workAll_10 : decode cX0_workAll 10 = .ok (.iconst 0, 1) := by decide +kernel
theorem dX0_workAll_11 : decode cX0_workAll 11 = .ok (.istore_n 1, 1) := by decide +kernel
theorem dX0_workAll_12 : decode cX0_workAll 12 = .ok (.iload_n 1, 1) := by decide +kernel
theorem dX0_workAll_13 : decode cX0_workAll 13 = .ok (.aload_n 0, 1) := by decide +kernel
theorem dX0_workAll_14 : decode cX0_workAll 14 = .ok (.getfield 55, 3) := by decide +kernel
theorem dX0_workAll_17 : decode cX0_workAll 17 = .ok (.if_icmp .ge 18, 3) := by decide +kernel
theorem dX0_workAll_20 : decode cX0_workAll 20 = .ok (.aload_n 0, 1) := by decide +kernel
theorem dX0_workAll_21 : decode cX0_workAll 21 = .ok (.getfield 11, 3) := by decide +kernel
theorem dX0_workAll_24 : decode cX0_workAll 24 = .ok (.iload_n 1, 1) := by decide +kernel
theorem dX0_workAll_25 : decode cX0_workAll 25 = .ok (.aaload, 1) := by decide +kernel
theorem dX0_workAll_26 : decode cX0_workAll 26 = .ok (.invokevirtual 273, 3) := by decide +kernel
theorem dX0_workAll_29 : decode cX0_workAll 29 = .ok (.iinc 1 1, 3) := by decide +kernel
theorem dX0_workAll_32 : decode cX0_workAll 32 = .ok (.goto (-20), 3) := by decide +kernel
theorem dX0_workAll_35 : decode cX0_workAll 35 = .ok (.iconst 0, 1) := by decide +kernel
theorem dX0_workAll_36 : decode cX0_workAll 36 = .ok (.istore_n 1, 1) := by decide +kernel
theorem dX0_workAll_37 : decode cX0_workAll 37 = .ok (.iload_n 1, 1) := by decide +kernel
theorem dX0_workAll_38 : decode cX0_workAll 38 = .ok (.aload_n 0, 1) := by decide +kernel
theorem dX0_workAll_39 : decode cX0_workAll 39 = .ok (.getfield 55, 3) := by decide +kernel
theorem dX0_workAll_42 : decode cX0_workAll 42 = .ok (.if_icmp .ge 90, 3) := by decide +kernel
theorem dX0_workAll_45 : decode cX0_workAll 45 = .ok (.aload_n 0, 1) := by decide +kernel
theorem dX0_workAll_46 : decode cX0_workAll 46 = .ok (.getfield 11, 3) := by decide +kernel
theorem dX0_workAll_49 : decode cX0_workAll 49 = .ok (.iload_n 1, 1) := by decide +kernel
theorem dX0_workAll_50 : decode cX0_workAll 50 = .ok (.aaload, 1) := by decide +kernel
theorem dX0_workAll_51 : decode cX0_workAll 51 = .ok (.astore_n 2, 1) := by decide +kernel
theorem dX0_workAll_52 : decode cX0_workAll 52 = .ok (.aload_n 2, 1) := by decide +kernel
theorem dX0_workAll_53 : decode cX0_workAll 53 = .ok (.getfield 75, 3) := by decide +kernel
theorem dX0_workAll_56 : decode cX0_workAll 56 = .ok (.iconst 2, 1) := by decide +kernel
theorem dX0_workAll_57 : decode cX0_workAll 57 = .ok (.if_icmp .ne 69, 3) := by decide +kernel
theorem dX0_workAll_60 : decode cX0_workAll 60 = .ok (.aload_n 0, 1) := by decide +kernel
theorem dX0_workAll_61 : decode cX0_workAll 61 = .ok (.getfield 49, 3) := by decide +kernel
theorem dX0_workAll_64 : decode cX0_workAll 64 = .ok (.aload_n 2, 1) := by decide +kernel
theorem dX0_workAll_65 : decode cX0_workAll 65 = .ok (.getfield 78, 3) := by decide +kernel
theorem dX0_workAll_68 : decode cX0_workAll 68 = .ok (.invokevirtual 263, 3) := by decide +kernel
theorem dX0_workAll_71 : decode cX0_workAll 71 = .ok (.ifCond .eq 55, 3) := by decide +kernel
theorem dX0_workAll_74 : decode cX0_workAll 74 = .ok (.aload_n 2, 1) := by decide +kernel
theorem dX0_workAll_75 : decode cX0_workAll 75 = .ok (.getfield 63, 3) := by decide +kernel
theorem dX0_workAll_78 : decode cX0_workAll 78 = .ok (.iconst 2, 1) := by decide +kernel
theorem dX0_workAll_79 : decode cX0_workAll 79 = .ok (.if_icmp .ne 23, 3) := by decide +kernel
theorem dX0_workAll_82 : decode cX0_workAll 82 = .ok (.aload_n 0, 1) := by decide +kernel
theorem dX0_workAll_83 : decode cX0_workAll 83 = .ok (.aload_n 2, 1) := by decide +kernel
theorem dX0_workAll_84 : decode cX0_workAll 84 = .ok (.aload_n 0, 1) := by decide +kernel
theorem dX0_workAll_85 : decode cX0_workAll 85 = .ok (.getfield 49, 3) := by decide +kernel
theorem dX0_workAll_88 : decode cX0_workAll 88 = .ok (.getfield 148, 3) := by decide +kernel
theorem dX0_workAll_91 : decode cX0_workAll 91 = .ok (.aload_n 2, 1) := by decide +kernel
theorem dX0_workAll_92 : decode cX0_workAll 92 = .ok (.getfield 78, 3) := by decide +kernel
theorem dX0_workAll_95 : decode cX0_workAll 95 = .ok (.aaload, 1) := by decide +kernel
theorem dX0_workAll_96 : decode cX0_workAll 96 = .ok (.invokevirtual 276, 3) := by decide +kernel
theorem dX0_workAll_99 : decode cX0_workAll 99 = .ok (.goto 27, 3) := by decide +kernel
theorem dX0_workAll_102 : decode cX0_workAll 102 = .ok (.aload_n 2, 1) := by decide +kernel
theorem dX0_workAll_103 : decode cX0_workAll 103 = .ok (.invokevirtual 280, 3) := by decide +kernel
theorem dX0_workAll_106 : decode cX0_workAll 106 = .ok (.ifCond .eq 20, 3) := by decide +kernel
theorem dX0_workAll_109 : decode cX0_workAll 109 = .ok (.aload_n 0, 1) := by decide +kernel
theorem dX0_workAll_110 : decode cX0_workAll 110 = .ok (.aload_n 2, 1) := by decide +kernel
theorem dX0_workAll_111 : decode cX0_workAll 111 = .ok (.aload_n 0, 1) := by decide +kernel
theorem dX0_workAll_112 : decode cX0_workAll 112 = .ok (.getfield 49, 3) := by decide +kernel
theorem dX0_workAll_115 : decode cX0_workAll 115 = .ok (.getfield 148, 3) := by decide +kernel
theorem dX0_workAll_118 : decode cX0_workAll 118 = .ok (.aload_n 2, 1) := by decide +kernel
theorem dX0_workAll_119 : decode cX0_workAll 119 = .ok (.getfield 78, 3) := by decide +kernel
theorem dX0_workAll_122 : decode cX0_workAll 122 = .ok (.aaload, 1) := by decide +kernel
theorem dX0_workAll_123 : decode cX0_workAll 123 = .ok (.invokevirtual 284, 3) := by decide +kernel
theorem dX0_workAll_126 : decode cX0_workAll 126 = .ok (.iinc 1 1, 3) := by decide +kernel
theorem dX0_workAll_129 : decode cX0_workAll 129 = .ok (.goto (-92), 3) := by decide +kernel
theorem dX0_workAll_132 : decode cX0_workAll 132 = .ok (.return_, 1) := by decide +kernel
theorem okX0_workAll : ab_okM MX0_workAll 0 := ⟨by decide, ⟨by decide, by decide⟩, ab_in 1381 (by decide +kernel) (by decide +kernel), ab_in 92 (by decide +kernel) (by decide +kernel), by decide +kernel, by decide⟩
set_option maxHeartbeats 4000000 in
set_option maxRecDepth 100000 in
theorem sX0_workAll_37 (v1 : Int32)  (x : ab_X) (K : ab_X → Prop)  (d bc bs : Nat) (hdp : 5 ≤ d)  (h : Lp2 (lX0_workAll_37  K ) v1 x) : EW MX0_workAll 37 [(0, .ref 66), (1, .int v1)] [] (aS x) d bc bs (liV K) := by
  refine Lp2.use (P := fun v1 x => EW MX0_workAll 37 [(0, .ref 66), (1, .int v1)] [] (aS x) d bc bs (liV K)) (fun L37 v1 x hL37 h => ?_) v1 x h
  unfold lX0_workAll_37 at h
  refine EW_iload_n (pc2 := 38) rfl dX0_workAll_37 1 rfl ?_
  refine EW_aload_n (pc2 := 39) rfl dX0_workAll_38 0 rfl ?_
  refine AW_geti ⟨gfRX0_55, rfl⟩ (pc2 := 42) rfl dX0_workAll_39 q66 ?_
  refine EW_icmp_ge (tgt := 132) (pc2 := 45) rfl dX0_workAll_42 (by decide) (fun q => ?_) (fun q => ?_)
  · replace h := h.1 q
    exact EW_vret rfl dX0_workAll_132 ⟨_, rfl, rfl, h⟩
  · replace h := h.2 q
    refine EW_aload_n (pc2 := 46) rfl dX0_workAll_45 0 rfl ?_
    refine AW_getr (r := 67) ⟨gfRX0_11, rfl⟩ (pc2 := 49) rfl dX0_workAll_46 q66 rfl ?_
    refine EW_iload_n (pc2 := 50) rfl dX0_workAll_49 1 rfl ?_
    obtain ⟨b4, h⟩ := h
    refine AW_aald6 (pc2 := 51) rfl dX0_workAll_50 b4 ?_
    refine EW_astore_n (pc2 := 52) rfl dX0_workAll_51 (by decide) [1, 2, 0] [(0, .ref 66), (1, .int v1), (2, .ref (82 + Int32.toNatClampNeg v1))] rfl ?_
    refine EW_aload_n (pc2 := 53) rfl dX0_workAll_52 2 rfl ?_
    refine AW_geti ⟨gfRX0_75, rfl⟩ (pc2 := 56) rfl dX0_workAll_53 (isW.o (isW_of b4)) ?_
    refine EW_iconst (pc2 := 57) (v := 2) rfl dX0_workAll_56 (by decide) ?_
    refine EW_icmp_ne (tgt := 126) (pc2 := 60) rfl dX0_workAll_57 (by decide) (fun q => ?_) (fun q => ?_)
    · replace h := h.1 q
      refine EW_iinc (v1 + 1) (pc2 := 129) rfl dX0_workAll_126 1 rfl rfl (by decide) [1, 0, 2] [(0, .ref 66), (1, .int (v1 + 1)), (2, .ref (82 + Int32.toNatClampNeg v1))] rfl ?_
      refine EW_goto (tgt := 37) dX0_workAll_129 (by decide) ?_
      refine EW_ls [0, 1] rfl ?_
      exact hL37 (v1 + 1) x h
    · replace h := h.2 q
      refine EW_aload_n (pc2 := 61) rfl dX0_workAll_60 0 rfl ?_
      refine AW_getr (r := 9) ⟨gfRX0_49, rfl⟩ (pc2 := 64) rfl dX0_workAll_61 q66 rfl ?_
      refine EW_aload_n (pc2 := 65) rfl dX0_workAll_64 2 rfl ?_
      refine AW_geti ⟨gfRX0_78, rfl⟩ (pc2 := 68) rfl dX0_workAll_65 (isW.o (isW_of b4)) ?_
      refine AW_invV (M' := MX10_has) [.int (x.1 (82 + Int32.toNatClampNeg v1) 12)] (rest := []) mlRX0_263 okX10_has (pc2 := 71) rfl dX0_workAll_68 rfl rfl (Nat.le_of_ble_eq_true rfl) (Nat.le_of_ble_eq_true rfl) (d' := 1) (by omega) q9 ⟨by decide, rfl⟩ (EW_mono (fun _ _ hr => ?_) (sX10_has (x.1 (82 + Int32.toNatClampNeg v1) 12)  x _ _ 0 0 (Nat.le_refl _) h))
      obtain ⟨r5, rfl, rfl, h⟩ := hr
      refine EW_if_eq (tgt := 126) (pc2 := 74) rfl dX0_workAll_71 (by decide) (fun q => ?_) (fun q => ?_)
      · replace h := h.1 q
        refine EW_iinc (v1 + 1) (pc2 := 129) rfl dX0_workAll_126 1 rfl rfl (by decide) [1, 0, 2] [(0, .ref 66), (1, .int (v1 + 1)), (2, .ref (82 + Int32.toNatClampNeg v1))] rfl ?_
        refine EW_goto (tgt := 37) dX0_workAll_129 (by decide) ?_
        refine EW_ls [0, 1] rfl ?_
        exact hL37 (v1 + 1) x h
      · replace h := h.2 q
        refine EW_aload_n (pc2 := 75) rfl dX0_workAll_74 2 rfl ?_
        refine AW_geti ⟨gfRX0_63, rfl⟩ (pc2 := 78) rfl dX0_workAll_75 (isW.o (isW_of b4)) ?_
        refine EW_iconst (pc2 := 79) (v := 2) rfl dX0_workAll_78 (by decide) ?_
        refine EW_icmp_ne (tgt := 102) (pc2 := 82) rfl dX0_workAll_79 (by decide) (fun q => ?_) (fun q => ?_)
        · replace h := h.1 q
          refine EW_aload_n (pc2 := 103) rfl dX0_workAll_102 2 rfl ?_
          refine AW_invV (M' := MX2_hasHose) [] (rest := []) mlRX0_280 okX2_hasHose (pc2 := 106) rfl dX0_workAll_103 rfl rfl (Nat.le_of_ble_eq_true rfl) (Nat.le_of_ble_eq_true rfl) (d' := 0) (by omega) (isW.o (isW_of b4)) ⟨by decide, rfl⟩ (EW_mono (fun _ _ hr => ?_) (sX2_hasHose (82 + Int32.toNatClampNeg v1) (isW_of b4) x _ _ 0 0 (Nat.le_refl _) h))
          obtain ⟨r6, rfl, rfl, h⟩ := hr
          refine EW_if_eq (tgt := 126) (pc2 := 109) rfl dX0_workAll_106 (by decide) (fun q => ?_) (fun q => ?_)
          · replace h := h.1 q
            refine EW_iinc (v1 + 1) (pc2 := 129) rfl dX0_workAll_126 1 rfl rfl (by decide) [1, 0, 2] [(0, .ref 66), (1, .int (v1 + 1)), (2, .ref (82 + Int32.toNatClampNeg v1))] rfl ?_
            refine EW_goto (tgt := 37) dX0_workAll_129 (by decide) ?_
            refine EW_ls [0, 1] rfl ?_
            exact hL37 (v1 + 1) x h
          · replace h := h.2 q
            refine EW_aload_n (pc2 := 110) rfl dX0_workAll_109 0 rfl ?_
            refine EW_aload_n (pc2 := 111) rfl dX0_workAll_110 2 rfl ?_
            refine EW_aload_n (pc2 := 112) rfl dX0_workAll_111 0 rfl ?_
            refine AW_getr (r := 9) ⟨gfRX0_49, rfl⟩ (pc2 := 115) rfl dX0_workAll_112 q66 rfl ?_
            refine AW_getr (r := 10) ⟨gfRX0_148, rfl⟩ (pc2 := 118) rfl dX0_workAll_115 q9 rfl ?_
            refine EW_aload_n (pc2 := 119) rfl dX0_workAll_118 2 rfl ?_
            refine AW_geti ⟨gfRX0_78, rfl⟩ (pc2 := 122) rfl dX0_workAll_119 (isW.o (isW_of b4)) ?_
            obtain ⟨b7, h⟩ := h
            refine AW_aald5 (pc2 := 123) rfl dX0_workAll_122 b7 ?_
            refine AW_invV (M' := MX0_aim) [.ref (82 + Int32.toNatClampNeg v1), .ref (30 + 3 * Int32.toNatClampNeg (x.1 (82 + Int32.toNatClampNeg v1) 12))] (rest := []) mlRX0_284 okX0_aim (pc2 := 126) rfl dX0_workAll_123 rfl rfl (Nat.le_of_ble_eq_true rfl) (Nat.le_of_ble_eq_true rfl) (d' := 4) (by omega) q66 ⟨by decide, rfl⟩ (EW_mono (fun _ _ hr => ?_) (sX0_aim (82 + Int32.toNatClampNeg v1) (30 + 3 * Int32.toNatClampNeg (x.1 (82 + Int32.toNatClampNeg v1) 12)) (isW_of b4) (isH_of b7) x _ _ 0 0 (Nat.le_refl _) h))
            obtain ⟨x8, rfl, rfl, h⟩ := hr
            refine EW_iinc (v1 + 1) (pc2 := 129) rfl dX0_workAll_126 1 rfl rfl (by decide) [1, 0, 2] [(0, .ref 66), (1, .int (v1 + 1)), (2, .ref (82 + Int32.toNatClampNeg v1))] rfl ?_
            refine EW_goto (tgt := 37) dX0_workAll_129 (by decide) ?_
            refine EW_ls [0, 1] rfl ?_
            exact hL37 (v1 + 1) x8 h
        · replace h := h.2 q
          refine EW_aload_n (pc2 := 83) rfl dX0_workAll_82 0 rfl ?_
          refine EW_aload_n (pc2 := 84) rfl dX0_workAll_83 2 rfl ?_
          refine EW_aload_n (pc2 := 85) rfl dX0_workAll_84 0 rfl ?_
          refine AW_getr (r := 9) ⟨gfRX0_49, rfl⟩ (pc2 := 88) rfl dX0_workAll_85 q66 rfl ?_
          refine AW_getr (r := 10) ⟨gfRX0_148, rfl⟩ (pc2 := 91) rfl dX0_workAll_88 q9 rfl ?_
          refine EW_aload_n (pc2 := 92) rfl dX0_workAll_91 2 rfl ?_
          refine AW_geti ⟨gfRX0_78, rfl⟩ (pc2 := 95) rfl dX0_workAll_92 (isW.o (isW_of b4)) ?_
          obtain ⟨b9, h⟩ := h
          refine AW_aald5 (pc2 := 96) rfl dX0_workAll_95 b9 ?_
          refine AW_invV (M' := MX0_takeOut) [.ref (82 + Int32.toNatClampNeg v1), .ref (30 + 3 * Int32.toNatClampNeg (x.1 (82 + Int32.toNatClampNeg v1) 12))] (rest := []) mlRX0_276 okX0_takeOut (pc2 := 99) rfl dX0_workAll_96 rfl rfl (Nat.le_of_ble_eq_true rfl) (Nat.le_of_ble_eq_true rfl) (d' := 2) (by omega) q66 ⟨by decide, rfl⟩ (EW_mono (fun _ _ hr => ?_) (sX0_takeOut (82 + Int32.toNatClampNeg v1) (30 + 3 * Int32.toNatClampNeg (x.1 (82 + Int32.toNatClampNeg v1) 12)) (isW_of b4) (isH_of b9) x _ _ 0 0 (Nat.le_refl _) h))
          obtain ⟨x10, rfl, rfl, h⟩ := hr
          refine EW_goto (tgt := 126) dX0_workAll_99 (by decide) ?_
          refine EW_iinc (v1 + 1) (pc2 := 129) rfl dX0_workAll_126 1 rfl rfl (by decide) [1, 0, 2] [(0, .ref 66), (1, .int (v1 + 1)), (2, .ref (82 + Int32.toNatClampNeg v1))] rfl ?_
          refine EW_goto (tgt := 37) dX0_workAll_129 (by decide) ?_
          refine EW_ls [0, 1] rfl ?_
          exact hL37 (v1 + 1) x10 h
set_option maxHeartbeats 4000000 in
set_option maxRecDepth 100000 in
theorem sX0_workAll_12 (v1 : Int32)  (x : ab_X) (K : ab_X → Prop)  (d bc bs : Nat) (hdp : 5 ≤ d)  (h : Lp2 (lX0_workAll_12  K ) v1 x) : EW MX0_workAll 12 [(0, .ref 66), (1, .int v1)] [] (aS x) d bc bs (liV K) := by
  refine Lp2.use (P := fun v1 x => EW MX0_workAll 12 [(0, .ref 66), (1, .int v1)] [] (aS x) d bc bs (liV K)) (fun L12 v1 x hL12 h => ?_) v1 x h
  unfold lX0_workAll_12 at h
  refine EW_iload_n (pc2 := 13) rfl dX0_workAll_12 1 rfl ?_
  refine EW_aload_n (pc2 := 14) rfl dX0_workAll_13 0 rfl ?_
  refine AW_geti ⟨gfRX0_55, rfl⟩ (pc2 := 17) rfl dX0_workAll_14 q66 ?_
  refine EW_icmp_ge (tgt := 35) (pc2 := 20) rfl dX0_workAll_17 (by decide) (fun q => ?_) (fun q => ?_)
  · replace h := h.1 q
    refine EW_iconst (pc2 := 36) (v := 0) rfl dX0_workAll_35 (by decide) ?_
    refine EW_istore_n (pc2 := 37) rfl dX0_workAll_36 (by decide) [1, 0] [(0, .ref 66), (1, .int 0)] rfl ?_
    exact sX0_workAll_37 0 x K d bc bs hdp h
  · replace h := h.2 q
    refine EW_aload_n (pc2 := 21) rfl dX0_workAll_20 0 rfl ?_
    refine AW_getr (r := 67) ⟨gfRX0_11, rfl⟩ (pc2 := 24) rfl dX0_workAll_21 q66 rfl ?_
    refine EW_iload_n (pc2 := 25) rfl dX0_workAll_24 1 rfl ?_
    obtain ⟨b2, h⟩ := h
    refine AW_aald6 (pc2 := 26) rfl dX0_workAll_25 b2 ?_
    refine AW_invV (M' := MX2_beginMinute) [] (rest := []) mlRX0_273 okX2_beginMinute (pc2 := 29) rfl dX0_workAll_26 rfl rfl (Nat.le_of_ble_eq_true rfl) (Nat.le_of_ble_eq_true rfl) (d' := 0) (by omega) (isW.o (isW_of b2)) ⟨by decide, rfl⟩ (EW_mono (fun _ _ hr => ?_) (sX2_beginMinute (82 + Int32.toNatClampNeg v1) (isW_of b2) x _ _ 0 0 (Nat.le_refl _) h))
    obtain ⟨x3, rfl, rfl, h⟩ := hr
    refine EW_iinc (v1 + 1) (pc2 := 32) rfl dX0_workAll_29 1 rfl rfl (by decide) [1, 0] [(0, .ref 66), (1, .int (v1 + 1))] rfl ?_
    refine EW_goto (tgt := 12) dX0_workAll_32 (by decide) ?_
    exact hL12 (v1 + 1) x3 h
set_option maxHeartbeats 4000000 in
set_option maxRecDepth 100000 in
theorem sX0_workAll   (x : ab_X) (K : ab_X → Prop) (d bc bs : Nat) (hdp : 5 ≤ d) (h : wX0_workAll  x K) : EW MX0_workAll 0 [(0, .ref 66)] [] (aS x) d bc bs (liV K) := by
  unfold wX0_workAll at h
  refine EW_aload_n (pc2 := 1) rfl dX0_workAll_0 0 rfl ?_
  refine AW_getr (r := 9) ⟨gfRX0_49, rfl⟩ (pc2 := 4) rfl dX0_workAll_1 q66 rfl ?_
  refine AW_getr (r := 11) ⟨gfRX0_100, rfl⟩ (pc2 := 7) rfl dX0_workAll_4 q9 rfl ?_
  refine AW_invV (M' := MX3_dry) [] (rest := []) mlRX0_270 okX3_dry (pc2 := 10) rfl dX0_workAll_7 rfl rfl (Nat.le_of_ble_eq_true rfl) (Nat.le_of_ble_eq_true rfl) (d' := 1) (by omega) q11 ⟨by decide, rfl⟩ (EW_mono (fun _ _ hr => ?_) (sX3_dry 11 (Or.inl rfl : isF 11) x _ _ 0 0 (Nat.le_refl _) h))
  obtain ⟨x1, rfl, rfl, h⟩ := hr
  refine EW_iconst (pc2 := 11) (v := 0) rfl dX0_workAll_10 (by decide) ?_
  refine EW_istore_n (pc2 := 12) rfl dX0_workAll_11 (by decide) [1, 0] [(0, .ref 66), (1, .int 0)] rfl ?_
  exact sX0_workAll_12 0 x1 K d bc bs hdp h
abbrev MX3_deadlyRooms : ab_M := (yX3_deadlyRooms, cX3_deadlyRooms, 6, (some .int))
theorem dX3_deadlyRooms_0 : decode cX3_deadlyRooms 0 = .ok (.iconst 0, 1) := by decide +kernel
theorem dX3_deadlyRooms_1 : decode cX3_deadlyRooms 1 = .ok (.istore_n 3, 1) := by decide +kernel
theorem dX3_deadlyRooms_2 : decode cX3_deadlyRooms 2 = .ok (.iconst 0, 1) := by decide +kernel
theorem dX3_deadlyRooms_3 : decode cX3_deadlyRooms 3 = .ok (.istore 4, 2) := by decide +kernel
theorem dX3_deadlyRooms_5 : decode cX3_deadlyRooms 5 = .ok (.iload 4, 2) := by decide +kernel
theorem dX3_deadlyRooms_7 : decode cX3_deadlyRooms 7 = .ok (.aload_n 1, 1) := by decide +kernel
theorem dX3_deadlyRooms_8 : decode cX3_deadlyRooms 8 = .ok (.getfield 60, 3) := by decide +kernel
theorem dX3_deadlyRooms_11 : decode cX3_deadlyRooms 11 = .ok (.if_icmp .ge 54, 3) := by decide +kernel
theorem dX3_deadlyRooms_14 : decode cX3_deadlyRooms 14 = .ok (.aload_n 1, 1) := by decide +kernel
theorem dX3_deadlyRooms_15 : decode cX3_deadlyRooms 15 = .ok (.iload_n 2, 1) := by decide +kernel
theorem dX3_deadlyRooms_16 : decode cX3_deadlyRooms 16 = .ok (.aload_n 1, 1) := by decide +kernel
theorem dX3_deadlyRooms_17 : decode cX3_deadlyRooms 17 = .ok (.getfield 60, 3) := by decide +kernel
theorem dX3_deadlyRooms_20 : decode cX3_deadlyRooms 20 = .ok (.imul, 1) := by decide +kernel
theorem dX3_deadlyRooms_21 : decode cX3_deadlyRooms 21 = .ok (.iload 4, 2) := by decide +kernel
theorem dX3_deadlyRooms_23 : decode cX3_deadlyRooms 23 = .ok (.iadd, 1) := by decide +kernel
theorem dX3_deadlyRooms_24 : decode cX3_deadlyRooms 24 = .ok (.invokevirtual 63, 3) := by decide +kernel
theorem dX3_deadlyRooms_27 : decode cX3_deadlyRooms 27 = .ok (.istore 5, 2) := by decide +kernel
theorem dX3_deadlyRooms_29 : decode cX3_deadlyRooms 29 = .ok (.iload_n 3, 1) := by decide +kernel
theorem dX3_deadlyRooms_30 : decode cX3_deadlyRooms 30 = .ok (.aload_n 0, 1) := by decide +kernel
theorem dX3_deadlyRooms_31 : decode cX3_deadlyRooms 31 = .ok (.iload 5, 2) := by decide +kernel
theorem dX3_deadlyRooms_33 : decode cX3_deadlyRooms 33 = .ok (.invokevirtual 66, 3) := by decide +kernel
theorem dX3_deadlyRooms_36 : decode cX3_deadlyRooms 36 = .ok (.ifCond .eq 20, 3) := by decide +kernel
theorem dX3_deadlyRooms_39 : decode cX3_deadlyRooms 39 = .ok (.aload_n 0, 1) := by decide +kernel
theorem dX3_deadlyRooms_40 : decode cX3_deadlyRooms 40 = .ok (.getfield 9, 3) := by decide +kernel
theorem dX3_deadlyRooms_43 : decode cX3_deadlyRooms 43 = .ok (.iload 5, 2) := by decide +kernel
theorem dX3_deadlyRooms_45 : decode cX3_deadlyRooms 45 = .ok (.iaload, 1) := by decide +kernel
theorem dX3_deadlyRooms_46 : decode cX3_deadlyRooms 46 = .ok (.sipush 600, 3) := by decide +kernel
theorem dX3_deadlyRooms_49 : decode cX3_deadlyRooms 49 = .ok (.if_icmp .lt 7, 3) := by decide +kernel
theorem dX3_deadlyRooms_52 : decode cX3_deadlyRooms 52 = .ok (.iconst 1, 1) := by decide +kernel
theorem dX3_deadlyRooms_53 : decode cX3_deadlyRooms 53 = .ok (.goto 4, 3) := by decide +kernel
theorem dX3_deadlyRooms_56 : decode cX3_deadlyRooms 56 = .ok (.iconst 0, 1) := by decide +kernel
theorem dX3_deadlyRooms_57 : decode cX3_deadlyRooms 57 = .ok (.iadd, 1) := by decide +kernel
theorem dX3_deadlyRooms_58 : decode cX3_deadlyRooms 58 = .ok (.istore_n 3, 1) := by decide +kernel
theorem dX3_deadlyRooms_59 : decode cX3_deadlyRooms 59 = .ok (.iinc 4 1, 3) := by decide +kernel
theorem dX3_deadlyRooms_62 : decode cX3_deadlyRooms 62 = .ok (.goto (-57), 3) := by decide +kernel
theorem dX3_deadlyRooms_65 : decode cX3_deadlyRooms 65 = .ok (.iload_n 3, 1) := by decide +kernel
theorem dX3_deadlyRooms_66 : decode cX3_deadlyRooms 66 = .ok (.ireturn, 1) := by decide +kernel
theorem okX3_deadlyRooms : ab_okM MX3_deadlyRooms 2 := ⟨by decide, ⟨by decide, by decide⟩, ab_in 1481 (by decide +kernel) (by decide +kernel), ab_in 90 (by decide +kernel) (by decide +kernel), by decide +kernel, by decide⟩
set_option maxHeartbeats 4000000 in
set_option maxRecDepth 100000 in
theorem sX3_deadlyRooms_57 (v0 : Nat) (v1 : Nat) (v2 : Int32) (v4 : Int32) (s0 : Int32) (s1 : Int32) (hv0 : isF v0) (hv1 : isH v1) (x : ab_X) (K : Int32 → Prop) (L5 : Int32 → Int32 → Prop) (d bc bs : Nat) (hdp : 1 ≤ d) (hL5 : ∀ (v3 : Int32) (v4 : Int32), L5 v3 v4 → EW MX3_deadlyRooms 5 [(0, .ref v0), (1, .ref v1), (2, .int v2), (3, .int v3), (4, .int v4)] [] (aS x) d bc bs (liP x K)) (h : wX3_deadlyRooms_57 v0 v1 v2 v4 s0 s1 x K L5) : EW MX3_deadlyRooms 57 [(0, .ref v0), (1, .ref v1), (2, .int v2), (4, .int v4)] [.int s1, .int s0] (aS x) d bc bs (liP x K) := by
  unfold wX3_deadlyRooms_57 at h
  refine EW_iadd (pc2 := 58) rfl dX3_deadlyRooms_57 ?_
  refine EW_istore_n (pc2 := 59) rfl dX3_deadlyRooms_58 (by decide) [1, 2, 3, 0, 4] [(0, .ref v0), (1, .ref v1), (2, .int v2), (3, .int (s0 + s1)), (4, .int v4)] rfl ?_
  refine EW_iinc (v4 + 1) (pc2 := 62) rfl dX3_deadlyRooms_59 4 rfl rfl (by decide) [1, 2, 3, 4, 0] [(0, .ref v0), (1, .ref v1), (2, .int v2), (3, .int (s0 + s1)), (4, .int (v4 + 1))] rfl ?_
  refine EW_goto (tgt := 5) dX3_deadlyRooms_62 (by decide) ?_
  exact hL5 (s0 + s1) (v4 + 1) h
set_option maxHeartbeats 4000000 in
set_option maxRecDepth 100000 in
theorem sX3_deadlyRooms_56 (v0 : Nat) (v1 : Nat) (v2 : Int32) (v4 : Int32) (s0 : Int32) (hv0 : isF v0) (hv1 : isH v1) (x : ab_X) (K : Int32 → Prop) (L5 : Int32 → Int32 → Prop) (d bc bs : Nat) (hdp : 1 ≤ d) (hL5 : ∀ (v3 : Int32) (v4 : Int32), L5 v3 v4 → EW MX3_deadlyRooms 5 [(0, .ref v0), (1, .ref v1), (2, .int v2), (3, .int v3), (4, .int v4)] [] (aS x) d bc bs (liP x K)) (h : wX3_deadlyRooms_56 v0 v1 v2 v4 s0 x K L5) : EW MX3_deadlyRooms 56 [(0, .ref v0), (1, .ref v1), (2, .int v2), (4, .int v4)] [.int s0] (aS x) d bc bs (liP x K) := by
  unfold wX3_deadlyRooms_56 at h
  refine EW_iconst (pc2 := 57) (v := 0) rfl dX3_deadlyRooms_56 (by decide) ?_
  exact sX3_deadlyRooms_57 v0 v1 v2 v4 s0 0 hv0 hv1 x K L5 d bc bs hdp hL5 h
set_option maxHeartbeats 4000000 in
set_option maxRecDepth 100000 in
theorem sX3_deadlyRooms_5 (v0 : Nat) (v1 : Nat) (v2 : Int32) (v3 : Int32) (v4 : Int32) (hv0 : isF v0) (hv1 : isH v1) (x : ab_X) (K : Int32 → Prop)  (d bc bs : Nat) (hdp : 1 ≤ d)  (h : Lp2 (lX3_deadlyRooms_5 v0 v1 v2 x K ) v3 v4) : EW MX3_deadlyRooms 5 [(0, .ref v0), (1, .ref v1), (2, .int v2), (3, .int v3), (4, .int v4)] [] (aS x) d bc bs (liP x K) := by
  refine Lp2.use (P := fun v3 v4 => EW MX3_deadlyRooms 5 [(0, .ref v0), (1, .ref v1), (2, .int v2), (3, .int v3), (4, .int v4)] [] (aS x) d bc bs (liP x K)) (fun L5 v3 v4 hL5 h => ?_) v3 v4 h
  unfold lX3_deadlyRooms_5 at h
  refine EW_iload (pc2 := 7) rfl dX3_deadlyRooms_5 4 rfl ?_
  refine EW_aload_n (pc2 := 8) rfl dX3_deadlyRooms_7 1 rfl ?_
  refine AW_geti ⟨gfRX3_60, rfl⟩ (pc2 := 11) rfl dX3_deadlyRooms_8 (isH.o hv1) ?_
  refine EW_icmp_ge (tgt := 65) (pc2 := 14) rfl dX3_deadlyRooms_11 (by decide) (fun q => ?_) (fun q => ?_)
  · replace h := h.1 q
    refine EW_iload_n (pc2 := 66) rfl dX3_deadlyRooms_65 3 rfl ?_
    exact AW_iret rfl dX3_deadlyRooms_66 ⟨_, rfl, rfl, h⟩
  · replace h := h.2 q
    refine EW_aload_n (pc2 := 15) rfl dX3_deadlyRooms_14 1 rfl ?_
    refine EW_iload_n (pc2 := 16) rfl dX3_deadlyRooms_15 2 rfl ?_
    refine EW_aload_n (pc2 := 17) rfl dX3_deadlyRooms_16 1 rfl ?_
    refine AW_geti ⟨gfRX3_60, rfl⟩ (pc2 := 20) rfl dX3_deadlyRooms_17 (isH.o hv1) ?_
    refine EW_imul (pc2 := 21) rfl dX3_deadlyRooms_20 ?_
    refine EW_iload (pc2 := 23) rfl dX3_deadlyRooms_21 4 rfl ?_
    refine EW_iadd (pc2 := 24) rfl dX3_deadlyRooms_23 ?_
    refine AW_invV (M' := MX4_place) [.int ((v2 * (x.1 v1 4)) + v4)] (rest := []) mlRX3_63 okX4_place (pc2 := 27) rfl dX3_deadlyRooms_24 rfl rfl (Nat.le_of_ble_eq_true rfl) (Nat.le_of_ble_eq_true rfl) (d' := 0) (by omega) (isH.o hv1) ⟨by decide, rfl⟩ (EW_mono (fun _ _ hr => ?_) (sX4_place v1 ((v2 * (x.1 v1 4)) + v4) hv1 x _ _ 0 0 (Nat.le_refl _) h))
    obtain ⟨r1, rfl, rfl, h⟩ := hr
    refine EW_istore (pc2 := 29) rfl dX3_deadlyRooms_27 (by decide) [1, 2, 3, 4, 5, 0] [(0, .ref v0), (1, .ref v1), (2, .int v2), (3, .int v3), (4, .int v4), (5, .int r1)] rfl ?_
    refine EW_iload_n (pc2 := 30) rfl dX3_deadlyRooms_29 3 rfl ?_
    refine EW_aload_n (pc2 := 31) rfl dX3_deadlyRooms_30 0 rfl ?_
    refine EW_iload (pc2 := 33) rfl dX3_deadlyRooms_31 5 rfl ?_
    refine AW_invV (M' := MX3_burns) [.int r1] (rest := [.int v3]) mlRX3_66 okX3_burns (pc2 := 36) rfl dX3_deadlyRooms_33 rfl rfl (Nat.le_of_ble_eq_true rfl) (Nat.le_of_ble_eq_true rfl) (d' := 0) (by omega) (isF.o hv0) ⟨by decide, rfl⟩ (EW_mono (fun _ _ hr => ?_) (sX3_burns v0 r1 hv0 x _ _ 0 0 (Nat.le_refl _) h))
    obtain ⟨r2, rfl, rfl, h⟩ := hr
    refine EW_if_eq (tgt := 56) (pc2 := 39) rfl dX3_deadlyRooms_36 (by decide) (fun q => ?_) (fun q => ?_)
    · replace h := h.1 q
      refine EW_ls [0, 1, 2, 4] rfl ?_
      exact sX3_deadlyRooms_56 v0 v1 v2 v4 v3 hv0 hv1 x K L5 d bc bs hdp hL5 h
    · replace h := h.2 q
      refine EW_aload_n (pc2 := 40) rfl dX3_deadlyRooms_39 0 rfl ?_
      refine AW_getr (r := (v0 + 1)) ⟨gfRX3_9, rfl⟩ (pc2 := 43) rfl dX3_deadlyRooms_40 (isF.o hv0) (isF.r0 hv0) ?_
      refine EW_iload (pc2 := 45) rfl dX3_deadlyRooms_43 5 rfl ?_
      obtain ⟨b3, h⟩ := h
      refine AW_iald (pc2 := 46) rfl dX3_deadlyRooms_45 (isF.a0 hv0) b3 ?_
      refine EW_sipush (pc2 := 49) (v := 600) rfl dX3_deadlyRooms_46 (by decide) ?_
      refine EW_icmp_lt (tgt := 56) (pc2 := 52) rfl dX3_deadlyRooms_49 (by decide) (fun q => ?_) (fun q => ?_)
      · replace h := h.1 q
        refine EW_ls [0, 1, 2, 4] rfl ?_
        exact sX3_deadlyRooms_56 v0 v1 v2 v4 v3 hv0 hv1 x K L5 d bc bs hdp hL5 h
      · replace h := h.2 q
        refine EW_iconst (pc2 := 53) (v := 1) rfl dX3_deadlyRooms_52 (by decide) ?_
        refine EW_goto (tgt := 57) dX3_deadlyRooms_53 (by decide) ?_
        refine EW_ls [0, 1, 2, 4] rfl ?_
        exact sX3_deadlyRooms_57 v0 v1 v2 v4 v3 1 hv0 hv1 x K L5 d bc bs hdp hL5 h
set_option maxHeartbeats 4000000 in
set_option maxRecDepth 100000 in
theorem sX3_deadlyRooms (v0 : Nat) (v1 : Nat) (v2 : Int32) (hv0 : isF v0) (hv1 : isH v1) (x : ab_X) (K : Int32 → Prop) (d bc bs : Nat) (hdp : 1 ≤ d) (h : wX3_deadlyRooms v0 v1 v2 x K) : EW MX3_deadlyRooms 0 [(0, .ref v0), (1, .ref v1), (2, .int v2)] [] (aS x) d bc bs (liP x K) := by
  unfold wX3_deadlyRooms at h
  refine EW_iconst (pc2 := 1) (v := 0) rfl dX3_deadlyRooms_0 (by decide) ?_
  refine EW_istore_n (pc2 := 2) rfl dX3_deadlyRooms_1 (by decide) [1, 2, 3, 0] [(0, .ref v0), (1, .ref v1), (2, .int v2), (3, .int 0)] rfl ?_
  refine EW_iconst (pc2 := 3) (v := 0) rfl dX3_deadlyRooms_2 (by decide) ?_
  refine EW_istore (pc2 := 5) rfl dX3_deadlyRooms_3 (by decide) [1, 2, 3, 4, 0] [(0, .ref v0), (1, .ref v1), (2, .int v2), (3, .int 0), (4, .int 0)] rfl ?_
  exact sX3_deadlyRooms_5 v0 v1 v2 0 0 hv0 hv1 x K d bc bs hdp h
theorem gfRX4_34 : ab_L RX4 34 4 13 := ⟨by decide, by decide, ab_in 260 (by decide +kernel) (by decide +kernel)⟩
theorem mmRX4_43 : Cond.methodLink RX4 43 Lib.Math.min.name ∈ ab_G ∧ Cond.static Lib.Math.min.name ∈ ab_G ∧ Cond.initialized "java/lang/Math" ∈ ab_G ∧ Cond.code Lib.Math.min.name Lib.Math.min.code 2 (some .int) ∈ ab_G := ⟨ab_in 1486 (by decide +kernel) (by decide +kernel), ab_in 787 (by decide +kernel) (by decide +kernel), ab_in 100 (by decide +kernel) (by decide +kernel), ab_in 788 (by decide +kernel) (by decide +kernel)⟩
theorem gfRX4_49 : ab_L RX4 49 4 15 := ⟨by decide, by decide, ab_in 267 (by decide +kernel) (by decide +kernel)⟩
abbrev MX4_takeLost : ab_M := (yX4_takeLost, cX4_takeLost, 4, none)
theorem dX4_takeLost_0 : decode cX4_takeLost 0 = .ok (.iload_n 2, 1) := by decide +kernel
theorem dX4_takeLost_1 : decode cX4_takeLost 1 = .ok (.aload_n 0, 1) := by decide +kernel
theorem dX4_takeLost_2 : decode cX4_takeLost 2 = .ok (.getfield 34, 3) := by decide +kernel
theorem dX4_takeLost_5 : decode cX4_takeLost 5 = .ok (.iload_n 1, 1) := by decide +kernel
theorem dX4_takeLost_6 : decode cX4_takeLost 6 = .ok (.iaload, 1) := by decide +kernel
theorem dX4_takeLost_7 : decode cX4_takeLost 7 = .ok (.invokestatic 43, 3) := by decide +kernel
theorem dX4_takeLost_10 : decode cX4_takeLost 10 = .ok (.istore_n 3, 1) := by decide +kernel
theorem dX4_takeLost_11 : decode cX4_takeLost 11 = .ok (.aload_n 0, 1) := by decide +kernel
theorem dX4_takeLost_12 : decode cX4_takeLost 12 = .ok (.getfield 34, 3) := by decide +kernel
theorem dX4_takeLost_15 : decode cX4_takeLost 15 = .ok (.iload_n 1, 1) := by decide +kernel
theorem dX4_takeLost_16 : decode cX4_takeLost 16 = .ok (.dup2, 1) := by decide +kernel
theorem dX4_takeLost_17 : decode cX4_takeLost 17 = .ok (.iaload, 1) := by decide +kernel
theorem dX4_takeLost_18 : decode cX4_takeLost 18 = .ok (.iload_n 3, 1) := by decide +kernel
theorem dX4_takeLost_19 : decode cX4_takeLost 19 = .ok (.isub, 1) := by decide +kernel
theorem dX4_takeLost_20 : decode cX4_takeLost 20 = .ok (.iastore, 1) := by decide +kernel
theorem dX4_takeLost_21 : decode cX4_takeLost 21 = .ok (.aload_n 0, 1) := by decide +kernel
theorem dX4_takeLost_22 : decode cX4_takeLost 22 = .ok (.dup, 1) := by decide +kernel
theorem dX4_takeLost_23 : decode cX4_takeLost 23 = .ok (.getfield 49, 3) := by decide +kernel
theorem dX4_takeLost_26 : decode cX4_takeLost 26 = .ok (.iload_n 3, 1) := by decide +kernel
theorem dX4_takeLost_27 : decode cX4_takeLost 27 = .ok (.iadd, 1) := by decide +kernel
theorem dX4_takeLost_28 : decode cX4_takeLost 28 = .ok (.putfield 49, 3) := by decide +kernel
theorem dX4_takeLost_31 : decode cX4_takeLost 31 = .ok (.return_, 1) := by decide +kernel
theorem okX4_takeLost : ab_okM MX4_takeLost 2 := ⟨by decide, ⟨by decide, by decide⟩, ab_in 1485 (by decide +kernel) (by decide +kernel), ab_in 91 (by decide +kernel) (by decide +kernel), by decide +kernel, by decide⟩
set_option maxHeartbeats 4000000 in
set_option maxRecDepth 100000 in
theorem sX4_takeLost (v0 : Nat) (v1 : Int32) (v2 : Int32) (hv0 : isH v0) (x : ab_X) (K : ab_X → Prop) (d bc bs : Nat) (hdp : 1 ≤ d) (h : wX4_takeLost v0 v1 v2 x K) : EW MX4_takeLost 0 [(0, .ref v0), (1, .int v1), (2, .int v2)] [] (aS x) d bc bs (liV K) := by
  unfold wX4_takeLost at h
  refine EW_iload_n (pc2 := 1) rfl dX4_takeLost_0 2 rfl ?_
  refine EW_aload_n (pc2 := 2) rfl dX4_takeLost_1 0 rfl ?_
  refine AW_getr (r := (v0 + 2)) ⟨gfRX4_34, rfl⟩ (pc2 := 5) rfl dX4_takeLost_2 (isH.o hv0) (isH.r2 hv0) ?_
  refine EW_iload_n (pc2 := 6) rfl dX4_takeLost_5 1 rfl ?_
  obtain ⟨b1, h⟩ := h
  refine AW_iald (pc2 := 7) rfl dX4_takeLost_6 (isH.a2 hv0) b1 ?_
  refine AW_mmin mmRX4_43 (pc2 := 10) rfl dX4_takeLost_7 (Nat.le_of_ble_eq_true rfl) (by omega) ?_
  refine EW_istore_n (pc2 := 11) rfl dX4_takeLost_10 (by decide) [1, 2, 3, 0] [(0, .ref v0), (1, .int v1), (2, .int v2), (3, .int (imin v2 (x.1 (v0 + 2) (Int32.toNatClampNeg v1))))] rfl ?_
  refine EW_aload_n (pc2 := 12) rfl dX4_takeLost_11 0 rfl ?_
  refine AW_getr (r := (v0 + 2)) ⟨gfRX4_34, rfl⟩ (pc2 := 15) rfl dX4_takeLost_12 (isH.o hv0) (isH.r2 hv0) ?_
  refine EW_iload_n (pc2 := 16) rfl dX4_takeLost_15 1 rfl ?_
  refine EW_dup2 (pc2 := 17) rfl dX4_takeLost_16 rfl rfl ?_
  obtain ⟨b2, h⟩ := h
  refine AW_iald (pc2 := 18) rfl dX4_takeLost_17 (isH.a2 hv0) b2 ?_
  refine EW_iload_n (pc2 := 19) rfl dX4_takeLost_18 3 rfl ?_
  refine EW_isub (pc2 := 20) rfl dX4_takeLost_19 ?_
  obtain ⟨b3, h⟩ := h
  refine AW_iast (pc2 := 21) rfl dX4_takeLost_20 (isH.a2 hv0) b3 ?_
  refine EW_aload_n (pc2 := 22) rfl dX4_takeLost_21 0 rfl ?_
  refine EW_dup (pc2 := 23) rfl dX4_takeLost_22 rfl ?_
  refine AW_geti ⟨gfRX4_49, rfl⟩ (pc2 := 26) rfl dX4_takeLost_23 (isH.o hv0) ?_
  refine EW_iload_n (pc2 := 27) rfl dX4_takeLost_26 3 rfl ?_
  refine EW_iadd (pc2 := 28) rfl dX4_takeLost_27 ?_
  refine AW_puti ⟨gfRX4_49, rfl, rfl⟩ (pc2 := 31) rfl dX4_takeLost_28 (isH.o hv0) ?_
  exact EW_vret rfl dX4_takeLost_31 ⟨_, rfl, rfl, h⟩
theorem mlRX10_116 : Cond.methodLink RX10 116 yX4_takeLost ∈ ab_G ∧ Cond.instanceMethod yX4_takeLost ∈ ab_G ∧ Cond.selects RX4 yX4_takeLost yX4_takeLost ∈ ab_G := ⟨ab_in 1482 (by decide +kernel) (by decide +kernel), ab_in 1483 (by decide +kernel) (by decide +kernel), ab_in 1484 (by decide +kernel) (by decide +kernel)⟩
theorem gfRX10_105 : ab_L RX10 105 4 13 := ⟨by decide, by decide, ab_in 262 (by decide +kernel) (by decide +kernel)⟩
theorem mlRX10_108 : Cond.methodLink RX10 108 yX3_hasFallen ∈ ab_G ∧ Cond.instanceMethod yX3_hasFallen ∈ ab_G ∧ Cond.selects RX3 yX3_hasFallen yX3_hasFallen ∈ ab_G := ⟨ab_in 1477 (by decide +kernel) (by decide +kernel), ab_in 860 (by decide +kernel) (by decide +kernel), ab_in 861 (by decide +kernel) (by decide +kernel)⟩
theorem mlRX10_112 : Cond.methodLink RX10 112 yX3_deadlyRooms ∈ ab_G ∧ Cond.instanceMethod yX3_deadlyRooms ∈ ab_G ∧ Cond.selects RX3 yX3_deadlyRooms yX3_deadlyRooms ∈ ab_G := ⟨ab_in 1478 (by decide +kernel) (by decide +kernel), ab_in 1479 (by decide +kernel) (by decide +kernel), ab_in 1480 (by decide +kernel) (by decide +kernel)⟩
abbrev MX10_loseIn : ab_M := (yX10_loseIn, cX10_loseIn, 4, none)
theorem dX10_loseIn_0 : decode cX10_loseIn 0 = .ok (.iconst 0, 1) := by decide +kernel
theorem dX10_loseIn_1 : decode cX10_loseIn 1 = .ok (.istore_n 2, 1) := by decide +kernel
theorem dX10_loseIn_2 : decode cX10_loseIn 2 = .ok (.iload_n 2, 1) := by decide +kernel
theorem dX10_loseIn_3 : decode cX10_loseIn 3 = .ok (.aload_n 1, 1) := by decide +kernel
theorem dX10_loseIn_4 : decode cX10_loseIn 4 = .ok (.getfield 56, 3) := by decide +kernel
theorem dX10_loseIn_7 : decode cX10_loseIn 7 = .ok (.if_icmp .ge 55, 3) := by decide +kernel
theorem dX10_loseIn_10 : decode cX10_loseIn 10 = .ok (.aload_n 1, 1) := by decide +kernel
theorem dX10_loseIn_11 : decode cX10_loseIn 11 = .ok (.getfield 105, 3) := by decide +kernel
theorem dX10_loseIn_14 : decode cX10_loseIn 14 = .ok (.iload_n 2, 1) := by decide +kernel
theorem dX10_loseIn_15 : decode cX10_loseIn 15 = .ok (.iaload, 1) := by decide +kernel
theorem dX10_loseIn_16 : decode cX10_loseIn 16 = .ok (.ifCond .le 40, 3) := by decide +kernel
theorem dX10_loseIn_19 : decode cX10_loseIn 19 = .ok (.aload_n 0, 1) := by decide +kernel
theorem dX10_loseIn_20 : decode cX10_loseIn 20 = .ok (.getfield 20, 3) := by decide +kernel
theorem dX10_loseIn_23 : decode cX10_loseIn 23 = .ok (.aload_n 1, 1) := by decide +kernel
theorem dX10_loseIn_24 : decode cX10_loseIn 24 = .ok (.iload_n 2, 1) := by decide +kernel
theorem dX10_loseIn_25 : decode cX10_loseIn 25 = .ok (.invokevirtual 108, 3) := by decide +kernel
theorem dX10_loseIn_28 : decode cX10_loseIn 28 = .ok (.istore_n 3, 1) := by decide +kernel
theorem dX10_loseIn_29 : decode cX10_loseIn 29 = .ok (.aload_n 1, 1) := by decide +kernel
theorem dX10_loseIn_30 : decode cX10_loseIn 30 = .ok (.iload_n 2, 1) := by decide +kernel
theorem dX10_loseIn_31 : decode cX10_loseIn 31 = .ok (.iload_n 3, 1) := by decide +kernel
theorem dX10_loseIn_32 : decode cX10_loseIn 32 = .ok (.ifCond .eq 12, 3) := by decide +kernel
theorem dX10_loseIn_35 : decode cX10_loseIn 35 = .ok (.aload_n 1, 1) := by decide +kernel
theorem dX10_loseIn_36 : decode cX10_loseIn 36 = .ok (.getfield 105, 3) := by decide +kernel
theorem dX10_loseIn_39 : decode cX10_loseIn 39 = .ok (.iload_n 2, 1) := by decide +kernel
theorem dX10_loseIn_40 : decode cX10_loseIn 40 = .ok (.iaload, 1) := by decide +kernel
theorem dX10_loseIn_41 : decode cX10_loseIn 41 = .ok (.goto 12, 3) := by decide +kernel
theorem dX10_loseIn_44 : decode cX10_loseIn 44 = .ok (.aload_n 0, 1) := by decide +kernel
theorem dX10_loseIn_45 : decode cX10_loseIn 45 = .ok (.getfield 20, 3) := by decide +kernel
theorem dX10_loseIn_48 : decode cX10_loseIn 48 = .ok (.aload_n 1, 1) := by decide +kernel
theorem dX10_loseIn_49 : decode cX10_loseIn 49 = .ok (.iload_n 2, 1) := by decide +kernel
theorem dX10_loseIn_50 : decode cX10_loseIn 50 = .ok (.invokevirtual 112, 3) := by decide +kernel
theorem dX10_loseIn_53 : decode cX10_loseIn 53 = .ok (.invokevirtual 116, 3) := by decide +kernel
theorem dX10_loseIn_56 : decode cX10_loseIn 56 = .ok (.iinc 2 1, 3) := by decide +kernel
theorem dX10_loseIn_59 : decode cX10_loseIn 59 = .ok (.goto (-57), 3) := by decide +kernel
theorem dX10_loseIn_62 : decode cX10_loseIn 62 = .ok (.return_, 1) := by decide +kernel
theorem okX10_loseIn : ab_okM MX10_loseIn 1 := ⟨by decide, ⟨by decide, by decide⟩, ab_in 1476 (by decide +kernel) (by decide +kernel), ab_in 89 (by decide +kernel) (by decide +kernel), by decide +kernel, by decide⟩
set_option maxHeartbeats 4000000 in
set_option maxRecDepth 100000 in
theorem sX10_loseIn_53 (v1 : Nat) (v2 : Int32) (s0 : Nat) (s1 : Int32) (s2 : Int32) (hv1 : isH v1) (hs0 : isH s0) (x : ab_X) (K : ab_X → Prop) (L2 : Int32 → ab_X → Prop) (d bc bs : Nat) (hdp : 2 ≤ d) (hL2 : ∀ (v2 : Int32) (x : ab_X), L2 v2 x → EW MX10_loseIn 2 [(0, .ref 9), (1, .ref v1), (2, .int v2)] [] (aS x) d bc bs (liV K)) (h : wX10_loseIn_53 v1 v2 s0 s1 s2 x K L2) : EW MX10_loseIn 53 [(0, .ref 9), (1, .ref v1), (2, .int v2)] [.int s2, .int s1, .ref s0] (aS x) d bc bs (liV K) := by
  unfold wX10_loseIn_53 at h
  refine AW_invV (M' := MX4_takeLost) [.int s1, .int s2] (rest := []) mlRX10_116 okX4_takeLost (pc2 := 56) rfl dX10_loseIn_53 rfl rfl (Nat.le_of_ble_eq_true rfl) (Nat.le_of_ble_eq_true rfl) (d' := 1) (by omega) (isH.o hs0) ⟨by decide, rfl⟩ (EW_mono (fun _ _ hr => ?_) (sX4_takeLost s0 s1 s2 hs0 x _ _ 0 0 (Nat.le_refl _) h))
  obtain ⟨x5, rfl, rfl, h⟩ := hr
  refine EW_iinc (v2 + 1) (pc2 := 59) rfl dX10_loseIn_56 2 rfl rfl (by decide) [1, 2, 0] [(0, .ref 9), (1, .ref v1), (2, .int (v2 + 1))] rfl ?_
  refine EW_goto (tgt := 2) dX10_loseIn_59 (by decide) ?_
  exact hL2 (v2 + 1) x5 h
set_option maxHeartbeats 4000000 in
set_option maxRecDepth 100000 in
theorem sX10_loseIn_2 (v1 : Nat) (v2 : Int32) (hv1 : isH v1) (x : ab_X) (K : ab_X → Prop)  (d bc bs : Nat) (hdp : 2 ≤ d)  (h : Lp2 (lX10_loseIn_2 v1 K ) v2 x) : EW MX10_loseIn 2 [(0, .ref 9), (1, .ref v1), (2, .int v2)] [] (aS x) d bc bs (liV K) := by
  refine Lp2.use (P := fun v2 x => EW MX10_loseIn 2 [(0, .ref 9), (1, .ref v1), (2, .int v2)] [] (aS x) d bc bs (liV K)) (fun L2 v2 x hL2 h => ?_) v2 x h
  unfold lX10_loseIn_2 at h
  refine EW_iload_n (pc2 := 3) rfl dX10_loseIn_2 2 rfl ?_
  refine EW_aload_n (pc2 := 4) rfl dX10_loseIn_3 1 rfl ?_
  refine AW_geti ⟨gfRX10_56, rfl⟩ (pc2 := 7) rfl dX10_loseIn_4 (isH.o hv1) ?_
  refine EW_icmp_ge (tgt := 62) (pc2 := 10) rfl dX10_loseIn_7 (by decide) (fun q => ?_) (fun q => ?_)
  · replace h := h.1 q
    exact EW_vret rfl dX10_loseIn_62 ⟨_, rfl, rfl, h⟩
  · replace h := h.2 q
    refine EW_aload_n (pc2 := 11) rfl dX10_loseIn_10 1 rfl ?_
    refine AW_getr (r := (v1 + 2)) ⟨gfRX10_105, rfl⟩ (pc2 := 14) rfl dX10_loseIn_11 (isH.o hv1) (isH.r2 hv1) ?_
    refine EW_iload_n (pc2 := 15) rfl dX10_loseIn_14 2 rfl ?_
    obtain ⟨b1, h⟩ := h
    refine AW_iald (pc2 := 16) rfl dX10_loseIn_15 (isH.a2 hv1) b1 ?_
    refine EW_if_le (tgt := 56) (pc2 := 19) rfl dX10_loseIn_16 (by decide) (fun q => ?_) (fun q => ?_)
    · replace h := h.1 q
      refine EW_iinc (v2 + 1) (pc2 := 59) rfl dX10_loseIn_56 2 rfl rfl (by decide) [1, 2, 0] [(0, .ref 9), (1, .ref v1), (2, .int (v2 + 1))] rfl ?_
      refine EW_goto (tgt := 2) dX10_loseIn_59 (by decide) ?_
      exact hL2 (v2 + 1) x h
    · replace h := h.2 q
      refine EW_aload_n (pc2 := 20) rfl dX10_loseIn_19 0 rfl ?_
      refine AW_getr (r := 11) ⟨gfRX10_20, rfl⟩ (pc2 := 23) rfl dX10_loseIn_20 q9 rfl ?_
      refine EW_aload_n (pc2 := 24) rfl dX10_loseIn_23 1 rfl ?_
      refine EW_iload_n (pc2 := 25) rfl dX10_loseIn_24 2 rfl ?_
      refine AW_invV (M' := MX3_hasFallen) [.ref v1, .int v2] (rest := []) mlRX10_108 okX3_hasFallen (pc2 := 28) rfl dX10_loseIn_25 rfl rfl (Nat.le_of_ble_eq_true rfl) (Nat.le_of_ble_eq_true rfl) (d' := 1) (by omega) q11 ⟨by decide, rfl⟩ (EW_mono (fun _ _ hr => ?_) (sX3_hasFallen 11 v1 v2 (Or.inl rfl : isF 11) hv1 x _ _ 0 0 (Nat.le_refl _) h))
      obtain ⟨r2, rfl, rfl, h⟩ := hr
      refine EW_istore_n (pc2 := 29) rfl dX10_loseIn_28 (by decide) [1, 2, 3, 0] [(0, .ref 9), (1, .ref v1), (2, .int v2), (3, .int r2)] rfl ?_
      refine EW_aload_n (pc2 := 30) rfl dX10_loseIn_29 1 rfl ?_
      refine EW_iload_n (pc2 := 31) rfl dX10_loseIn_30 2 rfl ?_
      refine EW_iload_n (pc2 := 32) rfl dX10_loseIn_31 3 rfl ?_
      refine EW_if_eq (tgt := 44) (pc2 := 35) rfl dX10_loseIn_32 (by decide) (fun q => ?_) (fun q => ?_)
      · replace h := h.1 q
        refine EW_aload_n (pc2 := 45) rfl dX10_loseIn_44 0 rfl ?_
        refine AW_getr (r := 11) ⟨gfRX10_20, rfl⟩ (pc2 := 48) rfl dX10_loseIn_45 q9 rfl ?_
        refine EW_aload_n (pc2 := 49) rfl dX10_loseIn_48 1 rfl ?_
        refine EW_iload_n (pc2 := 50) rfl dX10_loseIn_49 2 rfl ?_
        refine AW_invV (M' := MX3_deadlyRooms) [.ref v1, .int v2] (rest := [.int v2, .ref v1]) mlRX10_112 okX3_deadlyRooms (pc2 := 53) rfl dX10_loseIn_50 rfl rfl (Nat.le_of_ble_eq_true rfl) (Nat.le_of_ble_eq_true rfl) (d' := 1) (by omega) q11 ⟨by decide, rfl⟩ (EW_mono (fun _ _ hr => ?_) (sX3_deadlyRooms 11 v1 v2 (Or.inl rfl : isF 11) hv1 x _ _ 0 0 (Nat.le_refl _) h))
        obtain ⟨r3, rfl, rfl, h⟩ := hr
        refine EW_ls [0, 1, 2] rfl ?_
        exact sX10_loseIn_53 v1 v2 v1 v2 r3 hv1 hv1 x K L2 d bc bs hdp hL2 h
      · replace h := h.2 q
        refine EW_aload_n (pc2 := 36) rfl dX10_loseIn_35 1 rfl ?_
        refine AW_getr (r := (v1 + 2)) ⟨gfRX10_105, rfl⟩ (pc2 := 39) rfl dX10_loseIn_36 (isH.o hv1) (isH.r2 hv1) ?_
        refine EW_iload_n (pc2 := 40) rfl dX10_loseIn_39 2 rfl ?_
        obtain ⟨b4, h⟩ := h
        refine AW_iald (pc2 := 41) rfl dX10_loseIn_40 (isH.a2 hv1) b4 ?_
        refine EW_goto (tgt := 53) dX10_loseIn_41 (by decide) ?_
        refine EW_ls [0, 1, 2] rfl ?_
        exact sX10_loseIn_53 v1 v2 v1 v2 (x.1 (v1 + 2) (Int32.toNatClampNeg v2)) hv1 hv1 x K L2 d bc bs hdp hL2 h
set_option maxHeartbeats 4000000 in
set_option maxRecDepth 100000 in
theorem sX10_loseIn (v1 : Nat) (hv1 : isH v1) (x : ab_X) (K : ab_X → Prop) (d bc bs : Nat) (hdp : 2 ≤ d) (h : wX10_loseIn v1 x K) : EW MX10_loseIn 0 [(0, .ref 9), (1, .ref v1)] [] (aS x) d bc bs (liV K) := by
  unfold wX10_loseIn at h
  refine EW_iconst (pc2 := 1) (v := 0) rfl dX10_loseIn_0 (by decide) ?_
  refine EW_istore_n (pc2 := 2) rfl dX10_loseIn_1 (by decide) [1, 2, 0] [(0, .ref 9), (1, .ref v1), (2, .int 0)] rfl ?_
  exact sX10_loseIn_2 v1 0 hv1 x K d bc bs hdp h
theorem mmRX3_103 : Cond.methodLink RX3 103 Lib.Math.min.name ∈ ab_G ∧ Cond.static Lib.Math.min.name ∈ ab_G ∧ Cond.initialized "java/lang/Math" ∈ ab_G ∧ Cond.code Lib.Math.min.name Lib.Math.min.code 2 (some .int) ∈ ab_G := ⟨ab_in 1453 (by decide +kernel) (by decide +kernel), ab_in 787 (by decide +kernel) (by decide +kernel), ab_in 100 (by decide +kernel) (by decide +kernel), ab_in 788 (by decide +kernel) (by decide +kernel)⟩
theorem mmRX3_74 : Cond.methodLink RX3 74 Lib.Math.max.name ∈ ab_G ∧ Cond.static Lib.Math.max.name ∈ ab_G ∧ Cond.initialized "java/lang/Math" ∈ ab_G ∧ Cond.code Lib.Math.max.name Lib.Math.max.code 2 (some .int) ∈ ab_G := ⟨ab_in 908 (by decide +kernel) (by decide +kernel), ab_in 909 (by decide +kernel) (by decide +kernel), ab_in 100 (by decide +kernel) (by decide +kernel), ab_in 910 (by decide +kernel) (by decide +kernel)⟩
theorem mlRX3_70 : Cond.methodLink RX3 70 yX3_hasFallen ∈ ab_G ∧ Cond.instanceMethod yX3_hasFallen ∈ ab_G ∧ Cond.selects RX3 yX3_hasFallen yX3_hasFallen ∈ ab_G := ⟨ab_in 938 (by decide +kernel) (by decide +kernel), ab_in 860 (by decide +kernel) (by decide +kernel), ab_in 861 (by decide +kernel) (by decide +kernel)⟩
abbrev MX3_drop : ab_M := (yX3_drop, cX3_drop, 7, none)
theorem dX3_drop_0 : decode cX3_drop 0 = .ok (.aload_n 0, 1) := by decide +kernel
theorem dX3_drop_1 : decode cX3_drop 1 = .ok (.aload_n 1, 1) := by decide +kernel
theorem dX3_drop_2 : decode cX3_drop 2 = .ok (.iload_n 2, 1) := by decide +kernel
theorem dX3_drop_3 : decode cX3_drop 3 = .ok (.iconst 1, 1) := by decide +kernel
theorem dX3_drop_4 : decode cX3_drop 4 = .ok (.isub, 1) := by decide +kernel
theorem dX3_drop_5 : decode cX3_drop 5 = .ok (.invokevirtual 70, 3) := by decide +kernel
theorem dX3_drop_8 : decode cX3_drop 8 = .ok (.istore_n 3, 1) := by decide +kernel
theorem dX3_drop_9 : decode cX3_drop 9 = .ok (.iconst 0, 1) := by decide +kernel
theorem dX3_drop_10 : decode cX3_drop 10 = .ok (.istore 4, 2) := by decide +kernel
theorem dX3_drop_12 : decode cX3_drop 12 = .ok (.iload 4, 2) := by decide +kernel
theorem dX3_drop_14 : decode cX3_drop 14 = .ok (.aload_n 1, 1) := by decide +kernel
theorem dX3_drop_15 : decode cX3_drop 15 = .ok (.getfield 60, 3) := by decide +kernel
theorem dX3_drop_18 : decode cX3_drop 18 = .ok (.if_icmp .ge 109, 3) := by decide +kernel
theorem dX3_drop_21 : decode cX3_drop 21 = .ok (.aload_n 1, 1) := by decide +kernel
theorem dX3_drop_22 : decode cX3_drop 22 = .ok (.iload_n 2, 1) := by decide +kernel
theorem dX3_drop_23 : decode cX3_drop 23 = .ok (.aload_n 1, 1) := by decide +kernel
theorem dX3_drop_24 : decode cX3_drop 24 = .ok (.getfield 60, 3) := by decide +kernel
theorem dX3_drop_27 : decode cX3_drop 27 = .ok (.imul, 1) := by decide +kernel
theorem dX3_drop_28 : decode cX3_drop 28 = .ok (.iload 4, 2) := by decide +kernel
theorem dX3_drop_30 : decode cX3_drop 30 = .ok (.iadd, 1) := by decide +kernel
theorem dX3_drop_31 : decode cX3_drop 31 = .ok (.invokevirtual 63, 3) := by decide +kernel
theorem dX3_drop_34 : decode cX3_drop 34 = .ok (.istore 5, 2) := by decide +kernel
theorem dX3_drop_36 : decode cX3_drop 36 = .ok (.iload 5, 2) := by decide +kernel
theorem dX3_drop_38 : decode cX3_drop 38 = .ok (.aload_n 1, 1) := by decide +kernel
theorem dX3_drop_39 : decode cX3_drop 39 = .ok (.getfield 60, 3) := by decide +kernel
theorem dX3_drop_42 : decode cX3_drop 42 = .ok (.isub, 1) := by decide +kernel
theorem dX3_drop_43 : decode cX3_drop 43 = .ok (.istore 6, 2) := by decide +kernel
theorem dX3_drop_45 : decode cX3_drop 45 = .ok (.aload_n 0, 1) := by decide +kernel
theorem dX3_drop_46 : decode cX3_drop 46 = .ok (.getfield 15, 3) := by decide +kernel
theorem dX3_drop_49 : decode cX3_drop 49 = .ok (.iload 6, 2) := by decide +kernel
theorem dX3_drop_51 : decode cX3_drop 51 = .ok (.sipush 2000, 3) := by decide +kernel
theorem dX3_drop_54 : decode cX3_drop 54 = .ok (.aload_n 0, 1) := by decide +kernel
theorem dX3_drop_55 : decode cX3_drop 55 = .ok (.getfield 15, 3) := by decide +kernel
theorem dX3_drop_58 : decode cX3_drop 58 = .ok (.iload 6, 2) := by decide +kernel
theorem dX3_drop_60 : decode cX3_drop 60 = .ok (.iaload, 1) := by decide +kernel
theorem dX3_drop_61 : decode cX3_drop 61 = .ok (.aload_n 0, 1) := by decide +kernel
theorem dX3_drop_62 : decode cX3_drop 62 = .ok (.getfield 15, 3) := by decide +kernel
theorem dX3_drop_65 : decode cX3_drop 65 = .ok (.iload 5, 2) := by decide +kernel
theorem dX3_drop_67 : decode cX3_drop 67 = .ok (.iaload, 1) := by decide +kernel
theorem dX3_drop_68 : decode cX3_drop 68 = .ok (.iadd, 1) := by decide +kernel
theorem dX3_drop_69 : decode cX3_drop 69 = .ok (.invokestatic 103, 3) := by decide +kernel
theorem dX3_drop_72 : decode cX3_drop 72 = .ok (.iastore, 1) := by decide +kernel
theorem dX3_drop_73 : decode cX3_drop 73 = .ok (.aload_n 0, 1) := by decide +kernel
theorem dX3_drop_74 : decode cX3_drop 74 = .ok (.getfield 9, 3) := by decide +kernel
theorem dX3_drop_77 : decode cX3_drop 77 = .ok (.iload 6, 2) := by decide +kernel
theorem dX3_drop_79 : decode cX3_drop 79 = .ok (.iload_n 3, 1) := by decide +kernel
theorem dX3_drop_80 : decode cX3_drop 80 = .ok (.ifCond .eq 7, 3) := by decide +kernel
theorem dX3_drop_83 : decode cX3_drop 83 = .ok (.iconst 0, 1) := by decide +kernel
theorem dX3_drop_84 : decode cX3_drop 84 = .ok (.goto 20, 3) := by decide +kernel
theorem dX3_drop_87 : decode cX3_drop 87 = .ok (.aload_n 0, 1) := by decide +kernel
theorem dX3_drop_88 : decode cX3_drop 88 = .ok (.getfield 9, 3) := by decide +kernel
theorem dX3_drop_91 : decode cX3_drop 91 = .ok (.iload 6, 2) := by decide +kernel
theorem dX3_drop_93 : decode cX3_drop 93 = .ok (.iaload, 1) := by decide +kernel
theorem dX3_drop_94 : decode cX3_drop 94 = .ok (.aload_n 0, 1) := by decide +kernel
theorem dX3_drop_95 : decode cX3_drop 95 = .ok (.getfield 9, 3) := by decide +kernel
theorem dX3_drop_98 : decode cX3_drop 98 = .ok (.iload 5, 2) := by decide +kernel
theorem dX3_drop_100 : decode cX3_drop 100 = .ok (.iaload, 1) := by decide +kernel
theorem dX3_drop_101 : decode cX3_drop 101 = .ok (.invokestatic 74, 3) := by decide +kernel
theorem dX3_drop_104 : decode cX3_drop 104 = .ok (.iastore, 1) := by decide +kernel
theorem dX3_drop_105 : decode cX3_drop 105 = .ok (.aload_n 0, 1) := by decide +kernel
theorem dX3_drop_106 : decode cX3_drop 106 = .ok (.getfield 15, 3) := by decide +kernel
theorem dX3_drop_109 : decode cX3_drop 109 = .ok (.iload 5, 2) := by decide +kernel
theorem dX3_drop_111 : decode cX3_drop 111 = .ok (.iconst 0, 1) := by decide +kernel
theorem dX3_drop_112 : decode cX3_drop 112 = .ok (.iastore, 1) := by decide +kernel
theorem dX3_drop_113 : decode cX3_drop 113 = .ok (.aload_n 0, 1) := by decide +kernel
theorem dX3_drop_114 : decode cX3_drop 114 = .ok (.getfield 9, 3) := by decide +kernel
theorem dX3_drop_117 : decode cX3_drop 117 = .ok (.iload 5, 2) := by decide +kernel
theorem dX3_drop_119 : decode cX3_drop 119 = .ok (.iconst 0, 1) := by decide +kernel
theorem dX3_drop_120 : decode cX3_drop 120 = .ok (.iastore, 1) := by decide +kernel
theorem dX3_drop_121 : decode cX3_drop 121 = .ok (.iinc 4 1, 3) := by decide +kernel
theorem dX3_drop_124 : decode cX3_drop 124 = .ok (.goto (-112), 3) := by decide +kernel
theorem dX3_drop_127 : decode cX3_drop 127 = .ok (.aload_n 0, 1) := by decide +kernel
theorem dX3_drop_128 : decode cX3_drop 128 = .ok (.getfield 24, 3) := by decide +kernel
theorem dX3_drop_131 : decode cX3_drop 131 = .ok (.aload_n 1, 1) := by decide +kernel
theorem dX3_drop_132 : decode cX3_drop 132 = .ok (.iload_n 2, 1) := by decide +kernel
theorem dX3_drop_133 : decode cX3_drop 133 = .ok (.invokevirtual 50, 3) := by decide +kernel
theorem dX3_drop_136 : decode cX3_drop 136 = .ok (.iconst 1, 1) := by decide +kernel
theorem dX3_drop_137 : decode cX3_drop 137 = .ok (.bastore, 1) := by decide +kernel
theorem dX3_drop_138 : decode cX3_drop 138 = .ok (.return_, 1) := by decide +kernel
theorem okX3_drop : ab_okM MX3_drop 2 := ⟨by decide, ⟨by decide, by decide⟩, ab_in 1472 (by decide +kernel) (by decide +kernel), ab_in 90 (by decide +kernel) (by decide +kernel), by decide +kernel, by decide⟩
set_option maxHeartbeats 4000000 in
set_option maxRecDepth 100000 in
theorem sX3_drop_104 (v0 : Nat) (v1 : Nat) (v2 : Int32) (v3 : Int32) (v4 : Int32) (v5 : Int32) (s0b : Nat) (s1 : Int32) (s2 : Int32) (hv0 : isF v0) (hv1 : isH v1) (hs0b : isF s0b) (x : ab_X) (K : ab_X → Prop) (L12 : Int32 → ab_X → Prop) (d bc bs : Nat) (hdp : 2 ≤ d) (hL12 : ∀ (v4 : Int32) (x : ab_X), L12 v4 x → EW MX3_drop 12 [(0, .ref v0), (1, .ref v1), (2, .int v2), (3, .int v3), (4, .int v4)] [] (aS x) d bc bs (liV K)) (h : wX3_drop_104 v0 v1 v2 v3 v4 v5 s0b s1 s2 x K L12) : EW MX3_drop 104 [(0, .ref v0), (1, .ref v1), (2, .int v2), (3, .int v3), (4, .int v4), (5, .int v5)] [.int s2, .int s1, .ref (s0b + 1)] (aS x) d bc bs (liV K) := by
  unfold wX3_drop_104 at h
  obtain ⟨b10, h⟩ := h
  refine AW_iast (pc2 := 105) rfl dX3_drop_104 (isF.a0 hs0b) b10 ?_
  refine EW_aload_n (pc2 := 106) rfl dX3_drop_105 0 rfl ?_
  refine AW_getr (r := (v0 + 2)) ⟨gfRX3_15, rfl⟩ (pc2 := 109) rfl dX3_drop_106 (isF.o hv0) (isF.r1 hv0) ?_
  refine EW_iload (pc2 := 111) rfl dX3_drop_109 5 rfl ?_
  refine EW_iconst (pc2 := 112) (v := 0) rfl dX3_drop_111 (by decide) ?_
  obtain ⟨b11, h⟩ := h
  refine AW_iast (pc2 := 113) rfl dX3_drop_112 (isF.a1 hv0) b11 ?_
  refine EW_aload_n (pc2 := 114) rfl dX3_drop_113 0 rfl ?_
  refine AW_getr (r := (v0 + 1)) ⟨gfRX3_9, rfl⟩ (pc2 := 117) rfl dX3_drop_114 (isF.o hv0) (isF.r0 hv0) ?_
  refine EW_iload (pc2 := 119) rfl dX3_drop_117 5 rfl ?_
  refine EW_iconst (pc2 := 120) (v := 0) rfl dX3_drop_119 (by decide) ?_
  obtain ⟨b12, h⟩ := h
  refine AW_iast (pc2 := 121) rfl dX3_drop_120 (isF.a0 hv0) b12 ?_
  refine EW_iinc (v4 + 1) (pc2 := 124) rfl dX3_drop_121 4 rfl rfl (by decide) [1, 2, 3, 4, 0, 5] [(0, .ref v0), (1, .ref v1), (2, .int v2), (3, .int v3), (4, .int (v4 + 1)), (5, .int v5)] rfl ?_
  refine EW_goto (tgt := 12) dX3_drop_124 (by decide) ?_
  refine EW_ls [0, 1, 2, 3, 4] rfl ?_
  exact hL12 (v4 + 1) (wr (wr (wr x (s0b + 1) (Int32.toNatClampNeg s1) s2) (v0 + 2) (Int32.toNatClampNeg v5) 0) (v0 + 1) (Int32.toNatClampNeg v5) 0) h
set_option maxHeartbeats 4000000 in
set_option maxRecDepth 100000 in
theorem sX3_drop_12 (v0 : Nat) (v1 : Nat) (v2 : Int32) (v3 : Int32) (v4 : Int32) (hv0 : isF v0) (hv1 : isH v1) (x : ab_X) (K : ab_X → Prop)  (d bc bs : Nat) (hdp : 2 ≤ d)  (h : Lp2 (lX3_drop_12 v0 v1 v2 v3 K ) v4 x) : EW MX3_drop 12 [(0, .ref v0), (1, .ref v1), (2, .int v2), (3, .int v3), (4, .int v4)] [] (aS x) d bc bs (liV K) := by
  refine Lp2.use (P := fun v4 x => EW MX3_drop 12 [(0, .ref v0), (1, .ref v1), (2, .int v2), (3, .int v3), (4, .int v4)] [] (aS x) d bc bs (liV K)) (fun L12 v4 x hL12 h => ?_) v4 x h
  unfold lX3_drop_12 at h
  refine EW_iload (pc2 := 14) rfl dX3_drop_12 4 rfl ?_
  refine EW_aload_n (pc2 := 15) rfl dX3_drop_14 1 rfl ?_
  refine AW_geti ⟨gfRX3_60, rfl⟩ (pc2 := 18) rfl dX3_drop_15 (isH.o hv1) ?_
  refine EW_icmp_ge (tgt := 127) (pc2 := 21) rfl dX3_drop_18 (by decide) (fun q => ?_) (fun q => ?_)
  · replace h := h.1 q
    refine EW_aload_n (pc2 := 128) rfl dX3_drop_127 0 rfl ?_
    refine AW_getr (r := (v0 + 5)) ⟨gfRX3_24, rfl⟩ (pc2 := 131) rfl dX3_drop_128 (isF.o hv0) (isF.r4 hv0) ?_
    refine EW_aload_n (pc2 := 132) rfl dX3_drop_131 1 rfl ?_
    refine EW_iload_n (pc2 := 133) rfl dX3_drop_132 2 rfl ?_
    refine AW_invV (M' := MX4_storey) [.int v2] (rest := [.ref (v0 + 5)]) mlRX3_50 okX4_storey (pc2 := 136) rfl dX3_drop_133 rfl rfl (Nat.le_of_ble_eq_true rfl) (Nat.le_of_ble_eq_true rfl) (d' := 0) (by omega) (isH.o hv1) ⟨by decide, rfl⟩ (EW_mono (fun _ _ hr => ?_) (sX4_storey v1 v2 hv1 x _ _ 0 0 (Nat.le_refl _) h))
    obtain ⟨r2, rfl, rfl, h⟩ := hr
    refine EW_iconst (pc2 := 137) (v := 1) rfl dX3_drop_136 (by decide) ?_
    obtain ⟨b3, h⟩ := h
    refine AW_zast (pc2 := 138) rfl dX3_drop_137 (isF.a4 hv0) b3 isB1 ?_
    exact EW_vret rfl dX3_drop_138 ⟨_, rfl, rfl, h⟩
  · replace h := h.2 q
    refine EW_aload_n (pc2 := 22) rfl dX3_drop_21 1 rfl ?_
    refine EW_iload_n (pc2 := 23) rfl dX3_drop_22 2 rfl ?_
    refine EW_aload_n (pc2 := 24) rfl dX3_drop_23 1 rfl ?_
    refine AW_geti ⟨gfRX3_60, rfl⟩ (pc2 := 27) rfl dX3_drop_24 (isH.o hv1) ?_
    refine EW_imul (pc2 := 28) rfl dX3_drop_27 ?_
    refine EW_iload (pc2 := 30) rfl dX3_drop_28 4 rfl ?_
    refine EW_iadd (pc2 := 31) rfl dX3_drop_30 ?_
    refine AW_invV (M' := MX4_place) [.int ((v2 * (x.1 v1 4)) + v4)] (rest := []) mlRX3_63 okX4_place (pc2 := 34) rfl dX3_drop_31 rfl rfl (Nat.le_of_ble_eq_true rfl) (Nat.le_of_ble_eq_true rfl) (d' := 0) (by omega) (isH.o hv1) ⟨by decide, rfl⟩ (EW_mono (fun _ _ hr => ?_) (sX4_place v1 ((v2 * (x.1 v1 4)) + v4) hv1 x _ _ 0 0 (Nat.le_refl _) h))
    obtain ⟨r4, rfl, rfl, h⟩ := hr
    refine EW_istore (pc2 := 36) rfl dX3_drop_34 (by decide) [1, 2, 3, 4, 5, 0] [(0, .ref v0), (1, .ref v1), (2, .int v2), (3, .int v3), (4, .int v4), (5, .int r4)] rfl ?_
    refine EW_iload (pc2 := 38) rfl dX3_drop_36 5 rfl ?_
    refine EW_aload_n (pc2 := 39) rfl dX3_drop_38 1 rfl ?_
    refine AW_geti ⟨gfRX3_60, rfl⟩ (pc2 := 42) rfl dX3_drop_39 (isH.o hv1) ?_
    refine EW_isub (pc2 := 43) rfl dX3_drop_42 ?_
    refine EW_istore (pc2 := 45) rfl dX3_drop_43 (by decide) [1, 2, 3, 4, 5, 6, 0] [(0, .ref v0), (1, .ref v1), (2, .int v2), (3, .int v3), (4, .int v4), (5, .int r4), (6, .int (r4 - (x.1 v1 4)))] rfl ?_
    refine EW_aload_n (pc2 := 46) rfl dX3_drop_45 0 rfl ?_
    refine AW_getr (r := (v0 + 2)) ⟨gfRX3_15, rfl⟩ (pc2 := 49) rfl dX3_drop_46 (isF.o hv0) (isF.r1 hv0) ?_
    refine EW_iload (pc2 := 51) rfl dX3_drop_49 6 rfl ?_
    refine EW_sipush (pc2 := 54) (v := 2000) rfl dX3_drop_51 (by decide) ?_
    refine EW_aload_n (pc2 := 55) rfl dX3_drop_54 0 rfl ?_
    refine AW_getr (r := (v0 + 2)) ⟨gfRX3_15, rfl⟩ (pc2 := 58) rfl dX3_drop_55 (isF.o hv0) (isF.r1 hv0) ?_
    refine EW_iload (pc2 := 60) rfl dX3_drop_58 6 rfl ?_
    obtain ⟨b5, h⟩ := h
    refine AW_iald (pc2 := 61) rfl dX3_drop_60 (isF.a1 hv0) b5 ?_
    refine EW_aload_n (pc2 := 62) rfl dX3_drop_61 0 rfl ?_
    refine AW_getr (r := (v0 + 2)) ⟨gfRX3_15, rfl⟩ (pc2 := 65) rfl dX3_drop_62 (isF.o hv0) (isF.r1 hv0) ?_
    refine EW_iload (pc2 := 67) rfl dX3_drop_65 5 rfl ?_
    obtain ⟨b6, h⟩ := h
    refine AW_iald (pc2 := 68) rfl dX3_drop_67 (isF.a1 hv0) b6 ?_
    refine EW_iadd (pc2 := 69) rfl dX3_drop_68 ?_
    refine AW_mmin mmRX3_103 (pc2 := 72) rfl dX3_drop_69 (Nat.le_of_ble_eq_true rfl) (by omega) ?_
    obtain ⟨b7, h⟩ := h
    refine AW_iast (pc2 := 73) rfl dX3_drop_72 (isF.a1 hv0) b7 ?_
    refine EW_aload_n (pc2 := 74) rfl dX3_drop_73 0 rfl ?_
    refine AW_getr (r := (v0 + 1)) ⟨gfRX3_9, rfl⟩ (pc2 := 77) rfl dX3_drop_74 (isF.o hv0) (isF.r0 hv0) ?_
    refine EW_iload (pc2 := 79) rfl dX3_drop_77 6 rfl ?_
    refine EW_iload_n (pc2 := 80) rfl dX3_drop_79 3 rfl ?_
    refine EW_if_eq (tgt := 87) (pc2 := 83) rfl dX3_drop_80 (by decide) (fun q => ?_) (fun q => ?_)
    · replace h := h.1 q
      refine EW_aload_n (pc2 := 88) rfl dX3_drop_87 0 rfl ?_
      refine AW_getr (r := (v0 + 1)) ⟨gfRX3_9, rfl⟩ (pc2 := 91) rfl dX3_drop_88 (isF.o hv0) (isF.r0 hv0) ?_
      refine EW_iload (pc2 := 93) rfl dX3_drop_91 6 rfl ?_
      obtain ⟨b8, h⟩ := h
      refine AW_iald (pc2 := 94) rfl dX3_drop_93 (isF.a0 hv0) b8 ?_
      refine EW_aload_n (pc2 := 95) rfl dX3_drop_94 0 rfl ?_
      refine AW_getr (r := (v0 + 1)) ⟨gfRX3_9, rfl⟩ (pc2 := 98) rfl dX3_drop_95 (isF.o hv0) (isF.r0 hv0) ?_
      refine EW_iload (pc2 := 100) rfl dX3_drop_98 5 rfl ?_
      obtain ⟨b9, h⟩ := h
      refine AW_iald (pc2 := 101) rfl dX3_drop_100 (isF.a0 hv0) b9 ?_
      refine AW_mmax mmRX3_74 (pc2 := 104) rfl dX3_drop_101 (Nat.le_of_ble_eq_true rfl) (by omega) ?_
      refine EW_ls [0, 1, 2, 3, 4, 5] rfl ?_
      exact sX3_drop_104 v0 v1 v2 v3 v4 r4 v0 (r4 - (x.1 v1 4)) (imax ((wr x (v0 + 2) (Int32.toNatClampNeg (r4 - (x.1 v1 4))) (imin 2000 ((x.1 (v0 + 2) (Int32.toNatClampNeg (r4 - (x.1 v1 4)))) + (x.1 (v0 + 2) (Int32.toNatClampNeg r4))))).1 (v0 + 1) (Int32.toNatClampNeg (r4 - (x.1 v1 4)))) ((wr x (v0 + 2) (Int32.toNatClampNeg (r4 - (x.1 v1 4))) (imin 2000 ((x.1 (v0 + 2) (Int32.toNatClampNeg (r4 - (x.1 v1 4)))) + (x.1 (v0 + 2) (Int32.toNatClampNeg r4))))).1 (v0 + 1) (Int32.toNatClampNeg r4))) hv0 hv1 hv0 (wr x (v0 + 2) (Int32.toNatClampNeg (r4 - (x.1 v1 4))) (imin 2000 ((x.1 (v0 + 2) (Int32.toNatClampNeg (r4 - (x.1 v1 4)))) + (x.1 (v0 + 2) (Int32.toNatClampNeg r4))))) K L12 d bc bs hdp hL12 h
    · replace h := h.2 q
      refine EW_iconst (pc2 := 84) (v := 0) rfl dX3_drop_83 (by decide) ?_
      refine EW_goto (tgt := 104) dX3_drop_84 (by decide) ?_
      refine EW_ls [0, 1, 2, 3, 4, 5] rfl ?_
      exact sX3_drop_104 v0 v1 v2 v3 v4 r4 v0 (r4 - (x.1 v1 4)) 0 hv0 hv1 hv0 (wr x (v0 + 2) (Int32.toNatClampNeg (r4 - (x.1 v1 4))) (imin 2000 ((x.1 (v0 + 2) (Int32.toNatClampNeg (r4 - (x.1 v1 4)))) + (x.1 (v0 + 2) (Int32.toNatClampNeg r4))))) K L12 d bc bs hdp hL12 h
set_option maxHeartbeats 4000000 in
set_option maxRecDepth 100000 in
theorem sX3_drop (v0 : Nat) (v1 : Nat) (v2 : Int32) (hv0 : isF v0) (hv1 : isH v1) (x : ab_X) (K : ab_X → Prop) (d bc bs : Nat) (hdp : 2 ≤ d) (h : wX3_drop v0 v1 v2 x K) : EW MX3_drop 0 [(0, .ref v0), (1, .ref v1), (2, .int v2)] [] (aS x) d bc bs (liV K) := by
  unfold wX3_drop at h
  refine EW_aload_n (pc2 := 1) rfl dX3_drop_0 0 rfl ?_
  refine EW_aload_n (pc2 := 2) rfl dX3_drop_1 1 rfl ?_
  refine EW_iload_n (pc2 := 3) rfl dX3_drop_2 2 rfl ?_
  refine EW_iconst (pc2 := 4) (v := 1) rfl dX3_drop_3 (by decide) ?_
  refine EW_isub (pc2 := 5) rfl dX3_drop_4 ?_
  refine AW_invV (M' := MX3_hasFallen) [.ref v1, .int (v2 - 1)] (rest := []) mlRX3_70 okX3_hasFallen (pc2 := 8) rfl dX3_drop_5 rfl rfl (Nat.le_of_ble_eq_true rfl) (Nat.le_of_ble_eq_true rfl) (d' := 1) (by omega) (isF.o hv0) ⟨by decide, rfl⟩ (EW_mono (fun _ _ hr => ?_) (sX3_hasFallen v0 v1 (v2 - 1) hv0 hv1 x _ _ 0 0 (Nat.le_refl _) h))
  obtain ⟨r1, rfl, rfl, h⟩ := hr
  refine EW_istore_n (pc2 := 9) rfl dX3_drop_8 (by decide) [1, 2, 3, 0] [(0, .ref v0), (1, .ref v1), (2, .int v2), (3, .int r1)] rfl ?_
  refine EW_iconst (pc2 := 10) (v := 0) rfl dX3_drop_9 (by decide) ?_
  refine EW_istore (pc2 := 12) rfl dX3_drop_10 (by decide) [1, 2, 3, 4, 0] [(0, .ref v0), (1, .ref v1), (2, .int v2), (3, .int r1), (4, .int 0)] rfl ?_
  exact sX3_drop_12 v0 v1 v2 r1 0 hv0 hv1 x K d bc bs hdp h
theorem gfRX3_31 : ab_L RX3 31 3 6 := ⟨by decide, by decide, ab_in 187 (by decide +kernel) (by decide +kernel)⟩
theorem gfRX3_28 : ab_L RX3 28 3 5 := ⟨by decide, by decide, ab_in 186 (by decide +kernel) (by decide +kernel)⟩
abbrev MX3_noteBurning : ab_M := (yX3_noteBurning, cX3_noteBurning, 6, none)
theorem dX3_noteBurning_0 : decode cX3_noteBurning 0 = .ok (.iconst 0, 1) := by decide +kernel
theorem dX3_noteBurning_1 : decode cX3_noteBurning 1 = .ok (.istore_n 2, 1) := by decide +kernel
theorem dX3_noteBurning_2 : decode cX3_noteBurning 2 = .ok (.iload_n 2, 1) := by decide +kernel
theorem dX3_noteBurning_3 : decode cX3_noteBurning 3 = .ok (.aload_n 1, 1) := by decide +kernel
theorem dX3_noteBurning_4 : decode cX3_noteBurning 4 = .ok (.getfield 56, 3) := by decide +kernel
theorem dX3_noteBurning_7 : decode cX3_noteBurning 7 = .ok (.if_icmp .ge 86, 3) := by decide +kernel
theorem dX3_noteBurning_10 : decode cX3_noteBurning 10 = .ok (.iconst 0, 1) := by decide +kernel
theorem dX3_noteBurning_11 : decode cX3_noteBurning 11 = .ok (.istore_n 3, 1) := by decide +kernel
theorem dX3_noteBurning_12 : decode cX3_noteBurning 12 = .ok (.iconst 0, 1) := by decide +kernel
theorem dX3_noteBurning_13 : decode cX3_noteBurning 13 = .ok (.istore 4, 2) := by decide +kernel
theorem dX3_noteBurning_15 : decode cX3_noteBurning 15 = .ok (.iload 4, 2) := by decide +kernel
theorem dX3_noteBurning_17 : decode cX3_noteBurning 17 = .ok (.aload_n 1, 1) := by decide +kernel
theorem dX3_noteBurning_18 : decode cX3_noteBurning 18 = .ok (.getfield 60, 3) := by decide +kernel
theorem dX3_noteBurning_21 : decode cX3_noteBurning 21 = .ok (.if_icmp .ge 55, 3) := by decide +kernel
theorem dX3_noteBurning_24 : decode cX3_noteBurning 24 = .ok (.aload_n 1, 1) := by decide +kernel
theorem dX3_noteBurning_25 : decode cX3_noteBurning 25 = .ok (.iload_n 2, 1) := by decide +kernel
theorem dX3_noteBurning_26 : decode cX3_noteBurning 26 = .ok (.aload_n 1, 1) := by decide +kernel
theorem dX3_noteBurning_27 : decode cX3_noteBurning 27 = .ok (.getfield 60, 3) := by decide +kernel
theorem dX3_noteBurning_30 : decode cX3_noteBurning 30 = .ok (.imul, 1) := by decide +kernel
theorem dX3_noteBurning_31 : decode cX3_noteBurning 31 = .ok (.iload 4, 2) := by decide +kernel
theorem dX3_noteBurning_33 : decode cX3_noteBurning 33 = .ok (.iadd, 1) := by decide +kernel
theorem dX3_noteBurning_34 : decode cX3_noteBurning 34 = .ok (.invokevirtual 63, 3) := by decide +kernel
theorem dX3_noteBurning_37 : decode cX3_noteBurning 37 = .ok (.istore 5, 2) := by decide +kernel
theorem dX3_noteBurning_39 : decode cX3_noteBurning 39 = .ok (.aload_n 0, 1) := by decide +kernel
theorem dX3_noteBurning_40 : decode cX3_noteBurning 40 = .ok (.getfield 28, 3) := by decide +kernel
theorem dX3_noteBurning_43 : decode cX3_noteBurning 43 = .ok (.iload 5, 2) := by decide +kernel
theorem dX3_noteBurning_45 : decode cX3_noteBurning 45 = .ok (.aload_n 0, 1) := by decide +kernel
theorem dX3_noteBurning_46 : decode cX3_noteBurning 46 = .ok (.iload 5, 2) := by decide +kernel
theorem dX3_noteBurning_48 : decode cX3_noteBurning 48 = .ok (.invokevirtual 66, 3) := by decide +kernel
theorem dX3_noteBurning_51 : decode cX3_noteBurning 51 = .ok (.bastore, 1) := by decide +kernel
theorem dX3_noteBurning_52 : decode cX3_noteBurning 52 = .ok (.iload_n 3, 1) := by decide +kernel
theorem dX3_noteBurning_53 : decode cX3_noteBurning 53 = .ok (.aload_n 0, 1) := by decide +kernel
theorem dX3_noteBurning_54 : decode cX3_noteBurning 54 = .ok (.getfield 28, 3) := by decide +kernel
theorem dX3_noteBurning_57 : decode cX3_noteBurning 57 = .ok (.iload 5, 2) := by decide +kernel
theorem dX3_noteBurning_59 : decode cX3_noteBurning 59 = .ok (.baload, 1) := by decide +kernel
theorem dX3_noteBurning_60 : decode cX3_noteBurning 60 = .ok (.ifCond .eq 7, 3) := by decide +kernel
theorem dX3_noteBurning_63 : decode cX3_noteBurning 63 = .ok (.iconst 1, 1) := by decide +kernel
theorem dX3_noteBurning_64 : decode cX3_noteBurning 64 = .ok (.goto 4, 3) := by decide +kernel
theorem dX3_noteBurning_67 : decode cX3_noteBurning 67 = .ok (.iconst 0, 1) := by decide +kernel
theorem dX3_noteBurning_68 : decode cX3_noteBurning 68 = .ok (.iadd, 1) := by decide +kernel
theorem dX3_noteBurning_69 : decode cX3_noteBurning 69 = .ok (.istore_n 3, 1) := by decide +kernel
theorem dX3_noteBurning_70 : decode cX3_noteBurning 70 = .ok (.iinc 4 1, 3) := by decide +kernel
theorem dX3_noteBurning_73 : decode cX3_noteBurning 73 = .ok (.goto (-58), 3) := by decide +kernel
theorem dX3_noteBurning_76 : decode cX3_noteBurning 76 = .ok (.aload_n 0, 1) := by decide +kernel
theorem dX3_noteBurning_77 : decode cX3_noteBurning 77 = .ok (.getfield 31, 3) := by decide +kernel
theorem dX3_noteBurning_80 : decode cX3_noteBurning 80 = .ok (.aload_n 1, 1) := by decide +kernel
theorem dX3_noteBurning_81 : decode cX3_noteBurning 81 = .ok (.iload_n 2, 1) := by decide +kernel
theorem dX3_noteBurning_82 : decode cX3_noteBurning 82 = .ok (.invokevirtual 50, 3) := by decide +kernel
theorem dX3_noteBurning_85 : decode cX3_noteBurning 85 = .ok (.iload_n 3, 1) := by decide +kernel
theorem dX3_noteBurning_86 : decode cX3_noteBurning 86 = .ok (.iastore, 1) := by decide +kernel
theorem dX3_noteBurning_87 : decode cX3_noteBurning 87 = .ok (.iinc 2 1, 3) := by decide +kernel
theorem dX3_noteBurning_90 : decode cX3_noteBurning 90 = .ok (.goto (-88), 3) := by decide +kernel
theorem dX3_noteBurning_93 : decode cX3_noteBurning 93 = .ok (.return_, 1) := by decide +kernel
theorem okX3_noteBurning : ab_okM MX3_noteBurning 1 := ⟨by decide, ⟨by decide, by decide⟩, ab_in 1448 (by decide +kernel) (by decide +kernel), ab_in 90 (by decide +kernel) (by decide +kernel), by decide +kernel, by decide⟩
set_option maxHeartbeats 4000000 in
set_option maxRecDepth 100000 in
theorem sX3_noteBurning_68 (v0 : Nat) (v1 : Nat) (v2 : Int32) (v4 : Int32) (s0 : Int32) (s1 : Int32) (hv0 : isF v0) (hv1 : isH v1) (x : ab_X) (K : ab_X → Prop) (L2 : Int32 → ab_X → Prop) (L15 : Int32 → Int32 → ab_X → Prop) (d bc bs : Nat) (hdp : 1 ≤ d) (hL2 : ∀ (v2 : Int32) (x : ab_X), L2 v2 x → EW MX3_noteBurning 2 [(0, .ref v0), (1, .ref v1), (2, .int v2)] [] (aS x) d bc bs (liV K)) (hL15 : ∀ (v3 : Int32) (v4 : Int32) (x : ab_X), L15 v3 v4 x → EW MX3_noteBurning 15 [(0, .ref v0), (1, .ref v1), (2, .int v2), (3, .int v3), (4, .int v4)] [] (aS x) d bc bs (liV K)) (h : wX3_noteBurning_68 v0 v1 v2 v4 s0 s1 x K L2 L15) : EW MX3_noteBurning 68 [(0, .ref v0), (1, .ref v1), (2, .int v2), (4, .int v4)] [.int s1, .int s0] (aS x) d bc bs (liV K) := by
  unfold wX3_noteBurning_68 at h
  refine EW_iadd (pc2 := 69) rfl dX3_noteBurning_68 ?_
  refine EW_istore_n (pc2 := 70) rfl dX3_noteBurning_69 (by decide) [1, 2, 3, 0, 4] [(0, .ref v0), (1, .ref v1), (2, .int v2), (3, .int (s0 + s1)), (4, .int v4)] rfl ?_
  refine EW_iinc (v4 + 1) (pc2 := 73) rfl dX3_noteBurning_70 4 rfl rfl (by decide) [1, 2, 3, 4, 0] [(0, .ref v0), (1, .ref v1), (2, .int v2), (3, .int (s0 + s1)), (4, .int (v4 + 1))] rfl ?_
  refine EW_goto (tgt := 15) dX3_noteBurning_73 (by decide) ?_
  exact hL15 (s0 + s1) (v4 + 1) x h
set_option maxHeartbeats 4000000 in
set_option maxRecDepth 100000 in
theorem sX3_noteBurning_15 (v0 : Nat) (v1 : Nat) (v2 : Int32) (v3 : Int32) (v4 : Int32) (hv0 : isF v0) (hv1 : isH v1) (x : ab_X) (K : ab_X → Prop) (L2 : Int32 → ab_X → Prop) (d bc bs : Nat) (hdp : 1 ≤ d) (hL2 : ∀ (v2 : Int32) (x : ab_X), L2 v2 x → EW MX3_noteBurning 2 [(0, .ref v0), (1, .ref v1), (2, .int v2)] [] (aS x) d bc bs (liV K)) (h : Lp3 (lX3_noteBurning_15 v0 v1 v2 K L2) v3 v4 x) : EW MX3_noteBurning 15 [(0, .ref v0), (1, .ref v1), (2, .int v2), (3, .int v3), (4, .int v4)] [] (aS x) d bc bs (liV K) := by
  refine Lp3.use (P := fun v3 v4 x => EW MX3_noteBurning 15 [(0, .ref v0), (1, .ref v1), (2, .int v2), (3, .int v3), (4, .int v4)] [] (aS x) d bc bs (liV K)) (fun L15 v3 v4 x hL15 h => ?_) v3 v4 x h
  unfold lX3_noteBurning_15 at h
  refine EW_iload (pc2 := 17) rfl dX3_noteBurning_15 4 rfl ?_
  refine EW_aload_n (pc2 := 18) rfl dX3_noteBurning_17 1 rfl ?_
  refine AW_geti ⟨gfRX3_60, rfl⟩ (pc2 := 21) rfl dX3_noteBurning_18 (isH.o hv1) ?_
  refine EW_icmp_ge (tgt := 76) (pc2 := 24) rfl dX3_noteBurning_21 (by decide) (fun q => ?_) (fun q => ?_)
  · replace h := h.1 q
    refine EW_aload_n (pc2 := 77) rfl dX3_noteBurning_76 0 rfl ?_
    refine AW_getr (r := (v0 + 7)) ⟨gfRX3_31, rfl⟩ (pc2 := 80) rfl dX3_noteBurning_77 (isF.o hv0) (isF.r6 hv0) ?_
    refine EW_aload_n (pc2 := 81) rfl dX3_noteBurning_80 1 rfl ?_
    refine EW_iload_n (pc2 := 82) rfl dX3_noteBurning_81 2 rfl ?_
    refine AW_invV (M' := MX4_storey) [.int v2] (rest := [.ref (v0 + 7)]) mlRX3_50 okX4_storey (pc2 := 85) rfl dX3_noteBurning_82 rfl rfl (Nat.le_of_ble_eq_true rfl) (Nat.le_of_ble_eq_true rfl) (d' := 0) (by omega) (isH.o hv1) ⟨by decide, rfl⟩ (EW_mono (fun _ _ hr => ?_) (sX4_storey v1 v2 hv1 x _ _ 0 0 (Nat.le_refl _) h))
    obtain ⟨r1, rfl, rfl, h⟩ := hr
    refine EW_iload_n (pc2 := 86) rfl dX3_noteBurning_85 3 rfl ?_
    obtain ⟨b2, h⟩ := h
    refine AW_iast (pc2 := 87) rfl dX3_noteBurning_86 (isF.a6 hv0) b2 ?_
    refine EW_iinc (v2 + 1) (pc2 := 90) rfl dX3_noteBurning_87 2 rfl rfl (by decide) [1, 2, 0, 3, 4] [(0, .ref v0), (1, .ref v1), (2, .int (v2 + 1)), (3, .int v3), (4, .int v4)] rfl ?_
    refine EW_goto (tgt := 2) dX3_noteBurning_90 (by decide) ?_
    refine EW_ls [0, 1, 2] rfl ?_
    exact hL2 (v2 + 1) (wr x (v0 + 7) (Int32.toNatClampNeg r1) v3) h
  · replace h := h.2 q
    refine EW_aload_n (pc2 := 25) rfl dX3_noteBurning_24 1 rfl ?_
    refine EW_iload_n (pc2 := 26) rfl dX3_noteBurning_25 2 rfl ?_
    refine EW_aload_n (pc2 := 27) rfl dX3_noteBurning_26 1 rfl ?_
    refine AW_geti ⟨gfRX3_60, rfl⟩ (pc2 := 30) rfl dX3_noteBurning_27 (isH.o hv1) ?_
    refine EW_imul (pc2 := 31) rfl dX3_noteBurning_30 ?_
    refine EW_iload (pc2 := 33) rfl dX3_noteBurning_31 4 rfl ?_
    refine EW_iadd (pc2 := 34) rfl dX3_noteBurning_33 ?_
    refine AW_invV (M' := MX4_place) [.int ((v2 * (x.1 v1 4)) + v4)] (rest := []) mlRX3_63 okX4_place (pc2 := 37) rfl dX3_noteBurning_34 rfl rfl (Nat.le_of_ble_eq_true rfl) (Nat.le_of_ble_eq_true rfl) (d' := 0) (by omega) (isH.o hv1) ⟨by decide, rfl⟩ (EW_mono (fun _ _ hr => ?_) (sX4_place v1 ((v2 * (x.1 v1 4)) + v4) hv1 x _ _ 0 0 (Nat.le_refl _) h))
    obtain ⟨r3, rfl, rfl, h⟩ := hr
    refine EW_istore (pc2 := 39) rfl dX3_noteBurning_37 (by decide) [1, 2, 3, 4, 5, 0] [(0, .ref v0), (1, .ref v1), (2, .int v2), (3, .int v3), (4, .int v4), (5, .int r3)] rfl ?_
    refine EW_aload_n (pc2 := 40) rfl dX3_noteBurning_39 0 rfl ?_
    refine AW_getr (r := (v0 + 6)) ⟨gfRX3_28, rfl⟩ (pc2 := 43) rfl dX3_noteBurning_40 (isF.o hv0) (isF.r5 hv0) ?_
    refine EW_iload (pc2 := 45) rfl dX3_noteBurning_43 5 rfl ?_
    refine EW_aload_n (pc2 := 46) rfl dX3_noteBurning_45 0 rfl ?_
    refine EW_iload (pc2 := 48) rfl dX3_noteBurning_46 5 rfl ?_
    refine AW_invV (M' := MX3_burns) [.int r3] (rest := [.int r3, .ref (v0 + 6)]) mlRX3_66 okX3_burns (pc2 := 51) rfl dX3_noteBurning_48 rfl rfl (Nat.le_of_ble_eq_true rfl) (Nat.le_of_ble_eq_true rfl) (d' := 0) (by omega) (isF.o hv0) ⟨by decide, rfl⟩ (EW_mono (fun _ _ hr => ?_) (sX3_burns v0 r3 hv0 x _ _ 0 0 (Nat.le_refl _) h))
    obtain ⟨r4, rfl, rfl, h⟩ := hr
    obtain ⟨b5, h⟩ := h
    obtain ⟨z6, h⟩ := h
    refine AW_zast (pc2 := 52) rfl dX3_noteBurning_51 (isF.a5 hv0) b5 z6 ?_
    refine EW_iload_n (pc2 := 53) rfl dX3_noteBurning_52 3 rfl ?_
    refine EW_aload_n (pc2 := 54) rfl dX3_noteBurning_53 0 rfl ?_
    refine AW_getr (r := (v0 + 6)) ⟨gfRX3_28, rfl⟩ (pc2 := 57) rfl dX3_noteBurning_54 (isF.o hv0) (isF.r5 hv0) ?_
    refine EW_iload (pc2 := 59) rfl dX3_noteBurning_57 5 rfl ?_
    obtain ⟨b7, h⟩ := h
    refine AW_zald (pc2 := 60) rfl dX3_noteBurning_59 (isF.a5 hv0) b7 ?_
    refine EW_if_eq (tgt := 67) (pc2 := 63) rfl dX3_noteBurning_60 (by decide) (fun q => ?_) (fun q => ?_)
    · replace h := h.1 q
      refine EW_iconst (pc2 := 68) (v := 0) rfl dX3_noteBurning_67 (by decide) ?_
      refine EW_ls [0, 1, 2, 4] rfl ?_
      exact sX3_noteBurning_68 v0 v1 v2 v4 v3 0 hv0 hv1 (wr x (v0 + 6) (Int32.toNatClampNeg r3) r4) K L2 L15 d bc bs hdp hL2 hL15 h
    · replace h := h.2 q
      refine EW_iconst (pc2 := 64) (v := 1) rfl dX3_noteBurning_63 (by decide) ?_
      refine EW_goto (tgt := 68) dX3_noteBurning_64 (by decide) ?_
      refine EW_ls [0, 1, 2, 4] rfl ?_
      exact sX3_noteBurning_68 v0 v1 v2 v4 v3 1 hv0 hv1 (wr x (v0 + 6) (Int32.toNatClampNeg r3) r4) K L2 L15 d bc bs hdp hL2 hL15 h
set_option maxHeartbeats 4000000 in
set_option maxRecDepth 100000 in
theorem sX3_noteBurning_2 (v0 : Nat) (v1 : Nat) (v2 : Int32) (hv0 : isF v0) (hv1 : isH v1) (x : ab_X) (K : ab_X → Prop)  (d bc bs : Nat) (hdp : 1 ≤ d)  (h : Lp2 (lX3_noteBurning_2 v0 v1 K ) v2 x) : EW MX3_noteBurning 2 [(0, .ref v0), (1, .ref v1), (2, .int v2)] [] (aS x) d bc bs (liV K) := by
  refine Lp2.use (P := fun v2 x => EW MX3_noteBurning 2 [(0, .ref v0), (1, .ref v1), (2, .int v2)] [] (aS x) d bc bs (liV K)) (fun L2 v2 x hL2 h => ?_) v2 x h
  unfold lX3_noteBurning_2 at h
  refine EW_iload_n (pc2 := 3) rfl dX3_noteBurning_2 2 rfl ?_
  refine EW_aload_n (pc2 := 4) rfl dX3_noteBurning_3 1 rfl ?_
  refine AW_geti ⟨gfRX3_56, rfl⟩ (pc2 := 7) rfl dX3_noteBurning_4 (isH.o hv1) ?_
  refine EW_icmp_ge (tgt := 93) (pc2 := 10) rfl dX3_noteBurning_7 (by decide) (fun q => ?_) (fun q => ?_)
  · replace h := h.1 q
    exact EW_vret rfl dX3_noteBurning_93 ⟨_, rfl, rfl, h⟩
  · replace h := h.2 q
    refine EW_iconst (pc2 := 11) (v := 0) rfl dX3_noteBurning_10 (by decide) ?_
    refine EW_istore_n (pc2 := 12) rfl dX3_noteBurning_11 (by decide) [1, 2, 3, 0] [(0, .ref v0), (1, .ref v1), (2, .int v2), (3, .int 0)] rfl ?_
    refine EW_iconst (pc2 := 13) (v := 0) rfl dX3_noteBurning_12 (by decide) ?_
    refine EW_istore (pc2 := 15) rfl dX3_noteBurning_13 (by decide) [1, 2, 3, 4, 0] [(0, .ref v0), (1, .ref v1), (2, .int v2), (3, .int 0), (4, .int 0)] rfl ?_
    exact sX3_noteBurning_15 v0 v1 v2 0 0 hv0 hv1 x K L2 d bc bs hdp hL2 h
set_option maxHeartbeats 4000000 in
set_option maxRecDepth 100000 in
theorem sX3_noteBurning (v0 : Nat) (v1 : Nat) (hv0 : isF v0) (hv1 : isH v1) (x : ab_X) (K : ab_X → Prop) (d bc bs : Nat) (hdp : 1 ≤ d) (h : wX3_noteBurning v0 v1 x K) : EW MX3_noteBurning 0 [(0, .ref v0), (1, .ref v1)] [] (aS x) d bc bs (liV K) := by
  unfold wX3_noteBurning at h
  refine EW_iconst (pc2 := 1) (v := 0) rfl dX3_noteBurning_0 (by decide) ?_
  refine EW_istore_n (pc2 := 2) rfl dX3_noteBurning_1 (by decide) [1, 2, 0] [(0, .ref v0), (1, .ref v1), (2, .int 0)] rfl ?_
  exact sX3_noteBurning_2 v0 v1 0 hv0 hv1 x K d bc bs hdp h
