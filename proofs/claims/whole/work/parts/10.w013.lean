theorem mlRX0_381 : Cond.methodLink RX0 381 yX0_pour ∈ ab_G ∧ Cond.instanceMethod yX0_pour ∈ ab_G ∧ Cond.selects RX0 yX0_pour yX0_pour ∈ ab_G := ⟨ab_in 1433 (by decide +kernel) (by decide +kernel), ab_in 1434 (by decide +kernel) (by decide +kernel), ab_in 1435 (by decide +kernel) (by decide +kernel)⟩
theorem mlRX0_270 : Cond.methodLink RX0 270 yX3_dry ∈ ab_G ∧ Cond.instanceMethod yX3_dry ∈ ab_G ∧ Cond.selects RX3 yX3_dry yX3_dry ∈ ab_G := ⟨ab_in 1382 (by decide +kernel) (by decide +kernel), ab_in 1383 (by decide +kernel) (by decide +kernel), ab_in 1384 (by decide +kernel) (by decide +kernel)⟩
theorem mlRX0_375 : Cond.methodLink RX0 375 yJ7_fill_53178 ∈ ab_G ∧ Cond.static yJ7_fill_53178 ∈ ab_G := ⟨ab_in 1432 (by decide +kernel) (by decide +kernel), ab_in 128 (by decide +kernel) (by decide +kernel)⟩
abbrev MX0_shareWater : ab_M := (yX0_shareWater, cX0_shareWater, 2, none)
theorem dX0_shareWater_0 : decode cX0_shareWater 0 = .ok (.aload_n 0, 1) := by decide +kernel
theorem dX0_shareWater_1 : decode cX0_shareWater 1 = .ok (.getfield 49, 3) := by decide +kernel
theorem dX0_shareWater_4 : decode cX0_shareWater 4 = .ok (.getfield 100, 3) := by decide +kernel
theorem dX0_shareWater_7 : decode cX0_shareWater 7 = .ok (.invokevirtual 270, 3) := by decide +kernel
theorem dX0_shareWater_10 : decode cX0_shareWater 10 = .ok (.aload_n 0, 1) := by decide +kernel
theorem dX0_shareWater_11 : decode cX0_shareWater 11 = .ok (.getfield 42, 3) := by decide +kernel
theorem dX0_shareWater_14 : decode cX0_shareWater 14 = .ok (.iconst 0, 1) := by decide +kernel
theorem dX0_shareWater_15 : decode cX0_shareWater 15 = .ok (.invokestatic 375, 3) := by decide +kernel
theorem dX0_shareWater_18 : decode cX0_shareWater 18 = .ok (.iconst 0, 1) := by decide +kernel
theorem dX0_shareWater_19 : decode cX0_shareWater 19 = .ok (.istore_n 1, 1) := by decide +kernel
theorem dX0_shareWater_20 : decode cX0_shareWater 20 = .ok (.iload_n 1, 1) := by decide +kernel
theorem dX0_shareWater_21 : decode cX0_shareWater 21 = .ok (.aload_n 0, 1) := by decide +kernel
theorem dX0_shareWater_22 : decode cX0_shareWater 22 = .ok (.getfield 55, 3) := by decide +kernel
theorem dX0_shareWater_25 : decode cX0_shareWater 25 = .ok (.if_icmp .ge 52, 3) := by decide +kernel
theorem dX0_shareWater_28 : decode cX0_shareWater 28 = .ok (.aload_n 0, 1) := by decide +kernel
theorem dX0_shareWater_29 : decode cX0_shareWater 29 = .ok (.getfield 11, 3) := by decide +kernel
theorem dX0_shareWater_32 : decode cX0_shareWater 32 = .ok (.iload_n 1, 1) := by decide +kernel
theorem dX0_shareWater_33 : decode cX0_shareWater 33 = .ok (.aaload, 1) := by decide +kernel
theorem dX0_shareWater_34 : decode cX0_shareWater 34 = .ok (.getfield 332, 3) := by decide +kernel
theorem dX0_shareWater_37 : decode cX0_shareWater 37 = .ok (.bipush 6, 2) := by decide +kernel
theorem dX0_shareWater_39 : decode cX0_shareWater 39 = .ok (.invokestatic 59, 3) := by decide +kernel
theorem dX0_shareWater_42 : decode cX0_shareWater 42 = .ok (.ifCond .eq 29, 3) := by decide +kernel
theorem dX0_shareWater_45 : decode cX0_shareWater 45 = .ok (.aload_n 0, 1) := by decide +kernel
theorem dX0_shareWater_46 : decode cX0_shareWater 46 = .ok (.getfield 42, 3) := by decide +kernel
theorem dX0_shareWater_49 : decode cX0_shareWater 49 = .ok (.aload_n 0, 1) := by decide +kernel
theorem dX0_shareWater_50 : decode cX0_shareWater 50 = .ok (.getfield 11, 3) := by decide +kernel
theorem dX0_shareWater_53 : decode cX0_shareWater 53 = .ok (.iload_n 1, 1) := by decide +kernel
theorem dX0_shareWater_54 : decode cX0_shareWater 54 = .ok (.aaload, 1) := by decide +kernel
theorem dX0_shareWater_55 : decode cX0_shareWater 55 = .ok (.getfield 332, 3) := by decide +kernel
theorem dX0_shareWater_58 : decode cX0_shareWater 58 = .ok (.dup2, 1) := by decide +kernel
theorem dX0_shareWater_59 : decode cX0_shareWater 59 = .ok (.iaload, 1) := by decide +kernel
theorem dX0_shareWater_60 : decode cX0_shareWater 60 = .ok (.aload_n 0, 1) := by decide +kernel
theorem dX0_shareWater_61 : decode cX0_shareWater 61 = .ok (.getfield 11, 3) := by decide +kernel
theorem dX0_shareWater_64 : decode cX0_shareWater 64 = .ok (.iload_n 1, 1) := by decide +kernel
theorem dX0_shareWater_65 : decode cX0_shareWater 65 = .ok (.aaload, 1) := by decide +kernel
theorem dX0_shareWater_66 : decode cX0_shareWater 66 = .ok (.getfield 338, 3) := by decide +kernel
theorem dX0_shareWater_69 : decode cX0_shareWater 69 = .ok (.iadd, 1) := by decide +kernel
theorem dX0_shareWater_70 : decode cX0_shareWater 70 = .ok (.iastore, 1) := by decide +kernel
theorem dX0_shareWater_71 : decode cX0_shareWater 71 = .ok (.iinc 1 1, 3) := by decide +kernel
theorem dX0_shareWater_74 : decode cX0_shareWater 74 = .ok (.goto (-54), 3) := by decide +kernel
theorem dX0_shareWater_77 : decode cX0_shareWater 77 = .ok (.iconst 0, 1) := by decide +kernel
theorem dX0_shareWater_78 : decode cX0_shareWater 78 = .ok (.istore_n 1, 1) := by decide +kernel
theorem dX0_shareWater_79 : decode cX0_shareWater 79 = .ok (.iload_n 1, 1) := by decide +kernel
theorem dX0_shareWater_80 : decode cX0_shareWater 80 = .ok (.aload_n 0, 1) := by decide +kernel
theorem dX0_shareWater_81 : decode cX0_shareWater 81 = .ok (.getfield 55, 3) := by decide +kernel
theorem dX0_shareWater_84 : decode cX0_shareWater 84 = .ok (.if_icmp .ge 72, 3) := by decide +kernel
theorem dX0_shareWater_87 : decode cX0_shareWater 87 = .ok (.aload_n 0, 1) := by decide +kernel
theorem dX0_shareWater_88 : decode cX0_shareWater 88 = .ok (.getfield 11, 3) := by decide +kernel
theorem dX0_shareWater_91 : decode cX0_shareWater 91 = .ok (.iload_n 1, 1) := by decide +kernel
theorem dX0_shareWater_92 : decode cX0_shareWater 92 = .ok (.aaload, 1) := by decide +kernel
theorem dX0_shareWater_93 : decode cX0_shareWater 93 = .ok (.getfield 332, 3) := by decide +kernel
theorem dX0_shareWater_96 : decode cX0_shareWater 96 = .ok (.bipush 6, 2) := by decide +kernel
theorem dX0_shareWater_98 : decode cX0_shareWater 98 = .ok (.invokestatic 59, 3) := by decide +kernel
theorem dX0_shareWater_101 : decode cX0_shareWater 101 = .ok (.ifCond .eq 49, 3) := by decide +kernel
theorem dX0_shareWater_104 : decode cX0_shareWater 104 = .ok (.aload_n 0, 1) := by decide +kernel
theorem dX0_shareWater_105 : decode cX0_shareWater 105 = .ok (.getfield 49, 3) := by decide +kernel
theorem dX0_shareWater_108 : decode cX0_shareWater 108 = .ok (.aload_n 0, 1) := by decide +kernel
theorem dX0_shareWater_109 : decode cX0_shareWater 109 = .ok (.getfield 11, 3) := by decide +kernel
theorem dX0_shareWater_112 : decode cX0_shareWater 112 = .ok (.iload_n 1, 1) := by decide +kernel
theorem dX0_shareWater_113 : decode cX0_shareWater 113 = .ok (.aaload, 1) := by decide +kernel
theorem dX0_shareWater_114 : decode cX0_shareWater 114 = .ok (.getfield 78, 3) := by decide +kernel
theorem dX0_shareWater_117 : decode cX0_shareWater 117 = .ok (.invokevirtual 263, 3) := by decide +kernel
theorem dX0_shareWater_120 : decode cX0_shareWater 120 = .ok (.ifCond .eq 30, 3) := by decide +kernel
theorem dX0_shareWater_123 : decode cX0_shareWater 123 = .ok (.aload_n 0, 1) := by decide +kernel
theorem dX0_shareWater_124 : decode cX0_shareWater 124 = .ok (.aload_n 0, 1) := by decide +kernel
theorem dX0_shareWater_125 : decode cX0_shareWater 125 = .ok (.getfield 11, 3) := by decide +kernel
theorem dX0_shareWater_128 : decode cX0_shareWater 128 = .ok (.iload_n 1, 1) := by decide +kernel
theorem dX0_shareWater_129 : decode cX0_shareWater 129 = .ok (.aaload, 1) := by decide +kernel
theorem dX0_shareWater_130 : decode cX0_shareWater 130 = .ok (.aload_n 0, 1) := by decide +kernel
theorem dX0_shareWater_131 : decode cX0_shareWater 131 = .ok (.getfield 49, 3) := by decide +kernel
theorem dX0_shareWater_134 : decode cX0_shareWater 134 = .ok (.getfield 148, 3) := by decide +kernel
theorem dX0_shareWater_137 : decode cX0_shareWater 137 = .ok (.aload_n 0, 1) := by decide +kernel
theorem dX0_shareWater_138 : decode cX0_shareWater 138 = .ok (.getfield 11, 3) := by decide +kernel
theorem dX0_shareWater_141 : decode cX0_shareWater 141 = .ok (.iload_n 1, 1) := by decide +kernel
theorem dX0_shareWater_142 : decode cX0_shareWater 142 = .ok (.aaload, 1) := by decide +kernel
theorem dX0_shareWater_143 : decode cX0_shareWater 143 = .ok (.getfield 78, 3) := by decide +kernel
theorem dX0_shareWater_146 : decode cX0_shareWater 146 = .ok (.aaload, 1) := by decide +kernel
theorem dX0_shareWater_147 : decode cX0_shareWater 147 = .ok (.invokevirtual 381, 3) := by decide +kernel
theorem dX0_shareWater_150 : decode cX0_shareWater 150 = .ok (.iinc 1 1, 3) := by decide +kernel
theorem dX0_shareWater_153 : decode cX0_shareWater 153 = .ok (.goto (-74), 3) := by decide +kernel
theorem dX0_shareWater_156 : decode cX0_shareWater 156 = .ok (.return_, 1) := by decide +kernel
theorem okX0_shareWater : ab_okM MX0_shareWater 0 := ⟨by decide, ⟨by decide, by decide⟩, ab_in 1431 (by decide +kernel) (by decide +kernel), ab_in 92 (by decide +kernel) (by decide +kernel), by decide +kernel, by decide⟩
set_option maxHeartbeats 4000000 in
set_option maxRecDepth 100000 in
def lX0_shareWater_79  (K : ab_X → Prop)  (L79 : Int32 → ab_X → Prop) (v1 : Int32) (x : ab_X) : Prop := (((x.1 66 3) ≤ v1 → K x) ∧ (¬ (x.1 66 3) ≤ v1 → (vp_in v1 16 ∧ wX11_below (x.1 (82 + Int32.toNatClampNeg v1) 18) 6 x (fun r10 => ((r10 = 0 → L79 (v1 + 1) x) ∧ (¬ r10 = 0 → (vp_in v1 16 ∧ wX10_has (x.1 (82 + Int32.toNatClampNeg v1) 12) x (fun r12 => ((r12 = 0 → L79 (v1 + 1) x) ∧ (¬ r12 = 0 → (vp_in v1 16 ∧ vp_in v1 16 ∧ vp_in (x.1 (82 + Int32.toNatClampNeg v1) 12) 12 ∧ wX0_pour (82 + Int32.toNatClampNeg v1) (30 + 3 * Int32.toNatClampNeg (x.1 (82 + Int32.toNatClampNeg v1) 12)) x (fun x16 => L79 (v1 + 1) x16))))))))))))
set_option maxHeartbeats 4000000 in
set_option maxRecDepth 100000 in
theorem sX0_shareWater_79 (v1 : Int32)  (x : ab_X) (K : ab_X → Prop)  (d bc bs : Nat) (hdp : 2 ≤ d)  (h : Lp2 (lX0_shareWater_79  K ) v1 x) : EW MX0_shareWater 79 [(0, .ref 66), (1, .int v1)] [] (aS x) d bc bs (liV K) := by
  refine Lp2.use (P := fun v1 x => EW MX0_shareWater 79 [(0, .ref 66), (1, .int v1)] [] (aS x) d bc bs (liV K)) (fun L79 v1 x hL79 h => ?_) v1 x h
  unfold lX0_shareWater_79 at h
  refine EW_iload_n (pc2 := 80) rfl dX0_shareWater_79 1 rfl ?_
  refine EW_aload_n (pc2 := 81) rfl dX0_shareWater_80 0 rfl ?_
  refine AW_geti ⟨gfRX0_55, rfl⟩ (pc2 := 84) rfl dX0_shareWater_81 q66 ?_
  refine EW_icmp_ge (tgt := 156) (pc2 := 87) rfl dX0_shareWater_84 (by decide) (fun q => ?_) (fun q => ?_)
  · replace h := h.1 q
    exact EW_vret rfl dX0_shareWater_156 ⟨_, rfl, rfl, h⟩
  · replace h := h.2 q
    refine EW_aload_n (pc2 := 88) rfl dX0_shareWater_87 0 rfl ?_
    refine AW_getr (r := 67) ⟨gfRX0_11, rfl⟩ (pc2 := 91) rfl dX0_shareWater_88 q66 rfl ?_
    refine EW_iload_n (pc2 := 92) rfl dX0_shareWater_91 1 rfl ?_
    obtain ⟨b9, h⟩ := h
    refine AW_aald6 (pc2 := 93) rfl dX0_shareWater_92 b9 ?_
    refine AW_geti ⟨gfRX0_332, rfl⟩ (pc2 := 96) rfl dX0_shareWater_93 (isW.o (isW_of b9)) ?_
    refine EW_bipush (pc2 := 98) (v := 6) rfl dX0_shareWater_96 (by decide) ?_
    refine AW_invSN (M' := MX11_below) [.int (x.1 (82 + Int32.toNatClampNeg v1) 18), .int 6] (rest := []) mlRX0_59 okX11_below (pc2 := 101) rfl dX0_shareWater_98 rfl rfl (Nat.le_of_ble_eq_true rfl) (Nat.le_of_ble_eq_true rfl) (d' := 0) (by omega) (EW_mono (fun _ _ hr => ?_) (sX11_below (x.1 (82 + Int32.toNatClampNeg v1) 18) 6  x _ _ 0 0 (Nat.le_refl _) h))
    obtain ⟨r10, rfl, rfl, h⟩ := hr
    refine EW_if_eq (tgt := 150) (pc2 := 104) rfl dX0_shareWater_101 (by decide) (fun q => ?_) (fun q => ?_)
    · replace h := h.1 q
      refine EW_iinc (v1 + 1) (pc2 := 153) rfl dX0_shareWater_150 1 rfl rfl (by decide) [1, 0] [(0, .ref 66), (1, .int (v1 + 1))] rfl ?_
      refine EW_goto (tgt := 79) dX0_shareWater_153 (by decide) ?_
      exact hL79 (v1 + 1) x h
    · replace h := h.2 q
      refine EW_aload_n (pc2 := 105) rfl dX0_shareWater_104 0 rfl ?_
      refine AW_getr (r := 9) ⟨gfRX0_49, rfl⟩ (pc2 := 108) rfl dX0_shareWater_105 q66 rfl ?_
      refine EW_aload_n (pc2 := 109) rfl dX0_shareWater_108 0 rfl ?_
      refine AW_getr (r := 67) ⟨gfRX0_11, rfl⟩ (pc2 := 112) rfl dX0_shareWater_109 q66 rfl ?_
      refine EW_iload_n (pc2 := 113) rfl dX0_shareWater_112 1 rfl ?_
      obtain ⟨b11, h⟩ := h
      refine AW_aald6 (pc2 := 114) rfl dX0_shareWater_113 b11 ?_
      refine AW_geti ⟨gfRX0_78, rfl⟩ (pc2 := 117) rfl dX0_shareWater_114 (isW.o (isW_of b11)) ?_
      refine AW_invV (M' := MX10_has) [.int (x.1 (82 + Int32.toNatClampNeg v1) 12)] (rest := []) mlRX0_263 okX10_has (pc2 := 120) rfl dX0_shareWater_117 rfl rfl (Nat.le_of_ble_eq_true rfl) (Nat.le_of_ble_eq_true rfl) (d' := 1) (by omega) q9 ⟨by decide, rfl⟩ (EW_mono (fun _ _ hr => ?_) (sX10_has (x.1 (82 + Int32.toNatClampNeg v1) 12)  x _ _ 0 0 (Nat.le_refl _) h))
      obtain ⟨r12, rfl, rfl, h⟩ := hr
      refine EW_if_eq (tgt := 150) (pc2 := 123) rfl dX0_shareWater_120 (by decide) (fun q => ?_) (fun q => ?_)
      · replace h := h.1 q
        refine EW_iinc (v1 + 1) (pc2 := 153) rfl dX0_shareWater_150 1 rfl rfl (by decide) [1, 0] [(0, .ref 66), (1, .int (v1 + 1))] rfl ?_
        refine EW_goto (tgt := 79) dX0_shareWater_153 (by decide) ?_
        exact hL79 (v1 + 1) x h
      · replace h := h.2 q
        refine EW_aload_n (pc2 := 124) rfl dX0_shareWater_123 0 rfl ?_
        refine EW_aload_n (pc2 := 125) rfl dX0_shareWater_124 0 rfl ?_
        refine AW_getr (r := 67) ⟨gfRX0_11, rfl⟩ (pc2 := 128) rfl dX0_shareWater_125 q66 rfl ?_
        refine EW_iload_n (pc2 := 129) rfl dX0_shareWater_128 1 rfl ?_
        obtain ⟨b13, h⟩ := h
        refine AW_aald6 (pc2 := 130) rfl dX0_shareWater_129 b13 ?_
        refine EW_aload_n (pc2 := 131) rfl dX0_shareWater_130 0 rfl ?_
        refine AW_getr (r := 9) ⟨gfRX0_49, rfl⟩ (pc2 := 134) rfl dX0_shareWater_131 q66 rfl ?_
        refine AW_getr (r := 10) ⟨gfRX0_148, rfl⟩ (pc2 := 137) rfl dX0_shareWater_134 q9 rfl ?_
        refine EW_aload_n (pc2 := 138) rfl dX0_shareWater_137 0 rfl ?_
        refine AW_getr (r := 67) ⟨gfRX0_11, rfl⟩ (pc2 := 141) rfl dX0_shareWater_138 q66 rfl ?_
        refine EW_iload_n (pc2 := 142) rfl dX0_shareWater_141 1 rfl ?_
        obtain ⟨b14, h⟩ := h
        refine AW_aald6 (pc2 := 143) rfl dX0_shareWater_142 b14 ?_
        refine AW_geti ⟨gfRX0_78, rfl⟩ (pc2 := 146) rfl dX0_shareWater_143 (isW.o (isW_of b14)) ?_
        obtain ⟨b15, h⟩ := h
        refine AW_aald5 (pc2 := 147) rfl dX0_shareWater_146 b15 ?_
        refine AW_invV (M' := MX0_pour) [.ref (82 + Int32.toNatClampNeg v1), .ref (30 + 3 * Int32.toNatClampNeg (x.1 (82 + Int32.toNatClampNeg v1) 12))] (rest := []) mlRX0_381 okX0_pour (pc2 := 150) rfl dX0_shareWater_147 rfl rfl (Nat.le_of_ble_eq_true rfl) (Nat.le_of_ble_eq_true rfl) (d' := 1) (by omega) q66 ⟨by decide, rfl⟩ (EW_mono (fun _ _ hr => ?_) (sX0_pour (82 + Int32.toNatClampNeg v1) (30 + 3 * Int32.toNatClampNeg (x.1 (82 + Int32.toNatClampNeg v1) 12)) (isW_of b13) (isH_of b15) x _ _ 0 0 (Nat.le_refl _) h))
        obtain ⟨x16, rfl, rfl, h⟩ := hr
        refine EW_iinc (v1 + 1) (pc2 := 153) rfl dX0_shareWater_150 1 rfl rfl (by decide) [1, 0] [(0, .ref 66), (1, .int (v1 + 1))] rfl ?_
        refine EW_goto (tgt := 79) dX0_shareWater_153 (by decide) ?_
        exact hL79 (v1 + 1) x16 h
set_option maxHeartbeats 4000000 in
set_option maxRecDepth 100000 in
def lX0_shareWater_20  (K : ab_X → Prop)  (L20 : Int32 → ab_X → Prop) (v1 : Int32) (x : ab_X) : Prop := (((x.1 66 3) ≤ v1 → Lp2 (lX0_shareWater_79 K ) 0 x) ∧ (¬ (x.1 66 3) ≤ v1 → (vp_in v1 16 ∧ wX11_below (x.1 (82 + Int32.toNatClampNeg v1) 18) 6 x (fun r4 => ((r4 = 0 → L20 (v1 + 1) x) ∧ (¬ r4 = 0 → (vp_in v1 16 ∧ vp_in (x.1 (82 + Int32.toNatClampNeg v1) 18) 6 ∧ vp_in v1 16 ∧ vp_in (x.1 (82 + Int32.toNatClampNeg v1) 18) 6 ∧ L20 (v1 + 1) (wr x 81 (Int32.toNatClampNeg (x.1 (82 + Int32.toNatClampNeg v1) 18)) ((x.1 81 (Int32.toNatClampNeg (x.1 (82 + Int32.toNatClampNeg v1) 18))) + (x.1 (82 + Int32.toNatClampNeg v1) 17))))))))))
set_option maxHeartbeats 4000000 in
set_option maxRecDepth 100000 in
theorem sX0_shareWater_20 (v1 : Int32)  (x : ab_X) (K : ab_X → Prop)  (d bc bs : Nat) (hdp : 2 ≤ d)  (h : Lp2 (lX0_shareWater_20  K ) v1 x) : EW MX0_shareWater 20 [(0, .ref 66), (1, .int v1)] [] (aS x) d bc bs (liV K) := by
  refine Lp2.use (P := fun v1 x => EW MX0_shareWater 20 [(0, .ref 66), (1, .int v1)] [] (aS x) d bc bs (liV K)) (fun L20 v1 x hL20 h => ?_) v1 x h
  unfold lX0_shareWater_20 at h
  refine EW_iload_n (pc2 := 21) rfl dX0_shareWater_20 1 rfl ?_
  refine EW_aload_n (pc2 := 22) rfl dX0_shareWater_21 0 rfl ?_
  refine AW_geti ⟨gfRX0_55, rfl⟩ (pc2 := 25) rfl dX0_shareWater_22 q66 ?_
  refine EW_icmp_ge (tgt := 77) (pc2 := 28) rfl dX0_shareWater_25 (by decide) (fun q => ?_) (fun q => ?_)
  · replace h := h.1 q
    refine EW_iconst (pc2 := 78) (v := 0) rfl dX0_shareWater_77 (by decide) ?_
    refine EW_istore_n (pc2 := 79) rfl dX0_shareWater_78 (by decide) [1, 0] [(0, .ref 66), (1, .int 0)] rfl ?_
    exact sX0_shareWater_79 0 x K d bc bs hdp h
  · replace h := h.2 q
    refine EW_aload_n (pc2 := 29) rfl dX0_shareWater_28 0 rfl ?_
    refine AW_getr (r := 67) ⟨gfRX0_11, rfl⟩ (pc2 := 32) rfl dX0_shareWater_29 q66 rfl ?_
    refine EW_iload_n (pc2 := 33) rfl dX0_shareWater_32 1 rfl ?_
    obtain ⟨b3, h⟩ := h
    refine AW_aald6 (pc2 := 34) rfl dX0_shareWater_33 b3 ?_
    refine AW_geti ⟨gfRX0_332, rfl⟩ (pc2 := 37) rfl dX0_shareWater_34 (isW.o (isW_of b3)) ?_
    refine EW_bipush (pc2 := 39) (v := 6) rfl dX0_shareWater_37 (by decide) ?_
    refine AW_invSN (M' := MX11_below) [.int (x.1 (82 + Int32.toNatClampNeg v1) 18), .int 6] (rest := []) mlRX0_59 okX11_below (pc2 := 42) rfl dX0_shareWater_39 rfl rfl (Nat.le_of_ble_eq_true rfl) (Nat.le_of_ble_eq_true rfl) (d' := 0) (by omega) (EW_mono (fun _ _ hr => ?_) (sX11_below (x.1 (82 + Int32.toNatClampNeg v1) 18) 6  x _ _ 0 0 (Nat.le_refl _) h))
    obtain ⟨r4, rfl, rfl, h⟩ := hr
    refine EW_if_eq (tgt := 71) (pc2 := 45) rfl dX0_shareWater_42 (by decide) (fun q => ?_) (fun q => ?_)
    · replace h := h.1 q
      refine EW_iinc (v1 + 1) (pc2 := 74) rfl dX0_shareWater_71 1 rfl rfl (by decide) [1, 0] [(0, .ref 66), (1, .int (v1 + 1))] rfl ?_
      refine EW_goto (tgt := 20) dX0_shareWater_74 (by decide) ?_
      exact hL20 (v1 + 1) x h
    · replace h := h.2 q
      refine EW_aload_n (pc2 := 46) rfl dX0_shareWater_45 0 rfl ?_
      refine AW_getr (r := 81) ⟨gfRX0_42, rfl⟩ (pc2 := 49) rfl dX0_shareWater_46 q66 rfl ?_
      refine EW_aload_n (pc2 := 50) rfl dX0_shareWater_49 0 rfl ?_
      refine AW_getr (r := 67) ⟨gfRX0_11, rfl⟩ (pc2 := 53) rfl dX0_shareWater_50 q66 rfl ?_
      refine EW_iload_n (pc2 := 54) rfl dX0_shareWater_53 1 rfl ?_
      obtain ⟨b5, h⟩ := h
      refine AW_aald6 (pc2 := 55) rfl dX0_shareWater_54 b5 ?_
      refine AW_geti ⟨gfRX0_332, rfl⟩ (pc2 := 58) rfl dX0_shareWater_55 (isW.o (isW_of b5)) ?_
      refine EW_dup2 (pc2 := 59) rfl dX0_shareWater_58 rfl rfl ?_
      obtain ⟨b6, h⟩ := h
      refine AW_iald (pc2 := 60) rfl dX0_shareWater_59 q81 b6 ?_
      refine EW_aload_n (pc2 := 61) rfl dX0_shareWater_60 0 rfl ?_
      refine AW_getr (r := 67) ⟨gfRX0_11, rfl⟩ (pc2 := 64) rfl dX0_shareWater_61 q66 rfl ?_
      refine EW_iload_n (pc2 := 65) rfl dX0_shareWater_64 1 rfl ?_
      obtain ⟨b7, h⟩ := h
      refine AW_aald6 (pc2 := 66) rfl dX0_shareWater_65 b7 ?_
      refine AW_geti ⟨gfRX0_338, rfl⟩ (pc2 := 69) rfl dX0_shareWater_66 (isW.o (isW_of b7)) ?_
      refine EW_iadd (pc2 := 70) rfl dX0_shareWater_69 ?_
      obtain ⟨b8, h⟩ := h
      refine AW_iast (pc2 := 71) rfl dX0_shareWater_70 q81 b8 ?_
      refine EW_iinc (v1 + 1) (pc2 := 74) rfl dX0_shareWater_71 1 rfl rfl (by decide) [1, 0] [(0, .ref 66), (1, .int (v1 + 1))] rfl ?_
      refine EW_goto (tgt := 20) dX0_shareWater_74 (by decide) ?_
      exact hL20 (v1 + 1) (wr x 81 (Int32.toNatClampNeg (x.1 (82 + Int32.toNatClampNeg v1) 18)) ((x.1 81 (Int32.toNatClampNeg (x.1 (82 + Int32.toNatClampNeg v1) 18))) + (x.1 (82 + Int32.toNatClampNeg v1) 17))) h
set_option maxHeartbeats 4000000 in
set_option maxRecDepth 100000 in
def wX0_shareWater  (x : ab_X) (K : ab_X → Prop) : Prop := wX3_dry 11 x (fun x1 => wJ7_fill_53178 81 6 0 x1 (fun x2 => Lp2 (lX0_shareWater_20 K ) 0 x2))
set_option maxHeartbeats 4000000 in
set_option maxRecDepth 100000 in
theorem sX0_shareWater   (x : ab_X) (K : ab_X → Prop) (d bc bs : Nat) (hdp : 2 ≤ d) (h : wX0_shareWater  x K) : EW MX0_shareWater 0 [(0, .ref 66)] [] (aS x) d bc bs (liV K) := by
  unfold wX0_shareWater at h
  refine EW_aload_n (pc2 := 1) rfl dX0_shareWater_0 0 rfl ?_
  refine AW_getr (r := 9) ⟨gfRX0_49, rfl⟩ (pc2 := 4) rfl dX0_shareWater_1 q66 rfl ?_
  refine AW_getr (r := 11) ⟨gfRX0_100, rfl⟩ (pc2 := 7) rfl dX0_shareWater_4 q9 rfl ?_
  refine AW_invV (M' := MX3_dry) [] (rest := []) mlRX0_270 okX3_dry (pc2 := 10) rfl dX0_shareWater_7 rfl rfl (Nat.le_of_ble_eq_true rfl) (Nat.le_of_ble_eq_true rfl) (d' := 1) (by omega) q11 ⟨by decide, rfl⟩ (EW_mono (fun _ _ hr => ?_) (sX3_dry 11 (Or.inl rfl : isF 11) x _ _ 0 0 (Nat.le_refl _) h))
  obtain ⟨x1, rfl, rfl, h⟩ := hr
  refine EW_aload_n (pc2 := 11) rfl dX0_shareWater_10 0 rfl ?_
  refine AW_getr (r := 81) ⟨gfRX0_42, rfl⟩ (pc2 := 14) rfl dX0_shareWater_11 q66 rfl ?_
  refine EW_iconst (pc2 := 15) (v := 0) rfl dX0_shareWater_14 (by decide) ?_
  refine AW_invS (M' := MJ7_fill_53178) [.ref 81, .int 0] (rest := []) mlRX0_375 okJ7_fill_53178 (pc2 := 18) rfl dX0_shareWater_15 rfl rfl (Nat.le_of_ble_eq_true rfl) (Nat.le_of_ble_eq_true rfl) (d' := 0) (by omega) (EW_mono (fun _ _ hr => ?_) (sJ7_fill_53178 81 6 0 q81 x1 _ _ 0 0 (Nat.le_refl _) h))
  obtain ⟨x2, rfl, rfl, h⟩ := hr
  refine EW_iconst (pc2 := 19) (v := 0) rfl dX0_shareWater_18 (by decide) ?_
  refine EW_istore_n (pc2 := 20) rfl dX0_shareWater_19 (by decide) [1, 0] [(0, .ref 66), (1, .int 0)] rfl ?_
  exact sX0_shareWater_20 0 x2 K d bc bs hdp h
theorem gfRX0_106 : ab_L RX0 106 3 7 := ⟨by decide, by decide, ab_in 189 (by decide +kernel) (by decide +kernel)⟩
abbrev MX0_witness : ab_M := (yX0_witness, cX0_witness, 2, none)
theorem dX0_witness_0 : decode cX0_witness 0 = .ok (.iconst 0, 1) := by decide +kernel
theorem dX0_witness_1 : decode cX0_witness 1 = .ok (.istore_n 1, 1) := by decide +kernel
theorem dX0_witness_2 : decode cX0_witness 2 = .ok (.iload_n 1, 1) := by decide +kernel
theorem dX0_witness_3 : decode cX0_witness 3 = .ok (.aload_n 0, 1) := by decide +kernel
theorem dX0_witness_4 : decode cX0_witness 4 = .ok (.getfield 81, 3) := by decide +kernel
theorem dX0_witness_7 : decode cX0_witness 7 = .ok (.if_icmp .ge 80, 3) := by decide +kernel
theorem dX0_witness_10 : decode cX0_witness 10 = .ok (.aload_n 0, 1) := by decide +kernel
theorem dX0_witness_11 : decode cX0_witness 11 = .ok (.getfield 49, 3) := by decide +kernel
theorem dX0_witness_14 : decode cX0_witness 14 = .ok (.getfield 100, 3) := by decide +kernel
theorem dX0_witness_17 : decode cX0_witness 17 = .ok (.getfield 106, 3) := by decide +kernel
theorem dX0_witness_20 : decode cX0_witness 20 = .ok (.ifCond .ne 67, 3) := by decide +kernel
theorem dX0_witness_23 : decode cX0_witness 23 = .ok (.aload_n 0, 1) := by decide +kernel
theorem dX0_witness_24 : decode cX0_witness 24 = .ok (.getfield 19, 3) := by decide +kernel
theorem dX0_witness_27 : decode cX0_witness 27 = .ok (.iload_n 1, 1) := by decide +kernel
theorem dX0_witness_28 : decode cX0_witness 28 = .ok (.aaload, 1) := by decide +kernel
theorem dX0_witness_29 : decode cX0_witness 29 = .ok (.getfield 84, 3) := by decide +kernel
theorem dX0_witness_32 : decode cX0_witness 32 = .ok (.ifCond .ne 49, 3) := by decide +kernel
theorem dX0_witness_35 : decode cX0_witness 35 = .ok (.aload_n 0, 1) := by decide +kernel
theorem dX0_witness_36 : decode cX0_witness 36 = .ok (.getfield 19, 3) := by decide +kernel
theorem dX0_witness_39 : decode cX0_witness 39 = .ok (.iload_n 1, 1) := by decide +kernel
theorem dX0_witness_40 : decode cX0_witness 40 = .ok (.aaload, 1) := by decide +kernel
theorem dX0_witness_41 : decode cX0_witness 41 = .ok (.getfield 112, 3) := by decide +kernel
theorem dX0_witness_44 : decode cX0_witness 44 = .ok (.ifCond .ne 37, 3) := by decide +kernel
theorem dX0_witness_47 : decode cX0_witness 47 = .ok (.aload_n 0, 1) := by decide +kernel
theorem dX0_witness_48 : decode cX0_witness 48 = .ok (.getfield 19, 3) := by decide +kernel
theorem dX0_witness_51 : decode cX0_witness 51 = .ok (.iload_n 1, 1) := by decide +kernel
theorem dX0_witness_52 : decode cX0_witness 52 = .ok (.aaload, 1) := by decide +kernel
theorem dX0_witness_53 : decode cX0_witness 53 = .ok (.aload_n 0, 1) := by decide +kernel
theorem dX0_witness_54 : decode cX0_witness 54 = .ok (.getfield 49, 3) := by decide +kernel
theorem dX0_witness_57 : decode cX0_witness 57 = .ok (.aload_n 0, 1) := by decide +kernel
theorem dX0_witness_58 : decode cX0_witness 58 = .ok (.getfield 19, 3) := by decide +kernel
theorem dX0_witness_61 : decode cX0_witness 61 = .ok (.iload_n 1, 1) := by decide +kernel
theorem dX0_witness_62 : decode cX0_witness 62 = .ok (.aaload, 1) := by decide +kernel
theorem dX0_witness_63 : decode cX0_witness 63 = .ok (.getfield 88, 3) := by decide +kernel
theorem dX0_witness_66 : decode cX0_witness 66 = .ok (.invokevirtual 115, 3) := by decide +kernel
theorem dX0_witness_69 : decode cX0_witness 69 = .ok (.iconst (-1), 1) := by decide +kernel
theorem dX0_witness_70 : decode cX0_witness 70 = .ok (.if_icmp .eq 7, 3) := by decide +kernel
theorem dX0_witness_73 : decode cX0_witness 73 = .ok (.iconst 1, 1) := by decide +kernel
theorem dX0_witness_74 : decode cX0_witness 74 = .ok (.goto 4, 3) := by decide +kernel
theorem dX0_witness_77 : decode cX0_witness 77 = .ok (.iconst 0, 1) := by decide +kernel
theorem dX0_witness_78 : decode cX0_witness 78 = .ok (.putfield 112, 3) := by decide +kernel
theorem dX0_witness_81 : decode cX0_witness 81 = .ok (.iinc 1 1, 3) := by decide +kernel
theorem dX0_witness_84 : decode cX0_witness 84 = .ok (.goto (-82), 3) := by decide +kernel
theorem dX0_witness_87 : decode cX0_witness 87 = .ok (.return_, 1) := by decide +kernel
theorem okX0_witness : ab_okM MX0_witness 0 := ⟨by decide, ⟨by decide, by decide⟩, ab_in 878 (by decide +kernel) (by decide +kernel), ab_in 92 (by decide +kernel) (by decide +kernel), by decide +kernel, by decide⟩
set_option maxHeartbeats 4000000 in
set_option maxRecDepth 100000 in
def lX0_witness_2  (K : ab_X → Prop)  (L2 : Int32 → ab_X → Prop) (v1 : Int32) (x : ab_X) : Prop := (((x.1 66 5) ≤ v1 → K x) ∧ (¬ (x.1 66 5) ≤ v1 → ((¬ (x.1 11 7) = 0 → K x) ∧ ((x.1 11 7) = 0 → (vp_in v1 60 ∧ ((¬ (x.1 (98 + Int32.toNatClampNeg v1) 2) = 0 → L2 (v1 + 1) x) ∧ ((x.1 (98 + Int32.toNatClampNeg v1) 2) = 0 → (vp_in v1 60 ∧ ((¬ (x.1 (98 + Int32.toNatClampNeg v1) 8) = 0 → L2 (v1 + 1) x) ∧ ((x.1 (98 + Int32.toNatClampNeg v1) 8) = 0 → (vp_in v1 60 ∧ vp_in v1 60 ∧ wX10_worstAt (x.1 (98 + Int32.toNatClampNeg v1) 0) x (fun r5 => ((r5 = (-1) → L2 (v1 + 1) (wr x (98 + Int32.toNatClampNeg v1) 8 0)) ∧ (¬ r5 = (-1) → L2 (v1 + 1) (wr x (98 + Int32.toNatClampNeg v1) 8 1)))))))))))))))
set_option maxHeartbeats 4000000 in
set_option maxRecDepth 100000 in
theorem sX0_witness_2 (v1 : Int32)  (x : ab_X) (K : ab_X → Prop)  (d bc bs : Nat) (hdp : 3 ≤ d)  (h : Lp2 (lX0_witness_2  K ) v1 x) : EW MX0_witness 2 [(0, .ref 66), (1, .int v1)] [] (aS x) d bc bs (liV K) := by
  refine Lp2.use (P := fun v1 x => EW MX0_witness 2 [(0, .ref 66), (1, .int v1)] [] (aS x) d bc bs (liV K)) (fun L2 v1 x hL2 h => ?_) v1 x h
  unfold lX0_witness_2 at h
  refine EW_iload_n (pc2 := 3) rfl dX0_witness_2 1 rfl ?_
  refine EW_aload_n (pc2 := 4) rfl dX0_witness_3 0 rfl ?_
  refine AW_geti ⟨gfRX0_81, rfl⟩ (pc2 := 7) rfl dX0_witness_4 q66 ?_
  refine EW_icmp_ge (tgt := 87) (pc2 := 10) rfl dX0_witness_7 (by decide) (fun q => ?_) (fun q => ?_)
  · replace h := h.1 q
    exact EW_vret rfl dX0_witness_87 ⟨_, rfl, rfl, h⟩
  · replace h := h.2 q
    refine EW_aload_n (pc2 := 11) rfl dX0_witness_10 0 rfl ?_
    refine AW_getr (r := 9) ⟨gfRX0_49, rfl⟩ (pc2 := 14) rfl dX0_witness_11 q66 rfl ?_
    refine AW_getr (r := 11) ⟨gfRX0_100, rfl⟩ (pc2 := 17) rfl dX0_witness_14 q9 rfl ?_
    refine AW_geti ⟨gfRX0_106, rfl⟩ (pc2 := 20) rfl dX0_witness_17 q11 ?_
    refine EW_if_ne (tgt := 87) (pc2 := 23) rfl dX0_witness_20 (by decide) (fun q => ?_) (fun q => ?_)
    · replace h := h.1 q
      exact EW_vret rfl dX0_witness_87 ⟨_, rfl, rfl, h⟩
    · replace h := h.2 q
      refine EW_aload_n (pc2 := 24) rfl dX0_witness_23 0 rfl ?_
      refine AW_getr (r := 68) ⟨gfRX0_19, rfl⟩ (pc2 := 27) rfl dX0_witness_24 q66 rfl ?_
      refine EW_iload_n (pc2 := 28) rfl dX0_witness_27 1 rfl ?_
      obtain ⟨b1, h⟩ := h
      refine AW_aald7 (pc2 := 29) rfl dX0_witness_28 b1 ?_
      refine AW_geti ⟨gfRX0_84, rfl⟩ (pc2 := 32) rfl dX0_witness_29 (isK.o (isK_of b1)) ?_
      refine EW_if_ne (tgt := 81) (pc2 := 35) rfl dX0_witness_32 (by decide) (fun q => ?_) (fun q => ?_)
      · replace h := h.1 q
        refine EW_iinc (v1 + 1) (pc2 := 84) rfl dX0_witness_81 1 rfl rfl (by decide) [1, 0] [(0, .ref 66), (1, .int (v1 + 1))] rfl ?_
        refine EW_goto (tgt := 2) dX0_witness_84 (by decide) ?_
        exact hL2 (v1 + 1) x h
      · replace h := h.2 q
        refine EW_aload_n (pc2 := 36) rfl dX0_witness_35 0 rfl ?_
        refine AW_getr (r := 68) ⟨gfRX0_19, rfl⟩ (pc2 := 39) rfl dX0_witness_36 q66 rfl ?_
        refine EW_iload_n (pc2 := 40) rfl dX0_witness_39 1 rfl ?_
        obtain ⟨b2, h⟩ := h
        refine AW_aald7 (pc2 := 41) rfl dX0_witness_40 b2 ?_
        refine AW_geti ⟨gfRX0_112, rfl⟩ (pc2 := 44) rfl dX0_witness_41 (isK.o (isK_of b2)) ?_
        refine EW_if_ne (tgt := 81) (pc2 := 47) rfl dX0_witness_44 (by decide) (fun q => ?_) (fun q => ?_)
        · replace h := h.1 q
          refine EW_iinc (v1 + 1) (pc2 := 84) rfl dX0_witness_81 1 rfl rfl (by decide) [1, 0] [(0, .ref 66), (1, .int (v1 + 1))] rfl ?_
          refine EW_goto (tgt := 2) dX0_witness_84 (by decide) ?_
          exact hL2 (v1 + 1) x h
        · replace h := h.2 q
          refine EW_aload_n (pc2 := 48) rfl dX0_witness_47 0 rfl ?_
          refine AW_getr (r := 68) ⟨gfRX0_19, rfl⟩ (pc2 := 51) rfl dX0_witness_48 q66 rfl ?_
          refine EW_iload_n (pc2 := 52) rfl dX0_witness_51 1 rfl ?_
          obtain ⟨b3, h⟩ := h
          refine AW_aald7 (pc2 := 53) rfl dX0_witness_52 b3 ?_
          refine EW_aload_n (pc2 := 54) rfl dX0_witness_53 0 rfl ?_
          refine AW_getr (r := 9) ⟨gfRX0_49, rfl⟩ (pc2 := 57) rfl dX0_witness_54 q66 rfl ?_
          refine EW_aload_n (pc2 := 58) rfl dX0_witness_57 0 rfl ?_
          refine AW_getr (r := 68) ⟨gfRX0_19, rfl⟩ (pc2 := 61) rfl dX0_witness_58 q66 rfl ?_
          refine EW_iload_n (pc2 := 62) rfl dX0_witness_61 1 rfl ?_
          obtain ⟨b4, h⟩ := h
          refine AW_aald7 (pc2 := 63) rfl dX0_witness_62 b4 ?_
          refine AW_geti ⟨gfRX0_88, rfl⟩ (pc2 := 66) rfl dX0_witness_63 (isK.o (isK_of b4)) ?_
          refine AW_invV (M' := MX10_worstAt) [.int (x.1 (98 + Int32.toNatClampNeg v1) 0)] (rest := [.ref (98 + Int32.toNatClampNeg v1)]) mlRX0_115 okX10_worstAt (pc2 := 69) rfl dX0_witness_66 rfl rfl (Nat.le_of_ble_eq_true rfl) (Nat.le_of_ble_eq_true rfl) (d' := 2) (by omega) q9 ⟨by decide, rfl⟩ (EW_mono (fun _ _ hr => ?_) (sX10_worstAt (x.1 (98 + Int32.toNatClampNeg v1) 0)  x _ _ 0 0 (Nat.le_refl _) h))
          obtain ⟨r5, rfl, rfl, h⟩ := hr
          refine EW_iconst (pc2 := 70) (v := (-1)) rfl dX0_witness_69 (by decide) ?_
          refine EW_icmp_eq (tgt := 77) (pc2 := 73) rfl dX0_witness_70 (by decide) (fun q => ?_) (fun q => ?_)
          · replace h := h.1 q
            refine EW_iconst (pc2 := 78) (v := 0) rfl dX0_witness_77 (by decide) ?_
            refine AW_putz ⟨gfRX0_112, rfl, rfl⟩ isB0 (pc2 := 81) rfl dX0_witness_78 (isK.o (isK_of b3)) ?_
            refine EW_iinc (v1 + 1) (pc2 := 84) rfl dX0_witness_81 1 rfl rfl (by decide) [1, 0] [(0, .ref 66), (1, .int (v1 + 1))] rfl ?_
            refine EW_goto (tgt := 2) dX0_witness_84 (by decide) ?_
            exact hL2 (v1 + 1) (wr x (98 + Int32.toNatClampNeg v1) 8 0) h
          · replace h := h.2 q
            refine EW_iconst (pc2 := 74) (v := 1) rfl dX0_witness_73 (by decide) ?_
            refine EW_goto (tgt := 78) dX0_witness_74 (by decide) ?_
            refine AW_putz ⟨gfRX0_112, rfl, rfl⟩ isB1 (pc2 := 81) rfl dX0_witness_78 (isK.o (isK_of b3)) ?_
            refine EW_iinc (v1 + 1) (pc2 := 84) rfl dX0_witness_81 1 rfl rfl (by decide) [1, 0] [(0, .ref 66), (1, .int (v1 + 1))] rfl ?_
            refine EW_goto (tgt := 2) dX0_witness_84 (by decide) ?_
            exact hL2 (v1 + 1) (wr x (98 + Int32.toNatClampNeg v1) 8 1) h
set_option maxHeartbeats 4000000 in
set_option maxRecDepth 100000 in
def wX0_witness  (x : ab_X) (K : ab_X → Prop) : Prop := Lp2 (lX0_witness_2 K ) 0 x
set_option maxHeartbeats 4000000 in
set_option maxRecDepth 100000 in
theorem sX0_witness   (x : ab_X) (K : ab_X → Prop) (d bc bs : Nat) (hdp : 3 ≤ d) (h : wX0_witness  x K) : EW MX0_witness 0 [(0, .ref 66)] [] (aS x) d bc bs (liV K) := by
  unfold wX0_witness at h
  refine EW_iconst (pc2 := 1) (v := 0) rfl dX0_witness_0 (by decide) ?_
  refine EW_istore_n (pc2 := 2) rfl dX0_witness_1 (by decide) [1, 0] [(0, .ref 66), (1, .int 0)] rfl ?_
  exact sX0_witness_2 0 x K d bc bs hdp h
theorem gfRX0_293 : ab_L RX0 293 4 13 := ⟨by decide, by decide, ab_in 263 (by decide +kernel) (by decide +kernel)⟩
theorem mmRX0_290 : Cond.methodLink RX0 290 Lib.Math.min.name ∈ ab_G ∧ Cond.static Lib.Math.min.name ∈ ab_G ∧ Cond.initialized "java/lang/Math" ∈ ab_G ∧ Cond.code Lib.Math.min.name Lib.Math.min.code 2 (some .int) ∈ ab_G := ⟨ab_in 1395 (by decide +kernel) (by decide +kernel), ab_in 787 (by decide +kernel) (by decide +kernel), ab_in 100 (by decide +kernel) (by decide +kernel), ab_in 788 (by decide +kernel) (by decide +kernel)⟩
theorem gfRX0_300 : ab_L RX0 300 4 14 := ⟨by decide, by decide, ab_in 266 (by decide +kernel) (by decide +kernel)⟩
abbrev MX0_takeOut : ab_M := (yX0_takeOut, cX0_takeOut, 5, none)
theorem dX0_takeOut_0 : decode cX0_takeOut 0 = .ok (.aload_n 2, 1) := by decide +kernel
theorem dX0_takeOut_1 : decode cX0_takeOut 1 = .ok (.getfield 155, 3) := by decide +kernel
theorem dX0_takeOut_4 : decode cX0_takeOut 4 = .ok (.aload_n 1, 1) := by decide +kernel
theorem dX0_takeOut_5 : decode cX0_takeOut 5 = .ok (.getfield 287, 3) := by decide +kernel
theorem dX0_takeOut_8 : decode cX0_takeOut 8 = .ok (.invokestatic 290, 3) := by decide +kernel
theorem dX0_takeOut_11 : decode cX0_takeOut 11 = .ok (.iconst 1, 1) := by decide +kernel
theorem dX0_takeOut_12 : decode cX0_takeOut 12 = .ok (.isub, 1) := by decide +kernel
theorem dX0_takeOut_13 : decode cX0_takeOut 13 = .ok (.istore_n 3, 1) := by decide +kernel
theorem dX0_takeOut_14 : decode cX0_takeOut 14 = .ok (.iload_n 3, 1) := by decide +kernel
theorem dX0_takeOut_15 : decode cX0_takeOut 15 = .ok (.ifCond .lt 68, 3) := by decide +kernel
theorem dX0_takeOut_18 : decode cX0_takeOut 18 = .ok (.aload_n 2, 1) := by decide +kernel
theorem dX0_takeOut_19 : decode cX0_takeOut 19 = .ok (.getfield 293, 3) := by decide +kernel
theorem dX0_takeOut_22 : decode cX0_takeOut 22 = .ok (.iload_n 3, 1) := by decide +kernel
theorem dX0_takeOut_23 : decode cX0_takeOut 23 = .ok (.iaload, 1) := by decide +kernel
theorem dX0_takeOut_24 : decode cX0_takeOut 24 = .ok (.ifCond .le 53, 3) := by decide +kernel
theorem dX0_takeOut_27 : decode cX0_takeOut 27 = .ok (.aload_n 0, 1) := by decide +kernel
theorem dX0_takeOut_28 : decode cX0_takeOut 28 = .ok (.getfield 49, 3) := by decide +kernel
theorem dX0_takeOut_31 : decode cX0_takeOut 31 = .ok (.getfield 100, 3) := by decide +kernel
theorem dX0_takeOut_34 : decode cX0_takeOut 34 = .ok (.aload_n 2, 1) := by decide +kernel
theorem dX0_takeOut_35 : decode cX0_takeOut 35 = .ok (.iload_n 3, 1) := by decide +kernel
theorem dX0_takeOut_36 : decode cX0_takeOut 36 = .ok (.invokevirtual 296, 3) := by decide +kernel
theorem dX0_takeOut_39 : decode cX0_takeOut 39 = .ok (.ifCond .ne 38, 3) := by decide +kernel
theorem dX0_takeOut_42 : decode cX0_takeOut 42 = .ok (.iconst 2, 1) := by decide +kernel
theorem dX0_takeOut_43 : decode cX0_takeOut 43 = .ok (.aload_n 2, 1) := by decide +kernel
theorem dX0_takeOut_44 : decode cX0_takeOut 44 = .ok (.getfield 293, 3) := by decide +kernel
theorem dX0_takeOut_47 : decode cX0_takeOut 47 = .ok (.iload_n 3, 1) := by decide +kernel
theorem dX0_takeOut_48 : decode cX0_takeOut 48 = .ok (.iaload, 1) := by decide +kernel
theorem dX0_takeOut_49 : decode cX0_takeOut 49 = .ok (.invokestatic 290, 3) := by decide +kernel
theorem dX0_takeOut_52 : decode cX0_takeOut 52 = .ok (.istore 4, 2) := by decide +kernel
theorem dX0_takeOut_54 : decode cX0_takeOut 54 = .ok (.aload_n 2, 1) := by decide +kernel
theorem dX0_takeOut_55 : decode cX0_takeOut 55 = .ok (.getfield 293, 3) := by decide +kernel
theorem dX0_takeOut_58 : decode cX0_takeOut 58 = .ok (.iload_n 3, 1) := by decide +kernel
theorem dX0_takeOut_59 : decode cX0_takeOut 59 = .ok (.dup2, 1) := by decide +kernel
theorem dX0_takeOut_60 : decode cX0_takeOut 60 = .ok (.iaload, 1) := by decide +kernel
theorem dX0_takeOut_61 : decode cX0_takeOut 61 = .ok (.iload 4, 2) := by decide +kernel
theorem dX0_takeOut_63 : decode cX0_takeOut 63 = .ok (.isub, 1) := by decide +kernel
theorem dX0_takeOut_64 : decode cX0_takeOut 64 = .ok (.iastore, 1) := by decide +kernel
theorem dX0_takeOut_65 : decode cX0_takeOut 65 = .ok (.aload_n 2, 1) := by decide +kernel
theorem dX0_takeOut_66 : decode cX0_takeOut 66 = .ok (.dup, 1) := by decide +kernel
theorem dX0_takeOut_67 : decode cX0_takeOut 67 = .ok (.getfield 300, 3) := by decide +kernel
theorem dX0_takeOut_70 : decode cX0_takeOut 70 = .ok (.iload 4, 2) := by decide +kernel
theorem dX0_takeOut_72 : decode cX0_takeOut 72 = .ok (.iadd, 1) := by decide +kernel
theorem dX0_takeOut_73 : decode cX0_takeOut 73 = .ok (.putfield 300, 3) := by decide +kernel
theorem dX0_takeOut_76 : decode cX0_takeOut 76 = .ok (.return_, 1) := by decide +kernel
theorem dX0_takeOut_77 : decode cX0_takeOut 77 = .ok (.iinc 3 (-1), 3) := by decide +kernel
theorem dX0_takeOut_80 : decode cX0_takeOut 80 = .ok (.goto (-66), 3) := by decide +kernel
theorem dX0_takeOut_83 : decode cX0_takeOut 83 = .ok (.return_, 1) := by decide +kernel
theorem okX0_takeOut : ab_okM MX0_takeOut 2 := ⟨by decide, ⟨by decide, by decide⟩, ab_in 1394 (by decide +kernel) (by decide +kernel), ab_in 92 (by decide +kernel) (by decide +kernel), by decide +kernel, by decide⟩
set_option maxHeartbeats 4000000 in
set_option maxRecDepth 100000 in
def lX0_takeOut_14 (v2 : Nat) (x : ab_X) (K : ab_X → Prop)  (L14 : Int32 → Prop) (v3 : Int32) : Prop := ((v3 < 0 → K x) ∧ (¬ v3 < 0 → (vp_in v3 6 ∧ (((x.1 (v2 + 2) (Int32.toNatClampNeg v3)) ≤ 0 → L14 (v3 + (-1))) ∧ (¬ (x.1 (v2 + 2) (Int32.toNatClampNeg v3)) ≤ 0 → wX3_hasFallen 11 v2 v3 x (fun r2 => ((¬ r2 = 0 → L14 (v3 + (-1))) ∧ (r2 = 0 → (vp_in v3 6 ∧ vp_in v3 6 ∧ vp_in v3 6 ∧ K (wr (wr x (v2 + 2) (Int32.toNatClampNeg v3) ((x.1 (v2 + 2) (Int32.toNatClampNeg v3)) - (imin 2 (x.1 (v2 + 2) (Int32.toNatClampNeg v3))))) v2 14 (((wr x (v2 + 2) (Int32.toNatClampNeg v3) ((x.1 (v2 + 2) (Int32.toNatClampNeg v3)) - (imin 2 (x.1 (v2 + 2) (Int32.toNatClampNeg v3))))).1 v2 14) + (imin 2 (x.1 (v2 + 2) (Int32.toNatClampNeg v3))))))))))))))
set_option maxHeartbeats 4000000 in
set_option maxRecDepth 100000 in
theorem sX0_takeOut_14 (v2 : Nat) (v3 : Int32) (hv2 : isH v2) (x : ab_X) (K : ab_X → Prop)  (d bc bs : Nat) (hdp : 2 ≤ d)  (h : Lp1 (lX0_takeOut_14 v2 x K ) v3) : EW MX0_takeOut 14 [(0, .ref 66), (2, .ref v2), (3, .int v3)] [] (aS x) d bc bs (liV K) := by
  refine Lp1.use (P := fun v3 => EW MX0_takeOut 14 [(0, .ref 66), (2, .ref v2), (3, .int v3)] [] (aS x) d bc bs (liV K)) (fun L14 v3 hL14 h => ?_) v3 h
  unfold lX0_takeOut_14 at h
  refine EW_iload_n (pc2 := 15) rfl dX0_takeOut_14 2 rfl ?_
  refine EW_if_lt (tgt := 83) (pc2 := 18) rfl dX0_takeOut_15 (by decide) (fun q => ?_) (fun q => ?_)
  · replace h := h.1 q
    exact EW_vret rfl dX0_takeOut_83 ⟨_, rfl, rfl, h⟩
  · replace h := h.2 q
    refine EW_aload_n (pc2 := 19) rfl dX0_takeOut_18 1 rfl ?_
    refine AW_getr (r := (v2 + 2)) ⟨gfRX0_293, rfl⟩ (pc2 := 22) rfl dX0_takeOut_19 (isH.o hv2) (isH.r2 hv2) ?_
    refine EW_iload_n (pc2 := 23) rfl dX0_takeOut_22 2 rfl ?_
    obtain ⟨b1, h⟩ := h
    refine AW_iald (pc2 := 24) rfl dX0_takeOut_23 (isH.a2 hv2) b1 ?_
    refine EW_if_le (tgt := 77) (pc2 := 27) rfl dX0_takeOut_24 (by decide) (fun q => ?_) (fun q => ?_)
    · replace h := h.1 q
      refine EW_iinc (v3 + (-1)) (pc2 := 80) rfl dX0_takeOut_77 2 rfl rfl (by decide) [1, 2, 0] [(0, .ref 66), (2, .ref v2), (3, .int (v3 + (-1)))] rfl ?_
      refine EW_goto (tgt := 14) dX0_takeOut_80 (by decide) ?_
      exact hL14 (v3 + (-1)) h
    · replace h := h.2 q
      refine EW_aload_n (pc2 := 28) rfl dX0_takeOut_27 0 rfl ?_
      refine AW_getr (r := 9) ⟨gfRX0_49, rfl⟩ (pc2 := 31) rfl dX0_takeOut_28 q66 rfl ?_
      refine AW_getr (r := 11) ⟨gfRX0_100, rfl⟩ (pc2 := 34) rfl dX0_takeOut_31 q9 rfl ?_
      refine EW_aload_n (pc2 := 35) rfl dX0_takeOut_34 1 rfl ?_
      refine EW_iload_n (pc2 := 36) rfl dX0_takeOut_35 2 rfl ?_
      refine AW_invV (M' := MX3_hasFallen) [.ref v2, .int v3] (rest := []) mlRX0_296 okX3_hasFallen (pc2 := 39) rfl dX0_takeOut_36 rfl rfl (Nat.le_of_ble_eq_true rfl) (Nat.le_of_ble_eq_true rfl) (d' := 1) (by omega) q11 ⟨by decide, rfl⟩ (EW_mono (fun _ _ hr => ?_) (sX3_hasFallen 11 v2 v3 (Or.inl rfl : isF 11) hv2 x _ _ 0 0 (Nat.le_refl _) h))
      obtain ⟨r2, rfl, rfl, h⟩ := hr
      refine EW_if_ne (tgt := 77) (pc2 := 42) rfl dX0_takeOut_39 (by decide) (fun q => ?_) (fun q => ?_)
      · replace h := h.1 q
        refine EW_iinc (v3 + (-1)) (pc2 := 80) rfl dX0_takeOut_77 2 rfl rfl (by decide) [1, 2, 0] [(0, .ref 66), (2, .ref v2), (3, .int (v3 + (-1)))] rfl ?_
        refine EW_goto (tgt := 14) dX0_takeOut_80 (by decide) ?_
        exact hL14 (v3 + (-1)) h
      · replace h := h.2 q
        refine EW_iconst (pc2 := 43) (v := 2) rfl dX0_takeOut_42 (by decide) ?_
        refine EW_aload_n (pc2 := 44) rfl dX0_takeOut_43 1 rfl ?_
        refine AW_getr (r := (v2 + 2)) ⟨gfRX0_293, rfl⟩ (pc2 := 47) rfl dX0_takeOut_44 (isH.o hv2) (isH.r2 hv2) ?_
        refine EW_iload_n (pc2 := 48) rfl dX0_takeOut_47 2 rfl ?_
        obtain ⟨b3, h⟩ := h
        refine AW_iald (pc2 := 49) rfl dX0_takeOut_48 (isH.a2 hv2) b3 ?_
        refine AW_mmin mmRX0_290 (pc2 := 52) rfl dX0_takeOut_49 (Nat.le_of_ble_eq_true rfl) (by omega) ?_
        refine EW_istore (pc2 := 54) rfl dX0_takeOut_52 (by decide) [1, 2, 3, 0] [(0, .ref 66), (2, .ref v2), (3, .int v3), (4, .int (imin 2 (x.1 (v2 + 2) (Int32.toNatClampNeg v3))))] rfl ?_
        refine EW_aload_n (pc2 := 55) rfl dX0_takeOut_54 1 rfl ?_
        refine AW_getr (r := (v2 + 2)) ⟨gfRX0_293, rfl⟩ (pc2 := 58) rfl dX0_takeOut_55 (isH.o hv2) (isH.r2 hv2) ?_
        refine EW_iload_n (pc2 := 59) rfl dX0_takeOut_58 2 rfl ?_
        refine EW_dup2 (pc2 := 60) rfl dX0_takeOut_59 rfl rfl ?_
        obtain ⟨b4, h⟩ := h
        refine AW_iald (pc2 := 61) rfl dX0_takeOut_60 (isH.a2 hv2) b4 ?_
        refine EW_iload (pc2 := 63) rfl dX0_takeOut_61 3 rfl ?_
        refine EW_isub (pc2 := 64) rfl dX0_takeOut_63 ?_
        obtain ⟨b5, h⟩ := h
        refine AW_iast (pc2 := 65) rfl dX0_takeOut_64 (isH.a2 hv2) b5 ?_
        refine EW_aload_n (pc2 := 66) rfl dX0_takeOut_65 1 rfl ?_
        refine EW_dup (pc2 := 67) rfl dX0_takeOut_66 rfl ?_
        refine AW_geti ⟨gfRX0_300, rfl⟩ (pc2 := 70) rfl dX0_takeOut_67 (isH.o hv2) ?_
        refine EW_iload (pc2 := 72) rfl dX0_takeOut_70 3 rfl ?_
        refine EW_iadd (pc2 := 73) rfl dX0_takeOut_72 ?_
        refine AW_puti ⟨gfRX0_300, rfl, rfl⟩ (pc2 := 76) rfl dX0_takeOut_73 (isH.o hv2) ?_
        exact EW_vret rfl dX0_takeOut_76 ⟨_, rfl, rfl, h⟩
set_option maxHeartbeats 4000000 in
set_option maxRecDepth 100000 in
def wX0_takeOut (v1 : Nat) (v2 : Nat) (x : ab_X) (K : ab_X → Prop) : Prop := Lp1 (lX0_takeOut_14 v2 x K ) ((imin (x.1 v2 3) (x.1 v1 5)) - 1)
set_option maxHeartbeats 4000000 in
set_option maxRecDepth 100000 in
theorem sX0_takeOut (v1 : Nat) (v2 : Nat) (hv1 : isW v1) (hv2 : isH v2) (x : ab_X) (K : ab_X → Prop) (d bc bs : Nat) (hdp : 2 ≤ d) (h : wX0_takeOut v1 v2 x K) : EW MX0_takeOut 0 [(0, .ref 66), (1, .ref v1), (2, .ref v2)] [] (aS x) d bc bs (liV K) := by
  unfold wX0_takeOut at h
  refine EW_aload_n (pc2 := 1) rfl dX0_takeOut_0 2 rfl ?_
  refine AW_geti ⟨gfRX0_155, rfl⟩ (pc2 := 4) rfl dX0_takeOut_1 (isH.o hv2) ?_
  refine EW_aload_n (pc2 := 5) rfl dX0_takeOut_4 1 rfl ?_
  refine AW_geti ⟨gfRX0_287, rfl⟩ (pc2 := 8) rfl dX0_takeOut_5 (isW.o hv1) ?_
  refine AW_mmin mmRX0_290 (pc2 := 11) rfl dX0_takeOut_8 (Nat.le_of_ble_eq_true rfl) (by omega) ?_
  refine EW_iconst (pc2 := 12) (v := 1) rfl dX0_takeOut_11 (by decide) ?_
  refine EW_isub (pc2 := 13) rfl dX0_takeOut_12 ?_
  refine EW_istore_n (pc2 := 14) rfl dX0_takeOut_13 (by decide) [1, 2, 3, 0] [(0, .ref 66), (1, .ref v1), (2, .ref v2), (3, .int ((imin (x.1 v2 3) (x.1 v1 5)) - 1))] rfl ?_
  refine EW_ls [0, 2, 3] rfl ?_
  exact sX0_takeOut_14 v2 ((imin (x.1 v2 3) (x.1 v1 5)) - 1) hv2 x K d bc bs hdp h
theorem gfRX2_72 : ab_L RX2 72 2 16 := ⟨by decide, by decide, ab_in 450 (by decide +kernel) (by decide +kernel)⟩
theorem gfRX2_75 : ab_L RX2 75 2 17 := ⟨by decide, by decide, ab_in 453 (by decide +kernel) (by decide +kernel)⟩
theorem gfRX2_24 : ab_L RX2 24 2 18 := ⟨by decide, by decide, ab_in 455 (by decide +kernel) (by decide +kernel)⟩
theorem gfRX2_27 : ab_L RX2 27 2 19 := ⟨by decide, by decide, ab_in 457 (by decide +kernel) (by decide +kernel)⟩
abbrev MX2_beginMinute : ab_M := (yX2_beginMinute, cX2_beginMinute, 1, none)
theorem dX2_beginMinute_0 : decode cX2_beginMinute 0 = .ok (.aload_n 0, 1) := by decide +kernel
theorem dX2_beginMinute_1 : decode cX2_beginMinute 1 = .ok (.iconst 0, 1) := by decide +kernel
theorem dX2_beginMinute_2 : decode cX2_beginMinute 2 = .ok (.putfield 72, 3) := by decide +kernel
theorem dX2_beginMinute_5 : decode cX2_beginMinute 5 = .ok (.aload_n 0, 1) := by decide +kernel
theorem dX2_beginMinute_6 : decode cX2_beginMinute 6 = .ok (.iconst 0, 1) := by decide +kernel
theorem dX2_beginMinute_7 : decode cX2_beginMinute 7 = .ok (.putfield 75, 3) := by decide +kernel
theorem dX2_beginMinute_10 : decode cX2_beginMinute 10 = .ok (.aload_n 0, 1) := by decide +kernel
theorem dX2_beginMinute_11 : decode cX2_beginMinute 11 = .ok (.iconst (-1), 1) := by decide +kernel
theorem dX2_beginMinute_12 : decode cX2_beginMinute 12 = .ok (.putfield 21, 3) := by decide +kernel
theorem dX2_beginMinute_15 : decode cX2_beginMinute 15 = .ok (.aload_n 0, 1) := by decide +kernel
theorem dX2_beginMinute_16 : decode cX2_beginMinute 16 = .ok (.iconst (-1), 1) := by decide +kernel
theorem dX2_beginMinute_17 : decode cX2_beginMinute 17 = .ok (.putfield 24, 3) := by decide +kernel
theorem dX2_beginMinute_20 : decode cX2_beginMinute 20 = .ok (.aload_n 0, 1) := by decide +kernel
theorem dX2_beginMinute_21 : decode cX2_beginMinute 21 = .ok (.iconst (-1), 1) := by decide +kernel
theorem dX2_beginMinute_22 : decode cX2_beginMinute 22 = .ok (.putfield 27, 3) := by decide +kernel
theorem dX2_beginMinute_25 : decode cX2_beginMinute 25 = .ok (.return_, 1) := by decide +kernel
theorem okX2_beginMinute : ab_okM MX2_beginMinute 0 := ⟨by decide, ⟨by decide, by decide⟩, ab_in 1390 (by decide +kernel) (by decide +kernel), ab_in 94 (by decide +kernel) (by decide +kernel), by decide +kernel, by decide⟩
set_option maxHeartbeats 4000000 in
set_option maxRecDepth 100000 in
def wX2_beginMinute (v0 : Nat) (x : ab_X) (K : ab_X → Prop) : Prop := K (wr (wr (wr (wr (wr x v0 16 0) v0 17 0) v0 13 (-1)) v0 18 (-1)) v0 19 (-1))
set_option maxHeartbeats 4000000 in
set_option maxRecDepth 100000 in
theorem sX2_beginMinute (v0 : Nat) (hv0 : isW v0) (x : ab_X) (K : ab_X → Prop) (d bc bs : Nat) (hdp : 0 ≤ d) (h : wX2_beginMinute v0 x K) : EW MX2_beginMinute 0 [(0, .ref v0)] [] (aS x) d bc bs (liV K) := by
  unfold wX2_beginMinute at h
  refine EW_aload_n (pc2 := 1) rfl dX2_beginMinute_0 0 rfl ?_
  refine EW_iconst (pc2 := 2) (v := 0) rfl dX2_beginMinute_1 (by decide) ?_
  refine AW_puti ⟨gfRX2_72, rfl, rfl⟩ (pc2 := 5) rfl dX2_beginMinute_2 (isW.o hv0) ?_
  refine EW_aload_n (pc2 := 6) rfl dX2_beginMinute_5 0 rfl ?_
  refine EW_iconst (pc2 := 7) (v := 0) rfl dX2_beginMinute_6 (by decide) ?_
  refine AW_puti ⟨gfRX2_75, rfl, rfl⟩ (pc2 := 10) rfl dX2_beginMinute_7 (isW.o hv0) ?_
  refine EW_aload_n (pc2 := 11) rfl dX2_beginMinute_10 0 rfl ?_
  refine EW_iconst (pc2 := 12) (v := (-1)) rfl dX2_beginMinute_11 (by decide) ?_
  refine AW_puti ⟨gfRX2_21, rfl, rfl⟩ (pc2 := 15) rfl dX2_beginMinute_12 (isW.o hv0) ?_
  refine EW_aload_n (pc2 := 16) rfl dX2_beginMinute_15 0 rfl ?_
  refine EW_iconst (pc2 := 17) (v := (-1)) rfl dX2_beginMinute_16 (by decide) ?_
  refine AW_puti ⟨gfRX2_24, rfl, rfl⟩ (pc2 := 20) rfl dX2_beginMinute_17 (isW.o hv0) ?_
  refine EW_aload_n (pc2 := 21) rfl dX2_beginMinute_20 0 rfl ?_
  refine EW_iconst (pc2 := 22) (v := (-1)) rfl dX2_beginMinute_21 (by decide) ?_
  refine AW_puti ⟨gfRX2_27, rfl, rfl⟩ (pc2 := 25) rfl dX2_beginMinute_22 (isW.o hv0) ?_
  exact EW_vret rfl dX2_beginMinute_25 ⟨_, rfl, rfl, h⟩
