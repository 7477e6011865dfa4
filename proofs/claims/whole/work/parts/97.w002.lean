theorem mlRX10_48 : Cond.methodLinkNest RX10 48 yX11_below "CityBrigade" ∈ tables_1.filter ab_isN ∧ Cond.static yX11_below ∈ ab_G := ⟨List.mem_filter.mpr ⟨List.mem_of_getElem? (i := 752) (by decide +kernel), rfl⟩, ab_in 794 (by decide +kernel) (by decide +kernel)⟩
theorem gfRX10_62 : ab_L RX10 62 4 1 := ⟨by decide, by decide, ab_in 218 (by decide +kernel) (by decide +kernel)⟩
theorem gfRX10_56 : ab_L RX10 56 4 3 := ⟨by decide, by decide, ab_in 225 (by decide +kernel) (by decide +kernel)⟩
theorem mmRX10_84 : Cond.methodLink RX10 84 Lib.Math.min.name ∈ ab_G ∧ Cond.static Lib.Math.min.name ∈ ab_G ∧ Cond.initialized "java/lang/Math" ∈ ab_G ∧ Cond.code Lib.Math.min.name Lib.Math.min.code 2 (some .int) ∈ ab_G := ⟨ab_in 1038 (by decide +kernel) (by decide +kernel), ab_in 787 (by decide +kernel) (by decide +kernel), ab_in 100 (by decide +kernel) (by decide +kernel), ab_in 788 (by decide +kernel) (by decide +kernel)⟩
abbrev MX10_topFloor : ab_M := (yX10_topFloor, cX10_topFloor, 5, (some .int))
theorem dX10_topFloor_0 : decode cX10_topFloor 0 = .ok (.iload_n 2, 1) := by decide +kernel
theorem dX10_topFloor_1 : decode cX10_topFloor 1 = .ok (.aload_n 0, 1) := by decide +kernel
theorem dX10_topFloor_2 : decode cX10_topFloor 2 = .ok (.getfield 74, 3) := by decide +kernel
theorem dX10_topFloor_5 : decode cX10_topFloor 5 = .ok (.invokestatic 48, 3) := by decide +kernel
theorem dX10_topFloor_8 : decode cX10_topFloor 8 = .ok (.ifCond .ne 5, 3) := by decide +kernel
theorem dX10_topFloor_11 : decode cX10_topFloor 11 = .ok (.iconst (-1), 1) := by decide +kernel
theorem dX10_topFloor_12 : decode cX10_topFloor 12 = .ok (.ireturn, 1) := by decide +kernel
theorem dX10_topFloor_13 : decode cX10_topFloor 13 = .ok (.iload_n 3, 1) := by decide +kernel
theorem dX10_topFloor_14 : decode cX10_topFloor 14 = .ok (.aload_n 0, 1) := by decide +kernel
theorem dX10_topFloor_15 : decode cX10_topFloor 15 = .ok (.getfield 37, 3) := by decide +kernel
theorem dX10_topFloor_18 : decode cX10_topFloor 18 = .ok (.aload_n 0, 1) := by decide +kernel
theorem dX10_topFloor_19 : decode cX10_topFloor 19 = .ok (.getfield 31, 3) := by decide +kernel
theorem dX10_topFloor_22 : decode cX10_topFloor 22 = .ok (.iload_n 2, 1) := by decide +kernel
theorem dX10_topFloor_23 : decode cX10_topFloor 23 = .ok (.iaload, 1) := by decide +kernel
theorem dX10_topFloor_24 : decode cX10_topFloor 24 = .ok (.aload_n 1, 1) := by decide +kernel
theorem dX10_topFloor_25 : decode cX10_topFloor 25 = .ok (.getfield 62, 3) := by decide +kernel
theorem dX10_topFloor_28 : decode cX10_topFloor 28 = .ok (.invokevirtual 78, 3) := by decide +kernel
theorem dX10_topFloor_31 : decode cX10_topFloor 31 = .ok (.bipush 100, 2) := by decide +kernel
theorem dX10_topFloor_33 : decode cX10_topFloor 33 = .ok (.imul, 1) := by decide +kernel
theorem dX10_topFloor_34 : decode cX10_topFloor 34 = .ok (.isub, 1) := by decide +kernel
theorem dX10_topFloor_35 : decode cX10_topFloor 35 = .ok (.istore 4, 2) := by decide +kernel
theorem dX10_topFloor_37 : decode cX10_topFloor 37 = .ok (.iload 4, 2) := by decide +kernel
theorem dX10_topFloor_39 : decode cX10_topFloor 39 = .ok (.bipush 20, 2) := by decide +kernel
theorem dX10_topFloor_41 : decode cX10_topFloor 41 = .ok (.if_icmp .ge 7, 3) := by decide +kernel
theorem dX10_topFloor_44 : decode cX10_topFloor 44 = .ok (.iconst (-1), 1) := by decide +kernel
theorem dX10_topFloor_45 : decode cX10_topFloor 45 = .ok (.goto 17, 3) := by decide +kernel
theorem dX10_topFloor_48 : decode cX10_topFloor 48 = .ok (.aload_n 1, 1) := by decide +kernel
theorem dX10_topFloor_49 : decode cX10_topFloor 49 = .ok (.getfield 56, 3) := by decide +kernel
theorem dX10_topFloor_52 : decode cX10_topFloor 52 = .ok (.iload 4, 2) := by decide +kernel
theorem dX10_topFloor_54 : decode cX10_topFloor 54 = .ok (.bipush 20, 2) := by decide +kernel
theorem dX10_topFloor_56 : decode cX10_topFloor 56 = .ok (.idiv, 1) := by decide +kernel
theorem dX10_topFloor_57 : decode cX10_topFloor 57 = .ok (.invokestatic 84, 3) := by decide +kernel
theorem dX10_topFloor_60 : decode cX10_topFloor 60 = .ok (.iconst 1, 1) := by decide +kernel
theorem dX10_topFloor_61 : decode cX10_topFloor 61 = .ok (.isub, 1) := by decide +kernel
theorem dX10_topFloor_62 : decode cX10_topFloor 62 = .ok (.ireturn, 1) := by decide +kernel
theorem okX10_topFloor : ab_okM MX10_topFloor 3 := ⟨by decide, ⟨by decide, by decide⟩, ab_in 1037 (by decide +kernel) (by decide +kernel), ab_in 89 (by decide +kernel) (by decide +kernel), by decide +kernel, by decide⟩
set_option maxHeartbeats 4000000 in
set_option maxRecDepth 100000 in
theorem sX10_topFloor (v1 : Nat) (v2 : Int32) (v3 : Int32) (hv1 : isH v1) (x : ab_X) (K : Int32 → Prop) (d bc bs : Nat) (hdp : 2 ≤ d) (h : wX10_topFloor v1 v2 v3 x K) : EW MX10_topFloor 0 [(0, .ref 9), (1, .ref v1), (2, .int v2), (3, .int v3)] [] (aS x) d bc bs (liP x K) := by
  unfold wX10_topFloor at h
  refine EW_iload_n (pc2 := 1) rfl dX10_topFloor_0 2 rfl ?_
  refine EW_aload_n (pc2 := 2) rfl dX10_topFloor_1 0 rfl ?_
  refine AW_geti ⟨gfRX10_74, rfl⟩ (pc2 := 5) rfl dX10_topFloor_2 q9 ?_
  refine AW_invSN (M' := MX11_below) [.int v2, .int (x.1 9 9)] (rest := []) mlRX10_48 okX11_below (pc2 := 8) rfl dX10_topFloor_5 rfl rfl (Nat.le_of_ble_eq_true rfl) (Nat.le_of_ble_eq_true rfl) (d' := 0) (by omega) (EW_mono (fun _ _ hr => ?_) (sX11_below v2 (x.1 9 9)  x _ _ 0 0 (Nat.le_refl _) h))
  obtain ⟨r1, rfl, rfl, h⟩ := hr
  refine EW_if_ne (tgt := 13) (pc2 := 11) rfl dX10_topFloor_8 (by decide) (fun q => ?_) (fun q => ?_)
  · replace h := h.1 q
    refine EW_iload_n (pc2 := 14) rfl dX10_topFloor_13 3 rfl ?_
    refine EW_aload_n (pc2 := 15) rfl dX10_topFloor_14 0 rfl ?_
    refine AW_getr (r := 1) ⟨gfRX10_37, rfl⟩ (pc2 := 18) rfl dX10_topFloor_15 q9 rfl ?_
    refine EW_aload_n (pc2 := 19) rfl dX10_topFloor_18 0 rfl ?_
    refine AW_getr (r := 28) ⟨gfRX10_31, rfl⟩ (pc2 := 22) rfl dX10_topFloor_19 q9 rfl ?_
    refine EW_iload_n (pc2 := 23) rfl dX10_topFloor_22 2 rfl ?_
    obtain ⟨b2, h⟩ := h
    refine AW_iald (pc2 := 24) rfl dX10_topFloor_23 q28 b2 ?_
    refine EW_aload_n (pc2 := 25) rfl dX10_topFloor_24 1 rfl ?_
    refine AW_geti ⟨gfRX10_62, rfl⟩ (pc2 := 28) rfl dX10_topFloor_25 (isH.o hv1) ?_
    refine AW_invV (M' := MX6_walk) [.int (x.1 28 (Int32.toNatClampNeg v2)), .int (x.1 v1 1)] (rest := [.int v3]) mlRX10_78 okX6_walk (pc2 := 31) rfl dX10_topFloor_28 rfl rfl (Nat.le_of_ble_eq_true rfl) (Nat.le_of_ble_eq_true rfl) (d' := 1) (by omega) q1 ⟨by decide, rfl⟩ (EW_mono (fun _ _ hr => ?_) (sX6_walk (x.1 28 (Int32.toNatClampNeg v2)) (x.1 v1 1)  x _ _ 0 0 (Nat.le_refl _) h))
    obtain ⟨r3, rfl, rfl, h⟩ := hr
    refine EW_bipush (pc2 := 33) (v := 100) rfl dX10_topFloor_31 (by decide) ?_
    refine EW_imul (pc2 := 34) rfl dX10_topFloor_33 ?_
    refine EW_isub (pc2 := 35) rfl dX10_topFloor_34 ?_
    refine EW_istore (pc2 := 37) rfl dX10_topFloor_35 (by decide) [1, 2, 3, 4, 0] [(0, .ref 9), (1, .ref v1), (2, .int v2), (3, .int v3), (4, .int (v3 - (r3 * 100)))] rfl ?_
    refine EW_iload (pc2 := 39) rfl dX10_topFloor_37 4 rfl ?_
    refine EW_bipush (pc2 := 41) (v := 20) rfl dX10_topFloor_39 (by decide) ?_
    refine EW_icmp_ge (tgt := 48) (pc2 := 44) rfl dX10_topFloor_41 (by decide) (fun q => ?_) (fun q => ?_)
    · replace h := h.1 q
      refine EW_aload_n (pc2 := 49) rfl dX10_topFloor_48 1 rfl ?_
      refine AW_geti ⟨gfRX10_56, rfl⟩ (pc2 := 52) rfl dX10_topFloor_49 (isH.o hv1) ?_
      refine EW_iload (pc2 := 54) rfl dX10_topFloor_52 4 rfl ?_
      refine EW_bipush (pc2 := 56) (v := 20) rfl dX10_topFloor_54 (by decide) ?_
      refine EW_idiv (pc2 := 57) rfl dX10_topFloor_56 (by decide) ?_
      refine AW_mmin mmRX10_84 (pc2 := 60) rfl dX10_topFloor_57 (Nat.le_of_ble_eq_true rfl) (by omega) ?_
      refine EW_iconst (pc2 := 61) (v := 1) rfl dX10_topFloor_60 (by decide) ?_
      refine EW_isub (pc2 := 62) rfl dX10_topFloor_61 ?_
      exact AW_iret rfl dX10_topFloor_62 ⟨_, rfl, rfl, h⟩
    · replace h := h.2 q
      refine EW_iconst (pc2 := 45) (v := (-1)) rfl dX10_topFloor_44 (by decide) ?_
      refine EW_goto (tgt := 62) dX10_topFloor_45 (by decide) ?_
      exact AW_iret rfl dX10_topFloor_62 ⟨_, rfl, rfl, h⟩
  · replace h := h.2 q
    refine EW_iconst (pc2 := 12) (v := (-1)) rfl dX10_topFloor_11 (by decide) ?_
    exact AW_iret rfl dX10_topFloor_12 ⟨_, rfl, rfl, h⟩
theorem gfRX0_344 : ab_L RX0 344 2 13 := ⟨by decide, by decide, ab_in 445 (by decide +kernel) (by decide +kernel)⟩
theorem gfRX0_338 : ab_L RX0 338 2 17 := ⟨by decide, by decide, ab_in 454 (by decide +kernel) (by decide +kernel)⟩
theorem gfRX0_319 : ab_L RX0 319 2 7 := ⟨by decide, by decide, ab_in 427 (by decide +kernel) (by decide +kernel)⟩
theorem mlRX0_322 : Cond.methodLink RX0 322 yX0_isLeaving ∈ ab_G ∧ Cond.instanceMethod yX0_isLeaving ∈ ab_G ∧ Cond.selects RX0 yX0_isLeaving yX0_isLeaving ∈ ab_G := ⟨ab_in 1414 (by decide +kernel) (by decide +kernel), ab_in 1415 (by decide +kernel) (by decide +kernel), ab_in 1416 (by decide +kernel) (by decide +kernel)⟩
theorem gfRX0_326 : ab_L RX0 326 2 19 := ⟨by decide, by decide, ab_in 458 (by decide +kernel) (by decide +kernel)⟩
theorem gfRX0_329 : ab_L RX0 329 10 8 := ⟨by decide, by decide, ab_in 327 (by decide +kernel) (by decide +kernel)⟩
theorem gfRX0_332 : ab_L RX0 332 2 18 := ⟨by decide, by decide, ab_in 456 (by decide +kernel) (by decide +kernel)⟩
theorem gfRX0_335 : ab_L RX0 335 2 6 := ⟨by decide, by decide, ab_in 424 (by decide +kernel) (by decide +kernel)⟩
theorem gfRX0_152 : ab_L RX0 152 4 1 := ⟨by decide, by decide, ab_in 219 (by decide +kernel) (by decide +kernel)⟩
theorem mlRX0_303 : Cond.methodLink RX0 303 yX10_nearestHead ∈ ab_G ∧ Cond.instanceMethod yX10_nearestHead ∈ ab_G ∧ Cond.selects RX10 yX10_nearestHead yX10_nearestHead ∈ ab_G := ⟨ab_in 1402 (by decide +kernel) (by decide +kernel), ab_in 1029 (by decide +kernel) (by decide +kernel), ab_in 1030 (by decide +kernel) (by decide +kernel)⟩
theorem gfRX0_287 : ab_L RX0 287 2 5 := ⟨by decide, by decide, ab_in 421 (by decide +kernel) (by decide +kernel)⟩
theorem mlRX0_306 : Cond.methodLink RX0 306 yX10_topFloor ∈ ab_G ∧ Cond.instanceMethod yX10_topFloor ∈ ab_G ∧ Cond.selects RX10 yX10_topFloor yX10_topFloor ∈ ab_G := ⟨ab_in 1403 (by decide +kernel) (by decide +kernel), ab_in 1035 (by decide +kernel) (by decide +kernel), ab_in 1036 (by decide +kernel) (by decide +kernel)⟩
theorem gfRX0_310 : ab_L RX0 310 4 0 := ⟨by decide, by decide, ab_in 216 (by decide +kernel) (by decide +kernel)⟩
theorem mlRX0_311 : Cond.methodLink RX0 311 yX0_isLed ∈ ab_G ∧ Cond.instanceMethod yX0_isLed ∈ ab_G ∧ Cond.selects RX0 yX0_isLed yX0_isLed ∈ ab_G := ⟨ab_in 1404 (by decide +kernel) (by decide +kernel), ab_in 1405 (by decide +kernel) (by decide +kernel), ab_in 1406 (by decide +kernel) (by decide +kernel)⟩
theorem mlRX0_314 : Cond.methodLink RX0 314 yX0_roomFor ∈ ab_G ∧ Cond.instanceMethod yX0_roomFor ∈ ab_G ∧ Cond.selects RX0 yX0_roomFor yX0_roomFor ∈ ab_G := ⟨ab_in 1408 (by decide +kernel) (by decide +kernel), ab_in 1409 (by decide +kernel) (by decide +kernel), ab_in 1410 (by decide +kernel) (by decide +kernel)⟩
abbrev MX0_aim : ab_M := (yX0_aim, cX0_aim, 7, none)
theorem dX0_aim_0 : decode cX0_aim 0 = .ok (.aload_n 0, 1) := by decide +kernel
theorem dX0_aim_1 : decode cX0_aim 1 = .ok (.getfield 49, 3) := by decide +kernel
theorem dX0_aim_4 : decode cX0_aim 4 = .ok (.aload_n 2, 1) := by decide +kernel
theorem dX0_aim_5 : decode cX0_aim 5 = .ok (.getfield 152, 3) := by decide +kernel
theorem dX0_aim_8 : decode cX0_aim 8 = .ok (.invokevirtual 303, 3) := by decide +kernel
theorem dX0_aim_11 : decode cX0_aim 11 = .ok (.istore_n 3, 1) := by decide +kernel
theorem dX0_aim_12 : decode cX0_aim 12 = .ok (.aload_n 0, 1) := by decide +kernel
theorem dX0_aim_13 : decode cX0_aim 13 = .ok (.getfield 49, 3) := by decide +kernel
theorem dX0_aim_16 : decode cX0_aim 16 = .ok (.aload_n 2, 1) := by decide +kernel
theorem dX0_aim_17 : decode cX0_aim 17 = .ok (.iload_n 3, 1) := by decide +kernel
theorem dX0_aim_18 : decode cX0_aim 18 = .ok (.aload_n 1, 1) := by decide +kernel
theorem dX0_aim_19 : decode cX0_aim 19 = .ok (.getfield 287, 3) := by decide +kernel
theorem dX0_aim_22 : decode cX0_aim 22 = .ok (.invokevirtual 306, 3) := by decide +kernel
theorem dX0_aim_25 : decode cX0_aim 25 = .ok (.istore 4, 2) := by decide +kernel
theorem dX0_aim_27 : decode cX0_aim 27 = .ok (.iload 4, 2) := by decide +kernel
theorem dX0_aim_29 : decode cX0_aim 29 = .ok (.iconst (-1), 1) := by decide +kernel
theorem dX0_aim_30 : decode cX0_aim 30 = .ok (.if_icmp .ne 7, 3) := by decide +kernel
theorem dX0_aim_33 : decode cX0_aim 33 = .ok (.iconst (-1), 1) := by decide +kernel
theorem dX0_aim_34 : decode cX0_aim 34 = .ok (.goto 18, 3) := by decide +kernel
theorem dX0_aim_37 : decode cX0_aim 37 = .ok (.aload_n 0, 1) := by decide +kernel
theorem dX0_aim_38 : decode cX0_aim 38 = .ok (.aload_n 2, 1) := by decide +kernel
theorem dX0_aim_39 : decode cX0_aim 39 = .ok (.iload 4, 2) := by decide +kernel
theorem dX0_aim_41 : decode cX0_aim 41 = .ok (.aload_n 0, 1) := by decide +kernel
theorem dX0_aim_42 : decode cX0_aim 42 = .ok (.aload_n 2, 1) := by decide +kernel
theorem dX0_aim_43 : decode cX0_aim 43 = .ok (.getfield 310, 3) := by decide +kernel
theorem dX0_aim_46 : decode cX0_aim 46 = .ok (.invokevirtual 311, 3) := by decide +kernel
theorem dX0_aim_49 : decode cX0_aim 49 = .ok (.invokevirtual 314, 3) := by decide +kernel
theorem dX0_aim_52 : decode cX0_aim 52 = .ok (.istore 5, 2) := by decide +kernel
theorem dX0_aim_54 : decode cX0_aim 54 = .ok (.iload 5, 2) := by decide +kernel
theorem dX0_aim_56 : decode cX0_aim 56 = .ok (.iconst (-1), 1) := by decide +kernel
theorem dX0_aim_57 : decode cX0_aim 57 = .ok (.if_icmp .eq 19, 3) := by decide +kernel
theorem dX0_aim_60 : decode cX0_aim 60 = .ok (.aload_n 0, 1) := by decide +kernel
theorem dX0_aim_61 : decode cX0_aim 61 = .ok (.getfield 144, 3) := by decide +kernel
theorem dX0_aim_64 : decode cX0_aim 64 = .ok (.aload_n 1, 1) := by decide +kernel
theorem dX0_aim_65 : decode cX0_aim 65 = .ok (.getfield 318, 3) := by decide +kernel
theorem dX0_aim_68 : decode cX0_aim 68 = .ok (.aload_n 1, 1) := by decide +kernel
theorem dX0_aim_69 : decode cX0_aim 69 = .ok (.getfield 319, 3) := by decide +kernel
theorem dX0_aim_72 : decode cX0_aim 72 = .ok (.iadd, 1) := by decide +kernel
theorem dX0_aim_73 : decode cX0_aim 73 = .ok (.if_icmp .ge 4, 3) := by decide +kernel
theorem dX0_aim_76 : decode cX0_aim 76 = .ok (.return_, 1) := by decide +kernel
theorem dX0_aim_77 : decode cX0_aim 77 = .ok (.aload_n 0, 1) := by decide +kernel
theorem dX0_aim_78 : decode cX0_aim 78 = .ok (.aload_n 1, 1) := by decide +kernel
theorem dX0_aim_79 : decode cX0_aim 79 = .ok (.aload_n 2, 1) := by decide +kernel
theorem dX0_aim_80 : decode cX0_aim 80 = .ok (.iload 5, 2) := by decide +kernel
theorem dX0_aim_82 : decode cX0_aim 82 = .ok (.invokevirtual 322, 3) := by decide +kernel
theorem dX0_aim_85 : decode cX0_aim 85 = .ok (.istore 6, 2) := by decide +kernel
theorem dX0_aim_87 : decode cX0_aim 87 = .ok (.aload_n 1, 1) := by decide +kernel
theorem dX0_aim_88 : decode cX0_aim 88 = .ok (.iload 5, 2) := by decide +kernel
theorem dX0_aim_90 : decode cX0_aim 90 = .ok (.putfield 326, 3) := by decide +kernel
theorem dX0_aim_93 : decode cX0_aim 93 = .ok (.aload_n 1, 1) := by decide +kernel
theorem dX0_aim_94 : decode cX0_aim 94 = .ok (.aload_n 0, 1) := by decide +kernel
theorem dX0_aim_95 : decode cX0_aim 95 = .ok (.getfield 49, 3) := by decide +kernel
theorem dX0_aim_98 : decode cX0_aim 98 = .ok (.getfield 329, 3) := by decide +kernel
theorem dX0_aim_101 : decode cX0_aim 101 = .ok (.iload_n 3, 1) := by decide +kernel
theorem dX0_aim_102 : decode cX0_aim 102 = .ok (.iaload, 1) := by decide +kernel
theorem dX0_aim_103 : decode cX0_aim 103 = .ok (.putfield 332, 3) := by decide +kernel
theorem dX0_aim_106 : decode cX0_aim 106 = .ok (.aload_n 1, 1) := by decide +kernel
theorem dX0_aim_107 : decode cX0_aim 107 = .ok (.iload 6, 2) := by decide +kernel
theorem dX0_aim_109 : decode cX0_aim 109 = .ok (.ifCond .eq 12, 3) := by decide +kernel
theorem dX0_aim_112 : decode cX0_aim 112 = .ok (.aload_n 1, 1) := by decide +kernel
theorem dX0_aim_113 : decode cX0_aim 113 = .ok (.getfield 335, 3) := by decide +kernel
theorem dX0_aim_116 : decode cX0_aim 116 = .ok (.iconst 2, 1) := by decide +kernel
theorem dX0_aim_117 : decode cX0_aim 117 = .ok (.idiv, 1) := by decide +kernel
theorem dX0_aim_118 : decode cX0_aim 118 = .ok (.goto 7, 3) := by decide +kernel
theorem dX0_aim_121 : decode cX0_aim 121 = .ok (.aload_n 1, 1) := by decide +kernel
theorem dX0_aim_122 : decode cX0_aim 122 = .ok (.getfield 335, 3) := by decide +kernel
theorem dX0_aim_125 : decode cX0_aim 125 = .ok (.putfield 338, 3) := by decide +kernel
theorem dX0_aim_128 : decode cX0_aim 128 = .ok (.aload_n 1, 1) := by decide +kernel
theorem dX0_aim_129 : decode cX0_aim 129 = .ok (.iload 6, 2) := by decide +kernel
theorem dX0_aim_131 : decode cX0_aim 131 = .ok (.ifCond .eq 7, 3) := by decide +kernel
theorem dX0_aim_134 : decode cX0_aim 134 = .ok (.iconst (-1), 1) := by decide +kernel
theorem dX0_aim_135 : decode cX0_aim 135 = .ok (.goto 9, 3) := by decide +kernel
theorem dX0_aim_138 : decode cX0_aim 138 = .ok (.aload_n 2, 1) := by decide +kernel
theorem dX0_aim_139 : decode cX0_aim 139 = .ok (.iload 5, 2) := by decide +kernel
theorem dX0_aim_141 : decode cX0_aim 141 = .ok (.invokevirtual 341, 3) := by decide +kernel
theorem dX0_aim_144 : decode cX0_aim 144 = .ok (.putfield 344, 3) := by decide +kernel
theorem dX0_aim_147 : decode cX0_aim 147 = .ok (.aload_n 0, 1) := by decide +kernel
theorem dX0_aim_148 : decode cX0_aim 148 = .ok (.getfield 49, 3) := by decide +kernel
theorem dX0_aim_151 : decode cX0_aim 151 = .ok (.getfield 100, 3) := by decide +kernel
theorem dX0_aim_154 : decode cX0_aim 154 = .ok (.getfield 347, 3) := by decide +kernel
theorem dX0_aim_157 : decode cX0_aim 157 = .ok (.aload_n 2, 1) := by decide +kernel
theorem dX0_aim_158 : decode cX0_aim 158 = .ok (.iload 5, 2) := by decide +kernel
theorem dX0_aim_160 : decode cX0_aim 160 = .ok (.invokevirtual 350, 3) := by decide +kernel
theorem dX0_aim_163 : decode cX0_aim 163 = .ok (.dup2, 1) := by decide +kernel
theorem dX0_aim_164 : decode cX0_aim 164 = .ok (.iaload, 1) := by decide +kernel
theorem dX0_aim_165 : decode cX0_aim 165 = .ok (.aload_n 1, 1) := by decide +kernel
theorem dX0_aim_166 : decode cX0_aim 166 = .ok (.getfield 338, 3) := by decide +kernel
theorem dX0_aim_169 : decode cX0_aim 169 = .ok (.iadd, 1) := by decide +kernel
theorem dX0_aim_170 : decode cX0_aim 170 = .ok (.iastore, 1) := by decide +kernel
theorem dX0_aim_171 : decode cX0_aim 171 = .ok (.return_, 1) := by decide +kernel
theorem okX0_aim : ab_okM MX0_aim 2 := ⟨by decide, ⟨by decide, by decide⟩, ab_in 1401 (by decide +kernel) (by decide +kernel), ab_in 92 (by decide +kernel) (by decide +kernel), by decide +kernel, by decide⟩
set_option maxHeartbeats 4000000 in
set_option maxRecDepth 100000 in
theorem sX0_aim_144 (v1 : Nat) (v2 : Nat) (v5 : Int32) (s0 : Nat) (s1 : Int32) (hv1 : isW v1) (hv2 : isH v2) (hs0 : isW s0) (x : ab_X) (K : ab_X → Prop)  (d bc bs : Nat) (hdp : 4 ≤ d)  (h : wX0_aim_144 v1 v2 v5 s0 s1 x K ) : EW MX0_aim 144 [(0, .ref 66), (1, .ref v1), (2, .ref v2), (5, .int v5)] [.int s1, .ref s0] (aS x) d bc bs (liV K) := by
  unfold wX0_aim_144 at h
  refine AW_puti ⟨gfRX0_344, rfl, rfl⟩ (pc2 := 147) rfl dX0_aim_144 (isW.o hs0) ?_
  refine EW_aload_n (pc2 := 148) rfl dX0_aim_147 0 rfl ?_
  refine AW_getr (r := 9) ⟨gfRX0_49, rfl⟩ (pc2 := 151) rfl dX0_aim_148 q66 rfl ?_
  refine AW_getr (r := 11) ⟨gfRX0_100, rfl⟩ (pc2 := 154) rfl dX0_aim_151 q9 rfl ?_
  refine AW_getr (r := 14) ⟨gfRX0_347, rfl⟩ (pc2 := 157) rfl dX0_aim_154 q11 rfl ?_
  refine EW_aload_n (pc2 := 158) rfl dX0_aim_157 2 rfl ?_
  refine EW_iload (pc2 := 160) rfl dX0_aim_158 3 rfl ?_
  refine AW_invV (M' := MX4_place) [.int v5] (rest := [.ref 14]) mlRX0_350 okX4_place (pc2 := 163) rfl dX0_aim_160 rfl rfl (Nat.le_of_ble_eq_true rfl) (Nat.le_of_ble_eq_true rfl) (d' := 0) (by omega) (isH.o hv2) ⟨by decide, rfl⟩ (EW_mono (fun _ _ hr => ?_) (sX4_place v2 v5 hv2 (wr x s0 13 s1) _ _ 0 0 (Nat.le_refl _) h))
  obtain ⟨r9, rfl, rfl, h⟩ := hr
  refine EW_dup2 (pc2 := 164) rfl dX0_aim_163 rfl rfl ?_
  obtain ⟨b10, h⟩ := h
  refine AW_iald (pc2 := 165) rfl dX0_aim_164 q14 b10 ?_
  refine EW_aload_n (pc2 := 166) rfl dX0_aim_165 1 rfl ?_
  refine AW_geti ⟨gfRX0_338, rfl⟩ (pc2 := 169) rfl dX0_aim_166 (isW.o hv1) ?_
  refine EW_iadd (pc2 := 170) rfl dX0_aim_169 ?_
  obtain ⟨b11, h⟩ := h
  refine AW_iast (pc2 := 171) rfl dX0_aim_170 q14 b11 ?_
  exact EW_vret rfl dX0_aim_171 ⟨_, rfl, rfl, h⟩
set_option maxHeartbeats 4000000 in
set_option maxRecDepth 100000 in
theorem sX0_aim_125 (v1 : Nat) (v2 : Nat) (v5 : Int32) (v6 : Int32) (s0 : Nat) (s1 : Int32) (hv1 : isW v1) (hv2 : isH v2) (hs0 : isW s0) (x : ab_X) (K : ab_X → Prop)  (d bc bs : Nat) (hdp : 4 ≤ d)  (h : wX0_aim_125 v1 v2 v5 v6 s0 s1 x K ) : EW MX0_aim 125 [(0, .ref 66), (1, .ref v1), (2, .ref v2), (5, .int v5), (6, .int v6)] [.int s1, .ref s0] (aS x) d bc bs (liV K) := by
  unfold wX0_aim_125 at h
  refine AW_puti ⟨gfRX0_338, rfl, rfl⟩ (pc2 := 128) rfl dX0_aim_125 (isW.o hs0) ?_
  refine EW_aload_n (pc2 := 129) rfl dX0_aim_128 1 rfl ?_
  refine EW_iload (pc2 := 131) rfl dX0_aim_129 4 rfl ?_
  refine EW_if_eq (tgt := 138) (pc2 := 134) rfl dX0_aim_131 (by decide) (fun q => ?_) (fun q => ?_)
  · replace h := h.1 q
    refine EW_aload_n (pc2 := 139) rfl dX0_aim_138 2 rfl ?_
    refine EW_iload (pc2 := 141) rfl dX0_aim_139 3 rfl ?_
    refine AW_invV (M' := MX4_floorOf) [.int v5] (rest := [.ref v1]) mlRX0_341 okX4_floorOf (pc2 := 144) rfl dX0_aim_141 rfl rfl (Nat.le_of_ble_eq_true rfl) (Nat.le_of_ble_eq_true rfl) (d' := 0) (by omega) (isH.o hv2) ⟨by decide, rfl⟩ (EW_mono (fun _ _ hr => ?_) (sX4_floorOf v2 v5 hv2 (wr x s0 17 s1) _ _ 0 0 (Nat.le_refl _) h))
    obtain ⟨r8, rfl, rfl, h⟩ := hr
    refine EW_ls [0, 1, 2, 3] rfl ?_
    exact sX0_aim_144 v1 v2 v5 v1 r8 hv1 hv2 hv1 (wr x s0 17 s1) K d bc bs hdp h
  · replace h := h.2 q
    refine EW_iconst (pc2 := 135) (v := (-1)) rfl dX0_aim_134 (by decide) ?_
    refine EW_goto (tgt := 144) dX0_aim_135 (by decide) ?_
    refine EW_ls [0, 1, 2, 3] rfl ?_
    exact sX0_aim_144 v1 v2 v5 v1 (-1) hv1 hv2 hv1 (wr x s0 17 s1) K d bc bs hdp h
set_option maxHeartbeats 4000000 in
set_option maxRecDepth 100000 in
theorem sX0_aim_52 (v1 : Nat) (v2 : Nat) (v3 : Int32) (s0 : Int32) (hv1 : isW v1) (hv2 : isH v2) (x : ab_X) (K : ab_X → Prop)  (d bc bs : Nat) (hdp : 4 ≤ d)  (h : wX0_aim_52 v1 v2 v3 s0 x K ) : EW MX0_aim 52 [(0, .ref 66), (1, .ref v1), (2, .ref v2), (3, .int v3)] [.int s0] (aS x) d bc bs (liV K) := by
  unfold wX0_aim_52 at h
  refine EW_istore (pc2 := 54) rfl dX0_aim_52 (by decide) [1, 2, 3, 4, 0] [(0, .ref 66), (1, .ref v1), (2, .ref v2), (3, .int v3), (5, .int s0)] rfl ?_
  refine EW_iload (pc2 := 56) rfl dX0_aim_54 4 rfl ?_
  refine EW_iconst (pc2 := 57) (v := (-1)) rfl dX0_aim_56 (by decide) ?_
  refine EW_icmp_eq (tgt := 76) (pc2 := 60) rfl dX0_aim_57 (by decide) (fun q => ?_) (fun q => ?_)
  · replace h := h.1 q
    exact EW_vret rfl dX0_aim_76 ⟨_, rfl, rfl, h⟩
  · replace h := h.2 q
    refine EW_aload_n (pc2 := 61) rfl dX0_aim_60 0 rfl ?_
    refine AW_geti ⟨gfRX0_144, rfl⟩ (pc2 := 64) rfl dX0_aim_61 q66 ?_
    refine EW_aload_n (pc2 := 65) rfl dX0_aim_64 1 rfl ?_
    refine AW_geti ⟨gfRX0_318, rfl⟩ (pc2 := 68) rfl dX0_aim_65 (isW.o hv1) ?_
    refine EW_aload_n (pc2 := 69) rfl dX0_aim_68 1 rfl ?_
    refine AW_geti ⟨gfRX0_319, rfl⟩ (pc2 := 72) rfl dX0_aim_69 (isW.o hv1) ?_
    refine EW_iadd (pc2 := 73) rfl dX0_aim_72 ?_
    refine EW_icmp_ge (tgt := 77) (pc2 := 76) rfl dX0_aim_73 (by decide) (fun q => ?_) (fun q => ?_)
    · replace h := h.1 q
      refine EW_aload_n (pc2 := 78) rfl dX0_aim_77 0 rfl ?_
      refine EW_aload_n (pc2 := 79) rfl dX0_aim_78 1 rfl ?_
      refine EW_aload_n (pc2 := 80) rfl dX0_aim_79 2 rfl ?_
      refine EW_iload (pc2 := 82) rfl dX0_aim_80 4 rfl ?_
      refine AW_invV (M' := MX0_isLeaving) [.ref v1, .ref v2, .int s0] (rest := []) mlRX0_322 okX0_isLeaving (pc2 := 85) rfl dX0_aim_82 rfl rfl (Nat.le_of_ble_eq_true rfl) (Nat.le_of_ble_eq_true rfl) (d' := 3) (by omega) q66 ⟨by decide, rfl⟩ (EW_mono (fun _ _ hr => ?_) (sX0_isLeaving v1 v2 s0 hv1 hv2 x _ _ 0 0 (Nat.le_refl _) h))
      obtain ⟨r5, x6, rfl, rfl, h⟩ := hr
      refine EW_istore (pc2 := 87) rfl dX0_aim_85 (by decide) [1, 2, 3, 4, 5, 0] [(0, .ref 66), (1, .ref v1), (2, .ref v2), (3, .int v3), (5, .int s0), (6, .int r5)] rfl ?_
      refine EW_aload_n (pc2 := 88) rfl dX0_aim_87 1 rfl ?_
      refine EW_iload (pc2 := 90) rfl dX0_aim_88 4 rfl ?_
      refine AW_puti ⟨gfRX0_326, rfl, rfl⟩ (pc2 := 93) rfl dX0_aim_90 (isW.o hv1) ?_
      refine EW_aload_n (pc2 := 94) rfl dX0_aim_93 1 rfl ?_
      refine EW_aload_n (pc2 := 95) rfl dX0_aim_94 0 rfl ?_
      refine AW_getr (r := 9) ⟨gfRX0_49, rfl⟩ (pc2 := 98) rfl dX0_aim_95 q66 rfl ?_
      refine AW_getr (r := 29) ⟨gfRX0_329, rfl⟩ (pc2 := 101) rfl dX0_aim_98 q9 rfl ?_
      refine EW_iload_n (pc2 := 102) rfl dX0_aim_101 3 rfl ?_
      obtain ⟨b7, h⟩ := h
      refine AW_iald (pc2 := 103) rfl dX0_aim_102 q29 b7 ?_
      refine AW_puti ⟨gfRX0_332, rfl, rfl⟩ (pc2 := 106) rfl dX0_aim_103 (isW.o hv1) ?_
      refine EW_aload_n (pc2 := 107) rfl dX0_aim_106 1 rfl ?_
      refine EW_iload (pc2 := 109) rfl dX0_aim_107 5 rfl ?_
      refine EW_if_eq (tgt := 121) (pc2 := 112) rfl dX0_aim_109 (by decide) (fun q => ?_) (fun q => ?_)
      · replace h := h.1 q
        refine EW_aload_n (pc2 := 122) rfl dX0_aim_121 1 rfl ?_
        refine AW_geti ⟨gfRX0_335, rfl⟩ (pc2 := 125) rfl dX0_aim_122 (isW.o hv1) ?_
        refine EW_ls [0, 1, 2, 4, 5] rfl ?_
        exact sX0_aim_125 v1 v2 s0 r5 v1 ((wr (wr x6 v1 19 s0) v1 18 ((wr x6 v1 19 s0).1 29 (Int32.toNatClampNeg v3))).1 v1 6) hv1 hv2 hv1 (wr (wr x6 v1 19 s0) v1 18 ((wr x6 v1 19 s0).1 29 (Int32.toNatClampNeg v3))) K d bc bs hdp h
      · replace h := h.2 q
        refine EW_aload_n (pc2 := 113) rfl dX0_aim_112 1 rfl ?_
        refine AW_geti ⟨gfRX0_335, rfl⟩ (pc2 := 116) rfl dX0_aim_113 (isW.o hv1) ?_
        refine EW_iconst (pc2 := 117) (v := 2) rfl dX0_aim_116 (by decide) ?_
        refine EW_idiv (pc2 := 118) rfl dX0_aim_117 (by decide) ?_
        refine EW_goto (tgt := 125) dX0_aim_118 (by decide) ?_
        refine EW_ls [0, 1, 2, 4, 5] rfl ?_
        exact sX0_aim_125 v1 v2 s0 r5 v1 (((wr (wr x6 v1 19 s0) v1 18 ((wr x6 v1 19 s0).1 29 (Int32.toNatClampNeg v3))).1 v1 6) / 2) hv1 hv2 hv1 (wr (wr x6 v1 19 s0) v1 18 ((wr x6 v1 19 s0).1 29 (Int32.toNatClampNeg v3))) K d bc bs hdp h
    · replace h := h.2 q
      exact EW_vret rfl dX0_aim_76 ⟨_, rfl, rfl, h⟩
set_option maxHeartbeats 4000000 in
set_option maxRecDepth 100000 in
theorem sX0_aim (v1 : Nat) (v2 : Nat) (hv1 : isW v1) (hv2 : isH v2) (x : ab_X) (K : ab_X → Prop) (d bc bs : Nat) (hdp : 4 ≤ d) (h : wX0_aim v1 v2 x K) : EW MX0_aim 0 [(0, .ref 66), (1, .ref v1), (2, .ref v2)] [] (aS x) d bc bs (liV K) := by
  unfold wX0_aim at h
  refine EW_aload_n (pc2 := 1) rfl dX0_aim_0 0 rfl ?_
  refine AW_getr (r := 9) ⟨gfRX0_49, rfl⟩ (pc2 := 4) rfl dX0_aim_1 q66 rfl ?_
  refine EW_aload_n (pc2 := 5) rfl dX0_aim_4 2 rfl ?_
  refine AW_geti ⟨gfRX0_152, rfl⟩ (pc2 := 8) rfl dX0_aim_5 (isH.o hv2) ?_
  refine AW_invV (M' := MX10_nearestHead) [.int (x.1 v2 1)] (rest := []) mlRX0_303 okX10_nearestHead (pc2 := 11) rfl dX0_aim_8 rfl rfl (Nat.le_of_ble_eq_true rfl) (Nat.le_of_ble_eq_true rfl) (d' := 2) (by omega) q9 ⟨by decide, rfl⟩ (EW_mono (fun _ _ hr => ?_) (sX10_nearestHead (x.1 v2 1)  x _ _ 0 0 (Nat.le_refl _) h))
  obtain ⟨r1, rfl, rfl, h⟩ := hr
  refine EW_istore_n (pc2 := 12) rfl dX0_aim_11 (by decide) [1, 2, 3, 0] [(0, .ref 66), (1, .ref v1), (2, .ref v2), (3, .int r1)] rfl ?_
  refine EW_aload_n (pc2 := 13) rfl dX0_aim_12 0 rfl ?_
  refine AW_getr (r := 9) ⟨gfRX0_49, rfl⟩ (pc2 := 16) rfl dX0_aim_13 q66 rfl ?_
  refine EW_aload_n (pc2 := 17) rfl dX0_aim_16 2 rfl ?_
  refine EW_iload_n (pc2 := 18) rfl dX0_aim_17 3 rfl ?_
  refine EW_aload_n (pc2 := 19) rfl dX0_aim_18 1 rfl ?_
  refine AW_geti ⟨gfRX0_287, rfl⟩ (pc2 := 22) rfl dX0_aim_19 (isW.o hv1) ?_
  refine AW_invV (M' := MX10_topFloor) [.ref v2, .int r1, .int (x.1 v1 5)] (rest := []) mlRX0_306 okX10_topFloor (pc2 := 25) rfl dX0_aim_22 rfl rfl (Nat.le_of_ble_eq_true rfl) (Nat.le_of_ble_eq_true rfl) (d' := 2) (by omega) q9 ⟨by decide, rfl⟩ (EW_mono (fun _ _ hr => ?_) (sX10_topFloor v2 r1 (x.1 v1 5) hv2 x _ _ 0 0 (Nat.le_refl _) h))
  obtain ⟨r2, rfl, rfl, h⟩ := hr
  refine EW_istore (pc2 := 27) rfl dX0_aim_25 (by decide) [1, 2, 3, 4, 0] [(0, .ref 66), (1, .ref v1), (2, .ref v2), (3, .int r1), (4, .int r2)] rfl ?_
  refine EW_iload (pc2 := 29) rfl dX0_aim_27 4 rfl ?_
  refine EW_iconst (pc2 := 30) (v := (-1)) rfl dX0_aim_29 (by decide) ?_
  refine EW_icmp_ne (tgt := 37) (pc2 := 33) rfl dX0_aim_30 (by decide) (fun q => ?_) (fun q => ?_)
  · replace h := h.1 q
    refine EW_aload_n (pc2 := 38) rfl dX0_aim_37 0 rfl ?_
    refine EW_aload_n (pc2 := 39) rfl dX0_aim_38 2 rfl ?_
    refine EW_iload (pc2 := 41) rfl dX0_aim_39 4 rfl ?_
    refine EW_aload_n (pc2 := 42) rfl dX0_aim_41 0 rfl ?_
    refine EW_aload_n (pc2 := 43) rfl dX0_aim_42 2 rfl ?_
    refine AW_geti ⟨gfRX0_310, rfl⟩ (pc2 := 46) rfl dX0_aim_43 (isH.o hv2) ?_
    refine AW_invV (M' := MX0_isLed) [.int (x.1 v2 0)] (rest := [.int r2, .ref v2, .ref 66]) mlRX0_311 okX0_isLed (pc2 := 49) rfl dX0_aim_46 rfl rfl (Nat.le_of_ble_eq_true rfl) (Nat.le_of_ble_eq_true rfl) (d' := 0) (by omega) q66 ⟨by decide, rfl⟩ (EW_mono (fun _ _ hr => ?_) (sX0_isLed (x.1 v2 0)  x _ _ 0 0 (Nat.le_refl _) h))
    obtain ⟨r3, rfl, rfl, h⟩ := hr
    refine AW_invV (M' := MX0_roomFor) [.ref v2, .int r2, .int r3] (rest := []) mlRX0_314 okX0_roomFor (pc2 := 52) rfl dX0_aim_49 rfl rfl (Nat.le_of_ble_eq_true rfl) (Nat.le_of_ble_eq_true rfl) (d' := 1) (by omega) q66 ⟨by decide, rfl⟩ (EW_mono (fun _ _ hr => ?_) (sX0_roomFor v2 r2 r3 hv2 x _ _ 0 0 (Nat.le_refl _) h))
    obtain ⟨r4, rfl, rfl, h⟩ := hr
    refine EW_ls [0, 1, 2, 3] rfl ?_
    exact sX0_aim_52 v1 v2 r1 r4 hv1 hv2 x K d bc bs hdp h
  · replace h := h.2 q
    refine EW_iconst (pc2 := 34) (v := (-1)) rfl dX0_aim_33 (by decide) ?_
    refine EW_goto (tgt := 52) dX0_aim_34 (by decide) ?_
    refine EW_ls [0, 1, 2, 3] rfl ?_
    exact sX0_aim_52 v1 v2 r1 (-1) hv1 hv2 x K d bc bs hdp h
theorem gfRX10_44 : ab_L RX10 44 10 2 := ⟨by decide, by decide, ab_in 313 (by decide +kernel) (by decide +kernel)⟩
theorem gfRX10_20 : ab_L RX10 20 10 3 := ⟨by decide, by decide, ab_in 317 (by decide +kernel) (by decide +kernel)⟩
theorem gfRX10_89 : ab_L RX10 89 3 7 := ⟨by decide, by decide, ab_in 190 (by decide +kernel) (by decide +kernel)⟩
theorem gfRX10_11 : ab_L RX10 11 10 1 := ⟨by decide, by decide, ab_in 308 (by decide +kernel) (by decide +kernel)⟩
theorem mlRX10_93 : Cond.methodLink RX10 93 yX3_burningRooms ∈ ab_G ∧ Cond.instanceMethod yX3_burningRooms ∈ ab_G ∧ Cond.selects RX3 yX3_burningRooms yX3_burningRooms ∈ ab_G := ⟨ab_in 883 (by decide +kernel) (by decide +kernel), ab_in 884 (by decide +kernel) (by decide +kernel), ab_in 885 (by decide +kernel) (by decide +kernel)⟩
abbrev MX10_worstAt : ab_M := (yX10_worstAt, cX10_worstAt, 6, (some .int))
theorem dX10_worstAt_0 : decode cX10_worstAt 0 = .ok (.iconst (-1), 1) := by decide +kernel
theorem dX10_worstAt_1 : decode cX10_worstAt 1 = .ok (.istore_n 2, 1) := by decide +kernel
theorem dX10_worstAt_2 : decode cX10_worstAt 2 = .ok (.iconst 0, 1) := by decide +kernel
theorem dX10_worstAt_3 : decode cX10_worstAt 3 = .ok (.istore_n 3, 1) := by decide +kernel
theorem dX10_worstAt_4 : decode cX10_worstAt 4 = .ok (.iconst 0, 1) := by decide +kernel
theorem dX10_worstAt_5 : decode cX10_worstAt 5 = .ok (.istore 4, 2) := by decide +kernel
theorem dX10_worstAt_7 : decode cX10_worstAt 7 = .ok (.iload 4, 2) := by decide +kernel
theorem dX10_worstAt_9 : decode cX10_worstAt 9 = .ok (.aload_n 0, 1) := by decide +kernel
theorem dX10_worstAt_10 : decode cX10_worstAt 10 = .ok (.getfield 44, 3) := by decide +kernel
theorem dX10_worstAt_13 : decode cX10_worstAt 13 = .ok (.if_icmp .ge 65, 3) := by decide +kernel
theorem dX10_worstAt_16 : decode cX10_worstAt 16 = .ok (.aload_n 0, 1) := by decide +kernel
theorem dX10_worstAt_17 : decode cX10_worstAt 17 = .ok (.getfield 20, 3) := by decide +kernel
theorem dX10_worstAt_20 : decode cX10_worstAt 20 = .ok (.getfield 89, 3) := by decide +kernel
theorem dX10_worstAt_23 : decode cX10_worstAt 23 = .ok (.ifCond .ne 55, 3) := by decide +kernel
theorem dX10_worstAt_26 : decode cX10_worstAt 26 = .ok (.aload_n 0, 1) := by decide +kernel
theorem dX10_worstAt_27 : decode cX10_worstAt 27 = .ok (.getfield 11, 3) := by decide +kernel
theorem dX10_worstAt_30 : decode cX10_worstAt 30 = .ok (.iload 4, 2) := by decide +kernel
theorem dX10_worstAt_32 : decode cX10_worstAt 32 = .ok (.aaload, 1) := by decide +kernel
theorem dX10_worstAt_33 : decode cX10_worstAt 33 = .ok (.getfield 62, 3) := by decide +kernel
theorem dX10_worstAt_36 : decode cX10_worstAt 36 = .ok (.iload_n 1, 1) := by decide +kernel
theorem dX10_worstAt_37 : decode cX10_worstAt 37 = .ok (.if_icmp .ne 20, 3) := by decide +kernel
theorem dX10_worstAt_40 : decode cX10_worstAt 40 = .ok (.aload_n 0, 1) := by decide +kernel
theorem dX10_worstAt_41 : decode cX10_worstAt 41 = .ok (.getfield 20, 3) := by decide +kernel
theorem dX10_worstAt_44 : decode cX10_worstAt 44 = .ok (.aload_n 0, 1) := by decide +kernel
theorem dX10_worstAt_45 : decode cX10_worstAt 45 = .ok (.getfield 11, 3) := by decide +kernel
theorem dX10_worstAt_48 : decode cX10_worstAt 48 = .ok (.iload 4, 2) := by decide +kernel
theorem dX10_worstAt_50 : decode cX10_worstAt 50 = .ok (.aaload, 1) := by decide +kernel
theorem dX10_worstAt_51 : decode cX10_worstAt 51 = .ok (.invokevirtual 93, 3) := by decide +kernel
theorem dX10_worstAt_54 : decode cX10_worstAt 54 = .ok (.goto 4, 3) := by decide +kernel
theorem dX10_worstAt_57 : decode cX10_worstAt 57 = .ok (.iconst 0, 1) := by decide +kernel
theorem dX10_worstAt_58 : decode cX10_worstAt 58 = .ok (.istore 5, 2) := by decide +kernel
theorem dX10_worstAt_60 : decode cX10_worstAt 60 = .ok (.iload 5, 2) := by decide +kernel
theorem dX10_worstAt_62 : decode cX10_worstAt 62 = .ok (.iload_n 3, 1) := by decide +kernel
theorem dX10_worstAt_63 : decode cX10_worstAt 63 = .ok (.if_icmp .le 9, 3) := by decide +kernel
theorem dX10_worstAt_66 : decode cX10_worstAt 66 = .ok (.iload 5, 2) := by decide +kernel
theorem dX10_worstAt_68 : decode cX10_worstAt 68 = .ok (.istore_n 3, 1) := by decide +kernel
theorem dX10_worstAt_69 : decode cX10_worstAt 69 = .ok (.iload 4, 2) := by decide +kernel
theorem dX10_worstAt_71 : decode cX10_worstAt 71 = .ok (.istore_n 2, 1) := by decide +kernel
theorem dX10_worstAt_72 : decode cX10_worstAt 72 = .ok (.iinc 4 1, 3) := by decide +kernel
theorem dX10_worstAt_75 : decode cX10_worstAt 75 = .ok (.goto (-68), 3) := by decide +kernel
theorem dX10_worstAt_78 : decode cX10_worstAt 78 = .ok (.iload_n 2, 1) := by decide +kernel
theorem dX10_worstAt_79 : decode cX10_worstAt 79 = .ok (.ireturn, 1) := by decide +kernel
theorem okX10_worstAt : ab_okM MX10_worstAt 1 := ⟨by decide, ⟨by decide, by decide⟩, ab_in 882 (by decide +kernel) (by decide +kernel), ab_in 89 (by decide +kernel) (by decide +kernel), by decide +kernel, by decide⟩
set_option maxHeartbeats 4000000 in
set_option maxRecDepth 100000 in
theorem sX10_worstAt_58 (v1 : Int32) (v2 : Int32) (v3 : Int32) (v4 : Int32) (s0 : Int32)  (x : ab_X) (K : Int32 → Prop) (L7 : Int32 → Int32 → Int32 → Prop) (d bc bs : Nat) (hdp : 2 ≤ d) (hL7 : ∀ (v2 : Int32) (v3 : Int32) (v4 : Int32), L7 v2 v3 v4 → EW MX10_worstAt 7 [(0, .ref 9), (1, .int v1), (2, .int v2), (3, .int v3), (4, .int v4)] [] (aS x) d bc bs (liP x K)) (h : wX10_worstAt_58 v1 v2 v3 v4 s0 x K L7) : EW MX10_worstAt 58 [(0, .ref 9), (1, .int v1), (2, .int v2), (3, .int v3), (4, .int v4)] [.int s0] (aS x) d bc bs (liP x K) := by
  unfold wX10_worstAt_58 at h
  refine EW_istore (pc2 := 60) rfl dX10_worstAt_58 (by decide) [1, 2, 3, 4, 5, 0] [(0, .ref 9), (1, .int v1), (2, .int v2), (3, .int v3), (4, .int v4), (5, .int s0)] rfl ?_
  refine EW_iload (pc2 := 62) rfl dX10_worstAt_60 5 rfl ?_
  refine EW_iload_n (pc2 := 63) rfl dX10_worstAt_62 3 rfl ?_
  refine EW_icmp_le (tgt := 72) (pc2 := 66) rfl dX10_worstAt_63 (by decide) (fun q => ?_) (fun q => ?_)
  · replace h := h.1 q
    refine EW_iinc (v4 + 1) (pc2 := 75) rfl dX10_worstAt_72 4 rfl rfl (by decide) [1, 2, 3, 4, 0, 5] [(0, .ref 9), (1, .int v1), (2, .int v2), (3, .int v3), (4, .int (v4 + 1)), (5, .int s0)] rfl ?_
    refine EW_goto (tgt := 7) dX10_worstAt_75 (by decide) ?_
    refine EW_ls [0, 1, 2, 3, 4] rfl ?_
    exact hL7 v2 v3 (v4 + 1) h
  · replace h := h.2 q
    refine EW_iload (pc2 := 68) rfl dX10_worstAt_66 5 rfl ?_
    refine EW_istore_n (pc2 := 69) rfl dX10_worstAt_68 (by decide) [1, 2, 3, 0, 4, 5] [(0, .ref 9), (1, .int v1), (2, .int v2), (3, .int s0), (4, .int v4), (5, .int s0)] rfl ?_
    refine EW_iload (pc2 := 71) rfl dX10_worstAt_69 4 rfl ?_
    refine EW_istore_n (pc2 := 72) rfl dX10_worstAt_71 (by decide) [1, 2, 0, 3, 4, 5] [(0, .ref 9), (1, .int v1), (2, .int v4), (3, .int s0), (4, .int v4), (5, .int s0)] rfl ?_
    refine EW_iinc (v4 + 1) (pc2 := 75) rfl dX10_worstAt_72 4 rfl rfl (by decide) [1, 2, 3, 4, 0, 5] [(0, .ref 9), (1, .int v1), (2, .int v4), (3, .int s0), (4, .int (v4 + 1)), (5, .int s0)] rfl ?_
    refine EW_goto (tgt := 7) dX10_worstAt_75 (by decide) ?_
    refine EW_ls [0, 1, 2, 3, 4] rfl ?_
    exact hL7 v4 s0 (v4 + 1) h
set_option maxHeartbeats 4000000 in
set_option maxRecDepth 100000 in
theorem sX10_worstAt_7 (v1 : Int32) (v2 : Int32) (v3 : Int32) (v4 : Int32)  (x : ab_X) (K : Int32 → Prop)  (d bc bs : Nat) (hdp : 2 ≤ d)  (h : Lp3 (lX10_worstAt_7 v1 x K ) v2 v3 v4) : EW MX10_worstAt 7 [(0, .ref 9), (1, .int v1), (2, .int v2), (3, .int v3), (4, .int v4)] [] (aS x) d bc bs (liP x K) := by
  refine Lp3.use (P := fun v2 v3 v4 => EW MX10_worstAt 7 [(0, .ref 9), (1, .int v1), (2, .int v2), (3, .int v3), (4, .int v4)] [] (aS x) d bc bs (liP x K)) (fun L7 v2 v3 v4 hL7 h => ?_) v2 v3 v4 h
  unfold lX10_worstAt_7 at h
  refine EW_iload (pc2 := 9) rfl dX10_worstAt_7 4 rfl ?_
  refine EW_aload_n (pc2 := 10) rfl dX10_worstAt_9 0 rfl ?_
  refine AW_geti ⟨gfRX10_44, rfl⟩ (pc2 := 13) rfl dX10_worstAt_10 q9 ?_
  refine EW_icmp_ge (tgt := 78) (pc2 := 16) rfl dX10_worstAt_13 (by decide) (fun q => ?_) (fun q => ?_)
  · replace h := h.1 q
    refine EW_iload_n (pc2 := 79) rfl dX10_worstAt_78 2 rfl ?_
    exact AW_iret rfl dX10_worstAt_79 ⟨_, rfl, rfl, h⟩
  · replace h := h.2 q
    refine EW_aload_n (pc2 := 17) rfl dX10_worstAt_16 0 rfl ?_
    refine AW_getr (r := 11) ⟨gfRX10_20, rfl⟩ (pc2 := 20) rfl dX10_worstAt_17 q9 rfl ?_
    refine AW_geti ⟨gfRX10_89, rfl⟩ (pc2 := 23) rfl dX10_worstAt_20 q11 ?_
    refine EW_if_ne (tgt := 78) (pc2 := 26) rfl dX10_worstAt_23 (by decide) (fun q => ?_) (fun q => ?_)
    · replace h := h.1 q
      refine EW_iload_n (pc2 := 79) rfl dX10_worstAt_78 2 rfl ?_
      exact AW_iret rfl dX10_worstAt_79 ⟨_, rfl, rfl, h⟩
    · replace h := h.2 q
      refine EW_aload_n (pc2 := 27) rfl dX10_worstAt_26 0 rfl ?_
      refine AW_getr (r := 10) ⟨gfRX10_11, rfl⟩ (pc2 := 30) rfl dX10_worstAt_27 q9 rfl ?_
      refine EW_iload (pc2 := 32) rfl dX10_worstAt_30 4 rfl ?_
      obtain ⟨b1, h⟩ := h
      refine AW_aald5 (pc2 := 33) rfl dX10_worstAt_32 b1 ?_
      refine AW_geti ⟨gfRX10_62, rfl⟩ (pc2 := 36) rfl dX10_worstAt_33 (isH.o (isH_of b1)) ?_
      refine EW_iload_n (pc2 := 37) rfl dX10_worstAt_36 1 rfl ?_
      refine EW_icmp_ne (tgt := 57) (pc2 := 40) rfl dX10_worstAt_37 (by decide) (fun q => ?_) (fun q => ?_)
      · replace h := h.1 q
        refine EW_iconst (pc2 := 58) (v := 0) rfl dX10_worstAt_57 (by decide) ?_
        exact sX10_worstAt_58 v1 v2 v3 v4 0 x K L7 d bc bs hdp hL7 h
      · replace h := h.2 q
        refine EW_aload_n (pc2 := 41) rfl dX10_worstAt_40 0 rfl ?_
        refine AW_getr (r := 11) ⟨gfRX10_20, rfl⟩ (pc2 := 44) rfl dX10_worstAt_41 q9 rfl ?_
        refine EW_aload_n (pc2 := 45) rfl dX10_worstAt_44 0 rfl ?_
        refine AW_getr (r := 10) ⟨gfRX10_11, rfl⟩ (pc2 := 48) rfl dX10_worstAt_45 q9 rfl ?_
        refine EW_iload (pc2 := 50) rfl dX10_worstAt_48 4 rfl ?_
        obtain ⟨b2, h⟩ := h
        refine AW_aald5 (pc2 := 51) rfl dX10_worstAt_50 b2 ?_
        refine AW_invV (M' := MX3_burningRooms) [.ref (30 + 3 * Int32.toNatClampNeg v4)] (rest := []) mlRX10_93 okX3_burningRooms (pc2 := 54) rfl dX10_worstAt_51 rfl rfl (Nat.le_of_ble_eq_true rfl) (Nat.le_of_ble_eq_true rfl) (d' := 1) (by omega) q11 ⟨by decide, rfl⟩ (EW_mono (fun _ _ hr => ?_) (sX3_burningRooms 11 (30 + 3 * Int32.toNatClampNeg v4) (Or.inl rfl : isF 11) (isH_of b2) x _ _ 0 0 (Nat.le_refl _) h))
        obtain ⟨r3, rfl, rfl, h⟩ := hr
        refine EW_goto (tgt := 58) dX10_worstAt_54 (by decide) ?_
        exact sX10_worstAt_58 v1 v2 v3 v4 r3 x K L7 d bc bs hdp hL7 h
set_option maxHeartbeats 4000000 in
set_option maxRecDepth 100000 in
theorem sX10_worstAt (v1 : Int32)  (x : ab_X) (K : Int32 → Prop) (d bc bs : Nat) (hdp : 2 ≤ d) (h : wX10_worstAt v1 x K) : EW MX10_worstAt 0 [(0, .ref 9), (1, .int v1)] [] (aS x) d bc bs (liP x K) := by
  unfold wX10_worstAt at h
  refine EW_iconst (pc2 := 1) (v := (-1)) rfl dX10_worstAt_0 (by decide) ?_
  refine EW_istore_n (pc2 := 2) rfl dX10_worstAt_1 (by decide) [1, 2, 0] [(0, .ref 9), (1, .int v1), (2, .int (-1))] rfl ?_
  refine EW_iconst (pc2 := 3) (v := 0) rfl dX10_worstAt_2 (by decide) ?_
  refine EW_istore_n (pc2 := 4) rfl dX10_worstAt_3 (by decide) [1, 2, 3, 0] [(0, .ref 9), (1, .int v1), (2, .int (-1)), (3, .int 0)] rfl ?_
  refine EW_iconst (pc2 := 5) (v := 0) rfl dX10_worstAt_4 (by decide) ?_
  refine EW_istore (pc2 := 7) rfl dX10_worstAt_5 (by decide) [1, 2, 3, 4, 0] [(0, .ref 9), (1, .int v1), (2, .int (-1)), (3, .int 0), (4, .int 0)] rfl ?_
  exact sX10_worstAt_7 v1 (-1) 0 0 x K d bc bs hdp h
theorem gfRX0_112 : ab_L RX0 112 1 8 := ⟨by decide, by decide, ab_in 523 (by decide +kernel) (by decide +kernel)⟩
theorem gfRX0_81 : ab_L RX0 81 0 5 := ⟨by decide, by decide, ab_in 552 (by decide +kernel) (by decide +kernel)⟩
theorem gfRX0_19 : ab_L RX0 19 0 4 := ⟨by decide, by decide, ab_in 549 (by decide +kernel) (by decide +kernel)⟩
theorem gfRX0_88 : ab_L RX0 88 1 0 := ⟨by decide, by decide, ab_in 505 (by decide +kernel) (by decide +kernel)⟩
theorem gfRX0_91 : ab_L RX0 91 1 3 := ⟨by decide, by decide, ab_in 513 (by decide +kernel) (by decide +kernel)⟩
theorem mlRX0_115 : Cond.methodLink RX0 115 yX10_worstAt ∈ ab_G ∧ Cond.instanceMethod yX10_worstAt ∈ ab_G ∧ Cond.selects RX10 yX10_worstAt yX10_worstAt ∈ ab_G := ⟨ab_in 879 (by decide +kernel) (by decide +kernel), ab_in 880 (by decide +kernel) (by decide +kernel), ab_in 881 (by decide +kernel) (by decide +kernel)⟩
abbrev MX0_begin : ab_M := (yX0_begin, cX0_begin, 3, (some .int))
theorem dX0_begin_0 : decode cX0_begin 0 = .ok (.aload_n 0, 1) := by decide +kernel
theorem dX0_begin_1 : decode cX0_begin 1 = .ok (.getfield 81, 3) := by decide +kernel
theorem dX0_begin_4 : decode cX0_begin 4 = .ok (.bipush 60, 2) := by decide +kernel
theorem dX0_begin_6 : decode cX0_begin 6 = .ok (.if_icmp .lt 5, 3) := by decide +kernel
theorem dX0_begin_9 : decode cX0_begin 9 = .ok (.iconst (-1), 1) := by decide +kernel
theorem dX0_begin_10 : decode cX0_begin 10 = .ok (.ireturn, 1) := by decide +kernel
theorem dX0_begin_11 : decode cX0_begin 11 = .ok (.aload_n 0, 1) := by decide +kernel
theorem dX0_begin_12 : decode cX0_begin 12 = .ok (.getfield 19, 3) := by decide +kernel
theorem dX0_begin_15 : decode cX0_begin 15 = .ok (.aload_n 0, 1) := by decide +kernel
theorem dX0_begin_16 : decode cX0_begin 16 = .ok (.getfield 81, 3) := by decide +kernel
theorem dX0_begin_19 : decode cX0_begin 19 = .ok (.aaload, 1) := by decide +kernel
theorem dX0_begin_20 : decode cX0_begin 20 = .ok (.astore_n 2, 1) := by decide +kernel
theorem dX0_begin_21 : decode cX0_begin 21 = .ok (.aload_n 2, 1) := by decide +kernel
theorem dX0_begin_22 : decode cX0_begin 22 = .ok (.iload_n 1, 1) := by decide +kernel
theorem dX0_begin_23 : decode cX0_begin 23 = .ok (.putfield 88, 3) := by decide +kernel
theorem dX0_begin_26 : decode cX0_begin 26 = .ok (.aload_n 2, 1) := by decide +kernel
theorem dX0_begin_27 : decode cX0_begin 27 = .ok (.aload_n 0, 1) := by decide +kernel
theorem dX0_begin_28 : decode cX0_begin 28 = .ok (.getfield 144, 3) := by decide +kernel
theorem dX0_begin_31 : decode cX0_begin 31 = .ok (.putfield 91, 3) := by decide +kernel
theorem dX0_begin_34 : decode cX0_begin 34 = .ok (.aload_n 2, 1) := by decide +kernel
theorem dX0_begin_35 : decode cX0_begin 35 = .ok (.aload_n 0, 1) := by decide +kernel
theorem dX0_begin_36 : decode cX0_begin 36 = .ok (.getfield 49, 3) := by decide +kernel
theorem dX0_begin_39 : decode cX0_begin 39 = .ok (.iload_n 1, 1) := by decide +kernel
theorem dX0_begin_40 : decode cX0_begin 40 = .ok (.invokevirtual 115, 3) := by decide +kernel
theorem dX0_begin_43 : decode cX0_begin 43 = .ok (.iconst (-1), 1) := by decide +kernel
theorem dX0_begin_44 : decode cX0_begin 44 = .ok (.if_icmp .eq 7, 3) := by decide +kernel
theorem dX0_begin_47 : decode cX0_begin 47 = .ok (.iconst 1, 1) := by decide +kernel
theorem dX0_begin_48 : decode cX0_begin 48 = .ok (.goto 4, 3) := by decide +kernel
theorem dX0_begin_51 : decode cX0_begin 51 = .ok (.iconst 0, 1) := by decide +kernel
theorem dX0_begin_52 : decode cX0_begin 52 = .ok (.putfield 112, 3) := by decide +kernel
theorem dX0_begin_55 : decode cX0_begin 55 = .ok (.aload_n 0, 1) := by decide +kernel
theorem dX0_begin_56 : decode cX0_begin 56 = .ok (.dup, 1) := by decide +kernel
theorem dX0_begin_57 : decode cX0_begin 57 = .ok (.getfield 81, 3) := by decide +kernel
theorem dX0_begin_60 : decode cX0_begin 60 = .ok (.iconst 1, 1) := by decide +kernel
theorem dX0_begin_61 : decode cX0_begin 61 = .ok (.iadd, 1) := by decide +kernel
theorem dX0_begin_62 : decode cX0_begin 62 = .ok (.putfield 81, 3) := by decide +kernel
theorem dX0_begin_65 : decode cX0_begin 65 = .ok (.aload_n 0, 1) := by decide +kernel
theorem dX0_begin_66 : decode cX0_begin 66 = .ok (.getfield 81, 3) := by decide +kernel
theorem dX0_begin_69 : decode cX0_begin 69 = .ok (.iconst 1, 1) := by decide +kernel
theorem dX0_begin_70 : decode cX0_begin 70 = .ok (.isub, 1) := by decide +kernel
theorem dX0_begin_71 : decode cX0_begin 71 = .ok (.ireturn, 1) := by decide +kernel
theorem okX0_begin : ab_okM MX0_begin 1 := ⟨by decide, ⟨by decide, by decide⟩, ab_in 1054 (by decide +kernel) (by decide +kernel), ab_in 92 (by decide +kernel) (by decide +kernel), by decide +kernel, by decide⟩
set_option maxHeartbeats 4000000 in
set_option maxRecDepth 100000 in
theorem sX0_begin_52 (s0 : Nat) (s1 : Int32) (hs0 : isK s0) (x : ab_X) (K : Int32 → ab_X → Prop)  (d bc bs : Nat) (hdp : 3 ≤ d)  (h : wX0_begin_52 s0 s1 x K ) : EW MX0_begin 52 [(0, .ref 66)] [.int s1, .ref s0] (aS x) d bc bs (liI K) := by
  unfold wX0_begin_52 at h
  obtain ⟨z3, h⟩ := h
  refine AW_putz ⟨gfRX0_112, rfl, rfl⟩ z3 (pc2 := 55) rfl dX0_begin_52 (isK.o hs0) ?_
  refine EW_aload_n (pc2 := 56) rfl dX0_begin_55 0 rfl ?_
  refine EW_dup (pc2 := 57) rfl dX0_begin_56 rfl ?_
  refine AW_geti ⟨gfRX0_81, rfl⟩ (pc2 := 60) rfl dX0_begin_57 q66 ?_
  refine EW_iconst (pc2 := 61) (v := 1) rfl dX0_begin_60 (by decide) ?_
  refine EW_iadd (pc2 := 62) rfl dX0_begin_61 ?_
  refine AW_puti ⟨gfRX0_81, rfl, rfl⟩ (pc2 := 65) rfl dX0_begin_62 q66 ?_
  refine EW_aload_n (pc2 := 66) rfl dX0_begin_65 0 rfl ?_
  refine AW_geti ⟨gfRX0_81, rfl⟩ (pc2 := 69) rfl dX0_begin_66 q66 ?_
  refine EW_iconst (pc2 := 70) (v := 1) rfl dX0_begin_69 (by decide) ?_
  refine EW_isub (pc2 := 71) rfl dX0_begin_70 ?_
  exact AW_iret rfl dX0_begin_71 ⟨_, _, rfl, rfl, h⟩
set_option maxHeartbeats 4000000 in
set_option maxRecDepth 100000 in
theorem sX0_begin (v1 : Int32)  (x : ab_X) (K : Int32 → ab_X → Prop) (d bc bs : Nat) (hdp : 3 ≤ d) (h : wX0_begin v1 x K) : EW MX0_begin 0 [(0, .ref 66), (1, .int v1)] [] (aS x) d bc bs (liI K) := by
  unfold wX0_begin at h
  refine EW_aload_n (pc2 := 1) rfl dX0_begin_0 0 rfl ?_
  refine AW_geti ⟨gfRX0_81, rfl⟩ (pc2 := 4) rfl dX0_begin_1 q66 ?_
  refine EW_bipush (pc2 := 6) (v := 60) rfl dX0_begin_4 (by decide) ?_
  refine EW_icmp_lt (tgt := 11) (pc2 := 9) rfl dX0_begin_6 (by decide) (fun q => ?_) (fun q => ?_)
  · replace h := h.1 q
    refine EW_aload_n (pc2 := 12) rfl dX0_begin_11 0 rfl ?_
    refine AW_getr (r := 68) ⟨gfRX0_19, rfl⟩ (pc2 := 15) rfl dX0_begin_12 q66 rfl ?_
    refine EW_aload_n (pc2 := 16) rfl dX0_begin_15 0 rfl ?_
    refine AW_geti ⟨gfRX0_81, rfl⟩ (pc2 := 19) rfl dX0_begin_16 q66 ?_
    obtain ⟨b1, h⟩ := h
    refine AW_aald7 (pc2 := 20) rfl dX0_begin_19 b1 ?_
    refine EW_astore_n (pc2 := 21) rfl dX0_begin_20 (by decide) [1, 2, 0] [(0, .ref 66), (1, .int v1), (2, .ref (98 + Int32.toNatClampNeg (x.1 66 5)))] rfl ?_
    refine EW_aload_n (pc2 := 22) rfl dX0_begin_21 2 rfl ?_
    refine EW_iload_n (pc2 := 23) rfl dX0_begin_22 1 rfl ?_
    refine AW_puti ⟨gfRX0_88, rfl, rfl⟩ (pc2 := 26) rfl dX0_begin_23 (isK.o (isK_of b1)) ?_
    refine EW_aload_n (pc2 := 27) rfl dX0_begin_26 2 rfl ?_
    refine EW_aload_n (pc2 := 28) rfl dX0_begin_27 0 rfl ?_
    refine AW_geti ⟨gfRX0_144, rfl⟩ (pc2 := 31) rfl dX0_begin_28 q66 ?_
    refine AW_puti ⟨gfRX0_91, rfl, rfl⟩ (pc2 := 34) rfl dX0_begin_31 (isK.o (isK_of b1)) ?_
    refine EW_aload_n (pc2 := 35) rfl dX0_begin_34 2 rfl ?_
    refine EW_aload_n (pc2 := 36) rfl dX0_begin_35 0 rfl ?_
    refine AW_getr (r := 9) ⟨gfRX0_49, rfl⟩ (pc2 := 39) rfl dX0_begin_36 q66 rfl ?_
    refine EW_iload_n (pc2 := 40) rfl dX0_begin_39 1 rfl ?_
    refine AW_invV (M' := MX10_worstAt) [.int v1] (rest := [.ref (98 + Int32.toNatClampNeg (x.1 66 5))]) mlRX0_115 okX10_worstAt (pc2 := 43) rfl dX0_begin_40 rfl rfl (Nat.le_of_ble_eq_true rfl) (Nat.le_of_ble_eq_true rfl) (d' := 2) (by omega) q9 ⟨by decide, rfl⟩ (EW_mono (fun _ _ hr => ?_) (sX10_worstAt v1  (wr (wr x (98 + Int32.toNatClampNeg (x.1 66 5)) 0 v1) (98 + Int32.toNatClampNeg (x.1 66 5)) 3 ((wr x (98 + Int32.toNatClampNeg (x.1 66 5)) 0 v1).1 66 12)) _ _ 0 0 (Nat.le_refl _) h))
    obtain ⟨r2, rfl, rfl, h⟩ := hr
    refine EW_iconst (pc2 := 44) (v := (-1)) rfl dX0_begin_43 (by decide) ?_
    refine EW_icmp_eq (tgt := 51) (pc2 := 47) rfl dX0_begin_44 (by decide) (fun q => ?_) (fun q => ?_)
    · replace h := h.1 q
      refine EW_iconst (pc2 := 52) (v := 0) rfl dX0_begin_51 (by decide) ?_
      refine EW_ls [0] rfl ?_
      exact sX0_begin_52 (98 + Int32.toNatClampNeg (x.1 66 5)) 0 (isK_of b1) (wr (wr x (98 + Int32.toNatClampNeg (x.1 66 5)) 0 v1) (98 + Int32.toNatClampNeg (x.1 66 5)) 3 ((wr x (98 + Int32.toNatClampNeg (x.1 66 5)) 0 v1).1 66 12)) K d bc bs hdp h
    · replace h := h.2 q
      refine EW_iconst (pc2 := 48) (v := 1) rfl dX0_begin_47 (by decide) ?_
      refine EW_goto (tgt := 52) dX0_begin_48 (by decide) ?_
      refine EW_ls [0] rfl ?_
      exact sX0_begin_52 (98 + Int32.toNatClampNeg (x.1 66 5)) 1 (isK_of b1) (wr (wr x (98 + Int32.toNatClampNeg (x.1 66 5)) 0 v1) (98 + Int32.toNatClampNeg (x.1 66 5)) 3 ((wr x (98 + Int32.toNatClampNeg (x.1 66 5)) 0 v1).1 66 12)) K d bc bs hdp h
  · replace h := h.2 q
    refine EW_iconst (pc2 := 10) (v := (-1)) rfl dX0_begin_9 (by decide) ?_
    exact AW_iret rfl dX0_begin_10 ⟨_, _, rfl, rfl, h⟩
theorem gfRX2_33 : ab_L RX2 33 2 2 := ⟨by decide, by decide, ab_in 413 (by decide +kernel) (by decide +kernel)⟩
theorem gfRX2_37 : ab_L RX2 37 2 3 := ⟨by decide, by decide, ab_in 415 (by decide +kernel) (by decide +kernel)⟩
theorem gfRX2_40 : ab_L RX2 40 2 15 := ⟨by decide, by decide, ab_in 448 (by decide +kernel) (by decide +kernel)⟩
abbrev MX2_slow : ab_M := (yX2_slow, cX2_slow, 1, (some .int))
theorem dX2_slow_0 : decode cX2_slow 0 = .ok (.aload_n 0, 1) := by decide +kernel
theorem dX2_slow_1 : decode cX2_slow 1 = .ok (.getfield 33, 3) := by decide +kernel
theorem dX2_slow_4 : decode cX2_slow 4 = .ok (.ifCond .eq 17, 3) := by decide +kernel
theorem dX2_slow_7 : decode cX2_slow 7 = .ok (.aload_n 0, 1) := by decide +kernel
theorem dX2_slow_8 : decode cX2_slow 8 = .ok (.getfield 37, 3) := by decide +kernel
theorem dX2_slow_11 : decode cX2_slow 11 = .ok (.aload_n 0, 1) := by decide +kernel
theorem dX2_slow_12 : decode cX2_slow 12 = .ok (.getfield 40, 3) := by decide +kernel
theorem dX2_slow_15 : decode cX2_slow 15 = .ok (.iconst 3, 1) := by decide +kernel
theorem dX2_slow_16 : decode cX2_slow 16 = .ok (.idiv, 1) := by decide +kernel
theorem dX2_slow_17 : decode cX2_slow 17 = .ok (.iadd, 1) := by decide +kernel
theorem dX2_slow_18 : decode cX2_slow 18 = .ok (.goto 7, 3) := by decide +kernel
theorem dX2_slow_21 : decode cX2_slow 21 = .ok (.aload_n 0, 1) := by decide +kernel
theorem dX2_slow_22 : decode cX2_slow 22 = .ok (.getfield 37, 3) := by decide +kernel
theorem dX2_slow_25 : decode cX2_slow 25 = .ok (.ireturn, 1) := by decide +kernel
theorem okX2_slow : ab_okM MX2_slow 0 := ⟨by decide, ⟨by decide, by decide⟩, ab_in 1016 (by decide +kernel) (by decide +kernel), ab_in 94 (by decide +kernel) (by decide +kernel), by decide +kernel, by decide⟩
set_option maxHeartbeats 4000000 in
set_option maxRecDepth 100000 in
theorem sX2_slow (v0 : Nat) (hv0 : isW v0) (x : ab_X) (K : Int32 → Prop) (d bc bs : Nat) (hdp : 0 ≤ d) (h : wX2_slow v0 x K) : EW MX2_slow 0 [(0, .ref v0)] [] (aS x) d bc bs (liP x K) := by
  unfold wX2_slow at h
  refine EW_aload_n (pc2 := 1) rfl dX2_slow_0 0 rfl ?_
  refine AW_geti ⟨gfRX2_33, rfl⟩ (pc2 := 4) rfl dX2_slow_1 (isW.o hv0) ?_
  refine EW_if_eq (tgt := 21) (pc2 := 7) rfl dX2_slow_4 (by decide) (fun q => ?_) (fun q => ?_)
  · replace h := h.1 q
    refine EW_aload_n (pc2 := 22) rfl dX2_slow_21 0 rfl ?_
    refine AW_geti ⟨gfRX2_37, rfl⟩ (pc2 := 25) rfl dX2_slow_22 (isW.o hv0) ?_
    exact AW_iret rfl dX2_slow_25 ⟨_, rfl, rfl, h⟩
  · replace h := h.2 q
    refine EW_aload_n (pc2 := 8) rfl dX2_slow_7 0 rfl ?_
    refine AW_geti ⟨gfRX2_37, rfl⟩ (pc2 := 11) rfl dX2_slow_8 (isW.o hv0) ?_
    refine EW_aload_n (pc2 := 12) rfl dX2_slow_11 0 rfl ?_
    refine AW_geti ⟨gfRX2_40, rfl⟩ (pc2 := 15) rfl dX2_slow_12 (isW.o hv0) ?_
    refine EW_iconst (pc2 := 16) (v := 3) rfl dX2_slow_15 (by decide) ?_
    refine EW_idiv (pc2 := 17) rfl dX2_slow_16 (by decide) ?_
    refine EW_iadd (pc2 := 18) rfl dX2_slow_17 ?_
    refine EW_goto (tgt := 25) dX2_slow_18 (by decide) ?_
    exact AW_iret rfl dX2_slow_25 ⟨_, rfl, rfl, h⟩
theorem gfRX6_41 : ab_L RX6 41 6 7 := ⟨by decide, by decide, ab_in 140 (by decide +kernel) (by decide +kernel)⟩
theorem gfRX6_9 : ab_L RX6 9 6 0 := ⟨by decide, by decide, ab_in 131 (by decide +kernel) (by decide +kernel)⟩
theorem gfRX6_15 : ab_L RX6 15 6 1 := ⟨by decide, by decide, ab_in 132 (by decide +kernel) (by decide +kernel)⟩
theorem gfRX6_21 : ab_L RX6 21 6 3 := ⟨by decide, by decide, ab_in 134 (by decide +kernel) (by decide +kernel)⟩
abbrev MX6_openTo : ab_M := (yX6_openTo, cX6_openTo, 7, (some .int))
theorem dX6_openTo_0 : decode cX6_openTo 0 = .ok (.iconst 1, 1) := by decide +kernel
theorem dX6_openTo_1 : decode cX6_openTo 1 = .ok (.iload_n 1, 1) := by decide +kernel
theorem dX6_openTo_2 : decode cX6_openTo 2 = .ok (.ishl, 1) := by decide +kernel
theorem dX6_openTo_3 : decode cX6_openTo 3 = .ok (.istore_n 2, 1) := by decide +kernel
theorem dX6_openTo_4 : decode cX6_openTo 4 = .ok (.iconst 0, 1) := by decide +kernel
theorem dX6_openTo_5 : decode cX6_openTo 5 = .ok (.istore_n 3, 1) := by decide +kernel
theorem dX6_openTo_6 : decode cX6_openTo 6 = .ok (.iload_n 3, 1) := by decide +kernel
theorem dX6_openTo_7 : decode cX6_openTo 7 = .ok (.bipush 20, 2) := by decide +kernel
theorem dX6_openTo_9 : decode cX6_openTo 9 = .ok (.if_icmp .ge 81, 3) := by decide +kernel
theorem dX6_openTo_12 : decode cX6_openTo 12 = .ok (.iload_n 2, 1) := by decide +kernel
theorem dX6_openTo_13 : decode cX6_openTo 13 = .ok (.istore 4, 2) := by decide +kernel
theorem dX6_openTo_15 : decode cX6_openTo 15 = .ok (.iconst 0, 1) := by decide +kernel
theorem dX6_openTo_16 : decode cX6_openTo 16 = .ok (.istore 5, 2) := by decide +kernel
theorem dX6_openTo_18 : decode cX6_openTo 18 = .ok (.iload 5, 2) := by decide +kernel
theorem dX6_openTo_20 : decode cX6_openTo 20 = .ok (.aload_n 0, 1) := by decide +kernel
theorem dX6_openTo_21 : decode cX6_openTo 21 = .ok (.getfield 41, 3) := by decide +kernel
theorem dX6_openTo_24 : decode cX6_openTo 24 = .ok (.if_icmp .ge 52, 3) := by decide +kernel
theorem dX6_openTo_27 : decode cX6_openTo 27 = .ok (.iconst 1, 1) := by decide +kernel
theorem dX6_openTo_28 : decode cX6_openTo 28 = .ok (.aload_n 0, 1) := by decide +kernel
theorem dX6_openTo_29 : decode cX6_openTo 29 = .ok (.getfield 9, 3) := by decide +kernel
theorem dX6_openTo_32 : decode cX6_openTo 32 = .ok (.iload 5, 2) := by decide +kernel
theorem dX6_openTo_34 : decode cX6_openTo 34 = .ok (.iaload, 1) := by decide +kernel
theorem dX6_openTo_35 : decode cX6_openTo 35 = .ok (.ishl, 1) := by decide +kernel
theorem dX6_openTo_36 : decode cX6_openTo 36 = .ok (.iconst 1, 1) := by decide +kernel
theorem dX6_openTo_37 : decode cX6_openTo 37 = .ok (.aload_n 0, 1) := by decide +kernel
theorem dX6_openTo_38 : decode cX6_openTo 38 = .ok (.getfield 15, 3) := by decide +kernel
theorem dX6_openTo_41 : decode cX6_openTo 41 = .ok (.iload 5, 2) := by decide +kernel
theorem dX6_openTo_43 : decode cX6_openTo 43 = .ok (.iaload, 1) := by decide +kernel
theorem dX6_openTo_44 : decode cX6_openTo 44 = .ok (.ishl, 1) := by decide +kernel
theorem dX6_openTo_45 : decode cX6_openTo 45 = .ok (.ior, 1) := by decide +kernel
theorem dX6_openTo_46 : decode cX6_openTo 46 = .ok (.istore 6, 2) := by decide +kernel
theorem dX6_openTo_48 : decode cX6_openTo 48 = .ok (.aload_n 0, 1) := by decide +kernel
theorem dX6_openTo_49 : decode cX6_openTo 49 = .ok (.getfield 21, 3) := by decide +kernel
theorem dX6_openTo_52 : decode cX6_openTo 52 = .ok (.iload 5, 2) := by decide +kernel
theorem dX6_openTo_54 : decode cX6_openTo 54 = .ok (.baload, 1) := by decide +kernel
theorem dX6_openTo_55 : decode cX6_openTo 55 = .ok (.ifCond .ne 15, 3) := by decide +kernel
theorem dX6_openTo_58 : decode cX6_openTo 58 = .ok (.iload_n 2, 1) := by decide +kernel
theorem dX6_openTo_59 : decode cX6_openTo 59 = .ok (.iload 6, 2) := by decide +kernel
theorem dX6_openTo_61 : decode cX6_openTo 61 = .ok (.iand, 1) := by decide +kernel
theorem dX6_openTo_62 : decode cX6_openTo 62 = .ok (.ifCond .eq 8, 3) := by decide +kernel
theorem dX6_openTo_65 : decode cX6_openTo 65 = .ok (.iload_n 2, 1) := by decide +kernel
theorem dX6_openTo_66 : decode cX6_openTo 66 = .ok (.iload 6, 2) := by decide +kernel
theorem dX6_openTo_68 : decode cX6_openTo 68 = .ok (.ior, 1) := by decide +kernel
theorem dX6_openTo_69 : decode cX6_openTo 69 = .ok (.istore_n 2, 1) := by decide +kernel
theorem dX6_openTo_70 : decode cX6_openTo 70 = .ok (.iinc 5 1, 3) := by decide +kernel
theorem dX6_openTo_73 : decode cX6_openTo 73 = .ok (.goto (-55), 3) := by decide +kernel
theorem dX6_openTo_76 : decode cX6_openTo 76 = .ok (.iload_n 2, 1) := by decide +kernel
theorem dX6_openTo_77 : decode cX6_openTo 77 = .ok (.iload 4, 2) := by decide +kernel
theorem dX6_openTo_79 : decode cX6_openTo 79 = .ok (.if_icmp .ne 5, 3) := by decide +kernel
theorem dX6_openTo_82 : decode cX6_openTo 82 = .ok (.iload_n 2, 1) := by decide +kernel
theorem dX6_openTo_83 : decode cX6_openTo 83 = .ok (.ireturn, 1) := by decide +kernel
theorem dX6_openTo_84 : decode cX6_openTo 84 = .ok (.iinc 3 1, 3) := by decide +kernel
theorem dX6_openTo_87 : decode cX6_openTo 87 = .ok (.goto (-81), 3) := by decide +kernel
theorem dX6_openTo_90 : decode cX6_openTo 90 = .ok (.iload_n 2, 1) := by decide +kernel
theorem dX6_openTo_91 : decode cX6_openTo 91 = .ok (.ireturn, 1) := by decide +kernel
theorem okX6_openTo : ab_okM MX6_openTo 1 := ⟨by decide, ⟨by decide, by decide⟩, ab_in 811 (by decide +kernel) (by decide +kernel), ab_in 87 (by decide +kernel) (by decide +kernel), by decide +kernel, by decide⟩
set_option maxHeartbeats 4000000 in
set_option maxRecDepth 100000 in
theorem sX6_openTo_18 (v2 : Int32) (v3 : Int32) (v4 : Int32) (v5 : Int32)  (x : ab_X) (K : Int32 → Prop) (L6 : Int32 → Int32 → Prop) (d bc bs : Nat) (hdp : 0 ≤ d) (hL6 : ∀ (v2 : Int32) (v3 : Int32), L6 v2 v3 → EW MX6_openTo 6 [(0, .ref 1), (2, .int v2), (3, .int v3)] [] (aS x) d bc bs (liP x K)) (h : Lp2 (lX6_openTo_18 v3 v4 x K L6) v2 v5) : EW MX6_openTo 18 [(0, .ref 1), (2, .int v2), (3, .int v3), (4, .int v4), (5, .int v5)] [] (aS x) d bc bs (liP x K) := by
  refine Lp2.use (P := fun v2 v5 => EW MX6_openTo 18 [(0, .ref 1), (2, .int v2), (3, .int v3), (4, .int v4), (5, .int v5)] [] (aS x) d bc bs (liP x K)) (fun L18 v2 v5 hL18 h => ?_) v2 v5 h
  unfold lX6_openTo_18 at h
  refine EW_iload (pc2 := 20) rfl dX6_openTo_18 4 rfl ?_
  refine EW_aload_n (pc2 := 21) rfl dX6_openTo_20 0 rfl ?_
  refine AW_geti ⟨gfRX6_41, rfl⟩ (pc2 := 24) rfl dX6_openTo_21 q1 ?_
  refine EW_icmp_ge (tgt := 76) (pc2 := 27) rfl dX6_openTo_24 (by decide) (fun q => ?_) (fun q => ?_)
  · replace h := h.1 q
    refine EW_iload_n (pc2 := 77) rfl dX6_openTo_76 1 rfl ?_
    refine EW_iload (pc2 := 79) rfl dX6_openTo_77 3 rfl ?_
    refine EW_icmp_ne (tgt := 84) (pc2 := 82) rfl dX6_openTo_79 (by decide) (fun q => ?_) (fun q => ?_)
    · replace h := h.1 q
      refine EW_iinc (v3 + 1) (pc2 := 87) rfl dX6_openTo_84 2 rfl rfl (by decide) [1, 2, 0, 3, 4] [(0, .ref 1), (2, .int v2), (3, .int (v3 + 1)), (4, .int v4), (5, .int v5)] rfl ?_
      refine EW_goto (tgt := 6) dX6_openTo_87 (by decide) ?_
      refine EW_ls [0, 1, 2] rfl ?_
      exact hL6 v2 (v3 + 1) h
    · replace h := h.2 q
      refine EW_iload_n (pc2 := 83) rfl dX6_openTo_82 1 rfl ?_
      exact AW_iret rfl dX6_openTo_83 ⟨_, rfl, rfl, h⟩
  · replace h := h.2 q
    refine EW_iconst (pc2 := 28) (v := 1) rfl dX6_openTo_27 (by decide) ?_
    refine EW_aload_n (pc2 := 29) rfl dX6_openTo_28 0 rfl ?_
    refine AW_getr (r := 2) ⟨gfRX6_9, rfl⟩ (pc2 := 32) rfl dX6_openTo_29 q1 rfl ?_
    refine EW_iload (pc2 := 34) rfl dX6_openTo_32 4 rfl ?_
    obtain ⟨b1, h⟩ := h
    refine AW_iald (pc2 := 35) rfl dX6_openTo_34 q2 b1 ?_
    refine EW_ishl (pc2 := 36) rfl dX6_openTo_35 ?_
    refine EW_iconst (pc2 := 37) (v := 1) rfl dX6_openTo_36 (by decide) ?_
    refine EW_aload_n (pc2 := 38) rfl dX6_openTo_37 0 rfl ?_
    refine AW_getr (r := 3) ⟨gfRX6_15, rfl⟩ (pc2 := 41) rfl dX6_openTo_38 q1 rfl ?_
    refine EW_iload (pc2 := 43) rfl dX6_openTo_41 4 rfl ?_
    obtain ⟨b2, h⟩ := h
    refine AW_iald (pc2 := 44) rfl dX6_openTo_43 q3 b2 ?_
    refine EW_ishl (pc2 := 45) rfl dX6_openTo_44 ?_
    refine EW_ior (pc2 := 46) rfl dX6_openTo_45 ?_
    refine EW_istore (pc2 := 48) rfl dX6_openTo_46 (by decide) [1, 2, 3, 4, 5, 0] [(0, .ref 1), (2, .int v2), (3, .int v3), (4, .int v4), (5, .int v5), (6, .int ((1 <<< ((x.1 2 (Int32.toNatClampNeg v5)) &&& 31)) ||| (1 <<< ((x.1 3 (Int32.toNatClampNeg v5)) &&& 31))))] rfl ?_
    refine EW_aload_n (pc2 := 49) rfl dX6_openTo_48 0 rfl ?_
    refine AW_getr (r := 5) ⟨gfRX6_21, rfl⟩ (pc2 := 52) rfl dX6_openTo_49 q1 rfl ?_
    refine EW_iload (pc2 := 54) rfl dX6_openTo_52 4 rfl ?_
    obtain ⟨b3, h⟩ := h
    refine AW_zald (pc2 := 55) rfl dX6_openTo_54 q5 b3 ?_
    refine EW_if_ne (tgt := 70) (pc2 := 58) rfl dX6_openTo_55 (by decide) (fun q => ?_) (fun q => ?_)
    · replace h := h.1 q
      refine EW_iinc (v5 + 1) (pc2 := 73) rfl dX6_openTo_70 4 rfl rfl (by decide) [1, 2, 3, 4, 0, 5] [(0, .ref 1), (2, .int v2), (3, .int v3), (4, .int v4), (5, .int (v5 + 1)), (6, .int ((1 <<< ((x.1 2 (Int32.toNatClampNeg v5)) &&& 31)) ||| (1 <<< ((x.1 3 (Int32.toNatClampNeg v5)) &&& 31))))] rfl ?_
      refine EW_goto (tgt := 18) dX6_openTo_73 (by decide) ?_
      refine EW_ls [0, 1, 2, 3, 4] rfl ?_
      exact hL18 v2 (v5 + 1) h
    · replace h := h.2 q
      refine EW_iload_n (pc2 := 59) rfl dX6_openTo_58 1 rfl ?_
      refine EW_iload (pc2 := 61) rfl dX6_openTo_59 5 rfl ?_
      refine EW_iand (pc2 := 62) rfl dX6_openTo_61 ?_
      refine EW_if_eq (tgt := 70) (pc2 := 65) rfl dX6_openTo_62 (by decide) (fun q => ?_) (fun q => ?_)
      · replace h := h.1 q
        refine EW_iinc (v5 + 1) (pc2 := 73) rfl dX6_openTo_70 4 rfl rfl (by decide) [1, 2, 3, 4, 0, 5] [(0, .ref 1), (2, .int v2), (3, .int v3), (4, .int v4), (5, .int (v5 + 1)), (6, .int ((1 <<< ((x.1 2 (Int32.toNatClampNeg v5)) &&& 31)) ||| (1 <<< ((x.1 3 (Int32.toNatClampNeg v5)) &&& 31))))] rfl ?_
        refine EW_goto (tgt := 18) dX6_openTo_73 (by decide) ?_
        refine EW_ls [0, 1, 2, 3, 4] rfl ?_
        exact hL18 v2 (v5 + 1) h
      · replace h := h.2 q
        refine EW_iload_n (pc2 := 66) rfl dX6_openTo_65 1 rfl ?_
        refine EW_iload (pc2 := 68) rfl dX6_openTo_66 5 rfl ?_
        refine EW_ior (pc2 := 69) rfl dX6_openTo_68 ?_
        refine EW_istore_n (pc2 := 70) rfl dX6_openTo_69 (by decide) [1, 0, 2, 3, 4, 5] [(0, .ref 1), (2, .int (v2 ||| ((1 <<< ((x.1 2 (Int32.toNatClampNeg v5)) &&& 31)) ||| (1 <<< ((x.1 3 (Int32.toNatClampNeg v5)) &&& 31))))), (3, .int v3), (4, .int v4), (5, .int v5), (6, .int ((1 <<< ((x.1 2 (Int32.toNatClampNeg v5)) &&& 31)) ||| (1 <<< ((x.1 3 (Int32.toNatClampNeg v5)) &&& 31))))] rfl ?_
        refine EW_iinc (v5 + 1) (pc2 := 73) rfl dX6_openTo_70 4 rfl rfl (by decide) [1, 2, 3, 4, 0, 5] [(0, .ref 1), (2, .int (v2 ||| ((1 <<< ((x.1 2 (Int32.toNatClampNeg v5)) &&& 31)) ||| (1 <<< ((x.1 3 (Int32.toNatClampNeg v5)) &&& 31))))), (3, .int v3), (4, .int v4), (5, .int (v5 + 1)), (6, .int ((1 <<< ((x.1 2 (Int32.toNatClampNeg v5)) &&& 31)) ||| (1 <<< ((x.1 3 (Int32.toNatClampNeg v5)) &&& 31))))] rfl ?_
        refine EW_goto (tgt := 18) dX6_openTo_73 (by decide) ?_
        refine EW_ls [0, 1, 2, 3, 4] rfl ?_
        exact hL18 (v2 ||| ((1 <<< ((x.1 2 (Int32.toNatClampNeg v5)) &&& 31)) ||| (1 <<< ((x.1 3 (Int32.toNatClampNeg v5)) &&& 31)))) (v5 + 1) h
set_option maxHeartbeats 4000000 in
set_option maxRecDepth 100000 in
theorem sX6_openTo_6 (v2 : Int32) (v3 : Int32)  (x : ab_X) (K : Int32 → Prop)  (d bc bs : Nat) (hdp : 0 ≤ d)  (h : Lp2 (lX6_openTo_6  x K ) v2 v3) : EW MX6_openTo 6 [(0, .ref 1), (2, .int v2), (3, .int v3)] [] (aS x) d bc bs (liP x K) := by
  refine Lp2.use (P := fun v2 v3 => EW MX6_openTo 6 [(0, .ref 1), (2, .int v2), (3, .int v3)] [] (aS x) d bc bs (liP x K)) (fun L6 v2 v3 hL6 h => ?_) v2 v3 h
  unfold lX6_openTo_6 at h
  refine EW_iload_n (pc2 := 7) rfl dX6_openTo_6 2 rfl ?_
  refine EW_bipush (pc2 := 9) (v := 20) rfl dX6_openTo_7 (by decide) ?_
  refine EW_icmp_ge (tgt := 90) (pc2 := 12) rfl dX6_openTo_9 (by decide) (fun q => ?_) (fun q => ?_)
  · replace h := h.1 q
    refine EW_iload_n (pc2 := 91) rfl dX6_openTo_90 1 rfl ?_
    exact AW_iret rfl dX6_openTo_91 ⟨_, rfl, rfl, h⟩
  · replace h := h.2 q
    refine EW_iload_n (pc2 := 13) rfl dX6_openTo_12 1 rfl ?_
    refine EW_istore (pc2 := 15) rfl dX6_openTo_13 (by decide) [1, 2, 3, 0] [(0, .ref 1), (2, .int v2), (3, .int v3), (4, .int v2)] rfl ?_
    refine EW_iconst (pc2 := 16) (v := 0) rfl dX6_openTo_15 (by decide) ?_
    refine EW_istore (pc2 := 18) rfl dX6_openTo_16 (by decide) [1, 2, 3, 4, 0] [(0, .ref 1), (2, .int v2), (3, .int v3), (4, .int v2), (5, .int 0)] rfl ?_
    exact sX6_openTo_18 v2 v3 v2 0 x K L6 d bc bs hdp hL6 h
set_option maxHeartbeats 4000000 in
set_option maxRecDepth 100000 in
theorem sX6_openTo (v1 : Int32)  (x : ab_X) (K : Int32 → Prop) (d bc bs : Nat) (hdp : 0 ≤ d) (h : wX6_openTo v1 x K) : EW MX6_openTo 0 [(0, .ref 1), (1, .int v1)] [] (aS x) d bc bs (liP x K) := by
  unfold wX6_openTo at h
  refine EW_iconst (pc2 := 1) (v := 1) rfl dX6_openTo_0 (by decide) ?_
  refine EW_iload_n (pc2 := 2) rfl dX6_openTo_1 1 rfl ?_
  refine EW_ishl (pc2 := 3) rfl dX6_openTo_2 ?_
  refine EW_istore_n (pc2 := 4) rfl dX6_openTo_3 (by decide) [1, 2, 0] [(0, .ref 1), (1, .int v1), (2, .int (1 <<< (v1 &&& 31)))] rfl ?_
  refine EW_iconst (pc2 := 5) (v := 0) rfl dX6_openTo_4 (by decide) ?_
  refine EW_istore_n (pc2 := 6) rfl dX6_openTo_5 (by decide) [1, 2, 3, 0] [(0, .ref 1), (1, .int v1), (2, .int (1 <<< (v1 &&& 31))), (3, .int 0)] rfl ?_
  refine EW_ls [0, 2, 3] rfl ?_
  exact sX6_openTo_6 (1 <<< (v1 &&& 31)) 0 x K d bc bs hdp h
abbrev MX6_partOf : ab_M := (yX6_partOf, cX6_partOf, 1, (some .int))
theorem dX6_partOf_0 : decode cX6_partOf 0 = .ok (.iload_n 0, 1) := by decide +kernel
theorem dX6_partOf_1 : decode cX6_partOf 1 = .ok (.sipush 360, 3) := by decide +kernel
theorem dX6_partOf_4 : decode cX6_partOf 4 = .ok (.idiv, 1) := by decide +kernel
theorem dX6_partOf_5 : decode cX6_partOf 5 = .ok (.iconst 4, 1) := by decide +kernel
theorem dX6_partOf_6 : decode cX6_partOf 6 = .ok (.irem, 1) := by decide +kernel
theorem dX6_partOf_7 : decode cX6_partOf 7 = .ok (.ireturn, 1) := by decide +kernel
theorem okX6_partOf : ab_okM MX6_partOf 1 := ⟨by decide, ⟨by decide, by decide⟩, ab_in 814 (by decide +kernel) (by decide +kernel), ab_in 87 (by decide +kernel) (by decide +kernel), by decide +kernel, by decide⟩
set_option maxHeartbeats 4000000 in
set_option maxRecDepth 100000 in
theorem sX6_partOf (v0 : Int32)  (x : ab_X) (K : Int32 → Prop) (d bc bs : Nat) (hdp : 0 ≤ d) (h : wX6_partOf v0 x K) : EW MX6_partOf 0 [(0, .int v0)] [] (aS x) d bc bs (liP x K) := by
  unfold wX6_partOf at h
  refine EW_iload_n (pc2 := 1) rfl dX6_partOf_0 0 rfl ?_
  refine EW_sipush (pc2 := 4) (v := 360) rfl dX6_partOf_1 (by decide) ?_
  refine EW_idiv (pc2 := 5) rfl dX6_partOf_4 (by decide) ?_
  refine EW_iconst (pc2 := 6) (v := 4) rfl dX6_partOf_5 (by decide) ?_
  refine EW_irem (pc2 := 7) rfl dX6_partOf_6 (by decide) ?_
  exact AW_iret rfl dX6_partOf_7 ⟨_, rfl, rfl, h⟩
theorem gfRX6_31 : ab_L RX6 31 6 6 := ⟨by decide, by decide, ab_in 139 (by decide +kernel) (by decide +kernel)⟩
theorem gfRX6_18 : ab_L RX6 18 6 2 := ⟨by decide, by decide, ab_in 133 (by decide +kernel) (by decide +kernel)⟩
theorem gfRX6_25 : ab_L RX6 25 6 4 := ⟨by decide, by decide, ab_in 136 (by decide +kernel) (by decide +kernel)⟩
abbrev MX6_spread : ab_M := (yX6_spread, cX6_spread, 7, none)
theorem dX6_spread_0 : decode cX6_spread 0 = .ok (.aload_n 0, 1) := by decide +kernel
theorem dX6_spread_1 : decode cX6_spread 1 = .ok (.getfield 31, 3) := by decide +kernel
theorem dX6_spread_4 : decode cX6_spread 4 = .ok (.iload_n 1, 1) := by decide +kernel
theorem dX6_spread_5 : decode cX6_spread 5 = .ok (.iaload, 1) := by decide +kernel
theorem dX6_spread_6 : decode cX6_spread 6 = .ok (.istore 4, 2) := by decide +kernel
theorem dX6_spread_8 : decode cX6_spread 8 = .ok (.iconst 0, 1) := by decide +kernel
theorem dX6_spread_9 : decode cX6_spread 9 = .ok (.istore 5, 2) := by decide +kernel
theorem dX6_spread_11 : decode cX6_spread 11 = .ok (.iload 5, 2) := by decide +kernel
theorem dX6_spread_13 : decode cX6_spread 13 = .ok (.aload_n 0, 1) := by decide +kernel
theorem dX6_spread_14 : decode cX6_spread 14 = .ok (.getfield 41, 3) := by decide +kernel
theorem dX6_spread_17 : decode cX6_spread 17 = .ok (.if_icmp .ge 138, 3) := by decide +kernel
theorem dX6_spread_20 : decode cX6_spread 20 = .ok (.iload_n 1, 1) := by decide +kernel
theorem dX6_spread_21 : decode cX6_spread 21 = .ok (.aload_n 0, 1) := by decide +kernel
theorem dX6_spread_22 : decode cX6_spread 22 = .ok (.getfield 18, 3) := by decide +kernel
theorem dX6_spread_25 : decode cX6_spread 25 = .ok (.iload 5, 2) := by decide +kernel
theorem dX6_spread_27 : decode cX6_spread 27 = .ok (.iaload, 1) := by decide +kernel
theorem dX6_spread_28 : decode cX6_spread 28 = .ok (.aload_n 0, 1) := by decide +kernel
theorem dX6_spread_29 : decode cX6_spread 29 = .ok (.getfield 25, 3) := by decide +kernel
theorem dX6_spread_32 : decode cX6_spread 32 = .ok (.iload 5, 2) := by decide +kernel
theorem dX6_spread_34 : decode cX6_spread 34 = .ok (.iconst 4, 1) := by decide +kernel
theorem dX6_spread_35 : decode cX6_spread 35 = .ok (.imul, 1) := by decide +kernel
theorem dX6_spread_36 : decode cX6_spread 36 = .ok (.iload_n 2, 1) := by decide +kernel
theorem dX6_spread_37 : decode cX6_spread 37 = .ok (.iadd, 1) := by decide +kernel
theorem dX6_spread_38 : decode cX6_spread 38 = .ok (.iaload, 1) := by decide +kernel
theorem dX6_spread_39 : decode cX6_spread 39 = .ok (.imul, 1) := by decide +kernel
theorem dX6_spread_40 : decode cX6_spread 40 = .ok (.iload_n 3, 1) := by decide +kernel
theorem dX6_spread_41 : decode cX6_spread 41 = .ok (.imul, 1) := by decide +kernel
theorem dX6_spread_42 : decode cX6_spread 42 = .ok (.sipush 9999, 3) := by decide +kernel
theorem dX6_spread_45 : decode cX6_spread 45 = .ok (.iadd, 1) := by decide +kernel
theorem dX6_spread_46 : decode cX6_spread 46 = .ok (.sipush 10000, 3) := by decide +kernel
theorem dX6_spread_49 : decode cX6_spread 49 = .ok (.idiv, 1) := by decide +kernel
theorem dX6_spread_50 : decode cX6_spread 50 = .ok (.iadd, 1) := by decide +kernel
theorem dX6_spread_51 : decode cX6_spread 51 = .ok (.istore 6, 2) := by decide +kernel
theorem dX6_spread_53 : decode cX6_spread 53 = .ok (.aload_n 0, 1) := by decide +kernel
theorem dX6_spread_54 : decode cX6_spread 54 = .ok (.getfield 21, 3) := by decide +kernel
theorem dX6_spread_57 : decode cX6_spread 57 = .ok (.iload 5, 2) := by decide +kernel
theorem dX6_spread_59 : decode cX6_spread 59 = .ok (.baload, 1) := by decide +kernel
theorem dX6_spread_60 : decode cX6_spread 60 = .ok (.ifCond .ne 89, 3) := by decide +kernel
theorem dX6_spread_63 : decode cX6_spread 63 = .ok (.iload 6, 2) := by decide +kernel
theorem dX6_spread_65 : decode cX6_spread 65 = .ok (.ifCond .lt 84, 3) := by decide +kernel
theorem dX6_spread_68 : decode cX6_spread 68 = .ok (.iload 6, 2) := by decide +kernel
theorem dX6_spread_70 : decode cX6_spread 70 = .ok (.sipush 600, 3) := by decide +kernel
theorem dX6_spread_73 : decode cX6_spread 73 = .ok (.if_icmp .le 6, 3) := by decide +kernel
theorem dX6_spread_76 : decode cX6_spread 76 = .ok (.goto 73, 3) := by decide +kernel
theorem dX6_spread_79 : decode cX6_spread 79 = .ok (.iload 4, 2) := by decide +kernel
theorem dX6_spread_81 : decode cX6_spread 81 = .ok (.aload_n 0, 1) := by decide +kernel
theorem dX6_spread_82 : decode cX6_spread 82 = .ok (.getfield 9, 3) := by decide +kernel
theorem dX6_spread_85 : decode cX6_spread 85 = .ok (.iload 5, 2) := by decide +kernel
theorem dX6_spread_87 : decode cX6_spread 87 = .ok (.iaload, 1) := by decide +kernel
theorem dX6_spread_88 : decode cX6_spread 88 = .ok (.ishr, 1) := by decide +kernel
theorem dX6_spread_89 : decode cX6_spread 89 = .ok (.iconst 1, 1) := by decide +kernel
theorem dX6_spread_90 : decode cX6_spread 90 = .ok (.iand, 1) := by decide +kernel
theorem dX6_spread_91 : decode cX6_spread 91 = .ok (.iconst 1, 1) := by decide +kernel
theorem dX6_spread_92 : decode cX6_spread 92 = .ok (.if_icmp .ne 22, 3) := by decide +kernel
theorem dX6_spread_95 : decode cX6_spread 95 = .ok (.aload_n 0, 1) := by decide +kernel
theorem dX6_spread_96 : decode cX6_spread 96 = .ok (.getfield 31, 3) := by decide +kernel
theorem dX6_spread_99 : decode cX6_spread 99 = .ok (.iload 6, 2) := by decide +kernel
theorem dX6_spread_101 : decode cX6_spread 101 = .ok (.dup2, 1) := by decide +kernel
theorem dX6_spread_102 : decode cX6_spread 102 = .ok (.iaload, 1) := by decide +kernel
theorem dX6_spread_103 : decode cX6_spread 103 = .ok (.iconst 1, 1) := by decide +kernel
theorem dX6_spread_104 : decode cX6_spread 104 = .ok (.aload_n 0, 1) := by decide +kernel
theorem dX6_spread_105 : decode cX6_spread 105 = .ok (.getfield 15, 3) := by decide +kernel
theorem dX6_spread_108 : decode cX6_spread 108 = .ok (.iload 5, 2) := by decide +kernel
theorem dX6_spread_110 : decode cX6_spread 110 = .ok (.iaload, 1) := by decide +kernel
theorem dX6_spread_111 : decode cX6_spread 111 = .ok (.ishl, 1) := by decide +kernel
theorem dX6_spread_112 : decode cX6_spread 112 = .ok (.ior, 1) := by decide +kernel
theorem dX6_spread_113 : decode cX6_spread 113 = .ok (.iastore, 1) := by decide +kernel
theorem dX6_spread_114 : decode cX6_spread 114 = .ok (.iload 4, 2) := by decide +kernel
theorem dX6_spread_116 : decode cX6_spread 116 = .ok (.aload_n 0, 1) := by decide +kernel
theorem dX6_spread_117 : decode cX6_spread 117 = .ok (.getfield 15, 3) := by decide +kernel
theorem dX6_spread_120 : decode cX6_spread 120 = .ok (.iload 5, 2) := by decide +kernel
theorem dX6_spread_122 : decode cX6_spread 122 = .ok (.iaload, 1) := by decide +kernel
theorem dX6_spread_123 : decode cX6_spread 123 = .ok (.ishr, 1) := by decide +kernel
theorem dX6_spread_124 : decode cX6_spread 124 = .ok (.iconst 1, 1) := by decide +kernel
theorem dX6_spread_125 : decode cX6_spread 125 = .ok (.iand, 1) := by decide +kernel
theorem dX6_spread_126 : decode cX6_spread 126 = .ok (.iconst 1, 1) := by decide +kernel
theorem dX6_spread_127 : decode cX6_spread 127 = .ok (.if_icmp .ne 22, 3) := by decide +kernel
theorem dX6_spread_130 : decode cX6_spread 130 = .ok (.aload_n 0, 1) := by decide +kernel
theorem dX6_spread_131 : decode cX6_spread 131 = .ok (.getfield 31, 3) := by decide +kernel
theorem dX6_spread_134 : decode cX6_spread 134 = .ok (.iload 6, 2) := by decide +kernel
theorem dX6_spread_136 : decode cX6_spread 136 = .ok (.dup2, 1) := by decide +kernel
theorem dX6_spread_137 : decode cX6_spread 137 = .ok (.iaload, 1) := by decide +kernel
theorem dX6_spread_138 : decode cX6_spread 138 = .ok (.iconst 1, 1) := by decide +kernel
theorem dX6_spread_139 : decode cX6_spread 139 = .ok (.aload_n 0, 1) := by decide +kernel
theorem dX6_spread_140 : decode cX6_spread 140 = .ok (.getfield 9, 3) := by decide +kernel
theorem dX6_spread_143 : decode cX6_spread 143 = .ok (.iload 5, 2) := by decide +kernel
theorem dX6_spread_145 : decode cX6_spread 145 = .ok (.iaload, 1) := by decide +kernel
theorem dX6_spread_146 : decode cX6_spread 146 = .ok (.ishl, 1) := by decide +kernel
theorem dX6_spread_147 : decode cX6_spread 147 = .ok (.ior, 1) := by decide +kernel
theorem dX6_spread_148 : decode cX6_spread 148 = .ok (.iastore, 1) := by decide +kernel
theorem dX6_spread_149 : decode cX6_spread 149 = .ok (.iinc 5 1, 3) := by decide +kernel
theorem dX6_spread_152 : decode cX6_spread 152 = .ok (.goto (-141), 3) := by decide +kernel
theorem dX6_spread_155 : decode cX6_spread 155 = .ok (.return_, 1) := by decide +kernel
theorem okX6_spread : ab_okM MX6_spread 3 := ⟨by decide, ⟨by decide, by decide⟩, ab_in 818 (by decide +kernel) (by decide +kernel), ab_in 87 (by decide +kernel) (by decide +kernel), by decide +kernel, by decide⟩
set_option maxHeartbeats 4000000 in
set_option maxRecDepth 100000 in
theorem sX6_spread_114 (v1 : Int32) (v2 : Int32) (v3 : Int32) (v4 : Int32) (v5 : Int32) (v6 : Int32)  (x : ab_X) (K : ab_X → Prop) (L11 : Int32 → ab_X → Prop) (d bc bs : Nat) (hdp : 0 ≤ d) (hL11 : ∀ (v5 : Int32) (x : ab_X), L11 v5 x → EW MX6_spread 11 [(0, .ref 1), (1, .int v1), (2, .int v2), (3, .int v3), (4, .int v4), (5, .int v5)] [] (aS x) d bc bs (liV K)) (h : wX6_spread_114 v1 v2 v3 v4 v5 v6 x K L11) : EW MX6_spread 114 [(0, .ref 1), (1, .int v1), (2, .int v2), (3, .int v3), (4, .int v4), (5, .int v5), (6, .int v6)] [] (aS x) d bc bs (liV K) := by
  unfold wX6_spread_114 at h
  refine EW_iload (pc2 := 116) rfl dX6_spread_114 4 rfl ?_
  refine EW_aload_n (pc2 := 117) rfl dX6_spread_116 0 rfl ?_
  refine AW_getr (r := 3) ⟨gfRX6_15, rfl⟩ (pc2 := 120) rfl dX6_spread_117 q1 rfl ?_
  refine EW_iload (pc2 := 122) rfl dX6_spread_120 5 rfl ?_
  obtain ⟨b9, h⟩ := h
  refine AW_iald (pc2 := 123) rfl dX6_spread_122 q3 b9 ?_
  refine EW_ishr (pc2 := 124) rfl dX6_spread_123 ?_
  refine EW_iconst (pc2 := 125) (v := 1) rfl dX6_spread_124 (by decide) ?_
  refine EW_iand (pc2 := 126) rfl dX6_spread_125 ?_
  refine EW_iconst (pc2 := 127) (v := 1) rfl dX6_spread_126 (by decide) ?_
  refine EW_icmp_ne (tgt := 149) (pc2 := 130) rfl dX6_spread_127 (by decide) (fun q => ?_) (fun q => ?_)
  · replace h := h.1 q
    refine EW_iinc (v5 + 1) (pc2 := 152) rfl dX6_spread_149 5 rfl rfl (by decide) [1, 2, 3, 4, 5, 0, 6] [(0, .ref 1), (1, .int v1), (2, .int v2), (3, .int v3), (4, .int v4), (5, .int (v5 + 1)), (6, .int v6)] rfl ?_
    refine EW_goto (tgt := 11) dX6_spread_152 (by decide) ?_
    refine EW_ls [0, 1, 2, 3, 4, 5] rfl ?_
    exact hL11 (v5 + 1) x h
  · replace h := h.2 q
    refine EW_aload_n (pc2 := 131) rfl dX6_spread_130 0 rfl ?_
    refine AW_getr (r := 8) ⟨gfRX6_31, rfl⟩ (pc2 := 134) rfl dX6_spread_131 q1 rfl ?_
    refine EW_iload (pc2 := 136) rfl dX6_spread_134 6 rfl ?_
    refine EW_dup2 (pc2 := 137) rfl dX6_spread_136 rfl rfl ?_
    obtain ⟨b10, h⟩ := h
    refine AW_iald (pc2 := 138) rfl dX6_spread_137 q8 b10 ?_
    refine EW_iconst (pc2 := 139) (v := 1) rfl dX6_spread_138 (by decide) ?_
    refine EW_aload_n (pc2 := 140) rfl dX6_spread_139 0 rfl ?_
    refine AW_getr (r := 2) ⟨gfRX6_9, rfl⟩ (pc2 := 143) rfl dX6_spread_140 q1 rfl ?_
    refine EW_iload (pc2 := 145) rfl dX6_spread_143 5 rfl ?_
    obtain ⟨b11, h⟩ := h
    refine AW_iald (pc2 := 146) rfl dX6_spread_145 q2 b11 ?_
    refine EW_ishl (pc2 := 147) rfl dX6_spread_146 ?_
    refine EW_ior (pc2 := 148) rfl dX6_spread_147 ?_
    obtain ⟨b12, h⟩ := h
    refine AW_iast (pc2 := 149) rfl dX6_spread_148 q8 b12 ?_
    refine EW_iinc (v5 + 1) (pc2 := 152) rfl dX6_spread_149 5 rfl rfl (by decide) [1, 2, 3, 4, 5, 0, 6] [(0, .ref 1), (1, .int v1), (2, .int v2), (3, .int v3), (4, .int v4), (5, .int (v5 + 1)), (6, .int v6)] rfl ?_
    refine EW_goto (tgt := 11) dX6_spread_152 (by decide) ?_
    refine EW_ls [0, 1, 2, 3, 4, 5] rfl ?_
    exact hL11 (v5 + 1) (wr x 8 (Int32.toNatClampNeg v6) ((x.1 8 (Int32.toNatClampNeg v6)) ||| (1 <<< ((x.1 2 (Int32.toNatClampNeg v5)) &&& 31)))) h
set_option maxHeartbeats 4000000 in
set_option maxRecDepth 100000 in
theorem sX6_spread_11 (v1 : Int32) (v2 : Int32) (v3 : Int32) (v4 : Int32) (v5 : Int32)  (x : ab_X) (K : ab_X → Prop)  (d bc bs : Nat) (hdp : 0 ≤ d)  (h : Lp2 (lX6_spread_11 v1 v2 v3 v4 K ) v5 x) : EW MX6_spread 11 [(0, .ref 1), (1, .int v1), (2, .int v2), (3, .int v3), (4, .int v4), (5, .int v5)] [] (aS x) d bc bs (liV K) := by
  refine Lp2.use (P := fun v5 x => EW MX6_spread 11 [(0, .ref 1), (1, .int v1), (2, .int v2), (3, .int v3), (4, .int v4), (5, .int v5)] [] (aS x) d bc bs (liV K)) (fun L11 v5 x hL11 h => ?_) v5 x h
  unfold lX6_spread_11 at h
  refine EW_iload (pc2 := 13) rfl dX6_spread_11 5 rfl ?_
  refine EW_aload_n (pc2 := 14) rfl dX6_spread_13 0 rfl ?_
  refine AW_geti ⟨gfRX6_41, rfl⟩ (pc2 := 17) rfl dX6_spread_14 q1 ?_
  refine EW_icmp_ge (tgt := 155) (pc2 := 20) rfl dX6_spread_17 (by decide) (fun q => ?_) (fun q => ?_)
  · replace h := h.1 q
    exact EW_vret rfl dX6_spread_155 ⟨_, rfl, rfl, h⟩
  · replace h := h.2 q
    refine EW_iload_n (pc2 := 21) rfl dX6_spread_20 1 rfl ?_
    refine EW_aload_n (pc2 := 22) rfl dX6_spread_21 0 rfl ?_
    refine AW_getr (r := 4) ⟨gfRX6_18, rfl⟩ (pc2 := 25) rfl dX6_spread_22 q1 rfl ?_
    refine EW_iload (pc2 := 27) rfl dX6_spread_25 5 rfl ?_
    obtain ⟨b2, h⟩ := h
    refine AW_iald (pc2 := 28) rfl dX6_spread_27 q4 b2 ?_
    refine EW_aload_n (pc2 := 29) rfl dX6_spread_28 0 rfl ?_
    refine AW_getr (r := 6) ⟨gfRX6_25, rfl⟩ (pc2 := 32) rfl dX6_spread_29 q1 rfl ?_
    refine EW_iload (pc2 := 34) rfl dX6_spread_32 5 rfl ?_
    refine EW_iconst (pc2 := 35) (v := 4) rfl dX6_spread_34 (by decide) ?_
    refine EW_imul (pc2 := 36) rfl dX6_spread_35 ?_
    refine EW_iload_n (pc2 := 37) rfl dX6_spread_36 2 rfl ?_
    refine EW_iadd (pc2 := 38) rfl dX6_spread_37 ?_
    obtain ⟨b3, h⟩ := h
    refine AW_iald (pc2 := 39) rfl dX6_spread_38 q6 b3 ?_
    refine EW_imul (pc2 := 40) rfl dX6_spread_39 ?_
    refine EW_iload_n (pc2 := 41) rfl dX6_spread_40 3 rfl ?_
    refine EW_imul (pc2 := 42) rfl dX6_spread_41 ?_
    refine EW_sipush (pc2 := 45) (v := 9999) rfl dX6_spread_42 (by decide) ?_
    refine EW_iadd (pc2 := 46) rfl dX6_spread_45 ?_
    refine EW_sipush (pc2 := 49) (v := 10000) rfl dX6_spread_46 (by decide) ?_
    refine EW_idiv (pc2 := 50) rfl dX6_spread_49 (by decide) ?_
    refine EW_iadd (pc2 := 51) rfl dX6_spread_50 ?_
    refine EW_istore (pc2 := 53) rfl dX6_spread_51 (by decide) [1, 2, 3, 4, 5, 6, 0] [(0, .ref 1), (1, .int v1), (2, .int v2), (3, .int v3), (4, .int v4), (5, .int v5), (6, .int (v1 + (((((x.1 4 (Int32.toNatClampNeg v5)) * (x.1 6 (Int32.toNatClampNeg ((v5 * 4) + v2)))) * v3) + 9999) / 10000)))] rfl ?_
    refine EW_aload_n (pc2 := 54) rfl dX6_spread_53 0 rfl ?_
    refine AW_getr (r := 5) ⟨gfRX6_21, rfl⟩ (pc2 := 57) rfl dX6_spread_54 q1 rfl ?_
    refine EW_iload (pc2 := 59) rfl dX6_spread_57 5 rfl ?_
    obtain ⟨b4, h⟩ := h
    refine AW_zald (pc2 := 60) rfl dX6_spread_59 q5 b4 ?_
    refine EW_if_ne (tgt := 149) (pc2 := 63) rfl dX6_spread_60 (by decide) (fun q => ?_) (fun q => ?_)
    · replace h := h.1 q
      refine EW_iinc (v5 + 1) (pc2 := 152) rfl dX6_spread_149 5 rfl rfl (by decide) [1, 2, 3, 4, 5, 0, 6] [(0, .ref 1), (1, .int v1), (2, .int v2), (3, .int v3), (4, .int v4), (5, .int (v5 + 1)), (6, .int (v1 + (((((x.1 4 (Int32.toNatClampNeg v5)) * (x.1 6 (Int32.toNatClampNeg ((v5 * 4) + v2)))) * v3) + 9999) / 10000)))] rfl ?_
      refine EW_goto (tgt := 11) dX6_spread_152 (by decide) ?_
      refine EW_ls [0, 1, 2, 3, 4, 5] rfl ?_
      exact hL11 (v5 + 1) x h
    · replace h := h.2 q
      refine EW_iload (pc2 := 65) rfl dX6_spread_63 6 rfl ?_
      refine EW_if_lt (tgt := 149) (pc2 := 68) rfl dX6_spread_65 (by decide) (fun q => ?_) (fun q => ?_)
      · replace h := h.1 q
        refine EW_iinc (v5 + 1) (pc2 := 152) rfl dX6_spread_149 5 rfl rfl (by decide) [1, 2, 3, 4, 5, 0, 6] [(0, .ref 1), (1, .int v1), (2, .int v2), (3, .int v3), (4, .int v4), (5, .int (v5 + 1)), (6, .int (v1 + (((((x.1 4 (Int32.toNatClampNeg v5)) * (x.1 6 (Int32.toNatClampNeg ((v5 * 4) + v2)))) * v3) + 9999) / 10000)))] rfl ?_
        refine EW_goto (tgt := 11) dX6_spread_152 (by decide) ?_
        refine EW_ls [0, 1, 2, 3, 4, 5] rfl ?_
        exact hL11 (v5 + 1) x h
      · replace h := h.2 q
        refine EW_iload (pc2 := 70) rfl dX6_spread_68 6 rfl ?_
        refine EW_sipush (pc2 := 73) (v := 600) rfl dX6_spread_70 (by decide) ?_
        refine EW_icmp_le (tgt := 79) (pc2 := 76) rfl dX6_spread_73 (by decide) (fun q => ?_) (fun q => ?_)
        · replace h := h.1 q
          refine EW_iload (pc2 := 81) rfl dX6_spread_79 4 rfl ?_
          refine EW_aload_n (pc2 := 82) rfl dX6_spread_81 0 rfl ?_
          refine AW_getr (r := 2) ⟨gfRX6_9, rfl⟩ (pc2 := 85) rfl dX6_spread_82 q1 rfl ?_
          refine EW_iload (pc2 := 87) rfl dX6_spread_85 5 rfl ?_
          obtain ⟨b5, h⟩ := h
          refine AW_iald (pc2 := 88) rfl dX6_spread_87 q2 b5 ?_
          refine EW_ishr (pc2 := 89) rfl dX6_spread_88 ?_
          refine EW_iconst (pc2 := 90) (v := 1) rfl dX6_spread_89 (by decide) ?_
          refine EW_iand (pc2 := 91) rfl dX6_spread_90 ?_
          refine EW_iconst (pc2 := 92) (v := 1) rfl dX6_spread_91 (by decide) ?_
          refine EW_icmp_ne (tgt := 114) (pc2 := 95) rfl dX6_spread_92 (by decide) (fun q => ?_) (fun q => ?_)
          · replace h := h.1 q
            exact sX6_spread_114 v1 v2 v3 v4 v5 (v1 + (((((x.1 4 (Int32.toNatClampNeg v5)) * (x.1 6 (Int32.toNatClampNeg ((v5 * 4) + v2)))) * v3) + 9999) / 10000)) x K L11 d bc bs hdp hL11 h
          · replace h := h.2 q
            refine EW_aload_n (pc2 := 96) rfl dX6_spread_95 0 rfl ?_
            refine AW_getr (r := 8) ⟨gfRX6_31, rfl⟩ (pc2 := 99) rfl dX6_spread_96 q1 rfl ?_
            refine EW_iload (pc2 := 101) rfl dX6_spread_99 6 rfl ?_
            refine EW_dup2 (pc2 := 102) rfl dX6_spread_101 rfl rfl ?_
            obtain ⟨b6, h⟩ := h
            refine AW_iald (pc2 := 103) rfl dX6_spread_102 q8 b6 ?_
            refine EW_iconst (pc2 := 104) (v := 1) rfl dX6_spread_103 (by decide) ?_
            refine EW_aload_n (pc2 := 105) rfl dX6_spread_104 0 rfl ?_
            refine AW_getr (r := 3) ⟨gfRX6_15, rfl⟩ (pc2 := 108) rfl dX6_spread_105 q1 rfl ?_
            refine EW_iload (pc2 := 110) rfl dX6_spread_108 5 rfl ?_
            obtain ⟨b7, h⟩ := h
            refine AW_iald (pc2 := 111) rfl dX6_spread_110 q3 b7 ?_
            refine EW_ishl (pc2 := 112) rfl dX6_spread_111 ?_
            refine EW_ior (pc2 := 113) rfl dX6_spread_112 ?_
            obtain ⟨b8, h⟩ := h
            refine AW_iast (pc2 := 114) rfl dX6_spread_113 q8 b8 ?_
            exact sX6_spread_114 v1 v2 v3 v4 v5 (v1 + (((((x.1 4 (Int32.toNatClampNeg v5)) * (x.1 6 (Int32.toNatClampNeg ((v5 * 4) + v2)))) * v3) + 9999) / 10000)) (wr x 8 (Int32.toNatClampNeg (v1 + (((((x.1 4 (Int32.toNatClampNeg v5)) * (x.1 6 (Int32.toNatClampNeg ((v5 * 4) + v2)))) * v3) + 9999) / 10000))) ((x.1 8 (Int32.toNatClampNeg (v1 + (((((x.1 4 (Int32.toNatClampNeg v5)) * (x.1 6 (Int32.toNatClampNeg ((v5 * 4) + v2)))) * v3) + 9999) / 10000)))) ||| (1 <<< ((x.1 3 (Int32.toNatClampNeg v5)) &&& 31)))) K L11 d bc bs hdp hL11 h
        · replace h := h.2 q
          refine EW_goto (tgt := 149) dX6_spread_76 (by decide) ?_
          refine EW_iinc (v5 + 1) (pc2 := 152) rfl dX6_spread_149 5 rfl rfl (by decide) [1, 2, 3, 4, 5, 0, 6] [(0, .ref 1), (1, .int v1), (2, .int v2), (3, .int v3), (4, .int v4), (5, .int (v5 + 1)), (6, .int (v1 + (((((x.1 4 (Int32.toNatClampNeg v5)) * (x.1 6 (Int32.toNatClampNeg ((v5 * 4) + v2)))) * v3) + 9999) / 10000)))] rfl ?_
          refine EW_goto (tgt := 11) dX6_spread_152 (by decide) ?_
          refine EW_ls [0, 1, 2, 3, 4, 5] rfl ?_
          exact hL11 (v5 + 1) x h
set_option maxHeartbeats 4000000 in
set_option maxRecDepth 100000 in
theorem sX6_spread (v1 : Int32) (v2 : Int32) (v3 : Int32)  (x : ab_X) (K : ab_X → Prop) (d bc bs : Nat) (hdp : 0 ≤ d) (h : wX6_spread v1 v2 v3 x K) : EW MX6_spread 0 [(0, .ref 1), (1, .int v1), (2, .int v2), (3, .int v3)] [] (aS x) d bc bs (liV K) := by
  unfold wX6_spread at h
  refine EW_aload_n (pc2 := 1) rfl dX6_spread_0 0 rfl ?_
  refine AW_getr (r := 8) ⟨gfRX6_31, rfl⟩ (pc2 := 4) rfl dX6_spread_1 q1 rfl ?_
  refine EW_iload_n (pc2 := 5) rfl dX6_spread_4 1 rfl ?_
  obtain ⟨b1, h⟩ := h
  refine AW_iald (pc2 := 6) rfl dX6_spread_5 q8 b1 ?_
  refine EW_istore (pc2 := 8) rfl dX6_spread_6 (by decide) [1, 2, 3, 4, 0] [(0, .ref 1), (1, .int v1), (2, .int v2), (3, .int v3), (4, .int (x.1 8 (Int32.toNatClampNeg v1)))] rfl ?_
  refine EW_iconst (pc2 := 9) (v := 0) rfl dX6_spread_8 (by decide) ?_
  refine EW_istore (pc2 := 11) rfl dX6_spread_9 (by decide) [1, 2, 3, 4, 5, 0] [(0, .ref 1), (1, .int v1), (2, .int v2), (3, .int v3), (4, .int (x.1 8 (Int32.toNatClampNeg v1))), (5, .int 0)] rfl ?_
  exact sX6_spread_11 v1 v2 v3 (x.1 8 (Int32.toNatClampNeg v1)) 0 x K d bc bs hdp h
theorem mlRX6_66 : Cond.methodLink RX6 66 yX6_partOf ∈ ab_G ∧ Cond.static yX6_partOf ∈ ab_G := ⟨ab_in 812 (by decide +kernel) (by decide +kernel), ab_in 813 (by decide +kernel) (by decide +kernel)⟩
theorem mlRX6_69 : Cond.methodLink RX6 69 yX6_spread ∈ ab_G ∧ Cond.instanceMethod yX6_spread ∈ ab_G ∧ Cond.selects RX6 yX6_spread yX6_spread ∈ ab_G := ⟨ab_in 815 (by decide +kernel) (by decide +kernel), ab_in 816 (by decide +kernel) (by decide +kernel), ab_in 817 (by decide +kernel) (by decide +kernel)⟩
theorem mlRX6_62 : Cond.methodLink RX6 62 yX6_openTo ∈ ab_G ∧ Cond.instanceMethod yX6_openTo ∈ ab_G ∧ Cond.selects RX6 yX6_openTo yX6_openTo ∈ ab_G := ⟨ab_in 808 (by decide +kernel) (by decide +kernel), ab_in 809 (by decide +kernel) (by decide +kernel), ab_in 810 (by decide +kernel) (by decide +kernel)⟩
theorem mlRX6_34 : Cond.methodLink RX6 34 yJ7_fill_53178 ∈ ab_G ∧ Cond.static yJ7_fill_53178 ∈ ab_G := ⟨ab_in 127 (by decide +kernel) (by decide +kernel), ab_in 128 (by decide +kernel) (by decide +kernel)⟩
abbrev MX6_arrival : ab_M := (yX6_arrival, cX6_arrival, 6, (some .int))
theorem dX6_arrival_0 : decode cX6_arrival 0 = .ok (.iload_n 1, 1) := by decide +kernel
theorem dX6_arrival_1 : decode cX6_arrival 1 = .ok (.invokestatic 58, 3) := by decide +kernel
theorem dX6_arrival_4 : decode cX6_arrival 4 = .ok (.ifCond .eq 22, 3) := by decide +kernel
theorem dX6_arrival_7 : decode cX6_arrival 7 = .ok (.iload_n 2, 1) := by decide +kernel
theorem dX6_arrival_8 : decode cX6_arrival 8 = .ok (.invokestatic 58, 3) := by decide +kernel
theorem dX6_arrival_11 : decode cX6_arrival 11 = .ok (.ifCond .eq 15, 3) := by decide +kernel
theorem dX6_arrival_14 : decode cX6_arrival 14 = .ok (.aload_n 0, 1) := by decide +kernel
theorem dX6_arrival_15 : decode cX6_arrival 15 = .ok (.iload_n 1, 1) := by decide +kernel
theorem dX6_arrival_16 : decode cX6_arrival 16 = .ok (.invokevirtual 62, 3) := by decide +kernel
theorem dX6_arrival_19 : decode cX6_arrival 19 = .ok (.iload_n 2, 1) := by decide +kernel
theorem dX6_arrival_20 : decode cX6_arrival 20 = .ok (.ishr, 1) := by decide +kernel
theorem dX6_arrival_21 : decode cX6_arrival 21 = .ok (.iconst 1, 1) := by decide +kernel
theorem dX6_arrival_22 : decode cX6_arrival 22 = .ok (.iand, 1) := by decide +kernel
theorem dX6_arrival_23 : decode cX6_arrival 23 = .ok (.ifCond .ne 5, 3) := by decide +kernel
theorem dX6_arrival_26 : decode cX6_arrival 26 = .ok (.iconst (-1), 1) := by decide +kernel
theorem dX6_arrival_27 : decode cX6_arrival 27 = .ok (.ireturn, 1) := by decide +kernel
theorem dX6_arrival_28 : decode cX6_arrival 28 = .ok (.aload_n 0, 1) := by decide +kernel
theorem dX6_arrival_29 : decode cX6_arrival 29 = .ok (.getfield 31, 3) := by decide +kernel
theorem dX6_arrival_32 : decode cX6_arrival 32 = .ok (.iconst 0, 1) := by decide +kernel
theorem dX6_arrival_33 : decode cX6_arrival 33 = .ok (.invokestatic 34, 3) := by decide +kernel
theorem dX6_arrival_36 : decode cX6_arrival 36 = .ok (.aload_n 0, 1) := by decide +kernel
theorem dX6_arrival_37 : decode cX6_arrival 37 = .ok (.getfield 31, 3) := by decide +kernel
theorem dX6_arrival_40 : decode cX6_arrival 40 = .ok (.iconst 0, 1) := by decide +kernel
theorem dX6_arrival_41 : decode cX6_arrival 41 = .ok (.iconst 1, 1) := by decide +kernel
theorem dX6_arrival_42 : decode cX6_arrival 42 = .ok (.iload_n 1, 1) := by decide +kernel
theorem dX6_arrival_43 : decode cX6_arrival 43 = .ok (.ishl, 1) := by decide +kernel
theorem dX6_arrival_44 : decode cX6_arrival 44 = .ok (.iastore, 1) := by decide +kernel
theorem dX6_arrival_45 : decode cX6_arrival 45 = .ok (.iconst 0, 1) := by decide +kernel
theorem dX6_arrival_46 : decode cX6_arrival 46 = .ok (.istore 5, 2) := by decide +kernel
theorem dX6_arrival_48 : decode cX6_arrival 48 = .ok (.iload 5, 2) := by decide +kernel
theorem dX6_arrival_50 : decode cX6_arrival 50 = .ok (.sipush 600, 3) := by decide +kernel
theorem dX6_arrival_53 : decode cX6_arrival 53 = .ok (.if_icmp .gt 54, 3) := by decide +kernel
theorem dX6_arrival_56 : decode cX6_arrival 56 = .ok (.aload_n 0, 1) := by decide +kernel
theorem dX6_arrival_57 : decode cX6_arrival 57 = .ok (.getfield 31, 3) := by decide +kernel
theorem dX6_arrival_60 : decode cX6_arrival 60 = .ok (.iload 5, 2) := by decide +kernel
theorem dX6_arrival_62 : decode cX6_arrival 62 = .ok (.iaload, 1) := by decide +kernel
theorem dX6_arrival_63 : decode cX6_arrival 63 = .ok (.iload_n 2, 1) := by decide +kernel
theorem dX6_arrival_64 : decode cX6_arrival 64 = .ok (.ishr, 1) := by decide +kernel
theorem dX6_arrival_65 : decode cX6_arrival 65 = .ok (.iconst 1, 1) := by decide +kernel
theorem dX6_arrival_66 : decode cX6_arrival 66 = .ok (.iand, 1) := by decide +kernel
theorem dX6_arrival_67 : decode cX6_arrival 67 = .ok (.iconst 1, 1) := by decide +kernel
theorem dX6_arrival_68 : decode cX6_arrival 68 = .ok (.if_icmp .ne 8, 3) := by decide +kernel
theorem dX6_arrival_71 : decode cX6_arrival 71 = .ok (.iload_n 3, 1) := by decide +kernel
theorem dX6_arrival_72 : decode cX6_arrival 72 = .ok (.iload 5, 2) := by decide +kernel
theorem dX6_arrival_74 : decode cX6_arrival 74 = .ok (.iadd, 1) := by decide +kernel
theorem dX6_arrival_75 : decode cX6_arrival 75 = .ok (.ireturn, 1) := by decide +kernel
theorem dX6_arrival_76 : decode cX6_arrival 76 = .ok (.aload_n 0, 1) := by decide +kernel
theorem dX6_arrival_77 : decode cX6_arrival 77 = .ok (.getfield 31, 3) := by decide +kernel
theorem dX6_arrival_80 : decode cX6_arrival 80 = .ok (.iload 5, 2) := by decide +kernel
theorem dX6_arrival_82 : decode cX6_arrival 82 = .ok (.iaload, 1) := by decide +kernel
theorem dX6_arrival_83 : decode cX6_arrival 83 = .ok (.ifCond .eq 18, 3) := by decide +kernel
theorem dX6_arrival_86 : decode cX6_arrival 86 = .ok (.aload_n 0, 1) := by decide +kernel
theorem dX6_arrival_87 : decode cX6_arrival 87 = .ok (.iload 5, 2) := by decide +kernel
theorem dX6_arrival_89 : decode cX6_arrival 89 = .ok (.iload_n 3, 1) := by decide +kernel
theorem dX6_arrival_90 : decode cX6_arrival 90 = .ok (.iload 5, 2) := by decide +kernel
theorem dX6_arrival_92 : decode cX6_arrival 92 = .ok (.iadd, 1) := by decide +kernel
theorem dX6_arrival_93 : decode cX6_arrival 93 = .ok (.invokestatic 66, 3) := by decide +kernel
theorem dX6_arrival_96 : decode cX6_arrival 96 = .ok (.iload 4, 2) := by decide +kernel
theorem dX6_arrival_98 : decode cX6_arrival 98 = .ok (.invokevirtual 69, 3) := by decide +kernel
theorem dX6_arrival_101 : decode cX6_arrival 101 = .ok (.iinc 5 1, 3) := by decide +kernel
theorem dX6_arrival_104 : decode cX6_arrival 104 = .ok (.goto (-56), 3) := by decide +kernel
theorem dX6_arrival_107 : decode cX6_arrival 107 = .ok (.iconst (-1), 1) := by decide +kernel
theorem dX6_arrival_108 : decode cX6_arrival 108 = .ok (.ireturn, 1) := by decide +kernel
theorem okX6_arrival : ab_okM MX6_arrival 4 := ⟨by decide, ⟨by decide, by decide⟩, ab_in 807 (by decide +kernel) (by decide +kernel), ab_in 87 (by decide +kernel) (by decide +kernel), by decide +kernel, by decide⟩
set_option maxHeartbeats 4000000 in
set_option maxRecDepth 100000 in
theorem sX6_arrival_48 (v2 : Int32) (v3 : Int32) (v4 : Int32) (v5 : Int32)  (x : ab_X) (K : Int32 → ab_X → Prop)  (d bc bs : Nat) (hdp : 1 ≤ d)  (h : Lp2 (lX6_arrival_48 v2 v3 v4 K ) v5 x) : EW MX6_arrival 48 [(0, .ref 1), (2, .int v2), (3, .int v3), (4, .int v4), (5, .int v5)] [] (aS x) d bc bs (liI K) := by
  refine Lp2.use (P := fun v5 x => EW MX6_arrival 48 [(0, .ref 1), (2, .int v2), (3, .int v3), (4, .int v4), (5, .int v5)] [] (aS x) d bc bs (liI K)) (fun L48 v5 x hL48 h => ?_) v5 x h
  unfold lX6_arrival_48 at h
  refine EW_iload (pc2 := 50) rfl dX6_arrival_48 4 rfl ?_
  refine EW_sipush (pc2 := 53) (v := 600) rfl dX6_arrival_50 (by decide) ?_
  refine EW_icmp_gt (tgt := 107) (pc2 := 56) rfl dX6_arrival_53 (by decide) (fun q => ?_) (fun q => ?_)
  · replace h := h.1 q
    refine EW_iconst (pc2 := 108) (v := (-1)) rfl dX6_arrival_107 (by decide) ?_
    exact AW_iret rfl dX6_arrival_108 ⟨_, _, rfl, rfl, h⟩
  · replace h := h.2 q
    refine EW_aload_n (pc2 := 57) rfl dX6_arrival_56 0 rfl ?_
    refine AW_getr (r := 8) ⟨gfRX6_31, rfl⟩ (pc2 := 60) rfl dX6_arrival_57 q1 rfl ?_
    refine EW_iload (pc2 := 62) rfl dX6_arrival_60 4 rfl ?_
    obtain ⟨b6, h⟩ := h
    refine AW_iald (pc2 := 63) rfl dX6_arrival_62 q8 b6 ?_
    refine EW_iload_n (pc2 := 64) rfl dX6_arrival_63 1 rfl ?_
    refine EW_ishr (pc2 := 65) rfl dX6_arrival_64 ?_
    refine EW_iconst (pc2 := 66) (v := 1) rfl dX6_arrival_65 (by decide) ?_
    refine EW_iand (pc2 := 67) rfl dX6_arrival_66 ?_
    refine EW_iconst (pc2 := 68) (v := 1) rfl dX6_arrival_67 (by decide) ?_
    refine EW_icmp_ne (tgt := 76) (pc2 := 71) rfl dX6_arrival_68 (by decide) (fun q => ?_) (fun q => ?_)
    · replace h := h.1 q
      refine EW_aload_n (pc2 := 77) rfl dX6_arrival_76 0 rfl ?_
      refine AW_getr (r := 8) ⟨gfRX6_31, rfl⟩ (pc2 := 80) rfl dX6_arrival_77 q1 rfl ?_
      refine EW_iload (pc2 := 82) rfl dX6_arrival_80 4 rfl ?_
      obtain ⟨b7, h⟩ := h
      refine AW_iald (pc2 := 83) rfl dX6_arrival_82 q8 b7 ?_
      refine EW_if_eq (tgt := 101) (pc2 := 86) rfl dX6_arrival_83 (by decide) (fun q => ?_) (fun q => ?_)
      · replace h := h.1 q
        refine EW_iinc (v5 + 1) (pc2 := 104) rfl dX6_arrival_101 4 rfl rfl (by decide) [1, 2, 3, 4, 0] [(0, .ref 1), (2, .int v2), (3, .int v3), (4, .int v4), (5, .int (v5 + 1))] rfl ?_
        refine EW_goto (tgt := 48) dX6_arrival_104 (by decide) ?_
        exact hL48 (v5 + 1) x h
      · replace h := h.2 q
        refine EW_aload_n (pc2 := 87) rfl dX6_arrival_86 0 rfl ?_
        refine EW_iload (pc2 := 89) rfl dX6_arrival_87 4 rfl ?_
        refine EW_iload_n (pc2 := 90) rfl dX6_arrival_89 2 rfl ?_
        refine EW_iload (pc2 := 92) rfl dX6_arrival_90 4 rfl ?_
        refine EW_iadd (pc2 := 93) rfl dX6_arrival_92 ?_
        refine AW_invS (M' := MX6_partOf) [.int (v3 + v5)] (rest := [.int v5, .ref 1]) mlRX6_66 okX6_partOf (pc2 := 96) rfl dX6_arrival_93 rfl rfl (Nat.le_of_ble_eq_true rfl) (Nat.le_of_ble_eq_true rfl) (d' := 0) (by omega) (EW_mono (fun _ _ hr => ?_) (sX6_partOf (v3 + v5)  x _ _ 0 0 (Nat.le_refl _) h))
        obtain ⟨r8, rfl, rfl, h⟩ := hr
        refine EW_iload (pc2 := 98) rfl dX6_arrival_96 3 rfl ?_
        refine AW_invV (M' := MX6_spread) [.int v5, .int r8, .int v4] (rest := []) mlRX6_69 okX6_spread (pc2 := 101) rfl dX6_arrival_98 rfl rfl (Nat.le_of_ble_eq_true rfl) (Nat.le_of_ble_eq_true rfl) (d' := 0) (by omega) q1 ⟨by decide, rfl⟩ (EW_mono (fun _ _ hr => ?_) (sX6_spread v5 r8 v4  x _ _ 0 0 (Nat.le_refl _) h))
        obtain ⟨x9, rfl, rfl, h⟩ := hr
        refine EW_iinc (v5 + 1) (pc2 := 104) rfl dX6_arrival_101 4 rfl rfl (by decide) [1, 2, 3, 4, 0] [(0, .ref 1), (2, .int v2), (3, .int v3), (4, .int v4), (5, .int (v5 + 1))] rfl ?_
        refine EW_goto (tgt := 48) dX6_arrival_104 (by decide) ?_
        exact hL48 (v5 + 1) x9 h
    · replace h := h.2 q
      refine EW_iload_n (pc2 := 72) rfl dX6_arrival_71 2 rfl ?_
      refine EW_iload (pc2 := 74) rfl dX6_arrival_72 4 rfl ?_
      refine EW_iadd (pc2 := 75) rfl dX6_arrival_74 ?_
      exact AW_iret rfl dX6_arrival_75 ⟨_, _, rfl, rfl, h⟩
set_option maxHeartbeats 4000000 in
set_option maxRecDepth 100000 in
theorem sX6_arrival (v1 : Int32) (v2 : Int32) (v3 : Int32) (v4 : Int32)  (x : ab_X) (K : Int32 → ab_X → Prop) (d bc bs : Nat) (hdp : 1 ≤ d) (h : wX6_arrival v1 v2 v3 v4 x K) : EW MX6_arrival 0 [(0, .ref 1), (1, .int v1), (2, .int v2), (3, .int v3), (4, .int v4)] [] (aS x) d bc bs (liI K) := by
  unfold wX6_arrival at h
  refine EW_iload_n (pc2 := 1) rfl dX6_arrival_0 1 rfl ?_
  refine AW_invSN (M' := MX11_isCorner) [.int v1] (rest := []) mlRX6_58 okX11_isCorner (pc2 := 4) rfl dX6_arrival_1 rfl rfl (Nat.le_of_ble_eq_true rfl) (Nat.le_of_ble_eq_true rfl) (d' := 0) (by omega) (EW_mono (fun _ _ hr => ?_) (sX11_isCorner v1  x _ _ 0 0 (Nat.le_refl _) h))
  obtain ⟨r1, rfl, rfl, h⟩ := hr
  refine EW_if_eq (tgt := 26) (pc2 := 7) rfl dX6_arrival_4 (by decide) (fun q => ?_) (fun q => ?_)
  · replace h := h.1 q
    refine EW_iconst (pc2 := 27) (v := (-1)) rfl dX6_arrival_26 (by decide) ?_
    exact AW_iret rfl dX6_arrival_27 ⟨_, _, rfl, rfl, h⟩
  · replace h := h.2 q
    refine EW_iload_n (pc2 := 8) rfl dX6_arrival_7 2 rfl ?_
    refine AW_invSN (M' := MX11_isCorner) [.int v2] (rest := []) mlRX6_58 okX11_isCorner (pc2 := 11) rfl dX6_arrival_8 rfl rfl (Nat.le_of_ble_eq_true rfl) (Nat.le_of_ble_eq_true rfl) (d' := 0) (by omega) (EW_mono (fun _ _ hr => ?_) (sX11_isCorner v2  x _ _ 0 0 (Nat.le_refl _) h))
    obtain ⟨r2, rfl, rfl, h⟩ := hr
    refine EW_if_eq (tgt := 26) (pc2 := 14) rfl dX6_arrival_11 (by decide) (fun q => ?_) (fun q => ?_)
    · replace h := h.1 q
      refine EW_iconst (pc2 := 27) (v := (-1)) rfl dX6_arrival_26 (by decide) ?_
      exact AW_iret rfl dX6_arrival_27 ⟨_, _, rfl, rfl, h⟩
    · replace h := h.2 q
      refine EW_aload_n (pc2 := 15) rfl dX6_arrival_14 0 rfl ?_
      refine EW_iload_n (pc2 := 16) rfl dX6_arrival_15 1 rfl ?_
      refine AW_invV (M' := MX6_openTo) [.int v1] (rest := []) mlRX6_62 okX6_openTo (pc2 := 19) rfl dX6_arrival_16 rfl rfl (Nat.le_of_ble_eq_true rfl) (Nat.le_of_ble_eq_true rfl) (d' := 0) (by omega) q1 ⟨by decide, rfl⟩ (EW_mono (fun _ _ hr => ?_) (sX6_openTo v1  x _ _ 0 0 (Nat.le_refl _) h))
      obtain ⟨r3, rfl, rfl, h⟩ := hr
      refine EW_iload_n (pc2 := 20) rfl dX6_arrival_19 2 rfl ?_
      refine EW_ishr (pc2 := 21) rfl dX6_arrival_20 ?_
      refine EW_iconst (pc2 := 22) (v := 1) rfl dX6_arrival_21 (by decide) ?_
      refine EW_iand (pc2 := 23) rfl dX6_arrival_22 ?_
      refine EW_if_ne (tgt := 28) (pc2 := 26) rfl dX6_arrival_23 (by decide) (fun q => ?_) (fun q => ?_)
      · replace h := h.1 q
        refine EW_aload_n (pc2 := 29) rfl dX6_arrival_28 0 rfl ?_
        refine AW_getr (r := 8) ⟨gfRX6_31, rfl⟩ (pc2 := 32) rfl dX6_arrival_29 q1 rfl ?_
        refine EW_iconst (pc2 := 33) (v := 0) rfl dX6_arrival_32 (by decide) ?_
        refine AW_invS (M' := MJ7_fill_53178) [.ref 8, .int 0] (rest := []) mlRX6_34 okJ7_fill_53178 (pc2 := 36) rfl dX6_arrival_33 rfl rfl (Nat.le_of_ble_eq_true rfl) (Nat.le_of_ble_eq_true rfl) (d' := 0) (by omega) (EW_mono (fun _ _ hr => ?_) (sJ7_fill_53178 8 601 0 q8 x _ _ 0 0 (Nat.le_refl _) h))
        obtain ⟨x4, rfl, rfl, h⟩ := hr
        refine EW_aload_n (pc2 := 37) rfl dX6_arrival_36 0 rfl ?_
        refine AW_getr (r := 8) ⟨gfRX6_31, rfl⟩ (pc2 := 40) rfl dX6_arrival_37 q1 rfl ?_
        refine EW_iconst (pc2 := 41) (v := 0) rfl dX6_arrival_40 (by decide) ?_
        refine EW_iconst (pc2 := 42) (v := 1) rfl dX6_arrival_41 (by decide) ?_
        refine EW_iload_n (pc2 := 43) rfl dX6_arrival_42 1 rfl ?_
        refine EW_ishl (pc2 := 44) rfl dX6_arrival_43 ?_
        obtain ⟨b5, h⟩ := h
        refine AW_iast (pc2 := 45) rfl dX6_arrival_44 q8 b5 ?_
        refine EW_iconst (pc2 := 46) (v := 0) rfl dX6_arrival_45 (by decide) ?_
        refine EW_istore (pc2 := 48) rfl dX6_arrival_46 (by decide) [1, 2, 3, 4, 5, 0] [(0, .ref 1), (1, .int v1), (2, .int v2), (3, .int v3), (4, .int v4), (5, .int 0)] rfl ?_
        refine EW_ls [0, 2, 3, 4, 5] rfl ?_
        exact sX6_arrival_48 v2 v3 v4 0 (wr x4 8 (Int32.toNatClampNeg 0) (1 <<< (v1 &&& 31))) K d bc bs hdp h
      · replace h := h.2 q
        refine EW_iconst (pc2 := 27) (v := (-1)) rfl dX6_arrival_26 (by decide) ?_
        exact AW_iret rfl dX6_arrival_27 ⟨_, _, rfl, rfl, h⟩
theorem gfRX0_45 : ab_L RX0 45 0 0 := ⟨by decide, by decide, ab_in 543 (by decide +kernel) (by decide +kernel)⟩
theorem mlRX0_198 : Cond.methodLink RX0 198 yX2_slow ∈ ab_G ∧ Cond.instanceMethod yX2_slow ∈ ab_G ∧ Cond.selects RX2 yX2_slow yX2_slow ∈ ab_G := ⟨ab_in 1013 (by decide +kernel) (by decide +kernel), ab_in 1014 (by decide +kernel) (by decide +kernel), ab_in 1015 (by decide +kernel) (by decide +kernel)⟩
theorem mlRX0_201 : Cond.methodLink RX0 201 yX6_arrival ∈ ab_G ∧ Cond.instanceMethod yX6_arrival ∈ ab_G ∧ Cond.selects RX6 yX6_arrival yX6_arrival ∈ ab_G := ⟨ab_in 1017 (by decide +kernel) (by decide +kernel), ab_in 805 (by decide +kernel) (by decide +kernel), ab_in 806 (by decide +kernel) (by decide +kernel)⟩
abbrev MX0_arrivalOf : ab_M := (yX0_arrivalOf, cX0_arrivalOf, 3, (some .int))
theorem dX0_arrivalOf_0 : decode cX0_arrivalOf 0 = .ok (.aload_n 0, 1) := by decide +kernel
theorem dX0_arrivalOf_1 : decode cX0_arrivalOf 1 = .ok (.getfield 45, 3) := by decide +kernel
theorem dX0_arrivalOf_4 : decode cX0_arrivalOf 4 = .ok (.aload_n 1, 1) := by decide +kernel
theorem dX0_arrivalOf_5 : decode cX0_arrivalOf 5 = .ok (.getfield 69, 3) := by decide +kernel
theorem dX0_arrivalOf_8 : decode cX0_arrivalOf 8 = .ok (.iload_n 2, 1) := by decide +kernel
theorem dX0_arrivalOf_9 : decode cX0_arrivalOf 9 = .ok (.aload_n 0, 1) := by decide +kernel
theorem dX0_arrivalOf_10 : decode cX0_arrivalOf 10 = .ok (.getfield 144, 3) := by decide +kernel
theorem dX0_arrivalOf_13 : decode cX0_arrivalOf 13 = .ok (.aload_n 1, 1) := by decide +kernel
theorem dX0_arrivalOf_14 : decode cX0_arrivalOf 14 = .ok (.invokevirtual 198, 3) := by decide +kernel
theorem dX0_arrivalOf_17 : decode cX0_arrivalOf 17 = .ok (.invokevirtual 201, 3) := by decide +kernel
theorem dX0_arrivalOf_20 : decode cX0_arrivalOf 20 = .ok (.ireturn, 1) := by decide +kernel
theorem okX0_arrivalOf : ab_okM MX0_arrivalOf 2 := ⟨by decide, ⟨by decide, by decide⟩, ab_in 1012 (by decide +kernel) (by decide +kernel), ab_in 92 (by decide +kernel) (by decide +kernel), by decide +kernel, by decide⟩
set_option maxHeartbeats 4000000 in
set_option maxRecDepth 100000 in
theorem sX0_arrivalOf (v1 : Nat) (v2 : Int32) (hv1 : isW v1) (x : ab_X) (K : Int32 → ab_X → Prop) (d bc bs : Nat) (hdp : 2 ≤ d) (h : wX0_arrivalOf v1 v2 x K) : EW MX0_arrivalOf 0 [(0, .ref 66), (1, .ref v1), (2, .int v2)] [] (aS x) d bc bs (liI K) := by
  unfold wX0_arrivalOf at h
  refine EW_aload_n (pc2 := 1) rfl dX0_arrivalOf_0 0 rfl ?_
  refine AW_getr (r := 1) ⟨gfRX0_45, rfl⟩ (pc2 := 4) rfl dX0_arrivalOf_1 q66 rfl ?_
  refine EW_aload_n (pc2 := 5) rfl dX0_arrivalOf_4 1 rfl ?_
  refine AW_geti ⟨gfRX0_69, rfl⟩ (pc2 := 8) rfl dX0_arrivalOf_5 (isW.o hv1) ?_
  refine EW_iload_n (pc2 := 9) rfl dX0_arrivalOf_8 2 rfl ?_
  refine EW_aload_n (pc2 := 10) rfl dX0_arrivalOf_9 0 rfl ?_
  refine AW_geti ⟨gfRX0_144, rfl⟩ (pc2 := 13) rfl dX0_arrivalOf_10 q66 ?_
  refine EW_aload_n (pc2 := 14) rfl dX0_arrivalOf_13 1 rfl ?_
  refine AW_invV (M' := MX2_slow) [] (rest := [.int (x.1 66 12), .int v2, .int (x.1 v1 9), .ref 1]) mlRX0_198 okX2_slow (pc2 := 17) rfl dX0_arrivalOf_14 rfl rfl (Nat.le_of_ble_eq_true rfl) (Nat.le_of_ble_eq_true rfl) (d' := 0) (by omega) (isW.o hv1) ⟨by decide, rfl⟩ (EW_mono (fun _ _ hr => ?_) (sX2_slow v1 hv1 x _ _ 0 0 (Nat.le_refl _) h))
  obtain ⟨r1, rfl, rfl, h⟩ := hr
  refine AW_invV (M' := MX6_arrival) [.int (x.1 v1 9), .int v2, .int (x.1 66 12), .int r1] (rest := []) mlRX0_201 okX6_arrival (pc2 := 20) rfl dX0_arrivalOf_17 rfl rfl (Nat.le_of_ble_eq_true rfl) (Nat.le_of_ble_eq_true rfl) (d' := 1) (by omega) q1 ⟨by decide, rfl⟩ (EW_mono (fun _ _ hr => ?_) (sX6_arrival (x.1 v1 9) v2 (x.1 66 12) r1  x _ _ 0 0 (Nat.le_refl _) h))
  obtain ⟨r2, x3, rfl, rfl, h⟩ := hr
  exact AW_iret rfl dX0_arrivalOf_20 ⟨_, _, rfl, rfl, h⟩
theorem mlRX0_212 : Cond.methodLink RX0 212 yJ6_numberOfTrailingZeros_0f7a4 ∈ ab_G ∧ Cond.static yJ6_numberOfTrailingZeros_0f7a4 ∈ ab_G := ⟨ab_in 1135 (by decide +kernel) (by decide +kernel), ab_in 1136 (by decide +kernel) (by decide +kernel)⟩
abbrev MX0_barePost : ab_M := (yX0_barePost, cX0_barePost, 4, (some .int))
theorem dX0_barePost_0 : decode cX0_barePost 0 = .ok (.iconst 0, 1) := by decide +kernel
theorem dX0_barePost_1 : decode cX0_barePost 1 = .ok (.istore_n 1, 1) := by decide +kernel
theorem dX0_barePost_2 : decode cX0_barePost 2 = .ok (.iconst 0, 1) := by decide +kernel
theorem dX0_barePost_3 : decode cX0_barePost 3 = .ok (.istore_n 2, 1) := by decide +kernel
theorem dX0_barePost_4 : decode cX0_barePost 4 = .ok (.iconst 0, 1) := by decide +kernel
theorem dX0_barePost_5 : decode cX0_barePost 5 = .ok (.istore_n 3, 1) := by decide +kernel
theorem dX0_barePost_6 : decode cX0_barePost 6 = .ok (.iload_n 3, 1) := by decide +kernel
theorem dX0_barePost_7 : decode cX0_barePost 7 = .ok (.aload_n 0, 1) := by decide +kernel
theorem dX0_barePost_8 : decode cX0_barePost 8 = .ok (.getfield 55, 3) := by decide +kernel
theorem dX0_barePost_11 : decode cX0_barePost 11 = .ok (.if_icmp .ge 62, 3) := by decide +kernel
theorem dX0_barePost_14 : decode cX0_barePost 14 = .ok (.iload_n 1, 1) := by decide +kernel
theorem dX0_barePost_15 : decode cX0_barePost 15 = .ok (.iconst 1, 1) := by decide +kernel
theorem dX0_barePost_16 : decode cX0_barePost 16 = .ok (.aload_n 0, 1) := by decide +kernel
theorem dX0_barePost_17 : decode cX0_barePost 17 = .ok (.getfield 11, 3) := by decide +kernel
theorem dX0_barePost_20 : decode cX0_barePost 20 = .ok (.iload_n 3, 1) := by decide +kernel
theorem dX0_barePost_21 : decode cX0_barePost 21 = .ok (.aaload, 1) := by decide +kernel
theorem dX0_barePost_22 : decode cX0_barePost 22 = .ok (.getfield 66, 3) := by decide +kernel
theorem dX0_barePost_25 : decode cX0_barePost 25 = .ok (.ishl, 1) := by decide +kernel
theorem dX0_barePost_26 : decode cX0_barePost 26 = .ok (.ior, 1) := by decide +kernel
theorem dX0_barePost_27 : decode cX0_barePost 27 = .ok (.istore_n 1, 1) := by decide +kernel
theorem dX0_barePost_28 : decode cX0_barePost 28 = .ok (.aload_n 0, 1) := by decide +kernel
theorem dX0_barePost_29 : decode cX0_barePost 29 = .ok (.getfield 11, 3) := by decide +kernel
theorem dX0_barePost_32 : decode cX0_barePost 32 = .ok (.iload_n 3, 1) := by decide +kernel
theorem dX0_barePost_33 : decode cX0_barePost 33 = .ok (.aaload, 1) := by decide +kernel
theorem dX0_barePost_34 : decode cX0_barePost 34 = .ok (.getfield 75, 3) := by decide +kernel
theorem dX0_barePost_37 : decode cX0_barePost 37 = .ok (.ifCond .eq 16, 3) := by decide +kernel
theorem dX0_barePost_40 : decode cX0_barePost 40 = .ok (.aload_n 0, 1) := by decide +kernel
theorem dX0_barePost_41 : decode cX0_barePost 41 = .ok (.getfield 11, 3) := by decide +kernel
theorem dX0_barePost_44 : decode cX0_barePost 44 = .ok (.iload_n 3, 1) := by decide +kernel
theorem dX0_barePost_45 : decode cX0_barePost 45 = .ok (.aaload, 1) := by decide +kernel
theorem dX0_barePost_46 : decode cX0_barePost 46 = .ok (.getfield 75, 3) := by decide +kernel
theorem dX0_barePost_49 : decode cX0_barePost 49 = .ok (.iconst 3, 1) := by decide +kernel
theorem dX0_barePost_50 : decode cX0_barePost 50 = .ok (.if_icmp .ne 17, 3) := by decide +kernel
theorem dX0_barePost_53 : decode cX0_barePost 53 = .ok (.iload_n 2, 1) := by decide +kernel
theorem dX0_barePost_54 : decode cX0_barePost 54 = .ok (.iconst 1, 1) := by decide +kernel
theorem dX0_barePost_55 : decode cX0_barePost 55 = .ok (.aload_n 0, 1) := by decide +kernel
theorem dX0_barePost_56 : decode cX0_barePost 56 = .ok (.getfield 11, 3) := by decide +kernel
theorem dX0_barePost_59 : decode cX0_barePost 59 = .ok (.iload_n 3, 1) := by decide +kernel
theorem dX0_barePost_60 : decode cX0_barePost 60 = .ok (.aaload, 1) := by decide +kernel
theorem dX0_barePost_61 : decode cX0_barePost 61 = .ok (.getfield 69, 3) := by decide +kernel
theorem dX0_barePost_64 : decode cX0_barePost 64 = .ok (.ishl, 1) := by decide +kernel
theorem dX0_barePost_65 : decode cX0_barePost 65 = .ok (.ior, 1) := by decide +kernel
theorem dX0_barePost_66 : decode cX0_barePost 66 = .ok (.istore_n 2, 1) := by decide +kernel
theorem dX0_barePost_67 : decode cX0_barePost 67 = .ok (.iinc 3 1, 3) := by decide +kernel
theorem dX0_barePost_70 : decode cX0_barePost 70 = .ok (.goto (-64), 3) := by decide +kernel
theorem dX0_barePost_73 : decode cX0_barePost 73 = .ok (.iload_n 1, 1) := by decide +kernel
theorem dX0_barePost_74 : decode cX0_barePost 74 = .ok (.iload_n 2, 1) := by decide +kernel
theorem dX0_barePost_75 : decode cX0_barePost 75 = .ok (.iconst (-1), 1) := by decide +kernel
theorem dX0_barePost_76 : decode cX0_barePost 76 = .ok (.ixor, 1) := by decide +kernel
theorem dX0_barePost_77 : decode cX0_barePost 77 = .ok (.iand, 1) := by decide +kernel
theorem dX0_barePost_78 : decode cX0_barePost 78 = .ok (.istore_n 3, 1) := by decide +kernel
theorem dX0_barePost_79 : decode cX0_barePost 79 = .ok (.iload_n 3, 1) := by decide +kernel
theorem dX0_barePost_80 : decode cX0_barePost 80 = .ok (.ifCond .ne 7, 3) := by decide +kernel
theorem dX0_barePost_83 : decode cX0_barePost 83 = .ok (.iconst (-1), 1) := by decide +kernel
theorem dX0_barePost_84 : decode cX0_barePost 84 = .ok (.goto 7, 3) := by decide +kernel
theorem dX0_barePost_87 : decode cX0_barePost 87 = .ok (.iload_n 3, 1) := by decide +kernel
theorem dX0_barePost_88 : decode cX0_barePost 88 = .ok (.invokestatic 212, 3) := by decide +kernel
theorem dX0_barePost_91 : decode cX0_barePost 91 = .ok (.ireturn, 1) := by decide +kernel
theorem okX0_barePost : ab_okM MX0_barePost 0 := ⟨by decide, ⟨by decide, by decide⟩, ab_in 1134 (by decide +kernel) (by decide +kernel), ab_in 92 (by decide +kernel) (by decide +kernel), by decide +kernel, by decide⟩
set_option maxHeartbeats 4000000 in
set_option maxRecDepth 100000 in
theorem sX0_barePost_53 (v1 : Int32) (v2 : Int32) (v3 : Int32)  (x : ab_X) (K : Int32 → Prop) (L6 : Int32 → Int32 → Int32 → Prop) (d bc bs : Nat) (hdp : 1 ≤ d) (hL6 : ∀ (v1 : Int32) (v2 : Int32) (v3 : Int32), L6 v1 v2 v3 → EW MX0_barePost 6 [(0, .ref 66), (1, .int v1), (2, .int v2), (3, .int v3)] [] (aS x) d bc bs (liP x K)) (h : wX0_barePost_53 v1 v2 v3 x K L6) : EW MX0_barePost 53 [(0, .ref 66), (1, .int v1), (2, .int v2), (3, .int v3)] [] (aS x) d bc bs (liP x K) := by
  unfold wX0_barePost_53 at h
  refine EW_iload_n (pc2 := 54) rfl dX0_barePost_53 2 rfl ?_
  refine EW_iconst (pc2 := 55) (v := 1) rfl dX0_barePost_54 (by decide) ?_
  refine EW_aload_n (pc2 := 56) rfl dX0_barePost_55 0 rfl ?_
  refine AW_getr (r := 67) ⟨gfRX0_11, rfl⟩ (pc2 := 59) rfl dX0_barePost_56 q66 rfl ?_
  refine EW_iload_n (pc2 := 60) rfl dX0_barePost_59 3 rfl ?_
  obtain ⟨b5, h⟩ := h
  refine AW_aald6 (pc2 := 61) rfl dX0_barePost_60 b5 ?_
  refine AW_geti ⟨gfRX0_69, rfl⟩ (pc2 := 64) rfl dX0_barePost_61 (isW.o (isW_of b5)) ?_
  refine EW_ishl (pc2 := 65) rfl dX0_barePost_64 ?_
  refine EW_ior (pc2 := 66) rfl dX0_barePost_65 ?_
  refine EW_istore_n (pc2 := 67) rfl dX0_barePost_66 (by decide) [1, 2, 0, 3] [(0, .ref 66), (1, .int v1), (2, .int (v2 ||| (1 <<< ((x.1 (82 + Int32.toNatClampNeg v3) 9) &&& 31)))), (3, .int v3)] rfl ?_
  refine EW_iinc (v3 + 1) (pc2 := 70) rfl dX0_barePost_67 3 rfl rfl (by decide) [1, 2, 3, 0] [(0, .ref 66), (1, .int v1), (2, .int (v2 ||| (1 <<< ((x.1 (82 + Int32.toNatClampNeg v3) 9) &&& 31)))), (3, .int (v3 + 1))] rfl ?_
  refine EW_goto (tgt := 6) dX0_barePost_70 (by decide) ?_
  exact hL6 v1 (v2 ||| (1 <<< ((x.1 (82 + Int32.toNatClampNeg v3) 9) &&& 31))) (v3 + 1) h
set_option maxHeartbeats 4000000 in
set_option maxRecDepth 100000 in
theorem sX0_barePost_6 (v1 : Int32) (v2 : Int32) (v3 : Int32)  (x : ab_X) (K : Int32 → Prop)  (d bc bs : Nat) (hdp : 1 ≤ d)  (h : Lp3 (lX0_barePost_6  x K ) v1 v2 v3) : EW MX0_barePost 6 [(0, .ref 66), (1, .int v1), (2, .int v2), (3, .int v3)] [] (aS x) d bc bs (liP x K) := by
  refine Lp3.use (P := fun v1 v2 v3 => EW MX0_barePost 6 [(0, .ref 66), (1, .int v1), (2, .int v2), (3, .int v3)] [] (aS x) d bc bs (liP x K)) (fun L6 v1 v2 v3 hL6 h => ?_) v1 v2 v3 h
  unfold lX0_barePost_6 at h
  refine EW_iload_n (pc2 := 7) rfl dX0_barePost_6 3 rfl ?_
  refine EW_aload_n (pc2 := 8) rfl dX0_barePost_7 0 rfl ?_
  refine AW_geti ⟨gfRX0_55, rfl⟩ (pc2 := 11) rfl dX0_barePost_8 q66 ?_
  refine EW_icmp_ge (tgt := 73) (pc2 := 14) rfl dX0_barePost_11 (by decide) (fun q => ?_) (fun q => ?_)
  · replace h := h.1 q
    refine EW_iload_n (pc2 := 74) rfl dX0_barePost_73 1 rfl ?_
    refine EW_iload_n (pc2 := 75) rfl dX0_barePost_74 2 rfl ?_
    refine EW_iconst (pc2 := 76) (v := (-1)) rfl dX0_barePost_75 (by decide) ?_
    refine EW_ixor (pc2 := 77) rfl dX0_barePost_76 ?_
    refine EW_iand (pc2 := 78) rfl dX0_barePost_77 ?_
    refine EW_istore_n (pc2 := 79) rfl dX0_barePost_78 (by decide) [1, 2, 3, 0] [(0, .ref 66), (1, .int v1), (2, .int v2), (3, .int (v1 &&& (v2 ^^^ (-1))))] rfl ?_
    refine EW_iload_n (pc2 := 80) rfl dX0_barePost_79 3 rfl ?_
    refine EW_if_ne (tgt := 87) (pc2 := 83) rfl dX0_barePost_80 (by decide) (fun q => ?_) (fun q => ?_)
    · replace h := h.1 q
      refine EW_iload_n (pc2 := 88) rfl dX0_barePost_87 3 rfl ?_
      refine AW_invS (M' := MJ6_numberOfTrailingZeros_0f7a4) [.int (v1 &&& (v2 ^^^ (-1)))] (rest := []) mlRX0_212 okJ6_numberOfTrailingZeros_0f7a4 (pc2 := 91) rfl dX0_barePost_88 rfl rfl (Nat.le_of_ble_eq_true rfl) (Nat.le_of_ble_eq_true rfl) (d' := 0) (by omega) (EW_mono (fun _ _ hr => ?_) (sJ6_numberOfTrailingZeros_0f7a4 (v1 &&& (v2 ^^^ (-1)))  x _ _ 0 0 (Nat.le_refl _) h))
      obtain ⟨r1, rfl, rfl, h⟩ := hr
      exact AW_iret rfl dX0_barePost_91 ⟨_, rfl, rfl, h⟩
    · replace h := h.2 q
      refine EW_iconst (pc2 := 84) (v := (-1)) rfl dX0_barePost_83 (by decide) ?_
      refine EW_goto (tgt := 91) dX0_barePost_84 (by decide) ?_
      exact AW_iret rfl dX0_barePost_91 ⟨_, rfl, rfl, h⟩
  · replace h := h.2 q
    refine EW_iload_n (pc2 := 15) rfl dX0_barePost_14 1 rfl ?_
    refine EW_iconst (pc2 := 16) (v := 1) rfl dX0_barePost_15 (by decide) ?_
    refine EW_aload_n (pc2 := 17) rfl dX0_barePost_16 0 rfl ?_
    refine AW_getr (r := 67) ⟨gfRX0_11, rfl⟩ (pc2 := 20) rfl dX0_barePost_17 q66 rfl ?_
    refine EW_iload_n (pc2 := 21) rfl dX0_barePost_20 3 rfl ?_
    obtain ⟨b2, h⟩ := h
    refine AW_aald6 (pc2 := 22) rfl dX0_barePost_21 b2 ?_
    refine AW_geti ⟨gfRX0_66, rfl⟩ (pc2 := 25) rfl dX0_barePost_22 (isW.o (isW_of b2)) ?_
    refine EW_ishl (pc2 := 26) rfl dX0_barePost_25 ?_
    refine EW_ior (pc2 := 27) rfl dX0_barePost_26 ?_
    refine EW_istore_n (pc2 := 28) rfl dX0_barePost_27 (by decide) [1, 0, 2, 3] [(0, .ref 66), (1, .int (v1 ||| (1 <<< ((x.1 (82 + Int32.toNatClampNeg v3) 1) &&& 31)))), (2, .int v2), (3, .int v3)] rfl ?_
    refine EW_aload_n (pc2 := 29) rfl dX0_barePost_28 0 rfl ?_
    refine AW_getr (r := 67) ⟨gfRX0_11, rfl⟩ (pc2 := 32) rfl dX0_barePost_29 q66 rfl ?_
    refine EW_iload_n (pc2 := 33) rfl dX0_barePost_32 3 rfl ?_
    obtain ⟨b3, h⟩ := h
    refine AW_aald6 (pc2 := 34) rfl dX0_barePost_33 b3 ?_
    refine AW_geti ⟨gfRX0_75, rfl⟩ (pc2 := 37) rfl dX0_barePost_34 (isW.o (isW_of b3)) ?_
    refine EW_if_eq (tgt := 53) (pc2 := 40) rfl dX0_barePost_37 (by decide) (fun q => ?_) (fun q => ?_)
    · replace h := h.1 q
      exact sX0_barePost_53 (v1 ||| (1 <<< ((x.1 (82 + Int32.toNatClampNeg v3) 1) &&& 31))) v2 v3 x K L6 d bc bs hdp hL6 h
    · replace h := h.2 q
      refine EW_aload_n (pc2 := 41) rfl dX0_barePost_40 0 rfl ?_
      refine AW_getr (r := 67) ⟨gfRX0_11, rfl⟩ (pc2 := 44) rfl dX0_barePost_41 q66 rfl ?_
      refine EW_iload_n (pc2 := 45) rfl dX0_barePost_44 3 rfl ?_
      obtain ⟨b4, h⟩ := h
      refine AW_aald6 (pc2 := 46) rfl dX0_barePost_45 b4 ?_
      refine AW_geti ⟨gfRX0_75, rfl⟩ (pc2 := 49) rfl dX0_barePost_46 (isW.o (isW_of b4)) ?_
      refine EW_iconst (pc2 := 50) (v := 3) rfl dX0_barePost_49 (by decide) ?_
      refine EW_icmp_ne (tgt := 67) (pc2 := 53) rfl dX0_barePost_50 (by decide) (fun q => ?_) (fun q => ?_)
      · replace h := h.1 q
        refine EW_iinc (v3 + 1) (pc2 := 70) rfl dX0_barePost_67 3 rfl rfl (by decide) [1, 2, 3, 0] [(0, .ref 66), (1, .int (v1 ||| (1 <<< ((x.1 (82 + Int32.toNatClampNeg v3) 1) &&& 31)))), (2, .int v2), (3, .int (v3 + 1))] rfl ?_
        refine EW_goto (tgt := 6) dX0_barePost_70 (by decide) ?_
        exact hL6 (v1 ||| (1 <<< ((x.1 (82 + Int32.toNatClampNeg v3) 1) &&& 31))) v2 (v3 + 1) h
      · replace h := h.2 q
        exact sX0_barePost_53 (v1 ||| (1 <<< ((x.1 (82 + Int32.toNatClampNeg v3) 1) &&& 31))) v2 v3 x K L6 d bc bs hdp hL6 h
set_option maxHeartbeats 4000000 in
set_option maxRecDepth 100000 in
theorem sX0_barePost   (x : ab_X) (K : Int32 → Prop) (d bc bs : Nat) (hdp : 1 ≤ d) (h : wX0_barePost  x K) : EW MX0_barePost 0 [(0, .ref 66)] [] (aS x) d bc bs (liP x K) := by
  unfold wX0_barePost at h
  refine EW_iconst (pc2 := 1) (v := 0) rfl dX0_barePost_0 (by decide) ?_
  refine EW_istore_n (pc2 := 2) rfl dX0_barePost_1 (by decide) [1, 0] [(0, .ref 66), (1, .int 0)] rfl ?_
  refine EW_iconst (pc2 := 3) (v := 0) rfl dX0_barePost_2 (by decide) ?_
  refine EW_istore_n (pc2 := 4) rfl dX0_barePost_3 (by decide) [1, 2, 0] [(0, .ref 66), (1, .int 0), (2, .int 0)] rfl ?_
  refine EW_iconst (pc2 := 5) (v := 0) rfl dX0_barePost_4 (by decide) ?_
  refine EW_istore_n (pc2 := 6) rfl dX0_barePost_5 (by decide) [1, 2, 3, 0] [(0, .ref 66), (1, .int 0), (2, .int 0), (3, .int 0)] rfl ?_
  exact sX0_barePost_6 0 0 0 x K d bc bs hdp h
abbrev MX0_isSpare : ab_M := (yX0_isSpare, cX0_isSpare, 3, (some .boolean))
theorem dX0_isSpare_0 : decode cX0_isSpare 0 = .ok (.aload_n 0, 1) := by decide +kernel
theorem dX0_isSpare_1 : decode cX0_isSpare 1 = .ok (.getfield 11, 3) := by decide +kernel
theorem dX0_isSpare_4 : decode cX0_isSpare 4 = .ok (.iload_n 1, 1) := by decide +kernel
theorem dX0_isSpare_5 : decode cX0_isSpare 5 = .ok (.aaload, 1) := by decide +kernel
theorem dX0_isSpare_6 : decode cX0_isSpare 6 = .ok (.getfield 75, 3) := by decide +kernel
theorem dX0_isSpare_9 : decode cX0_isSpare 9 = .ok (.ifCond .eq 5, 3) := by decide +kernel
theorem dX0_isSpare_12 : decode cX0_isSpare 12 = .ok (.iconst 0, 1) := by decide +kernel
theorem dX0_isSpare_13 : decode cX0_isSpare 13 = .ok (.ireturn, 1) := by decide +kernel
theorem dX0_isSpare_14 : decode cX0_isSpare 14 = .ok (.iconst 0, 1) := by decide +kernel
theorem dX0_isSpare_15 : decode cX0_isSpare 15 = .ok (.istore_n 2, 1) := by decide +kernel
theorem dX0_isSpare_16 : decode cX0_isSpare 16 = .ok (.iload_n 2, 1) := by decide +kernel
theorem dX0_isSpare_17 : decode cX0_isSpare 17 = .ok (.aload_n 0, 1) := by decide +kernel
theorem dX0_isSpare_18 : decode cX0_isSpare 18 = .ok (.getfield 55, 3) := by decide +kernel
theorem dX0_isSpare_21 : decode cX0_isSpare 21 = .ok (.if_icmp .ge 49, 3) := by decide +kernel
theorem dX0_isSpare_24 : decode cX0_isSpare 24 = .ok (.iload_n 2, 1) := by decide +kernel
theorem dX0_isSpare_25 : decode cX0_isSpare 25 = .ok (.iload_n 1, 1) := by decide +kernel
theorem dX0_isSpare_26 : decode cX0_isSpare 26 = .ok (.if_icmp .eq 38, 3) := by decide +kernel
theorem dX0_isSpare_29 : decode cX0_isSpare 29 = .ok (.aload_n 0, 1) := by decide +kernel
theorem dX0_isSpare_30 : decode cX0_isSpare 30 = .ok (.getfield 11, 3) := by decide +kernel
theorem dX0_isSpare_33 : decode cX0_isSpare 33 = .ok (.iload_n 2, 1) := by decide +kernel
theorem dX0_isSpare_34 : decode cX0_isSpare 34 = .ok (.aaload, 1) := by decide +kernel
theorem dX0_isSpare_35 : decode cX0_isSpare 35 = .ok (.getfield 75, 3) := by decide +kernel
theorem dX0_isSpare_38 : decode cX0_isSpare 38 = .ok (.ifCond .ne 26, 3) := by decide +kernel
theorem dX0_isSpare_41 : decode cX0_isSpare 41 = .ok (.aload_n 0, 1) := by decide +kernel
theorem dX0_isSpare_42 : decode cX0_isSpare 42 = .ok (.getfield 11, 3) := by decide +kernel
theorem dX0_isSpare_45 : decode cX0_isSpare 45 = .ok (.iload_n 2, 1) := by decide +kernel
theorem dX0_isSpare_46 : decode cX0_isSpare 46 = .ok (.aaload, 1) := by decide +kernel
theorem dX0_isSpare_47 : decode cX0_isSpare 47 = .ok (.getfield 69, 3) := by decide +kernel
theorem dX0_isSpare_50 : decode cX0_isSpare 50 = .ok (.aload_n 0, 1) := by decide +kernel
theorem dX0_isSpare_51 : decode cX0_isSpare 51 = .ok (.getfield 11, 3) := by decide +kernel
theorem dX0_isSpare_54 : decode cX0_isSpare 54 = .ok (.iload_n 1, 1) := by decide +kernel
theorem dX0_isSpare_55 : decode cX0_isSpare 55 = .ok (.aaload, 1) := by decide +kernel
theorem dX0_isSpare_56 : decode cX0_isSpare 56 = .ok (.getfield 69, 3) := by decide +kernel
theorem dX0_isSpare_59 : decode cX0_isSpare 59 = .ok (.if_icmp .ne 5, 3) := by decide +kernel
theorem dX0_isSpare_62 : decode cX0_isSpare 62 = .ok (.iconst 1, 1) := by decide +kernel
theorem dX0_isSpare_63 : decode cX0_isSpare 63 = .ok (.ireturn, 1) := by decide +kernel
theorem dX0_isSpare_64 : decode cX0_isSpare 64 = .ok (.iinc 2 1, 3) := by decide +kernel
theorem dX0_isSpare_67 : decode cX0_isSpare 67 = .ok (.goto (-51), 3) := by decide +kernel
theorem dX0_isSpare_70 : decode cX0_isSpare 70 = .ok (.iconst 0, 1) := by decide +kernel
theorem dX0_isSpare_71 : decode cX0_isSpare 71 = .ok (.ireturn, 1) := by decide +kernel
theorem okX0_isSpare : ab_okM MX0_isSpare 1 := ⟨by decide, ⟨by decide, by decide⟩, ab_in 1142 (by decide +kernel) (by decide +kernel), ab_in 92 (by decide +kernel) (by decide +kernel), by decide +kernel, by decide⟩
set_option maxHeartbeats 4000000 in
set_option maxRecDepth 100000 in
theorem sX0_isSpare_16 (v1 : Int32) (v2 : Int32)  (x : ab_X) (K : Int32 → Prop)  (d bc bs : Nat) (hdp : 0 ≤ d)  (h : Lp1 (lX0_isSpare_16 v1 x K ) v2) : EW MX0_isSpare 16 [(0, .ref 66), (1, .int v1), (2, .int v2)] [] (aS x) d bc bs (liP x K) := by
  refine Lp1.use (P := fun v2 => EW MX0_isSpare 16 [(0, .ref 66), (1, .int v1), (2, .int v2)] [] (aS x) d bc bs (liP x K)) (fun L16 v2 hL16 h => ?_) v2 h
  unfold lX0_isSpare_16 at h
  refine EW_iload_n (pc2 := 17) rfl dX0_isSpare_16 2 rfl ?_
  refine EW_aload_n (pc2 := 18) rfl dX0_isSpare_17 0 rfl ?_
  refine AW_geti ⟨gfRX0_55, rfl⟩ (pc2 := 21) rfl dX0_isSpare_18 q66 ?_
  refine EW_icmp_ge (tgt := 70) (pc2 := 24) rfl dX0_isSpare_21 (by decide) (fun q => ?_) (fun q => ?_)
  · replace h := h.1 q
    refine EW_iconst (pc2 := 71) (v := 0) rfl dX0_isSpare_70 (by decide) ?_
    exact AW_zret rfl isB0 dX0_isSpare_71 ⟨_, rfl, rfl, h⟩
  · replace h := h.2 q
    refine EW_iload_n (pc2 := 25) rfl dX0_isSpare_24 2 rfl ?_
    refine EW_iload_n (pc2 := 26) rfl dX0_isSpare_25 1 rfl ?_
    refine EW_icmp_eq (tgt := 64) (pc2 := 29) rfl dX0_isSpare_26 (by decide) (fun q => ?_) (fun q => ?_)
    · replace h := h.1 q
      refine EW_iinc (v2 + 1) (pc2 := 67) rfl dX0_isSpare_64 2 rfl rfl (by decide) [1, 2, 0] [(0, .ref 66), (1, .int v1), (2, .int (v2 + 1))] rfl ?_
      refine EW_goto (tgt := 16) dX0_isSpare_67 (by decide) ?_
      exact hL16 (v2 + 1) h
    · replace h := h.2 q
      refine EW_aload_n (pc2 := 30) rfl dX0_isSpare_29 0 rfl ?_
      refine AW_getr (r := 67) ⟨gfRX0_11, rfl⟩ (pc2 := 33) rfl dX0_isSpare_30 q66 rfl ?_
      refine EW_iload_n (pc2 := 34) rfl dX0_isSpare_33 2 rfl ?_
      obtain ⟨b2, h⟩ := h
      refine AW_aald6 (pc2 := 35) rfl dX0_isSpare_34 b2 ?_
      refine AW_geti ⟨gfRX0_75, rfl⟩ (pc2 := 38) rfl dX0_isSpare_35 (isW.o (isW_of b2)) ?_
      refine EW_if_ne (tgt := 64) (pc2 := 41) rfl dX0_isSpare_38 (by decide) (fun q => ?_) (fun q => ?_)
      · replace h := h.1 q
        refine EW_iinc (v2 + 1) (pc2 := 67) rfl dX0_isSpare_64 2 rfl rfl (by decide) [1, 2, 0] [(0, .ref 66), (1, .int v1), (2, .int (v2 + 1))] rfl ?_
        refine EW_goto (tgt := 16) dX0_isSpare_67 (by decide) ?_
        exact hL16 (v2 + 1) h
      · replace h := h.2 q
        refine EW_aload_n (pc2 := 42) rfl dX0_isSpare_41 0 rfl ?_
        refine AW_getr (r := 67) ⟨gfRX0_11, rfl⟩ (pc2 := 45) rfl dX0_isSpare_42 q66 rfl ?_
        refine EW_iload_n (pc2 := 46) rfl dX0_isSpare_45 2 rfl ?_
        obtain ⟨b3, h⟩ := h
        refine AW_aald6 (pc2 := 47) rfl dX0_isSpare_46 b3 ?_
        refine AW_geti ⟨gfRX0_69, rfl⟩ (pc2 := 50) rfl dX0_isSpare_47 (isW.o (isW_of b3)) ?_
        refine EW_aload_n (pc2 := 51) rfl dX0_isSpare_50 0 rfl ?_
        refine AW_getr (r := 67) ⟨gfRX0_11, rfl⟩ (pc2 := 54) rfl dX0_isSpare_51 q66 rfl ?_
        refine EW_iload_n (pc2 := 55) rfl dX0_isSpare_54 1 rfl ?_
        obtain ⟨b4, h⟩ := h
        refine AW_aald6 (pc2 := 56) rfl dX0_isSpare_55 b4 ?_
        refine AW_geti ⟨gfRX0_69, rfl⟩ (pc2 := 59) rfl dX0_isSpare_56 (isW.o (isW_of b4)) ?_
        refine EW_icmp_ne (tgt := 64) (pc2 := 62) rfl dX0_isSpare_59 (by decide) (fun q => ?_) (fun q => ?_)
        · replace h := h.1 q
          refine EW_iinc (v2 + 1) (pc2 := 67) rfl dX0_isSpare_64 2 rfl rfl (by decide) [1, 2, 0] [(0, .ref 66), (1, .int v1), (2, .int (v2 + 1))] rfl ?_
          refine EW_goto (tgt := 16) dX0_isSpare_67 (by decide) ?_
          exact hL16 (v2 + 1) h
        · replace h := h.2 q
          refine EW_iconst (pc2 := 63) (v := 1) rfl dX0_isSpare_62 (by decide) ?_
          exact AW_zret rfl isB1 dX0_isSpare_63 ⟨_, rfl, rfl, h⟩
set_option maxHeartbeats 4000000 in
set_option maxRecDepth 100000 in
theorem sX0_isSpare (v1 : Int32)  (x : ab_X) (K : Int32 → Prop) (d bc bs : Nat) (hdp : 0 ≤ d) (h : wX0_isSpare v1 x K) : EW MX0_isSpare 0 [(0, .ref 66), (1, .int v1)] [] (aS x) d bc bs (liP x K) := by
  unfold wX0_isSpare at h
  refine EW_aload_n (pc2 := 1) rfl dX0_isSpare_0 0 rfl ?_
  refine AW_getr (r := 67) ⟨gfRX0_11, rfl⟩ (pc2 := 4) rfl dX0_isSpare_1 q66 rfl ?_
  refine EW_iload_n (pc2 := 5) rfl dX0_isSpare_4 1 rfl ?_
  obtain ⟨b1, h⟩ := h
  refine AW_aald6 (pc2 := 6) rfl dX0_isSpare_5 b1 ?_
  refine AW_geti ⟨gfRX0_75, rfl⟩ (pc2 := 9) rfl dX0_isSpare_6 (isW.o (isW_of b1)) ?_
  refine EW_if_eq (tgt := 14) (pc2 := 12) rfl dX0_isSpare_9 (by decide) (fun q => ?_) (fun q => ?_)
  · replace h := h.1 q
    refine EW_iconst (pc2 := 15) (v := 0) rfl dX0_isSpare_14 (by decide) ?_
    refine EW_istore_n (pc2 := 16) rfl dX0_isSpare_15 (by decide) [1, 2, 0] [(0, .ref 66), (1, .int v1), (2, .int 0)] rfl ?_
    exact sX0_isSpare_16 v1 0 x K d bc bs hdp h
  · replace h := h.2 q
    refine EW_iconst (pc2 := 13) (v := 0) rfl dX0_isSpare_12 (by decide) ?_
    exact AW_zret rfl isB0 dX0_isSpare_13 ⟨_, rfl, rfl, h⟩
