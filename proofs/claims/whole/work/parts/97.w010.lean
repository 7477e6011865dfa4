theorem mlRX11_96 : Cond.methodLink RX11 96 yX6_arrival ∈ ab_G ∧ Cond.instanceMethod yX6_arrival ∈ ab_G ∧ Cond.selects RX6 yX6_arrival yX6_arrival ∈ ab_G := ⟨ab_in 804 (by decide +kernel) (by decide +kernel), ab_in 805 (by decide +kernel) (by decide +kernel), ab_in 806 (by decide +kernel) (by decide +kernel)⟩
abbrev MX11_come : ab_M := (yX11_come, cX11_come, 5, (some .int))
theorem dX11_come_0 : decode cX11_come 0 = .ok (.iload_n 3, 1) := by decide +kernel
theorem dX11_come_1 : decode cX11_come 1 = .ok (.iconst 0, 1) := by decide +kernel
theorem dX11_come_2 : decode cX11_come 2 = .ok (.sipush 30000, 3) := by decide +kernel
theorem dX11_come_5 : decode cX11_come 5 = .ok (.invokestatic 74, 3) := by decide +kernel
theorem dX11_come_8 : decode cX11_come 8 = .ok (.ifCond .eq 16, 3) := by decide +kernel
theorem dX11_come_11 : decode cX11_come 11 = .ok (.iload 4, 2) := by decide +kernel
theorem dX11_come_13 : decode cX11_come 13 = .ok (.bipush 50, 2) := by decide +kernel
theorem dX11_come_15 : decode cX11_come 15 = .ok (.sipush 300, 3) := by decide +kernel
theorem dX11_come_18 : decode cX11_come 18 = .ok (.invokestatic 74, 3) := by decide +kernel
theorem dX11_come_21 : decode cX11_come 21 = .ok (.ifCond .ne 5, 3) := by decide +kernel
theorem dX11_come_24 : decode cX11_come 24 = .ok (.iconst (-1), 1) := by decide +kernel
theorem dX11_come_25 : decode cX11_come 25 = .ok (.ireturn, 1) := by decide +kernel
theorem dX11_come_26 : decode cX11_come 26 = .ok (.aload_n 0, 1) := by decide +kernel
theorem dX11_come_27 : decode cX11_come 27 = .ok (.getfield 12, 3) := by decide +kernel
theorem dX11_come_30 : decode cX11_come 30 = .ok (.iload_n 1, 1) := by decide +kernel
theorem dX11_come_31 : decode cX11_come 31 = .ok (.iload_n 2, 1) := by decide +kernel
theorem dX11_come_32 : decode cX11_come 32 = .ok (.iload_n 3, 1) := by decide +kernel
theorem dX11_come_33 : decode cX11_come 33 = .ok (.iload 4, 2) := by decide +kernel
theorem dX11_come_35 : decode cX11_come 35 = .ok (.invokevirtual 96, 3) := by decide +kernel
theorem dX11_come_38 : decode cX11_come 38 = .ok (.ireturn, 1) := by decide +kernel
theorem okX11_come : ab_okM MX11_come 4 := ⟨by decide, ⟨by decide, by decide⟩, ab_in 803 (by decide +kernel) (by decide +kernel), ab_in 86 (by decide +kernel) (by decide +kernel), by decide +kernel, by decide⟩
set_option maxHeartbeats 4000000 in
set_option maxRecDepth 100000 in
theorem sX11_come (v1 : Int32) (v2 : Int32) (v3 : Int32) (v4 : Int32)  (x : ab_X) (K : Int32 → ab_X → Prop) (d bc bs : Nat) (hdp : 2 ≤ d) (h : wX11_come v1 v2 v3 v4 x K) : EW MX11_come 0 [(0, .ref 0), (1, .int v1), (2, .int v2), (3, .int v3), (4, .int v4)] [] (aS x) d bc bs (liI K) := by
  unfold wX11_come at h
  refine EW_iload_n (pc2 := 1) rfl dX11_come_0 3 rfl ?_
  refine EW_iconst (pc2 := 2) (v := 0) rfl dX11_come_1 (by decide) ?_
  refine EW_sipush (pc2 := 5) (v := 30000) rfl dX11_come_2 (by decide) ?_
  refine AW_invS (M' := MX11_within) [.int v3, .int 0, .int 30000] (rest := []) mlRX11_74 okX11_within (pc2 := 8) rfl dX11_come_5 rfl rfl (Nat.le_of_ble_eq_true rfl) (Nat.le_of_ble_eq_true rfl) (d' := 0) (by omega) (EW_mono (fun _ _ hr => ?_) (sX11_within v3 0 30000  x _ _ 0 0 (Nat.le_refl _) h))
  obtain ⟨r1, rfl, rfl, h⟩ := hr
  refine EW_if_eq (tgt := 24) (pc2 := 11) rfl dX11_come_8 (by decide) (fun q => ?_) (fun q => ?_)
  · replace h := h.1 q
    refine EW_iconst (pc2 := 25) (v := (-1)) rfl dX11_come_24 (by decide) ?_
    exact AW_iret rfl dX11_come_25 ⟨_, _, rfl, rfl, h⟩
  · replace h := h.2 q
    refine EW_iload (pc2 := 13) rfl dX11_come_11 4 rfl ?_
    refine EW_bipush (pc2 := 15) (v := 50) rfl dX11_come_13 (by decide) ?_
    refine EW_sipush (pc2 := 18) (v := 300) rfl dX11_come_15 (by decide) ?_
    refine AW_invS (M' := MX11_within) [.int v4, .int 50, .int 300] (rest := []) mlRX11_74 okX11_within (pc2 := 21) rfl dX11_come_18 rfl rfl (Nat.le_of_ble_eq_true rfl) (Nat.le_of_ble_eq_true rfl) (d' := 0) (by omega) (EW_mono (fun _ _ hr => ?_) (sX11_within v4 50 300  x _ _ 0 0 (Nat.le_refl _) h))
    obtain ⟨r2, rfl, rfl, h⟩ := hr
    refine EW_if_ne (tgt := 26) (pc2 := 24) rfl dX11_come_21 (by decide) (fun q => ?_) (fun q => ?_)
    · replace h := h.1 q
      refine EW_aload_n (pc2 := 27) rfl dX11_come_26 0 rfl ?_
      refine AW_getr (r := 1) ⟨gfRX11_12, rfl⟩ (pc2 := 30) rfl dX11_come_27 q0 rfl ?_
      refine EW_iload_n (pc2 := 31) rfl dX11_come_30 1 rfl ?_
      refine EW_iload_n (pc2 := 32) rfl dX11_come_31 2 rfl ?_
      refine EW_iload_n (pc2 := 33) rfl dX11_come_32 3 rfl ?_
      refine EW_iload (pc2 := 35) rfl dX11_come_33 4 rfl ?_
      refine AW_invV (M' := MX6_arrival) [.int v1, .int v2, .int v3, .int v4] (rest := []) mlRX11_96 okX6_arrival (pc2 := 38) rfl dX11_come_35 rfl rfl (Nat.le_of_ble_eq_true rfl) (Nat.le_of_ble_eq_true rfl) (d' := 1) (by omega) q1 ⟨by decide, rfl⟩ (EW_mono (fun _ _ hr => ?_) (sX6_arrival v1 v2 v3 v4  x _ _ 0 0 (Nat.le_refl _) h))
      obtain ⟨r3, x4, rfl, rfl, h⟩ := hr
      exact AW_iret rfl dX11_come_38 ⟨_, _, rfl, rfl, h⟩
    · replace h := h.2 q
      refine EW_iconst (pc2 := 25) (v := (-1)) rfl dX11_come_24 (by decide) ?_
      exact AW_iret rfl dX11_come_25 ⟨_, _, rfl, rfl, h⟩
theorem gfRX11_59 : ab_L RX11 59 11 6 := ⟨by decide, by decide, ab_in 738 (by decide +kernel) (by decide +kernel)⟩
theorem gfRX11_67 : ab_L RX11 67 11 8 := ⟨by decide, by decide, ab_in 740 (by decide +kernel) (by decide +kernel)⟩
theorem mmRX11_474 : Cond.methodLink RX11 474 arraycopyName ∈ ab_G ∧ Cond.native arraycopyName ∈ ab_G ∧ Cond.static arraycopyName ∈ ab_G ∧ Cond.initialized "java/lang/System" ∈ ab_G := ⟨ab_in 1708 (by decide +kernel) (by decide +kernel), ab_in 1337 (by decide +kernel) (by decide +kernel), ab_in 1336 (by decide +kernel) (by decide +kernel), ab_in 111 (by decide +kernel) (by decide +kernel)⟩
abbrev MX11_copy : ab_M := (yX11_copy, cX11_copy, 6, (some .int))
theorem dX11_copy_0 : decode cX11_copy 0 = .ok (.iload_n 1, 1) := by decide +kernel
theorem dX11_copy_1 : decode cX11_copy 1 = .ok (.aload_n 0, 1) := by decide +kernel
theorem dX11_copy_2 : decode cX11_copy 2 = .ok (.getfield 464, 3) := by decide +kernel
theorem dX11_copy_5 : decode cX11_copy 5 = .ok (.invokestatic 86, 3) := by decide +kernel
theorem dX11_copy_8 : decode cX11_copy 8 = .ok (.ifCond .eq 14, 3) := by decide +kernel
theorem dX11_copy_11 : decode cX11_copy 11 = .ok (.iload_n 3, 1) := by decide +kernel
theorem dX11_copy_12 : decode cX11_copy 12 = .ok (.aload_n 0, 1) := by decide +kernel
theorem dX11_copy_13 : decode cX11_copy 13 = .ok (.getfield 464, 3) := by decide +kernel
theorem dX11_copy_16 : decode cX11_copy 16 = .ok (.invokestatic 86, 3) := by decide +kernel
theorem dX11_copy_19 : decode cX11_copy 19 = .ok (.ifCond .ne 5, 3) := by decide +kernel
theorem dX11_copy_22 : decode cX11_copy 22 = .ok (.iconst 1, 1) := by decide +kernel
theorem dX11_copy_23 : decode cX11_copy 23 = .ok (.ireturn, 1) := by decide +kernel
theorem dX11_copy_24 : decode cX11_copy 24 = .ok (.aload_n 0, 1) := by decide +kernel
theorem dX11_copy_25 : decode cX11_copy 25 = .ok (.getfield 63, 3) := by decide +kernel
theorem dX11_copy_28 : decode cX11_copy 28 = .ok (.iload_n 1, 1) := by decide +kernel
theorem dX11_copy_29 : decode cX11_copy 29 = .ok (.baload, 1) := by decide +kernel
theorem dX11_copy_30 : decode cX11_copy 30 = .ok (.ifCond .ne 12, 3) := by decide +kernel
theorem dX11_copy_33 : decode cX11_copy 33 = .ok (.aload_n 0, 1) := by decide +kernel
theorem dX11_copy_34 : decode cX11_copy 34 = .ok (.getfield 63, 3) := by decide +kernel
theorem dX11_copy_37 : decode cX11_copy 37 = .ok (.iload_n 3, 1) := by decide +kernel
theorem dX11_copy_38 : decode cX11_copy 38 = .ok (.baload, 1) := by decide +kernel
theorem dX11_copy_39 : decode cX11_copy 39 = .ok (.ifCond .eq 5, 3) := by decide +kernel
theorem dX11_copy_42 : decode cX11_copy 42 = .ok (.iconst 2, 1) := by decide +kernel
theorem dX11_copy_43 : decode cX11_copy 43 = .ok (.ireturn, 1) := by decide +kernel
theorem dX11_copy_44 : decode cX11_copy 44 = .ok (.aload_n 0, 1) := by decide +kernel
theorem dX11_copy_45 : decode cX11_copy 45 = .ok (.getfield 59, 3) := by decide +kernel
theorem dX11_copy_48 : decode cX11_copy 48 = .ok (.iload_n 1, 1) := by decide +kernel
theorem dX11_copy_49 : decode cX11_copy 49 = .ok (.iaload, 1) := by decide +kernel
theorem dX11_copy_50 : decode cX11_copy 50 = .ok (.aload_n 0, 1) := by decide +kernel
theorem dX11_copy_51 : decode cX11_copy 51 = .ok (.getfield 59, 3) := by decide +kernel
theorem dX11_copy_54 : decode cX11_copy 54 = .ok (.iload_n 3, 1) := by decide +kernel
theorem dX11_copy_55 : decode cX11_copy 55 = .ok (.iaload, 1) := by decide +kernel
theorem dX11_copy_56 : decode cX11_copy 56 = .ok (.if_icmp .eq 5, 3) := by decide +kernel
theorem dX11_copy_59 : decode cX11_copy 59 = .ok (.iconst 3, 1) := by decide +kernel
theorem dX11_copy_60 : decode cX11_copy 60 = .ok (.ireturn, 1) := by decide +kernel
theorem dX11_copy_61 : decode cX11_copy 61 = .ok (.iload 5, 2) := by decide +kernel
theorem dX11_copy_63 : decode cX11_copy 63 = .ok (.iconst 0, 1) := by decide +kernel
theorem dX11_copy_64 : decode cX11_copy 64 = .ok (.bipush 20, 2) := by decide +kernel
theorem dX11_copy_66 : decode cX11_copy 66 = .ok (.invokestatic 74, 3) := by decide +kernel
theorem dX11_copy_69 : decode cX11_copy 69 = .ok (.ifCond .eq 30, 3) := by decide +kernel
theorem dX11_copy_72 : decode cX11_copy 72 = .ok (.iload_n 2, 1) := by decide +kernel
theorem dX11_copy_73 : decode cX11_copy 73 = .ok (.iconst 0, 1) := by decide +kernel
theorem dX11_copy_74 : decode cX11_copy 74 = .ok (.bipush 20, 2) := by decide +kernel
theorem dX11_copy_76 : decode cX11_copy 76 = .ok (.iload 5, 2) := by decide +kernel
theorem dX11_copy_78 : decode cX11_copy 78 = .ok (.isub, 1) := by decide +kernel
theorem dX11_copy_79 : decode cX11_copy 79 = .ok (.invokestatic 74, 3) := by decide +kernel
theorem dX11_copy_82 : decode cX11_copy 82 = .ok (.ifCond .eq 17, 3) := by decide +kernel
theorem dX11_copy_85 : decode cX11_copy 85 = .ok (.iload 4, 2) := by decide +kernel
theorem dX11_copy_87 : decode cX11_copy 87 = .ok (.iconst 0, 1) := by decide +kernel
theorem dX11_copy_88 : decode cX11_copy 88 = .ok (.bipush 20, 2) := by decide +kernel
theorem dX11_copy_90 : decode cX11_copy 90 = .ok (.iload 5, 2) := by decide +kernel
theorem dX11_copy_92 : decode cX11_copy 92 = .ok (.isub, 1) := by decide +kernel
theorem dX11_copy_93 : decode cX11_copy 93 = .ok (.invokestatic 74, 3) := by decide +kernel
theorem dX11_copy_96 : decode cX11_copy 96 = .ok (.ifCond .ne 5, 3) := by decide +kernel
theorem dX11_copy_99 : decode cX11_copy 99 = .ok (.iconst 4, 1) := by decide +kernel
theorem dX11_copy_100 : decode cX11_copy 100 = .ok (.ireturn, 1) := by decide +kernel
theorem dX11_copy_101 : decode cX11_copy 101 = .ok (.aload_n 0, 1) := by decide +kernel
theorem dX11_copy_102 : decode cX11_copy 102 = .ok (.getfield 67, 3) := by decide +kernel
theorem dX11_copy_105 : decode cX11_copy 105 = .ok (.iload_n 1, 1) := by decide +kernel
theorem dX11_copy_106 : decode cX11_copy 106 = .ok (.bipush 20, 2) := by decide +kernel
theorem dX11_copy_108 : decode cX11_copy 108 = .ok (.imul, 1) := by decide +kernel
theorem dX11_copy_109 : decode cX11_copy 109 = .ok (.iload_n 2, 1) := by decide +kernel
theorem dX11_copy_110 : decode cX11_copy 110 = .ok (.iadd, 1) := by decide +kernel
theorem dX11_copy_111 : decode cX11_copy 111 = .ok (.aload_n 0, 1) := by decide +kernel
theorem dX11_copy_112 : decode cX11_copy 112 = .ok (.getfield 67, 3) := by decide +kernel
theorem dX11_copy_115 : decode cX11_copy 115 = .ok (.iload_n 3, 1) := by decide +kernel
theorem dX11_copy_116 : decode cX11_copy 116 = .ok (.bipush 20, 2) := by decide +kernel
theorem dX11_copy_118 : decode cX11_copy 118 = .ok (.imul, 1) := by decide +kernel
theorem dX11_copy_119 : decode cX11_copy 119 = .ok (.iload 4, 2) := by decide +kernel
theorem dX11_copy_121 : decode cX11_copy 121 = .ok (.iadd, 1) := by decide +kernel
theorem dX11_copy_122 : decode cX11_copy 122 = .ok (.iload 5, 2) := by decide +kernel
theorem dX11_copy_124 : decode cX11_copy 124 = .ok (.invokestatic 474, 3) := by decide +kernel
theorem dX11_copy_127 : decode cX11_copy 127 = .ok (.iconst 0, 1) := by decide +kernel
theorem dX11_copy_128 : decode cX11_copy 128 = .ok (.ireturn, 1) := by decide +kernel
theorem okX11_copy : ab_okM MX11_copy 5 := ⟨by decide, ⟨by decide, by decide⟩, ab_in 1707 (by decide +kernel) (by decide +kernel), ab_in 86 (by decide +kernel) (by decide +kernel), by decide +kernel, by decide⟩
set_option maxHeartbeats 4000000 in
set_option maxRecDepth 100000 in
theorem sX11_copy (v1 : Int32) (v2 : Int32) (v3 : Int32) (v4 : Int32) (v5 : Int32)  (x : ab_X) (K : Int32 → ab_X → Prop) (d bc bs : Nat) (hdp : 1 ≤ d) (h : wX11_copy v1 v2 v3 v4 v5 x K) : EW MX11_copy 0 [(0, .ref 0), (1, .int v1), (2, .int v2), (3, .int v3), (4, .int v4), (5, .int v5)] [] (aS x) d bc bs (liI K) := by
  unfold wX11_copy at h
  refine EW_iload_n (pc2 := 1) rfl dX11_copy_0 1 rfl ?_
  refine EW_aload_n (pc2 := 2) rfl dX11_copy_1 0 rfl ?_
  refine AW_geti ⟨gfRX11_464, rfl⟩ (pc2 := 5) rfl dX11_copy_2 q0 ?_
  refine AW_invS (M' := MX11_below) [.int v1, .int (x.1 0 9)] (rest := []) mlRX11_86 okX11_below (pc2 := 8) rfl dX11_copy_5 rfl rfl (Nat.le_of_ble_eq_true rfl) (Nat.le_of_ble_eq_true rfl) (d' := 0) (by omega) (EW_mono (fun _ _ hr => ?_) (sX11_below v1 (x.1 0 9)  x _ _ 0 0 (Nat.le_refl _) h))
  obtain ⟨r1, rfl, rfl, h⟩ := hr
  refine EW_if_eq (tgt := 22) (pc2 := 11) rfl dX11_copy_8 (by decide) (fun q => ?_) (fun q => ?_)
  · replace h := h.1 q
    refine EW_iconst (pc2 := 23) (v := 1) rfl dX11_copy_22 (by decide) ?_
    exact AW_iret rfl dX11_copy_23 ⟨_, _, rfl, rfl, h⟩
  · replace h := h.2 q
    refine EW_iload_n (pc2 := 12) rfl dX11_copy_11 3 rfl ?_
    refine EW_aload_n (pc2 := 13) rfl dX11_copy_12 0 rfl ?_
    refine AW_geti ⟨gfRX11_464, rfl⟩ (pc2 := 16) rfl dX11_copy_13 q0 ?_
    refine AW_invS (M' := MX11_below) [.int v3, .int (x.1 0 9)] (rest := []) mlRX11_86 okX11_below (pc2 := 19) rfl dX11_copy_16 rfl rfl (Nat.le_of_ble_eq_true rfl) (Nat.le_of_ble_eq_true rfl) (d' := 0) (by omega) (EW_mono (fun _ _ hr => ?_) (sX11_below v3 (x.1 0 9)  x _ _ 0 0 (Nat.le_refl _) h))
    obtain ⟨r2, rfl, rfl, h⟩ := hr
    refine EW_if_ne (tgt := 24) (pc2 := 22) rfl dX11_copy_19 (by decide) (fun q => ?_) (fun q => ?_)
    · replace h := h.1 q
      refine EW_aload_n (pc2 := 25) rfl dX11_copy_24 0 rfl ?_
      refine AW_getr (r := 244) ⟨gfRX11_63, rfl⟩ (pc2 := 28) rfl dX11_copy_25 q0 rfl ?_
      refine EW_iload_n (pc2 := 29) rfl dX11_copy_28 1 rfl ?_
      obtain ⟨b3, h⟩ := h
      refine AW_zald (pc2 := 30) rfl dX11_copy_29 q244 b3 ?_
      refine EW_if_ne (tgt := 42) (pc2 := 33) rfl dX11_copy_30 (by decide) (fun q => ?_) (fun q => ?_)
      · replace h := h.1 q
        refine EW_iconst (pc2 := 43) (v := 2) rfl dX11_copy_42 (by decide) ?_
        exact AW_iret rfl dX11_copy_43 ⟨_, _, rfl, rfl, h⟩
      · replace h := h.2 q
        refine EW_aload_n (pc2 := 34) rfl dX11_copy_33 0 rfl ?_
        refine AW_getr (r := 244) ⟨gfRX11_63, rfl⟩ (pc2 := 37) rfl dX11_copy_34 q0 rfl ?_
        refine EW_iload_n (pc2 := 38) rfl dX11_copy_37 3 rfl ?_
        obtain ⟨b4, h⟩ := h
        refine AW_zald (pc2 := 39) rfl dX11_copy_38 q244 b4 ?_
        refine EW_if_eq (tgt := 44) (pc2 := 42) rfl dX11_copy_39 (by decide) (fun q => ?_) (fun q => ?_)
        · replace h := h.1 q
          refine EW_aload_n (pc2 := 45) rfl dX11_copy_44 0 rfl ?_
          refine AW_getr (r := 243) ⟨gfRX11_59, rfl⟩ (pc2 := 48) rfl dX11_copy_45 q0 rfl ?_
          refine EW_iload_n (pc2 := 49) rfl dX11_copy_48 1 rfl ?_
          obtain ⟨b5, h⟩ := h
          refine AW_iald (pc2 := 50) rfl dX11_copy_49 q243 b5 ?_
          refine EW_aload_n (pc2 := 51) rfl dX11_copy_50 0 rfl ?_
          refine AW_getr (r := 243) ⟨gfRX11_59, rfl⟩ (pc2 := 54) rfl dX11_copy_51 q0 rfl ?_
          refine EW_iload_n (pc2 := 55) rfl dX11_copy_54 3 rfl ?_
          obtain ⟨b6, h⟩ := h
          refine AW_iald (pc2 := 56) rfl dX11_copy_55 q243 b6 ?_
          refine EW_icmp_eq (tgt := 61) (pc2 := 59) rfl dX11_copy_56 (by decide) (fun q => ?_) (fun q => ?_)
          · replace h := h.1 q
            refine EW_iload (pc2 := 63) rfl dX11_copy_61 5 rfl ?_
            refine EW_iconst (pc2 := 64) (v := 0) rfl dX11_copy_63 (by decide) ?_
            refine EW_bipush (pc2 := 66) (v := 20) rfl dX11_copy_64 (by decide) ?_
            refine AW_invS (M' := MX11_within) [.int v5, .int 0, .int 20] (rest := []) mlRX11_74 okX11_within (pc2 := 69) rfl dX11_copy_66 rfl rfl (Nat.le_of_ble_eq_true rfl) (Nat.le_of_ble_eq_true rfl) (d' := 0) (by omega) (EW_mono (fun _ _ hr => ?_) (sX11_within v5 0 20  x _ _ 0 0 (Nat.le_refl _) h))
            obtain ⟨r7, rfl, rfl, h⟩ := hr
            refine EW_if_eq (tgt := 99) (pc2 := 72) rfl dX11_copy_69 (by decide) (fun q => ?_) (fun q => ?_)
            · replace h := h.1 q
              refine EW_iconst (pc2 := 100) (v := 4) rfl dX11_copy_99 (by decide) ?_
              exact AW_iret rfl dX11_copy_100 ⟨_, _, rfl, rfl, h⟩
            · replace h := h.2 q
              refine EW_iload_n (pc2 := 73) rfl dX11_copy_72 2 rfl ?_
              refine EW_iconst (pc2 := 74) (v := 0) rfl dX11_copy_73 (by decide) ?_
              refine EW_bipush (pc2 := 76) (v := 20) rfl dX11_copy_74 (by decide) ?_
              refine EW_iload (pc2 := 78) rfl dX11_copy_76 5 rfl ?_
              refine EW_isub (pc2 := 79) rfl dX11_copy_78 ?_
              refine AW_invS (M' := MX11_within) [.int v2, .int 0, .int (20 - v5)] (rest := []) mlRX11_74 okX11_within (pc2 := 82) rfl dX11_copy_79 rfl rfl (Nat.le_of_ble_eq_true rfl) (Nat.le_of_ble_eq_true rfl) (d' := 0) (by omega) (EW_mono (fun _ _ hr => ?_) (sX11_within v2 0 (20 - v5)  x _ _ 0 0 (Nat.le_refl _) h))
              obtain ⟨r8, rfl, rfl, h⟩ := hr
              refine EW_if_eq (tgt := 99) (pc2 := 85) rfl dX11_copy_82 (by decide) (fun q => ?_) (fun q => ?_)
              · replace h := h.1 q
                refine EW_iconst (pc2 := 100) (v := 4) rfl dX11_copy_99 (by decide) ?_
                exact AW_iret rfl dX11_copy_100 ⟨_, _, rfl, rfl, h⟩
              · replace h := h.2 q
                refine EW_iload (pc2 := 87) rfl dX11_copy_85 4 rfl ?_
                refine EW_iconst (pc2 := 88) (v := 0) rfl dX11_copy_87 (by decide) ?_
                refine EW_bipush (pc2 := 90) (v := 20) rfl dX11_copy_88 (by decide) ?_
                refine EW_iload (pc2 := 92) rfl dX11_copy_90 5 rfl ?_
                refine EW_isub (pc2 := 93) rfl dX11_copy_92 ?_
                refine AW_invS (M' := MX11_within) [.int v4, .int 0, .int (20 - v5)] (rest := []) mlRX11_74 okX11_within (pc2 := 96) rfl dX11_copy_93 rfl rfl (Nat.le_of_ble_eq_true rfl) (Nat.le_of_ble_eq_true rfl) (d' := 0) (by omega) (EW_mono (fun _ _ hr => ?_) (sX11_within v4 0 (20 - v5)  x _ _ 0 0 (Nat.le_refl _) h))
                obtain ⟨r9, rfl, rfl, h⟩ := hr
                refine EW_if_ne (tgt := 101) (pc2 := 99) rfl dX11_copy_96 (by decide) (fun q => ?_) (fun q => ?_)
                · replace h := h.1 q
                  refine EW_aload_n (pc2 := 102) rfl dX11_copy_101 0 rfl ?_
                  refine AW_getr (r := 245) ⟨gfRX11_67, rfl⟩ (pc2 := 105) rfl dX11_copy_102 q0 rfl ?_
                  refine EW_iload_n (pc2 := 106) rfl dX11_copy_105 1 rfl ?_
                  refine EW_bipush (pc2 := 108) (v := 20) rfl dX11_copy_106 (by decide) ?_
                  refine EW_imul (pc2 := 109) rfl dX11_copy_108 ?_
                  refine EW_iload_n (pc2 := 110) rfl dX11_copy_109 2 rfl ?_
                  refine EW_iadd (pc2 := 111) rfl dX11_copy_110 ?_
                  refine EW_aload_n (pc2 := 112) rfl dX11_copy_111 0 rfl ?_
                  refine AW_getr (r := 245) ⟨gfRX11_67, rfl⟩ (pc2 := 115) rfl dX11_copy_112 q0 rfl ?_
                  refine EW_iload_n (pc2 := 116) rfl dX11_copy_115 3 rfl ?_
                  refine EW_bipush (pc2 := 118) (v := 20) rfl dX11_copy_116 (by decide) ?_
                  refine EW_imul (pc2 := 119) rfl dX11_copy_118 ?_
                  refine EW_iload (pc2 := 121) rfl dX11_copy_119 4 rfl ?_
                  refine EW_iadd (pc2 := 122) rfl dX11_copy_121 ?_
                  refine EW_iload (pc2 := 124) rfl dX11_copy_122 5 rfl ?_
                  obtain ⟨c10, h⟩ := h
                  obtain ⟨c11, h⟩ := h
                  obtain ⟨c12, h⟩ := h
                  obtain ⟨c13, h⟩ := h
                  obtain ⟨c14, h⟩ := h
                  refine AW_copyi mmRX11_474 (pc2 := 127) rfl dX11_copy_124 (Nat.le_of_ble_eq_true rfl) (by omega) q245 q245 c10 c11 c12 c13 c14 ?_
                  refine EW_iconst (pc2 := 128) (v := 0) rfl dX11_copy_127 (by decide) ?_
                  exact AW_iret rfl dX11_copy_128 ⟨_, _, rfl, rfl, h⟩
                · replace h := h.2 q
                  refine EW_iconst (pc2 := 100) (v := 4) rfl dX11_copy_99 (by decide) ?_
                  exact AW_iret rfl dX11_copy_100 ⟨_, _, rfl, rfl, h⟩
          · replace h := h.2 q
            refine EW_iconst (pc2 := 60) (v := 3) rfl dX11_copy_59 (by decide) ?_
            exact AW_iret rfl dX11_copy_60 ⟨_, _, rfl, rfl, h⟩
        · replace h := h.2 q
          refine EW_iconst (pc2 := 43) (v := 2) rfl dX11_copy_42 (by decide) ?_
          exact AW_iret rfl dX11_copy_43 ⟨_, _, rfl, rfl, h⟩
    · replace h := h.2 q
      refine EW_iconst (pc2 := 23) (v := 1) rfl dX11_copy_22 (by decide) ?_
      exact AW_iret rfl dX11_copy_23 ⟨_, _, rfl, rfl, h⟩
theorem gfRX11_105 : ab_L RX11 105 10 2 := ⟨by decide, by decide, ab_in 315 (by decide +kernel) (by decide +kernel)⟩
theorem gfRX11_237 : ab_L RX11 237 0 3 := ⟨by decide, by decide, ab_in 548 (by decide +kernel) (by decide +kernel)⟩
theorem mlRX11_495 : Cond.methodLink RX11 495 yX0_callsThatAre ∈ ab_G ∧ Cond.instanceMethod yX0_callsThatAre ∈ ab_G ∧ Cond.selects RX0 yX0_callsThatAre yX0_callsThatAre ∈ ab_G := ⟨ab_in 1754 (by decide +kernel) (by decide +kernel), ab_in 1070 (by decide +kernel) (by decide +kernel), ab_in 1071 (by decide +kernel) (by decide +kernel)⟩
theorem mlRX11_498 : Cond.methodLink RX11 498 yX0_lackedInAll ∈ ab_G ∧ Cond.instanceMethod yX0_lackedInAll ∈ ab_G ∧ Cond.selects RX0 yX0_lackedInAll yX0_lackedInAll ∈ ab_G := ⟨ab_in 1755 (by decide +kernel) (by decide +kernel), ab_in 1756 (by decide +kernel) (by decide +kernel), ab_in 1757 (by decide +kernel) (by decide +kernel)⟩
theorem mlRX11_501 : Cond.methodLink RX11 501 yX10_savedInAll ∈ ab_G ∧ Cond.instanceMethod yX10_savedInAll ∈ ab_G ∧ Cond.selects RX10 yX10_savedInAll yX10_savedInAll ∈ ab_G := ⟨ab_in 1759 (by decide +kernel) (by decide +kernel), ab_in 1760 (by decide +kernel) (by decide +kernel), ab_in 1761 (by decide +kernel) (by decide +kernel)⟩
theorem mlRX11_504 : Cond.methodLink RX11 504 yX10_lostInAll ∈ ab_G ∧ Cond.instanceMethod yX10_lostInAll ∈ ab_G ∧ Cond.selects RX10 yX10_lostInAll yX10_lostInAll ∈ ab_G := ⟨ab_in 1763 (by decide +kernel) (by decide +kernel), ab_in 1764 (by decide +kernel) (by decide +kernel), ab_in 1765 (by decide +kernel) (by decide +kernel)⟩
theorem mlRX11_507 : Cond.methodLink RX11 507 yX0_hurtNow ∈ ab_G ∧ Cond.instanceMethod yX0_hurtNow ∈ ab_G ∧ Cond.selects RX0 yX0_hurtNow yX0_hurtNow ∈ ab_G := ⟨ab_in 1767 (by decide +kernel) (by decide +kernel), ab_in 1768 (by decide +kernel) (by decide +kernel), ab_in 1769 (by decide +kernel) (by decide +kernel)⟩
theorem gfRX11_374 : ab_L RX11 374 0 7 := ⟨by decide, by decide, ab_in 557 (by decide +kernel) (by decide +kernel)⟩
theorem gfRX11_362 : ab_L RX11 362 8 1 := ⟨by decide, by decide, ab_in 603 (by decide +kernel) (by decide +kernel)⟩
theorem gfRX11_231 : ab_L RX11 231 10 6 := ⟨by decide, by decide, ab_in 324 (by decide +kernel) (by decide +kernel)⟩
theorem gfRX11_510 : ab_L RX11 510 10 9 := ⟨by decide, by decide, ab_in 329 (by decide +kernel) (by decide +kernel)⟩
abbrev MX11_count : ab_M := (yX11_count, cX11_count, 2, (some .int))
theorem dX11_count_0 : decode cX11_count 0 = .ok (.iload_n 1, 1) := by decide +kernel
theorem dX11_count_1 : decode cX11_count 1 = .ok (.tableswitch 218 0 16 #[83, 91, 99, 107, 115, 123, 132, 141, 149, 157, 165, 173, 181, 189, 197, 205, 213], 83) := by decide +kernel
theorem dX11_count_84 : decode cX11_count 84 = .ok (.aload_n 0, 1) := by decide +kernel
theorem dX11_count_85 : decode cX11_count 85 = .ok (.getfield 30, 3) := by decide +kernel
theorem dX11_count_88 : decode cX11_count 88 = .ok (.getfield 400, 3) := by decide +kernel
theorem dX11_count_91 : decode cX11_count 91 = .ok (.ireturn, 1) := by decide +kernel
theorem dX11_count_92 : decode cX11_count 92 = .ok (.aload_n 0, 1) := by decide +kernel
theorem dX11_count_93 : decode cX11_count 93 = .ok (.getfield 12, 3) := by decide +kernel
theorem dX11_count_96 : decode cX11_count 96 = .ok (.getfield 82, 3) := by decide +kernel
theorem dX11_count_99 : decode cX11_count 99 = .ok (.ireturn, 1) := by decide +kernel
theorem dX11_count_100 : decode cX11_count 100 = .ok (.aload_n 0, 1) := by decide +kernel
theorem dX11_count_101 : decode cX11_count 101 = .ok (.getfield 21, 3) := by decide +kernel
theorem dX11_count_104 : decode cX11_count 104 = .ok (.getfield 105, 3) := by decide +kernel
theorem dX11_count_107 : decode cX11_count 107 = .ok (.ireturn, 1) := by decide +kernel
theorem dX11_count_108 : decode cX11_count 108 = .ok (.aload_n 0, 1) := by decide +kernel
theorem dX11_count_109 : decode cX11_count 109 = .ok (.getfield 30, 3) := by decide +kernel
theorem dX11_count_112 : decode cX11_count 112 = .ok (.getfield 237, 3) := by decide +kernel
theorem dX11_count_115 : decode cX11_count 115 = .ok (.ireturn, 1) := by decide +kernel
theorem dX11_count_116 : decode cX11_count 116 = .ok (.aload_n 0, 1) := by decide +kernel
theorem dX11_count_117 : decode cX11_count 117 = .ok (.getfield 30, 3) := by decide +kernel
theorem dX11_count_120 : decode cX11_count 120 = .ok (.getfield 327, 3) := by decide +kernel
theorem dX11_count_123 : decode cX11_count 123 = .ok (.ireturn, 1) := by decide +kernel
theorem dX11_count_124 : decode cX11_count 124 = .ok (.aload_n 0, 1) := by decide +kernel
theorem dX11_count_125 : decode cX11_count 125 = .ok (.getfield 30, 3) := by decide +kernel
theorem dX11_count_128 : decode cX11_count 128 = .ok (.iconst 0, 1) := by decide +kernel
theorem dX11_count_129 : decode cX11_count 129 = .ok (.invokevirtual 495, 3) := by decide +kernel
theorem dX11_count_132 : decode cX11_count 132 = .ok (.ireturn, 1) := by decide +kernel
theorem dX11_count_133 : decode cX11_count 133 = .ok (.aload_n 0, 1) := by decide +kernel
theorem dX11_count_134 : decode cX11_count 134 = .ok (.getfield 30, 3) := by decide +kernel
theorem dX11_count_137 : decode cX11_count 137 = .ok (.iconst 2, 1) := by decide +kernel
theorem dX11_count_138 : decode cX11_count 138 = .ok (.invokevirtual 495, 3) := by decide +kernel
theorem dX11_count_141 : decode cX11_count 141 = .ok (.ireturn, 1) := by decide +kernel
theorem dX11_count_142 : decode cX11_count 142 = .ok (.aload_n 0, 1) := by decide +kernel
theorem dX11_count_143 : decode cX11_count 143 = .ok (.getfield 30, 3) := by decide +kernel
theorem dX11_count_146 : decode cX11_count 146 = .ok (.invokevirtual 498, 3) := by decide +kernel
theorem dX11_count_149 : decode cX11_count 149 = .ok (.ireturn, 1) := by decide +kernel
theorem dX11_count_150 : decode cX11_count 150 = .ok (.aload_n 0, 1) := by decide +kernel
theorem dX11_count_151 : decode cX11_count 151 = .ok (.getfield 21, 3) := by decide +kernel
theorem dX11_count_154 : decode cX11_count 154 = .ok (.invokevirtual 501, 3) := by decide +kernel
theorem dX11_count_157 : decode cX11_count 157 = .ok (.ireturn, 1) := by decide +kernel
theorem dX11_count_158 : decode cX11_count 158 = .ok (.aload_n 0, 1) := by decide +kernel
theorem dX11_count_159 : decode cX11_count 159 = .ok (.getfield 21, 3) := by decide +kernel
theorem dX11_count_162 : decode cX11_count 162 = .ok (.invokevirtual 504, 3) := by decide +kernel
theorem dX11_count_165 : decode cX11_count 165 = .ok (.ireturn, 1) := by decide +kernel
theorem dX11_count_166 : decode cX11_count 166 = .ok (.aload_n 0, 1) := by decide +kernel
theorem dX11_count_167 : decode cX11_count 167 = .ok (.getfield 30, 3) := by decide +kernel
theorem dX11_count_170 : decode cX11_count 170 = .ok (.invokevirtual 507, 3) := by decide +kernel
theorem dX11_count_173 : decode cX11_count 173 = .ok (.ireturn, 1) := by decide +kernel
theorem dX11_count_174 : decode cX11_count 174 = .ok (.aload_n 0, 1) := by decide +kernel
theorem dX11_count_175 : decode cX11_count 175 = .ok (.getfield 46, 3) := by decide +kernel
theorem dX11_count_178 : decode cX11_count 178 = .ok (.getfield 406, 3) := by decide +kernel
theorem dX11_count_181 : decode cX11_count 181 = .ok (.ireturn, 1) := by decide +kernel
theorem dX11_count_182 : decode cX11_count 182 = .ok (.aload_n 0, 1) := by decide +kernel
theorem dX11_count_183 : decode cX11_count 183 = .ok (.getfield 30, 3) := by decide +kernel
theorem dX11_count_186 : decode cX11_count 186 = .ok (.getfield 374, 3) := by decide +kernel
theorem dX11_count_189 : decode cX11_count 189 = .ok (.ireturn, 1) := by decide +kernel
theorem dX11_count_190 : decode cX11_count 190 = .ok (.aload_n 0, 1) := by decide +kernel
theorem dX11_count_191 : decode cX11_count 191 = .ok (.getfield 37, 3) := by decide +kernel
theorem dX11_count_194 : decode cX11_count 194 = .ok (.getfield 362, 3) := by decide +kernel
theorem dX11_count_197 : decode cX11_count 197 = .ok (.ireturn, 1) := by decide +kernel
theorem dX11_count_198 : decode cX11_count 198 = .ok (.aload_n 0, 1) := by decide +kernel
theorem dX11_count_199 : decode cX11_count 199 = .ok (.getfield 21, 3) := by decide +kernel
theorem dX11_count_202 : decode cX11_count 202 = .ok (.getfield 231, 3) := by decide +kernel
theorem dX11_count_205 : decode cX11_count 205 = .ok (.ireturn, 1) := by decide +kernel
theorem dX11_count_206 : decode cX11_count 206 = .ok (.aload_n 0, 1) := by decide +kernel
theorem dX11_count_207 : decode cX11_count 207 = .ok (.getfield 21, 3) := by decide +kernel
theorem dX11_count_210 : decode cX11_count 210 = .ok (.getfield 510, 3) := by decide +kernel
theorem dX11_count_213 : decode cX11_count 213 = .ok (.ireturn, 1) := by decide +kernel
theorem dX11_count_214 : decode cX11_count 214 = .ok (.aload_n 0, 1) := by decide +kernel
theorem dX11_count_215 : decode cX11_count 215 = .ok (.getfield 464, 3) := by decide +kernel
theorem dX11_count_218 : decode cX11_count 218 = .ok (.ireturn, 1) := by decide +kernel
theorem dX11_count_219 : decode cX11_count 219 = .ok (.iconst (-1), 1) := by decide +kernel
theorem dX11_count_220 : decode cX11_count 220 = .ok (.ireturn, 1) := by decide +kernel
theorem okX11_count : ab_okM MX11_count 1 := ⟨by decide, ⟨by decide, by decide⟩, ab_in 1753 (by decide +kernel) (by decide +kernel), ab_in 86 (by decide +kernel) (by decide +kernel), by decide +kernel, by decide⟩
set_option maxHeartbeats 4000000 in
set_option maxRecDepth 100000 in
theorem sX11_count (v1 : Int32)  (x : ab_X) (K : Int32 → Prop) (d bc bs : Nat) (hdp : 1 ≤ d) (h : wX11_count v1 x K) : EW MX11_count 0 [(0, .ref 0), (1, .int v1)] [] (aS x) d bc bs (liP x K) := by
  unfold wX11_count at h
  refine EW_iload_n (pc2 := 1) rfl dX11_count_0 1 rfl ?_
  by_cases qo : Int32.toInt v1 < 0 ∨ 16 < Int32.toInt v1
  · replace h := h.1 qo
    refine EW_tabOut (tgt := 219) dX11_count_1 qo (by decide) ?_
    refine EW_iconst (pc2 := 220) (v := (-1)) rfl dX11_count_219 (by decide) ?_
    exact AW_iret rfl dX11_count_220 ⟨_, rfl, rfl, h⟩
  · obtain ⟨kk, hkk, qk⟩ := sw_in 0 16 (by decide) qo
    match kk, hkk, qk with
    | 0, _, qk =>
      replace h := h.2.1 qk
      refine EW_tabIn (off := 83) (tgt := 84) dX11_count_1 (by rw [qk]; decide) (by rw [qk]; decide) (by rw [qk]; decide) (by decide) ?_
      refine EW_aload_n (pc2 := 85) rfl dX11_count_84 0 rfl ?_
      refine AW_getr (r := 66) ⟨gfRX11_30, rfl⟩ (pc2 := 88) rfl dX11_count_85 q0 rfl ?_
      refine AW_geti ⟨gfRX11_400, rfl⟩ (pc2 := 91) rfl dX11_count_88 q66 ?_
      exact AW_iret rfl dX11_count_91 ⟨_, rfl, rfl, h⟩
    | 1, _, qk =>
      replace h := h.2.2.1 qk
      refine EW_tabIn (off := 91) (tgt := 92) dX11_count_1 (by rw [qk]; decide) (by rw [qk]; decide) (by rw [qk]; decide) (by decide) ?_
      refine EW_aload_n (pc2 := 93) rfl dX11_count_92 0 rfl ?_
      refine AW_getr (r := 1) ⟨gfRX11_12, rfl⟩ (pc2 := 96) rfl dX11_count_93 q0 rfl ?_
      refine AW_geti ⟨gfRX11_82, rfl⟩ (pc2 := 99) rfl dX11_count_96 q1 ?_
      exact AW_iret rfl dX11_count_99 ⟨_, rfl, rfl, h⟩
    | 2, _, qk =>
      replace h := h.2.2.2.1 qk
      refine EW_tabIn (off := 99) (tgt := 100) dX11_count_1 (by rw [qk]; decide) (by rw [qk]; decide) (by rw [qk]; decide) (by decide) ?_
      refine EW_aload_n (pc2 := 101) rfl dX11_count_100 0 rfl ?_
      refine AW_getr (r := 9) ⟨gfRX11_21, rfl⟩ (pc2 := 104) rfl dX11_count_101 q0 rfl ?_
      refine AW_geti ⟨gfRX11_105, rfl⟩ (pc2 := 107) rfl dX11_count_104 q9 ?_
      exact AW_iret rfl dX11_count_107 ⟨_, rfl, rfl, h⟩
    | 3, _, qk =>
      replace h := h.2.2.2.2.1 qk
      refine EW_tabIn (off := 107) (tgt := 108) dX11_count_1 (by rw [qk]; decide) (by rw [qk]; decide) (by rw [qk]; decide) (by decide) ?_
      refine EW_aload_n (pc2 := 109) rfl dX11_count_108 0 rfl ?_
      refine AW_getr (r := 66) ⟨gfRX11_30, rfl⟩ (pc2 := 112) rfl dX11_count_109 q0 rfl ?_
      refine AW_geti ⟨gfRX11_237, rfl⟩ (pc2 := 115) rfl dX11_count_112 q66 ?_
      exact AW_iret rfl dX11_count_115 ⟨_, rfl, rfl, h⟩
    | 4, _, qk =>
      replace h := h.2.2.2.2.2.1 qk
      refine EW_tabIn (off := 115) (tgt := 116) dX11_count_1 (by rw [qk]; decide) (by rw [qk]; decide) (by rw [qk]; decide) (by decide) ?_
      refine EW_aload_n (pc2 := 117) rfl dX11_count_116 0 rfl ?_
      refine AW_getr (r := 66) ⟨gfRX11_30, rfl⟩ (pc2 := 120) rfl dX11_count_117 q0 rfl ?_
      refine AW_geti ⟨gfRX11_327, rfl⟩ (pc2 := 123) rfl dX11_count_120 q66 ?_
      exact AW_iret rfl dX11_count_123 ⟨_, rfl, rfl, h⟩
    | 5, _, qk =>
      replace h := h.2.2.2.2.2.2.1 qk
      refine EW_tabIn (off := 123) (tgt := 124) dX11_count_1 (by rw [qk]; decide) (by rw [qk]; decide) (by rw [qk]; decide) (by decide) ?_
      refine EW_aload_n (pc2 := 125) rfl dX11_count_124 0 rfl ?_
      refine AW_getr (r := 66) ⟨gfRX11_30, rfl⟩ (pc2 := 128) rfl dX11_count_125 q0 rfl ?_
      refine EW_iconst (pc2 := 129) (v := 0) rfl dX11_count_128 (by decide) ?_
      refine AW_invV (M' := MX0_callsThatAre) [.int 0] (rest := []) mlRX11_495 okX0_callsThatAre (pc2 := 132) rfl dX11_count_129 rfl rfl (Nat.le_of_ble_eq_true rfl) (Nat.le_of_ble_eq_true rfl) (d' := 0) (by omega) q66 ⟨by decide, rfl⟩ (EW_mono (fun _ _ hr => ?_) (sX0_callsThatAre 0  x _ _ 0 0 (Nat.le_refl _) h))
      obtain ⟨r1, rfl, rfl, h⟩ := hr
      exact AW_iret rfl dX11_count_132 ⟨_, rfl, rfl, h⟩
    | 6, _, qk =>
      replace h := h.2.2.2.2.2.2.2.1 qk
      refine EW_tabIn (off := 132) (tgt := 133) dX11_count_1 (by rw [qk]; decide) (by rw [qk]; decide) (by rw [qk]; decide) (by decide) ?_
      refine EW_aload_n (pc2 := 134) rfl dX11_count_133 0 rfl ?_
      refine AW_getr (r := 66) ⟨gfRX11_30, rfl⟩ (pc2 := 137) rfl dX11_count_134 q0 rfl ?_
      refine EW_iconst (pc2 := 138) (v := 2) rfl dX11_count_137 (by decide) ?_
      refine AW_invV (M' := MX0_callsThatAre) [.int 2] (rest := []) mlRX11_495 okX0_callsThatAre (pc2 := 141) rfl dX11_count_138 rfl rfl (Nat.le_of_ble_eq_true rfl) (Nat.le_of_ble_eq_true rfl) (d' := 0) (by omega) q66 ⟨by decide, rfl⟩ (EW_mono (fun _ _ hr => ?_) (sX0_callsThatAre 2  x _ _ 0 0 (Nat.le_refl _) h))
      obtain ⟨r2, rfl, rfl, h⟩ := hr
      exact AW_iret rfl dX11_count_141 ⟨_, rfl, rfl, h⟩
    | 7, _, qk =>
      replace h := h.2.2.2.2.2.2.2.2.1 qk
      refine EW_tabIn (off := 141) (tgt := 142) dX11_count_1 (by rw [qk]; decide) (by rw [qk]; decide) (by rw [qk]; decide) (by decide) ?_
      refine EW_aload_n (pc2 := 143) rfl dX11_count_142 0 rfl ?_
      refine AW_getr (r := 66) ⟨gfRX11_30, rfl⟩ (pc2 := 146) rfl dX11_count_143 q0 rfl ?_
      refine AW_invV (M' := MX0_lackedInAll) [] (rest := []) mlRX11_498 okX0_lackedInAll (pc2 := 149) rfl dX11_count_146 rfl rfl (Nat.le_of_ble_eq_true rfl) (Nat.le_of_ble_eq_true rfl) (d' := 0) (by omega) q66 ⟨by decide, rfl⟩ (EW_mono (fun _ _ hr => ?_) (sX0_lackedInAll   x _ _ 0 0 (Nat.le_refl _) h))
      obtain ⟨r3, rfl, rfl, h⟩ := hr
      exact AW_iret rfl dX11_count_149 ⟨_, rfl, rfl, h⟩
    | 8, _, qk =>
      replace h := h.2.2.2.2.2.2.2.2.2.1 qk
      refine EW_tabIn (off := 149) (tgt := 150) dX11_count_1 (by rw [qk]; decide) (by rw [qk]; decide) (by rw [qk]; decide) (by decide) ?_
      refine EW_aload_n (pc2 := 151) rfl dX11_count_150 0 rfl ?_
      refine AW_getr (r := 9) ⟨gfRX11_21, rfl⟩ (pc2 := 154) rfl dX11_count_151 q0 rfl ?_
      refine AW_invV (M' := MX10_savedInAll) [] (rest := []) mlRX11_501 okX10_savedInAll (pc2 := 157) rfl dX11_count_154 rfl rfl (Nat.le_of_ble_eq_true rfl) (Nat.le_of_ble_eq_true rfl) (d' := 0) (by omega) q9 ⟨by decide, rfl⟩ (EW_mono (fun _ _ hr => ?_) (sX10_savedInAll   x _ _ 0 0 (Nat.le_refl _) h))
      obtain ⟨r4, rfl, rfl, h⟩ := hr
      exact AW_iret rfl dX11_count_157 ⟨_, rfl, rfl, h⟩
    | 9, _, qk =>
      replace h := h.2.2.2.2.2.2.2.2.2.2.1 qk
      refine EW_tabIn (off := 157) (tgt := 158) dX11_count_1 (by rw [qk]; decide) (by rw [qk]; decide) (by rw [qk]; decide) (by decide) ?_
      refine EW_aload_n (pc2 := 159) rfl dX11_count_158 0 rfl ?_
      refine AW_getr (r := 9) ⟨gfRX11_21, rfl⟩ (pc2 := 162) rfl dX11_count_159 q0 rfl ?_
      refine AW_invV (M' := MX10_lostInAll) [] (rest := []) mlRX11_504 okX10_lostInAll (pc2 := 165) rfl dX11_count_162 rfl rfl (Nat.le_of_ble_eq_true rfl) (Nat.le_of_ble_eq_true rfl) (d' := 0) (by omega) q9 ⟨by decide, rfl⟩ (EW_mono (fun _ _ hr => ?_) (sX10_lostInAll   x _ _ 0 0 (Nat.le_refl _) h))
      obtain ⟨r5, rfl, rfl, h⟩ := hr
      exact AW_iret rfl dX11_count_165 ⟨_, rfl, rfl, h⟩
    | 10, _, qk =>
      replace h := h.2.2.2.2.2.2.2.2.2.2.2.1 qk
      refine EW_tabIn (off := 165) (tgt := 166) dX11_count_1 (by rw [qk]; decide) (by rw [qk]; decide) (by rw [qk]; decide) (by decide) ?_
      refine EW_aload_n (pc2 := 167) rfl dX11_count_166 0 rfl ?_
      refine AW_getr (r := 66) ⟨gfRX11_30, rfl⟩ (pc2 := 170) rfl dX11_count_167 q0 rfl ?_
      refine AW_invV (M' := MX0_hurtNow) [] (rest := []) mlRX11_507 okX0_hurtNow (pc2 := 173) rfl dX11_count_170 rfl rfl (Nat.le_of_ble_eq_true rfl) (Nat.le_of_ble_eq_true rfl) (d' := 0) (by omega) q66 ⟨by decide, rfl⟩ (EW_mono (fun _ _ hr => ?_) (sX0_hurtNow   x _ _ 0 0 (Nat.le_refl _) h))
      obtain ⟨r6, rfl, rfl, h⟩ := hr
      exact AW_iret rfl dX11_count_173 ⟨_, rfl, rfl, h⟩
    | 11, _, qk =>
      replace h := h.2.2.2.2.2.2.2.2.2.2.2.2.1 qk
      refine EW_tabIn (off := 173) (tgt := 174) dX11_count_1 (by rw [qk]; decide) (by rw [qk]; decide) (by rw [qk]; decide) (by decide) ?_
      refine EW_aload_n (pc2 := 175) rfl dX11_count_174 0 rfl ?_
      refine AW_getr (r := 165) ⟨gfRX11_46, rfl⟩ (pc2 := 178) rfl dX11_count_175 q0 rfl ?_
      refine AW_geti ⟨gfRX11_406, rfl⟩ (pc2 := 181) rfl dX11_count_178 q165 ?_
      exact AW_iret rfl dX11_count_181 ⟨_, rfl, rfl, h⟩
    | 12, _, qk =>
      replace h := h.2.2.2.2.2.2.2.2.2.2.2.2.2.1 qk
      refine EW_tabIn (off := 181) (tgt := 182) dX11_count_1 (by rw [qk]; decide) (by rw [qk]; decide) (by rw [qk]; decide) (by decide) ?_
      refine EW_aload_n (pc2 := 183) rfl dX11_count_182 0 rfl ?_
      refine AW_getr (r := 66) ⟨gfRX11_30, rfl⟩ (pc2 := 186) rfl dX11_count_183 q0 rfl ?_
      refine AW_geti ⟨gfRX11_374, rfl⟩ (pc2 := 189) rfl dX11_count_186 q66 ?_
      exact AW_iret rfl dX11_count_189 ⟨_, rfl, rfl, h⟩
    | 13, _, qk =>
      replace h := h.2.2.2.2.2.2.2.2.2.2.2.2.2.2.1 qk
      refine EW_tabIn (off := 189) (tgt := 190) dX11_count_1 (by rw [qk]; decide) (by rw [qk]; decide) (by rw [qk]; decide) (by decide) ?_
      refine EW_aload_n (pc2 := 191) rfl dX11_count_190 0 rfl ?_
      refine AW_getr (r := 158) ⟨gfRX11_37, rfl⟩ (pc2 := 194) rfl dX11_count_191 q0 rfl ?_
      refine AW_geti ⟨gfRX11_362, rfl⟩ (pc2 := 197) rfl dX11_count_194 q158 ?_
      exact AW_iret rfl dX11_count_197 ⟨_, rfl, rfl, h⟩
    | 14, _, qk =>
      replace h := h.2.2.2.2.2.2.2.2.2.2.2.2.2.2.2.1 qk
      refine EW_tabIn (off := 197) (tgt := 198) dX11_count_1 (by rw [qk]; decide) (by rw [qk]; decide) (by rw [qk]; decide) (by decide) ?_
      refine EW_aload_n (pc2 := 199) rfl dX11_count_198 0 rfl ?_
      refine AW_getr (r := 9) ⟨gfRX11_21, rfl⟩ (pc2 := 202) rfl dX11_count_199 q0 rfl ?_
      refine AW_geti ⟨gfRX11_231, rfl⟩ (pc2 := 205) rfl dX11_count_202 q9 ?_
      exact AW_iret rfl dX11_count_205 ⟨_, rfl, rfl, h⟩
    | 15, _, qk =>
      replace h := h.2.2.2.2.2.2.2.2.2.2.2.2.2.2.2.2.1 qk
      refine EW_tabIn (off := 205) (tgt := 206) dX11_count_1 (by rw [qk]; decide) (by rw [qk]; decide) (by rw [qk]; decide) (by decide) ?_
      refine EW_aload_n (pc2 := 207) rfl dX11_count_206 0 rfl ?_
      refine AW_getr (r := 9) ⟨gfRX11_21, rfl⟩ (pc2 := 210) rfl dX11_count_207 q0 rfl ?_
      refine AW_geti ⟨gfRX11_510, rfl⟩ (pc2 := 213) rfl dX11_count_210 q9 ?_
      exact AW_iret rfl dX11_count_213 ⟨_, rfl, rfl, h⟩
    | 16, _, qk =>
      replace h := h.2.2.2.2.2.2.2.2.2.2.2.2.2.2.2.2.2 qk
      refine EW_tabIn (off := 213) (tgt := 214) dX11_count_1 (by rw [qk]; decide) (by rw [qk]; decide) (by rw [qk]; decide) (by decide) ?_
      refine EW_aload_n (pc2 := 215) rfl dX11_count_214 0 rfl ?_
      refine AW_geti ⟨gfRX11_464, rfl⟩ (pc2 := 218) rfl dX11_count_215 q0 ?_
      exact AW_iret rfl dX11_count_218 ⟨_, rfl, rfl, h⟩
    | n9 + 17, hkk, _ => exact absurd hkk (by omega)
theorem mlRX11_238 : Cond.methodLink RX11 238 yX0_addCrew ∈ ab_G ∧ Cond.instanceMethod yX0_addCrew ∈ ab_G ∧ Cond.selects RX0 yX0_addCrew yX0_addCrew ∈ ab_G := ⟨ab_in 963 (by decide +kernel) (by decide +kernel), ab_in 964 (by decide +kernel) (by decide +kernel), ab_in 965 (by decide +kernel) (by decide +kernel)⟩
theorem gfRX11_241 : ab_L RX11 241 0 2 := ⟨by decide, by decide, ab_in 546 (by decide +kernel) (by decide +kernel)⟩
theorem gfRX11_245 : ab_L RX11 245 2 2 := ⟨by decide, by decide, ab_in 414 (by decide +kernel) (by decide +kernel)⟩
theorem gfRX11_250 : ab_L RX11 250 2 3 := ⟨by decide, by decide, ab_in 416 (by decide +kernel) (by decide +kernel)⟩
theorem gfRX11_253 : ab_L RX11 253 2 4 := ⟨by decide, by decide, ab_in 417 (by decide +kernel) (by decide +kernel)⟩
abbrev MX11_crew : ab_M := (yX11_crew, cX11_crew, 9, (some .int))
theorem dX11_crew_0 : decode cX11_crew 0 = .ok (.iload_n 1, 1) := by decide +kernel
theorem dX11_crew_1 : decode cX11_crew 1 = .ok (.iconst 4, 1) := by decide +kernel
theorem dX11_crew_2 : decode cX11_crew 2 = .ok (.invokestatic 86, 3) := by decide +kernel
theorem dX11_crew_5 : decode cX11_crew 5 = .ok (.ifCond .eq 38, 3) := by decide +kernel
theorem dX11_crew_8 : decode cX11_crew 8 = .ok (.iload_n 2, 1) := by decide +kernel
theorem dX11_crew_9 : decode cX11_crew 9 = .ok (.invokestatic 70, 3) := by decide +kernel
theorem dX11_crew_12 : decode cX11_crew 12 = .ok (.ifCond .eq 31, 3) := by decide +kernel
theorem dX11_crew_15 : decode cX11_crew 15 = .ok (.iload 4, 2) := by decide +kernel
theorem dX11_crew_17 : decode cX11_crew 17 = .ok (.bipush 50, 2) := by decide +kernel
theorem dX11_crew_19 : decode cX11_crew 19 = .ok (.sipush 150, 3) := by decide +kernel
theorem dX11_crew_22 : decode cX11_crew 22 = .ok (.invokestatic 74, 3) := by decide +kernel
theorem dX11_crew_25 : decode cX11_crew 25 = .ok (.ifCond .eq 18, 3) := by decide +kernel
theorem dX11_crew_28 : decode cX11_crew 28 = .ok (.iload 5, 2) := by decide +kernel
theorem dX11_crew_30 : decode cX11_crew 30 = .ok (.iconst 1, 1) := by decide +kernel
theorem dX11_crew_31 : decode cX11_crew 31 = .ok (.bipush 9, 2) := by decide +kernel
theorem dX11_crew_33 : decode cX11_crew 33 = .ok (.invokestatic 74, 3) := by decide +kernel
theorem dX11_crew_36 : decode cX11_crew 36 = .ok (.ifCond .eq 7, 3) := by decide +kernel
theorem dX11_crew_39 : decode cX11_crew 39 = .ok (.iconst 1, 1) := by decide +kernel
theorem dX11_crew_40 : decode cX11_crew 40 = .ok (.goto 4, 3) := by decide +kernel
theorem dX11_crew_43 : decode cX11_crew 43 = .ok (.iconst 0, 1) := by decide +kernel
theorem dX11_crew_44 : decode cX11_crew 44 = .ok (.istore 6, 2) := by decide +kernel
theorem dX11_crew_46 : decode cX11_crew 46 = .ok (.iload 6, 2) := by decide +kernel
theorem dX11_crew_48 : decode cX11_crew 48 = .ok (.ifCond .eq 15, 3) := by decide +kernel
theorem dX11_crew_51 : decode cX11_crew 51 = .ok (.aload_n 0, 1) := by decide +kernel
theorem dX11_crew_52 : decode cX11_crew 52 = .ok (.getfield 30, 3) := by decide +kernel
theorem dX11_crew_55 : decode cX11_crew 55 = .ok (.getfield 237, 3) := by decide +kernel
theorem dX11_crew_58 : decode cX11_crew 58 = .ok (.bipush 16, 2) := by decide +kernel
theorem dX11_crew_60 : decode cX11_crew 60 = .ok (.if_icmp .lt 5, 3) := by decide +kernel
theorem dX11_crew_63 : decode cX11_crew 63 = .ok (.iconst (-1), 1) := by decide +kernel
theorem dX11_crew_64 : decode cX11_crew 64 = .ok (.ireturn, 1) := by decide +kernel
theorem dX11_crew_65 : decode cX11_crew 65 = .ok (.aload_n 0, 1) := by decide +kernel
theorem dX11_crew_66 : decode cX11_crew 66 = .ok (.getfield 30, 3) := by decide +kernel
theorem dX11_crew_69 : decode cX11_crew 69 = .ok (.iload_n 1, 1) := by decide +kernel
theorem dX11_crew_70 : decode cX11_crew 70 = .ok (.iload_n 2, 1) := by decide +kernel
theorem dX11_crew_71 : decode cX11_crew 71 = .ok (.invokevirtual 238, 3) := by decide +kernel
theorem dX11_crew_74 : decode cX11_crew 74 = .ok (.istore 7, 2) := by decide +kernel
theorem dX11_crew_76 : decode cX11_crew 76 = .ok (.aload_n 0, 1) := by decide +kernel
theorem dX11_crew_77 : decode cX11_crew 77 = .ok (.getfield 30, 3) := by decide +kernel
theorem dX11_crew_80 : decode cX11_crew 80 = .ok (.getfield 241, 3) := by decide +kernel
theorem dX11_crew_83 : decode cX11_crew 83 = .ok (.iload 7, 2) := by decide +kernel
theorem dX11_crew_85 : decode cX11_crew 85 = .ok (.aaload, 1) := by decide +kernel
theorem dX11_crew_86 : decode cX11_crew 86 = .ok (.astore 8, 2) := by decide +kernel
theorem dX11_crew_88 : decode cX11_crew 88 = .ok (.aload 8, 2) := by decide +kernel
theorem dX11_crew_90 : decode cX11_crew 90 = .ok (.iload_n 3, 1) := by decide +kernel
theorem dX11_crew_91 : decode cX11_crew 91 = .ok (.putfield 245, 3) := by decide +kernel
theorem dX11_crew_94 : decode cX11_crew 94 = .ok (.aload 8, 2) := by decide +kernel
theorem dX11_crew_96 : decode cX11_crew 96 = .ok (.iload 4, 2) := by decide +kernel
theorem dX11_crew_98 : decode cX11_crew 98 = .ok (.putfield 250, 3) := by decide +kernel
theorem dX11_crew_101 : decode cX11_crew 101 = .ok (.aload 8, 2) := by decide +kernel
theorem dX11_crew_103 : decode cX11_crew 103 = .ok (.iload 5, 2) := by decide +kernel
theorem dX11_crew_105 : decode cX11_crew 105 = .ok (.putfield 253, 3) := by decide +kernel
theorem dX11_crew_108 : decode cX11_crew 108 = .ok (.iload 7, 2) := by decide +kernel
theorem dX11_crew_110 : decode cX11_crew 110 = .ok (.ireturn, 1) := by decide +kernel
theorem okX11_crew : ab_okM MX11_crew 5 := ⟨by decide, ⟨by decide, by decide⟩, ab_in 962 (by decide +kernel) (by decide +kernel), ab_in 86 (by decide +kernel) (by decide +kernel), by decide +kernel, by decide⟩
set_option maxHeartbeats 4000000 in
set_option maxRecDepth 100000 in
theorem sX11_crew_44 (v1 : Int32) (v2 : Int32) (v3 : Int32) (v4 : Int32) (v5 : Int32) (s0 : Int32)  (x : ab_X) (K : Int32 → ab_X → Prop)  (d bc bs : Nat) (hdp : 3 ≤ d)  (h : wX11_crew_44 v1 v2 v3 v4 v5 s0 x K ) : EW MX11_crew 44 [(0, .ref 0), (1, .int v1), (2, .int v2), (3, .int v3), (4, .int v4), (5, .int v5)] [.int s0] (aS x) d bc bs (liI K) := by
  unfold wX11_crew_44 at h
  refine EW_istore (pc2 := 46) rfl dX11_crew_44 (by decide) [1, 2, 3, 4, 5, 6, 0] [(0, .ref 0), (1, .int v1), (2, .int v2), (3, .int v3), (4, .int v4), (5, .int v5), (6, .int s0)] rfl ?_
  refine EW_iload (pc2 := 48) rfl dX11_crew_46 6 rfl ?_
  refine EW_if_eq (tgt := 63) (pc2 := 51) rfl dX11_crew_48 (by decide) (fun q => ?_) (fun q => ?_)
  · replace h := h.1 q
    refine EW_iconst (pc2 := 64) (v := (-1)) rfl dX11_crew_63 (by decide) ?_
    exact AW_iret rfl dX11_crew_64 ⟨_, _, rfl, rfl, h⟩
  · replace h := h.2 q
    refine EW_aload_n (pc2 := 52) rfl dX11_crew_51 0 rfl ?_
    refine AW_getr (r := 66) ⟨gfRX11_30, rfl⟩ (pc2 := 55) rfl dX11_crew_52 q0 rfl ?_
    refine AW_geti ⟨gfRX11_237, rfl⟩ (pc2 := 58) rfl dX11_crew_55 q66 ?_
    refine EW_bipush (pc2 := 60) (v := 16) rfl dX11_crew_58 (by decide) ?_
    refine EW_icmp_lt (tgt := 65) (pc2 := 63) rfl dX11_crew_60 (by decide) (fun q => ?_) (fun q => ?_)
    · replace h := h.1 q
      refine EW_aload_n (pc2 := 66) rfl dX11_crew_65 0 rfl ?_
      refine AW_getr (r := 66) ⟨gfRX11_30, rfl⟩ (pc2 := 69) rfl dX11_crew_66 q0 rfl ?_
      refine EW_iload_n (pc2 := 70) rfl dX11_crew_69 1 rfl ?_
      refine EW_iload_n (pc2 := 71) rfl dX11_crew_70 2 rfl ?_
      refine AW_invV (M' := MX0_addCrew) [.int v1, .int v2] (rest := []) mlRX11_238 okX0_addCrew (pc2 := 74) rfl dX11_crew_71 rfl rfl (Nat.le_of_ble_eq_true rfl) (Nat.le_of_ble_eq_true rfl) (d' := 2) (by omega) q66 ⟨by decide, rfl⟩ (EW_mono (fun _ _ hr => ?_) (sX0_addCrew v1 v2  x _ _ 0 0 (Nat.le_refl _) h))
      obtain ⟨r5, x6, rfl, rfl, h⟩ := hr
      refine EW_istore (pc2 := 76) rfl dX11_crew_74 (by decide) [1, 2, 3, 4, 5, 6, 7, 0] [(0, .ref 0), (1, .int v1), (2, .int v2), (3, .int v3), (4, .int v4), (5, .int v5), (6, .int s0), (7, .int r5)] rfl ?_
      refine EW_aload_n (pc2 := 77) rfl dX11_crew_76 0 rfl ?_
      refine AW_getr (r := 66) ⟨gfRX11_30, rfl⟩ (pc2 := 80) rfl dX11_crew_77 q0 rfl ?_
      refine AW_getr (r := 67) ⟨gfRX11_241, rfl⟩ (pc2 := 83) rfl dX11_crew_80 q66 rfl ?_
      refine EW_iload (pc2 := 85) rfl dX11_crew_83 7 rfl ?_
      obtain ⟨b7, h⟩ := h
      refine AW_aald6 (pc2 := 86) rfl dX11_crew_85 b7 ?_
      refine EW_astore (pc2 := 88) rfl dX11_crew_86 (by decide) [1, 2, 3, 4, 5, 6, 7, 8, 0] [(0, .ref 0), (1, .int v1), (2, .int v2), (3, .int v3), (4, .int v4), (5, .int v5), (6, .int s0), (7, .int r5), (8, .ref (82 + Int32.toNatClampNeg r5))] rfl ?_
      refine EW_aload (pc2 := 90) rfl dX11_crew_88 8 rfl ?_
      refine EW_iload_n (pc2 := 91) rfl dX11_crew_90 3 rfl ?_
      obtain ⟨z8, h⟩ := h
      refine AW_putz ⟨gfRX11_245, rfl, rfl⟩ z8 (pc2 := 94) rfl dX11_crew_91 (isW.o (isW_of b7)) ?_
      refine EW_aload (pc2 := 96) rfl dX11_crew_94 8 rfl ?_
      refine EW_iload (pc2 := 98) rfl dX11_crew_96 4 rfl ?_
      refine AW_puti ⟨gfRX11_250, rfl, rfl⟩ (pc2 := 101) rfl dX11_crew_98 (isW.o (isW_of b7)) ?_
      refine EW_aload (pc2 := 103) rfl dX11_crew_101 8 rfl ?_
      refine EW_iload (pc2 := 105) rfl dX11_crew_103 5 rfl ?_
      refine AW_puti ⟨gfRX11_253, rfl, rfl⟩ (pc2 := 108) rfl dX11_crew_105 (isW.o (isW_of b7)) ?_
      refine EW_iload (pc2 := 110) rfl dX11_crew_108 7 rfl ?_
      exact AW_iret rfl dX11_crew_110 ⟨_, _, rfl, rfl, h⟩
    · replace h := h.2 q
      refine EW_iconst (pc2 := 64) (v := (-1)) rfl dX11_crew_63 (by decide) ?_
      exact AW_iret rfl dX11_crew_64 ⟨_, _, rfl, rfl, h⟩
set_option maxHeartbeats 4000000 in
set_option maxRecDepth 100000 in
theorem sX11_crew_43 (v1 : Int32) (v2 : Int32) (v3 : Int32) (v4 : Int32) (v5 : Int32)  (x : ab_X) (K : Int32 → ab_X → Prop)  (d bc bs : Nat) (hdp : 3 ≤ d)  (h : wX11_crew_43 v1 v2 v3 v4 v5 x K ) : EW MX11_crew 43 [(0, .ref 0), (1, .int v1), (2, .int v2), (3, .int v3), (4, .int v4), (5, .int v5)] [] (aS x) d bc bs (liI K) := by
  unfold wX11_crew_43 at h
  refine EW_iconst (pc2 := 44) (v := 0) rfl dX11_crew_43 (by decide) ?_
  exact sX11_crew_44 v1 v2 v3 v4 v5 0 x K d bc bs hdp h
set_option maxHeartbeats 4000000 in
set_option maxRecDepth 100000 in
theorem sX11_crew (v1 : Int32) (v2 : Int32) (v3 : Int32) (v4 : Int32) (v5 : Int32)  (x : ab_X) (K : Int32 → ab_X → Prop) (d bc bs : Nat) (hdp : 3 ≤ d) (h : wX11_crew v1 v2 v3 v4 v5 x K) : EW MX11_crew 0 [(0, .ref 0), (1, .int v1), (2, .int v2), (3, .int v3), (4, .int v4), (5, .int v5)] [] (aS x) d bc bs (liI K) := by
  unfold wX11_crew at h
  refine EW_iload_n (pc2 := 1) rfl dX11_crew_0 1 rfl ?_
  refine EW_iconst (pc2 := 2) (v := 4) rfl dX11_crew_1 (by decide) ?_
  refine AW_invS (M' := MX11_below) [.int v1, .int 4] (rest := []) mlRX11_86 okX11_below (pc2 := 5) rfl dX11_crew_2 rfl rfl (Nat.le_of_ble_eq_true rfl) (Nat.le_of_ble_eq_true rfl) (d' := 0) (by omega) (EW_mono (fun _ _ hr => ?_) (sX11_below v1 4  x _ _ 0 0 (Nat.le_refl _) h))
  obtain ⟨r1, rfl, rfl, h⟩ := hr
  refine EW_if_eq (tgt := 43) (pc2 := 8) rfl dX11_crew_5 (by decide) (fun q => ?_) (fun q => ?_)
  · replace h := h.1 q
    exact sX11_crew_43 v1 v2 v3 v4 v5 x K d bc bs hdp h
  · replace h := h.2 q
    refine EW_iload_n (pc2 := 9) rfl dX11_crew_8 2 rfl ?_
    refine AW_invS (M' := MX11_isCorner) [.int v2] (rest := []) mlRX11_70 okX11_isCorner (pc2 := 12) rfl dX11_crew_9 rfl rfl (Nat.le_of_ble_eq_true rfl) (Nat.le_of_ble_eq_true rfl) (d' := 0) (by omega) (EW_mono (fun _ _ hr => ?_) (sX11_isCorner v2  x _ _ 0 0 (Nat.le_refl _) h))
    obtain ⟨r2, rfl, rfl, h⟩ := hr
    refine EW_if_eq (tgt := 43) (pc2 := 15) rfl dX11_crew_12 (by decide) (fun q => ?_) (fun q => ?_)
    · replace h := h.1 q
      exact sX11_crew_43 v1 v2 v3 v4 v5 x K d bc bs hdp h
    · replace h := h.2 q
      refine EW_iload (pc2 := 17) rfl dX11_crew_15 4 rfl ?_
      refine EW_bipush (pc2 := 19) (v := 50) rfl dX11_crew_17 (by decide) ?_
      refine EW_sipush (pc2 := 22) (v := 150) rfl dX11_crew_19 (by decide) ?_
      refine AW_invS (M' := MX11_within) [.int v4, .int 50, .int 150] (rest := []) mlRX11_74 okX11_within (pc2 := 25) rfl dX11_crew_22 rfl rfl (Nat.le_of_ble_eq_true rfl) (Nat.le_of_ble_eq_true rfl) (d' := 0) (by omega) (EW_mono (fun _ _ hr => ?_) (sX11_within v4 50 150  x _ _ 0 0 (Nat.le_refl _) h))
      obtain ⟨r3, rfl, rfl, h⟩ := hr
      refine EW_if_eq (tgt := 43) (pc2 := 28) rfl dX11_crew_25 (by decide) (fun q => ?_) (fun q => ?_)
      · replace h := h.1 q
        exact sX11_crew_43 v1 v2 v3 v4 v5 x K d bc bs hdp h
      · replace h := h.2 q
        refine EW_iload (pc2 := 30) rfl dX11_crew_28 5 rfl ?_
        refine EW_iconst (pc2 := 31) (v := 1) rfl dX11_crew_30 (by decide) ?_
        refine EW_bipush (pc2 := 33) (v := 9) rfl dX11_crew_31 (by decide) ?_
        refine AW_invS (M' := MX11_within) [.int v5, .int 1, .int 9] (rest := []) mlRX11_74 okX11_within (pc2 := 36) rfl dX11_crew_33 rfl rfl (Nat.le_of_ble_eq_true rfl) (Nat.le_of_ble_eq_true rfl) (d' := 0) (by omega) (EW_mono (fun _ _ hr => ?_) (sX11_within v5 1 9  x _ _ 0 0 (Nat.le_refl _) h))
        obtain ⟨r4, rfl, rfl, h⟩ := hr
        refine EW_if_eq (tgt := 43) (pc2 := 39) rfl dX11_crew_36 (by decide) (fun q => ?_) (fun q => ?_)
        · replace h := h.1 q
          exact sX11_crew_43 v1 v2 v3 v4 v5 x K d bc bs hdp h
        · replace h := h.2 q
          refine EW_iconst (pc2 := 40) (v := 1) rfl dX11_crew_39 (by decide) ?_
          refine EW_goto (tgt := 44) dX11_crew_40 (by decide) ?_
          exact sX11_crew_44 v1 v2 v3 v4 v5 1 x K d bc bs hdp h
abbrev MX11_end : ab_M := (yX11_end, cX11_end, 2, (some .boolean))
theorem dX11_end_0 : decode cX11_end 0 = .ok (.iload_n 1, 1) := by decide +kernel
theorem dX11_end_1 : decode cX11_end 1 = .ok (.iconst 0, 1) := by decide +kernel
theorem dX11_end_2 : decode cX11_end 2 = .ok (.aload_n 0, 1) := by decide +kernel
theorem dX11_end_3 : decode cX11_end 3 = .ok (.getfield 37, 3) := by decide +kernel
theorem dX11_end_6 : decode cX11_end 6 = .ok (.getfield 362, 3) := by decide +kernel
theorem dX11_end_9 : decode cX11_end 9 = .ok (.invokestatic 74, 3) := by decide +kernel
theorem dX11_end_12 : decode cX11_end 12 = .ok (.ifCond .ne 5, 3) := by decide +kernel
theorem dX11_end_15 : decode cX11_end 15 = .ok (.iconst 0, 1) := by decide +kernel
theorem dX11_end_16 : decode cX11_end 16 = .ok (.ireturn, 1) := by decide +kernel
theorem dX11_end_17 : decode cX11_end 17 = .ok (.aload_n 0, 1) := by decide +kernel
theorem dX11_end_18 : decode cX11_end 18 = .ok (.getfield 37, 3) := by decide +kernel
theorem dX11_end_21 : decode cX11_end 21 = .ok (.iload_n 1, 1) := by decide +kernel
theorem dX11_end_22 : decode cX11_end 22 = .ok (.putfield 362, 3) := by decide +kernel
theorem dX11_end_25 : decode cX11_end 25 = .ok (.iconst 1, 1) := by decide +kernel
theorem dX11_end_26 : decode cX11_end 26 = .ok (.ireturn, 1) := by decide +kernel
theorem okX11_end : ab_okM MX11_end 1 := ⟨by decide, ⟨by decide, by decide⟩, ab_in 1166 (by decide +kernel) (by decide +kernel), ab_in 86 (by decide +kernel) (by decide +kernel), by decide +kernel, by decide⟩
set_option maxHeartbeats 4000000 in
set_option maxRecDepth 100000 in
theorem sX11_end (v1 : Int32)  (x : ab_X) (K : Int32 → ab_X → Prop) (d bc bs : Nat) (hdp : 1 ≤ d) (h : wX11_end v1 x K) : EW MX11_end 0 [(0, .ref 0), (1, .int v1)] [] (aS x) d bc bs (liI K) := by
  unfold wX11_end at h
  refine EW_iload_n (pc2 := 1) rfl dX11_end_0 1 rfl ?_
  refine EW_iconst (pc2 := 2) (v := 0) rfl dX11_end_1 (by decide) ?_
  refine EW_aload_n (pc2 := 3) rfl dX11_end_2 0 rfl ?_
  refine AW_getr (r := 158) ⟨gfRX11_37, rfl⟩ (pc2 := 6) rfl dX11_end_3 q0 rfl ?_
  refine AW_geti ⟨gfRX11_362, rfl⟩ (pc2 := 9) rfl dX11_end_6 q158 ?_
  refine AW_invS (M' := MX11_within) [.int v1, .int 0, .int (x.1 158 1)] (rest := []) mlRX11_74 okX11_within (pc2 := 12) rfl dX11_end_9 rfl rfl (Nat.le_of_ble_eq_true rfl) (Nat.le_of_ble_eq_true rfl) (d' := 0) (by omega) (EW_mono (fun _ _ hr => ?_) (sX11_within v1 0 (x.1 158 1)  x _ _ 0 0 (Nat.le_refl _) h))
  obtain ⟨r1, rfl, rfl, h⟩ := hr
  refine EW_if_ne (tgt := 17) (pc2 := 15) rfl dX11_end_12 (by decide) (fun q => ?_) (fun q => ?_)
  · replace h := h.1 q
    refine EW_aload_n (pc2 := 18) rfl dX11_end_17 0 rfl ?_
    refine AW_getr (r := 158) ⟨gfRX11_37, rfl⟩ (pc2 := 21) rfl dX11_end_18 q0 rfl ?_
    refine EW_iload_n (pc2 := 22) rfl dX11_end_21 1 rfl ?_
    refine AW_puti ⟨gfRX11_362, rfl, rfl⟩ (pc2 := 25) rfl dX11_end_22 q158 ?_
    refine EW_iconst (pc2 := 26) (v := 1) rfl dX11_end_25 (by decide) ?_
    exact AW_zret rfl isB1 dX11_end_26 ⟨_, _, rfl, rfl, h⟩
  · replace h := h.2 q
    refine EW_iconst (pc2 := 16) (v := 0) rfl dX11_end_15 (by decide) ?_
    exact AW_zret rfl isB0 dX11_end_16 ⟨_, _, rfl, rfl, h⟩
abbrev MX11_failing : ab_M := (yX11_failing, cX11_failing, 3, (some .int))
theorem dX11_failing_0 : decode cX11_failing 0 = .ok (.iconst 0, 1) := by decide +kernel
theorem dX11_failing_1 : decode cX11_failing 1 = .ok (.istore_n 1, 1) := by decide +kernel
theorem dX11_failing_2 : decode cX11_failing 2 = .ok (.iconst 0, 1) := by decide +kernel
theorem dX11_failing_3 : decode cX11_failing 3 = .ok (.istore_n 2, 1) := by decide +kernel
theorem dX11_failing_4 : decode cX11_failing 4 = .ok (.iload_n 2, 1) := by decide +kernel
theorem dX11_failing_5 : decode cX11_failing 5 = .ok (.aload_n 0, 1) := by decide +kernel
theorem dX11_failing_6 : decode cX11_failing 6 = .ok (.getfield 21, 3) := by decide +kernel
theorem dX11_failing_9 : decode cX11_failing 9 = .ok (.getfield 105, 3) := by decide +kernel
theorem dX11_failing_12 : decode cX11_failing 12 = .ok (.if_icmp .ge 33, 3) := by decide +kernel
theorem dX11_failing_15 : decode cX11_failing 15 = .ok (.aload_n 0, 1) := by decide +kernel
theorem dX11_failing_16 : decode cX11_failing 16 = .ok (.getfield 46, 3) := by decide +kernel
theorem dX11_failing_19 : decode cX11_failing 19 = .ok (.iload_n 2, 1) := by decide +kernel
theorem dX11_failing_20 : decode cX11_failing 20 = .ok (.aload_n 0, 1) := by decide +kernel
theorem dX11_failing_21 : decode cX11_failing 21 = .ok (.getfield 30, 3) := by decide +kernel
theorem dX11_failing_24 : decode cX11_failing 24 = .ok (.getfield 400, 3) := by decide +kernel
theorem dX11_failing_27 : decode cX11_failing 27 = .ok (.invokevirtual 429, 3) := by decide +kernel
theorem dX11_failing_30 : decode cX11_failing 30 = .ok (.ifCond .le 9, 3) := by decide +kernel
theorem dX11_failing_33 : decode cX11_failing 33 = .ok (.iload_n 1, 1) := by decide +kernel
theorem dX11_failing_34 : decode cX11_failing 34 = .ok (.iconst 1, 1) := by decide +kernel
theorem dX11_failing_35 : decode cX11_failing 35 = .ok (.iload_n 2, 1) := by decide +kernel
theorem dX11_failing_36 : decode cX11_failing 36 = .ok (.ishl, 1) := by decide +kernel
theorem dX11_failing_37 : decode cX11_failing 37 = .ok (.ior, 1) := by decide +kernel
theorem dX11_failing_38 : decode cX11_failing 38 = .ok (.istore_n 1, 1) := by decide +kernel
theorem dX11_failing_39 : decode cX11_failing 39 = .ok (.iinc 2 1, 3) := by decide +kernel
theorem dX11_failing_42 : decode cX11_failing 42 = .ok (.goto (-38), 3) := by decide +kernel
theorem dX11_failing_45 : decode cX11_failing 45 = .ok (.iload_n 1, 1) := by decide +kernel
theorem dX11_failing_46 : decode cX11_failing 46 = .ok (.ireturn, 1) := by decide +kernel
theorem okX11_failing : ab_okM MX11_failing 0 := ⟨by decide, ⟨by decide, by decide⟩, ab_in 1588 (by decide +kernel) (by decide +kernel), ab_in 86 (by decide +kernel) (by decide +kernel), by decide +kernel, by decide⟩
set_option maxHeartbeats 4000000 in
set_option maxRecDepth 100000 in
theorem sX11_failing_4 (v1 : Int32) (v2 : Int32)  (x : ab_X) (K : Int32 → ab_X → Prop)  (d bc bs : Nat) (hdp : 4 ≤ d)  (h : Lp3 (lX11_failing_4  K ) v1 v2 x) : EW MX11_failing 4 [(0, .ref 0), (1, .int v1), (2, .int v2)] [] (aS x) d bc bs (liI K) := by
  refine Lp3.use (P := fun v1 v2 x => EW MX11_failing 4 [(0, .ref 0), (1, .int v1), (2, .int v2)] [] (aS x) d bc bs (liI K)) (fun L4 v1 v2 x hL4 h => ?_) v1 v2 x h
  unfold lX11_failing_4 at h
  refine EW_iload_n (pc2 := 5) rfl dX11_failing_4 2 rfl ?_
  refine EW_aload_n (pc2 := 6) rfl dX11_failing_5 0 rfl ?_
  refine AW_getr (r := 9) ⟨gfRX11_21, rfl⟩ (pc2 := 9) rfl dX11_failing_6 q0 rfl ?_
  refine AW_geti ⟨gfRX11_105, rfl⟩ (pc2 := 12) rfl dX11_failing_9 q9 ?_
  refine EW_icmp_ge (tgt := 45) (pc2 := 15) rfl dX11_failing_12 (by decide) (fun q => ?_) (fun q => ?_)
  · replace h := h.1 q
    refine EW_iload_n (pc2 := 46) rfl dX11_failing_45 1 rfl ?_
    exact AW_iret rfl dX11_failing_46 ⟨_, _, rfl, rfl, h⟩
  · replace h := h.2 q
    refine EW_aload_n (pc2 := 16) rfl dX11_failing_15 0 rfl ?_
    refine AW_getr (r := 165) ⟨gfRX11_46, rfl⟩ (pc2 := 19) rfl dX11_failing_16 q0 rfl ?_
    refine EW_iload_n (pc2 := 20) rfl dX11_failing_19 2 rfl ?_
    refine EW_aload_n (pc2 := 21) rfl dX11_failing_20 0 rfl ?_
    refine AW_getr (r := 66) ⟨gfRX11_30, rfl⟩ (pc2 := 24) rfl dX11_failing_21 q0 rfl ?_
    refine AW_geti ⟨gfRX11_400, rfl⟩ (pc2 := 27) rfl dX11_failing_24 q66 ?_
    refine AW_invV (M' := MX5_failures) [.int v2, .int (x.1 66 12)] (rest := []) mlRX11_429 okX5_failures (pc2 := 30) rfl dX11_failing_27 rfl rfl (Nat.le_of_ble_eq_true rfl) (Nat.le_of_ble_eq_true rfl) (d' := 3) (by omega) q165 ⟨by decide, rfl⟩ (EW_mono (fun _ _ hr => ?_) (sX5_failures v2 (x.1 66 12)  x _ _ 0 0 (Nat.le_refl _) h))
    obtain ⟨r1, x2, rfl, rfl, h⟩ := hr
    refine EW_if_le (tgt := 39) (pc2 := 33) rfl dX11_failing_30 (by decide) (fun q => ?_) (fun q => ?_)
    · replace h := h.1 q
      refine EW_iinc (v2 + 1) (pc2 := 42) rfl dX11_failing_39 2 rfl rfl (by decide) [1, 2, 0] [(0, .ref 0), (1, .int v1), (2, .int (v2 + 1))] rfl ?_
      refine EW_goto (tgt := 4) dX11_failing_42 (by decide) ?_
      exact hL4 v1 (v2 + 1) x2 h
    · replace h := h.2 q
      refine EW_iload_n (pc2 := 34) rfl dX11_failing_33 1 rfl ?_
      refine EW_iconst (pc2 := 35) (v := 1) rfl dX11_failing_34 (by decide) ?_
      refine EW_iload_n (pc2 := 36) rfl dX11_failing_35 2 rfl ?_
      refine EW_ishl (pc2 := 37) rfl dX11_failing_36 ?_
      refine EW_ior (pc2 := 38) rfl dX11_failing_37 ?_
      refine EW_istore_n (pc2 := 39) rfl dX11_failing_38 (by decide) [1, 0, 2] [(0, .ref 0), (1, .int (v1 ||| (1 <<< (v2 &&& 31)))), (2, .int v2)] rfl ?_
      refine EW_iinc (v2 + 1) (pc2 := 42) rfl dX11_failing_39 2 rfl rfl (by decide) [1, 2, 0] [(0, .ref 0), (1, .int (v1 ||| (1 <<< (v2 &&& 31)))), (2, .int (v2 + 1))] rfl ?_
      refine EW_goto (tgt := 4) dX11_failing_42 (by decide) ?_
      exact hL4 (v1 ||| (1 <<< (v2 &&& 31))) (v2 + 1) x2 h
set_option maxHeartbeats 4000000 in
set_option maxRecDepth 100000 in
theorem sX11_failing   (x : ab_X) (K : Int32 → ab_X → Prop) (d bc bs : Nat) (hdp : 4 ≤ d) (h : wX11_failing  x K) : EW MX11_failing 0 [(0, .ref 0)] [] (aS x) d bc bs (liI K) := by
  unfold wX11_failing at h
  refine EW_iconst (pc2 := 1) (v := 0) rfl dX11_failing_0 (by decide) ?_
  refine EW_istore_n (pc2 := 2) rfl dX11_failing_1 (by decide) [1, 0] [(0, .ref 0), (1, .int 0)] rfl ?_
  refine EW_iconst (pc2 := 3) (v := 0) rfl dX11_failing_2 (by decide) ?_
  refine EW_istore_n (pc2 := 4) rfl dX11_failing_3 (by decide) [1, 2, 0] [(0, .ref 0), (1, .int 0), (2, .int 0)] rfl ?_
  exact sX11_failing_4 0 0 x K d bc bs hdp h
abbrev MX11_fails : ab_M := (yX11_fails, cX11_fails, 3, (some .int))
theorem dX11_fails_0 : decode cX11_fails 0 = .ok (.aload_n 0, 1) := by decide +kernel
theorem dX11_fails_1 : decode cX11_fails 1 = .ok (.iload_n 1, 1) := by decide +kernel
theorem dX11_fails_2 : decode cX11_fails 2 = .ok (.iload_n 2, 1) := by decide +kernel
theorem dX11_fails_3 : decode cX11_fails 3 = .ok (.invokevirtual 416, 3) := by decide +kernel
theorem dX11_fails_6 : decode cX11_fails 6 = .ok (.ifCond .eq 15, 3) := by decide +kernel
theorem dX11_fails_9 : decode cX11_fails 9 = .ok (.aload_n 0, 1) := by decide +kernel
theorem dX11_fails_10 : decode cX11_fails 10 = .ok (.getfield 46, 3) := by decide +kernel
theorem dX11_fails_13 : decode cX11_fails 13 = .ok (.iload_n 1, 1) := by decide +kernel
theorem dX11_fails_14 : decode cX11_fails 14 = .ok (.iload_n 2, 1) := by decide +kernel
theorem dX11_fails_15 : decode cX11_fails 15 = .ok (.invokevirtual 429, 3) := by decide +kernel
theorem dX11_fails_18 : decode cX11_fails 18 = .ok (.goto 4, 3) := by decide +kernel
theorem dX11_fails_21 : decode cX11_fails 21 = .ok (.iconst (-1), 1) := by decide +kernel
theorem dX11_fails_22 : decode cX11_fails 22 = .ok (.ireturn, 1) := by decide +kernel
theorem okX11_fails : ab_okM MX11_fails 2 := ⟨by decide, ⟨by decide, by decide⟩, ab_in 1554 (by decide +kernel) (by decide +kernel), ab_in 86 (by decide +kernel) (by decide +kernel), by decide +kernel, by decide⟩
set_option maxHeartbeats 4000000 in
set_option maxRecDepth 100000 in
theorem sX11_fails (v1 : Int32) (v2 : Int32)  (x : ab_X) (K : Int32 → ab_X → Prop) (d bc bs : Nat) (hdp : 4 ≤ d) (h : wX11_fails v1 v2 x K) : EW MX11_fails 0 [(0, .ref 0), (1, .int v1), (2, .int v2)] [] (aS x) d bc bs (liI K) := by
  unfold wX11_fails at h
  refine EW_aload_n (pc2 := 1) rfl dX11_fails_0 0 rfl ?_
  refine EW_iload_n (pc2 := 2) rfl dX11_fails_1 1 rfl ?_
  refine EW_iload_n (pc2 := 3) rfl dX11_fails_2 2 rfl ?_
  refine AW_invV (M' := MX11_isKnown) [.int v1, .int v2] (rest := []) mlRX11_416 okX11_isKnown (pc2 := 6) rfl dX11_fails_3 rfl rfl (Nat.le_of_ble_eq_true rfl) (Nat.le_of_ble_eq_true rfl) (d' := 2) (by omega) q0 ⟨by decide, rfl⟩ (EW_mono (fun _ _ hr => ?_) (sX11_isKnown v1 v2  x _ _ 0 0 (Nat.le_refl _) h))
  obtain ⟨r1, rfl, rfl, h⟩ := hr
  refine EW_if_eq (tgt := 21) (pc2 := 9) rfl dX11_fails_6 (by decide) (fun q => ?_) (fun q => ?_)
  · replace h := h.1 q
    refine EW_iconst (pc2 := 22) (v := (-1)) rfl dX11_fails_21 (by decide) ?_
    exact AW_iret rfl dX11_fails_22 ⟨_, _, rfl, rfl, h⟩
  · replace h := h.2 q
    refine EW_aload_n (pc2 := 10) rfl dX11_fails_9 0 rfl ?_
    refine AW_getr (r := 165) ⟨gfRX11_46, rfl⟩ (pc2 := 13) rfl dX11_fails_10 q0 rfl ?_
    refine EW_iload_n (pc2 := 14) rfl dX11_fails_13 1 rfl ?_
    refine EW_iload_n (pc2 := 15) rfl dX11_fails_14 2 rfl ?_
    refine AW_invV (M' := MX5_failures) [.int v1, .int v2] (rest := []) mlRX11_429 okX5_failures (pc2 := 18) rfl dX11_fails_15 rfl rfl (Nat.le_of_ble_eq_true rfl) (Nat.le_of_ble_eq_true rfl) (d' := 3) (by omega) q165 ⟨by decide, rfl⟩ (EW_mono (fun _ _ hr => ?_) (sX5_failures v1 v2  x _ _ 0 0 (Nat.le_refl _) h))
    obtain ⟨r2, x3, rfl, rfl, h⟩ := hr
    refine EW_goto (tgt := 22) dX11_fails_18 (by decide) ?_
    exact AW_iret rfl dX11_fails_22 ⟨_, _, rfl, rfl, h⟩
theorem mlRX11_356 : Cond.methodLink RX11 356 yX0_falseHundredths ∈ ab_G ∧ Cond.instanceMethod yX0_falseHundredths ∈ ab_G ∧ Cond.selects RX0 yX0_falseHundredths yX0_falseHundredths ∈ ab_G := ⟨ab_in 1151 (by decide +kernel) (by decide +kernel), ab_in 1062 (by decide +kernel) (by decide +kernel), ab_in 1063 (by decide +kernel) (by decide +kernel)⟩
abbrev MX11_falses : ab_M := (yX11_falses, cX11_falses, 3, (some .int))
theorem dX11_falses_0 : decode cX11_falses 0 = .ok (.iload_n 1, 1) := by decide +kernel
theorem dX11_falses_1 : decode cX11_falses 1 = .ok (.invokestatic 70, 3) := by decide +kernel
theorem dX11_falses_4 : decode cX11_falses 4 = .ok (.ifCond .eq 23, 3) := by decide +kernel
theorem dX11_falses_7 : decode cX11_falses 7 = .ok (.iload_n 2, 1) := by decide +kernel
theorem dX11_falses_8 : decode cX11_falses 8 = .ok (.iconst 4, 1) := by decide +kernel
theorem dX11_falses_9 : decode cX11_falses 9 = .ok (.invokestatic 86, 3) := by decide +kernel
theorem dX11_falses_12 : decode cX11_falses 12 = .ok (.ifCond .eq 15, 3) := by decide +kernel
theorem dX11_falses_15 : decode cX11_falses 15 = .ok (.aload_n 0, 1) := by decide +kernel
theorem dX11_falses_16 : decode cX11_falses 16 = .ok (.getfield 30, 3) := by decide +kernel
theorem dX11_falses_19 : decode cX11_falses 19 = .ok (.iload_n 1, 1) := by decide +kernel
theorem dX11_falses_20 : decode cX11_falses 20 = .ok (.iload_n 2, 1) := by decide +kernel
theorem dX11_falses_21 : decode cX11_falses 21 = .ok (.invokevirtual 356, 3) := by decide +kernel
theorem dX11_falses_24 : decode cX11_falses 24 = .ok (.goto 4, 3) := by decide +kernel
theorem dX11_falses_27 : decode cX11_falses 27 = .ok (.iconst (-1), 1) := by decide +kernel
theorem dX11_falses_28 : decode cX11_falses 28 = .ok (.ireturn, 1) := by decide +kernel
theorem okX11_falses : ab_okM MX11_falses 2 := ⟨by decide, ⟨by decide, by decide⟩, ab_in 1150 (by decide +kernel) (by decide +kernel), ab_in 86 (by decide +kernel) (by decide +kernel), by decide +kernel, by decide⟩
set_option maxHeartbeats 4000000 in
set_option maxRecDepth 100000 in
theorem sX11_falses (v1 : Int32) (v2 : Int32)  (x : ab_X) (K : Int32 → Prop) (d bc bs : Nat) (hdp : 2 ≤ d) (h : wX11_falses v1 v2 x K) : EW MX11_falses 0 [(0, .ref 0), (1, .int v1), (2, .int v2)] [] (aS x) d bc bs (liP x K) := by
  unfold wX11_falses at h
  refine EW_iload_n (pc2 := 1) rfl dX11_falses_0 1 rfl ?_
  refine AW_invS (M' := MX11_isCorner) [.int v1] (rest := []) mlRX11_70 okX11_isCorner (pc2 := 4) rfl dX11_falses_1 rfl rfl (Nat.le_of_ble_eq_true rfl) (Nat.le_of_ble_eq_true rfl) (d' := 0) (by omega) (EW_mono (fun _ _ hr => ?_) (sX11_isCorner v1  x _ _ 0 0 (Nat.le_refl _) h))
  obtain ⟨r1, rfl, rfl, h⟩ := hr
  refine EW_if_eq (tgt := 27) (pc2 := 7) rfl dX11_falses_4 (by decide) (fun q => ?_) (fun q => ?_)
  · replace h := h.1 q
    refine EW_iconst (pc2 := 28) (v := (-1)) rfl dX11_falses_27 (by decide) ?_
    exact AW_iret rfl dX11_falses_28 ⟨_, rfl, rfl, h⟩
  · replace h := h.2 q
    refine EW_iload_n (pc2 := 8) rfl dX11_falses_7 2 rfl ?_
    refine EW_iconst (pc2 := 9) (v := 4) rfl dX11_falses_8 (by decide) ?_
    refine AW_invS (M' := MX11_below) [.int v2, .int 4] (rest := []) mlRX11_86 okX11_below (pc2 := 12) rfl dX11_falses_9 rfl rfl (Nat.le_of_ble_eq_true rfl) (Nat.le_of_ble_eq_true rfl) (d' := 0) (by omega) (EW_mono (fun _ _ hr => ?_) (sX11_below v2 4  x _ _ 0 0 (Nat.le_refl _) h))
    obtain ⟨r2, rfl, rfl, h⟩ := hr
    refine EW_if_eq (tgt := 27) (pc2 := 15) rfl dX11_falses_12 (by decide) (fun q => ?_) (fun q => ?_)
    · replace h := h.1 q
      refine EW_iconst (pc2 := 28) (v := (-1)) rfl dX11_falses_27 (by decide) ?_
      exact AW_iret rfl dX11_falses_28 ⟨_, rfl, rfl, h⟩
    · replace h := h.2 q
      refine EW_aload_n (pc2 := 16) rfl dX11_falses_15 0 rfl ?_
      refine AW_getr (r := 66) ⟨gfRX11_30, rfl⟩ (pc2 := 19) rfl dX11_falses_16 q0 rfl ?_
      refine EW_iload_n (pc2 := 20) rfl dX11_falses_19 1 rfl ?_
      refine EW_iload_n (pc2 := 21) rfl dX11_falses_20 2 rfl ?_
      refine AW_invV (M' := MX0_falseHundredths) [.int v1, .int v2] (rest := []) mlRX11_356 okX0_falseHundredths (pc2 := 24) rfl dX11_falses_21 rfl rfl (Nat.le_of_ble_eq_true rfl) (Nat.le_of_ble_eq_true rfl) (d' := 1) (by omega) q66 ⟨by decide, rfl⟩ (EW_mono (fun _ _ hr => ?_) (sX0_falseHundredths v1 v2  x _ _ 0 0 (Nat.le_refl _) h))
      obtain ⟨r3, rfl, rfl, h⟩ := hr
      refine EW_goto (tgt := 28) dX11_falses_24 (by decide) ?_
      exact AW_iret rfl dX11_falses_28 ⟨_, rfl, rfl, h⟩
theorem gfRX11_371 : ab_L RX11 371 8 2 := ⟨by decide, by decide, ab_in 605 (by decide +kernel) (by decide +kernel)⟩
abbrev MX11_fault : ab_M := (yX11_fault, cX11_fault, 2, (some .int))
theorem dX11_fault_0 : decode cX11_fault 0 = .ok (.iload_n 1, 1) := by decide +kernel
theorem dX11_fault_1 : decode cX11_fault 1 = .ok (.iconst 0, 1) := by decide +kernel
theorem dX11_fault_2 : decode cX11_fault 2 = .ok (.iconst 2, 1) := by decide +kernel
theorem dX11_fault_3 : decode cX11_fault 3 = .ok (.invokestatic 74, 3) := by decide +kernel
theorem dX11_fault_6 : decode cX11_fault 6 = .ok (.ifCond .ne 6, 3) := by decide +kernel
theorem dX11_fault_9 : decode cX11_fault 9 = .ok (.bipush (-2), 2) := by decide +kernel
theorem dX11_fault_11 : decode cX11_fault 11 = .ok (.ireturn, 1) := by decide +kernel
theorem dX11_fault_12 : decode cX11_fault 12 = .ok (.aload_n 0, 1) := by decide +kernel
theorem dX11_fault_13 : decode cX11_fault 13 = .ok (.getfield 37, 3) := by decide +kernel
theorem dX11_fault_16 : decode cX11_fault 16 = .ok (.iload_n 1, 1) := by decide +kernel
theorem dX11_fault_17 : decode cX11_fault 17 = .ok (.invokevirtual 368, 3) := by decide +kernel
theorem dX11_fault_20 : decode cX11_fault 20 = .ok (.ifCond .eq 7, 3) := by decide +kernel
theorem dX11_fault_23 : decode cX11_fault 23 = .ok (.iconst (-1), 1) := by decide +kernel
theorem dX11_fault_24 : decode cX11_fault 24 = .ok (.goto 10, 3) := by decide +kernel
theorem dX11_fault_27 : decode cX11_fault 27 = .ok (.aload_n 0, 1) := by decide +kernel
theorem dX11_fault_28 : decode cX11_fault 28 = .ok (.getfield 37, 3) := by decide +kernel
theorem dX11_fault_31 : decode cX11_fault 31 = .ok (.getfield 371, 3) := by decide +kernel
theorem dX11_fault_34 : decode cX11_fault 34 = .ok (.ireturn, 1) := by decide +kernel
theorem okX11_fault : ab_okM MX11_fault 1 := ⟨by decide, ⟨by decide, by decide⟩, ab_in 1170 (by decide +kernel) (by decide +kernel), ab_in 86 (by decide +kernel) (by decide +kernel), by decide +kernel, by decide⟩
set_option maxHeartbeats 4000000 in
set_option maxRecDepth 100000 in
theorem sX11_fault (v1 : Int32)  (x : ab_X) (K : Int32 → ab_X → Prop) (d bc bs : Nat) (hdp : 212 ≤ d) (h : wX11_fault v1 x K) : EW MX11_fault 0 [(0, .ref 0), (1, .int v1)] [] (aS x) d bc bs (liI K) := by
  unfold wX11_fault at h
  refine EW_iload_n (pc2 := 1) rfl dX11_fault_0 1 rfl ?_
  refine EW_iconst (pc2 := 2) (v := 0) rfl dX11_fault_1 (by decide) ?_
  refine EW_iconst (pc2 := 3) (v := 2) rfl dX11_fault_2 (by decide) ?_
  refine AW_invS (M' := MX11_within) [.int v1, .int 0, .int 2] (rest := []) mlRX11_74 okX11_within (pc2 := 6) rfl dX11_fault_3 rfl rfl (Nat.le_of_ble_eq_true rfl) (Nat.le_of_ble_eq_true rfl) (d' := 0) (by omega) (EW_mono (fun _ _ hr => ?_) (sX11_within v1 0 2  x _ _ 0 0 (Nat.le_refl _) h))
  obtain ⟨r1, rfl, rfl, h⟩ := hr
  refine EW_if_ne (tgt := 12) (pc2 := 9) rfl dX11_fault_6 (by decide) (fun q => ?_) (fun q => ?_)
  · replace h := h.1 q
    refine EW_aload_n (pc2 := 13) rfl dX11_fault_12 0 rfl ?_
    refine AW_getr (r := 158) ⟨gfRX11_37, rfl⟩ (pc2 := 16) rfl dX11_fault_13 q0 rfl ?_
    refine EW_iload_n (pc2 := 17) rfl dX11_fault_16 1 rfl ?_
    refine AW_invV (M' := MX8_parse) [.int v1] (rest := []) mlRX11_368 okX8_parse (pc2 := 20) rfl dX11_fault_17 rfl rfl (Nat.le_of_ble_eq_true rfl) (Nat.le_of_ble_eq_true rfl) (d' := 211) (by omega) q158 ⟨by decide, rfl⟩ (EW_mono (fun _ _ hr => ?_) (sX8_parse v1  x _ _ 0 0 (Nat.le_refl _) h))
    obtain ⟨r2, x3, rfl, rfl, h⟩ := hr
    refine EW_if_eq (tgt := 27) (pc2 := 23) rfl dX11_fault_20 (by decide) (fun q => ?_) (fun q => ?_)
    · replace h := h.1 q
      refine EW_aload_n (pc2 := 28) rfl dX11_fault_27 0 rfl ?_
      refine AW_getr (r := 158) ⟨gfRX11_37, rfl⟩ (pc2 := 31) rfl dX11_fault_28 q0 rfl ?_
      refine AW_geti ⟨gfRX11_371, rfl⟩ (pc2 := 34) rfl dX11_fault_31 q158 ?_
      exact AW_iret rfl dX11_fault_34 ⟨_, _, rfl, rfl, h⟩
    · replace h := h.2 q
      refine EW_iconst (pc2 := 24) (v := (-1)) rfl dX11_fault_23 (by decide) ?_
      refine EW_goto (tgt := 34) dX11_fault_24 (by decide) ?_
      exact AW_iret rfl dX11_fault_34 ⟨_, _, rfl, rfl, h⟩
  · replace h := h.2 q
    refine EW_bipush (pc2 := 11) (v := (-2)) rfl dX11_fault_9 (by decide) ?_
    exact AW_iret rfl dX11_fault_11 ⟨_, _, rfl, rfl, h⟩
abbrev MX8_bytesIn : ab_M := (yX8_bytesIn, cX8_bytesIn, 3, (some .int))
theorem dX8_bytesIn_0 : decode cX8_bytesIn 0 = .ok (.iconst 0, 1) := by decide +kernel
theorem dX8_bytesIn_1 : decode cX8_bytesIn 1 = .ok (.istore_n 1, 1) := by decide +kernel
theorem dX8_bytesIn_2 : decode cX8_bytesIn 2 = .ok (.bipush 24, 2) := by decide +kernel
theorem dX8_bytesIn_4 : decode cX8_bytesIn 4 = .ok (.istore_n 2, 1) := by decide +kernel
theorem dX8_bytesIn_5 : decode cX8_bytesIn 5 = .ok (.iload_n 2, 1) := by decide +kernel
theorem dX8_bytesIn_6 : decode cX8_bytesIn 6 = .ok (.ifCond .lt 27, 3) := by decide +kernel
theorem dX8_bytesIn_9 : decode cX8_bytesIn 9 = .ok (.iload_n 1, 1) := by decide +kernel
theorem dX8_bytesIn_10 : decode cX8_bytesIn 10 = .ok (.iload_n 0, 1) := by decide +kernel
theorem dX8_bytesIn_11 : decode cX8_bytesIn 11 = .ok (.iload_n 2, 1) := by decide +kernel
theorem dX8_bytesIn_12 : decode cX8_bytesIn 12 = .ok (.ishr, 1) := by decide +kernel
theorem dX8_bytesIn_13 : decode cX8_bytesIn 13 = .ok (.sipush 255, 3) := by decide +kernel
theorem dX8_bytesIn_16 : decode cX8_bytesIn 16 = .ok (.iand, 1) := by decide +kernel
theorem dX8_bytesIn_17 : decode cX8_bytesIn 17 = .ok (.ifCond .ne 7, 3) := by decide +kernel
theorem dX8_bytesIn_20 : decode cX8_bytesIn 20 = .ok (.iconst 0, 1) := by decide +kernel
theorem dX8_bytesIn_21 : decode cX8_bytesIn 21 = .ok (.goto 4, 3) := by decide +kernel
theorem dX8_bytesIn_24 : decode cX8_bytesIn 24 = .ok (.iconst 1, 1) := by decide +kernel
theorem dX8_bytesIn_25 : decode cX8_bytesIn 25 = .ok (.iadd, 1) := by decide +kernel
theorem dX8_bytesIn_26 : decode cX8_bytesIn 26 = .ok (.istore_n 1, 1) := by decide +kernel
theorem dX8_bytesIn_27 : decode cX8_bytesIn 27 = .ok (.iinc 2 (-8), 3) := by decide +kernel
theorem dX8_bytesIn_30 : decode cX8_bytesIn 30 = .ok (.goto (-25), 3) := by decide +kernel
theorem dX8_bytesIn_33 : decode cX8_bytesIn 33 = .ok (.iload_n 1, 1) := by decide +kernel
theorem dX8_bytesIn_34 : decode cX8_bytesIn 34 = .ok (.ireturn, 1) := by decide +kernel
theorem okX8_bytesIn : ab_okM MX8_bytesIn 1 := ⟨by decide, ⟨by decide, by decide⟩, ab_in 1158 (by decide +kernel) (by decide +kernel), ab_in 96 (by decide +kernel) (by decide +kernel), by decide +kernel, by decide⟩
set_option maxHeartbeats 4000000 in
set_option maxRecDepth 100000 in
theorem sX8_bytesIn_25 (v0 : Int32) (v2 : Int32) (s0 : Int32) (s1 : Int32)  (x : ab_X) (K : Int32 → Prop) (L5 : Int32 → Int32 → Prop) (d bc bs : Nat) (hdp : 0 ≤ d) (hL5 : ∀ (v1 : Int32) (v2 : Int32), L5 v1 v2 → EW MX8_bytesIn 5 [(0, .int v0), (1, .int v1), (2, .int v2)] [] (aS x) d bc bs (liP x K)) (h : wX8_bytesIn_25 v0 v2 s0 s1 x K L5) : EW MX8_bytesIn 25 [(0, .int v0), (2, .int v2)] [.int s1, .int s0] (aS x) d bc bs (liP x K) := by
  unfold wX8_bytesIn_25 at h
  refine EW_iadd (pc2 := 26) rfl dX8_bytesIn_25 ?_
  refine EW_istore_n (pc2 := 27) rfl dX8_bytesIn_26 (by decide) [1, 0, 2] [(0, .int v0), (1, .int (s0 + s1)), (2, .int v2)] rfl ?_
  refine EW_iinc (v2 + (-8)) (pc2 := 30) rfl dX8_bytesIn_27 2 rfl rfl (by decide) [1, 2, 0] [(0, .int v0), (1, .int (s0 + s1)), (2, .int (v2 + (-8)))] rfl ?_
  refine EW_goto (tgt := 5) dX8_bytesIn_30 (by decide) ?_
  exact hL5 (s0 + s1) (v2 + (-8)) h
set_option maxHeartbeats 4000000 in
set_option maxRecDepth 100000 in
theorem sX8_bytesIn_5 (v0 : Int32) (v1 : Int32) (v2 : Int32)  (x : ab_X) (K : Int32 → Prop)  (d bc bs : Nat) (hdp : 0 ≤ d)  (h : Lp2 (lX8_bytesIn_5 v0 x K ) v1 v2) : EW MX8_bytesIn 5 [(0, .int v0), (1, .int v1), (2, .int v2)] [] (aS x) d bc bs (liP x K) := by
  refine Lp2.use (P := fun v1 v2 => EW MX8_bytesIn 5 [(0, .int v0), (1, .int v1), (2, .int v2)] [] (aS x) d bc bs (liP x K)) (fun L5 v1 v2 hL5 h => ?_) v1 v2 h
  unfold lX8_bytesIn_5 at h
  refine EW_iload_n (pc2 := 6) rfl dX8_bytesIn_5 2 rfl ?_
  refine EW_if_lt (tgt := 33) (pc2 := 9) rfl dX8_bytesIn_6 (by decide) (fun q => ?_) (fun q => ?_)
  · replace h := h.1 q
    refine EW_iload_n (pc2 := 34) rfl dX8_bytesIn_33 1 rfl ?_
    exact AW_iret rfl dX8_bytesIn_34 ⟨_, rfl, rfl, h⟩
  · replace h := h.2 q
    refine EW_iload_n (pc2 := 10) rfl dX8_bytesIn_9 1 rfl ?_
    refine EW_iload_n (pc2 := 11) rfl dX8_bytesIn_10 0 rfl ?_
    refine EW_iload_n (pc2 := 12) rfl dX8_bytesIn_11 2 rfl ?_
    refine EW_ishr (pc2 := 13) rfl dX8_bytesIn_12 ?_
    refine EW_sipush (pc2 := 16) (v := 255) rfl dX8_bytesIn_13 (by decide) ?_
    refine EW_iand (pc2 := 17) rfl dX8_bytesIn_16 ?_
    refine EW_if_ne (tgt := 24) (pc2 := 20) rfl dX8_bytesIn_17 (by decide) (fun q => ?_) (fun q => ?_)
    · replace h := h.1 q
      refine EW_iconst (pc2 := 25) (v := 1) rfl dX8_bytesIn_24 (by decide) ?_
      refine EW_ls [0, 2] rfl ?_
      exact sX8_bytesIn_25 v0 v2 v1 1 x K L5 d bc bs hdp hL5 h
    · replace h := h.2 q
      refine EW_iconst (pc2 := 21) (v := 0) rfl dX8_bytesIn_20 (by decide) ?_
      refine EW_goto (tgt := 25) dX8_bytesIn_21 (by decide) ?_
      refine EW_ls [0, 2] rfl ?_
      exact sX8_bytesIn_25 v0 v2 v1 0 x K L5 d bc bs hdp hL5 h
set_option maxHeartbeats 4000000 in
set_option maxRecDepth 100000 in
theorem sX8_bytesIn (v0 : Int32)  (x : ab_X) (K : Int32 → Prop) (d bc bs : Nat) (hdp : 0 ≤ d) (h : wX8_bytesIn v0 x K) : EW MX8_bytesIn 0 [(0, .int v0)] [] (aS x) d bc bs (liP x K) := by
  unfold wX8_bytesIn at h
  refine EW_iconst (pc2 := 1) (v := 0) rfl dX8_bytesIn_0 (by decide) ?_
  refine EW_istore_n (pc2 := 2) rfl dX8_bytesIn_1 (by decide) [1, 0] [(0, .int v0), (1, .int 0)] rfl ?_
  refine EW_bipush (pc2 := 4) (v := 24) rfl dX8_bytesIn_2 (by decide) ?_
  refine EW_istore_n (pc2 := 5) rfl dX8_bytesIn_4 (by decide) [1, 2, 0] [(0, .int v0), (1, .int 0), (2, .int 24)] rfl ?_
  exact sX8_bytesIn_5 v0 0 24 x K d bc bs hdp h
abbrev MX8_take : ab_M := (yX8_take, cX8_take, 4, none)
theorem dX8_take_0 : decode cX8_take 0 = .ok (.bipush 24, 2) := by decide +kernel
theorem dX8_take_2 : decode cX8_take 2 = .ok (.istore_n 2, 1) := by decide +kernel
theorem dX8_take_3 : decode cX8_take 3 = .ok (.iload_n 2, 1) := by decide +kernel
theorem dX8_take_4 : decode cX8_take 4 = .ok (.ifCond .lt 51, 3) := by decide +kernel
theorem dX8_take_7 : decode cX8_take 7 = .ok (.iload_n 1, 1) := by decide +kernel
theorem dX8_take_8 : decode cX8_take 8 = .ok (.iload_n 2, 1) := by decide +kernel
theorem dX8_take_9 : decode cX8_take 9 = .ok (.ishr, 1) := by decide +kernel
theorem dX8_take_10 : decode cX8_take 10 = .ok (.sipush 255, 3) := by decide +kernel
theorem dX8_take_13 : decode cX8_take 13 = .ok (.iand, 1) := by decide +kernel
theorem dX8_take_14 : decode cX8_take 14 = .ok (.istore_n 3, 1) := by decide +kernel
theorem dX8_take_15 : decode cX8_take 15 = .ok (.iload_n 3, 1) := by decide +kernel
theorem dX8_take_16 : decode cX8_take 16 = .ok (.ifCond .eq 33, 3) := by decide +kernel
theorem dX8_take_19 : decode cX8_take 19 = .ok (.aload_n 0, 1) := by decide +kernel
theorem dX8_take_20 : decode cX8_take 20 = .ok (.getfield 28, 3) := by decide +kernel
theorem dX8_take_23 : decode cX8_take 23 = .ok (.sipush 200, 3) := by decide +kernel
theorem dX8_take_26 : decode cX8_take 26 = .ok (.if_icmp .ge 23, 3) := by decide +kernel
theorem dX8_take_29 : decode cX8_take 29 = .ok (.aload_n 0, 1) := by decide +kernel
theorem dX8_take_30 : decode cX8_take 30 = .ok (.getfield 9, 3) := by decide +kernel
theorem dX8_take_33 : decode cX8_take 33 = .ok (.aload_n 0, 1) := by decide +kernel
theorem dX8_take_34 : decode cX8_take 34 = .ok (.getfield 28, 3) := by decide +kernel
theorem dX8_take_37 : decode cX8_take 37 = .ok (.iload_n 3, 1) := by decide +kernel
theorem dX8_take_38 : decode cX8_take 38 = .ok (.iastore, 1) := by decide +kernel
theorem dX8_take_39 : decode cX8_take 39 = .ok (.aload_n 0, 1) := by decide +kernel
theorem dX8_take_40 : decode cX8_take 40 = .ok (.dup, 1) := by decide +kernel
theorem dX8_take_41 : decode cX8_take 41 = .ok (.getfield 28, 3) := by decide +kernel
theorem dX8_take_44 : decode cX8_take 44 = .ok (.iconst 1, 1) := by decide +kernel
theorem dX8_take_45 : decode cX8_take 45 = .ok (.iadd, 1) := by decide +kernel
theorem dX8_take_46 : decode cX8_take 46 = .ok (.putfield 28, 3) := by decide +kernel
theorem dX8_take_49 : decode cX8_take 49 = .ok (.iinc 2 (-8), 3) := by decide +kernel
theorem dX8_take_52 : decode cX8_take 52 = .ok (.goto (-49), 3) := by decide +kernel
theorem dX8_take_55 : decode cX8_take 55 = .ok (.return_, 1) := by decide +kernel
theorem okX8_take : ab_okM MX8_take 1 := ⟨by decide, ⟨by decide, by decide⟩, ab_in 1162 (by decide +kernel) (by decide +kernel), ab_in 96 (by decide +kernel) (by decide +kernel), by decide +kernel, by decide⟩
set_option maxHeartbeats 4000000 in
set_option maxRecDepth 100000 in
theorem sX8_take_3 (v1 : Int32) (v2 : Int32)  (x : ab_X) (K : ab_X → Prop)  (d bc bs : Nat) (hdp : 0 ≤ d)  (h : Lp2 (lX8_take_3 v1 K ) v2 x) : EW MX8_take 3 [(0, .ref 158), (1, .int v1), (2, .int v2)] [] (aS x) d bc bs (liV K) := by
  refine Lp2.use (P := fun v2 x => EW MX8_take 3 [(0, .ref 158), (1, .int v1), (2, .int v2)] [] (aS x) d bc bs (liV K)) (fun L3 v2 x hL3 h => ?_) v2 x h
  unfold lX8_take_3 at h
  refine EW_iload_n (pc2 := 4) rfl dX8_take_3 2 rfl ?_
  refine EW_if_lt (tgt := 55) (pc2 := 7) rfl dX8_take_4 (by decide) (fun q => ?_) (fun q => ?_)
  · replace h := h.1 q
    exact EW_vret rfl dX8_take_55 ⟨_, rfl, rfl, h⟩
  · replace h := h.2 q
    refine EW_iload_n (pc2 := 8) rfl dX8_take_7 1 rfl ?_
    refine EW_iload_n (pc2 := 9) rfl dX8_take_8 2 rfl ?_
    refine EW_ishr (pc2 := 10) rfl dX8_take_9 ?_
    refine EW_sipush (pc2 := 13) (v := 255) rfl dX8_take_10 (by decide) ?_
    refine EW_iand (pc2 := 14) rfl dX8_take_13 ?_
    refine EW_istore_n (pc2 := 15) rfl dX8_take_14 (by decide) [1, 2, 3, 0] [(0, .ref 158), (1, .int v1), (2, .int v2), (3, .int ((v1 >>> (v2 &&& 31)) &&& 255))] rfl ?_
    refine EW_iload_n (pc2 := 16) rfl dX8_take_15 3 rfl ?_
    refine EW_if_eq (tgt := 49) (pc2 := 19) rfl dX8_take_16 (by decide) (fun q => ?_) (fun q => ?_)
    · replace h := h.1 q
      refine EW_iinc (v2 + (-8)) (pc2 := 52) rfl dX8_take_49 2 rfl rfl (by decide) [1, 2, 0, 3] [(0, .ref 158), (1, .int v1), (2, .int (v2 + (-8))), (3, .int ((v1 >>> (v2 &&& 31)) &&& 255))] rfl ?_
      refine EW_goto (tgt := 3) dX8_take_52 (by decide) ?_
      refine EW_ls [0, 1, 2] rfl ?_
      exact hL3 (v2 + (-8)) x h
    · replace h := h.2 q
      refine EW_aload_n (pc2 := 20) rfl dX8_take_19 0 rfl ?_
      refine AW_geti ⟨gfRX8_28, rfl⟩ (pc2 := 23) rfl dX8_take_20 q158 ?_
      refine EW_sipush (pc2 := 26) (v := 200) rfl dX8_take_23 (by decide) ?_
      refine EW_icmp_ge (tgt := 49) (pc2 := 29) rfl dX8_take_26 (by decide) (fun q => ?_) (fun q => ?_)
      · replace h := h.1 q
        refine EW_iinc (v2 + (-8)) (pc2 := 52) rfl dX8_take_49 2 rfl rfl (by decide) [1, 2, 0, 3] [(0, .ref 158), (1, .int v1), (2, .int (v2 + (-8))), (3, .int ((v1 >>> (v2 &&& 31)) &&& 255))] rfl ?_
        refine EW_goto (tgt := 3) dX8_take_52 (by decide) ?_
        refine EW_ls [0, 1, 2] rfl ?_
        exact hL3 (v2 + (-8)) x h
      · replace h := h.2 q
        refine EW_aload_n (pc2 := 30) rfl dX8_take_29 0 rfl ?_
        refine AW_getr (r := 159) ⟨gfRX8_9, rfl⟩ (pc2 := 33) rfl dX8_take_30 q158 rfl ?_
        refine EW_aload_n (pc2 := 34) rfl dX8_take_33 0 rfl ?_
        refine AW_geti ⟨gfRX8_28, rfl⟩ (pc2 := 37) rfl dX8_take_34 q158 ?_
        refine EW_iload_n (pc2 := 38) rfl dX8_take_37 3 rfl ?_
        obtain ⟨b1, h⟩ := h
        refine AW_iast (pc2 := 39) rfl dX8_take_38 q159 b1 ?_
        refine EW_aload_n (pc2 := 40) rfl dX8_take_39 0 rfl ?_
        refine EW_dup (pc2 := 41) rfl dX8_take_40 rfl ?_
        refine AW_geti ⟨gfRX8_28, rfl⟩ (pc2 := 44) rfl dX8_take_41 q158 ?_
        refine EW_iconst (pc2 := 45) (v := 1) rfl dX8_take_44 (by decide) ?_
        refine EW_iadd (pc2 := 46) rfl dX8_take_45 ?_
        refine AW_puti ⟨gfRX8_28, rfl, rfl⟩ (pc2 := 49) rfl dX8_take_46 q158 ?_
        refine EW_iinc (v2 + (-8)) (pc2 := 52) rfl dX8_take_49 2 rfl rfl (by decide) [1, 2, 0, 3] [(0, .ref 158), (1, .int v1), (2, .int (v2 + (-8))), (3, .int ((v1 >>> (v2 &&& 31)) &&& 255))] rfl ?_
        refine EW_goto (tgt := 3) dX8_take_52 (by decide) ?_
        refine EW_ls [0, 1, 2] rfl ?_
        exact hL3 (v2 + (-8)) (wr (wr x 159 (Int32.toNatClampNeg (x.1 158 1)) ((v1 >>> (v2 &&& 31)) &&& 255)) 158 1 (((wr x 159 (Int32.toNatClampNeg (x.1 158 1)) ((v1 >>> (v2 &&& 31)) &&& 255)).1 158 1) + 1)) h
set_option maxHeartbeats 4000000 in
set_option maxRecDepth 100000 in
theorem sX8_take (v1 : Int32)  (x : ab_X) (K : ab_X → Prop) (d bc bs : Nat) (hdp : 0 ≤ d) (h : wX8_take v1 x K) : EW MX8_take 0 [(0, .ref 158), (1, .int v1)] [] (aS x) d bc bs (liV K) := by
  unfold wX8_take at h
  refine EW_bipush (pc2 := 2) (v := 24) rfl dX8_take_0 (by decide) ?_
  refine EW_istore_n (pc2 := 3) rfl dX8_take_2 (by decide) [1, 2, 0] [(0, .ref 158), (1, .int v1), (2, .int 24)] rfl ?_
  exact sX8_take_3 v1 24 x K d bc bs hdp h
theorem mlRX11_359 : Cond.methodLink RX11 359 yX8_bytesIn ∈ ab_G ∧ Cond.static yX8_bytesIn ∈ ab_G := ⟨ab_in 1156 (by decide +kernel) (by decide +kernel), ab_in 1157 (by decide +kernel) (by decide +kernel)⟩
theorem mlRX11_365 : Cond.methodLink RX11 365 yX8_take ∈ ab_G ∧ Cond.instanceMethod yX8_take ∈ ab_G ∧ Cond.selects RX8 yX8_take yX8_take ∈ ab_G := ⟨ab_in 1159 (by decide +kernel) (by decide +kernel), ab_in 1160 (by decide +kernel) (by decide +kernel), ab_in 1161 (by decide +kernel) (by decide +kernel)⟩
abbrev MX11_feed : ab_M := (yX11_feed, cX11_feed, 7, (some .int))
theorem dX11_feed_0 : decode cX11_feed 0 = .ok (.iload_n 1, 1) := by decide +kernel
theorem dX11_feed_1 : decode cX11_feed 1 = .ok (.invokestatic 359, 3) := by decide +kernel
theorem dX11_feed_4 : decode cX11_feed 4 = .ok (.iload_n 2, 1) := by decide +kernel
theorem dX11_feed_5 : decode cX11_feed 5 = .ok (.invokestatic 359, 3) := by decide +kernel
theorem dX11_feed_8 : decode cX11_feed 8 = .ok (.iadd, 1) := by decide +kernel
theorem dX11_feed_9 : decode cX11_feed 9 = .ok (.iload_n 3, 1) := by decide +kernel
theorem dX11_feed_10 : decode cX11_feed 10 = .ok (.invokestatic 359, 3) := by decide +kernel
theorem dX11_feed_13 : decode cX11_feed 13 = .ok (.iadd, 1) := by decide +kernel
theorem dX11_feed_14 : decode cX11_feed 14 = .ok (.iload 4, 2) := by decide +kernel
theorem dX11_feed_16 : decode cX11_feed 16 = .ok (.invokestatic 359, 3) := by decide +kernel
theorem dX11_feed_19 : decode cX11_feed 19 = .ok (.iadd, 1) := by decide +kernel
theorem dX11_feed_20 : decode cX11_feed 20 = .ok (.iload 5, 2) := by decide +kernel
theorem dX11_feed_22 : decode cX11_feed 22 = .ok (.invokestatic 359, 3) := by decide +kernel
theorem dX11_feed_25 : decode cX11_feed 25 = .ok (.iadd, 1) := by decide +kernel
theorem dX11_feed_26 : decode cX11_feed 26 = .ok (.istore 6, 2) := by decide +kernel
theorem dX11_feed_28 : decode cX11_feed 28 = .ok (.aload_n 0, 1) := by decide +kernel
theorem dX11_feed_29 : decode cX11_feed 29 = .ok (.getfield 37, 3) := by decide +kernel
theorem dX11_feed_32 : decode cX11_feed 32 = .ok (.getfield 362, 3) := by decide +kernel
theorem dX11_feed_35 : decode cX11_feed 35 = .ok (.iload 6, 2) := by decide +kernel
theorem dX11_feed_37 : decode cX11_feed 37 = .ok (.iadd, 1) := by decide +kernel
theorem dX11_feed_38 : decode cX11_feed 38 = .ok (.sipush 200, 3) := by decide +kernel
theorem dX11_feed_41 : decode cX11_feed 41 = .ok (.if_icmp .le 5, 3) := by decide +kernel
theorem dX11_feed_44 : decode cX11_feed 44 = .ok (.iconst (-1), 1) := by decide +kernel
theorem dX11_feed_45 : decode cX11_feed 45 = .ok (.ireturn, 1) := by decide +kernel
theorem dX11_feed_46 : decode cX11_feed 46 = .ok (.aload_n 0, 1) := by decide +kernel
theorem dX11_feed_47 : decode cX11_feed 47 = .ok (.getfield 37, 3) := by decide +kernel
theorem dX11_feed_50 : decode cX11_feed 50 = .ok (.iload_n 1, 1) := by decide +kernel
theorem dX11_feed_51 : decode cX11_feed 51 = .ok (.invokevirtual 365, 3) := by decide +kernel
theorem dX11_feed_54 : decode cX11_feed 54 = .ok (.aload_n 0, 1) := by decide +kernel
theorem dX11_feed_55 : decode cX11_feed 55 = .ok (.getfield 37, 3) := by decide +kernel
theorem dX11_feed_58 : decode cX11_feed 58 = .ok (.iload_n 2, 1) := by decide +kernel
theorem dX11_feed_59 : decode cX11_feed 59 = .ok (.invokevirtual 365, 3) := by decide +kernel
theorem dX11_feed_62 : decode cX11_feed 62 = .ok (.aload_n 0, 1) := by decide +kernel
theorem dX11_feed_63 : decode cX11_feed 63 = .ok (.getfield 37, 3) := by decide +kernel
theorem dX11_feed_66 : decode cX11_feed 66 = .ok (.iload_n 3, 1) := by decide +kernel
theorem dX11_feed_67 : decode cX11_feed 67 = .ok (.invokevirtual 365, 3) := by decide +kernel
theorem dX11_feed_70 : decode cX11_feed 70 = .ok (.aload_n 0, 1) := by decide +kernel
theorem dX11_feed_71 : decode cX11_feed 71 = .ok (.getfield 37, 3) := by decide +kernel
theorem dX11_feed_74 : decode cX11_feed 74 = .ok (.iload 4, 2) := by decide +kernel
theorem dX11_feed_76 : decode cX11_feed 76 = .ok (.invokevirtual 365, 3) := by decide +kernel
theorem dX11_feed_79 : decode cX11_feed 79 = .ok (.aload_n 0, 1) := by decide +kernel
theorem dX11_feed_80 : decode cX11_feed 80 = .ok (.getfield 37, 3) := by decide +kernel
theorem dX11_feed_83 : decode cX11_feed 83 = .ok (.iload 5, 2) := by decide +kernel
theorem dX11_feed_85 : decode cX11_feed 85 = .ok (.invokevirtual 365, 3) := by decide +kernel
theorem dX11_feed_88 : decode cX11_feed 88 = .ok (.aload_n 0, 1) := by decide +kernel
theorem dX11_feed_89 : decode cX11_feed 89 = .ok (.getfield 37, 3) := by decide +kernel
theorem dX11_feed_92 : decode cX11_feed 92 = .ok (.getfield 362, 3) := by decide +kernel
theorem dX11_feed_95 : decode cX11_feed 95 = .ok (.ireturn, 1) := by decide +kernel
theorem okX11_feed : ab_okM MX11_feed 5 := ⟨by decide, ⟨by decide, by decide⟩, ab_in 1155 (by decide +kernel) (by decide +kernel), ab_in 86 (by decide +kernel) (by decide +kernel), by decide +kernel, by decide⟩
set_option maxHeartbeats 4000000 in
set_option maxRecDepth 100000 in
theorem sX11_feed (v1 : Int32) (v2 : Int32) (v3 : Int32) (v4 : Int32) (v5 : Int32)  (x : ab_X) (K : Int32 → ab_X → Prop) (d bc bs : Nat) (hdp : 1 ≤ d) (h : wX11_feed v1 v2 v3 v4 v5 x K) : EW MX11_feed 0 [(0, .ref 0), (1, .int v1), (2, .int v2), (3, .int v3), (4, .int v4), (5, .int v5)] [] (aS x) d bc bs (liI K) := by
  unfold wX11_feed at h
  refine EW_iload_n (pc2 := 1) rfl dX11_feed_0 1 rfl ?_
  refine AW_invS (M' := MX8_bytesIn) [.int v1] (rest := []) mlRX11_359 okX8_bytesIn (pc2 := 4) rfl dX11_feed_1 rfl rfl (Nat.le_of_ble_eq_true rfl) (Nat.le_of_ble_eq_true rfl) (d' := 0) (by omega) (EW_mono (fun _ _ hr => ?_) (sX8_bytesIn v1  x _ _ 0 0 (Nat.le_refl _) h))
  obtain ⟨r1, rfl, rfl, h⟩ := hr
  refine EW_iload_n (pc2 := 5) rfl dX11_feed_4 2 rfl ?_
  refine AW_invS (M' := MX8_bytesIn) [.int v2] (rest := [.int r1]) mlRX11_359 okX8_bytesIn (pc2 := 8) rfl dX11_feed_5 rfl rfl (Nat.le_of_ble_eq_true rfl) (Nat.le_of_ble_eq_true rfl) (d' := 0) (by omega) (EW_mono (fun _ _ hr => ?_) (sX8_bytesIn v2  x _ _ 0 0 (Nat.le_refl _) h))
  obtain ⟨r2, rfl, rfl, h⟩ := hr
  refine EW_iadd (pc2 := 9) rfl dX11_feed_8 ?_
  refine EW_iload_n (pc2 := 10) rfl dX11_feed_9 3 rfl ?_
  refine AW_invS (M' := MX8_bytesIn) [.int v3] (rest := [.int (r1 + r2)]) mlRX11_359 okX8_bytesIn (pc2 := 13) rfl dX11_feed_10 rfl rfl (Nat.le_of_ble_eq_true rfl) (Nat.le_of_ble_eq_true rfl) (d' := 0) (by omega) (EW_mono (fun _ _ hr => ?_) (sX8_bytesIn v3  x _ _ 0 0 (Nat.le_refl _) h))
  obtain ⟨r3, rfl, rfl, h⟩ := hr
  refine EW_iadd (pc2 := 14) rfl dX11_feed_13 ?_
  refine EW_iload (pc2 := 16) rfl dX11_feed_14 4 rfl ?_
  refine AW_invS (M' := MX8_bytesIn) [.int v4] (rest := [.int ((r1 + r2) + r3)]) mlRX11_359 okX8_bytesIn (pc2 := 19) rfl dX11_feed_16 rfl rfl (Nat.le_of_ble_eq_true rfl) (Nat.le_of_ble_eq_true rfl) (d' := 0) (by omega) (EW_mono (fun _ _ hr => ?_) (sX8_bytesIn v4  x _ _ 0 0 (Nat.le_refl _) h))
  obtain ⟨r4, rfl, rfl, h⟩ := hr
  refine EW_iadd (pc2 := 20) rfl dX11_feed_19 ?_
  refine EW_iload (pc2 := 22) rfl dX11_feed_20 5 rfl ?_
  refine AW_invS (M' := MX8_bytesIn) [.int v5] (rest := [.int (((r1 + r2) + r3) + r4)]) mlRX11_359 okX8_bytesIn (pc2 := 25) rfl dX11_feed_22 rfl rfl (Nat.le_of_ble_eq_true rfl) (Nat.le_of_ble_eq_true rfl) (d' := 0) (by omega) (EW_mono (fun _ _ hr => ?_) (sX8_bytesIn v5  x _ _ 0 0 (Nat.le_refl _) h))
  obtain ⟨r5, rfl, rfl, h⟩ := hr
  refine EW_iadd (pc2 := 26) rfl dX11_feed_25 ?_
  refine EW_istore (pc2 := 28) rfl dX11_feed_26 (by decide) [1, 2, 3, 4, 5, 6, 0] [(0, .ref 0), (1, .int v1), (2, .int v2), (3, .int v3), (4, .int v4), (5, .int v5), (6, .int ((((r1 + r2) + r3) + r4) + r5))] rfl ?_
  refine EW_aload_n (pc2 := 29) rfl dX11_feed_28 0 rfl ?_
  refine AW_getr (r := 158) ⟨gfRX11_37, rfl⟩ (pc2 := 32) rfl dX11_feed_29 q0 rfl ?_
  refine AW_geti ⟨gfRX11_362, rfl⟩ (pc2 := 35) rfl dX11_feed_32 q158 ?_
  refine EW_iload (pc2 := 37) rfl dX11_feed_35 6 rfl ?_
  refine EW_iadd (pc2 := 38) rfl dX11_feed_37 ?_
  refine EW_sipush (pc2 := 41) (v := 200) rfl dX11_feed_38 (by decide) ?_
  refine EW_icmp_le (tgt := 46) (pc2 := 44) rfl dX11_feed_41 (by decide) (fun q => ?_) (fun q => ?_)
  · replace h := h.1 q
    refine EW_aload_n (pc2 := 47) rfl dX11_feed_46 0 rfl ?_
    refine AW_getr (r := 158) ⟨gfRX11_37, rfl⟩ (pc2 := 50) rfl dX11_feed_47 q0 rfl ?_
    refine EW_iload_n (pc2 := 51) rfl dX11_feed_50 1 rfl ?_
    refine AW_invV (M' := MX8_take) [.int v1] (rest := []) mlRX11_365 okX8_take (pc2 := 54) rfl dX11_feed_51 rfl rfl (Nat.le_of_ble_eq_true rfl) (Nat.le_of_ble_eq_true rfl) (d' := 0) (by omega) q158 ⟨by decide, rfl⟩ (EW_mono (fun _ _ hr => ?_) (sX8_take v1  x _ _ 0 0 (Nat.le_refl _) h))
    obtain ⟨x6, rfl, rfl, h⟩ := hr
    refine EW_aload_n (pc2 := 55) rfl dX11_feed_54 0 rfl ?_
    refine AW_getr (r := 158) ⟨gfRX11_37, rfl⟩ (pc2 := 58) rfl dX11_feed_55 q0 rfl ?_
    refine EW_iload_n (pc2 := 59) rfl dX11_feed_58 2 rfl ?_
    refine AW_invV (M' := MX8_take) [.int v2] (rest := []) mlRX11_365 okX8_take (pc2 := 62) rfl dX11_feed_59 rfl rfl (Nat.le_of_ble_eq_true rfl) (Nat.le_of_ble_eq_true rfl) (d' := 0) (by omega) q158 ⟨by decide, rfl⟩ (EW_mono (fun _ _ hr => ?_) (sX8_take v2  x6 _ _ 0 0 (Nat.le_refl _) h))
    obtain ⟨x7, rfl, rfl, h⟩ := hr
    refine EW_aload_n (pc2 := 63) rfl dX11_feed_62 0 rfl ?_
    refine AW_getr (r := 158) ⟨gfRX11_37, rfl⟩ (pc2 := 66) rfl dX11_feed_63 q0 rfl ?_
    refine EW_iload_n (pc2 := 67) rfl dX11_feed_66 3 rfl ?_
    refine AW_invV (M' := MX8_take) [.int v3] (rest := []) mlRX11_365 okX8_take (pc2 := 70) rfl dX11_feed_67 rfl rfl (Nat.le_of_ble_eq_true rfl) (Nat.le_of_ble_eq_true rfl) (d' := 0) (by omega) q158 ⟨by decide, rfl⟩ (EW_mono (fun _ _ hr => ?_) (sX8_take v3  x7 _ _ 0 0 (Nat.le_refl _) h))
    obtain ⟨x8, rfl, rfl, h⟩ := hr
    refine EW_aload_n (pc2 := 71) rfl dX11_feed_70 0 rfl ?_
    refine AW_getr (r := 158) ⟨gfRX11_37, rfl⟩ (pc2 := 74) rfl dX11_feed_71 q0 rfl ?_
    refine EW_iload (pc2 := 76) rfl dX11_feed_74 4 rfl ?_
    refine AW_invV (M' := MX8_take) [.int v4] (rest := []) mlRX11_365 okX8_take (pc2 := 79) rfl dX11_feed_76 rfl rfl (Nat.le_of_ble_eq_true rfl) (Nat.le_of_ble_eq_true rfl) (d' := 0) (by omega) q158 ⟨by decide, rfl⟩ (EW_mono (fun _ _ hr => ?_) (sX8_take v4  x8 _ _ 0 0 (Nat.le_refl _) h))
    obtain ⟨x9, rfl, rfl, h⟩ := hr
    refine EW_aload_n (pc2 := 80) rfl dX11_feed_79 0 rfl ?_
    refine AW_getr (r := 158) ⟨gfRX11_37, rfl⟩ (pc2 := 83) rfl dX11_feed_80 q0 rfl ?_
    refine EW_iload (pc2 := 85) rfl dX11_feed_83 5 rfl ?_
    refine AW_invV (M' := MX8_take) [.int v5] (rest := []) mlRX11_365 okX8_take (pc2 := 88) rfl dX11_feed_85 rfl rfl (Nat.le_of_ble_eq_true rfl) (Nat.le_of_ble_eq_true rfl) (d' := 0) (by omega) q158 ⟨by decide, rfl⟩ (EW_mono (fun _ _ hr => ?_) (sX8_take v5  x9 _ _ 0 0 (Nat.le_refl _) h))
    obtain ⟨x10, rfl, rfl, h⟩ := hr
    refine EW_aload_n (pc2 := 89) rfl dX11_feed_88 0 rfl ?_
    refine AW_getr (r := 158) ⟨gfRX11_37, rfl⟩ (pc2 := 92) rfl dX11_feed_89 q0 rfl ?_
    refine AW_geti ⟨gfRX11_362, rfl⟩ (pc2 := 95) rfl dX11_feed_92 q158 ?_
    exact AW_iret rfl dX11_feed_95 ⟨_, _, rfl, rfl, h⟩
  · replace h := h.2 q
    refine EW_iconst (pc2 := 45) (v := (-1)) rfl dX11_feed_44 (by decide) ?_
    exact AW_iret rfl dX11_feed_45 ⟨_, _, rfl, rfl, h⟩
theorem mlRX11_100 : Cond.methodLink RX11 100 yX6_walk ∈ ab_G ∧ Cond.instanceMethod yX6_walk ∈ ab_G ∧ Cond.selects RX6 yX6_walk yX6_walk ∈ ab_G := ⟨ab_in 823 (by decide +kernel) (by decide +kernel), ab_in 782 (by decide +kernel) (by decide +kernel), ab_in 783 (by decide +kernel) (by decide +kernel)⟩
theorem cnRX11_104 : Cond.constant RX11 104 1000000 ∈ ab_G := ab_in 824 (by decide +kernel) (by decide +kernel)
abbrev MX11_feet : ab_M := (yX11_feet, cX11_feet, 4, (some .int))
theorem dX11_feet_0 : decode cX11_feet 0 = .ok (.aload_n 0, 1) := by decide +kernel
theorem dX11_feet_1 : decode cX11_feet 1 = .ok (.getfield 12, 3) := by decide +kernel
theorem dX11_feet_4 : decode cX11_feet 4 = .ok (.iload_n 1, 1) := by decide +kernel
theorem dX11_feet_5 : decode cX11_feet 5 = .ok (.iload_n 2, 1) := by decide +kernel
theorem dX11_feet_6 : decode cX11_feet 6 = .ok (.invokevirtual 100, 3) := by decide +kernel
theorem dX11_feet_9 : decode cX11_feet 9 = .ok (.istore_n 3, 1) := by decide +kernel
theorem dX11_feet_10 : decode cX11_feet 10 = .ok (.iload_n 3, 1) := by decide +kernel
theorem dX11_feet_11 : decode cX11_feet 11 = .ok (.ldc 104, 2) := by decide +kernel
theorem dX11_feet_13 : decode cX11_feet 13 = .ok (.if_icmp .lt 7, 3) := by decide +kernel
theorem dX11_feet_16 : decode cX11_feet 16 = .ok (.iconst (-1), 1) := by decide +kernel
theorem dX11_feet_17 : decode cX11_feet 17 = .ok (.goto 7, 3) := by decide +kernel
theorem dX11_feet_20 : decode cX11_feet 20 = .ok (.iload_n 3, 1) := by decide +kernel
theorem dX11_feet_21 : decode cX11_feet 21 = .ok (.bipush 100, 2) := by decide +kernel
theorem dX11_feet_23 : decode cX11_feet 23 = .ok (.imul, 1) := by decide +kernel
theorem dX11_feet_24 : decode cX11_feet 24 = .ok (.ireturn, 1) := by decide +kernel
theorem okX11_feet : ab_okM MX11_feet 2 := ⟨by decide, ⟨by decide, by decide⟩, ab_in 822 (by decide +kernel) (by decide +kernel), ab_in 86 (by decide +kernel) (by decide +kernel), by decide +kernel, by decide⟩
set_option maxHeartbeats 4000000 in
set_option maxRecDepth 100000 in
theorem sX11_feet (v1 : Int32) (v2 : Int32)  (x : ab_X) (K : Int32 → Prop) (d bc bs : Nat) (hdp : 2 ≤ d) (h : wX11_feet v1 v2 x K) : EW MX11_feet 0 [(0, .ref 0), (1, .int v1), (2, .int v2)] [] (aS x) d bc bs (liP x K) := by
  unfold wX11_feet at h
  refine EW_aload_n (pc2 := 1) rfl dX11_feet_0 0 rfl ?_
  refine AW_getr (r := 1) ⟨gfRX11_12, rfl⟩ (pc2 := 4) rfl dX11_feet_1 q0 rfl ?_
  refine EW_iload_n (pc2 := 5) rfl dX11_feet_4 1 rfl ?_
  refine EW_iload_n (pc2 := 6) rfl dX11_feet_5 2 rfl ?_
  refine AW_invV (M' := MX6_walk) [.int v1, .int v2] (rest := []) mlRX11_100 okX6_walk (pc2 := 9) rfl dX11_feet_6 rfl rfl (Nat.le_of_ble_eq_true rfl) (Nat.le_of_ble_eq_true rfl) (d' := 1) (by omega) q1 ⟨by decide, rfl⟩ (EW_mono (fun _ _ hr => ?_) (sX6_walk v1 v2  x _ _ 0 0 (Nat.le_refl _) h))
  obtain ⟨r1, rfl, rfl, h⟩ := hr
  refine EW_istore_n (pc2 := 10) rfl dX11_feet_9 (by decide) [1, 2, 3, 0] [(0, .ref 0), (1, .int v1), (2, .int v2), (3, .int r1)] rfl ?_
  refine EW_iload_n (pc2 := 11) rfl dX11_feet_10 3 rfl ?_
  refine EW_ldc cnRX11_104 (pc2 := 13) rfl dX11_feet_11 ?_
  refine EW_icmp_lt (tgt := 20) (pc2 := 16) rfl dX11_feet_13 (by decide) (fun q => ?_) (fun q => ?_)
  · replace h := h.1 q
    refine EW_iload_n (pc2 := 21) rfl dX11_feet_20 3 rfl ?_
    refine EW_bipush (pc2 := 23) (v := 100) rfl dX11_feet_21 (by decide) ?_
    refine EW_imul (pc2 := 24) rfl dX11_feet_23 ?_
    exact AW_iret rfl dX11_feet_24 ⟨_, rfl, rfl, h⟩
  · replace h := h.2 q
    refine EW_iconst (pc2 := 17) (v := (-1)) rfl dX11_feet_16 (by decide) ?_
    refine EW_goto (tgt := 24) dX11_feet_17 (by decide) ?_
    exact AW_iret rfl dX11_feet_24 ⟨_, rfl, rfl, h⟩
abbrev MX3_fill : ab_M := (yX3_fill, cX3_fill, 5, none)
theorem dX3_fill_0 : decode cX3_fill 0 = .ok (.iconst 0, 1) := by decide +kernel
theorem dX3_fill_1 : decode cX3_fill 1 = .ok (.istore 4, 2) := by decide +kernel
theorem dX3_fill_3 : decode cX3_fill 3 = .ok (.iload 4, 2) := by decide +kernel
theorem dX3_fill_5 : decode cX3_fill 5 = .ok (.aload_n 1, 1) := by decide +kernel
theorem dX3_fill_6 : decode cX3_fill 6 = .ok (.getfield 60, 3) := by decide +kernel
theorem dX3_fill_9 : decode cX3_fill 9 = .ok (.if_icmp .ge 28, 3) := by decide +kernel
theorem dX3_fill_12 : decode cX3_fill 12 = .ok (.aload_n 0, 1) := by decide +kernel
theorem dX3_fill_13 : decode cX3_fill 13 = .ok (.getfield 15, 3) := by decide +kernel
theorem dX3_fill_16 : decode cX3_fill 16 = .ok (.aload_n 1, 1) := by decide +kernel
theorem dX3_fill_17 : decode cX3_fill 17 = .ok (.iload_n 2, 1) := by decide +kernel
theorem dX3_fill_18 : decode cX3_fill 18 = .ok (.aload_n 1, 1) := by decide +kernel
theorem dX3_fill_19 : decode cX3_fill 19 = .ok (.getfield 60, 3) := by decide +kernel
theorem dX3_fill_22 : decode cX3_fill 22 = .ok (.imul, 1) := by decide +kernel
theorem dX3_fill_23 : decode cX3_fill 23 = .ok (.iload 4, 2) := by decide +kernel
theorem dX3_fill_25 : decode cX3_fill 25 = .ok (.iadd, 1) := by decide +kernel
theorem dX3_fill_26 : decode cX3_fill 26 = .ok (.invokevirtual 63, 3) := by decide +kernel
theorem dX3_fill_29 : decode cX3_fill 29 = .ok (.iload_n 3, 1) := by decide +kernel
theorem dX3_fill_30 : decode cX3_fill 30 = .ok (.iastore, 1) := by decide +kernel
theorem dX3_fill_31 : decode cX3_fill 31 = .ok (.iinc 4 1, 3) := by decide +kernel
theorem dX3_fill_34 : decode cX3_fill 34 = .ok (.goto (-31), 3) := by decide +kernel
theorem dX3_fill_37 : decode cX3_fill 37 = .ok (.return_, 1) := by decide +kernel
theorem okX3_fill : ab_okM MX3_fill 3 := ⟨by decide, ⟨by decide, by decide⟩, ab_in 870 (by decide +kernel) (by decide +kernel), ab_in 90 (by decide +kernel) (by decide +kernel), by decide +kernel, by decide⟩
set_option maxHeartbeats 4000000 in
set_option maxRecDepth 100000 in
theorem sX3_fill_3 (v0 : Nat) (v1 : Nat) (v2 : Int32) (v3 : Int32) (v4 : Int32) (hv0 : isF v0) (hv1 : isH v1) (x : ab_X) (K : ab_X → Prop)  (d bc bs : Nat) (hdp : 1 ≤ d)  (h : Lp2 (lX3_fill_3 v0 v1 v2 v3 K ) v4 x) : EW MX3_fill 3 [(0, .ref v0), (1, .ref v1), (2, .int v2), (3, .int v3), (4, .int v4)] [] (aS x) d bc bs (liV K) := by
  refine Lp2.use (P := fun v4 x => EW MX3_fill 3 [(0, .ref v0), (1, .ref v1), (2, .int v2), (3, .int v3), (4, .int v4)] [] (aS x) d bc bs (liV K)) (fun L3 v4 x hL3 h => ?_) v4 x h
  unfold lX3_fill_3 at h
  refine EW_iload (pc2 := 5) rfl dX3_fill_3 4 rfl ?_
  refine EW_aload_n (pc2 := 6) rfl dX3_fill_5 1 rfl ?_
  refine AW_geti ⟨gfRX3_60, rfl⟩ (pc2 := 9) rfl dX3_fill_6 (isH.o hv1) ?_
  refine EW_icmp_ge (tgt := 37) (pc2 := 12) rfl dX3_fill_9 (by decide) (fun q => ?_) (fun q => ?_)
  · replace h := h.1 q
    exact EW_vret rfl dX3_fill_37 ⟨_, rfl, rfl, h⟩
  · replace h := h.2 q
    refine EW_aload_n (pc2 := 13) rfl dX3_fill_12 0 rfl ?_
    refine AW_getr (r := (v0 + 2)) ⟨gfRX3_15, rfl⟩ (pc2 := 16) rfl dX3_fill_13 (isF.o hv0) (isF.r1 hv0) ?_
    refine EW_aload_n (pc2 := 17) rfl dX3_fill_16 1 rfl ?_
    refine EW_iload_n (pc2 := 18) rfl dX3_fill_17 2 rfl ?_
    refine EW_aload_n (pc2 := 19) rfl dX3_fill_18 1 rfl ?_
    refine AW_geti ⟨gfRX3_60, rfl⟩ (pc2 := 22) rfl dX3_fill_19 (isH.o hv1) ?_
    refine EW_imul (pc2 := 23) rfl dX3_fill_22 ?_
    refine EW_iload (pc2 := 25) rfl dX3_fill_23 4 rfl ?_
    refine EW_iadd (pc2 := 26) rfl dX3_fill_25 ?_
    refine AW_invV (M' := MX4_place) [.int ((v2 * (x.1 v1 4)) + v4)] (rest := [.ref (v0 + 2)]) mlRX3_63 okX4_place (pc2 := 29) rfl dX3_fill_26 rfl rfl (Nat.le_of_ble_eq_true rfl) (Nat.le_of_ble_eq_true rfl) (d' := 0) (by omega) (isH.o hv1) ⟨by decide, rfl⟩ (EW_mono (fun _ _ hr => ?_) (sX4_place v1 ((v2 * (x.1 v1 4)) + v4) hv1 x _ _ 0 0 (Nat.le_refl _) h))
    obtain ⟨r1, rfl, rfl, h⟩ := hr
    refine EW_iload_n (pc2 := 30) rfl dX3_fill_29 3 rfl ?_
    obtain ⟨b2, h⟩ := h
    refine AW_iast (pc2 := 31) rfl dX3_fill_30 (isF.a1 hv0) b2 ?_
    refine EW_iinc (v4 + 1) (pc2 := 34) rfl dX3_fill_31 4 rfl rfl (by decide) [1, 2, 3, 4, 0] [(0, .ref v0), (1, .ref v1), (2, .int v2), (3, .int v3), (4, .int (v4 + 1))] rfl ?_
    refine EW_goto (tgt := 3) dX3_fill_34 (by decide) ?_
    exact hL3 (v4 + 1) (wr x (v0 + 2) (Int32.toNatClampNeg r1) v3) h
set_option maxHeartbeats 4000000 in
set_option maxRecDepth 100000 in
theorem sX3_fill (v0 : Nat) (v1 : Nat) (v2 : Int32) (v3 : Int32) (hv0 : isF v0) (hv1 : isH v1) (x : ab_X) (K : ab_X → Prop) (d bc bs : Nat) (hdp : 1 ≤ d) (h : wX3_fill v0 v1 v2 v3 x K) : EW MX3_fill 0 [(0, .ref v0), (1, .ref v1), (2, .int v2), (3, .int v3)] [] (aS x) d bc bs (liV K) := by
  unfold wX3_fill at h
  refine EW_iconst (pc2 := 1) (v := 0) rfl dX3_fill_0 (by decide) ?_
  refine EW_istore (pc2 := 3) rfl dX3_fill_1 (by decide) [1, 2, 3, 4, 0] [(0, .ref v0), (1, .ref v1), (2, .int v2), (3, .int v3), (4, .int 0)] rfl ?_
  exact sX3_fill_3 v0 v1 v2 v3 0 hv0 hv1 x K d bc bs hdp h
theorem mlRX11_147 : Cond.methodLink RX11 147 yX10_hasFloor ∈ ab_G ∧ Cond.instanceMethod yX10_hasFloor ∈ ab_G ∧ Cond.selects RX10 yX10_hasFloor yX10_hasFloor ∈ ab_G := ⟨ab_in 855 (by decide +kernel) (by decide +kernel), ab_in 856 (by decide +kernel) (by decide +kernel), ab_in 857 (by decide +kernel) (by decide +kernel)⟩
theorem gfRX11_150 : ab_L RX11 150 10 3 := ⟨by decide, by decide, ab_in 319 (by decide +kernel) (by decide +kernel)⟩
theorem mlRX11_154 : Cond.methodLink RX11 154 yX3_hasFallen ∈ ab_G ∧ Cond.instanceMethod yX3_hasFallen ∈ ab_G ∧ Cond.selects RX3 yX3_hasFallen yX3_hasFallen ∈ ab_G := ⟨ab_in 859 (by decide +kernel) (by decide +kernel), ab_in 860 (by decide +kernel) (by decide +kernel), ab_in 861 (by decide +kernel) (by decide +kernel)⟩
theorem gfRX11_160 : ab_L RX11 160 4 12 := ⟨by decide, by decide, ab_in 259 (by decide +kernel) (by decide +kernel)⟩
theorem gfRX11_163 : ab_L RX11 163 4 13 := ⟨by decide, by decide, ab_in 261 (by decide +kernel) (by decide +kernel)⟩
theorem mlRX11_166 : Cond.methodLink RX11 166 yX3_fill ∈ ab_G ∧ Cond.instanceMethod yX3_fill ∈ ab_G ∧ Cond.selects RX3 yX3_fill yX3_fill ∈ ab_G := ⟨ab_in 867 (by decide +kernel) (by decide +kernel), ab_in 868 (by decide +kernel) (by decide +kernel), ab_in 869 (by decide +kernel) (by decide +kernel)⟩
theorem mlRX11_170 : Cond.methodLink RX11 170 yX0_witness ∈ ab_G ∧ Cond.instanceMethod yX0_witness ∈ ab_G ∧ Cond.selects RX0 yX0_witness yX0_witness ∈ ab_G := ⟨ab_in 875 (by decide +kernel) (by decide +kernel), ab_in 876 (by decide +kernel) (by decide +kernel), ab_in 877 (by decide +kernel) (by decide +kernel)⟩
abbrev MX11_floor : ab_M := (yX11_floor, cX11_floor, 6, (some .boolean))
theorem dX11_floor_0 : decode cX11_floor 0 = .ok (.aload_n 0, 1) := by decide +kernel
theorem dX11_floor_1 : decode cX11_floor 1 = .ok (.getfield 21, 3) := by decide +kernel
theorem dX11_floor_4 : decode cX11_floor 4 = .ok (.iload_n 1, 1) := by decide +kernel
theorem dX11_floor_5 : decode cX11_floor 5 = .ok (.iload_n 2, 1) := by decide +kernel
theorem dX11_floor_6 : decode cX11_floor 6 = .ok (.invokevirtual 147, 3) := by decide +kernel
theorem dX11_floor_9 : decode cX11_floor 9 = .ok (.ifCond .eq 25, 3) := by decide +kernel
theorem dX11_floor_12 : decode cX11_floor 12 = .ok (.iload_n 3, 1) := by decide +kernel
theorem dX11_floor_13 : decode cX11_floor 13 = .ok (.iconst 0, 1) := by decide +kernel
theorem dX11_floor_14 : decode cX11_floor 14 = .ok (.sipush 500, 3) := by decide +kernel
theorem dX11_floor_17 : decode cX11_floor 17 = .ok (.invokestatic 74, 3) := by decide +kernel
theorem dX11_floor_20 : decode cX11_floor 20 = .ok (.ifCond .eq 14, 3) := by decide +kernel
theorem dX11_floor_23 : decode cX11_floor 23 = .ok (.iload 4, 2) := by decide +kernel
theorem dX11_floor_25 : decode cX11_floor 25 = .ok (.iconst 0, 1) := by decide +kernel
theorem dX11_floor_26 : decode cX11_floor 26 = .ok (.bipush 20, 2) := by decide +kernel
theorem dX11_floor_28 : decode cX11_floor 28 = .ok (.invokestatic 74, 3) := by decide +kernel
theorem dX11_floor_31 : decode cX11_floor 31 = .ok (.ifCond .ne 5, 3) := by decide +kernel
theorem dX11_floor_34 : decode cX11_floor 34 = .ok (.iconst 0, 1) := by decide +kernel
theorem dX11_floor_35 : decode cX11_floor 35 = .ok (.ireturn, 1) := by decide +kernel
theorem dX11_floor_36 : decode cX11_floor 36 = .ok (.aload_n 0, 1) := by decide +kernel
theorem dX11_floor_37 : decode cX11_floor 37 = .ok (.getfield 21, 3) := by decide +kernel
theorem dX11_floor_40 : decode cX11_floor 40 = .ok (.getfield 127, 3) := by decide +kernel
theorem dX11_floor_43 : decode cX11_floor 43 = .ok (.iload_n 1, 1) := by decide +kernel
theorem dX11_floor_44 : decode cX11_floor 44 = .ok (.aaload, 1) := by decide +kernel
theorem dX11_floor_45 : decode cX11_floor 45 = .ok (.astore 5, 2) := by decide +kernel
theorem dX11_floor_47 : decode cX11_floor 47 = .ok (.aload_n 0, 1) := by decide +kernel
theorem dX11_floor_48 : decode cX11_floor 48 = .ok (.getfield 21, 3) := by decide +kernel
theorem dX11_floor_51 : decode cX11_floor 51 = .ok (.getfield 150, 3) := by decide +kernel
theorem dX11_floor_54 : decode cX11_floor 54 = .ok (.aload 5, 2) := by decide +kernel
theorem dX11_floor_56 : decode cX11_floor 56 = .ok (.iload_n 2, 1) := by decide +kernel
theorem dX11_floor_57 : decode cX11_floor 57 = .ok (.invokevirtual 154, 3) := by decide +kernel
theorem dX11_floor_60 : decode cX11_floor 60 = .ok (.ifCond .eq 5, 3) := by decide +kernel
theorem dX11_floor_63 : decode cX11_floor 63 = .ok (.iconst 0, 1) := by decide +kernel
theorem dX11_floor_64 : decode cX11_floor 64 = .ok (.ireturn, 1) := by decide +kernel
theorem dX11_floor_65 : decode cX11_floor 65 = .ok (.aload 5, 2) := by decide +kernel
theorem dX11_floor_67 : decode cX11_floor 67 = .ok (.getfield 160, 3) := by decide +kernel
theorem dX11_floor_70 : decode cX11_floor 70 = .ok (.iload_n 2, 1) := by decide +kernel
theorem dX11_floor_71 : decode cX11_floor 71 = .ok (.iload_n 3, 1) := by decide +kernel
theorem dX11_floor_72 : decode cX11_floor 72 = .ok (.iastore, 1) := by decide +kernel
theorem dX11_floor_73 : decode cX11_floor 73 = .ok (.aload 5, 2) := by decide +kernel
theorem dX11_floor_75 : decode cX11_floor 75 = .ok (.getfield 163, 3) := by decide +kernel
theorem dX11_floor_78 : decode cX11_floor 78 = .ok (.iload_n 2, 1) := by decide +kernel
theorem dX11_floor_79 : decode cX11_floor 79 = .ok (.iload 4, 2) := by decide +kernel
theorem dX11_floor_81 : decode cX11_floor 81 = .ok (.iastore, 1) := by decide +kernel
theorem dX11_floor_82 : decode cX11_floor 82 = .ok (.aload_n 0, 1) := by decide +kernel
theorem dX11_floor_83 : decode cX11_floor 83 = .ok (.getfield 21, 3) := by decide +kernel
theorem dX11_floor_86 : decode cX11_floor 86 = .ok (.getfield 150, 3) := by decide +kernel
theorem dX11_floor_89 : decode cX11_floor 89 = .ok (.aload 5, 2) := by decide +kernel
theorem dX11_floor_91 : decode cX11_floor 91 = .ok (.iload_n 2, 1) := by decide +kernel
theorem dX11_floor_92 : decode cX11_floor 92 = .ok (.iload_n 3, 1) := by decide +kernel
theorem dX11_floor_93 : decode cX11_floor 93 = .ok (.invokevirtual 166, 3) := by decide +kernel
theorem dX11_floor_96 : decode cX11_floor 96 = .ok (.aload_n 0, 1) := by decide +kernel
theorem dX11_floor_97 : decode cX11_floor 97 = .ok (.getfield 30, 3) := by decide +kernel
theorem dX11_floor_100 : decode cX11_floor 100 = .ok (.invokevirtual 170, 3) := by decide +kernel
theorem dX11_floor_103 : decode cX11_floor 103 = .ok (.iconst 1, 1) := by decide +kernel
theorem dX11_floor_104 : decode cX11_floor 104 = .ok (.ireturn, 1) := by decide +kernel
theorem okX11_floor : ab_okM MX11_floor 4 := ⟨by decide, ⟨by decide, by decide⟩, ab_in 854 (by decide +kernel) (by decide +kernel), ab_in 86 (by decide +kernel) (by decide +kernel), by decide +kernel, by decide⟩
set_option maxHeartbeats 4000000 in
set_option maxRecDepth 100000 in
theorem sX11_floor (v1 : Int32) (v2 : Int32) (v3 : Int32) (v4 : Int32)  (x : ab_X) (K : Int32 → ab_X → Prop) (d bc bs : Nat) (hdp : 4 ≤ d) (h : wX11_floor v1 v2 v3 v4 x K) : EW MX11_floor 0 [(0, .ref 0), (1, .int v1), (2, .int v2), (3, .int v3), (4, .int v4)] [] (aS x) d bc bs (liI K) := by
  unfold wX11_floor at h
  refine EW_aload_n (pc2 := 1) rfl dX11_floor_0 0 rfl ?_
  refine AW_getr (r := 9) ⟨gfRX11_21, rfl⟩ (pc2 := 4) rfl dX11_floor_1 q0 rfl ?_
  refine EW_iload_n (pc2 := 5) rfl dX11_floor_4 1 rfl ?_
  refine EW_iload_n (pc2 := 6) rfl dX11_floor_5 2 rfl ?_
  refine AW_invV (M' := MX10_hasFloor) [.int v1, .int v2] (rest := []) mlRX11_147 okX10_hasFloor (pc2 := 9) rfl dX11_floor_6 rfl rfl (Nat.le_of_ble_eq_true rfl) (Nat.le_of_ble_eq_true rfl) (d' := 2) (by omega) q9 ⟨by decide, rfl⟩ (EW_mono (fun _ _ hr => ?_) (sX10_hasFloor v1 v2  x _ _ 0 0 (Nat.le_refl _) h))
  obtain ⟨r1, rfl, rfl, h⟩ := hr
  refine EW_if_eq (tgt := 34) (pc2 := 12) rfl dX11_floor_9 (by decide) (fun q => ?_) (fun q => ?_)
  · replace h := h.1 q
    refine EW_iconst (pc2 := 35) (v := 0) rfl dX11_floor_34 (by decide) ?_
    exact AW_zret rfl isB0 dX11_floor_35 ⟨_, _, rfl, rfl, h⟩
  · replace h := h.2 q
    refine EW_iload_n (pc2 := 13) rfl dX11_floor_12 3 rfl ?_
    refine EW_iconst (pc2 := 14) (v := 0) rfl dX11_floor_13 (by decide) ?_
    refine EW_sipush (pc2 := 17) (v := 500) rfl dX11_floor_14 (by decide) ?_
    refine AW_invS (M' := MX11_within) [.int v3, .int 0, .int 500] (rest := []) mlRX11_74 okX11_within (pc2 := 20) rfl dX11_floor_17 rfl rfl (Nat.le_of_ble_eq_true rfl) (Nat.le_of_ble_eq_true rfl) (d' := 0) (by omega) (EW_mono (fun _ _ hr => ?_) (sX11_within v3 0 500  x _ _ 0 0 (Nat.le_refl _) h))
    obtain ⟨r2, rfl, rfl, h⟩ := hr
    refine EW_if_eq (tgt := 34) (pc2 := 23) rfl dX11_floor_20 (by decide) (fun q => ?_) (fun q => ?_)
    · replace h := h.1 q
      refine EW_iconst (pc2 := 35) (v := 0) rfl dX11_floor_34 (by decide) ?_
      exact AW_zret rfl isB0 dX11_floor_35 ⟨_, _, rfl, rfl, h⟩
    · replace h := h.2 q
      refine EW_iload (pc2 := 25) rfl dX11_floor_23 4 rfl ?_
      refine EW_iconst (pc2 := 26) (v := 0) rfl dX11_floor_25 (by decide) ?_
      refine EW_bipush (pc2 := 28) (v := 20) rfl dX11_floor_26 (by decide) ?_
      refine AW_invS (M' := MX11_within) [.int v4, .int 0, .int 20] (rest := []) mlRX11_74 okX11_within (pc2 := 31) rfl dX11_floor_28 rfl rfl (Nat.le_of_ble_eq_true rfl) (Nat.le_of_ble_eq_true rfl) (d' := 0) (by omega) (EW_mono (fun _ _ hr => ?_) (sX11_within v4 0 20  x _ _ 0 0 (Nat.le_refl _) h))
      obtain ⟨r3, rfl, rfl, h⟩ := hr
      refine EW_if_ne (tgt := 36) (pc2 := 34) rfl dX11_floor_31 (by decide) (fun q => ?_) (fun q => ?_)
      · replace h := h.1 q
        refine EW_aload_n (pc2 := 37) rfl dX11_floor_36 0 rfl ?_
        refine AW_getr (r := 9) ⟨gfRX11_21, rfl⟩ (pc2 := 40) rfl dX11_floor_37 q0 rfl ?_
        refine AW_getr (r := 10) ⟨gfRX11_127, rfl⟩ (pc2 := 43) rfl dX11_floor_40 q9 rfl ?_
        refine EW_iload_n (pc2 := 44) rfl dX11_floor_43 1 rfl ?_
        obtain ⟨b4, h⟩ := h
        refine AW_aald5 (pc2 := 45) rfl dX11_floor_44 b4 ?_
        refine EW_astore (pc2 := 47) rfl dX11_floor_45 (by decide) [1, 2, 3, 4, 5, 0] [(0, .ref 0), (1, .int v1), (2, .int v2), (3, .int v3), (4, .int v4), (5, .ref (30 + 3 * Int32.toNatClampNeg v1))] rfl ?_
        refine EW_aload_n (pc2 := 48) rfl dX11_floor_47 0 rfl ?_
        refine AW_getr (r := 9) ⟨gfRX11_21, rfl⟩ (pc2 := 51) rfl dX11_floor_48 q0 rfl ?_
        refine AW_getr (r := 11) ⟨gfRX11_150, rfl⟩ (pc2 := 54) rfl dX11_floor_51 q9 rfl ?_
        refine EW_aload (pc2 := 56) rfl dX11_floor_54 5 rfl ?_
        refine EW_iload_n (pc2 := 57) rfl dX11_floor_56 2 rfl ?_
        refine AW_invV (M' := MX3_hasFallen) [.ref (30 + 3 * Int32.toNatClampNeg v1), .int v2] (rest := []) mlRX11_154 okX3_hasFallen (pc2 := 60) rfl dX11_floor_57 rfl rfl (Nat.le_of_ble_eq_true rfl) (Nat.le_of_ble_eq_true rfl) (d' := 1) (by omega) q11 ⟨by decide, rfl⟩ (EW_mono (fun _ _ hr => ?_) (sX3_hasFallen 11 (30 + 3 * Int32.toNatClampNeg v1) v2 (Or.inl rfl : isF 11) (isH_of b4) x _ _ 0 0 (Nat.le_refl _) h))
        obtain ⟨r5, rfl, rfl, h⟩ := hr
        refine EW_if_eq (tgt := 65) (pc2 := 63) rfl dX11_floor_60 (by decide) (fun q => ?_) (fun q => ?_)
        · replace h := h.1 q
          refine EW_aload (pc2 := 67) rfl dX11_floor_65 5 rfl ?_
          refine AW_getr (r := ((30 + 3 * Int32.toNatClampNeg v1) + 1)) ⟨gfRX11_160, rfl⟩ (pc2 := 70) rfl dX11_floor_67 (isH.o (isH_of b4)) (isH.r1 (isH_of b4)) ?_
          refine EW_iload_n (pc2 := 71) rfl dX11_floor_70 2 rfl ?_
          refine EW_iload_n (pc2 := 72) rfl dX11_floor_71 3 rfl ?_
          obtain ⟨b6, h⟩ := h
          refine AW_iast (pc2 := 73) rfl dX11_floor_72 (isH.a1 (isH_of b4)) b6 ?_
          refine EW_aload (pc2 := 75) rfl dX11_floor_73 5 rfl ?_
          refine AW_getr (r := ((30 + 3 * Int32.toNatClampNeg v1) + 2)) ⟨gfRX11_163, rfl⟩ (pc2 := 78) rfl dX11_floor_75 (isH.o (isH_of b4)) (isH.r2 (isH_of b4)) ?_
          refine EW_iload_n (pc2 := 79) rfl dX11_floor_78 2 rfl ?_
          refine EW_iload (pc2 := 81) rfl dX11_floor_79 4 rfl ?_
          obtain ⟨b7, h⟩ := h
          refine AW_iast (pc2 := 82) rfl dX11_floor_81 (isH.a2 (isH_of b4)) b7 ?_
          refine EW_aload_n (pc2 := 83) rfl dX11_floor_82 0 rfl ?_
          refine AW_getr (r := 9) ⟨gfRX11_21, rfl⟩ (pc2 := 86) rfl dX11_floor_83 q0 rfl ?_
          refine AW_getr (r := 11) ⟨gfRX11_150, rfl⟩ (pc2 := 89) rfl dX11_floor_86 q9 rfl ?_
          refine EW_aload (pc2 := 91) rfl dX11_floor_89 5 rfl ?_
          refine EW_iload_n (pc2 := 92) rfl dX11_floor_91 2 rfl ?_
          refine EW_iload_n (pc2 := 93) rfl dX11_floor_92 3 rfl ?_
          refine AW_invV (M' := MX3_fill) [.ref (30 + 3 * Int32.toNatClampNeg v1), .int v2, .int v3] (rest := []) mlRX11_166 okX3_fill (pc2 := 96) rfl dX11_floor_93 rfl rfl (Nat.le_of_ble_eq_true rfl) (Nat.le_of_ble_eq_true rfl) (d' := 1) (by omega) q11 ⟨by decide, rfl⟩ (EW_mono (fun _ _ hr => ?_) (sX3_fill 11 (30 + 3 * Int32.toNatClampNeg v1) v2 v3 (Or.inl rfl : isF 11) (isH_of b4) (wr (wr x ((30 + 3 * Int32.toNatClampNeg v1) + 1) (Int32.toNatClampNeg v2) v3) ((30 + 3 * Int32.toNatClampNeg v1) + 2) (Int32.toNatClampNeg v2) v4) _ _ 0 0 (Nat.le_refl _) h))
          obtain ⟨x8, rfl, rfl, h⟩ := hr
          refine EW_aload_n (pc2 := 97) rfl dX11_floor_96 0 rfl ?_
          refine AW_getr (r := 66) ⟨gfRX11_30, rfl⟩ (pc2 := 100) rfl dX11_floor_97 q0 rfl ?_
          refine AW_invV (M' := MX0_witness) [] (rest := []) mlRX11_170 okX0_witness (pc2 := 103) rfl dX11_floor_100 rfl rfl (Nat.le_of_ble_eq_true rfl) (Nat.le_of_ble_eq_true rfl) (d' := 3) (by omega) q66 ⟨by decide, rfl⟩ (EW_mono (fun _ _ hr => ?_) (sX0_witness   x8 _ _ 0 0 (Nat.le_refl _) h))
          obtain ⟨x9, rfl, rfl, h⟩ := hr
          refine EW_iconst (pc2 := 104) (v := 1) rfl dX11_floor_103 (by decide) ?_
          exact AW_zret rfl isB1 dX11_floor_104 ⟨_, _, rfl, rfl, h⟩
        · replace h := h.2 q
          refine EW_iconst (pc2 := 64) (v := 0) rfl dX11_floor_63 (by decide) ?_
          exact AW_zret rfl isB0 dX11_floor_64 ⟨_, _, rfl, rfl, h⟩
      · replace h := h.2 q
        refine EW_iconst (pc2 := 35) (v := 0) rfl dX11_floor_34 (by decide) ?_
        exact AW_zret rfl isB0 dX11_floor_35 ⟨_, _, rfl, rfl, h⟩
theorem gfRX11_196 : ab_L RX11 196 3 3 := ⟨by decide, by decide, ab_in 184 (by decide +kernel) (by decide +kernel)⟩
theorem mlRX11_199 : Cond.methodLink RX11 199 yX4_storey ∈ ab_G ∧ Cond.instanceMethod yX4_storey ∈ ab_G ∧ Cond.selects RX4 yX4_storey yX4_storey ∈ ab_G := ⟨ab_in 920 (by decide +kernel) (by decide +kernel), ab_in 864 (by decide +kernel) (by decide +kernel), ab_in 865 (by decide +kernel) (by decide +kernel)⟩
theorem mlRX11_202 : Cond.methodLink RX11 202 yX3_load ∈ ab_G ∧ Cond.instanceMethod yX3_load ∈ ab_G ∧ Cond.selects RX3 yX3_load yX3_load ∈ ab_G := ⟨ab_in 921 (by decide +kernel) (by decide +kernel), ab_in 922 (by decide +kernel) (by decide +kernel), ab_in 923 (by decide +kernel) (by decide +kernel)⟩
abbrev MX11_floored : ab_M := (yX11_floored, cX11_floored, 5, (some .int))
theorem dX11_floored_0 : decode cX11_floored 0 = .ok (.aload_n 0, 1) := by decide +kernel
theorem dX11_floored_1 : decode cX11_floored 1 = .ok (.getfield 21, 3) := by decide +kernel
theorem dX11_floored_4 : decode cX11_floored 4 = .ok (.iload_n 1, 1) := by decide +kernel
theorem dX11_floored_5 : decode cX11_floored 5 = .ok (.iload_n 2, 1) := by decide +kernel
theorem dX11_floored_6 : decode cX11_floored 6 = .ok (.invokevirtual 147, 3) := by decide +kernel
theorem dX11_floored_9 : decode cX11_floored 9 = .ok (.ifCond .ne 5, 3) := by decide +kernel
theorem dX11_floored_12 : decode cX11_floored 12 = .ok (.iconst (-1), 1) := by decide +kernel
theorem dX11_floored_13 : decode cX11_floored 13 = .ok (.ireturn, 1) := by decide +kernel
theorem dX11_floored_14 : decode cX11_floored 14 = .ok (.aload_n 0, 1) := by decide +kernel
theorem dX11_floored_15 : decode cX11_floored 15 = .ok (.getfield 21, 3) := by decide +kernel
theorem dX11_floored_18 : decode cX11_floored 18 = .ok (.getfield 127, 3) := by decide +kernel
theorem dX11_floored_21 : decode cX11_floored 21 = .ok (.iload_n 1, 1) := by decide +kernel
theorem dX11_floored_22 : decode cX11_floored 22 = .ok (.aaload, 1) := by decide +kernel
theorem dX11_floored_23 : decode cX11_floored 23 = .ok (.astore 4, 2) := by decide +kernel
theorem dX11_floored_25 : decode cX11_floored 25 = .ok (.iload_n 3, 1) := by decide +kernel
theorem dX11_floored_26 : decode cX11_floored 26 = .ok (.tableswitch 92 0 3 #[30, 48, 70, 78], 30) := by decide +kernel
theorem dX11_floored_56 : decode cX11_floored 56 = .ok (.aload_n 0, 1) := by decide +kernel
theorem dX11_floored_57 : decode cX11_floored 57 = .ok (.getfield 21, 3) := by decide +kernel
theorem dX11_floored_60 : decode cX11_floored 60 = .ok (.getfield 150, 3) := by decide +kernel
theorem dX11_floored_63 : decode cX11_floored 63 = .ok (.getfield 196, 3) := by decide +kernel
theorem dX11_floored_66 : decode cX11_floored 66 = .ok (.aload 4, 2) := by decide +kernel
theorem dX11_floored_68 : decode cX11_floored 68 = .ok (.iload_n 2, 1) := by decide +kernel
theorem dX11_floored_69 : decode cX11_floored 69 = .ok (.invokevirtual 199, 3) := by decide +kernel
theorem dX11_floored_72 : decode cX11_floored 72 = .ok (.iaload, 1) := by decide +kernel
theorem dX11_floored_73 : decode cX11_floored 73 = .ok (.ireturn, 1) := by decide +kernel
theorem dX11_floored_74 : decode cX11_floored 74 = .ok (.aload_n 0, 1) := by decide +kernel
theorem dX11_floored_75 : decode cX11_floored 75 = .ok (.getfield 21, 3) := by decide +kernel
theorem dX11_floored_78 : decode cX11_floored 78 = .ok (.getfield 150, 3) := by decide +kernel
theorem dX11_floored_81 : decode cX11_floored 81 = .ok (.aload 4, 2) := by decide +kernel
theorem dX11_floored_83 : decode cX11_floored 83 = .ok (.iload_n 2, 1) := by decide +kernel
theorem dX11_floored_84 : decode cX11_floored 84 = .ok (.invokevirtual 154, 3) := by decide +kernel
theorem dX11_floored_87 : decode cX11_floored 87 = .ok (.ifCond .eq 7, 3) := by decide +kernel
theorem dX11_floored_90 : decode cX11_floored 90 = .ok (.iconst 1, 1) := by decide +kernel
theorem dX11_floored_91 : decode cX11_floored 91 = .ok (.goto 4, 3) := by decide +kernel
theorem dX11_floored_94 : decode cX11_floored 94 = .ok (.iconst 0, 1) := by decide +kernel
theorem dX11_floored_95 : decode cX11_floored 95 = .ok (.ireturn, 1) := by decide +kernel
theorem dX11_floored_96 : decode cX11_floored 96 = .ok (.aload 4, 2) := by decide +kernel
theorem dX11_floored_98 : decode cX11_floored 98 = .ok (.getfield 163, 3) := by decide +kernel
theorem dX11_floored_101 : decode cX11_floored 101 = .ok (.iload_n 2, 1) := by decide +kernel
theorem dX11_floored_102 : decode cX11_floored 102 = .ok (.iaload, 1) := by decide +kernel
theorem dX11_floored_103 : decode cX11_floored 103 = .ok (.ireturn, 1) := by decide +kernel
theorem dX11_floored_104 : decode cX11_floored 104 = .ok (.aload_n 0, 1) := by decide +kernel
theorem dX11_floored_105 : decode cX11_floored 105 = .ok (.getfield 21, 3) := by decide +kernel
theorem dX11_floored_108 : decode cX11_floored 108 = .ok (.getfield 150, 3) := by decide +kernel
theorem dX11_floored_111 : decode cX11_floored 111 = .ok (.aload 4, 2) := by decide +kernel
theorem dX11_floored_113 : decode cX11_floored 113 = .ok (.iload_n 2, 1) := by decide +kernel
theorem dX11_floored_114 : decode cX11_floored 114 = .ok (.invokevirtual 202, 3) := by decide +kernel
theorem dX11_floored_117 : decode cX11_floored 117 = .ok (.ireturn, 1) := by decide +kernel
theorem dX11_floored_118 : decode cX11_floored 118 = .ok (.iconst (-1), 1) := by decide +kernel
theorem dX11_floored_119 : decode cX11_floored 119 = .ok (.ireturn, 1) := by decide +kernel
theorem okX11_floored : ab_okM MX11_floored 3 := ⟨by decide, ⟨by decide, by decide⟩, ab_in 919 (by decide +kernel) (by decide +kernel), ab_in 86 (by decide +kernel) (by decide +kernel), by decide +kernel, by decide⟩
set_option maxHeartbeats 4000000 in
set_option maxRecDepth 100000 in
theorem sX11_floored (v1 : Int32) (v2 : Int32) (v3 : Int32)  (x : ab_X) (K : Int32 → Prop) (d bc bs : Nat) (hdp : 3 ≤ d) (h : wX11_floored v1 v2 v3 x K) : EW MX11_floored 0 [(0, .ref 0), (1, .int v1), (2, .int v2), (3, .int v3)] [] (aS x) d bc bs (liP x K) := by
  unfold wX11_floored at h
  refine EW_aload_n (pc2 := 1) rfl dX11_floored_0 0 rfl ?_
  refine AW_getr (r := 9) ⟨gfRX11_21, rfl⟩ (pc2 := 4) rfl dX11_floored_1 q0 rfl ?_
  refine EW_iload_n (pc2 := 5) rfl dX11_floored_4 1 rfl ?_
  refine EW_iload_n (pc2 := 6) rfl dX11_floored_5 2 rfl ?_
  refine AW_invV (M' := MX10_hasFloor) [.int v1, .int v2] (rest := []) mlRX11_147 okX10_hasFloor (pc2 := 9) rfl dX11_floored_6 rfl rfl (Nat.le_of_ble_eq_true rfl) (Nat.le_of_ble_eq_true rfl) (d' := 2) (by omega) q9 ⟨by decide, rfl⟩ (EW_mono (fun _ _ hr => ?_) (sX10_hasFloor v1 v2  x _ _ 0 0 (Nat.le_refl _) h))
  obtain ⟨r1, rfl, rfl, h⟩ := hr
  refine EW_if_ne (tgt := 14) (pc2 := 12) rfl dX11_floored_9 (by decide) (fun q => ?_) (fun q => ?_)
  · replace h := h.1 q
    refine EW_aload_n (pc2 := 15) rfl dX11_floored_14 0 rfl ?_
    refine AW_getr (r := 9) ⟨gfRX11_21, rfl⟩ (pc2 := 18) rfl dX11_floored_15 q0 rfl ?_
    refine AW_getr (r := 10) ⟨gfRX11_127, rfl⟩ (pc2 := 21) rfl dX11_floored_18 q9 rfl ?_
    refine EW_iload_n (pc2 := 22) rfl dX11_floored_21 1 rfl ?_
    obtain ⟨b2, h⟩ := h
    refine AW_aald5 (pc2 := 23) rfl dX11_floored_22 b2 ?_
    refine EW_astore (pc2 := 25) rfl dX11_floored_23 (by decide) [1, 2, 3, 4, 0] [(0, .ref 0), (1, .int v1), (2, .int v2), (3, .int v3), (4, .ref (30 + 3 * Int32.toNatClampNeg v1))] rfl ?_
    refine EW_iload_n (pc2 := 26) rfl dX11_floored_25 3 rfl ?_
    by_cases qo : Int32.toInt v3 < 0 ∨ 3 < Int32.toInt v3
    · replace h := h.1 qo
      refine EW_tabOut (tgt := 118) dX11_floored_26 qo (by decide) ?_
      refine EW_iconst (pc2 := 119) (v := (-1)) rfl dX11_floored_118 (by decide) ?_
      exact AW_iret rfl dX11_floored_119 ⟨_, rfl, rfl, h⟩
    · obtain ⟨kk, hkk, qk⟩ := sw_in 0 3 (by decide) qo
      match kk, hkk, qk with
      | 0, _, qk =>
        replace h := h.2.1 qk
        refine EW_tabIn (off := 30) (tgt := 56) dX11_floored_26 (by rw [qk]; decide) (by rw [qk]; decide) (by rw [qk]; decide) (by decide) ?_
        refine EW_aload_n (pc2 := 57) rfl dX11_floored_56 0 rfl ?_
        refine AW_getr (r := 9) ⟨gfRX11_21, rfl⟩ (pc2 := 60) rfl dX11_floored_57 q0 rfl ?_
        refine AW_getr (r := 11) ⟨gfRX11_150, rfl⟩ (pc2 := 63) rfl dX11_floored_60 q9 rfl ?_
        refine AW_getr (r := 15) ⟨gfRX11_196, rfl⟩ (pc2 := 66) rfl dX11_floored_63 q11 rfl ?_
        refine EW_aload (pc2 := 68) rfl dX11_floored_66 4 rfl ?_
        refine EW_iload_n (pc2 := 69) rfl dX11_floored_68 2 rfl ?_
        refine AW_invV (M' := MX4_storey) [.int v2] (rest := [.ref 15]) mlRX11_199 okX4_storey (pc2 := 72) rfl dX11_floored_69 rfl rfl (Nat.le_of_ble_eq_true rfl) (Nat.le_of_ble_eq_true rfl) (d' := 0) (by omega) (isH.o (isH_of b2)) ⟨by decide, rfl⟩ (EW_mono (fun _ _ hr => ?_) (sX4_storey (30 + 3 * Int32.toNatClampNeg v1) v2 (isH_of b2) x _ _ 0 0 (Nat.le_refl _) h))
        obtain ⟨r3, rfl, rfl, h⟩ := hr
        obtain ⟨b4, h⟩ := h
        refine AW_iald (pc2 := 73) rfl dX11_floored_72 q15 b4 ?_
        exact AW_iret rfl dX11_floored_73 ⟨_, rfl, rfl, h⟩
      | 1, _, qk =>
        replace h := h.2.2.1 qk
        refine EW_tabIn (off := 48) (tgt := 74) dX11_floored_26 (by rw [qk]; decide) (by rw [qk]; decide) (by rw [qk]; decide) (by decide) ?_
        refine EW_aload_n (pc2 := 75) rfl dX11_floored_74 0 rfl ?_
        refine AW_getr (r := 9) ⟨gfRX11_21, rfl⟩ (pc2 := 78) rfl dX11_floored_75 q0 rfl ?_
        refine AW_getr (r := 11) ⟨gfRX11_150, rfl⟩ (pc2 := 81) rfl dX11_floored_78 q9 rfl ?_
        refine EW_aload (pc2 := 83) rfl dX11_floored_81 4 rfl ?_
        refine EW_iload_n (pc2 := 84) rfl dX11_floored_83 2 rfl ?_
        refine AW_invV (M' := MX3_hasFallen) [.ref (30 + 3 * Int32.toNatClampNeg v1), .int v2] (rest := []) mlRX11_154 okX3_hasFallen (pc2 := 87) rfl dX11_floored_84 rfl rfl (Nat.le_of_ble_eq_true rfl) (Nat.le_of_ble_eq_true rfl) (d' := 1) (by omega) q11 ⟨by decide, rfl⟩ (EW_mono (fun _ _ hr => ?_) (sX3_hasFallen 11 (30 + 3 * Int32.toNatClampNeg v1) v2 (Or.inl rfl : isF 11) (isH_of b2) x _ _ 0 0 (Nat.le_refl _) h))
        obtain ⟨r5, rfl, rfl, h⟩ := hr
        refine EW_if_eq (tgt := 94) (pc2 := 90) rfl dX11_floored_87 (by decide) (fun q => ?_) (fun q => ?_)
        · replace h := h.1 q
          refine EW_iconst (pc2 := 95) (v := 0) rfl dX11_floored_94 (by decide) ?_
          exact AW_iret rfl dX11_floored_95 ⟨_, rfl, rfl, h⟩
        · replace h := h.2 q
          refine EW_iconst (pc2 := 91) (v := 1) rfl dX11_floored_90 (by decide) ?_
          refine EW_goto (tgt := 95) dX11_floored_91 (by decide) ?_
          exact AW_iret rfl dX11_floored_95 ⟨_, rfl, rfl, h⟩
      | 2, _, qk =>
        replace h := h.2.2.2.1 qk
        refine EW_tabIn (off := 70) (tgt := 96) dX11_floored_26 (by rw [qk]; decide) (by rw [qk]; decide) (by rw [qk]; decide) (by decide) ?_
        refine EW_aload (pc2 := 98) rfl dX11_floored_96 4 rfl ?_
        refine AW_getr (r := ((30 + 3 * Int32.toNatClampNeg v1) + 2)) ⟨gfRX11_163, rfl⟩ (pc2 := 101) rfl dX11_floored_98 (isH.o (isH_of b2)) (isH.r2 (isH_of b2)) ?_
        refine EW_iload_n (pc2 := 102) rfl dX11_floored_101 2 rfl ?_
        obtain ⟨b6, h⟩ := h
        refine AW_iald (pc2 := 103) rfl dX11_floored_102 (isH.a2 (isH_of b2)) b6 ?_
        exact AW_iret rfl dX11_floored_103 ⟨_, rfl, rfl, h⟩
      | 3, _, qk =>
        replace h := h.2.2.2.2 qk
        refine EW_tabIn (off := 78) (tgt := 104) dX11_floored_26 (by rw [qk]; decide) (by rw [qk]; decide) (by rw [qk]; decide) (by decide) ?_
        refine EW_aload_n (pc2 := 105) rfl dX11_floored_104 0 rfl ?_
        refine AW_getr (r := 9) ⟨gfRX11_21, rfl⟩ (pc2 := 108) rfl dX11_floored_105 q0 rfl ?_
        refine AW_getr (r := 11) ⟨gfRX11_150, rfl⟩ (pc2 := 111) rfl dX11_floored_108 q9 rfl ?_
        refine EW_aload (pc2 := 113) rfl dX11_floored_111 4 rfl ?_
        refine EW_iload_n (pc2 := 114) rfl dX11_floored_113 2 rfl ?_
        refine AW_invV (M' := MX3_load) [.ref (30 + 3 * Int32.toNatClampNeg v1), .int v2] (rest := []) mlRX11_202 okX3_load (pc2 := 117) rfl dX11_floored_114 rfl rfl (Nat.le_of_ble_eq_true rfl) (Nat.le_of_ble_eq_true rfl) (d' := 1) (by omega) q11 ⟨by decide, rfl⟩ (EW_mono (fun _ _ hr => ?_) (sX3_load 11 (30 + 3 * Int32.toNatClampNeg v1) v2 (Or.inl rfl : isF 11) (isH_of b2) x _ _ 0 0 (Nat.le_refl _) h))
        obtain ⟨r7, rfl, rfl, h⟩ := hr
        exact AW_iret rfl dX11_floored_117 ⟨_, rfl, rfl, h⟩
      | n9 + 4, hkk, _ => exact absurd hkk (by omega)
  · replace h := h.2 q
    refine EW_iconst (pc2 := 13) (v := (-1)) rfl dX11_floored_12 (by decide) ?_
    exact AW_iret rfl dX11_floored_13 ⟨_, rfl, rfl, h⟩
theorem mlRX11_419 : Cond.methodLink RX11 419 yX5_actFor ∈ ab_G ∧ Cond.instanceMethod yX5_actFor ∈ ab_G ∧ Cond.selects RX5 yX5_actFor yX5_actFor ∈ ab_G := ⟨ab_in 1527 (by decide +kernel) (by decide +kernel), ab_in 1528 (by decide +kernel) (by decide +kernel), ab_in 1529 (by decide +kernel) (by decide +kernel)⟩
abbrev MX11_force : ab_M := (yX11_force, cX11_force, 3, (some .int))
theorem dX11_force_0 : decode cX11_force 0 = .ok (.aload_n 0, 1) := by decide +kernel
theorem dX11_force_1 : decode cX11_force 1 = .ok (.iload_n 1, 1) := by decide +kernel
theorem dX11_force_2 : decode cX11_force 2 = .ok (.iload_n 2, 1) := by decide +kernel
theorem dX11_force_3 : decode cX11_force 3 = .ok (.invokevirtual 416, 3) := by decide +kernel
theorem dX11_force_6 : decode cX11_force 6 = .ok (.ifCond .eq 15, 3) := by decide +kernel
theorem dX11_force_9 : decode cX11_force 9 = .ok (.aload_n 0, 1) := by decide +kernel
theorem dX11_force_10 : decode cX11_force 10 = .ok (.getfield 46, 3) := by decide +kernel
theorem dX11_force_13 : decode cX11_force 13 = .ok (.iload_n 1, 1) := by decide +kernel
theorem dX11_force_14 : decode cX11_force 14 = .ok (.iload_n 2, 1) := by decide +kernel
theorem dX11_force_15 : decode cX11_force 15 = .ok (.invokevirtual 419, 3) := by decide +kernel
theorem dX11_force_18 : decode cX11_force 18 = .ok (.goto 4, 3) := by decide +kernel
theorem dX11_force_21 : decode cX11_force 21 = .ok (.iconst (-1), 1) := by decide +kernel
theorem dX11_force_22 : decode cX11_force 22 = .ok (.ireturn, 1) := by decide +kernel
theorem okX11_force : ab_okM MX11_force 2 := ⟨by decide, ⟨by decide, by decide⟩, ab_in 1522 (by decide +kernel) (by decide +kernel), ab_in 86 (by decide +kernel) (by decide +kernel), by decide +kernel, by decide⟩
set_option maxHeartbeats 4000000 in
set_option maxRecDepth 100000 in
theorem sX11_force (v1 : Int32) (v2 : Int32)  (x : ab_X) (K : Int32 → Prop) (d bc bs : Nat) (hdp : 3 ≤ d) (h : wX11_force v1 v2 x K) : EW MX11_force 0 [(0, .ref 0), (1, .int v1), (2, .int v2)] [] (aS x) d bc bs (liP x K) := by
  unfold wX11_force at h
  refine EW_aload_n (pc2 := 1) rfl dX11_force_0 0 rfl ?_
  refine EW_iload_n (pc2 := 2) rfl dX11_force_1 1 rfl ?_
  refine EW_iload_n (pc2 := 3) rfl dX11_force_2 2 rfl ?_
  refine AW_invV (M' := MX11_isKnown) [.int v1, .int v2] (rest := []) mlRX11_416 okX11_isKnown (pc2 := 6) rfl dX11_force_3 rfl rfl (Nat.le_of_ble_eq_true rfl) (Nat.le_of_ble_eq_true rfl) (d' := 2) (by omega) q0 ⟨by decide, rfl⟩ (EW_mono (fun _ _ hr => ?_) (sX11_isKnown v1 v2  x _ _ 0 0 (Nat.le_refl _) h))
  obtain ⟨r1, rfl, rfl, h⟩ := hr
  refine EW_if_eq (tgt := 21) (pc2 := 9) rfl dX11_force_6 (by decide) (fun q => ?_) (fun q => ?_)
  · replace h := h.1 q
    refine EW_iconst (pc2 := 22) (v := (-1)) rfl dX11_force_21 (by decide) ?_
    exact AW_iret rfl dX11_force_22 ⟨_, rfl, rfl, h⟩
  · replace h := h.2 q
    refine EW_aload_n (pc2 := 10) rfl dX11_force_9 0 rfl ?_
    refine AW_getr (r := 165) ⟨gfRX11_46, rfl⟩ (pc2 := 13) rfl dX11_force_10 q0 rfl ?_
    refine EW_iload_n (pc2 := 14) rfl dX11_force_13 1 rfl ?_
    refine EW_iload_n (pc2 := 15) rfl dX11_force_14 2 rfl ?_
    refine AW_invV (M' := MX5_actFor) [.int v1, .int v2] (rest := []) mlRX11_419 okX5_actFor (pc2 := 18) rfl dX11_force_15 rfl rfl (Nat.le_of_ble_eq_true rfl) (Nat.le_of_ble_eq_true rfl) (d' := 0) (by omega) q165 ⟨by decide, rfl⟩ (EW_mono (fun _ _ hr => ?_) (sX5_actFor v1 v2  x _ _ 0 0 (Nat.le_refl _) h))
    obtain ⟨r2, rfl, rfl, h⟩ := hr
    refine EW_goto (tgt := 22) dX11_force_18 (by decide) ?_
    exact AW_iret rfl dX11_force_22 ⟨_, rfl, rfl, h⟩
