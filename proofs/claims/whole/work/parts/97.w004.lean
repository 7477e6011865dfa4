theorem mlRX0_59 : Cond.methodLinkNest RX0 59 yX11_below "CityBrigade" ∈ tables_1.filter ab_isN ∧ Cond.static yX11_below ∈ ab_G := ⟨List.mem_filter.mpr ⟨List.mem_of_getElem? (i := 898) (by decide +kernel), rfl⟩, ab_in 794 (by decide +kernel) (by decide +kernel)⟩
theorem gfRX0_124 : ab_L RX0 124 1 7 := ⟨by decide, by decide, ab_in 521 (by decide +kernel) (by decide +kernel)⟩
theorem gfRX0_127 : ab_L RX0 127 1 1 := ⟨by decide, by decide, ab_in 508 (by decide +kernel) (by decide +kernel)⟩
theorem mlRX0_130 : Cond.methodLink RX0 130 yX0_readOrders ∈ ab_G ∧ Cond.instanceMethod yX0_readOrders ∈ ab_G ∧ Cond.selects RX0 yX0_readOrders yX0_readOrders ∈ ab_G := ⟨ab_in 1055 (by decide +kernel) (by decide +kernel), ab_in 1056 (by decide +kernel) (by decide +kernel), ab_in 1057 (by decide +kernel) (by decide +kernel)⟩
theorem mlRX0_134 : Cond.methodLink RX0 134 yX0_sendAll ∈ ab_G ∧ Cond.instanceMethod yX0_sendAll ∈ ab_G ∧ Cond.selects RX0 yX0_sendAll yX0_sendAll ∈ ab_G := ⟨ab_in 1115 (by decide +kernel) (by decide +kernel), ab_in 1116 (by decide +kernel) (by decide +kernel), ab_in 1117 (by decide +kernel) (by decide +kernel)⟩
theorem mlRX0_141 : Cond.methodLink RX0 141 yX0_moveAll ∈ ab_G ∧ Cond.instanceMethod yX0_moveAll ∈ ab_G ∧ Cond.selects RX0 yX0_moveAll yX0_moveAll ∈ ab_G := ⟨ab_in 1127 (by decide +kernel) (by decide +kernel), ab_in 1128 (by decide +kernel) (by decide +kernel), ab_in 1129 (by decide +kernel) (by decide +kernel)⟩
theorem mlRX0_121 : Cond.methodLink RX0 121 yX0_begin ∈ ab_G ∧ Cond.instanceMethod yX0_begin ∈ ab_G ∧ Cond.selects RX0 yX0_begin yX0_begin ∈ ab_G := ⟨ab_in 1051 (by decide +kernel) (by decide +kernel), ab_in 1052 (by decide +kernel) (by decide +kernel), ab_in 1053 (by decide +kernel) (by decide +kernel)⟩
abbrev MX0_answer : ab_M := (yX0_answer, cX0_answer, 5, (some .int))
theorem dX0_answer_0 : decode cX0_answer 0 = .ok (.aload_n 0, 1) := by decide +kernel
theorem dX0_answer_1 : decode cX0_answer 1 = .ok (.iload_n 1, 1) := by decide +kernel
theorem dX0_answer_2 : decode cX0_answer 2 = .ok (.invokevirtual 118, 3) := by decide +kernel
theorem dX0_answer_5 : decode cX0_answer 5 = .ok (.istore_n 2, 1) := by decide +kernel
theorem dX0_answer_6 : decode cX0_answer 6 = .ok (.iload_n 2, 1) := by decide +kernel
theorem dX0_answer_7 : decode cX0_answer 7 = .ok (.iconst (-1), 1) := by decide +kernel
theorem dX0_answer_8 : decode cX0_answer 8 = .ok (.if_icmp .ne 11, 3) := by decide +kernel
theorem dX0_answer_11 : decode cX0_answer 11 = .ok (.aload_n 0, 1) := by decide +kernel
theorem dX0_answer_12 : decode cX0_answer 12 = .ok (.iload_n 1, 1) := by decide +kernel
theorem dX0_answer_13 : decode cX0_answer 13 = .ok (.invokevirtual 121, 3) := by decide +kernel
theorem dX0_answer_16 : decode cX0_answer 16 = .ok (.goto 4, 3) := by decide +kernel
theorem dX0_answer_19 : decode cX0_answer 19 = .ok (.iload_n 2, 1) := by decide +kernel
theorem dX0_answer_20 : decode cX0_answer 20 = .ok (.istore_n 3, 1) := by decide +kernel
theorem dX0_answer_21 : decode cX0_answer 21 = .ok (.iload_n 3, 1) := by decide +kernel
theorem dX0_answer_22 : decode cX0_answer 22 = .ok (.aload_n 0, 1) := by decide +kernel
theorem dX0_answer_23 : decode cX0_answer 23 = .ok (.getfield 81, 3) := by decide +kernel
theorem dX0_answer_26 : decode cX0_answer 26 = .ok (.invokestatic 59, 3) := by decide +kernel
theorem dX0_answer_29 : decode cX0_answer 29 = .ok (.ifCond .ne 5, 3) := by decide +kernel
theorem dX0_answer_32 : decode cX0_answer 32 = .ok (.iconst (-1), 1) := by decide +kernel
theorem dX0_answer_33 : decode cX0_answer 33 = .ok (.ireturn, 1) := by decide +kernel
theorem dX0_answer_34 : decode cX0_answer 34 = .ok (.aload_n 0, 1) := by decide +kernel
theorem dX0_answer_35 : decode cX0_answer 35 = .ok (.getfield 19, 3) := by decide +kernel
theorem dX0_answer_38 : decode cX0_answer 38 = .ok (.iload_n 3, 1) := by decide +kernel
theorem dX0_answer_39 : decode cX0_answer 39 = .ok (.aaload, 1) := by decide +kernel
theorem dX0_answer_40 : decode cX0_answer 40 = .ok (.astore 4, 2) := by decide +kernel
theorem dX0_answer_42 : decode cX0_answer 42 = .ok (.aload 4, 2) := by decide +kernel
theorem dX0_answer_44 : decode cX0_answer 44 = .ok (.dup, 1) := by decide +kernel
theorem dX0_answer_45 : decode cX0_answer 45 = .ok (.getfield 124, 3) := by decide +kernel
theorem dX0_answer_48 : decode cX0_answer 48 = .ok (.iconst 1, 1) := by decide +kernel
theorem dX0_answer_49 : decode cX0_answer 49 = .ok (.iadd, 1) := by decide +kernel
theorem dX0_answer_50 : decode cX0_answer 50 = .ok (.putfield 124, 3) := by decide +kernel
theorem dX0_answer_53 : decode cX0_answer 53 = .ok (.aload 4, 2) := by decide +kernel
theorem dX0_answer_55 : decode cX0_answer 55 = .ok (.getfield 127, 3) := by decide +kernel
theorem dX0_answer_58 : decode cX0_answer 58 = .ok (.iconst 3, 1) := by decide +kernel
theorem dX0_answer_59 : decode cX0_answer 59 = .ok (.if_icmp .ge 42, 3) := by decide +kernel
theorem dX0_answer_62 : decode cX0_answer 62 = .ok (.aload 4, 2) := by decide +kernel
theorem dX0_answer_64 : decode cX0_answer 64 = .ok (.dup, 1) := by decide +kernel
theorem dX0_answer_65 : decode cX0_answer 65 = .ok (.getfield 127, 3) := by decide +kernel
theorem dX0_answer_68 : decode cX0_answer 68 = .ok (.iconst 1, 1) := by decide +kernel
theorem dX0_answer_69 : decode cX0_answer 69 = .ok (.iadd, 1) := by decide +kernel
theorem dX0_answer_70 : decode cX0_answer 70 = .ok (.putfield 127, 3) := by decide +kernel
theorem dX0_answer_73 : decode cX0_answer 73 = .ok (.aload_n 0, 1) := by decide +kernel
theorem dX0_answer_74 : decode cX0_answer 74 = .ok (.iload_n 1, 1) := by decide +kernel
theorem dX0_answer_75 : decode cX0_answer 75 = .ok (.aload 4, 2) := by decide +kernel
theorem dX0_answer_77 : decode cX0_answer 77 = .ok (.getfield 127, 3) := by decide +kernel
theorem dX0_answer_80 : decode cX0_answer 80 = .ok (.invokevirtual 130, 3) := by decide +kernel
theorem dX0_answer_83 : decode cX0_answer 83 = .ok (.aload_n 0, 1) := by decide +kernel
theorem dX0_answer_84 : decode cX0_answer 84 = .ok (.iload_n 3, 1) := by decide +kernel
theorem dX0_answer_85 : decode cX0_answer 85 = .ok (.invokevirtual 134, 3) := by decide +kernel
theorem dX0_answer_88 : decode cX0_answer 88 = .ok (.aload_n 0, 1) := by decide +kernel
theorem dX0_answer_89 : decode cX0_answer 89 = .ok (.aload_n 0, 1) := by decide +kernel
theorem dX0_answer_90 : decode cX0_answer 90 = .ok (.getfield 26, 3) := by decide +kernel
theorem dX0_answer_93 : decode cX0_answer 93 = .ok (.getfield 138, 3) := by decide +kernel
theorem dX0_answer_96 : decode cX0_answer 96 = .ok (.iconst 4, 1) := by decide +kernel
theorem dX0_answer_97 : decode cX0_answer 97 = .ok (.iaload, 1) := by decide +kernel
theorem dX0_answer_98 : decode cX0_answer 98 = .ok (.invokevirtual 141, 3) := by decide +kernel
theorem dX0_answer_101 : decode cX0_answer 101 = .ok (.iload_n 3, 1) := by decide +kernel
theorem dX0_answer_102 : decode cX0_answer 102 = .ok (.ireturn, 1) := by decide +kernel
theorem okX0_answer : ab_okM MX0_answer 1 := ⟨by decide, ⟨by decide, by decide⟩, ab_in 1046 (by decide +kernel) (by decide +kernel), ab_in 92 (by decide +kernel) (by decide +kernel), by decide +kernel, by decide⟩
set_option maxHeartbeats 4000000 in
set_option maxRecDepth 100000 in
theorem sX0_answer_20 (v1 : Int32) (s0 : Int32)  (x : ab_X) (K : Int32 → ab_X → Prop)  (d bc bs : Nat) (hdp : 5 ≤ d)  (h : wX0_answer_20 v1 s0 x K ) : EW MX0_answer 20 [(0, .ref 66), (1, .int v1)] [.int s0] (aS x) d bc bs (liI K) := by
  unfold wX0_answer_20 at h
  refine EW_istore_n (pc2 := 21) rfl dX0_answer_20 (by decide) [1, 2, 0] [(0, .ref 66), (1, .int v1), (3, .int s0)] rfl ?_
  refine EW_iload_n (pc2 := 22) rfl dX0_answer_21 2 rfl ?_
  refine EW_aload_n (pc2 := 23) rfl dX0_answer_22 0 rfl ?_
  refine AW_geti ⟨gfRX0_81, rfl⟩ (pc2 := 26) rfl dX0_answer_23 q66 ?_
  refine AW_invSN (M' := MX11_below) [.int s0, .int (x.1 66 5)] (rest := []) mlRX0_59 okX11_below (pc2 := 29) rfl dX0_answer_26 rfl rfl (Nat.le_of_ble_eq_true rfl) (Nat.le_of_ble_eq_true rfl) (d' := 0) (by omega) (EW_mono (fun _ _ hr => ?_) (sX11_below s0 (x.1 66 5)  x _ _ 0 0 (Nat.le_refl _) h))
  obtain ⟨r4, rfl, rfl, h⟩ := hr
  refine EW_if_ne (tgt := 34) (pc2 := 32) rfl dX0_answer_29 (by decide) (fun q => ?_) (fun q => ?_)
  · replace h := h.1 q
    refine EW_aload_n (pc2 := 35) rfl dX0_answer_34 0 rfl ?_
    refine AW_getr (r := 68) ⟨gfRX0_19, rfl⟩ (pc2 := 38) rfl dX0_answer_35 q66 rfl ?_
    refine EW_iload_n (pc2 := 39) rfl dX0_answer_38 2 rfl ?_
    obtain ⟨b5, h⟩ := h
    refine AW_aald7 (pc2 := 40) rfl dX0_answer_39 b5 ?_
    refine EW_astore (pc2 := 42) rfl dX0_answer_40 (by decide) [1, 2, 3, 0] [(0, .ref 66), (1, .int v1), (3, .int s0), (4, .ref (98 + Int32.toNatClampNeg s0))] rfl ?_
    refine EW_aload (pc2 := 44) rfl dX0_answer_42 3 rfl ?_
    refine EW_dup (pc2 := 45) rfl dX0_answer_44 rfl ?_
    refine AW_geti ⟨gfRX0_124, rfl⟩ (pc2 := 48) rfl dX0_answer_45 (isK.o (isK_of b5)) ?_
    refine EW_iconst (pc2 := 49) (v := 1) rfl dX0_answer_48 (by decide) ?_
    refine EW_iadd (pc2 := 50) rfl dX0_answer_49 ?_
    refine AW_puti ⟨gfRX0_124, rfl, rfl⟩ (pc2 := 53) rfl dX0_answer_50 (isK.o (isK_of b5)) ?_
    refine EW_aload (pc2 := 55) rfl dX0_answer_53 3 rfl ?_
    refine AW_geti ⟨gfRX0_127, rfl⟩ (pc2 := 58) rfl dX0_answer_55 (isK.o (isK_of b5)) ?_
    refine EW_iconst (pc2 := 59) (v := 3) rfl dX0_answer_58 (by decide) ?_
    refine EW_icmp_ge (tgt := 101) (pc2 := 62) rfl dX0_answer_59 (by decide) (fun q => ?_) (fun q => ?_)
    · replace h := h.1 q
      refine EW_iload_n (pc2 := 102) rfl dX0_answer_101 2 rfl ?_
      exact AW_iret rfl dX0_answer_102 ⟨_, _, rfl, rfl, h⟩
    · replace h := h.2 q
      refine EW_aload (pc2 := 64) rfl dX0_answer_62 3 rfl ?_
      refine EW_dup (pc2 := 65) rfl dX0_answer_64 rfl ?_
      refine AW_geti ⟨gfRX0_127, rfl⟩ (pc2 := 68) rfl dX0_answer_65 (isK.o (isK_of b5)) ?_
      refine EW_iconst (pc2 := 69) (v := 1) rfl dX0_answer_68 (by decide) ?_
      refine EW_iadd (pc2 := 70) rfl dX0_answer_69 ?_
      refine AW_puti ⟨gfRX0_127, rfl, rfl⟩ (pc2 := 73) rfl dX0_answer_70 (isK.o (isK_of b5)) ?_
      refine EW_aload_n (pc2 := 74) rfl dX0_answer_73 0 rfl ?_
      refine EW_iload_n (pc2 := 75) rfl dX0_answer_74 1 rfl ?_
      refine EW_aload (pc2 := 77) rfl dX0_answer_75 3 rfl ?_
      refine AW_geti ⟨gfRX0_127, rfl⟩ (pc2 := 80) rfl dX0_answer_77 (isK.o (isK_of b5)) ?_
      refine AW_invV (M' := MX0_readOrders) [.int v1, .int ((wr (wr x (98 + Int32.toNatClampNeg s0) 7 ((x.1 (98 + Int32.toNatClampNeg s0) 7) + 1)) (98 + Int32.toNatClampNeg s0) 1 (((wr x (98 + Int32.toNatClampNeg s0) 7 ((x.1 (98 + Int32.toNatClampNeg s0) 7) + 1)).1 (98 + Int32.toNatClampNeg s0) 1) + 1)).1 (98 + Int32.toNatClampNeg s0) 1)] (rest := []) mlRX0_130 okX0_readOrders (pc2 := 83) rfl dX0_answer_80 rfl rfl (Nat.le_of_ble_eq_true rfl) (Nat.le_of_ble_eq_true rfl) (d' := 3) (by omega) q66 ⟨by decide, rfl⟩ (EW_mono (fun _ _ hr => ?_) (sX0_readOrders v1 ((wr (wr x (98 + Int32.toNatClampNeg s0) 7 ((x.1 (98 + Int32.toNatClampNeg s0) 7) + 1)) (98 + Int32.toNatClampNeg s0) 1 (((wr x (98 + Int32.toNatClampNeg s0) 7 ((x.1 (98 + Int32.toNatClampNeg s0) 7) + 1)).1 (98 + Int32.toNatClampNeg s0) 1) + 1)).1 (98 + Int32.toNatClampNeg s0) 1)  (wr (wr x (98 + Int32.toNatClampNeg s0) 7 ((x.1 (98 + Int32.toNatClampNeg s0) 7) + 1)) (98 + Int32.toNatClampNeg s0) 1 (((wr x (98 + Int32.toNatClampNeg s0) 7 ((x.1 (98 + Int32.toNatClampNeg s0) 7) + 1)).1 (98 + Int32.toNatClampNeg s0) 1) + 1)) _ _ 0 0 (Nat.le_refl _) h))
      obtain ⟨x6, rfl, rfl, h⟩ := hr
      refine EW_aload_n (pc2 := 84) rfl dX0_answer_83 0 rfl ?_
      refine EW_iload_n (pc2 := 85) rfl dX0_answer_84 2 rfl ?_
      refine AW_invV (M' := MX0_sendAll) [.int s0] (rest := []) mlRX0_134 okX0_sendAll (pc2 := 88) rfl dX0_answer_85 rfl rfl (Nat.le_of_ble_eq_true rfl) (Nat.le_of_ble_eq_true rfl) (d' := 4) (by omega) q66 ⟨by decide, rfl⟩ (EW_mono (fun _ _ hr => ?_) (sX0_sendAll s0  x6 _ _ 0 0 (Nat.le_refl _) h))
      obtain ⟨x7, rfl, rfl, h⟩ := hr
      refine EW_aload_n (pc2 := 89) rfl dX0_answer_88 0 rfl ?_
      refine EW_aload_n (pc2 := 90) rfl dX0_answer_89 0 rfl ?_
      refine AW_getr (r := 69) ⟨gfRX0_26, rfl⟩ (pc2 := 93) rfl dX0_answer_90 q66 rfl ?_
      refine AW_getr (r := 72) ⟨gfRX0_138, rfl⟩ (pc2 := 96) rfl dX0_answer_93 q69 rfl ?_
      refine EW_iconst (pc2 := 97) (v := 4) rfl dX0_answer_96 (by decide) ?_
      obtain ⟨b8, h⟩ := h
      refine AW_iald (pc2 := 98) rfl dX0_answer_97 q72 b8 ?_
      refine AW_invV (M' := MX0_moveAll) [.int (x7.1 72 (Int32.toNatClampNeg 4))] (rest := []) mlRX0_141 okX0_moveAll (pc2 := 101) rfl dX0_answer_98 rfl rfl (Nat.le_of_ble_eq_true rfl) (Nat.le_of_ble_eq_true rfl) (d' := 3) (by omega) q66 ⟨by decide, rfl⟩ (EW_mono (fun _ _ hr => ?_) (sX0_moveAll (x7.1 72 (Int32.toNatClampNeg 4))  x7 _ _ 0 0 (Nat.le_refl _) h))
      obtain ⟨x9, rfl, rfl, h⟩ := hr
      refine EW_iload_n (pc2 := 102) rfl dX0_answer_101 2 rfl ?_
      exact AW_iret rfl dX0_answer_102 ⟨_, _, rfl, rfl, h⟩
  · replace h := h.2 q
    refine EW_iconst (pc2 := 33) (v := (-1)) rfl dX0_answer_32 (by decide) ?_
    exact AW_iret rfl dX0_answer_33 ⟨_, _, rfl, rfl, h⟩
set_option maxHeartbeats 4000000 in
set_option maxRecDepth 100000 in
theorem sX0_answer (v1 : Int32)  (x : ab_X) (K : Int32 → ab_X → Prop) (d bc bs : Nat) (hdp : 5 ≤ d) (h : wX0_answer v1 x K) : EW MX0_answer 0 [(0, .ref 66), (1, .int v1)] [] (aS x) d bc bs (liI K) := by
  unfold wX0_answer at h
  refine EW_aload_n (pc2 := 1) rfl dX0_answer_0 0 rfl ?_
  refine EW_iload_n (pc2 := 2) rfl dX0_answer_1 1 rfl ?_
  refine AW_invV (M' := MX0_openAt) [.int v1] (rest := []) mlRX0_118 okX0_openAt (pc2 := 5) rfl dX0_answer_2 rfl rfl (Nat.le_of_ble_eq_true rfl) (Nat.le_of_ble_eq_true rfl) (d' := 0) (by omega) q66 ⟨by decide, rfl⟩ (EW_mono (fun _ _ hr => ?_) (sX0_openAt v1  x _ _ 0 0 (Nat.le_refl _) h))
  obtain ⟨r1, rfl, rfl, h⟩ := hr
  refine EW_istore_n (pc2 := 6) rfl dX0_answer_5 (by decide) [1, 2, 0] [(0, .ref 66), (1, .int v1), (2, .int r1)] rfl ?_
  refine EW_iload_n (pc2 := 7) rfl dX0_answer_6 2 rfl ?_
  refine EW_iconst (pc2 := 8) (v := (-1)) rfl dX0_answer_7 (by decide) ?_
  refine EW_icmp_ne (tgt := 19) (pc2 := 11) rfl dX0_answer_8 (by decide) (fun q => ?_) (fun q => ?_)
  · replace h := h.1 q
    refine EW_iload_n (pc2 := 20) rfl dX0_answer_19 2 rfl ?_
    refine EW_ls [0, 1] rfl ?_
    exact sX0_answer_20 v1 r1 x K d bc bs hdp h
  · replace h := h.2 q
    refine EW_aload_n (pc2 := 12) rfl dX0_answer_11 0 rfl ?_
    refine EW_iload_n (pc2 := 13) rfl dX0_answer_12 1 rfl ?_
    refine AW_invV (M' := MX0_begin) [.int v1] (rest := []) mlRX0_121 okX0_begin (pc2 := 16) rfl dX0_answer_13 rfl rfl (Nat.le_of_ble_eq_true rfl) (Nat.le_of_ble_eq_true rfl) (d' := 3) (by omega) q66 ⟨by decide, rfl⟩ (EW_mono (fun _ _ hr => ?_) (sX0_begin v1  x _ _ 0 0 (Nat.le_refl _) h))
    obtain ⟨r2, x3, rfl, rfl, h⟩ := hr
    refine EW_goto (tgt := 20) dX0_answer_16 (by decide) ?_
    refine EW_ls [0, 1] rfl ?_
    exact sX0_answer_20 v1 r2 x3 K d bc bs hdp h
abbrev MX2_rest : ab_M := (yX2_rest, cX2_rest, 2, none)
theorem dX2_rest_0 : decode cX2_rest 0 = .ok (.aload_n 0, 1) := by decide +kernel
theorem dX2_rest_1 : decode cX2_rest 1 = .ok (.invokevirtual 60, 3) := by decide +kernel
theorem dX2_rest_4 : decode cX2_rest 4 = .ok (.aload_n 0, 1) := by decide +kernel
theorem dX2_rest_5 : decode cX2_rest 5 = .ok (.iconst 0, 1) := by decide +kernel
theorem dX2_rest_6 : decode cX2_rest 6 = .ok (.putfield 63, 3) := by decide +kernel
theorem dX2_rest_9 : decode cX2_rest 9 = .ok (.aload_n 0, 1) := by decide +kernel
theorem dX2_rest_10 : decode cX2_rest 10 = .ok (.iload_n 1, 1) := by decide +kernel
theorem dX2_rest_11 : decode cX2_rest 11 = .ok (.putfield 66, 3) := by decide +kernel
theorem dX2_rest_14 : decode cX2_rest 14 = .ok (.aload_n 0, 1) := by decide +kernel
theorem dX2_rest_15 : decode cX2_rest 15 = .ok (.iconst (-1), 1) := by decide +kernel
theorem dX2_rest_16 : decode cX2_rest 16 = .ok (.putfield 9, 3) := by decide +kernel
theorem dX2_rest_19 : decode cX2_rest 19 = .ok (.return_, 1) := by decide +kernel
theorem okX2_rest : ab_okM MX2_rest 1 := ⟨by decide, ⟨by decide, by decide⟩, ab_in 996 (by decide +kernel) (by decide +kernel), ab_in 94 (by decide +kernel) (by decide +kernel), by decide +kernel, by decide⟩
set_option maxHeartbeats 4000000 in
set_option maxRecDepth 100000 in
theorem sX2_rest (v0 : Nat) (v1 : Int32) (hv0 : isW v0) (x : ab_X) (K : ab_X → Prop) (d bc bs : Nat) (hdp : 1 ≤ d) (h : wX2_rest v0 v1 x K) : EW MX2_rest 0 [(0, .ref v0), (1, .int v1)] [] (aS x) d bc bs (liV K) := by
  unfold wX2_rest at h
  refine EW_aload_n (pc2 := 1) rfl dX2_rest_0 0 rfl ?_
  refine AW_invV (M' := MX2_leaveWork) [] (rest := []) mlRX2_60 okX2_leaveWork (pc2 := 4) rfl dX2_rest_1 rfl rfl (Nat.le_of_ble_eq_true rfl) (Nat.le_of_ble_eq_true rfl) (d' := 0) (by omega) (isW.o hv0) ⟨by decide, rfl⟩ (EW_mono (fun _ _ hr => ?_) (sX2_leaveWork v0 hv0 x _ _ 0 0 (Nat.le_refl _) h))
  obtain ⟨x1, rfl, rfl, h⟩ := hr
  refine EW_aload_n (pc2 := 5) rfl dX2_rest_4 0 rfl ?_
  refine EW_iconst (pc2 := 6) (v := 0) rfl dX2_rest_5 (by decide) ?_
  refine AW_puti ⟨gfRX2_63, rfl, rfl⟩ (pc2 := 9) rfl dX2_rest_6 (isW.o hv0) ?_
  refine EW_aload_n (pc2 := 10) rfl dX2_rest_9 0 rfl ?_
  refine EW_iload_n (pc2 := 11) rfl dX2_rest_10 1 rfl ?_
  refine AW_puti ⟨gfRX2_66, rfl, rfl⟩ (pc2 := 14) rfl dX2_rest_11 (isW.o hv0) ?_
  refine EW_aload_n (pc2 := 15) rfl dX2_rest_14 0 rfl ?_
  refine EW_iconst (pc2 := 16) (v := (-1)) rfl dX2_rest_15 (by decide) ?_
  refine AW_puti ⟨gfRX2_9, rfl, rfl⟩ (pc2 := 19) rfl dX2_rest_16 (isW.o hv0) ?_
  exact EW_vret rfl dX2_rest_19 ⟨_, rfl, rfl, h⟩
theorem mlRX0_217 : Cond.methodLink RX0 217 yX2_rest ∈ ab_G ∧ Cond.instanceMethod yX2_rest ∈ ab_G ∧ Cond.selects RX2 yX2_rest yX2_rest ∈ ab_G := ⟨ab_in 1018 (by decide +kernel) (by decide +kernel), ab_in 994 (by decide +kernel) (by decide +kernel), ab_in 995 (by decide +kernel) (by decide +kernel)⟩
abbrev MX0_turnHome : ab_M := (yX0_turnHome, cX0_turnHome, 3, none)
theorem dX0_turnHome_0 : decode cX0_turnHome 0 = .ok (.aload_n 0, 1) := by decide +kernel
theorem dX0_turnHome_1 : decode cX0_turnHome 1 = .ok (.aload_n 1, 1) := by decide +kernel
theorem dX0_turnHome_2 : decode cX0_turnHome 2 = .ok (.aload_n 1, 1) := by decide +kernel
theorem dX0_turnHome_3 : decode cX0_turnHome 3 = .ok (.getfield 66, 3) := by decide +kernel
theorem dX0_turnHome_6 : decode cX0_turnHome 6 = .ok (.invokevirtual 194, 3) := by decide +kernel
theorem dX0_turnHome_9 : decode cX0_turnHome 9 = .ok (.istore_n 2, 1) := by decide +kernel
theorem dX0_turnHome_10 : decode cX0_turnHome 10 = .ok (.iload_n 2, 1) := by decide +kernel
theorem dX0_turnHome_11 : decode cX0_turnHome 11 = .ok (.iconst (-1), 1) := by decide +kernel
theorem dX0_turnHome_12 : decode cX0_turnHome 12 = .ok (.if_icmp .eq 11, 3) := by decide +kernel
theorem dX0_turnHome_15 : decode cX0_turnHome 15 = .ok (.iload_n 2, 1) := by decide +kernel
theorem dX0_turnHome_16 : decode cX0_turnHome 16 = .ok (.aload_n 0, 1) := by decide +kernel
theorem dX0_turnHome_17 : decode cX0_turnHome 17 = .ok (.getfield 144, 3) := by decide +kernel
theorem dX0_turnHome_20 : decode cX0_turnHome 20 = .ok (.if_icmp .gt 14, 3) := by decide +kernel
theorem dX0_turnHome_23 : decode cX0_turnHome 23 = .ok (.aload_n 1, 1) := by decide +kernel
theorem dX0_turnHome_24 : decode cX0_turnHome 24 = .ok (.aload_n 1, 1) := by decide +kernel
theorem dX0_turnHome_25 : decode cX0_turnHome 25 = .ok (.getfield 66, 3) := by decide +kernel
theorem dX0_turnHome_28 : decode cX0_turnHome 28 = .ok (.invokevirtual 217, 3) := by decide +kernel
theorem dX0_turnHome_31 : decode cX0_turnHome 31 = .ok (.goto 13, 3) := by decide +kernel
theorem dX0_turnHome_34 : decode cX0_turnHome 34 = .ok (.aload_n 1, 1) := by decide +kernel
theorem dX0_turnHome_35 : decode cX0_turnHome 35 = .ok (.iconst 3, 1) := by decide +kernel
theorem dX0_turnHome_36 : decode cX0_turnHome 36 = .ok (.aload_n 1, 1) := by decide +kernel
theorem dX0_turnHome_37 : decode cX0_turnHome 37 = .ok (.getfield 66, 3) := by decide +kernel
theorem dX0_turnHome_40 : decode cX0_turnHome 40 = .ok (.iload_n 2, 1) := by decide +kernel
theorem dX0_turnHome_41 : decode cX0_turnHome 41 = .ok (.invokevirtual 184, 3) := by decide +kernel
theorem dX0_turnHome_44 : decode cX0_turnHome 44 = .ok (.return_, 1) := by decide +kernel
theorem okX0_turnHome : ab_okM MX0_turnHome 1 := ⟨by decide, ⟨by decide, by decide⟩, ab_in 1008 (by decide +kernel) (by decide +kernel), ab_in 92 (by decide +kernel) (by decide +kernel), by decide +kernel, by decide⟩
set_option maxHeartbeats 4000000 in
set_option maxRecDepth 100000 in
theorem sX0_turnHome_23 (v1 : Nat) (hv1 : isW v1) (x : ab_X) (K : ab_X → Prop)  (d bc bs : Nat) (hdp : 3 ≤ d)  (h : wX0_turnHome_23 v1 x K ) : EW MX0_turnHome 23 [(1, .ref v1)] [] (aS x) d bc bs (liV K) := by
  unfold wX0_turnHome_23 at h
  refine EW_aload_n (pc2 := 24) rfl dX0_turnHome_23 0 rfl ?_
  refine EW_aload_n (pc2 := 25) rfl dX0_turnHome_24 0 rfl ?_
  refine AW_geti ⟨gfRX0_66, rfl⟩ (pc2 := 28) rfl dX0_turnHome_25 (isW.o hv1) ?_
  refine AW_invV (M' := MX2_rest) [.int (x.1 v1 1)] (rest := []) mlRX0_217 okX2_rest (pc2 := 31) rfl dX0_turnHome_28 rfl rfl (Nat.le_of_ble_eq_true rfl) (Nat.le_of_ble_eq_true rfl) (d' := 1) (by omega) (isW.o hv1) ⟨by decide, rfl⟩ (EW_mono (fun _ _ hr => ?_) (sX2_rest v1 (x.1 v1 1) hv1 x _ _ 0 0 (Nat.le_refl _) h))
  obtain ⟨x4, rfl, rfl, h⟩ := hr
  refine EW_goto (tgt := 44) dX0_turnHome_31 (by decide) ?_
  exact EW_vret rfl dX0_turnHome_44 ⟨_, rfl, rfl, h⟩
set_option maxHeartbeats 4000000 in
set_option maxRecDepth 100000 in
theorem sX0_turnHome (v1 : Nat) (hv1 : isW v1) (x : ab_X) (K : ab_X → Prop) (d bc bs : Nat) (hdp : 3 ≤ d) (h : wX0_turnHome v1 x K) : EW MX0_turnHome 0 [(0, .ref 66), (1, .ref v1)] [] (aS x) d bc bs (liV K) := by
  unfold wX0_turnHome at h
  refine EW_aload_n (pc2 := 1) rfl dX0_turnHome_0 0 rfl ?_
  refine EW_aload_n (pc2 := 2) rfl dX0_turnHome_1 1 rfl ?_
  refine EW_aload_n (pc2 := 3) rfl dX0_turnHome_2 1 rfl ?_
  refine AW_geti ⟨gfRX0_66, rfl⟩ (pc2 := 6) rfl dX0_turnHome_3 (isW.o hv1) ?_
  refine AW_invV (M' := MX0_arrivalOf) [.ref v1, .int (x.1 v1 1)] (rest := []) mlRX0_194 okX0_arrivalOf (pc2 := 9) rfl dX0_turnHome_6 rfl rfl (Nat.le_of_ble_eq_true rfl) (Nat.le_of_ble_eq_true rfl) (d' := 2) (by omega) q66 ⟨by decide, rfl⟩ (EW_mono (fun _ _ hr => ?_) (sX0_arrivalOf v1 (x.1 v1 1) hv1 x _ _ 0 0 (Nat.le_refl _) h))
  obtain ⟨r1, x2, rfl, rfl, h⟩ := hr
  refine EW_istore_n (pc2 := 10) rfl dX0_turnHome_9 (by decide) [1, 2, 0] [(0, .ref 66), (1, .ref v1), (2, .int r1)] rfl ?_
  refine EW_iload_n (pc2 := 11) rfl dX0_turnHome_10 2 rfl ?_
  refine EW_iconst (pc2 := 12) (v := (-1)) rfl dX0_turnHome_11 (by decide) ?_
  refine EW_icmp_eq (tgt := 23) (pc2 := 15) rfl dX0_turnHome_12 (by decide) (fun q => ?_) (fun q => ?_)
  · replace h := h.1 q
    refine EW_ls [1] rfl ?_
    exact sX0_turnHome_23 v1 hv1 x2 K d bc bs hdp h
  · replace h := h.2 q
    refine EW_iload_n (pc2 := 16) rfl dX0_turnHome_15 2 rfl ?_
    refine EW_aload_n (pc2 := 17) rfl dX0_turnHome_16 0 rfl ?_
    refine AW_geti ⟨gfRX0_144, rfl⟩ (pc2 := 20) rfl dX0_turnHome_17 q66 ?_
    refine EW_icmp_gt (tgt := 34) (pc2 := 23) rfl dX0_turnHome_20 (by decide) (fun q => ?_) (fun q => ?_)
    · replace h := h.1 q
      refine EW_aload_n (pc2 := 35) rfl dX0_turnHome_34 1 rfl ?_
      refine EW_iconst (pc2 := 36) (v := 3) rfl dX0_turnHome_35 (by decide) ?_
      refine EW_aload_n (pc2 := 37) rfl dX0_turnHome_36 1 rfl ?_
      refine AW_geti ⟨gfRX0_66, rfl⟩ (pc2 := 40) rfl dX0_turnHome_37 (isW.o hv1) ?_
      refine EW_iload_n (pc2 := 41) rfl dX0_turnHome_40 2 rfl ?_
      refine AW_invV (M' := MX2_set) [.int 3, .int (x2.1 v1 1), .int r1] (rest := []) mlRX0_184 okX2_set (pc2 := 44) rfl dX0_turnHome_41 rfl rfl (Nat.le_of_ble_eq_true rfl) (Nat.le_of_ble_eq_true rfl) (d' := 1) (by omega) (isW.o hv1) ⟨by decide, rfl⟩ (EW_mono (fun _ _ hr => ?_) (sX2_set v1 3 (x2.1 v1 1) r1 hv1 x2 _ _ 0 0 (Nat.le_refl _) h))
      obtain ⟨x3, rfl, rfl, h⟩ := hr
      exact EW_vret rfl dX0_turnHome_44 ⟨_, rfl, rfl, h⟩
    · replace h := h.2 q
      refine EW_ls [1] rfl ?_
      exact sX0_turnHome_23 v1 hv1 x2 K d bc bs hdp h
theorem gfRX1_15 : ab_L RX1 15 1 2 := ⟨by decide, by decide, ab_in 510 (by decide +kernel) (by decide +kernel)⟩
theorem gfRX1_9 : ab_L RX1 9 1 4 := ⟨by decide, by decide, ab_in 515 (by decide +kernel) (by decide +kernel)⟩
abbrev MX1_close : ab_M := (yX1_close, cX1_close, 3, none)
theorem dX1_close_0 : decode cX1_close 0 = .ok (.aload_n 0, 1) := by decide +kernel
theorem dX1_close_1 : decode cX1_close 1 = .ok (.iload_n 1, 1) := by decide +kernel
theorem dX1_close_2 : decode cX1_close 2 = .ok (.putfield 15, 3) := by decide +kernel
theorem dX1_close_5 : decode cX1_close 5 = .ok (.aload_n 0, 1) := by decide +kernel
theorem dX1_close_6 : decode cX1_close 6 = .ok (.iload_n 2, 1) := by decide +kernel
theorem dX1_close_7 : decode cX1_close 7 = .ok (.putfield 9, 3) := by decide +kernel
theorem dX1_close_10 : decode cX1_close 10 = .ok (.return_, 1) := by decide +kernel
theorem okX1_close : ab_okM MX1_close 2 := ⟨by decide, ⟨by decide, by decide⟩, ab_in 1370 (by decide +kernel) (by decide +kernel), ab_in 95 (by decide +kernel) (by decide +kernel), by decide +kernel, by decide⟩
set_option maxHeartbeats 4000000 in
set_option maxRecDepth 100000 in
theorem sX1_close (v0 : Nat) (v1 : Int32) (v2 : Int32) (hv0 : isK v0) (x : ab_X) (K : ab_X → Prop) (d bc bs : Nat) (hdp : 0 ≤ d) (h : wX1_close v0 v1 v2 x K) : EW MX1_close 0 [(0, .ref v0), (1, .int v1), (2, .int v2)] [] (aS x) d bc bs (liV K) := by
  unfold wX1_close at h
  refine EW_aload_n (pc2 := 1) rfl dX1_close_0 0 rfl ?_
  refine EW_iload_n (pc2 := 2) rfl dX1_close_1 1 rfl ?_
  refine AW_puti ⟨gfRX1_15, rfl, rfl⟩ (pc2 := 5) rfl dX1_close_2 (isK.o hv0) ?_
  refine EW_aload_n (pc2 := 6) rfl dX1_close_5 0 rfl ?_
  refine EW_iload_n (pc2 := 7) rfl dX1_close_6 2 rfl ?_
  refine AW_puti ⟨gfRX1_9, rfl, rfl⟩ (pc2 := 10) rfl dX1_close_7 (isK.o hv0) ?_
  exact EW_vret rfl dX1_close_10 ⟨_, rfl, rfl, h⟩
theorem gfRX2_69 : ab_L RX2 69 2 14 := ⟨by decide, by decide, ab_in 446 (by decide +kernel) (by decide +kernel)⟩
abbrev MX2_workIn : ab_M := (yX2_workIn, cX2_workIn, 3, none)
theorem dX2_workIn_0 : decode cX2_workIn 0 = .ok (.aload_n 0, 1) := by decide +kernel
theorem dX2_workIn_1 : decode cX2_workIn 1 = .ok (.iconst 2, 1) := by decide +kernel
theorem dX2_workIn_2 : decode cX2_workIn 2 = .ok (.putfield 63, 3) := by decide +kernel
theorem dX2_workIn_5 : decode cX2_workIn 5 = .ok (.aload_n 0, 1) := by decide +kernel
theorem dX2_workIn_6 : decode cX2_workIn 6 = .ok (.iconst (-1), 1) := by decide +kernel
theorem dX2_workIn_7 : decode cX2_workIn 7 = .ok (.putfield 9, 3) := by decide +kernel
theorem dX2_workIn_10 : decode cX2_workIn 10 = .ok (.aload_n 0, 1) := by decide +kernel
theorem dX2_workIn_11 : decode cX2_workIn 11 = .ok (.iload_n 1, 1) := by decide +kernel
theorem dX2_workIn_12 : decode cX2_workIn 12 = .ok (.putfield 18, 3) := by decide +kernel
theorem dX2_workIn_15 : decode cX2_workIn 15 = .ok (.aload_n 0, 1) := by decide +kernel
theorem dX2_workIn_16 : decode cX2_workIn 16 = .ok (.iload_n 2, 1) := by decide +kernel
theorem dX2_workIn_17 : decode cX2_workIn 17 = .ok (.putfield 69, 3) := by decide +kernel
theorem dX2_workIn_20 : decode cX2_workIn 20 = .ok (.return_, 1) := by decide +kernel
theorem okX2_workIn : ab_okM MX2_workIn 2 := ⟨by decide, ⟨by decide, by decide⟩, ab_in 1366 (by decide +kernel) (by decide +kernel), ab_in 94 (by decide +kernel) (by decide +kernel), by decide +kernel, by decide⟩
set_option maxHeartbeats 4000000 in
set_option maxRecDepth 100000 in
theorem sX2_workIn (v0 : Nat) (v1 : Int32) (v2 : Int32) (hv0 : isW v0) (x : ab_X) (K : ab_X → Prop) (d bc bs : Nat) (hdp : 0 ≤ d) (h : wX2_workIn v0 v1 v2 x K) : EW MX2_workIn 0 [(0, .ref v0), (1, .int v1), (2, .int v2)] [] (aS x) d bc bs (liV K) := by
  unfold wX2_workIn at h
  refine EW_aload_n (pc2 := 1) rfl dX2_workIn_0 0 rfl ?_
  refine EW_iconst (pc2 := 2) (v := 2) rfl dX2_workIn_1 (by decide) ?_
  refine AW_puti ⟨gfRX2_63, rfl, rfl⟩ (pc2 := 5) rfl dX2_workIn_2 (isW.o hv0) ?_
  refine EW_aload_n (pc2 := 6) rfl dX2_workIn_5 0 rfl ?_
  refine EW_iconst (pc2 := 7) (v := (-1)) rfl dX2_workIn_6 (by decide) ?_
  refine AW_puti ⟨gfRX2_9, rfl, rfl⟩ (pc2 := 10) rfl dX2_workIn_7 (isW.o hv0) ?_
  refine EW_aload_n (pc2 := 11) rfl dX2_workIn_10 0 rfl ?_
  refine EW_iload_n (pc2 := 12) rfl dX2_workIn_11 1 rfl ?_
  refine AW_puti ⟨gfRX2_18, rfl, rfl⟩ (pc2 := 15) rfl dX2_workIn_12 (isW.o hv0) ?_
  refine EW_aload_n (pc2 := 16) rfl dX2_workIn_15 0 rfl ?_
  refine EW_iload_n (pc2 := 17) rfl dX2_workIn_16 2 rfl ?_
  refine AW_puti ⟨gfRX2_69, rfl, rfl⟩ (pc2 := 20) rfl dX2_workIn_17 (isW.o hv0) ?_
  exact EW_vret rfl dX2_workIn_20 ⟨_, rfl, rfl, h⟩
theorem mlRX0_260 : Cond.methodLink RX0 260 yX0_turnHome ∈ ab_G ∧ Cond.instanceMethod yX0_turnHome ∈ ab_G ∧ Cond.selects RX0 yX0_turnHome yX0_turnHome ∈ ab_G := ⟨ab_in 1371 (by decide +kernel) (by decide +kernel), ab_in 1006 (by decide +kernel) (by decide +kernel), ab_in 1007 (by decide +kernel) (by decide +kernel)⟩
theorem mlRX0_257 : Cond.methodLink RX0 257 yX1_close ∈ ab_G ∧ Cond.instanceMethod yX1_close ∈ ab_G ∧ Cond.selects RX1 yX1_close yX1_close ∈ ab_G := ⟨ab_in 1367 (by decide +kernel) (by decide +kernel), ab_in 1368 (by decide +kernel) (by decide +kernel), ab_in 1369 (by decide +kernel) (by decide +kernel)⟩
theorem mlRX0_254 : Cond.methodLink RX0 254 yX2_workIn ∈ ab_G ∧ Cond.instanceMethod yX2_workIn ∈ ab_G ∧ Cond.selects RX2 yX2_workIn yX2_workIn ∈ ab_G := ⟨ab_in 1363 (by decide +kernel) (by decide +kernel), ab_in 1364 (by decide +kernel) (by decide +kernel), ab_in 1365 (by decide +kernel) (by decide +kernel)⟩
abbrev MX0_arrive : ab_M := (yX0_arrive, cX0_arrive, 4, none)
theorem dX0_arrive_0 : decode cX0_arrive 0 = .ok (.aload_n 1, 1) := by decide +kernel
theorem dX0_arrive_1 : decode cX0_arrive 1 = .ok (.getfield 75, 3) := by decide +kernel
theorem dX0_arrive_4 : decode cX0_arrive 4 = .ok (.iconst 3, 1) := by decide +kernel
theorem dX0_arrive_5 : decode cX0_arrive 5 = .ok (.if_icmp .ne 12, 3) := by decide +kernel
theorem dX0_arrive_8 : decode cX0_arrive 8 = .ok (.aload_n 1, 1) := by decide +kernel
theorem dX0_arrive_9 : decode cX0_arrive 9 = .ok (.aload_n 1, 1) := by decide +kernel
theorem dX0_arrive_10 : decode cX0_arrive 10 = .ok (.getfield 69, 3) := by decide +kernel
theorem dX0_arrive_13 : decode cX0_arrive 13 = .ok (.invokevirtual 217, 3) := by decide +kernel
theorem dX0_arrive_16 : decode cX0_arrive 16 = .ok (.return_, 1) := by decide +kernel
theorem dX0_arrive_17 : decode cX0_arrive 17 = .ok (.aload_n 0, 1) := by decide +kernel
theorem dX0_arrive_18 : decode cX0_arrive 18 = .ok (.getfield 49, 3) := by decide +kernel
theorem dX0_arrive_21 : decode cX0_arrive 21 = .ok (.aload_n 1, 1) := by decide +kernel
theorem dX0_arrive_22 : decode cX0_arrive 22 = .ok (.getfield 69, 3) := by decide +kernel
theorem dX0_arrive_25 : decode cX0_arrive 25 = .ok (.invokevirtual 115, 3) := by decide +kernel
theorem dX0_arrive_28 : decode cX0_arrive 28 = .ok (.istore_n 2, 1) := by decide +kernel
theorem dX0_arrive_29 : decode cX0_arrive 29 = .ok (.aload_n 1, 1) := by decide +kernel
theorem dX0_arrive_30 : decode cX0_arrive 30 = .ok (.getfield 188, 3) := by decide +kernel
theorem dX0_arrive_33 : decode cX0_arrive 33 = .ok (.aload_n 0, 1) := by decide +kernel
theorem dX0_arrive_34 : decode cX0_arrive 34 = .ok (.getfield 81, 3) := by decide +kernel
theorem dX0_arrive_37 : decode cX0_arrive 37 = .ok (.invokestatic 59, 3) := by decide +kernel
theorem dX0_arrive_40 : decode cX0_arrive 40 = .ok (.ifCond .eq 22, 3) := by decide +kernel
theorem dX0_arrive_43 : decode cX0_arrive 43 = .ok (.aload_n 0, 1) := by decide +kernel
theorem dX0_arrive_44 : decode cX0_arrive 44 = .ok (.getfield 19, 3) := by decide +kernel
theorem dX0_arrive_47 : decode cX0_arrive 47 = .ok (.aload_n 1, 1) := by decide +kernel
theorem dX0_arrive_48 : decode cX0_arrive 48 = .ok (.getfield 188, 3) := by decide +kernel
theorem dX0_arrive_51 : decode cX0_arrive 51 = .ok (.aaload, 1) := by decide +kernel
theorem dX0_arrive_52 : decode cX0_arrive 52 = .ok (.getfield 84, 3) := by decide +kernel
theorem dX0_arrive_55 : decode cX0_arrive 55 = .ok (.ifCond .ne 7, 3) := by decide +kernel
theorem dX0_arrive_58 : decode cX0_arrive 58 = .ok (.iconst 1, 1) := by decide +kernel
theorem dX0_arrive_59 : decode cX0_arrive 59 = .ok (.goto 4, 3) := by decide +kernel
theorem dX0_arrive_62 : decode cX0_arrive 62 = .ok (.iconst 0, 1) := by decide +kernel
theorem dX0_arrive_63 : decode cX0_arrive 63 = .ok (.istore_n 3, 1) := by decide +kernel
theorem dX0_arrive_64 : decode cX0_arrive 64 = .ok (.iload_n 3, 1) := by decide +kernel
theorem dX0_arrive_65 : decode cX0_arrive 65 = .ok (.ifCond .eq 18, 3) := by decide +kernel
theorem dX0_arrive_68 : decode cX0_arrive 68 = .ok (.iload_n 2, 1) := by decide +kernel
theorem dX0_arrive_69 : decode cX0_arrive 69 = .ok (.iconst (-1), 1) := by decide +kernel
theorem dX0_arrive_70 : decode cX0_arrive 70 = .ok (.if_icmp .eq 13, 3) := by decide +kernel
theorem dX0_arrive_73 : decode cX0_arrive 73 = .ok (.aload_n 1, 1) := by decide +kernel
theorem dX0_arrive_74 : decode cX0_arrive 74 = .ok (.iload_n 2, 1) := by decide +kernel
theorem dX0_arrive_75 : decode cX0_arrive 75 = .ok (.aload_n 0, 1) := by decide +kernel
theorem dX0_arrive_76 : decode cX0_arrive 76 = .ok (.getfield 144, 3) := by decide +kernel
theorem dX0_arrive_79 : decode cX0_arrive 79 = .ok (.invokevirtual 254, 3) := by decide +kernel
theorem dX0_arrive_82 : decode cX0_arrive 82 = .ok (.return_, 1) := by decide +kernel
theorem dX0_arrive_83 : decode cX0_arrive 83 = .ok (.iload_n 3, 1) := by decide +kernel
theorem dX0_arrive_84 : decode cX0_arrive 84 = .ok (.ifCond .eq 39, 3) := by decide +kernel
theorem dX0_arrive_87 : decode cX0_arrive 87 = .ok (.aload_n 0, 1) := by decide +kernel
theorem dX0_arrive_88 : decode cX0_arrive 88 = .ok (.getfield 19, 3) := by decide +kernel
theorem dX0_arrive_91 : decode cX0_arrive 91 = .ok (.aload_n 1, 1) := by decide +kernel
theorem dX0_arrive_92 : decode cX0_arrive 92 = .ok (.getfield 188, 3) := by decide +kernel
theorem dX0_arrive_95 : decode cX0_arrive 95 = .ok (.aaload, 1) := by decide +kernel
theorem dX0_arrive_96 : decode cX0_arrive 96 = .ok (.aload_n 0, 1) := by decide +kernel
theorem dX0_arrive_97 : decode cX0_arrive 97 = .ok (.getfield 19, 3) := by decide +kernel
theorem dX0_arrive_100 : decode cX0_arrive 100 = .ok (.aload_n 1, 1) := by decide +kernel
theorem dX0_arrive_101 : decode cX0_arrive 101 = .ok (.getfield 188, 3) := by decide +kernel
theorem dX0_arrive_104 : decode cX0_arrive 104 = .ok (.aaload, 1) := by decide +kernel
theorem dX0_arrive_105 : decode cX0_arrive 105 = .ok (.getfield 112, 3) := by decide +kernel
theorem dX0_arrive_108 : decode cX0_arrive 108 = .ok (.ifCond .eq 7, 3) := by decide +kernel
theorem dX0_arrive_111 : decode cX0_arrive 111 = .ok (.iconst 1, 1) := by decide +kernel
theorem dX0_arrive_112 : decode cX0_arrive 112 = .ok (.goto 4, 3) := by decide +kernel
theorem dX0_arrive_115 : decode cX0_arrive 115 = .ok (.iconst 2, 1) := by decide +kernel
theorem dX0_arrive_116 : decode cX0_arrive 116 = .ok (.aload_n 0, 1) := by decide +kernel
theorem dX0_arrive_117 : decode cX0_arrive 117 = .ok (.getfield 144, 3) := by decide +kernel
theorem dX0_arrive_120 : decode cX0_arrive 120 = .ok (.invokevirtual 257, 3) := by decide +kernel
theorem dX0_arrive_123 : decode cX0_arrive 123 = .ok (.aload_n 0, 1) := by decide +kernel
theorem dX0_arrive_124 : decode cX0_arrive 124 = .ok (.aload_n 1, 1) := by decide +kernel
theorem dX0_arrive_125 : decode cX0_arrive 125 = .ok (.invokevirtual 260, 3) := by decide +kernel
theorem dX0_arrive_128 : decode cX0_arrive 128 = .ok (.return_, 1) := by decide +kernel
theorem okX0_arrive : ab_okM MX0_arrive 1 := ⟨by decide, ⟨by decide, by decide⟩, ab_in 1362 (by decide +kernel) (by decide +kernel), ab_in 92 (by decide +kernel) (by decide +kernel), by decide +kernel, by decide⟩
set_option maxHeartbeats 4000000 in
set_option maxRecDepth 100000 in
theorem sX0_arrive_123 (v1 : Nat) (hv1 : isW v1) (x : ab_X) (K : ab_X → Prop)  (d bc bs : Nat) (hdp : 4 ≤ d)  (h : wX0_arrive_123 v1 x K ) : EW MX0_arrive 123 [(0, .ref 66), (1, .ref v1)] [] (aS x) d bc bs (liV K) := by
  unfold wX0_arrive_123 at h
  refine EW_aload_n (pc2 := 124) rfl dX0_arrive_123 0 rfl ?_
  refine EW_aload_n (pc2 := 125) rfl dX0_arrive_124 1 rfl ?_
  refine AW_invV (M' := MX0_turnHome) [.ref v1] (rest := []) mlRX0_260 okX0_turnHome (pc2 := 128) rfl dX0_arrive_125 rfl rfl (Nat.le_of_ble_eq_true rfl) (Nat.le_of_ble_eq_true rfl) (d' := 3) (by omega) q66 ⟨by decide, rfl⟩ (EW_mono (fun _ _ hr => ?_) (sX0_turnHome v1 hv1 x _ _ 0 0 (Nat.le_refl _) h))
  obtain ⟨x8, rfl, rfl, h⟩ := hr
  exact EW_vret rfl dX0_arrive_128 ⟨_, rfl, rfl, h⟩
set_option maxHeartbeats 4000000 in
set_option maxRecDepth 100000 in
theorem sX0_arrive_116 (v1 : Nat) (s0 : Nat) (s1 : Int32) (hv1 : isW v1) (hs0 : isK s0) (x : ab_X) (K : ab_X → Prop)  (d bc bs : Nat) (hdp : 4 ≤ d)  (h : wX0_arrive_116 v1 s0 s1 x K ) : EW MX0_arrive 116 [(0, .ref 66), (1, .ref v1)] [.int s1, .ref s0] (aS x) d bc bs (liV K) := by
  unfold wX0_arrive_116 at h
  refine EW_aload_n (pc2 := 117) rfl dX0_arrive_116 0 rfl ?_
  refine AW_geti ⟨gfRX0_144, rfl⟩ (pc2 := 120) rfl dX0_arrive_117 q66 ?_
  refine AW_invV (M' := MX1_close) [.int s1, .int (x.1 66 12)] (rest := []) mlRX0_257 okX1_close (pc2 := 123) rfl dX0_arrive_120 rfl rfl (Nat.le_of_ble_eq_true rfl) (Nat.le_of_ble_eq_true rfl) (d' := 0) (by omega) (isK.o hs0) ⟨by decide, rfl⟩ (EW_mono (fun _ _ hr => ?_) (sX1_close s0 s1 (x.1 66 12) hs0 x _ _ 0 0 (Nat.le_refl _) h))
  obtain ⟨x9, rfl, rfl, h⟩ := hr
  exact sX0_arrive_123 v1 hv1 x9 K d bc bs hdp h
set_option maxHeartbeats 4000000 in
set_option maxRecDepth 100000 in
theorem sX0_arrive_83 (v1 : Nat) (v3 : Int32) (hv1 : isW v1) (x : ab_X) (K : ab_X → Prop)  (d bc bs : Nat) (hdp : 4 ≤ d)  (h : wX0_arrive_83 v1 v3 x K ) : EW MX0_arrive 83 [(0, .ref 66), (1, .ref v1), (3, .int v3)] [] (aS x) d bc bs (liV K) := by
  unfold wX0_arrive_83 at h
  refine EW_iload_n (pc2 := 84) rfl dX0_arrive_83 2 rfl ?_
  refine EW_if_eq (tgt := 123) (pc2 := 87) rfl dX0_arrive_84 (by decide) (fun q => ?_) (fun q => ?_)
  · replace h := h.1 q
    refine EW_ls [0, 1] rfl ?_
    exact sX0_arrive_123 v1 hv1 x K d bc bs hdp h
  · replace h := h.2 q
    refine EW_aload_n (pc2 := 88) rfl dX0_arrive_87 0 rfl ?_
    refine AW_getr (r := 68) ⟨gfRX0_19, rfl⟩ (pc2 := 91) rfl dX0_arrive_88 q66 rfl ?_
    refine EW_aload_n (pc2 := 92) rfl dX0_arrive_91 1 rfl ?_
    refine AW_geti ⟨gfRX0_188, rfl⟩ (pc2 := 95) rfl dX0_arrive_92 (isW.o hv1) ?_
    obtain ⟨b6, h⟩ := h
    refine AW_aald7 (pc2 := 96) rfl dX0_arrive_95 b6 ?_
    refine EW_aload_n (pc2 := 97) rfl dX0_arrive_96 0 rfl ?_
    refine AW_getr (r := 68) ⟨gfRX0_19, rfl⟩ (pc2 := 100) rfl dX0_arrive_97 q66 rfl ?_
    refine EW_aload_n (pc2 := 101) rfl dX0_arrive_100 1 rfl ?_
    refine AW_geti ⟨gfRX0_188, rfl⟩ (pc2 := 104) rfl dX0_arrive_101 (isW.o hv1) ?_
    obtain ⟨b7, h⟩ := h
    refine AW_aald7 (pc2 := 105) rfl dX0_arrive_104 b7 ?_
    refine AW_geti ⟨gfRX0_112, rfl⟩ (pc2 := 108) rfl dX0_arrive_105 (isK.o (isK_of b7)) ?_
    refine EW_if_eq (tgt := 115) (pc2 := 111) rfl dX0_arrive_108 (by decide) (fun q => ?_) (fun q => ?_)
    · replace h := h.1 q
      refine EW_iconst (pc2 := 116) (v := 2) rfl dX0_arrive_115 (by decide) ?_
      refine EW_ls [0, 1] rfl ?_
      exact sX0_arrive_116 v1 (98 + Int32.toNatClampNeg (x.1 v1 11)) 2 hv1 (isK_of b6) x K d bc bs hdp h
    · replace h := h.2 q
      refine EW_iconst (pc2 := 112) (v := 1) rfl dX0_arrive_111 (by decide) ?_
      refine EW_goto (tgt := 116) dX0_arrive_112 (by decide) ?_
      refine EW_ls [0, 1] rfl ?_
      exact sX0_arrive_116 v1 (98 + Int32.toNatClampNeg (x.1 v1 11)) 1 hv1 (isK_of b6) x K d bc bs hdp h
set_option maxHeartbeats 4000000 in
set_option maxRecDepth 100000 in
theorem sX0_arrive_63 (v1 : Nat) (v2 : Int32) (s0 : Int32) (hv1 : isW v1) (x : ab_X) (K : ab_X → Prop)  (d bc bs : Nat) (hdp : 4 ≤ d)  (h : wX0_arrive_63 v1 v2 s0 x K ) : EW MX0_arrive 63 [(0, .ref 66), (1, .ref v1), (2, .int v2)] [.int s0] (aS x) d bc bs (liV K) := by
  unfold wX0_arrive_63 at h
  refine EW_istore_n (pc2 := 64) rfl dX0_arrive_63 (by decide) [1, 2, 3, 0] [(0, .ref 66), (1, .ref v1), (2, .int v2), (3, .int s0)] rfl ?_
  refine EW_iload_n (pc2 := 65) rfl dX0_arrive_64 3 rfl ?_
  refine EW_if_eq (tgt := 83) (pc2 := 68) rfl dX0_arrive_65 (by decide) (fun q => ?_) (fun q => ?_)
  · replace h := h.1 q
    refine EW_ls [0, 1, 3] rfl ?_
    exact sX0_arrive_83 v1 s0 hv1 x K d bc bs hdp h
  · replace h := h.2 q
    refine EW_iload_n (pc2 := 69) rfl dX0_arrive_68 2 rfl ?_
    refine EW_iconst (pc2 := 70) (v := (-1)) rfl dX0_arrive_69 (by decide) ?_
    refine EW_icmp_eq (tgt := 83) (pc2 := 73) rfl dX0_arrive_70 (by decide) (fun q => ?_) (fun q => ?_)
    · replace h := h.1 q
      refine EW_ls [0, 1, 3] rfl ?_
      exact sX0_arrive_83 v1 s0 hv1 x K d bc bs hdp h
    · replace h := h.2 q
      refine EW_aload_n (pc2 := 74) rfl dX0_arrive_73 1 rfl ?_
      refine EW_iload_n (pc2 := 75) rfl dX0_arrive_74 2 rfl ?_
      refine EW_aload_n (pc2 := 76) rfl dX0_arrive_75 0 rfl ?_
      refine AW_geti ⟨gfRX0_144, rfl⟩ (pc2 := 79) rfl dX0_arrive_76 q66 ?_
      refine AW_invV (M' := MX2_workIn) [.int v2, .int (x.1 66 12)] (rest := []) mlRX0_254 okX2_workIn (pc2 := 82) rfl dX0_arrive_79 rfl rfl (Nat.le_of_ble_eq_true rfl) (Nat.le_of_ble_eq_true rfl) (d' := 0) (by omega) (isW.o hv1) ⟨by decide, rfl⟩ (EW_mono (fun _ _ hr => ?_) (sX2_workIn v1 v2 (x.1 66 12) hv1 x _ _ 0 0 (Nat.le_refl _) h))
      obtain ⟨x5, rfl, rfl, h⟩ := hr
      exact EW_vret rfl dX0_arrive_82 ⟨_, rfl, rfl, h⟩
set_option maxHeartbeats 4000000 in
set_option maxRecDepth 100000 in
theorem sX0_arrive_62 (v1 : Nat) (v2 : Int32) (hv1 : isW v1) (x : ab_X) (K : ab_X → Prop)  (d bc bs : Nat) (hdp : 4 ≤ d)  (h : wX0_arrive_62 v1 v2 x K ) : EW MX0_arrive 62 [(0, .ref 66), (1, .ref v1), (2, .int v2)] [] (aS x) d bc bs (liV K) := by
  unfold wX0_arrive_62 at h
  refine EW_iconst (pc2 := 63) (v := 0) rfl dX0_arrive_62 (by decide) ?_
  exact sX0_arrive_63 v1 v2 0 hv1 x K d bc bs hdp h
set_option maxHeartbeats 4000000 in
set_option maxRecDepth 100000 in
theorem sX0_arrive (v1 : Nat) (hv1 : isW v1) (x : ab_X) (K : ab_X → Prop) (d bc bs : Nat) (hdp : 4 ≤ d) (h : wX0_arrive v1 x K) : EW MX0_arrive 0 [(0, .ref 66), (1, .ref v1)] [] (aS x) d bc bs (liV K) := by
  unfold wX0_arrive at h
  refine EW_aload_n (pc2 := 1) rfl dX0_arrive_0 1 rfl ?_
  refine AW_geti ⟨gfRX0_75, rfl⟩ (pc2 := 4) rfl dX0_arrive_1 (isW.o hv1) ?_
  refine EW_iconst (pc2 := 5) (v := 3) rfl dX0_arrive_4 (by decide) ?_
  refine EW_icmp_ne (tgt := 17) (pc2 := 8) rfl dX0_arrive_5 (by decide) (fun q => ?_) (fun q => ?_)
  · replace h := h.1 q
    refine EW_aload_n (pc2 := 18) rfl dX0_arrive_17 0 rfl ?_
    refine AW_getr (r := 9) ⟨gfRX0_49, rfl⟩ (pc2 := 21) rfl dX0_arrive_18 q66 rfl ?_
    refine EW_aload_n (pc2 := 22) rfl dX0_arrive_21 1 rfl ?_
    refine AW_geti ⟨gfRX0_69, rfl⟩ (pc2 := 25) rfl dX0_arrive_22 (isW.o hv1) ?_
    refine AW_invV (M' := MX10_worstAt) [.int (x.1 v1 9)] (rest := []) mlRX0_115 okX10_worstAt (pc2 := 28) rfl dX0_arrive_25 rfl rfl (Nat.le_of_ble_eq_true rfl) (Nat.le_of_ble_eq_true rfl) (d' := 2) (by omega) q9 ⟨by decide, rfl⟩ (EW_mono (fun _ _ hr => ?_) (sX10_worstAt (x.1 v1 9)  x _ _ 0 0 (Nat.le_refl _) h))
    obtain ⟨r1, rfl, rfl, h⟩ := hr
    refine EW_istore_n (pc2 := 29) rfl dX0_arrive_28 (by decide) [1, 2, 0] [(0, .ref 66), (1, .ref v1), (2, .int r1)] rfl ?_
    refine EW_aload_n (pc2 := 30) rfl dX0_arrive_29 1 rfl ?_
    refine AW_geti ⟨gfRX0_188, rfl⟩ (pc2 := 33) rfl dX0_arrive_30 (isW.o hv1) ?_
    refine EW_aload_n (pc2 := 34) rfl dX0_arrive_33 0 rfl ?_
    refine AW_geti ⟨gfRX0_81, rfl⟩ (pc2 := 37) rfl dX0_arrive_34 q66 ?_
    refine AW_invSN (M' := MX11_below) [.int (x.1 v1 11), .int (x.1 66 5)] (rest := []) mlRX0_59 okX11_below (pc2 := 40) rfl dX0_arrive_37 rfl rfl (Nat.le_of_ble_eq_true rfl) (Nat.le_of_ble_eq_true rfl) (d' := 0) (by omega) (EW_mono (fun _ _ hr => ?_) (sX11_below (x.1 v1 11) (x.1 66 5)  x _ _ 0 0 (Nat.le_refl _) h))
    obtain ⟨r2, rfl, rfl, h⟩ := hr
    refine EW_if_eq (tgt := 62) (pc2 := 43) rfl dX0_arrive_40 (by decide) (fun q => ?_) (fun q => ?_)
    · replace h := h.1 q
      exact sX0_arrive_62 v1 r1 hv1 x K d bc bs hdp h
    · replace h := h.2 q
      refine EW_aload_n (pc2 := 44) rfl dX0_arrive_43 0 rfl ?_
      refine AW_getr (r := 68) ⟨gfRX0_19, rfl⟩ (pc2 := 47) rfl dX0_arrive_44 q66 rfl ?_
      refine EW_aload_n (pc2 := 48) rfl dX0_arrive_47 1 rfl ?_
      refine AW_geti ⟨gfRX0_188, rfl⟩ (pc2 := 51) rfl dX0_arrive_48 (isW.o hv1) ?_
      obtain ⟨b3, h⟩ := h
      refine AW_aald7 (pc2 := 52) rfl dX0_arrive_51 b3 ?_
      refine AW_geti ⟨gfRX0_84, rfl⟩ (pc2 := 55) rfl dX0_arrive_52 (isK.o (isK_of b3)) ?_
      refine EW_if_ne (tgt := 62) (pc2 := 58) rfl dX0_arrive_55 (by decide) (fun q => ?_) (fun q => ?_)
      · replace h := h.1 q
        exact sX0_arrive_62 v1 r1 hv1 x K d bc bs hdp h
      · replace h := h.2 q
        refine EW_iconst (pc2 := 59) (v := 1) rfl dX0_arrive_58 (by decide) ?_
        refine EW_goto (tgt := 63) dX0_arrive_59 (by decide) ?_
        exact sX0_arrive_63 v1 r1 1 hv1 x K d bc bs hdp h
  · replace h := h.2 q
    refine EW_aload_n (pc2 := 9) rfl dX0_arrive_8 1 rfl ?_
    refine EW_aload_n (pc2 := 10) rfl dX0_arrive_9 1 rfl ?_
    refine AW_geti ⟨gfRX0_69, rfl⟩ (pc2 := 13) rfl dX0_arrive_10 (isW.o hv1) ?_
    refine AW_invV (M' := MX2_rest) [.int (x.1 v1 9)] (rest := []) mlRX0_217 okX2_rest (pc2 := 16) rfl dX0_arrive_13 rfl rfl (Nat.le_of_ble_eq_true rfl) (Nat.le_of_ble_eq_true rfl) (d' := 1) (by omega) (isW.o hv1) ⟨by decide, rfl⟩ (EW_mono (fun _ _ hr => ?_) (sX2_rest v1 (x.1 v1 9) hv1 x _ _ 0 0 (Nat.le_refl _) h))
    obtain ⟨x4, rfl, rfl, h⟩ := hr
    exact EW_vret rfl dX0_arrive_16 ⟨_, rfl, rfl, h⟩
abbrev MX0_hasWorker : ab_M := (yX0_hasWorker, cX0_hasWorker, 3, (some .boolean))
theorem dX0_hasWorker_0 : decode cX0_hasWorker 0 = .ok (.iconst 0, 1) := by decide +kernel
theorem dX0_hasWorker_1 : decode cX0_hasWorker 1 = .ok (.istore_n 2, 1) := by decide +kernel
theorem dX0_hasWorker_2 : decode cX0_hasWorker 2 = .ok (.iload_n 2, 1) := by decide +kernel
theorem dX0_hasWorker_3 : decode cX0_hasWorker 3 = .ok (.aload_n 0, 1) := by decide +kernel
theorem dX0_hasWorker_4 : decode cX0_hasWorker 4 = .ok (.getfield 55, 3) := by decide +kernel
theorem dX0_hasWorker_7 : decode cX0_hasWorker 7 = .ok (.if_icmp .ge 37, 3) := by decide +kernel
theorem dX0_hasWorker_10 : decode cX0_hasWorker 10 = .ok (.aload_n 0, 1) := by decide +kernel
theorem dX0_hasWorker_11 : decode cX0_hasWorker 11 = .ok (.getfield 11, 3) := by decide +kernel
theorem dX0_hasWorker_14 : decode cX0_hasWorker 14 = .ok (.iload_n 2, 1) := by decide +kernel
theorem dX0_hasWorker_15 : decode cX0_hasWorker 15 = .ok (.aaload, 1) := by decide +kernel
theorem dX0_hasWorker_16 : decode cX0_hasWorker 16 = .ok (.getfield 75, 3) := by decide +kernel
theorem dX0_hasWorker_19 : decode cX0_hasWorker 19 = .ok (.iconst 2, 1) := by decide +kernel
theorem dX0_hasWorker_20 : decode cX0_hasWorker 20 = .ok (.if_icmp .ne 18, 3) := by decide +kernel
theorem dX0_hasWorker_23 : decode cX0_hasWorker 23 = .ok (.aload_n 0, 1) := by decide +kernel
theorem dX0_hasWorker_24 : decode cX0_hasWorker 24 = .ok (.getfield 11, 3) := by decide +kernel
theorem dX0_hasWorker_27 : decode cX0_hasWorker 27 = .ok (.iload_n 2, 1) := by decide +kernel
theorem dX0_hasWorker_28 : decode cX0_hasWorker 28 = .ok (.aaload, 1) := by decide +kernel
theorem dX0_hasWorker_29 : decode cX0_hasWorker 29 = .ok (.getfield 69, 3) := by decide +kernel
theorem dX0_hasWorker_32 : decode cX0_hasWorker 32 = .ok (.iload_n 1, 1) := by decide +kernel
theorem dX0_hasWorker_33 : decode cX0_hasWorker 33 = .ok (.if_icmp .ne 5, 3) := by decide +kernel
theorem dX0_hasWorker_36 : decode cX0_hasWorker 36 = .ok (.iconst 1, 1) := by decide +kernel
theorem dX0_hasWorker_37 : decode cX0_hasWorker 37 = .ok (.ireturn, 1) := by decide +kernel
theorem dX0_hasWorker_38 : decode cX0_hasWorker 38 = .ok (.iinc 2 1, 3) := by decide +kernel
theorem dX0_hasWorker_41 : decode cX0_hasWorker 41 = .ok (.goto (-39), 3) := by decide +kernel
theorem dX0_hasWorker_44 : decode cX0_hasWorker 44 = .ok (.iconst 0, 1) := by decide +kernel
theorem dX0_hasWorker_45 : decode cX0_hasWorker 45 = .ok (.ireturn, 1) := by decide +kernel
theorem okX0_hasWorker : ab_okM MX0_hasWorker 1 := ⟨by decide, ⟨by decide, by decide⟩, ab_in 1499 (by decide +kernel) (by decide +kernel), ab_in 92 (by decide +kernel) (by decide +kernel), by decide +kernel, by decide⟩
set_option maxHeartbeats 4000000 in
set_option maxRecDepth 100000 in
theorem sX0_hasWorker_2 (v1 : Int32) (v2 : Int32)  (x : ab_X) (K : Int32 → Prop)  (d bc bs : Nat) (hdp : 0 ≤ d)  (h : Lp1 (lX0_hasWorker_2 v1 x K ) v2) : EW MX0_hasWorker 2 [(0, .ref 66), (1, .int v1), (2, .int v2)] [] (aS x) d bc bs (liP x K) := by
  refine Lp1.use (P := fun v2 => EW MX0_hasWorker 2 [(0, .ref 66), (1, .int v1), (2, .int v2)] [] (aS x) d bc bs (liP x K)) (fun L2 v2 hL2 h => ?_) v2 h
  unfold lX0_hasWorker_2 at h
  refine EW_iload_n (pc2 := 3) rfl dX0_hasWorker_2 2 rfl ?_
  refine EW_aload_n (pc2 := 4) rfl dX0_hasWorker_3 0 rfl ?_
  refine AW_geti ⟨gfRX0_55, rfl⟩ (pc2 := 7) rfl dX0_hasWorker_4 q66 ?_
  refine EW_icmp_ge (tgt := 44) (pc2 := 10) rfl dX0_hasWorker_7 (by decide) (fun q => ?_) (fun q => ?_)
  · replace h := h.1 q
    refine EW_iconst (pc2 := 45) (v := 0) rfl dX0_hasWorker_44 (by decide) ?_
    exact AW_zret rfl isB0 dX0_hasWorker_45 ⟨_, rfl, rfl, h⟩
  · replace h := h.2 q
    refine EW_aload_n (pc2 := 11) rfl dX0_hasWorker_10 0 rfl ?_
    refine AW_getr (r := 67) ⟨gfRX0_11, rfl⟩ (pc2 := 14) rfl dX0_hasWorker_11 q66 rfl ?_
    refine EW_iload_n (pc2 := 15) rfl dX0_hasWorker_14 2 rfl ?_
    obtain ⟨b1, h⟩ := h
    refine AW_aald6 (pc2 := 16) rfl dX0_hasWorker_15 b1 ?_
    refine AW_geti ⟨gfRX0_75, rfl⟩ (pc2 := 19) rfl dX0_hasWorker_16 (isW.o (isW_of b1)) ?_
    refine EW_iconst (pc2 := 20) (v := 2) rfl dX0_hasWorker_19 (by decide) ?_
    refine EW_icmp_ne (tgt := 38) (pc2 := 23) rfl dX0_hasWorker_20 (by decide) (fun q => ?_) (fun q => ?_)
    · replace h := h.1 q
      refine EW_iinc (v2 + 1) (pc2 := 41) rfl dX0_hasWorker_38 2 rfl rfl (by decide) [1, 2, 0] [(0, .ref 66), (1, .int v1), (2, .int (v2 + 1))] rfl ?_
      refine EW_goto (tgt := 2) dX0_hasWorker_41 (by decide) ?_
      exact hL2 (v2 + 1) h
    · replace h := h.2 q
      refine EW_aload_n (pc2 := 24) rfl dX0_hasWorker_23 0 rfl ?_
      refine AW_getr (r := 67) ⟨gfRX0_11, rfl⟩ (pc2 := 27) rfl dX0_hasWorker_24 q66 rfl ?_
      refine EW_iload_n (pc2 := 28) rfl dX0_hasWorker_27 2 rfl ?_
      obtain ⟨b2, h⟩ := h
      refine AW_aald6 (pc2 := 29) rfl dX0_hasWorker_28 b2 ?_
      refine AW_geti ⟨gfRX0_69, rfl⟩ (pc2 := 32) rfl dX0_hasWorker_29 (isW.o (isW_of b2)) ?_
      refine EW_iload_n (pc2 := 33) rfl dX0_hasWorker_32 1 rfl ?_
      refine EW_icmp_ne (tgt := 38) (pc2 := 36) rfl dX0_hasWorker_33 (by decide) (fun q => ?_) (fun q => ?_)
      · replace h := h.1 q
        refine EW_iinc (v2 + 1) (pc2 := 41) rfl dX0_hasWorker_38 2 rfl rfl (by decide) [1, 2, 0] [(0, .ref 66), (1, .int v1), (2, .int (v2 + 1))] rfl ?_
        refine EW_goto (tgt := 2) dX0_hasWorker_41 (by decide) ?_
        exact hL2 (v2 + 1) h
      · replace h := h.2 q
        refine EW_iconst (pc2 := 37) (v := 1) rfl dX0_hasWorker_36 (by decide) ?_
        exact AW_zret rfl isB1 dX0_hasWorker_37 ⟨_, rfl, rfl, h⟩
set_option maxHeartbeats 4000000 in
set_option maxRecDepth 100000 in
theorem sX0_hasWorker (v1 : Int32)  (x : ab_X) (K : Int32 → Prop) (d bc bs : Nat) (hdp : 0 ≤ d) (h : wX0_hasWorker v1 x K) : EW MX0_hasWorker 0 [(0, .ref 66), (1, .int v1)] [] (aS x) d bc bs (liP x K) := by
  unfold wX0_hasWorker at h
  refine EW_iconst (pc2 := 1) (v := 0) rfl dX0_hasWorker_0 (by decide) ?_
  refine EW_istore_n (pc2 := 2) rfl dX0_hasWorker_1 (by decide) [1, 2, 0] [(0, .ref 66), (1, .int v1), (2, .int 0)] rfl ?_
  exact sX0_hasWorker_2 v1 0 x K d bc bs hdp h
theorem mlRX0_396 : Cond.methodLink RX0 396 yX0_hasWorker ∈ ab_G ∧ Cond.instanceMethod yX0_hasWorker ∈ ab_G ∧ Cond.selects RX0 yX0_hasWorker yX0_hasWorker ∈ ab_G := ⟨ab_in 1496 (by decide +kernel) (by decide +kernel), ab_in 1497 (by decide +kernel) (by decide +kernel), ab_in 1498 (by decide +kernel) (by decide +kernel)⟩
abbrev MX0_closeOut : ab_M := (yX0_closeOut, cX0_closeOut, 3, none)
theorem dX0_closeOut_0 : decode cX0_closeOut 0 = .ok (.iconst 0, 1) := by decide +kernel
theorem dX0_closeOut_1 : decode cX0_closeOut 1 = .ok (.istore_n 1, 1) := by decide +kernel
theorem dX0_closeOut_2 : decode cX0_closeOut 2 = .ok (.iload_n 1, 1) := by decide +kernel
theorem dX0_closeOut_3 : decode cX0_closeOut 3 = .ok (.aload_n 0, 1) := by decide +kernel
theorem dX0_closeOut_4 : decode cX0_closeOut 4 = .ok (.getfield 81, 3) := by decide +kernel
theorem dX0_closeOut_7 : decode cX0_closeOut 7 = .ok (.if_icmp .ge 58, 3) := by decide +kernel
theorem dX0_closeOut_10 : decode cX0_closeOut 10 = .ok (.aload_n 0, 1) := by decide +kernel
theorem dX0_closeOut_11 : decode cX0_closeOut 11 = .ok (.getfield 19, 3) := by decide +kernel
theorem dX0_closeOut_14 : decode cX0_closeOut 14 = .ok (.iload_n 1, 1) := by decide +kernel
theorem dX0_closeOut_15 : decode cX0_closeOut 15 = .ok (.aaload, 1) := by decide +kernel
theorem dX0_closeOut_16 : decode cX0_closeOut 16 = .ok (.astore_n 2, 1) := by decide +kernel
theorem dX0_closeOut_17 : decode cX0_closeOut 17 = .ok (.aload_n 2, 1) := by decide +kernel
theorem dX0_closeOut_18 : decode cX0_closeOut 18 = .ok (.getfield 84, 3) := by decide +kernel
theorem dX0_closeOut_21 : decode cX0_closeOut 21 = .ok (.ifCond .ne 38, 3) := by decide +kernel
theorem dX0_closeOut_24 : decode cX0_closeOut 24 = .ok (.aload_n 0, 1) := by decide +kernel
theorem dX0_closeOut_25 : decode cX0_closeOut 25 = .ok (.aload_n 2, 1) := by decide +kernel
theorem dX0_closeOut_26 : decode cX0_closeOut 26 = .ok (.getfield 88, 3) := by decide +kernel
theorem dX0_closeOut_29 : decode cX0_closeOut 29 = .ok (.invokevirtual 396, 3) := by decide +kernel
theorem dX0_closeOut_32 : decode cX0_closeOut 32 = .ok (.ifCond .eq 27, 3) := by decide +kernel
theorem dX0_closeOut_35 : decode cX0_closeOut 35 = .ok (.aload_n 0, 1) := by decide +kernel
theorem dX0_closeOut_36 : decode cX0_closeOut 36 = .ok (.getfield 49, 3) := by decide +kernel
theorem dX0_closeOut_39 : decode cX0_closeOut 39 = .ok (.aload_n 2, 1) := by decide +kernel
theorem dX0_closeOut_40 : decode cX0_closeOut 40 = .ok (.getfield 88, 3) := by decide +kernel
theorem dX0_closeOut_43 : decode cX0_closeOut 43 = .ok (.invokevirtual 115, 3) := by decide +kernel
theorem dX0_closeOut_46 : decode cX0_closeOut 46 = .ok (.iconst (-1), 1) := by decide +kernel
theorem dX0_closeOut_47 : decode cX0_closeOut 47 = .ok (.if_icmp .ne 12, 3) := by decide +kernel
theorem dX0_closeOut_50 : decode cX0_closeOut 50 = .ok (.aload_n 2, 1) := by decide +kernel
theorem dX0_closeOut_51 : decode cX0_closeOut 51 = .ok (.iconst 1, 1) := by decide +kernel
theorem dX0_closeOut_52 : decode cX0_closeOut 52 = .ok (.aload_n 0, 1) := by decide +kernel
theorem dX0_closeOut_53 : decode cX0_closeOut 53 = .ok (.getfield 144, 3) := by decide +kernel
theorem dX0_closeOut_56 : decode cX0_closeOut 56 = .ok (.invokevirtual 257, 3) := by decide +kernel
theorem dX0_closeOut_59 : decode cX0_closeOut 59 = .ok (.iinc 1 1, 3) := by decide +kernel
theorem dX0_closeOut_62 : decode cX0_closeOut 62 = .ok (.goto (-60), 3) := by decide +kernel
theorem dX0_closeOut_65 : decode cX0_closeOut 65 = .ok (.return_, 1) := by decide +kernel
theorem okX0_closeOut : ab_okM MX0_closeOut 0 := ⟨by decide, ⟨by decide, by decide⟩, ab_in 1495 (by decide +kernel) (by decide +kernel), ab_in 92 (by decide +kernel) (by decide +kernel), by decide +kernel, by decide⟩
set_option maxHeartbeats 4000000 in
set_option maxRecDepth 100000 in
theorem sX0_closeOut_2 (v1 : Int32)  (x : ab_X) (K : ab_X → Prop)  (d bc bs : Nat) (hdp : 3 ≤ d)  (h : Lp2 (lX0_closeOut_2  K ) v1 x) : EW MX0_closeOut 2 [(0, .ref 66), (1, .int v1)] [] (aS x) d bc bs (liV K) := by
  refine Lp2.use (P := fun v1 x => EW MX0_closeOut 2 [(0, .ref 66), (1, .int v1)] [] (aS x) d bc bs (liV K)) (fun L2 v1 x hL2 h => ?_) v1 x h
  unfold lX0_closeOut_2 at h
  refine EW_iload_n (pc2 := 3) rfl dX0_closeOut_2 1 rfl ?_
  refine EW_aload_n (pc2 := 4) rfl dX0_closeOut_3 0 rfl ?_
  refine AW_geti ⟨gfRX0_81, rfl⟩ (pc2 := 7) rfl dX0_closeOut_4 q66 ?_
  refine EW_icmp_ge (tgt := 65) (pc2 := 10) rfl dX0_closeOut_7 (by decide) (fun q => ?_) (fun q => ?_)
  · replace h := h.1 q
    exact EW_vret rfl dX0_closeOut_65 ⟨_, rfl, rfl, h⟩
  · replace h := h.2 q
    refine EW_aload_n (pc2 := 11) rfl dX0_closeOut_10 0 rfl ?_
    refine AW_getr (r := 68) ⟨gfRX0_19, rfl⟩ (pc2 := 14) rfl dX0_closeOut_11 q66 rfl ?_
    refine EW_iload_n (pc2 := 15) rfl dX0_closeOut_14 1 rfl ?_
    obtain ⟨b1, h⟩ := h
    refine AW_aald7 (pc2 := 16) rfl dX0_closeOut_15 b1 ?_
    refine EW_astore_n (pc2 := 17) rfl dX0_closeOut_16 (by decide) [1, 2, 0] [(0, .ref 66), (1, .int v1), (2, .ref (98 + Int32.toNatClampNeg v1))] rfl ?_
    refine EW_aload_n (pc2 := 18) rfl dX0_closeOut_17 2 rfl ?_
    refine AW_geti ⟨gfRX0_84, rfl⟩ (pc2 := 21) rfl dX0_closeOut_18 (isK.o (isK_of b1)) ?_
    refine EW_if_ne (tgt := 59) (pc2 := 24) rfl dX0_closeOut_21 (by decide) (fun q => ?_) (fun q => ?_)
    · replace h := h.1 q
      refine EW_iinc (v1 + 1) (pc2 := 62) rfl dX0_closeOut_59 1 rfl rfl (by decide) [1, 0, 2] [(0, .ref 66), (1, .int (v1 + 1)), (2, .ref (98 + Int32.toNatClampNeg v1))] rfl ?_
      refine EW_goto (tgt := 2) dX0_closeOut_62 (by decide) ?_
      refine EW_ls [0, 1] rfl ?_
      exact hL2 (v1 + 1) x h
    · replace h := h.2 q
      refine EW_aload_n (pc2 := 25) rfl dX0_closeOut_24 0 rfl ?_
      refine EW_aload_n (pc2 := 26) rfl dX0_closeOut_25 2 rfl ?_
      refine AW_geti ⟨gfRX0_88, rfl⟩ (pc2 := 29) rfl dX0_closeOut_26 (isK.o (isK_of b1)) ?_
      refine AW_invV (M' := MX0_hasWorker) [.int (x.1 (98 + Int32.toNatClampNeg v1) 0)] (rest := []) mlRX0_396 okX0_hasWorker (pc2 := 32) rfl dX0_closeOut_29 rfl rfl (Nat.le_of_ble_eq_true rfl) (Nat.le_of_ble_eq_true rfl) (d' := 0) (by omega) q66 ⟨by decide, rfl⟩ (EW_mono (fun _ _ hr => ?_) (sX0_hasWorker (x.1 (98 + Int32.toNatClampNeg v1) 0)  x _ _ 0 0 (Nat.le_refl _) h))
      obtain ⟨r2, rfl, rfl, h⟩ := hr
      refine EW_if_eq (tgt := 59) (pc2 := 35) rfl dX0_closeOut_32 (by decide) (fun q => ?_) (fun q => ?_)
      · replace h := h.1 q
        refine EW_iinc (v1 + 1) (pc2 := 62) rfl dX0_closeOut_59 1 rfl rfl (by decide) [1, 0, 2] [(0, .ref 66), (1, .int (v1 + 1)), (2, .ref (98 + Int32.toNatClampNeg v1))] rfl ?_
        refine EW_goto (tgt := 2) dX0_closeOut_62 (by decide) ?_
        refine EW_ls [0, 1] rfl ?_
        exact hL2 (v1 + 1) x h
      · replace h := h.2 q
        refine EW_aload_n (pc2 := 36) rfl dX0_closeOut_35 0 rfl ?_
        refine AW_getr (r := 9) ⟨gfRX0_49, rfl⟩ (pc2 := 39) rfl dX0_closeOut_36 q66 rfl ?_
        refine EW_aload_n (pc2 := 40) rfl dX0_closeOut_39 2 rfl ?_
        refine AW_geti ⟨gfRX0_88, rfl⟩ (pc2 := 43) rfl dX0_closeOut_40 (isK.o (isK_of b1)) ?_
        refine AW_invV (M' := MX10_worstAt) [.int (x.1 (98 + Int32.toNatClampNeg v1) 0)] (rest := []) mlRX0_115 okX10_worstAt (pc2 := 46) rfl dX0_closeOut_43 rfl rfl (Nat.le_of_ble_eq_true rfl) (Nat.le_of_ble_eq_true rfl) (d' := 2) (by omega) q9 ⟨by decide, rfl⟩ (EW_mono (fun _ _ hr => ?_) (sX10_worstAt (x.1 (98 + Int32.toNatClampNeg v1) 0)  x _ _ 0 0 (Nat.le_refl _) h))
        obtain ⟨r3, rfl, rfl, h⟩ := hr
        refine EW_iconst (pc2 := 47) (v := (-1)) rfl dX0_closeOut_46 (by decide) ?_
        refine EW_icmp_ne (tgt := 59) (pc2 := 50) rfl dX0_closeOut_47 (by decide) (fun q => ?_) (fun q => ?_)
        · replace h := h.1 q
          refine EW_iinc (v1 + 1) (pc2 := 62) rfl dX0_closeOut_59 1 rfl rfl (by decide) [1, 0, 2] [(0, .ref 66), (1, .int (v1 + 1)), (2, .ref (98 + Int32.toNatClampNeg v1))] rfl ?_
          refine EW_goto (tgt := 2) dX0_closeOut_62 (by decide) ?_
          refine EW_ls [0, 1] rfl ?_
          exact hL2 (v1 + 1) x h
        · replace h := h.2 q
          refine EW_aload_n (pc2 := 51) rfl dX0_closeOut_50 2 rfl ?_
          refine EW_iconst (pc2 := 52) (v := 1) rfl dX0_closeOut_51 (by decide) ?_
          refine EW_aload_n (pc2 := 53) rfl dX0_closeOut_52 0 rfl ?_
          refine AW_geti ⟨gfRX0_144, rfl⟩ (pc2 := 56) rfl dX0_closeOut_53 q66 ?_
          refine AW_invV (M' := MX1_close) [.int 1, .int (x.1 66 12)] (rest := []) mlRX0_257 okX1_close (pc2 := 59) rfl dX0_closeOut_56 rfl rfl (Nat.le_of_ble_eq_true rfl) (Nat.le_of_ble_eq_true rfl) (d' := 0) (by omega) (isK.o (isK_of b1)) ⟨by decide, rfl⟩ (EW_mono (fun _ _ hr => ?_) (sX1_close (98 + Int32.toNatClampNeg v1) 1 (x.1 66 12) (isK_of b1) x _ _ 0 0 (Nat.le_refl _) h))
          obtain ⟨x4, rfl, rfl, h⟩ := hr
          refine EW_iinc (v1 + 1) (pc2 := 62) rfl dX0_closeOut_59 1 rfl rfl (by decide) [1, 0, 2] [(0, .ref 66), (1, .int (v1 + 1)), (2, .ref (98 + Int32.toNatClampNeg v1))] rfl ?_
          refine EW_goto (tgt := 2) dX0_closeOut_62 (by decide) ?_
          refine EW_ls [0, 1] rfl ?_
          exact hL2 (v1 + 1) x4 h
set_option maxHeartbeats 4000000 in
set_option maxRecDepth 100000 in
theorem sX0_closeOut   (x : ab_X) (K : ab_X → Prop) (d bc bs : Nat) (hdp : 3 ≤ d) (h : wX0_closeOut  x K) : EW MX0_closeOut 0 [(0, .ref 66)] [] (aS x) d bc bs (liV K) := by
  unfold wX0_closeOut at h
  refine EW_iconst (pc2 := 1) (v := 0) rfl dX0_closeOut_0 (by decide) ?_
  refine EW_istore_n (pc2 := 2) rfl dX0_closeOut_1 (by decide) [1, 0] [(0, .ref 66), (1, .int 0)] rfl ?_
  exact sX0_closeOut_2 0 x K d bc bs hdp h
abbrev MX10_has : ab_M := (yX10_has, cX10_has, 2, (some .boolean))
theorem dX10_has_0 : decode cX10_has 0 = .ok (.iload_n 1, 1) := by decide +kernel
theorem dX10_has_1 : decode cX10_has 1 = .ok (.aload_n 0, 1) := by decide +kernel
theorem dX10_has_2 : decode cX10_has 2 = .ok (.getfield 44, 3) := by decide +kernel
theorem dX10_has_5 : decode cX10_has 5 = .ok (.invokestatic 48, 3) := by decide +kernel
theorem dX10_has_8 : decode cX10_has 8 = .ok (.ireturn, 1) := by decide +kernel
theorem okX10_has : ab_okM MX10_has 1 := ⟨by decide, ⟨by decide, by decide⟩, ab_in 836 (by decide +kernel) (by decide +kernel), ab_in 89 (by decide +kernel) (by decide +kernel), by decide +kernel, by decide⟩
set_option maxHeartbeats 4000000 in
set_option maxRecDepth 100000 in
theorem sX10_has (v1 : Int32)  (x : ab_X) (K : Int32 → Prop) (d bc bs : Nat) (hdp : 1 ≤ d) (h : wX10_has v1 x K) : EW MX10_has 0 [(0, .ref 9), (1, .int v1)] [] (aS x) d bc bs (liP x K) := by
  unfold wX10_has at h
  refine EW_iload_n (pc2 := 1) rfl dX10_has_0 1 rfl ?_
  refine EW_aload_n (pc2 := 2) rfl dX10_has_1 0 rfl ?_
  refine AW_geti ⟨gfRX10_44, rfl⟩ (pc2 := 5) rfl dX10_has_2 q9 ?_
  refine AW_invSN (M' := MX11_below) [.int v1, .int (x.1 9 2)] (rest := []) mlRX10_48 okX11_below (pc2 := 8) rfl dX10_has_5 rfl rfl (Nat.le_of_ble_eq_true rfl) (Nat.le_of_ble_eq_true rfl) (d' := 0) (by omega) (EW_mono (fun _ _ hr => ?_) (sX11_below v1 (x.1 9 2)  x _ _ 0 0 (Nat.le_refl _) h))
  obtain ⟨r1, rfl, rfl, h⟩ := hr
  obtain ⟨z2, h⟩ := h
  exact AW_zret rfl z2 dX10_has_8 ⟨_, rfl, rfl, h⟩
theorem mlRX0_263 : Cond.methodLink RX0 263 yX10_has ∈ ab_G ∧ Cond.instanceMethod yX10_has ∈ ab_G ∧ Cond.selects RX10 yX10_has yX10_has ∈ ab_G := ⟨ab_in 1376 (by decide +kernel) (by decide +kernel), ab_in 834 (by decide +kernel) (by decide +kernel), ab_in 835 (by decide +kernel) (by decide +kernel)⟩
abbrev MX0_goOver : ab_M := (yX0_goOver, cX0_goOver, 4, none)
theorem dX0_goOver_0 : decode cX0_goOver 0 = .ok (.iconst 0, 1) := by decide +kernel
theorem dX0_goOver_1 : decode cX0_goOver 1 = .ok (.istore_n 1, 1) := by decide +kernel
theorem dX0_goOver_2 : decode cX0_goOver 2 = .ok (.iload_n 1, 1) := by decide +kernel
theorem dX0_goOver_3 : decode cX0_goOver 3 = .ok (.aload_n 0, 1) := by decide +kernel
theorem dX0_goOver_4 : decode cX0_goOver 4 = .ok (.getfield 55, 3) := by decide +kernel
theorem dX0_goOver_7 : decode cX0_goOver 7 = .ok (.if_icmp .ge 95, 3) := by decide +kernel
theorem dX0_goOver_10 : decode cX0_goOver 10 = .ok (.aload_n 0, 1) := by decide +kernel
theorem dX0_goOver_11 : decode cX0_goOver 11 = .ok (.getfield 11, 3) := by decide +kernel
theorem dX0_goOver_14 : decode cX0_goOver 14 = .ok (.iload_n 1, 1) := by decide +kernel
theorem dX0_goOver_15 : decode cX0_goOver 15 = .ok (.aaload, 1) := by decide +kernel
theorem dX0_goOver_16 : decode cX0_goOver 16 = .ok (.astore_n 2, 1) := by decide +kernel
theorem dX0_goOver_17 : decode cX0_goOver 17 = .ok (.aload_n 2, 1) := by decide +kernel
theorem dX0_goOver_18 : decode cX0_goOver 18 = .ok (.getfield 75, 3) := by decide +kernel
theorem dX0_goOver_21 : decode cX0_goOver 21 = .ok (.iconst 2, 1) := by decide +kernel
theorem dX0_goOver_22 : decode cX0_goOver 22 = .ok (.if_icmp .ne 74, 3) := by decide +kernel
theorem dX0_goOver_25 : decode cX0_goOver 25 = .ok (.aload_n 0, 1) := by decide +kernel
theorem dX0_goOver_26 : decode cX0_goOver 26 = .ok (.getfield 49, 3) := by decide +kernel
theorem dX0_goOver_29 : decode cX0_goOver 29 = .ok (.aload_n 2, 1) := by decide +kernel
theorem dX0_goOver_30 : decode cX0_goOver 30 = .ok (.getfield 78, 3) := by decide +kernel
theorem dX0_goOver_33 : decode cX0_goOver 33 = .ok (.invokevirtual 263, 3) := by decide +kernel
theorem dX0_goOver_36 : decode cX0_goOver 36 = .ok (.ifCond .ne 6, 3) := by decide +kernel
theorem dX0_goOver_39 : decode cX0_goOver 39 = .ok (.goto 57, 3) := by decide +kernel
theorem dX0_goOver_42 : decode cX0_goOver 42 = .ok (.aload_n 0, 1) := by decide +kernel
theorem dX0_goOver_43 : decode cX0_goOver 43 = .ok (.getfield 49, 3) := by decide +kernel
theorem dX0_goOver_46 : decode cX0_goOver 46 = .ok (.getfield 100, 3) := by decide +kernel
theorem dX0_goOver_49 : decode cX0_goOver 49 = .ok (.aload_n 0, 1) := by decide +kernel
theorem dX0_goOver_50 : decode cX0_goOver 50 = .ok (.getfield 49, 3) := by decide +kernel
theorem dX0_goOver_53 : decode cX0_goOver 53 = .ok (.getfield 148, 3) := by decide +kernel
theorem dX0_goOver_56 : decode cX0_goOver 56 = .ok (.aload_n 2, 1) := by decide +kernel
theorem dX0_goOver_57 : decode cX0_goOver 57 = .ok (.getfield 78, 3) := by decide +kernel
theorem dX0_goOver_60 : decode cX0_goOver 60 = .ok (.aaload, 1) := by decide +kernel
theorem dX0_goOver_61 : decode cX0_goOver 61 = .ok (.invokevirtual 266, 3) := by decide +kernel
theorem dX0_goOver_64 : decode cX0_goOver 64 = .ok (.ifCond .ne 32, 3) := by decide +kernel
theorem dX0_goOver_67 : decode cX0_goOver 67 = .ok (.aload_n 0, 1) := by decide +kernel
theorem dX0_goOver_68 : decode cX0_goOver 68 = .ok (.getfield 49, 3) := by decide +kernel
theorem dX0_goOver_71 : decode cX0_goOver 71 = .ok (.aload_n 2, 1) := by decide +kernel
theorem dX0_goOver_72 : decode cX0_goOver 72 = .ok (.getfield 69, 3) := by decide +kernel
theorem dX0_goOver_75 : decode cX0_goOver 75 = .ok (.invokevirtual 115, 3) := by decide +kernel
theorem dX0_goOver_78 : decode cX0_goOver 78 = .ok (.istore_n 3, 1) := by decide +kernel
theorem dX0_goOver_79 : decode cX0_goOver 79 = .ok (.aload_n 2, 1) := by decide +kernel
theorem dX0_goOver_80 : decode cX0_goOver 80 = .ok (.iload_n 3, 1) := by decide +kernel
theorem dX0_goOver_81 : decode cX0_goOver 81 = .ok (.iconst (-1), 1) := by decide +kernel
theorem dX0_goOver_82 : decode cX0_goOver 82 = .ok (.if_icmp .ne 10, 3) := by decide +kernel
theorem dX0_goOver_85 : decode cX0_goOver 85 = .ok (.aload_n 2, 1) := by decide +kernel
theorem dX0_goOver_86 : decode cX0_goOver 86 = .ok (.getfield 78, 3) := by decide +kernel
theorem dX0_goOver_89 : decode cX0_goOver 89 = .ok (.goto 4, 3) := by decide +kernel
theorem dX0_goOver_92 : decode cX0_goOver 92 = .ok (.iload_n 3, 1) := by decide +kernel
theorem dX0_goOver_93 : decode cX0_goOver 93 = .ok (.putfield 78, 3) := by decide +kernel
theorem dX0_goOver_96 : decode cX0_goOver 96 = .ok (.iinc 1 1, 3) := by decide +kernel
theorem dX0_goOver_99 : decode cX0_goOver 99 = .ok (.goto (-97), 3) := by decide +kernel
theorem dX0_goOver_102 : decode cX0_goOver 102 = .ok (.return_, 1) := by decide +kernel
theorem okX0_goOver : ab_okM MX0_goOver 0 := ⟨by decide, ⟨by decide, by decide⟩, ab_in 1375 (by decide +kernel) (by decide +kernel), ab_in 92 (by decide +kernel) (by decide +kernel), by decide +kernel, by decide⟩
set_option maxHeartbeats 4000000 in
set_option maxRecDepth 100000 in
theorem sX0_goOver_2 (v1 : Int32)  (x : ab_X) (K : ab_X → Prop)  (d bc bs : Nat) (hdp : 3 ≤ d)  (h : Lp2 (lX0_goOver_2  K ) v1 x) : EW MX0_goOver 2 [(0, .ref 66), (1, .int v1)] [] (aS x) d bc bs (liV K) := by
  refine Lp2.use (P := fun v1 x => EW MX0_goOver 2 [(0, .ref 66), (1, .int v1)] [] (aS x) d bc bs (liV K)) (fun L2 v1 x hL2 h => ?_) v1 x h
  unfold lX0_goOver_2 at h
  refine EW_iload_n (pc2 := 3) rfl dX0_goOver_2 1 rfl ?_
  refine EW_aload_n (pc2 := 4) rfl dX0_goOver_3 0 rfl ?_
  refine AW_geti ⟨gfRX0_55, rfl⟩ (pc2 := 7) rfl dX0_goOver_4 q66 ?_
  refine EW_icmp_ge (tgt := 102) (pc2 := 10) rfl dX0_goOver_7 (by decide) (fun q => ?_) (fun q => ?_)
  · replace h := h.1 q
    exact EW_vret rfl dX0_goOver_102 ⟨_, rfl, rfl, h⟩
  · replace h := h.2 q
    refine EW_aload_n (pc2 := 11) rfl dX0_goOver_10 0 rfl ?_
    refine AW_getr (r := 67) ⟨gfRX0_11, rfl⟩ (pc2 := 14) rfl dX0_goOver_11 q66 rfl ?_
    refine EW_iload_n (pc2 := 15) rfl dX0_goOver_14 1 rfl ?_
    obtain ⟨b1, h⟩ := h
    refine AW_aald6 (pc2 := 16) rfl dX0_goOver_15 b1 ?_
    refine EW_astore_n (pc2 := 17) rfl dX0_goOver_16 (by decide) [1, 2, 0] [(0, .ref 66), (1, .int v1), (2, .ref (82 + Int32.toNatClampNeg v1))] rfl ?_
    refine EW_aload_n (pc2 := 18) rfl dX0_goOver_17 2 rfl ?_
    refine AW_geti ⟨gfRX0_75, rfl⟩ (pc2 := 21) rfl dX0_goOver_18 (isW.o (isW_of b1)) ?_
    refine EW_iconst (pc2 := 22) (v := 2) rfl dX0_goOver_21 (by decide) ?_
    refine EW_icmp_ne (tgt := 96) (pc2 := 25) rfl dX0_goOver_22 (by decide) (fun q => ?_) (fun q => ?_)
    · replace h := h.1 q
      refine EW_iinc (v1 + 1) (pc2 := 99) rfl dX0_goOver_96 1 rfl rfl (by decide) [1, 0, 2] [(0, .ref 66), (1, .int (v1 + 1)), (2, .ref (82 + Int32.toNatClampNeg v1))] rfl ?_
      refine EW_goto (tgt := 2) dX0_goOver_99 (by decide) ?_
      refine EW_ls [0, 1] rfl ?_
      exact hL2 (v1 + 1) x h
    · replace h := h.2 q
      refine EW_aload_n (pc2 := 26) rfl dX0_goOver_25 0 rfl ?_
      refine AW_getr (r := 9) ⟨gfRX0_49, rfl⟩ (pc2 := 29) rfl dX0_goOver_26 q66 rfl ?_
      refine EW_aload_n (pc2 := 30) rfl dX0_goOver_29 2 rfl ?_
      refine AW_geti ⟨gfRX0_78, rfl⟩ (pc2 := 33) rfl dX0_goOver_30 (isW.o (isW_of b1)) ?_
      refine AW_invV (M' := MX10_has) [.int (x.1 (82 + Int32.toNatClampNeg v1) 12)] (rest := []) mlRX0_263 okX10_has (pc2 := 36) rfl dX0_goOver_33 rfl rfl (Nat.le_of_ble_eq_true rfl) (Nat.le_of_ble_eq_true rfl) (d' := 1) (by omega) q9 ⟨by decide, rfl⟩ (EW_mono (fun _ _ hr => ?_) (sX10_has (x.1 (82 + Int32.toNatClampNeg v1) 12)  x _ _ 0 0 (Nat.le_refl _) h))
      obtain ⟨r2, rfl, rfl, h⟩ := hr
      refine EW_if_ne (tgt := 42) (pc2 := 39) rfl dX0_goOver_36 (by decide) (fun q => ?_) (fun q => ?_)
      · replace h := h.1 q
        refine EW_aload_n (pc2 := 43) rfl dX0_goOver_42 0 rfl ?_
        refine AW_getr (r := 9) ⟨gfRX0_49, rfl⟩ (pc2 := 46) rfl dX0_goOver_43 q66 rfl ?_
        refine AW_getr (r := 11) ⟨gfRX0_100, rfl⟩ (pc2 := 49) rfl dX0_goOver_46 q9 rfl ?_
        refine EW_aload_n (pc2 := 50) rfl dX0_goOver_49 0 rfl ?_
        refine AW_getr (r := 9) ⟨gfRX0_49, rfl⟩ (pc2 := 53) rfl dX0_goOver_50 q66 rfl ?_
        refine AW_getr (r := 10) ⟨gfRX0_148, rfl⟩ (pc2 := 56) rfl dX0_goOver_53 q9 rfl ?_
        refine EW_aload_n (pc2 := 57) rfl dX0_goOver_56 2 rfl ?_
        refine AW_geti ⟨gfRX0_78, rfl⟩ (pc2 := 60) rfl dX0_goOver_57 (isW.o (isW_of b1)) ?_
        obtain ⟨b3, h⟩ := h
        refine AW_aald5 (pc2 := 61) rfl dX0_goOver_60 b3 ?_
        refine AW_invV (M' := MX3_burningRooms) [.ref (30 + 3 * Int32.toNatClampNeg (x.1 (82 + Int32.toNatClampNeg v1) 12))] (rest := []) mlRX0_266 okX3_burningRooms (pc2 := 64) rfl dX0_goOver_61 rfl rfl (Nat.le_of_ble_eq_true rfl) (Nat.le_of_ble_eq_true rfl) (d' := 1) (by omega) q11 ⟨by decide, rfl⟩ (EW_mono (fun _ _ hr => ?_) (sX3_burningRooms 11 (30 + 3 * Int32.toNatClampNeg (x.1 (82 + Int32.toNatClampNeg v1) 12)) (Or.inl rfl : isF 11) (isH_of b3) x _ _ 0 0 (Nat.le_refl _) h))
        obtain ⟨r4, rfl, rfl, h⟩ := hr
        refine EW_if_ne (tgt := 96) (pc2 := 67) rfl dX0_goOver_64 (by decide) (fun q => ?_) (fun q => ?_)
        · replace h := h.1 q
          refine EW_iinc (v1 + 1) (pc2 := 99) rfl dX0_goOver_96 1 rfl rfl (by decide) [1, 0, 2] [(0, .ref 66), (1, .int (v1 + 1)), (2, .ref (82 + Int32.toNatClampNeg v1))] rfl ?_
          refine EW_goto (tgt := 2) dX0_goOver_99 (by decide) ?_
          refine EW_ls [0, 1] rfl ?_
          exact hL2 (v1 + 1) x h
        · replace h := h.2 q
          refine EW_aload_n (pc2 := 68) rfl dX0_goOver_67 0 rfl ?_
          refine AW_getr (r := 9) ⟨gfRX0_49, rfl⟩ (pc2 := 71) rfl dX0_goOver_68 q66 rfl ?_
          refine EW_aload_n (pc2 := 72) rfl dX0_goOver_71 2 rfl ?_
          refine AW_geti ⟨gfRX0_69, rfl⟩ (pc2 := 75) rfl dX0_goOver_72 (isW.o (isW_of b1)) ?_
          refine AW_invV (M' := MX10_worstAt) [.int (x.1 (82 + Int32.toNatClampNeg v1) 9)] (rest := []) mlRX0_115 okX10_worstAt (pc2 := 78) rfl dX0_goOver_75 rfl rfl (Nat.le_of_ble_eq_true rfl) (Nat.le_of_ble_eq_true rfl) (d' := 2) (by omega) q9 ⟨by decide, rfl⟩ (EW_mono (fun _ _ hr => ?_) (sX10_worstAt (x.1 (82 + Int32.toNatClampNeg v1) 9)  x _ _ 0 0 (Nat.le_refl _) h))
          obtain ⟨r5, rfl, rfl, h⟩ := hr
          refine EW_istore_n (pc2 := 79) rfl dX0_goOver_78 (by decide) [1, 2, 3, 0] [(0, .ref 66), (1, .int v1), (2, .ref (82 + Int32.toNatClampNeg v1)), (3, .int r5)] rfl ?_
          refine EW_aload_n (pc2 := 80) rfl dX0_goOver_79 2 rfl ?_
          refine EW_iload_n (pc2 := 81) rfl dX0_goOver_80 3 rfl ?_
          refine EW_iconst (pc2 := 82) (v := (-1)) rfl dX0_goOver_81 (by decide) ?_
          refine EW_icmp_ne (tgt := 92) (pc2 := 85) rfl dX0_goOver_82 (by decide) (fun q => ?_) (fun q => ?_)
          · replace h := h.1 q
            refine EW_iload_n (pc2 := 93) rfl dX0_goOver_92 3 rfl ?_
            refine AW_puti ⟨gfRX0_78, rfl, rfl⟩ (pc2 := 96) rfl dX0_goOver_93 (isW.o (isW_of b1)) ?_
            refine EW_iinc (v1 + 1) (pc2 := 99) rfl dX0_goOver_96 1 rfl rfl (by decide) [1, 0, 2, 3] [(0, .ref 66), (1, .int (v1 + 1)), (2, .ref (82 + Int32.toNatClampNeg v1)), (3, .int r5)] rfl ?_
            refine EW_goto (tgt := 2) dX0_goOver_99 (by decide) ?_
            refine EW_ls [0, 1] rfl ?_
            exact hL2 (v1 + 1) (wr x (82 + Int32.toNatClampNeg v1) 12 r5) h
          · replace h := h.2 q
            refine EW_aload_n (pc2 := 86) rfl dX0_goOver_85 2 rfl ?_
            refine AW_geti ⟨gfRX0_78, rfl⟩ (pc2 := 89) rfl dX0_goOver_86 (isW.o (isW_of b1)) ?_
            refine EW_goto (tgt := 93) dX0_goOver_89 (by decide) ?_
            refine AW_puti ⟨gfRX0_78, rfl, rfl⟩ (pc2 := 96) rfl dX0_goOver_93 (isW.o (isW_of b1)) ?_
            refine EW_iinc (v1 + 1) (pc2 := 99) rfl dX0_goOver_96 1 rfl rfl (by decide) [1, 0, 2, 3] [(0, .ref 66), (1, .int (v1 + 1)), (2, .ref (82 + Int32.toNatClampNeg v1)), (3, .int r5)] rfl ?_
            refine EW_goto (tgt := 2) dX0_goOver_99 (by decide) ?_
            refine EW_ls [0, 1] rfl ?_
            exact hL2 (v1 + 1) (wr x (82 + Int32.toNatClampNeg v1) 12 (x.1 (82 + Int32.toNatClampNeg v1) 12)) h
      · replace h := h.2 q
        refine EW_goto (tgt := 96) dX0_goOver_39 (by decide) ?_
        refine EW_iinc (v1 + 1) (pc2 := 99) rfl dX0_goOver_96 1 rfl rfl (by decide) [1, 0, 2] [(0, .ref 66), (1, .int (v1 + 1)), (2, .ref (82 + Int32.toNatClampNeg v1))] rfl ?_
        refine EW_goto (tgt := 2) dX0_goOver_99 (by decide) ?_
        refine EW_ls [0, 1] rfl ?_
        exact hL2 (v1 + 1) x h
set_option maxHeartbeats 4000000 in
set_option maxRecDepth 100000 in
theorem sX0_goOver   (x : ab_X) (K : ab_X → Prop) (d bc bs : Nat) (hdp : 3 ≤ d) (h : wX0_goOver  x K) : EW MX0_goOver 0 [(0, .ref 66)] [] (aS x) d bc bs (liV K) := by
  unfold wX0_goOver at h
  refine EW_iconst (pc2 := 1) (v := 0) rfl dX0_goOver_0 (by decide) ?_
  refine EW_istore_n (pc2 := 2) rfl dX0_goOver_1 (by decide) [1, 0] [(0, .ref 66), (1, .int 0)] rfl ?_
  exact sX0_goOver_2 0 x K d bc bs hdp h
abbrev MX0_has : ab_M := (yX0_has, cX0_has, 2, (some .boolean))
theorem dX0_has_0 : decode cX0_has 0 = .ok (.iload_n 1, 1) := by decide +kernel
theorem dX0_has_1 : decode cX0_has 1 = .ok (.aload_n 0, 1) := by decide +kernel
theorem dX0_has_2 : decode cX0_has 2 = .ok (.getfield 55, 3) := by decide +kernel
theorem dX0_has_5 : decode cX0_has 5 = .ok (.invokestatic 59, 3) := by decide +kernel
theorem dX0_has_8 : decode cX0_has 8 = .ok (.ireturn, 1) := by decide +kernel
theorem okX0_has : ab_okM MX0_has 1 := ⟨by decide, ⟨by decide, by decide⟩, ab_in 982 (by decide +kernel) (by decide +kernel), ab_in 92 (by decide +kernel) (by decide +kernel), by decide +kernel, by decide⟩
set_option maxHeartbeats 4000000 in
set_option maxRecDepth 100000 in
theorem sX0_has (v1 : Int32)  (x : ab_X) (K : Int32 → Prop) (d bc bs : Nat) (hdp : 1 ≤ d) (h : wX0_has v1 x K) : EW MX0_has 0 [(0, .ref 66), (1, .int v1)] [] (aS x) d bc bs (liP x K) := by
  unfold wX0_has at h
  refine EW_iload_n (pc2 := 1) rfl dX0_has_0 1 rfl ?_
  refine EW_aload_n (pc2 := 2) rfl dX0_has_1 0 rfl ?_
  refine AW_geti ⟨gfRX0_55, rfl⟩ (pc2 := 5) rfl dX0_has_2 q66 ?_
  refine AW_invSN (M' := MX11_below) [.int v1, .int (x.1 66 3)] (rest := []) mlRX0_59 okX11_below (pc2 := 8) rfl dX0_has_5 rfl rfl (Nat.le_of_ble_eq_true rfl) (Nat.le_of_ble_eq_true rfl) (d' := 0) (by omega) (EW_mono (fun _ _ hr => ?_) (sX11_below v1 (x.1 66 3)  x _ _ 0 0 (Nat.le_refl _) h))
  obtain ⟨r1, rfl, rfl, h⟩ := hr
  obtain ⟨z2, h⟩ := h
  exact AW_zret rfl z2 dX0_has_8 ⟨_, rfl, rfl, h⟩
theorem mlRX10_52 : Cond.methodLink RX10 52 yX10_has ∈ ab_G ∧ Cond.instanceMethod yX10_has ∈ ab_G ∧ Cond.selects RX10 yX10_has yX10_has ∈ ab_G := ⟨ab_in 833 (by decide +kernel) (by decide +kernel), ab_in 834 (by decide +kernel) (by decide +kernel), ab_in 835 (by decide +kernel) (by decide +kernel)⟩
abbrev MX10_hasFloor : ab_M := (yX10_hasFloor, cX10_hasFloor, 3, (some .boolean))
theorem dX10_hasFloor_0 : decode cX10_hasFloor 0 = .ok (.aload_n 0, 1) := by decide +kernel
theorem dX10_hasFloor_1 : decode cX10_hasFloor 1 = .ok (.iload_n 1, 1) := by decide +kernel
theorem dX10_hasFloor_2 : decode cX10_hasFloor 2 = .ok (.invokevirtual 52, 3) := by decide +kernel
theorem dX10_hasFloor_5 : decode cX10_hasFloor 5 = .ok (.ifCond .eq 23, 3) := by decide +kernel
theorem dX10_hasFloor_8 : decode cX10_hasFloor 8 = .ok (.iload_n 2, 1) := by decide +kernel
theorem dX10_hasFloor_9 : decode cX10_hasFloor 9 = .ok (.aload_n 0, 1) := by decide +kernel
theorem dX10_hasFloor_10 : decode cX10_hasFloor 10 = .ok (.getfield 11, 3) := by decide +kernel
theorem dX10_hasFloor_13 : decode cX10_hasFloor 13 = .ok (.iload_n 1, 1) := by decide +kernel
theorem dX10_hasFloor_14 : decode cX10_hasFloor 14 = .ok (.aaload, 1) := by decide +kernel
theorem dX10_hasFloor_15 : decode cX10_hasFloor 15 = .ok (.getfield 56, 3) := by decide +kernel
theorem dX10_hasFloor_18 : decode cX10_hasFloor 18 = .ok (.invokestatic 48, 3) := by decide +kernel
theorem dX10_hasFloor_21 : decode cX10_hasFloor 21 = .ok (.ifCond .eq 7, 3) := by decide +kernel
theorem dX10_hasFloor_24 : decode cX10_hasFloor 24 = .ok (.iconst 1, 1) := by decide +kernel
theorem dX10_hasFloor_25 : decode cX10_hasFloor 25 = .ok (.goto 4, 3) := by decide +kernel
theorem dX10_hasFloor_28 : decode cX10_hasFloor 28 = .ok (.iconst 0, 1) := by decide +kernel
theorem dX10_hasFloor_29 : decode cX10_hasFloor 29 = .ok (.ireturn, 1) := by decide +kernel
theorem okX10_hasFloor : ab_okM MX10_hasFloor 2 := ⟨by decide, ⟨by decide, by decide⟩, ab_in 858 (by decide +kernel) (by decide +kernel), ab_in 89 (by decide +kernel) (by decide +kernel), by decide +kernel, by decide⟩
set_option maxHeartbeats 4000000 in
set_option maxRecDepth 100000 in
theorem sX10_hasFloor (v1 : Int32) (v2 : Int32)  (x : ab_X) (K : Int32 → Prop) (d bc bs : Nat) (hdp : 2 ≤ d) (h : wX10_hasFloor v1 v2 x K) : EW MX10_hasFloor 0 [(0, .ref 9), (1, .int v1), (2, .int v2)] [] (aS x) d bc bs (liP x K) := by
  unfold wX10_hasFloor at h
  refine EW_aload_n (pc2 := 1) rfl dX10_hasFloor_0 0 rfl ?_
  refine EW_iload_n (pc2 := 2) rfl dX10_hasFloor_1 1 rfl ?_
  refine AW_invV (M' := MX10_has) [.int v1] (rest := []) mlRX10_52 okX10_has (pc2 := 5) rfl dX10_hasFloor_2 rfl rfl (Nat.le_of_ble_eq_true rfl) (Nat.le_of_ble_eq_true rfl) (d' := 1) (by omega) q9 ⟨by decide, rfl⟩ (EW_mono (fun _ _ hr => ?_) (sX10_has v1  x _ _ 0 0 (Nat.le_refl _) h))
  obtain ⟨r1, rfl, rfl, h⟩ := hr
  refine EW_if_eq (tgt := 28) (pc2 := 8) rfl dX10_hasFloor_5 (by decide) (fun q => ?_) (fun q => ?_)
  · replace h := h.1 q
    refine EW_iconst (pc2 := 29) (v := 0) rfl dX10_hasFloor_28 (by decide) ?_
    exact AW_zret rfl isB0 dX10_hasFloor_29 ⟨_, rfl, rfl, h⟩
  · replace h := h.2 q
    refine EW_iload_n (pc2 := 9) rfl dX10_hasFloor_8 2 rfl ?_
    refine EW_aload_n (pc2 := 10) rfl dX10_hasFloor_9 0 rfl ?_
    refine AW_getr (r := 10) ⟨gfRX10_11, rfl⟩ (pc2 := 13) rfl dX10_hasFloor_10 q9 rfl ?_
    refine EW_iload_n (pc2 := 14) rfl dX10_hasFloor_13 1 rfl ?_
    obtain ⟨b2, h⟩ := h
    refine AW_aald5 (pc2 := 15) rfl dX10_hasFloor_14 b2 ?_
    refine AW_geti ⟨gfRX10_56, rfl⟩ (pc2 := 18) rfl dX10_hasFloor_15 (isH.o (isH_of b2)) ?_
    refine AW_invSN (M' := MX11_below) [.int v2, .int (x.1 (30 + 3 * Int32.toNatClampNeg v1) 3)] (rest := []) mlRX10_48 okX11_below (pc2 := 21) rfl dX10_hasFloor_18 rfl rfl (Nat.le_of_ble_eq_true rfl) (Nat.le_of_ble_eq_true rfl) (d' := 0) (by omega) (EW_mono (fun _ _ hr => ?_) (sX11_below v2 (x.1 (30 + 3 * Int32.toNatClampNeg v1) 3)  x _ _ 0 0 (Nat.le_refl _) h))
    obtain ⟨r3, rfl, rfl, h⟩ := hr
    refine EW_if_eq (tgt := 28) (pc2 := 24) rfl dX10_hasFloor_21 (by decide) (fun q => ?_) (fun q => ?_)
    · replace h := h.1 q
      refine EW_iconst (pc2 := 29) (v := 0) rfl dX10_hasFloor_28 (by decide) ?_
      exact AW_zret rfl isB0 dX10_hasFloor_29 ⟨_, rfl, rfl, h⟩
    · replace h := h.2 q
      refine EW_iconst (pc2 := 25) (v := 1) rfl dX10_hasFloor_24 (by decide) ?_
      refine EW_goto (tgt := 29) dX10_hasFloor_25 (by decide) ?_
      exact AW_zret rfl isB1 dX10_hasFloor_29 ⟨_, rfl, rfl, h⟩
theorem gfRX3_24 : ab_L RX3 24 3 4 := ⟨by decide, by decide, ab_in 185 (by decide +kernel) (by decide +kernel)⟩
abbrev MX3_hasFallen : ab_M := (yX3_hasFallen, cX3_hasFallen, 3, (some .boolean))
theorem dX3_hasFallen_0 : decode cX3_hasFallen 0 = .ok (.aload_n 0, 1) := by decide +kernel
theorem dX3_hasFallen_1 : decode cX3_hasFallen 1 = .ok (.getfield 24, 3) := by decide +kernel
theorem dX3_hasFallen_4 : decode cX3_hasFallen 4 = .ok (.aload_n 1, 1) := by decide +kernel
theorem dX3_hasFallen_5 : decode cX3_hasFallen 5 = .ok (.iload_n 2, 1) := by decide +kernel
theorem dX3_hasFallen_6 : decode cX3_hasFallen 6 = .ok (.invokevirtual 50, 3) := by decide +kernel
theorem dX3_hasFallen_9 : decode cX3_hasFallen 9 = .ok (.baload, 1) := by decide +kernel
theorem dX3_hasFallen_10 : decode cX3_hasFallen 10 = .ok (.ireturn, 1) := by decide +kernel
theorem okX3_hasFallen : ab_okM MX3_hasFallen 2 := ⟨by decide, ⟨by decide, by decide⟩, ab_in 862 (by decide +kernel) (by decide +kernel), ab_in 90 (by decide +kernel) (by decide +kernel), by decide +kernel, by decide⟩
set_option maxHeartbeats 4000000 in
set_option maxRecDepth 100000 in
theorem sX3_hasFallen (v0 : Nat) (v1 : Nat) (v2 : Int32) (hv0 : isF v0) (hv1 : isH v1) (x : ab_X) (K : Int32 → Prop) (d bc bs : Nat) (hdp : 1 ≤ d) (h : wX3_hasFallen v0 v1 v2 x K) : EW MX3_hasFallen 0 [(0, .ref v0), (1, .ref v1), (2, .int v2)] [] (aS x) d bc bs (liP x K) := by
  unfold wX3_hasFallen at h
  refine EW_aload_n (pc2 := 1) rfl dX3_hasFallen_0 0 rfl ?_
  refine AW_getr (r := (v0 + 5)) ⟨gfRX3_24, rfl⟩ (pc2 := 4) rfl dX3_hasFallen_1 (isF.o hv0) (isF.r4 hv0) ?_
  refine EW_aload_n (pc2 := 5) rfl dX3_hasFallen_4 1 rfl ?_
  refine EW_iload_n (pc2 := 6) rfl dX3_hasFallen_5 2 rfl ?_
  refine AW_invV (M' := MX4_storey) [.int v2] (rest := [.ref (v0 + 5)]) mlRX3_50 okX4_storey (pc2 := 9) rfl dX3_hasFallen_6 rfl rfl (Nat.le_of_ble_eq_true rfl) (Nat.le_of_ble_eq_true rfl) (d' := 0) (by omega) (isH.o hv1) ⟨by decide, rfl⟩ (EW_mono (fun _ _ hr => ?_) (sX4_storey v1 v2 hv1 x _ _ 0 0 (Nat.le_refl _) h))
  obtain ⟨r1, rfl, rfl, h⟩ := hr
  obtain ⟨b2, h⟩ := h
  refine AW_zald (pc2 := 10) rfl dX3_hasFallen_9 (isF.a4 hv0) b2 ?_
  obtain ⟨z3, h⟩ := h
  exact AW_zret rfl z3 dX3_hasFallen_10 ⟨_, rfl, rfl, h⟩
theorem mlRX0_393 : Cond.methodLink RX0 393 yX10_hasFloor ∈ ab_G ∧ Cond.instanceMethod yX10_hasFloor ∈ ab_G ∧ Cond.selects RX10 yX10_hasFloor yX10_hasFloor ∈ ab_G := ⟨ab_in 1491 (by decide +kernel) (by decide +kernel), ab_in 856 (by decide +kernel) (by decide +kernel), ab_in 857 (by decide +kernel) (by decide +kernel)⟩
theorem mlRX0_296 : Cond.methodLink RX0 296 yX3_hasFallen ∈ ab_G ∧ Cond.instanceMethod yX3_hasFallen ∈ ab_G ∧ Cond.selects RX3 yX3_hasFallen yX3_hasFallen ∈ ab_G := ⟨ab_in 1396 (by decide +kernel) (by decide +kernel), ab_in 860 (by decide +kernel) (by decide +kernel), ab_in 861 (by decide +kernel) (by decide +kernel)⟩
abbrev MX0_hurtFallen : ab_M := (yX0_hurtFallen, cX0_hurtFallen, 3, none)
theorem dX0_hurtFallen_0 : decode cX0_hurtFallen 0 = .ok (.iconst 0, 1) := by decide +kernel
theorem dX0_hurtFallen_1 : decode cX0_hurtFallen 1 = .ok (.istore_n 1, 1) := by decide +kernel
theorem dX0_hurtFallen_2 : decode cX0_hurtFallen 2 = .ok (.iload_n 1, 1) := by decide +kernel
theorem dX0_hurtFallen_3 : decode cX0_hurtFallen 3 = .ok (.aload_n 0, 1) := by decide +kernel
theorem dX0_hurtFallen_4 : decode cX0_hurtFallen 4 = .ok (.getfield 55, 3) := by decide +kernel
theorem dX0_hurtFallen_7 : decode cX0_hurtFallen 7 = .ok (.if_icmp .ge 81, 3) := by decide +kernel
theorem dX0_hurtFallen_10 : decode cX0_hurtFallen 10 = .ok (.aload_n 0, 1) := by decide +kernel
theorem dX0_hurtFallen_11 : decode cX0_hurtFallen 11 = .ok (.getfield 11, 3) := by decide +kernel
theorem dX0_hurtFallen_14 : decode cX0_hurtFallen 14 = .ok (.iload_n 1, 1) := by decide +kernel
theorem dX0_hurtFallen_15 : decode cX0_hurtFallen 15 = .ok (.aaload, 1) := by decide +kernel
theorem dX0_hurtFallen_16 : decode cX0_hurtFallen 16 = .ok (.astore_n 2, 1) := by decide +kernel
theorem dX0_hurtFallen_17 : decode cX0_hurtFallen 17 = .ok (.aload_n 2, 1) := by decide +kernel
theorem dX0_hurtFallen_18 : decode cX0_hurtFallen 18 = .ok (.getfield 75, 3) := by decide +kernel
theorem dX0_hurtFallen_21 : decode cX0_hurtFallen 21 = .ok (.iconst 2, 1) := by decide +kernel
theorem dX0_hurtFallen_22 : decode cX0_hurtFallen 22 = .ok (.if_icmp .ne 60, 3) := by decide +kernel
theorem dX0_hurtFallen_25 : decode cX0_hurtFallen 25 = .ok (.aload_n 0, 1) := by decide +kernel
theorem dX0_hurtFallen_26 : decode cX0_hurtFallen 26 = .ok (.getfield 49, 3) := by decide +kernel
theorem dX0_hurtFallen_29 : decode cX0_hurtFallen 29 = .ok (.aload_n 2, 1) := by decide +kernel
theorem dX0_hurtFallen_30 : decode cX0_hurtFallen 30 = .ok (.getfield 78, 3) := by decide +kernel
theorem dX0_hurtFallen_33 : decode cX0_hurtFallen 33 = .ok (.aload_n 2, 1) := by decide +kernel
theorem dX0_hurtFallen_34 : decode cX0_hurtFallen 34 = .ok (.getfield 344, 3) := by decide +kernel
theorem dX0_hurtFallen_37 : decode cX0_hurtFallen 37 = .ok (.invokevirtual 393, 3) := by decide +kernel
theorem dX0_hurtFallen_40 : decode cX0_hurtFallen 40 = .ok (.ifCond .eq 42, 3) := by decide +kernel
theorem dX0_hurtFallen_43 : decode cX0_hurtFallen 43 = .ok (.aload_n 0, 1) := by decide +kernel
theorem dX0_hurtFallen_44 : decode cX0_hurtFallen 44 = .ok (.getfield 49, 3) := by decide +kernel
theorem dX0_hurtFallen_47 : decode cX0_hurtFallen 47 = .ok (.getfield 100, 3) := by decide +kernel
theorem dX0_hurtFallen_50 : decode cX0_hurtFallen 50 = .ok (.aload_n 0, 1) := by decide +kernel
theorem dX0_hurtFallen_51 : decode cX0_hurtFallen 51 = .ok (.getfield 49, 3) := by decide +kernel
theorem dX0_hurtFallen_54 : decode cX0_hurtFallen 54 = .ok (.getfield 148, 3) := by decide +kernel
theorem dX0_hurtFallen_57 : decode cX0_hurtFallen 57 = .ok (.aload_n 2, 1) := by decide +kernel
theorem dX0_hurtFallen_58 : decode cX0_hurtFallen 58 = .ok (.getfield 78, 3) := by decide +kernel
theorem dX0_hurtFallen_61 : decode cX0_hurtFallen 61 = .ok (.aaload, 1) := by decide +kernel
theorem dX0_hurtFallen_62 : decode cX0_hurtFallen 62 = .ok (.aload_n 2, 1) := by decide +kernel
theorem dX0_hurtFallen_63 : decode cX0_hurtFallen 63 = .ok (.getfield 344, 3) := by decide +kernel
theorem dX0_hurtFallen_66 : decode cX0_hurtFallen 66 = .ok (.invokevirtual 296, 3) := by decide +kernel
theorem dX0_hurtFallen_69 : decode cX0_hurtFallen 69 = .ok (.ifCond .eq 13, 3) := by decide +kernel
theorem dX0_hurtFallen_72 : decode cX0_hurtFallen 72 = .ok (.aload_n 2, 1) := by decide +kernel
theorem dX0_hurtFallen_73 : decode cX0_hurtFallen 73 = .ok (.iconst 4, 1) := by decide +kernel
theorem dX0_hurtFallen_74 : decode cX0_hurtFallen 74 = .ok (.aload_n 2, 1) := by decide +kernel
theorem dX0_hurtFallen_75 : decode cX0_hurtFallen 75 = .ok (.getfield 66, 3) := by decide +kernel
theorem dX0_hurtFallen_78 : decode cX0_hurtFallen 78 = .ok (.iconst (-1), 1) := by decide +kernel
theorem dX0_hurtFallen_79 : decode cX0_hurtFallen 79 = .ok (.invokevirtual 184, 3) := by decide +kernel
theorem dX0_hurtFallen_82 : decode cX0_hurtFallen 82 = .ok (.iinc 1 1, 3) := by decide +kernel
theorem dX0_hurtFallen_85 : decode cX0_hurtFallen 85 = .ok (.goto (-83), 3) := by decide +kernel
theorem dX0_hurtFallen_88 : decode cX0_hurtFallen 88 = .ok (.return_, 1) := by decide +kernel
theorem okX0_hurtFallen : ab_okM MX0_hurtFallen 0 := ⟨by decide, ⟨by decide, by decide⟩, ab_in 1490 (by decide +kernel) (by decide +kernel), ab_in 92 (by decide +kernel) (by decide +kernel), by decide +kernel, by decide⟩
set_option maxHeartbeats 4000000 in
set_option maxRecDepth 100000 in
theorem sX0_hurtFallen_2 (v1 : Int32)  (x : ab_X) (K : ab_X → Prop)  (d bc bs : Nat) (hdp : 3 ≤ d)  (h : Lp2 (lX0_hurtFallen_2  K ) v1 x) : EW MX0_hurtFallen 2 [(0, .ref 66), (1, .int v1)] [] (aS x) d bc bs (liV K) := by
  refine Lp2.use (P := fun v1 x => EW MX0_hurtFallen 2 [(0, .ref 66), (1, .int v1)] [] (aS x) d bc bs (liV K)) (fun L2 v1 x hL2 h => ?_) v1 x h
  unfold lX0_hurtFallen_2 at h
  refine EW_iload_n (pc2 := 3) rfl dX0_hurtFallen_2 1 rfl ?_
  refine EW_aload_n (pc2 := 4) rfl dX0_hurtFallen_3 0 rfl ?_
  refine AW_geti ⟨gfRX0_55, rfl⟩ (pc2 := 7) rfl dX0_hurtFallen_4 q66 ?_
  refine EW_icmp_ge (tgt := 88) (pc2 := 10) rfl dX0_hurtFallen_7 (by decide) (fun q => ?_) (fun q => ?_)
  · replace h := h.1 q
    exact EW_vret rfl dX0_hurtFallen_88 ⟨_, rfl, rfl, h⟩
  · replace h := h.2 q
    refine EW_aload_n (pc2 := 11) rfl dX0_hurtFallen_10 0 rfl ?_
    refine AW_getr (r := 67) ⟨gfRX0_11, rfl⟩ (pc2 := 14) rfl dX0_hurtFallen_11 q66 rfl ?_
    refine EW_iload_n (pc2 := 15) rfl dX0_hurtFallen_14 1 rfl ?_
    obtain ⟨b1, h⟩ := h
    refine AW_aald6 (pc2 := 16) rfl dX0_hurtFallen_15 b1 ?_
    refine EW_astore_n (pc2 := 17) rfl dX0_hurtFallen_16 (by decide) [1, 2, 0] [(0, .ref 66), (1, .int v1), (2, .ref (82 + Int32.toNatClampNeg v1))] rfl ?_
    refine EW_aload_n (pc2 := 18) rfl dX0_hurtFallen_17 2 rfl ?_
    refine AW_geti ⟨gfRX0_75, rfl⟩ (pc2 := 21) rfl dX0_hurtFallen_18 (isW.o (isW_of b1)) ?_
    refine EW_iconst (pc2 := 22) (v := 2) rfl dX0_hurtFallen_21 (by decide) ?_
    refine EW_icmp_ne (tgt := 82) (pc2 := 25) rfl dX0_hurtFallen_22 (by decide) (fun q => ?_) (fun q => ?_)
    · replace h := h.1 q
      refine EW_iinc (v1 + 1) (pc2 := 85) rfl dX0_hurtFallen_82 1 rfl rfl (by decide) [1, 0, 2] [(0, .ref 66), (1, .int (v1 + 1)), (2, .ref (82 + Int32.toNatClampNeg v1))] rfl ?_
      refine EW_goto (tgt := 2) dX0_hurtFallen_85 (by decide) ?_
      refine EW_ls [0, 1] rfl ?_
      exact hL2 (v1 + 1) x h
    · replace h := h.2 q
      refine EW_aload_n (pc2 := 26) rfl dX0_hurtFallen_25 0 rfl ?_
      refine AW_getr (r := 9) ⟨gfRX0_49, rfl⟩ (pc2 := 29) rfl dX0_hurtFallen_26 q66 rfl ?_
      refine EW_aload_n (pc2 := 30) rfl dX0_hurtFallen_29 2 rfl ?_
      refine AW_geti ⟨gfRX0_78, rfl⟩ (pc2 := 33) rfl dX0_hurtFallen_30 (isW.o (isW_of b1)) ?_
      refine EW_aload_n (pc2 := 34) rfl dX0_hurtFallen_33 2 rfl ?_
      refine AW_geti ⟨gfRX0_344, rfl⟩ (pc2 := 37) rfl dX0_hurtFallen_34 (isW.o (isW_of b1)) ?_
      refine AW_invV (M' := MX10_hasFloor) [.int (x.1 (82 + Int32.toNatClampNeg v1) 12), .int (x.1 (82 + Int32.toNatClampNeg v1) 13)] (rest := []) mlRX0_393 okX10_hasFloor (pc2 := 40) rfl dX0_hurtFallen_37 rfl rfl (Nat.le_of_ble_eq_true rfl) (Nat.le_of_ble_eq_true rfl) (d' := 2) (by omega) q9 ⟨by decide, rfl⟩ (EW_mono (fun _ _ hr => ?_) (sX10_hasFloor (x.1 (82 + Int32.toNatClampNeg v1) 12) (x.1 (82 + Int32.toNatClampNeg v1) 13)  x _ _ 0 0 (Nat.le_refl _) h))
      obtain ⟨r2, rfl, rfl, h⟩ := hr
      refine EW_if_eq (tgt := 82) (pc2 := 43) rfl dX0_hurtFallen_40 (by decide) (fun q => ?_) (fun q => ?_)
      · replace h := h.1 q
        refine EW_iinc (v1 + 1) (pc2 := 85) rfl dX0_hurtFallen_82 1 rfl rfl (by decide) [1, 0, 2] [(0, .ref 66), (1, .int (v1 + 1)), (2, .ref (82 + Int32.toNatClampNeg v1))] rfl ?_
        refine EW_goto (tgt := 2) dX0_hurtFallen_85 (by decide) ?_
        refine EW_ls [0, 1] rfl ?_
        exact hL2 (v1 + 1) x h
      · replace h := h.2 q
        refine EW_aload_n (pc2 := 44) rfl dX0_hurtFallen_43 0 rfl ?_
        refine AW_getr (r := 9) ⟨gfRX0_49, rfl⟩ (pc2 := 47) rfl dX0_hurtFallen_44 q66 rfl ?_
        refine AW_getr (r := 11) ⟨gfRX0_100, rfl⟩ (pc2 := 50) rfl dX0_hurtFallen_47 q9 rfl ?_
        refine EW_aload_n (pc2 := 51) rfl dX0_hurtFallen_50 0 rfl ?_
        refine AW_getr (r := 9) ⟨gfRX0_49, rfl⟩ (pc2 := 54) rfl dX0_hurtFallen_51 q66 rfl ?_
        refine AW_getr (r := 10) ⟨gfRX0_148, rfl⟩ (pc2 := 57) rfl dX0_hurtFallen_54 q9 rfl ?_
        refine EW_aload_n (pc2 := 58) rfl dX0_hurtFallen_57 2 rfl ?_
        refine AW_geti ⟨gfRX0_78, rfl⟩ (pc2 := 61) rfl dX0_hurtFallen_58 (isW.o (isW_of b1)) ?_
        obtain ⟨b3, h⟩ := h
        refine AW_aald5 (pc2 := 62) rfl dX0_hurtFallen_61 b3 ?_
        refine EW_aload_n (pc2 := 63) rfl dX0_hurtFallen_62 2 rfl ?_
        refine AW_geti ⟨gfRX0_344, rfl⟩ (pc2 := 66) rfl dX0_hurtFallen_63 (isW.o (isW_of b1)) ?_
        refine AW_invV (M' := MX3_hasFallen) [.ref (30 + 3 * Int32.toNatClampNeg (x.1 (82 + Int32.toNatClampNeg v1) 12)), .int (x.1 (82 + Int32.toNatClampNeg v1) 13)] (rest := []) mlRX0_296 okX3_hasFallen (pc2 := 69) rfl dX0_hurtFallen_66 rfl rfl (Nat.le_of_ble_eq_true rfl) (Nat.le_of_ble_eq_true rfl) (d' := 1) (by omega) q11 ⟨by decide, rfl⟩ (EW_mono (fun _ _ hr => ?_) (sX3_hasFallen 11 (30 + 3 * Int32.toNatClampNeg (x.1 (82 + Int32.toNatClampNeg v1) 12)) (x.1 (82 + Int32.toNatClampNeg v1) 13) (Or.inl rfl : isF 11) (isH_of b3) x _ _ 0 0 (Nat.le_refl _) h))
        obtain ⟨r4, rfl, rfl, h⟩ := hr
        refine EW_if_eq (tgt := 82) (pc2 := 72) rfl dX0_hurtFallen_69 (by decide) (fun q => ?_) (fun q => ?_)
        · replace h := h.1 q
          refine EW_iinc (v1 + 1) (pc2 := 85) rfl dX0_hurtFallen_82 1 rfl rfl (by decide) [1, 0, 2] [(0, .ref 66), (1, .int (v1 + 1)), (2, .ref (82 + Int32.toNatClampNeg v1))] rfl ?_
          refine EW_goto (tgt := 2) dX0_hurtFallen_85 (by decide) ?_
          refine EW_ls [0, 1] rfl ?_
          exact hL2 (v1 + 1) x h
        · replace h := h.2 q
          refine EW_aload_n (pc2 := 73) rfl dX0_hurtFallen_72 2 rfl ?_
          refine EW_iconst (pc2 := 74) (v := 4) rfl dX0_hurtFallen_73 (by decide) ?_
          refine EW_aload_n (pc2 := 75) rfl dX0_hurtFallen_74 2 rfl ?_
          refine AW_geti ⟨gfRX0_66, rfl⟩ (pc2 := 78) rfl dX0_hurtFallen_75 (isW.o (isW_of b1)) ?_
          refine EW_iconst (pc2 := 79) (v := (-1)) rfl dX0_hurtFallen_78 (by decide) ?_
          refine AW_invV (M' := MX2_set) [.int 4, .int (x.1 (82 + Int32.toNatClampNeg v1) 1), .int (-1)] (rest := []) mlRX0_184 okX2_set (pc2 := 82) rfl dX0_hurtFallen_79 rfl rfl (Nat.le_of_ble_eq_true rfl) (Nat.le_of_ble_eq_true rfl) (d' := 1) (by omega) (isW.o (isW_of b1)) ⟨by decide, rfl⟩ (EW_mono (fun _ _ hr => ?_) (sX2_set (82 + Int32.toNatClampNeg v1) 4 (x.1 (82 + Int32.toNatClampNeg v1) 1) (-1) (isW_of b1) x _ _ 0 0 (Nat.le_refl _) h))
          obtain ⟨x5, rfl, rfl, h⟩ := hr
          refine EW_iinc (v1 + 1) (pc2 := 85) rfl dX0_hurtFallen_82 1 rfl rfl (by decide) [1, 0, 2] [(0, .ref 66), (1, .int (v1 + 1)), (2, .ref (82 + Int32.toNatClampNeg v1))] rfl ?_
          refine EW_goto (tgt := 2) dX0_hurtFallen_85 (by decide) ?_
          refine EW_ls [0, 1] rfl ?_
          exact hL2 (v1 + 1) x5 h
set_option maxHeartbeats 4000000 in
set_option maxRecDepth 100000 in
theorem sX0_hurtFallen   (x : ab_X) (K : ab_X → Prop) (d bc bs : Nat) (hdp : 3 ≤ d) (h : wX0_hurtFallen  x K) : EW MX0_hurtFallen 0 [(0, .ref 66)] [] (aS x) d bc bs (liV K) := by
  unfold wX0_hurtFallen at h
  refine EW_iconst (pc2 := 1) (v := 0) rfl dX0_hurtFallen_0 (by decide) ?_
  refine EW_istore_n (pc2 := 2) rfl dX0_hurtFallen_1 (by decide) [1, 0] [(0, .ref 66), (1, .int 0)] rfl ?_
  exact sX0_hurtFallen_2 0 x K d bc bs hdp h
abbrev MX0_hurtNow : ab_M := (yX0_hurtNow, cX0_hurtNow, 3, (some .int))
theorem dX0_hurtNow_0 : decode cX0_hurtNow 0 = .ok (.iconst 0, 1) := by decide +kernel
theorem dX0_hurtNow_1 : decode cX0_hurtNow 1 = .ok (.istore_n 1, 1) := by decide +kernel
theorem dX0_hurtNow_2 : decode cX0_hurtNow 2 = .ok (.iconst 0, 1) := by decide +kernel
theorem dX0_hurtNow_3 : decode cX0_hurtNow 3 = .ok (.istore_n 2, 1) := by decide +kernel
theorem dX0_hurtNow_4 : decode cX0_hurtNow 4 = .ok (.iload_n 2, 1) := by decide +kernel
theorem dX0_hurtNow_5 : decode cX0_hurtNow 5 = .ok (.aload_n 0, 1) := by decide +kernel
theorem dX0_hurtNow_6 : decode cX0_hurtNow 6 = .ok (.getfield 55, 3) := by decide +kernel
theorem dX0_hurtNow_9 : decode cX0_hurtNow 9 = .ok (.if_icmp .ge 30, 3) := by decide +kernel
theorem dX0_hurtNow_12 : decode cX0_hurtNow 12 = .ok (.iload_n 1, 1) := by decide +kernel
theorem dX0_hurtNow_13 : decode cX0_hurtNow 13 = .ok (.aload_n 0, 1) := by decide +kernel
theorem dX0_hurtNow_14 : decode cX0_hurtNow 14 = .ok (.getfield 11, 3) := by decide +kernel
theorem dX0_hurtNow_17 : decode cX0_hurtNow 17 = .ok (.iload_n 2, 1) := by decide +kernel
theorem dX0_hurtNow_18 : decode cX0_hurtNow 18 = .ok (.aaload, 1) := by decide +kernel
theorem dX0_hurtNow_19 : decode cX0_hurtNow 19 = .ok (.getfield 75, 3) := by decide +kernel
theorem dX0_hurtNow_22 : decode cX0_hurtNow 22 = .ok (.iconst 4, 1) := by decide +kernel
theorem dX0_hurtNow_23 : decode cX0_hurtNow 23 = .ok (.if_icmp .ne 7, 3) := by decide +kernel
theorem dX0_hurtNow_26 : decode cX0_hurtNow 26 = .ok (.iconst 1, 1) := by decide +kernel
theorem dX0_hurtNow_27 : decode cX0_hurtNow 27 = .ok (.goto 4, 3) := by decide +kernel
theorem dX0_hurtNow_30 : decode cX0_hurtNow 30 = .ok (.iconst 0, 1) := by decide +kernel
theorem dX0_hurtNow_31 : decode cX0_hurtNow 31 = .ok (.iadd, 1) := by decide +kernel
theorem dX0_hurtNow_32 : decode cX0_hurtNow 32 = .ok (.istore_n 1, 1) := by decide +kernel
theorem dX0_hurtNow_33 : decode cX0_hurtNow 33 = .ok (.iinc 2 1, 3) := by decide +kernel
theorem dX0_hurtNow_36 : decode cX0_hurtNow 36 = .ok (.goto (-32), 3) := by decide +kernel
theorem dX0_hurtNow_39 : decode cX0_hurtNow 39 = .ok (.iload_n 1, 1) := by decide +kernel
theorem dX0_hurtNow_40 : decode cX0_hurtNow 40 = .ok (.ireturn, 1) := by decide +kernel
theorem okX0_hurtNow : ab_okM MX0_hurtNow 0 := ⟨by decide, ⟨by decide, by decide⟩, ab_in 1770 (by decide +kernel) (by decide +kernel), ab_in 92 (by decide +kernel) (by decide +kernel), by decide +kernel, by decide⟩
set_option maxHeartbeats 4000000 in
set_option maxRecDepth 100000 in
theorem sX0_hurtNow_31 (v2 : Int32) (s0 : Int32) (s1 : Int32)  (x : ab_X) (K : Int32 → Prop) (L4 : Int32 → Int32 → Prop) (d bc bs : Nat) (hdp : 0 ≤ d) (hL4 : ∀ (v1 : Int32) (v2 : Int32), L4 v1 v2 → EW MX0_hurtNow 4 [(0, .ref 66), (1, .int v1), (2, .int v2)] [] (aS x) d bc bs (liP x K)) (h : wX0_hurtNow_31 v2 s0 s1 x K L4) : EW MX0_hurtNow 31 [(0, .ref 66), (2, .int v2)] [.int s1, .int s0] (aS x) d bc bs (liP x K) := by
  unfold wX0_hurtNow_31 at h
  refine EW_iadd (pc2 := 32) rfl dX0_hurtNow_31 ?_
  refine EW_istore_n (pc2 := 33) rfl dX0_hurtNow_32 (by decide) [1, 0, 2] [(0, .ref 66), (1, .int (s0 + s1)), (2, .int v2)] rfl ?_
  refine EW_iinc (v2 + 1) (pc2 := 36) rfl dX0_hurtNow_33 2 rfl rfl (by decide) [1, 2, 0] [(0, .ref 66), (1, .int (s0 + s1)), (2, .int (v2 + 1))] rfl ?_
  refine EW_goto (tgt := 4) dX0_hurtNow_36 (by decide) ?_
  exact hL4 (s0 + s1) (v2 + 1) h
set_option maxHeartbeats 4000000 in
set_option maxRecDepth 100000 in
theorem sX0_hurtNow_4 (v1 : Int32) (v2 : Int32)  (x : ab_X) (K : Int32 → Prop)  (d bc bs : Nat) (hdp : 0 ≤ d)  (h : Lp2 (lX0_hurtNow_4  x K ) v1 v2) : EW MX0_hurtNow 4 [(0, .ref 66), (1, .int v1), (2, .int v2)] [] (aS x) d bc bs (liP x K) := by
  refine Lp2.use (P := fun v1 v2 => EW MX0_hurtNow 4 [(0, .ref 66), (1, .int v1), (2, .int v2)] [] (aS x) d bc bs (liP x K)) (fun L4 v1 v2 hL4 h => ?_) v1 v2 h
  unfold lX0_hurtNow_4 at h
  refine EW_iload_n (pc2 := 5) rfl dX0_hurtNow_4 2 rfl ?_
  refine EW_aload_n (pc2 := 6) rfl dX0_hurtNow_5 0 rfl ?_
  refine AW_geti ⟨gfRX0_55, rfl⟩ (pc2 := 9) rfl dX0_hurtNow_6 q66 ?_
  refine EW_icmp_ge (tgt := 39) (pc2 := 12) rfl dX0_hurtNow_9 (by decide) (fun q => ?_) (fun q => ?_)
  · replace h := h.1 q
    refine EW_iload_n (pc2 := 40) rfl dX0_hurtNow_39 1 rfl ?_
    exact AW_iret rfl dX0_hurtNow_40 ⟨_, rfl, rfl, h⟩
  · replace h := h.2 q
    refine EW_iload_n (pc2 := 13) rfl dX0_hurtNow_12 1 rfl ?_
    refine EW_aload_n (pc2 := 14) rfl dX0_hurtNow_13 0 rfl ?_
    refine AW_getr (r := 67) ⟨gfRX0_11, rfl⟩ (pc2 := 17) rfl dX0_hurtNow_14 q66 rfl ?_
    refine EW_iload_n (pc2 := 18) rfl dX0_hurtNow_17 2 rfl ?_
    obtain ⟨b1, h⟩ := h
    refine AW_aald6 (pc2 := 19) rfl dX0_hurtNow_18 b1 ?_
    refine AW_geti ⟨gfRX0_75, rfl⟩ (pc2 := 22) rfl dX0_hurtNow_19 (isW.o (isW_of b1)) ?_
    refine EW_iconst (pc2 := 23) (v := 4) rfl dX0_hurtNow_22 (by decide) ?_
    refine EW_icmp_ne (tgt := 30) (pc2 := 26) rfl dX0_hurtNow_23 (by decide) (fun q => ?_) (fun q => ?_)
    · replace h := h.1 q
      refine EW_iconst (pc2 := 31) (v := 0) rfl dX0_hurtNow_30 (by decide) ?_
      refine EW_ls [0, 2] rfl ?_
      exact sX0_hurtNow_31 v2 v1 0 x K L4 d bc bs hdp hL4 h
    · replace h := h.2 q
      refine EW_iconst (pc2 := 27) (v := 1) rfl dX0_hurtNow_26 (by decide) ?_
      refine EW_goto (tgt := 31) dX0_hurtNow_27 (by decide) ?_
      refine EW_ls [0, 2] rfl ?_
      exact sX0_hurtNow_31 v2 v1 1 x K L4 d bc bs hdp hL4 h
set_option maxHeartbeats 4000000 in
set_option maxRecDepth 100000 in
theorem sX0_hurtNow   (x : ab_X) (K : Int32 → Prop) (d bc bs : Nat) (hdp : 0 ≤ d) (h : wX0_hurtNow  x K) : EW MX0_hurtNow 0 [(0, .ref 66)] [] (aS x) d bc bs (liP x K) := by
  unfold wX0_hurtNow at h
  refine EW_iconst (pc2 := 1) (v := 0) rfl dX0_hurtNow_0 (by decide) ?_
  refine EW_istore_n (pc2 := 2) rfl dX0_hurtNow_1 (by decide) [1, 0] [(0, .ref 66), (1, .int 0)] rfl ?_
  refine EW_iconst (pc2 := 3) (v := 0) rfl dX0_hurtNow_2 (by decide) ?_
  refine EW_istore_n (pc2 := 4) rfl dX0_hurtNow_3 (by decide) [1, 2, 0] [(0, .ref 66), (1, .int 0), (2, .int 0)] rfl ?_
  exact sX0_hurtNow_4 0 0 x K d bc bs hdp h
abbrev MX0_lackedInAll : ab_M := (yX0_lackedInAll, cX0_lackedInAll, 3, (some .int))
theorem dX0_lackedInAll_0 : decode cX0_lackedInAll 0 = .ok (.iconst 0, 1) := by decide +kernel
theorem dX0_lackedInAll_1 : decode cX0_lackedInAll 1 = .ok (.istore_n 1, 1) := by decide +kernel
theorem dX0_lackedInAll_2 : decode cX0_lackedInAll 2 = .ok (.iconst 0, 1) := by decide +kernel
theorem dX0_lackedInAll_3 : decode cX0_lackedInAll 3 = .ok (.istore_n 2, 1) := by decide +kernel
theorem dX0_lackedInAll_4 : decode cX0_lackedInAll 4 = .ok (.iload_n 2, 1) := by decide +kernel
theorem dX0_lackedInAll_5 : decode cX0_lackedInAll 5 = .ok (.aload_n 0, 1) := by decide +kernel
theorem dX0_lackedInAll_6 : decode cX0_lackedInAll 6 = .ok (.getfield 81, 3) := by decide +kernel
theorem dX0_lackedInAll_9 : decode cX0_lackedInAll 9 = .ok (.if_icmp .ge 21, 3) := by decide +kernel
theorem dX0_lackedInAll_12 : decode cX0_lackedInAll 12 = .ok (.iload_n 1, 1) := by decide +kernel
theorem dX0_lackedInAll_13 : decode cX0_lackedInAll 13 = .ok (.aload_n 0, 1) := by decide +kernel
theorem dX0_lackedInAll_14 : decode cX0_lackedInAll 14 = .ok (.getfield 19, 3) := by decide +kernel
theorem dX0_lackedInAll_17 : decode cX0_lackedInAll 17 = .ok (.iload_n 2, 1) := by decide +kernel
theorem dX0_lackedInAll_18 : decode cX0_lackedInAll 18 = .ok (.aaload, 1) := by decide +kernel
theorem dX0_lackedInAll_19 : decode cX0_lackedInAll 19 = .ok (.getfield 85, 3) := by decide +kernel
theorem dX0_lackedInAll_22 : decode cX0_lackedInAll 22 = .ok (.iadd, 1) := by decide +kernel
theorem dX0_lackedInAll_23 : decode cX0_lackedInAll 23 = .ok (.istore_n 1, 1) := by decide +kernel
theorem dX0_lackedInAll_24 : decode cX0_lackedInAll 24 = .ok (.iinc 2 1, 3) := by decide +kernel
theorem dX0_lackedInAll_27 : decode cX0_lackedInAll 27 = .ok (.goto (-23), 3) := by decide +kernel
theorem dX0_lackedInAll_30 : decode cX0_lackedInAll 30 = .ok (.iload_n 1, 1) := by decide +kernel
theorem dX0_lackedInAll_31 : decode cX0_lackedInAll 31 = .ok (.ireturn, 1) := by decide +kernel
theorem okX0_lackedInAll : ab_okM MX0_lackedInAll 0 := ⟨by decide, ⟨by decide, by decide⟩, ab_in 1758 (by decide +kernel) (by decide +kernel), ab_in 92 (by decide +kernel) (by decide +kernel), by decide +kernel, by decide⟩
set_option maxHeartbeats 4000000 in
set_option maxRecDepth 100000 in
theorem sX0_lackedInAll_4 (v1 : Int32) (v2 : Int32)  (x : ab_X) (K : Int32 → Prop)  (d bc bs : Nat) (hdp : 0 ≤ d)  (h : Lp2 (lX0_lackedInAll_4  x K ) v1 v2) : EW MX0_lackedInAll 4 [(0, .ref 66), (1, .int v1), (2, .int v2)] [] (aS x) d bc bs (liP x K) := by
  refine Lp2.use (P := fun v1 v2 => EW MX0_lackedInAll 4 [(0, .ref 66), (1, .int v1), (2, .int v2)] [] (aS x) d bc bs (liP x K)) (fun L4 v1 v2 hL4 h => ?_) v1 v2 h
  unfold lX0_lackedInAll_4 at h
  refine EW_iload_n (pc2 := 5) rfl dX0_lackedInAll_4 2 rfl ?_
  refine EW_aload_n (pc2 := 6) rfl dX0_lackedInAll_5 0 rfl ?_
  refine AW_geti ⟨gfRX0_81, rfl⟩ (pc2 := 9) rfl dX0_lackedInAll_6 q66 ?_
  refine EW_icmp_ge (tgt := 30) (pc2 := 12) rfl dX0_lackedInAll_9 (by decide) (fun q => ?_) (fun q => ?_)
  · replace h := h.1 q
    refine EW_iload_n (pc2 := 31) rfl dX0_lackedInAll_30 1 rfl ?_
    exact AW_iret rfl dX0_lackedInAll_31 ⟨_, rfl, rfl, h⟩
  · replace h := h.2 q
    refine EW_iload_n (pc2 := 13) rfl dX0_lackedInAll_12 1 rfl ?_
    refine EW_aload_n (pc2 := 14) rfl dX0_lackedInAll_13 0 rfl ?_
    refine AW_getr (r := 68) ⟨gfRX0_19, rfl⟩ (pc2 := 17) rfl dX0_lackedInAll_14 q66 rfl ?_
    refine EW_iload_n (pc2 := 18) rfl dX0_lackedInAll_17 2 rfl ?_
    obtain ⟨b1, h⟩ := h
    refine AW_aald7 (pc2 := 19) rfl dX0_lackedInAll_18 b1 ?_
    refine AW_geti ⟨gfRX0_85, rfl⟩ (pc2 := 22) rfl dX0_lackedInAll_19 (isK.o (isK_of b1)) ?_
    refine EW_iadd (pc2 := 23) rfl dX0_lackedInAll_22 ?_
    refine EW_istore_n (pc2 := 24) rfl dX0_lackedInAll_23 (by decide) [1, 0, 2] [(0, .ref 66), (1, .int (v1 + (x.1 (98 + Int32.toNatClampNeg v2) 6))), (2, .int v2)] rfl ?_
    refine EW_iinc (v2 + 1) (pc2 := 27) rfl dX0_lackedInAll_24 2 rfl rfl (by decide) [1, 2, 0] [(0, .ref 66), (1, .int (v1 + (x.1 (98 + Int32.toNatClampNeg v2) 6))), (2, .int (v2 + 1))] rfl ?_
    refine EW_goto (tgt := 4) dX0_lackedInAll_27 (by decide) ?_
    exact hL4 (v1 + (x.1 (98 + Int32.toNatClampNeg v2) 6)) (v2 + 1) h
set_option maxHeartbeats 4000000 in
set_option maxRecDepth 100000 in
theorem sX0_lackedInAll   (x : ab_X) (K : Int32 → Prop) (d bc bs : Nat) (hdp : 0 ≤ d) (h : wX0_lackedInAll  x K) : EW MX0_lackedInAll 0 [(0, .ref 66)] [] (aS x) d bc bs (liP x K) := by
  unfold wX0_lackedInAll at h
  refine EW_iconst (pc2 := 1) (v := 0) rfl dX0_lackedInAll_0 (by decide) ?_
  refine EW_istore_n (pc2 := 2) rfl dX0_lackedInAll_1 (by decide) [1, 0] [(0, .ref 66), (1, .int 0)] rfl ?_
  refine EW_iconst (pc2 := 3) (v := 0) rfl dX0_lackedInAll_2 (by decide) ?_
  refine EW_istore_n (pc2 := 4) rfl dX0_lackedInAll_3 (by decide) [1, 2, 0] [(0, .ref 66), (1, .int 0), (2, .int 0)] rfl ?_
  exact sX0_lackedInAll_4 0 0 x K d bc bs hdp h
abbrev MX0_sendHome : ab_M := (yX0_sendHome, cX0_sendHome, 2, none)
theorem dX0_sendHome_0 : decode cX0_sendHome 0 = .ok (.iconst 0, 1) := by decide +kernel
theorem dX0_sendHome_1 : decode cX0_sendHome 1 = .ok (.istore_n 1, 1) := by decide +kernel
theorem dX0_sendHome_2 : decode cX0_sendHome 2 = .ok (.iload_n 1, 1) := by decide +kernel
theorem dX0_sendHome_3 : decode cX0_sendHome 3 = .ok (.aload_n 0, 1) := by decide +kernel
theorem dX0_sendHome_4 : decode cX0_sendHome 4 = .ok (.getfield 55, 3) := by decide +kernel
theorem dX0_sendHome_7 : decode cX0_sendHome 7 = .ok (.if_icmp .ge 52, 3) := by decide +kernel
theorem dX0_sendHome_10 : decode cX0_sendHome 10 = .ok (.aload_n 0, 1) := by decide +kernel
theorem dX0_sendHome_11 : decode cX0_sendHome 11 = .ok (.getfield 11, 3) := by decide +kernel
theorem dX0_sendHome_14 : decode cX0_sendHome 14 = .ok (.iload_n 1, 1) := by decide +kernel
theorem dX0_sendHome_15 : decode cX0_sendHome 15 = .ok (.aaload, 1) := by decide +kernel
theorem dX0_sendHome_16 : decode cX0_sendHome 16 = .ok (.getfield 75, 3) := by decide +kernel
theorem dX0_sendHome_19 : decode cX0_sendHome 19 = .ok (.iconst 2, 1) := by decide +kernel
theorem dX0_sendHome_20 : decode cX0_sendHome 20 = .ok (.if_icmp .ne 33, 3) := by decide +kernel
theorem dX0_sendHome_23 : decode cX0_sendHome 23 = .ok (.aload_n 0, 1) := by decide +kernel
theorem dX0_sendHome_24 : decode cX0_sendHome 24 = .ok (.getfield 49, 3) := by decide +kernel
theorem dX0_sendHome_27 : decode cX0_sendHome 27 = .ok (.aload_n 0, 1) := by decide +kernel
theorem dX0_sendHome_28 : decode cX0_sendHome 28 = .ok (.getfield 11, 3) := by decide +kernel
theorem dX0_sendHome_31 : decode cX0_sendHome 31 = .ok (.iload_n 1, 1) := by decide +kernel
theorem dX0_sendHome_32 : decode cX0_sendHome 32 = .ok (.aaload, 1) := by decide +kernel
theorem dX0_sendHome_33 : decode cX0_sendHome 33 = .ok (.getfield 69, 3) := by decide +kernel
theorem dX0_sendHome_36 : decode cX0_sendHome 36 = .ok (.invokevirtual 115, 3) := by decide +kernel
theorem dX0_sendHome_39 : decode cX0_sendHome 39 = .ok (.iconst (-1), 1) := by decide +kernel
theorem dX0_sendHome_40 : decode cX0_sendHome 40 = .ok (.if_icmp .ne 13, 3) := by decide +kernel
theorem dX0_sendHome_43 : decode cX0_sendHome 43 = .ok (.aload_n 0, 1) := by decide +kernel
theorem dX0_sendHome_44 : decode cX0_sendHome 44 = .ok (.aload_n 0, 1) := by decide +kernel
theorem dX0_sendHome_45 : decode cX0_sendHome 45 = .ok (.getfield 11, 3) := by decide +kernel
theorem dX0_sendHome_48 : decode cX0_sendHome 48 = .ok (.iload_n 1, 1) := by decide +kernel
theorem dX0_sendHome_49 : decode cX0_sendHome 49 = .ok (.aaload, 1) := by decide +kernel
theorem dX0_sendHome_50 : decode cX0_sendHome 50 = .ok (.invokevirtual 260, 3) := by decide +kernel
theorem dX0_sendHome_53 : decode cX0_sendHome 53 = .ok (.iinc 1 1, 3) := by decide +kernel
theorem dX0_sendHome_56 : decode cX0_sendHome 56 = .ok (.goto (-54), 3) := by decide +kernel
theorem dX0_sendHome_59 : decode cX0_sendHome 59 = .ok (.return_, 1) := by decide +kernel
theorem okX0_sendHome : ab_okM MX0_sendHome 0 := ⟨by decide, ⟨by decide, by decide⟩, ab_in 1503 (by decide +kernel) (by decide +kernel), ab_in 92 (by decide +kernel) (by decide +kernel), by decide +kernel, by decide⟩
set_option maxHeartbeats 4000000 in
set_option maxRecDepth 100000 in
theorem sX0_sendHome_2 (v1 : Int32)  (x : ab_X) (K : ab_X → Prop)  (d bc bs : Nat) (hdp : 4 ≤ d)  (h : Lp2 (lX0_sendHome_2  K ) v1 x) : EW MX0_sendHome 2 [(0, .ref 66), (1, .int v1)] [] (aS x) d bc bs (liV K) := by
  refine Lp2.use (P := fun v1 x => EW MX0_sendHome 2 [(0, .ref 66), (1, .int v1)] [] (aS x) d bc bs (liV K)) (fun L2 v1 x hL2 h => ?_) v1 x h
  unfold lX0_sendHome_2 at h
  refine EW_iload_n (pc2 := 3) rfl dX0_sendHome_2 1 rfl ?_
  refine EW_aload_n (pc2 := 4) rfl dX0_sendHome_3 0 rfl ?_
  refine AW_geti ⟨gfRX0_55, rfl⟩ (pc2 := 7) rfl dX0_sendHome_4 q66 ?_
  refine EW_icmp_ge (tgt := 59) (pc2 := 10) rfl dX0_sendHome_7 (by decide) (fun q => ?_) (fun q => ?_)
  · replace h := h.1 q
    exact EW_vret rfl dX0_sendHome_59 ⟨_, rfl, rfl, h⟩
  · replace h := h.2 q
    refine EW_aload_n (pc2 := 11) rfl dX0_sendHome_10 0 rfl ?_
    refine AW_getr (r := 67) ⟨gfRX0_11, rfl⟩ (pc2 := 14) rfl dX0_sendHome_11 q66 rfl ?_
    refine EW_iload_n (pc2 := 15) rfl dX0_sendHome_14 1 rfl ?_
    obtain ⟨b1, h⟩ := h
    refine AW_aald6 (pc2 := 16) rfl dX0_sendHome_15 b1 ?_
    refine AW_geti ⟨gfRX0_75, rfl⟩ (pc2 := 19) rfl dX0_sendHome_16 (isW.o (isW_of b1)) ?_
    refine EW_iconst (pc2 := 20) (v := 2) rfl dX0_sendHome_19 (by decide) ?_
    refine EW_icmp_ne (tgt := 53) (pc2 := 23) rfl dX0_sendHome_20 (by decide) (fun q => ?_) (fun q => ?_)
    · replace h := h.1 q
      refine EW_iinc (v1 + 1) (pc2 := 56) rfl dX0_sendHome_53 1 rfl rfl (by decide) [1, 0] [(0, .ref 66), (1, .int (v1 + 1))] rfl ?_
      refine EW_goto (tgt := 2) dX0_sendHome_56 (by decide) ?_
      exact hL2 (v1 + 1) x h
    · replace h := h.2 q
      refine EW_aload_n (pc2 := 24) rfl dX0_sendHome_23 0 rfl ?_
      refine AW_getr (r := 9) ⟨gfRX0_49, rfl⟩ (pc2 := 27) rfl dX0_sendHome_24 q66 rfl ?_
      refine EW_aload_n (pc2 := 28) rfl dX0_sendHome_27 0 rfl ?_
      refine AW_getr (r := 67) ⟨gfRX0_11, rfl⟩ (pc2 := 31) rfl dX0_sendHome_28 q66 rfl ?_
      refine EW_iload_n (pc2 := 32) rfl dX0_sendHome_31 1 rfl ?_
      obtain ⟨b2, h⟩ := h
      refine AW_aald6 (pc2 := 33) rfl dX0_sendHome_32 b2 ?_
      refine AW_geti ⟨gfRX0_69, rfl⟩ (pc2 := 36) rfl dX0_sendHome_33 (isW.o (isW_of b2)) ?_
      refine AW_invV (M' := MX10_worstAt) [.int (x.1 (82 + Int32.toNatClampNeg v1) 9)] (rest := []) mlRX0_115 okX10_worstAt (pc2 := 39) rfl dX0_sendHome_36 rfl rfl (Nat.le_of_ble_eq_true rfl) (Nat.le_of_ble_eq_true rfl) (d' := 2) (by omega) q9 ⟨by decide, rfl⟩ (EW_mono (fun _ _ hr => ?_) (sX10_worstAt (x.1 (82 + Int32.toNatClampNeg v1) 9)  x _ _ 0 0 (Nat.le_refl _) h))
      obtain ⟨r3, rfl, rfl, h⟩ := hr
      refine EW_iconst (pc2 := 40) (v := (-1)) rfl dX0_sendHome_39 (by decide) ?_
      refine EW_icmp_ne (tgt := 53) (pc2 := 43) rfl dX0_sendHome_40 (by decide) (fun q => ?_) (fun q => ?_)
      · replace h := h.1 q
        refine EW_iinc (v1 + 1) (pc2 := 56) rfl dX0_sendHome_53 1 rfl rfl (by decide) [1, 0] [(0, .ref 66), (1, .int (v1 + 1))] rfl ?_
        refine EW_goto (tgt := 2) dX0_sendHome_56 (by decide) ?_
        exact hL2 (v1 + 1) x h
      · replace h := h.2 q
        refine EW_aload_n (pc2 := 44) rfl dX0_sendHome_43 0 rfl ?_
        refine EW_aload_n (pc2 := 45) rfl dX0_sendHome_44 0 rfl ?_
        refine AW_getr (r := 67) ⟨gfRX0_11, rfl⟩ (pc2 := 48) rfl dX0_sendHome_45 q66 rfl ?_
        refine EW_iload_n (pc2 := 49) rfl dX0_sendHome_48 1 rfl ?_
        obtain ⟨b4, h⟩ := h
        refine AW_aald6 (pc2 := 50) rfl dX0_sendHome_49 b4 ?_
        refine AW_invV (M' := MX0_turnHome) [.ref (82 + Int32.toNatClampNeg v1)] (rest := []) mlRX0_260 okX0_turnHome (pc2 := 53) rfl dX0_sendHome_50 rfl rfl (Nat.le_of_ble_eq_true rfl) (Nat.le_of_ble_eq_true rfl) (d' := 3) (by omega) q66 ⟨by decide, rfl⟩ (EW_mono (fun _ _ hr => ?_) (sX0_turnHome (82 + Int32.toNatClampNeg v1) (isW_of b4) x _ _ 0 0 (Nat.le_refl _) h))
        obtain ⟨x5, rfl, rfl, h⟩ := hr
        refine EW_iinc (v1 + 1) (pc2 := 56) rfl dX0_sendHome_53 1 rfl rfl (by decide) [1, 0] [(0, .ref 66), (1, .int (v1 + 1))] rfl ?_
        refine EW_goto (tgt := 2) dX0_sendHome_56 (by decide) ?_
        exact hL2 (v1 + 1) x5 h
set_option maxHeartbeats 4000000 in
set_option maxRecDepth 100000 in
theorem sX0_sendHome   (x : ab_X) (K : ab_X → Prop) (d bc bs : Nat) (hdp : 4 ≤ d) (h : wX0_sendHome  x K) : EW MX0_sendHome 0 [(0, .ref 66)] [] (aS x) d bc bs (liV K) := by
  unfold wX0_sendHome at h
  refine EW_iconst (pc2 := 1) (v := 0) rfl dX0_sendHome_0 (by decide) ?_
  refine EW_istore_n (pc2 := 2) rfl dX0_sendHome_1 (by decide) [1, 0] [(0, .ref 66), (1, .int 0)] rfl ?_
  exact sX0_sendHome_2 0 x K d bc bs hdp h
theorem gfRX0_387 : ab_L RX0 387 2 16 := ⟨by decide, by decide, ab_in 452 (by decide +kernel) (by decide +kernel)⟩
theorem gfRX0_390 : ab_L RX0 390 4 16 := ⟨by decide, by decide, ab_in 271 (by decide +kernel) (by decide +kernel)⟩
theorem gfRX0_42 : ab_L RX0 42 0 11 := ⟨by decide, by decide, ab_in 562 (by decide +kernel) (by decide +kernel)⟩
theorem gfRX0_384 : ab_L RX0 384 10 5 := ⟨by decide, by decide, ab_in 322 (by decide +kernel) (by decide +kernel)⟩
abbrev MX0_pour : ab_M := (yX0_pour, cX0_pour, 5, none)
theorem dX0_pour_0 : decode cX0_pour 0 = .ok (.aload_n 0, 1) := by decide +kernel
theorem dX0_pour_1 : decode cX0_pour 1 = .ok (.getfield 42, 3) := by decide +kernel
theorem dX0_pour_4 : decode cX0_pour 4 = .ok (.aload_n 1, 1) := by decide +kernel
theorem dX0_pour_5 : decode cX0_pour 5 = .ok (.getfield 332, 3) := by decide +kernel
theorem dX0_pour_8 : decode cX0_pour 8 = .ok (.iaload, 1) := by decide +kernel
theorem dX0_pour_9 : decode cX0_pour 9 = .ok (.istore_n 3, 1) := by decide +kernel
theorem dX0_pour_10 : decode cX0_pour 10 = .ok (.aload_n 0, 1) := by decide +kernel
theorem dX0_pour_11 : decode cX0_pour 11 = .ok (.getfield 49, 3) := by decide +kernel
theorem dX0_pour_14 : decode cX0_pour 14 = .ok (.getfield 384, 3) := by decide +kernel
theorem dX0_pour_17 : decode cX0_pour 17 = .ok (.aload_n 1, 1) := by decide +kernel
theorem dX0_pour_18 : decode cX0_pour 18 = .ok (.getfield 332, 3) := by decide +kernel
theorem dX0_pour_21 : decode cX0_pour 21 = .ok (.iaload, 1) := by decide +kernel
theorem dX0_pour_22 : decode cX0_pour 22 = .ok (.istore 4, 2) := by decide +kernel
theorem dX0_pour_24 : decode cX0_pour 24 = .ok (.aload_n 1, 1) := by decide +kernel
theorem dX0_pour_25 : decode cX0_pour 25 = .ok (.iload_n 3, 1) := by decide +kernel
theorem dX0_pour_26 : decode cX0_pour 26 = .ok (.iload 4, 2) := by decide +kernel
theorem dX0_pour_28 : decode cX0_pour 28 = .ok (.if_icmp .le 8, 3) := by decide +kernel
theorem dX0_pour_31 : decode cX0_pour 31 = .ok (.iload_n 3, 1) := by decide +kernel
theorem dX0_pour_32 : decode cX0_pour 32 = .ok (.iconst 1, 1) := by decide +kernel
theorem dX0_pour_33 : decode cX0_pour 33 = .ok (.if_icmp .ge 10, 3) := by decide +kernel
theorem dX0_pour_36 : decode cX0_pour 36 = .ok (.aload_n 1, 1) := by decide +kernel
theorem dX0_pour_37 : decode cX0_pour 37 = .ok (.getfield 338, 3) := by decide +kernel
theorem dX0_pour_40 : decode cX0_pour 40 = .ok (.goto 12, 3) := by decide +kernel
theorem dX0_pour_43 : decode cX0_pour 43 = .ok (.aload_n 1, 1) := by decide +kernel
theorem dX0_pour_44 : decode cX0_pour 44 = .ok (.getfield 338, 3) := by decide +kernel
theorem dX0_pour_47 : decode cX0_pour 47 = .ok (.iload 4, 2) := by decide +kernel
theorem dX0_pour_49 : decode cX0_pour 49 = .ok (.imul, 1) := by decide +kernel
theorem dX0_pour_50 : decode cX0_pour 50 = .ok (.iload_n 3, 1) := by decide +kernel
theorem dX0_pour_51 : decode cX0_pour 51 = .ok (.idiv, 1) := by decide +kernel
theorem dX0_pour_52 : decode cX0_pour 52 = .ok (.putfield 387, 3) := by decide +kernel
theorem dX0_pour_55 : decode cX0_pour 55 = .ok (.aload_n 0, 1) := by decide +kernel
theorem dX0_pour_56 : decode cX0_pour 56 = .ok (.getfield 49, 3) := by decide +kernel
theorem dX0_pour_59 : decode cX0_pour 59 = .ok (.getfield 100, 3) := by decide +kernel
theorem dX0_pour_62 : decode cX0_pour 62 = .ok (.getfield 347, 3) := by decide +kernel
theorem dX0_pour_65 : decode cX0_pour 65 = .ok (.aload_n 2, 1) := by decide +kernel
theorem dX0_pour_66 : decode cX0_pour 66 = .ok (.aload_n 1, 1) := by decide +kernel
theorem dX0_pour_67 : decode cX0_pour 67 = .ok (.getfield 326, 3) := by decide +kernel
theorem dX0_pour_70 : decode cX0_pour 70 = .ok (.invokevirtual 350, 3) := by decide +kernel
theorem dX0_pour_73 : decode cX0_pour 73 = .ok (.dup2, 1) := by decide +kernel
theorem dX0_pour_74 : decode cX0_pour 74 = .ok (.iaload, 1) := by decide +kernel
theorem dX0_pour_75 : decode cX0_pour 75 = .ok (.aload_n 1, 1) := by decide +kernel
theorem dX0_pour_76 : decode cX0_pour 76 = .ok (.getfield 387, 3) := by decide +kernel
theorem dX0_pour_79 : decode cX0_pour 79 = .ok (.iadd, 1) := by decide +kernel
theorem dX0_pour_80 : decode cX0_pour 80 = .ok (.iastore, 1) := by decide +kernel
theorem dX0_pour_81 : decode cX0_pour 81 = .ok (.aload_n 2, 1) := by decide +kernel
theorem dX0_pour_82 : decode cX0_pour 82 = .ok (.dup, 1) := by decide +kernel
theorem dX0_pour_83 : decode cX0_pour 83 = .ok (.getfield 390, 3) := by decide +kernel
theorem dX0_pour_86 : decode cX0_pour 86 = .ok (.aload_n 1, 1) := by decide +kernel
theorem dX0_pour_87 : decode cX0_pour 87 = .ok (.getfield 387, 3) := by decide +kernel
theorem dX0_pour_90 : decode cX0_pour 90 = .ok (.iadd, 1) := by decide +kernel
theorem dX0_pour_91 : decode cX0_pour 91 = .ok (.putfield 390, 3) := by decide +kernel
theorem dX0_pour_94 : decode cX0_pour 94 = .ok (.return_, 1) := by decide +kernel
theorem okX0_pour : ab_okM MX0_pour 2 := ⟨by decide, ⟨by decide, by decide⟩, ab_in 1436 (by decide +kernel) (by decide +kernel), ab_in 92 (by decide +kernel) (by decide +kernel), by decide +kernel, by decide⟩
set_option maxHeartbeats 4000000 in
set_option maxRecDepth 100000 in
theorem sX0_pour_52 (v1 : Nat) (v2 : Nat) (s0 : Nat) (s1 : Int32) (hv1 : isW v1) (hv2 : isH v2) (hs0 : isW s0) (x : ab_X) (K : ab_X → Prop)  (d bc bs : Nat) (hdp : 1 ≤ d)  (h : wX0_pour_52 v1 v2 s0 s1 x K ) : EW MX0_pour 52 [(0, .ref 66), (1, .ref v1), (2, .ref v2)] [.int s1, .ref s0] (aS x) d bc bs (liV K) := by
  unfold wX0_pour_52 at h
  refine AW_puti ⟨gfRX0_387, rfl, rfl⟩ (pc2 := 55) rfl dX0_pour_52 (isW.o hs0) ?_
  refine EW_aload_n (pc2 := 56) rfl dX0_pour_55 0 rfl ?_
  refine AW_getr (r := 9) ⟨gfRX0_49, rfl⟩ (pc2 := 59) rfl dX0_pour_56 q66 rfl ?_
  refine AW_getr (r := 11) ⟨gfRX0_100, rfl⟩ (pc2 := 62) rfl dX0_pour_59 q9 rfl ?_
  refine AW_getr (r := 14) ⟨gfRX0_347, rfl⟩ (pc2 := 65) rfl dX0_pour_62 q11 rfl ?_
  refine EW_aload_n (pc2 := 66) rfl dX0_pour_65 2 rfl ?_
  refine EW_aload_n (pc2 := 67) rfl dX0_pour_66 1 rfl ?_
  refine AW_geti ⟨gfRX0_326, rfl⟩ (pc2 := 70) rfl dX0_pour_67 (isW.o hv1) ?_
  refine AW_invV (M' := MX4_place) [.int ((wr x s0 16 s1).1 v1 19)] (rest := [.ref 14]) mlRX0_350 okX4_place (pc2 := 73) rfl dX0_pour_70 rfl rfl (Nat.le_of_ble_eq_true rfl) (Nat.le_of_ble_eq_true rfl) (d' := 0) (by omega) (isH.o hv2) ⟨by decide, rfl⟩ (EW_mono (fun _ _ hr => ?_) (sX4_place v2 ((wr x s0 16 s1).1 v1 19) hv2 (wr x s0 16 s1) _ _ 0 0 (Nat.le_refl _) h))
  obtain ⟨r3, rfl, rfl, h⟩ := hr
  refine EW_dup2 (pc2 := 74) rfl dX0_pour_73 rfl rfl ?_
  obtain ⟨b4, h⟩ := h
  refine AW_iald (pc2 := 75) rfl dX0_pour_74 q14 b4 ?_
  refine EW_aload_n (pc2 := 76) rfl dX0_pour_75 1 rfl ?_
  refine AW_geti ⟨gfRX0_387, rfl⟩ (pc2 := 79) rfl dX0_pour_76 (isW.o hv1) ?_
  refine EW_iadd (pc2 := 80) rfl dX0_pour_79 ?_
  obtain ⟨b5, h⟩ := h
  refine AW_iast (pc2 := 81) rfl dX0_pour_80 q14 b5 ?_
  refine EW_aload_n (pc2 := 82) rfl dX0_pour_81 2 rfl ?_
  refine EW_dup (pc2 := 83) rfl dX0_pour_82 rfl ?_
  refine AW_geti ⟨gfRX0_390, rfl⟩ (pc2 := 86) rfl dX0_pour_83 (isH.o hv2) ?_
  refine EW_aload_n (pc2 := 87) rfl dX0_pour_86 1 rfl ?_
  refine AW_geti ⟨gfRX0_387, rfl⟩ (pc2 := 90) rfl dX0_pour_87 (isW.o hv1) ?_
  refine EW_iadd (pc2 := 91) rfl dX0_pour_90 ?_
  refine AW_puti ⟨gfRX0_390, rfl, rfl⟩ (pc2 := 94) rfl dX0_pour_91 (isH.o hv2) ?_
  exact EW_vret rfl dX0_pour_94 ⟨_, rfl, rfl, h⟩
set_option maxHeartbeats 4000000 in
set_option maxRecDepth 100000 in
theorem sX0_pour_36 (v1 : Nat) (v2 : Nat) (s0 : Nat) (hv1 : isW v1) (hv2 : isH v2) (hs0 : isW s0) (x : ab_X) (K : ab_X → Prop)  (d bc bs : Nat) (hdp : 1 ≤ d)  (h : wX0_pour_36 v1 v2 s0 x K ) : EW MX0_pour 36 [(0, .ref 66), (1, .ref v1), (2, .ref v2)] [.ref s0] (aS x) d bc bs (liV K) := by
  unfold wX0_pour_36 at h
  refine EW_aload_n (pc2 := 37) rfl dX0_pour_36 1 rfl ?_
  refine AW_geti ⟨gfRX0_338, rfl⟩ (pc2 := 40) rfl dX0_pour_37 (isW.o hv1) ?_
  refine EW_goto (tgt := 52) dX0_pour_40 (by decide) ?_
  exact sX0_pour_52 v1 v2 s0 (x.1 v1 17) hv1 hv2 hs0 x K d bc bs hdp h
set_option maxHeartbeats 4000000 in
set_option maxRecDepth 100000 in
theorem sX0_pour (v1 : Nat) (v2 : Nat) (hv1 : isW v1) (hv2 : isH v2) (x : ab_X) (K : ab_X → Prop) (d bc bs : Nat) (hdp : 1 ≤ d) (h : wX0_pour v1 v2 x K) : EW MX0_pour 0 [(0, .ref 66), (1, .ref v1), (2, .ref v2)] [] (aS x) d bc bs (liV K) := by
  unfold wX0_pour at h
  refine EW_aload_n (pc2 := 1) rfl dX0_pour_0 0 rfl ?_
  refine AW_getr (r := 81) ⟨gfRX0_42, rfl⟩ (pc2 := 4) rfl dX0_pour_1 q66 rfl ?_
  refine EW_aload_n (pc2 := 5) rfl dX0_pour_4 1 rfl ?_
  refine AW_geti ⟨gfRX0_332, rfl⟩ (pc2 := 8) rfl dX0_pour_5 (isW.o hv1) ?_
  obtain ⟨b1, h⟩ := h
  refine AW_iald (pc2 := 9) rfl dX0_pour_8 q81 b1 ?_
  refine EW_istore_n (pc2 := 10) rfl dX0_pour_9 (by decide) [1, 2, 3, 0] [(0, .ref 66), (1, .ref v1), (2, .ref v2), (3, .int (x.1 81 (Int32.toNatClampNeg (x.1 v1 18))))] rfl ?_
  refine EW_aload_n (pc2 := 11) rfl dX0_pour_10 0 rfl ?_
  refine AW_getr (r := 9) ⟨gfRX0_49, rfl⟩ (pc2 := 14) rfl dX0_pour_11 q66 rfl ?_
  refine AW_getr (r := 27) ⟨gfRX0_384, rfl⟩ (pc2 := 17) rfl dX0_pour_14 q9 rfl ?_
  refine EW_aload_n (pc2 := 18) rfl dX0_pour_17 1 rfl ?_
  refine AW_geti ⟨gfRX0_332, rfl⟩ (pc2 := 21) rfl dX0_pour_18 (isW.o hv1) ?_
  obtain ⟨b2, h⟩ := h
  refine AW_iald (pc2 := 22) rfl dX0_pour_21 q27 b2 ?_
  refine EW_istore (pc2 := 24) rfl dX0_pour_22 (by decide) [1, 2, 3, 4, 0] [(0, .ref 66), (1, .ref v1), (2, .ref v2), (3, .int (x.1 81 (Int32.toNatClampNeg (x.1 v1 18)))), (4, .int (x.1 27 (Int32.toNatClampNeg (x.1 v1 18))))] rfl ?_
  refine EW_aload_n (pc2 := 25) rfl dX0_pour_24 1 rfl ?_
  refine EW_iload_n (pc2 := 26) rfl dX0_pour_25 3 rfl ?_
  refine EW_iload (pc2 := 28) rfl dX0_pour_26 4 rfl ?_
  refine EW_icmp_le (tgt := 36) (pc2 := 31) rfl dX0_pour_28 (by decide) (fun q => ?_) (fun q => ?_)
  · replace h := h.1 q
    refine EW_ls [0, 1, 2] rfl ?_
    exact sX0_pour_36 v1 v2 v1 hv1 hv2 hv1 x K d bc bs hdp h
  · replace h := h.2 q
    refine EW_iload_n (pc2 := 32) rfl dX0_pour_31 3 rfl ?_
    refine EW_iconst (pc2 := 33) (v := 1) rfl dX0_pour_32 (by decide) ?_
    refine EW_icmp_ge (tgt := 43) (pc2 := 36) rfl dX0_pour_33 (by decide) (fun q => ?_) (fun q => ?_)
    · replace h := h.1 q
      refine EW_aload_n (pc2 := 44) rfl dX0_pour_43 1 rfl ?_
      refine AW_geti ⟨gfRX0_338, rfl⟩ (pc2 := 47) rfl dX0_pour_44 (isW.o hv1) ?_
      refine EW_iload (pc2 := 49) rfl dX0_pour_47 4 rfl ?_
      refine EW_imul (pc2 := 50) rfl dX0_pour_49 ?_
      refine EW_iload_n (pc2 := 51) rfl dX0_pour_50 3 rfl ?_
      obtain ⟨hz, h⟩ := h
      refine EW_idiv (pc2 := 52) rfl dX0_pour_51 hz ?_
      refine EW_ls [0, 1, 2] rfl ?_
      exact sX0_pour_52 v1 v2 v1 (((x.1 v1 17) * (x.1 27 (Int32.toNatClampNeg (x.1 v1 18)))) / (x.1 81 (Int32.toNatClampNeg (x.1 v1 18)))) hv1 hv2 hv1 x K d bc bs hdp h
    · replace h := h.2 q
      refine EW_ls [0, 1, 2] rfl ?_
      exact sX0_pour_36 v1 v2 v1 hv1 hv2 hv1 x K d bc bs hdp h
theorem gfRX3_18 : ab_L RX3 18 3 2 := ⟨by decide, by decide, ab_in 180 (by decide +kernel) (by decide +kernel)⟩
theorem mlRX3_44 : Cond.methodLink RX3 44 yJ7_fill_53178 ∈ ab_G ∧ Cond.static yJ7_fill_53178 ∈ ab_G := ⟨ab_in 1386 (by decide +kernel) (by decide +kernel), ab_in 128 (by decide +kernel) (by decide +kernel)⟩
abbrev MX3_dry : ab_M := (yX3_dry, cX3_dry, 1, none)
theorem dX3_dry_0 : decode cX3_dry 0 = .ok (.aload_n 0, 1) := by decide +kernel
theorem dX3_dry_1 : decode cX3_dry 1 = .ok (.getfield 34, 3) := by decide +kernel
theorem dX3_dry_4 : decode cX3_dry 4 = .ok (.ifCond .ne 11, 3) := by decide +kernel
theorem dX3_dry_7 : decode cX3_dry 7 = .ok (.aload_n 0, 1) := by decide +kernel
theorem dX3_dry_8 : decode cX3_dry 8 = .ok (.getfield 18, 3) := by decide +kernel
theorem dX3_dry_11 : decode cX3_dry 11 = .ok (.iconst 0, 1) := by decide +kernel
theorem dX3_dry_12 : decode cX3_dry 12 = .ok (.invokestatic 44, 3) := by decide +kernel
theorem dX3_dry_15 : decode cX3_dry 15 = .ok (.return_, 1) := by decide +kernel
theorem okX3_dry : ab_okM MX3_dry 0 := ⟨by decide, ⟨by decide, by decide⟩, ab_in 1385 (by decide +kernel) (by decide +kernel), ab_in 90 (by decide +kernel) (by decide +kernel), by decide +kernel, by decide⟩
set_option maxHeartbeats 4000000 in
set_option maxRecDepth 100000 in
theorem sX3_dry (v0 : Nat) (hv0 : isF v0) (x : ab_X) (K : ab_X → Prop) (d bc bs : Nat) (hdp : 1 ≤ d) (h : wX3_dry v0 x K) : EW MX3_dry 0 [(0, .ref v0)] [] (aS x) d bc bs (liV K) := by
  unfold wX3_dry at h
  refine EW_aload_n (pc2 := 1) rfl dX3_dry_0 0 rfl ?_
  refine AW_geti ⟨gfRX3_34, rfl⟩ (pc2 := 4) rfl dX3_dry_1 (isF.o hv0) ?_
  refine EW_if_ne (tgt := 15) (pc2 := 7) rfl dX3_dry_4 (by decide) (fun q => ?_) (fun q => ?_)
  · replace h := h.1 q
    exact EW_vret rfl dX3_dry_15 ⟨_, rfl, rfl, h⟩
  · replace h := h.2 q
    refine EW_aload_n (pc2 := 8) rfl dX3_dry_7 0 rfl ?_
    refine AW_getr (r := (v0 + 3)) ⟨gfRX3_18, rfl⟩ (pc2 := 11) rfl dX3_dry_8 (isF.o hv0) (isF.r2 hv0) ?_
    refine EW_iconst (pc2 := 12) (v := 0) rfl dX3_dry_11 (by decide) ?_
    refine AW_invS (M' := MJ7_fill_53178) [.ref (v0 + 3), .int 0] (rest := []) mlRX3_44 okJ7_fill_53178 (pc2 := 15) rfl dX3_dry_12 rfl rfl (Nat.le_of_ble_eq_true rfl) (Nat.le_of_ble_eq_true rfl) (d' := 0) (by omega) (EW_mono (fun _ _ hr => ?_) (sJ7_fill_53178 (v0 + 3) 288 0 (isF.a2 hv0) x _ _ 0 0 (Nat.le_refl _) h))
    obtain ⟨x1, rfl, rfl, h⟩ := hr
    exact EW_vret rfl dX3_dry_15 ⟨_, rfl, rfl, h⟩
