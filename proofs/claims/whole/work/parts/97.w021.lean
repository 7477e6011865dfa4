theorem mlRX12_608 : Cond.methodLink RX12 608 yX12_failsBy ∈ ab_G ∧ Cond.instanceMethod yX12_failsBy ∈ ab_G ∧ Cond.selects RX12 yX12_failsBy yX12_failsBy ∈ ab_G := ⟨ab_in 2643 (by decide +kernel) (by decide +kernel), ab_in 2645 (by decide +kernel) (by decide +kernel), ab_in 75 (by decide +kernel) (by decide +kernel)⟩
abbrev MX12_code : ab_M := (yX12_code, cX12_code, 4, (some .int))
theorem dX12_code_0 : decode cX12_code 0 = .ok (.aload_n 0, 1) := by decide +kernel
theorem dX12_code_1 : decode cX12_code 1 = .ok (.iconst 0, 1) := by decide +kernel
theorem dX12_code_2 : decode cX12_code 2 = .ok (.putfield 297, 3) := by decide +kernel
theorem dX12_code_5 : decode cX12_code 5 = .ok (.aload_n 0, 1) := by decide +kernel
theorem dX12_code_6 : decode cX12_code 6 = .ok (.iload_n 1, 1) := by decide +kernel
theorem dX12_code_7 : decode cX12_code 7 = .ok (.invokevirtual 334, 3) := by decide +kernel
theorem dX12_code_10 : decode cX12_code 10 = .ok (.ifCond .eq 15, 3) := by decide +kernel
theorem dX12_code_13 : decode cX12_code 13 = .ok (.iload_n 2, 1) := by decide +kernel
theorem dX12_code_14 : decode cX12_code 14 = .ok (.iconst 0, 1) := by decide +kernel
theorem dX12_code_15 : decode cX12_code 15 = .ok (.aload_n 0, 1) := by decide +kernel
theorem dX12_code_16 : decode cX12_code 16 = .ok (.getfield 395, 3) := by decide +kernel
theorem dX12_code_19 : decode cX12_code 19 = .ok (.invokestatic 307, 3) := by decide +kernel
theorem dX12_code_22 : decode cX12_code 22 = .ok (.ifCond .ne 5, 3) := by decide +kernel
theorem dX12_code_25 : decode cX12_code 25 = .ok (.iconst (-1), 1) := by decide +kernel
theorem dX12_code_26 : decode cX12_code 26 = .ok (.ireturn, 1) := by decide +kernel
theorem dX12_code_27 : decode cX12_code 27 = .ok (.iload_n 3, 1) := by decide +kernel
theorem dX12_code_28 : decode cX12_code 28 = .ok (.iconst 0, 1) := by decide +kernel
theorem dX12_code_29 : decode cX12_code 29 = .ok (.aload_n 0, 1) := by decide +kernel
theorem dX12_code_30 : decode cX12_code 30 = .ok (.iload_n 1, 1) := by decide +kernel
theorem dX12_code_31 : decode cX12_code 31 = .ok (.iload_n 2, 1) := by decide +kernel
theorem dX12_code_32 : decode cX12_code 32 = .ok (.invokevirtual 608, 3) := by decide +kernel
theorem dX12_code_35 : decode cX12_code 35 = .ok (.iconst 1, 1) := by decide +kernel
theorem dX12_code_36 : decode cX12_code 36 = .ok (.isub, 1) := by decide +kernel
theorem dX12_code_37 : decode cX12_code 37 = .ok (.invokestatic 307, 3) := by decide +kernel
theorem dX12_code_40 : decode cX12_code 40 = .ok (.ifCond .eq 12, 3) := by decide +kernel
theorem dX12_code_43 : decode cX12_code 43 = .ok (.aload_n 0, 1) := by decide +kernel
theorem dX12_code_44 : decode cX12_code 44 = .ok (.getfield 198, 3) := by decide +kernel
theorem dX12_code_47 : decode cX12_code 47 = .ok (.iload_n 3, 1) := by decide +kernel
theorem dX12_code_48 : decode cX12_code 48 = .ok (.iaload, 1) := by decide +kernel
theorem dX12_code_49 : decode cX12_code 49 = .ok (.goto 4, 3) := by decide +kernel
theorem dX12_code_52 : decode cX12_code 52 = .ok (.iconst (-1), 1) := by decide +kernel
theorem dX12_code_53 : decode cX12_code 53 = .ok (.ireturn, 1) := by decide +kernel
theorem okX12_code : ab_okM MX12_code 3 := ⟨by decide, ⟨by decide, by decide⟩, ab_in 2654 (by decide +kernel) (by decide +kernel), ab_in 99 (by decide +kernel) (by decide +kernel), by decide +kernel, by decide⟩
set_option maxHeartbeats 4000000 in
set_option maxRecDepth 100000 in
theorem sX12_code (v1 : Int32) (v2 : Int32) (v3 : Int32)  (x : ab_X) (K : Int32 → ab_X → Prop) (d bc bs : Nat) (hdp : 211 ≤ d) (h : wX12_code v1 v2 v3 x K) : EW MX12_code 0 [(0, .ref 246), (1, .int v1), (2, .int v2), (3, .int v3)] [] (aS x) d bc bs (liI K) := by
  unfold wX12_code at h
  refine EW_aload_n (pc2 := 1) rfl dX12_code_0 0 rfl ?_
  refine EW_iconst (pc2 := 2) (v := 0) rfl dX12_code_1 (by decide) ?_
  refine AW_puti ⟨gfRX12_297, rfl, rfl⟩ (pc2 := 5) rfl dX12_code_2 q246 ?_
  refine EW_aload_n (pc2 := 6) rfl dX12_code_5 0 rfl ?_
  refine EW_iload_n (pc2 := 7) rfl dX12_code_6 1 rfl ?_
  refine AW_invV (M' := MX12_isHouse) [.int v1] (rest := []) mlRX12_334 okX12_isHouse (pc2 := 10) rfl dX12_code_7 rfl rfl (Nat.le_of_ble_eq_true rfl) (Nat.le_of_ble_eq_true rfl) (d' := 0) (by omega) q246 ⟨by decide, rfl⟩ (EW_mono (fun _ _ hr => ?_) (sX12_isHouse v1  (wr x 246 0 0) _ _ 0 0 (Nat.le_refl _) h))
  obtain ⟨r1, rfl, rfl, h⟩ := hr
  refine EW_if_eq (tgt := 25) (pc2 := 13) rfl dX12_code_10 (by decide) (fun q => ?_) (fun q => ?_)
  · replace h := h.1 q
    refine EW_iconst (pc2 := 26) (v := (-1)) rfl dX12_code_25 (by decide) ?_
    exact AW_iret rfl dX12_code_26 ⟨_, _, rfl, rfl, h⟩
  · replace h := h.2 q
    refine EW_iload_n (pc2 := 14) rfl dX12_code_13 2 rfl ?_
    refine EW_iconst (pc2 := 15) (v := 0) rfl dX12_code_14 (by decide) ?_
    refine EW_aload_n (pc2 := 16) rfl dX12_code_15 0 rfl ?_
    refine AW_geti ⟨gfRX12_395, rfl⟩ (pc2 := 19) rfl dX12_code_16 q246 ?_
    refine AW_invS (M' := MX12_isIn) [.int v2, .int 0, .int ((wr x 246 0 0).1 246 1)] (rest := []) mlRX12_307 okX12_isIn (pc2 := 22) rfl dX12_code_19 rfl rfl (Nat.le_of_ble_eq_true rfl) (Nat.le_of_ble_eq_true rfl) (d' := 0) (by omega) (EW_mono (fun _ _ hr => ?_) (sX12_isIn v2 0 ((wr x 246 0 0).1 246 1)  (wr x 246 0 0) _ _ 0 0 (Nat.le_refl _) h))
    obtain ⟨r2, rfl, rfl, h⟩ := hr
    refine EW_if_ne (tgt := 27) (pc2 := 25) rfl dX12_code_22 (by decide) (fun q => ?_) (fun q => ?_)
    · replace h := h.1 q
      refine EW_iload_n (pc2 := 28) rfl dX12_code_27 3 rfl ?_
      refine EW_iconst (pc2 := 29) (v := 0) rfl dX12_code_28 (by decide) ?_
      refine EW_aload_n (pc2 := 30) rfl dX12_code_29 0 rfl ?_
      refine EW_iload_n (pc2 := 31) rfl dX12_code_30 1 rfl ?_
      refine EW_iload_n (pc2 := 32) rfl dX12_code_31 2 rfl ?_
      refine AW_invV (M' := MX12_failsBy) [.int v1, .int v2] (rest := [.int 0, .int v3]) mlRX12_608 okX12_failsBy (pc2 := 35) rfl dX12_code_32 rfl rfl (Nat.le_of_ble_eq_true rfl) (Nat.le_of_ble_eq_true rfl) (d' := 210) (by omega) q246 ⟨by decide, rfl⟩ (EW_mono (fun _ _ hr => ?_) (sX12_failsBy v1 v2  (wr x 246 0 0) _ _ 0 0 (Nat.le_refl _) h))
      obtain ⟨r3, x4, rfl, rfl, h⟩ := hr
      refine EW_iconst (pc2 := 36) (v := 1) rfl dX12_code_35 (by decide) ?_
      refine EW_isub (pc2 := 37) rfl dX12_code_36 ?_
      refine AW_invS (M' := MX12_isIn) [.int v3, .int 0, .int (r3 - 1)] (rest := []) mlRX12_307 okX12_isIn (pc2 := 40) rfl dX12_code_37 rfl rfl (Nat.le_of_ble_eq_true rfl) (Nat.le_of_ble_eq_true rfl) (d' := 0) (by omega) (EW_mono (fun _ _ hr => ?_) (sX12_isIn v3 0 (r3 - 1)  x4 _ _ 0 0 (Nat.le_refl _) h))
      obtain ⟨r5, rfl, rfl, h⟩ := hr
      refine EW_if_eq (tgt := 52) (pc2 := 43) rfl dX12_code_40 (by decide) (fun q => ?_) (fun q => ?_)
      · replace h := h.1 q
        refine EW_iconst (pc2 := 53) (v := (-1)) rfl dX12_code_52 (by decide) ?_
        exact AW_iret rfl dX12_code_53 ⟨_, _, rfl, rfl, h⟩
      · replace h := h.2 q
        refine EW_aload_n (pc2 := 44) rfl dX12_code_43 0 rfl ?_
        refine AW_getr (r := 309) ⟨gfRX12_198, rfl⟩ (pc2 := 47) rfl dX12_code_44 q246 rfl ?_
        refine EW_iload_n (pc2 := 48) rfl dX12_code_47 3 rfl ?_
        obtain ⟨b6, h⟩ := h
        refine AW_iald (pc2 := 49) rfl dX12_code_48 q309 b6 ?_
        refine EW_goto (tgt := 53) dX12_code_49 (by decide) ?_
        exact AW_iret rfl dX12_code_53 ⟨_, _, rfl, rfl, h⟩
    · replace h := h.2 q
      refine EW_iconst (pc2 := 26) (v := (-1)) rfl dX12_code_25 (by decide) ?_
      exact AW_iret rfl dX12_code_26 ⟨_, _, rfl, rfl, h⟩
abbrev MX12_come : ab_M := (yX12_come, cX12_come, 5, (some .int))
theorem dX12_come_0 : decode cX12_come 0 = .ok (.aload_n 0, 1) := by decide +kernel
theorem dX12_come_1 : decode cX12_come 1 = .ok (.iconst 0, 1) := by decide +kernel
theorem dX12_come_2 : decode cX12_come 2 = .ok (.putfield 297, 3) := by decide +kernel
theorem dX12_come_5 : decode cX12_come 5 = .ok (.iload_n 1, 1) := by decide +kernel
theorem dX12_come_6 : decode cX12_come 6 = .ok (.invokestatic 303, 3) := by decide +kernel
theorem dX12_come_9 : decode cX12_come 9 = .ok (.ifCond .eq 46, 3) := by decide +kernel
theorem dX12_come_12 : decode cX12_come 12 = .ok (.iload_n 2, 1) := by decide +kernel
theorem dX12_come_13 : decode cX12_come 13 = .ok (.invokestatic 303, 3) := by decide +kernel
theorem dX12_come_16 : decode cX12_come 16 = .ok (.ifCond .eq 39, 3) := by decide +kernel
theorem dX12_come_19 : decode cX12_come 19 = .ok (.iload_n 3, 1) := by decide +kernel
theorem dX12_come_20 : decode cX12_come 20 = .ok (.iconst 0, 1) := by decide +kernel
theorem dX12_come_21 : decode cX12_come 21 = .ok (.sipush 30000, 3) := by decide +kernel
theorem dX12_come_24 : decode cX12_come 24 = .ok (.invokestatic 307, 3) := by decide +kernel
theorem dX12_come_27 : decode cX12_come 27 = .ok (.ifCond .eq 28, 3) := by decide +kernel
theorem dX12_come_30 : decode cX12_come 30 = .ok (.iload 4, 2) := by decide +kernel
theorem dX12_come_32 : decode cX12_come 32 = .ok (.bipush 50, 2) := by decide +kernel
theorem dX12_come_34 : decode cX12_come 34 = .ok (.sipush 300, 3) := by decide +kernel
theorem dX12_come_37 : decode cX12_come 37 = .ok (.invokestatic 307, 3) := by decide +kernel
theorem dX12_come_40 : decode cX12_come 40 = .ok (.ifCond .eq 15, 3) := by decide +kernel
theorem dX12_come_43 : decode cX12_come 43 = .ok (.aload_n 0, 1) := by decide +kernel
theorem dX12_come_44 : decode cX12_come 44 = .ok (.iload_n 1, 1) := by decide +kernel
theorem dX12_come_45 : decode cX12_come 45 = .ok (.iload_n 2, 1) := by decide +kernel
theorem dX12_come_46 : decode cX12_come 46 = .ok (.iload_n 3, 1) := by decide +kernel
theorem dX12_come_47 : decode cX12_come 47 = .ok (.iload 4, 2) := by decide +kernel
theorem dX12_come_49 : decode cX12_come 49 = .ok (.invokevirtual 324, 3) := by decide +kernel
theorem dX12_come_52 : decode cX12_come 52 = .ok (.goto 4, 3) := by decide +kernel
theorem dX12_come_55 : decode cX12_come 55 = .ok (.iconst (-1), 1) := by decide +kernel
theorem dX12_come_56 : decode cX12_come 56 = .ok (.ireturn, 1) := by decide +kernel
theorem okX12_come : ab_okM MX12_come 4 := ⟨by decide, ⟨by decide, by decide⟩, ab_in 2244 (by decide +kernel) (by decide +kernel), ab_in 99 (by decide +kernel) (by decide +kernel), by decide +kernel, by decide⟩
set_option maxHeartbeats 4000000 in
set_option maxRecDepth 100000 in
theorem sX12_come (v1 : Int32) (v2 : Int32) (v3 : Int32) (v4 : Int32)  (x : ab_X) (K : Int32 → ab_X → Prop) (d bc bs : Nat) (hdp : 2 ≤ d) (h : wX12_come v1 v2 v3 v4 x K) : EW MX12_come 0 [(0, .ref 246), (1, .int v1), (2, .int v2), (3, .int v3), (4, .int v4)] [] (aS x) d bc bs (liI K) := by
  unfold wX12_come at h
  refine EW_aload_n (pc2 := 1) rfl dX12_come_0 0 rfl ?_
  refine EW_iconst (pc2 := 2) (v := 0) rfl dX12_come_1 (by decide) ?_
  refine AW_puti ⟨gfRX12_297, rfl, rfl⟩ (pc2 := 5) rfl dX12_come_2 q246 ?_
  refine EW_iload_n (pc2 := 6) rfl dX12_come_5 1 rfl ?_
  refine AW_invS (M' := MX12_isCorner) [.int v1] (rest := []) mlRX12_303 okX12_isCorner (pc2 := 9) rfl dX12_come_6 rfl rfl (Nat.le_of_ble_eq_true rfl) (Nat.le_of_ble_eq_true rfl) (d' := 0) (by omega) (EW_mono (fun _ _ hr => ?_) (sX12_isCorner v1  (wr x 246 0 0) _ _ 0 0 (Nat.le_refl _) h))
  obtain ⟨r1, rfl, rfl, h⟩ := hr
  refine EW_if_eq (tgt := 55) (pc2 := 12) rfl dX12_come_9 (by decide) (fun q => ?_) (fun q => ?_)
  · replace h := h.1 q
    refine EW_iconst (pc2 := 56) (v := (-1)) rfl dX12_come_55 (by decide) ?_
    exact AW_iret rfl dX12_come_56 ⟨_, _, rfl, rfl, h⟩
  · replace h := h.2 q
    refine EW_iload_n (pc2 := 13) rfl dX12_come_12 2 rfl ?_
    refine AW_invS (M' := MX12_isCorner) [.int v2] (rest := []) mlRX12_303 okX12_isCorner (pc2 := 16) rfl dX12_come_13 rfl rfl (Nat.le_of_ble_eq_true rfl) (Nat.le_of_ble_eq_true rfl) (d' := 0) (by omega) (EW_mono (fun _ _ hr => ?_) (sX12_isCorner v2  (wr x 246 0 0) _ _ 0 0 (Nat.le_refl _) h))
    obtain ⟨r2, rfl, rfl, h⟩ := hr
    refine EW_if_eq (tgt := 55) (pc2 := 19) rfl dX12_come_16 (by decide) (fun q => ?_) (fun q => ?_)
    · replace h := h.1 q
      refine EW_iconst (pc2 := 56) (v := (-1)) rfl dX12_come_55 (by decide) ?_
      exact AW_iret rfl dX12_come_56 ⟨_, _, rfl, rfl, h⟩
    · replace h := h.2 q
      refine EW_iload_n (pc2 := 20) rfl dX12_come_19 3 rfl ?_
      refine EW_iconst (pc2 := 21) (v := 0) rfl dX12_come_20 (by decide) ?_
      refine EW_sipush (pc2 := 24) (v := 30000) rfl dX12_come_21 (by decide) ?_
      refine AW_invS (M' := MX12_isIn) [.int v3, .int 0, .int 30000] (rest := []) mlRX12_307 okX12_isIn (pc2 := 27) rfl dX12_come_24 rfl rfl (Nat.le_of_ble_eq_true rfl) (Nat.le_of_ble_eq_true rfl) (d' := 0) (by omega) (EW_mono (fun _ _ hr => ?_) (sX12_isIn v3 0 30000  (wr x 246 0 0) _ _ 0 0 (Nat.le_refl _) h))
      obtain ⟨r3, rfl, rfl, h⟩ := hr
      refine EW_if_eq (tgt := 55) (pc2 := 30) rfl dX12_come_27 (by decide) (fun q => ?_) (fun q => ?_)
      · replace h := h.1 q
        refine EW_iconst (pc2 := 56) (v := (-1)) rfl dX12_come_55 (by decide) ?_
        exact AW_iret rfl dX12_come_56 ⟨_, _, rfl, rfl, h⟩
      · replace h := h.2 q
        refine EW_iload (pc2 := 32) rfl dX12_come_30 4 rfl ?_
        refine EW_bipush (pc2 := 34) (v := 50) rfl dX12_come_32 (by decide) ?_
        refine EW_sipush (pc2 := 37) (v := 300) rfl dX12_come_34 (by decide) ?_
        refine AW_invS (M' := MX12_isIn) [.int v4, .int 50, .int 300] (rest := []) mlRX12_307 okX12_isIn (pc2 := 40) rfl dX12_come_37 rfl rfl (Nat.le_of_ble_eq_true rfl) (Nat.le_of_ble_eq_true rfl) (d' := 0) (by omega) (EW_mono (fun _ _ hr => ?_) (sX12_isIn v4 50 300  (wr x 246 0 0) _ _ 0 0 (Nat.le_refl _) h))
        obtain ⟨r4, rfl, rfl, h⟩ := hr
        refine EW_if_eq (tgt := 55) (pc2 := 43) rfl dX12_come_40 (by decide) (fun q => ?_) (fun q => ?_)
        · replace h := h.1 q
          refine EW_iconst (pc2 := 56) (v := (-1)) rfl dX12_come_55 (by decide) ?_
          exact AW_iret rfl dX12_come_56 ⟨_, _, rfl, rfl, h⟩
        · replace h := h.2 q
          refine EW_aload_n (pc2 := 44) rfl dX12_come_43 0 rfl ?_
          refine EW_iload_n (pc2 := 45) rfl dX12_come_44 1 rfl ?_
          refine EW_iload_n (pc2 := 46) rfl dX12_come_45 2 rfl ?_
          refine EW_iload_n (pc2 := 47) rfl dX12_come_46 3 rfl ?_
          refine EW_iload (pc2 := 49) rfl dX12_come_47 4 rfl ?_
          refine AW_invV (M' := MX12_comeBy) [.int v1, .int v2, .int v3, .int v4] (rest := []) mlRX12_324 okX12_comeBy (pc2 := 52) rfl dX12_come_49 rfl rfl (Nat.le_of_ble_eq_true rfl) (Nat.le_of_ble_eq_true rfl) (d' := 1) (by omega) q246 ⟨by decide, rfl⟩ (EW_mono (fun _ _ hr => ?_) (sX12_comeBy v1 v2 v3 v4  (wr x 246 0 0) _ _ 0 0 (Nat.le_refl _) h))
          obtain ⟨r5, x6, rfl, rfl, h⟩ := hr
          refine EW_goto (tgt := 56) dX12_come_52 (by decide) ?_
          exact AW_iret rfl dX12_come_56 ⟨_, _, rfl, rfl, h⟩
abbrev MX12_isWithin : ab_M := (yX12_isWithin, cX12_isWithin, 2, (some .boolean))
theorem dX12_isWithin_0 : decode cX12_isWithin 0 = .ok (.iload_n 0, 1) := by decide +kernel
theorem dX12_isWithin_1 : decode cX12_isWithin 1 = .ok (.ifCond .lt 25, 3) := by decide +kernel
theorem dX12_isWithin_4 : decode cX12_isWithin 4 = .ok (.iload_n 1, 1) := by decide +kernel
theorem dX12_isWithin_5 : decode cX12_isWithin 5 = .ok (.ifCond .lt 21, 3) := by decide +kernel
theorem dX12_isWithin_8 : decode cX12_isWithin 8 = .ok (.iload_n 0, 1) := by decide +kernel
theorem dX12_isWithin_9 : decode cX12_isWithin 9 = .ok (.bipush 20, 2) := by decide +kernel
theorem dX12_isWithin_11 : decode cX12_isWithin 11 = .ok (.if_icmp .gt 15, 3) := by decide +kernel
theorem dX12_isWithin_14 : decode cX12_isWithin 14 = .ok (.iload_n 1, 1) := by decide +kernel
theorem dX12_isWithin_15 : decode cX12_isWithin 15 = .ok (.bipush 20, 2) := by decide +kernel
theorem dX12_isWithin_17 : decode cX12_isWithin 17 = .ok (.iload_n 0, 1) := by decide +kernel
theorem dX12_isWithin_18 : decode cX12_isWithin 18 = .ok (.isub, 1) := by decide +kernel
theorem dX12_isWithin_19 : decode cX12_isWithin 19 = .ok (.if_icmp .gt 7, 3) := by decide +kernel
theorem dX12_isWithin_22 : decode cX12_isWithin 22 = .ok (.iconst 1, 1) := by decide +kernel
theorem dX12_isWithin_23 : decode cX12_isWithin 23 = .ok (.goto 4, 3) := by decide +kernel
theorem dX12_isWithin_26 : decode cX12_isWithin 26 = .ok (.iconst 0, 1) := by decide +kernel
theorem dX12_isWithin_27 : decode cX12_isWithin 27 = .ok (.ireturn, 1) := by decide +kernel
theorem okX12_isWithin : ab_okM MX12_isWithin 2 := ⟨by decide, ⟨by decide, by decide⟩, ab_in 2720 (by decide +kernel) (by decide +kernel), ab_in 99 (by decide +kernel) (by decide +kernel), by decide +kernel, by decide⟩
set_option maxHeartbeats 4000000 in
set_option maxRecDepth 100000 in
theorem sX12_isWithin (v0 : Int32) (v1 : Int32)  (x : ab_X) (K : Int32 → Prop) (d bc bs : Nat) (hdp : 0 ≤ d) (h : wX12_isWithin v0 v1 x K) : EW MX12_isWithin 0 [(0, .int v0), (1, .int v1)] [] (aS x) d bc bs (liP x K) := by
  unfold wX12_isWithin at h
  refine EW_iload_n (pc2 := 1) rfl dX12_isWithin_0 0 rfl ?_
  refine EW_if_lt (tgt := 26) (pc2 := 4) rfl dX12_isWithin_1 (by decide) (fun q => ?_) (fun q => ?_)
  · replace h := h.1 q
    refine EW_iconst (pc2 := 27) (v := 0) rfl dX12_isWithin_26 (by decide) ?_
    exact AW_zret rfl isB0 dX12_isWithin_27 ⟨_, rfl, rfl, h⟩
  · replace h := h.2 q
    refine EW_iload_n (pc2 := 5) rfl dX12_isWithin_4 1 rfl ?_
    refine EW_if_lt (tgt := 26) (pc2 := 8) rfl dX12_isWithin_5 (by decide) (fun q => ?_) (fun q => ?_)
    · replace h := h.1 q
      refine EW_iconst (pc2 := 27) (v := 0) rfl dX12_isWithin_26 (by decide) ?_
      exact AW_zret rfl isB0 dX12_isWithin_27 ⟨_, rfl, rfl, h⟩
    · replace h := h.2 q
      refine EW_iload_n (pc2 := 9) rfl dX12_isWithin_8 0 rfl ?_
      refine EW_bipush (pc2 := 11) (v := 20) rfl dX12_isWithin_9 (by decide) ?_
      refine EW_icmp_gt (tgt := 26) (pc2 := 14) rfl dX12_isWithin_11 (by decide) (fun q => ?_) (fun q => ?_)
      · replace h := h.1 q
        refine EW_iconst (pc2 := 27) (v := 0) rfl dX12_isWithin_26 (by decide) ?_
        exact AW_zret rfl isB0 dX12_isWithin_27 ⟨_, rfl, rfl, h⟩
      · replace h := h.2 q
        refine EW_iload_n (pc2 := 15) rfl dX12_isWithin_14 1 rfl ?_
        refine EW_bipush (pc2 := 17) (v := 20) rfl dX12_isWithin_15 (by decide) ?_
        refine EW_iload_n (pc2 := 18) rfl dX12_isWithin_17 0 rfl ?_
        refine EW_isub (pc2 := 19) rfl dX12_isWithin_18 ?_
        refine EW_icmp_gt (tgt := 26) (pc2 := 22) rfl dX12_isWithin_19 (by decide) (fun q => ?_) (fun q => ?_)
        · replace h := h.1 q
          refine EW_iconst (pc2 := 27) (v := 0) rfl dX12_isWithin_26 (by decide) ?_
          exact AW_zret rfl isB0 dX12_isWithin_27 ⟨_, rfl, rfl, h⟩
        · replace h := h.2 q
          refine EW_iconst (pc2 := 23) (v := 1) rfl dX12_isWithin_22 (by decide) ?_
          refine EW_goto (tgt := 27) dX12_isWithin_23 (by decide) ?_
          exact AW_zret rfl isB1 dX12_isWithin_27 ⟨_, rfl, rfl, h⟩
theorem gfRX12_271 : ab_L RX12 271 12 112 := ⟨by decide, by decide, ab_in 1961 (by decide +kernel) (by decide +kernel)⟩
theorem gfRX12_275 : ab_L RX12 275 12 113 := ⟨by decide, by decide, ab_in 1962 (by decide +kernel) (by decide +kernel)⟩
theorem gfRX12_278 : ab_L RX12 278 12 114 := ⟨by decide, by decide, ab_in 1963 (by decide +kernel) (by decide +kernel)⟩
theorem mlRX12_660 : Cond.methodLink RX12 660 yX12_isWithin ∈ ab_G ∧ Cond.static yX12_isWithin ∈ ab_G := ⟨ab_in 2718 (by decide +kernel) (by decide +kernel), ab_in 2719 (by decide +kernel) (by decide +kernel)⟩
abbrev MX12_copy : ab_M := (yX12_copy, cX12_copy, 7, (some .int))
theorem dX12_copy_0 : decode cX12_copy 0 = .ok (.aload_n 0, 1) := by decide +kernel
theorem dX12_copy_1 : decode cX12_copy 1 = .ok (.iconst 0, 1) := by decide +kernel
theorem dX12_copy_2 : decode cX12_copy 2 = .ok (.putfield 297, 3) := by decide +kernel
theorem dX12_copy_5 : decode cX12_copy 5 = .ok (.aload_n 0, 1) := by decide +kernel
theorem dX12_copy_6 : decode cX12_copy 6 = .ok (.iload_n 1, 1) := by decide +kernel
theorem dX12_copy_7 : decode cX12_copy 7 = .ok (.invokevirtual 651, 3) := by decide +kernel
theorem dX12_copy_10 : decode cX12_copy 10 = .ok (.ifCond .eq 11, 3) := by decide +kernel
theorem dX12_copy_13 : decode cX12_copy 13 = .ok (.aload_n 0, 1) := by decide +kernel
theorem dX12_copy_14 : decode cX12_copy 14 = .ok (.iload_n 3, 1) := by decide +kernel
theorem dX12_copy_15 : decode cX12_copy 15 = .ok (.invokevirtual 651, 3) := by decide +kernel
theorem dX12_copy_18 : decode cX12_copy 18 = .ok (.ifCond .ne 5, 3) := by decide +kernel
theorem dX12_copy_21 : decode cX12_copy 21 = .ok (.iconst 1, 1) := by decide +kernel
theorem dX12_copy_22 : decode cX12_copy 22 = .ok (.ireturn, 1) := by decide +kernel
theorem dX12_copy_23 : decode cX12_copy 23 = .ok (.aload_n 0, 1) := by decide +kernel
theorem dX12_copy_24 : decode cX12_copy 24 = .ok (.getfield 281, 3) := by decide +kernel
theorem dX12_copy_27 : decode cX12_copy 27 = .ok (.iload_n 1, 1) := by decide +kernel
theorem dX12_copy_28 : decode cX12_copy 28 = .ok (.baload, 1) := by decide +kernel
theorem dX12_copy_29 : decode cX12_copy 29 = .ok (.ifCond .ne 12, 3) := by decide +kernel
theorem dX12_copy_32 : decode cX12_copy 32 = .ok (.aload_n 0, 1) := by decide +kernel
theorem dX12_copy_33 : decode cX12_copy 33 = .ok (.getfield 281, 3) := by decide +kernel
theorem dX12_copy_36 : decode cX12_copy 36 = .ok (.iload_n 3, 1) := by decide +kernel
theorem dX12_copy_37 : decode cX12_copy 37 = .ok (.baload, 1) := by decide +kernel
theorem dX12_copy_38 : decode cX12_copy 38 = .ok (.ifCond .eq 5, 3) := by decide +kernel
theorem dX12_copy_41 : decode cX12_copy 41 = .ok (.iconst 2, 1) := by decide +kernel
theorem dX12_copy_42 : decode cX12_copy 42 = .ok (.ireturn, 1) := by decide +kernel
theorem dX12_copy_43 : decode cX12_copy 43 = .ok (.aload_n 0, 1) := by decide +kernel
theorem dX12_copy_44 : decode cX12_copy 44 = .ok (.getfield 278, 3) := by decide +kernel
theorem dX12_copy_47 : decode cX12_copy 47 = .ok (.iload_n 1, 1) := by decide +kernel
theorem dX12_copy_48 : decode cX12_copy 48 = .ok (.iaload, 1) := by decide +kernel
theorem dX12_copy_49 : decode cX12_copy 49 = .ok (.aload_n 0, 1) := by decide +kernel
theorem dX12_copy_50 : decode cX12_copy 50 = .ok (.getfield 278, 3) := by decide +kernel
theorem dX12_copy_53 : decode cX12_copy 53 = .ok (.iload_n 3, 1) := by decide +kernel
theorem dX12_copy_54 : decode cX12_copy 54 = .ok (.iaload, 1) := by decide +kernel
theorem dX12_copy_55 : decode cX12_copy 55 = .ok (.if_icmp .eq 5, 3) := by decide +kernel
theorem dX12_copy_58 : decode cX12_copy 58 = .ok (.iconst 3, 1) := by decide +kernel
theorem dX12_copy_59 : decode cX12_copy 59 = .ok (.ireturn, 1) := by decide +kernel
theorem dX12_copy_60 : decode cX12_copy 60 = .ok (.iload_n 2, 1) := by decide +kernel
theorem dX12_copy_61 : decode cX12_copy 61 = .ok (.iload 5, 2) := by decide +kernel
theorem dX12_copy_63 : decode cX12_copy 63 = .ok (.invokestatic 660, 3) := by decide +kernel
theorem dX12_copy_66 : decode cX12_copy 66 = .ok (.ifCond .eq 13, 3) := by decide +kernel
theorem dX12_copy_69 : decode cX12_copy 69 = .ok (.iload 4, 2) := by decide +kernel
theorem dX12_copy_71 : decode cX12_copy 71 = .ok (.iload 5, 2) := by decide +kernel
theorem dX12_copy_73 : decode cX12_copy 73 = .ok (.invokestatic 660, 3) := by decide +kernel
theorem dX12_copy_76 : decode cX12_copy 76 = .ok (.ifCond .ne 5, 3) := by decide +kernel
theorem dX12_copy_79 : decode cX12_copy 79 = .ok (.iconst 4, 1) := by decide +kernel
theorem dX12_copy_80 : decode cX12_copy 80 = .ok (.ireturn, 1) := by decide +kernel
theorem dX12_copy_81 : decode cX12_copy 81 = .ok (.iconst 0, 1) := by decide +kernel
theorem dX12_copy_82 : decode cX12_copy 82 = .ok (.istore 6, 2) := by decide +kernel
theorem dX12_copy_84 : decode cX12_copy 84 = .ok (.iload 6, 2) := by decide +kernel
theorem dX12_copy_86 : decode cX12_copy 86 = .ok (.iload 5, 2) := by decide +kernel
theorem dX12_copy_88 : decode cX12_copy 88 = .ok (.if_icmp .ge 30, 3) := by decide +kernel
theorem dX12_copy_91 : decode cX12_copy 91 = .ok (.aload_n 0, 1) := by decide +kernel
theorem dX12_copy_92 : decode cX12_copy 92 = .ok (.getfield 275, 3) := by decide +kernel
theorem dX12_copy_95 : decode cX12_copy 95 = .ok (.iload 6, 2) := by decide +kernel
theorem dX12_copy_97 : decode cX12_copy 97 = .ok (.aload_n 0, 1) := by decide +kernel
theorem dX12_copy_98 : decode cX12_copy 98 = .ok (.getfield 271, 3) := by decide +kernel
theorem dX12_copy_101 : decode cX12_copy 101 = .ok (.bipush 20, 2) := by decide +kernel
theorem dX12_copy_103 : decode cX12_copy 103 = .ok (.iload_n 1, 1) := by decide +kernel
theorem dX12_copy_104 : decode cX12_copy 104 = .ok (.imul, 1) := by decide +kernel
theorem dX12_copy_105 : decode cX12_copy 105 = .ok (.iload_n 2, 1) := by decide +kernel
theorem dX12_copy_106 : decode cX12_copy 106 = .ok (.iadd, 1) := by decide +kernel
theorem dX12_copy_107 : decode cX12_copy 107 = .ok (.iload 6, 2) := by decide +kernel
theorem dX12_copy_109 : decode cX12_copy 109 = .ok (.iadd, 1) := by decide +kernel
theorem dX12_copy_110 : decode cX12_copy 110 = .ok (.daload, 1) := by decide +kernel
theorem dX12_copy_111 : decode cX12_copy 111 = .ok (.dastore, 1) := by decide +kernel
theorem dX12_copy_112 : decode cX12_copy 112 = .ok (.iinc 6 1, 3) := by decide +kernel
theorem dX12_copy_115 : decode cX12_copy 115 = .ok (.goto (-31), 3) := by decide +kernel
theorem dX12_copy_118 : decode cX12_copy 118 = .ok (.iconst 0, 1) := by decide +kernel
theorem dX12_copy_119 : decode cX12_copy 119 = .ok (.istore 6, 2) := by decide +kernel
theorem dX12_copy_121 : decode cX12_copy 121 = .ok (.iload 6, 2) := by decide +kernel
theorem dX12_copy_123 : decode cX12_copy 123 = .ok (.iload 5, 2) := by decide +kernel
theorem dX12_copy_125 : decode cX12_copy 125 = .ok (.if_icmp .ge 31, 3) := by decide +kernel
theorem dX12_copy_128 : decode cX12_copy 128 = .ok (.aload_n 0, 1) := by decide +kernel
theorem dX12_copy_129 : decode cX12_copy 129 = .ok (.getfield 271, 3) := by decide +kernel
theorem dX12_copy_132 : decode cX12_copy 132 = .ok (.bipush 20, 2) := by decide +kernel
theorem dX12_copy_134 : decode cX12_copy 134 = .ok (.iload_n 3, 1) := by decide +kernel
theorem dX12_copy_135 : decode cX12_copy 135 = .ok (.imul, 1) := by decide +kernel
theorem dX12_copy_136 : decode cX12_copy 136 = .ok (.iload 4, 2) := by decide +kernel
theorem dX12_copy_138 : decode cX12_copy 138 = .ok (.iadd, 1) := by decide +kernel
theorem dX12_copy_139 : decode cX12_copy 139 = .ok (.iload 6, 2) := by decide +kernel
theorem dX12_copy_141 : decode cX12_copy 141 = .ok (.iadd, 1) := by decide +kernel
theorem dX12_copy_142 : decode cX12_copy 142 = .ok (.aload_n 0, 1) := by decide +kernel
theorem dX12_copy_143 : decode cX12_copy 143 = .ok (.getfield 275, 3) := by decide +kernel
theorem dX12_copy_146 : decode cX12_copy 146 = .ok (.iload 6, 2) := by decide +kernel
theorem dX12_copy_148 : decode cX12_copy 148 = .ok (.daload, 1) := by decide +kernel
theorem dX12_copy_149 : decode cX12_copy 149 = .ok (.dastore, 1) := by decide +kernel
theorem dX12_copy_150 : decode cX12_copy 150 = .ok (.iinc 6 1, 3) := by decide +kernel
theorem dX12_copy_153 : decode cX12_copy 153 = .ok (.goto (-32), 3) := by decide +kernel
theorem dX12_copy_156 : decode cX12_copy 156 = .ok (.iconst 0, 1) := by decide +kernel
theorem dX12_copy_157 : decode cX12_copy 157 = .ok (.ireturn, 1) := by decide +kernel
theorem okX12_copy : ab_okM MX12_copy 5 := ⟨by decide, ⟨by decide, by decide⟩, ab_in 2717 (by decide +kernel) (by decide +kernel), ab_in 99 (by decide +kernel) (by decide +kernel), by decide +kernel, by decide⟩
set_option maxHeartbeats 4000000 in
set_option maxRecDepth 100000 in
theorem sX12_copy_121 (v3 : Int32) (v4 : Int32) (v5 : Int32) (v6 : Int32)  (x : ab_X) (K : Int32 → ab_X → Prop)  (d bc bs : Nat) (hdp : 1 ≤ d)  (h : Lp2 (lX12_copy_121 v3 v4 v5 K ) v6 x) : EW MX12_copy 121 [(0, .ref 246), (3, .int v3), (4, .int v4), (5, .int v5), (6, .int v6)] [] (aS x) d bc bs (liI K) := by
  refine Lp2.use (P := fun v6 x => EW MX12_copy 121 [(0, .ref 246), (3, .int v3), (4, .int v4), (5, .int v5), (6, .int v6)] [] (aS x) d bc bs (liI K)) (fun L121 v6 x hL121 h => ?_) v6 x h
  unfold lX12_copy_121 at h
  refine EW_iload (pc2 := 123) rfl dX12_copy_121 4 rfl ?_
  refine EW_iload (pc2 := 125) rfl dX12_copy_123 3 rfl ?_
  refine EW_icmp_ge (tgt := 156) (pc2 := 128) rfl dX12_copy_125 (by decide) (fun q => ?_) (fun q => ?_)
  · replace h := h.1 q
    refine EW_iconst (pc2 := 157) (v := 0) rfl dX12_copy_156 (by decide) ?_
    exact AW_iret rfl dX12_copy_157 ⟨_, _, rfl, rfl, h⟩
  · replace h := h.2 q
    refine EW_aload_n (pc2 := 129) rfl dX12_copy_128 0 rfl ?_
    refine AW_getr (r := 329) ⟨gfRX12_271, rfl⟩ (pc2 := 132) rfl dX12_copy_129 q246 rfl ?_
    refine EW_bipush (pc2 := 134) (v := 20) rfl dX12_copy_132 (by decide) ?_
    refine EW_iload_n (pc2 := 135) rfl dX12_copy_134 1 rfl ?_
    refine EW_imul (pc2 := 136) rfl dX12_copy_135 ?_
    refine EW_iload (pc2 := 138) rfl dX12_copy_136 2 rfl ?_
    refine EW_iadd (pc2 := 139) rfl dX12_copy_138 ?_
    refine EW_iload (pc2 := 141) rfl dX12_copy_139 4 rfl ?_
    refine EW_iadd (pc2 := 142) rfl dX12_copy_141 ?_
    refine EW_aload_n (pc2 := 143) rfl dX12_copy_142 0 rfl ?_
    refine AW_getr (r := 330) ⟨gfRX12_275, rfl⟩ (pc2 := 146) rfl dX12_copy_143 q246 rfl ?_
    refine EW_iload (pc2 := 148) rfl dX12_copy_146 4 rfl ?_
    obtain ⟨b11, h⟩ := h
    refine AW_dald (pc2 := 149) rfl dX12_copy_148 q330 b11 ?_
    obtain ⟨b12, h⟩ := h
    refine AW_dast (pc2 := 150) rfl dX12_copy_149 q329 b12 ?_
    refine EW_iinc (v6 + 1) (pc2 := 153) rfl dX12_copy_150 4 rfl rfl (by decide) [1, 2, 3, 4, 0] [(0, .ref 246), (3, .int v3), (4, .int v4), (5, .int v5), (6, .int (v6 + 1))] rfl ?_
    refine EW_goto (tgt := 121) dX12_copy_153 (by decide) ?_
    exact hL121 (v6 + 1) (wrd x 329 (Int32.toNatClampNeg (((20 * v3) + v4) + v6)) (x.2.1 330 (Int32.toNatClampNeg v6))) h
set_option maxHeartbeats 4000000 in
set_option maxRecDepth 100000 in
theorem sX12_copy_84 (v1 : Int32) (v2 : Int32) (v3 : Int32) (v4 : Int32) (v5 : Int32) (v6 : Int32)  (x : ab_X) (K : Int32 → ab_X → Prop)  (d bc bs : Nat) (hdp : 1 ≤ d)  (h : Lp2 (lX12_copy_84 v1 v2 v3 v4 v5 K ) v6 x) : EW MX12_copy 84 [(0, .ref 246), (1, .int v1), (2, .int v2), (3, .int v3), (4, .int v4), (5, .int v5), (6, .int v6)] [] (aS x) d bc bs (liI K) := by
  refine Lp2.use (P := fun v6 x => EW MX12_copy 84 [(0, .ref 246), (1, .int v1), (2, .int v2), (3, .int v3), (4, .int v4), (5, .int v5), (6, .int v6)] [] (aS x) d bc bs (liI K)) (fun L84 v6 x hL84 h => ?_) v6 x h
  unfold lX12_copy_84 at h
  refine EW_iload (pc2 := 86) rfl dX12_copy_84 6 rfl ?_
  refine EW_iload (pc2 := 88) rfl dX12_copy_86 5 rfl ?_
  refine EW_icmp_ge (tgt := 118) (pc2 := 91) rfl dX12_copy_88 (by decide) (fun q => ?_) (fun q => ?_)
  · replace h := h.1 q
    refine EW_iconst (pc2 := 119) (v := 0) rfl dX12_copy_118 (by decide) ?_
    refine EW_istore (pc2 := 121) rfl dX12_copy_119 (by decide) [1, 2, 3, 4, 5, 6, 0] [(0, .ref 246), (1, .int v1), (2, .int v2), (3, .int v3), (4, .int v4), (5, .int v5), (6, .int 0)] rfl ?_
    refine EW_ls [0, 3, 4, 5, 6] rfl ?_
    exact sX12_copy_121 v3 v4 v5 0 x K d bc bs hdp h
  · replace h := h.2 q
    refine EW_aload_n (pc2 := 92) rfl dX12_copy_91 0 rfl ?_
    refine AW_getr (r := 330) ⟨gfRX12_275, rfl⟩ (pc2 := 95) rfl dX12_copy_92 q246 rfl ?_
    refine EW_iload (pc2 := 97) rfl dX12_copy_95 6 rfl ?_
    refine EW_aload_n (pc2 := 98) rfl dX12_copy_97 0 rfl ?_
    refine AW_getr (r := 329) ⟨gfRX12_271, rfl⟩ (pc2 := 101) rfl dX12_copy_98 q246 rfl ?_
    refine EW_bipush (pc2 := 103) (v := 20) rfl dX12_copy_101 (by decide) ?_
    refine EW_iload_n (pc2 := 104) rfl dX12_copy_103 1 rfl ?_
    refine EW_imul (pc2 := 105) rfl dX12_copy_104 ?_
    refine EW_iload_n (pc2 := 106) rfl dX12_copy_105 2 rfl ?_
    refine EW_iadd (pc2 := 107) rfl dX12_copy_106 ?_
    refine EW_iload (pc2 := 109) rfl dX12_copy_107 6 rfl ?_
    refine EW_iadd (pc2 := 110) rfl dX12_copy_109 ?_
    obtain ⟨b9, h⟩ := h
    refine AW_dald (pc2 := 111) rfl dX12_copy_110 q329 b9 ?_
    obtain ⟨b10, h⟩ := h
    refine AW_dast (pc2 := 112) rfl dX12_copy_111 q330 b10 ?_
    refine EW_iinc (v6 + 1) (pc2 := 115) rfl dX12_copy_112 6 rfl rfl (by decide) [1, 2, 3, 4, 5, 6, 0] [(0, .ref 246), (1, .int v1), (2, .int v2), (3, .int v3), (4, .int v4), (5, .int v5), (6, .int (v6 + 1))] rfl ?_
    refine EW_goto (tgt := 84) dX12_copy_115 (by decide) ?_
    exact hL84 (v6 + 1) (wrd x 330 (Int32.toNatClampNeg v6) (x.2.1 329 (Int32.toNatClampNeg (((20 * v1) + v2) + v6)))) h
set_option maxHeartbeats 4000000 in
set_option maxRecDepth 100000 in
theorem sX12_copy (v1 : Int32) (v2 : Int32) (v3 : Int32) (v4 : Int32) (v5 : Int32)  (x : ab_X) (K : Int32 → ab_X → Prop) (d bc bs : Nat) (hdp : 1 ≤ d) (h : wX12_copy v1 v2 v3 v4 v5 x K) : EW MX12_copy 0 [(0, .ref 246), (1, .int v1), (2, .int v2), (3, .int v3), (4, .int v4), (5, .int v5)] [] (aS x) d bc bs (liI K) := by
  unfold wX12_copy at h
  refine EW_aload_n (pc2 := 1) rfl dX12_copy_0 0 rfl ?_
  refine EW_iconst (pc2 := 2) (v := 0) rfl dX12_copy_1 (by decide) ?_
  refine AW_puti ⟨gfRX12_297, rfl, rfl⟩ (pc2 := 5) rfl dX12_copy_2 q246 ?_
  refine EW_aload_n (pc2 := 6) rfl dX12_copy_5 0 rfl ?_
  refine EW_iload_n (pc2 := 7) rfl dX12_copy_6 1 rfl ?_
  refine AW_invV (M' := MX12_isRow) [.int v1] (rest := []) mlRX12_651 okX12_isRow (pc2 := 10) rfl dX12_copy_7 rfl rfl (Nat.le_of_ble_eq_true rfl) (Nat.le_of_ble_eq_true rfl) (d' := 0) (by omega) q246 ⟨by decide, rfl⟩ (EW_mono (fun _ _ hr => ?_) (sX12_isRow v1  (wr x 246 0 0) _ _ 0 0 (Nat.le_refl _) h))
  obtain ⟨r1, rfl, rfl, h⟩ := hr
  refine EW_if_eq (tgt := 21) (pc2 := 13) rfl dX12_copy_10 (by decide) (fun q => ?_) (fun q => ?_)
  · replace h := h.1 q
    refine EW_iconst (pc2 := 22) (v := 1) rfl dX12_copy_21 (by decide) ?_
    exact AW_iret rfl dX12_copy_22 ⟨_, _, rfl, rfl, h⟩
  · replace h := h.2 q
    refine EW_aload_n (pc2 := 14) rfl dX12_copy_13 0 rfl ?_
    refine EW_iload_n (pc2 := 15) rfl dX12_copy_14 3 rfl ?_
    refine AW_invV (M' := MX12_isRow) [.int v3] (rest := []) mlRX12_651 okX12_isRow (pc2 := 18) rfl dX12_copy_15 rfl rfl (Nat.le_of_ble_eq_true rfl) (Nat.le_of_ble_eq_true rfl) (d' := 0) (by omega) q246 ⟨by decide, rfl⟩ (EW_mono (fun _ _ hr => ?_) (sX12_isRow v3  (wr x 246 0 0) _ _ 0 0 (Nat.le_refl _) h))
    obtain ⟨r2, rfl, rfl, h⟩ := hr
    refine EW_if_ne (tgt := 23) (pc2 := 21) rfl dX12_copy_18 (by decide) (fun q => ?_) (fun q => ?_)
    · replace h := h.1 q
      refine EW_aload_n (pc2 := 24) rfl dX12_copy_23 0 rfl ?_
      refine AW_getr (r := 332) ⟨gfRX12_281, rfl⟩ (pc2 := 27) rfl dX12_copy_24 q246 rfl ?_
      refine EW_iload_n (pc2 := 28) rfl dX12_copy_27 1 rfl ?_
      obtain ⟨b3, h⟩ := h
      refine AW_zald (pc2 := 29) rfl dX12_copy_28 q332 b3 ?_
      refine EW_if_ne (tgt := 41) (pc2 := 32) rfl dX12_copy_29 (by decide) (fun q => ?_) (fun q => ?_)
      · replace h := h.1 q
        refine EW_iconst (pc2 := 42) (v := 2) rfl dX12_copy_41 (by decide) ?_
        exact AW_iret rfl dX12_copy_42 ⟨_, _, rfl, rfl, h⟩
      · replace h := h.2 q
        refine EW_aload_n (pc2 := 33) rfl dX12_copy_32 0 rfl ?_
        refine AW_getr (r := 332) ⟨gfRX12_281, rfl⟩ (pc2 := 36) rfl dX12_copy_33 q246 rfl ?_
        refine EW_iload_n (pc2 := 37) rfl dX12_copy_36 3 rfl ?_
        obtain ⟨b4, h⟩ := h
        refine AW_zald (pc2 := 38) rfl dX12_copy_37 q332 b4 ?_
        refine EW_if_eq (tgt := 43) (pc2 := 41) rfl dX12_copy_38 (by decide) (fun q => ?_) (fun q => ?_)
        · replace h := h.1 q
          refine EW_aload_n (pc2 := 44) rfl dX12_copy_43 0 rfl ?_
          refine AW_getr (r := 331) ⟨gfRX12_278, rfl⟩ (pc2 := 47) rfl dX12_copy_44 q246 rfl ?_
          refine EW_iload_n (pc2 := 48) rfl dX12_copy_47 1 rfl ?_
          obtain ⟨b5, h⟩ := h
          refine AW_iald (pc2 := 49) rfl dX12_copy_48 q331 b5 ?_
          refine EW_aload_n (pc2 := 50) rfl dX12_copy_49 0 rfl ?_
          refine AW_getr (r := 331) ⟨gfRX12_278, rfl⟩ (pc2 := 53) rfl dX12_copy_50 q246 rfl ?_
          refine EW_iload_n (pc2 := 54) rfl dX12_copy_53 3 rfl ?_
          obtain ⟨b6, h⟩ := h
          refine AW_iald (pc2 := 55) rfl dX12_copy_54 q331 b6 ?_
          refine EW_icmp_eq (tgt := 60) (pc2 := 58) rfl dX12_copy_55 (by decide) (fun q => ?_) (fun q => ?_)
          · replace h := h.1 q
            refine EW_iload_n (pc2 := 61) rfl dX12_copy_60 2 rfl ?_
            refine EW_iload (pc2 := 63) rfl dX12_copy_61 5 rfl ?_
            refine AW_invS (M' := MX12_isWithin) [.int v2, .int v5] (rest := []) mlRX12_660 okX12_isWithin (pc2 := 66) rfl dX12_copy_63 rfl rfl (Nat.le_of_ble_eq_true rfl) (Nat.le_of_ble_eq_true rfl) (d' := 0) (by omega) (EW_mono (fun _ _ hr => ?_) (sX12_isWithin v2 v5  (wr x 246 0 0) _ _ 0 0 (Nat.le_refl _) h))
            obtain ⟨r7, rfl, rfl, h⟩ := hr
            refine EW_if_eq (tgt := 79) (pc2 := 69) rfl dX12_copy_66 (by decide) (fun q => ?_) (fun q => ?_)
            · replace h := h.1 q
              refine EW_iconst (pc2 := 80) (v := 4) rfl dX12_copy_79 (by decide) ?_
              exact AW_iret rfl dX12_copy_80 ⟨_, _, rfl, rfl, h⟩
            · replace h := h.2 q
              refine EW_iload (pc2 := 71) rfl dX12_copy_69 4 rfl ?_
              refine EW_iload (pc2 := 73) rfl dX12_copy_71 5 rfl ?_
              refine AW_invS (M' := MX12_isWithin) [.int v4, .int v5] (rest := []) mlRX12_660 okX12_isWithin (pc2 := 76) rfl dX12_copy_73 rfl rfl (Nat.le_of_ble_eq_true rfl) (Nat.le_of_ble_eq_true rfl) (d' := 0) (by omega) (EW_mono (fun _ _ hr => ?_) (sX12_isWithin v4 v5  (wr x 246 0 0) _ _ 0 0 (Nat.le_refl _) h))
              obtain ⟨r8, rfl, rfl, h⟩ := hr
              refine EW_if_ne (tgt := 81) (pc2 := 79) rfl dX12_copy_76 (by decide) (fun q => ?_) (fun q => ?_)
              · replace h := h.1 q
                refine EW_iconst (pc2 := 82) (v := 0) rfl dX12_copy_81 (by decide) ?_
                refine EW_istore (pc2 := 84) rfl dX12_copy_82 (by decide) [1, 2, 3, 4, 5, 6, 0] [(0, .ref 246), (1, .int v1), (2, .int v2), (3, .int v3), (4, .int v4), (5, .int v5), (6, .int 0)] rfl ?_
                exact sX12_copy_84 v1 v2 v3 v4 v5 0 (wr x 246 0 0) K d bc bs hdp h
              · replace h := h.2 q
                refine EW_iconst (pc2 := 80) (v := 4) rfl dX12_copy_79 (by decide) ?_
                exact AW_iret rfl dX12_copy_80 ⟨_, _, rfl, rfl, h⟩
          · replace h := h.2 q
            refine EW_iconst (pc2 := 59) (v := 3) rfl dX12_copy_58 (by decide) ?_
            exact AW_iret rfl dX12_copy_59 ⟨_, _, rfl, rfl, h⟩
        · replace h := h.2 q
          refine EW_iconst (pc2 := 42) (v := 2) rfl dX12_copy_41 (by decide) ?_
          exact AW_iret rfl dX12_copy_42 ⟨_, _, rfl, rfl, h⟩
    · replace h := h.2 q
      refine EW_iconst (pc2 := 22) (v := 1) rfl dX12_copy_21 (by decide) ?_
      exact AW_iret rfl dX12_copy_22 ⟨_, _, rfl, rfl, h⟩
theorem gfRX12_56 : ab_L RX12 56 12 18 := ⟨by decide, by decide, ab_in 1867 (by decide +kernel) (by decide +kernel)⟩
theorem gfRX12_386 : ab_L RX12 386 12 56 := ⟨by decide, by decide, ab_in 1905 (by decide +kernel) (by decide +kernel)⟩
theorem gfRX12_389 : ab_L RX12 389 12 57 := ⟨by decide, by decide, ab_in 1906 (by decide +kernel) (by decide +kernel)⟩
abbrev MX12_count : ab_M := (yX12_count, cX12_count, 4, (some .int))
theorem dX12_count_0 : decode cX12_count 0 = .ok (.aload_n 0, 1) := by decide +kernel
theorem dX12_count_1 : decode cX12_count 1 = .ok (.iconst 0, 1) := by decide +kernel
theorem dX12_count_2 : decode cX12_count 2 = .ok (.putfield 297, 3) := by decide +kernel
theorem dX12_count_5 : decode cX12_count 5 = .ok (.iconst 0, 1) := by decide +kernel
theorem dX12_count_6 : decode cX12_count 6 = .ok (.istore_n 2, 1) := by decide +kernel
theorem dX12_count_7 : decode cX12_count 7 = .ok (.iload_n 1, 1) := by decide +kernel
theorem dX12_count_8 : decode cX12_count 8 = .ok (.tableswitch 301 0 16 #[84, 89, 94, 99, 104, 109, 109, 154, 181, 208, 235, 271, 276, 281, 286, 291, 296], 84) := by decide +kernel
theorem dX12_count_92 : decode cX12_count 92 = .ok (.aload_n 0, 1) := by decide +kernel
theorem dX12_count_93 : decode cX12_count 93 = .ok (.getfield 395, 3) := by decide +kernel
theorem dX12_count_96 : decode cX12_count 96 = .ok (.ireturn, 1) := by decide +kernel
theorem dX12_count_97 : decode cX12_count 97 = .ok (.aload_n 0, 1) := by decide +kernel
theorem dX12_count_98 : decode cX12_count 98 = .ok (.getfield 300, 3) := by decide +kernel
theorem dX12_count_101 : decode cX12_count 101 = .ok (.ireturn, 1) := by decide +kernel
theorem dX12_count_102 : decode cX12_count 102 = .ok (.aload_n 0, 1) := by decide +kernel
theorem dX12_count_103 : decode cX12_count 103 = .ok (.getfield 331, 3) := by decide +kernel
theorem dX12_count_106 : decode cX12_count 106 = .ok (.ireturn, 1) := by decide +kernel
theorem dX12_count_107 : decode cX12_count 107 = .ok (.aload_n 0, 1) := by decide +kernel
theorem dX12_count_108 : decode cX12_count 108 = .ok (.getfield 366, 3) := by decide +kernel
theorem dX12_count_111 : decode cX12_count 111 = .ok (.ireturn, 1) := by decide +kernel
theorem dX12_count_112 : decode cX12_count 112 = .ok (.aload_n 0, 1) := by decide +kernel
theorem dX12_count_113 : decode cX12_count 113 = .ok (.getfield 525, 3) := by decide +kernel
theorem dX12_count_116 : decode cX12_count 116 = .ok (.ireturn, 1) := by decide +kernel
theorem dX12_count_117 : decode cX12_count 117 = .ok (.iconst 0, 1) := by decide +kernel
theorem dX12_count_118 : decode cX12_count 118 = .ok (.istore_n 3, 1) := by decide +kernel
theorem dX12_count_119 : decode cX12_count 119 = .ok (.iload_n 3, 1) := by decide +kernel
theorem dX12_count_120 : decode cX12_count 120 = .ok (.aload_n 0, 1) := by decide +kernel
theorem dX12_count_121 : decode cX12_count 121 = .ok (.getfield 525, 3) := by decide +kernel
theorem dX12_count_124 : decode cX12_count 124 = .ok (.if_icmp .ge 36, 3) := by decide +kernel
theorem dX12_count_127 : decode cX12_count 127 = .ok (.iload_n 2, 1) := by decide +kernel
theorem dX12_count_128 : decode cX12_count 128 = .ok (.aload_n 0, 1) := by decide +kernel
theorem dX12_count_129 : decode cX12_count 129 = .ok (.getfield 220, 3) := by decide +kernel
theorem dX12_count_132 : decode cX12_count 132 = .ok (.iload_n 3, 1) := by decide +kernel
theorem dX12_count_133 : decode cX12_count 133 = .ok (.iaload, 1) := by decide +kernel
theorem dX12_count_134 : decode cX12_count 134 = .ok (.iload_n 1, 1) := by decide +kernel
theorem dX12_count_135 : decode cX12_count 135 = .ok (.iconst 5, 1) := by decide +kernel
theorem dX12_count_136 : decode cX12_count 136 = .ok (.if_icmp .ne 7, 3) := by decide +kernel
theorem dX12_count_139 : decode cX12_count 139 = .ok (.iconst 0, 1) := by decide +kernel
theorem dX12_count_140 : decode cX12_count 140 = .ok (.goto 4, 3) := by decide +kernel
theorem dX12_count_143 : decode cX12_count 143 = .ok (.iconst 2, 1) := by decide +kernel
theorem dX12_count_144 : decode cX12_count 144 = .ok (.if_icmp .ne 7, 3) := by decide +kernel
theorem dX12_count_147 : decode cX12_count 147 = .ok (.iconst 1, 1) := by decide +kernel
theorem dX12_count_148 : decode cX12_count 148 = .ok (.goto 4, 3) := by decide +kernel
theorem dX12_count_151 : decode cX12_count 151 = .ok (.iconst 0, 1) := by decide +kernel
theorem dX12_count_152 : decode cX12_count 152 = .ok (.iadd, 1) := by decide +kernel
theorem dX12_count_153 : decode cX12_count 153 = .ok (.istore_n 2, 1) := by decide +kernel
theorem dX12_count_154 : decode cX12_count 154 = .ok (.iinc 3 1, 3) := by decide +kernel
theorem dX12_count_157 : decode cX12_count 157 = .ok (.goto (-38), 3) := by decide +kernel
theorem dX12_count_160 : decode cX12_count 160 = .ok (.iload_n 2, 1) := by decide +kernel
theorem dX12_count_161 : decode cX12_count 161 = .ok (.ireturn, 1) := by decide +kernel
theorem dX12_count_162 : decode cX12_count 162 = .ok (.iconst 0, 1) := by decide +kernel
theorem dX12_count_163 : decode cX12_count 163 = .ok (.istore_n 3, 1) := by decide +kernel
theorem dX12_count_164 : decode cX12_count 164 = .ok (.iload_n 3, 1) := by decide +kernel
theorem dX12_count_165 : decode cX12_count 165 = .ok (.aload_n 0, 1) := by decide +kernel
theorem dX12_count_166 : decode cX12_count 166 = .ok (.getfield 525, 3) := by decide +kernel
theorem dX12_count_169 : decode cX12_count 169 = .ok (.if_icmp .ge 18, 3) := by decide +kernel
theorem dX12_count_172 : decode cX12_count 172 = .ok (.iload_n 2, 1) := by decide +kernel
theorem dX12_count_173 : decode cX12_count 173 = .ok (.aload_n 0, 1) := by decide +kernel
theorem dX12_count_174 : decode cX12_count 174 = .ok (.getfield 232, 3) := by decide +kernel
theorem dX12_count_177 : decode cX12_count 177 = .ok (.iload_n 3, 1) := by decide +kernel
theorem dX12_count_178 : decode cX12_count 178 = .ok (.iaload, 1) := by decide +kernel
theorem dX12_count_179 : decode cX12_count 179 = .ok (.iadd, 1) := by decide +kernel
theorem dX12_count_180 : decode cX12_count 180 = .ok (.istore_n 2, 1) := by decide +kernel
theorem dX12_count_181 : decode cX12_count 181 = .ok (.iinc 3 1, 3) := by decide +kernel
theorem dX12_count_184 : decode cX12_count 184 = .ok (.goto (-20), 3) := by decide +kernel
theorem dX12_count_187 : decode cX12_count 187 = .ok (.iload_n 2, 1) := by decide +kernel
theorem dX12_count_188 : decode cX12_count 188 = .ok (.ireturn, 1) := by decide +kernel
theorem dX12_count_189 : decode cX12_count 189 = .ok (.iconst 0, 1) := by decide +kernel
theorem dX12_count_190 : decode cX12_count 190 = .ok (.istore_n 3, 1) := by decide +kernel
theorem dX12_count_191 : decode cX12_count 191 = .ok (.iload_n 3, 1) := by decide +kernel
theorem dX12_count_192 : decode cX12_count 192 = .ok (.aload_n 0, 1) := by decide +kernel
theorem dX12_count_193 : decode cX12_count 193 = .ok (.getfield 331, 3) := by decide +kernel
theorem dX12_count_196 : decode cX12_count 196 = .ok (.if_icmp .ge 18, 3) := by decide +kernel
theorem dX12_count_199 : decode cX12_count 199 = .ok (.iload_n 2, 1) := by decide +kernel
theorem dX12_count_200 : decode cX12_count 200 = .ok (.aload_n 0, 1) := by decide +kernel
theorem dX12_count_201 : decode cX12_count 201 = .ok (.getfield 56, 3) := by decide +kernel
theorem dX12_count_204 : decode cX12_count 204 = .ok (.iload_n 3, 1) := by decide +kernel
theorem dX12_count_205 : decode cX12_count 205 = .ok (.iaload, 1) := by decide +kernel
theorem dX12_count_206 : decode cX12_count 206 = .ok (.iadd, 1) := by decide +kernel
theorem dX12_count_207 : decode cX12_count 207 = .ok (.istore_n 2, 1) := by decide +kernel
theorem dX12_count_208 : decode cX12_count 208 = .ok (.iinc 3 1, 3) := by decide +kernel
theorem dX12_count_211 : decode cX12_count 211 = .ok (.goto (-20), 3) := by decide +kernel
theorem dX12_count_214 : decode cX12_count 214 = .ok (.iload_n 2, 1) := by decide +kernel
theorem dX12_count_215 : decode cX12_count 215 = .ok (.ireturn, 1) := by decide +kernel
theorem dX12_count_216 : decode cX12_count 216 = .ok (.iconst 0, 1) := by decide +kernel
theorem dX12_count_217 : decode cX12_count 217 = .ok (.istore_n 3, 1) := by decide +kernel
theorem dX12_count_218 : decode cX12_count 218 = .ok (.iload_n 3, 1) := by decide +kernel
theorem dX12_count_219 : decode cX12_count 219 = .ok (.aload_n 0, 1) := by decide +kernel
theorem dX12_count_220 : decode cX12_count 220 = .ok (.getfield 331, 3) := by decide +kernel
theorem dX12_count_223 : decode cX12_count 223 = .ok (.if_icmp .ge 18, 3) := by decide +kernel
theorem dX12_count_226 : decode cX12_count 226 = .ok (.iload_n 2, 1) := by decide +kernel
theorem dX12_count_227 : decode cX12_count 227 = .ok (.aload_n 0, 1) := by decide +kernel
theorem dX12_count_228 : decode cX12_count 228 = .ok (.getfield 59, 3) := by decide +kernel
theorem dX12_count_231 : decode cX12_count 231 = .ok (.iload_n 3, 1) := by decide +kernel
theorem dX12_count_232 : decode cX12_count 232 = .ok (.iaload, 1) := by decide +kernel
theorem dX12_count_233 : decode cX12_count 233 = .ok (.iadd, 1) := by decide +kernel
theorem dX12_count_234 : decode cX12_count 234 = .ok (.istore_n 2, 1) := by decide +kernel
theorem dX12_count_235 : decode cX12_count 235 = .ok (.iinc 3 1, 3) := by decide +kernel
theorem dX12_count_238 : decode cX12_count 238 = .ok (.goto (-20), 3) := by decide +kernel
theorem dX12_count_241 : decode cX12_count 241 = .ok (.iload_n 2, 1) := by decide +kernel
theorem dX12_count_242 : decode cX12_count 242 = .ok (.ireturn, 1) := by decide +kernel
theorem dX12_count_243 : decode cX12_count 243 = .ok (.iconst 0, 1) := by decide +kernel
theorem dX12_count_244 : decode cX12_count 244 = .ok (.istore_n 3, 1) := by decide +kernel
theorem dX12_count_245 : decode cX12_count 245 = .ok (.iload_n 3, 1) := by decide +kernel
theorem dX12_count_246 : decode cX12_count 246 = .ok (.aload_n 0, 1) := by decide +kernel
theorem dX12_count_247 : decode cX12_count 247 = .ok (.getfield 366, 3) := by decide +kernel
theorem dX12_count_250 : decode cX12_count 250 = .ok (.if_icmp .ge 27, 3) := by decide +kernel
theorem dX12_count_253 : decode cX12_count 253 = .ok (.iload_n 2, 1) := by decide +kernel
theorem dX12_count_254 : decode cX12_count 254 = .ok (.aload_n 0, 1) := by decide +kernel
theorem dX12_count_255 : decode cX12_count 255 = .ok (.getfield 128, 3) := by decide +kernel
theorem dX12_count_258 : decode cX12_count 258 = .ok (.iload_n 3, 1) := by decide +kernel
theorem dX12_count_259 : decode cX12_count 259 = .ok (.iaload, 1) := by decide +kernel
theorem dX12_count_260 : decode cX12_count 260 = .ok (.iconst 4, 1) := by decide +kernel
theorem dX12_count_261 : decode cX12_count 261 = .ok (.if_icmp .ne 7, 3) := by decide +kernel
theorem dX12_count_264 : decode cX12_count 264 = .ok (.iconst 1, 1) := by decide +kernel
theorem dX12_count_265 : decode cX12_count 265 = .ok (.goto 4, 3) := by decide +kernel
theorem dX12_count_268 : decode cX12_count 268 = .ok (.iconst 0, 1) := by decide +kernel
theorem dX12_count_269 : decode cX12_count 269 = .ok (.iadd, 1) := by decide +kernel
theorem dX12_count_270 : decode cX12_count 270 = .ok (.istore_n 2, 1) := by decide +kernel
theorem dX12_count_271 : decode cX12_count 271 = .ok (.iinc 3 1, 3) := by decide +kernel
theorem dX12_count_274 : decode cX12_count 274 = .ok (.goto (-29), 3) := by decide +kernel
theorem dX12_count_277 : decode cX12_count 277 = .ok (.iload_n 2, 1) := by decide +kernel
theorem dX12_count_278 : decode cX12_count 278 = .ok (.ireturn, 1) := by decide +kernel
theorem dX12_count_279 : decode cX12_count 279 = .ok (.aload_n 0, 1) := by decide +kernel
theorem dX12_count_280 : decode cX12_count 280 = .ok (.getfield 522, 3) := by decide +kernel
theorem dX12_count_283 : decode cX12_count 283 = .ok (.ireturn, 1) := by decide +kernel
theorem dX12_count_284 : decode cX12_count 284 = .ok (.aload_n 0, 1) := by decide +kernel
theorem dX12_count_285 : decode cX12_count 285 = .ok (.getfield 519, 3) := by decide +kernel
theorem dX12_count_288 : decode cX12_count 288 = .ok (.ireturn, 1) := by decide +kernel
theorem dX12_count_289 : decode cX12_count 289 = .ok (.aload_n 0, 1) := by decide +kernel
theorem dX12_count_290 : decode cX12_count 290 = .ok (.getfield 414, 3) := by decide +kernel
theorem dX12_count_293 : decode cX12_count 293 = .ok (.ireturn, 1) := by decide +kernel
theorem dX12_count_294 : decode cX12_count 294 = .ok (.aload_n 0, 1) := by decide +kernel
theorem dX12_count_295 : decode cX12_count 295 = .ok (.getfield 386, 3) := by decide +kernel
theorem dX12_count_298 : decode cX12_count 298 = .ok (.ireturn, 1) := by decide +kernel
theorem dX12_count_299 : decode cX12_count 299 = .ok (.aload_n 0, 1) := by decide +kernel
theorem dX12_count_300 : decode cX12_count 300 = .ok (.getfield 389, 3) := by decide +kernel
theorem dX12_count_303 : decode cX12_count 303 = .ok (.ireturn, 1) := by decide +kernel
theorem dX12_count_304 : decode cX12_count 304 = .ok (.aload_n 0, 1) := by decide +kernel
theorem dX12_count_305 : decode cX12_count 305 = .ok (.getfield 648, 3) := by decide +kernel
theorem dX12_count_308 : decode cX12_count 308 = .ok (.ireturn, 1) := by decide +kernel
theorem dX12_count_309 : decode cX12_count 309 = .ok (.iconst (-1), 1) := by decide +kernel
theorem dX12_count_310 : decode cX12_count 310 = .ok (.ireturn, 1) := by decide +kernel
theorem okX12_count : ab_okM MX12_count 1 := ⟨by decide, ⟨by decide, by decide⟩, ab_in 2749 (by decide +kernel) (by decide +kernel), ab_in 99 (by decide +kernel) (by decide +kernel), by decide +kernel, by decide⟩
set_option maxHeartbeats 4000000 in
set_option maxRecDepth 100000 in
theorem sX12_count_152 (v1 : Int32) (v3 : Int32) (s0 : Int32) (s1 : Int32)  (x : ab_X) (K : Int32 → ab_X → Prop) (L119 : Int32 → Int32 → Prop) (d bc bs : Nat) (hdp : 0 ≤ d) (hL119 : ∀ (v2 : Int32) (v3 : Int32), L119 v2 v3 → EW MX12_count 119 [(0, .ref 246), (1, .int v1), (2, .int v2), (3, .int v3)] [] (aS x) d bc bs (liI K)) (h : wX12_count_152 v1 v3 s0 s1 x K L119) : EW MX12_count 152 [(0, .ref 246), (1, .int v1), (3, .int v3)] [.int s1, .int s0] (aS x) d bc bs (liI K) := by
  unfold wX12_count_152 at h
  refine EW_iadd (pc2 := 153) rfl dX12_count_152 ?_
  refine EW_istore_n (pc2 := 154) rfl dX12_count_153 (by decide) [1, 2, 0, 3] [(0, .ref 246), (1, .int v1), (2, .int (s0 + s1)), (3, .int v3)] rfl ?_
  refine EW_iinc (v3 + 1) (pc2 := 157) rfl dX12_count_154 3 rfl rfl (by decide) [1, 2, 3, 0] [(0, .ref 246), (1, .int v1), (2, .int (s0 + s1)), (3, .int (v3 + 1))] rfl ?_
  refine EW_goto (tgt := 119) dX12_count_157 (by decide) ?_
  exact hL119 (s0 + s1) (v3 + 1) h
set_option maxHeartbeats 4000000 in
set_option maxRecDepth 100000 in
theorem sX12_count_144 (v1 : Int32) (v3 : Int32) (s0 : Int32) (s1 : Int32) (s2 : Int32)  (x : ab_X) (K : Int32 → ab_X → Prop) (L119 : Int32 → Int32 → Prop) (d bc bs : Nat) (hdp : 0 ≤ d) (hL119 : ∀ (v2 : Int32) (v3 : Int32), L119 v2 v3 → EW MX12_count 119 [(0, .ref 246), (1, .int v1), (2, .int v2), (3, .int v3)] [] (aS x) d bc bs (liI K)) (h : wX12_count_144 v1 v3 s0 s1 s2 x K L119) : EW MX12_count 144 [(0, .ref 246), (1, .int v1), (3, .int v3)] [.int s2, .int s1, .int s0] (aS x) d bc bs (liI K) := by
  unfold wX12_count_144 at h
  refine EW_icmp_ne (tgt := 151) (pc2 := 147) rfl dX12_count_144 (by decide) (fun q => ?_) (fun q => ?_)
  · replace h := h.1 q
    refine EW_iconst (pc2 := 152) (v := 0) rfl dX12_count_151 (by decide) ?_
    exact sX12_count_152 v1 v3 s0 0 x K L119 d bc bs hdp hL119 h
  · replace h := h.2 q
    refine EW_iconst (pc2 := 148) (v := 1) rfl dX12_count_147 (by decide) ?_
    refine EW_goto (tgt := 152) dX12_count_148 (by decide) ?_
    exact sX12_count_152 v1 v3 s0 1 x K L119 d bc bs hdp hL119 h
set_option maxHeartbeats 4000000 in
set_option maxRecDepth 100000 in
theorem sX12_count_119 (v1 : Int32) (v2 : Int32) (v3 : Int32)  (x : ab_X) (K : Int32 → ab_X → Prop)  (d bc bs : Nat) (hdp : 0 ≤ d)  (h : Lp2 (lX12_count_119 v1 x K ) v2 v3) : EW MX12_count 119 [(0, .ref 246), (1, .int v1), (2, .int v2), (3, .int v3)] [] (aS x) d bc bs (liI K) := by
  refine Lp2.use (P := fun v2 v3 => EW MX12_count 119 [(0, .ref 246), (1, .int v1), (2, .int v2), (3, .int v3)] [] (aS x) d bc bs (liI K)) (fun L119 v2 v3 hL119 h => ?_) v2 v3 h
  unfold lX12_count_119 at h
  refine EW_iload_n (pc2 := 120) rfl dX12_count_119 3 rfl ?_
  refine EW_aload_n (pc2 := 121) rfl dX12_count_120 0 rfl ?_
  refine AW_geti ⟨gfRX12_525, rfl⟩ (pc2 := 124) rfl dX12_count_121 q246 ?_
  refine EW_icmp_ge (tgt := 160) (pc2 := 127) rfl dX12_count_124 (by decide) (fun q => ?_) (fun q => ?_)
  · replace h := h.1 q
    refine EW_iload_n (pc2 := 161) rfl dX12_count_160 2 rfl ?_
    exact AW_iret rfl dX12_count_161 ⟨_, _, rfl, rfl, h⟩
  · replace h := h.2 q
    refine EW_iload_n (pc2 := 128) rfl dX12_count_127 2 rfl ?_
    refine EW_aload_n (pc2 := 129) rfl dX12_count_128 0 rfl ?_
    refine AW_getr (r := 312) ⟨gfRX12_220, rfl⟩ (pc2 := 132) rfl dX12_count_129 q246 rfl ?_
    refine EW_iload_n (pc2 := 133) rfl dX12_count_132 3 rfl ?_
    obtain ⟨b1, h⟩ := h
    refine AW_iald (pc2 := 134) rfl dX12_count_133 q312 b1 ?_
    refine EW_iload_n (pc2 := 135) rfl dX12_count_134 1 rfl ?_
    refine EW_iconst (pc2 := 136) (v := 5) rfl dX12_count_135 (by decide) ?_
    refine EW_icmp_ne (tgt := 143) (pc2 := 139) rfl dX12_count_136 (by decide) (fun q => ?_) (fun q => ?_)
    · replace h := h.1 q
      refine EW_iconst (pc2 := 144) (v := 2) rfl dX12_count_143 (by decide) ?_
      refine EW_ls [0, 1, 3] rfl ?_
      exact sX12_count_144 v1 v3 v2 (x.1 312 (Int32.toNatClampNeg v3)) 2 x K L119 d bc bs hdp hL119 h
    · replace h := h.2 q
      refine EW_iconst (pc2 := 140) (v := 0) rfl dX12_count_139 (by decide) ?_
      refine EW_goto (tgt := 144) dX12_count_140 (by decide) ?_
      refine EW_ls [0, 1, 3] rfl ?_
      exact sX12_count_144 v1 v3 v2 (x.1 312 (Int32.toNatClampNeg v3)) 0 x K L119 d bc bs hdp hL119 h
set_option maxHeartbeats 4000000 in
set_option maxRecDepth 100000 in
theorem sX12_count_164 (v2 : Int32) (v3 : Int32)  (x : ab_X) (K : Int32 → ab_X → Prop)  (d bc bs : Nat) (hdp : 0 ≤ d)  (h : Lp2 (lX12_count_164  x K ) v2 v3) : EW MX12_count 164 [(0, .ref 246), (2, .int v2), (3, .int v3)] [] (aS x) d bc bs (liI K) := by
  refine Lp2.use (P := fun v2 v3 => EW MX12_count 164 [(0, .ref 246), (2, .int v2), (3, .int v3)] [] (aS x) d bc bs (liI K)) (fun L164 v2 v3 hL164 h => ?_) v2 v3 h
  unfold lX12_count_164 at h
  refine EW_iload_n (pc2 := 165) rfl dX12_count_164 2 rfl ?_
  refine EW_aload_n (pc2 := 166) rfl dX12_count_165 0 rfl ?_
  refine AW_geti ⟨gfRX12_525, rfl⟩ (pc2 := 169) rfl dX12_count_166 q246 ?_
  refine EW_icmp_ge (tgt := 187) (pc2 := 172) rfl dX12_count_169 (by decide) (fun q => ?_) (fun q => ?_)
  · replace h := h.1 q
    refine EW_iload_n (pc2 := 188) rfl dX12_count_187 1 rfl ?_
    exact AW_iret rfl dX12_count_188 ⟨_, _, rfl, rfl, h⟩
  · replace h := h.2 q
    refine EW_iload_n (pc2 := 173) rfl dX12_count_172 1 rfl ?_
    refine EW_aload_n (pc2 := 174) rfl dX12_count_173 0 rfl ?_
    refine AW_getr (r := 316) ⟨gfRX12_232, rfl⟩ (pc2 := 177) rfl dX12_count_174 q246 rfl ?_
    refine EW_iload_n (pc2 := 178) rfl dX12_count_177 2 rfl ?_
    obtain ⟨b2, h⟩ := h
    refine AW_iald (pc2 := 179) rfl dX12_count_178 q316 b2 ?_
    refine EW_iadd (pc2 := 180) rfl dX12_count_179 ?_
    refine EW_istore_n (pc2 := 181) rfl dX12_count_180 (by decide) [1, 0, 2] [(0, .ref 246), (2, .int (v2 + (x.1 316 (Int32.toNatClampNeg v3)))), (3, .int v3)] rfl ?_
    refine EW_iinc (v3 + 1) (pc2 := 184) rfl dX12_count_181 2 rfl rfl (by decide) [1, 2, 0] [(0, .ref 246), (2, .int (v2 + (x.1 316 (Int32.toNatClampNeg v3)))), (3, .int (v3 + 1))] rfl ?_
    refine EW_goto (tgt := 164) dX12_count_184 (by decide) ?_
    exact hL164 (v2 + (x.1 316 (Int32.toNatClampNeg v3))) (v3 + 1) h
set_option maxHeartbeats 4000000 in
set_option maxRecDepth 100000 in
theorem sX12_count_191 (v2 : Int32) (v3 : Int32)  (x : ab_X) (K : Int32 → ab_X → Prop)  (d bc bs : Nat) (hdp : 0 ≤ d)  (h : Lp2 (lX12_count_191  x K ) v2 v3) : EW MX12_count 191 [(0, .ref 246), (2, .int v2), (3, .int v3)] [] (aS x) d bc bs (liI K) := by
  refine Lp2.use (P := fun v2 v3 => EW MX12_count 191 [(0, .ref 246), (2, .int v2), (3, .int v3)] [] (aS x) d bc bs (liI K)) (fun L191 v2 v3 hL191 h => ?_) v2 v3 h
  unfold lX12_count_191 at h
  refine EW_iload_n (pc2 := 192) rfl dX12_count_191 2 rfl ?_
  refine EW_aload_n (pc2 := 193) rfl dX12_count_192 0 rfl ?_
  refine AW_geti ⟨gfRX12_331, rfl⟩ (pc2 := 196) rfl dX12_count_193 q246 ?_
  refine EW_icmp_ge (tgt := 214) (pc2 := 199) rfl dX12_count_196 (by decide) (fun q => ?_) (fun q => ?_)
  · replace h := h.1 q
    refine EW_iload_n (pc2 := 215) rfl dX12_count_214 1 rfl ?_
    exact AW_iret rfl dX12_count_215 ⟨_, _, rfl, rfl, h⟩
  · replace h := h.2 q
    refine EW_iload_n (pc2 := 200) rfl dX12_count_199 1 rfl ?_
    refine EW_aload_n (pc2 := 201) rfl dX12_count_200 0 rfl ?_
    refine AW_getr (r := 262) ⟨gfRX12_56, rfl⟩ (pc2 := 204) rfl dX12_count_201 q246 rfl ?_
    refine EW_iload_n (pc2 := 205) rfl dX12_count_204 2 rfl ?_
    obtain ⟨b3, h⟩ := h
    refine AW_iald (pc2 := 206) rfl dX12_count_205 q262 b3 ?_
    refine EW_iadd (pc2 := 207) rfl dX12_count_206 ?_
    refine EW_istore_n (pc2 := 208) rfl dX12_count_207 (by decide) [1, 0, 2] [(0, .ref 246), (2, .int (v2 + (x.1 262 (Int32.toNatClampNeg v3)))), (3, .int v3)] rfl ?_
    refine EW_iinc (v3 + 1) (pc2 := 211) rfl dX12_count_208 2 rfl rfl (by decide) [1, 2, 0] [(0, .ref 246), (2, .int (v2 + (x.1 262 (Int32.toNatClampNeg v3)))), (3, .int (v3 + 1))] rfl ?_
    refine EW_goto (tgt := 191) dX12_count_211 (by decide) ?_
    exact hL191 (v2 + (x.1 262 (Int32.toNatClampNeg v3))) (v3 + 1) h
set_option maxHeartbeats 4000000 in
set_option maxRecDepth 100000 in
theorem sX12_count_218 (v2 : Int32) (v3 : Int32)  (x : ab_X) (K : Int32 → ab_X → Prop)  (d bc bs : Nat) (hdp : 0 ≤ d)  (h : Lp2 (lX12_count_218  x K ) v2 v3) : EW MX12_count 218 [(0, .ref 246), (2, .int v2), (3, .int v3)] [] (aS x) d bc bs (liI K) := by
  refine Lp2.use (P := fun v2 v3 => EW MX12_count 218 [(0, .ref 246), (2, .int v2), (3, .int v3)] [] (aS x) d bc bs (liI K)) (fun L218 v2 v3 hL218 h => ?_) v2 v3 h
  unfold lX12_count_218 at h
  refine EW_iload_n (pc2 := 219) rfl dX12_count_218 2 rfl ?_
  refine EW_aload_n (pc2 := 220) rfl dX12_count_219 0 rfl ?_
  refine AW_geti ⟨gfRX12_331, rfl⟩ (pc2 := 223) rfl dX12_count_220 q246 ?_
  refine EW_icmp_ge (tgt := 241) (pc2 := 226) rfl dX12_count_223 (by decide) (fun q => ?_) (fun q => ?_)
  · replace h := h.1 q
    refine EW_iload_n (pc2 := 242) rfl dX12_count_241 1 rfl ?_
    exact AW_iret rfl dX12_count_242 ⟨_, _, rfl, rfl, h⟩
  · replace h := h.2 q
    refine EW_iload_n (pc2 := 227) rfl dX12_count_226 1 rfl ?_
    refine EW_aload_n (pc2 := 228) rfl dX12_count_227 0 rfl ?_
    refine AW_getr (r := 263) ⟨gfRX12_59, rfl⟩ (pc2 := 231) rfl dX12_count_228 q246 rfl ?_
    refine EW_iload_n (pc2 := 232) rfl dX12_count_231 2 rfl ?_
    obtain ⟨b4, h⟩ := h
    refine AW_iald (pc2 := 233) rfl dX12_count_232 q263 b4 ?_
    refine EW_iadd (pc2 := 234) rfl dX12_count_233 ?_
    refine EW_istore_n (pc2 := 235) rfl dX12_count_234 (by decide) [1, 0, 2] [(0, .ref 246), (2, .int (v2 + (x.1 263 (Int32.toNatClampNeg v3)))), (3, .int v3)] rfl ?_
    refine EW_iinc (v3 + 1) (pc2 := 238) rfl dX12_count_235 2 rfl rfl (by decide) [1, 2, 0] [(0, .ref 246), (2, .int (v2 + (x.1 263 (Int32.toNatClampNeg v3)))), (3, .int (v3 + 1))] rfl ?_
    refine EW_goto (tgt := 218) dX12_count_238 (by decide) ?_
    exact hL218 (v2 + (x.1 263 (Int32.toNatClampNeg v3))) (v3 + 1) h
set_option maxHeartbeats 4000000 in
set_option maxRecDepth 100000 in
theorem sX12_count_269 (v3 : Int32) (s0 : Int32) (s1 : Int32)  (x : ab_X) (K : Int32 → ab_X → Prop) (L245 : Int32 → Int32 → Prop) (d bc bs : Nat) (hdp : 0 ≤ d) (hL245 : ∀ (v2 : Int32) (v3 : Int32), L245 v2 v3 → EW MX12_count 245 [(0, .ref 246), (2, .int v2), (3, .int v3)] [] (aS x) d bc bs (liI K)) (h : wX12_count_269 v3 s0 s1 x K L245) : EW MX12_count 269 [(0, .ref 246), (3, .int v3)] [.int s1, .int s0] (aS x) d bc bs (liI K) := by
  unfold wX12_count_269 at h
  refine EW_iadd (pc2 := 270) rfl dX12_count_269 ?_
  refine EW_istore_n (pc2 := 271) rfl dX12_count_270 (by decide) [1, 0, 2] [(0, .ref 246), (2, .int (s0 + s1)), (3, .int v3)] rfl ?_
  refine EW_iinc (v3 + 1) (pc2 := 274) rfl dX12_count_271 2 rfl rfl (by decide) [1, 2, 0] [(0, .ref 246), (2, .int (s0 + s1)), (3, .int (v3 + 1))] rfl ?_
  refine EW_goto (tgt := 245) dX12_count_274 (by decide) ?_
  exact hL245 (s0 + s1) (v3 + 1) h
set_option maxHeartbeats 4000000 in
set_option maxRecDepth 100000 in
theorem sX12_count_245 (v2 : Int32) (v3 : Int32)  (x : ab_X) (K : Int32 → ab_X → Prop)  (d bc bs : Nat) (hdp : 0 ≤ d)  (h : Lp2 (lX12_count_245  x K ) v2 v3) : EW MX12_count 245 [(0, .ref 246), (2, .int v2), (3, .int v3)] [] (aS x) d bc bs (liI K) := by
  refine Lp2.use (P := fun v2 v3 => EW MX12_count 245 [(0, .ref 246), (2, .int v2), (3, .int v3)] [] (aS x) d bc bs (liI K)) (fun L245 v2 v3 hL245 h => ?_) v2 v3 h
  unfold lX12_count_245 at h
  refine EW_iload_n (pc2 := 246) rfl dX12_count_245 2 rfl ?_
  refine EW_aload_n (pc2 := 247) rfl dX12_count_246 0 rfl ?_
  refine AW_geti ⟨gfRX12_366, rfl⟩ (pc2 := 250) rfl dX12_count_247 q246 ?_
  refine EW_icmp_ge (tgt := 277) (pc2 := 253) rfl dX12_count_250 (by decide) (fun q => ?_) (fun q => ?_)
  · replace h := h.1 q
    refine EW_iload_n (pc2 := 278) rfl dX12_count_277 1 rfl ?_
    exact AW_iret rfl dX12_count_278 ⟨_, _, rfl, rfl, h⟩
  · replace h := h.2 q
    refine EW_iload_n (pc2 := 254) rfl dX12_count_253 1 rfl ?_
    refine EW_aload_n (pc2 := 255) rfl dX12_count_254 0 rfl ?_
    refine AW_getr (r := 286) ⟨gfRX12_128, rfl⟩ (pc2 := 258) rfl dX12_count_255 q246 rfl ?_
    refine EW_iload_n (pc2 := 259) rfl dX12_count_258 2 rfl ?_
    obtain ⟨b5, h⟩ := h
    refine AW_iald (pc2 := 260) rfl dX12_count_259 q286 b5 ?_
    refine EW_iconst (pc2 := 261) (v := 4) rfl dX12_count_260 (by decide) ?_
    refine EW_icmp_ne (tgt := 268) (pc2 := 264) rfl dX12_count_261 (by decide) (fun q => ?_) (fun q => ?_)
    · replace h := h.1 q
      refine EW_iconst (pc2 := 269) (v := 0) rfl dX12_count_268 (by decide) ?_
      refine EW_ls [0, 2] rfl ?_
      exact sX12_count_269 v3 v2 0 x K L245 d bc bs hdp hL245 h
    · replace h := h.2 q
      refine EW_iconst (pc2 := 265) (v := 1) rfl dX12_count_264 (by decide) ?_
      refine EW_goto (tgt := 269) dX12_count_265 (by decide) ?_
      refine EW_ls [0, 2] rfl ?_
      exact sX12_count_269 v3 v2 1 x K L245 d bc bs hdp hL245 h
set_option maxHeartbeats 4000000 in
set_option maxRecDepth 100000 in
theorem sX12_count (v1 : Int32)  (x : ab_X) (K : Int32 → ab_X → Prop) (d bc bs : Nat) (hdp : 0 ≤ d) (h : wX12_count v1 x K) : EW MX12_count 0 [(0, .ref 246), (1, .int v1)] [] (aS x) d bc bs (liI K) := by
  unfold wX12_count at h
  refine EW_aload_n (pc2 := 1) rfl dX12_count_0 0 rfl ?_
  refine EW_iconst (pc2 := 2) (v := 0) rfl dX12_count_1 (by decide) ?_
  refine AW_puti ⟨gfRX12_297, rfl, rfl⟩ (pc2 := 5) rfl dX12_count_2 q246 ?_
  refine EW_iconst (pc2 := 6) (v := 0) rfl dX12_count_5 (by decide) ?_
  refine EW_istore_n (pc2 := 7) rfl dX12_count_6 (by decide) [1, 2, 0] [(0, .ref 246), (1, .int v1), (2, .int 0)] rfl ?_
  refine EW_iload_n (pc2 := 8) rfl dX12_count_7 1 rfl ?_
  by_cases qo : Int32.toInt v1 < 0 ∨ 16 < Int32.toInt v1
  · replace h := h.1 qo
    refine EW_tabOut (tgt := 309) dX12_count_8 qo (by decide) ?_
    refine EW_iconst (pc2 := 310) (v := (-1)) rfl dX12_count_309 (by decide) ?_
    exact AW_iret rfl dX12_count_310 ⟨_, _, rfl, rfl, h⟩
  · obtain ⟨kk, hkk, qk⟩ := sw_in 0 16 (by decide) qo
    match kk, hkk, qk with
    | 0, _, qk =>
      replace h := h.2.1 qk
      refine EW_tabIn (off := 84) (tgt := 92) dX12_count_8 (by rw [qk]; decide) (by rw [qk]; decide) (by rw [qk]; decide) (by decide) ?_
      refine EW_aload_n (pc2 := 93) rfl dX12_count_92 0 rfl ?_
      refine AW_geti ⟨gfRX12_395, rfl⟩ (pc2 := 96) rfl dX12_count_93 q246 ?_
      exact AW_iret rfl dX12_count_96 ⟨_, _, rfl, rfl, h⟩
    | 1, _, qk =>
      replace h := h.2.2.1 qk
      refine EW_tabIn (off := 89) (tgt := 97) dX12_count_8 (by rw [qk]; decide) (by rw [qk]; decide) (by rw [qk]; decide) (by decide) ?_
      refine EW_aload_n (pc2 := 98) rfl dX12_count_97 0 rfl ?_
      refine AW_geti ⟨gfRX12_300, rfl⟩ (pc2 := 101) rfl dX12_count_98 q246 ?_
      exact AW_iret rfl dX12_count_101 ⟨_, _, rfl, rfl, h⟩
    | 2, _, qk =>
      replace h := h.2.2.2.1 qk
      refine EW_tabIn (off := 94) (tgt := 102) dX12_count_8 (by rw [qk]; decide) (by rw [qk]; decide) (by rw [qk]; decide) (by decide) ?_
      refine EW_aload_n (pc2 := 103) rfl dX12_count_102 0 rfl ?_
      refine AW_geti ⟨gfRX12_331, rfl⟩ (pc2 := 106) rfl dX12_count_103 q246 ?_
      exact AW_iret rfl dX12_count_106 ⟨_, _, rfl, rfl, h⟩
    | 3, _, qk =>
      replace h := h.2.2.2.2.1 qk
      refine EW_tabIn (off := 99) (tgt := 107) dX12_count_8 (by rw [qk]; decide) (by rw [qk]; decide) (by rw [qk]; decide) (by decide) ?_
      refine EW_aload_n (pc2 := 108) rfl dX12_count_107 0 rfl ?_
      refine AW_geti ⟨gfRX12_366, rfl⟩ (pc2 := 111) rfl dX12_count_108 q246 ?_
      exact AW_iret rfl dX12_count_111 ⟨_, _, rfl, rfl, h⟩
    | 4, _, qk =>
      replace h := h.2.2.2.2.2.1 qk
      refine EW_tabIn (off := 104) (tgt := 112) dX12_count_8 (by rw [qk]; decide) (by rw [qk]; decide) (by rw [qk]; decide) (by decide) ?_
      refine EW_aload_n (pc2 := 113) rfl dX12_count_112 0 rfl ?_
      refine AW_geti ⟨gfRX12_525, rfl⟩ (pc2 := 116) rfl dX12_count_113 q246 ?_
      exact AW_iret rfl dX12_count_116 ⟨_, _, rfl, rfl, h⟩
    | 5, _, qk =>
      replace h := h.2.2.2.2.2.2.1 qk
      refine EW_tabIn (off := 109) (tgt := 117) dX12_count_8 (by rw [qk]; decide) (by rw [qk]; decide) (by rw [qk]; decide) (by decide) ?_
      refine EW_iconst (pc2 := 118) (v := 0) rfl dX12_count_117 (by decide) ?_
      refine EW_istore_n (pc2 := 119) rfl dX12_count_118 (by decide) [1, 2, 3, 0] [(0, .ref 246), (1, .int v1), (2, .int 0), (3, .int 0)] rfl ?_
      exact sX12_count_119 v1 0 0 (wr x 246 0 0) K d bc bs hdp h
    | 6, _, qk =>
      replace h := h.2.2.2.2.2.2.2.1 qk
      refine EW_tabIn (off := 109) (tgt := 117) dX12_count_8 (by rw [qk]; decide) (by rw [qk]; decide) (by rw [qk]; decide) (by decide) ?_
      refine EW_iconst (pc2 := 118) (v := 0) rfl dX12_count_117 (by decide) ?_
      refine EW_istore_n (pc2 := 119) rfl dX12_count_118 (by decide) [1, 2, 3, 0] [(0, .ref 246), (1, .int v1), (2, .int 0), (3, .int 0)] rfl ?_
      exact sX12_count_119 v1 0 0 (wr x 246 0 0) K d bc bs hdp h
    | 7, _, qk =>
      replace h := h.2.2.2.2.2.2.2.2.1 qk
      refine EW_tabIn (off := 154) (tgt := 162) dX12_count_8 (by rw [qk]; decide) (by rw [qk]; decide) (by rw [qk]; decide) (by decide) ?_
      refine EW_iconst (pc2 := 163) (v := 0) rfl dX12_count_162 (by decide) ?_
      refine EW_istore_n (pc2 := 164) rfl dX12_count_163 (by decide) [1, 2, 3, 0] [(0, .ref 246), (1, .int v1), (2, .int 0), (3, .int 0)] rfl ?_
      refine EW_ls [0, 2, 3] rfl ?_
      exact sX12_count_164 0 0 (wr x 246 0 0) K d bc bs hdp h
    | 8, _, qk =>
      replace h := h.2.2.2.2.2.2.2.2.2.1 qk
      refine EW_tabIn (off := 181) (tgt := 189) dX12_count_8 (by rw [qk]; decide) (by rw [qk]; decide) (by rw [qk]; decide) (by decide) ?_
      refine EW_iconst (pc2 := 190) (v := 0) rfl dX12_count_189 (by decide) ?_
      refine EW_istore_n (pc2 := 191) rfl dX12_count_190 (by decide) [1, 2, 3, 0] [(0, .ref 246), (1, .int v1), (2, .int 0), (3, .int 0)] rfl ?_
      refine EW_ls [0, 2, 3] rfl ?_
      exact sX12_count_191 0 0 (wr x 246 0 0) K d bc bs hdp h
    | 9, _, qk =>
      replace h := h.2.2.2.2.2.2.2.2.2.2.1 qk
      refine EW_tabIn (off := 208) (tgt := 216) dX12_count_8 (by rw [qk]; decide) (by rw [qk]; decide) (by rw [qk]; decide) (by decide) ?_
      refine EW_iconst (pc2 := 217) (v := 0) rfl dX12_count_216 (by decide) ?_
      refine EW_istore_n (pc2 := 218) rfl dX12_count_217 (by decide) [1, 2, 3, 0] [(0, .ref 246), (1, .int v1), (2, .int 0), (3, .int 0)] rfl ?_
      refine EW_ls [0, 2, 3] rfl ?_
      exact sX12_count_218 0 0 (wr x 246 0 0) K d bc bs hdp h
    | 10, _, qk =>
      replace h := h.2.2.2.2.2.2.2.2.2.2.2.1 qk
      refine EW_tabIn (off := 235) (tgt := 243) dX12_count_8 (by rw [qk]; decide) (by rw [qk]; decide) (by rw [qk]; decide) (by decide) ?_
      refine EW_iconst (pc2 := 244) (v := 0) rfl dX12_count_243 (by decide) ?_
      refine EW_istore_n (pc2 := 245) rfl dX12_count_244 (by decide) [1, 2, 3, 0] [(0, .ref 246), (1, .int v1), (2, .int 0), (3, .int 0)] rfl ?_
      refine EW_ls [0, 2, 3] rfl ?_
      exact sX12_count_245 0 0 (wr x 246 0 0) K d bc bs hdp h
    | 11, _, qk =>
      replace h := h.2.2.2.2.2.2.2.2.2.2.2.2.1 qk
      refine EW_tabIn (off := 271) (tgt := 279) dX12_count_8 (by rw [qk]; decide) (by rw [qk]; decide) (by rw [qk]; decide) (by decide) ?_
      refine EW_aload_n (pc2 := 280) rfl dX12_count_279 0 rfl ?_
      refine AW_geti ⟨gfRX12_522, rfl⟩ (pc2 := 283) rfl dX12_count_280 q246 ?_
      exact AW_iret rfl dX12_count_283 ⟨_, _, rfl, rfl, h⟩
    | 12, _, qk =>
      replace h := h.2.2.2.2.2.2.2.2.2.2.2.2.2.1 qk
      refine EW_tabIn (off := 276) (tgt := 284) dX12_count_8 (by rw [qk]; decide) (by rw [qk]; decide) (by rw [qk]; decide) (by decide) ?_
      refine EW_aload_n (pc2 := 285) rfl dX12_count_284 0 rfl ?_
      refine AW_geti ⟨gfRX12_519, rfl⟩ (pc2 := 288) rfl dX12_count_285 q246 ?_
      exact AW_iret rfl dX12_count_288 ⟨_, _, rfl, rfl, h⟩
    | 13, _, qk =>
      replace h := h.2.2.2.2.2.2.2.2.2.2.2.2.2.2.1 qk
      refine EW_tabIn (off := 281) (tgt := 289) dX12_count_8 (by rw [qk]; decide) (by rw [qk]; decide) (by rw [qk]; decide) (by decide) ?_
      refine EW_aload_n (pc2 := 290) rfl dX12_count_289 0 rfl ?_
      refine AW_geti ⟨gfRX12_414, rfl⟩ (pc2 := 293) rfl dX12_count_290 q246 ?_
      exact AW_iret rfl dX12_count_293 ⟨_, _, rfl, rfl, h⟩
    | 14, _, qk =>
      replace h := h.2.2.2.2.2.2.2.2.2.2.2.2.2.2.2.1 qk
      refine EW_tabIn (off := 286) (tgt := 294) dX12_count_8 (by rw [qk]; decide) (by rw [qk]; decide) (by rw [qk]; decide) (by decide) ?_
      refine EW_aload_n (pc2 := 295) rfl dX12_count_294 0 rfl ?_
      refine AW_geti ⟨gfRX12_386, rfl⟩ (pc2 := 298) rfl dX12_count_295 q246 ?_
      exact AW_iret rfl dX12_count_298 ⟨_, _, rfl, rfl, h⟩
    | 15, _, qk =>
      replace h := h.2.2.2.2.2.2.2.2.2.2.2.2.2.2.2.2.1 qk
      refine EW_tabIn (off := 291) (tgt := 299) dX12_count_8 (by rw [qk]; decide) (by rw [qk]; decide) (by rw [qk]; decide) (by decide) ?_
      refine EW_aload_n (pc2 := 300) rfl dX12_count_299 0 rfl ?_
      refine AW_geti ⟨gfRX12_389, rfl⟩ (pc2 := 303) rfl dX12_count_300 q246 ?_
      exact AW_iret rfl dX12_count_303 ⟨_, _, rfl, rfl, h⟩
    | 16, _, qk =>
      replace h := h.2.2.2.2.2.2.2.2.2.2.2.2.2.2.2.2.2 qk
      refine EW_tabIn (off := 296) (tgt := 304) dX12_count_8 (by rw [qk]; decide) (by rw [qk]; decide) (by rw [qk]; decide) (by decide) ?_
      refine EW_aload_n (pc2 := 305) rfl dX12_count_304 0 rfl ?_
      refine AW_geti ⟨gfRX12_648, rfl⟩ (pc2 := 308) rfl dX12_count_305 q246 ?_
      exact AW_iret rfl dX12_count_308 ⟨_, _, rfl, rfl, h⟩
    | n9 + 17, hkk, _ => exact absurd hkk (by omega)
theorem gfRX12_125 : ab_L RX12 125 12 42 := ⟨by decide, by decide, ab_in 1891 (by decide +kernel) (by decide +kernel)⟩
theorem gfRX12_122 : ab_L RX12 122 12 41 := ⟨by decide, by decide, ab_in 1890 (by decide +kernel) (by decide +kernel)⟩
theorem gfRX12_116 : ab_L RX12 116 12 39 := ⟨by decide, by decide, ab_in 1888 (by decide +kernel) (by decide +kernel)⟩
theorem gfRX12_119 : ab_L RX12 119 12 40 := ⟨by decide, by decide, ab_in 1889 (by decide +kernel) (by decide +kernel)⟩
abbrev MX12_crew : ab_M := (yX12_crew, cX12_crew, 7, (some .int))
theorem dX12_crew_0 : decode cX12_crew 0 = .ok (.aload_n 0, 1) := by decide +kernel
theorem dX12_crew_1 : decode cX12_crew 1 = .ok (.iconst 0, 1) := by decide +kernel
theorem dX12_crew_2 : decode cX12_crew 2 = .ok (.putfield 297, 3) := by decide +kernel
theorem dX12_crew_5 : decode cX12_crew 5 = .ok (.aload_n 0, 1) := by decide +kernel
theorem dX12_crew_6 : decode cX12_crew 6 = .ok (.getfield 366, 3) := by decide +kernel
theorem dX12_crew_9 : decode cX12_crew 9 = .ok (.bipush 16, 2) := by decide +kernel
theorem dX12_crew_11 : decode cX12_crew 11 = .ok (.if_icmp .eq 43, 3) := by decide +kernel
theorem dX12_crew_14 : decode cX12_crew 14 = .ok (.iload_n 1, 1) := by decide +kernel
theorem dX12_crew_15 : decode cX12_crew 15 = .ok (.iconst 0, 1) := by decide +kernel
theorem dX12_crew_16 : decode cX12_crew 16 = .ok (.iconst 3, 1) := by decide +kernel
theorem dX12_crew_17 : decode cX12_crew 17 = .ok (.invokestatic 307, 3) := by decide +kernel
theorem dX12_crew_20 : decode cX12_crew 20 = .ok (.ifCond .eq 34, 3) := by decide +kernel
theorem dX12_crew_23 : decode cX12_crew 23 = .ok (.iload_n 2, 1) := by decide +kernel
theorem dX12_crew_24 : decode cX12_crew 24 = .ok (.invokestatic 303, 3) := by decide +kernel
theorem dX12_crew_27 : decode cX12_crew 27 = .ok (.ifCond .eq 27, 3) := by decide +kernel
theorem dX12_crew_30 : decode cX12_crew 30 = .ok (.iload 4, 2) := by decide +kernel
theorem dX12_crew_32 : decode cX12_crew 32 = .ok (.bipush 50, 2) := by decide +kernel
theorem dX12_crew_34 : decode cX12_crew 34 = .ok (.sipush 150, 3) := by decide +kernel
theorem dX12_crew_37 : decode cX12_crew 37 = .ok (.invokestatic 307, 3) := by decide +kernel
theorem dX12_crew_40 : decode cX12_crew 40 = .ok (.ifCond .eq 14, 3) := by decide +kernel
theorem dX12_crew_43 : decode cX12_crew 43 = .ok (.iload 5, 2) := by decide +kernel
theorem dX12_crew_45 : decode cX12_crew 45 = .ok (.iconst 1, 1) := by decide +kernel
theorem dX12_crew_46 : decode cX12_crew 46 = .ok (.bipush 9, 2) := by decide +kernel
theorem dX12_crew_48 : decode cX12_crew 48 = .ok (.invokestatic 307, 3) := by decide +kernel
theorem dX12_crew_51 : decode cX12_crew 51 = .ok (.ifCond .ne 5, 3) := by decide +kernel
theorem dX12_crew_54 : decode cX12_crew 54 = .ok (.iconst (-1), 1) := by decide +kernel
theorem dX12_crew_55 : decode cX12_crew 55 = .ok (.ireturn, 1) := by decide +kernel
theorem dX12_crew_56 : decode cX12_crew 56 = .ok (.aload_n 0, 1) := by decide +kernel
theorem dX12_crew_57 : decode cX12_crew 57 = .ok (.getfield 366, 3) := by decide +kernel
theorem dX12_crew_60 : decode cX12_crew 60 = .ok (.istore 6, 2) := by decide +kernel
theorem dX12_crew_62 : decode cX12_crew 62 = .ok (.aload_n 0, 1) := by decide +kernel
theorem dX12_crew_63 : decode cX12_crew 63 = .ok (.getfield 107, 3) := by decide +kernel
theorem dX12_crew_66 : decode cX12_crew 66 = .ok (.iload 6, 2) := by decide +kernel
theorem dX12_crew_68 : decode cX12_crew 68 = .ok (.iload_n 1, 1) := by decide +kernel
theorem dX12_crew_69 : decode cX12_crew 69 = .ok (.iastore, 1) := by decide +kernel
theorem dX12_crew_70 : decode cX12_crew 70 = .ok (.aload_n 0, 1) := by decide +kernel
theorem dX12_crew_71 : decode cX12_crew 71 = .ok (.getfield 110, 3) := by decide +kernel
theorem dX12_crew_74 : decode cX12_crew 74 = .ok (.iload 6, 2) := by decide +kernel
theorem dX12_crew_76 : decode cX12_crew 76 = .ok (.iload_n 2, 1) := by decide +kernel
theorem dX12_crew_77 : decode cX12_crew 77 = .ok (.iastore, 1) := by decide +kernel
theorem dX12_crew_78 : decode cX12_crew 78 = .ok (.aload_n 0, 1) := by decide +kernel
theorem dX12_crew_79 : decode cX12_crew 79 = .ok (.getfield 164, 3) := by decide +kernel
theorem dX12_crew_82 : decode cX12_crew 82 = .ok (.iload 6, 2) := by decide +kernel
theorem dX12_crew_84 : decode cX12_crew 84 = .ok (.iload_n 3, 1) := by decide +kernel
theorem dX12_crew_85 : decode cX12_crew 85 = .ok (.bastore, 1) := by decide +kernel
theorem dX12_crew_86 : decode cX12_crew 86 = .ok (.aload_n 0, 1) := by decide +kernel
theorem dX12_crew_87 : decode cX12_crew 87 = .ok (.getfield 113, 3) := by decide +kernel
theorem dX12_crew_90 : decode cX12_crew 90 = .ok (.iload 6, 2) := by decide +kernel
theorem dX12_crew_92 : decode cX12_crew 92 = .ok (.iload 4, 2) := by decide +kernel
theorem dX12_crew_94 : decode cX12_crew 94 = .ok (.iastore, 1) := by decide +kernel
theorem dX12_crew_95 : decode cX12_crew 95 = .ok (.aload_n 0, 1) := by decide +kernel
theorem dX12_crew_96 : decode cX12_crew 96 = .ok (.getfield 116, 3) := by decide +kernel
theorem dX12_crew_99 : decode cX12_crew 99 = .ok (.iload 6, 2) := by decide +kernel
theorem dX12_crew_101 : decode cX12_crew 101 = .ok (.iload 5, 2) := by decide +kernel
theorem dX12_crew_103 : decode cX12_crew 103 = .ok (.iastore, 1) := by decide +kernel
theorem dX12_crew_104 : decode cX12_crew 104 = .ok (.aload_n 0, 1) := by decide +kernel
theorem dX12_crew_105 : decode cX12_crew 105 = .ok (.getfield 119, 3) := by decide +kernel
theorem dX12_crew_108 : decode cX12_crew 108 = .ok (.iload 6, 2) := by decide +kernel
theorem dX12_crew_110 : decode cX12_crew 110 = .ok (.iload_n 1, 1) := by decide +kernel
theorem dX12_crew_111 : decode cX12_crew 111 = .ok (.iconst 2, 1) := by decide +kernel
theorem dX12_crew_112 : decode cX12_crew 112 = .ok (.if_icmp .ge 8, 3) := by decide +kernel
theorem dX12_crew_115 : decode cX12_crew 115 = .ok (.bipush 100, 2) := by decide +kernel
theorem dX12_crew_117 : decode cX12_crew 117 = .ok (.goto 13, 3) := by decide +kernel
theorem dX12_crew_120 : decode cX12_crew 120 = .ok (.iload_n 1, 1) := by decide +kernel
theorem dX12_crew_121 : decode cX12_crew 121 = .ok (.iconst 2, 1) := by decide +kernel
theorem dX12_crew_122 : decode cX12_crew 122 = .ok (.if_icmp .ne 7, 3) := by decide +kernel
theorem dX12_crew_125 : decode cX12_crew 125 = .ok (.iconst 1, 1) := by decide +kernel
theorem dX12_crew_126 : decode cX12_crew 126 = .ok (.goto 4, 3) := by decide +kernel
theorem dX12_crew_129 : decode cX12_crew 129 = .ok (.iconst 0, 1) := by decide +kernel
theorem dX12_crew_130 : decode cX12_crew 130 = .ok (.iastore, 1) := by decide +kernel
theorem dX12_crew_131 : decode cX12_crew 131 = .ok (.aload_n 0, 1) := by decide +kernel
theorem dX12_crew_132 : decode cX12_crew 132 = .ok (.getfield 122, 3) := by decide +kernel
theorem dX12_crew_135 : decode cX12_crew 135 = .ok (.iload 6, 2) := by decide +kernel
theorem dX12_crew_137 : decode cX12_crew 137 = .ok (.iload_n 1, 1) := by decide +kernel
theorem dX12_crew_138 : decode cX12_crew 138 = .ok (.iconst 2, 1) := by decide +kernel
theorem dX12_crew_139 : decode cX12_crew 139 = .ok (.if_icmp .ge 8, 3) := by decide +kernel
theorem dX12_crew_142 : decode cX12_crew 142 = .ok (.bipush 10, 2) := by decide +kernel
theorem dX12_crew_144 : decode cX12_crew 144 = .ok (.goto 4, 3) := by decide +kernel
theorem dX12_crew_147 : decode cX12_crew 147 = .ok (.iconst 0, 1) := by decide +kernel
theorem dX12_crew_148 : decode cX12_crew 148 = .ok (.iastore, 1) := by decide +kernel
theorem dX12_crew_149 : decode cX12_crew 149 = .ok (.aload_n 0, 1) := by decide +kernel
theorem dX12_crew_150 : decode cX12_crew 150 = .ok (.getfield 125, 3) := by decide +kernel
theorem dX12_crew_153 : decode cX12_crew 153 = .ok (.iload 6, 2) := by decide +kernel
theorem dX12_crew_155 : decode cX12_crew 155 = .ok (.iload_n 1, 1) := by decide +kernel
theorem dX12_crew_156 : decode cX12_crew 156 = .ok (.iconst 1, 1) := by decide +kernel
theorem dX12_crew_157 : decode cX12_crew 157 = .ok (.if_icmp .ne 7, 3) := by decide +kernel
theorem dX12_crew_160 : decode cX12_crew 160 = .ok (.iconst 1, 1) := by decide +kernel
theorem dX12_crew_161 : decode cX12_crew 161 = .ok (.goto 4, 3) := by decide +kernel
theorem dX12_crew_164 : decode cX12_crew 164 = .ok (.iconst 0, 1) := by decide +kernel
theorem dX12_crew_165 : decode cX12_crew 165 = .ok (.iastore, 1) := by decide +kernel
theorem dX12_crew_166 : decode cX12_crew 166 = .ok (.aload_n 0, 1) := by decide +kernel
theorem dX12_crew_167 : decode cX12_crew 167 = .ok (.getfield 131, 3) := by decide +kernel
theorem dX12_crew_170 : decode cX12_crew 170 = .ok (.iload 6, 2) := by decide +kernel
theorem dX12_crew_172 : decode cX12_crew 172 = .ok (.iload_n 2, 1) := by decide +kernel
theorem dX12_crew_173 : decode cX12_crew 173 = .ok (.iastore, 1) := by decide +kernel
theorem dX12_crew_174 : decode cX12_crew 174 = .ok (.aload_n 0, 1) := by decide +kernel
theorem dX12_crew_175 : decode cX12_crew 175 = .ok (.getfield 134, 3) := by decide +kernel
theorem dX12_crew_178 : decode cX12_crew 178 = .ok (.iload 6, 2) := by decide +kernel
theorem dX12_crew_180 : decode cX12_crew 180 = .ok (.iconst (-1), 1) := by decide +kernel
theorem dX12_crew_181 : decode cX12_crew 181 = .ok (.iastore, 1) := by decide +kernel
theorem dX12_crew_182 : decode cX12_crew 182 = .ok (.aload_n 0, 1) := by decide +kernel
theorem dX12_crew_183 : decode cX12_crew 183 = .ok (.getfield 137, 3) := by decide +kernel
theorem dX12_crew_186 : decode cX12_crew 186 = .ok (.iload 6, 2) := by decide +kernel
theorem dX12_crew_188 : decode cX12_crew 188 = .ok (.iconst (-1), 1) := by decide +kernel
theorem dX12_crew_189 : decode cX12_crew 189 = .ok (.iastore, 1) := by decide +kernel
theorem dX12_crew_190 : decode cX12_crew 190 = .ok (.aload_n 0, 1) := by decide +kernel
theorem dX12_crew_191 : decode cX12_crew 191 = .ok (.getfield 140, 3) := by decide +kernel
theorem dX12_crew_194 : decode cX12_crew 194 = .ok (.iload 6, 2) := by decide +kernel
theorem dX12_crew_196 : decode cX12_crew 196 = .ok (.iconst (-1), 1) := by decide +kernel
theorem dX12_crew_197 : decode cX12_crew 197 = .ok (.iastore, 1) := by decide +kernel
theorem dX12_crew_198 : decode cX12_crew 198 = .ok (.aload_n 0, 1) := by decide +kernel
theorem dX12_crew_199 : decode cX12_crew 199 = .ok (.getfield 143, 3) := by decide +kernel
theorem dX12_crew_202 : decode cX12_crew 202 = .ok (.iload 6, 2) := by decide +kernel
theorem dX12_crew_204 : decode cX12_crew 204 = .ok (.iconst (-1), 1) := by decide +kernel
theorem dX12_crew_205 : decode cX12_crew 205 = .ok (.iastore, 1) := by decide +kernel
theorem dX12_crew_206 : decode cX12_crew 206 = .ok (.aload_n 0, 1) := by decide +kernel
theorem dX12_crew_207 : decode cX12_crew 207 = .ok (.dup, 1) := by decide +kernel
theorem dX12_crew_208 : decode cX12_crew 208 = .ok (.getfield 366, 3) := by decide +kernel
theorem dX12_crew_211 : decode cX12_crew 211 = .ok (.iconst 1, 1) := by decide +kernel
theorem dX12_crew_212 : decode cX12_crew 212 = .ok (.iadd, 1) := by decide +kernel
theorem dX12_crew_213 : decode cX12_crew 213 = .ok (.putfield 366, 3) := by decide +kernel
theorem dX12_crew_216 : decode cX12_crew 216 = .ok (.iload 6, 2) := by decide +kernel
theorem dX12_crew_218 : decode cX12_crew 218 = .ok (.ireturn, 1) := by decide +kernel
theorem okX12_crew : ab_okM MX12_crew 5 := ⟨by decide, ⟨by decide, by decide⟩, ab_in 2344 (by decide +kernel) (by decide +kernel), ab_in 99 (by decide +kernel) (by decide +kernel), by decide +kernel, by decide⟩
set_option maxHeartbeats 4000000 in
set_option maxRecDepth 100000 in
theorem sX12_crew_165 (v2 : Int32) (v6 : Int32) (s1 : Int32) (s2 : Int32)  (x : ab_X) (K : Int32 → ab_X → Prop)  (d bc bs : Nat) (hdp : 1 ≤ d)  (h : wX12_crew_165 v2 v6 s1 s2 x K ) : EW MX12_crew 165 [(0, .ref 246), (2, .int v2), (6, .int v6)] [.int s2, .int s1, .ref 285] (aS x) d bc bs (liI K) := by
  unfold wX12_crew_165 at h
  obtain ⟨b13, h⟩ := h
  refine AW_iast (pc2 := 166) rfl dX12_crew_165 q285 b13 ?_
  refine EW_aload_n (pc2 := 167) rfl dX12_crew_166 0 rfl ?_
  refine AW_getr (r := 287) ⟨gfRX12_131, rfl⟩ (pc2 := 170) rfl dX12_crew_167 q246 rfl ?_
  refine EW_iload (pc2 := 172) rfl dX12_crew_170 2 rfl ?_
  refine EW_iload_n (pc2 := 173) rfl dX12_crew_172 1 rfl ?_
  obtain ⟨b14, h⟩ := h
  refine AW_iast (pc2 := 174) rfl dX12_crew_173 q287 b14 ?_
  refine EW_aload_n (pc2 := 175) rfl dX12_crew_174 0 rfl ?_
  refine AW_getr (r := 288) ⟨gfRX12_134, rfl⟩ (pc2 := 178) rfl dX12_crew_175 q246 rfl ?_
  refine EW_iload (pc2 := 180) rfl dX12_crew_178 2 rfl ?_
  refine EW_iconst (pc2 := 181) (v := (-1)) rfl dX12_crew_180 (by decide) ?_
  obtain ⟨b15, h⟩ := h
  refine AW_iast (pc2 := 182) rfl dX12_crew_181 q288 b15 ?_
  refine EW_aload_n (pc2 := 183) rfl dX12_crew_182 0 rfl ?_
  refine AW_getr (r := 289) ⟨gfRX12_137, rfl⟩ (pc2 := 186) rfl dX12_crew_183 q246 rfl ?_
  refine EW_iload (pc2 := 188) rfl dX12_crew_186 2 rfl ?_
  refine EW_iconst (pc2 := 189) (v := (-1)) rfl dX12_crew_188 (by decide) ?_
  obtain ⟨b16, h⟩ := h
  refine AW_iast (pc2 := 190) rfl dX12_crew_189 q289 b16 ?_
  refine EW_aload_n (pc2 := 191) rfl dX12_crew_190 0 rfl ?_
  refine AW_getr (r := 290) ⟨gfRX12_140, rfl⟩ (pc2 := 194) rfl dX12_crew_191 q246 rfl ?_
  refine EW_iload (pc2 := 196) rfl dX12_crew_194 2 rfl ?_
  refine EW_iconst (pc2 := 197) (v := (-1)) rfl dX12_crew_196 (by decide) ?_
  obtain ⟨b17, h⟩ := h
  refine AW_iast (pc2 := 198) rfl dX12_crew_197 q290 b17 ?_
  refine EW_aload_n (pc2 := 199) rfl dX12_crew_198 0 rfl ?_
  refine AW_getr (r := 291) ⟨gfRX12_143, rfl⟩ (pc2 := 202) rfl dX12_crew_199 q246 rfl ?_
  refine EW_iload (pc2 := 204) rfl dX12_crew_202 2 rfl ?_
  refine EW_iconst (pc2 := 205) (v := (-1)) rfl dX12_crew_204 (by decide) ?_
  obtain ⟨b18, h⟩ := h
  refine AW_iast (pc2 := 206) rfl dX12_crew_205 q291 b18 ?_
  refine EW_aload_n (pc2 := 207) rfl dX12_crew_206 0 rfl ?_
  refine EW_dup (pc2 := 208) rfl dX12_crew_207 rfl ?_
  refine AW_geti ⟨gfRX12_366, rfl⟩ (pc2 := 211) rfl dX12_crew_208 q246 ?_
  refine EW_iconst (pc2 := 212) (v := 1) rfl dX12_crew_211 (by decide) ?_
  refine EW_iadd (pc2 := 213) rfl dX12_crew_212 ?_
  refine AW_puti ⟨gfRX12_366, rfl, rfl⟩ (pc2 := 216) rfl dX12_crew_213 q246 ?_
  refine EW_iload (pc2 := 218) rfl dX12_crew_216 2 rfl ?_
  exact AW_iret rfl dX12_crew_218 ⟨_, _, rfl, rfl, h⟩
set_option maxHeartbeats 4000000 in
set_option maxRecDepth 100000 in
theorem sX12_crew_148 (v1 : Int32) (v2 : Int32) (v6 : Int32) (s1 : Int32) (s2 : Int32)  (x : ab_X) (K : Int32 → ab_X → Prop)  (d bc bs : Nat) (hdp : 1 ≤ d)  (h : wX12_crew_148 v1 v2 v6 s1 s2 x K ) : EW MX12_crew 148 [(0, .ref 246), (1, .int v1), (2, .int v2), (6, .int v6)] [.int s2, .int s1, .ref 284] (aS x) d bc bs (liI K) := by
  unfold wX12_crew_148 at h
  obtain ⟨b12, h⟩ := h
  refine AW_iast (pc2 := 149) rfl dX12_crew_148 q284 b12 ?_
  refine EW_aload_n (pc2 := 150) rfl dX12_crew_149 0 rfl ?_
  refine AW_getr (r := 285) ⟨gfRX12_125, rfl⟩ (pc2 := 153) rfl dX12_crew_150 q246 rfl ?_
  refine EW_iload (pc2 := 155) rfl dX12_crew_153 3 rfl ?_
  refine EW_iload_n (pc2 := 156) rfl dX12_crew_155 1 rfl ?_
  refine EW_iconst (pc2 := 157) (v := 1) rfl dX12_crew_156 (by decide) ?_
  refine EW_icmp_ne (tgt := 164) (pc2 := 160) rfl dX12_crew_157 (by decide) (fun q => ?_) (fun q => ?_)
  · replace h := h.1 q
    refine EW_iconst (pc2 := 165) (v := 0) rfl dX12_crew_164 (by decide) ?_
    refine EW_ls [0, 2, 3] rfl ?_
    exact sX12_crew_165 v2 v6 v6 0 (wr x 284 (Int32.toNatClampNeg s1) s2) K d bc bs hdp h
  · replace h := h.2 q
    refine EW_iconst (pc2 := 161) (v := 1) rfl dX12_crew_160 (by decide) ?_
    refine EW_goto (tgt := 165) dX12_crew_161 (by decide) ?_
    refine EW_ls [0, 2, 3] rfl ?_
    exact sX12_crew_165 v2 v6 v6 1 (wr x 284 (Int32.toNatClampNeg s1) s2) K d bc bs hdp h
set_option maxHeartbeats 4000000 in
set_option maxRecDepth 100000 in
theorem sX12_crew_130 (v1 : Int32) (v2 : Int32) (v6 : Int32) (s1 : Int32) (s2 : Int32)  (x : ab_X) (K : Int32 → ab_X → Prop)  (d bc bs : Nat) (hdp : 1 ≤ d)  (h : wX12_crew_130 v1 v2 v6 s1 s2 x K ) : EW MX12_crew 130 [(0, .ref 246), (1, .int v1), (2, .int v2), (6, .int v6)] [.int s2, .int s1, .ref 283] (aS x) d bc bs (liI K) := by
  unfold wX12_crew_130 at h
  obtain ⟨b11, h⟩ := h
  refine AW_iast (pc2 := 131) rfl dX12_crew_130 q283 b11 ?_
  refine EW_aload_n (pc2 := 132) rfl dX12_crew_131 0 rfl ?_
  refine AW_getr (r := 284) ⟨gfRX12_122, rfl⟩ (pc2 := 135) rfl dX12_crew_132 q246 rfl ?_
  refine EW_iload (pc2 := 137) rfl dX12_crew_135 3 rfl ?_
  refine EW_iload_n (pc2 := 138) rfl dX12_crew_137 1 rfl ?_
  refine EW_iconst (pc2 := 139) (v := 2) rfl dX12_crew_138 (by decide) ?_
  refine EW_icmp_ge (tgt := 147) (pc2 := 142) rfl dX12_crew_139 (by decide) (fun q => ?_) (fun q => ?_)
  · replace h := h.1 q
    refine EW_iconst (pc2 := 148) (v := 0) rfl dX12_crew_147 (by decide) ?_
    exact sX12_crew_148 v1 v2 v6 v6 0 (wr x 283 (Int32.toNatClampNeg s1) s2) K d bc bs hdp h
  · replace h := h.2 q
    refine EW_bipush (pc2 := 144) (v := 10) rfl dX12_crew_142 (by decide) ?_
    refine EW_goto (tgt := 148) dX12_crew_144 (by decide) ?_
    exact sX12_crew_148 v1 v2 v6 v6 10 (wr x 283 (Int32.toNatClampNeg s1) s2) K d bc bs hdp h
set_option maxHeartbeats 4000000 in
set_option maxRecDepth 100000 in
theorem sX12_crew (v1 : Int32) (v2 : Int32) (v3 : Int32) (v4 : Int32) (v5 : Int32)  (x : ab_X) (K : Int32 → ab_X → Prop) (d bc bs : Nat) (hdp : 1 ≤ d) (h : wX12_crew v1 v2 v3 v4 v5 x K) : EW MX12_crew 0 [(0, .ref 246), (1, .int v1), (2, .int v2), (3, .int v3), (4, .int v4), (5, .int v5)] [] (aS x) d bc bs (liI K) := by
  unfold wX12_crew at h
  refine EW_aload_n (pc2 := 1) rfl dX12_crew_0 0 rfl ?_
  refine EW_iconst (pc2 := 2) (v := 0) rfl dX12_crew_1 (by decide) ?_
  refine AW_puti ⟨gfRX12_297, rfl, rfl⟩ (pc2 := 5) rfl dX12_crew_2 q246 ?_
  refine EW_aload_n (pc2 := 6) rfl dX12_crew_5 0 rfl ?_
  refine AW_geti ⟨gfRX12_366, rfl⟩ (pc2 := 9) rfl dX12_crew_6 q246 ?_
  refine EW_bipush (pc2 := 11) (v := 16) rfl dX12_crew_9 (by decide) ?_
  refine EW_icmp_eq (tgt := 54) (pc2 := 14) rfl dX12_crew_11 (by decide) (fun q => ?_) (fun q => ?_)
  · replace h := h.1 q
    refine EW_iconst (pc2 := 55) (v := (-1)) rfl dX12_crew_54 (by decide) ?_
    exact AW_iret rfl dX12_crew_55 ⟨_, _, rfl, rfl, h⟩
  · replace h := h.2 q
    refine EW_iload_n (pc2 := 15) rfl dX12_crew_14 1 rfl ?_
    refine EW_iconst (pc2 := 16) (v := 0) rfl dX12_crew_15 (by decide) ?_
    refine EW_iconst (pc2 := 17) (v := 3) rfl dX12_crew_16 (by decide) ?_
    refine AW_invS (M' := MX12_isIn) [.int v1, .int 0, .int 3] (rest := []) mlRX12_307 okX12_isIn (pc2 := 20) rfl dX12_crew_17 rfl rfl (Nat.le_of_ble_eq_true rfl) (Nat.le_of_ble_eq_true rfl) (d' := 0) (by omega) (EW_mono (fun _ _ hr => ?_) (sX12_isIn v1 0 3  (wr x 246 0 0) _ _ 0 0 (Nat.le_refl _) h))
    obtain ⟨r1, rfl, rfl, h⟩ := hr
    refine EW_if_eq (tgt := 54) (pc2 := 23) rfl dX12_crew_20 (by decide) (fun q => ?_) (fun q => ?_)
    · replace h := h.1 q
      refine EW_iconst (pc2 := 55) (v := (-1)) rfl dX12_crew_54 (by decide) ?_
      exact AW_iret rfl dX12_crew_55 ⟨_, _, rfl, rfl, h⟩
    · replace h := h.2 q
      refine EW_iload_n (pc2 := 24) rfl dX12_crew_23 2 rfl ?_
      refine AW_invS (M' := MX12_isCorner) [.int v2] (rest := []) mlRX12_303 okX12_isCorner (pc2 := 27) rfl dX12_crew_24 rfl rfl (Nat.le_of_ble_eq_true rfl) (Nat.le_of_ble_eq_true rfl) (d' := 0) (by omega) (EW_mono (fun _ _ hr => ?_) (sX12_isCorner v2  (wr x 246 0 0) _ _ 0 0 (Nat.le_refl _) h))
      obtain ⟨r2, rfl, rfl, h⟩ := hr
      refine EW_if_eq (tgt := 54) (pc2 := 30) rfl dX12_crew_27 (by decide) (fun q => ?_) (fun q => ?_)
      · replace h := h.1 q
        refine EW_iconst (pc2 := 55) (v := (-1)) rfl dX12_crew_54 (by decide) ?_
        exact AW_iret rfl dX12_crew_55 ⟨_, _, rfl, rfl, h⟩
      · replace h := h.2 q
        refine EW_iload (pc2 := 32) rfl dX12_crew_30 4 rfl ?_
        refine EW_bipush (pc2 := 34) (v := 50) rfl dX12_crew_32 (by decide) ?_
        refine EW_sipush (pc2 := 37) (v := 150) rfl dX12_crew_34 (by decide) ?_
        refine AW_invS (M' := MX12_isIn) [.int v4, .int 50, .int 150] (rest := []) mlRX12_307 okX12_isIn (pc2 := 40) rfl dX12_crew_37 rfl rfl (Nat.le_of_ble_eq_true rfl) (Nat.le_of_ble_eq_true rfl) (d' := 0) (by omega) (EW_mono (fun _ _ hr => ?_) (sX12_isIn v4 50 150  (wr x 246 0 0) _ _ 0 0 (Nat.le_refl _) h))
        obtain ⟨r3, rfl, rfl, h⟩ := hr
        refine EW_if_eq (tgt := 54) (pc2 := 43) rfl dX12_crew_40 (by decide) (fun q => ?_) (fun q => ?_)
        · replace h := h.1 q
          refine EW_iconst (pc2 := 55) (v := (-1)) rfl dX12_crew_54 (by decide) ?_
          exact AW_iret rfl dX12_crew_55 ⟨_, _, rfl, rfl, h⟩
        · replace h := h.2 q
          refine EW_iload (pc2 := 45) rfl dX12_crew_43 5 rfl ?_
          refine EW_iconst (pc2 := 46) (v := 1) rfl dX12_crew_45 (by decide) ?_
          refine EW_bipush (pc2 := 48) (v := 9) rfl dX12_crew_46 (by decide) ?_
          refine AW_invS (M' := MX12_isIn) [.int v5, .int 1, .int 9] (rest := []) mlRX12_307 okX12_isIn (pc2 := 51) rfl dX12_crew_48 rfl rfl (Nat.le_of_ble_eq_true rfl) (Nat.le_of_ble_eq_true rfl) (d' := 0) (by omega) (EW_mono (fun _ _ hr => ?_) (sX12_isIn v5 1 9  (wr x 246 0 0) _ _ 0 0 (Nat.le_refl _) h))
          obtain ⟨r4, rfl, rfl, h⟩ := hr
          refine EW_if_ne (tgt := 56) (pc2 := 54) rfl dX12_crew_51 (by decide) (fun q => ?_) (fun q => ?_)
          · replace h := h.1 q
            refine EW_aload_n (pc2 := 57) rfl dX12_crew_56 0 rfl ?_
            refine AW_geti ⟨gfRX12_366, rfl⟩ (pc2 := 60) rfl dX12_crew_57 q246 ?_
            refine EW_istore (pc2 := 62) rfl dX12_crew_60 (by decide) [1, 2, 3, 4, 5, 6, 0] [(0, .ref 246), (1, .int v1), (2, .int v2), (3, .int v3), (4, .int v4), (5, .int v5), (6, .int ((wr x 246 0 0).1 246 58))] rfl ?_
            refine EW_aload_n (pc2 := 63) rfl dX12_crew_62 0 rfl ?_
            refine AW_getr (r := 279) ⟨gfRX12_107, rfl⟩ (pc2 := 66) rfl dX12_crew_63 q246 rfl ?_
            refine EW_iload (pc2 := 68) rfl dX12_crew_66 6 rfl ?_
            refine EW_iload_n (pc2 := 69) rfl dX12_crew_68 1 rfl ?_
            obtain ⟨b5, h⟩ := h
            refine AW_iast (pc2 := 70) rfl dX12_crew_69 q279 b5 ?_
            refine EW_aload_n (pc2 := 71) rfl dX12_crew_70 0 rfl ?_
            refine AW_getr (r := 280) ⟨gfRX12_110, rfl⟩ (pc2 := 74) rfl dX12_crew_71 q246 rfl ?_
            refine EW_iload (pc2 := 76) rfl dX12_crew_74 6 rfl ?_
            refine EW_iload_n (pc2 := 77) rfl dX12_crew_76 2 rfl ?_
            obtain ⟨b6, h⟩ := h
            refine AW_iast (pc2 := 78) rfl dX12_crew_77 q280 b6 ?_
            refine EW_aload_n (pc2 := 79) rfl dX12_crew_78 0 rfl ?_
            refine AW_getr (r := 298) ⟨gfRX12_164, rfl⟩ (pc2 := 82) rfl dX12_crew_79 q246 rfl ?_
            refine EW_iload (pc2 := 84) rfl dX12_crew_82 6 rfl ?_
            refine EW_iload_n (pc2 := 85) rfl dX12_crew_84 3 rfl ?_
            obtain ⟨b7, h⟩ := h
            obtain ⟨z8, h⟩ := h
            refine AW_zast (pc2 := 86) rfl dX12_crew_85 q298 b7 z8 ?_
            refine EW_aload_n (pc2 := 87) rfl dX12_crew_86 0 rfl ?_
            refine AW_getr (r := 281) ⟨gfRX12_113, rfl⟩ (pc2 := 90) rfl dX12_crew_87 q246 rfl ?_
            refine EW_iload (pc2 := 92) rfl dX12_crew_90 6 rfl ?_
            refine EW_iload (pc2 := 94) rfl dX12_crew_92 4 rfl ?_
            obtain ⟨b9, h⟩ := h
            refine AW_iast (pc2 := 95) rfl dX12_crew_94 q281 b9 ?_
            refine EW_aload_n (pc2 := 96) rfl dX12_crew_95 0 rfl ?_
            refine AW_getr (r := 282) ⟨gfRX12_116, rfl⟩ (pc2 := 99) rfl dX12_crew_96 q246 rfl ?_
            refine EW_iload (pc2 := 101) rfl dX12_crew_99 6 rfl ?_
            refine EW_iload (pc2 := 103) rfl dX12_crew_101 5 rfl ?_
            obtain ⟨b10, h⟩ := h
            refine AW_iast (pc2 := 104) rfl dX12_crew_103 q282 b10 ?_
            refine EW_aload_n (pc2 := 105) rfl dX12_crew_104 0 rfl ?_
            refine AW_getr (r := 283) ⟨gfRX12_119, rfl⟩ (pc2 := 108) rfl dX12_crew_105 q246 rfl ?_
            refine EW_iload (pc2 := 110) rfl dX12_crew_108 6 rfl ?_
            refine EW_iload_n (pc2 := 111) rfl dX12_crew_110 1 rfl ?_
            refine EW_iconst (pc2 := 112) (v := 2) rfl dX12_crew_111 (by decide) ?_
            refine EW_icmp_ge (tgt := 120) (pc2 := 115) rfl dX12_crew_112 (by decide) (fun q => ?_) (fun q => ?_)
            · replace h := h.1 q
              refine EW_iload_n (pc2 := 121) rfl dX12_crew_120 1 rfl ?_
              refine EW_iconst (pc2 := 122) (v := 2) rfl dX12_crew_121 (by decide) ?_
              refine EW_icmp_ne (tgt := 129) (pc2 := 125) rfl dX12_crew_122 (by decide) (fun q => ?_) (fun q => ?_)
              · replace h := h.1 q
                refine EW_iconst (pc2 := 130) (v := 0) rfl dX12_crew_129 (by decide) ?_
                refine EW_ls [0, 1, 2, 6] rfl ?_
                exact sX12_crew_130 v1 v2 ((wr x 246 0 0).1 246 58) ((wr x 246 0 0).1 246 58) 0 (wr (wr (wr (wr (wr (wr x 246 0 0) 279 (Int32.toNatClampNeg ((wr x 246 0 0).1 246 58)) v1) 280 (Int32.toNatClampNeg ((wr x 246 0 0).1 246 58)) v2) 298 (Int32.toNatClampNeg ((wr x 246 0 0).1 246 58)) v3) 281 (Int32.toNatClampNeg ((wr x 246 0 0).1 246 58)) v4) 282 (Int32.toNatClampNeg ((wr x 246 0 0).1 246 58)) v5) K d bc bs hdp h
              · replace h := h.2 q
                refine EW_iconst (pc2 := 126) (v := 1) rfl dX12_crew_125 (by decide) ?_
                refine EW_goto (tgt := 130) dX12_crew_126 (by decide) ?_
                refine EW_ls [0, 1, 2, 6] rfl ?_
                exact sX12_crew_130 v1 v2 ((wr x 246 0 0).1 246 58) ((wr x 246 0 0).1 246 58) 1 (wr (wr (wr (wr (wr (wr x 246 0 0) 279 (Int32.toNatClampNeg ((wr x 246 0 0).1 246 58)) v1) 280 (Int32.toNatClampNeg ((wr x 246 0 0).1 246 58)) v2) 298 (Int32.toNatClampNeg ((wr x 246 0 0).1 246 58)) v3) 281 (Int32.toNatClampNeg ((wr x 246 0 0).1 246 58)) v4) 282 (Int32.toNatClampNeg ((wr x 246 0 0).1 246 58)) v5) K d bc bs hdp h
            · replace h := h.2 q
              refine EW_bipush (pc2 := 117) (v := 100) rfl dX12_crew_115 (by decide) ?_
              refine EW_goto (tgt := 130) dX12_crew_117 (by decide) ?_
              refine EW_ls [0, 1, 2, 6] rfl ?_
              exact sX12_crew_130 v1 v2 ((wr x 246 0 0).1 246 58) ((wr x 246 0 0).1 246 58) 100 (wr (wr (wr (wr (wr (wr x 246 0 0) 279 (Int32.toNatClampNeg ((wr x 246 0 0).1 246 58)) v1) 280 (Int32.toNatClampNeg ((wr x 246 0 0).1 246 58)) v2) 298 (Int32.toNatClampNeg ((wr x 246 0 0).1 246 58)) v3) 281 (Int32.toNatClampNeg ((wr x 246 0 0).1 246 58)) v4) 282 (Int32.toNatClampNeg ((wr x 246 0 0).1 246 58)) v5) K d bc bs hdp h
          · replace h := h.2 q
            refine EW_iconst (pc2 := 55) (v := (-1)) rfl dX12_crew_54 (by decide) ?_
            exact AW_iret rfl dX12_crew_55 ⟨_, _, rfl, rfl, h⟩
abbrev MX12_end : ab_M := (yX12_end, cX12_end, 2, (some .boolean))
theorem dX12_end_0 : decode cX12_end 0 = .ok (.aload_n 0, 1) := by decide +kernel
theorem dX12_end_1 : decode cX12_end 1 = .ok (.iconst 0, 1) := by decide +kernel
theorem dX12_end_2 : decode cX12_end 2 = .ok (.putfield 297, 3) := by decide +kernel
theorem dX12_end_5 : decode cX12_end 5 = .ok (.iload_n 1, 1) := by decide +kernel
theorem dX12_end_6 : decode cX12_end 6 = .ok (.ifCond .lt 11, 3) := by decide +kernel
theorem dX12_end_9 : decode cX12_end 9 = .ok (.iload_n 1, 1) := by decide +kernel
theorem dX12_end_10 : decode cX12_end 10 = .ok (.aload_n 0, 1) := by decide +kernel
theorem dX12_end_11 : decode cX12_end 11 = .ok (.getfield 414, 3) := by decide +kernel
theorem dX12_end_14 : decode cX12_end 14 = .ok (.if_icmp .le 5, 3) := by decide +kernel
theorem dX12_end_17 : decode cX12_end 17 = .ok (.iconst 0, 1) := by decide +kernel
theorem dX12_end_18 : decode cX12_end 18 = .ok (.ireturn, 1) := by decide +kernel
theorem dX12_end_19 : decode cX12_end 19 = .ok (.aload_n 0, 1) := by decide +kernel
theorem dX12_end_20 : decode cX12_end 20 = .ok (.iload_n 1, 1) := by decide +kernel
theorem dX12_end_21 : decode cX12_end 21 = .ok (.putfield 414, 3) := by decide +kernel
theorem dX12_end_24 : decode cX12_end 24 = .ok (.iconst 1, 1) := by decide +kernel
theorem dX12_end_25 : decode cX12_end 25 = .ok (.ireturn, 1) := by decide +kernel
theorem okX12_end : ab_okM MX12_end 1 := ⟨by decide, ⟨by decide, by decide⟩, ab_in 2403 (by decide +kernel) (by decide +kernel), ab_in 99 (by decide +kernel) (by decide +kernel), by decide +kernel, by decide⟩
set_option maxHeartbeats 4000000 in
set_option maxRecDepth 100000 in
theorem sX12_end (v1 : Int32)  (x : ab_X) (K : Int32 → ab_X → Prop) (d bc bs : Nat) (hdp : 0 ≤ d) (h : wX12_end v1 x K) : EW MX12_end 0 [(0, .ref 246), (1, .int v1)] [] (aS x) d bc bs (liI K) := by
  unfold wX12_end at h
  refine EW_aload_n (pc2 := 1) rfl dX12_end_0 0 rfl ?_
  refine EW_iconst (pc2 := 2) (v := 0) rfl dX12_end_1 (by decide) ?_
  refine AW_puti ⟨gfRX12_297, rfl, rfl⟩ (pc2 := 5) rfl dX12_end_2 q246 ?_
  refine EW_iload_n (pc2 := 6) rfl dX12_end_5 1 rfl ?_
  refine EW_if_lt (tgt := 17) (pc2 := 9) rfl dX12_end_6 (by decide) (fun q => ?_) (fun q => ?_)
  · replace h := h.1 q
    refine EW_iconst (pc2 := 18) (v := 0) rfl dX12_end_17 (by decide) ?_
    exact AW_zret rfl isB0 dX12_end_18 ⟨_, _, rfl, rfl, h⟩
  · replace h := h.2 q
    refine EW_iload_n (pc2 := 10) rfl dX12_end_9 1 rfl ?_
    refine EW_aload_n (pc2 := 11) rfl dX12_end_10 0 rfl ?_
    refine AW_geti ⟨gfRX12_414, rfl⟩ (pc2 := 14) rfl dX12_end_11 q246 ?_
    refine EW_icmp_le (tgt := 19) (pc2 := 17) rfl dX12_end_14 (by decide) (fun q => ?_) (fun q => ?_)
    · replace h := h.1 q
      refine EW_aload_n (pc2 := 20) rfl dX12_end_19 0 rfl ?_
      refine EW_iload_n (pc2 := 21) rfl dX12_end_20 1 rfl ?_
      refine AW_puti ⟨gfRX12_414, rfl, rfl⟩ (pc2 := 24) rfl dX12_end_21 q246 ?_
      refine EW_iconst (pc2 := 25) (v := 1) rfl dX12_end_24 (by decide) ?_
      exact AW_zret rfl isB1 dX12_end_25 ⟨_, _, rfl, rfl, h⟩
    · replace h := h.2 q
      refine EW_iconst (pc2 := 18) (v := 0) rfl dX12_end_17 (by decide) ?_
      exact AW_zret rfl isB0 dX12_end_18 ⟨_, _, rfl, rfl, h⟩
abbrev MX12_failing : ab_M := (yX12_failing, cX12_failing, 3, (some .int))
theorem dX12_failing_0 : decode cX12_failing 0 = .ok (.aload_n 0, 1) := by decide +kernel
theorem dX12_failing_1 : decode cX12_failing 1 = .ok (.iconst 0, 1) := by decide +kernel
theorem dX12_failing_2 : decode cX12_failing 2 = .ok (.putfield 297, 3) := by decide +kernel
theorem dX12_failing_5 : decode cX12_failing 5 = .ok (.iconst 0, 1) := by decide +kernel
theorem dX12_failing_6 : decode cX12_failing 6 = .ok (.istore_n 1, 1) := by decide +kernel
theorem dX12_failing_7 : decode cX12_failing 7 = .ok (.iconst 0, 1) := by decide +kernel
theorem dX12_failing_8 : decode cX12_failing 8 = .ok (.istore_n 2, 1) := by decide +kernel
theorem dX12_failing_9 : decode cX12_failing 9 = .ok (.iload_n 2, 1) := by decide +kernel
theorem dX12_failing_10 : decode cX12_failing 10 = .ok (.aload_n 0, 1) := by decide +kernel
theorem dX12_failing_11 : decode cX12_failing 11 = .ok (.getfield 331, 3) := by decide +kernel
theorem dX12_failing_14 : decode cX12_failing 14 = .ok (.if_icmp .ge 31, 3) := by decide +kernel
theorem dX12_failing_17 : decode cX12_failing 17 = .ok (.iload_n 1, 1) := by decide +kernel
theorem dX12_failing_18 : decode cX12_failing 18 = .ok (.aload_n 0, 1) := by decide +kernel
theorem dX12_failing_19 : decode cX12_failing 19 = .ok (.iload_n 2, 1) := by decide +kernel
theorem dX12_failing_20 : decode cX12_failing 20 = .ok (.aload_n 0, 1) := by decide +kernel
theorem dX12_failing_21 : decode cX12_failing 21 = .ok (.getfield 395, 3) := by decide +kernel
theorem dX12_failing_24 : decode cX12_failing 24 = .ok (.invokevirtual 608, 3) := by decide +kernel
theorem dX12_failing_27 : decode cX12_failing 27 = .ok (.ifCond .le 9, 3) := by decide +kernel
theorem dX12_failing_30 : decode cX12_failing 30 = .ok (.iconst 1, 1) := by decide +kernel
theorem dX12_failing_31 : decode cX12_failing 31 = .ok (.iload_n 2, 1) := by decide +kernel
theorem dX12_failing_32 : decode cX12_failing 32 = .ok (.ishl, 1) := by decide +kernel
theorem dX12_failing_33 : decode cX12_failing 33 = .ok (.goto 4, 3) := by decide +kernel
theorem dX12_failing_36 : decode cX12_failing 36 = .ok (.iconst 0, 1) := by decide +kernel
theorem dX12_failing_37 : decode cX12_failing 37 = .ok (.ior, 1) := by decide +kernel
theorem dX12_failing_38 : decode cX12_failing 38 = .ok (.istore_n 1, 1) := by decide +kernel
theorem dX12_failing_39 : decode cX12_failing 39 = .ok (.iinc 2 1, 3) := by decide +kernel
theorem dX12_failing_42 : decode cX12_failing 42 = .ok (.goto (-33), 3) := by decide +kernel
theorem dX12_failing_45 : decode cX12_failing 45 = .ok (.iload_n 1, 1) := by decide +kernel
theorem dX12_failing_46 : decode cX12_failing 46 = .ok (.ireturn, 1) := by decide +kernel
theorem okX12_failing : ab_okM MX12_failing 0 := ⟨by decide, ⟨by decide, by decide⟩, ab_in 2658 (by decide +kernel) (by decide +kernel), ab_in 99 (by decide +kernel) (by decide +kernel), by decide +kernel, by decide⟩
set_option maxHeartbeats 4000000 in
set_option maxRecDepth 100000 in
theorem sX12_failing_37 (v2 : Int32) (s0 : Int32) (s1 : Int32)  (x : ab_X) (K : Int32 → ab_X → Prop) (L9 : Int32 → Int32 → ab_X → Prop) (d bc bs : Nat) (hdp : 211 ≤ d) (hL9 : ∀ (v1 : Int32) (v2 : Int32) (x : ab_X), L9 v1 v2 x → EW MX12_failing 9 [(0, .ref 246), (1, .int v1), (2, .int v2)] [] (aS x) d bc bs (liI K)) (h : wX12_failing_37 v2 s0 s1 x K L9) : EW MX12_failing 37 [(0, .ref 246), (2, .int v2)] [.int s1, .int s0] (aS x) d bc bs (liI K) := by
  unfold wX12_failing_37 at h
  refine EW_ior (pc2 := 38) rfl dX12_failing_37 ?_
  refine EW_istore_n (pc2 := 39) rfl dX12_failing_38 (by decide) [1, 0, 2] [(0, .ref 246), (1, .int (s0 ||| s1)), (2, .int v2)] rfl ?_
  refine EW_iinc (v2 + 1) (pc2 := 42) rfl dX12_failing_39 2 rfl rfl (by decide) [1, 2, 0] [(0, .ref 246), (1, .int (s0 ||| s1)), (2, .int (v2 + 1))] rfl ?_
  refine EW_goto (tgt := 9) dX12_failing_42 (by decide) ?_
  exact hL9 (s0 ||| s1) (v2 + 1) x h
set_option maxHeartbeats 4000000 in
set_option maxRecDepth 100000 in
theorem sX12_failing_9 (v1 : Int32) (v2 : Int32)  (x : ab_X) (K : Int32 → ab_X → Prop)  (d bc bs : Nat) (hdp : 211 ≤ d)  (h : Lp3 (lX12_failing_9  K ) v1 v2 x) : EW MX12_failing 9 [(0, .ref 246), (1, .int v1), (2, .int v2)] [] (aS x) d bc bs (liI K) := by
  refine Lp3.use (P := fun v1 v2 x => EW MX12_failing 9 [(0, .ref 246), (1, .int v1), (2, .int v2)] [] (aS x) d bc bs (liI K)) (fun L9 v1 v2 x hL9 h => ?_) v1 v2 x h
  unfold lX12_failing_9 at h
  refine EW_iload_n (pc2 := 10) rfl dX12_failing_9 2 rfl ?_
  refine EW_aload_n (pc2 := 11) rfl dX12_failing_10 0 rfl ?_
  refine AW_geti ⟨gfRX12_331, rfl⟩ (pc2 := 14) rfl dX12_failing_11 q246 ?_
  refine EW_icmp_ge (tgt := 45) (pc2 := 17) rfl dX12_failing_14 (by decide) (fun q => ?_) (fun q => ?_)
  · replace h := h.1 q
    refine EW_iload_n (pc2 := 46) rfl dX12_failing_45 1 rfl ?_
    exact AW_iret rfl dX12_failing_46 ⟨_, _, rfl, rfl, h⟩
  · replace h := h.2 q
    refine EW_iload_n (pc2 := 18) rfl dX12_failing_17 1 rfl ?_
    refine EW_aload_n (pc2 := 19) rfl dX12_failing_18 0 rfl ?_
    refine EW_iload_n (pc2 := 20) rfl dX12_failing_19 2 rfl ?_
    refine EW_aload_n (pc2 := 21) rfl dX12_failing_20 0 rfl ?_
    refine AW_geti ⟨gfRX12_395, rfl⟩ (pc2 := 24) rfl dX12_failing_21 q246 ?_
    refine AW_invV (M' := MX12_failsBy) [.int v2, .int (x.1 246 1)] (rest := [.int v1]) mlRX12_608 okX12_failsBy (pc2 := 27) rfl dX12_failing_24 rfl rfl (Nat.le_of_ble_eq_true rfl) (Nat.le_of_ble_eq_true rfl) (d' := 210) (by omega) q246 ⟨by decide, rfl⟩ (EW_mono (fun _ _ hr => ?_) (sX12_failsBy v2 (x.1 246 1)  x _ _ 0 0 (Nat.le_refl _) h))
    obtain ⟨r1, x2, rfl, rfl, h⟩ := hr
    refine EW_if_le (tgt := 36) (pc2 := 30) rfl dX12_failing_27 (by decide) (fun q => ?_) (fun q => ?_)
    · replace h := h.1 q
      refine EW_iconst (pc2 := 37) (v := 0) rfl dX12_failing_36 (by decide) ?_
      refine EW_ls [0, 2] rfl ?_
      exact sX12_failing_37 v2 v1 0 x2 K L9 d bc bs hdp hL9 h
    · replace h := h.2 q
      refine EW_iconst (pc2 := 31) (v := 1) rfl dX12_failing_30 (by decide) ?_
      refine EW_iload_n (pc2 := 32) rfl dX12_failing_31 2 rfl ?_
      refine EW_ishl (pc2 := 33) rfl dX12_failing_32 ?_
      refine EW_goto (tgt := 37) dX12_failing_33 (by decide) ?_
      refine EW_ls [0, 2] rfl ?_
      exact sX12_failing_37 v2 v1 (1 <<< (v2 &&& 31)) x2 K L9 d bc bs hdp hL9 h
set_option maxHeartbeats 4000000 in
set_option maxRecDepth 100000 in
theorem sX12_failing   (x : ab_X) (K : Int32 → ab_X → Prop) (d bc bs : Nat) (hdp : 211 ≤ d) (h : wX12_failing  x K) : EW MX12_failing 0 [(0, .ref 246)] [] (aS x) d bc bs (liI K) := by
  unfold wX12_failing at h
  refine EW_aload_n (pc2 := 1) rfl dX12_failing_0 0 rfl ?_
  refine EW_iconst (pc2 := 2) (v := 0) rfl dX12_failing_1 (by decide) ?_
  refine AW_puti ⟨gfRX12_297, rfl, rfl⟩ (pc2 := 5) rfl dX12_failing_2 q246 ?_
  refine EW_iconst (pc2 := 6) (v := 0) rfl dX12_failing_5 (by decide) ?_
  refine EW_istore_n (pc2 := 7) rfl dX12_failing_6 (by decide) [1, 0] [(0, .ref 246), (1, .int 0)] rfl ?_
  refine EW_iconst (pc2 := 8) (v := 0) rfl dX12_failing_7 (by decide) ?_
  refine EW_istore_n (pc2 := 9) rfl dX12_failing_8 (by decide) [1, 2, 0] [(0, .ref 246), (1, .int 0), (2, .int 0)] rfl ?_
  exact sX12_failing_9 0 0 (wr x 246 0 0) K d bc bs hdp h
abbrev MX12_fails : ab_M := (yX12_fails, cX12_fails, 3, (some .int))
theorem dX12_fails_0 : decode cX12_fails 0 = .ok (.aload_n 0, 1) := by decide +kernel
theorem dX12_fails_1 : decode cX12_fails 1 = .ok (.iconst 0, 1) := by decide +kernel
theorem dX12_fails_2 : decode cX12_fails 2 = .ok (.putfield 297, 3) := by decide +kernel
theorem dX12_fails_5 : decode cX12_fails 5 = .ok (.aload_n 0, 1) := by decide +kernel
theorem dX12_fails_6 : decode cX12_fails 6 = .ok (.iload_n 1, 1) := by decide +kernel
theorem dX12_fails_7 : decode cX12_fails 7 = .ok (.invokevirtual 334, 3) := by decide +kernel
theorem dX12_fails_10 : decode cX12_fails 10 = .ok (.ifCond .eq 24, 3) := by decide +kernel
theorem dX12_fails_13 : decode cX12_fails 13 = .ok (.iload_n 2, 1) := by decide +kernel
theorem dX12_fails_14 : decode cX12_fails 14 = .ok (.iconst 0, 1) := by decide +kernel
theorem dX12_fails_15 : decode cX12_fails 15 = .ok (.aload_n 0, 1) := by decide +kernel
theorem dX12_fails_16 : decode cX12_fails 16 = .ok (.getfield 395, 3) := by decide +kernel
theorem dX12_fails_19 : decode cX12_fails 19 = .ok (.invokestatic 307, 3) := by decide +kernel
theorem dX12_fails_22 : decode cX12_fails 22 = .ok (.ifCond .eq 12, 3) := by decide +kernel
theorem dX12_fails_25 : decode cX12_fails 25 = .ok (.aload_n 0, 1) := by decide +kernel
theorem dX12_fails_26 : decode cX12_fails 26 = .ok (.iload_n 1, 1) := by decide +kernel
theorem dX12_fails_27 : decode cX12_fails 27 = .ok (.iload_n 2, 1) := by decide +kernel
theorem dX12_fails_28 : decode cX12_fails 28 = .ok (.invokevirtual 608, 3) := by decide +kernel
theorem dX12_fails_31 : decode cX12_fails 31 = .ok (.goto 4, 3) := by decide +kernel
theorem dX12_fails_34 : decode cX12_fails 34 = .ok (.iconst (-1), 1) := by decide +kernel
theorem dX12_fails_35 : decode cX12_fails 35 = .ok (.ireturn, 1) := by decide +kernel
theorem okX12_fails : ab_okM MX12_fails 2 := ⟨by decide, ⟨by decide, by decide⟩, ab_in 2642 (by decide +kernel) (by decide +kernel), ab_in 99 (by decide +kernel) (by decide +kernel), by decide +kernel, by decide⟩
set_option maxHeartbeats 4000000 in
set_option maxRecDepth 100000 in
theorem sX12_fails (v1 : Int32) (v2 : Int32)  (x : ab_X) (K : Int32 → ab_X → Prop) (d bc bs : Nat) (hdp : 211 ≤ d) (h : wX12_fails v1 v2 x K) : EW MX12_fails 0 [(0, .ref 246), (1, .int v1), (2, .int v2)] [] (aS x) d bc bs (liI K) := by
  unfold wX12_fails at h
  refine EW_aload_n (pc2 := 1) rfl dX12_fails_0 0 rfl ?_
  refine EW_iconst (pc2 := 2) (v := 0) rfl dX12_fails_1 (by decide) ?_
  refine AW_puti ⟨gfRX12_297, rfl, rfl⟩ (pc2 := 5) rfl dX12_fails_2 q246 ?_
  refine EW_aload_n (pc2 := 6) rfl dX12_fails_5 0 rfl ?_
  refine EW_iload_n (pc2 := 7) rfl dX12_fails_6 1 rfl ?_
  refine AW_invV (M' := MX12_isHouse) [.int v1] (rest := []) mlRX12_334 okX12_isHouse (pc2 := 10) rfl dX12_fails_7 rfl rfl (Nat.le_of_ble_eq_true rfl) (Nat.le_of_ble_eq_true rfl) (d' := 0) (by omega) q246 ⟨by decide, rfl⟩ (EW_mono (fun _ _ hr => ?_) (sX12_isHouse v1  (wr x 246 0 0) _ _ 0 0 (Nat.le_refl _) h))
  obtain ⟨r1, rfl, rfl, h⟩ := hr
  refine EW_if_eq (tgt := 34) (pc2 := 13) rfl dX12_fails_10 (by decide) (fun q => ?_) (fun q => ?_)
  · replace h := h.1 q
    refine EW_iconst (pc2 := 35) (v := (-1)) rfl dX12_fails_34 (by decide) ?_
    exact AW_iret rfl dX12_fails_35 ⟨_, _, rfl, rfl, h⟩
  · replace h := h.2 q
    refine EW_iload_n (pc2 := 14) rfl dX12_fails_13 2 rfl ?_
    refine EW_iconst (pc2 := 15) (v := 0) rfl dX12_fails_14 (by decide) ?_
    refine EW_aload_n (pc2 := 16) rfl dX12_fails_15 0 rfl ?_
    refine AW_geti ⟨gfRX12_395, rfl⟩ (pc2 := 19) rfl dX12_fails_16 q246 ?_
    refine AW_invS (M' := MX12_isIn) [.int v2, .int 0, .int ((wr x 246 0 0).1 246 1)] (rest := []) mlRX12_307 okX12_isIn (pc2 := 22) rfl dX12_fails_19 rfl rfl (Nat.le_of_ble_eq_true rfl) (Nat.le_of_ble_eq_true rfl) (d' := 0) (by omega) (EW_mono (fun _ _ hr => ?_) (sX12_isIn v2 0 ((wr x 246 0 0).1 246 1)  (wr x 246 0 0) _ _ 0 0 (Nat.le_refl _) h))
    obtain ⟨r2, rfl, rfl, h⟩ := hr
    refine EW_if_eq (tgt := 34) (pc2 := 25) rfl dX12_fails_22 (by decide) (fun q => ?_) (fun q => ?_)
    · replace h := h.1 q
      refine EW_iconst (pc2 := 35) (v := (-1)) rfl dX12_fails_34 (by decide) ?_
      exact AW_iret rfl dX12_fails_35 ⟨_, _, rfl, rfl, h⟩
    · replace h := h.2 q
      refine EW_aload_n (pc2 := 26) rfl dX12_fails_25 0 rfl ?_
      refine EW_iload_n (pc2 := 27) rfl dX12_fails_26 1 rfl ?_
      refine EW_iload_n (pc2 := 28) rfl dX12_fails_27 2 rfl ?_
      refine AW_invV (M' := MX12_failsBy) [.int v1, .int v2] (rest := []) mlRX12_608 okX12_failsBy (pc2 := 31) rfl dX12_fails_28 rfl rfl (Nat.le_of_ble_eq_true rfl) (Nat.le_of_ble_eq_true rfl) (d' := 210) (by omega) q246 ⟨by decide, rfl⟩ (EW_mono (fun _ _ hr => ?_) (sX12_failsBy v1 v2  (wr x 246 0 0) _ _ 0 0 (Nat.le_refl _) h))
      obtain ⟨r3, x4, rfl, rfl, h⟩ := hr
      refine EW_goto (tgt := 35) dX12_fails_31 (by decide) ?_
      exact AW_iret rfl dX12_fails_35 ⟨_, _, rfl, rfl, h⟩
abbrev MX12_falses : ab_M := (yX12_falses, cX12_falses, 3, (some .int))
theorem dX12_falses_0 : decode cX12_falses 0 = .ok (.aload_n 0, 1) := by decide +kernel
theorem dX12_falses_1 : decode cX12_falses 1 = .ok (.iconst 0, 1) := by decide +kernel
theorem dX12_falses_2 : decode cX12_falses 2 = .ok (.putfield 297, 3) := by decide +kernel
theorem dX12_falses_5 : decode cX12_falses 5 = .ok (.iload_n 1, 1) := by decide +kernel
theorem dX12_falses_6 : decode cX12_falses 6 = .ok (.invokestatic 303, 3) := by decide +kernel
theorem dX12_falses_9 : decode cX12_falses 9 = .ok (.ifCond .eq 21, 3) := by decide +kernel
theorem dX12_falses_12 : decode cX12_falses 12 = .ok (.iload_n 2, 1) := by decide +kernel
theorem dX12_falses_13 : decode cX12_falses 13 = .ok (.iconst 0, 1) := by decide +kernel
theorem dX12_falses_14 : decode cX12_falses 14 = .ok (.iconst 3, 1) := by decide +kernel
theorem dX12_falses_15 : decode cX12_falses 15 = .ok (.invokestatic 307, 3) := by decide +kernel
theorem dX12_falses_18 : decode cX12_falses 18 = .ok (.ifCond .eq 12, 3) := by decide +kernel
theorem dX12_falses_21 : decode cX12_falses 21 = .ok (.aload_n 0, 1) := by decide +kernel
theorem dX12_falses_22 : decode cX12_falses 22 = .ok (.iload_n 1, 1) := by decide +kernel
theorem dX12_falses_23 : decode cX12_falses 23 = .ok (.iload_n 2, 1) := by decide +kernel
theorem dX12_falses_24 : decode cX12_falses 24 = .ok (.invokevirtual 534, 3) := by decide +kernel
theorem dX12_falses_27 : decode cX12_falses 27 = .ok (.goto 4, 3) := by decide +kernel
theorem dX12_falses_30 : decode cX12_falses 30 = .ok (.iconst (-1), 1) := by decide +kernel
theorem dX12_falses_31 : decode cX12_falses 31 = .ok (.ireturn, 1) := by decide +kernel
theorem okX12_falses : ab_okM MX12_falses 2 := ⟨by decide, ⟨by decide, by decide⟩, ab_in 2494 (by decide +kernel) (by decide +kernel), ab_in 99 (by decide +kernel) (by decide +kernel), by decide +kernel, by decide⟩
set_option maxHeartbeats 4000000 in
set_option maxRecDepth 100000 in
theorem sX12_falses (v1 : Int32) (v2 : Int32)  (x : ab_X) (K : Int32 → ab_X → Prop) (d bc bs : Nat) (hdp : 2 ≤ d) (h : wX12_falses v1 v2 x K) : EW MX12_falses 0 [(0, .ref 246), (1, .int v1), (2, .int v2)] [] (aS x) d bc bs (liI K) := by
  unfold wX12_falses at h
  refine EW_aload_n (pc2 := 1) rfl dX12_falses_0 0 rfl ?_
  refine EW_iconst (pc2 := 2) (v := 0) rfl dX12_falses_1 (by decide) ?_
  refine AW_puti ⟨gfRX12_297, rfl, rfl⟩ (pc2 := 5) rfl dX12_falses_2 q246 ?_
  refine EW_iload_n (pc2 := 6) rfl dX12_falses_5 1 rfl ?_
  refine AW_invS (M' := MX12_isCorner) [.int v1] (rest := []) mlRX12_303 okX12_isCorner (pc2 := 9) rfl dX12_falses_6 rfl rfl (Nat.le_of_ble_eq_true rfl) (Nat.le_of_ble_eq_true rfl) (d' := 0) (by omega) (EW_mono (fun _ _ hr => ?_) (sX12_isCorner v1  (wr x 246 0 0) _ _ 0 0 (Nat.le_refl _) h))
  obtain ⟨r1, rfl, rfl, h⟩ := hr
  refine EW_if_eq (tgt := 30) (pc2 := 12) rfl dX12_falses_9 (by decide) (fun q => ?_) (fun q => ?_)
  · replace h := h.1 q
    refine EW_iconst (pc2 := 31) (v := (-1)) rfl dX12_falses_30 (by decide) ?_
    exact AW_iret rfl dX12_falses_31 ⟨_, _, rfl, rfl, h⟩
  · replace h := h.2 q
    refine EW_iload_n (pc2 := 13) rfl dX12_falses_12 2 rfl ?_
    refine EW_iconst (pc2 := 14) (v := 0) rfl dX12_falses_13 (by decide) ?_
    refine EW_iconst (pc2 := 15) (v := 3) rfl dX12_falses_14 (by decide) ?_
    refine AW_invS (M' := MX12_isIn) [.int v2, .int 0, .int 3] (rest := []) mlRX12_307 okX12_isIn (pc2 := 18) rfl dX12_falses_15 rfl rfl (Nat.le_of_ble_eq_true rfl) (Nat.le_of_ble_eq_true rfl) (d' := 0) (by omega) (EW_mono (fun _ _ hr => ?_) (sX12_isIn v2 0 3  (wr x 246 0 0) _ _ 0 0 (Nat.le_refl _) h))
    obtain ⟨r2, rfl, rfl, h⟩ := hr
    refine EW_if_eq (tgt := 30) (pc2 := 21) rfl dX12_falses_18 (by decide) (fun q => ?_) (fun q => ?_)
    · replace h := h.1 q
      refine EW_iconst (pc2 := 31) (v := (-1)) rfl dX12_falses_30 (by decide) ?_
      exact AW_iret rfl dX12_falses_31 ⟨_, _, rfl, rfl, h⟩
    · replace h := h.2 q
      refine EW_aload_n (pc2 := 22) rfl dX12_falses_21 0 rfl ?_
      refine EW_iload_n (pc2 := 23) rfl dX12_falses_22 1 rfl ?_
      refine EW_iload_n (pc2 := 24) rfl dX12_falses_23 2 rfl ?_
      refine AW_invV (M' := MX12_falseOf) [.int v1, .int v2] (rest := []) mlRX12_534 okX12_falseOf (pc2 := 27) rfl dX12_falses_24 rfl rfl (Nat.le_of_ble_eq_true rfl) (Nat.le_of_ble_eq_true rfl) (d' := 1) (by omega) q246 ⟨by decide, rfl⟩ (EW_mono (fun _ _ hr => ?_) (sX12_falseOf v1 v2  (wr x 246 0 0) _ _ 0 0 (Nat.le_refl _) h))
      obtain ⟨r3, rfl, rfl, h⟩ := hr
      refine EW_goto (tgt := 31) dX12_falses_27 (by decide) ?_
      exact AW_iret rfl dX12_falses_31 ⟨_, _, rfl, rfl, h⟩
abbrev MX12_put4 : ab_M := (yX12_put4, cX12_put4, 3, none)
theorem dX12_put4_0 : decode cX12_put4 0 = .ok (.bipush 24, 2) := by decide +kernel
theorem dX12_put4_2 : decode cX12_put4 2 = .ok (.istore_n 2, 1) := by decide +kernel
theorem dX12_put4_3 : decode cX12_put4 3 = .ok (.iload_n 2, 1) := by decide +kernel
theorem dX12_put4_4 : decode cX12_put4 4 = .ok (.ifCond .lt 45, 3) := by decide +kernel
theorem dX12_put4_7 : decode cX12_put4 7 = .ok (.iload_n 1, 1) := by decide +kernel
theorem dX12_put4_8 : decode cX12_put4 8 = .ok (.iload_n 2, 1) := by decide +kernel
theorem dX12_put4_9 : decode cX12_put4 9 = .ok (.ishr, 1) := by decide +kernel
theorem dX12_put4_10 : decode cX12_put4 10 = .ok (.sipush 255, 3) := by decide +kernel
theorem dX12_put4_13 : decode cX12_put4 13 = .ok (.iand, 1) := by decide +kernel
theorem dX12_put4_14 : decode cX12_put4 14 = .ok (.ifCond .ne 6, 3) := by decide +kernel
theorem dX12_put4_17 : decode cX12_put4 17 = .ok (.goto 26, 3) := by decide +kernel
theorem dX12_put4_20 : decode cX12_put4 20 = .ok (.aload_n 0, 1) := by decide +kernel
theorem dX12_put4_21 : decode cX12_put4 21 = .ok (.getfield 167, 3) := by decide +kernel
theorem dX12_put4_24 : decode cX12_put4 24 = .ok (.aload_n 0, 1) := by decide +kernel
theorem dX12_put4_25 : decode cX12_put4 25 = .ok (.getfield 414, 3) := by decide +kernel
theorem dX12_put4_28 : decode cX12_put4 28 = .ok (.iload_n 1, 1) := by decide +kernel
theorem dX12_put4_29 : decode cX12_put4 29 = .ok (.iload_n 2, 1) := by decide +kernel
theorem dX12_put4_30 : decode cX12_put4 30 = .ok (.ishr, 1) := by decide +kernel
theorem dX12_put4_31 : decode cX12_put4 31 = .ok (.i2b, 1) := by decide +kernel
theorem dX12_put4_32 : decode cX12_put4 32 = .ok (.bastore, 1) := by decide +kernel
theorem dX12_put4_33 : decode cX12_put4 33 = .ok (.aload_n 0, 1) := by decide +kernel
theorem dX12_put4_34 : decode cX12_put4 34 = .ok (.dup, 1) := by decide +kernel
theorem dX12_put4_35 : decode cX12_put4 35 = .ok (.getfield 414, 3) := by decide +kernel
theorem dX12_put4_38 : decode cX12_put4 38 = .ok (.iconst 1, 1) := by decide +kernel
theorem dX12_put4_39 : decode cX12_put4 39 = .ok (.iadd, 1) := by decide +kernel
theorem dX12_put4_40 : decode cX12_put4 40 = .ok (.putfield 414, 3) := by decide +kernel
theorem dX12_put4_43 : decode cX12_put4 43 = .ok (.iinc 2 (-8), 3) := by decide +kernel
theorem dX12_put4_46 : decode cX12_put4 46 = .ok (.goto (-43), 3) := by decide +kernel
theorem dX12_put4_49 : decode cX12_put4 49 = .ok (.return_, 1) := by decide +kernel
theorem okX12_put4 : ab_okM MX12_put4 1 := ⟨by decide, ⟨by decide, by decide⟩, ab_in 2399 (by decide +kernel) (by decide +kernel), ab_in 99 (by decide +kernel) (by decide +kernel), by decide +kernel, by decide⟩
set_option maxHeartbeats 4000000 in
set_option maxRecDepth 100000 in
theorem sX12_put4_3 (v1 : Int32) (v2 : Int32)  (x : ab_X) (K : ab_X → Prop)  (d bc bs : Nat) (hdp : 0 ≤ d)  (h : Lp2 (lX12_put4_3 v1 K ) v2 x) : EW MX12_put4 3 [(0, .ref 246), (1, .int v1), (2, .int v2)] [] (aS x) d bc bs (liV K) := by
  refine Lp2.use (P := fun v2 x => EW MX12_put4 3 [(0, .ref 246), (1, .int v1), (2, .int v2)] [] (aS x) d bc bs (liV K)) (fun L3 v2 x hL3 h => ?_) v2 x h
  unfold lX12_put4_3 at h
  refine EW_iload_n (pc2 := 4) rfl dX12_put4_3 2 rfl ?_
  refine EW_if_lt (tgt := 49) (pc2 := 7) rfl dX12_put4_4 (by decide) (fun q => ?_) (fun q => ?_)
  · replace h := h.1 q
    exact EW_vret rfl dX12_put4_49 ⟨_, rfl, rfl, h⟩
  · replace h := h.2 q
    refine EW_iload_n (pc2 := 8) rfl dX12_put4_7 1 rfl ?_
    refine EW_iload_n (pc2 := 9) rfl dX12_put4_8 2 rfl ?_
    refine EW_ishr (pc2 := 10) rfl dX12_put4_9 ?_
    refine EW_sipush (pc2 := 13) (v := 255) rfl dX12_put4_10 (by decide) ?_
    refine EW_iand (pc2 := 14) rfl dX12_put4_13 ?_
    refine EW_if_ne (tgt := 20) (pc2 := 17) rfl dX12_put4_14 (by decide) (fun q => ?_) (fun q => ?_)
    · replace h := h.1 q
      refine EW_aload_n (pc2 := 21) rfl dX12_put4_20 0 rfl ?_
      refine AW_getr (r := 299) ⟨gfRX12_167, rfl⟩ (pc2 := 24) rfl dX12_put4_21 q246 rfl ?_
      refine EW_aload_n (pc2 := 25) rfl dX12_put4_24 0 rfl ?_
      refine AW_geti ⟨gfRX12_414, rfl⟩ (pc2 := 28) rfl dX12_put4_25 q246 ?_
      refine EW_iload_n (pc2 := 29) rfl dX12_put4_28 1 rfl ?_
      refine EW_iload_n (pc2 := 30) rfl dX12_put4_29 2 rfl ?_
      refine EW_ishr (pc2 := 31) rfl dX12_put4_30 ?_
      refine EW_i2b (pc2 := 32) (v := ((v1 >>> (v2 &&& 31))).toInt8.toInt32) rfl dX12_put4_31 rfl ?_
      obtain ⟨b1, h⟩ := h
      refine AW_bast (pc2 := 33) rfl dX12_put4_32 q299 b1 ?_
      refine EW_aload_n (pc2 := 34) rfl dX12_put4_33 0 rfl ?_
      refine EW_dup (pc2 := 35) rfl dX12_put4_34 rfl ?_
      refine AW_geti ⟨gfRX12_414, rfl⟩ (pc2 := 38) rfl dX12_put4_35 q246 ?_
      refine EW_iconst (pc2 := 39) (v := 1) rfl dX12_put4_38 (by decide) ?_
      refine EW_iadd (pc2 := 40) rfl dX12_put4_39 ?_
      refine AW_puti ⟨gfRX12_414, rfl, rfl⟩ (pc2 := 43) rfl dX12_put4_40 q246 ?_
      refine EW_iinc (v2 + (-8)) (pc2 := 46) rfl dX12_put4_43 2 rfl rfl (by decide) [1, 2, 0] [(0, .ref 246), (1, .int v1), (2, .int (v2 + (-8)))] rfl ?_
      refine EW_goto (tgt := 3) dX12_put4_46 (by decide) ?_
      exact hL3 (v2 + (-8)) (wr (wr x 299 (Int32.toNatClampNeg (x.1 246 70)) (vp_nar .byte ((v1 >>> (v2 &&& 31))).toInt8.toInt32)) 246 70 (((wr x 299 (Int32.toNatClampNeg (x.1 246 70)) (vp_nar .byte ((v1 >>> (v2 &&& 31))).toInt8.toInt32)).1 246 70) + 1)) h
    · replace h := h.2 q
      refine EW_goto (tgt := 43) dX12_put4_17 (by decide) ?_
      refine EW_iinc (v2 + (-8)) (pc2 := 46) rfl dX12_put4_43 2 rfl rfl (by decide) [1, 2, 0] [(0, .ref 246), (1, .int v1), (2, .int (v2 + (-8)))] rfl ?_
      refine EW_goto (tgt := 3) dX12_put4_46 (by decide) ?_
      exact hL3 (v2 + (-8)) x h
set_option maxHeartbeats 4000000 in
set_option maxRecDepth 100000 in
theorem sX12_put4 (v1 : Int32)  (x : ab_X) (K : ab_X → Prop) (d bc bs : Nat) (hdp : 0 ≤ d) (h : wX12_put4 v1 x K) : EW MX12_put4 0 [(0, .ref 246), (1, .int v1)] [] (aS x) d bc bs (liV K) := by
  unfold wX12_put4 at h
  refine EW_bipush (pc2 := 2) (v := 24) rfl dX12_put4_0 (by decide) ?_
  refine EW_istore_n (pc2 := 3) rfl dX12_put4_2 (by decide) [1, 2, 0] [(0, .ref 246), (1, .int v1), (2, .int 24)] rfl ?_
  exact sX12_put4_3 v1 24 x K d bc bs hdp h
