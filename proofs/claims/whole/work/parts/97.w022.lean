theorem mlRX12_417 : Cond.methodLink RX12 417 yX12_bytesIn ∈ ab_G ∧ Cond.static yX12_bytesIn ∈ ab_G := ⟨ab_in 2393 (by decide +kernel) (by decide +kernel), ab_in 2394 (by decide +kernel) (by decide +kernel)⟩
theorem mlRX12_420 : Cond.methodLink RX12 420 yX12_put4 ∈ ab_G ∧ Cond.instanceMethod yX12_put4 ∈ ab_G ∧ Cond.selects RX12 yX12_put4 yX12_put4 ∈ ab_G := ⟨ab_in 2396 (by decide +kernel) (by decide +kernel), ab_in 2398 (by decide +kernel) (by decide +kernel), ab_in 34 (by decide +kernel) (by decide +kernel)⟩
abbrev MX12_feed : ab_M := (yX12_feed, cX12_feed, 6, (some .int))
theorem dX12_feed_0 : decode cX12_feed 0 = .ok (.aload_n 0, 1) := by decide +kernel
theorem dX12_feed_1 : decode cX12_feed 1 = .ok (.iconst 0, 1) := by decide +kernel
theorem dX12_feed_2 : decode cX12_feed 2 = .ok (.putfield 297, 3) := by decide +kernel
theorem dX12_feed_5 : decode cX12_feed 5 = .ok (.aload_n 0, 1) := by decide +kernel
theorem dX12_feed_6 : decode cX12_feed 6 = .ok (.getfield 414, 3) := by decide +kernel
theorem dX12_feed_9 : decode cX12_feed 9 = .ok (.iload_n 1, 1) := by decide +kernel
theorem dX12_feed_10 : decode cX12_feed 10 = .ok (.invokestatic 417, 3) := by decide +kernel
theorem dX12_feed_13 : decode cX12_feed 13 = .ok (.iadd, 1) := by decide +kernel
theorem dX12_feed_14 : decode cX12_feed 14 = .ok (.iload_n 2, 1) := by decide +kernel
theorem dX12_feed_15 : decode cX12_feed 15 = .ok (.invokestatic 417, 3) := by decide +kernel
theorem dX12_feed_18 : decode cX12_feed 18 = .ok (.iadd, 1) := by decide +kernel
theorem dX12_feed_19 : decode cX12_feed 19 = .ok (.iload_n 3, 1) := by decide +kernel
theorem dX12_feed_20 : decode cX12_feed 20 = .ok (.invokestatic 417, 3) := by decide +kernel
theorem dX12_feed_23 : decode cX12_feed 23 = .ok (.iadd, 1) := by decide +kernel
theorem dX12_feed_24 : decode cX12_feed 24 = .ok (.iload 4, 2) := by decide +kernel
theorem dX12_feed_26 : decode cX12_feed 26 = .ok (.invokestatic 417, 3) := by decide +kernel
theorem dX12_feed_29 : decode cX12_feed 29 = .ok (.iadd, 1) := by decide +kernel
theorem dX12_feed_30 : decode cX12_feed 30 = .ok (.iload 5, 2) := by decide +kernel
theorem dX12_feed_32 : decode cX12_feed 32 = .ok (.invokestatic 417, 3) := by decide +kernel
theorem dX12_feed_35 : decode cX12_feed 35 = .ok (.iadd, 1) := by decide +kernel
theorem dX12_feed_36 : decode cX12_feed 36 = .ok (.sipush 200, 3) := by decide +kernel
theorem dX12_feed_39 : decode cX12_feed 39 = .ok (.if_icmp .le 5, 3) := by decide +kernel
theorem dX12_feed_42 : decode cX12_feed 42 = .ok (.iconst (-1), 1) := by decide +kernel
theorem dX12_feed_43 : decode cX12_feed 43 = .ok (.ireturn, 1) := by decide +kernel
theorem dX12_feed_44 : decode cX12_feed 44 = .ok (.aload_n 0, 1) := by decide +kernel
theorem dX12_feed_45 : decode cX12_feed 45 = .ok (.iload_n 1, 1) := by decide +kernel
theorem dX12_feed_46 : decode cX12_feed 46 = .ok (.invokevirtual 420, 3) := by decide +kernel
theorem dX12_feed_49 : decode cX12_feed 49 = .ok (.aload_n 0, 1) := by decide +kernel
theorem dX12_feed_50 : decode cX12_feed 50 = .ok (.iload_n 2, 1) := by decide +kernel
theorem dX12_feed_51 : decode cX12_feed 51 = .ok (.invokevirtual 420, 3) := by decide +kernel
theorem dX12_feed_54 : decode cX12_feed 54 = .ok (.aload_n 0, 1) := by decide +kernel
theorem dX12_feed_55 : decode cX12_feed 55 = .ok (.iload_n 3, 1) := by decide +kernel
theorem dX12_feed_56 : decode cX12_feed 56 = .ok (.invokevirtual 420, 3) := by decide +kernel
theorem dX12_feed_59 : decode cX12_feed 59 = .ok (.aload_n 0, 1) := by decide +kernel
theorem dX12_feed_60 : decode cX12_feed 60 = .ok (.iload 4, 2) := by decide +kernel
theorem dX12_feed_62 : decode cX12_feed 62 = .ok (.invokevirtual 420, 3) := by decide +kernel
theorem dX12_feed_65 : decode cX12_feed 65 = .ok (.aload_n 0, 1) := by decide +kernel
theorem dX12_feed_66 : decode cX12_feed 66 = .ok (.iload 5, 2) := by decide +kernel
theorem dX12_feed_68 : decode cX12_feed 68 = .ok (.invokevirtual 420, 3) := by decide +kernel
theorem dX12_feed_71 : decode cX12_feed 71 = .ok (.aload_n 0, 1) := by decide +kernel
theorem dX12_feed_72 : decode cX12_feed 72 = .ok (.getfield 414, 3) := by decide +kernel
theorem dX12_feed_75 : decode cX12_feed 75 = .ok (.ireturn, 1) := by decide +kernel
theorem okX12_feed : ab_okM MX12_feed 5 := ⟨by decide, ⟨by decide, by decide⟩, ab_in 2392 (by decide +kernel) (by decide +kernel), ab_in 99 (by decide +kernel) (by decide +kernel), by decide +kernel, by decide⟩
set_option maxHeartbeats 4000000 in
set_option maxRecDepth 100000 in
theorem sX12_feed (v1 : Int32) (v2 : Int32) (v3 : Int32) (v4 : Int32) (v5 : Int32)  (x : ab_X) (K : Int32 → ab_X → Prop) (d bc bs : Nat) (hdp : 1 ≤ d) (h : wX12_feed v1 v2 v3 v4 v5 x K) : EW MX12_feed 0 [(0, .ref 246), (1, .int v1), (2, .int v2), (3, .int v3), (4, .int v4), (5, .int v5)] [] (aS x) d bc bs (liI K) := by
  unfold wX12_feed at h
  refine EW_aload_n (pc2 := 1) rfl dX12_feed_0 0 rfl ?_
  refine EW_iconst (pc2 := 2) (v := 0) rfl dX12_feed_1 (by decide) ?_
  refine AW_puti ⟨gfRX12_297, rfl, rfl⟩ (pc2 := 5) rfl dX12_feed_2 q246 ?_
  refine EW_aload_n (pc2 := 6) rfl dX12_feed_5 0 rfl ?_
  refine AW_geti ⟨gfRX12_414, rfl⟩ (pc2 := 9) rfl dX12_feed_6 q246 ?_
  refine EW_iload_n (pc2 := 10) rfl dX12_feed_9 1 rfl ?_
  refine AW_invS (M' := MX12_bytesIn) [.int v1] (rest := [.int ((wr x 246 0 0).1 246 70)]) mlRX12_417 okX12_bytesIn (pc2 := 13) rfl dX12_feed_10 rfl rfl (Nat.le_of_ble_eq_true rfl) (Nat.le_of_ble_eq_true rfl) (d' := 0) (by omega) (EW_mono (fun _ _ hr => ?_) (sX12_bytesIn v1  (wr x 246 0 0) _ _ 0 0 (Nat.le_refl _) h))
  obtain ⟨r1, rfl, rfl, h⟩ := hr
  refine EW_iadd (pc2 := 14) rfl dX12_feed_13 ?_
  refine EW_iload_n (pc2 := 15) rfl dX12_feed_14 2 rfl ?_
  refine AW_invS (M' := MX12_bytesIn) [.int v2] (rest := [.int (((wr x 246 0 0).1 246 70) + r1)]) mlRX12_417 okX12_bytesIn (pc2 := 18) rfl dX12_feed_15 rfl rfl (Nat.le_of_ble_eq_true rfl) (Nat.le_of_ble_eq_true rfl) (d' := 0) (by omega) (EW_mono (fun _ _ hr => ?_) (sX12_bytesIn v2  (wr x 246 0 0) _ _ 0 0 (Nat.le_refl _) h))
  obtain ⟨r2, rfl, rfl, h⟩ := hr
  refine EW_iadd (pc2 := 19) rfl dX12_feed_18 ?_
  refine EW_iload_n (pc2 := 20) rfl dX12_feed_19 3 rfl ?_
  refine AW_invS (M' := MX12_bytesIn) [.int v3] (rest := [.int ((((wr x 246 0 0).1 246 70) + r1) + r2)]) mlRX12_417 okX12_bytesIn (pc2 := 23) rfl dX12_feed_20 rfl rfl (Nat.le_of_ble_eq_true rfl) (Nat.le_of_ble_eq_true rfl) (d' := 0) (by omega) (EW_mono (fun _ _ hr => ?_) (sX12_bytesIn v3  (wr x 246 0 0) _ _ 0 0 (Nat.le_refl _) h))
  obtain ⟨r3, rfl, rfl, h⟩ := hr
  refine EW_iadd (pc2 := 24) rfl dX12_feed_23 ?_
  refine EW_iload (pc2 := 26) rfl dX12_feed_24 4 rfl ?_
  refine AW_invS (M' := MX12_bytesIn) [.int v4] (rest := [.int (((((wr x 246 0 0).1 246 70) + r1) + r2) + r3)]) mlRX12_417 okX12_bytesIn (pc2 := 29) rfl dX12_feed_26 rfl rfl (Nat.le_of_ble_eq_true rfl) (Nat.le_of_ble_eq_true rfl) (d' := 0) (by omega) (EW_mono (fun _ _ hr => ?_) (sX12_bytesIn v4  (wr x 246 0 0) _ _ 0 0 (Nat.le_refl _) h))
  obtain ⟨r4, rfl, rfl, h⟩ := hr
  refine EW_iadd (pc2 := 30) rfl dX12_feed_29 ?_
  refine EW_iload (pc2 := 32) rfl dX12_feed_30 5 rfl ?_
  refine AW_invS (M' := MX12_bytesIn) [.int v5] (rest := [.int ((((((wr x 246 0 0).1 246 70) + r1) + r2) + r3) + r4)]) mlRX12_417 okX12_bytesIn (pc2 := 35) rfl dX12_feed_32 rfl rfl (Nat.le_of_ble_eq_true rfl) (Nat.le_of_ble_eq_true rfl) (d' := 0) (by omega) (EW_mono (fun _ _ hr => ?_) (sX12_bytesIn v5  (wr x 246 0 0) _ _ 0 0 (Nat.le_refl _) h))
  obtain ⟨r5, rfl, rfl, h⟩ := hr
  refine EW_iadd (pc2 := 36) rfl dX12_feed_35 ?_
  refine EW_sipush (pc2 := 39) (v := 200) rfl dX12_feed_36 (by decide) ?_
  refine EW_icmp_le (tgt := 44) (pc2 := 42) rfl dX12_feed_39 (by decide) (fun q => ?_) (fun q => ?_)
  · replace h := h.1 q
    refine EW_aload_n (pc2 := 45) rfl dX12_feed_44 0 rfl ?_
    refine EW_iload_n (pc2 := 46) rfl dX12_feed_45 1 rfl ?_
    refine AW_invV (M' := MX12_put4) [.int v1] (rest := []) mlRX12_420 okX12_put4 (pc2 := 49) rfl dX12_feed_46 rfl rfl (Nat.le_of_ble_eq_true rfl) (Nat.le_of_ble_eq_true rfl) (d' := 0) (by omega) q246 ⟨by decide, rfl⟩ (EW_mono (fun _ _ hr => ?_) (sX12_put4 v1  (wr x 246 0 0) _ _ 0 0 (Nat.le_refl _) h))
    obtain ⟨x6, rfl, rfl, h⟩ := hr
    refine EW_aload_n (pc2 := 50) rfl dX12_feed_49 0 rfl ?_
    refine EW_iload_n (pc2 := 51) rfl dX12_feed_50 2 rfl ?_
    refine AW_invV (M' := MX12_put4) [.int v2] (rest := []) mlRX12_420 okX12_put4 (pc2 := 54) rfl dX12_feed_51 rfl rfl (Nat.le_of_ble_eq_true rfl) (Nat.le_of_ble_eq_true rfl) (d' := 0) (by omega) q246 ⟨by decide, rfl⟩ (EW_mono (fun _ _ hr => ?_) (sX12_put4 v2  x6 _ _ 0 0 (Nat.le_refl _) h))
    obtain ⟨x7, rfl, rfl, h⟩ := hr
    refine EW_aload_n (pc2 := 55) rfl dX12_feed_54 0 rfl ?_
    refine EW_iload_n (pc2 := 56) rfl dX12_feed_55 3 rfl ?_
    refine AW_invV (M' := MX12_put4) [.int v3] (rest := []) mlRX12_420 okX12_put4 (pc2 := 59) rfl dX12_feed_56 rfl rfl (Nat.le_of_ble_eq_true rfl) (Nat.le_of_ble_eq_true rfl) (d' := 0) (by omega) q246 ⟨by decide, rfl⟩ (EW_mono (fun _ _ hr => ?_) (sX12_put4 v3  x7 _ _ 0 0 (Nat.le_refl _) h))
    obtain ⟨x8, rfl, rfl, h⟩ := hr
    refine EW_aload_n (pc2 := 60) rfl dX12_feed_59 0 rfl ?_
    refine EW_iload (pc2 := 62) rfl dX12_feed_60 4 rfl ?_
    refine AW_invV (M' := MX12_put4) [.int v4] (rest := []) mlRX12_420 okX12_put4 (pc2 := 65) rfl dX12_feed_62 rfl rfl (Nat.le_of_ble_eq_true rfl) (Nat.le_of_ble_eq_true rfl) (d' := 0) (by omega) q246 ⟨by decide, rfl⟩ (EW_mono (fun _ _ hr => ?_) (sX12_put4 v4  x8 _ _ 0 0 (Nat.le_refl _) h))
    obtain ⟨x9, rfl, rfl, h⟩ := hr
    refine EW_aload_n (pc2 := 66) rfl dX12_feed_65 0 rfl ?_
    refine EW_iload (pc2 := 68) rfl dX12_feed_66 5 rfl ?_
    refine AW_invV (M' := MX12_put4) [.int v5] (rest := []) mlRX12_420 okX12_put4 (pc2 := 71) rfl dX12_feed_68 rfl rfl (Nat.le_of_ble_eq_true rfl) (Nat.le_of_ble_eq_true rfl) (d' := 0) (by omega) q246 ⟨by decide, rfl⟩ (EW_mono (fun _ _ hr => ?_) (sX12_put4 v5  x9 _ _ 0 0 (Nat.le_refl _) h))
    obtain ⟨x10, rfl, rfl, h⟩ := hr
    refine EW_aload_n (pc2 := 72) rfl dX12_feed_71 0 rfl ?_
    refine AW_geti ⟨gfRX12_414, rfl⟩ (pc2 := 75) rfl dX12_feed_72 q246 ?_
    exact AW_iret rfl dX12_feed_75 ⟨_, _, rfl, rfl, h⟩
  · replace h := h.2 q
    refine EW_iconst (pc2 := 43) (v := (-1)) rfl dX12_feed_42 (by decide) ?_
    exact AW_iret rfl dX12_feed_43 ⟨_, _, rfl, rfl, h⟩
theorem gfRX12_22 : ab_L RX12 22 12 6 := ⟨by decide, by decide, ab_in 1855 (by decide +kernel) (by decide +kernel)⟩
abbrev MX12_walkOf : ab_M := (yX12_walkOf, cX12_walkOf, 3, (some .int))
theorem dX12_walkOf_0 : decode cX12_walkOf 0 = .ok (.aload_n 0, 1) := by decide +kernel
theorem dX12_walkOf_1 : decode cX12_walkOf 1 = .ok (.getfield 22, 3) := by decide +kernel
theorem dX12_walkOf_4 : decode cX12_walkOf 4 = .ok (.bipush 20, 2) := by decide +kernel
theorem dX12_walkOf_6 : decode cX12_walkOf 6 = .ok (.iload_n 1, 1) := by decide +kernel
theorem dX12_walkOf_7 : decode cX12_walkOf 7 = .ok (.imul, 1) := by decide +kernel
theorem dX12_walkOf_8 : decode cX12_walkOf 8 = .ok (.iload_n 2, 1) := by decide +kernel
theorem dX12_walkOf_9 : decode cX12_walkOf 9 = .ok (.iadd, 1) := by decide +kernel
theorem dX12_walkOf_10 : decode cX12_walkOf 10 = .ok (.iaload, 1) := by decide +kernel
theorem dX12_walkOf_11 : decode cX12_walkOf 11 = .ok (.ireturn, 1) := by decide +kernel
theorem okX12_walkOf : ab_okM MX12_walkOf 2 := ⟨by decide, ⟨by decide, by decide⟩, ab_in 2259 (by decide +kernel) (by decide +kernel), ab_in 99 (by decide +kernel) (by decide +kernel), by decide +kernel, by decide⟩
set_option maxHeartbeats 4000000 in
set_option maxRecDepth 100000 in
theorem sX12_walkOf (v1 : Int32) (v2 : Int32)  (x : ab_X) (K : Int32 → Prop) (d bc bs : Nat) (hdp : 0 ≤ d) (h : wX12_walkOf v1 v2 x K) : EW MX12_walkOf 0 [(0, .ref 246), (1, .int v1), (2, .int v2)] [] (aS x) d bc bs (liP x K) := by
  unfold wX12_walkOf at h
  refine EW_aload_n (pc2 := 1) rfl dX12_walkOf_0 0 rfl ?_
  refine AW_getr (r := 251) ⟨gfRX12_22, rfl⟩ (pc2 := 4) rfl dX12_walkOf_1 q246 rfl ?_
  refine EW_bipush (pc2 := 6) (v := 20) rfl dX12_walkOf_4 (by decide) ?_
  refine EW_iload_n (pc2 := 7) rfl dX12_walkOf_6 1 rfl ?_
  refine EW_imul (pc2 := 8) rfl dX12_walkOf_7 ?_
  refine EW_iload_n (pc2 := 9) rfl dX12_walkOf_8 2 rfl ?_
  refine EW_iadd (pc2 := 10) rfl dX12_walkOf_9 ?_
  obtain ⟨b1, h⟩ := h
  refine AW_iald (pc2 := 11) rfl dX12_walkOf_10 q251 b1 ?_
  exact AW_iret rfl dX12_walkOf_11 ⟨_, rfl, rfl, h⟩
theorem mlRX12_328 : Cond.methodLink RX12 328 yX12_walkOf ∈ ab_G ∧ Cond.instanceMethod yX12_walkOf ∈ ab_G ∧ Cond.selects RX12 yX12_walkOf yX12_walkOf ∈ ab_G := ⟨ab_in 2256 (by decide +kernel) (by decide +kernel), ab_in 2258 (by decide +kernel) (by decide +kernel), ab_in 16 (by decide +kernel) (by decide +kernel)⟩
theorem cnRX12_296 : Cond.constant RX12 296 1000000 ∈ ab_G := ab_in 1848 (by decide +kernel) (by decide +kernel)
abbrev MX12_feet : ab_M := (yX12_feet, cX12_feet, 3, (some .int))
theorem dX12_feet_0 : decode cX12_feet 0 = .ok (.aload_n 0, 1) := by decide +kernel
theorem dX12_feet_1 : decode cX12_feet 1 = .ok (.iconst 0, 1) := by decide +kernel
theorem dX12_feet_2 : decode cX12_feet 2 = .ok (.putfield 297, 3) := by decide +kernel
theorem dX12_feet_5 : decode cX12_feet 5 = .ok (.iload_n 1, 1) := by decide +kernel
theorem dX12_feet_6 : decode cX12_feet 6 = .ok (.invokestatic 303, 3) := by decide +kernel
theorem dX12_feet_9 : decode cX12_feet 9 = .ok (.ifCond .eq 34, 3) := by decide +kernel
theorem dX12_feet_12 : decode cX12_feet 12 = .ok (.iload_n 2, 1) := by decide +kernel
theorem dX12_feet_13 : decode cX12_feet 13 = .ok (.invokestatic 303, 3) := by decide +kernel
theorem dX12_feet_16 : decode cX12_feet 16 = .ok (.ifCond .eq 27, 3) := by decide +kernel
theorem dX12_feet_19 : decode cX12_feet 19 = .ok (.aload_n 0, 1) := by decide +kernel
theorem dX12_feet_20 : decode cX12_feet 20 = .ok (.iload_n 1, 1) := by decide +kernel
theorem dX12_feet_21 : decode cX12_feet 21 = .ok (.iload_n 2, 1) := by decide +kernel
theorem dX12_feet_22 : decode cX12_feet 22 = .ok (.invokevirtual 328, 3) := by decide +kernel
theorem dX12_feet_25 : decode cX12_feet 25 = .ok (.ldc_w 296, 3) := by decide +kernel
theorem dX12_feet_28 : decode cX12_feet 28 = .ok (.if_icmp .ge 15, 3) := by decide +kernel
theorem dX12_feet_31 : decode cX12_feet 31 = .ok (.bipush 100, 2) := by decide +kernel
theorem dX12_feet_33 : decode cX12_feet 33 = .ok (.aload_n 0, 1) := by decide +kernel
theorem dX12_feet_34 : decode cX12_feet 34 = .ok (.iload_n 1, 1) := by decide +kernel
theorem dX12_feet_35 : decode cX12_feet 35 = .ok (.iload_n 2, 1) := by decide +kernel
theorem dX12_feet_36 : decode cX12_feet 36 = .ok (.invokevirtual 328, 3) := by decide +kernel
theorem dX12_feet_39 : decode cX12_feet 39 = .ok (.imul, 1) := by decide +kernel
theorem dX12_feet_40 : decode cX12_feet 40 = .ok (.goto 4, 3) := by decide +kernel
theorem dX12_feet_43 : decode cX12_feet 43 = .ok (.iconst (-1), 1) := by decide +kernel
theorem dX12_feet_44 : decode cX12_feet 44 = .ok (.ireturn, 1) := by decide +kernel
theorem okX12_feet : ab_okM MX12_feet 2 := ⟨by decide, ⟨by decide, by decide⟩, ab_in 2255 (by decide +kernel) (by decide +kernel), ab_in 99 (by decide +kernel) (by decide +kernel), by decide +kernel, by decide⟩
set_option maxHeartbeats 4000000 in
set_option maxRecDepth 100000 in
theorem sX12_feet (v1 : Int32) (v2 : Int32)  (x : ab_X) (K : Int32 → ab_X → Prop) (d bc bs : Nat) (hdp : 1 ≤ d) (h : wX12_feet v1 v2 x K) : EW MX12_feet 0 [(0, .ref 246), (1, .int v1), (2, .int v2)] [] (aS x) d bc bs (liI K) := by
  unfold wX12_feet at h
  refine EW_aload_n (pc2 := 1) rfl dX12_feet_0 0 rfl ?_
  refine EW_iconst (pc2 := 2) (v := 0) rfl dX12_feet_1 (by decide) ?_
  refine AW_puti ⟨gfRX12_297, rfl, rfl⟩ (pc2 := 5) rfl dX12_feet_2 q246 ?_
  refine EW_iload_n (pc2 := 6) rfl dX12_feet_5 1 rfl ?_
  refine AW_invS (M' := MX12_isCorner) [.int v1] (rest := []) mlRX12_303 okX12_isCorner (pc2 := 9) rfl dX12_feet_6 rfl rfl (Nat.le_of_ble_eq_true rfl) (Nat.le_of_ble_eq_true rfl) (d' := 0) (by omega) (EW_mono (fun _ _ hr => ?_) (sX12_isCorner v1  (wr x 246 0 0) _ _ 0 0 (Nat.le_refl _) h))
  obtain ⟨r1, rfl, rfl, h⟩ := hr
  refine EW_if_eq (tgt := 43) (pc2 := 12) rfl dX12_feet_9 (by decide) (fun q => ?_) (fun q => ?_)
  · replace h := h.1 q
    refine EW_iconst (pc2 := 44) (v := (-1)) rfl dX12_feet_43 (by decide) ?_
    exact AW_iret rfl dX12_feet_44 ⟨_, _, rfl, rfl, h⟩
  · replace h := h.2 q
    refine EW_iload_n (pc2 := 13) rfl dX12_feet_12 2 rfl ?_
    refine AW_invS (M' := MX12_isCorner) [.int v2] (rest := []) mlRX12_303 okX12_isCorner (pc2 := 16) rfl dX12_feet_13 rfl rfl (Nat.le_of_ble_eq_true rfl) (Nat.le_of_ble_eq_true rfl) (d' := 0) (by omega) (EW_mono (fun _ _ hr => ?_) (sX12_isCorner v2  (wr x 246 0 0) _ _ 0 0 (Nat.le_refl _) h))
    obtain ⟨r2, rfl, rfl, h⟩ := hr
    refine EW_if_eq (tgt := 43) (pc2 := 19) rfl dX12_feet_16 (by decide) (fun q => ?_) (fun q => ?_)
    · replace h := h.1 q
      refine EW_iconst (pc2 := 44) (v := (-1)) rfl dX12_feet_43 (by decide) ?_
      exact AW_iret rfl dX12_feet_44 ⟨_, _, rfl, rfl, h⟩
    · replace h := h.2 q
      refine EW_aload_n (pc2 := 20) rfl dX12_feet_19 0 rfl ?_
      refine EW_iload_n (pc2 := 21) rfl dX12_feet_20 1 rfl ?_
      refine EW_iload_n (pc2 := 22) rfl dX12_feet_21 2 rfl ?_
      refine AW_invV (M' := MX12_walkOf) [.int v1, .int v2] (rest := []) mlRX12_328 okX12_walkOf (pc2 := 25) rfl dX12_feet_22 rfl rfl (Nat.le_of_ble_eq_true rfl) (Nat.le_of_ble_eq_true rfl) (d' := 0) (by omega) q246 ⟨by decide, rfl⟩ (EW_mono (fun _ _ hr => ?_) (sX12_walkOf v1 v2  (wr x 246 0 0) _ _ 0 0 (Nat.le_refl _) h))
      obtain ⟨r3, rfl, rfl, h⟩ := hr
      refine EW_ldcw cnRX12_296 (pc2 := 28) rfl dX12_feet_25 ?_
      refine EW_icmp_ge (tgt := 43) (pc2 := 31) rfl dX12_feet_28 (by decide) (fun q => ?_) (fun q => ?_)
      · replace h := h.1 q
        refine EW_iconst (pc2 := 44) (v := (-1)) rfl dX12_feet_43 (by decide) ?_
        exact AW_iret rfl dX12_feet_44 ⟨_, _, rfl, rfl, h⟩
      · replace h := h.2 q
        refine EW_bipush (pc2 := 33) (v := 100) rfl dX12_feet_31 (by decide) ?_
        refine EW_aload_n (pc2 := 34) rfl dX12_feet_33 0 rfl ?_
        refine EW_iload_n (pc2 := 35) rfl dX12_feet_34 1 rfl ?_
        refine EW_iload_n (pc2 := 36) rfl dX12_feet_35 2 rfl ?_
        refine AW_invV (M' := MX12_walkOf) [.int v1, .int v2] (rest := [.int 100]) mlRX12_328 okX12_walkOf (pc2 := 39) rfl dX12_feet_36 rfl rfl (Nat.le_of_ble_eq_true rfl) (Nat.le_of_ble_eq_true rfl) (d' := 0) (by omega) q246 ⟨by decide, rfl⟩ (EW_mono (fun _ _ hr => ?_) (sX12_walkOf v1 v2  (wr x 246 0 0) _ _ 0 0 (Nat.le_refl _) h))
        obtain ⟨r4, rfl, rfl, h⟩ := hr
        refine EW_imul (pc2 := 40) rfl dX12_feet_39 ?_
        refine EW_goto (tgt := 44) dX12_feet_40 (by decide) ?_
        exact AW_iret rfl dX12_feet_44 ⟨_, _, rfl, rfl, h⟩
abbrev MX12_pointsOf : ab_M := (yX12_pointsOf, cX12_pointsOf, 6, (some .int))
theorem dX12_pointsOf_0 : decode cX12_pointsOf 0 = .ok (.iconst 0, 1) := by decide +kernel
theorem dX12_pointsOf_1 : decode cX12_pointsOf 1 = .ok (.istore 4, 2) := by decide +kernel
theorem dX12_pointsOf_3 : decode cX12_pointsOf 3 = .ok (.iconst 0, 1) := by decide +kernel
theorem dX12_pointsOf_4 : decode cX12_pointsOf 4 = .ok (.istore 5, 2) := by decide +kernel
theorem dX12_pointsOf_6 : decode cX12_pointsOf 6 = .ok (.iload 5, 2) := by decide +kernel
theorem dX12_pointsOf_8 : decode cX12_pointsOf 8 = .ok (.bipush 20, 2) := by decide +kernel
theorem dX12_pointsOf_10 : decode cX12_pointsOf 10 = .ok (.if_icmp .ge 40, 3) := by decide +kernel
theorem dX12_pointsOf_13 : decode cX12_pointsOf 13 = .ok (.iload 4, 2) := by decide +kernel
theorem dX12_pointsOf_15 : decode cX12_pointsOf 15 = .ok (.iload_n 2, 1) := by decide +kernel
theorem dX12_pointsOf_16 : decode cX12_pointsOf 16 = .ok (.iload 5, 2) := by decide +kernel
theorem dX12_pointsOf_18 : decode cX12_pointsOf 18 = .ok (.ishr, 1) := by decide +kernel
theorem dX12_pointsOf_19 : decode cX12_pointsOf 19 = .ok (.iconst 1, 1) := by decide +kernel
theorem dX12_pointsOf_20 : decode cX12_pointsOf 20 = .ok (.iand, 1) := by decide +kernel
theorem dX12_pointsOf_21 : decode cX12_pointsOf 21 = .ok (.iconst 1, 1) := by decide +kernel
theorem dX12_pointsOf_22 : decode cX12_pointsOf 22 = .ok (.if_icmp .ne 18, 3) := by decide +kernel
theorem dX12_pointsOf_25 : decode cX12_pointsOf 25 = .ok (.aload_n 0, 1) := by decide +kernel
theorem dX12_pointsOf_26 : decode cX12_pointsOf 26 = .ok (.iload 5, 2) := by decide +kernel
theorem dX12_pointsOf_28 : decode cX12_pointsOf 28 = .ok (.iload_n 1, 1) := by decide +kernel
theorem dX12_pointsOf_29 : decode cX12_pointsOf 29 = .ok (.invokevirtual 328, 3) := by decide +kernel
theorem dX12_pointsOf_32 : decode cX12_pointsOf 32 = .ok (.iload_n 3, 1) := by decide +kernel
theorem dX12_pointsOf_33 : decode cX12_pointsOf 33 = .ok (.if_icmp .gt 7, 3) := by decide +kernel
theorem dX12_pointsOf_36 : decode cX12_pointsOf 36 = .ok (.iconst 1, 1) := by decide +kernel
theorem dX12_pointsOf_37 : decode cX12_pointsOf 37 = .ok (.goto 4, 3) := by decide +kernel
theorem dX12_pointsOf_40 : decode cX12_pointsOf 40 = .ok (.iconst 0, 1) := by decide +kernel
theorem dX12_pointsOf_41 : decode cX12_pointsOf 41 = .ok (.iadd, 1) := by decide +kernel
theorem dX12_pointsOf_42 : decode cX12_pointsOf 42 = .ok (.istore 4, 2) := by decide +kernel
theorem dX12_pointsOf_44 : decode cX12_pointsOf 44 = .ok (.iinc 5 1, 3) := by decide +kernel
theorem dX12_pointsOf_47 : decode cX12_pointsOf 47 = .ok (.goto (-41), 3) := by decide +kernel
theorem dX12_pointsOf_50 : decode cX12_pointsOf 50 = .ok (.iload 4, 2) := by decide +kernel
theorem dX12_pointsOf_52 : decode cX12_pointsOf 52 = .ok (.ifCond .ne 7, 3) := by decide +kernel
theorem dX12_pointsOf_55 : decode cX12_pointsOf 55 = .ok (.iconst 0, 1) := by decide +kernel
theorem dX12_pointsOf_56 : decode cX12_pointsOf 56 = .ok (.goto 14, 3) := by decide +kernel
theorem dX12_pointsOf_59 : decode cX12_pointsOf 59 = .ok (.iload 4, 2) := by decide +kernel
theorem dX12_pointsOf_61 : decode cX12_pointsOf 61 = .ok (.iconst 1, 1) := by decide +kernel
theorem dX12_pointsOf_62 : decode cX12_pointsOf 62 = .ok (.if_icmp .ne 7, 3) := by decide +kernel
theorem dX12_pointsOf_65 : decode cX12_pointsOf 65 = .ok (.iconst 2, 1) := by decide +kernel
theorem dX12_pointsOf_66 : decode cX12_pointsOf 66 = .ok (.goto 4, 3) := by decide +kernel
theorem dX12_pointsOf_69 : decode cX12_pointsOf 69 = .ok (.iconst 3, 1) := by decide +kernel
theorem dX12_pointsOf_70 : decode cX12_pointsOf 70 = .ok (.ireturn, 1) := by decide +kernel
theorem okX12_pointsOf : ab_okM MX12_pointsOf 3 := ⟨by decide, ⟨by decide, by decide⟩, ab_in 2690 (by decide +kernel) (by decide +kernel), ab_in 99 (by decide +kernel) (by decide +kernel), by decide +kernel, by decide⟩
set_option maxHeartbeats 4000000 in
set_option maxRecDepth 100000 in
theorem sX12_pointsOf_41 (v1 : Int32) (v2 : Int32) (v3 : Int32) (v5 : Int32) (s0 : Int32) (s1 : Int32)  (x : ab_X) (K : Int32 → Prop) (L6 : Int32 → Int32 → Prop) (d bc bs : Nat) (hdp : 1 ≤ d) (hL6 : ∀ (v4 : Int32) (v5 : Int32), L6 v4 v5 → EW MX12_pointsOf 6 [(0, .ref 246), (1, .int v1), (2, .int v2), (3, .int v3), (4, .int v4), (5, .int v5)] [] (aS x) d bc bs (liP x K)) (h : wX12_pointsOf_41 v1 v2 v3 v5 s0 s1 x K L6) : EW MX12_pointsOf 41 [(0, .ref 246), (1, .int v1), (2, .int v2), (3, .int v3), (5, .int v5)] [.int s1, .int s0] (aS x) d bc bs (liP x K) := by
  unfold wX12_pointsOf_41 at h
  refine EW_iadd (pc2 := 42) rfl dX12_pointsOf_41 ?_
  refine EW_istore (pc2 := 44) rfl dX12_pointsOf_42 (by decide) [1, 2, 3, 4, 0, 5] [(0, .ref 246), (1, .int v1), (2, .int v2), (3, .int v3), (4, .int (s0 + s1)), (5, .int v5)] rfl ?_
  refine EW_iinc (v5 + 1) (pc2 := 47) rfl dX12_pointsOf_44 5 rfl rfl (by decide) [1, 2, 3, 4, 5, 0] [(0, .ref 246), (1, .int v1), (2, .int v2), (3, .int v3), (4, .int (s0 + s1)), (5, .int (v5 + 1))] rfl ?_
  refine EW_goto (tgt := 6) dX12_pointsOf_47 (by decide) ?_
  exact hL6 (s0 + s1) (v5 + 1) h
set_option maxHeartbeats 4000000 in
set_option maxRecDepth 100000 in
theorem sX12_pointsOf_40 (v1 : Int32) (v2 : Int32) (v3 : Int32) (v5 : Int32) (s0 : Int32)  (x : ab_X) (K : Int32 → Prop) (L6 : Int32 → Int32 → Prop) (d bc bs : Nat) (hdp : 1 ≤ d) (hL6 : ∀ (v4 : Int32) (v5 : Int32), L6 v4 v5 → EW MX12_pointsOf 6 [(0, .ref 246), (1, .int v1), (2, .int v2), (3, .int v3), (4, .int v4), (5, .int v5)] [] (aS x) d bc bs (liP x K)) (h : wX12_pointsOf_40 v1 v2 v3 v5 s0 x K L6) : EW MX12_pointsOf 40 [(0, .ref 246), (1, .int v1), (2, .int v2), (3, .int v3), (5, .int v5)] [.int s0] (aS x) d bc bs (liP x K) := by
  unfold wX12_pointsOf_40 at h
  refine EW_iconst (pc2 := 41) (v := 0) rfl dX12_pointsOf_40 (by decide) ?_
  exact sX12_pointsOf_41 v1 v2 v3 v5 s0 0 x K L6 d bc bs hdp hL6 h
set_option maxHeartbeats 4000000 in
set_option maxRecDepth 100000 in
theorem sX12_pointsOf_6 (v1 : Int32) (v2 : Int32) (v3 : Int32) (v4 : Int32) (v5 : Int32)  (x : ab_X) (K : Int32 → Prop)  (d bc bs : Nat) (hdp : 1 ≤ d)  (h : Lp2 (lX12_pointsOf_6 v1 v2 v3 x K ) v4 v5) : EW MX12_pointsOf 6 [(0, .ref 246), (1, .int v1), (2, .int v2), (3, .int v3), (4, .int v4), (5, .int v5)] [] (aS x) d bc bs (liP x K) := by
  refine Lp2.use (P := fun v4 v5 => EW MX12_pointsOf 6 [(0, .ref 246), (1, .int v1), (2, .int v2), (3, .int v3), (4, .int v4), (5, .int v5)] [] (aS x) d bc bs (liP x K)) (fun L6 v4 v5 hL6 h => ?_) v4 v5 h
  unfold lX12_pointsOf_6 at h
  refine EW_iload (pc2 := 8) rfl dX12_pointsOf_6 5 rfl ?_
  refine EW_bipush (pc2 := 10) (v := 20) rfl dX12_pointsOf_8 (by decide) ?_
  refine EW_icmp_ge (tgt := 50) (pc2 := 13) rfl dX12_pointsOf_10 (by decide) (fun q => ?_) (fun q => ?_)
  · replace h := h.1 q
    refine EW_iload (pc2 := 52) rfl dX12_pointsOf_50 4 rfl ?_
    refine EW_if_ne (tgt := 59) (pc2 := 55) rfl dX12_pointsOf_52 (by decide) (fun q => ?_) (fun q => ?_)
    · replace h := h.1 q
      refine EW_iload (pc2 := 61) rfl dX12_pointsOf_59 4 rfl ?_
      refine EW_iconst (pc2 := 62) (v := 1) rfl dX12_pointsOf_61 (by decide) ?_
      refine EW_icmp_ne (tgt := 69) (pc2 := 65) rfl dX12_pointsOf_62 (by decide) (fun q => ?_) (fun q => ?_)
      · replace h := h.1 q
        refine EW_iconst (pc2 := 70) (v := 3) rfl dX12_pointsOf_69 (by decide) ?_
        exact AW_iret rfl dX12_pointsOf_70 ⟨_, rfl, rfl, h⟩
      · replace h := h.2 q
        refine EW_iconst (pc2 := 66) (v := 2) rfl dX12_pointsOf_65 (by decide) ?_
        refine EW_goto (tgt := 70) dX12_pointsOf_66 (by decide) ?_
        exact AW_iret rfl dX12_pointsOf_70 ⟨_, rfl, rfl, h⟩
    · replace h := h.2 q
      refine EW_iconst (pc2 := 56) (v := 0) rfl dX12_pointsOf_55 (by decide) ?_
      refine EW_goto (tgt := 70) dX12_pointsOf_56 (by decide) ?_
      exact AW_iret rfl dX12_pointsOf_70 ⟨_, rfl, rfl, h⟩
  · replace h := h.2 q
    refine EW_iload (pc2 := 15) rfl dX12_pointsOf_13 4 rfl ?_
    refine EW_iload_n (pc2 := 16) rfl dX12_pointsOf_15 2 rfl ?_
    refine EW_iload (pc2 := 18) rfl dX12_pointsOf_16 5 rfl ?_
    refine EW_ishr (pc2 := 19) rfl dX12_pointsOf_18 ?_
    refine EW_iconst (pc2 := 20) (v := 1) rfl dX12_pointsOf_19 (by decide) ?_
    refine EW_iand (pc2 := 21) rfl dX12_pointsOf_20 ?_
    refine EW_iconst (pc2 := 22) (v := 1) rfl dX12_pointsOf_21 (by decide) ?_
    refine EW_icmp_ne (tgt := 40) (pc2 := 25) rfl dX12_pointsOf_22 (by decide) (fun q => ?_) (fun q => ?_)
    · replace h := h.1 q
      refine EW_ls [0, 1, 2, 3, 5] rfl ?_
      exact sX12_pointsOf_40 v1 v2 v3 v5 v4 x K L6 d bc bs hdp hL6 h
    · replace h := h.2 q
      refine EW_aload_n (pc2 := 26) rfl dX12_pointsOf_25 0 rfl ?_
      refine EW_iload (pc2 := 28) rfl dX12_pointsOf_26 5 rfl ?_
      refine EW_iload_n (pc2 := 29) rfl dX12_pointsOf_28 1 rfl ?_
      refine AW_invV (M' := MX12_walkOf) [.int v5, .int v1] (rest := [.int v4]) mlRX12_328 okX12_walkOf (pc2 := 32) rfl dX12_pointsOf_29 rfl rfl (Nat.le_of_ble_eq_true rfl) (Nat.le_of_ble_eq_true rfl) (d' := 0) (by omega) q246 ⟨by decide, rfl⟩ (EW_mono (fun _ _ hr => ?_) (sX12_walkOf v5 v1  x _ _ 0 0 (Nat.le_refl _) h))
      obtain ⟨r1, rfl, rfl, h⟩ := hr
      refine EW_iload_n (pc2 := 33) rfl dX12_pointsOf_32 3 rfl ?_
      refine EW_icmp_gt (tgt := 40) (pc2 := 36) rfl dX12_pointsOf_33 (by decide) (fun q => ?_) (fun q => ?_)
      · replace h := h.1 q
        refine EW_ls [0, 1, 2, 3, 5] rfl ?_
        exact sX12_pointsOf_40 v1 v2 v3 v5 v4 x K L6 d bc bs hdp hL6 h
      · replace h := h.2 q
        refine EW_iconst (pc2 := 37) (v := 1) rfl dX12_pointsOf_36 (by decide) ?_
        refine EW_goto (tgt := 41) dX12_pointsOf_37 (by decide) ?_
        refine EW_ls [0, 1, 2, 3, 5] rfl ?_
        exact sX12_pointsOf_41 v1 v2 v3 v5 v4 1 x K L6 d bc bs hdp hL6 h
set_option maxHeartbeats 4000000 in
set_option maxRecDepth 100000 in
theorem sX12_pointsOf (v1 : Int32) (v2 : Int32) (v3 : Int32)  (x : ab_X) (K : Int32 → Prop) (d bc bs : Nat) (hdp : 1 ≤ d) (h : wX12_pointsOf v1 v2 v3 x K) : EW MX12_pointsOf 0 [(0, .ref 246), (1, .int v1), (2, .int v2), (3, .int v3)] [] (aS x) d bc bs (liP x K) := by
  unfold wX12_pointsOf at h
  refine EW_iconst (pc2 := 1) (v := 0) rfl dX12_pointsOf_0 (by decide) ?_
  refine EW_istore (pc2 := 3) rfl dX12_pointsOf_1 (by decide) [1, 2, 3, 4, 0] [(0, .ref 246), (1, .int v1), (2, .int v2), (3, .int v3), (4, .int 0)] rfl ?_
  refine EW_iconst (pc2 := 4) (v := 0) rfl dX12_pointsOf_3 (by decide) ?_
  refine EW_istore (pc2 := 6) rfl dX12_pointsOf_4 (by decide) [1, 2, 3, 4, 5, 0] [(0, .ref 246), (1, .int v1), (2, .int v2), (3, .int v3), (4, .int 0), (5, .int 0)] rfl ?_
  exact sX12_pointsOf_6 v1 v2 v3 0 0 x K d bc bs hdp h
theorem gfRX12_639 : ab_L RX12 639 12 109 := ⟨by decide, by decide, ab_in 1958 (by decide +kernel) (by decide +kernel)⟩
theorem gfRX12_642 : ab_L RX12 642 12 110 := ⟨by decide, by decide, ab_in 1959 (by decide +kernel) (by decide +kernel)⟩
theorem gfRX12_268 : ab_L RX12 268 12 111 := ⟨by decide, by decide, ab_in 1960 (by decide +kernel) (by decide +kernel)⟩
theorem mlRX12_636 : Cond.methodLink RX12 636 yX12_pointsOf ∈ ab_G ∧ Cond.instanceMethod yX12_pointsOf ∈ ab_G ∧ Cond.selects RX12 yX12_pointsOf yX12_pointsOf ∈ ab_G := ⟨ab_in 2687 (by decide +kernel) (by decide +kernel), ab_in 2689 (by decide +kernel) (by decide +kernel), ab_in 81 (by decide +kernel) (by decide +kernel)⟩
theorem mlRX12_633 : Cond.methodLink RX12 633 yX12_plans ∈ ab_G ∧ Cond.instanceMethod yX12_plans ∈ ab_G ∧ Cond.selects RX12 yX12_plans yX12_plans ∈ ab_G := ⟨ab_in 2683 (by decide +kernel) (by decide +kernel), ab_in 2685 (by decide +kernel) (by decide +kernel), ab_in 80 (by decide +kernel) (by decide +kernel)⟩
abbrev MX12_plans : ab_M := (yX12_plans, cX12_plans, 7, none)
theorem dX12_plans_0 : decode cX12_plans 0 = .ok (.iload_n 3, 1) := by decide +kernel
theorem dX12_plans_1 : decode cX12_plans 1 = .ok (.ifCond .le 39, 3) := by decide +kernel
theorem dX12_plans_4 : decode cX12_plans 4 = .ok (.iload_n 2, 1) := by decide +kernel
theorem dX12_plans_5 : decode cX12_plans 5 = .ok (.istore 5, 2) := by decide +kernel
theorem dX12_plans_7 : decode cX12_plans 7 = .ok (.iload 5, 2) := by decide +kernel
theorem dX12_plans_9 : decode cX12_plans 9 = .ok (.bipush 20, 2) := by decide +kernel
theorem dX12_plans_11 : decode cX12_plans 11 = .ok (.if_icmp .ge 28, 3) := by decide +kernel
theorem dX12_plans_14 : decode cX12_plans 14 = .ok (.aload_n 0, 1) := by decide +kernel
theorem dX12_plans_15 : decode cX12_plans 15 = .ok (.iload_n 1, 1) := by decide +kernel
theorem dX12_plans_16 : decode cX12_plans 16 = .ok (.iconst 1, 1) := by decide +kernel
theorem dX12_plans_17 : decode cX12_plans 17 = .ok (.iload 5, 2) := by decide +kernel
theorem dX12_plans_19 : decode cX12_plans 19 = .ok (.ishl, 1) := by decide +kernel
theorem dX12_plans_20 : decode cX12_plans 20 = .ok (.ior, 1) := by decide +kernel
theorem dX12_plans_21 : decode cX12_plans 21 = .ok (.iload 5, 2) := by decide +kernel
theorem dX12_plans_23 : decode cX12_plans 23 = .ok (.iconst 1, 1) := by decide +kernel
theorem dX12_plans_24 : decode cX12_plans 24 = .ok (.iadd, 1) := by decide +kernel
theorem dX12_plans_25 : decode cX12_plans 25 = .ok (.iload_n 3, 1) := by decide +kernel
theorem dX12_plans_26 : decode cX12_plans 26 = .ok (.iconst 1, 1) := by decide +kernel
theorem dX12_plans_27 : decode cX12_plans 27 = .ok (.isub, 1) := by decide +kernel
theorem dX12_plans_28 : decode cX12_plans 28 = .ok (.iload 4, 2) := by decide +kernel
theorem dX12_plans_30 : decode cX12_plans 30 = .ok (.invokevirtual 633, 3) := by decide +kernel
theorem dX12_plans_33 : decode cX12_plans 33 = .ok (.iinc 5 1, 3) := by decide +kernel
theorem dX12_plans_36 : decode cX12_plans 36 = .ok (.goto (-29), 3) := by decide +kernel
theorem dX12_plans_39 : decode cX12_plans 39 = .ok (.return_, 1) := by decide +kernel
theorem dX12_plans_40 : decode cX12_plans 40 = .ok (.iconst 0, 1) := by decide +kernel
theorem dX12_plans_41 : decode cX12_plans 41 = .ok (.istore 5, 2) := by decide +kernel
theorem dX12_plans_43 : decode cX12_plans 43 = .ok (.iconst 0, 1) := by decide +kernel
theorem dX12_plans_44 : decode cX12_plans 44 = .ok (.istore 6, 2) := by decide +kernel
theorem dX12_plans_46 : decode cX12_plans 46 = .ok (.iload 6, 2) := by decide +kernel
theorem dX12_plans_48 : decode cX12_plans 48 = .ok (.bipush 20, 2) := by decide +kernel
theorem dX12_plans_50 : decode cX12_plans 50 = .ok (.if_icmp .ge 45, 3) := by decide +kernel
theorem dX12_plans_53 : decode cX12_plans 53 = .ok (.iload 5, 2) := by decide +kernel
theorem dX12_plans_55 : decode cX12_plans 55 = .ok (.aload_n 0, 1) := by decide +kernel
theorem dX12_plans_56 : decode cX12_plans 56 = .ok (.getfield 268, 3) := by decide +kernel
theorem dX12_plans_59 : decode cX12_plans 59 = .ok (.iload 6, 2) := by decide +kernel
theorem dX12_plans_61 : decode cX12_plans 61 = .ok (.iaload, 1) := by decide +kernel
theorem dX12_plans_62 : decode cX12_plans 62 = .ok (.ifCond .ne 7, 3) := by decide +kernel
theorem dX12_plans_65 : decode cX12_plans 65 = .ok (.iconst 0, 1) := by decide +kernel
theorem dX12_plans_66 : decode cX12_plans 66 = .ok (.goto 20, 3) := by decide +kernel
theorem dX12_plans_69 : decode cX12_plans 69 = .ok (.aload_n 0, 1) := by decide +kernel
theorem dX12_plans_70 : decode cX12_plans 70 = .ok (.getfield 268, 3) := by decide +kernel
theorem dX12_plans_73 : decode cX12_plans 73 = .ok (.iload 6, 2) := by decide +kernel
theorem dX12_plans_75 : decode cX12_plans 75 = .ok (.iaload, 1) := by decide +kernel
theorem dX12_plans_76 : decode cX12_plans 76 = .ok (.aload_n 0, 1) := by decide +kernel
theorem dX12_plans_77 : decode cX12_plans 77 = .ok (.iload 6, 2) := by decide +kernel
theorem dX12_plans_79 : decode cX12_plans 79 = .ok (.iload_n 1, 1) := by decide +kernel
theorem dX12_plans_80 : decode cX12_plans 80 = .ok (.iload 4, 2) := by decide +kernel
theorem dX12_plans_82 : decode cX12_plans 82 = .ok (.invokevirtual 636, 3) := by decide +kernel
theorem dX12_plans_85 : decode cX12_plans 85 = .ok (.imul, 1) := by decide +kernel
theorem dX12_plans_86 : decode cX12_plans 86 = .ok (.iadd, 1) := by decide +kernel
theorem dX12_plans_87 : decode cX12_plans 87 = .ok (.istore 5, 2) := by decide +kernel
theorem dX12_plans_89 : decode cX12_plans 89 = .ok (.iinc 6 1, 3) := by decide +kernel
theorem dX12_plans_92 : decode cX12_plans 92 = .ok (.goto (-46), 3) := by decide +kernel
theorem dX12_plans_95 : decode cX12_plans 95 = .ok (.iload 5, 2) := by decide +kernel
theorem dX12_plans_97 : decode cX12_plans 97 = .ok (.aload_n 0, 1) := by decide +kernel
theorem dX12_plans_98 : decode cX12_plans 98 = .ok (.getfield 639, 3) := by decide +kernel
theorem dX12_plans_101 : decode cX12_plans 101 = .ok (.if_icmp .gt 4, 3) := by decide +kernel
theorem dX12_plans_104 : decode cX12_plans 104 = .ok (.return_, 1) := by decide +kernel
theorem dX12_plans_105 : decode cX12_plans 105 = .ok (.aload_n 0, 1) := by decide +kernel
theorem dX12_plans_106 : decode cX12_plans 106 = .ok (.iload 5, 2) := by decide +kernel
theorem dX12_plans_108 : decode cX12_plans 108 = .ok (.putfield 639, 3) := by decide +kernel
theorem dX12_plans_111 : decode cX12_plans 111 = .ok (.aload_n 0, 1) := by decide +kernel
theorem dX12_plans_112 : decode cX12_plans 112 = .ok (.iload_n 1, 1) := by decide +kernel
theorem dX12_plans_113 : decode cX12_plans 113 = .ok (.putfield 642, 3) := by decide +kernel
theorem dX12_plans_116 : decode cX12_plans 116 = .ok (.return_, 1) := by decide +kernel
theorem okX12_plans : ab_okM MX12_plans 4 := ⟨by decide, ⟨by decide, by decide⟩, ab_in 2686 (by decide +kernel) (by decide +kernel), ab_in 99 (by decide +kernel) (by decide +kernel), by decide +kernel, by decide⟩
set_option maxHeartbeats 4000000 in
set_option maxRecDepth 100000 in
theorem sX12_plans_86 (RX12_plans : Int32 → Int32 → Int32 → Int32 → ab_X → (ab_X → Prop) → Prop) (v1 : Int32) (v4 : Int32) (v6 : Int32) (s0 : Int32) (s1 : Int32)  (x : ab_X) (K : ab_X → Prop) (L46 : Int32 → Int32 → Prop) (d bc bs : Nat) (hdp : 2 ≤ d) (dr : Nat) (hRX12_plans : ∀ (v1 : Int32) (v2 : Int32) (v3 : Int32) (v4 : Int32)  (x : ab_X) (K : ab_X → Prop), RX12_plans v1 v2 v3 v4 x K → EW MX12_plans 0 [(0, .ref 246), (1, .int v1), (2, .int v2), (3, .int v3), (4, .int v4)] [] (aS x) dr 0 0 (liV K)) (hdr : dr + 1 ≤ d) (hL46 : ∀ (v5 : Int32) (v6 : Int32), L46 v5 v6 → EW MX12_plans 46 [(0, .ref 246), (1, .int v1), (4, .int v4), (5, .int v5), (6, .int v6)] [] (aS x) d bc bs (liV K)) (h : wX12_plans_86 RX12_plans v1 v4 v6 s0 s1 x K L46) : EW MX12_plans 86 [(0, .ref 246), (1, .int v1), (4, .int v4), (6, .int v6)] [.int s1, .int s0] (aS x) d bc bs (liV K) := by
  unfold wX12_plans_86 at h
  refine EW_iadd (pc2 := 87) rfl dX12_plans_86 ?_
  refine EW_istore (pc2 := 89) rfl dX12_plans_87 (by decide) [1, 2, 3, 0, 4] [(0, .ref 246), (1, .int v1), (4, .int v4), (5, .int (s0 + s1)), (6, .int v6)] rfl ?_
  refine EW_iinc (v6 + 1) (pc2 := 92) rfl dX12_plans_89 4 rfl rfl (by decide) [1, 2, 3, 4, 0] [(0, .ref 246), (1, .int v1), (4, .int v4), (5, .int (s0 + s1)), (6, .int (v6 + 1))] rfl ?_
  refine EW_goto (tgt := 46) dX12_plans_92 (by decide) ?_
  exact hL46 (s0 + s1) (v6 + 1) h
set_option maxHeartbeats 4000000 in
set_option maxRecDepth 100000 in
theorem sX12_plans_46 (RX12_plans : Int32 → Int32 → Int32 → Int32 → ab_X → (ab_X → Prop) → Prop) (v1 : Int32) (v4 : Int32) (v5 : Int32) (v6 : Int32)  (x : ab_X) (K : ab_X → Prop)  (d bc bs : Nat) (hdp : 2 ≤ d) (dr : Nat) (hRX12_plans : ∀ (v1 : Int32) (v2 : Int32) (v3 : Int32) (v4 : Int32)  (x : ab_X) (K : ab_X → Prop), RX12_plans v1 v2 v3 v4 x K → EW MX12_plans 0 [(0, .ref 246), (1, .int v1), (2, .int v2), (3, .int v3), (4, .int v4)] [] (aS x) dr 0 0 (liV K)) (hdr : dr + 1 ≤ d)  (h : Lp2 (lX12_plans_46 RX12_plans v1 v4 x K ) v5 v6) : EW MX12_plans 46 [(0, .ref 246), (1, .int v1), (4, .int v4), (5, .int v5), (6, .int v6)] [] (aS x) d bc bs (liV K) := by
  refine Lp2.use (P := fun v5 v6 => EW MX12_plans 46 [(0, .ref 246), (1, .int v1), (4, .int v4), (5, .int v5), (6, .int v6)] [] (aS x) d bc bs (liV K)) (fun L46 v5 v6 hL46 h => ?_) v5 v6 h
  unfold lX12_plans_46 at h
  refine EW_iload (pc2 := 48) rfl dX12_plans_46 4 rfl ?_
  refine EW_bipush (pc2 := 50) (v := 20) rfl dX12_plans_48 (by decide) ?_
  refine EW_icmp_ge (tgt := 95) (pc2 := 53) rfl dX12_plans_50 (by decide) (fun q => ?_) (fun q => ?_)
  · replace h := h.1 q
    refine EW_iload (pc2 := 97) rfl dX12_plans_95 3 rfl ?_
    refine EW_aload_n (pc2 := 98) rfl dX12_plans_97 0 rfl ?_
    refine AW_geti ⟨gfRX12_639, rfl⟩ (pc2 := 101) rfl dX12_plans_98 q246 ?_
    refine EW_icmp_gt (tgt := 105) (pc2 := 104) rfl dX12_plans_101 (by decide) (fun q => ?_) (fun q => ?_)
    · replace h := h.1 q
      refine EW_aload_n (pc2 := 106) rfl dX12_plans_105 0 rfl ?_
      refine EW_iload (pc2 := 108) rfl dX12_plans_106 3 rfl ?_
      refine AW_puti ⟨gfRX12_639, rfl, rfl⟩ (pc2 := 111) rfl dX12_plans_108 q246 ?_
      refine EW_aload_n (pc2 := 112) rfl dX12_plans_111 0 rfl ?_
      refine EW_iload_n (pc2 := 113) rfl dX12_plans_112 1 rfl ?_
      refine AW_puti ⟨gfRX12_642, rfl, rfl⟩ (pc2 := 116) rfl dX12_plans_113 q246 ?_
      exact EW_vret rfl dX12_plans_116 ⟨_, rfl, rfl, h⟩
    · replace h := h.2 q
      exact EW_vret rfl dX12_plans_104 ⟨_, rfl, rfl, h⟩
  · replace h := h.2 q
    refine EW_iload (pc2 := 55) rfl dX12_plans_53 3 rfl ?_
    refine EW_aload_n (pc2 := 56) rfl dX12_plans_55 0 rfl ?_
    refine AW_getr (r := 328) ⟨gfRX12_268, rfl⟩ (pc2 := 59) rfl dX12_plans_56 q246 rfl ?_
    refine EW_iload (pc2 := 61) rfl dX12_plans_59 4 rfl ?_
    obtain ⟨b1, h⟩ := h
    refine AW_iald (pc2 := 62) rfl dX12_plans_61 q328 b1 ?_
    refine EW_if_ne (tgt := 69) (pc2 := 65) rfl dX12_plans_62 (by decide) (fun q => ?_) (fun q => ?_)
    · replace h := h.1 q
      refine EW_aload_n (pc2 := 70) rfl dX12_plans_69 0 rfl ?_
      refine AW_getr (r := 328) ⟨gfRX12_268, rfl⟩ (pc2 := 73) rfl dX12_plans_70 q246 rfl ?_
      refine EW_iload (pc2 := 75) rfl dX12_plans_73 4 rfl ?_
      obtain ⟨b2, h⟩ := h
      refine AW_iald (pc2 := 76) rfl dX12_plans_75 q328 b2 ?_
      refine EW_aload_n (pc2 := 77) rfl dX12_plans_76 0 rfl ?_
      refine EW_iload (pc2 := 79) rfl dX12_plans_77 4 rfl ?_
      refine EW_iload_n (pc2 := 80) rfl dX12_plans_79 1 rfl ?_
      refine EW_iload (pc2 := 82) rfl dX12_plans_80 2 rfl ?_
      refine AW_invV (M' := MX12_pointsOf) [.int v6, .int v1, .int v4] (rest := [.int (x.1 328 (Int32.toNatClampNeg v6)), .int v5]) mlRX12_636 okX12_pointsOf (pc2 := 85) rfl dX12_plans_82 rfl rfl (Nat.le_of_ble_eq_true rfl) (Nat.le_of_ble_eq_true rfl) (d' := 1) (by omega) q246 ⟨by decide, rfl⟩ (EW_mono (fun _ _ hr => ?_) (sX12_pointsOf v6 v1 v4  x _ _ 0 0 (Nat.le_refl _) h))
      obtain ⟨r3, rfl, rfl, h⟩ := hr
      refine EW_imul (pc2 := 86) rfl dX12_plans_85 ?_
      refine EW_ls [0, 1, 2, 4] rfl ?_
      exact sX12_plans_86 RX12_plans v1 v4 v6 v5 ((x.1 328 (Int32.toNatClampNeg v6)) * r3) x K L46 d bc bs hdp dr hRX12_plans hdr hL46 h
    · replace h := h.2 q
      refine EW_iconst (pc2 := 66) (v := 0) rfl dX12_plans_65 (by decide) ?_
      refine EW_goto (tgt := 86) dX12_plans_66 (by decide) ?_
      refine EW_ls [0, 1, 2, 4] rfl ?_
      exact sX12_plans_86 RX12_plans v1 v4 v6 v5 0 x K L46 d bc bs hdp dr hRX12_plans hdr hL46 h
set_option maxHeartbeats 4000000 in
set_option maxRecDepth 100000 in
theorem sX12_plans_7 (RX12_plans : Int32 → Int32 → Int32 → Int32 → ab_X → (ab_X → Prop) → Prop) (v1 : Int32) (v3 : Int32) (v4 : Int32) (v5 : Int32)  (x : ab_X) (K : ab_X → Prop)  (d bc bs : Nat) (hdp : 2 ≤ d) (dr : Nat) (hRX12_plans : ∀ (v1 : Int32) (v2 : Int32) (v3 : Int32) (v4 : Int32)  (x : ab_X) (K : ab_X → Prop), RX12_plans v1 v2 v3 v4 x K → EW MX12_plans 0 [(0, .ref 246), (1, .int v1), (2, .int v2), (3, .int v3), (4, .int v4)] [] (aS x) dr 0 0 (liV K)) (hdr : dr + 1 ≤ d)  (h : Lp2 (lX12_plans_7 RX12_plans v1 v3 v4 K ) v5 x) : EW MX12_plans 7 [(0, .ref 246), (1, .int v1), (3, .int v3), (4, .int v4), (5, .int v5)] [] (aS x) d bc bs (liV K) := by
  refine Lp2.use (P := fun v5 x => EW MX12_plans 7 [(0, .ref 246), (1, .int v1), (3, .int v3), (4, .int v4), (5, .int v5)] [] (aS x) d bc bs (liV K)) (fun L7 v5 x hL7 h => ?_) v5 x h
  unfold lX12_plans_7 at h
  refine EW_iload (pc2 := 9) rfl dX12_plans_7 4 rfl ?_
  refine EW_bipush (pc2 := 11) (v := 20) rfl dX12_plans_9 (by decide) ?_
  refine EW_icmp_ge (tgt := 39) (pc2 := 14) rfl dX12_plans_11 (by decide) (fun q => ?_) (fun q => ?_)
  · replace h := h.1 q
    exact EW_vret rfl dX12_plans_39 ⟨_, rfl, rfl, h⟩
  · replace h := h.2 q
    refine EW_aload_n (pc2 := 15) rfl dX12_plans_14 0 rfl ?_
    refine EW_iload_n (pc2 := 16) rfl dX12_plans_15 1 rfl ?_
    refine EW_iconst (pc2 := 17) (v := 1) rfl dX12_plans_16 (by decide) ?_
    refine EW_iload (pc2 := 19) rfl dX12_plans_17 4 rfl ?_
    refine EW_ishl (pc2 := 20) rfl dX12_plans_19 ?_
    refine EW_ior (pc2 := 21) rfl dX12_plans_20 ?_
    refine EW_iload (pc2 := 23) rfl dX12_plans_21 4 rfl ?_
    refine EW_iconst (pc2 := 24) (v := 1) rfl dX12_plans_23 (by decide) ?_
    refine EW_iadd (pc2 := 25) rfl dX12_plans_24 ?_
    refine EW_iload_n (pc2 := 26) rfl dX12_plans_25 2 rfl ?_
    refine EW_iconst (pc2 := 27) (v := 1) rfl dX12_plans_26 (by decide) ?_
    refine EW_isub (pc2 := 28) rfl dX12_plans_27 ?_
    refine EW_iload (pc2 := 30) rfl dX12_plans_28 3 rfl ?_
    refine AW_invV (M' := MX12_plans) [.int (v1 ||| (1 <<< (v5 &&& 31))), .int (v5 + 1), .int (v3 - 1), .int v4] (rest := []) mlRX12_633 okX12_plans (pc2 := 33) rfl dX12_plans_30 rfl rfl (Nat.le_of_ble_eq_true rfl) (Nat.le_of_ble_eq_true rfl) (d' := dr) (by omega) q246 ⟨by decide, rfl⟩ (EW_mono (fun _ _ hr => ?_) (hRX12_plans (v1 ||| (1 <<< (v5 &&& 31))) (v5 + 1) (v3 - 1) v4  x _  h))
    obtain ⟨x4, rfl, rfl, h⟩ := hr
    refine EW_iinc (v5 + 1) (pc2 := 36) rfl dX12_plans_33 4 rfl rfl (by decide) [1, 2, 3, 4, 0] [(0, .ref 246), (1, .int v1), (3, .int v3), (4, .int v4), (5, .int (v5 + 1))] rfl ?_
    refine EW_goto (tgt := 7) dX12_plans_36 (by decide) ?_
    exact hL7 (v5 + 1) x4 h
set_option maxHeartbeats 4000000 in
set_option maxRecDepth 100000 in
theorem bsX12_plans (RX12_plans : Int32 → Int32 → Int32 → Int32 → ab_X → (ab_X → Prop) → Prop) (v1 : Int32) (v2 : Int32) (v3 : Int32) (v4 : Int32)  (x : ab_X) (K : ab_X → Prop) (d bc bs : Nat) (hdp : 2 ≤ d) (dr : Nat) (hRX12_plans : ∀ (v1 : Int32) (v2 : Int32) (v3 : Int32) (v4 : Int32)  (x : ab_X) (K : ab_X → Prop), RX12_plans v1 v2 v3 v4 x K → EW MX12_plans 0 [(0, .ref 246), (1, .int v1), (2, .int v2), (3, .int v3), (4, .int v4)] [] (aS x) dr 0 0 (liV K)) (hdr : dr + 1 ≤ d) (h : bX12_plans RX12_plans v1 v2 v3 v4 x K) : EW MX12_plans 0 [(0, .ref 246), (1, .int v1), (2, .int v2), (3, .int v3), (4, .int v4)] [] (aS x) d bc bs (liV K) := by
  unfold bX12_plans at h
  refine EW_iload_n (pc2 := 1) rfl dX12_plans_0 3 rfl ?_
  refine EW_if_le (tgt := 40) (pc2 := 4) rfl dX12_plans_1 (by decide) (fun q => ?_) (fun q => ?_)
  · replace h := h.1 q
    refine EW_iconst (pc2 := 41) (v := 0) rfl dX12_plans_40 (by decide) ?_
    refine EW_istore (pc2 := 43) rfl dX12_plans_41 (by decide) [1, 2, 3, 4, 5, 0] [(0, .ref 246), (1, .int v1), (2, .int v2), (3, .int v3), (4, .int v4), (5, .int 0)] rfl ?_
    refine EW_iconst (pc2 := 44) (v := 0) rfl dX12_plans_43 (by decide) ?_
    refine EW_istore (pc2 := 46) rfl dX12_plans_44 (by decide) [1, 2, 3, 4, 5, 6, 0] [(0, .ref 246), (1, .int v1), (2, .int v2), (3, .int v3), (4, .int v4), (5, .int 0), (6, .int 0)] rfl ?_
    refine EW_ls [0, 1, 4, 5, 6] rfl ?_
    exact sX12_plans_46 RX12_plans v1 v4 0 0 x K d bc bs hdp dr hRX12_plans hdr h
  · replace h := h.2 q
    refine EW_iload_n (pc2 := 5) rfl dX12_plans_4 2 rfl ?_
    refine EW_istore (pc2 := 7) rfl dX12_plans_5 (by decide) [1, 2, 3, 4, 5, 0] [(0, .ref 246), (1, .int v1), (2, .int v2), (3, .int v3), (4, .int v4), (5, .int v2)] rfl ?_
    refine EW_ls [0, 1, 3, 4, 5] rfl ?_
    exact sX12_plans_7 RX12_plans v1 v3 v4 v2 x K d bc bs hdp dr hRX12_plans hdr h
set_option maxHeartbeats 4000000 in
theorem famX12_plansS : ∀ n, (∀ (v1 : Int32) (v2 : Int32) (v3 : Int32) (v4 : Int32)  (x : ab_X) (K : ab_X → Prop), (famX12_plans n) v1 v2 v3 v4 x K → EW MX12_plans 0 [(0, .ref 246), (1, .int v1), (2, .int v2), (3, .int v3), (4, .int v4)] [] (aS x) (2 + n) 0 0 (liV K)) := by
  intro n
  induction n with
  | zero => exact fun v1 v2 v3 v4  x K h => False.elim h
  | succ n ih =>
    have i0 := ih
    exact fun v1 v2 v3 v4  x K h => bsX12_plans _ v1 v2 v3 v4  x K (2 + (n + 1)) 0 0 (by omega) (2 + n) i0 (by omega) h
theorem sX12_plans (v1 : Int32) (v2 : Int32) (v3 : Int32) (v4 : Int32)  (x : ab_X) (K : ab_X → Prop) (d bc bs : Nat) (hdp : 103 ≤ d) (h : wX12_plans v1 v2 v3 v4 x K) : EW MX12_plans 0 [(0, .ref 246), (1, .int v1), (2, .int v2), (3, .int v3), (4, .int v4)] [] (aS x) d bc bs (liV K) := by
  obtain ⟨n, hn, h⟩ := h
  cases n with
  | zero => exact False.elim h
  | succ n =>
    have i0 := famX12_plansS n
    exact bsX12_plans _ v1 v2 v3 v4  x K d bc bs (by omega) (2 + n) i0 (by omega) h
abbrev MX12_findPlan : ab_M := (yX12_findPlan, cX12_findPlan, 4, (some .boolean))
theorem dX12_findPlan_0 : decode cX12_findPlan 0 = .ok (.aload_n 0, 1) := by decide +kernel
theorem dX12_findPlan_1 : decode cX12_findPlan 1 = .ok (.iconst 0, 1) := by decide +kernel
theorem dX12_findPlan_2 : decode cX12_findPlan 2 = .ok (.putfield 297, 3) := by decide +kernel
theorem dX12_findPlan_5 : decode cX12_findPlan 5 = .ok (.iload_n 1, 1) := by decide +kernel
theorem dX12_findPlan_6 : decode cX12_findPlan 6 = .ok (.iconst 1, 1) := by decide +kernel
theorem dX12_findPlan_7 : decode cX12_findPlan 7 = .ok (.iconst 4, 1) := by decide +kernel
theorem dX12_findPlan_8 : decode cX12_findPlan 8 = .ok (.invokestatic 307, 3) := by decide +kernel
theorem dX12_findPlan_11 : decode cX12_findPlan 11 = .ok (.ifCond .eq 13, 3) := by decide +kernel
theorem dX12_findPlan_14 : decode cX12_findPlan 14 = .ok (.iload_n 2, 1) := by decide +kernel
theorem dX12_findPlan_15 : decode cX12_findPlan 15 = .ok (.iconst 1, 1) := by decide +kernel
theorem dX12_findPlan_16 : decode cX12_findPlan 16 = .ok (.bipush 100, 2) := by decide +kernel
theorem dX12_findPlan_18 : decode cX12_findPlan 18 = .ok (.invokestatic 307, 3) := by decide +kernel
theorem dX12_findPlan_21 : decode cX12_findPlan 21 = .ok (.ifCond .ne 5, 3) := by decide +kernel
theorem dX12_findPlan_24 : decode cX12_findPlan 24 = .ok (.iconst 0, 1) := by decide +kernel
theorem dX12_findPlan_25 : decode cX12_findPlan 25 = .ok (.ireturn, 1) := by decide +kernel
theorem dX12_findPlan_26 : decode cX12_findPlan 26 = .ok (.iconst 0, 1) := by decide +kernel
theorem dX12_findPlan_27 : decode cX12_findPlan 27 = .ok (.istore_n 3, 1) := by decide +kernel
theorem dX12_findPlan_28 : decode cX12_findPlan 28 = .ok (.iload_n 3, 1) := by decide +kernel
theorem dX12_findPlan_29 : decode cX12_findPlan 29 = .ok (.bipush 20, 2) := by decide +kernel
theorem dX12_findPlan_31 : decode cX12_findPlan 31 = .ok (.if_icmp .ge 16, 3) := by decide +kernel
theorem dX12_findPlan_34 : decode cX12_findPlan 34 = .ok (.aload_n 0, 1) := by decide +kernel
theorem dX12_findPlan_35 : decode cX12_findPlan 35 = .ok (.getfield 268, 3) := by decide +kernel
theorem dX12_findPlan_38 : decode cX12_findPlan 38 = .ok (.iload_n 3, 1) := by decide +kernel
theorem dX12_findPlan_39 : decode cX12_findPlan 39 = .ok (.iconst 0, 1) := by decide +kernel
theorem dX12_findPlan_40 : decode cX12_findPlan 40 = .ok (.iastore, 1) := by decide +kernel
theorem dX12_findPlan_41 : decode cX12_findPlan 41 = .ok (.iinc 3 1, 3) := by decide +kernel
theorem dX12_findPlan_44 : decode cX12_findPlan 44 = .ok (.goto (-16), 3) := by decide +kernel
theorem dX12_findPlan_47 : decode cX12_findPlan 47 = .ok (.iconst 0, 1) := by decide +kernel
theorem dX12_findPlan_48 : decode cX12_findPlan 48 = .ok (.istore_n 3, 1) := by decide +kernel
theorem dX12_findPlan_49 : decode cX12_findPlan 49 = .ok (.iload_n 3, 1) := by decide +kernel
theorem dX12_findPlan_50 : decode cX12_findPlan 50 = .ok (.aload_n 0, 1) := by decide +kernel
theorem dX12_findPlan_51 : decode cX12_findPlan 51 = .ok (.getfield 525, 3) := by decide +kernel
theorem dX12_findPlan_54 : decode cX12_findPlan 54 = .ok (.if_icmp .ge 24, 3) := by decide +kernel
theorem dX12_findPlan_57 : decode cX12_findPlan 57 = .ok (.aload_n 0, 1) := by decide +kernel
theorem dX12_findPlan_58 : decode cX12_findPlan 58 = .ok (.getfield 268, 3) := by decide +kernel
theorem dX12_findPlan_61 : decode cX12_findPlan 61 = .ok (.aload_n 0, 1) := by decide +kernel
theorem dX12_findPlan_62 : decode cX12_findPlan 62 = .ok (.getfield 214, 3) := by decide +kernel
theorem dX12_findPlan_65 : decode cX12_findPlan 65 = .ok (.iload_n 3, 1) := by decide +kernel
theorem dX12_findPlan_66 : decode cX12_findPlan 66 = .ok (.iaload, 1) := by decide +kernel
theorem dX12_findPlan_67 : decode cX12_findPlan 67 = .ok (.dup2, 1) := by decide +kernel
theorem dX12_findPlan_68 : decode cX12_findPlan 68 = .ok (.iaload, 1) := by decide +kernel
theorem dX12_findPlan_69 : decode cX12_findPlan 69 = .ok (.iconst 1, 1) := by decide +kernel
theorem dX12_findPlan_70 : decode cX12_findPlan 70 = .ok (.iadd, 1) := by decide +kernel
theorem dX12_findPlan_71 : decode cX12_findPlan 71 = .ok (.iastore, 1) := by decide +kernel
theorem dX12_findPlan_72 : decode cX12_findPlan 72 = .ok (.iinc 3 1, 3) := by decide +kernel
theorem dX12_findPlan_75 : decode cX12_findPlan 75 = .ok (.goto (-26), 3) := by decide +kernel
theorem dX12_findPlan_78 : decode cX12_findPlan 78 = .ok (.aload_n 0, 1) := by decide +kernel
theorem dX12_findPlan_79 : decode cX12_findPlan 79 = .ok (.iconst (-1), 1) := by decide +kernel
theorem dX12_findPlan_80 : decode cX12_findPlan 80 = .ok (.putfield 639, 3) := by decide +kernel
theorem dX12_findPlan_83 : decode cX12_findPlan 83 = .ok (.aload_n 0, 1) := by decide +kernel
theorem dX12_findPlan_84 : decode cX12_findPlan 84 = .ok (.iconst 0, 1) := by decide +kernel
theorem dX12_findPlan_85 : decode cX12_findPlan 85 = .ok (.iconst 0, 1) := by decide +kernel
theorem dX12_findPlan_86 : decode cX12_findPlan 86 = .ok (.iload_n 1, 1) := by decide +kernel
theorem dX12_findPlan_87 : decode cX12_findPlan 87 = .ok (.iload_n 2, 1) := by decide +kernel
theorem dX12_findPlan_88 : decode cX12_findPlan 88 = .ok (.invokevirtual 633, 3) := by decide +kernel
theorem dX12_findPlan_91 : decode cX12_findPlan 91 = .ok (.iconst 1, 1) := by decide +kernel
theorem dX12_findPlan_92 : decode cX12_findPlan 92 = .ok (.ireturn, 1) := by decide +kernel
theorem okX12_findPlan : ab_okM MX12_findPlan 2 := ⟨by decide, ⟨by decide, by decide⟩, ab_in 2682 (by decide +kernel) (by decide +kernel), ab_in 99 (by decide +kernel) (by decide +kernel), by decide +kernel, by decide⟩
set_option maxHeartbeats 4000000 in
set_option maxRecDepth 100000 in
theorem sX12_findPlan_49 (v1 : Int32) (v2 : Int32) (v3 : Int32)  (x : ab_X) (K : Int32 → ab_X → Prop)  (d bc bs : Nat) (hdp : 104 ≤ d)  (h : Lp2 (lX12_findPlan_49 v1 v2 K ) v3 x) : EW MX12_findPlan 49 [(0, .ref 246), (1, .int v1), (2, .int v2), (3, .int v3)] [] (aS x) d bc bs (liI K) := by
  refine Lp2.use (P := fun v3 x => EW MX12_findPlan 49 [(0, .ref 246), (1, .int v1), (2, .int v2), (3, .int v3)] [] (aS x) d bc bs (liI K)) (fun L49 v3 x hL49 h => ?_) v3 x h
  unfold lX12_findPlan_49 at h
  refine EW_iload_n (pc2 := 50) rfl dX12_findPlan_49 3 rfl ?_
  refine EW_aload_n (pc2 := 51) rfl dX12_findPlan_50 0 rfl ?_
  refine AW_geti ⟨gfRX12_525, rfl⟩ (pc2 := 54) rfl dX12_findPlan_51 q246 ?_
  refine EW_icmp_ge (tgt := 78) (pc2 := 57) rfl dX12_findPlan_54 (by decide) (fun q => ?_) (fun q => ?_)
  · replace h := h.1 q
    refine EW_aload_n (pc2 := 79) rfl dX12_findPlan_78 0 rfl ?_
    refine EW_iconst (pc2 := 80) (v := (-1)) rfl dX12_findPlan_79 (by decide) ?_
    refine AW_puti ⟨gfRX12_639, rfl, rfl⟩ (pc2 := 83) rfl dX12_findPlan_80 q246 ?_
    refine EW_aload_n (pc2 := 84) rfl dX12_findPlan_83 0 rfl ?_
    refine EW_iconst (pc2 := 85) (v := 0) rfl dX12_findPlan_84 (by decide) ?_
    refine EW_iconst (pc2 := 86) (v := 0) rfl dX12_findPlan_85 (by decide) ?_
    refine EW_iload_n (pc2 := 87) rfl dX12_findPlan_86 1 rfl ?_
    refine EW_iload_n (pc2 := 88) rfl dX12_findPlan_87 2 rfl ?_
    refine AW_invV (M' := MX12_plans) [.int 0, .int 0, .int v1, .int v2] (rest := []) mlRX12_633 okX12_plans (pc2 := 91) rfl dX12_findPlan_88 rfl rfl (Nat.le_of_ble_eq_true rfl) (Nat.le_of_ble_eq_true rfl) (d' := 103) (by omega) q246 ⟨by decide, rfl⟩ (EW_mono (fun _ _ hr => ?_) (sX12_plans 0 0 v1 v2  (wr x 246 109 (-1)) _ _ 0 0 (Nat.le_refl _) h))
    obtain ⟨x4, rfl, rfl, h⟩ := hr
    refine EW_iconst (pc2 := 92) (v := 1) rfl dX12_findPlan_91 (by decide) ?_
    exact AW_zret rfl isB1 dX12_findPlan_92 ⟨_, _, rfl, rfl, h⟩
  · replace h := h.2 q
    refine EW_aload_n (pc2 := 58) rfl dX12_findPlan_57 0 rfl ?_
    refine AW_getr (r := 328) ⟨gfRX12_268, rfl⟩ (pc2 := 61) rfl dX12_findPlan_58 q246 rfl ?_
    refine EW_aload_n (pc2 := 62) rfl dX12_findPlan_61 0 rfl ?_
    refine AW_getr (r := 310) ⟨gfRX12_214, rfl⟩ (pc2 := 65) rfl dX12_findPlan_62 q246 rfl ?_
    refine EW_iload_n (pc2 := 66) rfl dX12_findPlan_65 3 rfl ?_
    obtain ⟨b5, h⟩ := h
    refine AW_iald (pc2 := 67) rfl dX12_findPlan_66 q310 b5 ?_
    refine EW_dup2 (pc2 := 68) rfl dX12_findPlan_67 rfl rfl ?_
    obtain ⟨b6, h⟩ := h
    refine AW_iald (pc2 := 69) rfl dX12_findPlan_68 q328 b6 ?_
    refine EW_iconst (pc2 := 70) (v := 1) rfl dX12_findPlan_69 (by decide) ?_
    refine EW_iadd (pc2 := 71) rfl dX12_findPlan_70 ?_
    obtain ⟨b7, h⟩ := h
    refine AW_iast (pc2 := 72) rfl dX12_findPlan_71 q328 b7 ?_
    refine EW_iinc (v3 + 1) (pc2 := 75) rfl dX12_findPlan_72 3 rfl rfl (by decide) [1, 2, 3, 0] [(0, .ref 246), (1, .int v1), (2, .int v2), (3, .int (v3 + 1))] rfl ?_
    refine EW_goto (tgt := 49) dX12_findPlan_75 (by decide) ?_
    exact hL49 (v3 + 1) (wr x 328 (Int32.toNatClampNeg (x.1 310 (Int32.toNatClampNeg v3))) ((x.1 328 (Int32.toNatClampNeg (x.1 310 (Int32.toNatClampNeg v3)))) + 1)) h
set_option maxHeartbeats 4000000 in
set_option maxRecDepth 100000 in
theorem sX12_findPlan_28 (v1 : Int32) (v2 : Int32) (v3 : Int32)  (x : ab_X) (K : Int32 → ab_X → Prop)  (d bc bs : Nat) (hdp : 104 ≤ d)  (h : Lp2 (lX12_findPlan_28 v1 v2 K ) v3 x) : EW MX12_findPlan 28 [(0, .ref 246), (1, .int v1), (2, .int v2), (3, .int v3)] [] (aS x) d bc bs (liI K) := by
  refine Lp2.use (P := fun v3 x => EW MX12_findPlan 28 [(0, .ref 246), (1, .int v1), (2, .int v2), (3, .int v3)] [] (aS x) d bc bs (liI K)) (fun L28 v3 x hL28 h => ?_) v3 x h
  unfold lX12_findPlan_28 at h
  refine EW_iload_n (pc2 := 29) rfl dX12_findPlan_28 3 rfl ?_
  refine EW_bipush (pc2 := 31) (v := 20) rfl dX12_findPlan_29 (by decide) ?_
  refine EW_icmp_ge (tgt := 47) (pc2 := 34) rfl dX12_findPlan_31 (by decide) (fun q => ?_) (fun q => ?_)
  · replace h := h.1 q
    refine EW_iconst (pc2 := 48) (v := 0) rfl dX12_findPlan_47 (by decide) ?_
    refine EW_istore_n (pc2 := 49) rfl dX12_findPlan_48 (by decide) [1, 2, 3, 0] [(0, .ref 246), (1, .int v1), (2, .int v2), (3, .int 0)] rfl ?_
    exact sX12_findPlan_49 v1 v2 0 x K d bc bs hdp h
  · replace h := h.2 q
    refine EW_aload_n (pc2 := 35) rfl dX12_findPlan_34 0 rfl ?_
    refine AW_getr (r := 328) ⟨gfRX12_268, rfl⟩ (pc2 := 38) rfl dX12_findPlan_35 q246 rfl ?_
    refine EW_iload_n (pc2 := 39) rfl dX12_findPlan_38 3 rfl ?_
    refine EW_iconst (pc2 := 40) (v := 0) rfl dX12_findPlan_39 (by decide) ?_
    obtain ⟨b3, h⟩ := h
    refine AW_iast (pc2 := 41) rfl dX12_findPlan_40 q328 b3 ?_
    refine EW_iinc (v3 + 1) (pc2 := 44) rfl dX12_findPlan_41 3 rfl rfl (by decide) [1, 2, 3, 0] [(0, .ref 246), (1, .int v1), (2, .int v2), (3, .int (v3 + 1))] rfl ?_
    refine EW_goto (tgt := 28) dX12_findPlan_44 (by decide) ?_
    exact hL28 (v3 + 1) (wr x 328 (Int32.toNatClampNeg v3) 0) h
set_option maxHeartbeats 4000000 in
set_option maxRecDepth 100000 in
theorem sX12_findPlan (v1 : Int32) (v2 : Int32)  (x : ab_X) (K : Int32 → ab_X → Prop) (d bc bs : Nat) (hdp : 104 ≤ d) (h : wX12_findPlan v1 v2 x K) : EW MX12_findPlan 0 [(0, .ref 246), (1, .int v1), (2, .int v2)] [] (aS x) d bc bs (liI K) := by
  unfold wX12_findPlan at h
  refine EW_aload_n (pc2 := 1) rfl dX12_findPlan_0 0 rfl ?_
  refine EW_iconst (pc2 := 2) (v := 0) rfl dX12_findPlan_1 (by decide) ?_
  refine AW_puti ⟨gfRX12_297, rfl, rfl⟩ (pc2 := 5) rfl dX12_findPlan_2 q246 ?_
  refine EW_iload_n (pc2 := 6) rfl dX12_findPlan_5 1 rfl ?_
  refine EW_iconst (pc2 := 7) (v := 1) rfl dX12_findPlan_6 (by decide) ?_
  refine EW_iconst (pc2 := 8) (v := 4) rfl dX12_findPlan_7 (by decide) ?_
  refine AW_invS (M' := MX12_isIn) [.int v1, .int 1, .int 4] (rest := []) mlRX12_307 okX12_isIn (pc2 := 11) rfl dX12_findPlan_8 rfl rfl (Nat.le_of_ble_eq_true rfl) (Nat.le_of_ble_eq_true rfl) (d' := 0) (by omega) (EW_mono (fun _ _ hr => ?_) (sX12_isIn v1 1 4  (wr x 246 0 0) _ _ 0 0 (Nat.le_refl _) h))
  obtain ⟨r1, rfl, rfl, h⟩ := hr
  refine EW_if_eq (tgt := 24) (pc2 := 14) rfl dX12_findPlan_11 (by decide) (fun q => ?_) (fun q => ?_)
  · replace h := h.1 q
    refine EW_iconst (pc2 := 25) (v := 0) rfl dX12_findPlan_24 (by decide) ?_
    exact AW_zret rfl isB0 dX12_findPlan_25 ⟨_, _, rfl, rfl, h⟩
  · replace h := h.2 q
    refine EW_iload_n (pc2 := 15) rfl dX12_findPlan_14 2 rfl ?_
    refine EW_iconst (pc2 := 16) (v := 1) rfl dX12_findPlan_15 (by decide) ?_
    refine EW_bipush (pc2 := 18) (v := 100) rfl dX12_findPlan_16 (by decide) ?_
    refine AW_invS (M' := MX12_isIn) [.int v2, .int 1, .int 100] (rest := []) mlRX12_307 okX12_isIn (pc2 := 21) rfl dX12_findPlan_18 rfl rfl (Nat.le_of_ble_eq_true rfl) (Nat.le_of_ble_eq_true rfl) (d' := 0) (by omega) (EW_mono (fun _ _ hr => ?_) (sX12_isIn v2 1 100  (wr x 246 0 0) _ _ 0 0 (Nat.le_refl _) h))
    obtain ⟨r2, rfl, rfl, h⟩ := hr
    refine EW_if_ne (tgt := 26) (pc2 := 24) rfl dX12_findPlan_21 (by decide) (fun q => ?_) (fun q => ?_)
    · replace h := h.1 q
      refine EW_iconst (pc2 := 27) (v := 0) rfl dX12_findPlan_26 (by decide) ?_
      refine EW_istore_n (pc2 := 28) rfl dX12_findPlan_27 (by decide) [1, 2, 3, 0] [(0, .ref 246), (1, .int v1), (2, .int v2), (3, .int 0)] rfl ?_
      exact sX12_findPlan_28 v1 v2 0 (wr x 246 0 0) K d bc bs hdp h
    · replace h := h.2 q
      refine EW_iconst (pc2 := 25) (v := 0) rfl dX12_findPlan_24 (by decide) ?_
      exact AW_zret rfl isB0 dX12_findPlan_25 ⟨_, _, rfl, rfl, h⟩
theorem gfRX12_265 : ab_L RX12 265 12 103 := ⟨by decide, by decide, ab_in 1952 (by decide +kernel) (by decide +kernel)⟩
theorem gfRX12_614 : ab_L RX12 614 12 105 := ⟨by decide, by decide, ab_in 1954 (by decide +kernel) (by decide +kernel)⟩
theorem gfRX12_259 : ab_L RX12 259 12 101 := ⟨by decide, by decide, ab_in 1950 (by decide +kernel) (by decide +kernel)⟩
theorem gfRX12_256 : ab_L RX12 256 12 100 := ⟨by decide, by decide, ab_in 1949 (by decide +kernel) (by decide +kernel)⟩
theorem mlRX12_626 : Cond.methodLink RX12 626 yX12_tours ∈ ab_G ∧ Cond.instanceMethod yX12_tours ∈ ab_G ∧ Cond.selects RX12 yX12_tours yX12_tours ∈ ab_G := ⟨ab_in 2667 (by decide +kernel) (by decide +kernel), ab_in 2669 (by decide +kernel) (by decide +kernel), ab_in 78 (by decide +kernel) (by decide +kernel)⟩
theorem gfRX12_262 : ab_L RX12 262 12 102 := ⟨by decide, by decide, ab_in 1951 (by decide +kernel) (by decide +kernel)⟩
theorem gfRX12_617 : ab_L RX12 617 12 108 := ⟨by decide, by decide, ab_in 1957 (by decide +kernel) (by decide +kernel)⟩
theorem gfRX12_620 : ab_L RX12 620 12 106 := ⟨by decide, by decide, ab_in 1955 (by decide +kernel) (by decide +kernel)⟩
theorem gfRX12_623 : ab_L RX12 623 12 107 := ⟨by decide, by decide, ab_in 1956 (by decide +kernel) (by decide +kernel)⟩
theorem gfRX12_611 : ab_L RX12 611 12 104 := ⟨by decide, by decide, ab_in 1953 (by decide +kernel) (by decide +kernel)⟩
abbrev MX12_tours : ab_M := (yX12_tours, cX12_tours, 8, none)
theorem dX12_tours_0 : decode cX12_tours 0 = .ok (.iload_n 3, 1) := by decide +kernel
theorem dX12_tours_1 : decode cX12_tours 1 = .ok (.aload_n 0, 1) := by decide +kernel
theorem dX12_tours_2 : decode cX12_tours 2 = .ok (.iload_n 2, 1) := by decide +kernel
theorem dX12_tours_3 : decode cX12_tours 3 = .ok (.aload_n 0, 1) := by decide +kernel
theorem dX12_tours_4 : decode cX12_tours 4 = .ok (.getfield 611, 3) := by decide +kernel
theorem dX12_tours_7 : decode cX12_tours 7 = .ok (.invokevirtual 328, 3) := by decide +kernel
theorem dX12_tours_10 : decode cX12_tours 10 = .ok (.iadd, 1) := by decide +kernel
theorem dX12_tours_11 : decode cX12_tours 11 = .ok (.istore 5, 2) := by decide +kernel
theorem dX12_tours_13 : decode cX12_tours 13 = .ok (.iload 5, 2) := by decide +kernel
theorem dX12_tours_15 : decode cX12_tours 15 = .ok (.aload_n 0, 1) := by decide +kernel
theorem dX12_tours_16 : decode cX12_tours 16 = .ok (.getfield 614, 3) := by decide +kernel
theorem dX12_tours_19 : decode cX12_tours 19 = .ok (.if_icmp .gt 84, 3) := by decide +kernel
theorem dX12_tours_22 : decode cX12_tours 22 = .ok (.aload_n 0, 1) := by decide +kernel
theorem dX12_tours_23 : decode cX12_tours 23 = .ok (.getfield 617, 3) := by decide +kernel
theorem dX12_tours_26 : decode cX12_tours 26 = .ok (.iconst (-1), 1) := by decide +kernel
theorem dX12_tours_27 : decode cX12_tours 27 = .ok (.if_icmp .eq 30, 3) := by decide +kernel
theorem dX12_tours_30 : decode cX12_tours 30 = .ok (.iload 4, 2) := by decide +kernel
theorem dX12_tours_32 : decode cX12_tours 32 = .ok (.aload_n 0, 1) := by decide +kernel
theorem dX12_tours_33 : decode cX12_tours 33 = .ok (.getfield 620, 3) := by decide +kernel
theorem dX12_tours_36 : decode cX12_tours 36 = .ok (.if_icmp .gt 21, 3) := by decide +kernel
theorem dX12_tours_39 : decode cX12_tours 39 = .ok (.iload 4, 2) := by decide +kernel
theorem dX12_tours_41 : decode cX12_tours 41 = .ok (.aload_n 0, 1) := by decide +kernel
theorem dX12_tours_42 : decode cX12_tours 42 = .ok (.getfield 620, 3) := by decide +kernel
theorem dX12_tours_45 : decode cX12_tours 45 = .ok (.if_icmp .ne 58, 3) := by decide +kernel
theorem dX12_tours_48 : decode cX12_tours 48 = .ok (.iload 5, 2) := by decide +kernel
theorem dX12_tours_50 : decode cX12_tours 50 = .ok (.aload_n 0, 1) := by decide +kernel
theorem dX12_tours_51 : decode cX12_tours 51 = .ok (.getfield 623, 3) := by decide +kernel
theorem dX12_tours_54 : decode cX12_tours 54 = .ok (.if_icmp .ge 49, 3) := by decide +kernel
theorem dX12_tours_57 : decode cX12_tours 57 = .ok (.aload_n 0, 1) := by decide +kernel
theorem dX12_tours_58 : decode cX12_tours 58 = .ok (.iload_n 1, 1) := by decide +kernel
theorem dX12_tours_59 : decode cX12_tours 59 = .ok (.putfield 617, 3) := by decide +kernel
theorem dX12_tours_62 : decode cX12_tours 62 = .ok (.aload_n 0, 1) := by decide +kernel
theorem dX12_tours_63 : decode cX12_tours 63 = .ok (.iload 4, 2) := by decide +kernel
theorem dX12_tours_65 : decode cX12_tours 65 = .ok (.putfield 620, 3) := by decide +kernel
theorem dX12_tours_68 : decode cX12_tours 68 = .ok (.aload_n 0, 1) := by decide +kernel
theorem dX12_tours_69 : decode cX12_tours 69 = .ok (.iload 5, 2) := by decide +kernel
theorem dX12_tours_71 : decode cX12_tours 71 = .ok (.putfield 623, 3) := by decide +kernel
theorem dX12_tours_74 : decode cX12_tours 74 = .ok (.iconst 0, 1) := by decide +kernel
theorem dX12_tours_75 : decode cX12_tours 75 = .ok (.istore 6, 2) := by decide +kernel
theorem dX12_tours_77 : decode cX12_tours 77 = .ok (.iload 6, 2) := by decide +kernel
theorem dX12_tours_79 : decode cX12_tours 79 = .ok (.iload_n 1, 1) := by decide +kernel
theorem dX12_tours_80 : decode cX12_tours 80 = .ok (.if_icmp .ge 23, 3) := by decide +kernel
theorem dX12_tours_83 : decode cX12_tours 83 = .ok (.aload_n 0, 1) := by decide +kernel
theorem dX12_tours_84 : decode cX12_tours 84 = .ok (.getfield 262, 3) := by decide +kernel
theorem dX12_tours_87 : decode cX12_tours 87 = .ok (.iload 6, 2) := by decide +kernel
theorem dX12_tours_89 : decode cX12_tours 89 = .ok (.aload_n 0, 1) := by decide +kernel
theorem dX12_tours_90 : decode cX12_tours 90 = .ok (.getfield 259, 3) := by decide +kernel
theorem dX12_tours_93 : decode cX12_tours 93 = .ok (.iload 6, 2) := by decide +kernel
theorem dX12_tours_95 : decode cX12_tours 95 = .ok (.iaload, 1) := by decide +kernel
theorem dX12_tours_96 : decode cX12_tours 96 = .ok (.iastore, 1) := by decide +kernel
theorem dX12_tours_97 : decode cX12_tours 97 = .ok (.iinc 6 1, 3) := by decide +kernel
theorem dX12_tours_100 : decode cX12_tours 100 = .ok (.goto (-23), 3) := by decide +kernel
theorem dX12_tours_103 : decode cX12_tours 103 = .ok (.iconst 0, 1) := by decide +kernel
theorem dX12_tours_104 : decode cX12_tours 104 = .ok (.istore 6, 2) := by decide +kernel
theorem dX12_tours_106 : decode cX12_tours 106 = .ok (.iload 6, 2) := by decide +kernel
theorem dX12_tours_108 : decode cX12_tours 108 = .ok (.aload_n 0, 1) := by decide +kernel
theorem dX12_tours_109 : decode cX12_tours 109 = .ok (.getfield 331, 3) := by decide +kernel
theorem dX12_tours_112 : decode cX12_tours 112 = .ok (.if_icmp .ge 103, 3) := by decide +kernel
theorem dX12_tours_115 : decode cX12_tours 115 = .ok (.aload_n 0, 1) := by decide +kernel
theorem dX12_tours_116 : decode cX12_tours 116 = .ok (.getfield 265, 3) := by decide +kernel
theorem dX12_tours_119 : decode cX12_tours 119 = .ok (.iload 6, 2) := by decide +kernel
theorem dX12_tours_121 : decode cX12_tours 121 = .ok (.baload, 1) := by decide +kernel
theorem dX12_tours_122 : decode cX12_tours 122 = .ok (.ifCond .ne 6, 3) := by decide +kernel
theorem dX12_tours_125 : decode cX12_tours 125 = .ok (.goto 84, 3) := by decide +kernel
theorem dX12_tours_128 : decode cX12_tours 128 = .ok (.iload_n 3, 1) := by decide +kernel
theorem dX12_tours_129 : decode cX12_tours 129 = .ok (.aload_n 0, 1) := by decide +kernel
theorem dX12_tours_130 : decode cX12_tours 130 = .ok (.iload_n 2, 1) := by decide +kernel
theorem dX12_tours_131 : decode cX12_tours 131 = .ok (.aload_n 0, 1) := by decide +kernel
theorem dX12_tours_132 : decode cX12_tours 132 = .ok (.getfield 32, 3) := by decide +kernel
theorem dX12_tours_135 : decode cX12_tours 135 = .ok (.iload 6, 2) := by decide +kernel
theorem dX12_tours_137 : decode cX12_tours 137 = .ok (.iaload, 1) := by decide +kernel
theorem dX12_tours_138 : decode cX12_tours 138 = .ok (.invokevirtual 328, 3) := by decide +kernel
theorem dX12_tours_141 : decode cX12_tours 141 = .ok (.iadd, 1) := by decide +kernel
theorem dX12_tours_142 : decode cX12_tours 142 = .ok (.bipush 10, 2) := by decide +kernel
theorem dX12_tours_144 : decode cX12_tours 144 = .ok (.iadd, 1) := by decide +kernel
theorem dX12_tours_145 : decode cX12_tours 145 = .ok (.istore 7, 2) := by decide +kernel
theorem dX12_tours_147 : decode cX12_tours 147 = .ok (.iload 7, 2) := by decide +kernel
theorem dX12_tours_149 : decode cX12_tours 149 = .ok (.aload_n 0, 1) := by decide +kernel
theorem dX12_tours_150 : decode cX12_tours 150 = .ok (.getfield 614, 3) := by decide +kernel
theorem dX12_tours_153 : decode cX12_tours 153 = .ok (.if_icmp .le 6, 3) := by decide +kernel
theorem dX12_tours_156 : decode cX12_tours 156 = .ok (.goto 53, 3) := by decide +kernel
theorem dX12_tours_159 : decode cX12_tours 159 = .ok (.aload_n 0, 1) := by decide +kernel
theorem dX12_tours_160 : decode cX12_tours 160 = .ok (.getfield 265, 3) := by decide +kernel
theorem dX12_tours_163 : decode cX12_tours 163 = .ok (.iload 6, 2) := by decide +kernel
theorem dX12_tours_165 : decode cX12_tours 165 = .ok (.iconst 0, 1) := by decide +kernel
theorem dX12_tours_166 : decode cX12_tours 166 = .ok (.bastore, 1) := by decide +kernel
theorem dX12_tours_167 : decode cX12_tours 167 = .ok (.aload_n 0, 1) := by decide +kernel
theorem dX12_tours_168 : decode cX12_tours 168 = .ok (.getfield 259, 3) := by decide +kernel
theorem dX12_tours_171 : decode cX12_tours 171 = .ok (.iload_n 1, 1) := by decide +kernel
theorem dX12_tours_172 : decode cX12_tours 172 = .ok (.iload 6, 2) := by decide +kernel
theorem dX12_tours_174 : decode cX12_tours 174 = .ok (.iastore, 1) := by decide +kernel
theorem dX12_tours_175 : decode cX12_tours 175 = .ok (.aload_n 0, 1) := by decide +kernel
theorem dX12_tours_176 : decode cX12_tours 176 = .ok (.iload_n 1, 1) := by decide +kernel
theorem dX12_tours_177 : decode cX12_tours 177 = .ok (.iconst 1, 1) := by decide +kernel
theorem dX12_tours_178 : decode cX12_tours 178 = .ok (.iadd, 1) := by decide +kernel
theorem dX12_tours_179 : decode cX12_tours 179 = .ok (.aload_n 0, 1) := by decide +kernel
theorem dX12_tours_180 : decode cX12_tours 180 = .ok (.getfield 32, 3) := by decide +kernel
theorem dX12_tours_183 : decode cX12_tours 183 = .ok (.iload 6, 2) := by decide +kernel
theorem dX12_tours_185 : decode cX12_tours 185 = .ok (.iaload, 1) := by decide +kernel
theorem dX12_tours_186 : decode cX12_tours 186 = .ok (.iload 7, 2) := by decide +kernel
theorem dX12_tours_188 : decode cX12_tours 188 = .ok (.iload 4, 2) := by decide +kernel
theorem dX12_tours_190 : decode cX12_tours 190 = .ok (.aload_n 0, 1) := by decide +kernel
theorem dX12_tours_191 : decode cX12_tours 191 = .ok (.getfield 256, 3) := by decide +kernel
theorem dX12_tours_194 : decode cX12_tours 194 = .ok (.iload 6, 2) := by decide +kernel
theorem dX12_tours_196 : decode cX12_tours 196 = .ok (.iaload, 1) := by decide +kernel
theorem dX12_tours_197 : decode cX12_tours 197 = .ok (.iadd, 1) := by decide +kernel
theorem dX12_tours_198 : decode cX12_tours 198 = .ok (.invokevirtual 626, 3) := by decide +kernel
theorem dX12_tours_201 : decode cX12_tours 201 = .ok (.aload_n 0, 1) := by decide +kernel
theorem dX12_tours_202 : decode cX12_tours 202 = .ok (.getfield 265, 3) := by decide +kernel
theorem dX12_tours_205 : decode cX12_tours 205 = .ok (.iload 6, 2) := by decide +kernel
theorem dX12_tours_207 : decode cX12_tours 207 = .ok (.iconst 1, 1) := by decide +kernel
theorem dX12_tours_208 : decode cX12_tours 208 = .ok (.bastore, 1) := by decide +kernel
theorem dX12_tours_209 : decode cX12_tours 209 = .ok (.iinc 6 1, 3) := by decide +kernel
theorem dX12_tours_212 : decode cX12_tours 212 = .ok (.goto (-106), 3) := by decide +kernel
theorem dX12_tours_215 : decode cX12_tours 215 = .ok (.return_, 1) := by decide +kernel
theorem okX12_tours : ab_okM MX12_tours 4 := ⟨by decide, ⟨by decide, by decide⟩, ab_in 2670 (by decide +kernel) (by decide +kernel), ab_in 99 (by decide +kernel) (by decide +kernel), by decide +kernel, by decide⟩
set_option maxHeartbeats 4000000 in
set_option maxRecDepth 100000 in
theorem sX12_tours_106 (RX12_tours : Int32 → Int32 → Int32 → Int32 → ab_X → (ab_X → Prop) → Prop) (v1 : Int32) (v2 : Int32) (v3 : Int32) (v4 : Int32) (v6 : Int32)  (x : ab_X) (K : ab_X → Prop)  (d bc bs : Nat) (hdp : 1 ≤ d) (dr : Nat) (hRX12_tours : ∀ (v1 : Int32) (v2 : Int32) (v3 : Int32) (v4 : Int32)  (x : ab_X) (K : ab_X → Prop), RX12_tours v1 v2 v3 v4 x K → EW MX12_tours 0 [(0, .ref 246), (1, .int v1), (2, .int v2), (3, .int v3), (4, .int v4)] [] (aS x) dr 0 0 (liV K)) (hdr : dr + 1 ≤ d)  (h : Lp2 (lX12_tours_106 RX12_tours v1 v2 v3 v4 K ) v6 x) : EW MX12_tours 106 [(0, .ref 246), (1, .int v1), (2, .int v2), (3, .int v3), (4, .int v4), (6, .int v6)] [] (aS x) d bc bs (liV K) := by
  refine Lp2.use (P := fun v6 x => EW MX12_tours 106 [(0, .ref 246), (1, .int v1), (2, .int v2), (3, .int v3), (4, .int v4), (6, .int v6)] [] (aS x) d bc bs (liV K)) (fun L106 v6 x hL106 h => ?_) v6 x h
  unfold lX12_tours_106 at h
  refine EW_iload (pc2 := 108) rfl dX12_tours_106 5 rfl ?_
  refine EW_aload_n (pc2 := 109) rfl dX12_tours_108 0 rfl ?_
  refine AW_geti ⟨gfRX12_331, rfl⟩ (pc2 := 112) rfl dX12_tours_109 q246 ?_
  refine EW_icmp_ge (tgt := 215) (pc2 := 115) rfl dX12_tours_112 (by decide) (fun q => ?_) (fun q => ?_)
  · replace h := h.1 q
    exact EW_vret rfl dX12_tours_215 ⟨_, rfl, rfl, h⟩
  · replace h := h.2 q
    refine EW_aload_n (pc2 := 116) rfl dX12_tours_115 0 rfl ?_
    refine AW_getr (r := 327) ⟨gfRX12_265, rfl⟩ (pc2 := 119) rfl dX12_tours_116 q246 rfl ?_
    refine EW_iload (pc2 := 121) rfl dX12_tours_119 5 rfl ?_
    obtain ⟨b2, h⟩ := h
    refine AW_zald (pc2 := 122) rfl dX12_tours_121 q327 b2 ?_
    refine EW_if_ne (tgt := 128) (pc2 := 125) rfl dX12_tours_122 (by decide) (fun q => ?_) (fun q => ?_)
    · replace h := h.1 q
      refine EW_iload_n (pc2 := 129) rfl dX12_tours_128 3 rfl ?_
      refine EW_aload_n (pc2 := 130) rfl dX12_tours_129 0 rfl ?_
      refine EW_iload_n (pc2 := 131) rfl dX12_tours_130 2 rfl ?_
      refine EW_aload_n (pc2 := 132) rfl dX12_tours_131 0 rfl ?_
      refine AW_getr (r := 254) ⟨gfRX12_32, rfl⟩ (pc2 := 135) rfl dX12_tours_132 q246 rfl ?_
      refine EW_iload (pc2 := 137) rfl dX12_tours_135 5 rfl ?_
      obtain ⟨b3, h⟩ := h
      refine AW_iald (pc2 := 138) rfl dX12_tours_137 q254 b3 ?_
      refine AW_invV (M' := MX12_walkOf) [.int v2, .int (x.1 254 (Int32.toNatClampNeg v6))] (rest := [.int v3]) mlRX12_328 okX12_walkOf (pc2 := 141) rfl dX12_tours_138 rfl rfl (Nat.le_of_ble_eq_true rfl) (Nat.le_of_ble_eq_true rfl) (d' := 0) (by omega) q246 ⟨by decide, rfl⟩ (EW_mono (fun _ _ hr => ?_) (sX12_walkOf v2 (x.1 254 (Int32.toNatClampNeg v6))  x _ _ 0 0 (Nat.le_refl _) h))
      obtain ⟨r4, rfl, rfl, h⟩ := hr
      refine EW_iadd (pc2 := 142) rfl dX12_tours_141 ?_
      refine EW_bipush (pc2 := 144) (v := 10) rfl dX12_tours_142 (by decide) ?_
      refine EW_iadd (pc2 := 145) rfl dX12_tours_144 ?_
      refine EW_istore (pc2 := 147) rfl dX12_tours_145 (by decide) [1, 2, 3, 4, 5, 6, 0] [(0, .ref 246), (1, .int v1), (2, .int v2), (3, .int v3), (4, .int v4), (6, .int v6), (7, .int ((v3 + r4) + 10))] rfl ?_
      refine EW_iload (pc2 := 149) rfl dX12_tours_147 6 rfl ?_
      refine EW_aload_n (pc2 := 150) rfl dX12_tours_149 0 rfl ?_
      refine AW_geti ⟨gfRX12_614, rfl⟩ (pc2 := 153) rfl dX12_tours_150 q246 ?_
      refine EW_icmp_le (tgt := 159) (pc2 := 156) rfl dX12_tours_153 (by decide) (fun q => ?_) (fun q => ?_)
      · replace h := h.1 q
        refine EW_aload_n (pc2 := 160) rfl dX12_tours_159 0 rfl ?_
        refine AW_getr (r := 327) ⟨gfRX12_265, rfl⟩ (pc2 := 163) rfl dX12_tours_160 q246 rfl ?_
        refine EW_iload (pc2 := 165) rfl dX12_tours_163 5 rfl ?_
        refine EW_iconst (pc2 := 166) (v := 0) rfl dX12_tours_165 (by decide) ?_
        obtain ⟨b5, h⟩ := h
        refine AW_zast (pc2 := 167) rfl dX12_tours_166 q327 b5 isB0 ?_
        refine EW_aload_n (pc2 := 168) rfl dX12_tours_167 0 rfl ?_
        refine AW_getr (r := 325) ⟨gfRX12_259, rfl⟩ (pc2 := 171) rfl dX12_tours_168 q246 rfl ?_
        refine EW_iload_n (pc2 := 172) rfl dX12_tours_171 1 rfl ?_
        refine EW_iload (pc2 := 174) rfl dX12_tours_172 5 rfl ?_
        obtain ⟨b6, h⟩ := h
        refine AW_iast (pc2 := 175) rfl dX12_tours_174 q325 b6 ?_
        refine EW_aload_n (pc2 := 176) rfl dX12_tours_175 0 rfl ?_
        refine EW_iload_n (pc2 := 177) rfl dX12_tours_176 1 rfl ?_
        refine EW_iconst (pc2 := 178) (v := 1) rfl dX12_tours_177 (by decide) ?_
        refine EW_iadd (pc2 := 179) rfl dX12_tours_178 ?_
        refine EW_aload_n (pc2 := 180) rfl dX12_tours_179 0 rfl ?_
        refine AW_getr (r := 254) ⟨gfRX12_32, rfl⟩ (pc2 := 183) rfl dX12_tours_180 q246 rfl ?_
        refine EW_iload (pc2 := 185) rfl dX12_tours_183 5 rfl ?_
        obtain ⟨b7, h⟩ := h
        refine AW_iald (pc2 := 186) rfl dX12_tours_185 q254 b7 ?_
        refine EW_iload (pc2 := 188) rfl dX12_tours_186 6 rfl ?_
        refine EW_iload (pc2 := 190) rfl dX12_tours_188 4 rfl ?_
        refine EW_aload_n (pc2 := 191) rfl dX12_tours_190 0 rfl ?_
        refine AW_getr (r := 324) ⟨gfRX12_256, rfl⟩ (pc2 := 194) rfl dX12_tours_191 q246 rfl ?_
        refine EW_iload (pc2 := 196) rfl dX12_tours_194 5 rfl ?_
        obtain ⟨b8, h⟩ := h
        refine AW_iald (pc2 := 197) rfl dX12_tours_196 q324 b8 ?_
        refine EW_iadd (pc2 := 198) rfl dX12_tours_197 ?_
        refine AW_invV (M' := MX12_tours) [.int (v1 + 1), .int ((wr (wr x 327 (Int32.toNatClampNeg v6) 0) 325 (Int32.toNatClampNeg v1) v6).1 254 (Int32.toNatClampNeg v6)), .int ((v3 + r4) + 10), .int (v4 + ((wr (wr x 327 (Int32.toNatClampNeg v6) 0) 325 (Int32.toNatClampNeg v1) v6).1 324 (Int32.toNatClampNeg v6)))] (rest := []) mlRX12_626 okX12_tours (pc2 := 201) rfl dX12_tours_198 rfl rfl (Nat.le_of_ble_eq_true rfl) (Nat.le_of_ble_eq_true rfl) (d' := dr) (by omega) q246 ⟨by decide, rfl⟩ (EW_mono (fun _ _ hr => ?_) (hRX12_tours (v1 + 1) ((wr (wr x 327 (Int32.toNatClampNeg v6) 0) 325 (Int32.toNatClampNeg v1) v6).1 254 (Int32.toNatClampNeg v6)) ((v3 + r4) + 10) (v4 + ((wr (wr x 327 (Int32.toNatClampNeg v6) 0) 325 (Int32.toNatClampNeg v1) v6).1 324 (Int32.toNatClampNeg v6)))  (wr (wr x 327 (Int32.toNatClampNeg v6) 0) 325 (Int32.toNatClampNeg v1) v6) _  h))
        obtain ⟨x9, rfl, rfl, h⟩ := hr
        refine EW_aload_n (pc2 := 202) rfl dX12_tours_201 0 rfl ?_
        refine AW_getr (r := 327) ⟨gfRX12_265, rfl⟩ (pc2 := 205) rfl dX12_tours_202 q246 rfl ?_
        refine EW_iload (pc2 := 207) rfl dX12_tours_205 5 rfl ?_
        refine EW_iconst (pc2 := 208) (v := 1) rfl dX12_tours_207 (by decide) ?_
        obtain ⟨b10, h⟩ := h
        refine AW_zast (pc2 := 209) rfl dX12_tours_208 q327 b10 isB1 ?_
        refine EW_iinc (v6 + 1) (pc2 := 212) rfl dX12_tours_209 5 rfl rfl (by decide) [1, 2, 3, 4, 5, 0, 6] [(0, .ref 246), (1, .int v1), (2, .int v2), (3, .int v3), (4, .int v4), (6, .int (v6 + 1)), (7, .int ((v3 + r4) + 10))] rfl ?_
        refine EW_goto (tgt := 106) dX12_tours_212 (by decide) ?_
        refine EW_ls [0, 1, 2, 3, 4, 5] rfl ?_
        exact hL106 (v6 + 1) (wr x9 327 (Int32.toNatClampNeg v6) 1) h
      · replace h := h.2 q
        refine EW_goto (tgt := 209) dX12_tours_156 (by decide) ?_
        refine EW_iinc (v6 + 1) (pc2 := 212) rfl dX12_tours_209 5 rfl rfl (by decide) [1, 2, 3, 4, 5, 0, 6] [(0, .ref 246), (1, .int v1), (2, .int v2), (3, .int v3), (4, .int v4), (6, .int (v6 + 1)), (7, .int ((v3 + r4) + 10))] rfl ?_
        refine EW_goto (tgt := 106) dX12_tours_212 (by decide) ?_
        refine EW_ls [0, 1, 2, 3, 4, 5] rfl ?_
        exact hL106 (v6 + 1) x h
    · replace h := h.2 q
      refine EW_goto (tgt := 209) dX12_tours_125 (by decide) ?_
      refine EW_iinc (v6 + 1) (pc2 := 212) rfl dX12_tours_209 5 rfl rfl (by decide) [1, 2, 3, 4, 5, 0] [(0, .ref 246), (1, .int v1), (2, .int v2), (3, .int v3), (4, .int v4), (6, .int (v6 + 1))] rfl ?_
      refine EW_goto (tgt := 106) dX12_tours_212 (by decide) ?_
      exact hL106 (v6 + 1) x h
set_option maxHeartbeats 4000000 in
set_option maxRecDepth 100000 in
theorem sX12_tours_77 (RX12_tours : Int32 → Int32 → Int32 → Int32 → ab_X → (ab_X → Prop) → Prop) (v1 : Int32) (v2 : Int32) (v3 : Int32) (v4 : Int32) (v6 : Int32)  (x : ab_X) (K : ab_X → Prop)  (d bc bs : Nat) (hdp : 1 ≤ d) (dr : Nat) (hRX12_tours : ∀ (v1 : Int32) (v2 : Int32) (v3 : Int32) (v4 : Int32)  (x : ab_X) (K : ab_X → Prop), RX12_tours v1 v2 v3 v4 x K → EW MX12_tours 0 [(0, .ref 246), (1, .int v1), (2, .int v2), (3, .int v3), (4, .int v4)] [] (aS x) dr 0 0 (liV K)) (hdr : dr + 1 ≤ d)  (h : Lp2 (lX12_tours_77 RX12_tours v1 v2 v3 v4 K ) v6 x) : EW MX12_tours 77 [(0, .ref 246), (1, .int v1), (2, .int v2), (3, .int v3), (4, .int v4), (6, .int v6)] [] (aS x) d bc bs (liV K) := by
  refine Lp2.use (P := fun v6 x => EW MX12_tours 77 [(0, .ref 246), (1, .int v1), (2, .int v2), (3, .int v3), (4, .int v4), (6, .int v6)] [] (aS x) d bc bs (liV K)) (fun L77 v6 x hL77 h => ?_) v6 x h
  unfold lX12_tours_77 at h
  refine EW_iload (pc2 := 79) rfl dX12_tours_77 5 rfl ?_
  refine EW_iload_n (pc2 := 80) rfl dX12_tours_79 1 rfl ?_
  refine EW_icmp_ge (tgt := 103) (pc2 := 83) rfl dX12_tours_80 (by decide) (fun q => ?_) (fun q => ?_)
  · replace h := h.1 q
    refine EW_iconst (pc2 := 104) (v := 0) rfl dX12_tours_103 (by decide) ?_
    refine EW_istore (pc2 := 106) rfl dX12_tours_104 (by decide) [1, 2, 3, 4, 5, 0] [(0, .ref 246), (1, .int v1), (2, .int v2), (3, .int v3), (4, .int v4), (6, .int 0)] rfl ?_
    exact sX12_tours_106 RX12_tours v1 v2 v3 v4 0 x K d bc bs hdp dr hRX12_tours hdr h
  · replace h := h.2 q
    refine EW_aload_n (pc2 := 84) rfl dX12_tours_83 0 rfl ?_
    refine AW_getr (r := 326) ⟨gfRX12_262, rfl⟩ (pc2 := 87) rfl dX12_tours_84 q246 rfl ?_
    refine EW_iload (pc2 := 89) rfl dX12_tours_87 5 rfl ?_
    refine EW_aload_n (pc2 := 90) rfl dX12_tours_89 0 rfl ?_
    refine AW_getr (r := 325) ⟨gfRX12_259, rfl⟩ (pc2 := 93) rfl dX12_tours_90 q246 rfl ?_
    refine EW_iload (pc2 := 95) rfl dX12_tours_93 5 rfl ?_
    obtain ⟨b11, h⟩ := h
    refine AW_iald (pc2 := 96) rfl dX12_tours_95 q325 b11 ?_
    obtain ⟨b12, h⟩ := h
    refine AW_iast (pc2 := 97) rfl dX12_tours_96 q326 b12 ?_
    refine EW_iinc (v6 + 1) (pc2 := 100) rfl dX12_tours_97 5 rfl rfl (by decide) [1, 2, 3, 4, 5, 0] [(0, .ref 246), (1, .int v1), (2, .int v2), (3, .int v3), (4, .int v4), (6, .int (v6 + 1))] rfl ?_
    refine EW_goto (tgt := 77) dX12_tours_100 (by decide) ?_
    exact hL77 (v6 + 1) (wr x 326 (Int32.toNatClampNeg v6) (x.1 325 (Int32.toNatClampNeg v6))) h
set_option maxHeartbeats 4000000 in
set_option maxRecDepth 100000 in
theorem sX12_tours_57 (RX12_tours : Int32 → Int32 → Int32 → Int32 → ab_X → (ab_X → Prop) → Prop) (v1 : Int32) (v2 : Int32) (v3 : Int32) (v4 : Int32) (v5 : Int32)  (x : ab_X) (K : ab_X → Prop)  (d bc bs : Nat) (hdp : 1 ≤ d) (dr : Nat) (hRX12_tours : ∀ (v1 : Int32) (v2 : Int32) (v3 : Int32) (v4 : Int32)  (x : ab_X) (K : ab_X → Prop), RX12_tours v1 v2 v3 v4 x K → EW MX12_tours 0 [(0, .ref 246), (1, .int v1), (2, .int v2), (3, .int v3), (4, .int v4)] [] (aS x) dr 0 0 (liV K)) (hdr : dr + 1 ≤ d)  (h : wX12_tours_57 RX12_tours v1 v2 v3 v4 v5 x K ) : EW MX12_tours 57 [(0, .ref 246), (1, .int v1), (2, .int v2), (3, .int v3), (4, .int v4), (5, .int v5)] [] (aS x) d bc bs (liV K) := by
  unfold wX12_tours_57 at h
  refine EW_aload_n (pc2 := 58) rfl dX12_tours_57 0 rfl ?_
  refine EW_iload_n (pc2 := 59) rfl dX12_tours_58 1 rfl ?_
  refine AW_puti ⟨gfRX12_617, rfl, rfl⟩ (pc2 := 62) rfl dX12_tours_59 q246 ?_
  refine EW_aload_n (pc2 := 63) rfl dX12_tours_62 0 rfl ?_
  refine EW_iload (pc2 := 65) rfl dX12_tours_63 4 rfl ?_
  refine AW_puti ⟨gfRX12_620, rfl, rfl⟩ (pc2 := 68) rfl dX12_tours_65 q246 ?_
  refine EW_aload_n (pc2 := 69) rfl dX12_tours_68 0 rfl ?_
  refine EW_iload (pc2 := 71) rfl dX12_tours_69 5 rfl ?_
  refine AW_puti ⟨gfRX12_623, rfl, rfl⟩ (pc2 := 74) rfl dX12_tours_71 q246 ?_
  refine EW_iconst (pc2 := 75) (v := 0) rfl dX12_tours_74 (by decide) ?_
  refine EW_istore (pc2 := 77) rfl dX12_tours_75 (by decide) [1, 2, 3, 4, 5, 6, 0] [(0, .ref 246), (1, .int v1), (2, .int v2), (3, .int v3), (4, .int v4), (5, .int v5), (6, .int 0)] rfl ?_
  refine EW_ls [0, 1, 2, 3, 4, 6] rfl ?_
  exact sX12_tours_77 RX12_tours v1 v2 v3 v4 0 (wr (wr (wr x 246 108 v1) 246 106 v4) 246 107 v5) K d bc bs hdp dr hRX12_tours hdr h
set_option maxHeartbeats 4000000 in
set_option maxRecDepth 100000 in
theorem bsX12_tours (RX12_tours : Int32 → Int32 → Int32 → Int32 → ab_X → (ab_X → Prop) → Prop) (v1 : Int32) (v2 : Int32) (v3 : Int32) (v4 : Int32)  (x : ab_X) (K : ab_X → Prop) (d bc bs : Nat) (hdp : 1 ≤ d) (dr : Nat) (hRX12_tours : ∀ (v1 : Int32) (v2 : Int32) (v3 : Int32) (v4 : Int32)  (x : ab_X) (K : ab_X → Prop), RX12_tours v1 v2 v3 v4 x K → EW MX12_tours 0 [(0, .ref 246), (1, .int v1), (2, .int v2), (3, .int v3), (4, .int v4)] [] (aS x) dr 0 0 (liV K)) (hdr : dr + 1 ≤ d) (h : bX12_tours RX12_tours v1 v2 v3 v4 x K) : EW MX12_tours 0 [(0, .ref 246), (1, .int v1), (2, .int v2), (3, .int v3), (4, .int v4)] [] (aS x) d bc bs (liV K) := by
  unfold bX12_tours at h
  refine EW_iload_n (pc2 := 1) rfl dX12_tours_0 3 rfl ?_
  refine EW_aload_n (pc2 := 2) rfl dX12_tours_1 0 rfl ?_
  refine EW_iload_n (pc2 := 3) rfl dX12_tours_2 2 rfl ?_
  refine EW_aload_n (pc2 := 4) rfl dX12_tours_3 0 rfl ?_
  refine AW_geti ⟨gfRX12_611, rfl⟩ (pc2 := 7) rfl dX12_tours_4 q246 ?_
  refine AW_invV (M' := MX12_walkOf) [.int v2, .int (x.1 246 104)] (rest := [.int v3]) mlRX12_328 okX12_walkOf (pc2 := 10) rfl dX12_tours_7 rfl rfl (Nat.le_of_ble_eq_true rfl) (Nat.le_of_ble_eq_true rfl) (d' := 0) (by omega) q246 ⟨by decide, rfl⟩ (EW_mono (fun _ _ hr => ?_) (sX12_walkOf v2 (x.1 246 104)  x _ _ 0 0 (Nat.le_refl _) h))
  obtain ⟨r1, rfl, rfl, h⟩ := hr
  refine EW_iadd (pc2 := 11) rfl dX12_tours_10 ?_
  refine EW_istore (pc2 := 13) rfl dX12_tours_11 (by decide) [1, 2, 3, 4, 5, 0] [(0, .ref 246), (1, .int v1), (2, .int v2), (3, .int v3), (4, .int v4), (5, .int (v3 + r1))] rfl ?_
  refine EW_iload (pc2 := 15) rfl dX12_tours_13 5 rfl ?_
  refine EW_aload_n (pc2 := 16) rfl dX12_tours_15 0 rfl ?_
  refine AW_geti ⟨gfRX12_614, rfl⟩ (pc2 := 19) rfl dX12_tours_16 q246 ?_
  refine EW_icmp_gt (tgt := 103) (pc2 := 22) rfl dX12_tours_19 (by decide) (fun q => ?_) (fun q => ?_)
  · replace h := h.1 q
    refine EW_iconst (pc2 := 104) (v := 0) rfl dX12_tours_103 (by decide) ?_
    refine EW_istore (pc2 := 106) rfl dX12_tours_104 (by decide) [1, 2, 3, 4, 5, 6, 0] [(0, .ref 246), (1, .int v1), (2, .int v2), (3, .int v3), (4, .int v4), (5, .int (v3 + r1)), (6, .int 0)] rfl ?_
    refine EW_ls [0, 1, 2, 3, 4, 6] rfl ?_
    exact sX12_tours_106 RX12_tours v1 v2 v3 v4 0 x K d bc bs hdp dr hRX12_tours hdr h
  · replace h := h.2 q
    refine EW_aload_n (pc2 := 23) rfl dX12_tours_22 0 rfl ?_
    refine AW_geti ⟨gfRX12_617, rfl⟩ (pc2 := 26) rfl dX12_tours_23 q246 ?_
    refine EW_iconst (pc2 := 27) (v := (-1)) rfl dX12_tours_26 (by decide) ?_
    refine EW_icmp_eq (tgt := 57) (pc2 := 30) rfl dX12_tours_27 (by decide) (fun q => ?_) (fun q => ?_)
    · replace h := h.1 q
      exact sX12_tours_57 RX12_tours v1 v2 v3 v4 (v3 + r1) x K d bc bs hdp dr hRX12_tours hdr h
    · replace h := h.2 q
      refine EW_iload (pc2 := 32) rfl dX12_tours_30 4 rfl ?_
      refine EW_aload_n (pc2 := 33) rfl dX12_tours_32 0 rfl ?_
      refine AW_geti ⟨gfRX12_620, rfl⟩ (pc2 := 36) rfl dX12_tours_33 q246 ?_
      refine EW_icmp_gt (tgt := 57) (pc2 := 39) rfl dX12_tours_36 (by decide) (fun q => ?_) (fun q => ?_)
      · replace h := h.1 q
        exact sX12_tours_57 RX12_tours v1 v2 v3 v4 (v3 + r1) x K d bc bs hdp dr hRX12_tours hdr h
      · replace h := h.2 q
        refine EW_iload (pc2 := 41) rfl dX12_tours_39 4 rfl ?_
        refine EW_aload_n (pc2 := 42) rfl dX12_tours_41 0 rfl ?_
        refine AW_geti ⟨gfRX12_620, rfl⟩ (pc2 := 45) rfl dX12_tours_42 q246 ?_
        refine EW_icmp_ne (tgt := 103) (pc2 := 48) rfl dX12_tours_45 (by decide) (fun q => ?_) (fun q => ?_)
        · replace h := h.1 q
          refine EW_iconst (pc2 := 104) (v := 0) rfl dX12_tours_103 (by decide) ?_
          refine EW_istore (pc2 := 106) rfl dX12_tours_104 (by decide) [1, 2, 3, 4, 5, 6, 0] [(0, .ref 246), (1, .int v1), (2, .int v2), (3, .int v3), (4, .int v4), (5, .int (v3 + r1)), (6, .int 0)] rfl ?_
          refine EW_ls [0, 1, 2, 3, 4, 6] rfl ?_
          exact sX12_tours_106 RX12_tours v1 v2 v3 v4 0 x K d bc bs hdp dr hRX12_tours hdr h
        · replace h := h.2 q
          refine EW_iload (pc2 := 50) rfl dX12_tours_48 5 rfl ?_
          refine EW_aload_n (pc2 := 51) rfl dX12_tours_50 0 rfl ?_
          refine AW_geti ⟨gfRX12_623, rfl⟩ (pc2 := 54) rfl dX12_tours_51 q246 ?_
          refine EW_icmp_ge (tgt := 103) (pc2 := 57) rfl dX12_tours_54 (by decide) (fun q => ?_) (fun q => ?_)
          · replace h := h.1 q
            refine EW_iconst (pc2 := 104) (v := 0) rfl dX12_tours_103 (by decide) ?_
            refine EW_istore (pc2 := 106) rfl dX12_tours_104 (by decide) [1, 2, 3, 4, 5, 6, 0] [(0, .ref 246), (1, .int v1), (2, .int v2), (3, .int v3), (4, .int v4), (5, .int (v3 + r1)), (6, .int 0)] rfl ?_
            refine EW_ls [0, 1, 2, 3, 4, 6] rfl ?_
            exact sX12_tours_106 RX12_tours v1 v2 v3 v4 0 x K d bc bs hdp dr hRX12_tours hdr h
          · replace h := h.2 q
            exact sX12_tours_57 RX12_tours v1 v2 v3 v4 (v3 + r1) x K d bc bs hdp dr hRX12_tours hdr h
set_option maxHeartbeats 4000000 in
theorem famX12_toursS : ∀ n, (∀ (v1 : Int32) (v2 : Int32) (v3 : Int32) (v4 : Int32)  (x : ab_X) (K : ab_X → Prop), (famX12_tours n) v1 v2 v3 v4 x K → EW MX12_tours 0 [(0, .ref 246), (1, .int v1), (2, .int v2), (3, .int v3), (4, .int v4)] [] (aS x) (1 + n) 0 0 (liV K)) := by
  intro n
  induction n with
  | zero => exact fun v1 v2 v3 v4  x K h => False.elim h
  | succ n ih =>
    have i0 := ih
    exact fun v1 v2 v3 v4  x K h => bsX12_tours _ v1 v2 v3 v4  x K (1 + (n + 1)) 0 0 (by omega) (1 + n) i0 (by omega) h
theorem sX12_tours (v1 : Int32) (v2 : Int32) (v3 : Int32) (v4 : Int32)  (x : ab_X) (K : ab_X → Prop) (d bc bs : Nat) (hdp : 102 ≤ d) (h : wX12_tours v1 v2 v3 v4 x K) : EW MX12_tours 0 [(0, .ref 246), (1, .int v1), (2, .int v2), (3, .int v3), (4, .int v4)] [] (aS x) d bc bs (liV K) := by
  obtain ⟨n, hn, h⟩ := h
  cases n with
  | zero => exact False.elim h
  | succ n =>
    have i0 := famX12_toursS n
    exact bsX12_tours _ v1 v2 v3 v4  x K d bc bs (by omega) (1 + n) i0 (by omega) h
abbrev MX12_findTour : ab_M := (yX12_findTour, cX12_findTour, 5, (some .boolean))
theorem dX12_findTour_0 : decode cX12_findTour 0 = .ok (.aload_n 0, 1) := by decide +kernel
theorem dX12_findTour_1 : decode cX12_findTour 1 = .ok (.iconst 0, 1) := by decide +kernel
theorem dX12_findTour_2 : decode cX12_findTour 2 = .ok (.putfield 297, 3) := by decide +kernel
theorem dX12_findTour_5 : decode cX12_findTour 5 = .ok (.iload_n 1, 1) := by decide +kernel
theorem dX12_findTour_6 : decode cX12_findTour 6 = .ok (.invokestatic 303, 3) := by decide +kernel
theorem dX12_findTour_9 : decode cX12_findTour 9 = .ok (.ifCond .eq 14, 3) := by decide +kernel
theorem dX12_findTour_12 : decode cX12_findTour 12 = .ok (.iload_n 2, 1) := by decide +kernel
theorem dX12_findTour_13 : decode cX12_findTour 13 = .ok (.iconst 0, 1) := by decide +kernel
theorem dX12_findTour_14 : decode cX12_findTour 14 = .ok (.sipush 500, 3) := by decide +kernel
theorem dX12_findTour_17 : decode cX12_findTour 17 = .ok (.invokestatic 307, 3) := by decide +kernel
theorem dX12_findTour_20 : decode cX12_findTour 20 = .ok (.ifCond .ne 5, 3) := by decide +kernel
theorem dX12_findTour_23 : decode cX12_findTour 23 = .ok (.iconst 0, 1) := by decide +kernel
theorem dX12_findTour_24 : decode cX12_findTour 24 = .ok (.ireturn, 1) := by decide +kernel
theorem dX12_findTour_25 : decode cX12_findTour 25 = .ok (.iconst 0, 1) := by decide +kernel
theorem dX12_findTour_26 : decode cX12_findTour 26 = .ok (.istore_n 3, 1) := by decide +kernel
theorem dX12_findTour_27 : decode cX12_findTour 27 = .ok (.iconst 0, 1) := by decide +kernel
theorem dX12_findTour_28 : decode cX12_findTour 28 = .ok (.istore 4, 2) := by decide +kernel
theorem dX12_findTour_30 : decode cX12_findTour 30 = .ok (.iload 4, 2) := by decide +kernel
theorem dX12_findTour_32 : decode cX12_findTour 32 = .ok (.aload_n 0, 1) := by decide +kernel
theorem dX12_findTour_33 : decode cX12_findTour 33 = .ok (.getfield 331, 3) := by decide +kernel
theorem dX12_findTour_36 : decode cX12_findTour 36 = .ok (.if_icmp .ge 113, 3) := by decide +kernel
theorem dX12_findTour_39 : decode cX12_findTour 39 = .ok (.aload_n 0, 1) := by decide +kernel
theorem dX12_findTour_40 : decode cX12_findTour 40 = .ok (.getfield 265, 3) := by decide +kernel
theorem dX12_findTour_43 : decode cX12_findTour 43 = .ok (.iload 4, 2) := by decide +kernel
theorem dX12_findTour_45 : decode cX12_findTour 45 = .ok (.iload_n 3, 1) := by decide +kernel
theorem dX12_findTour_46 : decode cX12_findTour 46 = .ok (.bipush 8, 2) := by decide +kernel
theorem dX12_findTour_48 : decode cX12_findTour 48 = .ok (.if_icmp .ge 25, 3) := by decide +kernel
theorem dX12_findTour_51 : decode cX12_findTour 51 = .ok (.aload_n 0, 1) := by decide +kernel
theorem dX12_findTour_52 : decode cX12_findTour 52 = .ok (.iload_n 1, 1) := by decide +kernel
theorem dX12_findTour_53 : decode cX12_findTour 53 = .ok (.aload_n 0, 1) := by decide +kernel
theorem dX12_findTour_54 : decode cX12_findTour 54 = .ok (.getfield 32, 3) := by decide +kernel
theorem dX12_findTour_57 : decode cX12_findTour 57 = .ok (.iload 4, 2) := by decide +kernel
theorem dX12_findTour_59 : decode cX12_findTour 59 = .ok (.iaload, 1) := by decide +kernel
theorem dX12_findTour_60 : decode cX12_findTour 60 = .ok (.invokevirtual 328, 3) := by decide +kernel
theorem dX12_findTour_63 : decode cX12_findTour 63 = .ok (.ldc_w 296, 3) := by decide +kernel
theorem dX12_findTour_66 : decode cX12_findTour 66 = .ok (.if_icmp .ge 7, 3) := by decide +kernel
theorem dX12_findTour_69 : decode cX12_findTour 69 = .ok (.iconst 1, 1) := by decide +kernel
theorem dX12_findTour_70 : decode cX12_findTour 70 = .ok (.goto 4, 3) := by decide +kernel
theorem dX12_findTour_73 : decode cX12_findTour 73 = .ok (.iconst 0, 1) := by decide +kernel
theorem dX12_findTour_74 : decode cX12_findTour 74 = .ok (.bastore, 1) := by decide +kernel
theorem dX12_findTour_75 : decode cX12_findTour 75 = .ok (.iload_n 3, 1) := by decide +kernel
theorem dX12_findTour_76 : decode cX12_findTour 76 = .ok (.aload_n 0, 1) := by decide +kernel
theorem dX12_findTour_77 : decode cX12_findTour 77 = .ok (.getfield 265, 3) := by decide +kernel
theorem dX12_findTour_80 : decode cX12_findTour 80 = .ok (.iload 4, 2) := by decide +kernel
theorem dX12_findTour_82 : decode cX12_findTour 82 = .ok (.baload, 1) := by decide +kernel
theorem dX12_findTour_83 : decode cX12_findTour 83 = .ok (.ifCond .eq 7, 3) := by decide +kernel
theorem dX12_findTour_86 : decode cX12_findTour 86 = .ok (.iconst 1, 1) := by decide +kernel
theorem dX12_findTour_87 : decode cX12_findTour 87 = .ok (.goto 4, 3) := by decide +kernel
theorem dX12_findTour_90 : decode cX12_findTour 90 = .ok (.iconst 0, 1) := by decide +kernel
theorem dX12_findTour_91 : decode cX12_findTour 91 = .ok (.iadd, 1) := by decide +kernel
theorem dX12_findTour_92 : decode cX12_findTour 92 = .ok (.istore_n 3, 1) := by decide +kernel
theorem dX12_findTour_93 : decode cX12_findTour 93 = .ok (.aload_n 0, 1) := by decide +kernel
theorem dX12_findTour_94 : decode cX12_findTour 94 = .ok (.getfield 256, 3) := by decide +kernel
theorem dX12_findTour_97 : decode cX12_findTour 97 = .ok (.iload 4, 2) := by decide +kernel
theorem dX12_findTour_99 : decode cX12_findTour 99 = .ok (.aload_n 0, 1) := by decide +kernel
theorem dX12_findTour_100 : decode cX12_findTour 100 = .ok (.getfield 265, 3) := by decide +kernel
theorem dX12_findTour_103 : decode cX12_findTour 103 = .ok (.iload 4, 2) := by decide +kernel
theorem dX12_findTour_105 : decode cX12_findTour 105 = .ok (.baload, 1) := by decide +kernel
theorem dX12_findTour_106 : decode cX12_findTour 106 = .ok (.ifCond .eq 35, 3) := by decide +kernel
theorem dX12_findTour_109 : decode cX12_findTour 109 = .ok (.bipush 10, 2) := by decide +kernel
theorem dX12_findTour_111 : decode cX12_findTour 111 = .ok (.aload_n 0, 1) := by decide +kernel
theorem dX12_findTour_112 : decode cX12_findTour 112 = .ok (.iload 4, 2) := by decide +kernel
theorem dX12_findTour_114 : decode cX12_findTour 114 = .ok (.aload_n 0, 1) := by decide +kernel
theorem dX12_findTour_115 : decode cX12_findTour 115 = .ok (.getfield 395, 3) := by decide +kernel
theorem dX12_findTour_118 : decode cX12_findTour 118 = .ok (.invokevirtual 608, 3) := by decide +kernel
theorem dX12_findTour_121 : decode cX12_findTour 121 = .ok (.imul, 1) := by decide +kernel
theorem dX12_findTour_122 : decode cX12_findTour 122 = .ok (.bipush 30, 2) := by decide +kernel
theorem dX12_findTour_124 : decode cX12_findTour 124 = .ok (.aload_n 0, 1) := by decide +kernel
theorem dX12_findTour_125 : decode cX12_findTour 125 = .ok (.iload 4, 2) := by decide +kernel
theorem dX12_findTour_127 : decode cX12_findTour 127 = .ok (.aload_n 0, 1) := by decide +kernel
theorem dX12_findTour_128 : decode cX12_findTour 128 = .ok (.getfield 395, 3) := by decide +kernel
theorem dX12_findTour_131 : decode cX12_findTour 131 = .ok (.invokevirtual 605, 3) := by decide +kernel
theorem dX12_findTour_134 : decode cX12_findTour 134 = .ok (.invokestatic 311, 3) := by decide +kernel
theorem dX12_findTour_137 : decode cX12_findTour 137 = .ok (.iadd, 1) := by decide +kernel
theorem dX12_findTour_138 : decode cX12_findTour 138 = .ok (.goto 4, 3) := by decide +kernel
theorem dX12_findTour_141 : decode cX12_findTour 141 = .ok (.iconst 0, 1) := by decide +kernel
theorem dX12_findTour_142 : decode cX12_findTour 142 = .ok (.iastore, 1) := by decide +kernel
theorem dX12_findTour_143 : decode cX12_findTour 143 = .ok (.iinc 4 1, 3) := by decide +kernel
theorem dX12_findTour_146 : decode cX12_findTour 146 = .ok (.goto (-116), 3) := by decide +kernel
theorem dX12_findTour_149 : decode cX12_findTour 149 = .ok (.aload_n 0, 1) := by decide +kernel
theorem dX12_findTour_150 : decode cX12_findTour 150 = .ok (.iload_n 1, 1) := by decide +kernel
theorem dX12_findTour_151 : decode cX12_findTour 151 = .ok (.putfield 611, 3) := by decide +kernel
theorem dX12_findTour_154 : decode cX12_findTour 154 = .ok (.aload_n 0, 1) := by decide +kernel
theorem dX12_findTour_155 : decode cX12_findTour 155 = .ok (.iload_n 2, 1) := by decide +kernel
theorem dX12_findTour_156 : decode cX12_findTour 156 = .ok (.putfield 614, 3) := by decide +kernel
theorem dX12_findTour_159 : decode cX12_findTour 159 = .ok (.aload_n 0, 1) := by decide +kernel
theorem dX12_findTour_160 : decode cX12_findTour 160 = .ok (.iconst (-1), 1) := by decide +kernel
theorem dX12_findTour_161 : decode cX12_findTour 161 = .ok (.putfield 617, 3) := by decide +kernel
theorem dX12_findTour_164 : decode cX12_findTour 164 = .ok (.aload_n 0, 1) := by decide +kernel
theorem dX12_findTour_165 : decode cX12_findTour 165 = .ok (.iconst 0, 1) := by decide +kernel
theorem dX12_findTour_166 : decode cX12_findTour 166 = .ok (.iload_n 1, 1) := by decide +kernel
theorem dX12_findTour_167 : decode cX12_findTour 167 = .ok (.iconst 0, 1) := by decide +kernel
theorem dX12_findTour_168 : decode cX12_findTour 168 = .ok (.iconst 0, 1) := by decide +kernel
theorem dX12_findTour_169 : decode cX12_findTour 169 = .ok (.invokevirtual 626, 3) := by decide +kernel
theorem dX12_findTour_172 : decode cX12_findTour 172 = .ok (.iconst 1, 1) := by decide +kernel
theorem dX12_findTour_173 : decode cX12_findTour 173 = .ok (.ireturn, 1) := by decide +kernel
theorem okX12_findTour : ab_okM MX12_findTour 2 := ⟨by decide, ⟨by decide, by decide⟩, ab_in 2666 (by decide +kernel) (by decide +kernel), ab_in 99 (by decide +kernel) (by decide +kernel), by decide +kernel, by decide⟩
set_option maxHeartbeats 4000000 in
set_option maxRecDepth 100000 in
theorem sX12_findTour_91 (v1 : Int32) (v2 : Int32) (v4 : Int32) (s0 : Int32) (s1 : Int32)  (x : ab_X) (K : Int32 → ab_X → Prop) (L30 : Int32 → Int32 → ab_X → Prop) (d bc bs : Nat) (hdp : 211 ≤ d) (hL30 : ∀ (v3 : Int32) (v4 : Int32) (x : ab_X), L30 v3 v4 x → EW MX12_findTour 30 [(0, .ref 246), (1, .int v1), (2, .int v2), (3, .int v3), (4, .int v4)] [] (aS x) d bc bs (liI K)) (h : wX12_findTour_91 v1 v2 v4 s0 s1 x K L30) : EW MX12_findTour 91 [(0, .ref 246), (1, .int v1), (2, .int v2), (4, .int v4)] [.int s1, .int s0] (aS x) d bc bs (liI K) := by
  unfold wX12_findTour_91 at h
  refine EW_iadd (pc2 := 92) rfl dX12_findTour_91 ?_
  refine EW_istore_n (pc2 := 93) rfl dX12_findTour_92 (by decide) [1, 2, 3, 0, 4] [(0, .ref 246), (1, .int v1), (2, .int v2), (3, .int (s0 + s1)), (4, .int v4)] rfl ?_
  refine EW_aload_n (pc2 := 94) rfl dX12_findTour_93 0 rfl ?_
  refine AW_getr (r := 324) ⟨gfRX12_256, rfl⟩ (pc2 := 97) rfl dX12_findTour_94 q246 rfl ?_
  refine EW_iload (pc2 := 99) rfl dX12_findTour_97 4 rfl ?_
  refine EW_aload_n (pc2 := 100) rfl dX12_findTour_99 0 rfl ?_
  refine AW_getr (r := 327) ⟨gfRX12_265, rfl⟩ (pc2 := 103) rfl dX12_findTour_100 q246 rfl ?_
  refine EW_iload (pc2 := 105) rfl dX12_findTour_103 4 rfl ?_
  obtain ⟨b9, h⟩ := h
  refine AW_zald (pc2 := 106) rfl dX12_findTour_105 q327 b9 ?_
  refine EW_if_eq (tgt := 141) (pc2 := 109) rfl dX12_findTour_106 (by decide) (fun q => ?_) (fun q => ?_)
  · replace h := h.1 q
    refine EW_iconst (pc2 := 142) (v := 0) rfl dX12_findTour_141 (by decide) ?_
    obtain ⟨b10, h⟩ := h
    refine AW_iast (pc2 := 143) rfl dX12_findTour_142 q324 b10 ?_
    refine EW_iinc (v4 + 1) (pc2 := 146) rfl dX12_findTour_143 4 rfl rfl (by decide) [1, 2, 3, 4, 0] [(0, .ref 246), (1, .int v1), (2, .int v2), (3, .int (s0 + s1)), (4, .int (v4 + 1))] rfl ?_
    refine EW_goto (tgt := 30) dX12_findTour_146 (by decide) ?_
    exact hL30 (s0 + s1) (v4 + 1) (wr x 324 (Int32.toNatClampNeg v4) 0) h
  · replace h := h.2 q
    refine EW_bipush (pc2 := 111) (v := 10) rfl dX12_findTour_109 (by decide) ?_
    refine EW_aload_n (pc2 := 112) rfl dX12_findTour_111 0 rfl ?_
    refine EW_iload (pc2 := 114) rfl dX12_findTour_112 4 rfl ?_
    refine EW_aload_n (pc2 := 115) rfl dX12_findTour_114 0 rfl ?_
    refine AW_geti ⟨gfRX12_395, rfl⟩ (pc2 := 118) rfl dX12_findTour_115 q246 ?_
    refine AW_invV (M' := MX12_failsBy) [.int v4, .int (x.1 246 1)] (rest := [.int 10, .int v4, .ref 324]) mlRX12_608 okX12_failsBy (pc2 := 121) rfl dX12_findTour_118 rfl rfl (Nat.le_of_ble_eq_true rfl) (Nat.le_of_ble_eq_true rfl) (d' := 210) (by omega) q246 ⟨by decide, rfl⟩ (EW_mono (fun _ _ hr => ?_) (sX12_failsBy v4 (x.1 246 1)  x _ _ 0 0 (Nat.le_refl _) h))
    obtain ⟨r11, x12, rfl, rfl, h⟩ := hr
    refine EW_imul (pc2 := 122) rfl dX12_findTour_121 ?_
    refine EW_bipush (pc2 := 124) (v := 30) rfl dX12_findTour_122 (by decide) ?_
    refine EW_aload_n (pc2 := 125) rfl dX12_findTour_124 0 rfl ?_
    refine EW_iload (pc2 := 127) rfl dX12_findTour_125 4 rfl ?_
    refine EW_aload_n (pc2 := 128) rfl dX12_findTour_127 0 rfl ?_
    refine AW_geti ⟨gfRX12_395, rfl⟩ (pc2 := 131) rfl dX12_findTour_128 q246 ?_
    refine AW_invV (M' := MX12_daysFrom) [.int v4, .int (x12.1 246 1)] (rest := [.int 30, .int (10 * r11), .int v4, .ref 324]) mlRX12_605 okX12_daysFrom (pc2 := 134) rfl dX12_findTour_131 rfl rfl (Nat.le_of_ble_eq_true rfl) (Nat.le_of_ble_eq_true rfl) (d' := 0) (by omega) q246 ⟨by decide, rfl⟩ (EW_mono (fun _ _ hr => ?_) (sX12_daysFrom v4 (x12.1 246 1)  x12 _ _ 0 0 (Nat.le_refl _) h))
    obtain ⟨r13, rfl, rfl, h⟩ := hr
    refine AW_mmin mmRX12_311 (pc2 := 137) rfl dX12_findTour_134 (Nat.le_of_ble_eq_true rfl) (by omega) ?_
    refine EW_iadd (pc2 := 138) rfl dX12_findTour_137 ?_
    refine EW_goto (tgt := 142) dX12_findTour_138 (by decide) ?_
    obtain ⟨b14, h⟩ := h
    refine AW_iast (pc2 := 143) rfl dX12_findTour_142 q324 b14 ?_
    refine EW_iinc (v4 + 1) (pc2 := 146) rfl dX12_findTour_143 4 rfl rfl (by decide) [1, 2, 3, 4, 0] [(0, .ref 246), (1, .int v1), (2, .int v2), (3, .int (s0 + s1)), (4, .int (v4 + 1))] rfl ?_
    refine EW_goto (tgt := 30) dX12_findTour_146 (by decide) ?_
    exact hL30 (s0 + s1) (v4 + 1) (wr x12 324 (Int32.toNatClampNeg v4) ((10 * r11) + (imin 30 r13))) h
set_option maxHeartbeats 4000000 in
set_option maxRecDepth 100000 in
theorem sX12_findTour_74 (v1 : Int32) (v2 : Int32) (v3 : Int32) (v4 : Int32) (s1 : Int32) (s2 : Int32)  (x : ab_X) (K : Int32 → ab_X → Prop) (L30 : Int32 → Int32 → ab_X → Prop) (d bc bs : Nat) (hdp : 211 ≤ d) (hL30 : ∀ (v3 : Int32) (v4 : Int32) (x : ab_X), L30 v3 v4 x → EW MX12_findTour 30 [(0, .ref 246), (1, .int v1), (2, .int v2), (3, .int v3), (4, .int v4)] [] (aS x) d bc bs (liI K)) (h : wX12_findTour_74 v1 v2 v3 v4 s1 s2 x K L30) : EW MX12_findTour 74 [(0, .ref 246), (1, .int v1), (2, .int v2), (3, .int v3), (4, .int v4)] [.int s2, .int s1, .ref 327] (aS x) d bc bs (liI K) := by
  unfold wX12_findTour_74 at h
  obtain ⟨b6, h⟩ := h
  obtain ⟨z7, h⟩ := h
  refine AW_zast (pc2 := 75) rfl dX12_findTour_74 q327 b6 z7 ?_
  refine EW_iload_n (pc2 := 76) rfl dX12_findTour_75 3 rfl ?_
  refine EW_aload_n (pc2 := 77) rfl dX12_findTour_76 0 rfl ?_
  refine AW_getr (r := 327) ⟨gfRX12_265, rfl⟩ (pc2 := 80) rfl dX12_findTour_77 q246 rfl ?_
  refine EW_iload (pc2 := 82) rfl dX12_findTour_80 4 rfl ?_
  obtain ⟨b8, h⟩ := h
  refine AW_zald (pc2 := 83) rfl dX12_findTour_82 q327 b8 ?_
  refine EW_if_eq (tgt := 90) (pc2 := 86) rfl dX12_findTour_83 (by decide) (fun q => ?_) (fun q => ?_)
  · replace h := h.1 q
    refine EW_iconst (pc2 := 91) (v := 0) rfl dX12_findTour_90 (by decide) ?_
    refine EW_ls [0, 1, 2, 4] rfl ?_
    exact sX12_findTour_91 v1 v2 v4 v3 0 (wr x 327 (Int32.toNatClampNeg s1) s2) K L30 d bc bs hdp hL30 h
  · replace h := h.2 q
    refine EW_iconst (pc2 := 87) (v := 1) rfl dX12_findTour_86 (by decide) ?_
    refine EW_goto (tgt := 91) dX12_findTour_87 (by decide) ?_
    refine EW_ls [0, 1, 2, 4] rfl ?_
    exact sX12_findTour_91 v1 v2 v4 v3 1 (wr x 327 (Int32.toNatClampNeg s1) s2) K L30 d bc bs hdp hL30 h
set_option maxHeartbeats 4000000 in
set_option maxRecDepth 100000 in
theorem sX12_findTour_73 (v1 : Int32) (v2 : Int32) (v3 : Int32) (v4 : Int32) (s1 : Int32)  (x : ab_X) (K : Int32 → ab_X → Prop) (L30 : Int32 → Int32 → ab_X → Prop) (d bc bs : Nat) (hdp : 211 ≤ d) (hL30 : ∀ (v3 : Int32) (v4 : Int32) (x : ab_X), L30 v3 v4 x → EW MX12_findTour 30 [(0, .ref 246), (1, .int v1), (2, .int v2), (3, .int v3), (4, .int v4)] [] (aS x) d bc bs (liI K)) (h : wX12_findTour_73 v1 v2 v3 v4 s1 x K L30) : EW MX12_findTour 73 [(0, .ref 246), (1, .int v1), (2, .int v2), (3, .int v3), (4, .int v4)] [.int s1, .ref 327] (aS x) d bc bs (liI K) := by
  unfold wX12_findTour_73 at h
  refine EW_iconst (pc2 := 74) (v := 0) rfl dX12_findTour_73 (by decide) ?_
  exact sX12_findTour_74 v1 v2 v3 v4 s1 0 x K L30 d bc bs hdp hL30 h
set_option maxHeartbeats 4000000 in
set_option maxRecDepth 100000 in
theorem sX12_findTour_30 (v1 : Int32) (v2 : Int32) (v3 : Int32) (v4 : Int32)  (x : ab_X) (K : Int32 → ab_X → Prop)  (d bc bs : Nat) (hdp : 211 ≤ d)  (h : Lp3 (lX12_findTour_30 v1 v2 K ) v3 v4 x) : EW MX12_findTour 30 [(0, .ref 246), (1, .int v1), (2, .int v2), (3, .int v3), (4, .int v4)] [] (aS x) d bc bs (liI K) := by
  refine Lp3.use (P := fun v3 v4 x => EW MX12_findTour 30 [(0, .ref 246), (1, .int v1), (2, .int v2), (3, .int v3), (4, .int v4)] [] (aS x) d bc bs (liI K)) (fun L30 v3 v4 x hL30 h => ?_) v3 v4 x h
  unfold lX12_findTour_30 at h
  refine EW_iload (pc2 := 32) rfl dX12_findTour_30 4 rfl ?_
  refine EW_aload_n (pc2 := 33) rfl dX12_findTour_32 0 rfl ?_
  refine AW_geti ⟨gfRX12_331, rfl⟩ (pc2 := 36) rfl dX12_findTour_33 q246 ?_
  refine EW_icmp_ge (tgt := 149) (pc2 := 39) rfl dX12_findTour_36 (by decide) (fun q => ?_) (fun q => ?_)
  · replace h := h.1 q
    refine EW_aload_n (pc2 := 150) rfl dX12_findTour_149 0 rfl ?_
    refine EW_iload_n (pc2 := 151) rfl dX12_findTour_150 1 rfl ?_
    refine AW_puti ⟨gfRX12_611, rfl, rfl⟩ (pc2 := 154) rfl dX12_findTour_151 q246 ?_
    refine EW_aload_n (pc2 := 155) rfl dX12_findTour_154 0 rfl ?_
    refine EW_iload_n (pc2 := 156) rfl dX12_findTour_155 2 rfl ?_
    refine AW_puti ⟨gfRX12_614, rfl, rfl⟩ (pc2 := 159) rfl dX12_findTour_156 q246 ?_
    refine EW_aload_n (pc2 := 160) rfl dX12_findTour_159 0 rfl ?_
    refine EW_iconst (pc2 := 161) (v := (-1)) rfl dX12_findTour_160 (by decide) ?_
    refine AW_puti ⟨gfRX12_617, rfl, rfl⟩ (pc2 := 164) rfl dX12_findTour_161 q246 ?_
    refine EW_aload_n (pc2 := 165) rfl dX12_findTour_164 0 rfl ?_
    refine EW_iconst (pc2 := 166) (v := 0) rfl dX12_findTour_165 (by decide) ?_
    refine EW_iload_n (pc2 := 167) rfl dX12_findTour_166 1 rfl ?_
    refine EW_iconst (pc2 := 168) (v := 0) rfl dX12_findTour_167 (by decide) ?_
    refine EW_iconst (pc2 := 169) (v := 0) rfl dX12_findTour_168 (by decide) ?_
    refine AW_invV (M' := MX12_tours) [.int 0, .int v1, .int 0, .int 0] (rest := []) mlRX12_626 okX12_tours (pc2 := 172) rfl dX12_findTour_169 rfl rfl (Nat.le_of_ble_eq_true rfl) (Nat.le_of_ble_eq_true rfl) (d' := 102) (by omega) q246 ⟨by decide, rfl⟩ (EW_mono (fun _ _ hr => ?_) (sX12_tours 0 v1 0 0  (wr (wr (wr x 246 104 v1) 246 105 v2) 246 108 (-1)) _ _ 0 0 (Nat.le_refl _) h))
    obtain ⟨x3, rfl, rfl, h⟩ := hr
    refine EW_iconst (pc2 := 173) (v := 1) rfl dX12_findTour_172 (by decide) ?_
    exact AW_zret rfl isB1 dX12_findTour_173 ⟨_, _, rfl, rfl, h⟩
  · replace h := h.2 q
    refine EW_aload_n (pc2 := 40) rfl dX12_findTour_39 0 rfl ?_
    refine AW_getr (r := 327) ⟨gfRX12_265, rfl⟩ (pc2 := 43) rfl dX12_findTour_40 q246 rfl ?_
    refine EW_iload (pc2 := 45) rfl dX12_findTour_43 4 rfl ?_
    refine EW_iload_n (pc2 := 46) rfl dX12_findTour_45 3 rfl ?_
    refine EW_bipush (pc2 := 48) (v := 8) rfl dX12_findTour_46 (by decide) ?_
    refine EW_icmp_ge (tgt := 73) (pc2 := 51) rfl dX12_findTour_48 (by decide) (fun q => ?_) (fun q => ?_)
    · replace h := h.1 q
      exact sX12_findTour_73 v1 v2 v3 v4 v4 x K L30 d bc bs hdp hL30 h
    · replace h := h.2 q
      refine EW_aload_n (pc2 := 52) rfl dX12_findTour_51 0 rfl ?_
      refine EW_iload_n (pc2 := 53) rfl dX12_findTour_52 1 rfl ?_
      refine EW_aload_n (pc2 := 54) rfl dX12_findTour_53 0 rfl ?_
      refine AW_getr (r := 254) ⟨gfRX12_32, rfl⟩ (pc2 := 57) rfl dX12_findTour_54 q246 rfl ?_
      refine EW_iload (pc2 := 59) rfl dX12_findTour_57 4 rfl ?_
      obtain ⟨b4, h⟩ := h
      refine AW_iald (pc2 := 60) rfl dX12_findTour_59 q254 b4 ?_
      refine AW_invV (M' := MX12_walkOf) [.int v1, .int (x.1 254 (Int32.toNatClampNeg v4))] (rest := [.int v4, .ref 327]) mlRX12_328 okX12_walkOf (pc2 := 63) rfl dX12_findTour_60 rfl rfl (Nat.le_of_ble_eq_true rfl) (Nat.le_of_ble_eq_true rfl) (d' := 0) (by omega) q246 ⟨by decide, rfl⟩ (EW_mono (fun _ _ hr => ?_) (sX12_walkOf v1 (x.1 254 (Int32.toNatClampNeg v4))  x _ _ 0 0 (Nat.le_refl _) h))
      obtain ⟨r5, rfl, rfl, h⟩ := hr
      refine EW_ldcw cnRX12_296 (pc2 := 66) rfl dX12_findTour_63 ?_
      refine EW_icmp_ge (tgt := 73) (pc2 := 69) rfl dX12_findTour_66 (by decide) (fun q => ?_) (fun q => ?_)
      · replace h := h.1 q
        exact sX12_findTour_73 v1 v2 v3 v4 v4 x K L30 d bc bs hdp hL30 h
      · replace h := h.2 q
        refine EW_iconst (pc2 := 70) (v := 1) rfl dX12_findTour_69 (by decide) ?_
        refine EW_goto (tgt := 74) dX12_findTour_70 (by decide) ?_
        exact sX12_findTour_74 v1 v2 v3 v4 v4 1 x K L30 d bc bs hdp hL30 h
set_option maxHeartbeats 4000000 in
set_option maxRecDepth 100000 in
theorem sX12_findTour (v1 : Int32) (v2 : Int32)  (x : ab_X) (K : Int32 → ab_X → Prop) (d bc bs : Nat) (hdp : 211 ≤ d) (h : wX12_findTour v1 v2 x K) : EW MX12_findTour 0 [(0, .ref 246), (1, .int v1), (2, .int v2)] [] (aS x) d bc bs (liI K) := by
  unfold wX12_findTour at h
  refine EW_aload_n (pc2 := 1) rfl dX12_findTour_0 0 rfl ?_
  refine EW_iconst (pc2 := 2) (v := 0) rfl dX12_findTour_1 (by decide) ?_
  refine AW_puti ⟨gfRX12_297, rfl, rfl⟩ (pc2 := 5) rfl dX12_findTour_2 q246 ?_
  refine EW_iload_n (pc2 := 6) rfl dX12_findTour_5 1 rfl ?_
  refine AW_invS (M' := MX12_isCorner) [.int v1] (rest := []) mlRX12_303 okX12_isCorner (pc2 := 9) rfl dX12_findTour_6 rfl rfl (Nat.le_of_ble_eq_true rfl) (Nat.le_of_ble_eq_true rfl) (d' := 0) (by omega) (EW_mono (fun _ _ hr => ?_) (sX12_isCorner v1  (wr x 246 0 0) _ _ 0 0 (Nat.le_refl _) h))
  obtain ⟨r1, rfl, rfl, h⟩ := hr
  refine EW_if_eq (tgt := 23) (pc2 := 12) rfl dX12_findTour_9 (by decide) (fun q => ?_) (fun q => ?_)
  · replace h := h.1 q
    refine EW_iconst (pc2 := 24) (v := 0) rfl dX12_findTour_23 (by decide) ?_
    exact AW_zret rfl isB0 dX12_findTour_24 ⟨_, _, rfl, rfl, h⟩
  · replace h := h.2 q
    refine EW_iload_n (pc2 := 13) rfl dX12_findTour_12 2 rfl ?_
    refine EW_iconst (pc2 := 14) (v := 0) rfl dX12_findTour_13 (by decide) ?_
    refine EW_sipush (pc2 := 17) (v := 500) rfl dX12_findTour_14 (by decide) ?_
    refine AW_invS (M' := MX12_isIn) [.int v2, .int 0, .int 500] (rest := []) mlRX12_307 okX12_isIn (pc2 := 20) rfl dX12_findTour_17 rfl rfl (Nat.le_of_ble_eq_true rfl) (Nat.le_of_ble_eq_true rfl) (d' := 0) (by omega) (EW_mono (fun _ _ hr => ?_) (sX12_isIn v2 0 500  (wr x 246 0 0) _ _ 0 0 (Nat.le_refl _) h))
    obtain ⟨r2, rfl, rfl, h⟩ := hr
    refine EW_if_ne (tgt := 25) (pc2 := 23) rfl dX12_findTour_20 (by decide) (fun q => ?_) (fun q => ?_)
    · replace h := h.1 q
      refine EW_iconst (pc2 := 26) (v := 0) rfl dX12_findTour_25 (by decide) ?_
      refine EW_istore_n (pc2 := 27) rfl dX12_findTour_26 (by decide) [1, 2, 3, 0] [(0, .ref 246), (1, .int v1), (2, .int v2), (3, .int 0)] rfl ?_
      refine EW_iconst (pc2 := 28) (v := 0) rfl dX12_findTour_27 (by decide) ?_
      refine EW_istore (pc2 := 30) rfl dX12_findTour_28 (by decide) [1, 2, 3, 4, 0] [(0, .ref 246), (1, .int v1), (2, .int v2), (3, .int 0), (4, .int 0)] rfl ?_
      exact sX12_findTour_30 v1 v2 0 0 (wr x 246 0 0) K d bc bs hdp h
    · replace h := h.2 q
      refine EW_iconst (pc2 := 24) (v := 0) rfl dX12_findTour_23 (by decide) ?_
      exact AW_zret rfl isB0 dX12_findTour_24 ⟨_, _, rfl, rfl, h⟩
abbrev MX12_isFloor : ab_M := (yX12_isFloor, cX12_isFloor, 3, (some .boolean))
theorem dX12_isFloor_0 : decode cX12_isFloor 0 = .ok (.aload_n 0, 1) := by decide +kernel
theorem dX12_isFloor_1 : decode cX12_isFloor 1 = .ok (.iload_n 1, 1) := by decide +kernel
theorem dX12_isFloor_2 : decode cX12_isFloor 2 = .ok (.invokevirtual 334, 3) := by decide +kernel
theorem dX12_isFloor_5 : decode cX12_isFloor 5 = .ok (.ifCond .eq 21, 3) := by decide +kernel
theorem dX12_isFloor_8 : decode cX12_isFloor 8 = .ok (.iload_n 2, 1) := by decide +kernel
theorem dX12_isFloor_9 : decode cX12_isFloor 9 = .ok (.ifCond .lt 17, 3) := by decide +kernel
theorem dX12_isFloor_12 : decode cX12_isFloor 12 = .ok (.iload_n 2, 1) := by decide +kernel
theorem dX12_isFloor_13 : decode cX12_isFloor 13 = .ok (.aload_n 0, 1) := by decide +kernel
theorem dX12_isFloor_14 : decode cX12_isFloor 14 = .ok (.getfield 38, 3) := by decide +kernel
theorem dX12_isFloor_17 : decode cX12_isFloor 17 = .ok (.iload_n 1, 1) := by decide +kernel
theorem dX12_isFloor_18 : decode cX12_isFloor 18 = .ok (.iaload, 1) := by decide +kernel
theorem dX12_isFloor_19 : decode cX12_isFloor 19 = .ok (.if_icmp .ge 7, 3) := by decide +kernel
theorem dX12_isFloor_22 : decode cX12_isFloor 22 = .ok (.iconst 1, 1) := by decide +kernel
theorem dX12_isFloor_23 : decode cX12_isFloor 23 = .ok (.goto 4, 3) := by decide +kernel
theorem dX12_isFloor_26 : decode cX12_isFloor 26 = .ok (.iconst 0, 1) := by decide +kernel
theorem dX12_isFloor_27 : decode cX12_isFloor 27 = .ok (.ireturn, 1) := by decide +kernel
theorem okX12_isFloor : ab_okM MX12_isFloor 2 := ⟨by decide, ⟨by decide, by decide⟩, ab_in 2279 (by decide +kernel) (by decide +kernel), ab_in 99 (by decide +kernel) (by decide +kernel), by decide +kernel, by decide⟩
set_option maxHeartbeats 4000000 in
set_option maxRecDepth 100000 in
theorem sX12_isFloor (v1 : Int32) (v2 : Int32)  (x : ab_X) (K : Int32 → Prop) (d bc bs : Nat) (hdp : 1 ≤ d) (h : wX12_isFloor v1 v2 x K) : EW MX12_isFloor 0 [(0, .ref 246), (1, .int v1), (2, .int v2)] [] (aS x) d bc bs (liP x K) := by
  unfold wX12_isFloor at h
  refine EW_aload_n (pc2 := 1) rfl dX12_isFloor_0 0 rfl ?_
  refine EW_iload_n (pc2 := 2) rfl dX12_isFloor_1 1 rfl ?_
  refine AW_invV (M' := MX12_isHouse) [.int v1] (rest := []) mlRX12_334 okX12_isHouse (pc2 := 5) rfl dX12_isFloor_2 rfl rfl (Nat.le_of_ble_eq_true rfl) (Nat.le_of_ble_eq_true rfl) (d' := 0) (by omega) q246 ⟨by decide, rfl⟩ (EW_mono (fun _ _ hr => ?_) (sX12_isHouse v1  x _ _ 0 0 (Nat.le_refl _) h))
  obtain ⟨r1, rfl, rfl, h⟩ := hr
  refine EW_if_eq (tgt := 26) (pc2 := 8) rfl dX12_isFloor_5 (by decide) (fun q => ?_) (fun q => ?_)
  · replace h := h.1 q
    refine EW_iconst (pc2 := 27) (v := 0) rfl dX12_isFloor_26 (by decide) ?_
    exact AW_zret rfl isB0 dX12_isFloor_27 ⟨_, rfl, rfl, h⟩
  · replace h := h.2 q
    refine EW_iload_n (pc2 := 9) rfl dX12_isFloor_8 2 rfl ?_
    refine EW_if_lt (tgt := 26) (pc2 := 12) rfl dX12_isFloor_9 (by decide) (fun q => ?_) (fun q => ?_)
    · replace h := h.1 q
      refine EW_iconst (pc2 := 27) (v := 0) rfl dX12_isFloor_26 (by decide) ?_
      exact AW_zret rfl isB0 dX12_isFloor_27 ⟨_, rfl, rfl, h⟩
    · replace h := h.2 q
      refine EW_iload_n (pc2 := 13) rfl dX12_isFloor_12 2 rfl ?_
      refine EW_aload_n (pc2 := 14) rfl dX12_isFloor_13 0 rfl ?_
      refine AW_getr (r := 256) ⟨gfRX12_38, rfl⟩ (pc2 := 17) rfl dX12_isFloor_14 q246 rfl ?_
      refine EW_iload_n (pc2 := 18) rfl dX12_isFloor_17 1 rfl ?_
      obtain ⟨b2, h⟩ := h
      refine AW_iald (pc2 := 19) rfl dX12_isFloor_18 q256 b2 ?_
      refine EW_icmp_ge (tgt := 26) (pc2 := 22) rfl dX12_isFloor_19 (by decide) (fun q => ?_) (fun q => ?_)
      · replace h := h.1 q
        refine EW_iconst (pc2 := 27) (v := 0) rfl dX12_isFloor_26 (by decide) ?_
        exact AW_zret rfl isB0 dX12_isFloor_27 ⟨_, rfl, rfl, h⟩
      · replace h := h.2 q
        refine EW_iconst (pc2 := 23) (v := 1) rfl dX12_isFloor_22 (by decide) ?_
        refine EW_goto (tgt := 27) dX12_isFloor_23 (by decide) ?_
        exact AW_zret rfl isB1 dX12_isFloor_27 ⟨_, rfl, rfl, h⟩
abbrev MX12_mark : ab_M := (yX12_mark, cX12_mark, 3, none)
theorem dX12_mark_0 : decode cX12_mark 0 = .ok (.aload_n 0, 1) := by decide +kernel
theorem dX12_mark_1 : decode cX12_mark 1 = .ok (.iload_n 1, 1) := by decide +kernel
theorem dX12_mark_2 : decode cX12_mark 2 = .ok (.invokevirtual 528, 3) := by decide +kernel
theorem dX12_mark_5 : decode cX12_mark 5 = .ok (.istore_n 2, 1) := by decide +kernel
theorem dX12_mark_6 : decode cX12_mark 6 = .ok (.iload_n 2, 1) := by decide +kernel
theorem dX12_mark_7 : decode cX12_mark 7 = .ok (.iconst (-1), 1) := by decide +kernel
theorem dX12_mark_8 : decode cX12_mark 8 = .ok (.if_icmp .eq 18, 3) := by decide +kernel
theorem dX12_mark_11 : decode cX12_mark 11 = .ok (.aload_n 0, 1) := by decide +kernel
theorem dX12_mark_12 : decode cX12_mark 12 = .ok (.iload_n 1, 1) := by decide +kernel
theorem dX12_mark_13 : decode cX12_mark 13 = .ok (.invokevirtual 531, 3) := by decide +kernel
theorem dX12_mark_16 : decode cX12_mark 16 = .ok (.ifCond .eq 10, 3) := by decide +kernel
theorem dX12_mark_19 : decode cX12_mark 19 = .ok (.aload_n 0, 1) := by decide +kernel
theorem dX12_mark_20 : decode cX12_mark 20 = .ok (.getfield 238, 3) := by decide +kernel
theorem dX12_mark_23 : decode cX12_mark 23 = .ok (.iload_n 2, 1) := by decide +kernel
theorem dX12_mark_24 : decode cX12_mark 24 = .ok (.iconst 1, 1) := by decide +kernel
theorem dX12_mark_25 : decode cX12_mark 25 = .ok (.bastore, 1) := by decide +kernel
theorem dX12_mark_26 : decode cX12_mark 26 = .ok (.return_, 1) := by decide +kernel
theorem okX12_mark : ab_okM MX12_mark 1 := ⟨by decide, ⟨by decide, by decide⟩, ab_in 2283 (by decide +kernel) (by decide +kernel), ab_in 99 (by decide +kernel) (by decide +kernel), by decide +kernel, by decide⟩
set_option maxHeartbeats 4000000 in
set_option maxRecDepth 100000 in
theorem sX12_mark (v1 : Int32)  (x : ab_X) (K : ab_X → Prop) (d bc bs : Nat) (hdp : 4 ≤ d) (h : wX12_mark v1 x K) : EW MX12_mark 0 [(0, .ref 246), (1, .int v1)] [] (aS x) d bc bs (liV K) := by
  unfold wX12_mark at h
  refine EW_aload_n (pc2 := 1) rfl dX12_mark_0 0 rfl ?_
  refine EW_iload_n (pc2 := 2) rfl dX12_mark_1 1 rfl ?_
  refine AW_invV (M' := MX12_openAt) [.int v1] (rest := []) mlRX12_528 okX12_openAt (pc2 := 5) rfl dX12_mark_2 rfl rfl (Nat.le_of_ble_eq_true rfl) (Nat.le_of_ble_eq_true rfl) (d' := 0) (by omega) q246 ⟨by decide, rfl⟩ (EW_mono (fun _ _ hr => ?_) (sX12_openAt v1  x _ _ 0 0 (Nat.le_refl _) h))
  obtain ⟨r1, rfl, rfl, h⟩ := hr
  refine EW_istore_n (pc2 := 6) rfl dX12_mark_5 (by decide) [1, 2, 0] [(0, .ref 246), (1, .int v1), (2, .int r1)] rfl ?_
  refine EW_iload_n (pc2 := 7) rfl dX12_mark_6 2 rfl ?_
  refine EW_iconst (pc2 := 8) (v := (-1)) rfl dX12_mark_7 (by decide) ?_
  refine EW_icmp_eq (tgt := 26) (pc2 := 11) rfl dX12_mark_8 (by decide) (fun q => ?_) (fun q => ?_)
  · replace h := h.1 q
    exact EW_vret rfl dX12_mark_26 ⟨_, rfl, rfl, h⟩
  · replace h := h.2 q
    refine EW_aload_n (pc2 := 12) rfl dX12_mark_11 0 rfl ?_
    refine EW_iload_n (pc2 := 13) rfl dX12_mark_12 1 rfl ?_
    refine AW_invV (M' := MX12_burnsAt) [.int v1] (rest := []) mlRX12_531 okX12_burnsAt (pc2 := 16) rfl dX12_mark_13 rfl rfl (Nat.le_of_ble_eq_true rfl) (Nat.le_of_ble_eq_true rfl) (d' := 3) (by omega) q246 ⟨by decide, rfl⟩ (EW_mono (fun _ _ hr => ?_) (sX12_burnsAt v1  x _ _ 0 0 (Nat.le_refl _) h))
    obtain ⟨r2, rfl, rfl, h⟩ := hr
    refine EW_if_eq (tgt := 26) (pc2 := 19) rfl dX12_mark_16 (by decide) (fun q => ?_) (fun q => ?_)
    · replace h := h.1 q
      exact EW_vret rfl dX12_mark_26 ⟨_, rfl, rfl, h⟩
    · replace h := h.2 q
      refine EW_aload_n (pc2 := 20) rfl dX12_mark_19 0 rfl ?_
      refine AW_getr (r := 318) ⟨gfRX12_238, rfl⟩ (pc2 := 23) rfl dX12_mark_20 q246 rfl ?_
      refine EW_iload_n (pc2 := 24) rfl dX12_mark_23 2 rfl ?_
      refine EW_iconst (pc2 := 25) (v := 1) rfl dX12_mark_24 (by decide) ?_
      obtain ⟨b3, h⟩ := h
      refine AW_zast (pc2 := 26) rfl dX12_mark_25 q318 b3 isB1 ?_
      exact EW_vret rfl dX12_mark_26 ⟨_, rfl, rfl, h⟩
