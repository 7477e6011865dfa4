theorem mlRX12_417 : Cond.methodLink RX12 417 yX12_bytesIn ∈ ab_G ∧ Cond.static yX12_bytesIn ∈ ab_G := ⟨ab_in 2393 (by decide +kernel) (by decide +kernel), ab_in 2394 (by decide +kernel) (by decide +kernel)⟩
theorem mlRX12_420 : Cond.methodLink RX12 420 yX12_put4 ∈ ab_G ∧ Cond.instanceMethod yX12_put4 ∈ ab_G ∧ Cond.selects RX12 yX12_put4 yX12_put4 ∈ ab_G := ⟨ab_in 2396 (by decide +kernel) (by decide +kernel), ab_in 2398 (by decide +kernel) (by decide +kernel), ab_in 34 (by decide +kernel) (by decide +kernel)⟩
abbrev MX12_feed : ab_M := (yX12_feed, cX12_feed, 6, (some .int))
theorem dX12_feed_0 : decode cX12_feed 0 = .ok (.aload_n 0, 1) := by decide +kernel
theorem dX12_feed_1 : decode cX12_feed 1 = .ok (.iconst 0, 1) := by decide +kernel
theorem dX12_feed_2 : decode cX12_feed 2 = .ok (.putfield 297, 3) := by decide +kernel
theorem dX12_feed_5 : decode cX12_feed 5 = .ok (.aload_n 0, 1) := by decide +kernel
theorem dX12_feed_6 : decode cX12_feed 6 = .ok (.getfield 414, 3) := by decide +kernel
theorem dX12_feed_9 : decode cX12_feed 9 = .ok (.iload_n 1, 1) := by decide +kernel
theorem dX12_feed_10 : decode cX12_feed 10 = .ok (.invokestatic 417, 3) := by decide +kernel
theorem dX12_feed_13 : decode cX12_feed 13 = .ok (.iadd, 1) := by decide +kernel
theorem dX12_feed_14 : decode cX12_feed 14 = .ok (.iload_n 2, 1) := by decide +kernel
theorem dX12_feed_15 : decode cX12_feed 15 = .ok (.invokestatic 417, 3) := by decide +kernel
theorem dX12_feed_18 : decode cX12_feed 18 = .ok (.iadd, 1) := by decide +kernel
theorem dX12_feed_19 : decode cX12_feed 19 = .ok (.iload_n 3, 1) := by decide +kernel
theorem dX12_feed_20 : decode cX12_feed 20 = .ok (.invokestatic 417, 3) := by decide +kernel
theorem dX12_feed_23 : decode cX12_feed 23 = .ok (.iadd, 1) := by decide +kernel
theorem dX12_feed_24 : decode cX12_feed 24 = .ok (.iload 4, 2) := by decide +kernel
theorem dX12_feed_26 : decode cX12_feed 26 = .ok (.invokestatic 417, 3) := by decide +kernel
theorem dX12_feed_29 : decode cX12_feed 29 = .ok (.iadd, 1) := by decide +kernel
theorem dX12_feed_30 : decode cX12_feed 30 = .ok (.iload 5, 2) := by decide +kernel
theorem dX12_feed_32 : decode cX12_feed 32 = .ok (.invokestatic 417, 3) := by decide +kernel
theorem dX12_feed_35 : decode cX12_feed 35 = .ok (.iadd, 1) := by decide +kernel
theorem dX12_feed_36 : decode cX12_feed 36 = .ok (.sipush 200, 3) := by decide +kernel
theorem dX12_feed_39 : decode cX12_feed 39 = .ok (.if_icmp .le 5, 3) := by decide +kernel
theorem dX12_feed_42 : decode cX12_feed 42 = .ok (.iconst (-1), 1) := by decide +kernel
theorem dX12_feed_43 : decode cX12_feed 43 = .ok (.ireturn, 1) := by decide +kernel
theorem dX12_feed_44 : decode cX12_feed 44 = .ok (.aload_n 0, 1) := by decide +kernel
theorem dX12_feed_45 : decode cX12_feed 45 = .ok (.iload_n 1, 1) := by decide +kernel
theorem dX12_feed_46 : decode cX12_feed 46 = .ok (.invokevirtual 420, 3) := by decide +kernel
theorem dX12_feed_49 : decode cX12_feed 49 = .ok (.aload_n 0, 1) := by decide +kernel
theorem dX12_feed_50 : decode cX12_feed 50 = .ok (.iload_n 2, 1) := by decide +kernel
theorem dX12_feed_51 : decode cX12_feed 51 = .ok (.invokevirtual 420, 3) := by decide +kernel
theorem dX12_feed_54 : decode cX12_feed 54 = .ok (.aload_n 0, 1) := by decide +kernel
theorem dX12_feed_55 : decode cX12_feed 55 = .ok (.iload_n 3, 1) := by decide +kernel
theorem dX12_feed_56 : decode cX12_feed 56 = .ok (.invokevirtual 420, 3) := by decide +kernel
theorem dX12_feed_59 : decode cX12_feed 59 = .ok (.aload_n 0, 1) := by decide +kernel
theorem dX12_feed_60 : decode cX12_feed 60 = .ok (.iload 4, 2) := by decide +kernel
theorem dX12_feed_62 : decode cX12_feed 62 = .ok (.invokevirtual 420, 3) := by decide +kernel
theorem dX12_feed_65 : decode cX12_feed 65 = .ok (.aload_n 0, 1) := by decide +kernel
theorem dX12_feed_66 : decode cX12_feed 66 = .ok (.iload 5, 2) := by decide +kernel
theorem dX12_feed_68 : decode cX12_feed 68 = .ok (.invokevirtual 420, 3) := by decide +kernel
theorem dX12_feed_71 : decode cX12_feed 71 = .ok (.aload_n 0, 1) := by decide +kernel
theorem dX12_feed_72 : decode cX12_feed 72 = .ok (.getfield 414, 3) := by decide +kernel
theorem dX12_feed_75 : decode cX12_feed 75 = .ok (.ireturn, 1) := by decide +kernel
theorem okX12_feed : ab_okM MX12_feed 5 := ⟨by decide, ⟨by decide, by decide⟩, ab_in 2392 (by decide +kernel) (by decide +kernel), ab_in 99 (by decide +kernel) (by decide +kernel), by decide +kernel, by decide⟩
set_option maxHeartbeats 4000000 in
set_option maxRecDepth 100000 in
def wX12_feed (v1 : Int32) (v2 : Int32) (v3 : Int32) (v4 : Int32) (v5 : Int32) (x : ab_X) (K : Int32 → ab_X → Prop) : Prop := wX12_bytesIn v1 (wr x 246 0 0) (fun r1 => wX12_bytesIn v2 (wr x 246 0 0) (fun r2 => wX12_bytesIn v3 (wr x 246 0 0) (fun r3 => wX12_bytesIn v4 (wr x 246 0 0) (fun r4 => wX12_bytesIn v5 (wr x 246 0 0) (fun r5 => (((((((((wr x 246 0 0).1 246 70) + r1) + r2) + r3) + r4) + r5) ≤ 200 → wX12_put4 v1 (wr x 246 0 0) (fun x6 => wX12_put4 v2 x6 (fun x7 => wX12_put4 v3 x7 (fun x8 => wX12_put4 v4 x8 (fun x9 => wX12_put4 v5 x9 (fun x10 => K (x10.1 246 70) x10)))))) ∧ (¬ (((((((wr x 246 0 0).1 246 70) + r1) + r2) + r3) + r4) + r5) ≤ 200 → K (-1) (wr x 246 0 0))))))))
set_option maxHeartbeats 4000000 in
set_option maxRecDepth 100000 in
theorem sX12_feed (v1 : Int32) (v2 : Int32) (v3 : Int32) (v4 : Int32) (v5 : Int32)  (x : ab_X) (K : Int32 → ab_X → Prop) (d bc bs : Nat) (hdp : 1 ≤ d) (h : wX12_feed v1 v2 v3 v4 v5 x K) : EW MX12_feed 0 [(0, .ref 246), (1, .int v1), (2, .int v2), (3, .int v3), (4, .int v4), (5, .int v5)] [] (aS x) d bc bs (liI K) := by
  unfold wX12_feed at h
  refine EW_aload_n (pc2 := 1) rfl dX12_feed_0 0 rfl ?_
  refine EW_iconst (pc2 := 2) (v := 0) rfl dX12_feed_1 (by decide) ?_
  refine AW_puti ⟨gfRX12_297, rfl, rfl⟩ (pc2 := 5) rfl dX12_feed_2 q246 ?_
  refine EW_aload_n (pc2 := 6) rfl dX12_feed_5 0 rfl ?_
  refine AW_geti ⟨gfRX12_414, rfl⟩ (pc2 := 9) rfl dX12_feed_6 q246 ?_
  refine EW_iload_n (pc2 := 10) rfl dX12_feed_9 1 rfl ?_
  refine AW_invS (M' := MX12_bytesIn) [.int v1] (rest := [.int ((wr x 246 0 0).1 246 70)]) mlRX12_417 okX12_bytesIn (pc2 := 13) rfl dX12_feed_10 rfl rfl (Nat.le_of_ble_eq_true rfl) (Nat.le_of_ble_eq_true rfl) (d' := 0) (by omega) (EW_mono (fun _ _ hr => ?_) (sX12_bytesIn v1  (wr x 246 0 0) _ _ 0 0 (Nat.le_refl _) h))
  obtain ⟨r1, rfl, rfl, h⟩ := hr
  refine EW_iadd (pc2 := 14) rfl dX12_feed_13 ?_
  refine EW_iload_n (pc2 := 15) rfl dX12_feed_14 2 rfl ?_
  refine AW_invS (M' := MX12_bytesIn) [.int v2] (rest := [.int (((wr x 246 0 0).1 246 70) + r1)]) mlRX12_417 okX12_bytesIn (pc2 := 18) rfl dX12_feed_15 rfl rfl (Nat.le_of_ble_eq_true rfl) (Nat.le_of_ble_eq_true rfl) (d' := 0) (by omega) (EW_mono (fun _ _ hr => ?_) (sX12_bytesIn v2  (wr x 246 0 0) _ _ 0 0 (Nat.le_refl _) h))
  obtain ⟨r2, rfl, rfl, h⟩ := hr
  refine EW_iadd (pc2 := 19) rfl dX12_feed_18 ?_
  refine EW_iload_n (pc2 := 20) rfl dX12_feed_19 3 rfl ?_
  refine AW_invS (M' := MX12_bytesIn) [.int v3] (rest := [.int ((((wr x 246 0 0).1 246 70) + r1) + r2)]) mlRX12_417 okX12_bytesIn (pc2 := 23) rfl dX12_feed_20 rfl rfl (Nat.le_of_ble_eq_true rfl) (Nat.le_of_ble_eq_true rfl) (d' := 0) (by omega) (EW_mono (fun _ _ hr => ?_) (sX12_bytesIn v3  (wr x 246 0 0) _ _ 0 0 (Nat.le_refl _) h))
  obtain ⟨r3, rfl, rfl, h⟩ := hr
  refine EW_iadd (pc2 := 24) rfl dX12_feed_23 ?_
  refine EW_iload (pc2 := 26) rfl dX12_feed_24 4 rfl ?_
  refine AW_invS (M' := MX12_bytesIn) [.int v4] (rest := [.int (((((wr x 246 0 0).1 246 70) + r1) + r2) + r3)]) mlRX12_417 okX12_bytesIn (pc2 := 29) rfl dX12_feed_26 rfl rfl (Nat.le_of_ble_eq_true rfl) (Nat.le_of_ble_eq_true rfl) (d' := 0) (by omega) (EW_mono (fun _ _ hr => ?_) (sX12_bytesIn v4  (wr x 246 0 0) _ _ 0 0 (Nat.le_refl _) h))
  obtain ⟨r4, rfl, rfl, h⟩ := hr
  refine EW_iadd (pc2 := 30) rfl dX12_feed_29 ?_
  refine EW_iload (pc2 := 32) rfl dX12_feed_30 5 rfl ?_
  refine AW_invS (M' := MX12_bytesIn) [.int v5] (rest := [.int ((((((wr x 246 0 0).1 246 70) + r1) + r2) + r3) + r4)]) mlRX12_417 okX12_bytesIn (pc2 := 35) rfl dX12_feed_32 rfl rfl (Nat.le_of_ble_eq_true rfl) (Nat.le_of_ble_eq_true rfl) (d' := 0) (by omega) (EW_mono (fun _ _ hr => ?_) (sX12_bytesIn v5  (wr x 246 0 0) _ _ 0 0 (Nat.le_refl _) h))
  obtain ⟨r5, rfl, rfl, h⟩ := hr
  refine EW_iadd (pc2 := 36) rfl dX12_feed_35 ?_
  refine EW_sipush (pc2 := 39) (v := 200) rfl dX12_feed_36 (by decide) ?_
  refine EW_icmp_le (tgt := 44) (pc2 := 42) rfl dX12_feed_39 (by decide) (fun q => ?_) (fun q => ?_)
  · replace h := h.1 q
    refine EW_aload_n (pc2 := 45) rfl dX12_feed_44 0 rfl ?_
    refine EW_iload_n (pc2 := 46) rfl dX12_feed_45 1 rfl ?_
    refine AW_invV (M' := MX12_put4) [.int v1] (rest := []) mlRX12_420 okX12_put4 (pc2 := 49) rfl dX12_feed_46 rfl rfl (Nat.le_of_ble_eq_true rfl) (Nat.le_of_ble_eq_true rfl) (d' := 0) (by omega) q246 ⟨by decide, rfl⟩ (EW_mono (fun _ _ hr => ?_) (sX12_put4 v1  (wr x 246 0 0) _ _ 0 0 (Nat.le_refl _) h))
    obtain ⟨x6, rfl, rfl, h⟩ := hr
    refine EW_aload_n (pc2 := 50) rfl dX12_feed_49 0 rfl ?_
    refine EW_iload_n (pc2 := 51) rfl dX12_feed_50 2 rfl ?_
    refine AW_invV (M' := MX12_put4) [.int v2] (rest := []) mlRX12_420 okX12_put4 (pc2 := 54) rfl dX12_feed_51 rfl rfl (Nat.le_of_ble_eq_true rfl) (Nat.le_of_ble_eq_true rfl) (d' := 0) (by omega) q246 ⟨by decide, rfl⟩ (EW_mono (fun _ _ hr => ?_) (sX12_put4 v2  x6 _ _ 0 0 (Nat.le_refl _) h))
    obtain ⟨x7, rfl, rfl, h⟩ := hr
    refine EW_aload_n (pc2 := 55) rfl dX12_feed_54 0 rfl ?_
    refine EW_iload_n (pc2 := 56) rfl dX12_feed_55 3 rfl ?_
    refine AW_invV (M' := MX12_put4) [.int v3] (rest := []) mlRX12_420 okX12_put4 (pc2 := 59) rfl dX12_feed_56 rfl rfl (Nat.le_of_ble_eq_true rfl) (Nat.le_of_ble_eq_true rfl) (d' := 0) (by omega) q246 ⟨by decide, rfl⟩ (EW_mono (fun _ _ hr => ?_) (sX12_put4 v3  x7 _ _ 0 0 (Nat.le_refl _) h))
    obtain ⟨x8, rfl, rfl, h⟩ := hr
    refine EW_aload_n (pc2 := 60) rfl dX12_feed_59 0 rfl ?_
    refine EW_iload (pc2 := 62) rfl dX12_feed_60 4 rfl ?_
    refine AW_invV (M' := MX12_put4) [.int v4] (rest := []) mlRX12_420 okX12_put4 (pc2 := 65) rfl dX12_feed_62 rfl rfl (Nat.le_of_ble_eq_true rfl) (Nat.le_of_ble_eq_true rfl) (d' := 0) (by omega) q246 ⟨by decide, rfl⟩ (EW_mono (fun _ _ hr => ?_) (sX12_put4 v4  x8 _ _ 0 0 (Nat.le_refl _) h))
    obtain ⟨x9, rfl, rfl, h⟩ := hr
    refine EW_aload_n (pc2 := 66) rfl dX12_feed_65 0 rfl ?_
    refine EW_iload (pc2 := 68) rfl dX12_feed_66 5 rfl ?_
    refine AW_invV (M' := MX12_put4) [.int v5] (rest := []) mlRX12_420 okX12_put4 (pc2 := 71) rfl dX12_feed_68 rfl rfl (Nat.le_of_ble_eq_true rfl) (Nat.le_of_ble_eq_true rfl) (d' := 0) (by omega) q246 ⟨by decide, rfl⟩ (EW_mono (fun _ _ hr => ?_) (sX12_put4 v5  x9 _ _ 0 0 (Nat.le_refl _) h))
    obtain ⟨x10, rfl, rfl, h⟩ := hr
    refine EW_aload_n (pc2 := 72) rfl dX12_feed_71 0 rfl ?_
    refine AW_geti ⟨gfRX12_414, rfl⟩ (pc2 := 75) rfl dX12_feed_72 q246 ?_
    exact AW_iret rfl dX12_feed_75 ⟨_, _, rfl, rfl, h⟩
  · replace h := h.2 q
    refine EW_iconst (pc2 := 43) (v := (-1)) rfl dX12_feed_42 (by decide) ?_
    exact AW_iret rfl dX12_feed_43 ⟨_, _, rfl, rfl, h⟩
theorem gfRX12_22 : ab_L RX12 22 12 6 := ⟨by decide, by decide, ab_in 1855 (by decide +kernel) (by decide +kernel)⟩
abbrev MX12_walkOf : ab_M := (yX12_walkOf, cX12_walkOf, 3, (some .int))
theorem dX12_walkOf_0 : decode cX12_walkOf 0 = .ok (.aload_n 0, 1) := by decide +kernel
theorem dX12_walkOf_1 : decode cX12_walkOf 1 = .ok (.getfield 22, 3) := by decide +kernel
theorem dX12_walkOf_4 : decode cX12_walkOf 4 = .ok (.bipush 20, 2) := by decide +kernel
theorem dX12_walkOf_6 : decode cX12_walkOf 6 = .ok (.iload_n 1, 1) := by decide +kernel
theorem dX12_walkOf_7 : decode cX12_walkOf 7 = .ok (.imul, 1) := by decide +kernel
theorem dX12_walkOf_8 : decode cX12_walkOf 8 = .ok (.iload_n 2, 1) := by decide +kernel
theorem dX12_walkOf_9 : decode cX12_walkOf 9 = .ok (.iadd, 1) := by decide +kernel
theorem dX12_walkOf_10 : decode cX12_walkOf 10 = .ok (.iaload, 1) := by decide +kernel
theorem dX12_walkOf_11 : decode cX12_walkOf 11 = .ok (.ireturn, 1) := by decide +kernel
theorem okX12_walkOf : ab_okM MX12_walkOf 2 := ⟨by decide, ⟨by decide, by decide⟩, ab_in 2259 (by decide +kernel) (by decide +kernel), ab_in 99 (by decide +kernel) (by decide +kernel), by decide +kernel, by decide⟩
set_option maxHeartbeats 4000000 in
set_option maxRecDepth 100000 in
def wX12_walkOf (v1 : Int32) (v2 : Int32) (x : ab_X) (K : Int32 → Prop) : Prop := (vp_in ((20 * v1) + v2) 400 ∧ K (x.1 251 (Int32.toNatClampNeg ((20 * v1) + v2))))
set_option maxHeartbeats 4000000 in
set_option maxRecDepth 100000 in
theorem sX12_walkOf (v1 : Int32) (v2 : Int32)  (x : ab_X) (K : Int32 → Prop) (d bc bs : Nat) (hdp : 0 ≤ d) (h : wX12_walkOf v1 v2 x K) : EW MX12_walkOf 0 [(0, .ref 246), (1, .int v1), (2, .int v2)] [] (aS x) d bc bs (liP x K) := by
  unfold wX12_walkOf at h
  refine EW_aload_n (pc2 := 1) rfl dX12_walkOf_0 0 rfl ?_
  refine AW_getr (r := 251) ⟨gfRX12_22, rfl⟩ (pc2 := 4) rfl dX12_walkOf_1 q246 rfl ?_
  refine EW_bipush (pc2 := 6) (v := 20) rfl dX12_walkOf_4 (by decide) ?_
  refine EW_iload_n (pc2 := 7) rfl dX12_walkOf_6 1 rfl ?_
  refine EW_imul (pc2 := 8) rfl dX12_walkOf_7 ?_
  refine EW_iload_n (pc2 := 9) rfl dX12_walkOf_8 2 rfl ?_
  refine EW_iadd (pc2 := 10) rfl dX12_walkOf_9 ?_
  obtain ⟨b1, h⟩ := h
  refine AW_iald (pc2 := 11) rfl dX12_walkOf_10 q251 b1 ?_
  exact AW_iret rfl dX12_walkOf_11 ⟨_, rfl, rfl, h⟩
theorem mlRX12_328 : Cond.methodLink RX12 328 yX12_walkOf ∈ ab_G ∧ Cond.instanceMethod yX12_walkOf ∈ ab_G ∧ Cond.selects RX12 yX12_walkOf yX12_walkOf ∈ ab_G := ⟨ab_in 2256 (by decide +kernel) (by decide +kernel), ab_in 2258 (by decide +kernel) (by decide +kernel), ab_in 16 (by decide +kernel) (by decide +kernel)⟩
theorem cnRX12_296 : Cond.constant RX12 296 1000000 ∈ ab_G := ab_in 1848 (by decide +kernel) (by decide +kernel)
abbrev MX12_feet : ab_M := (yX12_feet, cX12_feet, 3, (some .int))
theorem dX12_feet_0 : decode cX12_feet 0 = .ok (.aload_n 0, 1) := by decide +kernel
theorem dX12_feet_1 : decode cX12_feet 1 = .ok (.iconst 0, 1) := by decide +kernel
theorem dX12_feet_2 : decode cX12_feet 2 = .ok (.putfield 297, 3) := by decide +kernel
theorem dX12_feet_5 : decode cX12_feet 5 = .ok (.iload_n 1, 1) := by decide +kernel
theorem dX12_feet_6 : decode cX12_feet 6 = .ok (.invokestatic 303, 3) := by decide +kernel
theorem dX12_feet_9 : decode cX12_feet 9 = .ok (.ifCond .eq 34, 3) := by decide +kernel
theorem dX12_feet_12 : decode cX12_feet 12 = .ok (.iload_n 2, 1) := by decide +kernel
theorem dX12_feet_13 : decode cX12_feet 13 = .ok (.invokestatic 303, 3) := by decide +kernel
theorem dX12_feet_16 : decode cX12_feet 16 = .ok (.ifCond .eq 27, 3) := by decide +kernel
theorem dX12_feet_19 : decode cX12_feet 19 = .ok (.aload_n 0, 1) := by decide +kernel
theorem dX12_feet_20 : decode cX12_feet 20 = .ok (.iload_n 1, 1) := by decide +kernel
theorem dX12_feet_21 : decode cX12_feet 21 = .ok (.iload_n 2, 1) := by decide +kernel
theorem dX12_feet_22 : decode cX12_feet 22 = .ok (.invokevirtual 328, 3) := by decide +kernel
theorem dX12_feet_25 : decode cX12_feet 25 = .ok (.ldc_w 296, 3) := by decide +kernel
theorem dX12_feet_28 : decode cX12_feet 28 = .ok (.if_icmp .ge 15, 3) := by decide +kernel
theorem dX12_feet_31 : decode cX12_feet 31 = .ok (.bipush 100, 2) := by decide +kernel
theorem dX12_feet_33 : decode cX12_feet 33 = .ok (.aload_n 0, 1) := by decide +kernel
theorem dX12_feet_34 : decode cX12_feet 34 = .ok (.iload_n 1, 1) := by decide +kernel
theorem dX12_feet_35 : decode cX12_feet 35 = .ok (.iload_n 2, 1) := by decide +kernel
theorem dX12_feet_36 : decode cX12_feet 36 = .ok (.invokevirtual 328, 3) := by decide +kernel
theorem dX12_feet_39 : decode cX12_feet 39 = .ok (.imul, 1) := by decide +kernel
theorem dX12_feet_40 : decode cX12_feet 40 = .ok (.goto 4, 3) := by decide +kernel
theorem dX12_feet_43 : decode cX12_feet 43 = .ok (.iconst (-1), 1) := by decide +kernel
theorem dX12_feet_44 : decode cX12_feet 44 = .ok (.ireturn, 1) := by decide +kernel
theorem okX12_feet : ab_okM MX12_feet 2 := ⟨by decide, ⟨by decide, by decide⟩, ab_in 2255 (by decide +kernel) (by decide +kernel), ab_in 99 (by decide +kernel) (by decide +kernel), by decide +kernel, by decide⟩
set_option maxHeartbeats 4000000 in
set_option maxRecDepth 100000 in
def wX12_feet (v1 : Int32) (v2 : Int32) (x : ab_X) (K : Int32 → ab_X → Prop) : Prop := wX12_isCorner v1 (wr x 246 0 0) (fun r1 => ((r1 = 0 → K (-1) (wr x 246 0 0)) ∧ (¬ r1 = 0 → wX12_isCorner v2 (wr x 246 0 0) (fun r2 => ((r2 = 0 → K (-1) (wr x 246 0 0)) ∧ (¬ r2 = 0 → wX12_walkOf v1 v2 (wr x 246 0 0) (fun r3 => ((1000000 ≤ r3 → K (-1) (wr x 246 0 0)) ∧ (¬ 1000000 ≤ r3 → wX12_walkOf v1 v2 (wr x 246 0 0) (fun r4 => K (100 * r4) (wr x 246 0 0)))))))))))
set_option maxHeartbeats 4000000 in
set_option maxRecDepth 100000 in
theorem sX12_feet (v1 : Int32) (v2 : Int32)  (x : ab_X) (K : Int32 → ab_X → Prop) (d bc bs : Nat) (hdp : 1 ≤ d) (h : wX12_feet v1 v2 x K) : EW MX12_feet 0 [(0, .ref 246), (1, .int v1), (2, .int v2)] [] (aS x) d bc bs (liI K) := by
  unfold wX12_feet at h
  refine EW_aload_n (pc2 := 1) rfl dX12_feet_0 0 rfl ?_
  refine EW_iconst (pc2 := 2) (v := 0) rfl dX12_feet_1 (by decide) ?_
  refine AW_puti ⟨gfRX12_297, rfl, rfl⟩ (pc2 := 5) rfl dX12_feet_2 q246 ?_
  refine EW_iload_n (pc2 := 6) rfl dX12_feet_5 1 rfl ?_
  refine AW_invS (M' := MX12_isCorner) [.int v1] (rest := []) mlRX12_303 okX12_isCorner (pc2 := 9) rfl dX12_feet_6 rfl rfl (Nat.le_of_ble_eq_true rfl) (Nat.le_of_ble_eq_true rfl) (d' := 0) (by omega) (EW_mono (fun _ _ hr => ?_) (sX12_isCorner v1  (wr x 246 0 0) _ _ 0 0 (Nat.le_refl _) h))
  obtain ⟨r1, rfl, rfl, h⟩ := hr
  refine EW_if_eq (tgt := 43) (pc2 := 12) rfl dX12_feet_9 (by decide) (fun q => ?_) (fun q => ?_)
  · replace h := h.1 q
    refine EW_iconst (pc2 := 44) (v := (-1)) rfl dX12_feet_43 (by decide) ?_
    exact AW_iret rfl dX12_feet_44 ⟨_, _, rfl, rfl, h⟩
  · replace h := h.2 q
    refine EW_iload_n (pc2 := 13) rfl dX12_feet_12 2 rfl ?_
    refine AW_invS (M' := MX12_isCorner) [.int v2] (rest := []) mlRX12_303 okX12_isCorner (pc2 := 16) rfl dX12_feet_13 rfl rfl (Nat.le_of_ble_eq_true rfl) (Nat.le_of_ble_eq_true rfl) (d' := 0) (by omega) (EW_mono (fun _ _ hr => ?_) (sX12_isCorner v2  (wr x 246 0 0) _ _ 0 0 (Nat.le_refl _) h))
    obtain ⟨r2, rfl, rfl, h⟩ := hr
    refine EW_if_eq (tgt := 43) (pc2 := 19) rfl dX12_feet_16 (by decide) (fun q => ?_) (fun q => ?_)
    · replace h := h.1 q
      refine EW_iconst (pc2 := 44) (v := (-1)) rfl dX12_feet_43 (by decide) ?_
      exact AW_iret rfl dX12_feet_44 ⟨_, _, rfl, rfl, h⟩
    · replace h := h.2 q
      refine EW_aload_n (pc2 := 20) rfl dX12_feet_19 0 rfl ?_
      refine EW_iload_n (pc2 := 21) rfl dX12_feet_20 1 rfl ?_
      refine EW_iload_n (pc2 := 22) rfl dX12_feet_21 2 rfl ?_
      refine AW_invV (M' := MX12_walkOf) [.int v1, .int v2] (rest := []) mlRX12_328 okX12_walkOf (pc2 := 25) rfl dX12_feet_22 rfl rfl (Nat.le_of_ble_eq_true rfl) (Nat.le_of_ble_eq_true rfl) (d' := 0) (by omega) q246 ⟨by decide, rfl⟩ (EW_mono (fun _ _ hr => ?_) (sX12_walkOf v1 v2  (wr x 246 0 0) _ _ 0 0 (Nat.le_refl _) h))
      obtain ⟨r3, rfl, rfl, h⟩ := hr
      refine EW_ldcw cnRX12_296 (pc2 := 28) rfl dX12_feet_25 ?_
      refine EW_icmp_ge (tgt := 43) (pc2 := 31) rfl dX12_feet_28 (by decide) (fun q => ?_) (fun q => ?_)
      · replace h := h.1 q
        refine EW_iconst (pc2 := 44) (v := (-1)) rfl dX12_feet_43 (by decide) ?_
        exact AW_iret rfl dX12_feet_44 ⟨_, _, rfl, rfl, h⟩
      · replace h := h.2 q
        refine EW_bipush (pc2 := 33) (v := 100) rfl dX12_feet_31 (by decide) ?_
        refine EW_aload_n (pc2 := 34) rfl dX12_feet_33 0 rfl ?_
        refine EW_iload_n (pc2 := 35) rfl dX12_feet_34 1 rfl ?_
        refine EW_iload_n (pc2 := 36) rfl dX12_feet_35 2 rfl ?_
        refine AW_invV (M' := MX12_walkOf) [.int v1, .int v2] (rest := [.int 100]) mlRX12_328 okX12_walkOf (pc2 := 39) rfl dX12_feet_36 rfl rfl (Nat.le_of_ble_eq_true rfl) (Nat.le_of_ble_eq_true rfl) (d' := 0) (by omega) q246 ⟨by decide, rfl⟩ (EW_mono (fun _ _ hr => ?_) (sX12_walkOf v1 v2  (wr x 246 0 0) _ _ 0 0 (Nat.le_refl _) h))
        obtain ⟨r4, rfl, rfl, h⟩ := hr
        refine EW_imul (pc2 := 40) rfl dX12_feet_39 ?_
        refine EW_goto (tgt := 44) dX12_feet_40 (by decide) ?_
        exact AW_iret rfl dX12_feet_44 ⟨_, _, rfl, rfl, h⟩
abbrev MX12_pointsOf : ab_M := (yX12_pointsOf, cX12_pointsOf, 6, (some .int))
theorem dX12_pointsOf_0 : decode cX12_pointsOf 0 = .ok (.iconst 0, 1) := by decide +kernel
theorem dX12_pointsOf_1 : decode cX12_pointsOf 1 = .ok (.istore 4, 2) := by decide +kernel
theorem dX12_pointsOf_3 : decode cX12_pointsOf 3 = .ok (.iconst 0, 1) := by decide +kernel
theorem dX12_pointsOf_4 : decode cX12_pointsOf 4 = .ok (.istore 5, 2) := by decide +kernel
theorem dX12_pointsOf_6 : decode cX12_pointsOf 6 = .ok (.iload 5, 2) := by decide +kernel
theorem dX12_pointsOf_8 : decode cX12_pointsOf 8 = .ok (.bipush 20, 2) := by decide +kernel
theorem dX12_pointsOf_10 : decode cX12_pointsOf 10 = .ok (.if_icmp .ge 40, 3) := by decide +kernel
theorem dX12_pointsOf_13 : decode cX12_pointsOf 13 = .ok (.iload 4, 2) := by decide +kernel
theorem dX12_pointsOf_15 : decode cX12_pointsOf 15 = .ok (.iload_n 2, 1) := by decide +kernel
theorem dX12_pointsOf_16 : decode cX12_pointsOf 16 = .ok (.iload 5, 2) := by decide +kernel
theorem dX12_pointsOf_18 : decode cX12_pointsOf 18 = .ok (.ishr, 1) := by decide +kernel
theorem dX12_pointsOf_19 : decode cX12_pointsOf 19 = .ok (.iconst 1, 1) := by decide +kernel
theorem dX12_pointsOf_20 : decode cX12_pointsOf 20 = .ok (.iand, 1) := by decide +kernel
theorem dX12_pointsOf_21 : decode cX12_pointsOf 21 = .ok (.iconst 1, 1) := by decide +kernel
theorem dX12_pointsOf_22 : decode cX12_pointsOf 22 = .ok (.if_icmp .ne 18, 3) := by decide +kernel
theorem dX12_pointsOf_25 : decode cX12_pointsOf 25 = .ok (.aload_n 0, 1) := by decide +kernel
theorem dX12_pointsOf_26 : decode cX12_pointsOf 26 = .ok (.iload 5, 2) := by decide +kernel
theorem dX12_pointsOf_28 : decode cX12_pointsOf 28 = .ok (.iload_n 1, 1) := by decide +kernel
theorem dX12_pointsOf_29 : decode cX12_pointsOf 29 = .ok (.invokevirtual 328, 3) := by decide +kernel
theorem dX12_pointsOf_32 : decode cX12_pointsOf 32 = .ok (.iload_n 3, 1) := by decide +kernel
theorem dX12_pointsOf_33 : decode cX12_pointsOf 33 = .ok (.if_icmp .gt 7, 3) := by decide +kernel
theorem dX12_pointsOf_36 : decode cX12_pointsOf 36 = .ok (.iconst 1, 1) := by decide +kernel
theorem dX12_pointsOf_37 : decode cX12_pointsOf 37 = .ok (.goto 4, 3) := by decide +kernel
theorem dX12_pointsOf_40 : decode cX12_pointsOf 40 = .ok (.iconst 0, 1) := by decide +kernel
theorem dX12_pointsOf_41 : decode cX12_pointsOf 41 = .ok (.iadd, 1) := by decide +kernel
theorem dX12_pointsOf_42 : decode cX12_pointsOf 42 = .ok (.istore 4, 2) := by decide +kernel
theorem dX12_pointsOf_44 : decode cX12_pointsOf 44 = .ok (.iinc 5 1, 3) := by decide +kernel
theorem dX12_pointsOf_47 : decode cX12_pointsOf 47 = .ok (.goto (-41), 3) := by decide +kernel
theorem dX12_pointsOf_50 : decode cX12_pointsOf 50 = .ok (.iload 4, 2) := by decide +kernel
theorem dX12_pointsOf_52 : decode cX12_pointsOf 52 = .ok (.ifCond .ne 7, 3) := by decide +kernel
theorem dX12_pointsOf_55 : decode cX12_pointsOf 55 = .ok (.iconst 0, 1) := by decide +kernel
theorem dX12_pointsOf_56 : decode cX12_pointsOf 56 = .ok (.goto 14, 3) := by decide +kernel
theorem dX12_pointsOf_59 : decode cX12_pointsOf 59 = .ok (.iload 4, 2) := by decide +kernel
theorem dX12_pointsOf_61 : decode cX12_pointsOf 61 = .ok (.iconst 1, 1) := by decide +kernel
theorem dX12_pointsOf_62 : decode cX12_pointsOf 62 = .ok (.if_icmp .ne 7, 3) := by decide +kernel
theorem dX12_pointsOf_65 : decode cX12_pointsOf 65 = .ok (.iconst 2, 1) := by decide +kernel
theorem dX12_pointsOf_66 : decode cX12_pointsOf 66 = .ok (.goto 4, 3) := by decide +kernel
theorem dX12_pointsOf_69 : decode cX12_pointsOf 69 = .ok (.iconst 3, 1) := by decide +kernel
theorem dX12_pointsOf_70 : decode cX12_pointsOf 70 = .ok (.ireturn, 1) := by decide +kernel
theorem okX12_pointsOf : ab_okM MX12_pointsOf 3 := ⟨by decide, ⟨by decide, by decide⟩, ab_in 2690 (by decide +kernel) (by decide +kernel), ab_in 99 (by decide +kernel) (by decide +kernel), by decide +kernel, by decide⟩
set_option maxHeartbeats 4000000 in
set_option maxRecDepth 100000 in
def wX12_pointsOf_41 (v1 : Int32) (v2 : Int32) (v3 : Int32) (v5 : Int32) (s0 : Int32) (s1 : Int32) (x : ab_X) (K : Int32 → Prop) (L6 : Int32 → Int32 → Prop) : Prop := L6 (s0 + s1) (v5 + 1)
set_option maxHeartbeats 4000000 in
set_option maxRecDepth 100000 in
theorem sX12_pointsOf_41 (v1 : Int32) (v2 : Int32) (v3 : Int32) (v5 : Int32) (s0 : Int32) (s1 : Int32)  (x : ab_X) (K : Int32 → Prop) (L6 : Int32 → Int32 → Prop) (d bc bs : Nat) (hdp : 1 ≤ d) (hL6 : ∀ (v4 : Int32) (v5 : Int32), L6 v4 v5 → EW MX12_pointsOf 6 [(0, .ref 246), (1, .int v1), (2, .int v2), (3, .int v3), (4, .int v4), (5, .int v5)] [] (aS x) d bc bs (liP x K)) (h : wX12_pointsOf_41 v1 v2 v3 v5 s0 s1 x K L6) : EW MX12_pointsOf 41 [(0, .ref 246), (1, .int v1), (2, .int v2), (3, .int v3), (5, .int v5)] [.int s1, .int s0] (aS x) d bc bs (liP x K) := by
  unfold wX12_pointsOf_41 at h
  refine EW_iadd (pc2 := 42) rfl dX12_pointsOf_41 ?_
  refine EW_istore (pc2 := 44) rfl dX12_pointsOf_42 (by decide) [1, 2, 3, 4, 0, 5] [(0, .ref 246), (1, .int v1), (2, .int v2), (3, .int v3), (4, .int (s0 + s1)), (5, .int v5)] rfl ?_
  refine EW_iinc (v5 + 1) (pc2 := 47) rfl dX12_pointsOf_44 5 rfl rfl (by decide) [1, 2, 3, 4, 5, 0] [(0, .ref 246), (1, .int v1), (2, .int v2), (3, .int v3), (4, .int (s0 + s1)), (5, .int (v5 + 1))] rfl ?_
  refine EW_goto (tgt := 6) dX12_pointsOf_47 (by decide) ?_
  exact hL6 (s0 + s1) (v5 + 1) h
set_option maxHeartbeats 4000000 in
set_option maxRecDepth 100000 in
def wX12_pointsOf_40 (v1 : Int32) (v2 : Int32) (v3 : Int32) (v5 : Int32) (s0 : Int32) (x : ab_X) (K : Int32 → Prop) (L6 : Int32 → Int32 → Prop) : Prop := wX12_pointsOf_41 v1 v2 v3 v5 s0 0 x K L6
set_option maxHeartbeats 4000000 in
set_option maxRecDepth 100000 in
theorem sX12_pointsOf_40 (v1 : Int32) (v2 : Int32) (v3 : Int32) (v5 : Int32) (s0 : Int32)  (x : ab_X) (K : Int32 → Prop) (L6 : Int32 → Int32 → Prop) (d bc bs : Nat) (hdp : 1 ≤ d) (hL6 : ∀ (v4 : Int32) (v5 : Int32), L6 v4 v5 → EW MX12_pointsOf 6 [(0, .ref 246), (1, .int v1), (2, .int v2), (3, .int v3), (4, .int v4), (5, .int v5)] [] (aS x) d bc bs (liP x K)) (h : wX12_pointsOf_40 v1 v2 v3 v5 s0 x K L6) : EW MX12_pointsOf 40 [(0, .ref 246), (1, .int v1), (2, .int v2), (3, .int v3), (5, .int v5)] [.int s0] (aS x) d bc bs (liP x K) := by
  unfold wX12_pointsOf_40 at h
  refine EW_iconst (pc2 := 41) (v := 0) rfl dX12_pointsOf_40 (by decide) ?_
  exact sX12_pointsOf_41 v1 v2 v3 v5 s0 0 x K L6 d bc bs hdp hL6 h
set_option maxHeartbeats 4000000 in
set_option maxRecDepth 100000 in
def lX12_pointsOf_6 (v1 : Int32) (v2 : Int32) (v3 : Int32) (x : ab_X) (K : Int32 → Prop)  (L6 : Int32 → Int32 → Prop) (v4 : Int32) (v5 : Int32) : Prop := ((20 ≤ v5 → ((¬ v4 = 0 → ((¬ v4 = 1 → K 3) ∧ (v4 = 1 → K 2))) ∧ (v4 = 0 → K 0))) ∧ (¬ 20 ≤ v5 → ((¬ ((v2 >>> (v5 &&& 31)) &&& 1) = 1 → wX12_pointsOf_40 v1 v2 v3 v5 v4 x K L6) ∧ (((v2 >>> (v5 &&& 31)) &&& 1) = 1 → wX12_walkOf v5 v1 x (fun r1 => ((v3 < r1 → wX12_pointsOf_40 v1 v2 v3 v5 v4 x K L6) ∧ (¬ v3 < r1 → wX12_pointsOf_41 v1 v2 v3 v5 v4 1 x K L6)))))))
set_option maxHeartbeats 4000000 in
set_option maxRecDepth 100000 in
theorem sX12_pointsOf_6 (v1 : Int32) (v2 : Int32) (v3 : Int32) (v4 : Int32) (v5 : Int32)  (x : ab_X) (K : Int32 → Prop)  (d bc bs : Nat) (hdp : 1 ≤ d)  (h : Lp2 (lX12_pointsOf_6 v1 v2 v3 x K ) v4 v5) : EW MX12_pointsOf 6 [(0, .ref 246), (1, .int v1), (2, .int v2), (3, .int v3), (4, .int v4), (5, .int v5)] [] (aS x) d bc bs (liP x K) := by
  refine Lp2.use (P := fun v4 v5 => EW MX12_pointsOf 6 [(0, .ref 246), (1, .int v1), (2, .int v2), (3, .int v3), (4, .int v4), (5, .int v5)] [] (aS x) d bc bs (liP x K)) (fun L6 v4 v5 hL6 h => ?_) v4 v5 h
  unfold lX12_pointsOf_6 at h
  refine EW_iload (pc2 := 8) rfl dX12_pointsOf_6 5 rfl ?_
  refine EW_bipush (pc2 := 10) (v := 20) rfl dX12_pointsOf_8 (by decide) ?_
  refine EW_icmp_ge (tgt := 50) (pc2 := 13) rfl dX12_pointsOf_10 (by decide) (fun q => ?_) (fun q => ?_)
  · replace h := h.1 q
    refine EW_iload (pc2 := 52) rfl dX12_pointsOf_50 4 rfl ?_
    refine EW_if_ne (tgt := 59) (pc2 := 55) rfl dX12_pointsOf_52 (by decide) (fun q => ?_) (fun q => ?_)
    · replace h := h.1 q
      refine EW_iload (pc2 := 61) rfl dX12_pointsOf_59 4 rfl ?_
      refine EW_iconst (pc2 := 62) (v := 1) rfl dX12_pointsOf_61 (by decide) ?_
      refine EW_icmp_ne (tgt := 69) (pc2 := 65) rfl dX12_pointsOf_62 (by decide) (fun q => ?_) (fun q => ?_)
      · replace h := h.1 q
        refine EW_iconst (pc2 := 70) (v := 3) rfl dX12_pointsOf_69 (by decide) ?_
        exact AW_iret rfl dX12_pointsOf_70 ⟨_, rfl, rfl, h⟩
      · replace h := h.2 q
        refine EW_iconst (pc2 := 66) (v := 2) rfl dX12_pointsOf_65 (by decide) ?_
        refine EW_goto (tgt := 70) dX12_pointsOf_66 (by decide) ?_
        exact AW_iret rfl dX12_pointsOf_70 ⟨_, rfl, rfl, h⟩
    · replace h := h.2 q
      refine EW_iconst (pc2 := 56) (v := 0) rfl dX12_pointsOf_55 (by decide) ?_
      refine EW_goto (tgt := 70) dX12_pointsOf_56 (by decide) ?_
      exact AW_iret rfl dX12_pointsOf_70 ⟨_, rfl, rfl, h⟩
  · replace h := h.2 q
    refine EW_iload (pc2 := 15) rfl dX12_pointsOf_13 4 rfl ?_
    refine EW_iload_n (pc2 := 16) rfl dX12_pointsOf_15 2 rfl ?_
    refine EW_iload (pc2 := 18) rfl dX12_pointsOf_16 5 rfl ?_
    refine EW_ishr (pc2 := 19) rfl dX12_pointsOf_18 ?_
    refine EW_iconst (pc2 := 20) (v := 1) rfl dX12_pointsOf_19 (by decide) ?_
    refine EW_iand (pc2 := 21) rfl dX12_pointsOf_20 ?_
    refine EW_iconst (pc2 := 22) (v := 1) rfl dX12_pointsOf_21 (by decide) ?_
    refine EW_icmp_ne (tgt := 40) (pc2 := 25) rfl dX12_pointsOf_22 (by decide) (fun q => ?_) (fun q => ?_)
    · replace h := h.1 q
      refine EW_ls [0, 1, 2, 3, 5] rfl ?_
      exact sX12_pointsOf_40 v1 v2 v3 v5 v4 x K L6 d bc bs hdp hL6 h
    · replace h := h.2 q
      refine EW_aload_n (pc2 := 26) rfl dX12_pointsOf_25 0 rfl ?_
      refine EW_iload (pc2 := 28) rfl dX12_pointsOf_26 5 rfl ?_
      refine EW_iload_n (pc2 := 29) rfl dX12_pointsOf_28 1 rfl ?_
      refine AW_invV (M' := MX12_walkOf) [.int v5, .int v1] (rest := [.int v4]) mlRX12_328 okX12_walkOf (pc2 := 32) rfl dX12_pointsOf_29 rfl rfl (Nat.le_of_ble_eq_true rfl) (Nat.le_of_ble_eq_true rfl) (d' := 0) (by omega) q246 ⟨by decide, rfl⟩ (EW_mono (fun _ _ hr => ?_) (sX12_walkOf v5 v1  x _ _ 0 0 (Nat.le_refl _) h))
      obtain ⟨r1, rfl, rfl, h⟩ := hr
      refine EW_iload_n (pc2 := 33) rfl dX12_pointsOf_32 3 rfl ?_
      refine EW_icmp_gt (tgt := 40) (pc2 := 36) rfl dX12_pointsOf_33 (by decide) (fun q => ?_) (fun q => ?_)
      · replace h := h.1 q
        refine EW_ls [0, 1, 2, 3, 5] rfl ?_
        exact sX12_pointsOf_40 v1 v2 v3 v5 v4 x K L6 d bc bs hdp hL6 h
      · replace h := h.2 q
        refine EW_iconst (pc2 := 37) (v := 1) rfl dX12_pointsOf_36 (by decide) ?_
        refine EW_goto (tgt := 41) dX12_pointsOf_37 (by decide) ?_
        refine EW_ls [0, 1, 2, 3, 5] rfl ?_
        exact sX12_pointsOf_41 v1 v2 v3 v5 v4 1 x K L6 d bc bs hdp hL6 h
set_option maxHeartbeats 4000000 in
set_option maxRecDepth 100000 in
def wX12_pointsOf (v1 : Int32) (v2 : Int32) (v3 : Int32) (x : ab_X) (K : Int32 → Prop) : Prop := Lp2 (lX12_pointsOf_6 v1 v2 v3 x K ) 0 0
set_option maxHeartbeats 4000000 in
set_option maxRecDepth 100000 in
theorem sX12_pointsOf (v1 : Int32) (v2 : Int32) (v3 : Int32)  (x : ab_X) (K : Int32 → Prop) (d bc bs : Nat) (hdp : 1 ≤ d) (h : wX12_pointsOf v1 v2 v3 x K) : EW MX12_pointsOf 0 [(0, .ref 246), (1, .int v1), (2, .int v2), (3, .int v3)] [] (aS x) d bc bs (liP x K) := by
  unfold wX12_pointsOf at h
  refine EW_iconst (pc2 := 1) (v := 0) rfl dX12_pointsOf_0 (by decide) ?_
  refine EW_istore (pc2 := 3) rfl dX12_pointsOf_1 (by decide) [1, 2, 3, 4, 0] [(0, .ref 246), (1, .int v1), (2, .int v2), (3, .int v3), (4, .int 0)] rfl ?_
  refine EW_iconst (pc2 := 4) (v := 0) rfl dX12_pointsOf_3 (by decide) ?_
  refine EW_istore (pc2 := 6) rfl dX12_pointsOf_4 (by decide) [1, 2, 3, 4, 5, 0] [(0, .ref 246), (1, .int v1), (2, .int v2), (3, .int v3), (4, .int 0), (5, .int 0)] rfl ?_
  exact sX12_pointsOf_6 v1 v2 v3 0 0 x K d bc bs hdp h
theorem gfRX12_639 : ab_L RX12 639 12 109 := ⟨by decide, by decide, ab_in 1958 (by decide +kernel) (by decide +kernel)⟩
theorem gfRX12_642 : ab_L RX12 642 12 110 := ⟨by decide, by decide, ab_in 1959 (by decide +kernel) (by decide +kernel)⟩
theorem gfRX12_268 : ab_L RX12 268 12 111 := ⟨by decide, by decide, ab_in 1960 (by decide +kernel) (by decide +kernel)⟩
theorem mlRX12_636 : Cond.methodLink RX12 636 yX12_pointsOf ∈ ab_G ∧ Cond.instanceMethod yX12_pointsOf ∈ ab_G ∧ Cond.selects RX12 yX12_pointsOf yX12_pointsOf ∈ ab_G := ⟨ab_in 2687 (by decide +kernel) (by decide +kernel), ab_in 2689 (by decide +kernel) (by decide +kernel), ab_in 81 (by decide +kernel) (by decide +kernel)⟩
theorem mlRX12_633 : Cond.methodLink RX12 633 yX12_plans ∈ ab_G ∧ Cond.instanceMethod yX12_plans ∈ ab_G ∧ Cond.selects RX12 yX12_plans yX12_plans ∈ ab_G := ⟨ab_in 2683 (by decide +kernel) (by decide +kernel), ab_in 2685 (by decide +kernel) (by decide +kernel), ab_in 80 (by decide +kernel) (by decide +kernel)⟩
abbrev MX12_plans : ab_M := (yX12_plans, cX12_plans, 7, none)
theorem dX12_plans_0 : decode cX12_plans 0 = .ok (.iload_n 3, 1) := by decide +kernel
theorem dX12_plans_1 : decode cX12_plans 1 = .ok (.ifCond .le 39, 3) := by decide +kernel
theorem dX12_plans_4 : decode cX12_plans 4 = .ok (.iload_n 2, 1) := by decide +kernel
theorem dX12_plans_5 : decode cX12_plans 5 = .ok (.istore 5, 2) := by decide +kernel
theorem dX12_plans_7 : decode cX12_plans 7 = .ok (.iload 5, 2) := by decide +kernel
theorem dX12_plans_9 : decode cX12_plans 9 = .ok (.bipush 20, 2) := by decide +kernel
theorem dX12_plans_11 : decode cX12_plans 11 = .ok (.if_icmp .ge 28, 3) := by decide +kernel
theorem dX12_plans_14 : decode cX12_plans 14 = .ok (.aload_n 0, 1) := by decide +kernel
theorem dX12_plans_15 : decode cX12_plans 15 = .ok (.iload_n 1, 1) := by decide +kernel
theorem dX12_plans_16 : decode cX12_plans 16 = .ok (.iconst 1, 1) := by decide +kernel
theorem dX12_plans_17 : decode cX12_plans 17 = .ok (.iload 5, 2) := by decide +kernel
theorem dX12_plans_19 : decode cX12_plans 19 = .ok (.ishl, 1) := by decide +kernel
theorem dX12_plans_20 : decode cX12_plans 20 = .ok (.ior, 1) := by decide +kernel
theorem dX12_plans_21 : decode cX12_plans 21 = .ok (.iload 5, 2) := by decide +kernel
theorem dX12_plans_23 : decode cX12_plans 23 = .ok (.iconst 1, 1) := by decide +kernel
theorem dX12_plans_24 : decode cX12_plans 24 = .ok (.iadd, 1) := by decide +kernel
theorem dX12_plans_25 : decode cX12_plans 25 = .ok (.iload_n 3, 1) := by decide +kernel
theorem dX12_plans_26 : decode cX12_plans 26 = .ok (.iconst 1, 1) := by decide +kernel
theorem dX12_plans_27 : decode cX12_plans 27 = .ok (.isub, 1) := by decide +kernel
theorem dX12_plans_28 : decode cX12_plans 28 = .ok (.iload 4, 2) := by decide +kernel
theorem dX12_plans_30 : decode cX12_plans 30 = .ok (.invokevirtual 633, 3) := by decide +kernel
theorem dX12_plans_33 : decode cX12_plans 33 = .ok (.iinc 5 1, 3) := by decide +kernel
theorem dX12_plans_36 : decode cX12_plans 36 = .ok (.goto (-29), 3) := by decide +kernel
theorem dX12_plans_39 : decode cX12_plans 39 = .ok (.return_, 1) := by decide +kernel
theorem dX12_plans_40 : decode cX12_plans 40 = .ok (.iconst 0, 1) := by decide +kernel
theorem dX12_plans_41 : decode cX12_plans 41 = .ok (.istore 5, 2) := by decide +kernel
theorem dX12_plans_43 : decode cX12_plans 43 = .ok (.iconst 0, 1) := by decide +kernel
theorem dX12_plans_44 : decode cX12_plans 44 = .ok (.istore 6, 2) := by decide +kernel
theorem dX12_plans_46 : decode cX12_plans 46 = .ok (.iload 6, 2) := by decide +kernel
theorem dX12_plans_48 : decode cX12_plans 48 = .ok (.bipush 20, 2) := by decide +kernel
theorem dX12_plans_50 : decode cX12_plans 50 = .ok (.if_icmp .ge 45, 3) := by decide +kernel
theorem dX12_plans_53 : decode cX12_plans 53 = .ok (.iload 5, 2) := by decide +kernel
theorem dX12_plans_55 : decode cX12_plans 55 = .ok (.aload_n 0, 1) := by decide +kernel
theorem dX12_plans_56 : decode cX12_plans 56 = .ok (.getfield 268, 3) := by decide +kernel
theorem dX12_plans_59 : decode cX12_plans 59 = .ok (.iload 6, 2) := by decide +kernel
theorem dX12_plans_61 : decode cX12_plans 61 = .ok (.iaload, 1) := by decide +kernel
theorem dX12_plans_62 : decode cX12_plans 62 = .ok (.ifCond .ne 7, 3) := by decide +kernel
theorem dX12_plans_65 : decode cX12_plans 65 = .ok (.iconst 0, 1) := by decide +kernel
theorem dX12_plans_66 : decode cX12_plans 66 = .ok (.goto 20, 3) := by decide +kernel
theorem dX12_plans_69 : decode cX12_plans 69 = .ok (.aload_n 0, 1) := by decide +kernel
theorem dX12_plans_70 : decode cX12_plans 70 = .ok (.getfield 268, 3) := by decide +kernel
theorem dX12_plans_73 : decode cX12_plans 73 = .ok (.iload 6, 2) := by decide +kernel
theorem dX12_plans_75 : decode cX12_plans 75 = .ok (.iaload, 1) := by decide +kernel
theorem dX12_plans_76 : decode cX12_plans 76 = .ok (.aload_n 0, 1) := by decide +kernel
theorem dX12_plans_77 : decode cX12_plans 77 = .ok (.iload 6, 2) := by decide +kernel
theorem dX12_plans_79 : decode cX12_plans 79 = .ok (.iload_n 1, 1) := by decide +kernel
theorem dX12_plans_80 : decode cX12_plans 80 = .ok (.iload 4, 2) := by decide +kernel
theorem dX12_plans_82 : decode cX12_plans 82 = .ok (.invokevirtual 636, 3) := by decide +kernel
theorem dX12_plans_85 : decode cX12_plans 85 = .ok (.imul, 1) := by decide +kernel
theorem dX12_plans_86 : decode cX12_plans 86 = .ok (.iadd, 1) := by decide +kernel
theorem dX12_plans_87 : decode cX12_plans 87 = .ok (.istore 5, 2) := by decide +kernel
theorem dX12_plans_89 : decode cX12_plans 89 = .ok (.iinc 6 1, 3) := by decide +kernel
theorem dX12_plans_92 : decode cX12_plans 92 = .ok (.goto (-46), 3) := by decide +kernel
theorem dX12_plans_95 : decode cX12_plans 95 = .ok (.iload 5, 2) := by decide +kernel
theorem dX12_plans_97 : decode cX12_plans 97 = .ok (.aload_n 0, 1) := by decide +kernel
theorem dX12_plans_98 : decode cX12_plans 98 = .ok (.getfield 639, 3) := by decide +kernel
theorem dX12_plans_101 : decode cX12_plans 101 = .ok (.if_icmp .gt 4, 3) := by decide +kernel
theorem dX12_plans_104 : decode cX12_plans 104 = .ok (.return_, 1) := by decide +kernel
theorem dX12_plans_105 : decode cX12_plans 105 = .ok (.aload_n 0, 1) := by decide +kernel
theorem dX12_plans_106 : decode cX12_plans 106 = .ok (.iload 5, 2) := by decide +kernel
theorem dX12_plans_108 : decode cX12_plans 108 = .ok (.putfield 639, 3) := by decide +kernel
theorem dX12_plans_111 : decode cX12_plans 111 = .ok (.aload_n 0, 1) := by decide +kernel
theorem dX12_plans_112 : decode cX12_plans 112 = .ok (.iload_n 1, 1) := by decide +kernel
theorem dX12_plans_113 : decode cX12_plans 113 = .ok (.putfield 642, 3) := by decide +kernel
theorem dX12_plans_116 : decode cX12_plans 116 = .ok (.return_, 1) := by decide +kernel
theorem okX12_plans : ab_okM MX12_plans 4 := ⟨by decide, ⟨by decide, by decide⟩, ab_in 2686 (by decide +kernel) (by decide +kernel), ab_in 99 (by decide +kernel) (by decide +kernel), by decide +kernel, by decide⟩
set_option maxHeartbeats 4000000 in
set_option maxRecDepth 100000 in
def wX12_plans_86 (RX12_plans : Int32 → Int32 → Int32 → Int32 → ab_X → (ab_X → Prop) → Prop) (v1 : Int32) (v4 : Int32) (v6 : Int32) (s0 : Int32) (s1 : Int32) (x : ab_X) (K : ab_X → Prop) (L46 : Int32 → Int32 → Prop) : Prop := L46 (s0 + s1) (v6 + 1)
set_option maxHeartbeats 4000000 in
set_option maxRecDepth 100000 in
theorem sX12_plans_86 (RX12_plans : Int32 → Int32 → Int32 → Int32 → ab_X → (ab_X → Prop) → Prop) (v1 : Int32) (v4 : Int32) (v6 : Int32) (s0 : Int32) (s1 : Int32)  (x : ab_X) (K : ab_X → Prop) (L46 : Int32 → Int32 → Prop) (d bc bs : Nat) (hdp : 2 ≤ d) (dr : Nat) (hRX12_plans : ∀ (v1 : Int32) (v2 : Int32) (v3 : Int32) (v4 : Int32)  (x : ab_X) (K : ab_X → Prop), RX12_plans v1 v2 v3 v4 x K → EW MX12_plans 0 [(0, .ref 246), (1, .int v1), (2, .int v2), (3, .int v3), (4, .int v4)] [] (aS x) dr 0 0 (liV K)) (hdr : dr + 1 ≤ d) (hL46 : ∀ (v5 : Int32) (v6 : Int32), L46 v5 v6 → EW MX12_plans 46 [(0, .ref 246), (1, .int v1), (4, .int v4), (5, .int v5), (6, .int v6)] [] (aS x) d bc bs (liV K)) (h : wX12_plans_86 RX12_plans v1 v4 v6 s0 s1 x K L46) : EW MX12_plans 86 [(0, .ref 246), (1, .int v1), (4, .int v4), (6, .int v6)] [.int s1, .int s0] (aS x) d bc bs (liV K) := by
  unfold wX12_plans_86 at h
  refine EW_iadd (pc2 := 87) rfl dX12_plans_86 ?_
  refine EW_istore (pc2 := 89) rfl dX12_plans_87 (by decide) [1, 2, 3, 0, 4] [(0, .ref 246), (1, .int v1), (4, .int v4), (5, .int (s0 + s1)), (6, .int v6)] rfl ?_
  refine EW_iinc (v6 + 1) (pc2 := 92) rfl dX12_plans_89 4 rfl rfl (by decide) [1, 2, 3, 4, 0] [(0, .ref 246), (1, .int v1), (4, .int v4), (5, .int (s0 + s1)), (6, .int (v6 + 1))] rfl ?_
  refine EW_goto (tgt := 46) dX12_plans_92 (by decide) ?_
  exact hL46 (s0 + s1) (v6 + 1) h
set_option maxHeartbeats 4000000 in
set_option maxRecDepth 100000 in
def lX12_plans_46 (RX12_plans : Int32 → Int32 → Int32 → Int32 → ab_X → (ab_X → Prop) → Prop) (v1 : Int32) (v4 : Int32) (x : ab_X) (K : ab_X → Prop)  (L46 : Int32 → Int32 → Prop) (v5 : Int32) (v6 : Int32) : Prop := ((20 ≤ v6 → (((x.1 246 109) < v5 → K (wr (wr x 246 109 v5) 246 110 v1)) ∧ (¬ (x.1 246 109) < v5 → K x))) ∧ (¬ 20 ≤ v6 → (vp_in v6 20 ∧ ((¬ (x.1 328 (Int32.toNatClampNeg v6)) = 0 → (vp_in v6 20 ∧ wX12_pointsOf v6 v1 v4 x (fun r3 => wX12_plans_86 RX12_plans v1 v4 v6 v5 ((x.1 328 (Int32.toNatClampNeg v6)) * r3) x K L46))) ∧ ((x.1 328 (Int32.toNatClampNeg v6)) = 0 → wX12_plans_86 RX12_plans v1 v4 v6 v5 0 x K L46)))))
set_option maxHeartbeats 4000000 in
set_option maxRecDepth 100000 in
theorem sX12_plans_46 (RX12_plans : Int32 → Int32 → Int32 → Int32 → ab_X → (ab_X → Prop) → Prop) (v1 : Int32) (v4 : Int32) (v5 : Int32) (v6 : Int32)  (x : ab_X) (K : ab_X → Prop)  (d bc bs : Nat) (hdp : 2 ≤ d) (dr : Nat) (hRX12_plans : ∀ (v1 : Int32) (v2 : Int32) (v3 : Int32) (v4 : Int32)  (x : ab_X) (K : ab_X → Prop), RX12_plans v1 v2 v3 v4 x K → EW MX12_plans 0 [(0, .ref 246), (1, .int v1), (2, .int v2), (3, .int v3), (4, .int v4)] [] (aS x) dr 0 0 (liV K)) (hdr : dr + 1 ≤ d)  (h : Lp2 (lX12_plans_46 RX12_plans v1 v4 x K ) v5 v6) : EW MX12_plans 46 [(0, .ref 246), (1, .int v1), (4, .int v4), (5, .int v5), (6, .int v6)] [] (aS x) d bc bs (liV K) := by
  refine Lp2.use (P := fun v5 v6 => EW MX12_plans 46 [(0, .ref 246), (1, .int v1), (4, .int v4), (5, .int v5), (6, .int v6)] [] (aS x) d bc bs (liV K)) (fun L46 v5 v6 hL46 h => ?_) v5 v6 h
  unfold lX12_plans_46 at h
  refine EW_iload (pc2 := 48) rfl dX12_plans_46 4 rfl ?_
  refine EW_bipush (pc2 := 50) (v := 20) rfl dX12_plans_48 (by decide) ?_
  refine EW_icmp_ge (tgt := 95) (pc2 := 53) rfl dX12_plans_50 (by decide) (fun q => ?_) (fun q => ?_)
  · replace h := h.1 q
    refine EW_iload (pc2 := 97) rfl dX12_plans_95 3 rfl ?_
    refine EW_aload_n (pc2 := 98) rfl dX12_plans_97 0 rfl ?_
    refine AW_geti ⟨gfRX12_639, rfl⟩ (pc2 := 101) rfl dX12_plans_98 q246 ?_
    refine EW_icmp_gt (tgt := 105) (pc2 := 104) rfl dX12_plans_101 (by decide) (fun q => ?_) (fun q => ?_)
    · replace h := h.1 q
      refine EW_aload_n (pc2 := 106) rfl dX12_plans_105 0 rfl ?_
      refine EW_iload (pc2 := 108) rfl dX12_plans_106 3 rfl ?_
      refine AW_puti ⟨gfRX12_639, rfl, rfl⟩ (pc2 := 111) rfl dX12_plans_108 q246 ?_
      refine EW_aload_n (pc2 := 112) rfl dX12_plans_111 0 rfl ?_
      refine EW_iload_n (pc2 := 113) rfl dX12_plans_112 1 rfl ?_
      refine AW_puti ⟨gfRX12_642, rfl, rfl⟩ (pc2 := 116) rfl dX12_plans_113 q246 ?_
      exact EW_vret rfl dX12_plans_116 ⟨_, rfl, rfl, h⟩
    · replace h := h.2 q
      exact EW_vret rfl dX12_plans_104 ⟨_, rfl, rfl, h⟩
  · replace h := h.2 q
    refine EW_iload (pc2 := 55) rfl dX12_plans_53 3 rfl ?_
    refine EW_aload_n (pc2 := 56) rfl dX12_plans_55 0 rfl ?_
    refine AW_getr (r := 328) ⟨gfRX12_268, rfl⟩ (pc2 := 59) rfl dX12_plans_56 q246 rfl ?_
    refine EW_iload (pc2 := 61) rfl dX12_plans_59 4 rfl ?_
    obtain ⟨b1, h⟩ := h
    refine AW_iald (pc2 := 62) rfl dX12_plans_61 q328 b1 ?_
    refine EW_if_ne (tgt := 69) (pc2 := 65) rfl dX12_plans_62 (by decide) (fun q => ?_) (fun q => ?_)
    · replace h := h.1 q
      refine EW_aload_n (pc2 := 70) rfl dX12_plans_69 0 rfl ?_
      refine AW_getr (r := 328) ⟨gfRX12_268, rfl⟩ (pc2 := 73) rfl dX12_plans_70 q246 rfl ?_
      refine EW_iload (pc2 := 75) rfl dX12_plans_73 4 rfl ?_
      obtain ⟨b2, h⟩ := h
      refine AW_iald (pc2 := 76) rfl dX12_plans_75 q328 b2 ?_
      refine EW_aload_n (pc2 := 77) rfl dX12_plans_76 0 rfl ?_
      refine EW_iload (pc2 := 79) rfl dX12_plans_77 4 rfl ?_
      refine EW_iload_n (pc2 := 80) rfl dX12_plans_79 1 rfl ?_
      refine EW_iload (pc2 := 82) rfl dX12_plans_80 2 rfl ?_
      refine AW_invV (M' := MX12_pointsOf) [.int v6, .int v1, .int v4] (rest := [.int (x.1 328 (Int32.toNatClampNeg v6)), .int v5]) mlRX12_636 okX12_pointsOf (pc2 := 85) rfl dX12_plans_82 rfl rfl (Nat.le_of_ble_eq_true rfl) (Nat.le_of_ble_eq_true rfl) (d' := 1) (by omega) q246 ⟨by decide, rfl⟩ (EW_mono (fun _ _ hr => ?_) (sX12_pointsOf v6 v1 v4  x _ _ 0 0 (Nat.le_refl _) h))
      obtain ⟨r3, rfl, rfl, h⟩ := hr
      refine EW_imul (pc2 := 86) rfl dX12_plans_85 ?_
      refine EW_ls [0, 1, 2, 4] rfl ?_
      exact sX12_plans_86 RX12_plans v1 v4 v6 v5 ((x.1 328 (Int32.toNatClampNeg v6)) * r3) x K L46 d bc bs hdp dr hRX12_plans hdr hL46 h
    · replace h := h.2 q
      refine EW_iconst (pc2 := 66) (v := 0) rfl dX12_plans_65 (by decide) ?_
      refine EW_goto (tgt := 86) dX12_plans_66 (by decide) ?_
      refine EW_ls [0, 1, 2, 4] rfl ?_
      exact sX12_plans_86 RX12_plans v1 v4 v6 v5 0 x K L46 d bc bs hdp dr hRX12_plans hdr hL46 h
set_option maxHeartbeats 4000000 in
set_option maxRecDepth 100000 in
def lX12_plans_7 (RX12_plans : Int32 → Int32 → Int32 → Int32 → ab_X → (ab_X → Prop) → Prop) (v1 : Int32) (v3 : Int32) (v4 : Int32) (K : ab_X → Prop)  (L7 : Int32 → ab_X → Prop) (v5 : Int32) (x : ab_X) : Prop := ((20 ≤ v5 → K x) ∧ (¬ 20 ≤ v5 → RX12_plans (v1 ||| (1 <<< (v5 &&& 31))) (v5 + 1) (v3 - 1) v4 x (fun x4 => L7 (v5 + 1) x4)))
set_option maxHeartbeats 4000000 in
set_option maxRecDepth 100000 in
theorem sX12_plans_7 (RX12_plans : Int32 → Int32 → Int32 → Int32 → ab_X → (ab_X → Prop) → Prop) (v1 : Int32) (v3 : Int32) (v4 : Int32) (v5 : Int32)  (x : ab_X) (K : ab_X → Prop)  (d bc bs : Nat) (hdp : 2 ≤ d) (dr : Nat) (hRX12_plans : ∀ (v1 : Int32) (v2 : Int32) (v3 : Int32) (v4 : Int32)  (x : ab_X) (K : ab_X → Prop), RX12_plans v1 v2 v3 v4 x K → EW MX12_plans 0 [(0, .ref 246), (1, .int v1), (2, .int v2), (3, .int v3), (4, .int v4)] [] (aS x) dr 0 0 (liV K)) (hdr : dr + 1 ≤ d)  (h : Lp2 (lX12_plans_7 RX12_plans v1 v3 v4 K ) v5 x) : EW MX12_plans 7 [(0, .ref 246), (1, .int v1), (3, .int v3), (4, .int v4), (5, .int v5)] [] (aS x) d bc bs (liV K) := by
  refine Lp2.use (P := fun v5 x => EW MX12_plans 7 [(0, .ref 246), (1, .int v1), (3, .int v3), (4, .int v4), (5, .int v5)] [] (aS x) d bc bs (liV K)) (fun L7 v5 x hL7 h => ?_) v5 x h
  unfold lX12_plans_7 at h
  refine EW_iload (pc2 := 9) rfl dX12_plans_7 4 rfl ?_
  refine EW_bipush (pc2 := 11) (v := 20) rfl dX12_plans_9 (by decide) ?_
  refine EW_icmp_ge (tgt := 39) (pc2 := 14) rfl dX12_plans_11 (by decide) (fun q => ?_) (fun q => ?_)
  · replace h := h.1 q
    exact EW_vret rfl dX12_plans_39 ⟨_, rfl, rfl, h⟩
  · replace h := h.2 q
    refine EW_aload_n (pc2 := 15) rfl dX12_plans_14 0 rfl ?_
    refine EW_iload_n (pc2 := 16) rfl dX12_plans_15 1 rfl ?_
    refine EW_iconst (pc2 := 17) (v := 1) rfl dX12_plans_16 (by decide) ?_
    refine EW_iload (pc2 := 19) rfl dX12_plans_17 4 rfl ?_
    refine EW_ishl (pc2 := 20) rfl dX12_plans_19 ?_
    refine EW_ior (pc2 := 21) rfl dX12_plans_20 ?_
    refine EW_iload (pc2 := 23) rfl dX12_plans_21 4 rfl ?_
    refine EW_iconst (pc2 := 24) (v := 1) rfl dX12_plans_23 (by decide) ?_
    refine EW_iadd (pc2 := 25) rfl dX12_plans_24 ?_
    refine EW_iload_n (pc2 := 26) rfl dX12_plans_25 2 rfl ?_
    refine EW_iconst (pc2 := 27) (v := 1) rfl dX12_plans_26 (by decide) ?_
    refine EW_isub (pc2 := 28) rfl dX12_plans_27 ?_
    refine EW_iload (pc2 := 30) rfl dX12_plans_28 3 rfl ?_
    refine AW_invV (M' := MX12_plans) [.int (v1 ||| (1 <<< (v5 &&& 31))), .int (v5 + 1), .int (v3 - 1), .int v4] (rest := []) mlRX12_633 okX12_plans (pc2 := 33) rfl dX12_plans_30 rfl rfl (Nat.le_of_ble_eq_true rfl) (Nat.le_of_ble_eq_true rfl) (d' := dr) (by omega) q246 ⟨by decide, rfl⟩ (EW_mono (fun _ _ hr => ?_) (hRX12_plans (v1 ||| (1 <<< (v5 &&& 31))) (v5 + 1) (v3 - 1) v4  x _  h))
    obtain ⟨x4, rfl, rfl, h⟩ := hr
    refine EW_iinc (v5 + 1) (pc2 := 36) rfl dX12_plans_33 4 rfl rfl (by decide) [1, 2, 3, 4, 0] [(0, .ref 246), (1, .int v1), (3, .int v3), (4, .int v4), (5, .int (v5 + 1))] rfl ?_
    refine EW_goto (tgt := 7) dX12_plans_36 (by decide) ?_
    exact hL7 (v5 + 1) x4 h
set_option maxHeartbeats 4000000 in
set_option maxRecDepth 100000 in
def bX12_plans (RX12_plans : Int32 → Int32 → Int32 → Int32 → ab_X → (ab_X → Prop) → Prop) (v1 : Int32) (v2 : Int32) (v3 : Int32) (v4 : Int32) (x : ab_X) (K : ab_X → Prop) : Prop := ((v3 ≤ 0 → Lp2 (lX12_plans_46 RX12_plans v1 v4 x K ) 0 0) ∧ (¬ v3 ≤ 0 → Lp2 (lX12_plans_7 RX12_plans v1 v3 v4 K ) v2 x))
set_option maxHeartbeats 4000000 in
set_option maxRecDepth 100000 in
theorem bsX12_plans (RX12_plans : Int32 → Int32 → Int32 → Int32 → ab_X → (ab_X → Prop) → Prop) (v1 : Int32) (v2 : Int32) (v3 : Int32) (v4 : Int32)  (x : ab_X) (K : ab_X → Prop) (d bc bs : Nat) (hdp : 2 ≤ d) (dr : Nat) (hRX12_plans : ∀ (v1 : Int32) (v2 : Int32) (v3 : Int32) (v4 : Int32)  (x : ab_X) (K : ab_X → Prop), RX12_plans v1 v2 v3 v4 x K → EW MX12_plans 0 [(0, .ref 246), (1, .int v1), (2, .int v2), (3, .int v3), (4, .int v4)] [] (aS x) dr 0 0 (liV K)) (hdr : dr + 1 ≤ d) (h : bX12_plans RX12_plans v1 v2 v3 v4 x K) : EW MX12_plans 0 [(0, .ref 246), (1, .int v1), (2, .int v2), (3, .int v3), (4, .int v4)] [] (aS x) d bc bs (liV K) := by
  unfold bX12_plans at h
  refine EW_iload_n (pc2 := 1) rfl dX12_plans_0 3 rfl ?_
  refine EW_if_le (tgt := 40) (pc2 := 4) rfl dX12_plans_1 (by decide) (fun q => ?_) (fun q => ?_)
  · replace h := h.1 q
    refine EW_iconst (pc2 := 41) (v := 0) rfl dX12_plans_40 (by decide) ?_
    refine EW_istore (pc2 := 43) rfl dX12_plans_41 (by decide) [1, 2, 3, 4, 5, 0] [(0, .ref 246), (1, .int v1), (2, .int v2), (3, .int v3), (4, .int v4), (5, .int 0)] rfl ?_
    refine EW_iconst (pc2 := 44) (v := 0) rfl dX12_plans_43 (by decide) ?_
    refine EW_istore (pc2 := 46) rfl dX12_plans_44 (by decide) [1, 2, 3, 4, 5, 6, 0] [(0, .ref 246), (1, .int v1), (2, .int v2), (3, .int v3), (4, .int v4), (5, .int 0), (6, .int 0)] rfl ?_
    refine EW_ls [0, 1, 4, 5, 6] rfl ?_
    exact sX12_plans_46 RX12_plans v1 v4 0 0 x K d bc bs hdp dr hRX12_plans hdr h
  · replace h := h.2 q
    refine EW_iload_n (pc2 := 5) rfl dX12_plans_4 2 rfl ?_
    refine EW_istore (pc2 := 7) rfl dX12_plans_5 (by decide) [1, 2, 3, 4, 5, 0] [(0, .ref 246), (1, .int v1), (2, .int v2), (3, .int v3), (4, .int v4), (5, .int v2)] rfl ?_
    refine EW_ls [0, 1, 3, 4, 5] rfl ?_
    exact sX12_plans_7 RX12_plans v1 v3 v4 v2 x K d bc bs hdp dr hRX12_plans hdr h
def famX12_plans : Nat → (Int32 → Int32 → Int32 → Int32 → ab_X → (ab_X → Prop) → Prop)
  | 0 => ((fun v1 v2 v3 v4 x K => False))
  | n + 1 => ((fun v1 v2 v3 v4 x K => bX12_plans (famX12_plans n) v1 v2 v3 v4 x K))
set_option maxHeartbeats 4000000 in
theorem famX12_plansS : ∀ n, (∀ (v1 : Int32) (v2 : Int32) (v3 : Int32) (v4 : Int32)  (x : ab_X) (K : ab_X → Prop), (famX12_plans n) v1 v2 v3 v4 x K → EW MX12_plans 0 [(0, .ref 246), (1, .int v1), (2, .int v2), (3, .int v3), (4, .int v4)] [] (aS x) (2 + n) 0 0 (liV K)) := by
  intro n
  induction n with
  | zero => exact fun v1 v2 v3 v4  x K h => False.elim h
  | succ n ih =>
    have i0 := ih
    exact fun v1 v2 v3 v4  x K h => bsX12_plans _ v1 v2 v3 v4  x K (2 + (n + 1)) 0 0 (by omega) (2 + n) i0 (by omega) h
def wX12_plans (v1 : Int32) (v2 : Int32) (v3 : Int32) (v4 : Int32) (x : ab_X) (K : ab_X → Prop) : Prop := ∃ n, n ≤ 100 ∧ (famX12_plans n) v1 v2 v3 v4 x K
theorem sX12_plans (v1 : Int32) (v2 : Int32) (v3 : Int32) (v4 : Int32)  (x : ab_X) (K : ab_X → Prop) (d bc bs : Nat) (hdp : 103 ≤ d) (h : wX12_plans v1 v2 v3 v4 x K) : EW MX12_plans 0 [(0, .ref 246), (1, .int v1), (2, .int v2), (3, .int v3), (4, .int v4)] [] (aS x) d bc bs (liV K) := by
  obtain ⟨n, hn, h⟩ := h
  cases n with
  | zero => exact False.elim h
  | succ n =>
    have i0 := famX12_plansS n
    exact bsX12_plans _ v1 v2 v3 v4  x K d bc bs (by omega) (2 + n) i0 (by omega) h
