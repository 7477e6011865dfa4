theorem mlRX11_359 : Cond.methodLink RX11 359 yX8_bytesIn ∈ ab_G ∧ Cond.static yX8_bytesIn ∈ ab_G := ⟨ab_in 1156 (by decide +kernel) (by decide +kernel), ab_in 1157 (by decide +kernel) (by decide +kernel)⟩
theorem mlRX11_365 : Cond.methodLink RX11 365 yX8_take ∈ ab_G ∧ Cond.instanceMethod yX8_take ∈ ab_G ∧ Cond.selects RX8 yX8_take yX8_take ∈ ab_G := ⟨ab_in 1159 (by decide +kernel) (by decide +kernel), ab_in 1160 (by decide +kernel) (by decide +kernel), ab_in 1161 (by decide +kernel) (by decide +kernel)⟩
abbrev MX11_feed : ab_M := (yX11_feed, cX11_feed, 7, (some .int))
theorem dX11_feed_0 : decode cX11_feed 0 = .ok (.iload_n 1, 1) := by decide +kernel
theorem dX11_feed_1 : decode cX11_feed 1 = .ok (.invokestatic 359, 3) := by decide +kernel
theorem dX11_feed_4 : decode cX11_feed 4 = .ok (.iload_n 2, 1) := by decide +kernel
theorem dX11_feed_5 : decode cX11_feed 5 = .ok (.invokestatic 359, 3) := by decide +kernel
theorem dX11_feed_8 : decode cX11_feed 8 = .ok (.iadd, 1) := by decide +kernel
theorem dX11_feed_9 : decode cX11_feed 9 = .ok (.iload_n 3, 1) := by decide +kernel
theorem dX11_feed_10 : decode cX11_feed 10 = .ok (.invokestatic 359, 3) := by decide +kernel
theorem dX11_feed_13 : decode cX11_feed 13 = .ok (.iadd, 1) := by decide +kernel
theorem dX11_feed_14 : decode cX11_feed 14 = .ok (.iload 4, 2) := by decide +kernel
theorem dX11_feed_16 : decode cX11_feed 16 = .ok (.invokestatic 359, 3) := by decide +kernel
theorem dX11_feed_19 : decode cX11_feed 19 = .ok (.iadd, 1) := by decide +kernel
theorem dX11_feed_20 : decode cX11_feed 20 = .ok (.iload 5, 2) := by decide +kernel
theorem dX11_feed_22 : decode cX11_feed 22 = .ok (.invokestatic 359, 3) := by decide +kernel
theorem dX11_feed_25 : decode cX11_feed 25 = .ok (.iadd, 1) := by decide +kernel
theorem dX11_feed_26 : decode cX11_feed 26 = .ok (.istore 6, 2) := by decide +kernel
theorem dX11_feed_28 : decode cX11_feed 28 = .ok (.aload_n 0, 1) := by decide +kernel
theorem dX11_feed_29 : decode cX11_feed 29 = .ok (.getfield 37, 3) := by decide +kernel
theorem dX11_feed_32 : decode cX11_feed 32 = .ok (.getfield 362, 3) := by decide +kernel
theorem dX11_feed_35 : decode cX11_feed 35 = .ok (.iload 6, 2) := by decide +kernel
theorem dX11_feed_37 : decode cX11_feed 37 = .ok (.iadd, 1) := by decide +kernel
theorem dX11_feed_38 : decode cX11_feed 38 = .ok (.sipush 200, 3) := by decide +kernel
theorem dX11_feed_41 : decode cX11_feed 41 = .ok (.if_icmp .le 5, 3) := by decide +kernel
theorem dX11_feed_44 : decode cX11_feed 44 = .ok (.iconst (-1), 1) := by decide +kernel
theorem dX11_feed_45 : decode cX11_feed 45 = .ok (.ireturn, 1) := by decide +kernel
theorem dX11_feed_46 : decode cX11_feed 46 = .ok (.aload_n 0, 1) := by decide +kernel
theorem dX11_feed_47 : decode cX11_feed 47 = .ok (.getfield 37, 3) := by decide +kernel
theorem dX11_feed_50 : decode cX11_feed 50 = .ok (.iload_n 1, 1) := by decide +kernel
theorem dX11_feed_51 : decode cX11_feed 51 = .ok (.invokevirtual 365, 3) := by decide +kernel
theorem dX11_feed_54 : decode cX11_feed 54 = .ok (.aload_n 0, 1) := by decide +kernel
theorem dX11_feed_55 : decode cX11_feed 55 = .ok (.getfield 37, 3) := by decide +kernel
theorem dX11_feed_58 : decode cX11_feed 58 = .ok (.iload_n 2, 1) := by decide +kernel
theorem dX11_feed_59 : decode cX11_feed 59 = .ok (.invokevirtual 365, 3) := by decide +kernel
theorem dX11_feed_62 : decode cX11_feed 62 = .ok (.aload_n 0, 1) := by decide +kernel
theorem dX11_feed_63 : decode cX11_feed 63 = .ok (.getfield 37, 3) := by decide +kernel
theorem dX11_feed_66 : decode cX11_feed 66 = .ok (.iload_n 3, 1) := by decide +kernel
theorem dX11_feed_67 : decode cX11_feed 67 = .ok (.invokevirtual 365, 3) := by decide +kernel
theorem dX11_feed_70 : decode cX11_feed 70 = .ok (.aload_n 0, 1) := by decide +kernel
theorem dX11_feed_71 : decode cX11_feed 71 = .ok (.getfield 37, 3) := by decide +kernel
theorem dX11_feed_74 : decode cX11_feed 74 = .ok (.iload 4, 2) := by decide +kernel
theorem dX11_feed_76 : decode cX11_feed 76 = .ok (.invokevirtual 365, 3) := by decide +kernel
theorem dX11_feed_79 : decode cX11_feed 79 = .ok (.aload_n 0, 1) := by decide +kernel
theorem dX11_feed_80 : decode cX11_feed 80 = .ok (.getfield 37, 3) := by decide +kernel
theorem dX11_feed_83 : decode cX11_feed 83 = .ok (.iload 5, 2) := by decide +kernel
theorem dX11_feed_85 : decode cX11_feed 85 = .ok (.invokevirtual 365, 3) := by decide +kernel
theorem dX11_feed_88 : decode cX11_feed 88 = .ok (.aload_n 0, 1) := by decide +kernel
theorem dX11_feed_89 : decode cX11_feed 89 = .ok (.getfield 37, 3) := by decide +kernel
theorem dX11_feed_92 : decode cX11_feed 92 = .ok (.getfield 362, 3) := by decide +kernel
theorem dX11_feed_95 : decode cX11_feed 95 = .ok (.ireturn, 1) := by decide +kernel
theorem okX11_feed : ab_okM MX11_feed 5 := ⟨by decide, ⟨by decide, by decide⟩, ab_in 1155 (by decide +kernel) (by decide +kernel), ab_in 86 (by decide +kernel) (by decide +kernel), by decide +kernel, by decide⟩
set_option maxHeartbeats 4000000 in
set_option maxRecDepth 100000 in
def wX11_feed (v1 : Int32) (v2 : Int32) (v3 : Int32) (v4 : Int32) (v5 : Int32) (x : ab_X) (K : Int32 → ab_X → Prop) : Prop := wX8_bytesIn v1 x (fun r1 => wX8_bytesIn v2 x (fun r2 => wX8_bytesIn v3 x (fun r3 => wX8_bytesIn v4 x (fun r4 => wX8_bytesIn v5 x (fun r5 => ((((x.1 158 1) + ((((r1 + r2) + r3) + r4) + r5)) ≤ 200 → wX8_take v1 x (fun x6 => wX8_take v2 x6 (fun x7 => wX8_take v3 x7 (fun x8 => wX8_take v4 x8 (fun x9 => wX8_take v5 x9 (fun x10 => K (x10.1 158 1) x10)))))) ∧ (¬ ((x.1 158 1) + ((((r1 + r2) + r3) + r4) + r5)) ≤ 200 → K (-1) x)))))))
set_option maxHeartbeats 4000000 in
set_option maxRecDepth 100000 in
theorem sX11_feed (v1 : Int32) (v2 : Int32) (v3 : Int32) (v4 : Int32) (v5 : Int32)  (x : ab_X) (K : Int32 → ab_X → Prop) (d bc bs : Nat) (hdp : 1 ≤ d) (h : wX11_feed v1 v2 v3 v4 v5 x K) : EW MX11_feed 0 [(0, .ref 0), (1, .int v1), (2, .int v2), (3, .int v3), (4, .int v4), (5, .int v5)] [] (aS x) d bc bs (liI K) := by
  unfold wX11_feed at h
  refine EW_iload_n (pc2 := 1) rfl dX11_feed_0 1 rfl ?_
  refine AW_invS (M' := MX8_bytesIn) [.int v1] (rest := []) mlRX11_359 okX8_bytesIn (pc2 := 4) rfl dX11_feed_1 rfl rfl (Nat.le_of_ble_eq_true rfl) (Nat.le_of_ble_eq_true rfl) (d' := 0) (by omega) (EW_mono (fun _ _ hr => ?_) (sX8_bytesIn v1  x _ _ 0 0 (Nat.le_refl _) h))
  obtain ⟨r1, rfl, rfl, h⟩ := hr
  refine EW_iload_n (pc2 := 5) rfl dX11_feed_4 2 rfl ?_
  refine AW_invS (M' := MX8_bytesIn) [.int v2] (rest := [.int r1]) mlRX11_359 okX8_bytesIn (pc2 := 8) rfl dX11_feed_5 rfl rfl (Nat.le_of_ble_eq_true rfl) (Nat.le_of_ble_eq_true rfl) (d' := 0) (by omega) (EW_mono (fun _ _ hr => ?_) (sX8_bytesIn v2  x _ _ 0 0 (Nat.le_refl _) h))
  obtain ⟨r2, rfl, rfl, h⟩ := hr
  refine EW_iadd (pc2 := 9) rfl dX11_feed_8 ?_
  refine EW_iload_n (pc2 := 10) rfl dX11_feed_9 3 rfl ?_
  refine AW_invS (M' := MX8_bytesIn) [.int v3] (rest := [.int (r1 + r2)]) mlRX11_359 okX8_bytesIn (pc2 := 13) rfl dX11_feed_10 rfl rfl (Nat.le_of_ble_eq_true rfl) (Nat.le_of_ble_eq_true rfl) (d' := 0) (by omega) (EW_mono (fun _ _ hr => ?_) (sX8_bytesIn v3  x _ _ 0 0 (Nat.le_refl _) h))
  obtain ⟨r3, rfl, rfl, h⟩ := hr
  refine EW_iadd (pc2 := 14) rfl dX11_feed_13 ?_
  refine EW_iload (pc2 := 16) rfl dX11_feed_14 4 rfl ?_
  refine AW_invS (M' := MX8_bytesIn) [.int v4] (rest := [.int ((r1 + r2) + r3)]) mlRX11_359 okX8_bytesIn (pc2 := 19) rfl dX11_feed_16 rfl rfl (Nat.le_of_ble_eq_true rfl) (Nat.le_of_ble_eq_true rfl) (d' := 0) (by omega) (EW_mono (fun _ _ hr => ?_) (sX8_bytesIn v4  x _ _ 0 0 (Nat.le_refl _) h))
  obtain ⟨r4, rfl, rfl, h⟩ := hr
  refine EW_iadd (pc2 := 20) rfl dX11_feed_19 ?_
  refine EW_iload (pc2 := 22) rfl dX11_feed_20 5 rfl ?_
  refine AW_invS (M' := MX8_bytesIn) [.int v5] (rest := [.int (((r1 + r2) + r3) + r4)]) mlRX11_359 okX8_bytesIn (pc2 := 25) rfl dX11_feed_22 rfl rfl (Nat.le_of_ble_eq_true rfl) (Nat.le_of_ble_eq_true rfl) (d' := 0) (by omega) (EW_mono (fun _ _ hr => ?_) (sX8_bytesIn v5  x _ _ 0 0 (Nat.le_refl _) h))
  obtain ⟨r5, rfl, rfl, h⟩ := hr
  refine EW_iadd (pc2 := 26) rfl dX11_feed_25 ?_
  refine EW_istore (pc2 := 28) rfl dX11_feed_26 (by decide) [1, 2, 3, 4, 5, 6, 0] [(0, .ref 0), (1, .int v1), (2, .int v2), (3, .int v3), (4, .int v4), (5, .int v5), (6, .int ((((r1 + r2) + r3) + r4) + r5))] rfl ?_
  refine EW_aload_n (pc2 := 29) rfl dX11_feed_28 0 rfl ?_
  refine AW_getr (r := 158) ⟨gfRX11_37, rfl⟩ (pc2 := 32) rfl dX11_feed_29 q0 rfl ?_
  refine AW_geti ⟨gfRX11_362, rfl⟩ (pc2 := 35) rfl dX11_feed_32 q158 ?_
  refine EW_iload (pc2 := 37) rfl dX11_feed_35 6 rfl ?_
  refine EW_iadd (pc2 := 38) rfl dX11_feed_37 ?_
  refine EW_sipush (pc2 := 41) (v := 200) rfl dX11_feed_38 (by decide) ?_
  refine EW_icmp_le (tgt := 46) (pc2 := 44) rfl dX11_feed_41 (by decide) (fun q => ?_) (fun q => ?_)
  · replace h := h.1 q
    refine EW_aload_n (pc2 := 47) rfl dX11_feed_46 0 rfl ?_
    refine AW_getr (r := 158) ⟨gfRX11_37, rfl⟩ (pc2 := 50) rfl dX11_feed_47 q0 rfl ?_
    refine EW_iload_n (pc2 := 51) rfl dX11_feed_50 1 rfl ?_
    refine AW_invV (M' := MX8_take) [.int v1] (rest := []) mlRX11_365 okX8_take (pc2 := 54) rfl dX11_feed_51 rfl rfl (Nat.le_of_ble_eq_true rfl) (Nat.le_of_ble_eq_true rfl) (d' := 0) (by omega) q158 ⟨by decide, rfl⟩ (EW_mono (fun _ _ hr => ?_) (sX8_take v1  x _ _ 0 0 (Nat.le_refl _) h))
    obtain ⟨x6, rfl, rfl, h⟩ := hr
    refine EW_aload_n (pc2 := 55) rfl dX11_feed_54 0 rfl ?_
    refine AW_getr (r := 158) ⟨gfRX11_37, rfl⟩ (pc2 := 58) rfl dX11_feed_55 q0 rfl ?_
    refine EW_iload_n (pc2 := 59) rfl dX11_feed_58 2 rfl ?_
    refine AW_invV (M' := MX8_take) [.int v2] (rest := []) mlRX11_365 okX8_take (pc2 := 62) rfl dX11_feed_59 rfl rfl (Nat.le_of_ble_eq_true rfl) (Nat.le_of_ble_eq_true rfl) (d' := 0) (by omega) q158 ⟨by decide, rfl⟩ (EW_mono (fun _ _ hr => ?_) (sX8_take v2  x6 _ _ 0 0 (Nat.le_refl _) h))
    obtain ⟨x7, rfl, rfl, h⟩ := hr
    refine EW_aload_n (pc2 := 63) rfl dX11_feed_62 0 rfl ?_
    refine AW_getr (r := 158) ⟨gfRX11_37, rfl⟩ (pc2 := 66) rfl dX11_feed_63 q0 rfl ?_
    refine EW_iload_n (pc2 := 67) rfl dX11_feed_66 3 rfl ?_
    refine AW_invV (M' := MX8_take) [.int v3] (rest := []) mlRX11_365 okX8_take (pc2 := 70) rfl dX11_feed_67 rfl rfl (Nat.le_of_ble_eq_true rfl) (Nat.le_of_ble_eq_true rfl) (d' := 0) (by omega) q158 ⟨by decide, rfl⟩ (EW_mono (fun _ _ hr => ?_) (sX8_take v3  x7 _ _ 0 0 (Nat.le_refl _) h))
    obtain ⟨x8, rfl, rfl, h⟩ := hr
    refine EW_aload_n (pc2 := 71) rfl dX11_feed_70 0 rfl ?_
    refine AW_getr (r := 158) ⟨gfRX11_37, rfl⟩ (pc2 := 74) rfl dX11_feed_71 q0 rfl ?_
    refine EW_iload (pc2 := 76) rfl dX11_feed_74 4 rfl ?_
    refine AW_invV (M' := MX8_take) [.int v4] (rest := []) mlRX11_365 okX8_take (pc2 := 79) rfl dX11_feed_76 rfl rfl (Nat.le_of_ble_eq_true rfl) (Nat.le_of_ble_eq_true rfl) (d' := 0) (by omega) q158 ⟨by decide, rfl⟩ (EW_mono (fun _ _ hr => ?_) (sX8_take v4  x8 _ _ 0 0 (Nat.le_refl _) h))
    obtain ⟨x9, rfl, rfl, h⟩ := hr
    refine EW_aload_n (pc2 := 80) rfl dX11_feed_79 0 rfl ?_
    refine AW_getr (r := 158) ⟨gfRX11_37, rfl⟩ (pc2 := 83) rfl dX11_feed_80 q0 rfl ?_
    refine EW_iload (pc2 := 85) rfl dX11_feed_83 5 rfl ?_
    refine AW_invV (M' := MX8_take) [.int v5] (rest := []) mlRX11_365 okX8_take (pc2 := 88) rfl dX11_feed_85 rfl rfl (Nat.le_of_ble_eq_true rfl) (Nat.le_of_ble_eq_true rfl) (d' := 0) (by omega) q158 ⟨by decide, rfl⟩ (EW_mono (fun _ _ hr => ?_) (sX8_take v5  x9 _ _ 0 0 (Nat.le_refl _) h))
    obtain ⟨x10, rfl, rfl, h⟩ := hr
    refine EW_aload_n (pc2 := 89) rfl dX11_feed_88 0 rfl ?_
    refine AW_getr (r := 158) ⟨gfRX11_37, rfl⟩ (pc2 := 92) rfl dX11_feed_89 q0 rfl ?_
    refine AW_geti ⟨gfRX11_362, rfl⟩ (pc2 := 95) rfl dX11_feed_92 q158 ?_
    exact AW_iret rfl dX11_feed_95 ⟨_, _, rfl, rfl, h⟩
  · replace h := h.2 q
    refine EW_iconst (pc2 := 45) (v := (-1)) rfl dX11_feed_44 (by decide) ?_
    exact AW_iret rfl dX11_feed_45 ⟨_, _, rfl, rfl, h⟩
theorem mlRX11_100 : Cond.methodLink RX11 100 yX6_walk ∈ ab_G ∧ Cond.instanceMethod yX6_walk ∈ ab_G ∧ Cond.selects RX6 yX6_walk yX6_walk ∈ ab_G := ⟨ab_in 823 (by decide +kernel) (by decide +kernel), ab_in 782 (by decide +kernel) (by decide +kernel), ab_in 783 (by decide +kernel) (by decide +kernel)⟩
theorem cnRX11_104 : Cond.constant RX11 104 1000000 ∈ ab_G := ab_in 824 (by decide +kernel) (by decide +kernel)
abbrev MX11_feet : ab_M := (yX11_feet, cX11_feet, 4, (some .int))
theorem dX11_feet_0 : decode cX11_feet 0 = .ok (.aload_n 0, 1) := by decide +kernel
theorem dX11_feet_1 : decode cX11_feet 1 = .ok (.getfield 12, 3) := by decide +kernel
theorem dX11_feet_4 : decode cX11_feet 4 = .ok (.iload_n 1, 1) := by decide +kernel
theorem dX11_feet_5 : decode cX11_feet 5 = .ok (.iload_n 2, 1) := by decide +kernel
theorem dX11_feet_6 : decode cX11_feet 6 = .ok (.invokevirtual 100, 3) := by decide +kernel
theorem dX11_feet_9 : decode cX11_feet 9 = .ok (.istore_n 3, 1) := by decide +kernel
theorem dX11_feet_10 : decode cX11_feet 10 = .ok (.iload_n 3, 1) := by decide +kernel
theorem dX11_feet_11 : decode cX11_feet 11 = .ok (.ldc 104, 2) := by decide +kernel
theorem dX11_feet_13 : decode cX11_feet 13 = .ok (.if_icmp .lt 7, 3) := by decide +kernel
theorem dX11_feet_16 : decode cX11_feet 16 = .ok (.iconst (-1), 1) := by decide +kernel
theorem dX11_feet_17 : decode cX11_feet 17 = .ok (.goto 7, 3) := by decide +kernel
theorem dX11_feet_20 : decode cX11_feet 20 = .ok (.iload_n 3, 1) := by decide +kernel
theorem dX11_feet_21 : decode cX11_feet 21 = .ok (.bipush 100, 2) := by decide +kernel
theorem dX11_feet_23 : decode cX11_feet 23 = .ok (.imul, 1) := by decide +kernel
theorem dX11_feet_24 : decode cX11_feet 24 = .ok (.ireturn, 1) := by decide +kernel
theorem okX11_feet : ab_okM MX11_feet 2 := ⟨by decide, ⟨by decide, by decide⟩, ab_in 822 (by decide +kernel) (by decide +kernel), ab_in 86 (by decide +kernel) (by decide +kernel), by decide +kernel, by decide⟩
set_option maxHeartbeats 4000000 in
set_option maxRecDepth 100000 in
def wX11_feet (v1 : Int32) (v2 : Int32) (x : ab_X) (K : Int32 → Prop) : Prop := wX6_walk v1 v2 x (fun r1 => ((r1 < 1000000 → K (r1 * 100)) ∧ (¬ r1 < 1000000 → K (-1))))
set_option maxHeartbeats 4000000 in
set_option maxRecDepth 100000 in
theorem sX11_feet (v1 : Int32) (v2 : Int32)  (x : ab_X) (K : Int32 → Prop) (d bc bs : Nat) (hdp : 2 ≤ d) (h : wX11_feet v1 v2 x K) : EW MX11_feet 0 [(0, .ref 0), (1, .int v1), (2, .int v2)] [] (aS x) d bc bs (liP x K) := by
  unfold wX11_feet at h
  refine EW_aload_n (pc2 := 1) rfl dX11_feet_0 0 rfl ?_
  refine AW_getr (r := 1) ⟨gfRX11_12, rfl⟩ (pc2 := 4) rfl dX11_feet_1 q0 rfl ?_
  refine EW_iload_n (pc2 := 5) rfl dX11_feet_4 1 rfl ?_
  refine EW_iload_n (pc2 := 6) rfl dX11_feet_5 2 rfl ?_
  refine AW_invV (M' := MX6_walk) [.int v1, .int v2] (rest := []) mlRX11_100 okX6_walk (pc2 := 9) rfl dX11_feet_6 rfl rfl (Nat.le_of_ble_eq_true rfl) (Nat.le_of_ble_eq_true rfl) (d' := 1) (by omega) q1 ⟨by decide, rfl⟩ (EW_mono (fun _ _ hr => ?_) (sX6_walk v1 v2  x _ _ 0 0 (Nat.le_refl _) h))
  obtain ⟨r1, rfl, rfl, h⟩ := hr
  refine EW_istore_n (pc2 := 10) rfl dX11_feet_9 (by decide) [1, 2, 3, 0] [(0, .ref 0), (1, .int v1), (2, .int v2), (3, .int r1)] rfl ?_
  refine EW_iload_n (pc2 := 11) rfl dX11_feet_10 3 rfl ?_
  refine EW_ldc cnRX11_104 (pc2 := 13) rfl dX11_feet_11 ?_
  refine EW_icmp_lt (tgt := 20) (pc2 := 16) rfl dX11_feet_13 (by decide) (fun q => ?_) (fun q => ?_)
  · replace h := h.1 q
    refine EW_iload_n (pc2 := 21) rfl dX11_feet_20 3 rfl ?_
    refine EW_bipush (pc2 := 23) (v := 100) rfl dX11_feet_21 (by decide) ?_
    refine EW_imul (pc2 := 24) rfl dX11_feet_23 ?_
    exact AW_iret rfl dX11_feet_24 ⟨_, rfl, rfl, h⟩
  · replace h := h.2 q
    refine EW_iconst (pc2 := 17) (v := (-1)) rfl dX11_feet_16 (by decide) ?_
    refine EW_goto (tgt := 24) dX11_feet_17 (by decide) ?_
    exact AW_iret rfl dX11_feet_24 ⟨_, rfl, rfl, h⟩
abbrev MX3_fill : ab_M := (yX3_fill, cX3_fill, 5, none)
theorem dX3_fill_0 : decode cX3_fill 0 = .ok (.iconst 0, 1) := by decide +kernel
theorem dX3_fill_1 : decode cX3_fill 1 = .ok (.istore 4, 2) := by decide +kernel
theorem dX3_fill_3 : decode cX3_fill 3 = .ok (.iload 4, 2) := by decide +kernel
theorem dX3_fill_5 : decode cX3_fill 5 = .ok (.aload_n 1, 1) := by decide +kernel
theorem dX3_fill_6 : decode cX3_fill 6 = .ok (.getfield 60, 3) := by decide +kernel
theorem dX3_fill_9 : decode cX3_fill 9 = .ok (.if_icmp .ge 28, 3) := by decide +kernel
theorem dX3_fill_12 : decode cX3_fill 12 = .ok (.aload_n 0, 1) := by decide +kernel
theorem dX3_fill_13 : decode cX3_fill 13 = .ok (.getfield 15, 3) := by decide +kernel
theorem dX3_fill_16 : decode cX3_fill 16 = .ok (.aload_n 1, 1) := by decide +kernel
theorem dX3_fill_17 : decode cX3_fill 17 = .ok (.iload_n 2, 1) := by decide +kernel
theorem dX3_fill_18 : decode cX3_fill 18 = .ok (.aload_n 1, 1) := by decide +kernel
theorem dX3_fill_19 : decode cX3_fill 19 = .ok (.getfield 60, 3) := by decide +kernel
theorem dX3_fill_22 : decode cX3_fill 22 = .ok (.imul, 1) := by decide +kernel
theorem dX3_fill_23 : decode cX3_fill 23 = .ok (.iload 4, 2) := by decide +kernel
theorem dX3_fill_25 : decode cX3_fill 25 = .ok (.iadd, 1) := by decide +kernel
theorem dX3_fill_26 : decode cX3_fill 26 = .ok (.invokevirtual 63, 3) := by decide +kernel
theorem dX3_fill_29 : decode cX3_fill 29 = .ok (.iload_n 3, 1) := by decide +kernel
theorem dX3_fill_30 : decode cX3_fill 30 = .ok (.iastore, 1) := by decide +kernel
theorem dX3_fill_31 : decode cX3_fill 31 = .ok (.iinc 4 1, 3) := by decide +kernel
theorem dX3_fill_34 : decode cX3_fill 34 = .ok (.goto (-31), 3) := by decide +kernel
theorem dX3_fill_37 : decode cX3_fill 37 = .ok (.return_, 1) := by decide +kernel
theorem okX3_fill : ab_okM MX3_fill 3 := ⟨by decide, ⟨by decide, by decide⟩, ab_in 870 (by decide +kernel) (by decide +kernel), ab_in 90 (by decide +kernel) (by decide +kernel), by decide +kernel, by decide⟩
set_option maxHeartbeats 4000000 in
set_option maxRecDepth 100000 in
def lX3_fill_3 (v0 : Nat) (v1 : Nat) (v2 : Int32) (v3 : Int32) (K : ab_X → Prop)  (L3 : Int32 → ab_X → Prop) (v4 : Int32) (x : ab_X) : Prop := (((x.1 v1 4) ≤ v4 → K x) ∧ (¬ (x.1 v1 4) ≤ v4 → wX4_place v1 ((v2 * (x.1 v1 4)) + v4) x (fun r1 => (vp_in r1 288 ∧ L3 (v4 + 1) (wr x (v0 + 2) (Int32.toNatClampNeg r1) v3)))))
set_option maxHeartbeats 4000000 in
set_option maxRecDepth 100000 in
theorem sX3_fill_3 (v0 : Nat) (v1 : Nat) (v2 : Int32) (v3 : Int32) (v4 : Int32) (hv0 : isF v0) (hv1 : isH v1) (x : ab_X) (K : ab_X → Prop)  (d bc bs : Nat) (hdp : 1 ≤ d)  (h : Lp2 (lX3_fill_3 v0 v1 v2 v3 K ) v4 x) : EW MX3_fill 3 [(0, .ref v0), (1, .ref v1), (2, .int v2), (3, .int v3), (4, .int v4)] [] (aS x) d bc bs (liV K) := by
  refine Lp2.use (P := fun v4 x => EW MX3_fill 3 [(0, .ref v0), (1, .ref v1), (2, .int v2), (3, .int v3), (4, .int v4)] [] (aS x) d bc bs (liV K)) (fun L3 v4 x hL3 h => ?_) v4 x h
  unfold lX3_fill_3 at h
  refine EW_iload (pc2 := 5) rfl dX3_fill_3 4 rfl ?_
  refine EW_aload_n (pc2 := 6) rfl dX3_fill_5 1 rfl ?_
  refine AW_geti ⟨gfRX3_60, rfl⟩ (pc2 := 9) rfl dX3_fill_6 (isH.o hv1) ?_
  refine EW_icmp_ge (tgt := 37) (pc2 := 12) rfl dX3_fill_9 (by decide) (fun q => ?_) (fun q => ?_)
  · replace h := h.1 q
    exact EW_vret rfl dX3_fill_37 ⟨_, rfl, rfl, h⟩
  · replace h := h.2 q
    refine EW_aload_n (pc2 := 13) rfl dX3_fill_12 0 rfl ?_
    refine AW_getr (r := (v0 + 2)) ⟨gfRX3_15, rfl⟩ (pc2 := 16) rfl dX3_fill_13 (isF.o hv0) (isF.r1 hv0) ?_
    refine EW_aload_n (pc2 := 17) rfl dX3_fill_16 1 rfl ?_
    refine EW_iload_n (pc2 := 18) rfl dX3_fill_17 2 rfl ?_
    refine EW_aload_n (pc2 := 19) rfl dX3_fill_18 1 rfl ?_
    refine AW_geti ⟨gfRX3_60, rfl⟩ (pc2 := 22) rfl dX3_fill_19 (isH.o hv1) ?_
    refine EW_imul (pc2 := 23) rfl dX3_fill_22 ?_
    refine EW_iload (pc2 := 25) rfl dX3_fill_23 4 rfl ?_
    refine EW_iadd (pc2 := 26) rfl dX3_fill_25 ?_
    refine AW_invV (M' := MX4_place) [.int ((v2 * (x.1 v1 4)) + v4)] (rest := [.ref (v0 + 2)]) mlRX3_63 okX4_place (pc2 := 29) rfl dX3_fill_26 rfl rfl (Nat.le_of_ble_eq_true rfl) (Nat.le_of_ble_eq_true rfl) (d' := 0) (by omega) (isH.o hv1) ⟨by decide, rfl⟩ (EW_mono (fun _ _ hr => ?_) (sX4_place v1 ((v2 * (x.1 v1 4)) + v4) hv1 x _ _ 0 0 (Nat.le_refl _) h))
    obtain ⟨r1, rfl, rfl, h⟩ := hr
    refine EW_iload_n (pc2 := 30) rfl dX3_fill_29 3 rfl ?_
    obtain ⟨b2, h⟩ := h
    refine AW_iast (pc2 := 31) rfl dX3_fill_30 (isF.a1 hv0) b2 ?_
    refine EW_iinc (v4 + 1) (pc2 := 34) rfl dX3_fill_31 4 rfl rfl (by decide) [1, 2, 3, 4, 0] [(0, .ref v0), (1, .ref v1), (2, .int v2), (3, .int v3), (4, .int (v4 + 1))] rfl ?_
    refine EW_goto (tgt := 3) dX3_fill_34 (by decide) ?_
    exact hL3 (v4 + 1) (wr x (v0 + 2) (Int32.toNatClampNeg r1) v3) h
set_option maxHeartbeats 4000000 in
set_option maxRecDepth 100000 in
def wX3_fill (v0 : Nat) (v1 : Nat) (v2 : Int32) (v3 : Int32) (x : ab_X) (K : ab_X → Prop) : Prop := Lp2 (lX3_fill_3 v0 v1 v2 v3 K ) 0 x
set_option maxHeartbeats 4000000 in
set_option maxRecDepth 100000 in
theorem sX3_fill (v0 : Nat) (v1 : Nat) (v2 : Int32) (v3 : Int32) (hv0 : isF v0) (hv1 : isH v1) (x : ab_X) (K : ab_X → Prop) (d bc bs : Nat) (hdp : 1 ≤ d) (h : wX3_fill v0 v1 v2 v3 x K) : EW MX3_fill 0 [(0, .ref v0), (1, .ref v1), (2, .int v2), (3, .int v3)] [] (aS x) d bc bs (liV K) := by
  unfold wX3_fill at h
  refine EW_iconst (pc2 := 1) (v := 0) rfl dX3_fill_0 (by decide) ?_
  refine EW_istore (pc2 := 3) rfl dX3_fill_1 (by decide) [1, 2, 3, 4, 0] [(0, .ref v0), (1, .ref v1), (2, .int v2), (3, .int v3), (4, .int 0)] rfl ?_
  exact sX3_fill_3 v0 v1 v2 v3 0 hv0 hv1 x K d bc bs hdp h
theorem mlRX11_147 : Cond.methodLink RX11 147 yX10_hasFloor ∈ ab_G ∧ Cond.instanceMethod yX10_hasFloor ∈ ab_G ∧ Cond.selects RX10 yX10_hasFloor yX10_hasFloor ∈ ab_G := ⟨ab_in 855 (by decide +kernel) (by decide +kernel), ab_in 856 (by decide +kernel) (by decide +kernel), ab_in 857 (by decide +kernel) (by decide +kernel)⟩
theorem gfRX11_150 : ab_L RX11 150 10 3 := ⟨by decide, by decide, ab_in 319 (by decide +kernel) (by decide +kernel)⟩
theorem mlRX11_154 : Cond.methodLink RX11 154 yX3_hasFallen ∈ ab_G ∧ Cond.instanceMethod yX3_hasFallen ∈ ab_G ∧ Cond.selects RX3 yX3_hasFallen yX3_hasFallen ∈ ab_G := ⟨ab_in 859 (by decide +kernel) (by decide +kernel), ab_in 860 (by decide +kernel) (by decide +kernel), ab_in 861 (by decide +kernel) (by decide +kernel)⟩
theorem gfRX11_160 : ab_L RX11 160 4 12 := ⟨by decide, by decide, ab_in 259 (by decide +kernel) (by decide +kernel)⟩
theorem gfRX11_163 : ab_L RX11 163 4 13 := ⟨by decide, by decide, ab_in 261 (by decide +kernel) (by decide +kernel)⟩
theorem mlRX11_166 : Cond.methodLink RX11 166 yX3_fill ∈ ab_G ∧ Cond.instanceMethod yX3_fill ∈ ab_G ∧ Cond.selects RX3 yX3_fill yX3_fill ∈ ab_G := ⟨ab_in 867 (by decide +kernel) (by decide +kernel), ab_in 868 (by decide +kernel) (by decide +kernel), ab_in 869 (by decide +kernel) (by decide +kernel)⟩
theorem mlRX11_170 : Cond.methodLink RX11 170 yX0_witness ∈ ab_G ∧ Cond.instanceMethod yX0_witness ∈ ab_G ∧ Cond.selects RX0 yX0_witness yX0_witness ∈ ab_G := ⟨ab_in 875 (by decide +kernel) (by decide +kernel), ab_in 876 (by decide +kernel) (by decide +kernel), ab_in 877 (by decide +kernel) (by decide +kernel)⟩
abbrev MX11_floor : ab_M := (yX11_floor, cX11_floor, 6, (some .boolean))
theorem dX11_floor_0 : decode cX11_floor 0 = .ok (.aload_n 0, 1) := by decide +kernel
theorem dX11_floor_1 : decode cX11_floor 1 = .ok (.getfield 21, 3) := by decide +kernel
theorem dX11_floor_4 : decode cX11_floor 4 = .ok (.iload_n 1, 1) := by decide +kernel
theorem dX11_floor_5 : decode cX11_floor 5 = .ok (.iload_n 2, 1) := by decide +kernel
theorem dX11_floor_6 : decode cX11_floor 6 = .ok (.invokevirtual 147, 3) := by decide +kernel
theorem dX11_floor_9 : decode cX11_floor 9 = .ok (.ifCond .eq 25, 3) := by decide +kernel
theorem dX11_floor_12 : decode cX11_floor 12 = .ok (.iload_n 3, 1) := by decide +kernel
theorem dX11_floor_13 : decode cX11_floor 13 = .ok (.iconst 0, 1) := by decide +kernel
theorem dX11_floor_14 : decode cX11_floor 14 = .ok (.sipush 500, 3) := by decide +kernel
theorem dX11_floor_17 : decode cX11_floor 17 = .ok (.invokestatic 74, 3) := by decide +kernel
theorem dX11_floor_20 : decode cX11_floor 20 = .ok (.ifCond .eq 14, 3) := by decide +kernel
theorem dX11_floor_23 : decode cX11_floor 23 = .ok (.iload 4, 2) := by decide +kernel
theorem dX11_floor_25 : decode cX11_floor 25 = .ok (.iconst 0, 1) := by decide +kernel
theorem dX11_floor_26 : decode cX11_floor 26 = .ok (.bipush 20, 2) := by decide +kernel
theorem dX11_floor_28 : decode cX11_floor 28 = .ok (.invokestatic 74, 3) := by decide +kernel
theorem dX11_floor_31 : decode cX11_floor 31 = .ok (.ifCond .ne 5, 3) := by decide +kernel
theorem dX11_floor_34 : decode cX11_floor 34 = .ok (.iconst 0, 1) := by decide +kernel
theorem dX11_floor_35 : decode cX11_floor 35 = .ok (.ireturn, 1) := by decide +kernel
theorem dX11_floor_36 : decode cX11_floor 36 = .ok (.aload_n 0, 1) := by decide +kernel
theorem dX11_floor_37 : decode cX11_floor 37 = .ok (.getfield 21, 3) := by decide +kernel
theorem dX11_floor_40 : decode cX11_floor 40 = .ok (.getfield 127, 3) := by decide +kernel
theorem dX11_floor_43 : decode cX11_floor 43 = .ok (.iload_n 1, 1) := by decide +kernel
theorem dX11_floor_44 : decode cX11_floor 44 = .ok (.aaload, 1) := by decide +kernel
theorem dX11_floor_45 : decode cX11_floor 45 = .ok (.astore 5, 2) := by decide +kernel
theorem dX11_floor_47 : decode cX11_floor 47 = .ok (.aload_n 0, 1) := by decide +kernel
theorem dX11_floor_48 : decode cX11_floor 48 = .ok (.getfield 21, 3) := by decide +kernel
theorem dX11_floor_51 : decode cX11_floor 51 = .ok (.getfield 150, 3) := by decide +kernel
theorem dX11_floor_54 : decode cX11_floor 54 = .ok (.aload 5, 2) := by decide +kernel
theorem dX11_floor_56 : decode cX11_floor 56 = .ok (.iload_n 2, 1) := by decide +kernel
theorem dX11_floor_57 : decode cX11_floor 57 = .ok (.invokevirtual 154, 3) := by decide +kernel
theorem dX11_floor_60 : decode cX11_floor 60 = .ok (.ifCond .eq 5, 3) := by decide +kernel
theorem dX11_floor_63 : decode cX11_floor 63 = .ok (.iconst 0, 1) := by decide +kernel
theorem dX11_floor_64 : decode cX11_floor 64 = .ok (.ireturn, 1) := by decide +kernel
theorem dX11_floor_65 : decode cX11_floor 65 = .ok (.aload 5, 2) := by decide +kernel
theorem dX11_floor_67 : decode cX11_floor 67 = .ok (.getfield 160, 3) := by decide +kernel
theorem dX11_floor_70 : decode cX11_floor 70 = .ok (.iload_n 2, 1) := by decide +kernel
theorem dX11_floor_71 : decode cX11_floor 71 = .ok (.iload_n 3, 1) := by decide +kernel
theorem dX11_floor_72 : decode cX11_floor 72 = .ok (.iastore, 1) := by decide +kernel
theorem dX11_floor_73 : decode cX11_floor 73 = .ok (.aload 5, 2) := by decide +kernel
theorem dX11_floor_75 : decode cX11_floor 75 = .ok (.getfield 163, 3) := by decide +kernel
theorem dX11_floor_78 : decode cX11_floor 78 = .ok (.iload_n 2, 1) := by decide +kernel
theorem dX11_floor_79 : decode cX11_floor 79 = .ok (.iload 4, 2) := by decide +kernel
theorem dX11_floor_81 : decode cX11_floor 81 = .ok (.iastore, 1) := by decide +kernel
theorem dX11_floor_82 : decode cX11_floor 82 = .ok (.aload_n 0, 1) := by decide +kernel
theorem dX11_floor_83 : decode cX11_floor 83 = .ok (.getfield 21, 3) := by decide +kernel
theorem dX11_floor_86 : decode cX11_floor 86 = .ok (.getfield 150, 3) := by decide +kernel
theorem dX11_floor_89 : decode cX11_floor 89 = .ok (.aload 5, 2) := by decide +kernel
theorem dX11_floor_91 : decode cX11_floor 91 = .ok (.iload_n 2, 1) := by decide +kernel
theorem dX11_floor_92 : decode cX11_floor 92 = .ok (.iload_n 3, 1) := by decide +kernel
theorem dX11_floor_93 : decode cX11_floor 93 = .ok (.invokevirtual 166, 3) := by decide +kernel
theorem dX11_floor_96 : decode cX11_floor 96 = .ok (.aload_n 0, 1) := by decide +kernel
theorem dX11_floor_97 : decode cX11_floor 97 = .ok (.getfield 30, 3) := by decide +kernel
theorem dX11_floor_100 : decode cX11_floor 100 = .ok (.invokevirtual 170, 3) := by decide +kernel
theorem dX11_floor_103 : decode cX11_floor 103 = .ok (.iconst 1, 1) := by decide +kernel
theorem dX11_floor_104 : decode cX11_floor 104 = .ok (.ireturn, 1) := by decide +kernel
theorem okX11_floor : ab_okM MX11_floor 4 := ⟨by decide, ⟨by decide, by decide⟩, ab_in 854 (by decide +kernel) (by decide +kernel), ab_in 86 (by decide +kernel) (by decide +kernel), by decide +kernel, by decide⟩
set_option maxHeartbeats 4000000 in
set_option maxRecDepth 100000 in
def wX11_floor (v1 : Int32) (v2 : Int32) (v3 : Int32) (v4 : Int32) (x : ab_X) (K : Int32 → ab_X → Prop) : Prop := wX10_hasFloor v1 v2 x (fun r1 => ((r1 = 0 → K 0 x) ∧ (¬ r1 = 0 → wX11_within v3 0 500 x (fun r2 => ((r2 = 0 → K 0 x) ∧ (¬ r2 = 0 → wX11_within v4 0 20 x (fun r3 => ((¬ r3 = 0 → (vp_in v1 12 ∧ wX3_hasFallen 11 (30 + 3 * Int32.toNatClampNeg v1) v2 x (fun r5 => ((r5 = 0 → (vp_in v2 6 ∧ vp_in v2 6 ∧ wX3_fill 11 (30 + 3 * Int32.toNatClampNeg v1) v2 v3 (wr (wr x ((30 + 3 * Int32.toNatClampNeg v1) + 1) (Int32.toNatClampNeg v2) v3) ((30 + 3 * Int32.toNatClampNeg v1) + 2) (Int32.toNatClampNeg v2) v4) (fun x8 => wX0_witness x8 (fun x9 => K 1 x9)))) ∧ (¬ r5 = 0 → K 0 x))))) ∧ (r3 = 0 → K 0 x)))))))))
set_option maxHeartbeats 4000000 in
set_option maxRecDepth 100000 in
theorem sX11_floor (v1 : Int32) (v2 : Int32) (v3 : Int32) (v4 : Int32)  (x : ab_X) (K : Int32 → ab_X → Prop) (d bc bs : Nat) (hdp : 4 ≤ d) (h : wX11_floor v1 v2 v3 v4 x K) : EW MX11_floor 0 [(0, .ref 0), (1, .int v1), (2, .int v2), (3, .int v3), (4, .int v4)] [] (aS x) d bc bs (liI K) := by
  unfold wX11_floor at h
  refine EW_aload_n (pc2 := 1) rfl dX11_floor_0 0 rfl ?_
  refine AW_getr (r := 9) ⟨gfRX11_21, rfl⟩ (pc2 := 4) rfl dX11_floor_1 q0 rfl ?_
  refine EW_iload_n (pc2 := 5) rfl dX11_floor_4 1 rfl ?_
  refine EW_iload_n (pc2 := 6) rfl dX11_floor_5 2 rfl ?_
  refine AW_invV (M' := MX10_hasFloor) [.int v1, .int v2] (rest := []) mlRX11_147 okX10_hasFloor (pc2 := 9) rfl dX11_floor_6 rfl rfl (Nat.le_of_ble_eq_true rfl) (Nat.le_of_ble_eq_true rfl) (d' := 2) (by omega) q9 ⟨by decide, rfl⟩ (EW_mono (fun _ _ hr => ?_) (sX10_hasFloor v1 v2  x _ _ 0 0 (Nat.le_refl _) h))
  obtain ⟨r1, rfl, rfl, h⟩ := hr
  refine EW_if_eq (tgt := 34) (pc2 := 12) rfl dX11_floor_9 (by decide) (fun q => ?_) (fun q => ?_)
  · replace h := h.1 q
    refine EW_iconst (pc2 := 35) (v := 0) rfl dX11_floor_34 (by decide) ?_
    exact AW_zret rfl isB0 dX11_floor_35 ⟨_, _, rfl, rfl, h⟩
  · replace h := h.2 q
    refine EW_iload_n (pc2 := 13) rfl dX11_floor_12 3 rfl ?_
    refine EW_iconst (pc2 := 14) (v := 0) rfl dX11_floor_13 (by decide) ?_
    refine EW_sipush (pc2 := 17) (v := 500) rfl dX11_floor_14 (by decide) ?_
    refine AW_invS (M' := MX11_within) [.int v3, .int 0, .int 500] (rest := []) mlRX11_74 okX11_within (pc2 := 20) rfl dX11_floor_17 rfl rfl (Nat.le_of_ble_eq_true rfl) (Nat.le_of_ble_eq_true rfl) (d' := 0) (by omega) (EW_mono (fun _ _ hr => ?_) (sX11_within v3 0 500  x _ _ 0 0 (Nat.le_refl _) h))
    obtain ⟨r2, rfl, rfl, h⟩ := hr
    refine EW_if_eq (tgt := 34) (pc2 := 23) rfl dX11_floor_20 (by decide) (fun q => ?_) (fun q => ?_)
    · replace h := h.1 q
      refine EW_iconst (pc2 := 35) (v := 0) rfl dX11_floor_34 (by decide) ?_
      exact AW_zret rfl isB0 dX11_floor_35 ⟨_, _, rfl, rfl, h⟩
    · replace h := h.2 q
      refine EW_iload (pc2 := 25) rfl dX11_floor_23 4 rfl ?_
      refine EW_iconst (pc2 := 26) (v := 0) rfl dX11_floor_25 (by decide) ?_
      refine EW_bipush (pc2 := 28) (v := 20) rfl dX11_floor_26 (by decide) ?_
      refine AW_invS (M' := MX11_within) [.int v4, .int 0, .int 20] (rest := []) mlRX11_74 okX11_within (pc2 := 31) rfl dX11_floor_28 rfl rfl (Nat.le_of_ble_eq_true rfl) (Nat.le_of_ble_eq_true rfl) (d' := 0) (by omega) (EW_mono (fun _ _ hr => ?_) (sX11_within v4 0 20  x _ _ 0 0 (Nat.le_refl _) h))
      obtain ⟨r3, rfl, rfl, h⟩ := hr
      refine EW_if_ne (tgt := 36) (pc2 := 34) rfl dX11_floor_31 (by decide) (fun q => ?_) (fun q => ?_)
      · replace h := h.1 q
        refine EW_aload_n (pc2 := 37) rfl dX11_floor_36 0 rfl ?_
        refine AW_getr (r := 9) ⟨gfRX11_21, rfl⟩ (pc2 := 40) rfl dX11_floor_37 q0 rfl ?_
        refine AW_getr (r := 10) ⟨gfRX11_127, rfl⟩ (pc2 := 43) rfl dX11_floor_40 q9 rfl ?_
        refine EW_iload_n (pc2 := 44) rfl dX11_floor_43 1 rfl ?_
        obtain ⟨b4, h⟩ := h
        refine AW_aald5 (pc2 := 45) rfl dX11_floor_44 b4 ?_
        refine EW_astore (pc2 := 47) rfl dX11_floor_45 (by decide) [1, 2, 3, 4, 5, 0] [(0, .ref 0), (1, .int v1), (2, .int v2), (3, .int v3), (4, .int v4), (5, .ref (30 + 3 * Int32.toNatClampNeg v1))] rfl ?_
        refine EW_aload_n (pc2 := 48) rfl dX11_floor_47 0 rfl ?_
        refine AW_getr (r := 9) ⟨gfRX11_21, rfl⟩ (pc2 := 51) rfl dX11_floor_48 q0 rfl ?_
        refine AW_getr (r := 11) ⟨gfRX11_150, rfl⟩ (pc2 := 54) rfl dX11_floor_51 q9 rfl ?_
        refine EW_aload (pc2 := 56) rfl dX11_floor_54 5 rfl ?_
        refine EW_iload_n (pc2 := 57) rfl dX11_floor_56 2 rfl ?_
        refine AW_invV (M' := MX3_hasFallen) [.ref (30 + 3 * Int32.toNatClampNeg v1), .int v2] (rest := []) mlRX11_154 okX3_hasFallen (pc2 := 60) rfl dX11_floor_57 rfl rfl (Nat.le_of_ble_eq_true rfl) (Nat.le_of_ble_eq_true rfl) (d' := 1) (by omega) q11 ⟨by decide, rfl⟩ (EW_mono (fun _ _ hr => ?_) (sX3_hasFallen 11 (30 + 3 * Int32.toNatClampNeg v1) v2 (Or.inl rfl : isF 11) (isH_of b4) x _ _ 0 0 (Nat.le_refl _) h))
        obtain ⟨r5, rfl, rfl, h⟩ := hr
        refine EW_if_eq (tgt := 65) (pc2 := 63) rfl dX11_floor_60 (by decide) (fun q => ?_) (fun q => ?_)
        · replace h := h.1 q
          refine EW_aload (pc2 := 67) rfl dX11_floor_65 5 rfl ?_
          refine AW_getr (r := ((30 + 3 * Int32.toNatClampNeg v1) + 1)) ⟨gfRX11_160, rfl⟩ (pc2 := 70) rfl dX11_floor_67 (isH.o (isH_of b4)) (isH.r1 (isH_of b4)) ?_
          refine EW_iload_n (pc2 := 71) rfl dX11_floor_70 2 rfl ?_
          refine EW_iload_n (pc2 := 72) rfl dX11_floor_71 3 rfl ?_
          obtain ⟨b6, h⟩ := h
          refine AW_iast (pc2 := 73) rfl dX11_floor_72 (isH.a1 (isH_of b4)) b6 ?_
          refine EW_aload (pc2 := 75) rfl dX11_floor_73 5 rfl ?_
          refine AW_getr (r := ((30 + 3 * Int32.toNatClampNeg v1) + 2)) ⟨gfRX11_163, rfl⟩ (pc2 := 78) rfl dX11_floor_75 (isH.o (isH_of b4)) (isH.r2 (isH_of b4)) ?_
          refine EW_iload_n (pc2 := 79) rfl dX11_floor_78 2 rfl ?_
          refine EW_iload (pc2 := 81) rfl dX11_floor_79 4 rfl ?_
          obtain ⟨b7, h⟩ := h
          refine AW_iast (pc2 := 82) rfl dX11_floor_81 (isH.a2 (isH_of b4)) b7 ?_
          refine EW_aload_n (pc2 := 83) rfl dX11_floor_82 0 rfl ?_
          refine AW_getr (r := 9) ⟨gfRX11_21, rfl⟩ (pc2 := 86) rfl dX11_floor_83 q0 rfl ?_
          refine AW_getr (r := 11) ⟨gfRX11_150, rfl⟩ (pc2 := 89) rfl dX11_floor_86 q9 rfl ?_
          refine EW_aload (pc2 := 91) rfl dX11_floor_89 5 rfl ?_
          refine EW_iload_n (pc2 := 92) rfl dX11_floor_91 2 rfl ?_
          refine EW_iload_n (pc2 := 93) rfl dX11_floor_92 3 rfl ?_
          refine AW_invV (M' := MX3_fill) [.ref (30 + 3 * Int32.toNatClampNeg v1), .int v2, .int v3] (rest := []) mlRX11_166 okX3_fill (pc2 := 96) rfl dX11_floor_93 rfl rfl (Nat.le_of_ble_eq_true rfl) (Nat.le_of_ble_eq_true rfl) (d' := 1) (by omega) q11 ⟨by decide, rfl⟩ (EW_mono (fun _ _ hr => ?_) (sX3_fill 11 (30 + 3 * Int32.toNatClampNeg v1) v2 v3 (Or.inl rfl : isF 11) (isH_of b4) (wr (wr x ((30 + 3 * Int32.toNatClampNeg v1) + 1) (Int32.toNatClampNeg v2) v3) ((30 + 3 * Int32.toNatClampNeg v1) + 2) (Int32.toNatClampNeg v2) v4) _ _ 0 0 (Nat.le_refl _) h))
          obtain ⟨x8, rfl, rfl, h⟩ := hr
          refine EW_aload_n (pc2 := 97) rfl dX11_floor_96 0 rfl ?_
          refine AW_getr (r := 66) ⟨gfRX11_30, rfl⟩ (pc2 := 100) rfl dX11_floor_97 q0 rfl ?_
          refine AW_invV (M' := MX0_witness) [] (rest := []) mlRX11_170 okX0_witness (pc2 := 103) rfl dX11_floor_100 rfl rfl (Nat.le_of_ble_eq_true rfl) (Nat.le_of_ble_eq_true rfl) (d' := 3) (by omega) q66 ⟨by decide, rfl⟩ (EW_mono (fun _ _ hr => ?_) (sX0_witness   x8 _ _ 0 0 (Nat.le_refl _) h))
          obtain ⟨x9, rfl, rfl, h⟩ := hr
          refine EW_iconst (pc2 := 104) (v := 1) rfl dX11_floor_103 (by decide) ?_
          exact AW_zret rfl isB1 dX11_floor_104 ⟨_, _, rfl, rfl, h⟩
        · replace h := h.2 q
          refine EW_iconst (pc2 := 64) (v := 0) rfl dX11_floor_63 (by decide) ?_
          exact AW_zret rfl isB0 dX11_floor_64 ⟨_, _, rfl, rfl, h⟩
      · replace h := h.2 q
        refine EW_iconst (pc2 := 35) (v := 0) rfl dX11_floor_34 (by decide) ?_
        exact AW_zret rfl isB0 dX11_floor_35 ⟨_, _, rfl, rfl, h⟩
theorem gfRX11_196 : ab_L RX11 196 3 3 := ⟨by decide, by decide, ab_in 184 (by decide +kernel) (by decide +kernel)⟩
theorem mlRX11_199 : Cond.methodLink RX11 199 yX4_storey ∈ ab_G ∧ Cond.instanceMethod yX4_storey ∈ ab_G ∧ Cond.selects RX4 yX4_storey yX4_storey ∈ ab_G := ⟨ab_in 920 (by decide +kernel) (by decide +kernel), ab_in 864 (by decide +kernel) (by decide +kernel), ab_in 865 (by decide +kernel) (by decide +kernel)⟩
theorem mlRX11_202 : Cond.methodLink RX11 202 yX3_load ∈ ab_G ∧ Cond.instanceMethod yX3_load ∈ ab_G ∧ Cond.selects RX3 yX3_load yX3_load ∈ ab_G := ⟨ab_in 921 (by decide +kernel) (by decide +kernel), ab_in 922 (by decide +kernel) (by decide +kernel), ab_in 923 (by decide +kernel) (by decide +kernel)⟩
abbrev MX11_floored : ab_M := (yX11_floored, cX11_floored, 5, (some .int))
theorem dX11_floored_0 : decode cX11_floored 0 = .ok (.aload_n 0, 1) := by decide +kernel
theorem dX11_floored_1 : decode cX11_floored 1 = .ok (.getfield 21, 3) := by decide +kernel
theorem dX11_floored_4 : decode cX11_floored 4 = .ok (.iload_n 1, 1) := by decide +kernel
theorem dX11_floored_5 : decode cX11_floored 5 = .ok (.iload_n 2, 1) := by decide +kernel
theorem dX11_floored_6 : decode cX11_floored 6 = .ok (.invokevirtual 147, 3) := by decide +kernel
theorem dX11_floored_9 : decode cX11_floored 9 = .ok (.ifCond .ne 5, 3) := by decide +kernel
theorem dX11_floored_12 : decode cX11_floored 12 = .ok (.iconst (-1), 1) := by decide +kernel
theorem dX11_floored_13 : decode cX11_floored 13 = .ok (.ireturn, 1) := by decide +kernel
theorem dX11_floored_14 : decode cX11_floored 14 = .ok (.aload_n 0, 1) := by decide +kernel
theorem dX11_floored_15 : decode cX11_floored 15 = .ok (.getfield 21, 3) := by decide +kernel
theorem dX11_floored_18 : decode cX11_floored 18 = .ok (.getfield 127, 3) := by decide +kernel
theorem dX11_floored_21 : decode cX11_floored 21 = .ok (.iload_n 1, 1) := by decide +kernel
theorem dX11_floored_22 : decode cX11_floored 22 = .ok (.aaload, 1) := by decide +kernel
theorem dX11_floored_23 : decode cX11_floored 23 = .ok (.astore 4, 2) := by decide +kernel
theorem dX11_floored_25 : decode cX11_floored 25 = .ok (.iload_n 3, 1) := by decide +kernel
theorem dX11_floored_26 : decode cX11_floored 26 = .ok (.tableswitch 92 0 3 #[30, 48, 70, 78], 30) := by decide +kernel
theorem dX11_floored_56 : decode cX11_floored 56 = .ok (.aload_n 0, 1) := by decide +kernel
theorem dX11_floored_57 : decode cX11_floored 57 = .ok (.getfield 21, 3) := by decide +kernel
theorem dX11_floored_60 : decode cX11_floored 60 = .ok (.getfield 150, 3) := by decide +kernel
theorem dX11_floored_63 : decode cX11_floored 63 = .ok (.getfield 196, 3) := by decide +kernel
theorem dX11_floored_66 : decode cX11_floored 66 = .ok (.aload 4, 2) := by decide +kernel
theorem dX11_floored_68 : decode cX11_floored 68 = .ok (.iload_n 2, 1) := by decide +kernel
theorem dX11_floored_69 : decode cX11_floored 69 = .ok (.invokevirtual 199, 3) := by decide +kernel
theorem dX11_floored_72 : decode cX11_floored 72 = .ok (.iaload, 1) := by decide +kernel
theorem dX11_floored_73 : decode cX11_floored 73 = .ok (.ireturn, 1) := by decide +kernel
theorem dX11_floored_74 : decode cX11_floored 74 = .ok (.aload_n 0, 1) := by decide +kernel
theorem dX11_floored_75 : decode cX11_floored 75 = .ok (.getfield 21, 3) := by decide +kernel
theorem dX11_floored_78 : decode cX11_floored 78 = .ok (.getfield 150, 3) := by decide +kernel
theorem dX11_floored_81 : decode cX11_floored 81 = .ok (.aload 4, 2) := by decide +kernel
theorem dX11_floored_83 : decode cX11_floored 83 = .ok (.iload_n 2, 1) := by decide +kernel
theorem dX11_floored_84 : decode cX11_floored 84 = .ok (.invokevirtual 154, 3) := by decide +kernel
theorem dX11_floored_87 : decode cX11_floored 87 = .ok (.ifCond .eq 7, 3) := by decide +kernel
theorem dX11_floored_90 : decode cX11_floored 90 = .ok (.iconst 1, 1) := by decide +kernel
theorem dX11_floored_91 : decode cX11_floored 91 = .ok (.goto 4, 3) := by decide +kernel
theorem dX11_floored_94 : decode cX11_floored 94 = .ok (.iconst 0, 1) := by decide +kernel
theorem dX11_floored_95 : decode cX11_floored 95 = .ok (.ireturn, 1) := by decide +kernel
theorem dX11_floored_96 : decode cX11_floored 96 = .ok (.aload 4, 2) := by decide +kernel
theorem dX11_floored_98 : decode cX11_floored 98 = .ok (.getfield 163, 3) := by decide +kernel
theorem dX11_floored_101 : decode cX11_floored 101 = .ok (.iload_n 2, 1) := by decide +kernel
theorem dX11_floored_102 : decode cX11_floored 102 = .ok (.iaload, 1) := by decide +kernel
theorem dX11_floored_103 : decode cX11_floored 103 = .ok (.ireturn, 1) := by decide +kernel
theorem dX11_floored_104 : decode cX11_floored 104 = .ok (.aload_n 0, 1) := by decide +kernel
theorem dX11_floored_105 : decode cX11_floored 105 = .ok (.getfield 21, 3) := by decide +kernel
theorem dX11_floored_108 : decode cX11_floored 108 = .ok (.getfield 150, 3) := by decide +kernel
theorem dX11_floored_111 : decode cX11_floored 111 = .ok (.aload 4, 2) := by decide +kernel
theorem dX11_floored_113 : decode cX11_floored 113 = .ok (.iload_n 2, 1) := by decide +kernel
theorem dX11_floored_114 : decode cX11_floored 114 = .ok (.invokevirtual 202, 3) := by decide +kernel
theorem dX11_floored_117 : decode cX11_floored 117 = .ok (.ireturn, 1) := by decide +kernel
theorem dX11_floored_118 : decode cX11_floored 118 = .ok (.iconst (-1), 1) := by decide +kernel
theorem dX11_floored_119 : decode cX11_floored 119 = .ok (.ireturn, 1) := by decide +kernel
theorem okX11_floored : ab_okM MX11_floored 3 := ⟨by decide, ⟨by decide, by decide⟩, ab_in 919 (by decide +kernel) (by decide +kernel), ab_in 86 (by decide +kernel) (by decide +kernel), by decide +kernel, by decide⟩
set_option maxHeartbeats 4000000 in
set_option maxRecDepth 100000 in
def wX11_floored (v1 : Int32) (v2 : Int32) (v3 : Int32) (x : ab_X) (K : Int32 → Prop) : Prop := wX10_hasFloor v1 v2 x (fun r1 => ((¬ r1 = 0 → (vp_in v1 12 ∧ (((v3.toInt < 0 ∨ 3 < v3.toInt) → K (-1)) ∧ (v3 = 0 → wX4_storey (30 + 3 * Int32.toNatClampNeg v1) v2 x (fun r3 => (vp_in r3 72 ∧ K (x.1 15 (Int32.toNatClampNeg r3))))) ∧ (v3 = 1 → wX3_hasFallen 11 (30 + 3 * Int32.toNatClampNeg v1) v2 x (fun r5 => ((r5 = 0 → K 0) ∧ (¬ r5 = 0 → K 1)))) ∧ (v3 = 2 → (vp_in v2 6 ∧ K (x.1 ((30 + 3 * Int32.toNatClampNeg v1) + 2) (Int32.toNatClampNeg v2)))) ∧ (v3 = 3 → wX3_load 11 (30 + 3 * Int32.toNatClampNeg v1) v2 x (fun r7 => K r7))))) ∧ (r1 = 0 → K (-1))))
set_option maxHeartbeats 4000000 in
set_option maxRecDepth 100000 in
theorem sX11_floored (v1 : Int32) (v2 : Int32) (v3 : Int32)  (x : ab_X) (K : Int32 → Prop) (d bc bs : Nat) (hdp : 3 ≤ d) (h : wX11_floored v1 v2 v3 x K) : EW MX11_floored 0 [(0, .ref 0), (1, .int v1), (2, .int v2), (3, .int v3)] [] (aS x) d bc bs (liP x K) := by
  unfold wX11_floored at h
  refine EW_aload_n (pc2 := 1) rfl dX11_floored_0 0 rfl ?_
  refine AW_getr (r := 9) ⟨gfRX11_21, rfl⟩ (pc2 := 4) rfl dX11_floored_1 q0 rfl ?_
  refine EW_iload_n (pc2 := 5) rfl dX11_floored_4 1 rfl ?_
  refine EW_iload_n (pc2 := 6) rfl dX11_floored_5 2 rfl ?_
  refine AW_invV (M' := MX10_hasFloor) [.int v1, .int v2] (rest := []) mlRX11_147 okX10_hasFloor (pc2 := 9) rfl dX11_floored_6 rfl rfl (Nat.le_of_ble_eq_true rfl) (Nat.le_of_ble_eq_true rfl) (d' := 2) (by omega) q9 ⟨by decide, rfl⟩ (EW_mono (fun _ _ hr => ?_) (sX10_hasFloor v1 v2  x _ _ 0 0 (Nat.le_refl _) h))
  obtain ⟨r1, rfl, rfl, h⟩ := hr
  refine EW_if_ne (tgt := 14) (pc2 := 12) rfl dX11_floored_9 (by decide) (fun q => ?_) (fun q => ?_)
  · replace h := h.1 q
    refine EW_aload_n (pc2 := 15) rfl dX11_floored_14 0 rfl ?_
    refine AW_getr (r := 9) ⟨gfRX11_21, rfl⟩ (pc2 := 18) rfl dX11_floored_15 q0 rfl ?_
    refine AW_getr (r := 10) ⟨gfRX11_127, rfl⟩ (pc2 := 21) rfl dX11_floored_18 q9 rfl ?_
    refine EW_iload_n (pc2 := 22) rfl dX11_floored_21 1 rfl ?_
    obtain ⟨b2, h⟩ := h
    refine AW_aald5 (pc2 := 23) rfl dX11_floored_22 b2 ?_
    refine EW_astore (pc2 := 25) rfl dX11_floored_23 (by decide) [1, 2, 3, 4, 0] [(0, .ref 0), (1, .int v1), (2, .int v2), (3, .int v3), (4, .ref (30 + 3 * Int32.toNatClampNeg v1))] rfl ?_
    refine EW_iload_n (pc2 := 26) rfl dX11_floored_25 3 rfl ?_
    by_cases qo : Int32.toInt v3 < 0 ∨ 3 < Int32.toInt v3
    · replace h := h.1 qo
      refine EW_tabOut (tgt := 118) dX11_floored_26 qo (by decide) ?_
      refine EW_iconst (pc2 := 119) (v := (-1)) rfl dX11_floored_118 (by decide) ?_
      exact AW_iret rfl dX11_floored_119 ⟨_, rfl, rfl, h⟩
    · obtain ⟨kk, hkk, qk⟩ := sw_in 0 3 (by decide) qo
      match kk, hkk, qk with
      | 0, _, qk =>
        replace h := h.2.1 qk
        refine EW_tabIn (off := 30) (tgt := 56) dX11_floored_26 (by rw [qk]; decide) (by rw [qk]; decide) (by rw [qk]; decide) (by decide) ?_
        refine EW_aload_n (pc2 := 57) rfl dX11_floored_56 0 rfl ?_
        refine AW_getr (r := 9) ⟨gfRX11_21, rfl⟩ (pc2 := 60) rfl dX11_floored_57 q0 rfl ?_
        refine AW_getr (r := 11) ⟨gfRX11_150, rfl⟩ (pc2 := 63) rfl dX11_floored_60 q9 rfl ?_
        refine AW_getr (r := 15) ⟨gfRX11_196, rfl⟩ (pc2 := 66) rfl dX11_floored_63 q11 rfl ?_
        refine EW_aload (pc2 := 68) rfl dX11_floored_66 4 rfl ?_
        refine EW_iload_n (pc2 := 69) rfl dX11_floored_68 2 rfl ?_
        refine AW_invV (M' := MX4_storey) [.int v2] (rest := [.ref 15]) mlRX11_199 okX4_storey (pc2 := 72) rfl dX11_floored_69 rfl rfl (Nat.le_of_ble_eq_true rfl) (Nat.le_of_ble_eq_true rfl) (d' := 0) (by omega) (isH.o (isH_of b2)) ⟨by decide, rfl⟩ (EW_mono (fun _ _ hr => ?_) (sX4_storey (30 + 3 * Int32.toNatClampNeg v1) v2 (isH_of b2) x _ _ 0 0 (Nat.le_refl _) h))
        obtain ⟨r3, rfl, rfl, h⟩ := hr
        obtain ⟨b4, h⟩ := h
        refine AW_iald (pc2 := 73) rfl dX11_floored_72 q15 b4 ?_
        exact AW_iret rfl dX11_floored_73 ⟨_, rfl, rfl, h⟩
      | 1, _, qk =>
        replace h := h.2.2.1 qk
        refine EW_tabIn (off := 48) (tgt := 74) dX11_floored_26 (by rw [qk]; decide) (by rw [qk]; decide) (by rw [qk]; decide) (by decide) ?_
        refine EW_aload_n (pc2 := 75) rfl dX11_floored_74 0 rfl ?_
        refine AW_getr (r := 9) ⟨gfRX11_21, rfl⟩ (pc2 := 78) rfl dX11_floored_75 q0 rfl ?_
        refine AW_getr (r := 11) ⟨gfRX11_150, rfl⟩ (pc2 := 81) rfl dX11_floored_78 q9 rfl ?_
        refine EW_aload (pc2 := 83) rfl dX11_floored_81 4 rfl ?_
        refine EW_iload_n (pc2 := 84) rfl dX11_floored_83 2 rfl ?_
        refine AW_invV (M' := MX3_hasFallen) [.ref (30 + 3 * Int32.toNatClampNeg v1), .int v2] (rest := []) mlRX11_154 okX3_hasFallen (pc2 := 87) rfl dX11_floored_84 rfl rfl (Nat.le_of_ble_eq_true rfl) (Nat.le_of_ble_eq_true rfl) (d' := 1) (by omega) q11 ⟨by decide, rfl⟩ (EW_mono (fun _ _ hr => ?_) (sX3_hasFallen 11 (30 + 3 * Int32.toNatClampNeg v1) v2 (Or.inl rfl : isF 11) (isH_of b2) x _ _ 0 0 (Nat.le_refl _) h))
        obtain ⟨r5, rfl, rfl, h⟩ := hr
        refine EW_if_eq (tgt := 94) (pc2 := 90) rfl dX11_floored_87 (by decide) (fun q => ?_) (fun q => ?_)
        · replace h := h.1 q
          refine EW_iconst (pc2 := 95) (v := 0) rfl dX11_floored_94 (by decide) ?_
          exact AW_iret rfl dX11_floored_95 ⟨_, rfl, rfl, h⟩
        · replace h := h.2 q
          refine EW_iconst (pc2 := 91) (v := 1) rfl dX11_floored_90 (by decide) ?_
          refine EW_goto (tgt := 95) dX11_floored_91 (by decide) ?_
          exact AW_iret rfl dX11_floored_95 ⟨_, rfl, rfl, h⟩
      | 2, _, qk =>
        replace h := h.2.2.2.1 qk
        refine EW_tabIn (off := 70) (tgt := 96) dX11_floored_26 (by rw [qk]; decide) (by rw [qk]; decide) (by rw [qk]; decide) (by decide) ?_
        refine EW_aload (pc2 := 98) rfl dX11_floored_96 4 rfl ?_
        refine AW_getr (r := ((30 + 3 * Int32.toNatClampNeg v1) + 2)) ⟨gfRX11_163, rfl⟩ (pc2 := 101) rfl dX11_floored_98 (isH.o (isH_of b2)) (isH.r2 (isH_of b2)) ?_
        refine EW_iload_n (pc2 := 102) rfl dX11_floored_101 2 rfl ?_
        obtain ⟨b6, h⟩ := h
        refine AW_iald (pc2 := 103) rfl dX11_floored_102 (isH.a2 (isH_of b2)) b6 ?_
        exact AW_iret rfl dX11_floored_103 ⟨_, rfl, rfl, h⟩
      | 3, _, qk =>
        replace h := h.2.2.2.2 qk
        refine EW_tabIn (off := 78) (tgt := 104) dX11_floored_26 (by rw [qk]; decide) (by rw [qk]; decide) (by rw [qk]; decide) (by decide) ?_
        refine EW_aload_n (pc2 := 105) rfl dX11_floored_104 0 rfl ?_
        refine AW_getr (r := 9) ⟨gfRX11_21, rfl⟩ (pc2 := 108) rfl dX11_floored_105 q0 rfl ?_
        refine AW_getr (r := 11) ⟨gfRX11_150, rfl⟩ (pc2 := 111) rfl dX11_floored_108 q9 rfl ?_
        refine EW_aload (pc2 := 113) rfl dX11_floored_111 4 rfl ?_
        refine EW_iload_n (pc2 := 114) rfl dX11_floored_113 2 rfl ?_
        refine AW_invV (M' := MX3_load) [.ref (30 + 3 * Int32.toNatClampNeg v1), .int v2] (rest := []) mlRX11_202 okX3_load (pc2 := 117) rfl dX11_floored_114 rfl rfl (Nat.le_of_ble_eq_true rfl) (Nat.le_of_ble_eq_true rfl) (d' := 1) (by omega) q11 ⟨by decide, rfl⟩ (EW_mono (fun _ _ hr => ?_) (sX3_load 11 (30 + 3 * Int32.toNatClampNeg v1) v2 (Or.inl rfl : isF 11) (isH_of b2) x _ _ 0 0 (Nat.le_refl _) h))
        obtain ⟨r7, rfl, rfl, h⟩ := hr
        exact AW_iret rfl dX11_floored_117 ⟨_, rfl, rfl, h⟩
      | n9 + 4, hkk, _ => exact absurd hkk (by omega)
  · replace h := h.2 q
    refine EW_iconst (pc2 := 13) (v := (-1)) rfl dX11_floored_12 (by decide) ?_
    exact AW_iret rfl dX11_floored_13 ⟨_, rfl, rfl, h⟩
theorem mlRX11_419 : Cond.methodLink RX11 419 yX5_actFor ∈ ab_G ∧ Cond.instanceMethod yX5_actFor ∈ ab_G ∧ Cond.selects RX5 yX5_actFor yX5_actFor ∈ ab_G := ⟨ab_in 1527 (by decide +kernel) (by decide +kernel), ab_in 1528 (by decide +kernel) (by decide +kernel), ab_in 1529 (by decide +kernel) (by decide +kernel)⟩
abbrev MX11_force : ab_M := (yX11_force, cX11_force, 3, (some .int))
theorem dX11_force_0 : decode cX11_force 0 = .ok (.aload_n 0, 1) := by decide +kernel
theorem dX11_force_1 : decode cX11_force 1 = .ok (.iload_n 1, 1) := by decide +kernel
theorem dX11_force_2 : decode cX11_force 2 = .ok (.iload_n 2, 1) := by decide +kernel
theorem dX11_force_3 : decode cX11_force 3 = .ok (.invokevirtual 416, 3) := by decide +kernel
theorem dX11_force_6 : decode cX11_force 6 = .ok (.ifCond .eq 15, 3) := by decide +kernel
theorem dX11_force_9 : decode cX11_force 9 = .ok (.aload_n 0, 1) := by decide +kernel
theorem dX11_force_10 : decode cX11_force 10 = .ok (.getfield 46, 3) := by decide +kernel
theorem dX11_force_13 : decode cX11_force 13 = .ok (.iload_n 1, 1) := by decide +kernel
theorem dX11_force_14 : decode cX11_force 14 = .ok (.iload_n 2, 1) := by decide +kernel
theorem dX11_force_15 : decode cX11_force 15 = .ok (.invokevirtual 419, 3) := by decide +kernel
theorem dX11_force_18 : decode cX11_force 18 = .ok (.goto 4, 3) := by decide +kernel
theorem dX11_force_21 : decode cX11_force 21 = .ok (.iconst (-1), 1) := by decide +kernel
theorem dX11_force_22 : decode cX11_force 22 = .ok (.ireturn, 1) := by decide +kernel
theorem okX11_force : ab_okM MX11_force 2 := ⟨by decide, ⟨by decide, by decide⟩, ab_in 1522 (by decide +kernel) (by decide +kernel), ab_in 86 (by decide +kernel) (by decide +kernel), by decide +kernel, by decide⟩
set_option maxHeartbeats 4000000 in
set_option maxRecDepth 100000 in
def wX11_force (v1 : Int32) (v2 : Int32) (x : ab_X) (K : Int32 → Prop) : Prop := wX11_isKnown v1 v2 x (fun r1 => ((r1 = 0 → K (-1)) ∧ (¬ r1 = 0 → wX5_actFor v1 v2 x (fun r2 => K r2))))
set_option maxHeartbeats 4000000 in
set_option maxRecDepth 100000 in
theorem sX11_force (v1 : Int32) (v2 : Int32)  (x : ab_X) (K : Int32 → Prop) (d bc bs : Nat) (hdp : 3 ≤ d) (h : wX11_force v1 v2 x K) : EW MX11_force 0 [(0, .ref 0), (1, .int v1), (2, .int v2)] [] (aS x) d bc bs (liP x K) := by
  unfold wX11_force at h
  refine EW_aload_n (pc2 := 1) rfl dX11_force_0 0 rfl ?_
  refine EW_iload_n (pc2 := 2) rfl dX11_force_1 1 rfl ?_
  refine EW_iload_n (pc2 := 3) rfl dX11_force_2 2 rfl ?_
  refine AW_invV (M' := MX11_isKnown) [.int v1, .int v2] (rest := []) mlRX11_416 okX11_isKnown (pc2 := 6) rfl dX11_force_3 rfl rfl (Nat.le_of_ble_eq_true rfl) (Nat.le_of_ble_eq_true rfl) (d' := 2) (by omega) q0 ⟨by decide, rfl⟩ (EW_mono (fun _ _ hr => ?_) (sX11_isKnown v1 v2  x _ _ 0 0 (Nat.le_refl _) h))
  obtain ⟨r1, rfl, rfl, h⟩ := hr
  refine EW_if_eq (tgt := 21) (pc2 := 9) rfl dX11_force_6 (by decide) (fun q => ?_) (fun q => ?_)
  · replace h := h.1 q
    refine EW_iconst (pc2 := 22) (v := (-1)) rfl dX11_force_21 (by decide) ?_
    exact AW_iret rfl dX11_force_22 ⟨_, rfl, rfl, h⟩
  · replace h := h.2 q
    refine EW_aload_n (pc2 := 10) rfl dX11_force_9 0 rfl ?_
    refine AW_getr (r := 165) ⟨gfRX11_46, rfl⟩ (pc2 := 13) rfl dX11_force_10 q0 rfl ?_
    refine EW_iload_n (pc2 := 14) rfl dX11_force_13 1 rfl ?_
    refine EW_iload_n (pc2 := 15) rfl dX11_force_14 2 rfl ?_
    refine AW_invV (M' := MX5_actFor) [.int v1, .int v2] (rest := []) mlRX11_419 okX5_actFor (pc2 := 18) rfl dX11_force_15 rfl rfl (Nat.le_of_ble_eq_true rfl) (Nat.le_of_ble_eq_true rfl) (d' := 0) (by omega) q165 ⟨by decide, rfl⟩ (EW_mono (fun _ _ hr => ?_) (sX5_actFor v1 v2  x _ _ 0 0 (Nat.le_refl _) h))
    obtain ⟨r2, rfl, rfl, h⟩ := hr
    refine EW_goto (tgt := 22) dX11_force_18 (by decide) ?_
    exact AW_iret rfl dX11_force_22 ⟨_, rfl, rfl, h⟩
