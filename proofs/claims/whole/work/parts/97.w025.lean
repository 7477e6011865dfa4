theorem mlRX12_568 : Cond.methodLink RX12 568 yX12_wantedAt ∈ ab_G ∧ Cond.instanceMethod yX12_wantedAt ∈ ab_G ∧ Cond.selects RX12 yX12_wantedAt yX12_wantedAt ∈ ab_G := ⟨ab_in 2575 (by decide +kernel) (by decide +kernel), ab_in 2577 (by decide +kernel) (by decide +kernel), ab_in 64 (by decide +kernel) (by decide +kernel)⟩
theorem mlRX12_411 : Cond.methodLink RX12 411 yX12_reachOf ∈ ab_G ∧ Cond.instanceMethod yX12_reachOf ∈ ab_G ∧ Cond.selects RX12 yX12_reachOf yX12_reachOf ∈ ab_G := ⟨ab_in 2381 (by decide +kernel) (by decide +kernel), ab_in 2383 (by decide +kernel) (by decide +kernel), ab_in 32 (by decide +kernel) (by decide +kernel)⟩
theorem mlRX12_565 : Cond.methodLink RX12 565 yX12_hasChief ∈ ab_G ∧ Cond.instanceMethod yX12_hasChief ∈ ab_G ∧ Cond.selects RX12 yX12_hasChief yX12_hasChief ∈ ab_G := ⟨ab_in 2571 (by decide +kernel) (by decide +kernel), ab_in 2573 (by decide +kernel) (by decide +kernel), ab_in 63 (by decide +kernel) (by decide +kernel)⟩
abbrev MX12_roomFor : ab_M := (yX12_roomFor, cX12_roomFor, 7, (some .int))
theorem dX12_roomFor_0 : decode cX12_roomFor 0 = .ok (.aload_n 0, 1) := by decide +kernel
theorem dX12_roomFor_1 : decode cX12_roomFor 1 = .ok (.iload_n 1, 1) := by decide +kernel
theorem dX12_roomFor_2 : decode cX12_roomFor 2 = .ok (.iload_n 2, 1) := by decide +kernel
theorem dX12_roomFor_3 : decode cX12_roomFor 3 = .ok (.invokevirtual 411, 3) := by decide +kernel
theorem dX12_roomFor_6 : decode cX12_roomFor 6 = .ok (.istore_n 3, 1) := by decide +kernel
theorem dX12_roomFor_7 : decode cX12_roomFor 7 = .ok (.aload_n 0, 1) := by decide +kernel
theorem dX12_roomFor_8 : decode cX12_roomFor 8 = .ok (.iload_n 2, 1) := by decide +kernel
theorem dX12_roomFor_9 : decode cX12_roomFor 9 = .ok (.invokevirtual 565, 3) := by decide +kernel
theorem dX12_roomFor_12 : decode cX12_roomFor 12 = .ok (.istore 4, 2) := by decide +kernel
theorem dX12_roomFor_14 : decode cX12_roomFor 14 = .ok (.iconst (-1), 1) := by decide +kernel
theorem dX12_roomFor_15 : decode cX12_roomFor 15 = .ok (.istore 5, 2) := by decide +kernel
theorem dX12_roomFor_17 : decode cX12_roomFor 17 = .ok (.iconst 0, 1) := by decide +kernel
theorem dX12_roomFor_18 : decode cX12_roomFor 18 = .ok (.istore 6, 2) := by decide +kernel
theorem dX12_roomFor_20 : decode cX12_roomFor 20 = .ok (.iload 6, 2) := by decide +kernel
theorem dX12_roomFor_22 : decode cX12_roomFor 22 = .ok (.aload_n 0, 1) := by decide +kernel
theorem dX12_roomFor_23 : decode cX12_roomFor 23 = .ok (.getfield 38, 3) := by decide +kernel
theorem dX12_roomFor_26 : decode cX12_roomFor 26 = .ok (.iload_n 2, 1) := by decide +kernel
theorem dX12_roomFor_27 : decode cX12_roomFor 27 = .ok (.iaload, 1) := by decide +kernel
theorem dX12_roomFor_28 : decode cX12_roomFor 28 = .ok (.aload_n 0, 1) := by decide +kernel
theorem dX12_roomFor_29 : decode cX12_roomFor 29 = .ok (.getfield 41, 3) := by decide +kernel
theorem dX12_roomFor_32 : decode cX12_roomFor 32 = .ok (.iload_n 2, 1) := by decide +kernel
theorem dX12_roomFor_33 : decode cX12_roomFor 33 = .ok (.iaload, 1) := by decide +kernel
theorem dX12_roomFor_34 : decode cX12_roomFor 34 = .ok (.imul, 1) := by decide +kernel
theorem dX12_roomFor_35 : decode cX12_roomFor 35 = .ok (.if_icmp .ge 65, 3) := by decide +kernel
theorem dX12_roomFor_38 : decode cX12_roomFor 38 = .ok (.aload_n 0, 1) := by decide +kernel
theorem dX12_roomFor_39 : decode cX12_roomFor 39 = .ok (.iload_n 2, 1) := by decide +kernel
theorem dX12_roomFor_40 : decode cX12_roomFor 40 = .ok (.iload 6, 2) := by decide +kernel
theorem dX12_roomFor_42 : decode cX12_roomFor 42 = .ok (.invokevirtual 345, 3) := by decide +kernel
theorem dX12_roomFor_45 : decode cX12_roomFor 45 = .ok (.iload_n 3, 1) := by decide +kernel
theorem dX12_roomFor_46 : decode cX12_roomFor 46 = .ok (.if_icmp .gt 48, 3) := by decide +kernel
theorem dX12_roomFor_49 : decode cX12_roomFor 49 = .ok (.aload_n 0, 1) := by decide +kernel
theorem dX12_roomFor_50 : decode cX12_roomFor 50 = .ok (.iload_n 2, 1) := by decide +kernel
theorem dX12_roomFor_51 : decode cX12_roomFor 51 = .ok (.iload 6, 2) := by decide +kernel
theorem dX12_roomFor_53 : decode cX12_roomFor 53 = .ok (.invokevirtual 348, 3) := by decide +kernel
theorem dX12_roomFor_56 : decode cX12_roomFor 56 = .ok (.ifCond .ne 6, 3) := by decide +kernel
theorem dX12_roomFor_59 : decode cX12_roomFor 59 = .ok (.goto 35, 3) := by decide +kernel
theorem dX12_roomFor_62 : decode cX12_roomFor 62 = .ok (.iload 5, 2) := by decide +kernel
theorem dX12_roomFor_64 : decode cX12_roomFor 64 = .ok (.iconst (-1), 1) := by decide +kernel
theorem dX12_roomFor_65 : decode cX12_roomFor 65 = .ok (.if_icmp .eq 25, 3) := by decide +kernel
theorem dX12_roomFor_68 : decode cX12_roomFor 68 = .ok (.iload 4, 2) := by decide +kernel
theorem dX12_roomFor_70 : decode cX12_roomFor 70 = .ok (.ifCond .eq 24, 3) := by decide +kernel
theorem dX12_roomFor_73 : decode cX12_roomFor 73 = .ok (.aload_n 0, 1) := by decide +kernel
theorem dX12_roomFor_74 : decode cX12_roomFor 74 = .ok (.iload_n 2, 1) := by decide +kernel
theorem dX12_roomFor_75 : decode cX12_roomFor 75 = .ok (.iload 6, 2) := by decide +kernel
theorem dX12_roomFor_77 : decode cX12_roomFor 77 = .ok (.invokevirtual 568, 3) := by decide +kernel
theorem dX12_roomFor_80 : decode cX12_roomFor 80 = .ok (.aload_n 0, 1) := by decide +kernel
theorem dX12_roomFor_81 : decode cX12_roomFor 81 = .ok (.iload_n 2, 1) := by decide +kernel
theorem dX12_roomFor_82 : decode cX12_roomFor 82 = .ok (.iload 5, 2) := by decide +kernel
theorem dX12_roomFor_84 : decode cX12_roomFor 84 = .ok (.invokevirtual 568, 3) := by decide +kernel
theorem dX12_roomFor_87 : decode cX12_roomFor 87 = .ok (.if_icmp .le 7, 3) := by decide +kernel
theorem dX12_roomFor_90 : decode cX12_roomFor 90 = .ok (.iload 6, 2) := by decide +kernel
theorem dX12_roomFor_92 : decode cX12_roomFor 92 = .ok (.istore 5, 2) := by decide +kernel
theorem dX12_roomFor_94 : decode cX12_roomFor 94 = .ok (.iinc 6 1, 3) := by decide +kernel
theorem dX12_roomFor_97 : decode cX12_roomFor 97 = .ok (.goto (-77), 3) := by decide +kernel
theorem dX12_roomFor_100 : decode cX12_roomFor 100 = .ok (.iload 5, 2) := by decide +kernel
theorem dX12_roomFor_102 : decode cX12_roomFor 102 = .ok (.ireturn, 1) := by decide +kernel
theorem okX12_roomFor : ab_okM MX12_roomFor 2 := ⟨by decide, ⟨by decide, by decide⟩, ab_in 2570 (by decide +kernel) (by decide +kernel), ab_in 99 (by decide +kernel) (by decide +kernel), by decide +kernel, by decide⟩
set_option maxHeartbeats 4000000 in
set_option maxRecDepth 100000 in
theorem sX12_roomFor_90 (v2 : Int32) (v3 : Int32) (v4 : Int32) (v6 : Int32)  (x : ab_X) (K : Int32 → Prop) (L20 : Int32 → Int32 → Prop) (d bc bs : Nat) (hdp : 3 ≤ d) (hL20 : ∀ (v5 : Int32) (v6 : Int32), L20 v5 v6 → EW MX12_roomFor 20 [(0, .ref 246), (2, .int v2), (3, .int v3), (4, .int v4), (5, .int v5), (6, .int v6)] [] (aS x) d bc bs (liP x K)) (h : wX12_roomFor_90 v2 v3 v4 v6 x K L20) : EW MX12_roomFor 90 [(0, .ref 246), (2, .int v2), (3, .int v3), (4, .int v4), (6, .int v6)] [] (aS x) d bc bs (liP x K) := by
  unfold wX12_roomFor_90 at h
  refine EW_iload (pc2 := 92) rfl dX12_roomFor_90 4 rfl ?_
  refine EW_istore (pc2 := 94) rfl dX12_roomFor_92 (by decide) [1, 2, 3, 4, 0, 5] [(0, .ref 246), (2, .int v2), (3, .int v3), (4, .int v4), (5, .int v6), (6, .int v6)] rfl ?_
  refine EW_iinc (v6 + 1) (pc2 := 97) rfl dX12_roomFor_94 5 rfl rfl (by decide) [1, 2, 3, 4, 5, 0] [(0, .ref 246), (2, .int v2), (3, .int v3), (4, .int v4), (5, .int v6), (6, .int (v6 + 1))] rfl ?_
  refine EW_goto (tgt := 20) dX12_roomFor_97 (by decide) ?_
  exact hL20 v6 (v6 + 1) h
set_option maxHeartbeats 4000000 in
set_option maxRecDepth 100000 in
theorem sX12_roomFor_20 (v2 : Int32) (v3 : Int32) (v4 : Int32) (v5 : Int32) (v6 : Int32)  (x : ab_X) (K : Int32 → Prop)  (d bc bs : Nat) (hdp : 3 ≤ d)  (h : Lp2 (lX12_roomFor_20 v2 v3 v4 x K ) v5 v6) : EW MX12_roomFor 20 [(0, .ref 246), (2, .int v2), (3, .int v3), (4, .int v4), (5, .int v5), (6, .int v6)] [] (aS x) d bc bs (liP x K) := by
  refine Lp2.use (P := fun v5 v6 => EW MX12_roomFor 20 [(0, .ref 246), (2, .int v2), (3, .int v3), (4, .int v4), (5, .int v5), (6, .int v6)] [] (aS x) d bc bs (liP x K)) (fun L20 v5 v6 hL20 h => ?_) v5 v6 h
  unfold lX12_roomFor_20 at h
  refine EW_iload (pc2 := 22) rfl dX12_roomFor_20 5 rfl ?_
  refine EW_aload_n (pc2 := 23) rfl dX12_roomFor_22 0 rfl ?_
  refine AW_getr (r := 256) ⟨gfRX12_38, rfl⟩ (pc2 := 26) rfl dX12_roomFor_23 q246 rfl ?_
  refine EW_iload_n (pc2 := 27) rfl dX12_roomFor_26 1 rfl ?_
  obtain ⟨b3, h⟩ := h
  refine AW_iald (pc2 := 28) rfl dX12_roomFor_27 q256 b3 ?_
  refine EW_aload_n (pc2 := 29) rfl dX12_roomFor_28 0 rfl ?_
  refine AW_getr (r := 257) ⟨gfRX12_41, rfl⟩ (pc2 := 32) rfl dX12_roomFor_29 q246 rfl ?_
  refine EW_iload_n (pc2 := 33) rfl dX12_roomFor_32 1 rfl ?_
  obtain ⟨b4, h⟩ := h
  refine AW_iald (pc2 := 34) rfl dX12_roomFor_33 q257 b4 ?_
  refine EW_imul (pc2 := 35) rfl dX12_roomFor_34 ?_
  refine EW_icmp_ge (tgt := 100) (pc2 := 38) rfl dX12_roomFor_35 (by decide) (fun q => ?_) (fun q => ?_)
  · replace h := h.1 q
    refine EW_iload (pc2 := 102) rfl dX12_roomFor_100 4 rfl ?_
    exact AW_iret rfl dX12_roomFor_102 ⟨_, rfl, rfl, h⟩
  · replace h := h.2 q
    refine EW_aload_n (pc2 := 39) rfl dX12_roomFor_38 0 rfl ?_
    refine EW_iload_n (pc2 := 40) rfl dX12_roomFor_39 1 rfl ?_
    refine EW_iload (pc2 := 42) rfl dX12_roomFor_40 5 rfl ?_
    refine AW_invV (M' := MX12_floorOf) [.int v2, .int v6] (rest := []) mlRX12_345 okX12_floorOf (pc2 := 45) rfl dX12_roomFor_42 rfl rfl (Nat.le_of_ble_eq_true rfl) (Nat.le_of_ble_eq_true rfl) (d' := 0) (by omega) q246 ⟨by decide, rfl⟩ (EW_mono (fun _ _ hr => ?_) (sX12_floorOf v2 v6  x _ _ 0 0 (Nat.le_refl _) h))
    obtain ⟨r5, rfl, rfl, h⟩ := hr
    refine EW_iload_n (pc2 := 46) rfl dX12_roomFor_45 2 rfl ?_
    refine EW_icmp_gt (tgt := 94) (pc2 := 49) rfl dX12_roomFor_46 (by decide) (fun q => ?_) (fun q => ?_)
    · replace h := h.1 q
      refine EW_iinc (v6 + 1) (pc2 := 97) rfl dX12_roomFor_94 5 rfl rfl (by decide) [1, 2, 3, 4, 5, 0] [(0, .ref 246), (2, .int v2), (3, .int v3), (4, .int v4), (5, .int v5), (6, .int (v6 + 1))] rfl ?_
      refine EW_goto (tgt := 20) dX12_roomFor_97 (by decide) ?_
      exact hL20 v5 (v6 + 1) h
    · replace h := h.2 q
      refine EW_aload_n (pc2 := 50) rfl dX12_roomFor_49 0 rfl ?_
      refine EW_iload_n (pc2 := 51) rfl dX12_roomFor_50 1 rfl ?_
      refine EW_iload (pc2 := 53) rfl dX12_roomFor_51 5 rfl ?_
      refine AW_invV (M' := MX12_burns) [.int v2, .int v6] (rest := []) mlRX12_348 okX12_burns (pc2 := 56) rfl dX12_roomFor_53 rfl rfl (Nat.le_of_ble_eq_true rfl) (Nat.le_of_ble_eq_true rfl) (d' := 1) (by omega) q246 ⟨by decide, rfl⟩ (EW_mono (fun _ _ hr => ?_) (sX12_burns v2 v6  x _ _ 0 0 (Nat.le_refl _) h))
      obtain ⟨r6, rfl, rfl, h⟩ := hr
      refine EW_if_ne (tgt := 62) (pc2 := 59) rfl dX12_roomFor_56 (by decide) (fun q => ?_) (fun q => ?_)
      · replace h := h.1 q
        refine EW_iload (pc2 := 64) rfl dX12_roomFor_62 4 rfl ?_
        refine EW_iconst (pc2 := 65) (v := (-1)) rfl dX12_roomFor_64 (by decide) ?_
        refine EW_icmp_eq (tgt := 90) (pc2 := 68) rfl dX12_roomFor_65 (by decide) (fun q => ?_) (fun q => ?_)
        · replace h := h.1 q
          refine EW_ls [0, 1, 2, 3, 5] rfl ?_
          exact sX12_roomFor_90 v2 v3 v4 v6 x K L20 d bc bs hdp hL20 h
        · replace h := h.2 q
          refine EW_iload (pc2 := 70) rfl dX12_roomFor_68 3 rfl ?_
          refine EW_if_eq (tgt := 94) (pc2 := 73) rfl dX12_roomFor_70 (by decide) (fun q => ?_) (fun q => ?_)
          · replace h := h.1 q
            refine EW_iinc (v6 + 1) (pc2 := 97) rfl dX12_roomFor_94 5 rfl rfl (by decide) [1, 2, 3, 4, 5, 0] [(0, .ref 246), (2, .int v2), (3, .int v3), (4, .int v4), (5, .int v5), (6, .int (v6 + 1))] rfl ?_
            refine EW_goto (tgt := 20) dX12_roomFor_97 (by decide) ?_
            exact hL20 v5 (v6 + 1) h
          · replace h := h.2 q
            refine EW_aload_n (pc2 := 74) rfl dX12_roomFor_73 0 rfl ?_
            refine EW_iload_n (pc2 := 75) rfl dX12_roomFor_74 1 rfl ?_
            refine EW_iload (pc2 := 77) rfl dX12_roomFor_75 5 rfl ?_
            refine AW_invV (M' := MX12_wantedAt) [.int v2, .int v6] (rest := []) mlRX12_568 okX12_wantedAt (pc2 := 80) rfl dX12_roomFor_77 rfl rfl (Nat.le_of_ble_eq_true rfl) (Nat.le_of_ble_eq_true rfl) (d' := 0) (by omega) q246 ⟨by decide, rfl⟩ (EW_mono (fun _ _ hr => ?_) (sX12_wantedAt v2 v6  x _ _ 0 0 (Nat.le_refl _) h))
            obtain ⟨r7, rfl, rfl, h⟩ := hr
            refine EW_aload_n (pc2 := 81) rfl dX12_roomFor_80 0 rfl ?_
            refine EW_iload_n (pc2 := 82) rfl dX12_roomFor_81 1 rfl ?_
            refine EW_iload (pc2 := 84) rfl dX12_roomFor_82 4 rfl ?_
            refine AW_invV (M' := MX12_wantedAt) [.int v2, .int v5] (rest := [.int r7]) mlRX12_568 okX12_wantedAt (pc2 := 87) rfl dX12_roomFor_84 rfl rfl (Nat.le_of_ble_eq_true rfl) (Nat.le_of_ble_eq_true rfl) (d' := 0) (by omega) q246 ⟨by decide, rfl⟩ (EW_mono (fun _ _ hr => ?_) (sX12_wantedAt v2 v5  x _ _ 0 0 (Nat.le_refl _) h))
            obtain ⟨r8, rfl, rfl, h⟩ := hr
            refine EW_icmp_le (tgt := 94) (pc2 := 90) rfl dX12_roomFor_87 (by decide) (fun q => ?_) (fun q => ?_)
            · replace h := h.1 q
              refine EW_iinc (v6 + 1) (pc2 := 97) rfl dX12_roomFor_94 5 rfl rfl (by decide) [1, 2, 3, 4, 5, 0] [(0, .ref 246), (2, .int v2), (3, .int v3), (4, .int v4), (5, .int v5), (6, .int (v6 + 1))] rfl ?_
              refine EW_goto (tgt := 20) dX12_roomFor_97 (by decide) ?_
              exact hL20 v5 (v6 + 1) h
            · replace h := h.2 q
              refine EW_ls [0, 1, 2, 3, 5] rfl ?_
              exact sX12_roomFor_90 v2 v3 v4 v6 x K L20 d bc bs hdp hL20 h
      · replace h := h.2 q
        refine EW_goto (tgt := 94) dX12_roomFor_59 (by decide) ?_
        refine EW_iinc (v6 + 1) (pc2 := 97) rfl dX12_roomFor_94 5 rfl rfl (by decide) [1, 2, 3, 4, 5, 0] [(0, .ref 246), (2, .int v2), (3, .int v3), (4, .int v4), (5, .int v5), (6, .int (v6 + 1))] rfl ?_
        refine EW_goto (tgt := 20) dX12_roomFor_97 (by decide) ?_
        exact hL20 v5 (v6 + 1) h
set_option maxHeartbeats 4000000 in
set_option maxRecDepth 100000 in
theorem sX12_roomFor (v1 : Int32) (v2 : Int32)  (x : ab_X) (K : Int32 → Prop) (d bc bs : Nat) (hdp : 3 ≤ d) (h : wX12_roomFor v1 v2 x K) : EW MX12_roomFor 0 [(0, .ref 246), (1, .int v1), (2, .int v2)] [] (aS x) d bc bs (liP x K) := by
  unfold wX12_roomFor at h
  refine EW_aload_n (pc2 := 1) rfl dX12_roomFor_0 0 rfl ?_
  refine EW_iload_n (pc2 := 2) rfl dX12_roomFor_1 1 rfl ?_
  refine EW_iload_n (pc2 := 3) rfl dX12_roomFor_2 2 rfl ?_
  refine AW_invV (M' := MX12_reachOf) [.int v1, .int v2] (rest := []) mlRX12_411 okX12_reachOf (pc2 := 6) rfl dX12_roomFor_3 rfl rfl (Nat.le_of_ble_eq_true rfl) (Nat.le_of_ble_eq_true rfl) (d' := 2) (by omega) q246 ⟨by decide, rfl⟩ (EW_mono (fun _ _ hr => ?_) (sX12_reachOf v1 v2  x _ _ 0 0 (Nat.le_refl _) h))
  obtain ⟨r1, rfl, rfl, h⟩ := hr
  refine EW_istore_n (pc2 := 7) rfl dX12_roomFor_6 (by decide) [1, 2, 3, 0] [(0, .ref 246), (1, .int v1), (2, .int v2), (3, .int r1)] rfl ?_
  refine EW_aload_n (pc2 := 8) rfl dX12_roomFor_7 0 rfl ?_
  refine EW_iload_n (pc2 := 9) rfl dX12_roomFor_8 2 rfl ?_
  refine AW_invV (M' := MX12_hasChief) [.int v2] (rest := []) mlRX12_565 okX12_hasChief (pc2 := 12) rfl dX12_roomFor_9 rfl rfl (Nat.le_of_ble_eq_true rfl) (Nat.le_of_ble_eq_true rfl) (d' := 0) (by omega) q246 ⟨by decide, rfl⟩ (EW_mono (fun _ _ hr => ?_) (sX12_hasChief v2  x _ _ 0 0 (Nat.le_refl _) h))
  obtain ⟨r2, rfl, rfl, h⟩ := hr
  refine EW_istore (pc2 := 14) rfl dX12_roomFor_12 (by decide) [1, 2, 3, 4, 0] [(0, .ref 246), (1, .int v1), (2, .int v2), (3, .int r1), (4, .int r2)] rfl ?_
  refine EW_iconst (pc2 := 15) (v := (-1)) rfl dX12_roomFor_14 (by decide) ?_
  refine EW_istore (pc2 := 17) rfl dX12_roomFor_15 (by decide) [1, 2, 3, 4, 5, 0] [(0, .ref 246), (1, .int v1), (2, .int v2), (3, .int r1), (4, .int r2), (5, .int (-1))] rfl ?_
  refine EW_iconst (pc2 := 18) (v := 0) rfl dX12_roomFor_17 (by decide) ?_
  refine EW_istore (pc2 := 20) rfl dX12_roomFor_18 (by decide) [1, 2, 3, 4, 5, 6, 0] [(0, .ref 246), (1, .int v1), (2, .int v2), (3, .int r1), (4, .int r2), (5, .int (-1)), (6, .int 0)] rfl ?_
  refine EW_ls [0, 2, 3, 4, 5, 6] rfl ?_
  exact sX12_roomFor_20 v2 r1 r2 (-1) 0 x K d bc bs hdp h
abbrev MX12_save : ab_M := (yX12_save, cX12_save, 5, none)
theorem dX12_save_0 : decode cX12_save 0 = .ok (.aload_n 0, 1) := by decide +kernel
theorem dX12_save_1 : decode cX12_save 1 = .ok (.getfield 119, 3) := by decide +kernel
theorem dX12_save_4 : decode cX12_save 4 = .ok (.iload_n 1, 1) := by decide +kernel
theorem dX12_save_5 : decode cX12_save 5 = .ok (.iaload, 1) := by decide +kernel
theorem dX12_save_6 : decode cX12_save 6 = .ok (.aload_n 0, 1) := by decide +kernel
theorem dX12_save_7 : decode cX12_save 7 = .ok (.getfield 38, 3) := by decide +kernel
theorem dX12_save_10 : decode cX12_save 10 = .ok (.iload_n 2, 1) := by decide +kernel
theorem dX12_save_11 : decode cX12_save 11 = .ok (.iaload, 1) := by decide +kernel
theorem dX12_save_12 : decode cX12_save 12 = .ok (.invokestatic 311, 3) := by decide +kernel
theorem dX12_save_15 : decode cX12_save 15 = .ok (.iconst 1, 1) := by decide +kernel
theorem dX12_save_16 : decode cX12_save 16 = .ok (.isub, 1) := by decide +kernel
theorem dX12_save_17 : decode cX12_save 17 = .ok (.istore_n 3, 1) := by decide +kernel
theorem dX12_save_18 : decode cX12_save 18 = .ok (.iload_n 3, 1) := by decide +kernel
theorem dX12_save_19 : decode cX12_save 19 = .ok (.ifCond .lt 37, 3) := by decide +kernel
theorem dX12_save_22 : decode cX12_save 22 = .ok (.aload_n 0, 1) := by decide +kernel
theorem dX12_save_23 : decode cX12_save 23 = .ok (.getfield 92, 3) := by decide +kernel
theorem dX12_save_26 : decode cX12_save 26 = .ok (.bipush 6, 2) := by decide +kernel
theorem dX12_save_28 : decode cX12_save 28 = .ok (.iload_n 2, 1) := by decide +kernel
theorem dX12_save_29 : decode cX12_save 29 = .ok (.imul, 1) := by decide +kernel
theorem dX12_save_30 : decode cX12_save 30 = .ok (.iload_n 3, 1) := by decide +kernel
theorem dX12_save_31 : decode cX12_save 31 = .ok (.iadd, 1) := by decide +kernel
theorem dX12_save_32 : decode cX12_save 32 = .ok (.baload, 1) := by decide +kernel
theorem dX12_save_33 : decode cX12_save 33 = .ok (.ifCond .ne 17, 3) := by decide +kernel
theorem dX12_save_36 : decode cX12_save 36 = .ok (.aload_n 0, 1) := by decide +kernel
theorem dX12_save_37 : decode cX12_save 37 = .ok (.getfield 86, 3) := by decide +kernel
theorem dX12_save_40 : decode cX12_save 40 = .ok (.bipush 6, 2) := by decide +kernel
theorem dX12_save_42 : decode cX12_save 42 = .ok (.iload_n 2, 1) := by decide +kernel
theorem dX12_save_43 : decode cX12_save 43 = .ok (.imul, 1) := by decide +kernel
theorem dX12_save_44 : decode cX12_save 44 = .ok (.iload_n 3, 1) := by decide +kernel
theorem dX12_save_45 : decode cX12_save 45 = .ok (.iadd, 1) := by decide +kernel
theorem dX12_save_46 : decode cX12_save 46 = .ok (.iaload, 1) := by decide +kernel
theorem dX12_save_47 : decode cX12_save 47 = .ok (.ifCond .ne 9, 3) := by decide +kernel
theorem dX12_save_50 : decode cX12_save 50 = .ok (.iinc 3 (-1), 3) := by decide +kernel
theorem dX12_save_53 : decode cX12_save 53 = .ok (.goto (-35), 3) := by decide +kernel
theorem dX12_save_56 : decode cX12_save 56 = .ok (.iload_n 3, 1) := by decide +kernel
theorem dX12_save_57 : decode cX12_save 57 = .ok (.ifCond .ge 4, 3) := by decide +kernel
theorem dX12_save_60 : decode cX12_save 60 = .ok (.return_, 1) := by decide +kernel
theorem dX12_save_61 : decode cX12_save 61 = .ok (.iconst 2, 1) := by decide +kernel
theorem dX12_save_62 : decode cX12_save 62 = .ok (.aload_n 0, 1) := by decide +kernel
theorem dX12_save_63 : decode cX12_save 63 = .ok (.getfield 86, 3) := by decide +kernel
theorem dX12_save_66 : decode cX12_save 66 = .ok (.bipush 6, 2) := by decide +kernel
theorem dX12_save_68 : decode cX12_save 68 = .ok (.iload_n 2, 1) := by decide +kernel
theorem dX12_save_69 : decode cX12_save 69 = .ok (.imul, 1) := by decide +kernel
theorem dX12_save_70 : decode cX12_save 70 = .ok (.iload_n 3, 1) := by decide +kernel
theorem dX12_save_71 : decode cX12_save 71 = .ok (.iadd, 1) := by decide +kernel
theorem dX12_save_72 : decode cX12_save 72 = .ok (.iaload, 1) := by decide +kernel
theorem dX12_save_73 : decode cX12_save 73 = .ok (.invokestatic 311, 3) := by decide +kernel
theorem dX12_save_76 : decode cX12_save 76 = .ok (.istore 4, 2) := by decide +kernel
theorem dX12_save_78 : decode cX12_save 78 = .ok (.aload_n 0, 1) := by decide +kernel
theorem dX12_save_79 : decode cX12_save 79 = .ok (.getfield 86, 3) := by decide +kernel
theorem dX12_save_82 : decode cX12_save 82 = .ok (.bipush 6, 2) := by decide +kernel
theorem dX12_save_84 : decode cX12_save 84 = .ok (.iload_n 2, 1) := by decide +kernel
theorem dX12_save_85 : decode cX12_save 85 = .ok (.imul, 1) := by decide +kernel
theorem dX12_save_86 : decode cX12_save 86 = .ok (.iload_n 3, 1) := by decide +kernel
theorem dX12_save_87 : decode cX12_save 87 = .ok (.iadd, 1) := by decide +kernel
theorem dX12_save_88 : decode cX12_save 88 = .ok (.dup2, 1) := by decide +kernel
theorem dX12_save_89 : decode cX12_save 89 = .ok (.iaload, 1) := by decide +kernel
theorem dX12_save_90 : decode cX12_save 90 = .ok (.iload 4, 2) := by decide +kernel
theorem dX12_save_92 : decode cX12_save 92 = .ok (.isub, 1) := by decide +kernel
theorem dX12_save_93 : decode cX12_save 93 = .ok (.iastore, 1) := by decide +kernel
theorem dX12_save_94 : decode cX12_save 94 = .ok (.aload_n 0, 1) := by decide +kernel
theorem dX12_save_95 : decode cX12_save 95 = .ok (.getfield 56, 3) := by decide +kernel
theorem dX12_save_98 : decode cX12_save 98 = .ok (.iload_n 2, 1) := by decide +kernel
theorem dX12_save_99 : decode cX12_save 99 = .ok (.dup2, 1) := by decide +kernel
theorem dX12_save_100 : decode cX12_save 100 = .ok (.iaload, 1) := by decide +kernel
theorem dX12_save_101 : decode cX12_save 101 = .ok (.iload 4, 2) := by decide +kernel
theorem dX12_save_103 : decode cX12_save 103 = .ok (.iadd, 1) := by decide +kernel
theorem dX12_save_104 : decode cX12_save 104 = .ok (.iastore, 1) := by decide +kernel
theorem dX12_save_105 : decode cX12_save 105 = .ok (.return_, 1) := by decide +kernel
theorem okX12_save : ab_okM MX12_save 2 := ⟨by decide, ⟨by decide, by decide⟩, ab_in 2566 (by decide +kernel) (by decide +kernel), ab_in 99 (by decide +kernel) (by decide +kernel), by decide +kernel, by decide⟩
set_option maxHeartbeats 4000000 in
set_option maxRecDepth 100000 in
theorem sX12_save_56 (v2 : Int32) (v3 : Int32)  (x : ab_X) (K : ab_X → Prop)  (d bc bs : Nat) (hdp : 1 ≤ d)  (h : wX12_save_56 v2 v3 x K ) : EW MX12_save 56 [(0, .ref 246), (2, .int v2), (3, .int v3)] [] (aS x) d bc bs (liV K) := by
  unfold wX12_save_56 at h
  refine EW_iload_n (pc2 := 57) rfl dX12_save_56 2 rfl ?_
  refine EW_if_ge (tgt := 61) (pc2 := 60) rfl dX12_save_57 (by decide) (fun q => ?_) (fun q => ?_)
  · replace h := h.1 q
    refine EW_iconst (pc2 := 62) (v := 2) rfl dX12_save_61 (by decide) ?_
    refine EW_aload_n (pc2 := 63) rfl dX12_save_62 0 rfl ?_
    refine AW_getr (r := 272) ⟨gfRX12_86, rfl⟩ (pc2 := 66) rfl dX12_save_63 q246 rfl ?_
    refine EW_bipush (pc2 := 68) (v := 6) rfl dX12_save_66 (by decide) ?_
    refine EW_iload_n (pc2 := 69) rfl dX12_save_68 1 rfl ?_
    refine EW_imul (pc2 := 70) rfl dX12_save_69 ?_
    refine EW_iload_n (pc2 := 71) rfl dX12_save_70 2 rfl ?_
    refine EW_iadd (pc2 := 72) rfl dX12_save_71 ?_
    obtain ⟨b5, h⟩ := h
    refine AW_iald (pc2 := 73) rfl dX12_save_72 q272 b5 ?_
    refine AW_mmin mmRX12_311 (pc2 := 76) rfl dX12_save_73 (Nat.le_of_ble_eq_true rfl) (by omega) ?_
    refine EW_istore (pc2 := 78) rfl dX12_save_76 (by decide) [1, 2, 3, 0] [(0, .ref 246), (2, .int v2), (3, .int v3), (4, .int (imin 2 (x.1 272 (Int32.toNatClampNeg ((6 * v2) + v3)))))] rfl ?_
    refine EW_aload_n (pc2 := 79) rfl dX12_save_78 0 rfl ?_
    refine AW_getr (r := 272) ⟨gfRX12_86, rfl⟩ (pc2 := 82) rfl dX12_save_79 q246 rfl ?_
    refine EW_bipush (pc2 := 84) (v := 6) rfl dX12_save_82 (by decide) ?_
    refine EW_iload_n (pc2 := 85) rfl dX12_save_84 1 rfl ?_
    refine EW_imul (pc2 := 86) rfl dX12_save_85 ?_
    refine EW_iload_n (pc2 := 87) rfl dX12_save_86 2 rfl ?_
    refine EW_iadd (pc2 := 88) rfl dX12_save_87 ?_
    refine EW_dup2 (pc2 := 89) rfl dX12_save_88 rfl rfl ?_
    obtain ⟨b6, h⟩ := h
    refine AW_iald (pc2 := 90) rfl dX12_save_89 q272 b6 ?_
    refine EW_iload (pc2 := 92) rfl dX12_save_90 3 rfl ?_
    refine EW_isub (pc2 := 93) rfl dX12_save_92 ?_
    obtain ⟨b7, h⟩ := h
    refine AW_iast (pc2 := 94) rfl dX12_save_93 q272 b7 ?_
    refine EW_aload_n (pc2 := 95) rfl dX12_save_94 0 rfl ?_
    refine AW_getr (r := 262) ⟨gfRX12_56, rfl⟩ (pc2 := 98) rfl dX12_save_95 q246 rfl ?_
    refine EW_iload_n (pc2 := 99) rfl dX12_save_98 1 rfl ?_
    refine EW_dup2 (pc2 := 100) rfl dX12_save_99 rfl rfl ?_
    obtain ⟨b8, h⟩ := h
    refine AW_iald (pc2 := 101) rfl dX12_save_100 q262 b8 ?_
    refine EW_iload (pc2 := 103) rfl dX12_save_101 3 rfl ?_
    refine EW_iadd (pc2 := 104) rfl dX12_save_103 ?_
    obtain ⟨b9, h⟩ := h
    refine AW_iast (pc2 := 105) rfl dX12_save_104 q262 b9 ?_
    exact EW_vret rfl dX12_save_105 ⟨_, rfl, rfl, h⟩
  · replace h := h.2 q
    exact EW_vret rfl dX12_save_60 ⟨_, rfl, rfl, h⟩
set_option maxHeartbeats 4000000 in
set_option maxRecDepth 100000 in
theorem sX12_save_18 (v2 : Int32) (v3 : Int32)  (x : ab_X) (K : ab_X → Prop)  (d bc bs : Nat) (hdp : 1 ≤ d)  (h : Lp1 (lX12_save_18 v2 x K ) v3) : EW MX12_save 18 [(0, .ref 246), (2, .int v2), (3, .int v3)] [] (aS x) d bc bs (liV K) := by
  refine Lp1.use (P := fun v3 => EW MX12_save 18 [(0, .ref 246), (2, .int v2), (3, .int v3)] [] (aS x) d bc bs (liV K)) (fun L18 v3 hL18 h => ?_) v3 h
  unfold lX12_save_18 at h
  refine EW_iload_n (pc2 := 19) rfl dX12_save_18 2 rfl ?_
  refine EW_if_lt (tgt := 56) (pc2 := 22) rfl dX12_save_19 (by decide) (fun q => ?_) (fun q => ?_)
  · replace h := h.1 q
    exact sX12_save_56 v2 v3 x K d bc bs hdp h
  · replace h := h.2 q
    refine EW_aload_n (pc2 := 23) rfl dX12_save_22 0 rfl ?_
    refine AW_getr (r := 274) ⟨gfRX12_92, rfl⟩ (pc2 := 26) rfl dX12_save_23 q246 rfl ?_
    refine EW_bipush (pc2 := 28) (v := 6) rfl dX12_save_26 (by decide) ?_
    refine EW_iload_n (pc2 := 29) rfl dX12_save_28 1 rfl ?_
    refine EW_imul (pc2 := 30) rfl dX12_save_29 ?_
    refine EW_iload_n (pc2 := 31) rfl dX12_save_30 2 rfl ?_
    refine EW_iadd (pc2 := 32) rfl dX12_save_31 ?_
    obtain ⟨b3, h⟩ := h
    refine AW_zald (pc2 := 33) rfl dX12_save_32 q274 b3 ?_
    refine EW_if_ne (tgt := 50) (pc2 := 36) rfl dX12_save_33 (by decide) (fun q => ?_) (fun q => ?_)
    · replace h := h.1 q
      refine EW_iinc (v3 + (-1)) (pc2 := 53) rfl dX12_save_50 2 rfl rfl (by decide) [1, 2, 0] [(0, .ref 246), (2, .int v2), (3, .int (v3 + (-1)))] rfl ?_
      refine EW_goto (tgt := 18) dX12_save_53 (by decide) ?_
      exact hL18 (v3 + (-1)) h
    · replace h := h.2 q
      refine EW_aload_n (pc2 := 37) rfl dX12_save_36 0 rfl ?_
      refine AW_getr (r := 272) ⟨gfRX12_86, rfl⟩ (pc2 := 40) rfl dX12_save_37 q246 rfl ?_
      refine EW_bipush (pc2 := 42) (v := 6) rfl dX12_save_40 (by decide) ?_
      refine EW_iload_n (pc2 := 43) rfl dX12_save_42 1 rfl ?_
      refine EW_imul (pc2 := 44) rfl dX12_save_43 ?_
      refine EW_iload_n (pc2 := 45) rfl dX12_save_44 2 rfl ?_
      refine EW_iadd (pc2 := 46) rfl dX12_save_45 ?_
      obtain ⟨b4, h⟩ := h
      refine AW_iald (pc2 := 47) rfl dX12_save_46 q272 b4 ?_
      refine EW_if_ne (tgt := 56) (pc2 := 50) rfl dX12_save_47 (by decide) (fun q => ?_) (fun q => ?_)
      · replace h := h.1 q
        exact sX12_save_56 v2 v3 x K d bc bs hdp h
      · replace h := h.2 q
        refine EW_iinc (v3 + (-1)) (pc2 := 53) rfl dX12_save_50 2 rfl rfl (by decide) [1, 2, 0] [(0, .ref 246), (2, .int v2), (3, .int (v3 + (-1)))] rfl ?_
        refine EW_goto (tgt := 18) dX12_save_53 (by decide) ?_
        exact hL18 (v3 + (-1)) h
set_option maxHeartbeats 4000000 in
set_option maxRecDepth 100000 in
theorem sX12_save (v1 : Int32) (v2 : Int32)  (x : ab_X) (K : ab_X → Prop) (d bc bs : Nat) (hdp : 1 ≤ d) (h : wX12_save v1 v2 x K) : EW MX12_save 0 [(0, .ref 246), (1, .int v1), (2, .int v2)] [] (aS x) d bc bs (liV K) := by
  unfold wX12_save at h
  refine EW_aload_n (pc2 := 1) rfl dX12_save_0 0 rfl ?_
  refine AW_getr (r := 283) ⟨gfRX12_119, rfl⟩ (pc2 := 4) rfl dX12_save_1 q246 rfl ?_
  refine EW_iload_n (pc2 := 5) rfl dX12_save_4 1 rfl ?_
  obtain ⟨b1, h⟩ := h
  refine AW_iald (pc2 := 6) rfl dX12_save_5 q283 b1 ?_
  refine EW_aload_n (pc2 := 7) rfl dX12_save_6 0 rfl ?_
  refine AW_getr (r := 256) ⟨gfRX12_38, rfl⟩ (pc2 := 10) rfl dX12_save_7 q246 rfl ?_
  refine EW_iload_n (pc2 := 11) rfl dX12_save_10 2 rfl ?_
  obtain ⟨b2, h⟩ := h
  refine AW_iald (pc2 := 12) rfl dX12_save_11 q256 b2 ?_
  refine AW_mmin mmRX12_311 (pc2 := 15) rfl dX12_save_12 (Nat.le_of_ble_eq_true rfl) (by omega) ?_
  refine EW_iconst (pc2 := 16) (v := 1) rfl dX12_save_15 (by decide) ?_
  refine EW_isub (pc2 := 17) rfl dX12_save_16 ?_
  refine EW_istore_n (pc2 := 18) rfl dX12_save_17 (by decide) [1, 2, 3, 0] [(0, .ref 246), (1, .int v1), (2, .int v2), (3, .int ((imin (x.1 283 (Int32.toNatClampNeg v1)) (x.1 256 (Int32.toNatClampNeg v2))) - 1))] rfl ?_
  refine EW_ls [0, 2, 3] rfl ?_
  exact sX12_save_18 v2 ((imin (x.1 283 (Int32.toNatClampNeg v1)) (x.1 256 (Int32.toNatClampNeg v2))) - 1) x K d bc bs hdp h
theorem gfRX12_158 : ab_L RX12 158 12 53 := ⟨by decide, by decide, ab_in 1902 (by decide +kernel) (by decide +kernel)⟩
theorem gfRX12_152 : ab_L RX12 152 12 51 := ⟨by decide, by decide, ab_in 1900 (by decide +kernel) (by decide +kernel)⟩
theorem gfRX12_104 : ab_L RX12 104 12 35 := ⟨by decide, by decide, ab_in 1884 (by decide +kernel) (by decide +kernel)⟩
theorem gfRX12_161 : ab_L RX12 161 12 54 := ⟨by decide, by decide, ab_in 1903 (by decide +kernel) (by decide +kernel)⟩
theorem mlRX12_574 : Cond.methodLink RX12 574 yX12_roomFor ∈ ab_G ∧ Cond.instanceMethod yX12_roomFor ∈ ab_G ∧ Cond.selects RX12 yX12_roomFor yX12_roomFor ∈ ab_G := ⟨ab_in 2567 (by decide +kernel) (by decide +kernel), ab_in 2569 (by decide +kernel) (by decide +kernel), ab_in 62 (by decide +kernel) (by decide +kernel)⟩
theorem mlRX12_577 : Cond.methodLink RX12 577 yX12_leaves ∈ ab_G ∧ Cond.instanceMethod yX12_leaves ∈ ab_G ∧ Cond.selects RX12 yX12_leaves yX12_leaves ∈ ab_G := ⟨ab_in 2579 (by decide +kernel) (by decide +kernel), ab_in 2581 (by decide +kernel) (by decide +kernel), ab_in 65 (by decide +kernel) (by decide +kernel)⟩
theorem mlRX12_571 : Cond.methodLink RX12 571 yX12_save ∈ ab_G ∧ Cond.instanceMethod yX12_save ∈ ab_G ∧ Cond.selects RX12 yX12_save yX12_save ∈ ab_G := ⟨ab_in 2563 (by decide +kernel) (by decide +kernel), ab_in 2565 (by decide +kernel) (by decide +kernel), ab_in 61 (by decide +kernel) (by decide +kernel)⟩
abbrev MX12_work : ab_M := (yX12_work, cX12_work, 5, none)
theorem dX12_work_0 : decode cX12_work 0 = .ok (.iconst 0, 1) := by decide +kernel
theorem dX12_work_1 : decode cX12_work 1 = .ok (.istore_n 1, 1) := by decide +kernel
theorem dX12_work_2 : decode cX12_work 2 = .ok (.iload_n 1, 1) := by decide +kernel
theorem dX12_work_3 : decode cX12_work 3 = .ok (.aload_n 0, 1) := by decide +kernel
theorem dX12_work_4 : decode cX12_work 4 = .ok (.getfield 386, 3) := by decide +kernel
theorem dX12_work_7 : decode cX12_work 7 = .ok (.if_icmp .ge 16, 3) := by decide +kernel
theorem dX12_work_10 : decode cX12_work 10 = .ok (.aload_n 0, 1) := by decide +kernel
theorem dX12_work_11 : decode cX12_work 11 = .ok (.getfield 104, 3) := by decide +kernel
theorem dX12_work_14 : decode cX12_work 14 = .ok (.iload_n 1, 1) := by decide +kernel
theorem dX12_work_15 : decode cX12_work 15 = .ok (.iconst 0, 1) := by decide +kernel
theorem dX12_work_16 : decode cX12_work 16 = .ok (.iastore, 1) := by decide +kernel
theorem dX12_work_17 : decode cX12_work 17 = .ok (.iinc 1 1, 3) := by decide +kernel
theorem dX12_work_20 : decode cX12_work 20 = .ok (.goto (-18), 3) := by decide +kernel
theorem dX12_work_23 : decode cX12_work 23 = .ok (.iconst 0, 1) := by decide +kernel
theorem dX12_work_24 : decode cX12_work 24 = .ok (.istore_n 1, 1) := by decide +kernel
theorem dX12_work_25 : decode cX12_work 25 = .ok (.iload_n 1, 1) := by decide +kernel
theorem dX12_work_26 : decode cX12_work 26 = .ok (.aload_n 0, 1) := by decide +kernel
theorem dX12_work_27 : decode cX12_work 27 = .ok (.getfield 366, 3) := by decide +kernel
theorem dX12_work_30 : decode cX12_work 30 = .ok (.if_icmp .ge 246, 3) := by decide +kernel
theorem dX12_work_33 : decode cX12_work 33 = .ok (.aload_n 0, 1) := by decide +kernel
theorem dX12_work_34 : decode cX12_work 34 = .ok (.getfield 152, 3) := by decide +kernel
theorem dX12_work_37 : decode cX12_work 37 = .ok (.iload_n 1, 1) := by decide +kernel
theorem dX12_work_38 : decode cX12_work 38 = .ok (.iconst 0, 1) := by decide +kernel
theorem dX12_work_39 : decode cX12_work 39 = .ok (.iastore, 1) := by decide +kernel
theorem dX12_work_40 : decode cX12_work 40 = .ok (.aload_n 0, 1) := by decide +kernel
theorem dX12_work_41 : decode cX12_work 41 = .ok (.getfield 155, 3) := by decide +kernel
theorem dX12_work_44 : decode cX12_work 44 = .ok (.iload_n 1, 1) := by decide +kernel
theorem dX12_work_45 : decode cX12_work 45 = .ok (.iconst 0, 1) := by decide +kernel
theorem dX12_work_46 : decode cX12_work 46 = .ok (.iastore, 1) := by decide +kernel
theorem dX12_work_47 : decode cX12_work 47 = .ok (.aload_n 0, 1) := by decide +kernel
theorem dX12_work_48 : decode cX12_work 48 = .ok (.getfield 143, 3) := by decide +kernel
theorem dX12_work_51 : decode cX12_work 51 = .ok (.iload_n 1, 1) := by decide +kernel
theorem dX12_work_52 : decode cX12_work 52 = .ok (.iconst (-1), 1) := by decide +kernel
theorem dX12_work_53 : decode cX12_work 53 = .ok (.iastore, 1) := by decide +kernel
theorem dX12_work_54 : decode cX12_work 54 = .ok (.aload_n 0, 1) := by decide +kernel
theorem dX12_work_55 : decode cX12_work 55 = .ok (.getfield 128, 3) := by decide +kernel
theorem dX12_work_58 : decode cX12_work 58 = .ok (.iload_n 1, 1) := by decide +kernel
theorem dX12_work_59 : decode cX12_work 59 = .ok (.iaload, 1) := by decide +kernel
theorem dX12_work_60 : decode cX12_work 60 = .ok (.iconst 2, 1) := by decide +kernel
theorem dX12_work_61 : decode cX12_work 61 = .ok (.if_icmp .eq 6, 3) := by decide +kernel
theorem dX12_work_64 : decode cX12_work 64 = .ok (.goto 206, 3) := by decide +kernel
theorem dX12_work_67 : decode cX12_work 67 = .ok (.aload_n 0, 1) := by decide +kernel
theorem dX12_work_68 : decode cX12_work 68 = .ok (.getfield 140, 3) := by decide +kernel
theorem dX12_work_71 : decode cX12_work 71 = .ok (.iload_n 1, 1) := by decide +kernel
theorem dX12_work_72 : decode cX12_work 72 = .ok (.iaload, 1) := by decide +kernel
theorem dX12_work_73 : decode cX12_work 73 = .ok (.istore_n 2, 1) := by decide +kernel
theorem dX12_work_74 : decode cX12_work 74 = .ok (.aload_n 0, 1) := by decide +kernel
theorem dX12_work_75 : decode cX12_work 75 = .ok (.getfield 107, 3) := by decide +kernel
theorem dX12_work_78 : decode cX12_work 78 = .ok (.iload_n 1, 1) := by decide +kernel
theorem dX12_work_79 : decode cX12_work 79 = .ok (.iaload, 1) := by decide +kernel
theorem dX12_work_80 : decode cX12_work 80 = .ok (.iconst 2, 1) := by decide +kernel
theorem dX12_work_81 : decode cX12_work 81 = .ok (.if_icmp .ne 9, 3) := by decide +kernel
theorem dX12_work_84 : decode cX12_work 84 = .ok (.aload_n 0, 1) := by decide +kernel
theorem dX12_work_85 : decode cX12_work 85 = .ok (.iload_n 1, 1) := by decide +kernel
theorem dX12_work_86 : decode cX12_work 86 = .ok (.iload_n 2, 1) := by decide +kernel
theorem dX12_work_87 : decode cX12_work 87 = .ok (.invokevirtual 571, 3) := by decide +kernel
theorem dX12_work_90 : decode cX12_work 90 = .ok (.aload_n 0, 1) := by decide +kernel
theorem dX12_work_91 : decode cX12_work 91 = .ok (.getfield 107, 3) := by decide +kernel
theorem dX12_work_94 : decode cX12_work 94 = .ok (.iload_n 1, 1) := by decide +kernel
theorem dX12_work_95 : decode cX12_work 95 = .ok (.iaload, 1) := by decide +kernel
theorem dX12_work_96 : decode cX12_work 96 = .ok (.iconst 2, 1) := by decide +kernel
theorem dX12_work_97 : decode cX12_work 97 = .ok (.if_icmp .ge 173, 3) := by decide +kernel
theorem dX12_work_100 : decode cX12_work 100 = .ok (.aload_n 0, 1) := by decide +kernel
theorem dX12_work_101 : decode cX12_work 101 = .ok (.getfield 107, 3) := by decide +kernel
theorem dX12_work_104 : decode cX12_work 104 = .ok (.iload_n 1, 1) := by decide +kernel
theorem dX12_work_105 : decode cX12_work 105 = .ok (.iaload, 1) := by decide +kernel
theorem dX12_work_106 : decode cX12_work 106 = .ok (.iconst 1, 1) := by decide +kernel
theorem dX12_work_107 : decode cX12_work 107 = .ok (.if_icmp .ne 26, 3) := by decide +kernel
theorem dX12_work_110 : decode cX12_work 110 = .ok (.aload_n 0, 1) := by decide +kernel
theorem dX12_work_111 : decode cX12_work 111 = .ok (.getfield 395, 3) := by decide +kernel
theorem dX12_work_114 : decode cX12_work 114 = .ok (.aload_n 0, 1) := by decide +kernel
theorem dX12_work_115 : decode cX12_work 115 = .ok (.getfield 149, 3) := by decide +kernel
theorem dX12_work_118 : decode cX12_work 118 = .ok (.iload_n 1, 1) := by decide +kernel
theorem dX12_work_119 : decode cX12_work 119 = .ok (.iaload, 1) := by decide +kernel
theorem dX12_work_120 : decode cX12_work 120 = .ok (.isub, 1) := by decide +kernel
theorem dX12_work_121 : decode cX12_work 121 = .ok (.aload_n 0, 1) := by decide +kernel
theorem dX12_work_122 : decode cX12_work 122 = .ok (.getfield 125, 3) := by decide +kernel
theorem dX12_work_125 : decode cX12_work 125 = .ok (.iload_n 1, 1) := by decide +kernel
theorem dX12_work_126 : decode cX12_work 126 = .ok (.iaload, 1) := by decide +kernel
theorem dX12_work_127 : decode cX12_work 127 = .ok (.if_icmp .ge 6, 3) := by decide +kernel
theorem dX12_work_130 : decode cX12_work 130 = .ok (.goto 140, 3) := by decide +kernel
theorem dX12_work_133 : decode cX12_work 133 = .ok (.aload_n 0, 1) := by decide +kernel
theorem dX12_work_134 : decode cX12_work 134 = .ok (.iload_n 1, 1) := by decide +kernel
theorem dX12_work_135 : decode cX12_work 135 = .ok (.iload_n 2, 1) := by decide +kernel
theorem dX12_work_136 : decode cX12_work 136 = .ok (.invokevirtual 574, 3) := by decide +kernel
theorem dX12_work_139 : decode cX12_work 139 = .ok (.istore_n 3, 1) := by decide +kernel
theorem dX12_work_140 : decode cX12_work 140 = .ok (.iload_n 3, 1) := by decide +kernel
theorem dX12_work_141 : decode cX12_work 141 = .ok (.iconst (-1), 1) := by decide +kernel
theorem dX12_work_142 : decode cX12_work 142 = .ok (.if_icmp .ne 6, 3) := by decide +kernel
theorem dX12_work_145 : decode cX12_work 145 = .ok (.goto 125, 3) := by decide +kernel
theorem dX12_work_148 : decode cX12_work 148 = .ok (.aload_n 0, 1) := by decide +kernel
theorem dX12_work_149 : decode cX12_work 149 = .ok (.iload_n 1, 1) := by decide +kernel
theorem dX12_work_150 : decode cX12_work 150 = .ok (.iload_n 2, 1) := by decide +kernel
theorem dX12_work_151 : decode cX12_work 151 = .ok (.iload_n 3, 1) := by decide +kernel
theorem dX12_work_152 : decode cX12_work 152 = .ok (.invokevirtual 577, 3) := by decide +kernel
theorem dX12_work_155 : decode cX12_work 155 = .ok (.istore 4, 2) := by decide +kernel
theorem dX12_work_157 : decode cX12_work 157 = .ok (.aload_n 0, 1) := by decide +kernel
theorem dX12_work_158 : decode cX12_work 158 = .ok (.getfield 158, 3) := by decide +kernel
theorem dX12_work_161 : decode cX12_work 161 = .ok (.iload_n 1, 1) := by decide +kernel
theorem dX12_work_162 : decode cX12_work 162 = .ok (.bipush 24, 2) := by decide +kernel
theorem dX12_work_164 : decode cX12_work 164 = .ok (.iload_n 2, 1) := by decide +kernel
theorem dX12_work_165 : decode cX12_work 165 = .ok (.imul, 1) := by decide +kernel
theorem dX12_work_166 : decode cX12_work 166 = .ok (.iload_n 3, 1) := by decide +kernel
theorem dX12_work_167 : decode cX12_work 167 = .ok (.iadd, 1) := by decide +kernel
theorem dX12_work_168 : decode cX12_work 168 = .ok (.iastore, 1) := by decide +kernel
theorem dX12_work_169 : decode cX12_work 169 = .ok (.aload_n 0, 1) := by decide +kernel
theorem dX12_work_170 : decode cX12_work 170 = .ok (.getfield 161, 3) := by decide +kernel
theorem dX12_work_173 : decode cX12_work 173 = .ok (.iload_n 1, 1) := by decide +kernel
theorem dX12_work_174 : decode cX12_work 174 = .ok (.aload_n 0, 1) := by decide +kernel
theorem dX12_work_175 : decode cX12_work 175 = .ok (.getfield 101, 3) := by decide +kernel
theorem dX12_work_178 : decode cX12_work 178 = .ok (.aload_n 0, 1) := by decide +kernel
theorem dX12_work_179 : decode cX12_work 179 = .ok (.iload_n 2, 1) := by decide +kernel
theorem dX12_work_180 : decode cX12_work 180 = .ok (.invokevirtual 408, 3) := by decide +kernel
theorem dX12_work_183 : decode cX12_work 183 = .ok (.iaload, 1) := by decide +kernel
theorem dX12_work_184 : decode cX12_work 184 = .ok (.iastore, 1) := by decide +kernel
theorem dX12_work_185 : decode cX12_work 185 = .ok (.aload_n 0, 1) := by decide +kernel
theorem dX12_work_186 : decode cX12_work 186 = .ok (.getfield 152, 3) := by decide +kernel
theorem dX12_work_189 : decode cX12_work 189 = .ok (.iload_n 1, 1) := by decide +kernel
theorem dX12_work_190 : decode cX12_work 190 = .ok (.iload 4, 2) := by decide +kernel
theorem dX12_work_192 : decode cX12_work 192 = .ok (.ifCond .eq 14, 3) := by decide +kernel
theorem dX12_work_195 : decode cX12_work 195 = .ok (.aload_n 0, 1) := by decide +kernel
theorem dX12_work_196 : decode cX12_work 196 = .ok (.getfield 122, 3) := by decide +kernel
theorem dX12_work_199 : decode cX12_work 199 = .ok (.iload_n 1, 1) := by decide +kernel
theorem dX12_work_200 : decode cX12_work 200 = .ok (.iaload, 1) := by decide +kernel
theorem dX12_work_201 : decode cX12_work 201 = .ok (.iconst 2, 1) := by decide +kernel
theorem dX12_work_202 : decode cX12_work 202 = .ok (.idiv, 1) := by decide +kernel
theorem dX12_work_203 : decode cX12_work 203 = .ok (.goto 9, 3) := by decide +kernel
theorem dX12_work_206 : decode cX12_work 206 = .ok (.aload_n 0, 1) := by decide +kernel
theorem dX12_work_207 : decode cX12_work 207 = .ok (.getfield 122, 3) := by decide +kernel
theorem dX12_work_210 : decode cX12_work 210 = .ok (.iload_n 1, 1) := by decide +kernel
theorem dX12_work_211 : decode cX12_work 211 = .ok (.iaload, 1) := by decide +kernel
theorem dX12_work_212 : decode cX12_work 212 = .ok (.iastore, 1) := by decide +kernel
theorem dX12_work_213 : decode cX12_work 213 = .ok (.iload 4, 2) := by decide +kernel
theorem dX12_work_215 : decode cX12_work 215 = .ok (.ifCond .ne 15, 3) := by decide +kernel
theorem dX12_work_218 : decode cX12_work 218 = .ok (.aload_n 0, 1) := by decide +kernel
theorem dX12_work_219 : decode cX12_work 219 = .ok (.getfield 143, 3) := by decide +kernel
theorem dX12_work_222 : decode cX12_work 222 = .ok (.iload_n 1, 1) := by decide +kernel
theorem dX12_work_223 : decode cX12_work 223 = .ok (.aload_n 0, 1) := by decide +kernel
theorem dX12_work_224 : decode cX12_work 224 = .ok (.iload_n 2, 1) := by decide +kernel
theorem dX12_work_225 : decode cX12_work 225 = .ok (.iload_n 3, 1) := by decide +kernel
theorem dX12_work_226 : decode cX12_work 226 = .ok (.invokevirtual 345, 3) := by decide +kernel
theorem dX12_work_229 : decode cX12_work 229 = .ok (.iastore, 1) := by decide +kernel
theorem dX12_work_230 : decode cX12_work 230 = .ok (.aload_n 0, 1) := by decide +kernel
theorem dX12_work_231 : decode cX12_work 231 = .ok (.getfield 74, 3) := by decide +kernel
theorem dX12_work_234 : decode cX12_work 234 = .ok (.aload_n 0, 1) := by decide +kernel
theorem dX12_work_235 : decode cX12_work 235 = .ok (.getfield 158, 3) := by decide +kernel
theorem dX12_work_238 : decode cX12_work 238 = .ok (.iload_n 1, 1) := by decide +kernel
theorem dX12_work_239 : decode cX12_work 239 = .ok (.iaload, 1) := by decide +kernel
theorem dX12_work_240 : decode cX12_work 240 = .ok (.dup2, 1) := by decide +kernel
theorem dX12_work_241 : decode cX12_work 241 = .ok (.iaload, 1) := by decide +kernel
theorem dX12_work_242 : decode cX12_work 242 = .ok (.aload_n 0, 1) := by decide +kernel
theorem dX12_work_243 : decode cX12_work 243 = .ok (.getfield 152, 3) := by decide +kernel
theorem dX12_work_246 : decode cX12_work 246 = .ok (.iload_n 1, 1) := by decide +kernel
theorem dX12_work_247 : decode cX12_work 247 = .ok (.iaload, 1) := by decide +kernel
theorem dX12_work_248 : decode cX12_work 248 = .ok (.iadd, 1) := by decide +kernel
theorem dX12_work_249 : decode cX12_work 249 = .ok (.iastore, 1) := by decide +kernel
theorem dX12_work_250 : decode cX12_work 250 = .ok (.aload_n 0, 1) := by decide +kernel
theorem dX12_work_251 : decode cX12_work 251 = .ok (.getfield 104, 3) := by decide +kernel
theorem dX12_work_254 : decode cX12_work 254 = .ok (.aload_n 0, 1) := by decide +kernel
theorem dX12_work_255 : decode cX12_work 255 = .ok (.getfield 161, 3) := by decide +kernel
theorem dX12_work_258 : decode cX12_work 258 = .ok (.iload_n 1, 1) := by decide +kernel
theorem dX12_work_259 : decode cX12_work 259 = .ok (.iaload, 1) := by decide +kernel
theorem dX12_work_260 : decode cX12_work 260 = .ok (.dup2, 1) := by decide +kernel
theorem dX12_work_261 : decode cX12_work 261 = .ok (.iaload, 1) := by decide +kernel
theorem dX12_work_262 : decode cX12_work 262 = .ok (.aload_n 0, 1) := by decide +kernel
theorem dX12_work_263 : decode cX12_work 263 = .ok (.getfield 152, 3) := by decide +kernel
theorem dX12_work_266 : decode cX12_work 266 = .ok (.iload_n 1, 1) := by decide +kernel
theorem dX12_work_267 : decode cX12_work 267 = .ok (.iaload, 1) := by decide +kernel
theorem dX12_work_268 : decode cX12_work 268 = .ok (.iadd, 1) := by decide +kernel
theorem dX12_work_269 : decode cX12_work 269 = .ok (.iastore, 1) := by decide +kernel
theorem dX12_work_270 : decode cX12_work 270 = .ok (.iinc 1 1, 3) := by decide +kernel
theorem dX12_work_273 : decode cX12_work 273 = .ok (.goto (-248), 3) := by decide +kernel
theorem dX12_work_276 : decode cX12_work 276 = .ok (.iconst 0, 1) := by decide +kernel
theorem dX12_work_277 : decode cX12_work 277 = .ok (.istore_n 1, 1) := by decide +kernel
theorem dX12_work_278 : decode cX12_work 278 = .ok (.iload_n 1, 1) := by decide +kernel
theorem dX12_work_279 : decode cX12_work 279 = .ok (.sipush 288, 3) := by decide +kernel
theorem dX12_work_282 : decode cX12_work 282 = .ok (.if_icmp .ge 16, 3) := by decide +kernel
theorem dX12_work_285 : decode cX12_work 285 = .ok (.aload_n 0, 1) := by decide +kernel
theorem dX12_work_286 : decode cX12_work 286 = .ok (.getfield 74, 3) := by decide +kernel
theorem dX12_work_289 : decode cX12_work 289 = .ok (.iload_n 1, 1) := by decide +kernel
theorem dX12_work_290 : decode cX12_work 290 = .ok (.iconst 0, 1) := by decide +kernel
theorem dX12_work_291 : decode cX12_work 291 = .ok (.iastore, 1) := by decide +kernel
theorem dX12_work_292 : decode cX12_work 292 = .ok (.iinc 1 1, 3) := by decide +kernel
theorem dX12_work_295 : decode cX12_work 295 = .ok (.goto (-17), 3) := by decide +kernel
theorem dX12_work_298 : decode cX12_work 298 = .ok (.iconst 0, 1) := by decide +kernel
theorem dX12_work_299 : decode cX12_work 299 = .ok (.istore_n 1, 1) := by decide +kernel
theorem dX12_work_300 : decode cX12_work 300 = .ok (.iload_n 1, 1) := by decide +kernel
theorem dX12_work_301 : decode cX12_work 301 = .ok (.aload_n 0, 1) := by decide +kernel
theorem dX12_work_302 : decode cX12_work 302 = .ok (.getfield 366, 3) := by decide +kernel
theorem dX12_work_305 : decode cX12_work 305 = .ok (.if_icmp .ge 118, 3) := by decide +kernel
theorem dX12_work_308 : decode cX12_work 308 = .ok (.aload_n 0, 1) := by decide +kernel
theorem dX12_work_309 : decode cX12_work 309 = .ok (.getfield 152, 3) := by decide +kernel
theorem dX12_work_312 : decode cX12_work 312 = .ok (.iload_n 1, 1) := by decide +kernel
theorem dX12_work_313 : decode cX12_work 313 = .ok (.iaload, 1) := by decide +kernel
theorem dX12_work_314 : decode cX12_work 314 = .ok (.ifCond .ne 6, 3) := by decide +kernel
theorem dX12_work_317 : decode cX12_work 317 = .ok (.goto 100, 3) := by decide +kernel
theorem dX12_work_320 : decode cX12_work 320 = .ok (.aload_n 0, 1) := by decide +kernel
theorem dX12_work_321 : decode cX12_work 321 = .ok (.getfield 104, 3) := by decide +kernel
theorem dX12_work_324 : decode cX12_work 324 = .ok (.aload_n 0, 1) := by decide +kernel
theorem dX12_work_325 : decode cX12_work 325 = .ok (.getfield 161, 3) := by decide +kernel
theorem dX12_work_328 : decode cX12_work 328 = .ok (.iload_n 1, 1) := by decide +kernel
theorem dX12_work_329 : decode cX12_work 329 = .ok (.iaload, 1) := by decide +kernel
theorem dX12_work_330 : decode cX12_work 330 = .ok (.iaload, 1) := by decide +kernel
theorem dX12_work_331 : decode cX12_work 331 = .ok (.istore_n 2, 1) := by decide +kernel
theorem dX12_work_332 : decode cX12_work 332 = .ok (.aload_n 0, 1) := by decide +kernel
theorem dX12_work_333 : decode cX12_work 333 = .ok (.getfield 95, 3) := by decide +kernel
theorem dX12_work_336 : decode cX12_work 336 = .ok (.aload_n 0, 1) := by decide +kernel
theorem dX12_work_337 : decode cX12_work 337 = .ok (.getfield 161, 3) := by decide +kernel
theorem dX12_work_340 : decode cX12_work 340 = .ok (.iload_n 1, 1) := by decide +kernel
theorem dX12_work_341 : decode cX12_work 341 = .ok (.iaload, 1) := by decide +kernel
theorem dX12_work_342 : decode cX12_work 342 = .ok (.iaload, 1) := by decide +kernel
theorem dX12_work_343 : decode cX12_work 343 = .ok (.istore_n 3, 1) := by decide +kernel
theorem dX12_work_344 : decode cX12_work 344 = .ok (.aload_n 0, 1) := by decide +kernel
theorem dX12_work_345 : decode cX12_work 345 = .ok (.getfield 155, 3) := by decide +kernel
theorem dX12_work_348 : decode cX12_work 348 = .ok (.iload_n 1, 1) := by decide +kernel
theorem dX12_work_349 : decode cX12_work 349 = .ok (.iload_n 2, 1) := by decide +kernel
theorem dX12_work_350 : decode cX12_work 350 = .ok (.iload_n 3, 1) := by decide +kernel
theorem dX12_work_351 : decode cX12_work 351 = .ok (.if_icmp .gt 12, 3) := by decide +kernel
theorem dX12_work_354 : decode cX12_work 354 = .ok (.aload_n 0, 1) := by decide +kernel
theorem dX12_work_355 : decode cX12_work 355 = .ok (.getfield 152, 3) := by decide +kernel
theorem dX12_work_358 : decode cX12_work 358 = .ok (.iload_n 1, 1) := by decide +kernel
theorem dX12_work_359 : decode cX12_work 359 = .ok (.iaload, 1) := by decide +kernel
theorem dX12_work_360 : decode cX12_work 360 = .ok (.goto 13, 3) := by decide +kernel
theorem dX12_work_363 : decode cX12_work 363 = .ok (.aload_n 0, 1) := by decide +kernel
theorem dX12_work_364 : decode cX12_work 364 = .ok (.getfield 152, 3) := by decide +kernel
theorem dX12_work_367 : decode cX12_work 367 = .ok (.iload_n 1, 1) := by decide +kernel
theorem dX12_work_368 : decode cX12_work 368 = .ok (.iaload, 1) := by decide +kernel
theorem dX12_work_369 : decode cX12_work 369 = .ok (.iload_n 3, 1) := by decide +kernel
theorem dX12_work_370 : decode cX12_work 370 = .ok (.imul, 1) := by decide +kernel
theorem dX12_work_371 : decode cX12_work 371 = .ok (.iload_n 2, 1) := by decide +kernel
theorem dX12_work_372 : decode cX12_work 372 = .ok (.idiv, 1) := by decide +kernel
theorem dX12_work_373 : decode cX12_work 373 = .ok (.iastore, 1) := by decide +kernel
theorem dX12_work_374 : decode cX12_work 374 = .ok (.aload_n 0, 1) := by decide +kernel
theorem dX12_work_375 : decode cX12_work 375 = .ok (.getfield 74, 3) := by decide +kernel
theorem dX12_work_378 : decode cX12_work 378 = .ok (.aload_n 0, 1) := by decide +kernel
theorem dX12_work_379 : decode cX12_work 379 = .ok (.getfield 158, 3) := by decide +kernel
theorem dX12_work_382 : decode cX12_work 382 = .ok (.iload_n 1, 1) := by decide +kernel
theorem dX12_work_383 : decode cX12_work 383 = .ok (.iaload, 1) := by decide +kernel
theorem dX12_work_384 : decode cX12_work 384 = .ok (.dup2, 1) := by decide +kernel
theorem dX12_work_385 : decode cX12_work 385 = .ok (.iaload, 1) := by decide +kernel
theorem dX12_work_386 : decode cX12_work 386 = .ok (.aload_n 0, 1) := by decide +kernel
theorem dX12_work_387 : decode cX12_work 387 = .ok (.getfield 155, 3) := by decide +kernel
theorem dX12_work_390 : decode cX12_work 390 = .ok (.iload_n 1, 1) := by decide +kernel
theorem dX12_work_391 : decode cX12_work 391 = .ok (.iaload, 1) := by decide +kernel
theorem dX12_work_392 : decode cX12_work 392 = .ok (.iadd, 1) := by decide +kernel
theorem dX12_work_393 : decode cX12_work 393 = .ok (.iastore, 1) := by decide +kernel
theorem dX12_work_394 : decode cX12_work 394 = .ok (.aload_n 0, 1) := by decide +kernel
theorem dX12_work_395 : decode cX12_work 395 = .ok (.getfield 62, 3) := by decide +kernel
theorem dX12_work_398 : decode cX12_work 398 = .ok (.aload_n 0, 1) := by decide +kernel
theorem dX12_work_399 : decode cX12_work 399 = .ok (.getfield 158, 3) := by decide +kernel
theorem dX12_work_402 : decode cX12_work 402 = .ok (.iload_n 1, 1) := by decide +kernel
theorem dX12_work_403 : decode cX12_work 403 = .ok (.iaload, 1) := by decide +kernel
theorem dX12_work_404 : decode cX12_work 404 = .ok (.bipush 24, 2) := by decide +kernel
theorem dX12_work_406 : decode cX12_work 406 = .ok (.idiv, 1) := by decide +kernel
theorem dX12_work_407 : decode cX12_work 407 = .ok (.dup2, 1) := by decide +kernel
theorem dX12_work_408 : decode cX12_work 408 = .ok (.iaload, 1) := by decide +kernel
theorem dX12_work_409 : decode cX12_work 409 = .ok (.aload_n 0, 1) := by decide +kernel
theorem dX12_work_410 : decode cX12_work 410 = .ok (.getfield 155, 3) := by decide +kernel
theorem dX12_work_413 : decode cX12_work 413 = .ok (.iload_n 1, 1) := by decide +kernel
theorem dX12_work_414 : decode cX12_work 414 = .ok (.iaload, 1) := by decide +kernel
theorem dX12_work_415 : decode cX12_work 415 = .ok (.iadd, 1) := by decide +kernel
theorem dX12_work_416 : decode cX12_work 416 = .ok (.iastore, 1) := by decide +kernel
theorem dX12_work_417 : decode cX12_work 417 = .ok (.iinc 1 1, 3) := by decide +kernel
theorem dX12_work_420 : decode cX12_work 420 = .ok (.goto (-120), 3) := by decide +kernel
theorem dX12_work_423 : decode cX12_work 423 = .ok (.return_, 1) := by decide +kernel
theorem okX12_work : ab_okM MX12_work 0 := ⟨by decide, ⟨by decide, by decide⟩, ab_in 2562 (by decide +kernel) (by decide +kernel), ab_in 99 (by decide +kernel) (by decide +kernel), by decide +kernel, by decide⟩
set_option maxHeartbeats 4000000 in
set_option maxRecDepth 100000 in
theorem sX12_work_373 (v1 : Int32) (s1 : Int32) (s2 : Int32)  (x : ab_X) (K : ab_X → Prop) (L300 : Int32 → ab_X → Prop) (d bc bs : Nat) (hdp : 211 ≤ d) (hL300 : ∀ (v1 : Int32) (x : ab_X), L300 v1 x → EW MX12_work 300 [(0, .ref 246), (1, .int v1)] [] (aS x) d bc bs (liV K)) (h : wX12_work_373 v1 s1 s2 x K L300) : EW MX12_work 373 [(0, .ref 246), (1, .int v1)] [.int s2, .int s1, .ref 295] (aS x) d bc bs (liV K) := by
  unfold wX12_work_373 at h
  obtain ⟨b17, h⟩ := h
  refine AW_iast (pc2 := 374) rfl dX12_work_373 q295 b17 ?_
  refine EW_aload_n (pc2 := 375) rfl dX12_work_374 0 rfl ?_
  refine AW_getr (r := 268) ⟨gfRX12_74, rfl⟩ (pc2 := 378) rfl dX12_work_375 q246 rfl ?_
  refine EW_aload_n (pc2 := 379) rfl dX12_work_378 0 rfl ?_
  refine AW_getr (r := 296) ⟨gfRX12_158, rfl⟩ (pc2 := 382) rfl dX12_work_379 q246 rfl ?_
  refine EW_iload_n (pc2 := 383) rfl dX12_work_382 1 rfl ?_
  obtain ⟨b18, h⟩ := h
  refine AW_iald (pc2 := 384) rfl dX12_work_383 q296 b18 ?_
  refine EW_dup2 (pc2 := 385) rfl dX12_work_384 rfl rfl ?_
  obtain ⟨b19, h⟩ := h
  refine AW_iald (pc2 := 386) rfl dX12_work_385 q268 b19 ?_
  refine EW_aload_n (pc2 := 387) rfl dX12_work_386 0 rfl ?_
  refine AW_getr (r := 295) ⟨gfRX12_155, rfl⟩ (pc2 := 390) rfl dX12_work_387 q246 rfl ?_
  refine EW_iload_n (pc2 := 391) rfl dX12_work_390 1 rfl ?_
  obtain ⟨b20, h⟩ := h
  refine AW_iald (pc2 := 392) rfl dX12_work_391 q295 b20 ?_
  refine EW_iadd (pc2 := 393) rfl dX12_work_392 ?_
  obtain ⟨b21, h⟩ := h
  refine AW_iast (pc2 := 394) rfl dX12_work_393 q268 b21 ?_
  refine EW_aload_n (pc2 := 395) rfl dX12_work_394 0 rfl ?_
  refine AW_getr (r := 264) ⟨gfRX12_62, rfl⟩ (pc2 := 398) rfl dX12_work_395 q246 rfl ?_
  refine EW_aload_n (pc2 := 399) rfl dX12_work_398 0 rfl ?_
  refine AW_getr (r := 296) ⟨gfRX12_158, rfl⟩ (pc2 := 402) rfl dX12_work_399 q246 rfl ?_
  refine EW_iload_n (pc2 := 403) rfl dX12_work_402 1 rfl ?_
  obtain ⟨b22, h⟩ := h
  refine AW_iald (pc2 := 404) rfl dX12_work_403 q296 b22 ?_
  refine EW_bipush (pc2 := 406) (v := 24) rfl dX12_work_404 (by decide) ?_
  refine EW_idiv (pc2 := 407) rfl dX12_work_406 (by decide) ?_
  refine EW_dup2 (pc2 := 408) rfl dX12_work_407 rfl rfl ?_
  obtain ⟨b23, h⟩ := h
  refine AW_iald (pc2 := 409) rfl dX12_work_408 q264 b23 ?_
  refine EW_aload_n (pc2 := 410) rfl dX12_work_409 0 rfl ?_
  refine AW_getr (r := 295) ⟨gfRX12_155, rfl⟩ (pc2 := 413) rfl dX12_work_410 q246 rfl ?_
  refine EW_iload_n (pc2 := 414) rfl dX12_work_413 1 rfl ?_
  obtain ⟨b24, h⟩ := h
  refine AW_iald (pc2 := 415) rfl dX12_work_414 q295 b24 ?_
  refine EW_iadd (pc2 := 416) rfl dX12_work_415 ?_
  obtain ⟨b25, h⟩ := h
  refine AW_iast (pc2 := 417) rfl dX12_work_416 q264 b25 ?_
  refine EW_iinc (v1 + 1) (pc2 := 420) rfl dX12_work_417 1 rfl rfl (by decide) [1, 0] [(0, .ref 246), (1, .int (v1 + 1))] rfl ?_
  refine EW_goto (tgt := 300) dX12_work_420 (by decide) ?_
  exact hL300 (v1 + 1) (wr (wr (wr x 295 (Int32.toNatClampNeg s1) s2) 268 (Int32.toNatClampNeg ((wr x 295 (Int32.toNatClampNeg s1) s2).1 296 (Int32.toNatClampNeg v1))) (((wr x 295 (Int32.toNatClampNeg s1) s2).1 268 (Int32.toNatClampNeg ((wr x 295 (Int32.toNatClampNeg s1) s2).1 296 (Int32.toNatClampNeg v1)))) + ((wr x 295 (Int32.toNatClampNeg s1) s2).1 295 (Int32.toNatClampNeg v1)))) 264 (Int32.toNatClampNeg (((wr (wr x 295 (Int32.toNatClampNeg s1) s2) 268 (Int32.toNatClampNeg ((wr x 295 (Int32.toNatClampNeg s1) s2).1 296 (Int32.toNatClampNeg v1))) (((wr x 295 (Int32.toNatClampNeg s1) s2).1 268 (Int32.toNatClampNeg ((wr x 295 (Int32.toNatClampNeg s1) s2).1 296 (Int32.toNatClampNeg v1)))) + ((wr x 295 (Int32.toNatClampNeg s1) s2).1 295 (Int32.toNatClampNeg v1)))).1 296 (Int32.toNatClampNeg v1)) / 24)) (((wr (wr x 295 (Int32.toNatClampNeg s1) s2) 268 (Int32.toNatClampNeg ((wr x 295 (Int32.toNatClampNeg s1) s2).1 296 (Int32.toNatClampNeg v1))) (((wr x 295 (Int32.toNatClampNeg s1) s2).1 268 (Int32.toNatClampNeg ((wr x 295 (Int32.toNatClampNeg s1) s2).1 296 (Int32.toNatClampNeg v1)))) + ((wr x 295 (Int32.toNatClampNeg s1) s2).1 295 (Int32.toNatClampNeg v1)))).1 264 (Int32.toNatClampNeg (((wr (wr x 295 (Int32.toNatClampNeg s1) s2) 268 (Int32.toNatClampNeg ((wr x 295 (Int32.toNatClampNeg s1) s2).1 296 (Int32.toNatClampNeg v1))) (((wr x 295 (Int32.toNatClampNeg s1) s2).1 268 (Int32.toNatClampNeg ((wr x 295 (Int32.toNatClampNeg s1) s2).1 296 (Int32.toNatClampNeg v1)))) + ((wr x 295 (Int32.toNatClampNeg s1) s2).1 295 (Int32.toNatClampNeg v1)))).1 296 (Int32.toNatClampNeg v1)) / 24))) + ((wr (wr x 295 (Int32.toNatClampNeg s1) s2) 268 (Int32.toNatClampNeg ((wr x 295 (Int32.toNatClampNeg s1) s2).1 296 (Int32.toNatClampNeg v1))) (((wr x 295 (Int32.toNatClampNeg s1) s2).1 268 (Int32.toNatClampNeg ((wr x 295 (Int32.toNatClampNeg s1) s2).1 296 (Int32.toNatClampNeg v1)))) + ((wr x 295 (Int32.toNatClampNeg s1) s2).1 295 (Int32.toNatClampNeg v1)))).1 295 (Int32.toNatClampNeg v1)))) h
set_option maxHeartbeats 4000000 in
set_option maxRecDepth 100000 in
theorem sX12_work_300 (v1 : Int32)  (x : ab_X) (K : ab_X → Prop)  (d bc bs : Nat) (hdp : 211 ≤ d)  (h : Lp2 (lX12_work_300  K ) v1 x) : EW MX12_work 300 [(0, .ref 246), (1, .int v1)] [] (aS x) d bc bs (liV K) := by
  refine Lp2.use (P := fun v1 x => EW MX12_work 300 [(0, .ref 246), (1, .int v1)] [] (aS x) d bc bs (liV K)) (fun L300 v1 x hL300 h => ?_) v1 x h
  unfold lX12_work_300 at h
  refine EW_iload_n (pc2 := 301) rfl dX12_work_300 1 rfl ?_
  refine EW_aload_n (pc2 := 302) rfl dX12_work_301 0 rfl ?_
  refine AW_geti ⟨gfRX12_366, rfl⟩ (pc2 := 305) rfl dX12_work_302 q246 ?_
  refine EW_icmp_ge (tgt := 423) (pc2 := 308) rfl dX12_work_305 (by decide) (fun q => ?_) (fun q => ?_)
  · replace h := h.1 q
    exact EW_vret rfl dX12_work_423 ⟨_, rfl, rfl, h⟩
  · replace h := h.2 q
    refine EW_aload_n (pc2 := 309) rfl dX12_work_308 0 rfl ?_
    refine AW_getr (r := 294) ⟨gfRX12_152, rfl⟩ (pc2 := 312) rfl dX12_work_309 q246 rfl ?_
    refine EW_iload_n (pc2 := 313) rfl dX12_work_312 1 rfl ?_
    obtain ⟨b10, h⟩ := h
    refine AW_iald (pc2 := 314) rfl dX12_work_313 q294 b10 ?_
    refine EW_if_ne (tgt := 320) (pc2 := 317) rfl dX12_work_314 (by decide) (fun q => ?_) (fun q => ?_)
    · replace h := h.1 q
      refine EW_aload_n (pc2 := 321) rfl dX12_work_320 0 rfl ?_
      refine AW_getr (r := 278) ⟨gfRX12_104, rfl⟩ (pc2 := 324) rfl dX12_work_321 q246 rfl ?_
      refine EW_aload_n (pc2 := 325) rfl dX12_work_324 0 rfl ?_
      refine AW_getr (r := 297) ⟨gfRX12_161, rfl⟩ (pc2 := 328) rfl dX12_work_325 q246 rfl ?_
      refine EW_iload_n (pc2 := 329) rfl dX12_work_328 1 rfl ?_
      obtain ⟨b11, h⟩ := h
      refine AW_iald (pc2 := 330) rfl dX12_work_329 q297 b11 ?_
      obtain ⟨b12, h⟩ := h
      refine AW_iald (pc2 := 331) rfl dX12_work_330 q278 b12 ?_
      refine EW_istore_n (pc2 := 332) rfl dX12_work_331 (by decide) [1, 2, 0] [(0, .ref 246), (1, .int v1), (2, .int (x.1 278 (Int32.toNatClampNeg (x.1 297 (Int32.toNatClampNeg v1)))))] rfl ?_
      refine EW_aload_n (pc2 := 333) rfl dX12_work_332 0 rfl ?_
      refine AW_getr (r := 275) ⟨gfRX12_95, rfl⟩ (pc2 := 336) rfl dX12_work_333 q246 rfl ?_
      refine EW_aload_n (pc2 := 337) rfl dX12_work_336 0 rfl ?_
      refine AW_getr (r := 297) ⟨gfRX12_161, rfl⟩ (pc2 := 340) rfl dX12_work_337 q246 rfl ?_
      refine EW_iload_n (pc2 := 341) rfl dX12_work_340 1 rfl ?_
      obtain ⟨b13, h⟩ := h
      refine AW_iald (pc2 := 342) rfl dX12_work_341 q297 b13 ?_
      obtain ⟨b14, h⟩ := h
      refine AW_iald (pc2 := 343) rfl dX12_work_342 q275 b14 ?_
      refine EW_istore_n (pc2 := 344) rfl dX12_work_343 (by decide) [1, 2, 3, 0] [(0, .ref 246), (1, .int v1), (2, .int (x.1 278 (Int32.toNatClampNeg (x.1 297 (Int32.toNatClampNeg v1))))), (3, .int (x.1 275 (Int32.toNatClampNeg (x.1 297 (Int32.toNatClampNeg v1)))))] rfl ?_
      refine EW_aload_n (pc2 := 345) rfl dX12_work_344 0 rfl ?_
      refine AW_getr (r := 295) ⟨gfRX12_155, rfl⟩ (pc2 := 348) rfl dX12_work_345 q246 rfl ?_
      refine EW_iload_n (pc2 := 349) rfl dX12_work_348 1 rfl ?_
      refine EW_iload_n (pc2 := 350) rfl dX12_work_349 2 rfl ?_
      refine EW_iload_n (pc2 := 351) rfl dX12_work_350 3 rfl ?_
      refine EW_icmp_gt (tgt := 363) (pc2 := 354) rfl dX12_work_351 (by decide) (fun q => ?_) (fun q => ?_)
      · replace h := h.1 q
        refine EW_aload_n (pc2 := 364) rfl dX12_work_363 0 rfl ?_
        refine AW_getr (r := 294) ⟨gfRX12_152, rfl⟩ (pc2 := 367) rfl dX12_work_364 q246 rfl ?_
        refine EW_iload_n (pc2 := 368) rfl dX12_work_367 1 rfl ?_
        obtain ⟨b15, h⟩ := h
        refine AW_iald (pc2 := 369) rfl dX12_work_368 q294 b15 ?_
        refine EW_iload_n (pc2 := 370) rfl dX12_work_369 3 rfl ?_
        refine EW_imul (pc2 := 371) rfl dX12_work_370 ?_
        refine EW_iload_n (pc2 := 372) rfl dX12_work_371 2 rfl ?_
        obtain ⟨hz, h⟩ := h
        refine EW_idiv (pc2 := 373) rfl dX12_work_372 hz ?_
        refine EW_ls [0, 1] rfl ?_
        exact sX12_work_373 v1 v1 (((x.1 294 (Int32.toNatClampNeg v1)) * (x.1 275 (Int32.toNatClampNeg (x.1 297 (Int32.toNatClampNeg v1))))) / (x.1 278 (Int32.toNatClampNeg (x.1 297 (Int32.toNatClampNeg v1))))) x K L300 d bc bs hdp hL300 h
      · replace h := h.2 q
        refine EW_aload_n (pc2 := 355) rfl dX12_work_354 0 rfl ?_
        refine AW_getr (r := 294) ⟨gfRX12_152, rfl⟩ (pc2 := 358) rfl dX12_work_355 q246 rfl ?_
        refine EW_iload_n (pc2 := 359) rfl dX12_work_358 1 rfl ?_
        obtain ⟨b16, h⟩ := h
        refine AW_iald (pc2 := 360) rfl dX12_work_359 q294 b16 ?_
        refine EW_goto (tgt := 373) dX12_work_360 (by decide) ?_
        refine EW_ls [0, 1] rfl ?_
        exact sX12_work_373 v1 v1 (x.1 294 (Int32.toNatClampNeg v1)) x K L300 d bc bs hdp hL300 h
    · replace h := h.2 q
      refine EW_goto (tgt := 417) dX12_work_317 (by decide) ?_
      refine EW_iinc (v1 + 1) (pc2 := 420) rfl dX12_work_417 1 rfl rfl (by decide) [1, 0] [(0, .ref 246), (1, .int (v1 + 1))] rfl ?_
      refine EW_goto (tgt := 300) dX12_work_420 (by decide) ?_
      exact hL300 (v1 + 1) x h
set_option maxHeartbeats 4000000 in
set_option maxRecDepth 100000 in
theorem sX12_work_278 (v1 : Int32)  (x : ab_X) (K : ab_X → Prop)  (d bc bs : Nat) (hdp : 211 ≤ d)  (h : Lp2 (lX12_work_278  K ) v1 x) : EW MX12_work 278 [(0, .ref 246), (1, .int v1)] [] (aS x) d bc bs (liV K) := by
  refine Lp2.use (P := fun v1 x => EW MX12_work 278 [(0, .ref 246), (1, .int v1)] [] (aS x) d bc bs (liV K)) (fun L278 v1 x hL278 h => ?_) v1 x h
  unfold lX12_work_278 at h
  refine EW_iload_n (pc2 := 279) rfl dX12_work_278 1 rfl ?_
  refine EW_sipush (pc2 := 282) (v := 288) rfl dX12_work_279 (by decide) ?_
  refine EW_icmp_ge (tgt := 298) (pc2 := 285) rfl dX12_work_282 (by decide) (fun q => ?_) (fun q => ?_)
  · replace h := h.1 q
    refine EW_iconst (pc2 := 299) (v := 0) rfl dX12_work_298 (by decide) ?_
    refine EW_istore_n (pc2 := 300) rfl dX12_work_299 (by decide) [1, 0] [(0, .ref 246), (1, .int 0)] rfl ?_
    exact sX12_work_300 0 x K d bc bs hdp h
  · replace h := h.2 q
    refine EW_aload_n (pc2 := 286) rfl dX12_work_285 0 rfl ?_
    refine AW_getr (r := 268) ⟨gfRX12_74, rfl⟩ (pc2 := 289) rfl dX12_work_286 q246 rfl ?_
    refine EW_iload_n (pc2 := 290) rfl dX12_work_289 1 rfl ?_
    refine EW_iconst (pc2 := 291) (v := 0) rfl dX12_work_290 (by decide) ?_
    obtain ⟨b9, h⟩ := h
    refine AW_iast (pc2 := 292) rfl dX12_work_291 q268 b9 ?_
    refine EW_iinc (v1 + 1) (pc2 := 295) rfl dX12_work_292 1 rfl rfl (by decide) [1, 0] [(0, .ref 246), (1, .int (v1 + 1))] rfl ?_
    refine EW_goto (tgt := 278) dX12_work_295 (by decide) ?_
    exact hL278 (v1 + 1) (wr x 268 (Int32.toNatClampNeg v1) 0) h
set_option maxHeartbeats 4000000 in
set_option maxRecDepth 100000 in
theorem sX12_work_230 (v1 : Int32)  (x : ab_X) (K : ab_X → Prop) (L25 : Int32 → ab_X → Prop) (d bc bs : Nat) (hdp : 211 ≤ d) (hL25 : ∀ (v1 : Int32) (x : ab_X), L25 v1 x → EW MX12_work 25 [(0, .ref 246), (1, .int v1)] [] (aS x) d bc bs (liV K)) (h : wX12_work_230 v1 x K L25) : EW MX12_work 230 [(0, .ref 246), (1, .int v1)] [] (aS x) d bc bs (liV K) := by
  unfold wX12_work_230 at h
  refine EW_aload_n (pc2 := 231) rfl dX12_work_230 0 rfl ?_
  refine AW_getr (r := 268) ⟨gfRX12_74, rfl⟩ (pc2 := 234) rfl dX12_work_231 q246 rfl ?_
  refine EW_aload_n (pc2 := 235) rfl dX12_work_234 0 rfl ?_
  refine AW_getr (r := 296) ⟨gfRX12_158, rfl⟩ (pc2 := 238) rfl dX12_work_235 q246 rfl ?_
  refine EW_iload_n (pc2 := 239) rfl dX12_work_238 1 rfl ?_
  obtain ⟨b42, h⟩ := h
  refine AW_iald (pc2 := 240) rfl dX12_work_239 q296 b42 ?_
  refine EW_dup2 (pc2 := 241) rfl dX12_work_240 rfl rfl ?_
  obtain ⟨b43, h⟩ := h
  refine AW_iald (pc2 := 242) rfl dX12_work_241 q268 b43 ?_
  refine EW_aload_n (pc2 := 243) rfl dX12_work_242 0 rfl ?_
  refine AW_getr (r := 294) ⟨gfRX12_152, rfl⟩ (pc2 := 246) rfl dX12_work_243 q246 rfl ?_
  refine EW_iload_n (pc2 := 247) rfl dX12_work_246 1 rfl ?_
  obtain ⟨b44, h⟩ := h
  refine AW_iald (pc2 := 248) rfl dX12_work_247 q294 b44 ?_
  refine EW_iadd (pc2 := 249) rfl dX12_work_248 ?_
  obtain ⟨b45, h⟩ := h
  refine AW_iast (pc2 := 250) rfl dX12_work_249 q268 b45 ?_
  refine EW_aload_n (pc2 := 251) rfl dX12_work_250 0 rfl ?_
  refine AW_getr (r := 278) ⟨gfRX12_104, rfl⟩ (pc2 := 254) rfl dX12_work_251 q246 rfl ?_
  refine EW_aload_n (pc2 := 255) rfl dX12_work_254 0 rfl ?_
  refine AW_getr (r := 297) ⟨gfRX12_161, rfl⟩ (pc2 := 258) rfl dX12_work_255 q246 rfl ?_
  refine EW_iload_n (pc2 := 259) rfl dX12_work_258 1 rfl ?_
  obtain ⟨b46, h⟩ := h
  refine AW_iald (pc2 := 260) rfl dX12_work_259 q297 b46 ?_
  refine EW_dup2 (pc2 := 261) rfl dX12_work_260 rfl rfl ?_
  obtain ⟨b47, h⟩ := h
  refine AW_iald (pc2 := 262) rfl dX12_work_261 q278 b47 ?_
  refine EW_aload_n (pc2 := 263) rfl dX12_work_262 0 rfl ?_
  refine AW_getr (r := 294) ⟨gfRX12_152, rfl⟩ (pc2 := 266) rfl dX12_work_263 q246 rfl ?_
  refine EW_iload_n (pc2 := 267) rfl dX12_work_266 1 rfl ?_
  obtain ⟨b48, h⟩ := h
  refine AW_iald (pc2 := 268) rfl dX12_work_267 q294 b48 ?_
  refine EW_iadd (pc2 := 269) rfl dX12_work_268 ?_
  obtain ⟨b49, h⟩ := h
  refine AW_iast (pc2 := 270) rfl dX12_work_269 q278 b49 ?_
  refine EW_iinc (v1 + 1) (pc2 := 273) rfl dX12_work_270 1 rfl rfl (by decide) [1, 0] [(0, .ref 246), (1, .int (v1 + 1))] rfl ?_
  refine EW_goto (tgt := 25) dX12_work_273 (by decide) ?_
  exact hL25 (v1 + 1) (wr (wr x 268 (Int32.toNatClampNeg (x.1 296 (Int32.toNatClampNeg v1))) ((x.1 268 (Int32.toNatClampNeg (x.1 296 (Int32.toNatClampNeg v1)))) + (x.1 294 (Int32.toNatClampNeg v1)))) 278 (Int32.toNatClampNeg ((wr x 268 (Int32.toNatClampNeg (x.1 296 (Int32.toNatClampNeg v1))) ((x.1 268 (Int32.toNatClampNeg (x.1 296 (Int32.toNatClampNeg v1)))) + (x.1 294 (Int32.toNatClampNeg v1)))).1 297 (Int32.toNatClampNeg v1))) (((wr x 268 (Int32.toNatClampNeg (x.1 296 (Int32.toNatClampNeg v1))) ((x.1 268 (Int32.toNatClampNeg (x.1 296 (Int32.toNatClampNeg v1)))) + (x.1 294 (Int32.toNatClampNeg v1)))).1 278 (Int32.toNatClampNeg ((wr x 268 (Int32.toNatClampNeg (x.1 296 (Int32.toNatClampNeg v1))) ((x.1 268 (Int32.toNatClampNeg (x.1 296 (Int32.toNatClampNeg v1)))) + (x.1 294 (Int32.toNatClampNeg v1)))).1 297 (Int32.toNatClampNeg v1)))) + ((wr x 268 (Int32.toNatClampNeg (x.1 296 (Int32.toNatClampNeg v1))) ((x.1 268 (Int32.toNatClampNeg (x.1 296 (Int32.toNatClampNeg v1)))) + (x.1 294 (Int32.toNatClampNeg v1)))).1 294 (Int32.toNatClampNeg v1)))) h
set_option maxHeartbeats 4000000 in
set_option maxRecDepth 100000 in
theorem sX12_work_212 (v1 : Int32) (v2 : Int32) (v3 : Int32) (v4 : Int32) (s1 : Int32) (s2 : Int32)  (x : ab_X) (K : ab_X → Prop) (L25 : Int32 → ab_X → Prop) (d bc bs : Nat) (hdp : 211 ≤ d) (hL25 : ∀ (v1 : Int32) (x : ab_X), L25 v1 x → EW MX12_work 25 [(0, .ref 246), (1, .int v1)] [] (aS x) d bc bs (liV K)) (h : wX12_work_212 v1 v2 v3 v4 s1 s2 x K L25) : EW MX12_work 212 [(0, .ref 246), (1, .int v1), (2, .int v2), (3, .int v3), (4, .int v4)] [.int s2, .int s1, .ref 294] (aS x) d bc bs (liV K) := by
  unfold wX12_work_212 at h
  obtain ⟨b39, h⟩ := h
  refine AW_iast (pc2 := 213) rfl dX12_work_212 q294 b39 ?_
  refine EW_iload (pc2 := 215) rfl dX12_work_213 4 rfl ?_
  refine EW_if_ne (tgt := 230) (pc2 := 218) rfl dX12_work_215 (by decide) (fun q => ?_) (fun q => ?_)
  · replace h := h.1 q
    refine EW_ls [0, 1] rfl ?_
    exact sX12_work_230 v1 (wr x 294 (Int32.toNatClampNeg s1) s2) K L25 d bc bs hdp hL25 h
  · replace h := h.2 q
    refine EW_aload_n (pc2 := 219) rfl dX12_work_218 0 rfl ?_
    refine AW_getr (r := 291) ⟨gfRX12_143, rfl⟩ (pc2 := 222) rfl dX12_work_219 q246 rfl ?_
    refine EW_iload_n (pc2 := 223) rfl dX12_work_222 1 rfl ?_
    refine EW_aload_n (pc2 := 224) rfl dX12_work_223 0 rfl ?_
    refine EW_iload_n (pc2 := 225) rfl dX12_work_224 2 rfl ?_
    refine EW_iload_n (pc2 := 226) rfl dX12_work_225 3 rfl ?_
    refine AW_invV (M' := MX12_floorOf) [.int v2, .int v3] (rest := [.int v1, .ref 291]) mlRX12_345 okX12_floorOf (pc2 := 229) rfl dX12_work_226 rfl rfl (Nat.le_of_ble_eq_true rfl) (Nat.le_of_ble_eq_true rfl) (d' := 0) (by omega) q246 ⟨by decide, rfl⟩ (EW_mono (fun _ _ hr => ?_) (sX12_floorOf v2 v3  (wr x 294 (Int32.toNatClampNeg s1) s2) _ _ 0 0 (Nat.le_refl _) h))
    obtain ⟨r40, rfl, rfl, h⟩ := hr
    obtain ⟨b41, h⟩ := h
    refine AW_iast (pc2 := 230) rfl dX12_work_229 q291 b41 ?_
    refine EW_ls [0, 1] rfl ?_
    exact sX12_work_230 v1 (wr (wr x 294 (Int32.toNatClampNeg s1) s2) 291 (Int32.toNatClampNeg v1) r40) K L25 d bc bs hdp hL25 h
set_option maxHeartbeats 4000000 in
set_option maxRecDepth 100000 in
theorem sX12_work_133 (v1 : Int32) (v2 : Int32)  (x : ab_X) (K : ab_X → Prop) (L25 : Int32 → ab_X → Prop) (d bc bs : Nat) (hdp : 211 ≤ d) (hL25 : ∀ (v1 : Int32) (x : ab_X), L25 v1 x → EW MX12_work 25 [(0, .ref 246), (1, .int v1)] [] (aS x) d bc bs (liV K)) (h : wX12_work_133 v1 v2 x K L25) : EW MX12_work 133 [(0, .ref 246), (1, .int v1), (2, .int v2)] [] (aS x) d bc bs (liV K) := by
  unfold wX12_work_133 at h
  refine EW_aload_n (pc2 := 134) rfl dX12_work_133 0 rfl ?_
  refine EW_iload_n (pc2 := 135) rfl dX12_work_134 1 rfl ?_
  refine EW_iload_n (pc2 := 136) rfl dX12_work_135 2 rfl ?_
  refine AW_invV (M' := MX12_roomFor) [.int v1, .int v2] (rest := []) mlRX12_574 okX12_roomFor (pc2 := 139) rfl dX12_work_136 rfl rfl (Nat.le_of_ble_eq_true rfl) (Nat.le_of_ble_eq_true rfl) (d' := 3) (by omega) q246 ⟨by decide, rfl⟩ (EW_mono (fun _ _ hr => ?_) (sX12_roomFor v1 v2  x _ _ 0 0 (Nat.le_refl _) h))
  obtain ⟨r30, rfl, rfl, h⟩ := hr
  refine EW_istore_n (pc2 := 140) rfl dX12_work_139 (by decide) [1, 2, 3, 0] [(0, .ref 246), (1, .int v1), (2, .int v2), (3, .int r30)] rfl ?_
  refine EW_iload_n (pc2 := 141) rfl dX12_work_140 3 rfl ?_
  refine EW_iconst (pc2 := 142) (v := (-1)) rfl dX12_work_141 (by decide) ?_
  refine EW_icmp_ne (tgt := 148) (pc2 := 145) rfl dX12_work_142 (by decide) (fun q => ?_) (fun q => ?_)
  · replace h := h.1 q
    refine EW_aload_n (pc2 := 149) rfl dX12_work_148 0 rfl ?_
    refine EW_iload_n (pc2 := 150) rfl dX12_work_149 1 rfl ?_
    refine EW_iload_n (pc2 := 151) rfl dX12_work_150 2 rfl ?_
    refine EW_iload_n (pc2 := 152) rfl dX12_work_151 3 rfl ?_
    refine AW_invV (M' := MX12_leaves) [.int v1, .int v2, .int r30] (rest := []) mlRX12_577 okX12_leaves (pc2 := 155) rfl dX12_work_152 rfl rfl (Nat.le_of_ble_eq_true rfl) (Nat.le_of_ble_eq_true rfl) (d' := 210) (by omega) q246 ⟨by decide, rfl⟩ (EW_mono (fun _ _ hr => ?_) (sX12_leaves v1 v2 r30  x _ _ 0 0 (Nat.le_refl _) h))
    obtain ⟨r31, x32, rfl, rfl, h⟩ := hr
    refine EW_istore (pc2 := 157) rfl dX12_work_155 (by decide) [1, 2, 3, 4, 0] [(0, .ref 246), (1, .int v1), (2, .int v2), (3, .int r30), (4, .int r31)] rfl ?_
    refine EW_aload_n (pc2 := 158) rfl dX12_work_157 0 rfl ?_
    refine AW_getr (r := 296) ⟨gfRX12_158, rfl⟩ (pc2 := 161) rfl dX12_work_158 q246 rfl ?_
    refine EW_iload_n (pc2 := 162) rfl dX12_work_161 1 rfl ?_
    refine EW_bipush (pc2 := 164) (v := 24) rfl dX12_work_162 (by decide) ?_
    refine EW_iload_n (pc2 := 165) rfl dX12_work_164 2 rfl ?_
    refine EW_imul (pc2 := 166) rfl dX12_work_165 ?_
    refine EW_iload_n (pc2 := 167) rfl dX12_work_166 3 rfl ?_
    refine EW_iadd (pc2 := 168) rfl dX12_work_167 ?_
    obtain ⟨b33, h⟩ := h
    refine AW_iast (pc2 := 169) rfl dX12_work_168 q296 b33 ?_
    refine EW_aload_n (pc2 := 170) rfl dX12_work_169 0 rfl ?_
    refine AW_getr (r := 297) ⟨gfRX12_161, rfl⟩ (pc2 := 173) rfl dX12_work_170 q246 rfl ?_
    refine EW_iload_n (pc2 := 174) rfl dX12_work_173 1 rfl ?_
    refine EW_aload_n (pc2 := 175) rfl dX12_work_174 0 rfl ?_
    refine AW_getr (r := 277) ⟨gfRX12_101, rfl⟩ (pc2 := 178) rfl dX12_work_175 q246 rfl ?_
    refine EW_aload_n (pc2 := 179) rfl dX12_work_178 0 rfl ?_
    refine EW_iload_n (pc2 := 180) rfl dX12_work_179 2 rfl ?_
    refine AW_invV (M' := MX12_headFor) [.int v2] (rest := [.ref 277, .int v1, .ref 297]) mlRX12_408 okX12_headFor (pc2 := 183) rfl dX12_work_180 rfl rfl (Nat.le_of_ble_eq_true rfl) (Nat.le_of_ble_eq_true rfl) (d' := 1) (by omega) q246 ⟨by decide, rfl⟩ (EW_mono (fun _ _ hr => ?_) (sX12_headFor v2  (wr x32 296 (Int32.toNatClampNeg v1) ((24 * v2) + r30)) _ _ 0 0 (Nat.le_refl _) h))
    obtain ⟨r34, rfl, rfl, h⟩ := hr
    obtain ⟨b35, h⟩ := h
    refine AW_iald (pc2 := 184) rfl dX12_work_183 q277 b35 ?_
    obtain ⟨b36, h⟩ := h
    refine AW_iast (pc2 := 185) rfl dX12_work_184 q297 b36 ?_
    refine EW_aload_n (pc2 := 186) rfl dX12_work_185 0 rfl ?_
    refine AW_getr (r := 294) ⟨gfRX12_152, rfl⟩ (pc2 := 189) rfl dX12_work_186 q246 rfl ?_
    refine EW_iload_n (pc2 := 190) rfl dX12_work_189 1 rfl ?_
    refine EW_iload (pc2 := 192) rfl dX12_work_190 4 rfl ?_
    refine EW_if_eq (tgt := 206) (pc2 := 195) rfl dX12_work_192 (by decide) (fun q => ?_) (fun q => ?_)
    · replace h := h.1 q
      refine EW_aload_n (pc2 := 207) rfl dX12_work_206 0 rfl ?_
      refine AW_getr (r := 284) ⟨gfRX12_122, rfl⟩ (pc2 := 210) rfl dX12_work_207 q246 rfl ?_
      refine EW_iload_n (pc2 := 211) rfl dX12_work_210 1 rfl ?_
      obtain ⟨b37, h⟩ := h
      refine AW_iald (pc2 := 212) rfl dX12_work_211 q284 b37 ?_
      exact sX12_work_212 v1 v2 r30 r31 v1 ((wr (wr x32 296 (Int32.toNatClampNeg v1) ((24 * v2) + r30)) 297 (Int32.toNatClampNeg v1) ((wr x32 296 (Int32.toNatClampNeg v1) ((24 * v2) + r30)).1 277 (Int32.toNatClampNeg r34))).1 284 (Int32.toNatClampNeg v1)) (wr (wr x32 296 (Int32.toNatClampNeg v1) ((24 * v2) + r30)) 297 (Int32.toNatClampNeg v1) ((wr x32 296 (Int32.toNatClampNeg v1) ((24 * v2) + r30)).1 277 (Int32.toNatClampNeg r34))) K L25 d bc bs hdp hL25 h
    · replace h := h.2 q
      refine EW_aload_n (pc2 := 196) rfl dX12_work_195 0 rfl ?_
      refine AW_getr (r := 284) ⟨gfRX12_122, rfl⟩ (pc2 := 199) rfl dX12_work_196 q246 rfl ?_
      refine EW_iload_n (pc2 := 200) rfl dX12_work_199 1 rfl ?_
      obtain ⟨b38, h⟩ := h
      refine AW_iald (pc2 := 201) rfl dX12_work_200 q284 b38 ?_
      refine EW_iconst (pc2 := 202) (v := 2) rfl dX12_work_201 (by decide) ?_
      refine EW_idiv (pc2 := 203) rfl dX12_work_202 (by decide) ?_
      refine EW_goto (tgt := 212) dX12_work_203 (by decide) ?_
      exact sX12_work_212 v1 v2 r30 r31 v1 (((wr (wr x32 296 (Int32.toNatClampNeg v1) ((24 * v2) + r30)) 297 (Int32.toNatClampNeg v1) ((wr x32 296 (Int32.toNatClampNeg v1) ((24 * v2) + r30)).1 277 (Int32.toNatClampNeg r34))).1 284 (Int32.toNatClampNeg v1)) / 2) (wr (wr x32 296 (Int32.toNatClampNeg v1) ((24 * v2) + r30)) 297 (Int32.toNatClampNeg v1) ((wr x32 296 (Int32.toNatClampNeg v1) ((24 * v2) + r30)).1 277 (Int32.toNatClampNeg r34))) K L25 d bc bs hdp hL25 h
  · replace h := h.2 q
    refine EW_goto (tgt := 270) dX12_work_145 (by decide) ?_
    refine EW_iinc (v1 + 1) (pc2 := 273) rfl dX12_work_270 1 rfl rfl (by decide) [1, 0, 2, 3] [(0, .ref 246), (1, .int (v1 + 1)), (2, .int v2), (3, .int r30)] rfl ?_
    refine EW_goto (tgt := 25) dX12_work_273 (by decide) ?_
    refine EW_ls [0, 1] rfl ?_
    exact hL25 (v1 + 1) x h
set_option maxHeartbeats 4000000 in
set_option maxRecDepth 100000 in
theorem sX12_work_90 (v1 : Int32) (v2 : Int32)  (x : ab_X) (K : ab_X → Prop) (L25 : Int32 → ab_X → Prop) (d bc bs : Nat) (hdp : 211 ≤ d) (hL25 : ∀ (v1 : Int32) (x : ab_X), L25 v1 x → EW MX12_work 25 [(0, .ref 246), (1, .int v1)] [] (aS x) d bc bs (liV K)) (h : wX12_work_90 v1 v2 x K L25) : EW MX12_work 90 [(0, .ref 246), (1, .int v1), (2, .int v2)] [] (aS x) d bc bs (liV K) := by
  unfold wX12_work_90 at h
  refine EW_aload_n (pc2 := 91) rfl dX12_work_90 0 rfl ?_
  refine AW_getr (r := 279) ⟨gfRX12_107, rfl⟩ (pc2 := 94) rfl dX12_work_91 q246 rfl ?_
  refine EW_iload_n (pc2 := 95) rfl dX12_work_94 1 rfl ?_
  obtain ⟨b26, h⟩ := h
  refine AW_iald (pc2 := 96) rfl dX12_work_95 q279 b26 ?_
  refine EW_iconst (pc2 := 97) (v := 2) rfl dX12_work_96 (by decide) ?_
  refine EW_icmp_ge (tgt := 270) (pc2 := 100) rfl dX12_work_97 (by decide) (fun q => ?_) (fun q => ?_)
  · replace h := h.1 q
    refine EW_iinc (v1 + 1) (pc2 := 273) rfl dX12_work_270 1 rfl rfl (by decide) [1, 0, 2] [(0, .ref 246), (1, .int (v1 + 1)), (2, .int v2)] rfl ?_
    refine EW_goto (tgt := 25) dX12_work_273 (by decide) ?_
    refine EW_ls [0, 1] rfl ?_
    exact hL25 (v1 + 1) x h
  · replace h := h.2 q
    refine EW_aload_n (pc2 := 101) rfl dX12_work_100 0 rfl ?_
    refine AW_getr (r := 279) ⟨gfRX12_107, rfl⟩ (pc2 := 104) rfl dX12_work_101 q246 rfl ?_
    refine EW_iload_n (pc2 := 105) rfl dX12_work_104 1 rfl ?_
    obtain ⟨b27, h⟩ := h
    refine AW_iald (pc2 := 106) rfl dX12_work_105 q279 b27 ?_
    refine EW_iconst (pc2 := 107) (v := 1) rfl dX12_work_106 (by decide) ?_
    refine EW_icmp_ne (tgt := 133) (pc2 := 110) rfl dX12_work_107 (by decide) (fun q => ?_) (fun q => ?_)
    · replace h := h.1 q
      exact sX12_work_133 v1 v2 x K L25 d bc bs hdp hL25 h
    · replace h := h.2 q
      refine EW_aload_n (pc2 := 111) rfl dX12_work_110 0 rfl ?_
      refine AW_geti ⟨gfRX12_395, rfl⟩ (pc2 := 114) rfl dX12_work_111 q246 ?_
      refine EW_aload_n (pc2 := 115) rfl dX12_work_114 0 rfl ?_
      refine AW_getr (r := 293) ⟨gfRX12_149, rfl⟩ (pc2 := 118) rfl dX12_work_115 q246 rfl ?_
      refine EW_iload_n (pc2 := 119) rfl dX12_work_118 1 rfl ?_
      obtain ⟨b28, h⟩ := h
      refine AW_iald (pc2 := 120) rfl dX12_work_119 q293 b28 ?_
      refine EW_isub (pc2 := 121) rfl dX12_work_120 ?_
      refine EW_aload_n (pc2 := 122) rfl dX12_work_121 0 rfl ?_
      refine AW_getr (r := 285) ⟨gfRX12_125, rfl⟩ (pc2 := 125) rfl dX12_work_122 q246 rfl ?_
      refine EW_iload_n (pc2 := 126) rfl dX12_work_125 1 rfl ?_
      obtain ⟨b29, h⟩ := h
      refine AW_iald (pc2 := 127) rfl dX12_work_126 q285 b29 ?_
      refine EW_icmp_ge (tgt := 133) (pc2 := 130) rfl dX12_work_127 (by decide) (fun q => ?_) (fun q => ?_)
      · replace h := h.1 q
        exact sX12_work_133 v1 v2 x K L25 d bc bs hdp hL25 h
      · replace h := h.2 q
        refine EW_goto (tgt := 270) dX12_work_130 (by decide) ?_
        refine EW_iinc (v1 + 1) (pc2 := 273) rfl dX12_work_270 1 rfl rfl (by decide) [1, 0, 2] [(0, .ref 246), (1, .int (v1 + 1)), (2, .int v2)] rfl ?_
        refine EW_goto (tgt := 25) dX12_work_273 (by decide) ?_
        refine EW_ls [0, 1] rfl ?_
        exact hL25 (v1 + 1) x h
set_option maxHeartbeats 4000000 in
set_option maxRecDepth 100000 in
theorem sX12_work_25 (v1 : Int32)  (x : ab_X) (K : ab_X → Prop)  (d bc bs : Nat) (hdp : 211 ≤ d)  (h : Lp2 (lX12_work_25  K ) v1 x) : EW MX12_work 25 [(0, .ref 246), (1, .int v1)] [] (aS x) d bc bs (liV K) := by
  refine Lp2.use (P := fun v1 x => EW MX12_work 25 [(0, .ref 246), (1, .int v1)] [] (aS x) d bc bs (liV K)) (fun L25 v1 x hL25 h => ?_) v1 x h
  unfold lX12_work_25 at h
  refine EW_iload_n (pc2 := 26) rfl dX12_work_25 1 rfl ?_
  refine EW_aload_n (pc2 := 27) rfl dX12_work_26 0 rfl ?_
  refine AW_geti ⟨gfRX12_366, rfl⟩ (pc2 := 30) rfl dX12_work_27 q246 ?_
  refine EW_icmp_ge (tgt := 276) (pc2 := 33) rfl dX12_work_30 (by decide) (fun q => ?_) (fun q => ?_)
  · replace h := h.1 q
    refine EW_iconst (pc2 := 277) (v := 0) rfl dX12_work_276 (by decide) ?_
    refine EW_istore_n (pc2 := 278) rfl dX12_work_277 (by decide) [1, 0] [(0, .ref 246), (1, .int 0)] rfl ?_
    exact sX12_work_278 0 x K d bc bs hdp h
  · replace h := h.2 q
    refine EW_aload_n (pc2 := 34) rfl dX12_work_33 0 rfl ?_
    refine AW_getr (r := 294) ⟨gfRX12_152, rfl⟩ (pc2 := 37) rfl dX12_work_34 q246 rfl ?_
    refine EW_iload_n (pc2 := 38) rfl dX12_work_37 1 rfl ?_
    refine EW_iconst (pc2 := 39) (v := 0) rfl dX12_work_38 (by decide) ?_
    obtain ⟨b2, h⟩ := h
    refine AW_iast (pc2 := 40) rfl dX12_work_39 q294 b2 ?_
    refine EW_aload_n (pc2 := 41) rfl dX12_work_40 0 rfl ?_
    refine AW_getr (r := 295) ⟨gfRX12_155, rfl⟩ (pc2 := 44) rfl dX12_work_41 q246 rfl ?_
    refine EW_iload_n (pc2 := 45) rfl dX12_work_44 1 rfl ?_
    refine EW_iconst (pc2 := 46) (v := 0) rfl dX12_work_45 (by decide) ?_
    obtain ⟨b3, h⟩ := h
    refine AW_iast (pc2 := 47) rfl dX12_work_46 q295 b3 ?_
    refine EW_aload_n (pc2 := 48) rfl dX12_work_47 0 rfl ?_
    refine AW_getr (r := 291) ⟨gfRX12_143, rfl⟩ (pc2 := 51) rfl dX12_work_48 q246 rfl ?_
    refine EW_iload_n (pc2 := 52) rfl dX12_work_51 1 rfl ?_
    refine EW_iconst (pc2 := 53) (v := (-1)) rfl dX12_work_52 (by decide) ?_
    obtain ⟨b4, h⟩ := h
    refine AW_iast (pc2 := 54) rfl dX12_work_53 q291 b4 ?_
    refine EW_aload_n (pc2 := 55) rfl dX12_work_54 0 rfl ?_
    refine AW_getr (r := 286) ⟨gfRX12_128, rfl⟩ (pc2 := 58) rfl dX12_work_55 q246 rfl ?_
    refine EW_iload_n (pc2 := 59) rfl dX12_work_58 1 rfl ?_
    obtain ⟨b5, h⟩ := h
    refine AW_iald (pc2 := 60) rfl dX12_work_59 q286 b5 ?_
    refine EW_iconst (pc2 := 61) (v := 2) rfl dX12_work_60 (by decide) ?_
    refine EW_icmp_eq (tgt := 67) (pc2 := 64) rfl dX12_work_61 (by decide) (fun q => ?_) (fun q => ?_)
    · replace h := h.1 q
      refine EW_aload_n (pc2 := 68) rfl dX12_work_67 0 rfl ?_
      refine AW_getr (r := 290) ⟨gfRX12_140, rfl⟩ (pc2 := 71) rfl dX12_work_68 q246 rfl ?_
      refine EW_iload_n (pc2 := 72) rfl dX12_work_71 1 rfl ?_
      obtain ⟨b6, h⟩ := h
      refine AW_iald (pc2 := 73) rfl dX12_work_72 q290 b6 ?_
      refine EW_istore_n (pc2 := 74) rfl dX12_work_73 (by decide) [1, 2, 0] [(0, .ref 246), (1, .int v1), (2, .int ((wr (wr (wr x 294 (Int32.toNatClampNeg v1) 0) 295 (Int32.toNatClampNeg v1) 0) 291 (Int32.toNatClampNeg v1) (-1)).1 290 (Int32.toNatClampNeg v1)))] rfl ?_
      refine EW_aload_n (pc2 := 75) rfl dX12_work_74 0 rfl ?_
      refine AW_getr (r := 279) ⟨gfRX12_107, rfl⟩ (pc2 := 78) rfl dX12_work_75 q246 rfl ?_
      refine EW_iload_n (pc2 := 79) rfl dX12_work_78 1 rfl ?_
      obtain ⟨b7, h⟩ := h
      refine AW_iald (pc2 := 80) rfl dX12_work_79 q279 b7 ?_
      refine EW_iconst (pc2 := 81) (v := 2) rfl dX12_work_80 (by decide) ?_
      refine EW_icmp_ne (tgt := 90) (pc2 := 84) rfl dX12_work_81 (by decide) (fun q => ?_) (fun q => ?_)
      · replace h := h.1 q
        exact sX12_work_90 v1 ((wr (wr (wr x 294 (Int32.toNatClampNeg v1) 0) 295 (Int32.toNatClampNeg v1) 0) 291 (Int32.toNatClampNeg v1) (-1)).1 290 (Int32.toNatClampNeg v1)) (wr (wr (wr x 294 (Int32.toNatClampNeg v1) 0) 295 (Int32.toNatClampNeg v1) 0) 291 (Int32.toNatClampNeg v1) (-1)) K L25 d bc bs hdp hL25 h
      · replace h := h.2 q
        refine EW_aload_n (pc2 := 85) rfl dX12_work_84 0 rfl ?_
        refine EW_iload_n (pc2 := 86) rfl dX12_work_85 1 rfl ?_
        refine EW_iload_n (pc2 := 87) rfl dX12_work_86 2 rfl ?_
        refine AW_invV (M' := MX12_save) [.int v1, .int ((wr (wr (wr x 294 (Int32.toNatClampNeg v1) 0) 295 (Int32.toNatClampNeg v1) 0) 291 (Int32.toNatClampNeg v1) (-1)).1 290 (Int32.toNatClampNeg v1))] (rest := []) mlRX12_571 okX12_save (pc2 := 90) rfl dX12_work_87 rfl rfl (Nat.le_of_ble_eq_true rfl) (Nat.le_of_ble_eq_true rfl) (d' := 1) (by omega) q246 ⟨by decide, rfl⟩ (EW_mono (fun _ _ hr => ?_) (sX12_save v1 ((wr (wr (wr x 294 (Int32.toNatClampNeg v1) 0) 295 (Int32.toNatClampNeg v1) 0) 291 (Int32.toNatClampNeg v1) (-1)).1 290 (Int32.toNatClampNeg v1))  (wr (wr (wr x 294 (Int32.toNatClampNeg v1) 0) 295 (Int32.toNatClampNeg v1) 0) 291 (Int32.toNatClampNeg v1) (-1)) _ _ 0 0 (Nat.le_refl _) h))
        obtain ⟨x8, rfl, rfl, h⟩ := hr
        exact sX12_work_90 v1 ((wr (wr (wr x 294 (Int32.toNatClampNeg v1) 0) 295 (Int32.toNatClampNeg v1) 0) 291 (Int32.toNatClampNeg v1) (-1)).1 290 (Int32.toNatClampNeg v1)) x8 K L25 d bc bs hdp hL25 h
    · replace h := h.2 q
      refine EW_goto (tgt := 270) dX12_work_64 (by decide) ?_
      refine EW_iinc (v1 + 1) (pc2 := 273) rfl dX12_work_270 1 rfl rfl (by decide) [1, 0] [(0, .ref 246), (1, .int (v1 + 1))] rfl ?_
      refine EW_goto (tgt := 25) dX12_work_273 (by decide) ?_
      exact hL25 (v1 + 1) (wr (wr (wr x 294 (Int32.toNatClampNeg v1) 0) 295 (Int32.toNatClampNeg v1) 0) 291 (Int32.toNatClampNeg v1) (-1)) h
set_option maxHeartbeats 4000000 in
set_option maxRecDepth 100000 in
theorem sX12_work_2 (v1 : Int32)  (x : ab_X) (K : ab_X → Prop)  (d bc bs : Nat) (hdp : 211 ≤ d)  (h : Lp2 (lX12_work_2  K ) v1 x) : EW MX12_work 2 [(0, .ref 246), (1, .int v1)] [] (aS x) d bc bs (liV K) := by
  refine Lp2.use (P := fun v1 x => EW MX12_work 2 [(0, .ref 246), (1, .int v1)] [] (aS x) d bc bs (liV K)) (fun L2 v1 x hL2 h => ?_) v1 x h
  unfold lX12_work_2 at h
  refine EW_iload_n (pc2 := 3) rfl dX12_work_2 1 rfl ?_
  refine EW_aload_n (pc2 := 4) rfl dX12_work_3 0 rfl ?_
  refine AW_geti ⟨gfRX12_386, rfl⟩ (pc2 := 7) rfl dX12_work_4 q246 ?_
  refine EW_icmp_ge (tgt := 23) (pc2 := 10) rfl dX12_work_7 (by decide) (fun q => ?_) (fun q => ?_)
  · replace h := h.1 q
    refine EW_iconst (pc2 := 24) (v := 0) rfl dX12_work_23 (by decide) ?_
    refine EW_istore_n (pc2 := 25) rfl dX12_work_24 (by decide) [1, 0] [(0, .ref 246), (1, .int 0)] rfl ?_
    exact sX12_work_25 0 x K d bc bs hdp h
  · replace h := h.2 q
    refine EW_aload_n (pc2 := 11) rfl dX12_work_10 0 rfl ?_
    refine AW_getr (r := 278) ⟨gfRX12_104, rfl⟩ (pc2 := 14) rfl dX12_work_11 q246 rfl ?_
    refine EW_iload_n (pc2 := 15) rfl dX12_work_14 1 rfl ?_
    refine EW_iconst (pc2 := 16) (v := 0) rfl dX12_work_15 (by decide) ?_
    obtain ⟨b1, h⟩ := h
    refine AW_iast (pc2 := 17) rfl dX12_work_16 q278 b1 ?_
    refine EW_iinc (v1 + 1) (pc2 := 20) rfl dX12_work_17 1 rfl rfl (by decide) [1, 0] [(0, .ref 246), (1, .int (v1 + 1))] rfl ?_
    refine EW_goto (tgt := 2) dX12_work_20 (by decide) ?_
    exact hL2 (v1 + 1) (wr x 278 (Int32.toNatClampNeg v1) 0) h
set_option maxHeartbeats 4000000 in
set_option maxRecDepth 100000 in
theorem sX12_work   (x : ab_X) (K : ab_X → Prop) (d bc bs : Nat) (hdp : 211 ≤ d) (h : wX12_work  x K) : EW MX12_work 0 [(0, .ref 246)] [] (aS x) d bc bs (liV K) := by
  unfold wX12_work at h
  refine EW_iconst (pc2 := 1) (v := 0) rfl dX12_work_0 (by decide) ?_
  refine EW_istore_n (pc2 := 2) rfl dX12_work_1 (by decide) [1, 0] [(0, .ref 246), (1, .int 0)] rfl ?_
  exact sX12_work_2 0 x K d bc bs hdp h
