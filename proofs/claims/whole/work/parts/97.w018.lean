theorem gfRX12_41 : ab_L RX12 41 12 13 := ⟨by decide, by decide, ab_in 1862 (by decide +kernel) (by decide +kernel)⟩
abbrev MX12_floorOf : ab_M := (yX12_floorOf, cX12_floorOf, 3, (some .int))
theorem dX12_floorOf_0 : decode cX12_floorOf 0 = .ok (.iload_n 2, 1) := by decide +kernel
theorem dX12_floorOf_1 : decode cX12_floorOf 1 = .ok (.aload_n 0, 1) := by decide +kernel
theorem dX12_floorOf_2 : decode cX12_floorOf 2 = .ok (.getfield 41, 3) := by decide +kernel
theorem dX12_floorOf_5 : decode cX12_floorOf 5 = .ok (.iload_n 1, 1) := by decide +kernel
theorem dX12_floorOf_6 : decode cX12_floorOf 6 = .ok (.iaload, 1) := by decide +kernel
theorem dX12_floorOf_7 : decode cX12_floorOf 7 = .ok (.idiv, 1) := by decide +kernel
theorem dX12_floorOf_8 : decode cX12_floorOf 8 = .ok (.ireturn, 1) := by decide +kernel
theorem okX12_floorOf : ab_okM MX12_floorOf 2 := ⟨by decide, ⟨by decide, by decide⟩, ab_in 2303 (by decide +kernel) (by decide +kernel), ab_in 99 (by decide +kernel) (by decide +kernel), by decide +kernel, by decide⟩
set_option maxHeartbeats 4000000 in
set_option maxRecDepth 100000 in
theorem sX12_floorOf (v1 : Int32) (v2 : Int32)  (x : ab_X) (K : Int32 → Prop) (d bc bs : Nat) (hdp : 0 ≤ d) (h : wX12_floorOf v1 v2 x K) : EW MX12_floorOf 0 [(0, .ref 246), (1, .int v1), (2, .int v2)] [] (aS x) d bc bs (liP x K) := by
  unfold wX12_floorOf at h
  refine EW_iload_n (pc2 := 1) rfl dX12_floorOf_0 2 rfl ?_
  refine EW_aload_n (pc2 := 2) rfl dX12_floorOf_1 0 rfl ?_
  refine AW_getr (r := 257) ⟨gfRX12_41, rfl⟩ (pc2 := 5) rfl dX12_floorOf_2 q246 rfl ?_
  refine EW_iload_n (pc2 := 6) rfl dX12_floorOf_5 1 rfl ?_
  obtain ⟨b1, h⟩ := h
  refine AW_iald (pc2 := 7) rfl dX12_floorOf_6 q257 b1 ?_
  obtain ⟨hz, h⟩ := h
  refine EW_idiv (pc2 := 8) rfl dX12_floorOf_7 hz ?_
  exact AW_iret rfl dX12_floorOf_8 ⟨_, rfl, rfl, h⟩
theorem gfRX12_68 : ab_L RX12 68 12 22 := ⟨by decide, by decide, ab_in 1871 (by decide +kernel) (by decide +kernel)⟩
theorem gfRX12_71 : ab_L RX12 71 12 23 := ⟨by decide, by decide, ab_in 1872 (by decide +kernel) (by decide +kernel)⟩
theorem gfRX12_92 : ab_L RX12 92 12 30 := ⟨by decide, by decide, ab_in 1879 (by decide +kernel) (by decide +kernel)⟩
theorem mlRX12_345 : Cond.methodLink RX12 345 yX12_floorOf ∈ ab_G ∧ Cond.instanceMethod yX12_floorOf ∈ ab_G ∧ Cond.selects RX12 yX12_floorOf yX12_floorOf ∈ ab_G := ⟨ab_in 2300 (by decide +kernel) (by decide +kernel), ab_in 2302 (by decide +kernel) (by decide +kernel), ab_in 24 (by decide +kernel) (by decide +kernel)⟩
abbrev MX12_burns : ab_M := (yX12_burns, cX12_burns, 4, (some .boolean))
theorem dX12_burns_0 : decode cX12_burns 0 = .ok (.bipush 24, 2) := by decide +kernel
theorem dX12_burns_2 : decode cX12_burns 2 = .ok (.iload_n 1, 1) := by decide +kernel
theorem dX12_burns_3 : decode cX12_burns 3 = .ok (.imul, 1) := by decide +kernel
theorem dX12_burns_4 : decode cX12_burns 4 = .ok (.iload_n 2, 1) := by decide +kernel
theorem dX12_burns_5 : decode cX12_burns 5 = .ok (.iadd, 1) := by decide +kernel
theorem dX12_burns_6 : decode cX12_burns 6 = .ok (.istore_n 3, 1) := by decide +kernel
theorem dX12_burns_7 : decode cX12_burns 7 = .ok (.aload_n 0, 1) := by decide +kernel
theorem dX12_burns_8 : decode cX12_burns 8 = .ok (.getfield 68, 3) := by decide +kernel
theorem dX12_burns_11 : decode cX12_burns 11 = .ok (.iload_n 3, 1) := by decide +kernel
theorem dX12_burns_12 : decode cX12_burns 12 = .ok (.iaload, 1) := by decide +kernel
theorem dX12_burns_13 : decode cX12_burns 13 = .ok (.sipush 300, 3) := by decide +kernel
theorem dX12_burns_16 : decode cX12_burns 16 = .ok (.if_icmp .lt 35, 3) := by decide +kernel
theorem dX12_burns_19 : decode cX12_burns 19 = .ok (.aload_n 0, 1) := by decide +kernel
theorem dX12_burns_20 : decode cX12_burns 20 = .ok (.getfield 71, 3) := by decide +kernel
theorem dX12_burns_23 : decode cX12_burns 23 = .ok (.iload_n 3, 1) := by decide +kernel
theorem dX12_burns_24 : decode cX12_burns 24 = .ok (.iaload, 1) := by decide +kernel
theorem dX12_burns_25 : decode cX12_burns 25 = .ok (.ifCond .le 26, 3) := by decide +kernel
theorem dX12_burns_28 : decode cX12_burns 28 = .ok (.aload_n 0, 1) := by decide +kernel
theorem dX12_burns_29 : decode cX12_burns 29 = .ok (.getfield 92, 3) := by decide +kernel
theorem dX12_burns_32 : decode cX12_burns 32 = .ok (.bipush 6, 2) := by decide +kernel
theorem dX12_burns_34 : decode cX12_burns 34 = .ok (.iload_n 1, 1) := by decide +kernel
theorem dX12_burns_35 : decode cX12_burns 35 = .ok (.imul, 1) := by decide +kernel
theorem dX12_burns_36 : decode cX12_burns 36 = .ok (.aload_n 0, 1) := by decide +kernel
theorem dX12_burns_37 : decode cX12_burns 37 = .ok (.iload_n 1, 1) := by decide +kernel
theorem dX12_burns_38 : decode cX12_burns 38 = .ok (.iload_n 2, 1) := by decide +kernel
theorem dX12_burns_39 : decode cX12_burns 39 = .ok (.invokevirtual 345, 3) := by decide +kernel
theorem dX12_burns_42 : decode cX12_burns 42 = .ok (.iadd, 1) := by decide +kernel
theorem dX12_burns_43 : decode cX12_burns 43 = .ok (.baload, 1) := by decide +kernel
theorem dX12_burns_44 : decode cX12_burns 44 = .ok (.ifCond .ne 7, 3) := by decide +kernel
theorem dX12_burns_47 : decode cX12_burns 47 = .ok (.iconst 1, 1) := by decide +kernel
theorem dX12_burns_48 : decode cX12_burns 48 = .ok (.goto 4, 3) := by decide +kernel
theorem dX12_burns_51 : decode cX12_burns 51 = .ok (.iconst 0, 1) := by decide +kernel
theorem dX12_burns_52 : decode cX12_burns 52 = .ok (.ireturn, 1) := by decide +kernel
theorem okX12_burns : ab_okM MX12_burns 2 := ⟨by decide, ⟨by decide, by decide⟩, ab_in 2299 (by decide +kernel) (by decide +kernel), ab_in 99 (by decide +kernel) (by decide +kernel), by decide +kernel, by decide⟩
set_option maxHeartbeats 4000000 in
set_option maxRecDepth 100000 in
theorem sX12_burns (v1 : Int32) (v2 : Int32)  (x : ab_X) (K : Int32 → Prop) (d bc bs : Nat) (hdp : 1 ≤ d) (h : wX12_burns v1 v2 x K) : EW MX12_burns 0 [(0, .ref 246), (1, .int v1), (2, .int v2)] [] (aS x) d bc bs (liP x K) := by
  unfold wX12_burns at h
  refine EW_bipush (pc2 := 2) (v := 24) rfl dX12_burns_0 (by decide) ?_
  refine EW_iload_n (pc2 := 3) rfl dX12_burns_2 1 rfl ?_
  refine EW_imul (pc2 := 4) rfl dX12_burns_3 ?_
  refine EW_iload_n (pc2 := 5) rfl dX12_burns_4 2 rfl ?_
  refine EW_iadd (pc2 := 6) rfl dX12_burns_5 ?_
  refine EW_istore_n (pc2 := 7) rfl dX12_burns_6 (by decide) [1, 2, 3, 0] [(0, .ref 246), (1, .int v1), (2, .int v2), (3, .int ((24 * v1) + v2))] rfl ?_
  refine EW_aload_n (pc2 := 8) rfl dX12_burns_7 0 rfl ?_
  refine AW_getr (r := 266) ⟨gfRX12_68, rfl⟩ (pc2 := 11) rfl dX12_burns_8 q246 rfl ?_
  refine EW_iload_n (pc2 := 12) rfl dX12_burns_11 3 rfl ?_
  obtain ⟨b1, h⟩ := h
  refine AW_iald (pc2 := 13) rfl dX12_burns_12 q266 b1 ?_
  refine EW_sipush (pc2 := 16) (v := 300) rfl dX12_burns_13 (by decide) ?_
  refine EW_icmp_lt (tgt := 51) (pc2 := 19) rfl dX12_burns_16 (by decide) (fun q => ?_) (fun q => ?_)
  · replace h := h.1 q
    refine EW_iconst (pc2 := 52) (v := 0) rfl dX12_burns_51 (by decide) ?_
    exact AW_zret rfl isB0 dX12_burns_52 ⟨_, rfl, rfl, h⟩
  · replace h := h.2 q
    refine EW_aload_n (pc2 := 20) rfl dX12_burns_19 0 rfl ?_
    refine AW_getr (r := 267) ⟨gfRX12_71, rfl⟩ (pc2 := 23) rfl dX12_burns_20 q246 rfl ?_
    refine EW_iload_n (pc2 := 24) rfl dX12_burns_23 3 rfl ?_
    obtain ⟨b2, h⟩ := h
    refine AW_iald (pc2 := 25) rfl dX12_burns_24 q267 b2 ?_
    refine EW_if_le (tgt := 51) (pc2 := 28) rfl dX12_burns_25 (by decide) (fun q => ?_) (fun q => ?_)
    · replace h := h.1 q
      refine EW_iconst (pc2 := 52) (v := 0) rfl dX12_burns_51 (by decide) ?_
      exact AW_zret rfl isB0 dX12_burns_52 ⟨_, rfl, rfl, h⟩
    · replace h := h.2 q
      refine EW_aload_n (pc2 := 29) rfl dX12_burns_28 0 rfl ?_
      refine AW_getr (r := 274) ⟨gfRX12_92, rfl⟩ (pc2 := 32) rfl dX12_burns_29 q246 rfl ?_
      refine EW_bipush (pc2 := 34) (v := 6) rfl dX12_burns_32 (by decide) ?_
      refine EW_iload_n (pc2 := 35) rfl dX12_burns_34 1 rfl ?_
      refine EW_imul (pc2 := 36) rfl dX12_burns_35 ?_
      refine EW_aload_n (pc2 := 37) rfl dX12_burns_36 0 rfl ?_
      refine EW_iload_n (pc2 := 38) rfl dX12_burns_37 1 rfl ?_
      refine EW_iload_n (pc2 := 39) rfl dX12_burns_38 2 rfl ?_
      refine AW_invV (M' := MX12_floorOf) [.int v1, .int v2] (rest := [.int (6 * v1), .ref 274]) mlRX12_345 okX12_floorOf (pc2 := 42) rfl dX12_burns_39 rfl rfl (Nat.le_of_ble_eq_true rfl) (Nat.le_of_ble_eq_true rfl) (d' := 0) (by omega) q246 ⟨by decide, rfl⟩ (EW_mono (fun _ _ hr => ?_) (sX12_floorOf v1 v2  x _ _ 0 0 (Nat.le_refl _) h))
      obtain ⟨r3, rfl, rfl, h⟩ := hr
      refine EW_iadd (pc2 := 43) rfl dX12_burns_42 ?_
      obtain ⟨b4, h⟩ := h
      refine AW_zald (pc2 := 44) rfl dX12_burns_43 q274 b4 ?_
      refine EW_if_ne (tgt := 51) (pc2 := 47) rfl dX12_burns_44 (by decide) (fun q => ?_) (fun q => ?_)
      · replace h := h.1 q
        refine EW_iconst (pc2 := 52) (v := 0) rfl dX12_burns_51 (by decide) ?_
        exact AW_zret rfl isB0 dX12_burns_52 ⟨_, rfl, rfl, h⟩
      · replace h := h.2 q
        refine EW_iconst (pc2 := 48) (v := 1) rfl dX12_burns_47 (by decide) ?_
        refine EW_goto (tgt := 52) dX12_burns_48 (by decide) ?_
        exact AW_zret rfl isB1 dX12_burns_52 ⟨_, rfl, rfl, h⟩
theorem mlRX12_348 : Cond.methodLink RX12 348 yX12_burns ∈ ab_G ∧ Cond.instanceMethod yX12_burns ∈ ab_G ∧ Cond.selects RX12 yX12_burns yX12_burns ∈ ab_G := ⟨ab_in 2296 (by decide +kernel) (by decide +kernel), ab_in 2298 (by decide +kernel) (by decide +kernel), ab_in 23 (by decide +kernel) (by decide +kernel)⟩
abbrev MX12_burning : ab_M := (yX12_burning, cX12_burning, 4, (some .int))
theorem dX12_burning_0 : decode cX12_burning 0 = .ok (.iconst 0, 1) := by decide +kernel
theorem dX12_burning_1 : decode cX12_burning 1 = .ok (.istore_n 2, 1) := by decide +kernel
theorem dX12_burning_2 : decode cX12_burning 2 = .ok (.iconst 0, 1) := by decide +kernel
theorem dX12_burning_3 : decode cX12_burning 3 = .ok (.istore_n 3, 1) := by decide +kernel
theorem dX12_burning_4 : decode cX12_burning 4 = .ok (.iload_n 3, 1) := by decide +kernel
theorem dX12_burning_5 : decode cX12_burning 5 = .ok (.aload_n 0, 1) := by decide +kernel
theorem dX12_burning_6 : decode cX12_burning 6 = .ok (.getfield 38, 3) := by decide +kernel
theorem dX12_burning_9 : decode cX12_burning 9 = .ok (.iload_n 1, 1) := by decide +kernel
theorem dX12_burning_10 : decode cX12_burning 10 = .ok (.iaload, 1) := by decide +kernel
theorem dX12_burning_11 : decode cX12_burning 11 = .ok (.aload_n 0, 1) := by decide +kernel
theorem dX12_burning_12 : decode cX12_burning 12 = .ok (.getfield 41, 3) := by decide +kernel
theorem dX12_burning_15 : decode cX12_burning 15 = .ok (.iload_n 1, 1) := by decide +kernel
theorem dX12_burning_16 : decode cX12_burning 16 = .ok (.iaload, 1) := by decide +kernel
theorem dX12_burning_17 : decode cX12_burning 17 = .ok (.imul, 1) := by decide +kernel
theorem dX12_burning_18 : decode cX12_burning 18 = .ok (.if_icmp .ge 26, 3) := by decide +kernel
theorem dX12_burning_21 : decode cX12_burning 21 = .ok (.iload_n 2, 1) := by decide +kernel
theorem dX12_burning_22 : decode cX12_burning 22 = .ok (.aload_n 0, 1) := by decide +kernel
theorem dX12_burning_23 : decode cX12_burning 23 = .ok (.iload_n 1, 1) := by decide +kernel
theorem dX12_burning_24 : decode cX12_burning 24 = .ok (.iload_n 3, 1) := by decide +kernel
theorem dX12_burning_25 : decode cX12_burning 25 = .ok (.invokevirtual 348, 3) := by decide +kernel
theorem dX12_burning_28 : decode cX12_burning 28 = .ok (.ifCond .eq 7, 3) := by decide +kernel
theorem dX12_burning_31 : decode cX12_burning 31 = .ok (.iconst 1, 1) := by decide +kernel
theorem dX12_burning_32 : decode cX12_burning 32 = .ok (.goto 4, 3) := by decide +kernel
theorem dX12_burning_35 : decode cX12_burning 35 = .ok (.iconst 0, 1) := by decide +kernel
theorem dX12_burning_36 : decode cX12_burning 36 = .ok (.iadd, 1) := by decide +kernel
theorem dX12_burning_37 : decode cX12_burning 37 = .ok (.istore_n 2, 1) := by decide +kernel
theorem dX12_burning_38 : decode cX12_burning 38 = .ok (.iinc 3 1, 3) := by decide +kernel
theorem dX12_burning_41 : decode cX12_burning 41 = .ok (.goto (-37), 3) := by decide +kernel
theorem dX12_burning_44 : decode cX12_burning 44 = .ok (.iload_n 2, 1) := by decide +kernel
theorem dX12_burning_45 : decode cX12_burning 45 = .ok (.ireturn, 1) := by decide +kernel
theorem okX12_burning : ab_okM MX12_burning 1 := ⟨by decide, ⟨by decide, by decide⟩, ab_in 2295 (by decide +kernel) (by decide +kernel), ab_in 99 (by decide +kernel) (by decide +kernel), by decide +kernel, by decide⟩
set_option maxHeartbeats 4000000 in
set_option maxRecDepth 100000 in
theorem sX12_burning_36 (v1 : Int32) (v3 : Int32) (s0 : Int32) (s1 : Int32)  (x : ab_X) (K : Int32 → Prop) (L4 : Int32 → Int32 → Prop) (d bc bs : Nat) (hdp : 2 ≤ d) (hL4 : ∀ (v2 : Int32) (v3 : Int32), L4 v2 v3 → EW MX12_burning 4 [(0, .ref 246), (1, .int v1), (2, .int v2), (3, .int v3)] [] (aS x) d bc bs (liP x K)) (h : wX12_burning_36 v1 v3 s0 s1 x K L4) : EW MX12_burning 36 [(0, .ref 246), (1, .int v1), (3, .int v3)] [.int s1, .int s0] (aS x) d bc bs (liP x K) := by
  unfold wX12_burning_36 at h
  refine EW_iadd (pc2 := 37) rfl dX12_burning_36 ?_
  refine EW_istore_n (pc2 := 38) rfl dX12_burning_37 (by decide) [1, 2, 0, 3] [(0, .ref 246), (1, .int v1), (2, .int (s0 + s1)), (3, .int v3)] rfl ?_
  refine EW_iinc (v3 + 1) (pc2 := 41) rfl dX12_burning_38 3 rfl rfl (by decide) [1, 2, 3, 0] [(0, .ref 246), (1, .int v1), (2, .int (s0 + s1)), (3, .int (v3 + 1))] rfl ?_
  refine EW_goto (tgt := 4) dX12_burning_41 (by decide) ?_
  exact hL4 (s0 + s1) (v3 + 1) h
set_option maxHeartbeats 4000000 in
set_option maxRecDepth 100000 in
theorem sX12_burning_4 (v1 : Int32) (v2 : Int32) (v3 : Int32)  (x : ab_X) (K : Int32 → Prop)  (d bc bs : Nat) (hdp : 2 ≤ d)  (h : Lp2 (lX12_burning_4 v1 x K ) v2 v3) : EW MX12_burning 4 [(0, .ref 246), (1, .int v1), (2, .int v2), (3, .int v3)] [] (aS x) d bc bs (liP x K) := by
  refine Lp2.use (P := fun v2 v3 => EW MX12_burning 4 [(0, .ref 246), (1, .int v1), (2, .int v2), (3, .int v3)] [] (aS x) d bc bs (liP x K)) (fun L4 v2 v3 hL4 h => ?_) v2 v3 h
  unfold lX12_burning_4 at h
  refine EW_iload_n (pc2 := 5) rfl dX12_burning_4 3 rfl ?_
  refine EW_aload_n (pc2 := 6) rfl dX12_burning_5 0 rfl ?_
  refine AW_getr (r := 256) ⟨gfRX12_38, rfl⟩ (pc2 := 9) rfl dX12_burning_6 q246 rfl ?_
  refine EW_iload_n (pc2 := 10) rfl dX12_burning_9 1 rfl ?_
  obtain ⟨b1, h⟩ := h
  refine AW_iald (pc2 := 11) rfl dX12_burning_10 q256 b1 ?_
  refine EW_aload_n (pc2 := 12) rfl dX12_burning_11 0 rfl ?_
  refine AW_getr (r := 257) ⟨gfRX12_41, rfl⟩ (pc2 := 15) rfl dX12_burning_12 q246 rfl ?_
  refine EW_iload_n (pc2 := 16) rfl dX12_burning_15 1 rfl ?_
  obtain ⟨b2, h⟩ := h
  refine AW_iald (pc2 := 17) rfl dX12_burning_16 q257 b2 ?_
  refine EW_imul (pc2 := 18) rfl dX12_burning_17 ?_
  refine EW_icmp_ge (tgt := 44) (pc2 := 21) rfl dX12_burning_18 (by decide) (fun q => ?_) (fun q => ?_)
  · replace h := h.1 q
    refine EW_iload_n (pc2 := 45) rfl dX12_burning_44 2 rfl ?_
    exact AW_iret rfl dX12_burning_45 ⟨_, rfl, rfl, h⟩
  · replace h := h.2 q
    refine EW_iload_n (pc2 := 22) rfl dX12_burning_21 2 rfl ?_
    refine EW_aload_n (pc2 := 23) rfl dX12_burning_22 0 rfl ?_
    refine EW_iload_n (pc2 := 24) rfl dX12_burning_23 1 rfl ?_
    refine EW_iload_n (pc2 := 25) rfl dX12_burning_24 3 rfl ?_
    refine AW_invV (M' := MX12_burns) [.int v1, .int v3] (rest := [.int v2]) mlRX12_348 okX12_burns (pc2 := 28) rfl dX12_burning_25 rfl rfl (Nat.le_of_ble_eq_true rfl) (Nat.le_of_ble_eq_true rfl) (d' := 1) (by omega) q246 ⟨by decide, rfl⟩ (EW_mono (fun _ _ hr => ?_) (sX12_burns v1 v3  x _ _ 0 0 (Nat.le_refl _) h))
    obtain ⟨r3, rfl, rfl, h⟩ := hr
    refine EW_if_eq (tgt := 35) (pc2 := 31) rfl dX12_burning_28 (by decide) (fun q => ?_) (fun q => ?_)
    · replace h := h.1 q
      refine EW_iconst (pc2 := 36) (v := 0) rfl dX12_burning_35 (by decide) ?_
      refine EW_ls [0, 1, 3] rfl ?_
      exact sX12_burning_36 v1 v3 v2 0 x K L4 d bc bs hdp hL4 h
    · replace h := h.2 q
      refine EW_iconst (pc2 := 32) (v := 1) rfl dX12_burning_31 (by decide) ?_
      refine EW_goto (tgt := 36) dX12_burning_32 (by decide) ?_
      refine EW_ls [0, 1, 3] rfl ?_
      exact sX12_burning_36 v1 v3 v2 1 x K L4 d bc bs hdp hL4 h
set_option maxHeartbeats 4000000 in
set_option maxRecDepth 100000 in
theorem sX12_burning (v1 : Int32)  (x : ab_X) (K : Int32 → Prop) (d bc bs : Nat) (hdp : 2 ≤ d) (h : wX12_burning v1 x K) : EW MX12_burning 0 [(0, .ref 246), (1, .int v1)] [] (aS x) d bc bs (liP x K) := by
  unfold wX12_burning at h
  refine EW_iconst (pc2 := 1) (v := 0) rfl dX12_burning_0 (by decide) ?_
  refine EW_istore_n (pc2 := 2) rfl dX12_burning_1 (by decide) [1, 2, 0] [(0, .ref 246), (1, .int v1), (2, .int 0)] rfl ?_
  refine EW_iconst (pc2 := 3) (v := 0) rfl dX12_burning_2 (by decide) ?_
  refine EW_istore_n (pc2 := 4) rfl dX12_burning_3 (by decide) [1, 2, 3, 0] [(0, .ref 246), (1, .int v1), (2, .int 0), (3, .int 0)] rfl ?_
  exact sX12_burning_4 v1 0 0 x K d bc bs hdp h
theorem mlRX12_351 : Cond.methodLink RX12 351 yX12_burning ∈ ab_G ∧ Cond.instanceMethod yX12_burning ∈ ab_G ∧ Cond.selects RX12 yX12_burning yX12_burning ∈ ab_G := ⟨ab_in 2292 (by decide +kernel) (by decide +kernel), ab_in 2294 (by decide +kernel) (by decide +kernel), ab_in 22 (by decide +kernel) (by decide +kernel)⟩
abbrev MX12_worstAt : ab_M := (yX12_worstAt, cX12_worstAt, 4, (some .int))
theorem dX12_worstAt_0 : decode cX12_worstAt 0 = .ok (.iconst (-1), 1) := by decide +kernel
theorem dX12_worstAt_1 : decode cX12_worstAt 1 = .ok (.istore_n 2, 1) := by decide +kernel
theorem dX12_worstAt_2 : decode cX12_worstAt 2 = .ok (.iconst 0, 1) := by decide +kernel
theorem dX12_worstAt_3 : decode cX12_worstAt 3 = .ok (.istore_n 3, 1) := by decide +kernel
theorem dX12_worstAt_4 : decode cX12_worstAt 4 = .ok (.iload_n 3, 1) := by decide +kernel
theorem dX12_worstAt_5 : decode cX12_worstAt 5 = .ok (.aload_n 0, 1) := by decide +kernel
theorem dX12_worstAt_6 : decode cX12_worstAt 6 = .ok (.getfield 331, 3) := by decide +kernel
theorem dX12_worstAt_9 : decode cX12_worstAt 9 = .ok (.if_icmp .ge 43, 3) := by decide +kernel
theorem dX12_worstAt_12 : decode cX12_worstAt 12 = .ok (.aload_n 0, 1) := by decide +kernel
theorem dX12_worstAt_13 : decode cX12_worstAt 13 = .ok (.getfield 32, 3) := by decide +kernel
theorem dX12_worstAt_16 : decode cX12_worstAt 16 = .ok (.iload_n 3, 1) := by decide +kernel
theorem dX12_worstAt_17 : decode cX12_worstAt 17 = .ok (.iaload, 1) := by decide +kernel
theorem dX12_worstAt_18 : decode cX12_worstAt 18 = .ok (.iload_n 1, 1) := by decide +kernel
theorem dX12_worstAt_19 : decode cX12_worstAt 19 = .ok (.if_icmp .ne 27, 3) := by decide +kernel
theorem dX12_worstAt_22 : decode cX12_worstAt 22 = .ok (.aload_n 0, 1) := by decide +kernel
theorem dX12_worstAt_23 : decode cX12_worstAt 23 = .ok (.iload_n 3, 1) := by decide +kernel
theorem dX12_worstAt_24 : decode cX12_worstAt 24 = .ok (.invokevirtual 351, 3) := by decide +kernel
theorem dX12_worstAt_27 : decode cX12_worstAt 27 = .ok (.iload_n 2, 1) := by decide +kernel
theorem dX12_worstAt_28 : decode cX12_worstAt 28 = .ok (.iconst (-1), 1) := by decide +kernel
theorem dX12_worstAt_29 : decode cX12_worstAt 29 = .ok (.if_icmp .ne 7, 3) := by decide +kernel
theorem dX12_worstAt_32 : decode cX12_worstAt 32 = .ok (.iconst 0, 1) := by decide +kernel
theorem dX12_worstAt_33 : decode cX12_worstAt 33 = .ok (.goto 8, 3) := by decide +kernel
theorem dX12_worstAt_36 : decode cX12_worstAt 36 = .ok (.aload_n 0, 1) := by decide +kernel
theorem dX12_worstAt_37 : decode cX12_worstAt 37 = .ok (.iload_n 2, 1) := by decide +kernel
theorem dX12_worstAt_38 : decode cX12_worstAt 38 = .ok (.invokevirtual 351, 3) := by decide +kernel
theorem dX12_worstAt_41 : decode cX12_worstAt 41 = .ok (.if_icmp .le 5, 3) := by decide +kernel
theorem dX12_worstAt_44 : decode cX12_worstAt 44 = .ok (.iload_n 3, 1) := by decide +kernel
theorem dX12_worstAt_45 : decode cX12_worstAt 45 = .ok (.istore_n 2, 1) := by decide +kernel
theorem dX12_worstAt_46 : decode cX12_worstAt 46 = .ok (.iinc 3 1, 3) := by decide +kernel
theorem dX12_worstAt_49 : decode cX12_worstAt 49 = .ok (.goto (-45), 3) := by decide +kernel
theorem dX12_worstAt_52 : decode cX12_worstAt 52 = .ok (.iload_n 2, 1) := by decide +kernel
theorem dX12_worstAt_53 : decode cX12_worstAt 53 = .ok (.ireturn, 1) := by decide +kernel
theorem okX12_worstAt : ab_okM MX12_worstAt 1 := ⟨by decide, ⟨by decide, by decide⟩, ab_in 2554 (by decide +kernel) (by decide +kernel), ab_in 99 (by decide +kernel) (by decide +kernel), by decide +kernel, by decide⟩
set_option maxHeartbeats 4000000 in
set_option maxRecDepth 100000 in
theorem sX12_worstAt_41 (v1 : Int32) (v2 : Int32) (v3 : Int32) (s0 : Int32) (s1 : Int32)  (x : ab_X) (K : Int32 → Prop) (L4 : Int32 → Int32 → Prop) (d bc bs : Nat) (hdp : 3 ≤ d) (hL4 : ∀ (v2 : Int32) (v3 : Int32), L4 v2 v3 → EW MX12_worstAt 4 [(0, .ref 246), (1, .int v1), (2, .int v2), (3, .int v3)] [] (aS x) d bc bs (liP x K)) (h : wX12_worstAt_41 v1 v2 v3 s0 s1 x K L4) : EW MX12_worstAt 41 [(0, .ref 246), (1, .int v1), (2, .int v2), (3, .int v3)] [.int s1, .int s0] (aS x) d bc bs (liP x K) := by
  unfold wX12_worstAt_41 at h
  refine EW_icmp_le (tgt := 46) (pc2 := 44) rfl dX12_worstAt_41 (by decide) (fun q => ?_) (fun q => ?_)
  · replace h := h.1 q
    refine EW_iinc (v3 + 1) (pc2 := 49) rfl dX12_worstAt_46 3 rfl rfl (by decide) [1, 2, 3, 0] [(0, .ref 246), (1, .int v1), (2, .int v2), (3, .int (v3 + 1))] rfl ?_
    refine EW_goto (tgt := 4) dX12_worstAt_49 (by decide) ?_
    exact hL4 v2 (v3 + 1) h
  · replace h := h.2 q
    refine EW_iload_n (pc2 := 45) rfl dX12_worstAt_44 3 rfl ?_
    refine EW_istore_n (pc2 := 46) rfl dX12_worstAt_45 (by decide) [1, 2, 0, 3] [(0, .ref 246), (1, .int v1), (2, .int v3), (3, .int v3)] rfl ?_
    refine EW_iinc (v3 + 1) (pc2 := 49) rfl dX12_worstAt_46 3 rfl rfl (by decide) [1, 2, 3, 0] [(0, .ref 246), (1, .int v1), (2, .int v3), (3, .int (v3 + 1))] rfl ?_
    refine EW_goto (tgt := 4) dX12_worstAt_49 (by decide) ?_
    exact hL4 v3 (v3 + 1) h
set_option maxHeartbeats 4000000 in
set_option maxRecDepth 100000 in
theorem sX12_worstAt_4 (v1 : Int32) (v2 : Int32) (v3 : Int32)  (x : ab_X) (K : Int32 → Prop)  (d bc bs : Nat) (hdp : 3 ≤ d)  (h : Lp2 (lX12_worstAt_4 v1 x K ) v2 v3) : EW MX12_worstAt 4 [(0, .ref 246), (1, .int v1), (2, .int v2), (3, .int v3)] [] (aS x) d bc bs (liP x K) := by
  refine Lp2.use (P := fun v2 v3 => EW MX12_worstAt 4 [(0, .ref 246), (1, .int v1), (2, .int v2), (3, .int v3)] [] (aS x) d bc bs (liP x K)) (fun L4 v2 v3 hL4 h => ?_) v2 v3 h
  unfold lX12_worstAt_4 at h
  refine EW_iload_n (pc2 := 5) rfl dX12_worstAt_4 3 rfl ?_
  refine EW_aload_n (pc2 := 6) rfl dX12_worstAt_5 0 rfl ?_
  refine AW_geti ⟨gfRX12_331, rfl⟩ (pc2 := 9) rfl dX12_worstAt_6 q246 ?_
  refine EW_icmp_ge (tgt := 52) (pc2 := 12) rfl dX12_worstAt_9 (by decide) (fun q => ?_) (fun q => ?_)
  · replace h := h.1 q
    refine EW_iload_n (pc2 := 53) rfl dX12_worstAt_52 2 rfl ?_
    exact AW_iret rfl dX12_worstAt_53 ⟨_, rfl, rfl, h⟩
  · replace h := h.2 q
    refine EW_aload_n (pc2 := 13) rfl dX12_worstAt_12 0 rfl ?_
    refine AW_getr (r := 254) ⟨gfRX12_32, rfl⟩ (pc2 := 16) rfl dX12_worstAt_13 q246 rfl ?_
    refine EW_iload_n (pc2 := 17) rfl dX12_worstAt_16 3 rfl ?_
    obtain ⟨b1, h⟩ := h
    refine AW_iald (pc2 := 18) rfl dX12_worstAt_17 q254 b1 ?_
    refine EW_iload_n (pc2 := 19) rfl dX12_worstAt_18 1 rfl ?_
    refine EW_icmp_ne (tgt := 46) (pc2 := 22) rfl dX12_worstAt_19 (by decide) (fun q => ?_) (fun q => ?_)
    · replace h := h.1 q
      refine EW_iinc (v3 + 1) (pc2 := 49) rfl dX12_worstAt_46 3 rfl rfl (by decide) [1, 2, 3, 0] [(0, .ref 246), (1, .int v1), (2, .int v2), (3, .int (v3 + 1))] rfl ?_
      refine EW_goto (tgt := 4) dX12_worstAt_49 (by decide) ?_
      exact hL4 v2 (v3 + 1) h
    · replace h := h.2 q
      refine EW_aload_n (pc2 := 23) rfl dX12_worstAt_22 0 rfl ?_
      refine EW_iload_n (pc2 := 24) rfl dX12_worstAt_23 3 rfl ?_
      refine AW_invV (M' := MX12_burning) [.int v3] (rest := []) mlRX12_351 okX12_burning (pc2 := 27) rfl dX12_worstAt_24 rfl rfl (Nat.le_of_ble_eq_true rfl) (Nat.le_of_ble_eq_true rfl) (d' := 2) (by omega) q246 ⟨by decide, rfl⟩ (EW_mono (fun _ _ hr => ?_) (sX12_burning v3  x _ _ 0 0 (Nat.le_refl _) h))
      obtain ⟨r2, rfl, rfl, h⟩ := hr
      refine EW_iload_n (pc2 := 28) rfl dX12_worstAt_27 2 rfl ?_
      refine EW_iconst (pc2 := 29) (v := (-1)) rfl dX12_worstAt_28 (by decide) ?_
      refine EW_icmp_ne (tgt := 36) (pc2 := 32) rfl dX12_worstAt_29 (by decide) (fun q => ?_) (fun q => ?_)
      · replace h := h.1 q
        refine EW_aload_n (pc2 := 37) rfl dX12_worstAt_36 0 rfl ?_
        refine EW_iload_n (pc2 := 38) rfl dX12_worstAt_37 2 rfl ?_
        refine AW_invV (M' := MX12_burning) [.int v2] (rest := [.int r2]) mlRX12_351 okX12_burning (pc2 := 41) rfl dX12_worstAt_38 rfl rfl (Nat.le_of_ble_eq_true rfl) (Nat.le_of_ble_eq_true rfl) (d' := 2) (by omega) q246 ⟨by decide, rfl⟩ (EW_mono (fun _ _ hr => ?_) (sX12_burning v2  x _ _ 0 0 (Nat.le_refl _) h))
        obtain ⟨r3, rfl, rfl, h⟩ := hr
        exact sX12_worstAt_41 v1 v2 v3 r2 r3 x K L4 d bc bs hdp hL4 h
      · replace h := h.2 q
        refine EW_iconst (pc2 := 33) (v := 0) rfl dX12_worstAt_32 (by decide) ?_
        refine EW_goto (tgt := 41) dX12_worstAt_33 (by decide) ?_
        exact sX12_worstAt_41 v1 v2 v3 r2 0 x K L4 d bc bs hdp hL4 h
set_option maxHeartbeats 4000000 in
set_option maxRecDepth 100000 in
theorem sX12_worstAt (v1 : Int32)  (x : ab_X) (K : Int32 → Prop) (d bc bs : Nat) (hdp : 3 ≤ d) (h : wX12_worstAt v1 x K) : EW MX12_worstAt 0 [(0, .ref 246), (1, .int v1)] [] (aS x) d bc bs (liP x K) := by
  unfold wX12_worstAt at h
  refine EW_iconst (pc2 := 1) (v := (-1)) rfl dX12_worstAt_0 (by decide) ?_
  refine EW_istore_n (pc2 := 2) rfl dX12_worstAt_1 (by decide) [1, 2, 0] [(0, .ref 246), (1, .int v1), (2, .int (-1))] rfl ?_
  refine EW_iconst (pc2 := 3) (v := 0) rfl dX12_worstAt_2 (by decide) ?_
  refine EW_istore_n (pc2 := 4) rfl dX12_worstAt_3 (by decide) [1, 2, 3, 0] [(0, .ref 246), (1, .int v1), (2, .int (-1)), (3, .int 0)] rfl ?_
  exact sX12_worstAt_4 v1 (-1) 0 x K d bc bs hdp h
theorem mlRX12_405 : Cond.methodLink RX12 405 yX12_turns ∈ ab_G ∧ Cond.instanceMethod yX12_turns ∈ ab_G ∧ Cond.selects RX12 yX12_turns yX12_turns ∈ ab_G := ⟨ab_in 2365 (by decide +kernel) (by decide +kernel), ab_in 2367 (by decide +kernel) (by decide +kernel), ab_in 30 (by decide +kernel) (by decide +kernel)⟩
theorem mlRX12_561 : Cond.methodLink RX12 561 yX12_close ∈ ab_G ∧ Cond.instanceMethod yX12_close ∈ ab_G ∧ Cond.selects RX12 yX12_close yX12_close ∈ ab_G := ⟨ab_in 2555 (by decide +kernel) (by decide +kernel), ab_in 2557 (by decide +kernel) (by decide +kernel), ab_in 59 (by decide +kernel) (by decide +kernel)⟩
theorem gfRX12_238 : ab_L RX12 238 12 91 := ⟨by decide, by decide, ab_in 1940 (by decide +kernel) (by decide +kernel)⟩
theorem mlRX12_558 : Cond.methodLink RX12 558 yX12_worstAt ∈ ab_G ∧ Cond.instanceMethod yX12_worstAt ∈ ab_G ∧ Cond.selects RX12 yX12_worstAt yX12_worstAt ∈ ab_G := ⟨ab_in 2551 (by decide +kernel) (by decide +kernel), ab_in 2553 (by decide +kernel) (by decide +kernel), ab_in 58 (by decide +kernel) (by decide +kernel)⟩
theorem gfRX12_149 : ab_L RX12 149 12 50 := ⟨by decide, by decide, ab_in 1899 (by decide +kernel) (by decide +kernel)⟩
abbrev MX12_arrives : ab_M := (yX12_arrives, cX12_arrives, 5, none)
theorem dX12_arrives_0 : decode cX12_arrives 0 = .ok (.aload_n 0, 1) := by decide +kernel
theorem dX12_arrives_1 : decode cX12_arrives 1 = .ok (.getfield 128, 3) := by decide +kernel
theorem dX12_arrives_4 : decode cX12_arrives 4 = .ok (.iload_n 1, 1) := by decide +kernel
theorem dX12_arrives_5 : decode cX12_arrives 5 = .ok (.iaload, 1) := by decide +kernel
theorem dX12_arrives_6 : decode cX12_arrives 6 = .ok (.iconst 3, 1) := by decide +kernel
theorem dX12_arrives_7 : decode cX12_arrives 7 = .ok (.if_icmp .ne 15, 3) := by decide +kernel
theorem dX12_arrives_10 : decode cX12_arrives 10 = .ok (.aload_n 0, 1) := by decide +kernel
theorem dX12_arrives_11 : decode cX12_arrives 11 = .ok (.iload_n 1, 1) := by decide +kernel
theorem dX12_arrives_12 : decode cX12_arrives 12 = .ok (.aload_n 0, 1) := by decide +kernel
theorem dX12_arrives_13 : decode cX12_arrives 13 = .ok (.getfield 131, 3) := by decide +kernel
theorem dX12_arrives_16 : decode cX12_arrives 16 = .ok (.iload_n 1, 1) := by decide +kernel
theorem dX12_arrives_17 : decode cX12_arrives 17 = .ok (.iaload, 1) := by decide +kernel
theorem dX12_arrives_18 : decode cX12_arrives 18 = .ok (.invokevirtual 401, 3) := by decide +kernel
theorem dX12_arrives_21 : decode cX12_arrives 21 = .ok (.return_, 1) := by decide +kernel
theorem dX12_arrives_22 : decode cX12_arrives 22 = .ok (.aload_n 0, 1) := by decide +kernel
theorem dX12_arrives_23 : decode cX12_arrives 23 = .ok (.getfield 137, 3) := by decide +kernel
theorem dX12_arrives_26 : decode cX12_arrives 26 = .ok (.iload_n 1, 1) := by decide +kernel
theorem dX12_arrives_27 : decode cX12_arrives 27 = .ok (.iaload, 1) := by decide +kernel
theorem dX12_arrives_28 : decode cX12_arrives 28 = .ok (.istore_n 2, 1) := by decide +kernel
theorem dX12_arrives_29 : decode cX12_arrives 29 = .ok (.aload_n 0, 1) := by decide +kernel
theorem dX12_arrives_30 : decode cX12_arrives 30 = .ok (.getfield 131, 3) := by decide +kernel
theorem dX12_arrives_33 : decode cX12_arrives 33 = .ok (.iload_n 1, 1) := by decide +kernel
theorem dX12_arrives_34 : decode cX12_arrives 34 = .ok (.iaload, 1) := by decide +kernel
theorem dX12_arrives_35 : decode cX12_arrives 35 = .ok (.istore_n 3, 1) := by decide +kernel
theorem dX12_arrives_36 : decode cX12_arrives 36 = .ok (.aload_n 0, 1) := by decide +kernel
theorem dX12_arrives_37 : decode cX12_arrives 37 = .ok (.iload_n 3, 1) := by decide +kernel
theorem dX12_arrives_38 : decode cX12_arrives 38 = .ok (.invokevirtual 558, 3) := by decide +kernel
theorem dX12_arrives_41 : decode cX12_arrives 41 = .ok (.istore 4, 2) := by decide +kernel
theorem dX12_arrives_43 : decode cX12_arrives 43 = .ok (.iload 4, 2) := by decide +kernel
theorem dX12_arrives_45 : decode cX12_arrives 45 = .ok (.iconst (-1), 1) := by decide +kernel
theorem dX12_arrives_46 : decode cX12_arrives 46 = .ok (.if_icmp .eq 12, 3) := by decide +kernel
theorem dX12_arrives_49 : decode cX12_arrives 49 = .ok (.aload_n 0, 1) := by decide +kernel
theorem dX12_arrives_50 : decode cX12_arrives 50 = .ok (.getfield 220, 3) := by decide +kernel
theorem dX12_arrives_53 : decode cX12_arrives 53 = .ok (.iload_n 2, 1) := by decide +kernel
theorem dX12_arrives_54 : decode cX12_arrives 54 = .ok (.iaload, 1) := by decide +kernel
theorem dX12_arrives_55 : decode cX12_arrives 55 = .ok (.ifCond .eq 38, 3) := by decide +kernel
theorem dX12_arrives_58 : decode cX12_arrives 58 = .ok (.aload_n 0, 1) := by decide +kernel
theorem dX12_arrives_59 : decode cX12_arrives 59 = .ok (.getfield 220, 3) := by decide +kernel
theorem dX12_arrives_62 : decode cX12_arrives 62 = .ok (.iload_n 2, 1) := by decide +kernel
theorem dX12_arrives_63 : decode cX12_arrives 63 = .ok (.iaload, 1) := by decide +kernel
theorem dX12_arrives_64 : decode cX12_arrives 64 = .ok (.ifCond .ne 22, 3) := by decide +kernel
theorem dX12_arrives_67 : decode cX12_arrives 67 = .ok (.aload_n 0, 1) := by decide +kernel
theorem dX12_arrives_68 : decode cX12_arrives 68 = .ok (.iload_n 2, 1) := by decide +kernel
theorem dX12_arrives_69 : decode cX12_arrives 69 = .ok (.aload_n 0, 1) := by decide +kernel
theorem dX12_arrives_70 : decode cX12_arrives 70 = .ok (.getfield 238, 3) := by decide +kernel
theorem dX12_arrives_73 : decode cX12_arrives 73 = .ok (.iload_n 2, 1) := by decide +kernel
theorem dX12_arrives_74 : decode cX12_arrives 74 = .ok (.baload, 1) := by decide +kernel
theorem dX12_arrives_75 : decode cX12_arrives 75 = .ok (.ifCond .ne 7, 3) := by decide +kernel
theorem dX12_arrives_78 : decode cX12_arrives 78 = .ok (.iconst 1, 1) := by decide +kernel
theorem dX12_arrives_79 : decode cX12_arrives 79 = .ok (.goto 4, 3) := by decide +kernel
theorem dX12_arrives_82 : decode cX12_arrives 82 = .ok (.iconst 0, 1) := by decide +kernel
theorem dX12_arrives_83 : decode cX12_arrives 83 = .ok (.invokevirtual 561, 3) := by decide +kernel
theorem dX12_arrives_86 : decode cX12_arrives 86 = .ok (.aload_n 0, 1) := by decide +kernel
theorem dX12_arrives_87 : decode cX12_arrives 87 = .ok (.iload_n 1, 1) := by decide +kernel
theorem dX12_arrives_88 : decode cX12_arrives 88 = .ok (.iload_n 3, 1) := by decide +kernel
theorem dX12_arrives_89 : decode cX12_arrives 89 = .ok (.invokevirtual 405, 3) := by decide +kernel
theorem dX12_arrives_92 : decode cX12_arrives 92 = .ok (.return_, 1) := by decide +kernel
theorem dX12_arrives_93 : decode cX12_arrives 93 = .ok (.aload_n 0, 1) := by decide +kernel
theorem dX12_arrives_94 : decode cX12_arrives 94 = .ok (.getfield 128, 3) := by decide +kernel
theorem dX12_arrives_97 : decode cX12_arrives 97 = .ok (.iload_n 1, 1) := by decide +kernel
theorem dX12_arrives_98 : decode cX12_arrives 98 = .ok (.iconst 2, 1) := by decide +kernel
theorem dX12_arrives_99 : decode cX12_arrives 99 = .ok (.iastore, 1) := by decide +kernel
theorem dX12_arrives_100 : decode cX12_arrives 100 = .ok (.aload_n 0, 1) := by decide +kernel
theorem dX12_arrives_101 : decode cX12_arrives 101 = .ok (.getfield 134, 3) := by decide +kernel
theorem dX12_arrives_104 : decode cX12_arrives 104 = .ok (.iload_n 1, 1) := by decide +kernel
theorem dX12_arrives_105 : decode cX12_arrives 105 = .ok (.iconst (-1), 1) := by decide +kernel
theorem dX12_arrives_106 : decode cX12_arrives 106 = .ok (.iastore, 1) := by decide +kernel
theorem dX12_arrives_107 : decode cX12_arrives 107 = .ok (.aload_n 0, 1) := by decide +kernel
theorem dX12_arrives_108 : decode cX12_arrives 108 = .ok (.getfield 140, 3) := by decide +kernel
theorem dX12_arrives_111 : decode cX12_arrives 111 = .ok (.iload_n 1, 1) := by decide +kernel
theorem dX12_arrives_112 : decode cX12_arrives 112 = .ok (.iload 4, 2) := by decide +kernel
theorem dX12_arrives_114 : decode cX12_arrives 114 = .ok (.iastore, 1) := by decide +kernel
theorem dX12_arrives_115 : decode cX12_arrives 115 = .ok (.aload_n 0, 1) := by decide +kernel
theorem dX12_arrives_116 : decode cX12_arrives 116 = .ok (.getfield 149, 3) := by decide +kernel
theorem dX12_arrives_119 : decode cX12_arrives 119 = .ok (.iload_n 1, 1) := by decide +kernel
theorem dX12_arrives_120 : decode cX12_arrives 120 = .ok (.aload_n 0, 1) := by decide +kernel
theorem dX12_arrives_121 : decode cX12_arrives 121 = .ok (.getfield 395, 3) := by decide +kernel
theorem dX12_arrives_124 : decode cX12_arrives 124 = .ok (.iastore, 1) := by decide +kernel
theorem dX12_arrives_125 : decode cX12_arrives 125 = .ok (.return_, 1) := by decide +kernel
theorem okX12_arrives : ab_okM MX12_arrives 1 := ⟨by decide, ⟨by decide, by decide⟩, ab_in 2550 (by decide +kernel) (by decide +kernel), ab_in 99 (by decide +kernel) (by decide +kernel), by decide +kernel, by decide⟩
set_option maxHeartbeats 4000000 in
set_option maxRecDepth 100000 in
theorem sX12_arrives_86 (v1 : Int32) (v3 : Int32)  (x : ab_X) (K : ab_X → Prop)  (d bc bs : Nat) (hdp : 4 ≤ d)  (h : wX12_arrives_86 v1 v3 x K ) : EW MX12_arrives 86 [(0, .ref 246), (1, .int v1), (3, .int v3)] [] (aS x) d bc bs (liV K) := by
  unfold wX12_arrives_86 at h
  refine EW_aload_n (pc2 := 87) rfl dX12_arrives_86 0 rfl ?_
  refine EW_iload_n (pc2 := 88) rfl dX12_arrives_87 1 rfl ?_
  refine EW_iload_n (pc2 := 89) rfl dX12_arrives_88 2 rfl ?_
  refine AW_invV (M' := MX12_turns) [.int v1, .int v3] (rest := []) mlRX12_405 okX12_turns (pc2 := 92) rfl dX12_arrives_89 rfl rfl (Nat.le_of_ble_eq_true rfl) (Nat.le_of_ble_eq_true rfl) (d' := 2) (by omega) q246 ⟨by decide, rfl⟩ (EW_mono (fun _ _ hr => ?_) (sX12_turns v1 v3  x _ _ 0 0 (Nat.le_refl _) h))
  obtain ⟨x14, rfl, rfl, h⟩ := hr
  exact EW_vret rfl dX12_arrives_92 ⟨_, rfl, rfl, h⟩
set_option maxHeartbeats 4000000 in
set_option maxRecDepth 100000 in
theorem sX12_arrives_83 (v1 : Int32) (v3 : Int32) (s1 : Int32) (s2 : Int32)  (x : ab_X) (K : ab_X → Prop)  (d bc bs : Nat) (hdp : 4 ≤ d)  (h : wX12_arrives_83 v1 v3 s1 s2 x K ) : EW MX12_arrives 83 [(0, .ref 246), (1, .int v1), (3, .int v3)] [.int s2, .int s1, .ref 246] (aS x) d bc bs (liV K) := by
  unfold wX12_arrives_83 at h
  refine AW_invV (M' := MX12_close) [.int s1, .int s2] (rest := []) mlRX12_561 okX12_close (pc2 := 86) rfl dX12_arrives_83 rfl rfl (Nat.le_of_ble_eq_true rfl) (Nat.le_of_ble_eq_true rfl) (d' := 0) (by omega) q246 ⟨by decide, rfl⟩ (EW_mono (fun _ _ hr => ?_) (sX12_close s1 s2  x _ _ 0 0 (Nat.le_refl _) h))
  obtain ⟨x15, rfl, rfl, h⟩ := hr
  exact sX12_arrives_86 v1 v3 x15 K d bc bs hdp h
set_option maxHeartbeats 4000000 in
set_option maxRecDepth 100000 in
theorem sX12_arrives_58 (v1 : Int32) (v2 : Int32) (v3 : Int32)  (x : ab_X) (K : ab_X → Prop)  (d bc bs : Nat) (hdp : 4 ≤ d)  (h : wX12_arrives_58 v1 v2 v3 x K ) : EW MX12_arrives 58 [(0, .ref 246), (1, .int v1), (2, .int v2), (3, .int v3)] [] (aS x) d bc bs (liV K) := by
  unfold wX12_arrives_58 at h
  refine EW_aload_n (pc2 := 59) rfl dX12_arrives_58 0 rfl ?_
  refine AW_getr (r := 312) ⟨gfRX12_220, rfl⟩ (pc2 := 62) rfl dX12_arrives_59 q246 rfl ?_
  refine EW_iload_n (pc2 := 63) rfl dX12_arrives_62 2 rfl ?_
  obtain ⟨b12, h⟩ := h
  refine AW_iald (pc2 := 64) rfl dX12_arrives_63 q312 b12 ?_
  refine EW_if_ne (tgt := 86) (pc2 := 67) rfl dX12_arrives_64 (by decide) (fun q => ?_) (fun q => ?_)
  · replace h := h.1 q
    refine EW_ls [0, 1, 3] rfl ?_
    exact sX12_arrives_86 v1 v3 x K d bc bs hdp h
  · replace h := h.2 q
    refine EW_aload_n (pc2 := 68) rfl dX12_arrives_67 0 rfl ?_
    refine EW_iload_n (pc2 := 69) rfl dX12_arrives_68 2 rfl ?_
    refine EW_aload_n (pc2 := 70) rfl dX12_arrives_69 0 rfl ?_
    refine AW_getr (r := 318) ⟨gfRX12_238, rfl⟩ (pc2 := 73) rfl dX12_arrives_70 q246 rfl ?_
    refine EW_iload_n (pc2 := 74) rfl dX12_arrives_73 2 rfl ?_
    obtain ⟨b13, h⟩ := h
    refine AW_zald (pc2 := 75) rfl dX12_arrives_74 q318 b13 ?_
    refine EW_if_ne (tgt := 82) (pc2 := 78) rfl dX12_arrives_75 (by decide) (fun q => ?_) (fun q => ?_)
    · replace h := h.1 q
      refine EW_iconst (pc2 := 83) (v := 0) rfl dX12_arrives_82 (by decide) ?_
      refine EW_ls [0, 1, 3] rfl ?_
      exact sX12_arrives_83 v1 v3 v2 0 x K d bc bs hdp h
    · replace h := h.2 q
      refine EW_iconst (pc2 := 79) (v := 1) rfl dX12_arrives_78 (by decide) ?_
      refine EW_goto (tgt := 83) dX12_arrives_79 (by decide) ?_
      refine EW_ls [0, 1, 3] rfl ?_
      exact sX12_arrives_83 v1 v3 v2 1 x K d bc bs hdp h
set_option maxHeartbeats 4000000 in
set_option maxRecDepth 100000 in
theorem sX12_arrives (v1 : Int32)  (x : ab_X) (K : ab_X → Prop) (d bc bs : Nat) (hdp : 4 ≤ d) (h : wX12_arrives v1 x K) : EW MX12_arrives 0 [(0, .ref 246), (1, .int v1)] [] (aS x) d bc bs (liV K) := by
  unfold wX12_arrives at h
  refine EW_aload_n (pc2 := 1) rfl dX12_arrives_0 0 rfl ?_
  refine AW_getr (r := 286) ⟨gfRX12_128, rfl⟩ (pc2 := 4) rfl dX12_arrives_1 q246 rfl ?_
  refine EW_iload_n (pc2 := 5) rfl dX12_arrives_4 1 rfl ?_
  obtain ⟨b1, h⟩ := h
  refine AW_iald (pc2 := 6) rfl dX12_arrives_5 q286 b1 ?_
  refine EW_iconst (pc2 := 7) (v := 3) rfl dX12_arrives_6 (by decide) ?_
  refine EW_icmp_ne (tgt := 22) (pc2 := 10) rfl dX12_arrives_7 (by decide) (fun q => ?_) (fun q => ?_)
  · replace h := h.1 q
    refine EW_aload_n (pc2 := 23) rfl dX12_arrives_22 0 rfl ?_
    refine AW_getr (r := 289) ⟨gfRX12_137, rfl⟩ (pc2 := 26) rfl dX12_arrives_23 q246 rfl ?_
    refine EW_iload_n (pc2 := 27) rfl dX12_arrives_26 1 rfl ?_
    obtain ⟨b2, h⟩ := h
    refine AW_iald (pc2 := 28) rfl dX12_arrives_27 q289 b2 ?_
    refine EW_istore_n (pc2 := 29) rfl dX12_arrives_28 (by decide) [1, 2, 0] [(0, .ref 246), (1, .int v1), (2, .int (x.1 289 (Int32.toNatClampNeg v1)))] rfl ?_
    refine EW_aload_n (pc2 := 30) rfl dX12_arrives_29 0 rfl ?_
    refine AW_getr (r := 287) ⟨gfRX12_131, rfl⟩ (pc2 := 33) rfl dX12_arrives_30 q246 rfl ?_
    refine EW_iload_n (pc2 := 34) rfl dX12_arrives_33 1 rfl ?_
    obtain ⟨b3, h⟩ := h
    refine AW_iald (pc2 := 35) rfl dX12_arrives_34 q287 b3 ?_
    refine EW_istore_n (pc2 := 36) rfl dX12_arrives_35 (by decide) [1, 2, 3, 0] [(0, .ref 246), (1, .int v1), (2, .int (x.1 289 (Int32.toNatClampNeg v1))), (3, .int (x.1 287 (Int32.toNatClampNeg v1)))] rfl ?_
    refine EW_aload_n (pc2 := 37) rfl dX12_arrives_36 0 rfl ?_
    refine EW_iload_n (pc2 := 38) rfl dX12_arrives_37 3 rfl ?_
    refine AW_invV (M' := MX12_worstAt) [.int (x.1 287 (Int32.toNatClampNeg v1))] (rest := []) mlRX12_558 okX12_worstAt (pc2 := 41) rfl dX12_arrives_38 rfl rfl (Nat.le_of_ble_eq_true rfl) (Nat.le_of_ble_eq_true rfl) (d' := 3) (by omega) q246 ⟨by decide, rfl⟩ (EW_mono (fun _ _ hr => ?_) (sX12_worstAt (x.1 287 (Int32.toNatClampNeg v1))  x _ _ 0 0 (Nat.le_refl _) h))
    obtain ⟨r4, rfl, rfl, h⟩ := hr
    refine EW_istore (pc2 := 43) rfl dX12_arrives_41 (by decide) [1, 2, 3, 4, 0] [(0, .ref 246), (1, .int v1), (2, .int (x.1 289 (Int32.toNatClampNeg v1))), (3, .int (x.1 287 (Int32.toNatClampNeg v1))), (4, .int r4)] rfl ?_
    refine EW_iload (pc2 := 45) rfl dX12_arrives_43 4 rfl ?_
    refine EW_iconst (pc2 := 46) (v := (-1)) rfl dX12_arrives_45 (by decide) ?_
    refine EW_icmp_eq (tgt := 58) (pc2 := 49) rfl dX12_arrives_46 (by decide) (fun q => ?_) (fun q => ?_)
    · replace h := h.1 q
      refine EW_ls [0, 1, 2, 3] rfl ?_
      exact sX12_arrives_58 v1 (x.1 289 (Int32.toNatClampNeg v1)) (x.1 287 (Int32.toNatClampNeg v1)) x K d bc bs hdp h
    · replace h := h.2 q
      refine EW_aload_n (pc2 := 50) rfl dX12_arrives_49 0 rfl ?_
      refine AW_getr (r := 312) ⟨gfRX12_220, rfl⟩ (pc2 := 53) rfl dX12_arrives_50 q246 rfl ?_
      refine EW_iload_n (pc2 := 54) rfl dX12_arrives_53 2 rfl ?_
      obtain ⟨b5, h⟩ := h
      refine AW_iald (pc2 := 55) rfl dX12_arrives_54 q312 b5 ?_
      refine EW_if_eq (tgt := 93) (pc2 := 58) rfl dX12_arrives_55 (by decide) (fun q => ?_) (fun q => ?_)
      · replace h := h.1 q
        refine EW_aload_n (pc2 := 94) rfl dX12_arrives_93 0 rfl ?_
        refine AW_getr (r := 286) ⟨gfRX12_128, rfl⟩ (pc2 := 97) rfl dX12_arrives_94 q246 rfl ?_
        refine EW_iload_n (pc2 := 98) rfl dX12_arrives_97 1 rfl ?_
        refine EW_iconst (pc2 := 99) (v := 2) rfl dX12_arrives_98 (by decide) ?_
        obtain ⟨b6, h⟩ := h
        refine AW_iast (pc2 := 100) rfl dX12_arrives_99 q286 b6 ?_
        refine EW_aload_n (pc2 := 101) rfl dX12_arrives_100 0 rfl ?_
        refine AW_getr (r := 288) ⟨gfRX12_134, rfl⟩ (pc2 := 104) rfl dX12_arrives_101 q246 rfl ?_
        refine EW_iload_n (pc2 := 105) rfl dX12_arrives_104 1 rfl ?_
        refine EW_iconst (pc2 := 106) (v := (-1)) rfl dX12_arrives_105 (by decide) ?_
        obtain ⟨b7, h⟩ := h
        refine AW_iast (pc2 := 107) rfl dX12_arrives_106 q288 b7 ?_
        refine EW_aload_n (pc2 := 108) rfl dX12_arrives_107 0 rfl ?_
        refine AW_getr (r := 290) ⟨gfRX12_140, rfl⟩ (pc2 := 111) rfl dX12_arrives_108 q246 rfl ?_
        refine EW_iload_n (pc2 := 112) rfl dX12_arrives_111 1 rfl ?_
        refine EW_iload (pc2 := 114) rfl dX12_arrives_112 4 rfl ?_
        obtain ⟨b8, h⟩ := h
        refine AW_iast (pc2 := 115) rfl dX12_arrives_114 q290 b8 ?_
        refine EW_aload_n (pc2 := 116) rfl dX12_arrives_115 0 rfl ?_
        refine AW_getr (r := 293) ⟨gfRX12_149, rfl⟩ (pc2 := 119) rfl dX12_arrives_116 q246 rfl ?_
        refine EW_iload_n (pc2 := 120) rfl dX12_arrives_119 1 rfl ?_
        refine EW_aload_n (pc2 := 121) rfl dX12_arrives_120 0 rfl ?_
        refine AW_geti ⟨gfRX12_395, rfl⟩ (pc2 := 124) rfl dX12_arrives_121 q246 ?_
        obtain ⟨b9, h⟩ := h
        refine AW_iast (pc2 := 125) rfl dX12_arrives_124 q293 b9 ?_
        exact EW_vret rfl dX12_arrives_125 ⟨_, rfl, rfl, h⟩
      · replace h := h.2 q
        refine EW_ls [0, 1, 2, 3] rfl ?_
        exact sX12_arrives_58 v1 (x.1 289 (Int32.toNatClampNeg v1)) (x.1 287 (Int32.toNatClampNeg v1)) x K d bc bs hdp h
  · replace h := h.2 q
    refine EW_aload_n (pc2 := 11) rfl dX12_arrives_10 0 rfl ?_
    refine EW_iload_n (pc2 := 12) rfl dX12_arrives_11 1 rfl ?_
    refine EW_aload_n (pc2 := 13) rfl dX12_arrives_12 0 rfl ?_
    refine AW_getr (r := 287) ⟨gfRX12_131, rfl⟩ (pc2 := 16) rfl dX12_arrives_13 q246 rfl ?_
    refine EW_iload_n (pc2 := 17) rfl dX12_arrives_16 1 rfl ?_
    obtain ⟨b10, h⟩ := h
    refine AW_iald (pc2 := 18) rfl dX12_arrives_17 q287 b10 ?_
    refine AW_invV (M' := MX12_rests) [.int v1, .int (x.1 287 (Int32.toNatClampNeg v1))] (rest := []) mlRX12_401 okX12_rests (pc2 := 21) rfl dX12_arrives_18 rfl rfl (Nat.le_of_ble_eq_true rfl) (Nat.le_of_ble_eq_true rfl) (d' := 0) (by omega) q246 ⟨by decide, rfl⟩ (EW_mono (fun _ _ hr => ?_) (sX12_rests v1 (x.1 287 (Int32.toNatClampNeg v1))  x _ _ 0 0 (Nat.le_refl _) h))
    obtain ⟨x11, rfl, rfl, h⟩ := hr
    exact EW_vret rfl dX12_arrives_21 ⟨_, rfl, rfl, h⟩
abbrev MX12_isCorner : ab_M := (yX12_isCorner, cX12_isCorner, 1, (some .boolean))
theorem dX12_isCorner_0 : decode cX12_isCorner 0 = .ok (.iload_n 0, 1) := by decide +kernel
theorem dX12_isCorner_1 : decode cX12_isCorner 1 = .ok (.ifCond .lt 13, 3) := by decide +kernel
theorem dX12_isCorner_4 : decode cX12_isCorner 4 = .ok (.iload_n 0, 1) := by decide +kernel
theorem dX12_isCorner_5 : decode cX12_isCorner 5 = .ok (.bipush 20, 2) := by decide +kernel
theorem dX12_isCorner_7 : decode cX12_isCorner 7 = .ok (.if_icmp .ge 7, 3) := by decide +kernel
theorem dX12_isCorner_10 : decode cX12_isCorner 10 = .ok (.iconst 1, 1) := by decide +kernel
theorem dX12_isCorner_11 : decode cX12_isCorner 11 = .ok (.goto 4, 3) := by decide +kernel
theorem dX12_isCorner_14 : decode cX12_isCorner 14 = .ok (.iconst 0, 1) := by decide +kernel
theorem dX12_isCorner_15 : decode cX12_isCorner 15 = .ok (.ireturn, 1) := by decide +kernel
theorem okX12_isCorner : ab_okM MX12_isCorner 1 := ⟨by decide, ⟨by decide, by decide⟩, ab_in 2224 (by decide +kernel) (by decide +kernel), ab_in 99 (by decide +kernel) (by decide +kernel), by decide +kernel, by decide⟩
set_option maxHeartbeats 4000000 in
set_option maxRecDepth 100000 in
theorem sX12_isCorner (v0 : Int32)  (x : ab_X) (K : Int32 → Prop) (d bc bs : Nat) (hdp : 0 ≤ d) (h : wX12_isCorner v0 x K) : EW MX12_isCorner 0 [(0, .int v0)] [] (aS x) d bc bs (liP x K) := by
  unfold wX12_isCorner at h
  refine EW_iload_n (pc2 := 1) rfl dX12_isCorner_0 0 rfl ?_
  refine EW_if_lt (tgt := 14) (pc2 := 4) rfl dX12_isCorner_1 (by decide) (fun q => ?_) (fun q => ?_)
  · replace h := h.1 q
    refine EW_iconst (pc2 := 15) (v := 0) rfl dX12_isCorner_14 (by decide) ?_
    exact AW_zret rfl isB0 dX12_isCorner_15 ⟨_, rfl, rfl, h⟩
  · replace h := h.2 q
    refine EW_iload_n (pc2 := 5) rfl dX12_isCorner_4 0 rfl ?_
    refine EW_bipush (pc2 := 7) (v := 20) rfl dX12_isCorner_5 (by decide) ?_
    refine EW_icmp_ge (tgt := 14) (pc2 := 10) rfl dX12_isCorner_7 (by decide) (fun q => ?_) (fun q => ?_)
    · replace h := h.1 q
      refine EW_iconst (pc2 := 15) (v := 0) rfl dX12_isCorner_14 (by decide) ?_
      exact AW_zret rfl isB0 dX12_isCorner_15 ⟨_, rfl, rfl, h⟩
    · replace h := h.2 q
      refine EW_iconst (pc2 := 11) (v := 1) rfl dX12_isCorner_10 (by decide) ?_
      refine EW_goto (tgt := 15) dX12_isCorner_11 (by decide) ?_
      exact AW_zret rfl isB1 dX12_isCorner_15 ⟨_, rfl, rfl, h⟩
theorem mlRX12_303 : Cond.methodLink RX12 303 yX12_isCorner ∈ ab_G ∧ Cond.static yX12_isCorner ∈ ab_G := ⟨ab_in 2222 (by decide +kernel) (by decide +kernel), ab_in 2223 (by decide +kernel) (by decide +kernel)⟩
abbrev MX12_asks : ab_M := (yX12_asks, cX12_asks, 4, (some .int))
theorem dX12_asks_0 : decode cX12_asks 0 = .ok (.aload_n 0, 1) := by decide +kernel
theorem dX12_asks_1 : decode cX12_asks 1 = .ok (.iconst 0, 1) := by decide +kernel
theorem dX12_asks_2 : decode cX12_asks 2 = .ok (.putfield 297, 3) := by decide +kernel
theorem dX12_asks_5 : decode cX12_asks 5 = .ok (.iload_n 1, 1) := by decide +kernel
theorem dX12_asks_6 : decode cX12_asks 6 = .ok (.invokestatic 303, 3) := by decide +kernel
theorem dX12_asks_9 : decode cX12_asks 9 = .ok (.ifCond .eq 21, 3) := by decide +kernel
theorem dX12_asks_12 : decode cX12_asks 12 = .ok (.iload_n 2, 1) := by decide +kernel
theorem dX12_asks_13 : decode cX12_asks 13 = .ok (.iconst 1, 1) := by decide +kernel
theorem dX12_asks_14 : decode cX12_asks 14 = .ok (.iconst 3, 1) := by decide +kernel
theorem dX12_asks_15 : decode cX12_asks 15 = .ok (.invokestatic 307, 3) := by decide +kernel
theorem dX12_asks_18 : decode cX12_asks 18 = .ok (.ifCond .eq 12, 3) := by decide +kernel
theorem dX12_asks_21 : decode cX12_asks 21 = .ok (.iload_n 3, 1) := by decide +kernel
theorem dX12_asks_22 : decode cX12_asks 22 = .ok (.iconst 0, 1) := by decide +kernel
theorem dX12_asks_23 : decode cX12_asks 23 = .ok (.iconst 4, 1) := by decide +kernel
theorem dX12_asks_24 : decode cX12_asks 24 = .ok (.invokestatic 307, 3) := by decide +kernel
theorem dX12_asks_27 : decode cX12_asks 27 = .ok (.ifCond .ne 5, 3) := by decide +kernel
theorem dX12_asks_30 : decode cX12_asks 30 = .ok (.iconst (-1), 1) := by decide +kernel
theorem dX12_asks_31 : decode cX12_asks 31 = .ok (.ireturn, 1) := by decide +kernel
theorem dX12_asks_32 : decode cX12_asks 32 = .ok (.aload_n 0, 1) := by decide +kernel
theorem dX12_asks_33 : decode cX12_asks 33 = .ok (.iload_n 1, 1) := by decide +kernel
theorem dX12_asks_34 : decode cX12_asks 34 = .ok (.iload_n 2, 1) := by decide +kernel
theorem dX12_asks_35 : decode cX12_asks 35 = .ok (.invokevirtual 540, 3) := by decide +kernel
theorem dX12_asks_38 : decode cX12_asks 38 = .ok (.aload_n 0, 1) := by decide +kernel
theorem dX12_asks_39 : decode cX12_asks 39 = .ok (.getfield 195, 3) := by decide +kernel
theorem dX12_asks_42 : decode cX12_asks 42 = .ok (.iload_n 3, 1) := by decide +kernel
theorem dX12_asks_43 : decode cX12_asks 43 = .ok (.iaload, 1) := by decide +kernel
theorem dX12_asks_44 : decode cX12_asks 44 = .ok (.ireturn, 1) := by decide +kernel
theorem okX12_asks : ab_okM MX12_asks 3 := ⟨by decide, ⟨by decide, by decide⟩, ab_in 2502 (by decide +kernel) (by decide +kernel), ab_in 99 (by decide +kernel) (by decide +kernel), by decide +kernel, by decide⟩
set_option maxHeartbeats 4000000 in
set_option maxRecDepth 100000 in
theorem sX12_asks (v1 : Int32) (v2 : Int32) (v3 : Int32)  (x : ab_X) (K : Int32 → ab_X → Prop) (d bc bs : Nat) (hdp : 211 ≤ d) (h : wX12_asks v1 v2 v3 x K) : EW MX12_asks 0 [(0, .ref 246), (1, .int v1), (2, .int v2), (3, .int v3)] [] (aS x) d bc bs (liI K) := by
  unfold wX12_asks at h
  refine EW_aload_n (pc2 := 1) rfl dX12_asks_0 0 rfl ?_
  refine EW_iconst (pc2 := 2) (v := 0) rfl dX12_asks_1 (by decide) ?_
  refine AW_puti ⟨gfRX12_297, rfl, rfl⟩ (pc2 := 5) rfl dX12_asks_2 q246 ?_
  refine EW_iload_n (pc2 := 6) rfl dX12_asks_5 1 rfl ?_
  refine AW_invS (M' := MX12_isCorner) [.int v1] (rest := []) mlRX12_303 okX12_isCorner (pc2 := 9) rfl dX12_asks_6 rfl rfl (Nat.le_of_ble_eq_true rfl) (Nat.le_of_ble_eq_true rfl) (d' := 0) (by omega) (EW_mono (fun _ _ hr => ?_) (sX12_isCorner v1  (wr x 246 0 0) _ _ 0 0 (Nat.le_refl _) h))
  obtain ⟨r1, rfl, rfl, h⟩ := hr
  refine EW_if_eq (tgt := 30) (pc2 := 12) rfl dX12_asks_9 (by decide) (fun q => ?_) (fun q => ?_)
  · replace h := h.1 q
    refine EW_iconst (pc2 := 31) (v := (-1)) rfl dX12_asks_30 (by decide) ?_
    exact AW_iret rfl dX12_asks_31 ⟨_, _, rfl, rfl, h⟩
  · replace h := h.2 q
    refine EW_iload_n (pc2 := 13) rfl dX12_asks_12 2 rfl ?_
    refine EW_iconst (pc2 := 14) (v := 1) rfl dX12_asks_13 (by decide) ?_
    refine EW_iconst (pc2 := 15) (v := 3) rfl dX12_asks_14 (by decide) ?_
    refine AW_invS (M' := MX12_isIn) [.int v2, .int 1, .int 3] (rest := []) mlRX12_307 okX12_isIn (pc2 := 18) rfl dX12_asks_15 rfl rfl (Nat.le_of_ble_eq_true rfl) (Nat.le_of_ble_eq_true rfl) (d' := 0) (by omega) (EW_mono (fun _ _ hr => ?_) (sX12_isIn v2 1 3  (wr x 246 0 0) _ _ 0 0 (Nat.le_refl _) h))
    obtain ⟨r2, rfl, rfl, h⟩ := hr
    refine EW_if_eq (tgt := 30) (pc2 := 21) rfl dX12_asks_18 (by decide) (fun q => ?_) (fun q => ?_)
    · replace h := h.1 q
      refine EW_iconst (pc2 := 31) (v := (-1)) rfl dX12_asks_30 (by decide) ?_
      exact AW_iret rfl dX12_asks_31 ⟨_, _, rfl, rfl, h⟩
    · replace h := h.2 q
      refine EW_iload_n (pc2 := 22) rfl dX12_asks_21 3 rfl ?_
      refine EW_iconst (pc2 := 23) (v := 0) rfl dX12_asks_22 (by decide) ?_
      refine EW_iconst (pc2 := 24) (v := 4) rfl dX12_asks_23 (by decide) ?_
      refine AW_invS (M' := MX12_isIn) [.int v3, .int 0, .int 4] (rest := []) mlRX12_307 okX12_isIn (pc2 := 27) rfl dX12_asks_24 rfl rfl (Nat.le_of_ble_eq_true rfl) (Nat.le_of_ble_eq_true rfl) (d' := 0) (by omega) (EW_mono (fun _ _ hr => ?_) (sX12_isIn v3 0 4  (wr x 246 0 0) _ _ 0 0 (Nat.le_refl _) h))
      obtain ⟨r3, rfl, rfl, h⟩ := hr
      refine EW_if_ne (tgt := 32) (pc2 := 30) rfl dX12_asks_27 (by decide) (fun q => ?_) (fun q => ?_)
      · replace h := h.1 q
        refine EW_aload_n (pc2 := 33) rfl dX12_asks_32 0 rfl ?_
        refine EW_iload_n (pc2 := 34) rfl dX12_asks_33 1 rfl ?_
        refine EW_iload_n (pc2 := 35) rfl dX12_asks_34 2 rfl ?_
        refine AW_invV (M' := MX12_askFor) [.int v1, .int v2] (rest := []) mlRX12_540 okX12_askFor (pc2 := 38) rfl dX12_asks_35 rfl rfl (Nat.le_of_ble_eq_true rfl) (Nat.le_of_ble_eq_true rfl) (d' := 210) (by omega) q246 ⟨by decide, rfl⟩ (EW_mono (fun _ _ hr => ?_) (sX12_askFor v1 v2  (wr x 246 0 0) _ _ 0 0 (Nat.le_refl _) h))
        obtain ⟨x4, rfl, rfl, h⟩ := hr
        refine EW_aload_n (pc2 := 39) rfl dX12_asks_38 0 rfl ?_
        refine AW_getr (r := 308) ⟨gfRX12_195, rfl⟩ (pc2 := 42) rfl dX12_asks_39 q246 rfl ?_
        refine EW_iload_n (pc2 := 43) rfl dX12_asks_42 3 rfl ?_
        obtain ⟨b5, h⟩ := h
        refine AW_iald (pc2 := 44) rfl dX12_asks_43 q308 b5 ?_
        exact AW_iret rfl dX12_asks_44 ⟨_, _, rfl, rfl, h⟩
      · replace h := h.2 q
        refine EW_iconst (pc2 := 31) (v := (-1)) rfl dX12_asks_30 (by decide) ?_
        exact AW_iret rfl dX12_asks_31 ⟨_, _, rfl, rfl, h⟩
theorem gfRX12_35 : ab_L RX12 35 12 11 := ⟨by decide, by decide, ab_in 1860 (by decide +kernel) (by decide +kernel)⟩
abbrev MX12_bears : ab_M := (yX12_bears, cX12_bears, 2, (some .int))
theorem dX12_bears_0 : decode cX12_bears 0 = .ok (.aload_n 0, 1) := by decide +kernel
theorem dX12_bears_1 : decode cX12_bears 1 = .ok (.getfield 41, 3) := by decide +kernel
theorem dX12_bears_4 : decode cX12_bears 4 = .ok (.iload_n 1, 1) := by decide +kernel
theorem dX12_bears_5 : decode cX12_bears 5 = .ok (.iaload, 1) := by decide +kernel
theorem dX12_bears_6 : decode cX12_bears 6 = .ok (.aload_n 0, 1) := by decide +kernel
theorem dX12_bears_7 : decode cX12_bears 7 = .ok (.getfield 35, 3) := by decide +kernel
theorem dX12_bears_10 : decode cX12_bears 10 = .ok (.iload_n 1, 1) := by decide +kernel
theorem dX12_bears_11 : decode cX12_bears 11 = .ok (.iaload, 1) := by decide +kernel
theorem dX12_bears_12 : decode cX12_bears 12 = .ok (.ifCond .ne 8, 3) := by decide +kernel
theorem dX12_bears_15 : decode cX12_bears 15 = .ok (.bipush 60, 2) := by decide +kernel
theorem dX12_bears_17 : decode cX12_bears 17 = .ok (.goto 21, 3) := by decide +kernel
theorem dX12_bears_20 : decode cX12_bears 20 = .ok (.aload_n 0, 1) := by decide +kernel
theorem dX12_bears_21 : decode cX12_bears 21 = .ok (.getfield 35, 3) := by decide +kernel
theorem dX12_bears_24 : decode cX12_bears 24 = .ok (.iload_n 1, 1) := by decide +kernel
theorem dX12_bears_25 : decode cX12_bears 25 = .ok (.iaload, 1) := by decide +kernel
theorem dX12_bears_26 : decode cX12_bears 26 = .ok (.iconst 1, 1) := by decide +kernel
theorem dX12_bears_27 : decode cX12_bears 27 = .ok (.if_icmp .ne 8, 3) := by decide +kernel
theorem dX12_bears_30 : decode cX12_bears 30 = .ok (.bipush 100, 2) := by decide +kernel
theorem dX12_bears_32 : decode cX12_bears 32 = .ok (.goto 6, 3) := by decide +kernel
theorem dX12_bears_35 : decode cX12_bears 35 = .ok (.sipush 140, 3) := by decide +kernel
theorem dX12_bears_38 : decode cX12_bears 38 = .ok (.imul, 1) := by decide +kernel
theorem dX12_bears_39 : decode cX12_bears 39 = .ok (.ireturn, 1) := by decide +kernel
theorem okX12_bears : ab_okM MX12_bears 1 := ⟨by decide, ⟨by decide, by decide⟩, ab_in 2586 (by decide +kernel) (by decide +kernel), ab_in 99 (by decide +kernel) (by decide +kernel), by decide +kernel, by decide⟩
set_option maxHeartbeats 4000000 in
set_option maxRecDepth 100000 in
theorem sX12_bears (v1 : Int32)  (x : ab_X) (K : Int32 → Prop) (d bc bs : Nat) (hdp : 0 ≤ d) (h : wX12_bears v1 x K) : EW MX12_bears 0 [(0, .ref 246), (1, .int v1)] [] (aS x) d bc bs (liP x K) := by
  unfold wX12_bears at h
  refine EW_aload_n (pc2 := 1) rfl dX12_bears_0 0 rfl ?_
  refine AW_getr (r := 257) ⟨gfRX12_41, rfl⟩ (pc2 := 4) rfl dX12_bears_1 q246 rfl ?_
  refine EW_iload_n (pc2 := 5) rfl dX12_bears_4 1 rfl ?_
  obtain ⟨b1, h⟩ := h
  refine AW_iald (pc2 := 6) rfl dX12_bears_5 q257 b1 ?_
  refine EW_aload_n (pc2 := 7) rfl dX12_bears_6 0 rfl ?_
  refine AW_getr (r := 255) ⟨gfRX12_35, rfl⟩ (pc2 := 10) rfl dX12_bears_7 q246 rfl ?_
  refine EW_iload_n (pc2 := 11) rfl dX12_bears_10 1 rfl ?_
  obtain ⟨b2, h⟩ := h
  refine AW_iald (pc2 := 12) rfl dX12_bears_11 q255 b2 ?_
  refine EW_if_ne (tgt := 20) (pc2 := 15) rfl dX12_bears_12 (by decide) (fun q => ?_) (fun q => ?_)
  · replace h := h.1 q
    refine EW_aload_n (pc2 := 21) rfl dX12_bears_20 0 rfl ?_
    refine AW_getr (r := 255) ⟨gfRX12_35, rfl⟩ (pc2 := 24) rfl dX12_bears_21 q246 rfl ?_
    refine EW_iload_n (pc2 := 25) rfl dX12_bears_24 1 rfl ?_
    obtain ⟨b3, h⟩ := h
    refine AW_iald (pc2 := 26) rfl dX12_bears_25 q255 b3 ?_
    refine EW_iconst (pc2 := 27) (v := 1) rfl dX12_bears_26 (by decide) ?_
    refine EW_icmp_ne (tgt := 35) (pc2 := 30) rfl dX12_bears_27 (by decide) (fun q => ?_) (fun q => ?_)
    · replace h := h.1 q
      refine EW_sipush (pc2 := 38) (v := 140) rfl dX12_bears_35 (by decide) ?_
      refine EW_imul (pc2 := 39) rfl dX12_bears_38 ?_
      exact AW_iret rfl dX12_bears_39 ⟨_, rfl, rfl, h⟩
    · replace h := h.2 q
      refine EW_bipush (pc2 := 32) (v := 100) rfl dX12_bears_30 (by decide) ?_
      refine EW_goto (tgt := 38) dX12_bears_32 (by decide) ?_
      refine EW_imul (pc2 := 39) rfl dX12_bears_38 ?_
      exact AW_iret rfl dX12_bears_39 ⟨_, rfl, rfl, h⟩
  · replace h := h.2 q
    refine EW_bipush (pc2 := 17) (v := 60) rfl dX12_bears_15 (by decide) ?_
    refine EW_goto (tgt := 38) dX12_bears_17 (by decide) ?_
    refine EW_imul (pc2 := 39) rfl dX12_bears_38 ?_
    exact AW_iret rfl dX12_bears_39 ⟨_, rfl, rfl, h⟩
abbrev MX12_beside : ab_M := (yX12_beside, cX12_beside, 4, (some .int))
theorem dX12_beside_0 : decode cX12_beside 0 = .ok (.iload_n 1, 1) := by decide +kernel
theorem dX12_beside_1 : decode cX12_beside 1 = .ok (.iload_n 2, 1) := by decide +kernel
theorem dX12_beside_2 : decode cX12_beside 2 = .ok (.iadd, 1) := by decide +kernel
theorem dX12_beside_3 : decode cX12_beside 3 = .ok (.istore_n 3, 1) := by decide +kernel
theorem dX12_beside_4 : decode cX12_beside 4 = .ok (.iload_n 3, 1) := by decide +kernel
theorem dX12_beside_5 : decode cX12_beside 5 = .ok (.ifCond .lt 33, 3) := by decide +kernel
theorem dX12_beside_8 : decode cX12_beside 8 = .ok (.iload_n 3, 1) := by decide +kernel
theorem dX12_beside_9 : decode cX12_beside 9 = .ok (.aload_n 0, 1) := by decide +kernel
theorem dX12_beside_10 : decode cX12_beside 10 = .ok (.getfield 331, 3) := by decide +kernel
theorem dX12_beside_13 : decode cX12_beside 13 = .ok (.if_icmp .ge 25, 3) := by decide +kernel
theorem dX12_beside_16 : decode cX12_beside 16 = .ok (.aload_n 0, 1) := by decide +kernel
theorem dX12_beside_17 : decode cX12_beside 17 = .ok (.getfield 32, 3) := by decide +kernel
theorem dX12_beside_20 : decode cX12_beside 20 = .ok (.iload_n 3, 1) := by decide +kernel
theorem dX12_beside_21 : decode cX12_beside 21 = .ok (.iaload, 1) := by decide +kernel
theorem dX12_beside_22 : decode cX12_beside 22 = .ok (.aload_n 0, 1) := by decide +kernel
theorem dX12_beside_23 : decode cX12_beside 23 = .ok (.getfield 32, 3) := by decide +kernel
theorem dX12_beside_26 : decode cX12_beside 26 = .ok (.iload_n 1, 1) := by decide +kernel
theorem dX12_beside_27 : decode cX12_beside 27 = .ok (.iaload, 1) := by decide +kernel
theorem dX12_beside_28 : decode cX12_beside 28 = .ok (.if_icmp .eq 10, 3) := by decide +kernel
theorem dX12_beside_31 : decode cX12_beside 31 = .ok (.iload_n 3, 1) := by decide +kernel
theorem dX12_beside_32 : decode cX12_beside 32 = .ok (.iload_n 2, 1) := by decide +kernel
theorem dX12_beside_33 : decode cX12_beside 33 = .ok (.iadd, 1) := by decide +kernel
theorem dX12_beside_34 : decode cX12_beside 34 = .ok (.istore_n 3, 1) := by decide +kernel
theorem dX12_beside_35 : decode cX12_beside 35 = .ok (.goto (-31), 3) := by decide +kernel
theorem dX12_beside_38 : decode cX12_beside 38 = .ok (.iload_n 3, 1) := by decide +kernel
theorem dX12_beside_39 : decode cX12_beside 39 = .ok (.ifCond .lt 15, 3) := by decide +kernel
theorem dX12_beside_42 : decode cX12_beside 42 = .ok (.iload_n 3, 1) := by decide +kernel
theorem dX12_beside_43 : decode cX12_beside 43 = .ok (.aload_n 0, 1) := by decide +kernel
theorem dX12_beside_44 : decode cX12_beside 44 = .ok (.getfield 331, 3) := by decide +kernel
theorem dX12_beside_47 : decode cX12_beside 47 = .ok (.if_icmp .ge 7, 3) := by decide +kernel
theorem dX12_beside_50 : decode cX12_beside 50 = .ok (.iload_n 3, 1) := by decide +kernel
theorem dX12_beside_51 : decode cX12_beside 51 = .ok (.goto 4, 3) := by decide +kernel
theorem dX12_beside_54 : decode cX12_beside 54 = .ok (.iconst (-1), 1) := by decide +kernel
theorem dX12_beside_55 : decode cX12_beside 55 = .ok (.ireturn, 1) := by decide +kernel
theorem okX12_beside : ab_okM MX12_beside 2 := ⟨by decide, ⟨by decide, by decide⟩, ab_in 2598 (by decide +kernel) (by decide +kernel), ab_in 99 (by decide +kernel) (by decide +kernel), by decide +kernel, by decide⟩
set_option maxHeartbeats 4000000 in
set_option maxRecDepth 100000 in
theorem sX12_beside_38 (v3 : Int32)  (x : ab_X) (K : Int32 → Prop)  (d bc bs : Nat) (hdp : 0 ≤ d)  (h : wX12_beside_38 v3 x K ) : EW MX12_beside 38 [(0, .ref 246), (3, .int v3)] [] (aS x) d bc bs (liP x K) := by
  unfold wX12_beside_38 at h
  refine EW_iload_n (pc2 := 39) rfl dX12_beside_38 1 rfl ?_
  refine EW_if_lt (tgt := 54) (pc2 := 42) rfl dX12_beside_39 (by decide) (fun q => ?_) (fun q => ?_)
  · replace h := h.1 q
    refine EW_iconst (pc2 := 55) (v := (-1)) rfl dX12_beside_54 (by decide) ?_
    exact AW_iret rfl dX12_beside_55 ⟨_, rfl, rfl, h⟩
  · replace h := h.2 q
    refine EW_iload_n (pc2 := 43) rfl dX12_beside_42 1 rfl ?_
    refine EW_aload_n (pc2 := 44) rfl dX12_beside_43 0 rfl ?_
    refine AW_geti ⟨gfRX12_331, rfl⟩ (pc2 := 47) rfl dX12_beside_44 q246 ?_
    refine EW_icmp_ge (tgt := 54) (pc2 := 50) rfl dX12_beside_47 (by decide) (fun q => ?_) (fun q => ?_)
    · replace h := h.1 q
      refine EW_iconst (pc2 := 55) (v := (-1)) rfl dX12_beside_54 (by decide) ?_
      exact AW_iret rfl dX12_beside_55 ⟨_, rfl, rfl, h⟩
    · replace h := h.2 q
      refine EW_iload_n (pc2 := 51) rfl dX12_beside_50 1 rfl ?_
      refine EW_goto (tgt := 55) dX12_beside_51 (by decide) ?_
      exact AW_iret rfl dX12_beside_55 ⟨_, rfl, rfl, h⟩
set_option maxHeartbeats 4000000 in
set_option maxRecDepth 100000 in
theorem sX12_beside_4 (v1 : Int32) (v2 : Int32) (v3 : Int32)  (x : ab_X) (K : Int32 → Prop)  (d bc bs : Nat) (hdp : 0 ≤ d)  (h : Lp1 (lX12_beside_4 v1 v2 x K ) v3) : EW MX12_beside 4 [(0, .ref 246), (1, .int v1), (2, .int v2), (3, .int v3)] [] (aS x) d bc bs (liP x K) := by
  refine Lp1.use (P := fun v3 => EW MX12_beside 4 [(0, .ref 246), (1, .int v1), (2, .int v2), (3, .int v3)] [] (aS x) d bc bs (liP x K)) (fun L4 v3 hL4 h => ?_) v3 h
  unfold lX12_beside_4 at h
  refine EW_iload_n (pc2 := 5) rfl dX12_beside_4 3 rfl ?_
  refine EW_if_lt (tgt := 38) (pc2 := 8) rfl dX12_beside_5 (by decide) (fun q => ?_) (fun q => ?_)
  · replace h := h.1 q
    refine EW_ls [0, 3] rfl ?_
    exact sX12_beside_38 v3 x K d bc bs hdp h
  · replace h := h.2 q
    refine EW_iload_n (pc2 := 9) rfl dX12_beside_8 3 rfl ?_
    refine EW_aload_n (pc2 := 10) rfl dX12_beside_9 0 rfl ?_
    refine AW_geti ⟨gfRX12_331, rfl⟩ (pc2 := 13) rfl dX12_beside_10 q246 ?_
    refine EW_icmp_ge (tgt := 38) (pc2 := 16) rfl dX12_beside_13 (by decide) (fun q => ?_) (fun q => ?_)
    · replace h := h.1 q
      refine EW_ls [0, 3] rfl ?_
      exact sX12_beside_38 v3 x K d bc bs hdp h
    · replace h := h.2 q
      refine EW_aload_n (pc2 := 17) rfl dX12_beside_16 0 rfl ?_
      refine AW_getr (r := 254) ⟨gfRX12_32, rfl⟩ (pc2 := 20) rfl dX12_beside_17 q246 rfl ?_
      refine EW_iload_n (pc2 := 21) rfl dX12_beside_20 3 rfl ?_
      obtain ⟨b1, h⟩ := h
      refine AW_iald (pc2 := 22) rfl dX12_beside_21 q254 b1 ?_
      refine EW_aload_n (pc2 := 23) rfl dX12_beside_22 0 rfl ?_
      refine AW_getr (r := 254) ⟨gfRX12_32, rfl⟩ (pc2 := 26) rfl dX12_beside_23 q246 rfl ?_
      refine EW_iload_n (pc2 := 27) rfl dX12_beside_26 1 rfl ?_
      obtain ⟨b2, h⟩ := h
      refine AW_iald (pc2 := 28) rfl dX12_beside_27 q254 b2 ?_
      refine EW_icmp_eq (tgt := 38) (pc2 := 31) rfl dX12_beside_28 (by decide) (fun q => ?_) (fun q => ?_)
      · replace h := h.1 q
        refine EW_ls [0, 3] rfl ?_
        exact sX12_beside_38 v3 x K d bc bs hdp h
      · replace h := h.2 q
        refine EW_iload_n (pc2 := 32) rfl dX12_beside_31 3 rfl ?_
        refine EW_iload_n (pc2 := 33) rfl dX12_beside_32 2 rfl ?_
        refine EW_iadd (pc2 := 34) rfl dX12_beside_33 ?_
        refine EW_istore_n (pc2 := 35) rfl dX12_beside_34 (by decide) [1, 2, 3, 0] [(0, .ref 246), (1, .int v1), (2, .int v2), (3, .int (v3 + v2))] rfl ?_
        refine EW_goto (tgt := 4) dX12_beside_35 (by decide) ?_
        exact hL4 (v3 + v2) h
set_option maxHeartbeats 4000000 in
set_option maxRecDepth 100000 in
theorem sX12_beside (v1 : Int32) (v2 : Int32)  (x : ab_X) (K : Int32 → Prop) (d bc bs : Nat) (hdp : 0 ≤ d) (h : wX12_beside v1 v2 x K) : EW MX12_beside 0 [(0, .ref 246), (1, .int v1), (2, .int v2)] [] (aS x) d bc bs (liP x K) := by
  unfold wX12_beside at h
  refine EW_iload_n (pc2 := 1) rfl dX12_beside_0 1 rfl ?_
  refine EW_iload_n (pc2 := 2) rfl dX12_beside_1 2 rfl ?_
  refine EW_iadd (pc2 := 3) rfl dX12_beside_2 ?_
  refine EW_istore_n (pc2 := 4) rfl dX12_beside_3 (by decide) [1, 2, 3, 0] [(0, .ref 246), (1, .int v1), (2, .int v2), (3, .int (v1 + v2))] rfl ?_
  exact sX12_beside_4 v1 v2 (v1 + v2) x K d bc bs hdp h
abbrev MX12_isHouse : ab_M := (yX12_isHouse, cX12_isHouse, 2, (some .boolean))
theorem dX12_isHouse_0 : decode cX12_isHouse 0 = .ok (.iload_n 1, 1) := by decide +kernel
theorem dX12_isHouse_1 : decode cX12_isHouse 1 = .ok (.ifCond .lt 15, 3) := by decide +kernel
theorem dX12_isHouse_4 : decode cX12_isHouse 4 = .ok (.iload_n 1, 1) := by decide +kernel
theorem dX12_isHouse_5 : decode cX12_isHouse 5 = .ok (.aload_n 0, 1) := by decide +kernel
theorem dX12_isHouse_6 : decode cX12_isHouse 6 = .ok (.getfield 331, 3) := by decide +kernel
theorem dX12_isHouse_9 : decode cX12_isHouse 9 = .ok (.if_icmp .ge 7, 3) := by decide +kernel
theorem dX12_isHouse_12 : decode cX12_isHouse 12 = .ok (.iconst 1, 1) := by decide +kernel
theorem dX12_isHouse_13 : decode cX12_isHouse 13 = .ok (.goto 4, 3) := by decide +kernel
theorem dX12_isHouse_16 : decode cX12_isHouse 16 = .ok (.iconst 0, 1) := by decide +kernel
theorem dX12_isHouse_17 : decode cX12_isHouse 17 = .ok (.ireturn, 1) := by decide +kernel
theorem okX12_isHouse : ab_okM MX12_isHouse 1 := ⟨by decide, ⟨by decide, by decide⟩, ab_in 2271 (by decide +kernel) (by decide +kernel), ab_in 99 (by decide +kernel) (by decide +kernel), by decide +kernel, by decide⟩
set_option maxHeartbeats 4000000 in
set_option maxRecDepth 100000 in
theorem sX12_isHouse (v1 : Int32)  (x : ab_X) (K : Int32 → Prop) (d bc bs : Nat) (hdp : 0 ≤ d) (h : wX12_isHouse v1 x K) : EW MX12_isHouse 0 [(0, .ref 246), (1, .int v1)] [] (aS x) d bc bs (liP x K) := by
  unfold wX12_isHouse at h
  refine EW_iload_n (pc2 := 1) rfl dX12_isHouse_0 1 rfl ?_
  refine EW_if_lt (tgt := 16) (pc2 := 4) rfl dX12_isHouse_1 (by decide) (fun q => ?_) (fun q => ?_)
  · replace h := h.1 q
    refine EW_iconst (pc2 := 17) (v := 0) rfl dX12_isHouse_16 (by decide) ?_
    exact AW_zret rfl isB0 dX12_isHouse_17 ⟨_, rfl, rfl, h⟩
  · replace h := h.2 q
    refine EW_iload_n (pc2 := 5) rfl dX12_isHouse_4 1 rfl ?_
    refine EW_aload_n (pc2 := 6) rfl dX12_isHouse_5 0 rfl ?_
    refine AW_geti ⟨gfRX12_331, rfl⟩ (pc2 := 9) rfl dX12_isHouse_6 q246 ?_
    refine EW_icmp_ge (tgt := 16) (pc2 := 12) rfl dX12_isHouse_9 (by decide) (fun q => ?_) (fun q => ?_)
    · replace h := h.1 q
      refine EW_iconst (pc2 := 17) (v := 0) rfl dX12_isHouse_16 (by decide) ?_
      exact AW_zret rfl isB0 dX12_isHouse_17 ⟨_, rfl, rfl, h⟩
    · replace h := h.2 q
      refine EW_iconst (pc2 := 13) (v := 1) rfl dX12_isHouse_12 (by decide) ?_
      refine EW_goto (tgt := 17) dX12_isHouse_13 (by decide) ?_
      exact AW_zret rfl isB1 dX12_isHouse_17 ⟨_, rfl, rfl, h⟩
theorem mlRX12_334 : Cond.methodLink RX12 334 yX12_isHouse ∈ ab_G ∧ Cond.instanceMethod yX12_isHouse ∈ ab_G ∧ Cond.selects RX12 yX12_isHouse yX12_isHouse ∈ ab_G := ⟨ab_in 2268 (by decide +kernel) (by decide +kernel), ab_in 2270 (by decide +kernel) (by decide +kernel), ab_in 17 (by decide +kernel) (by decide +kernel)⟩
theorem gfRX12_65 : ab_L RX12 65 12 21 := ⟨by decide, by decide, ab_in 1870 (by decide +kernel) (by decide +kernel)⟩
theorem gfRX12_47 : ab_L RX12 47 12 15 := ⟨by decide, by decide, ab_in 1864 (by decide +kernel) (by decide +kernel)⟩
abbrev MX12_build : ab_M := (yX12_build, cX12_build, 5, (some .boolean))
theorem dX12_build_0 : decode cX12_build 0 = .ok (.aload_n 0, 1) := by decide +kernel
theorem dX12_build_1 : decode cX12_build 1 = .ok (.iconst 0, 1) := by decide +kernel
theorem dX12_build_2 : decode cX12_build 2 = .ok (.putfield 297, 3) := by decide +kernel
theorem dX12_build_5 : decode cX12_build 5 = .ok (.aload_n 0, 1) := by decide +kernel
theorem dX12_build_6 : decode cX12_build 6 = .ok (.iload_n 1, 1) := by decide +kernel
theorem dX12_build_7 : decode cX12_build 7 = .ok (.invokevirtual 334, 3) := by decide +kernel
theorem dX12_build_10 : decode cX12_build 10 = .ok (.ifCond .eq 24, 3) := by decide +kernel
theorem dX12_build_13 : decode cX12_build 13 = .ok (.iload_n 3, 1) := by decide +kernel
theorem dX12_build_14 : decode cX12_build 14 = .ok (.iconst 0, 1) := by decide +kernel
theorem dX12_build_15 : decode cX12_build 15 = .ok (.iconst 3, 1) := by decide +kernel
theorem dX12_build_16 : decode cX12_build 16 = .ok (.invokestatic 307, 3) := by decide +kernel
theorem dX12_build_19 : decode cX12_build 19 = .ok (.ifCond .eq 15, 3) := by decide +kernel
theorem dX12_build_22 : decode cX12_build 22 = .ok (.iload 4, 2) := by decide +kernel
theorem dX12_build_24 : decode cX12_build 24 = .ok (.iconst 1, 1) := by decide +kernel
theorem dX12_build_25 : decode cX12_build 25 = .ok (.sipush 200, 3) := by decide +kernel
theorem dX12_build_28 : decode cX12_build 28 = .ok (.invokestatic 307, 3) := by decide +kernel
theorem dX12_build_31 : decode cX12_build 31 = .ok (.ifCond .ne 5, 3) := by decide +kernel
theorem dX12_build_34 : decode cX12_build 34 = .ok (.iconst 0, 1) := by decide +kernel
theorem dX12_build_35 : decode cX12_build 35 = .ok (.ireturn, 1) := by decide +kernel
theorem dX12_build_36 : decode cX12_build 36 = .ok (.aload_n 0, 1) := by decide +kernel
theorem dX12_build_37 : decode cX12_build 37 = .ok (.getfield 65, 3) := by decide +kernel
theorem dX12_build_40 : decode cX12_build 40 = .ok (.iload_n 1, 1) := by decide +kernel
theorem dX12_build_41 : decode cX12_build 41 = .ok (.iload_n 2, 1) := by decide +kernel
theorem dX12_build_42 : decode cX12_build 42 = .ok (.bastore, 1) := by decide +kernel
theorem dX12_build_43 : decode cX12_build 43 = .ok (.aload_n 0, 1) := by decide +kernel
theorem dX12_build_44 : decode cX12_build 44 = .ok (.getfield 47, 3) := by decide +kernel
theorem dX12_build_47 : decode cX12_build 47 = .ok (.iload_n 1, 1) := by decide +kernel
theorem dX12_build_48 : decode cX12_build 48 = .ok (.iload_n 3, 1) := by decide +kernel
theorem dX12_build_49 : decode cX12_build 49 = .ok (.iastore, 1) := by decide +kernel
theorem dX12_build_50 : decode cX12_build 50 = .ok (.aload_n 0, 1) := by decide +kernel
theorem dX12_build_51 : decode cX12_build 51 = .ok (.getfield 50, 3) := by decide +kernel
theorem dX12_build_54 : decode cX12_build 54 = .ok (.iload_n 1, 1) := by decide +kernel
theorem dX12_build_55 : decode cX12_build 55 = .ok (.iload 4, 2) := by decide +kernel
theorem dX12_build_57 : decode cX12_build 57 = .ok (.iastore, 1) := by decide +kernel
theorem dX12_build_58 : decode cX12_build 58 = .ok (.iconst 1, 1) := by decide +kernel
theorem dX12_build_59 : decode cX12_build 59 = .ok (.ireturn, 1) := by decide +kernel
theorem okX12_build : ab_okM MX12_build 4 := ⟨by decide, ⟨by decide, by decide⟩, ab_in 2267 (by decide +kernel) (by decide +kernel), ab_in 99 (by decide +kernel) (by decide +kernel), by decide +kernel, by decide⟩
set_option maxHeartbeats 4000000 in
set_option maxRecDepth 100000 in
theorem sX12_build (v1 : Int32) (v2 : Int32) (v3 : Int32) (v4 : Int32)  (x : ab_X) (K : Int32 → ab_X → Prop) (d bc bs : Nat) (hdp : 1 ≤ d) (h : wX12_build v1 v2 v3 v4 x K) : EW MX12_build 0 [(0, .ref 246), (1, .int v1), (2, .int v2), (3, .int v3), (4, .int v4)] [] (aS x) d bc bs (liI K) := by
  unfold wX12_build at h
  refine EW_aload_n (pc2 := 1) rfl dX12_build_0 0 rfl ?_
  refine EW_iconst (pc2 := 2) (v := 0) rfl dX12_build_1 (by decide) ?_
  refine AW_puti ⟨gfRX12_297, rfl, rfl⟩ (pc2 := 5) rfl dX12_build_2 q246 ?_
  refine EW_aload_n (pc2 := 6) rfl dX12_build_5 0 rfl ?_
  refine EW_iload_n (pc2 := 7) rfl dX12_build_6 1 rfl ?_
  refine AW_invV (M' := MX12_isHouse) [.int v1] (rest := []) mlRX12_334 okX12_isHouse (pc2 := 10) rfl dX12_build_7 rfl rfl (Nat.le_of_ble_eq_true rfl) (Nat.le_of_ble_eq_true rfl) (d' := 0) (by omega) q246 ⟨by decide, rfl⟩ (EW_mono (fun _ _ hr => ?_) (sX12_isHouse v1  (wr x 246 0 0) _ _ 0 0 (Nat.le_refl _) h))
  obtain ⟨r1, rfl, rfl, h⟩ := hr
  refine EW_if_eq (tgt := 34) (pc2 := 13) rfl dX12_build_10 (by decide) (fun q => ?_) (fun q => ?_)
  · replace h := h.1 q
    refine EW_iconst (pc2 := 35) (v := 0) rfl dX12_build_34 (by decide) ?_
    exact AW_zret rfl isB0 dX12_build_35 ⟨_, _, rfl, rfl, h⟩
  · replace h := h.2 q
    refine EW_iload_n (pc2 := 14) rfl dX12_build_13 3 rfl ?_
    refine EW_iconst (pc2 := 15) (v := 0) rfl dX12_build_14 (by decide) ?_
    refine EW_iconst (pc2 := 16) (v := 3) rfl dX12_build_15 (by decide) ?_
    refine AW_invS (M' := MX12_isIn) [.int v3, .int 0, .int 3] (rest := []) mlRX12_307 okX12_isIn (pc2 := 19) rfl dX12_build_16 rfl rfl (Nat.le_of_ble_eq_true rfl) (Nat.le_of_ble_eq_true rfl) (d' := 0) (by omega) (EW_mono (fun _ _ hr => ?_) (sX12_isIn v3 0 3  (wr x 246 0 0) _ _ 0 0 (Nat.le_refl _) h))
    obtain ⟨r2, rfl, rfl, h⟩ := hr
    refine EW_if_eq (tgt := 34) (pc2 := 22) rfl dX12_build_19 (by decide) (fun q => ?_) (fun q => ?_)
    · replace h := h.1 q
      refine EW_iconst (pc2 := 35) (v := 0) rfl dX12_build_34 (by decide) ?_
      exact AW_zret rfl isB0 dX12_build_35 ⟨_, _, rfl, rfl, h⟩
    · replace h := h.2 q
      refine EW_iload (pc2 := 24) rfl dX12_build_22 4 rfl ?_
      refine EW_iconst (pc2 := 25) (v := 1) rfl dX12_build_24 (by decide) ?_
      refine EW_sipush (pc2 := 28) (v := 200) rfl dX12_build_25 (by decide) ?_
      refine AW_invS (M' := MX12_isIn) [.int v4, .int 1, .int 200] (rest := []) mlRX12_307 okX12_isIn (pc2 := 31) rfl dX12_build_28 rfl rfl (Nat.le_of_ble_eq_true rfl) (Nat.le_of_ble_eq_true rfl) (d' := 0) (by omega) (EW_mono (fun _ _ hr => ?_) (sX12_isIn v4 1 200  (wr x 246 0 0) _ _ 0 0 (Nat.le_refl _) h))
      obtain ⟨r3, rfl, rfl, h⟩ := hr
      refine EW_if_ne (tgt := 36) (pc2 := 34) rfl dX12_build_31 (by decide) (fun q => ?_) (fun q => ?_)
      · replace h := h.1 q
        refine EW_aload_n (pc2 := 37) rfl dX12_build_36 0 rfl ?_
        refine AW_getr (r := 265) ⟨gfRX12_65, rfl⟩ (pc2 := 40) rfl dX12_build_37 q246 rfl ?_
        refine EW_iload_n (pc2 := 41) rfl dX12_build_40 1 rfl ?_
        refine EW_iload_n (pc2 := 42) rfl dX12_build_41 2 rfl ?_
        obtain ⟨b4, h⟩ := h
        obtain ⟨z5, h⟩ := h
        refine AW_zast (pc2 := 43) rfl dX12_build_42 q265 b4 z5 ?_
        refine EW_aload_n (pc2 := 44) rfl dX12_build_43 0 rfl ?_
        refine AW_getr (r := 259) ⟨gfRX12_47, rfl⟩ (pc2 := 47) rfl dX12_build_44 q246 rfl ?_
        refine EW_iload_n (pc2 := 48) rfl dX12_build_47 1 rfl ?_
        refine EW_iload_n (pc2 := 49) rfl dX12_build_48 3 rfl ?_
        obtain ⟨b6, h⟩ := h
        refine AW_iast (pc2 := 50) rfl dX12_build_49 q259 b6 ?_
        refine EW_aload_n (pc2 := 51) rfl dX12_build_50 0 rfl ?_
        refine AW_getr (r := 260) ⟨gfRX12_50, rfl⟩ (pc2 := 54) rfl dX12_build_51 q246 rfl ?_
        refine EW_iload_n (pc2 := 55) rfl dX12_build_54 1 rfl ?_
        refine EW_iload (pc2 := 57) rfl dX12_build_55 4 rfl ?_
        obtain ⟨b7, h⟩ := h
        refine AW_iast (pc2 := 58) rfl dX12_build_57 q260 b7 ?_
        refine EW_iconst (pc2 := 59) (v := 1) rfl dX12_build_58 (by decide) ?_
        exact AW_zret rfl isB1 dX12_build_59 ⟨_, _, rfl, rfl, h⟩
      · replace h := h.2 q
        refine EW_iconst (pc2 := 35) (v := 0) rfl dX12_build_34 (by decide) ?_
        exact AW_zret rfl isB0 dX12_build_35 ⟨_, _, rfl, rfl, h⟩
theorem gfRX12_59 : ab_L RX12 59 12 19 := ⟨by decide, by decide, ab_in 1868 (by decide +kernel) (by decide +kernel)⟩
theorem gfRX12_86 : ab_L RX12 86 12 28 := ⟨by decide, by decide, ab_in 1877 (by decide +kernel) (by decide +kernel)⟩
abbrev MX12_falls : ab_M := (yX12_falls, cX12_falls, 7, none)
theorem dX12_falls_0 : decode cX12_falls 0 = .ok (.aload_n 0, 1) := by decide +kernel
theorem dX12_falls_1 : decode cX12_falls 1 = .ok (.getfield 92, 3) := by decide +kernel
theorem dX12_falls_4 : decode cX12_falls 4 = .ok (.bipush 6, 2) := by decide +kernel
theorem dX12_falls_6 : decode cX12_falls 6 = .ok (.iload_n 1, 1) := by decide +kernel
theorem dX12_falls_7 : decode cX12_falls 7 = .ok (.imul, 1) := by decide +kernel
theorem dX12_falls_8 : decode cX12_falls 8 = .ok (.iload_n 2, 1) := by decide +kernel
theorem dX12_falls_9 : decode cX12_falls 9 = .ok (.iadd, 1) := by decide +kernel
theorem dX12_falls_10 : decode cX12_falls 10 = .ok (.iconst 1, 1) := by decide +kernel
theorem dX12_falls_11 : decode cX12_falls 11 = .ok (.bastore, 1) := by decide +kernel
theorem dX12_falls_12 : decode cX12_falls 12 = .ok (.iconst 0, 1) := by decide +kernel
theorem dX12_falls_13 : decode cX12_falls 13 = .ok (.istore 4, 2) := by decide +kernel
theorem dX12_falls_15 : decode cX12_falls 15 = .ok (.iload 4, 2) := by decide +kernel
theorem dX12_falls_17 : decode cX12_falls 17 = .ok (.aload_n 0, 1) := by decide +kernel
theorem dX12_falls_18 : decode cX12_falls 18 = .ok (.getfield 41, 3) := by decide +kernel
theorem dX12_falls_21 : decode cX12_falls 21 = .ok (.iload_n 1, 1) := by decide +kernel
theorem dX12_falls_22 : decode cX12_falls 22 = .ok (.iaload, 1) := by decide +kernel
theorem dX12_falls_23 : decode cX12_falls 23 = .ok (.if_icmp .ge 122, 3) := by decide +kernel
theorem dX12_falls_26 : decode cX12_falls 26 = .ok (.bipush 24, 2) := by decide +kernel
theorem dX12_falls_28 : decode cX12_falls 28 = .ok (.iload_n 1, 1) := by decide +kernel
theorem dX12_falls_29 : decode cX12_falls 29 = .ok (.imul, 1) := by decide +kernel
theorem dX12_falls_30 : decode cX12_falls 30 = .ok (.iload_n 2, 1) := by decide +kernel
theorem dX12_falls_31 : decode cX12_falls 31 = .ok (.aload_n 0, 1) := by decide +kernel
theorem dX12_falls_32 : decode cX12_falls 32 = .ok (.getfield 41, 3) := by decide +kernel
theorem dX12_falls_35 : decode cX12_falls 35 = .ok (.iload_n 1, 1) := by decide +kernel
theorem dX12_falls_36 : decode cX12_falls 36 = .ok (.iaload, 1) := by decide +kernel
theorem dX12_falls_37 : decode cX12_falls 37 = .ok (.imul, 1) := by decide +kernel
theorem dX12_falls_38 : decode cX12_falls 38 = .ok (.iadd, 1) := by decide +kernel
theorem dX12_falls_39 : decode cX12_falls 39 = .ok (.iload 4, 2) := by decide +kernel
theorem dX12_falls_41 : decode cX12_falls 41 = .ok (.iadd, 1) := by decide +kernel
theorem dX12_falls_42 : decode cX12_falls 42 = .ok (.istore 5, 2) := by decide +kernel
theorem dX12_falls_44 : decode cX12_falls 44 = .ok (.iload 5, 2) := by decide +kernel
theorem dX12_falls_46 : decode cX12_falls 46 = .ok (.aload_n 0, 1) := by decide +kernel
theorem dX12_falls_47 : decode cX12_falls 47 = .ok (.getfield 41, 3) := by decide +kernel
theorem dX12_falls_50 : decode cX12_falls 50 = .ok (.iload_n 1, 1) := by decide +kernel
theorem dX12_falls_51 : decode cX12_falls 51 = .ok (.iaload, 1) := by decide +kernel
theorem dX12_falls_52 : decode cX12_falls 52 = .ok (.isub, 1) := by decide +kernel
theorem dX12_falls_53 : decode cX12_falls 53 = .ok (.istore 6, 2) := by decide +kernel
theorem dX12_falls_55 : decode cX12_falls 55 = .ok (.aload_n 0, 1) := by decide +kernel
theorem dX12_falls_56 : decode cX12_falls 56 = .ok (.getfield 71, 3) := by decide +kernel
theorem dX12_falls_59 : decode cX12_falls 59 = .ok (.iload 6, 2) := by decide +kernel
theorem dX12_falls_61 : decode cX12_falls 61 = .ok (.sipush 2000, 3) := by decide +kernel
theorem dX12_falls_64 : decode cX12_falls 64 = .ok (.aload_n 0, 1) := by decide +kernel
theorem dX12_falls_65 : decode cX12_falls 65 = .ok (.getfield 71, 3) := by decide +kernel
theorem dX12_falls_68 : decode cX12_falls 68 = .ok (.iload 6, 2) := by decide +kernel
theorem dX12_falls_70 : decode cX12_falls 70 = .ok (.iaload, 1) := by decide +kernel
theorem dX12_falls_71 : decode cX12_falls 71 = .ok (.aload_n 0, 1) := by decide +kernel
theorem dX12_falls_72 : decode cX12_falls 72 = .ok (.getfield 71, 3) := by decide +kernel
theorem dX12_falls_75 : decode cX12_falls 75 = .ok (.iload 5, 2) := by decide +kernel
theorem dX12_falls_77 : decode cX12_falls 77 = .ok (.iaload, 1) := by decide +kernel
theorem dX12_falls_78 : decode cX12_falls 78 = .ok (.iadd, 1) := by decide +kernel
theorem dX12_falls_79 : decode cX12_falls 79 = .ok (.invokestatic 311, 3) := by decide +kernel
theorem dX12_falls_82 : decode cX12_falls 82 = .ok (.iastore, 1) := by decide +kernel
theorem dX12_falls_83 : decode cX12_falls 83 = .ok (.aload_n 0, 1) := by decide +kernel
theorem dX12_falls_84 : decode cX12_falls 84 = .ok (.getfield 92, 3) := by decide +kernel
theorem dX12_falls_87 : decode cX12_falls 87 = .ok (.bipush 6, 2) := by decide +kernel
theorem dX12_falls_89 : decode cX12_falls 89 = .ok (.iload_n 1, 1) := by decide +kernel
theorem dX12_falls_90 : decode cX12_falls 90 = .ok (.imul, 1) := by decide +kernel
theorem dX12_falls_91 : decode cX12_falls 91 = .ok (.iload_n 2, 1) := by decide +kernel
theorem dX12_falls_92 : decode cX12_falls 92 = .ok (.iadd, 1) := by decide +kernel
theorem dX12_falls_93 : decode cX12_falls 93 = .ok (.iconst 1, 1) := by decide +kernel
theorem dX12_falls_94 : decode cX12_falls 94 = .ok (.isub, 1) := by decide +kernel
theorem dX12_falls_95 : decode cX12_falls 95 = .ok (.baload, 1) := by decide +kernel
theorem dX12_falls_96 : decode cX12_falls 96 = .ok (.ifCond .ne 27, 3) := by decide +kernel
theorem dX12_falls_99 : decode cX12_falls 99 = .ok (.aload_n 0, 1) := by decide +kernel
theorem dX12_falls_100 : decode cX12_falls 100 = .ok (.getfield 68, 3) := by decide +kernel
theorem dX12_falls_103 : decode cX12_falls 103 = .ok (.iload 6, 2) := by decide +kernel
theorem dX12_falls_105 : decode cX12_falls 105 = .ok (.aload_n 0, 1) := by decide +kernel
theorem dX12_falls_106 : decode cX12_falls 106 = .ok (.getfield 68, 3) := by decide +kernel
theorem dX12_falls_109 : decode cX12_falls 109 = .ok (.iload 6, 2) := by decide +kernel
theorem dX12_falls_111 : decode cX12_falls 111 = .ok (.iaload, 1) := by decide +kernel
theorem dX12_falls_112 : decode cX12_falls 112 = .ok (.aload_n 0, 1) := by decide +kernel
theorem dX12_falls_113 : decode cX12_falls 113 = .ok (.getfield 68, 3) := by decide +kernel
theorem dX12_falls_116 : decode cX12_falls 116 = .ok (.iload 5, 2) := by decide +kernel
theorem dX12_falls_118 : decode cX12_falls 118 = .ok (.iaload, 1) := by decide +kernel
theorem dX12_falls_119 : decode cX12_falls 119 = .ok (.invokestatic 357, 3) := by decide +kernel
theorem dX12_falls_122 : decode cX12_falls 122 = .ok (.iastore, 1) := by decide +kernel
theorem dX12_falls_123 : decode cX12_falls 123 = .ok (.aload_n 0, 1) := by decide +kernel
theorem dX12_falls_124 : decode cX12_falls 124 = .ok (.getfield 68, 3) := by decide +kernel
theorem dX12_falls_127 : decode cX12_falls 127 = .ok (.iload 5, 2) := by decide +kernel
theorem dX12_falls_129 : decode cX12_falls 129 = .ok (.iconst 0, 1) := by decide +kernel
theorem dX12_falls_130 : decode cX12_falls 130 = .ok (.iastore, 1) := by decide +kernel
theorem dX12_falls_131 : decode cX12_falls 131 = .ok (.aload_n 0, 1) := by decide +kernel
theorem dX12_falls_132 : decode cX12_falls 132 = .ok (.getfield 71, 3) := by decide +kernel
theorem dX12_falls_135 : decode cX12_falls 135 = .ok (.iload 5, 2) := by decide +kernel
theorem dX12_falls_137 : decode cX12_falls 137 = .ok (.iconst 0, 1) := by decide +kernel
theorem dX12_falls_138 : decode cX12_falls 138 = .ok (.iastore, 1) := by decide +kernel
theorem dX12_falls_139 : decode cX12_falls 139 = .ok (.iinc 4 1, 3) := by decide +kernel
theorem dX12_falls_142 : decode cX12_falls 142 = .ok (.goto (-127), 3) := by decide +kernel
theorem dX12_falls_145 : decode cX12_falls 145 = .ok (.iload_n 3, 1) := by decide +kernel
theorem dX12_falls_146 : decode cX12_falls 146 = .ok (.ifCond .ne 4, 3) := by decide +kernel
theorem dX12_falls_149 : decode cX12_falls 149 = .ok (.return_, 1) := by decide +kernel
theorem dX12_falls_150 : decode cX12_falls 150 = .ok (.aload_n 0, 1) := by decide +kernel
theorem dX12_falls_151 : decode cX12_falls 151 = .ok (.getfield 59, 3) := by decide +kernel
theorem dX12_falls_154 : decode cX12_falls 154 = .ok (.iload_n 1, 1) := by decide +kernel
theorem dX12_falls_155 : decode cX12_falls 155 = .ok (.dup2, 1) := by decide +kernel
theorem dX12_falls_156 : decode cX12_falls 156 = .ok (.iaload, 1) := by decide +kernel
theorem dX12_falls_157 : decode cX12_falls 157 = .ok (.aload_n 0, 1) := by decide +kernel
theorem dX12_falls_158 : decode cX12_falls 158 = .ok (.getfield 86, 3) := by decide +kernel
theorem dX12_falls_161 : decode cX12_falls 161 = .ok (.bipush 6, 2) := by decide +kernel
theorem dX12_falls_163 : decode cX12_falls 163 = .ok (.iload_n 1, 1) := by decide +kernel
theorem dX12_falls_164 : decode cX12_falls 164 = .ok (.imul, 1) := by decide +kernel
theorem dX12_falls_165 : decode cX12_falls 165 = .ok (.iload_n 2, 1) := by decide +kernel
theorem dX12_falls_166 : decode cX12_falls 166 = .ok (.iadd, 1) := by decide +kernel
theorem dX12_falls_167 : decode cX12_falls 167 = .ok (.iaload, 1) := by decide +kernel
theorem dX12_falls_168 : decode cX12_falls 168 = .ok (.iadd, 1) := by decide +kernel
theorem dX12_falls_169 : decode cX12_falls 169 = .ok (.iastore, 1) := by decide +kernel
theorem dX12_falls_170 : decode cX12_falls 170 = .ok (.aload_n 0, 1) := by decide +kernel
theorem dX12_falls_171 : decode cX12_falls 171 = .ok (.getfield 86, 3) := by decide +kernel
theorem dX12_falls_174 : decode cX12_falls 174 = .ok (.bipush 6, 2) := by decide +kernel
theorem dX12_falls_176 : decode cX12_falls 176 = .ok (.iload_n 1, 1) := by decide +kernel
theorem dX12_falls_177 : decode cX12_falls 177 = .ok (.imul, 1) := by decide +kernel
theorem dX12_falls_178 : decode cX12_falls 178 = .ok (.iload_n 2, 1) := by decide +kernel
theorem dX12_falls_179 : decode cX12_falls 179 = .ok (.iadd, 1) := by decide +kernel
theorem dX12_falls_180 : decode cX12_falls 180 = .ok (.iconst 0, 1) := by decide +kernel
theorem dX12_falls_181 : decode cX12_falls 181 = .ok (.iastore, 1) := by decide +kernel
theorem dX12_falls_182 : decode cX12_falls 182 = .ok (.iconst 0, 1) := by decide +kernel
theorem dX12_falls_183 : decode cX12_falls 183 = .ok (.istore 4, 2) := by decide +kernel
theorem dX12_falls_185 : decode cX12_falls 185 = .ok (.iload 4, 2) := by decide +kernel
theorem dX12_falls_187 : decode cX12_falls 187 = .ok (.aload_n 0, 1) := by decide +kernel
theorem dX12_falls_188 : decode cX12_falls 188 = .ok (.getfield 366, 3) := by decide +kernel
theorem dX12_falls_191 : decode cX12_falls 191 = .ok (.if_icmp .ge 91, 3) := by decide +kernel
theorem dX12_falls_194 : decode cX12_falls 194 = .ok (.aload_n 0, 1) := by decide +kernel
theorem dX12_falls_195 : decode cX12_falls 195 = .ok (.getfield 128, 3) := by decide +kernel
theorem dX12_falls_198 : decode cX12_falls 198 = .ok (.iload 4, 2) := by decide +kernel
theorem dX12_falls_200 : decode cX12_falls 200 = .ok (.iaload, 1) := by decide +kernel
theorem dX12_falls_201 : decode cX12_falls 201 = .ok (.iconst 2, 1) := by decide +kernel
theorem dX12_falls_202 : decode cX12_falls 202 = .ok (.if_icmp .ne 74, 3) := by decide +kernel
theorem dX12_falls_205 : decode cX12_falls 205 = .ok (.aload_n 0, 1) := by decide +kernel
theorem dX12_falls_206 : decode cX12_falls 206 = .ok (.getfield 140, 3) := by decide +kernel
theorem dX12_falls_209 : decode cX12_falls 209 = .ok (.iload 4, 2) := by decide +kernel
theorem dX12_falls_211 : decode cX12_falls 211 = .ok (.iaload, 1) := by decide +kernel
theorem dX12_falls_212 : decode cX12_falls 212 = .ok (.iload_n 1, 1) := by decide +kernel
theorem dX12_falls_213 : decode cX12_falls 213 = .ok (.if_icmp .ne 63, 3) := by decide +kernel
theorem dX12_falls_216 : decode cX12_falls 216 = .ok (.aload_n 0, 1) := by decide +kernel
theorem dX12_falls_217 : decode cX12_falls 217 = .ok (.getfield 143, 3) := by decide +kernel
theorem dX12_falls_220 : decode cX12_falls 220 = .ok (.iload 4, 2) := by decide +kernel
theorem dX12_falls_222 : decode cX12_falls 222 = .ok (.iaload, 1) := by decide +kernel
theorem dX12_falls_223 : decode cX12_falls 223 = .ok (.iload_n 2, 1) := by decide +kernel
theorem dX12_falls_224 : decode cX12_falls 224 = .ok (.if_icmp .eq 6, 3) := by decide +kernel
theorem dX12_falls_227 : decode cX12_falls 227 = .ok (.goto 49, 3) := by decide +kernel
theorem dX12_falls_230 : decode cX12_falls 230 = .ok (.aload_n 0, 1) := by decide +kernel
theorem dX12_falls_231 : decode cX12_falls 231 = .ok (.getfield 128, 3) := by decide +kernel
theorem dX12_falls_234 : decode cX12_falls 234 = .ok (.iload 4, 2) := by decide +kernel
theorem dX12_falls_236 : decode cX12_falls 236 = .ok (.iconst 4, 1) := by decide +kernel
theorem dX12_falls_237 : decode cX12_falls 237 = .ok (.iastore, 1) := by decide +kernel
theorem dX12_falls_238 : decode cX12_falls 238 = .ok (.aload_n 0, 1) := by decide +kernel
theorem dX12_falls_239 : decode cX12_falls 239 = .ok (.getfield 131, 3) := by decide +kernel
theorem dX12_falls_242 : decode cX12_falls 242 = .ok (.iload 4, 2) := by decide +kernel
theorem dX12_falls_244 : decode cX12_falls 244 = .ok (.aload_n 0, 1) := by decide +kernel
theorem dX12_falls_245 : decode cX12_falls 245 = .ok (.getfield 110, 3) := by decide +kernel
theorem dX12_falls_248 : decode cX12_falls 248 = .ok (.iload 4, 2) := by decide +kernel
theorem dX12_falls_250 : decode cX12_falls 250 = .ok (.iaload, 1) := by decide +kernel
theorem dX12_falls_251 : decode cX12_falls 251 = .ok (.iastore, 1) := by decide +kernel
theorem dX12_falls_252 : decode cX12_falls 252 = .ok (.aload_n 0, 1) := by decide +kernel
theorem dX12_falls_253 : decode cX12_falls 253 = .ok (.getfield 134, 3) := by decide +kernel
theorem dX12_falls_256 : decode cX12_falls 256 = .ok (.iload 4, 2) := by decide +kernel
theorem dX12_falls_258 : decode cX12_falls 258 = .ok (.iconst (-1), 1) := by decide +kernel
theorem dX12_falls_259 : decode cX12_falls 259 = .ok (.iastore, 1) := by decide +kernel
theorem dX12_falls_260 : decode cX12_falls 260 = .ok (.aload_n 0, 1) := by decide +kernel
theorem dX12_falls_261 : decode cX12_falls 261 = .ok (.getfield 140, 3) := by decide +kernel
theorem dX12_falls_264 : decode cX12_falls 264 = .ok (.iload 4, 2) := by decide +kernel
theorem dX12_falls_266 : decode cX12_falls 266 = .ok (.iconst (-1), 1) := by decide +kernel
theorem dX12_falls_267 : decode cX12_falls 267 = .ok (.iastore, 1) := by decide +kernel
theorem dX12_falls_268 : decode cX12_falls 268 = .ok (.aload_n 0, 1) := by decide +kernel
theorem dX12_falls_269 : decode cX12_falls 269 = .ok (.getfield 143, 3) := by decide +kernel
theorem dX12_falls_272 : decode cX12_falls 272 = .ok (.iload 4, 2) := by decide +kernel
theorem dX12_falls_274 : decode cX12_falls 274 = .ok (.iconst (-1), 1) := by decide +kernel
theorem dX12_falls_275 : decode cX12_falls 275 = .ok (.iastore, 1) := by decide +kernel
theorem dX12_falls_276 : decode cX12_falls 276 = .ok (.iinc 4 1, 3) := by decide +kernel
theorem dX12_falls_279 : decode cX12_falls 279 = .ok (.goto (-94), 3) := by decide +kernel
theorem dX12_falls_282 : decode cX12_falls 282 = .ok (.return_, 1) := by decide +kernel
theorem okX12_falls : ab_okM MX12_falls 3 := ⟨by decide, ⟨by decide, by decide⟩, ab_in 2606 (by decide +kernel) (by decide +kernel), ab_in 99 (by decide +kernel) (by decide +kernel), by decide +kernel, by decide⟩
set_option maxHeartbeats 4000000 in
set_option maxRecDepth 100000 in
theorem sX12_falls_185 (v1 : Int32) (v2 : Int32) (v4 : Int32)  (x : ab_X) (K : ab_X → Prop)  (d bc bs : Nat) (hdp : 1 ≤ d)  (h : Lp2 (lX12_falls_185 v1 v2 K ) v4 x) : EW MX12_falls 185 [(0, .ref 246), (1, .int v1), (2, .int v2), (4, .int v4)] [] (aS x) d bc bs (liV K) := by
  refine Lp2.use (P := fun v4 x => EW MX12_falls 185 [(0, .ref 246), (1, .int v1), (2, .int v2), (4, .int v4)] [] (aS x) d bc bs (liV K)) (fun L185 v4 x hL185 h => ?_) v4 x h
  unfold lX12_falls_185 at h
  refine EW_iload (pc2 := 187) rfl dX12_falls_185 3 rfl ?_
  refine EW_aload_n (pc2 := 188) rfl dX12_falls_187 0 rfl ?_
  refine AW_geti ⟨gfRX12_366, rfl⟩ (pc2 := 191) rfl dX12_falls_188 q246 ?_
  refine EW_icmp_ge (tgt := 282) (pc2 := 194) rfl dX12_falls_191 (by decide) (fun q => ?_) (fun q => ?_)
  · replace h := h.1 q
    exact EW_vret rfl dX12_falls_282 ⟨_, rfl, rfl, h⟩
  · replace h := h.2 q
    refine EW_aload_n (pc2 := 195) rfl dX12_falls_194 0 rfl ?_
    refine AW_getr (r := 286) ⟨gfRX12_128, rfl⟩ (pc2 := 198) rfl dX12_falls_195 q246 rfl ?_
    refine EW_iload (pc2 := 200) rfl dX12_falls_198 3 rfl ?_
    obtain ⟨b16, h⟩ := h
    refine AW_iald (pc2 := 201) rfl dX12_falls_200 q286 b16 ?_
    refine EW_iconst (pc2 := 202) (v := 2) rfl dX12_falls_201 (by decide) ?_
    refine EW_icmp_ne (tgt := 276) (pc2 := 205) rfl dX12_falls_202 (by decide) (fun q => ?_) (fun q => ?_)
    · replace h := h.1 q
      refine EW_iinc (v4 + 1) (pc2 := 279) rfl dX12_falls_276 3 rfl rfl (by decide) [1, 2, 3, 0] [(0, .ref 246), (1, .int v1), (2, .int v2), (4, .int (v4 + 1))] rfl ?_
      refine EW_goto (tgt := 185) dX12_falls_279 (by decide) ?_
      exact hL185 (v4 + 1) x h
    · replace h := h.2 q
      refine EW_aload_n (pc2 := 206) rfl dX12_falls_205 0 rfl ?_
      refine AW_getr (r := 290) ⟨gfRX12_140, rfl⟩ (pc2 := 209) rfl dX12_falls_206 q246 rfl ?_
      refine EW_iload (pc2 := 211) rfl dX12_falls_209 3 rfl ?_
      obtain ⟨b17, h⟩ := h
      refine AW_iald (pc2 := 212) rfl dX12_falls_211 q290 b17 ?_
      refine EW_iload_n (pc2 := 213) rfl dX12_falls_212 1 rfl ?_
      refine EW_icmp_ne (tgt := 276) (pc2 := 216) rfl dX12_falls_213 (by decide) (fun q => ?_) (fun q => ?_)
      · replace h := h.1 q
        refine EW_iinc (v4 + 1) (pc2 := 279) rfl dX12_falls_276 3 rfl rfl (by decide) [1, 2, 3, 0] [(0, .ref 246), (1, .int v1), (2, .int v2), (4, .int (v4 + 1))] rfl ?_
        refine EW_goto (tgt := 185) dX12_falls_279 (by decide) ?_
        exact hL185 (v4 + 1) x h
      · replace h := h.2 q
        refine EW_aload_n (pc2 := 217) rfl dX12_falls_216 0 rfl ?_
        refine AW_getr (r := 291) ⟨gfRX12_143, rfl⟩ (pc2 := 220) rfl dX12_falls_217 q246 rfl ?_
        refine EW_iload (pc2 := 222) rfl dX12_falls_220 3 rfl ?_
        obtain ⟨b18, h⟩ := h
        refine AW_iald (pc2 := 223) rfl dX12_falls_222 q291 b18 ?_
        refine EW_iload_n (pc2 := 224) rfl dX12_falls_223 2 rfl ?_
        refine EW_icmp_eq (tgt := 230) (pc2 := 227) rfl dX12_falls_224 (by decide) (fun q => ?_) (fun q => ?_)
        · replace h := h.1 q
          refine EW_aload_n (pc2 := 231) rfl dX12_falls_230 0 rfl ?_
          refine AW_getr (r := 286) ⟨gfRX12_128, rfl⟩ (pc2 := 234) rfl dX12_falls_231 q246 rfl ?_
          refine EW_iload (pc2 := 236) rfl dX12_falls_234 3 rfl ?_
          refine EW_iconst (pc2 := 237) (v := 4) rfl dX12_falls_236 (by decide) ?_
          obtain ⟨b19, h⟩ := h
          refine AW_iast (pc2 := 238) rfl dX12_falls_237 q286 b19 ?_
          refine EW_aload_n (pc2 := 239) rfl dX12_falls_238 0 rfl ?_
          refine AW_getr (r := 287) ⟨gfRX12_131, rfl⟩ (pc2 := 242) rfl dX12_falls_239 q246 rfl ?_
          refine EW_iload (pc2 := 244) rfl dX12_falls_242 3 rfl ?_
          refine EW_aload_n (pc2 := 245) rfl dX12_falls_244 0 rfl ?_
          refine AW_getr (r := 280) ⟨gfRX12_110, rfl⟩ (pc2 := 248) rfl dX12_falls_245 q246 rfl ?_
          refine EW_iload (pc2 := 250) rfl dX12_falls_248 3 rfl ?_
          obtain ⟨b20, h⟩ := h
          refine AW_iald (pc2 := 251) rfl dX12_falls_250 q280 b20 ?_
          obtain ⟨b21, h⟩ := h
          refine AW_iast (pc2 := 252) rfl dX12_falls_251 q287 b21 ?_
          refine EW_aload_n (pc2 := 253) rfl dX12_falls_252 0 rfl ?_
          refine AW_getr (r := 288) ⟨gfRX12_134, rfl⟩ (pc2 := 256) rfl dX12_falls_253 q246 rfl ?_
          refine EW_iload (pc2 := 258) rfl dX12_falls_256 3 rfl ?_
          refine EW_iconst (pc2 := 259) (v := (-1)) rfl dX12_falls_258 (by decide) ?_
          obtain ⟨b22, h⟩ := h
          refine AW_iast (pc2 := 260) rfl dX12_falls_259 q288 b22 ?_
          refine EW_aload_n (pc2 := 261) rfl dX12_falls_260 0 rfl ?_
          refine AW_getr (r := 290) ⟨gfRX12_140, rfl⟩ (pc2 := 264) rfl dX12_falls_261 q246 rfl ?_
          refine EW_iload (pc2 := 266) rfl dX12_falls_264 3 rfl ?_
          refine EW_iconst (pc2 := 267) (v := (-1)) rfl dX12_falls_266 (by decide) ?_
          obtain ⟨b23, h⟩ := h
          refine AW_iast (pc2 := 268) rfl dX12_falls_267 q290 b23 ?_
          refine EW_aload_n (pc2 := 269) rfl dX12_falls_268 0 rfl ?_
          refine AW_getr (r := 291) ⟨gfRX12_143, rfl⟩ (pc2 := 272) rfl dX12_falls_269 q246 rfl ?_
          refine EW_iload (pc2 := 274) rfl dX12_falls_272 3 rfl ?_
          refine EW_iconst (pc2 := 275) (v := (-1)) rfl dX12_falls_274 (by decide) ?_
          obtain ⟨b24, h⟩ := h
          refine AW_iast (pc2 := 276) rfl dX12_falls_275 q291 b24 ?_
          refine EW_iinc (v4 + 1) (pc2 := 279) rfl dX12_falls_276 3 rfl rfl (by decide) [1, 2, 3, 0] [(0, .ref 246), (1, .int v1), (2, .int v2), (4, .int (v4 + 1))] rfl ?_
          refine EW_goto (tgt := 185) dX12_falls_279 (by decide) ?_
          exact hL185 (v4 + 1) (wr (wr (wr (wr (wr x 286 (Int32.toNatClampNeg v4) 4) 287 (Int32.toNatClampNeg v4) ((wr x 286 (Int32.toNatClampNeg v4) 4).1 280 (Int32.toNatClampNeg v4))) 288 (Int32.toNatClampNeg v4) (-1)) 290 (Int32.toNatClampNeg v4) (-1)) 291 (Int32.toNatClampNeg v4) (-1)) h
        · replace h := h.2 q
          refine EW_goto (tgt := 276) dX12_falls_227 (by decide) ?_
          refine EW_iinc (v4 + 1) (pc2 := 279) rfl dX12_falls_276 3 rfl rfl (by decide) [1, 2, 3, 0] [(0, .ref 246), (1, .int v1), (2, .int v2), (4, .int (v4 + 1))] rfl ?_
          refine EW_goto (tgt := 185) dX12_falls_279 (by decide) ?_
          exact hL185 (v4 + 1) x h
set_option maxHeartbeats 4000000 in
set_option maxRecDepth 100000 in
theorem sX12_falls_123 (v1 : Int32) (v2 : Int32) (v3 : Int32) (v4 : Int32) (v5 : Int32)  (x : ab_X) (K : ab_X → Prop) (L15 : Int32 → ab_X → Prop) (d bc bs : Nat) (hdp : 1 ≤ d) (hL15 : ∀ (v4 : Int32) (x : ab_X), L15 v4 x → EW MX12_falls 15 [(0, .ref 246), (1, .int v1), (2, .int v2), (3, .int v3), (4, .int v4)] [] (aS x) d bc bs (liV K)) (h : wX12_falls_123 v1 v2 v3 v4 v5 x K L15) : EW MX12_falls 123 [(0, .ref 246), (1, .int v1), (2, .int v2), (3, .int v3), (4, .int v4), (5, .int v5)] [] (aS x) d bc bs (liV K) := by
  unfold wX12_falls_123 at h
  refine EW_aload_n (pc2 := 124) rfl dX12_falls_123 0 rfl ?_
  refine AW_getr (r := 266) ⟨gfRX12_68, rfl⟩ (pc2 := 127) rfl dX12_falls_124 q246 rfl ?_
  refine EW_iload (pc2 := 129) rfl dX12_falls_127 5 rfl ?_
  refine EW_iconst (pc2 := 130) (v := 0) rfl dX12_falls_129 (by decide) ?_
  obtain ⟨b25, h⟩ := h
  refine AW_iast (pc2 := 131) rfl dX12_falls_130 q266 b25 ?_
  refine EW_aload_n (pc2 := 132) rfl dX12_falls_131 0 rfl ?_
  refine AW_getr (r := 267) ⟨gfRX12_71, rfl⟩ (pc2 := 135) rfl dX12_falls_132 q246 rfl ?_
  refine EW_iload (pc2 := 137) rfl dX12_falls_135 5 rfl ?_
  refine EW_iconst (pc2 := 138) (v := 0) rfl dX12_falls_137 (by decide) ?_
  obtain ⟨b26, h⟩ := h
  refine AW_iast (pc2 := 139) rfl dX12_falls_138 q267 b26 ?_
  refine EW_iinc (v4 + 1) (pc2 := 142) rfl dX12_falls_139 4 rfl rfl (by decide) [1, 2, 3, 4, 0, 5] [(0, .ref 246), (1, .int v1), (2, .int v2), (3, .int v3), (4, .int (v4 + 1)), (5, .int v5)] rfl ?_
  refine EW_goto (tgt := 15) dX12_falls_142 (by decide) ?_
  refine EW_ls [0, 1, 2, 3, 4] rfl ?_
  exact hL15 (v4 + 1) (wr (wr x 266 (Int32.toNatClampNeg v5) 0) 267 (Int32.toNatClampNeg v5) 0) h
set_option maxHeartbeats 4000000 in
set_option maxRecDepth 100000 in
theorem sX12_falls_15 (v1 : Int32) (v2 : Int32) (v3 : Int32) (v4 : Int32)  (x : ab_X) (K : ab_X → Prop)  (d bc bs : Nat) (hdp : 1 ≤ d)  (h : Lp2 (lX12_falls_15 v1 v2 v3 K ) v4 x) : EW MX12_falls 15 [(0, .ref 246), (1, .int v1), (2, .int v2), (3, .int v3), (4, .int v4)] [] (aS x) d bc bs (liV K) := by
  refine Lp2.use (P := fun v4 x => EW MX12_falls 15 [(0, .ref 246), (1, .int v1), (2, .int v2), (3, .int v3), (4, .int v4)] [] (aS x) d bc bs (liV K)) (fun L15 v4 x hL15 h => ?_) v4 x h
  unfold lX12_falls_15 at h
  refine EW_iload (pc2 := 17) rfl dX12_falls_15 4 rfl ?_
  refine EW_aload_n (pc2 := 18) rfl dX12_falls_17 0 rfl ?_
  refine AW_getr (r := 257) ⟨gfRX12_41, rfl⟩ (pc2 := 21) rfl dX12_falls_18 q246 rfl ?_
  refine EW_iload_n (pc2 := 22) rfl dX12_falls_21 1 rfl ?_
  obtain ⟨b2, h⟩ := h
  refine AW_iald (pc2 := 23) rfl dX12_falls_22 q257 b2 ?_
  refine EW_icmp_ge (tgt := 145) (pc2 := 26) rfl dX12_falls_23 (by decide) (fun q => ?_) (fun q => ?_)
  · replace h := h.1 q
    refine EW_iload_n (pc2 := 146) rfl dX12_falls_145 3 rfl ?_
    refine EW_if_ne (tgt := 150) (pc2 := 149) rfl dX12_falls_146 (by decide) (fun q => ?_) (fun q => ?_)
    · replace h := h.1 q
      refine EW_aload_n (pc2 := 151) rfl dX12_falls_150 0 rfl ?_
      refine AW_getr (r := 263) ⟨gfRX12_59, rfl⟩ (pc2 := 154) rfl dX12_falls_151 q246 rfl ?_
      refine EW_iload_n (pc2 := 155) rfl dX12_falls_154 1 rfl ?_
      refine EW_dup2 (pc2 := 156) rfl dX12_falls_155 rfl rfl ?_
      obtain ⟨b3, h⟩ := h
      refine AW_iald (pc2 := 157) rfl dX12_falls_156 q263 b3 ?_
      refine EW_aload_n (pc2 := 158) rfl dX12_falls_157 0 rfl ?_
      refine AW_getr (r := 272) ⟨gfRX12_86, rfl⟩ (pc2 := 161) rfl dX12_falls_158 q246 rfl ?_
      refine EW_bipush (pc2 := 163) (v := 6) rfl dX12_falls_161 (by decide) ?_
      refine EW_iload_n (pc2 := 164) rfl dX12_falls_163 1 rfl ?_
      refine EW_imul (pc2 := 165) rfl dX12_falls_164 ?_
      refine EW_iload_n (pc2 := 166) rfl dX12_falls_165 2 rfl ?_
      refine EW_iadd (pc2 := 167) rfl dX12_falls_166 ?_
      obtain ⟨b4, h⟩ := h
      refine AW_iald (pc2 := 168) rfl dX12_falls_167 q272 b4 ?_
      refine EW_iadd (pc2 := 169) rfl dX12_falls_168 ?_
      obtain ⟨b5, h⟩ := h
      refine AW_iast (pc2 := 170) rfl dX12_falls_169 q263 b5 ?_
      refine EW_aload_n (pc2 := 171) rfl dX12_falls_170 0 rfl ?_
      refine AW_getr (r := 272) ⟨gfRX12_86, rfl⟩ (pc2 := 174) rfl dX12_falls_171 q246 rfl ?_
      refine EW_bipush (pc2 := 176) (v := 6) rfl dX12_falls_174 (by decide) ?_
      refine EW_iload_n (pc2 := 177) rfl dX12_falls_176 1 rfl ?_
      refine EW_imul (pc2 := 178) rfl dX12_falls_177 ?_
      refine EW_iload_n (pc2 := 179) rfl dX12_falls_178 2 rfl ?_
      refine EW_iadd (pc2 := 180) rfl dX12_falls_179 ?_
      refine EW_iconst (pc2 := 181) (v := 0) rfl dX12_falls_180 (by decide) ?_
      obtain ⟨b6, h⟩ := h
      refine AW_iast (pc2 := 182) rfl dX12_falls_181 q272 b6 ?_
      refine EW_iconst (pc2 := 183) (v := 0) rfl dX12_falls_182 (by decide) ?_
      refine EW_istore (pc2 := 185) rfl dX12_falls_183 (by decide) [1, 2, 3, 4, 0] [(0, .ref 246), (1, .int v1), (2, .int v2), (3, .int v3), (4, .int 0)] rfl ?_
      refine EW_ls [0, 1, 2, 4] rfl ?_
      exact sX12_falls_185 v1 v2 0 (wr (wr x 263 (Int32.toNatClampNeg v1) ((x.1 263 (Int32.toNatClampNeg v1)) + (x.1 272 (Int32.toNatClampNeg ((6 * v1) + v2))))) 272 (Int32.toNatClampNeg ((6 * v1) + v2)) 0) K d bc bs hdp h
    · replace h := h.2 q
      exact EW_vret rfl dX12_falls_149 ⟨_, rfl, rfl, h⟩
  · replace h := h.2 q
    refine EW_bipush (pc2 := 28) (v := 24) rfl dX12_falls_26 (by decide) ?_
    refine EW_iload_n (pc2 := 29) rfl dX12_falls_28 1 rfl ?_
    refine EW_imul (pc2 := 30) rfl dX12_falls_29 ?_
    refine EW_iload_n (pc2 := 31) rfl dX12_falls_30 2 rfl ?_
    refine EW_aload_n (pc2 := 32) rfl dX12_falls_31 0 rfl ?_
    refine AW_getr (r := 257) ⟨gfRX12_41, rfl⟩ (pc2 := 35) rfl dX12_falls_32 q246 rfl ?_
    refine EW_iload_n (pc2 := 36) rfl dX12_falls_35 1 rfl ?_
    obtain ⟨b7, h⟩ := h
    refine AW_iald (pc2 := 37) rfl dX12_falls_36 q257 b7 ?_
    refine EW_imul (pc2 := 38) rfl dX12_falls_37 ?_
    refine EW_iadd (pc2 := 39) rfl dX12_falls_38 ?_
    refine EW_iload (pc2 := 41) rfl dX12_falls_39 4 rfl ?_
    refine EW_iadd (pc2 := 42) rfl dX12_falls_41 ?_
    refine EW_istore (pc2 := 44) rfl dX12_falls_42 (by decide) [1, 2, 3, 4, 5, 0] [(0, .ref 246), (1, .int v1), (2, .int v2), (3, .int v3), (4, .int v4), (5, .int (((24 * v1) + (v2 * (x.1 257 (Int32.toNatClampNeg v1)))) + v4))] rfl ?_
    refine EW_iload (pc2 := 46) rfl dX12_falls_44 5 rfl ?_
    refine EW_aload_n (pc2 := 47) rfl dX12_falls_46 0 rfl ?_
    refine AW_getr (r := 257) ⟨gfRX12_41, rfl⟩ (pc2 := 50) rfl dX12_falls_47 q246 rfl ?_
    refine EW_iload_n (pc2 := 51) rfl dX12_falls_50 1 rfl ?_
    obtain ⟨b8, h⟩ := h
    refine AW_iald (pc2 := 52) rfl dX12_falls_51 q257 b8 ?_
    refine EW_isub (pc2 := 53) rfl dX12_falls_52 ?_
    refine EW_istore (pc2 := 55) rfl dX12_falls_53 (by decide) [1, 2, 3, 4, 5, 6, 0] [(0, .ref 246), (1, .int v1), (2, .int v2), (3, .int v3), (4, .int v4), (5, .int (((24 * v1) + (v2 * (x.1 257 (Int32.toNatClampNeg v1)))) + v4)), (6, .int ((((24 * v1) + (v2 * (x.1 257 (Int32.toNatClampNeg v1)))) + v4) - (x.1 257 (Int32.toNatClampNeg v1))))] rfl ?_
    refine EW_aload_n (pc2 := 56) rfl dX12_falls_55 0 rfl ?_
    refine AW_getr (r := 267) ⟨gfRX12_71, rfl⟩ (pc2 := 59) rfl dX12_falls_56 q246 rfl ?_
    refine EW_iload (pc2 := 61) rfl dX12_falls_59 6 rfl ?_
    refine EW_sipush (pc2 := 64) (v := 2000) rfl dX12_falls_61 (by decide) ?_
    refine EW_aload_n (pc2 := 65) rfl dX12_falls_64 0 rfl ?_
    refine AW_getr (r := 267) ⟨gfRX12_71, rfl⟩ (pc2 := 68) rfl dX12_falls_65 q246 rfl ?_
    refine EW_iload (pc2 := 70) rfl dX12_falls_68 6 rfl ?_
    obtain ⟨b9, h⟩ := h
    refine AW_iald (pc2 := 71) rfl dX12_falls_70 q267 b9 ?_
    refine EW_aload_n (pc2 := 72) rfl dX12_falls_71 0 rfl ?_
    refine AW_getr (r := 267) ⟨gfRX12_71, rfl⟩ (pc2 := 75) rfl dX12_falls_72 q246 rfl ?_
    refine EW_iload (pc2 := 77) rfl dX12_falls_75 5 rfl ?_
    obtain ⟨b10, h⟩ := h
    refine AW_iald (pc2 := 78) rfl dX12_falls_77 q267 b10 ?_
    refine EW_iadd (pc2 := 79) rfl dX12_falls_78 ?_
    refine AW_mmin mmRX12_311 (pc2 := 82) rfl dX12_falls_79 (Nat.le_of_ble_eq_true rfl) (by omega) ?_
    obtain ⟨b11, h⟩ := h
    refine AW_iast (pc2 := 83) rfl dX12_falls_82 q267 b11 ?_
    refine EW_aload_n (pc2 := 84) rfl dX12_falls_83 0 rfl ?_
    refine AW_getr (r := 274) ⟨gfRX12_92, rfl⟩ (pc2 := 87) rfl dX12_falls_84 q246 rfl ?_
    refine EW_bipush (pc2 := 89) (v := 6) rfl dX12_falls_87 (by decide) ?_
    refine EW_iload_n (pc2 := 90) rfl dX12_falls_89 1 rfl ?_
    refine EW_imul (pc2 := 91) rfl dX12_falls_90 ?_
    refine EW_iload_n (pc2 := 92) rfl dX12_falls_91 2 rfl ?_
    refine EW_iadd (pc2 := 93) rfl dX12_falls_92 ?_
    refine EW_iconst (pc2 := 94) (v := 1) rfl dX12_falls_93 (by decide) ?_
    refine EW_isub (pc2 := 95) rfl dX12_falls_94 ?_
    obtain ⟨b12, h⟩ := h
    refine AW_zald (pc2 := 96) rfl dX12_falls_95 q274 b12 ?_
    refine EW_if_ne (tgt := 123) (pc2 := 99) rfl dX12_falls_96 (by decide) (fun q => ?_) (fun q => ?_)
    · replace h := h.1 q
      refine EW_ls [0, 1, 2, 3, 4, 5] rfl ?_
      exact sX12_falls_123 v1 v2 v3 v4 (((24 * v1) + (v2 * (x.1 257 (Int32.toNatClampNeg v1)))) + v4) (wr x 267 (Int32.toNatClampNeg ((((24 * v1) + (v2 * (x.1 257 (Int32.toNatClampNeg v1)))) + v4) - (x.1 257 (Int32.toNatClampNeg v1)))) (imin 2000 ((x.1 267 (Int32.toNatClampNeg ((((24 * v1) + (v2 * (x.1 257 (Int32.toNatClampNeg v1)))) + v4) - (x.1 257 (Int32.toNatClampNeg v1))))) + (x.1 267 (Int32.toNatClampNeg (((24 * v1) + (v2 * (x.1 257 (Int32.toNatClampNeg v1)))) + v4)))))) K L15 d bc bs hdp hL15 h
    · replace h := h.2 q
      refine EW_aload_n (pc2 := 100) rfl dX12_falls_99 0 rfl ?_
      refine AW_getr (r := 266) ⟨gfRX12_68, rfl⟩ (pc2 := 103) rfl dX12_falls_100 q246 rfl ?_
      refine EW_iload (pc2 := 105) rfl dX12_falls_103 6 rfl ?_
      refine EW_aload_n (pc2 := 106) rfl dX12_falls_105 0 rfl ?_
      refine AW_getr (r := 266) ⟨gfRX12_68, rfl⟩ (pc2 := 109) rfl dX12_falls_106 q246 rfl ?_
      refine EW_iload (pc2 := 111) rfl dX12_falls_109 6 rfl ?_
      obtain ⟨b13, h⟩ := h
      refine AW_iald (pc2 := 112) rfl dX12_falls_111 q266 b13 ?_
      refine EW_aload_n (pc2 := 113) rfl dX12_falls_112 0 rfl ?_
      refine AW_getr (r := 266) ⟨gfRX12_68, rfl⟩ (pc2 := 116) rfl dX12_falls_113 q246 rfl ?_
      refine EW_iload (pc2 := 118) rfl dX12_falls_116 5 rfl ?_
      obtain ⟨b14, h⟩ := h
      refine AW_iald (pc2 := 119) rfl dX12_falls_118 q266 b14 ?_
      refine AW_mmax mmRX12_357 (pc2 := 122) rfl dX12_falls_119 (Nat.le_of_ble_eq_true rfl) (by omega) ?_
      obtain ⟨b15, h⟩ := h
      refine AW_iast (pc2 := 123) rfl dX12_falls_122 q266 b15 ?_
      refine EW_ls [0, 1, 2, 3, 4, 5] rfl ?_
      exact sX12_falls_123 v1 v2 v3 v4 (((24 * v1) + (v2 * (x.1 257 (Int32.toNatClampNeg v1)))) + v4) (wr (wr x 267 (Int32.toNatClampNeg ((((24 * v1) + (v2 * (x.1 257 (Int32.toNatClampNeg v1)))) + v4) - (x.1 257 (Int32.toNatClampNeg v1)))) (imin 2000 ((x.1 267 (Int32.toNatClampNeg ((((24 * v1) + (v2 * (x.1 257 (Int32.toNatClampNeg v1)))) + v4) - (x.1 257 (Int32.toNatClampNeg v1))))) + (x.1 267 (Int32.toNatClampNeg (((24 * v1) + (v2 * (x.1 257 (Int32.toNatClampNeg v1)))) + v4)))))) 266 (Int32.toNatClampNeg ((((24 * v1) + (v2 * (x.1 257 (Int32.toNatClampNeg v1)))) + v4) - (x.1 257 (Int32.toNatClampNeg v1)))) (imax ((wr x 267 (Int32.toNatClampNeg ((((24 * v1) + (v2 * (x.1 257 (Int32.toNatClampNeg v1)))) + v4) - (x.1 257 (Int32.toNatClampNeg v1)))) (imin 2000 ((x.1 267 (Int32.toNatClampNeg ((((24 * v1) + (v2 * (x.1 257 (Int32.toNatClampNeg v1)))) + v4) - (x.1 257 (Int32.toNatClampNeg v1))))) + (x.1 267 (Int32.toNatClampNeg (((24 * v1) + (v2 * (x.1 257 (Int32.toNatClampNeg v1)))) + v4)))))).1 266 (Int32.toNatClampNeg ((((24 * v1) + (v2 * (x.1 257 (Int32.toNatClampNeg v1)))) + v4) - (x.1 257 (Int32.toNatClampNeg v1))))) ((wr x 267 (Int32.toNatClampNeg ((((24 * v1) + (v2 * (x.1 257 (Int32.toNatClampNeg v1)))) + v4) - (x.1 257 (Int32.toNatClampNeg v1)))) (imin 2000 ((x.1 267 (Int32.toNatClampNeg ((((24 * v1) + (v2 * (x.1 257 (Int32.toNatClampNeg v1)))) + v4) - (x.1 257 (Int32.toNatClampNeg v1))))) + (x.1 267 (Int32.toNatClampNeg (((24 * v1) + (v2 * (x.1 257 (Int32.toNatClampNeg v1)))) + v4)))))).1 266 (Int32.toNatClampNeg (((24 * v1) + (v2 * (x.1 257 (Int32.toNatClampNeg v1)))) + v4))))) K L15 d bc bs hdp hL15 h
set_option maxHeartbeats 4000000 in
set_option maxRecDepth 100000 in
theorem sX12_falls (v1 : Int32) (v2 : Int32) (v3 : Int32)  (x : ab_X) (K : ab_X → Prop) (d bc bs : Nat) (hdp : 1 ≤ d) (h : wX12_falls v1 v2 v3 x K) : EW MX12_falls 0 [(0, .ref 246), (1, .int v1), (2, .int v2), (3, .int v3)] [] (aS x) d bc bs (liV K) := by
  unfold wX12_falls at h
  refine EW_aload_n (pc2 := 1) rfl dX12_falls_0 0 rfl ?_
  refine AW_getr (r := 274) ⟨gfRX12_92, rfl⟩ (pc2 := 4) rfl dX12_falls_1 q246 rfl ?_
  refine EW_bipush (pc2 := 6) (v := 6) rfl dX12_falls_4 (by decide) ?_
  refine EW_iload_n (pc2 := 7) rfl dX12_falls_6 1 rfl ?_
  refine EW_imul (pc2 := 8) rfl dX12_falls_7 ?_
  refine EW_iload_n (pc2 := 9) rfl dX12_falls_8 2 rfl ?_
  refine EW_iadd (pc2 := 10) rfl dX12_falls_9 ?_
  refine EW_iconst (pc2 := 11) (v := 1) rfl dX12_falls_10 (by decide) ?_
  obtain ⟨b1, h⟩ := h
  refine AW_zast (pc2 := 12) rfl dX12_falls_11 q274 b1 isB1 ?_
  refine EW_iconst (pc2 := 13) (v := 0) rfl dX12_falls_12 (by decide) ?_
  refine EW_istore (pc2 := 15) rfl dX12_falls_13 (by decide) [1, 2, 3, 4, 0] [(0, .ref 246), (1, .int v1), (2, .int v2), (3, .int v3), (4, .int 0)] rfl ?_
  exact sX12_falls_15 v1 v2 v3 0 (wr x 274 (Int32.toNatClampNeg ((6 * v1) + v2)) 1) K d bc bs hdp h
abbrev MX12_fromBeside : ab_M := (yX12_fromBeside, cX12_fromBeside, 6, (some .int))
theorem dX12_fromBeside_0 : decode cX12_fromBeside 0 = .ok (.iload_n 2, 1) := by decide +kernel
theorem dX12_fromBeside_1 : decode cX12_fromBeside 1 = .ok (.iconst (-1), 1) := by decide +kernel
theorem dX12_fromBeside_2 : decode cX12_fromBeside 2 = .ok (.if_icmp .eq 13, 3) := by decide +kernel
theorem dX12_fromBeside_5 : decode cX12_fromBeside 5 = .ok (.iload_n 3, 1) := by decide +kernel
theorem dX12_fromBeside_6 : decode cX12_fromBeside 6 = .ok (.aload_n 0, 1) := by decide +kernel
theorem dX12_fromBeside_7 : decode cX12_fromBeside 7 = .ok (.getfield 38, 3) := by decide +kernel
theorem dX12_fromBeside_10 : decode cX12_fromBeside 10 = .ok (.iload_n 2, 1) := by decide +kernel
theorem dX12_fromBeside_11 : decode cX12_fromBeside 11 = .ok (.iaload, 1) := by decide +kernel
theorem dX12_fromBeside_12 : decode cX12_fromBeside 12 = .ok (.if_icmp .lt 5, 3) := by decide +kernel
theorem dX12_fromBeside_15 : decode cX12_fromBeside 15 = .ok (.iconst 0, 1) := by decide +kernel
theorem dX12_fromBeside_16 : decode cX12_fromBeside 16 = .ok (.ireturn, 1) := by decide +kernel
theorem dX12_fromBeside_17 : decode cX12_fromBeside 17 = .ok (.iconst 0, 1) := by decide +kernel
theorem dX12_fromBeside_18 : decode cX12_fromBeside 18 = .ok (.istore 4, 2) := by decide +kernel
theorem dX12_fromBeside_20 : decode cX12_fromBeside 20 = .ok (.iconst 0, 1) := by decide +kernel
theorem dX12_fromBeside_21 : decode cX12_fromBeside 21 = .ok (.istore 5, 2) := by decide +kernel
theorem dX12_fromBeside_23 : decode cX12_fromBeside 23 = .ok (.iload 5, 2) := by decide +kernel
theorem dX12_fromBeside_25 : decode cX12_fromBeside 25 = .ok (.aload_n 0, 1) := by decide +kernel
theorem dX12_fromBeside_26 : decode cX12_fromBeside 26 = .ok (.getfield 41, 3) := by decide +kernel
theorem dX12_fromBeside_29 : decode cX12_fromBeside 29 = .ok (.iload_n 2, 1) := by decide +kernel
theorem dX12_fromBeside_30 : decode cX12_fromBeside 30 = .ok (.iaload, 1) := by decide +kernel
theorem dX12_fromBeside_31 : decode cX12_fromBeside 31 = .ok (.if_icmp .ge 55, 3) := by decide +kernel
theorem dX12_fromBeside_34 : decode cX12_fromBeside 34 = .ok (.iload 4, 2) := by decide +kernel
theorem dX12_fromBeside_36 : decode cX12_fromBeside 36 = .ok (.aload_n 0, 1) := by decide +kernel
theorem dX12_fromBeside_37 : decode cX12_fromBeside 37 = .ok (.iload_n 2, 1) := by decide +kernel
theorem dX12_fromBeside_38 : decode cX12_fromBeside 38 = .ok (.iload_n 3, 1) := by decide +kernel
theorem dX12_fromBeside_39 : decode cX12_fromBeside 39 = .ok (.aload_n 0, 1) := by decide +kernel
theorem dX12_fromBeside_40 : decode cX12_fromBeside 40 = .ok (.getfield 41, 3) := by decide +kernel
theorem dX12_fromBeside_43 : decode cX12_fromBeside 43 = .ok (.iload_n 2, 1) := by decide +kernel
theorem dX12_fromBeside_44 : decode cX12_fromBeside 44 = .ok (.iaload, 1) := by decide +kernel
theorem dX12_fromBeside_45 : decode cX12_fromBeside 45 = .ok (.imul, 1) := by decide +kernel
theorem dX12_fromBeside_46 : decode cX12_fromBeside 46 = .ok (.iload 5, 2) := by decide +kernel
theorem dX12_fromBeside_48 : decode cX12_fromBeside 48 = .ok (.iadd, 1) := by decide +kernel
theorem dX12_fromBeside_49 : decode cX12_fromBeside 49 = .ok (.invokevirtual 348, 3) := by decide +kernel
theorem dX12_fromBeside_52 : decode cX12_fromBeside 52 = .ok (.ifCond .eq 24, 3) := by decide +kernel
theorem dX12_fromBeside_55 : decode cX12_fromBeside 55 = .ok (.bipush 24, 2) := by decide +kernel
theorem dX12_fromBeside_57 : decode cX12_fromBeside 57 = .ok (.iconst 1, 1) := by decide +kernel
theorem dX12_fromBeside_58 : decode cX12_fromBeside 58 = .ok (.aload_n 0, 1) := by decide +kernel
theorem dX12_fromBeside_59 : decode cX12_fromBeside 59 = .ok (.getfield 47, 3) := by decide +kernel
theorem dX12_fromBeside_62 : decode cX12_fromBeside 62 = .ok (.iload_n 1, 1) := by decide +kernel
theorem dX12_fromBeside_63 : decode cX12_fromBeside 63 = .ok (.iaload, 1) := by decide +kernel
theorem dX12_fromBeside_64 : decode cX12_fromBeside 64 = .ok (.iadd, 1) := by decide +kernel
theorem dX12_fromBeside_65 : decode cX12_fromBeside 65 = .ok (.aload_n 0, 1) := by decide +kernel
theorem dX12_fromBeside_66 : decode cX12_fromBeside 66 = .ok (.getfield 47, 3) := by decide +kernel
theorem dX12_fromBeside_69 : decode cX12_fromBeside 69 = .ok (.iload_n 2, 1) := by decide +kernel
theorem dX12_fromBeside_70 : decode cX12_fromBeside 70 = .ok (.iaload, 1) := by decide +kernel
theorem dX12_fromBeside_71 : decode cX12_fromBeside 71 = .ok (.iadd, 1) := by decide +kernel
theorem dX12_fromBeside_72 : decode cX12_fromBeside 72 = .ok (.idiv, 1) := by decide +kernel
theorem dX12_fromBeside_73 : decode cX12_fromBeside 73 = .ok (.goto 4, 3) := by decide +kernel
theorem dX12_fromBeside_76 : decode cX12_fromBeside 76 = .ok (.iconst 0, 1) := by decide +kernel
theorem dX12_fromBeside_77 : decode cX12_fromBeside 77 = .ok (.iadd, 1) := by decide +kernel
theorem dX12_fromBeside_78 : decode cX12_fromBeside 78 = .ok (.istore 4, 2) := by decide +kernel
theorem dX12_fromBeside_80 : decode cX12_fromBeside 80 = .ok (.iinc 5 1, 3) := by decide +kernel
theorem dX12_fromBeside_83 : decode cX12_fromBeside 83 = .ok (.goto (-60), 3) := by decide +kernel
theorem dX12_fromBeside_86 : decode cX12_fromBeside 86 = .ok (.iload 4, 2) := by decide +kernel
theorem dX12_fromBeside_88 : decode cX12_fromBeside 88 = .ok (.ireturn, 1) := by decide +kernel
theorem okX12_fromBeside : ab_okM MX12_fromBeside 3 := ⟨by decide, ⟨by decide, by decide⟩, ab_in 2602 (by decide +kernel) (by decide +kernel), ab_in 99 (by decide +kernel) (by decide +kernel), by decide +kernel, by decide⟩
set_option maxHeartbeats 4000000 in
set_option maxRecDepth 100000 in
theorem sX12_fromBeside_77 (v1 : Int32) (v2 : Int32) (v3 : Int32) (v5 : Int32) (s0 : Int32) (s1 : Int32)  (x : ab_X) (K : Int32 → Prop) (L23 : Int32 → Int32 → Prop) (d bc bs : Nat) (hdp : 2 ≤ d) (hL23 : ∀ (v4 : Int32) (v5 : Int32), L23 v4 v5 → EW MX12_fromBeside 23 [(0, .ref 246), (1, .int v1), (2, .int v2), (3, .int v3), (4, .int v4), (5, .int v5)] [] (aS x) d bc bs (liP x K)) (h : wX12_fromBeside_77 v1 v2 v3 v5 s0 s1 x K L23) : EW MX12_fromBeside 77 [(0, .ref 246), (1, .int v1), (2, .int v2), (3, .int v3), (5, .int v5)] [.int s1, .int s0] (aS x) d bc bs (liP x K) := by
  unfold wX12_fromBeside_77 at h
  refine EW_iadd (pc2 := 78) rfl dX12_fromBeside_77 ?_
  refine EW_istore (pc2 := 80) rfl dX12_fromBeside_78 (by decide) [1, 2, 3, 4, 0, 5] [(0, .ref 246), (1, .int v1), (2, .int v2), (3, .int v3), (4, .int (s0 + s1)), (5, .int v5)] rfl ?_
  refine EW_iinc (v5 + 1) (pc2 := 83) rfl dX12_fromBeside_80 5 rfl rfl (by decide) [1, 2, 3, 4, 5, 0] [(0, .ref 246), (1, .int v1), (2, .int v2), (3, .int v3), (4, .int (s0 + s1)), (5, .int (v5 + 1))] rfl ?_
  refine EW_goto (tgt := 23) dX12_fromBeside_83 (by decide) ?_
  exact hL23 (s0 + s1) (v5 + 1) h
set_option maxHeartbeats 4000000 in
set_option maxRecDepth 100000 in
theorem sX12_fromBeside_23 (v1 : Int32) (v2 : Int32) (v3 : Int32) (v4 : Int32) (v5 : Int32)  (x : ab_X) (K : Int32 → Prop)  (d bc bs : Nat) (hdp : 2 ≤ d)  (h : Lp2 (lX12_fromBeside_23 v1 v2 v3 x K ) v4 v5) : EW MX12_fromBeside 23 [(0, .ref 246), (1, .int v1), (2, .int v2), (3, .int v3), (4, .int v4), (5, .int v5)] [] (aS x) d bc bs (liP x K) := by
  refine Lp2.use (P := fun v4 v5 => EW MX12_fromBeside 23 [(0, .ref 246), (1, .int v1), (2, .int v2), (3, .int v3), (4, .int v4), (5, .int v5)] [] (aS x) d bc bs (liP x K)) (fun L23 v4 v5 hL23 h => ?_) v4 v5 h
  unfold lX12_fromBeside_23 at h
  refine EW_iload (pc2 := 25) rfl dX12_fromBeside_23 5 rfl ?_
  refine EW_aload_n (pc2 := 26) rfl dX12_fromBeside_25 0 rfl ?_
  refine AW_getr (r := 257) ⟨gfRX12_41, rfl⟩ (pc2 := 29) rfl dX12_fromBeside_26 q246 rfl ?_
  refine EW_iload_n (pc2 := 30) rfl dX12_fromBeside_29 2 rfl ?_
  obtain ⟨b2, h⟩ := h
  refine AW_iald (pc2 := 31) rfl dX12_fromBeside_30 q257 b2 ?_
  refine EW_icmp_ge (tgt := 86) (pc2 := 34) rfl dX12_fromBeside_31 (by decide) (fun q => ?_) (fun q => ?_)
  · replace h := h.1 q
    refine EW_iload (pc2 := 88) rfl dX12_fromBeside_86 4 rfl ?_
    exact AW_iret rfl dX12_fromBeside_88 ⟨_, rfl, rfl, h⟩
  · replace h := h.2 q
    refine EW_iload (pc2 := 36) rfl dX12_fromBeside_34 4 rfl ?_
    refine EW_aload_n (pc2 := 37) rfl dX12_fromBeside_36 0 rfl ?_
    refine EW_iload_n (pc2 := 38) rfl dX12_fromBeside_37 2 rfl ?_
    refine EW_iload_n (pc2 := 39) rfl dX12_fromBeside_38 3 rfl ?_
    refine EW_aload_n (pc2 := 40) rfl dX12_fromBeside_39 0 rfl ?_
    refine AW_getr (r := 257) ⟨gfRX12_41, rfl⟩ (pc2 := 43) rfl dX12_fromBeside_40 q246 rfl ?_
    refine EW_iload_n (pc2 := 44) rfl dX12_fromBeside_43 2 rfl ?_
    obtain ⟨b3, h⟩ := h
    refine AW_iald (pc2 := 45) rfl dX12_fromBeside_44 q257 b3 ?_
    refine EW_imul (pc2 := 46) rfl dX12_fromBeside_45 ?_
    refine EW_iload (pc2 := 48) rfl dX12_fromBeside_46 5 rfl ?_
    refine EW_iadd (pc2 := 49) rfl dX12_fromBeside_48 ?_
    refine AW_invV (M' := MX12_burns) [.int v2, .int ((v3 * (x.1 257 (Int32.toNatClampNeg v2))) + v5)] (rest := [.int v4]) mlRX12_348 okX12_burns (pc2 := 52) rfl dX12_fromBeside_49 rfl rfl (Nat.le_of_ble_eq_true rfl) (Nat.le_of_ble_eq_true rfl) (d' := 1) (by omega) q246 ⟨by decide, rfl⟩ (EW_mono (fun _ _ hr => ?_) (sX12_burns v2 ((v3 * (x.1 257 (Int32.toNatClampNeg v2))) + v5)  x _ _ 0 0 (Nat.le_refl _) h))
    obtain ⟨r4, rfl, rfl, h⟩ := hr
    refine EW_if_eq (tgt := 76) (pc2 := 55) rfl dX12_fromBeside_52 (by decide) (fun q => ?_) (fun q => ?_)
    · replace h := h.1 q
      refine EW_iconst (pc2 := 77) (v := 0) rfl dX12_fromBeside_76 (by decide) ?_
      refine EW_ls [0, 1, 2, 3, 5] rfl ?_
      exact sX12_fromBeside_77 v1 v2 v3 v5 v4 0 x K L23 d bc bs hdp hL23 h
    · replace h := h.2 q
      refine EW_bipush (pc2 := 57) (v := 24) rfl dX12_fromBeside_55 (by decide) ?_
      refine EW_iconst (pc2 := 58) (v := 1) rfl dX12_fromBeside_57 (by decide) ?_
      refine EW_aload_n (pc2 := 59) rfl dX12_fromBeside_58 0 rfl ?_
      refine AW_getr (r := 259) ⟨gfRX12_47, rfl⟩ (pc2 := 62) rfl dX12_fromBeside_59 q246 rfl ?_
      refine EW_iload_n (pc2 := 63) rfl dX12_fromBeside_62 1 rfl ?_
      obtain ⟨b5, h⟩ := h
      refine AW_iald (pc2 := 64) rfl dX12_fromBeside_63 q259 b5 ?_
      refine EW_iadd (pc2 := 65) rfl dX12_fromBeside_64 ?_
      refine EW_aload_n (pc2 := 66) rfl dX12_fromBeside_65 0 rfl ?_
      refine AW_getr (r := 259) ⟨gfRX12_47, rfl⟩ (pc2 := 69) rfl dX12_fromBeside_66 q246 rfl ?_
      refine EW_iload_n (pc2 := 70) rfl dX12_fromBeside_69 2 rfl ?_
      obtain ⟨b6, h⟩ := h
      refine AW_iald (pc2 := 71) rfl dX12_fromBeside_70 q259 b6 ?_
      refine EW_iadd (pc2 := 72) rfl dX12_fromBeside_71 ?_
      obtain ⟨hz, h⟩ := h
      refine EW_idiv (pc2 := 73) rfl dX12_fromBeside_72 hz ?_
      refine EW_goto (tgt := 77) dX12_fromBeside_73 (by decide) ?_
      refine EW_ls [0, 1, 2, 3, 5] rfl ?_
      exact sX12_fromBeside_77 v1 v2 v3 v5 v4 (24 / ((1 + (x.1 259 (Int32.toNatClampNeg v1))) + (x.1 259 (Int32.toNatClampNeg v2)))) x K L23 d bc bs hdp hL23 h
set_option maxHeartbeats 4000000 in
set_option maxRecDepth 100000 in
theorem sX12_fromBeside (v1 : Int32) (v2 : Int32) (v3 : Int32)  (x : ab_X) (K : Int32 → Prop) (d bc bs : Nat) (hdp : 2 ≤ d) (h : wX12_fromBeside v1 v2 v3 x K) : EW MX12_fromBeside 0 [(0, .ref 246), (1, .int v1), (2, .int v2), (3, .int v3)] [] (aS x) d bc bs (liP x K) := by
  unfold wX12_fromBeside at h
  refine EW_iload_n (pc2 := 1) rfl dX12_fromBeside_0 2 rfl ?_
  refine EW_iconst (pc2 := 2) (v := (-1)) rfl dX12_fromBeside_1 (by decide) ?_
  refine EW_icmp_eq (tgt := 15) (pc2 := 5) rfl dX12_fromBeside_2 (by decide) (fun q => ?_) (fun q => ?_)
  · replace h := h.1 q
    refine EW_iconst (pc2 := 16) (v := 0) rfl dX12_fromBeside_15 (by decide) ?_
    exact AW_iret rfl dX12_fromBeside_16 ⟨_, rfl, rfl, h⟩
  · replace h := h.2 q
    refine EW_iload_n (pc2 := 6) rfl dX12_fromBeside_5 3 rfl ?_
    refine EW_aload_n (pc2 := 7) rfl dX12_fromBeside_6 0 rfl ?_
    refine AW_getr (r := 256) ⟨gfRX12_38, rfl⟩ (pc2 := 10) rfl dX12_fromBeside_7 q246 rfl ?_
    refine EW_iload_n (pc2 := 11) rfl dX12_fromBeside_10 2 rfl ?_
    obtain ⟨b1, h⟩ := h
    refine AW_iald (pc2 := 12) rfl dX12_fromBeside_11 q256 b1 ?_
    refine EW_icmp_lt (tgt := 17) (pc2 := 15) rfl dX12_fromBeside_12 (by decide) (fun q => ?_) (fun q => ?_)
    · replace h := h.1 q
      refine EW_iconst (pc2 := 18) (v := 0) rfl dX12_fromBeside_17 (by decide) ?_
      refine EW_istore (pc2 := 20) rfl dX12_fromBeside_18 (by decide) [1, 2, 3, 4, 0] [(0, .ref 246), (1, .int v1), (2, .int v2), (3, .int v3), (4, .int 0)] rfl ?_
      refine EW_iconst (pc2 := 21) (v := 0) rfl dX12_fromBeside_20 (by decide) ?_
      refine EW_istore (pc2 := 23) rfl dX12_fromBeside_21 (by decide) [1, 2, 3, 4, 5, 0] [(0, .ref 246), (1, .int v1), (2, .int v2), (3, .int v3), (4, .int 0), (5, .int 0)] rfl ?_
      exact sX12_fromBeside_23 v1 v2 v3 0 0 x K d bc bs hdp h
    · replace h := h.2 q
      refine EW_iconst (pc2 := 16) (v := 0) rfl dX12_fromBeside_15 (by decide) ?_
      exact AW_iret rfl dX12_fromBeside_16 ⟨_, rfl, rfl, h⟩
