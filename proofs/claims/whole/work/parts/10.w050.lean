theorem gfRX12_68 : ab_L RX12 68 12 22 := ⟨by decide, by decide, ab_in 1871 (by decide +kernel) (by decide +kernel)⟩
theorem gfRX12_71 : ab_L RX12 71 12 23 := ⟨by decide, by decide, ab_in 1872 (by decide +kernel) (by decide +kernel)⟩
theorem gfRX12_92 : ab_L RX12 92 12 30 := ⟨by decide, by decide, ab_in 1879 (by decide +kernel) (by decide +kernel)⟩
theorem mlRX12_345 : Cond.methodLink RX12 345 yX12_floorOf ∈ ab_G ∧ Cond.instanceMethod yX12_floorOf ∈ ab_G ∧ Cond.selects RX12 yX12_floorOf yX12_floorOf ∈ ab_G := ⟨ab_in 2300 (by decide +kernel) (by decide +kernel), ab_in 2302 (by decide +kernel) (by decide +kernel), ab_in 24 (by decide +kernel) (by decide +kernel)⟩
abbrev MX12_burns : ab_M := (yX12_burns, cX12_burns, 4, (some .boolean))
theorem dX12_burns_0 : decode cX12_burns 0 = .ok (.bipush 24, 2) := by decide +kernel
theorem dX12_burns_2 : decode cX12_burns 2 = .ok (.iload_n 1, 1) := by decide +kernel
theorem dX12_burns_3 : decode cX12_burns 3 = .ok (.imul, 1) := by decide +kernel
theorem dX12_burns_4 : decode cX12_burns 4 = .ok (.iload_n 2, 1) := by decide +kernel
theorem dX12_burns_5 : decode cX12_burns 5 = .ok (.iadd, 1) := by decide +kernel
theorem dX12_burns_6 : decode cX12_burns 6 = .ok (.istore_n 3, 1) := by decide +kernel
theorem dX12_burns_7 : decode cX12_burns 7 = .ok (.aload_n 0, 1) := by decide +kernel
theorem dX12_burns_8 : decode cX12_burns 8 = .ok (.getfield 68, 3) := by decide +kernel
theorem dX12_burns_11 : decode cX12_burns 11 = .ok (.iload_n 3, 1) := by decide +kernel
theorem dX12_burns_12 : decode cX12_burns 12 = .ok (.iaload, 1) := by decide +kernel
theorem dX12_burns_13 : decode cX12_burns 13 = .ok (.sipush 300, 3) := by decide +kernel
theorem dX12_burns_16 : decode cX12_burns 16 = .ok (.if_icmp .lt 35, 3) := by decide +kernel
theorem dX12_burns_19 : decode cX12_burns 19 = .ok (.aload_n 0, 1) := by decide +kernel
theorem dX12_burns_20 : decode cX12_burns 20 = .ok (.getfield 71, 3) := by decide +kernel
theorem dX12_burns_23 : decode cX12_burns 23 = .ok (.iload_n 3, 1) := by decide +kernel
theorem dX12_burns_24 : decode cX12_burns 24 = .ok (.iaload, 1) := by decide +kernel
theorem dX12_burns_25 : decode cX12_burns 25 = .ok (.ifCond .le 26, 3) := by decide +kernel
theorem dX12_burns_28 : decode cX12_burns 28 = .ok (.aload_n 0, 1) := by decide +kernel
theorem dX12_burns_29 : decode cX12_burns 29 = .ok (.getfield 92, 3) := by decide +kernel
theorem dX12_burns_32 : decode cX12_burns 32 = .ok (.bipush 6, 2) := by decide +kernel
theorem dX12_burns_34 : decode cX12_burns 34 = .ok (.iload_n 1, 1) := by decide +kernel
theorem dX12_burns_35 : decode cX12_burns 35 = .ok (.imul, 1) := by decide +kernel
theorem dX12_burns_36 : decode cX12_burns 36 = .ok (.aload_n 0, 1) := by decide +kernel
theorem dX12_burns_37 : decode cX12_burns 37 = .ok (.iload_n 1, 1) := by decide +kernel
theorem dX12_burns_38 : decode cX12_burns 38 = .ok (.iload_n 2, 1) := by decide +kernel
theorem dX12_burns_39 : decode cX12_burns 39 = .ok (.invokevirtual 345, 3) := by decide +kernel
theorem dX12_burns_42 : decode cX12_burns 42 = .ok (.iadd, 1) := by decide +kernel
theorem dX12_burns_43 : decode cX12_burns 43 = .ok (.baload, 1) := by decide +kernel
theorem dX12_burns_44 : decode cX12_burns 44 = .ok (.ifCond .ne 7, 3) := by decide +kernel
theorem dX12_burns_47 : decode cX12_burns 47 = .ok (.iconst 1, 1) := by decide +kernel
theorem dX12_burns_48 : decode cX12_burns 48 = .ok (.goto 4, 3) := by decide +kernel
theorem dX12_burns_51 : decode cX12_burns 51 = .ok (.iconst 0, 1) := by decide +kernel
theorem dX12_burns_52 : decode cX12_burns 52 = .ok (.ireturn, 1) := by decide +kernel
theorem okX12_burns : ab_okM MX12_burns 2 := ⟨by decide, ⟨by decide, by decide⟩, ab_in 2299 (by decide +kernel) (by decide +kernel), ab_in 99 (by decide +kernel) (by decide +kernel), by decide +kernel, by decide⟩
set_option maxHeartbeats 4000000 in
set_option maxRecDepth 100000 in
def wX12_burns (v1 : Int32) (v2 : Int32) (x : ab_X) (K : Int32 → Prop) : Prop := (vp_in ((24 * v1) + v2) 288 ∧ (((x.1 266 (Int32.toNatClampNeg ((24 * v1) + v2))) < 300 → K 0) ∧ (¬ (x.1 266 (Int32.toNatClampNeg ((24 * v1) + v2))) < 300 → (vp_in ((24 * v1) + v2) 288 ∧ (((x.1 267 (Int32.toNatClampNeg ((24 * v1) + v2))) ≤ 0 → K 0) ∧ (¬ (x.1 267 (Int32.toNatClampNeg ((24 * v1) + v2))) ≤ 0 → wX12_floorOf v1 v2 x (fun r3 => (vp_in ((6 * v1) + r3) 72 ∧ ((¬ (x.1 274 (Int32.toNatClampNeg ((6 * v1) + r3))) = 0 → K 0) ∧ ((x.1 274 (Int32.toNatClampNeg ((6 * v1) + r3))) = 0 → K 1))))))))))
set_option maxHeartbeats 4000000 in
set_option maxRecDepth 100000 in
theorem sX12_burns (v1 : Int32) (v2 : Int32)  (x : ab_X) (K : Int32 → Prop) (d bc bs : Nat) (hdp : 1 ≤ d) (h : wX12_burns v1 v2 x K) : EW MX12_burns 0 [(0, .ref 246), (1, .int v1), (2, .int v2)] [] (aS x) d bc bs (liP x K) := by
  unfold wX12_burns at h
  refine EW_bipush (pc2 := 2) (v := 24) rfl dX12_burns_0 (by decide) ?_
  refine EW_iload_n (pc2 := 3) rfl dX12_burns_2 1 rfl ?_
  refine EW_imul (pc2 := 4) rfl dX12_burns_3 ?_
  refine EW_iload_n (pc2 := 5) rfl dX12_burns_4 2 rfl ?_
  refine EW_iadd (pc2 := 6) rfl dX12_burns_5 ?_
  refine EW_istore_n (pc2 := 7) rfl dX12_burns_6 (by decide) [1, 2, 3, 0] [(0, .ref 246), (1, .int v1), (2, .int v2), (3, .int ((24 * v1) + v2))] rfl ?_
  refine EW_aload_n (pc2 := 8) rfl dX12_burns_7 0 rfl ?_
  refine AW_getr (r := 266) ⟨gfRX12_68, rfl⟩ (pc2 := 11) rfl dX12_burns_8 q246 rfl ?_
  refine EW_iload_n (pc2 := 12) rfl dX12_burns_11 3 rfl ?_
  obtain ⟨b1, h⟩ := h
  refine AW_iald (pc2 := 13) rfl dX12_burns_12 q266 b1 ?_
  refine EW_sipush (pc2 := 16) (v := 300) rfl dX12_burns_13 (by decide) ?_
  refine EW_icmp_lt (tgt := 51) (pc2 := 19) rfl dX12_burns_16 (by decide) (fun q => ?_) (fun q => ?_)
  · replace h := h.1 q
    refine EW_iconst (pc2 := 52) (v := 0) rfl dX12_burns_51 (by decide) ?_
    exact AW_zret rfl isB0 dX12_burns_52 ⟨_, rfl, rfl, h⟩
  · replace h := h.2 q
    refine EW_aload_n (pc2 := 20) rfl dX12_burns_19 0 rfl ?_
    refine AW_getr (r := 267) ⟨gfRX12_71, rfl⟩ (pc2 := 23) rfl dX12_burns_20 q246 rfl ?_
    refine EW_iload_n (pc2 := 24) rfl dX12_burns_23 3 rfl ?_
    obtain ⟨b2, h⟩ := h
    refine AW_iald (pc2 := 25) rfl dX12_burns_24 q267 b2 ?_
    refine EW_if_le (tgt := 51) (pc2 := 28) rfl dX12_burns_25 (by decide) (fun q => ?_) (fun q => ?_)
    · replace h := h.1 q
      refine EW_iconst (pc2 := 52) (v := 0) rfl dX12_burns_51 (by decide) ?_
      exact AW_zret rfl isB0 dX12_burns_52 ⟨_, rfl, rfl, h⟩
    · replace h := h.2 q
      refine EW_aload_n (pc2 := 29) rfl dX12_burns_28 0 rfl ?_
      refine AW_getr (r := 274) ⟨gfRX12_92, rfl⟩ (pc2 := 32) rfl dX12_burns_29 q246 rfl ?_
      refine EW_bipush (pc2 := 34) (v := 6) rfl dX12_burns_32 (by decide) ?_
      refine EW_iload_n (pc2 := 35) rfl dX12_burns_34 1 rfl ?_
      refine EW_imul (pc2 := 36) rfl dX12_burns_35 ?_
      refine EW_aload_n (pc2 := 37) rfl dX12_burns_36 0 rfl ?_
      refine EW_iload_n (pc2 := 38) rfl dX12_burns_37 1 rfl ?_
      refine EW_iload_n (pc2 := 39) rfl dX12_burns_38 2 rfl ?_
      refine AW_invV (M' := MX12_floorOf) [.int v1, .int v2] (rest := [.int (6 * v1), .ref 274]) mlRX12_345 okX12_floorOf (pc2 := 42) rfl dX12_burns_39 rfl rfl (Nat.le_of_ble_eq_true rfl) (Nat.le_of_ble_eq_true rfl) (d' := 0) (by omega) q246 ⟨by decide, rfl⟩ (EW_mono (fun _ _ hr => ?_) (sX12_floorOf v1 v2  x _ _ 0 0 (Nat.le_refl _) h))
      obtain ⟨r3, rfl, rfl, h⟩ := hr
      refine EW_iadd (pc2 := 43) rfl dX12_burns_42 ?_
      obtain ⟨b4, h⟩ := h
      refine AW_zald (pc2 := 44) rfl dX12_burns_43 q274 b4 ?_
      refine EW_if_ne (tgt := 51) (pc2 := 47) rfl dX12_burns_44 (by decide) (fun q => ?_) (fun q => ?_)
      · replace h := h.1 q
        refine EW_iconst (pc2 := 52) (v := 0) rfl dX12_burns_51 (by decide) ?_
        exact AW_zret rfl isB0 dX12_burns_52 ⟨_, rfl, rfl, h⟩
      · replace h := h.2 q
        refine EW_iconst (pc2 := 48) (v := 1) rfl dX12_burns_47 (by decide) ?_
        refine EW_goto (tgt := 52) dX12_burns_48 (by decide) ?_
        exact AW_zret rfl isB1 dX12_burns_52 ⟨_, rfl, rfl, h⟩
theorem mlRX12_348 : Cond.methodLink RX12 348 yX12_burns ∈ ab_G ∧ Cond.instanceMethod yX12_burns ∈ ab_G ∧ Cond.selects RX12 yX12_burns yX12_burns ∈ ab_G := ⟨ab_in 2296 (by decide +kernel) (by decide +kernel), ab_in 2298 (by decide +kernel) (by decide +kernel), ab_in 23 (by decide +kernel) (by decide +kernel)⟩
abbrev MX12_burning : ab_M := (yX12_burning, cX12_burning, 4, (some .int))
theorem dX12_burning_0 : decode cX12_burning 0 = .ok (.iconst 0, 1) := by decide +kernel
theorem dX12_burning_1 : decode cX12_burning 1 = .ok (.istore_n 2, 1) := by decide +kernel
theorem dX12_burning_2 : decode cX12_burning 2 = .ok (.iconst 0, 1) := by decide +kernel
theorem dX12_burning_3 : decode cX12_burning 3 = .ok (.istore_n 3, 1) := by decide +kernel
theorem dX12_burning_4 : decode cX12_burning 4 = .ok (.iload_n 3, 1) := by decide +kernel
theorem dX12_burning_5 : decode cX12_burning 5 = .ok (.aload_n 0, 1) := by decide +kernel
theorem dX12_burning_6 : decode cX12_burning 6 = .ok (.getfield 38, 3) := by decide +kernel
theorem dX12_burning_9 : decode cX12_burning 9 = .ok (.iload_n 1, 1) := by decide +kernel
theorem dX12_burning_10 : decode cX12_burning 10 = .ok (.iaload, 1) := by decide +kernel
theorem dX12_burning_11 : decode cX12_burning 11 = .ok (.aload_n 0, 1) := by decide +kernel
theorem dX12_burning_12 : decode cX12_burning 12 = .ok (.getfield 41, 3) := by decide +kernel
theorem dX12_burning_15 : decode cX12_burning 15 = .ok (.iload_n 1, 1) := by decide +kernel
theorem dX12_burning_16 : decode cX12_burning 16 = .ok (.iaload, 1) := by decide +kernel
theorem dX12_burning_17 : decode cX12_burning 17 = .ok (.imul, 1) := by decide +kernel
theorem dX12_burning_18 : decode cX12_burning 18 = .ok (.if_icmp .ge 26, 3) := by decide +kernel
theorem dX12_burning_21 : decode cX12_burning 21 = .ok (.iload_n 2, 1) := by decide +kernel
theorem dX12_burning_22 : decode cX12_burning 22 = .ok (.aload_n 0, 1) := by decide +kernel
theorem dX12_burning_23 : decode cX12_burning 23 = .ok (.iload_n 1, 1) := by decide +kernel
theorem dX12_burning_24 : decode cX12_burning 24 = .ok (.iload_n 3, 1) := by decide +kernel
theorem dX12_burning_25 : decode cX12_burning 25 = .ok (.invokevirtual 348, 3) := by decide +kernel
theorem dX12_burning_28 : decode cX12_burning 28 = .ok (.ifCond .eq 7, 3) := by decide +kernel
theorem dX12_burning_31 : decode cX12_burning 31 = .ok (.iconst 1, 1) := by decide +kernel
theorem dX12_burning_32 : decode cX12_burning 32 = .ok (.goto 4, 3) := by decide +kernel
theorem dX12_burning_35 : decode cX12_burning 35 = .ok (.iconst 0, 1) := by decide +kernel
theorem dX12_burning_36 : decode cX12_burning 36 = .ok (.iadd, 1) := by decide +kernel
theorem dX12_burning_37 : decode cX12_burning 37 = .ok (.istore_n 2, 1) := by decide +kernel
theorem dX12_burning_38 : decode cX12_burning 38 = .ok (.iinc 3 1, 3) := by decide +kernel
theorem dX12_burning_41 : decode cX12_burning 41 = .ok (.goto (-37), 3) := by decide +kernel
theorem dX12_burning_44 : decode cX12_burning 44 = .ok (.iload_n 2, 1) := by decide +kernel
theorem dX12_burning_45 : decode cX12_burning 45 = .ok (.ireturn, 1) := by decide +kernel
theorem okX12_burning : ab_okM MX12_burning 1 := ⟨by decide, ⟨by decide, by decide⟩, ab_in 2295 (by decide +kernel) (by decide +kernel), ab_in 99 (by decide +kernel) (by decide +kernel), by decide +kernel, by decide⟩
set_option maxHeartbeats 4000000 in
set_option maxRecDepth 100000 in
def wX12_burning_36 (v1 : Int32) (v3 : Int32) (s0 : Int32) (s1 : Int32) (x : ab_X) (K : Int32 → Prop) (L4 : Int32 → Int32 → Prop) : Prop := L4 (s0 + s1) (v3 + 1)
set_option maxHeartbeats 4000000 in
set_option maxRecDepth 100000 in
theorem sX12_burning_36 (v1 : Int32) (v3 : Int32) (s0 : Int32) (s1 : Int32)  (x : ab_X) (K : Int32 → Prop) (L4 : Int32 → Int32 → Prop) (d bc bs : Nat) (hdp : 2 ≤ d) (hL4 : ∀ (v2 : Int32) (v3 : Int32), L4 v2 v3 → EW MX12_burning 4 [(0, .ref 246), (1, .int v1), (2, .int v2), (3, .int v3)] [] (aS x) d bc bs (liP x K)) (h : wX12_burning_36 v1 v3 s0 s1 x K L4) : EW MX12_burning 36 [(0, .ref 246), (1, .int v1), (3, .int v3)] [.int s1, .int s0] (aS x) d bc bs (liP x K) := by
  unfold wX12_burning_36 at h
  refine EW_iadd (pc2 := 37) rfl dX12_burning_36 ?_
  refine EW_istore_n (pc2 := 38) rfl dX12_burning_37 (by decide) [1, 2, 0, 3] [(0, .ref 246), (1, .int v1), (2, .int (s0 + s1)), (3, .int v3)] rfl ?_
  refine EW_iinc (v3 + 1) (pc2 := 41) rfl dX12_burning_38 3 rfl rfl (by decide) [1, 2, 3, 0] [(0, .ref 246), (1, .int v1), (2, .int (s0 + s1)), (3, .int (v3 + 1))] rfl ?_
  refine EW_goto (tgt := 4) dX12_burning_41 (by decide) ?_
  exact hL4 (s0 + s1) (v3 + 1) h
set_option maxHeartbeats 4000000 in
set_option maxRecDepth 100000 in
def lX12_burning_4 (v1 : Int32) (x : ab_X) (K : Int32 → Prop)  (L4 : Int32 → Int32 → Prop) (v2 : Int32) (v3 : Int32) : Prop := (vp_in v1 12 ∧ vp_in v1 12 ∧ ((((x.1 256 (Int32.toNatClampNeg v1)) * (x.1 257 (Int32.toNatClampNeg v1))) ≤ v3 → K v2) ∧ (¬ ((x.1 256 (Int32.toNatClampNeg v1)) * (x.1 257 (Int32.toNatClampNeg v1))) ≤ v3 → wX12_burns v1 v3 x (fun r3 => ((r3 = 0 → wX12_burning_36 v1 v3 v2 0 x K L4) ∧ (¬ r3 = 0 → wX12_burning_36 v1 v3 v2 1 x K L4))))))
set_option maxHeartbeats 4000000 in
set_option maxRecDepth 100000 in
theorem sX12_burning_4 (v1 : Int32) (v2 : Int32) (v3 : Int32)  (x : ab_X) (K : Int32 → Prop)  (d bc bs : Nat) (hdp : 2 ≤ d)  (h : Lp2 (lX12_burning_4 v1 x K ) v2 v3) : EW MX12_burning 4 [(0, .ref 246), (1, .int v1), (2, .int v2), (3, .int v3)] [] (aS x) d bc bs (liP x K) := by
  refine Lp2.use (P := fun v2 v3 => EW MX12_burning 4 [(0, .ref 246), (1, .int v1), (2, .int v2), (3, .int v3)] [] (aS x) d bc bs (liP x K)) (fun L4 v2 v3 hL4 h => ?_) v2 v3 h
  unfold lX12_burning_4 at h
  refine EW_iload_n (pc2 := 5) rfl dX12_burning_4 3 rfl ?_
  refine EW_aload_n (pc2 := 6) rfl dX12_burning_5 0 rfl ?_
  refine AW_getr (r := 256) ⟨gfRX12_38, rfl⟩ (pc2 := 9) rfl dX12_burning_6 q246 rfl ?_
  refine EW_iload_n (pc2 := 10) rfl dX12_burning_9 1 rfl ?_
  obtain ⟨b1, h⟩ := h
  refine AW_iald (pc2 := 11) rfl dX12_burning_10 q256 b1 ?_
  refine EW_aload_n (pc2 := 12) rfl dX12_burning_11 0 rfl ?_
  refine AW_getr (r := 257) ⟨gfRX12_41, rfl⟩ (pc2 := 15) rfl dX12_burning_12 q246 rfl ?_
  refine EW_iload_n (pc2 := 16) rfl dX12_burning_15 1 rfl ?_
  obtain ⟨b2, h⟩ := h
  refine AW_iald (pc2 := 17) rfl dX12_burning_16 q257 b2 ?_
  refine EW_imul (pc2 := 18) rfl dX12_burning_17 ?_
  refine EW_icmp_ge (tgt := 44) (pc2 := 21) rfl dX12_burning_18 (by decide) (fun q => ?_) (fun q => ?_)
  · replace h := h.1 q
    refine EW_iload_n (pc2 := 45) rfl dX12_burning_44 2 rfl ?_
    exact AW_iret rfl dX12_burning_45 ⟨_, rfl, rfl, h⟩
  · replace h := h.2 q
    refine EW_iload_n (pc2 := 22) rfl dX12_burning_21 2 rfl ?_
    refine EW_aload_n (pc2 := 23) rfl dX12_burning_22 0 rfl ?_
    refine EW_iload_n (pc2 := 24) rfl dX12_burning_23 1 rfl ?_
    refine EW_iload_n (pc2 := 25) rfl dX12_burning_24 3 rfl ?_
    refine AW_invV (M' := MX12_burns) [.int v1, .int v3] (rest := [.int v2]) mlRX12_348 okX12_burns (pc2 := 28) rfl dX12_burning_25 rfl rfl (Nat.le_of_ble_eq_true rfl) (Nat.le_of_ble_eq_true rfl) (d' := 1) (by omega) q246 ⟨by decide, rfl⟩ (EW_mono (fun _ _ hr => ?_) (sX12_burns v1 v3  x _ _ 0 0 (Nat.le_refl _) h))
    obtain ⟨r3, rfl, rfl, h⟩ := hr
    refine EW_if_eq (tgt := 35) (pc2 := 31) rfl dX12_burning_28 (by decide) (fun q => ?_) (fun q => ?_)
    · replace h := h.1 q
      refine EW_iconst (pc2 := 36) (v := 0) rfl dX12_burning_35 (by decide) ?_
      refine EW_ls [0, 1, 3] rfl ?_
      exact sX12_burning_36 v1 v3 v2 0 x K L4 d bc bs hdp hL4 h
    · replace h := h.2 q
      refine EW_iconst (pc2 := 32) (v := 1) rfl dX12_burning_31 (by decide) ?_
      refine EW_goto (tgt := 36) dX12_burning_32 (by decide) ?_
      refine EW_ls [0, 1, 3] rfl ?_
      exact sX12_burning_36 v1 v3 v2 1 x K L4 d bc bs hdp hL4 h
set_option maxHeartbeats 4000000 in
set_option maxRecDepth 100000 in
def wX12_burning (v1 : Int32) (x : ab_X) (K : Int32 → Prop) : Prop := Lp2 (lX12_burning_4 v1 x K ) 0 0
set_option maxHeartbeats 4000000 in
set_option maxRecDepth 100000 in
theorem sX12_burning (v1 : Int32)  (x : ab_X) (K : Int32 → Prop) (d bc bs : Nat) (hdp : 2 ≤ d) (h : wX12_burning v1 x K) : EW MX12_burning 0 [(0, .ref 246), (1, .int v1)] [] (aS x) d bc bs (liP x K) := by
  unfold wX12_burning at h
  refine EW_iconst (pc2 := 1) (v := 0) rfl dX12_burning_0 (by decide) ?_
  refine EW_istore_n (pc2 := 2) rfl dX12_burning_1 (by decide) [1, 2, 0] [(0, .ref 246), (1, .int v1), (2, .int 0)] rfl ?_
  refine EW_iconst (pc2 := 3) (v := 0) rfl dX12_burning_2 (by decide) ?_
  refine EW_istore_n (pc2 := 4) rfl dX12_burning_3 (by decide) [1, 2, 3, 0] [(0, .ref 246), (1, .int v1), (2, .int 0), (3, .int 0)] rfl ?_
  exact sX12_burning_4 v1 0 0 x K d bc bs hdp h
theorem mlRX12_351 : Cond.methodLink RX12 351 yX12_burning ∈ ab_G ∧ Cond.instanceMethod yX12_burning ∈ ab_G ∧ Cond.selects RX12 yX12_burning yX12_burning ∈ ab_G := ⟨ab_in 2292 (by decide +kernel) (by decide +kernel), ab_in 2294 (by decide +kernel) (by decide +kernel), ab_in 22 (by decide +kernel) (by decide +kernel)⟩
abbrev MX12_worstAt : ab_M := (yX12_worstAt, cX12_worstAt, 4, (some .int))
theorem dX12_worstAt_0 : decode cX12_worstAt 0 = .ok (.iconst (-1), 1) := by decide +kernel
theorem dX12_worstAt_1 : decode cX12_worstAt 1 = .ok (.istore_n 2, 1) := by decide +kernel
theorem dX12_worstAt_2 : decode cX12_worstAt 2 = .ok (.iconst 0, 1) := by decide +kernel
theorem dX12_worstAt_3 : decode cX12_worstAt 3 = .ok (.istore_n 3, 1) := by decide +kernel
theorem dX12_worstAt_4 : decode cX12_worstAt 4 = .ok (.iload_n 3, 1) := by decide +kernel
theorem dX12_worstAt_5 : decode cX12_worstAt 5 = .ok (.aload_n 0, 1) := by decide +kernel
theorem dX12_worstAt_6 : decode cX12_worstAt 6 = .ok (.getfield 331, 3) := by decide +kernel
theorem dX12_worstAt_9 : decode cX12_worstAt 9 = .ok (.if_icmp .ge 43, 3) := by decide +kernel
theorem dX12_worstAt_12 : decode cX12_worstAt 12 = .ok (.aload_n 0, 1) := by decide +kernel
theorem dX12_worstAt_13 : decode cX12_worstAt 13 = .ok (.getfield 32, 3) := by decide +kernel
theorem dX12_worstAt_16 : decode cX12_worstAt 16 = .ok (.iload_n 3, 1) := by decide +kernel
theorem dX12_worstAt_17 : decode cX12_worstAt 17 = .ok (.iaload, 1) := by decide +kernel
theorem dX12_worstAt_18 : decode cX12_worstAt 18 = .ok (.iload_n 1, 1) := by decide +kernel
theorem dX12_worstAt_19 : decode cX12_worstAt 19 = .ok (.if_icmp .ne 27, 3) := by decide +kernel
theorem dX12_worstAt_22 : decode cX12_worstAt 22 = .ok (.aload_n 0, 1) := by decide +kernel
theorem dX12_worstAt_23 : decode cX12_worstAt 23 = .ok (.iload_n 3, 1) := by decide +kernel
theorem dX12_worstAt_24 : decode cX12_worstAt 24 = .ok (.invokevirtual 351, 3) := by decide +kernel
theorem dX12_worstAt_27 : decode cX12_worstAt 27 = .ok (.iload_n 2, 1) := by decide +kernel
theorem dX12_worstAt_28 : decode cX12_worstAt 28 = .ok (.iconst (-1), 1) := by decide +kernel
theorem dX12_worstAt_29 : decode cX12_worstAt 29 = .ok (.if_icmp .ne 7, 3) := by decide +kernel
theorem dX12_worstAt_32 : decode cX12_worstAt 32 = .ok (.iconst 0, 1) := by decide +kernel
theorem dX12_worstAt_33 : decode cX12_worstAt 33 = .ok (.goto 8, 3) := by decide +kernel
theorem dX12_worstAt_36 : decode cX12_worstAt 36 = .ok (.aload_n 0, 1) := by decide +kernel
theorem dX12_worstAt_37 : decode cX12_worstAt 37 = .ok (.iload_n 2, 1) := by decide +kernel
theorem dX12_worstAt_38 : decode cX12_worstAt 38 = .ok (.invokevirtual 351, 3) := by decide +kernel
theorem dX12_worstAt_41 : decode cX12_worstAt 41 = .ok (.if_icmp .le 5, 3) := by decide +kernel
theorem dX12_worstAt_44 : decode cX12_worstAt 44 = .ok (.iload_n 3, 1) := by decide +kernel
theorem dX12_worstAt_45 : decode cX12_worstAt 45 = .ok (.istore_n 2, 1) := by decide +kernel
theorem dX12_worstAt_46 : decode cX12_worstAt 46 = .ok (.iinc 3 1, 3) := by decide +kernel
theorem dX12_worstAt_49 : decode cX12_worstAt 49 = .ok (.goto (-45), 3) := by decide +kernel
theorem dX12_worstAt_52 : decode cX12_worstAt 52 = .ok (.iload_n 2, 1) := by decide +kernel
theorem dX12_worstAt_53 : decode cX12_worstAt 53 = .ok (.ireturn, 1) := by decide +kernel
theorem okX12_worstAt : ab_okM MX12_worstAt 1 := ⟨by decide, ⟨by decide, by decide⟩, ab_in 2554 (by decide +kernel) (by decide +kernel), ab_in 99 (by decide +kernel) (by decide +kernel), by decide +kernel, by decide⟩
set_option maxHeartbeats 4000000 in
set_option maxRecDepth 100000 in
def wX12_worstAt_41 (v1 : Int32) (v2 : Int32) (v3 : Int32) (s0 : Int32) (s1 : Int32) (x : ab_X) (K : Int32 → Prop) (L4 : Int32 → Int32 → Prop) : Prop := ((s0 ≤ s1 → L4 v2 (v3 + 1)) ∧ (¬ s0 ≤ s1 → L4 v3 (v3 + 1)))
set_option maxHeartbeats 4000000 in
set_option maxRecDepth 100000 in
theorem sX12_worstAt_41 (v1 : Int32) (v2 : Int32) (v3 : Int32) (s0 : Int32) (s1 : Int32)  (x : ab_X) (K : Int32 → Prop) (L4 : Int32 → Int32 → Prop) (d bc bs : Nat) (hdp : 3 ≤ d) (hL4 : ∀ (v2 : Int32) (v3 : Int32), L4 v2 v3 → EW MX12_worstAt 4 [(0, .ref 246), (1, .int v1), (2, .int v2), (3, .int v3)] [] (aS x) d bc bs (liP x K)) (h : wX12_worstAt_41 v1 v2 v3 s0 s1 x K L4) : EW MX12_worstAt 41 [(0, .ref 246), (1, .int v1), (2, .int v2), (3, .int v3)] [.int s1, .int s0] (aS x) d bc bs (liP x K) := by
  unfold wX12_worstAt_41 at h
  refine EW_icmp_le (tgt := 46) (pc2 := 44) rfl dX12_worstAt_41 (by decide) (fun q => ?_) (fun q => ?_)
  · replace h := h.1 q
    refine EW_iinc (v3 + 1) (pc2 := 49) rfl dX12_worstAt_46 3 rfl rfl (by decide) [1, 2, 3, 0] [(0, .ref 246), (1, .int v1), (2, .int v2), (3, .int (v3 + 1))] rfl ?_
    refine EW_goto (tgt := 4) dX12_worstAt_49 (by decide) ?_
    exact hL4 v2 (v3 + 1) h
  · replace h := h.2 q
    refine EW_iload_n (pc2 := 45) rfl dX12_worstAt_44 3 rfl ?_
    refine EW_istore_n (pc2 := 46) rfl dX12_worstAt_45 (by decide) [1, 2, 0, 3] [(0, .ref 246), (1, .int v1), (2, .int v3), (3, .int v3)] rfl ?_
    refine EW_iinc (v3 + 1) (pc2 := 49) rfl dX12_worstAt_46 3 rfl rfl (by decide) [1, 2, 3, 0] [(0, .ref 246), (1, .int v1), (2, .int v3), (3, .int (v3 + 1))] rfl ?_
    refine EW_goto (tgt := 4) dX12_worstAt_49 (by decide) ?_
    exact hL4 v3 (v3 + 1) h
set_option maxHeartbeats 4000000 in
set_option maxRecDepth 100000 in
def lX12_worstAt_4 (v1 : Int32) (x : ab_X) (K : Int32 → Prop)  (L4 : Int32 → Int32 → Prop) (v2 : Int32) (v3 : Int32) : Prop := (((x.1 246 31) ≤ v3 → K v2) ∧ (¬ (x.1 246 31) ≤ v3 → (vp_in v3 12 ∧ ((¬ (x.1 254 (Int32.toNatClampNeg v3)) = v1 → L4 v2 (v3 + 1)) ∧ ((x.1 254 (Int32.toNatClampNeg v3)) = v1 → wX12_burning v3 x (fun r2 => ((¬ v2 = (-1) → wX12_burning v2 x (fun r3 => wX12_worstAt_41 v1 v2 v3 r2 r3 x K L4)) ∧ (v2 = (-1) → wX12_worstAt_41 v1 v2 v3 r2 0 x K L4))))))))
set_option maxHeartbeats 4000000 in
set_option maxRecDepth 100000 in
theorem sX12_worstAt_4 (v1 : Int32) (v2 : Int32) (v3 : Int32)  (x : ab_X) (K : Int32 → Prop)  (d bc bs : Nat) (hdp : 3 ≤ d)  (h : Lp2 (lX12_worstAt_4 v1 x K ) v2 v3) : EW MX12_worstAt 4 [(0, .ref 246), (1, .int v1), (2, .int v2), (3, .int v3)] [] (aS x) d bc bs (liP x K) := by
  refine Lp2.use (P := fun v2 v3 => EW MX12_worstAt 4 [(0, .ref 246), (1, .int v1), (2, .int v2), (3, .int v3)] [] (aS x) d bc bs (liP x K)) (fun L4 v2 v3 hL4 h => ?_) v2 v3 h
  unfold lX12_worstAt_4 at h
  refine EW_iload_n (pc2 := 5) rfl dX12_worstAt_4 3 rfl ?_
  refine EW_aload_n (pc2 := 6) rfl dX12_worstAt_5 0 rfl ?_
  refine AW_geti ⟨gfRX12_331, rfl⟩ (pc2 := 9) rfl dX12_worstAt_6 q246 ?_
  refine EW_icmp_ge (tgt := 52) (pc2 := 12) rfl dX12_worstAt_9 (by decide) (fun q => ?_) (fun q => ?_)
  · replace h := h.1 q
    refine EW_iload_n (pc2 := 53) rfl dX12_worstAt_52 2 rfl ?_
    exact AW_iret rfl dX12_worstAt_53 ⟨_, rfl, rfl, h⟩
  · replace h := h.2 q
    refine EW_aload_n (pc2 := 13) rfl dX12_worstAt_12 0 rfl ?_
    refine AW_getr (r := 254) ⟨gfRX12_32, rfl⟩ (pc2 := 16) rfl dX12_worstAt_13 q246 rfl ?_
    refine EW_iload_n (pc2 := 17) rfl dX12_worstAt_16 3 rfl ?_
    obtain ⟨b1, h⟩ := h
    refine AW_iald (pc2 := 18) rfl dX12_worstAt_17 q254 b1 ?_
    refine EW_iload_n (pc2 := 19) rfl dX12_worstAt_18 1 rfl ?_
    refine EW_icmp_ne (tgt := 46) (pc2 := 22) rfl dX12_worstAt_19 (by decide) (fun q => ?_) (fun q => ?_)
    · replace h := h.1 q
      refine EW_iinc (v3 + 1) (pc2 := 49) rfl dX12_worstAt_46 3 rfl rfl (by decide) [1, 2, 3, 0] [(0, .ref 246), (1, .int v1), (2, .int v2), (3, .int (v3 + 1))] rfl ?_
      refine EW_goto (tgt := 4) dX12_worstAt_49 (by decide) ?_
      exact hL4 v2 (v3 + 1) h
    · replace h := h.2 q
      refine EW_aload_n (pc2 := 23) rfl dX12_worstAt_22 0 rfl ?_
      refine EW_iload_n (pc2 := 24) rfl dX12_worstAt_23 3 rfl ?_
      refine AW_invV (M' := MX12_burning) [.int v3] (rest := []) mlRX12_351 okX12_burning (pc2 := 27) rfl dX12_worstAt_24 rfl rfl (Nat.le_of_ble_eq_true rfl) (Nat.le_of_ble_eq_true rfl) (d' := 2) (by omega) q246 ⟨by decide, rfl⟩ (EW_mono (fun _ _ hr => ?_) (sX12_burning v3  x _ _ 0 0 (Nat.le_refl _) h))
      obtain ⟨r2, rfl, rfl, h⟩ := hr
      refine EW_iload_n (pc2 := 28) rfl dX12_worstAt_27 2 rfl ?_
      refine EW_iconst (pc2 := 29) (v := (-1)) rfl dX12_worstAt_28 (by decide) ?_
      refine EW_icmp_ne (tgt := 36) (pc2 := 32) rfl dX12_worstAt_29 (by decide) (fun q => ?_) (fun q => ?_)
      · replace h := h.1 q
        refine EW_aload_n (pc2 := 37) rfl dX12_worstAt_36 0 rfl ?_
        refine EW_iload_n (pc2 := 38) rfl dX12_worstAt_37 2 rfl ?_
        refine AW_invV (M' := MX12_burning) [.int v2] (rest := [.int r2]) mlRX12_351 okX12_burning (pc2 := 41) rfl dX12_worstAt_38 rfl rfl (Nat.le_of_ble_eq_true rfl) (Nat.le_of_ble_eq_true rfl) (d' := 2) (by omega) q246 ⟨by decide, rfl⟩ (EW_mono (fun _ _ hr => ?_) (sX12_burning v2  x _ _ 0 0 (Nat.le_refl _) h))
        obtain ⟨r3, rfl, rfl, h⟩ := hr
        exact sX12_worstAt_41 v1 v2 v3 r2 r3 x K L4 d bc bs hdp hL4 h
      · replace h := h.2 q
        refine EW_iconst (pc2 := 33) (v := 0) rfl dX12_worstAt_32 (by decide) ?_
        refine EW_goto (tgt := 41) dX12_worstAt_33 (by decide) ?_
        exact sX12_worstAt_41 v1 v2 v3 r2 0 x K L4 d bc bs hdp hL4 h
set_option maxHeartbeats 4000000 in
set_option maxRecDepth 100000 in
def wX12_worstAt (v1 : Int32) (x : ab_X) (K : Int32 → Prop) : Prop := Lp2 (lX12_worstAt_4 v1 x K ) (-1) 0
set_option maxHeartbeats 4000000 in
set_option maxRecDepth 100000 in
theorem sX12_worstAt (v1 : Int32)  (x : ab_X) (K : Int32 → Prop) (d bc bs : Nat) (hdp : 3 ≤ d) (h : wX12_worstAt v1 x K) : EW MX12_worstAt 0 [(0, .ref 246), (1, .int v1)] [] (aS x) d bc bs (liP x K) := by
  unfold wX12_worstAt at h
  refine EW_iconst (pc2 := 1) (v := (-1)) rfl dX12_worstAt_0 (by decide) ?_
  refine EW_istore_n (pc2 := 2) rfl dX12_worstAt_1 (by decide) [1, 2, 0] [(0, .ref 246), (1, .int v1), (2, .int (-1))] rfl ?_
  refine EW_iconst (pc2 := 3) (v := 0) rfl dX12_worstAt_2 (by decide) ?_
  refine EW_istore_n (pc2 := 4) rfl dX12_worstAt_3 (by decide) [1, 2, 3, 0] [(0, .ref 246), (1, .int v1), (2, .int (-1)), (3, .int 0)] rfl ?_
  exact sX12_worstAt_4 v1 (-1) 0 x K d bc bs hdp h
theorem mlRX12_405 : Cond.methodLink RX12 405 yX12_turns ∈ ab_G ∧ Cond.instanceMethod yX12_turns ∈ ab_G ∧ Cond.selects RX12 yX12_turns yX12_turns ∈ ab_G := ⟨ab_in 2365 (by decide +kernel) (by decide +kernel), ab_in 2367 (by decide +kernel) (by decide +kernel), ab_in 30 (by decide +kernel) (by decide +kernel)⟩
theorem mlRX12_561 : Cond.methodLink RX12 561 yX12_close ∈ ab_G ∧ Cond.instanceMethod yX12_close ∈ ab_G ∧ Cond.selects RX12 yX12_close yX12_close ∈ ab_G := ⟨ab_in 2555 (by decide +kernel) (by decide +kernel), ab_in 2557 (by decide +kernel) (by decide +kernel), ab_in 59 (by decide +kernel) (by decide +kernel)⟩
theorem gfRX12_238 : ab_L RX12 238 12 91 := ⟨by decide, by decide, ab_in 1940 (by decide +kernel) (by decide +kernel)⟩
theorem mlRX12_558 : Cond.methodLink RX12 558 yX12_worstAt ∈ ab_G ∧ Cond.instanceMethod yX12_worstAt ∈ ab_G ∧ Cond.selects RX12 yX12_worstAt yX12_worstAt ∈ ab_G := ⟨ab_in 2551 (by decide +kernel) (by decide +kernel), ab_in 2553 (by decide +kernel) (by decide +kernel), ab_in 58 (by decide +kernel) (by decide +kernel)⟩
theorem gfRX12_149 : ab_L RX12 149 12 50 := ⟨by decide, by decide, ab_in 1899 (by decide +kernel) (by decide +kernel)⟩
abbrev MX12_arrives : ab_M := (yX12_arrives, cX12_arrives, 5, none)
theorem dX12_arrives_0 : decode cX12_arrives 0 = .ok (.aload_n 0, 1) := by decide +kernel
theorem dX12_arrives_1 : decode cX12_arrives 1 = .ok (.getfield 128, 3) := by decide +kernel
theorem dX12_arrives_4 : decode cX12_arrives 4 = .ok (.iload_n 1, 1) := by decide +kernel
theorem dX12_arrives_5 : decode cX12_arrives 5 = .ok (.iaload, 1) := by decide +kernel
theorem dX12_arrives_6 : decode cX12_arrives 6 = .ok (.iconst 3, 1) := by decide +kernel
theorem dX12_arrives_7 : decode cX12_arrives 7 = .ok (.if_icmp .ne 15, 3) := by decide +kernel
theorem dX12_arrives_10 : decode cX12_arrives 10 = .ok (.aload_n 0, 1) := by decide +kernel
theorem dX12_arrives_11 : decode cX12_arrives 11 = .ok (.iload_n 1, 1) := by decide +kernel
theorem dX12_arrives_12 : decode cX12_arrives 12 = .ok (.aload_n 0, 1) := by decide +kernel
theorem dX12_arrives_13 : decode cX12_arrives 13 = .ok (.getfield 131, 3) := by decide +kernel
theorem dX12_arrives_16 : decode cX12_arrives 16 = .ok (.iload_n 1, 1) := by decide +kernel
theorem dX12_arrives_17 : decode cX12_arrives 17 = .ok (.iaload, 1) := by decide +kernel
theorem dX12_arrives_18 : decode cX12_arrives 18 = .ok (.invokevirtual 401, 3) := by decide +kernel
theorem dX12_arrives_21 : decode cX12_arrives 21 = .ok (.return_, 1) := by decide +kernel
theorem dX12_arrives_22 : decode cX12_arrives 22 = .ok (.aload_n 0, 1) := by decide +kernel
theorem dX12_arrives_23 : decode cX12_arrives 23 = .ok (.getfield 137, 3) := by decide +kernel
theorem dX12_arrives_26 : decode cX12_arrives 26 = .ok (.iload_n 1, 1) := by decide +kernel
theorem dX12_arrives_27 : decode cX12_arrives 27 = .ok (.iaload, 1) := by decide +kernel
theorem dX12_arrives_28 : decode cX12_arrives 28 = .ok (.istore_n 2, 1) := by decide +kernel
theorem dX12_arrives_29 : decode cX12_arrives 29 = .ok (.aload_n 0, 1) := by decide +kernel
theorem dX12_arrives_30 : decode cX12_arrives 30 = .ok (.getfield 131, 3) := by decide +kernel
theorem dX12_arrives_33 : decode cX12_arrives 33 = .ok (.iload_n 1, 1) := by decide +kernel
theorem dX12_arrives_34 : decode cX12_arrives 34 = .ok (.iaload, 1) := by decide +kernel
theorem dX12_arrives_35 : decode cX12_arrives 35 = .ok (.istore_n 3, 1) := by decide +kernel
theorem dX12_arrives_36 : decode cX12_arrives 36 = .ok (.aload_n 0, 1) := by decide +kernel
theorem dX12_arrives_37 : decode cX12_arrives 37 = .ok (.iload_n 3, 1) := by decide +kernel
theorem dX12_arrives_38 : decode cX12_arrives 38 = .ok (.invokevirtual 558, 3) := by decide +kernel
theorem dX12_arrives_41 : decode cX12_arrives 41 = .ok (.istore 4, 2) := by decide +kernel
theorem dX12_arrives_43 : decode cX12_arrives 43 = .ok (.iload 4, 2) := by decide +kernel
theorem dX12_arrives_45 : decode cX12_arrives 45 = .ok (.iconst (-1), 1) := by decide +kernel
theorem dX12_arrives_46 : decode cX12_arrives 46 = .ok (.if_icmp .eq 12, 3) := by decide +kernel
theorem dX12_arrives_49 : decode cX12_arrives 49 = .ok (.aload_n 0, 1) := by decide +kernel
theorem dX12_arrives_50 : decode cX12_arrives 50 = .ok (.getfield 220, 3) := by decide +kernel
theorem dX12_arrives_53 : decode cX12_arrives 53 = .ok (.iload_n 2, 1) := by decide +kernel
theorem dX12_arrives_54 : decode cX12_arrives 54 = .ok (.iaload, 1) := by decide +kernel
theorem dX12_arrives_55 : decode cX12_arrives 55 = .ok (.ifCond .eq 38, 3) := by decide +kernel
theorem dX12_arrives_58 : decode cX12_arrives 58 = .ok (.aload_n 0, 1) := by decide +kernel
theorem dX12_arrives_59 : decode cX12_arrives 59 = .ok (.getfield 220, 3) := by decide +kernel
theorem dX12_arrives_62 : decode cX12_arrives 62 = .ok (.iload_n 2, 1) := by decide +kernel
theorem dX12_arrives_63 : decode cX12_arrives 63 = .ok (.iaload, 1) := by decide +kernel
theorem dX12_arrives_64 : decode cX12_arrives 64 = .ok (.ifCond .ne 22, 3) := by decide +kernel
theorem dX12_arrives_67 : decode cX12_arrives 67 = .ok (.aload_n 0, 1) := by decide +kernel
theorem dX12_arrives_68 : decode cX12_arrives 68 = .ok (.iload_n 2, 1) := by decide +kernel
theorem dX12_arrives_69 : decode cX12_arrives 69 = .ok (.aload_n 0, 1) := by decide +kernel
theorem dX12_arrives_70 : decode cX12_arrives 70 = .ok (.getfield 238, 3) := by decide +kernel
theorem dX12_arrives_73 : decode cX12_arrives 73 = .ok (.iload_n 2, 1) := by decide +kernel
theorem dX12_arrives_74 : decode cX12_arrives 74 = .ok (.baload, 1) := by decide +kernel
theorem dX12_arrives_75 : decode cX12_arrives 75 = .ok (.ifCond .ne 7, 3) := by decide +kernel
theorem dX12_arrives_78 : decode cX12_arrives 78 = .ok (.iconst 1, 1) := by decide +kernel
theorem dX12_arrives_79 : decode cX12_arrives 79 = .ok (.goto 4, 3) := by decide +kernel
theorem dX12_arrives_82 : decode cX12_arrives 82 = .ok (.iconst 0, 1) := by decide +kernel
theorem dX12_arrives_83 : decode cX12_arrives 83 = .ok (.invokevirtual 561, 3) := by decide +kernel
theorem dX12_arrives_86 : decode cX12_arrives 86 = .ok (.aload_n 0, 1) := by decide +kernel
theorem dX12_arrives_87 : decode cX12_arrives 87 = .ok (.iload_n 1, 1) := by decide +kernel
theorem dX12_arrives_88 : decode cX12_arrives 88 = .ok (.iload_n 3, 1) := by decide +kernel
theorem dX12_arrives_89 : decode cX12_arrives 89 = .ok (.invokevirtual 405, 3) := by decide +kernel
theorem dX12_arrives_92 : decode cX12_arrives 92 = .ok (.return_, 1) := by decide +kernel
theorem dX12_arrives_93 : decode cX12_arrives 93 = .ok (.aload_n 0, 1) := by decide +kernel
theorem dX12_arrives_94 : decode cX12_arrives 94 = .ok (.getfield 128, 3) := by decide +kernel
theorem dX12_arrives_97 : decode cX12_arrives 97 = .ok (.iload_n 1, 1) := by decide +kernel
theorem dX12_arrives_98 : decode cX12_arrives 98 = .ok (.iconst 2, 1) := by decide +kernel
theorem dX12_arrives_99 : decode cX12_arrives 99 = .ok (.iastore, 1) := by decide +kernel
theorem dX12_arrives_100 : decode cX12_arrives 100 = .ok (.aload_n 0, 1) := by decide +kernel
theorem dX12_arrives_101 : decode cX12_arrives 101 = .ok (.getfield 134, 3) := by decide +kernel
theorem dX12_arrives_104 : decode cX12_arrives 104 = .ok (.iload_n 1, 1) := by decide +kernel
theorem dX12_arrives_105 : decode cX12_arrives 105 = .ok (.iconst (-1), 1) := by decide +kernel
theorem dX12_arrives_106 : decode cX12_arrives 106 = .ok (.iastore, 1) := by decide +kernel
theorem dX12_arrives_107 : decode cX12_arrives 107 = .ok (.aload_n 0, 1) := by decide +kernel
theorem dX12_arrives_108 : decode cX12_arrives 108 = .ok (.getfield 140, 3) := by decide +kernel
theorem dX12_arrives_111 : decode cX12_arrives 111 = .ok (.iload_n 1, 1) := by decide +kernel
theorem dX12_arrives_112 : decode cX12_arrives 112 = .ok (.iload 4, 2) := by decide +kernel
theorem dX12_arrives_114 : decode cX12_arrives 114 = .ok (.iastore, 1) := by decide +kernel
theorem dX12_arrives_115 : decode cX12_arrives 115 = .ok (.aload_n 0, 1) := by decide +kernel
theorem dX12_arrives_116 : decode cX12_arrives 116 = .ok (.getfield 149, 3) := by decide +kernel
theorem dX12_arrives_119 : decode cX12_arrives 119 = .ok (.iload_n 1, 1) := by decide +kernel
theorem dX12_arrives_120 : decode cX12_arrives 120 = .ok (.aload_n 0, 1) := by decide +kernel
theorem dX12_arrives_121 : decode cX12_arrives 121 = .ok (.getfield 395, 3) := by decide +kernel
theorem dX12_arrives_124 : decode cX12_arrives 124 = .ok (.iastore, 1) := by decide +kernel
theorem dX12_arrives_125 : decode cX12_arrives 125 = .ok (.return_, 1) := by decide +kernel
theorem okX12_arrives : ab_okM MX12_arrives 1 := ⟨by decide, ⟨by decide, by decide⟩, ab_in 2550 (by decide +kernel) (by decide +kernel), ab_in 99 (by decide +kernel) (by decide +kernel), by decide +kernel, by decide⟩
set_option maxHeartbeats 4000000 in
set_option maxRecDepth 100000 in
def wX12_arrives_86 (v1 : Int32) (v3 : Int32) (x : ab_X) (K : ab_X → Prop)  : Prop := wX12_turns v1 v3 x (fun x14 => K x14)
set_option maxHeartbeats 4000000 in
set_option maxRecDepth 100000 in
theorem sX12_arrives_86 (v1 : Int32) (v3 : Int32)  (x : ab_X) (K : ab_X → Prop)  (d bc bs : Nat) (hdp : 4 ≤ d)  (h : wX12_arrives_86 v1 v3 x K ) : EW MX12_arrives 86 [(0, .ref 246), (1, .int v1), (3, .int v3)] [] (aS x) d bc bs (liV K) := by
  unfold wX12_arrives_86 at h
  refine EW_aload_n (pc2 := 87) rfl dX12_arrives_86 0 rfl ?_
  refine EW_iload_n (pc2 := 88) rfl dX12_arrives_87 1 rfl ?_
  refine EW_iload_n (pc2 := 89) rfl dX12_arrives_88 2 rfl ?_
  refine AW_invV (M' := MX12_turns) [.int v1, .int v3] (rest := []) mlRX12_405 okX12_turns (pc2 := 92) rfl dX12_arrives_89 rfl rfl (Nat.le_of_ble_eq_true rfl) (Nat.le_of_ble_eq_true rfl) (d' := 2) (by omega) q246 ⟨by decide, rfl⟩ (EW_mono (fun _ _ hr => ?_) (sX12_turns v1 v3  x _ _ 0 0 (Nat.le_refl _) h))
  obtain ⟨x14, rfl, rfl, h⟩ := hr
  exact EW_vret rfl dX12_arrives_92 ⟨_, rfl, rfl, h⟩
set_option maxHeartbeats 4000000 in
set_option maxRecDepth 100000 in
def wX12_arrives_83 (v1 : Int32) (v3 : Int32) (s1 : Int32) (s2 : Int32) (x : ab_X) (K : ab_X → Prop)  : Prop := wX12_close s1 s2 x (fun x15 => wX12_arrives_86 v1 v3 x15 K)
set_option maxHeartbeats 4000000 in
set_option maxRecDepth 100000 in
theorem sX12_arrives_83 (v1 : Int32) (v3 : Int32) (s1 : Int32) (s2 : Int32)  (x : ab_X) (K : ab_X → Prop)  (d bc bs : Nat) (hdp : 4 ≤ d)  (h : wX12_arrives_83 v1 v3 s1 s2 x K ) : EW MX12_arrives 83 [(0, .ref 246), (1, .int v1), (3, .int v3)] [.int s2, .int s1, .ref 246] (aS x) d bc bs (liV K) := by
  unfold wX12_arrives_83 at h
  refine AW_invV (M' := MX12_close) [.int s1, .int s2] (rest := []) mlRX12_561 okX12_close (pc2 := 86) rfl dX12_arrives_83 rfl rfl (Nat.le_of_ble_eq_true rfl) (Nat.le_of_ble_eq_true rfl) (d' := 0) (by omega) q246 ⟨by decide, rfl⟩ (EW_mono (fun _ _ hr => ?_) (sX12_close s1 s2  x _ _ 0 0 (Nat.le_refl _) h))
  obtain ⟨x15, rfl, rfl, h⟩ := hr
  exact sX12_arrives_86 v1 v3 x15 K d bc bs hdp h
set_option maxHeartbeats 4000000 in
set_option maxRecDepth 100000 in
def wX12_arrives_58 (v1 : Int32) (v2 : Int32) (v3 : Int32) (x : ab_X) (K : ab_X → Prop)  : Prop := (vp_in v2 60 ∧ ((¬ (x.1 312 (Int32.toNatClampNeg v2)) = 0 → wX12_arrives_86 v1 v3 x K) ∧ ((x.1 312 (Int32.toNatClampNeg v2)) = 0 → (vp_in v2 60 ∧ ((¬ (x.1 318 (Int32.toNatClampNeg v2)) = 0 → wX12_arrives_83 v1 v3 v2 0 x K) ∧ ((x.1 318 (Int32.toNatClampNeg v2)) = 0 → wX12_arrives_83 v1 v3 v2 1 x K))))))
set_option maxHeartbeats 4000000 in
set_option maxRecDepth 100000 in
theorem sX12_arrives_58 (v1 : Int32) (v2 : Int32) (v3 : Int32)  (x : ab_X) (K : ab_X → Prop)  (d bc bs : Nat) (hdp : 4 ≤ d)  (h : wX12_arrives_58 v1 v2 v3 x K ) : EW MX12_arrives 58 [(0, .ref 246), (1, .int v1), (2, .int v2), (3, .int v3)] [] (aS x) d bc bs (liV K) := by
  unfold wX12_arrives_58 at h
  refine EW_aload_n (pc2 := 59) rfl dX12_arrives_58 0 rfl ?_
  refine AW_getr (r := 312) ⟨gfRX12_220, rfl⟩ (pc2 := 62) rfl dX12_arrives_59 q246 rfl ?_
  refine EW_iload_n (pc2 := 63) rfl dX12_arrives_62 2 rfl ?_
  obtain ⟨b12, h⟩ := h
  refine AW_iald (pc2 := 64) rfl dX12_arrives_63 q312 b12 ?_
  refine EW_if_ne (tgt := 86) (pc2 := 67) rfl dX12_arrives_64 (by decide) (fun q => ?_) (fun q => ?_)
  · replace h := h.1 q
    refine EW_ls [0, 1, 3] rfl ?_
    exact sX12_arrives_86 v1 v3 x K d bc bs hdp h
  · replace h := h.2 q
    refine EW_aload_n (pc2 := 68) rfl dX12_arrives_67 0 rfl ?_
    refine EW_iload_n (pc2 := 69) rfl dX12_arrives_68 2 rfl ?_
    refine EW_aload_n (pc2 := 70) rfl dX12_arrives_69 0 rfl ?_
    refine AW_getr (r := 318) ⟨gfRX12_238, rfl⟩ (pc2 := 73) rfl dX12_arrives_70 q246 rfl ?_
    refine EW_iload_n (pc2 := 74) rfl dX12_arrives_73 2 rfl ?_
    obtain ⟨b13, h⟩ := h
    refine AW_zald (pc2 := 75) rfl dX12_arrives_74 q318 b13 ?_
    refine EW_if_ne (tgt := 82) (pc2 := 78) rfl dX12_arrives_75 (by decide) (fun q => ?_) (fun q => ?_)
    · replace h := h.1 q
      refine EW_iconst (pc2 := 83) (v := 0) rfl dX12_arrives_82 (by decide) ?_
      refine EW_ls [0, 1, 3] rfl ?_
      exact sX12_arrives_83 v1 v3 v2 0 x K d bc bs hdp h
    · replace h := h.2 q
      refine EW_iconst (pc2 := 79) (v := 1) rfl dX12_arrives_78 (by decide) ?_
      refine EW_goto (tgt := 83) dX12_arrives_79 (by decide) ?_
      refine EW_ls [0, 1, 3] rfl ?_
      exact sX12_arrives_83 v1 v3 v2 1 x K d bc bs hdp h
set_option maxHeartbeats 4000000 in
set_option maxRecDepth 100000 in
def wX12_arrives (v1 : Int32) (x : ab_X) (K : ab_X → Prop) : Prop := (vp_in v1 16 ∧ ((¬ (x.1 286 (Int32.toNatClampNeg v1)) = 3 → (vp_in v1 16 ∧ vp_in v1 16 ∧ wX12_worstAt (x.1 287 (Int32.toNatClampNeg v1)) x (fun r4 => ((r4 = (-1) → wX12_arrives_58 v1 (x.1 289 (Int32.toNatClampNeg v1)) (x.1 287 (Int32.toNatClampNeg v1)) x K) ∧ (¬ r4 = (-1) → (vp_in (x.1 289 (Int32.toNatClampNeg v1)) 60 ∧ (((x.1 312 (Int32.toNatClampNeg (x.1 289 (Int32.toNatClampNeg v1)))) = 0 → (vp_in v1 16 ∧ vp_in v1 16 ∧ vp_in v1 16 ∧ vp_in v1 16 ∧ K (wr (wr (wr (wr x 286 (Int32.toNatClampNeg v1) 2) 288 (Int32.toNatClampNeg v1) (-1)) 290 (Int32.toNatClampNeg v1) r4) 293 (Int32.toNatClampNeg v1) ((wr (wr (wr x 286 (Int32.toNatClampNeg v1) 2) 288 (Int32.toNatClampNeg v1) (-1)) 290 (Int32.toNatClampNeg v1) r4).1 246 1)))) ∧ (¬ (x.1 312 (Int32.toNatClampNeg (x.1 289 (Int32.toNatClampNeg v1)))) = 0 → wX12_arrives_58 v1 (x.1 289 (Int32.toNatClampNeg v1)) (x.1 287 (Int32.toNatClampNeg v1)) x K)))))))) ∧ ((x.1 286 (Int32.toNatClampNeg v1)) = 3 → (vp_in v1 16 ∧ wX12_rests v1 (x.1 287 (Int32.toNatClampNeg v1)) x (fun x11 => K x11)))))
set_option maxHeartbeats 4000000 in
set_option maxRecDepth 100000 in
theorem sX12_arrives (v1 : Int32)  (x : ab_X) (K : ab_X → Prop) (d bc bs : Nat) (hdp : 4 ≤ d) (h : wX12_arrives v1 x K) : EW MX12_arrives 0 [(0, .ref 246), (1, .int v1)] [] (aS x) d bc bs (liV K) := by
  unfold wX12_arrives at h
  refine EW_aload_n (pc2 := 1) rfl dX12_arrives_0 0 rfl ?_
  refine AW_getr (r := 286) ⟨gfRX12_128, rfl⟩ (pc2 := 4) rfl dX12_arrives_1 q246 rfl ?_
  refine EW_iload_n (pc2 := 5) rfl dX12_arrives_4 1 rfl ?_
  obtain ⟨b1, h⟩ := h
  refine AW_iald (pc2 := 6) rfl dX12_arrives_5 q286 b1 ?_
  refine EW_iconst (pc2 := 7) (v := 3) rfl dX12_arrives_6 (by decide) ?_
  refine EW_icmp_ne (tgt := 22) (pc2 := 10) rfl dX12_arrives_7 (by decide) (fun q => ?_) (fun q => ?_)
  · replace h := h.1 q
    refine EW_aload_n (pc2 := 23) rfl dX12_arrives_22 0 rfl ?_
    refine AW_getr (r := 289) ⟨gfRX12_137, rfl⟩ (pc2 := 26) rfl dX12_arrives_23 q246 rfl ?_
    refine EW_iload_n (pc2 := 27) rfl dX12_arrives_26 1 rfl ?_
    obtain ⟨b2, h⟩ := h
    refine AW_iald (pc2 := 28) rfl dX12_arrives_27 q289 b2 ?_
    refine EW_istore_n (pc2 := 29) rfl dX12_arrives_28 (by decide) [1, 2, 0] [(0, .ref 246), (1, .int v1), (2, .int (x.1 289 (Int32.toNatClampNeg v1)))] rfl ?_
    refine EW_aload_n (pc2 := 30) rfl dX12_arrives_29 0 rfl ?_
    refine AW_getr (r := 287) ⟨gfRX12_131, rfl⟩ (pc2 := 33) rfl dX12_arrives_30 q246 rfl ?_
    refine EW_iload_n (pc2 := 34) rfl dX12_arrives_33 1 rfl ?_
    obtain ⟨b3, h⟩ := h
    refine AW_iald (pc2 := 35) rfl dX12_arrives_34 q287 b3 ?_
    refine EW_istore_n (pc2 := 36) rfl dX12_arrives_35 (by decide) [1, 2, 3, 0] [(0, .ref 246), (1, .int v1), (2, .int (x.1 289 (Int32.toNatClampNeg v1))), (3, .int (x.1 287 (Int32.toNatClampNeg v1)))] rfl ?_
    refine EW_aload_n (pc2 := 37) rfl dX12_arrives_36 0 rfl ?_
    refine EW_iload_n (pc2 := 38) rfl dX12_arrives_37 3 rfl ?_
    refine AW_invV (M' := MX12_worstAt) [.int (x.1 287 (Int32.toNatClampNeg v1))] (rest := []) mlRX12_558 okX12_worstAt (pc2 := 41) rfl dX12_arrives_38 rfl rfl (Nat.le_of_ble_eq_true rfl) (Nat.le_of_ble_eq_true rfl) (d' := 3) (by omega) q246 ⟨by decide, rfl⟩ (EW_mono (fun _ _ hr => ?_) (sX12_worstAt (x.1 287 (Int32.toNatClampNeg v1))  x _ _ 0 0 (Nat.le_refl _) h))
    obtain ⟨r4, rfl, rfl, h⟩ := hr
    refine EW_istore (pc2 := 43) rfl dX12_arrives_41 (by decide) [1, 2, 3, 4, 0] [(0, .ref 246), (1, .int v1), (2, .int (x.1 289 (Int32.toNatClampNeg v1))), (3, .int (x.1 287 (Int32.toNatClampNeg v1))), (4, .int r4)] rfl ?_
    refine EW_iload (pc2 := 45) rfl dX12_arrives_43 4 rfl ?_
    refine EW_iconst (pc2 := 46) (v := (-1)) rfl dX12_arrives_45 (by decide) ?_
    refine EW_icmp_eq (tgt := 58) (pc2 := 49) rfl dX12_arrives_46 (by decide) (fun q => ?_) (fun q => ?_)
    · replace h := h.1 q
      refine EW_ls [0, 1, 2, 3] rfl ?_
      exact sX12_arrives_58 v1 (x.1 289 (Int32.toNatClampNeg v1)) (x.1 287 (Int32.toNatClampNeg v1)) x K d bc bs hdp h
    · replace h := h.2 q
      refine EW_aload_n (pc2 := 50) rfl dX12_arrives_49 0 rfl ?_
      refine AW_getr (r := 312) ⟨gfRX12_220, rfl⟩ (pc2 := 53) rfl dX12_arrives_50 q246 rfl ?_
      refine EW_iload_n (pc2 := 54) rfl dX12_arrives_53 2 rfl ?_
      obtain ⟨b5, h⟩ := h
      refine AW_iald (pc2 := 55) rfl dX12_arrives_54 q312 b5 ?_
      refine EW_if_eq (tgt := 93) (pc2 := 58) rfl dX12_arrives_55 (by decide) (fun q => ?_) (fun q => ?_)
      · replace h := h.1 q
        refine EW_aload_n (pc2 := 94) rfl dX12_arrives_93 0 rfl ?_
        refine AW_getr (r := 286) ⟨gfRX12_128, rfl⟩ (pc2 := 97) rfl dX12_arrives_94 q246 rfl ?_
        refine EW_iload_n (pc2 := 98) rfl dX12_arrives_97 1 rfl ?_
        refine EW_iconst (pc2 := 99) (v := 2) rfl dX12_arrives_98 (by decide) ?_
        obtain ⟨b6, h⟩ := h
        refine AW_iast (pc2 := 100) rfl dX12_arrives_99 q286 b6 ?_
        refine EW_aload_n (pc2 := 101) rfl dX12_arrives_100 0 rfl ?_
        refine AW_getr (r := 288) ⟨gfRX12_134, rfl⟩ (pc2 := 104) rfl dX12_arrives_101 q246 rfl ?_
        refine EW_iload_n (pc2 := 105) rfl dX12_arrives_104 1 rfl ?_
        refine EW_iconst (pc2 := 106) (v := (-1)) rfl dX12_arrives_105 (by decide) ?_
        obtain ⟨b7, h⟩ := h
        refine AW_iast (pc2 := 107) rfl dX12_arrives_106 q288 b7 ?_
        refine EW_aload_n (pc2 := 108) rfl dX12_arrives_107 0 rfl ?_
        refine AW_getr (r := 290) ⟨gfRX12_140, rfl⟩ (pc2 := 111) rfl dX12_arrives_108 q246 rfl ?_
        refine EW_iload_n (pc2 := 112) rfl dX12_arrives_111 1 rfl ?_
        refine EW_iload (pc2 := 114) rfl dX12_arrives_112 4 rfl ?_
        obtain ⟨b8, h⟩ := h
        refine AW_iast (pc2 := 115) rfl dX12_arrives_114 q290 b8 ?_
        refine EW_aload_n (pc2 := 116) rfl dX12_arrives_115 0 rfl ?_
        refine AW_getr (r := 293) ⟨gfRX12_149, rfl⟩ (pc2 := 119) rfl dX12_arrives_116 q246 rfl ?_
        refine EW_iload_n (pc2 := 120) rfl dX12_arrives_119 1 rfl ?_
        refine EW_aload_n (pc2 := 121) rfl dX12_arrives_120 0 rfl ?_
        refine AW_geti ⟨gfRX12_395, rfl⟩ (pc2 := 124) rfl dX12_arrives_121 q246 ?_
        obtain ⟨b9, h⟩ := h
        refine AW_iast (pc2 := 125) rfl dX12_arrives_124 q293 b9 ?_
        exact EW_vret rfl dX12_arrives_125 ⟨_, rfl, rfl, h⟩
      · replace h := h.2 q
        refine EW_ls [0, 1, 2, 3] rfl ?_
        exact sX12_arrives_58 v1 (x.1 289 (Int32.toNatClampNeg v1)) (x.1 287 (Int32.toNatClampNeg v1)) x K d bc bs hdp h
  · replace h := h.2 q
    refine EW_aload_n (pc2 := 11) rfl dX12_arrives_10 0 rfl ?_
    refine EW_iload_n (pc2 := 12) rfl dX12_arrives_11 1 rfl ?_
    refine EW_aload_n (pc2 := 13) rfl dX12_arrives_12 0 rfl ?_
    refine AW_getr (r := 287) ⟨gfRX12_131, rfl⟩ (pc2 := 16) rfl dX12_arrives_13 q246 rfl ?_
    refine EW_iload_n (pc2 := 17) rfl dX12_arrives_16 1 rfl ?_
    obtain ⟨b10, h⟩ := h
    refine AW_iald (pc2 := 18) rfl dX12_arrives_17 q287 b10 ?_
    refine AW_invV (M' := MX12_rests) [.int v1, .int (x.1 287 (Int32.toNatClampNeg v1))] (rest := []) mlRX12_401 okX12_rests (pc2 := 21) rfl dX12_arrives_18 rfl rfl (Nat.le_of_ble_eq_true rfl) (Nat.le_of_ble_eq_true rfl) (d' := 0) (by omega) q246 ⟨by decide, rfl⟩ (EW_mono (fun _ _ hr => ?_) (sX12_rests v1 (x.1 287 (Int32.toNatClampNeg v1))  x _ _ 0 0 (Nat.le_refl _) h))
    obtain ⟨x11, rfl, rfl, h⟩ := hr
    exact EW_vret rfl dX12_arrives_21 ⟨_, rfl, rfl, h⟩
abbrev MX12_isCorner : ab_M := (yX12_isCorner, cX12_isCorner, 1, (some .boolean))
theorem dX12_isCorner_0 : decode cX12_isCorner 0 = .ok (.iload_n 0, 1) := by decide +kernel
theorem dX12_isCorner_1 : decode cX12_isCorner 1 = .ok (.ifCond .lt 13, 3) := by decide +kernel
theorem dX12_isCorner_4 : decode cX12_isCorner 4 = .ok (.iload_n 0, 1) := by decide +kernel
theorem dX12_isCorner_5 : decode cX12_isCorner 5 = .ok (.bipush 20, 2) := by decide +kernel
theorem dX12_isCorner_7 : decode cX12_isCorner 7 = .ok (.if_icmp .ge 7, 3) := by decide +kernel
theorem dX12_isCorner_10 : decode cX12_isCorner 10 = .ok (.iconst 1, 1) := by decide +kernel
theorem dX12_isCorner_11 : decode cX12_isCorner 11 = .ok (.goto 4, 3) := by decide +kernel
theorem dX12_isCorner_14 : decode cX12_isCorner 14 = .ok (.iconst 0, 1) := by decide +kernel
theorem dX12_isCorner_15 : decode cX12_isCorner 15 = .ok (.ireturn, 1) := by decide +kernel
theorem okX12_isCorner : ab_okM MX12_isCorner 1 := ⟨by decide, ⟨by decide, by decide⟩, ab_in 2224 (by decide +kernel) (by decide +kernel), ab_in 99 (by decide +kernel) (by decide +kernel), by decide +kernel, by decide⟩
set_option maxHeartbeats 4000000 in
set_option maxRecDepth 100000 in
def wX12_isCorner (v0 : Int32) (x : ab_X) (K : Int32 → Prop) : Prop := ((v0 < 0 → K 0) ∧ (¬ v0 < 0 → ((20 ≤ v0 → K 0) ∧ (¬ 20 ≤ v0 → K 1))))
set_option maxHeartbeats 4000000 in
set_option maxRecDepth 100000 in
theorem sX12_isCorner (v0 : Int32)  (x : ab_X) (K : Int32 → Prop) (d bc bs : Nat) (hdp : 0 ≤ d) (h : wX12_isCorner v0 x K) : EW MX12_isCorner 0 [(0, .int v0)] [] (aS x) d bc bs (liP x K) := by
  unfold wX12_isCorner at h
  refine EW_iload_n (pc2 := 1) rfl dX12_isCorner_0 0 rfl ?_
  refine EW_if_lt (tgt := 14) (pc2 := 4) rfl dX12_isCorner_1 (by decide) (fun q => ?_) (fun q => ?_)
  · replace h := h.1 q
    refine EW_iconst (pc2 := 15) (v := 0) rfl dX12_isCorner_14 (by decide) ?_
    exact AW_zret rfl isB0 dX12_isCorner_15 ⟨_, rfl, rfl, h⟩
  · replace h := h.2 q
    refine EW_iload_n (pc2 := 5) rfl dX12_isCorner_4 0 rfl ?_
    refine EW_bipush (pc2 := 7) (v := 20) rfl dX12_isCorner_5 (by decide) ?_
    refine EW_icmp_ge (tgt := 14) (pc2 := 10) rfl dX12_isCorner_7 (by decide) (fun q => ?_) (fun q => ?_)
    · replace h := h.1 q
      refine EW_iconst (pc2 := 15) (v := 0) rfl dX12_isCorner_14 (by decide) ?_
      exact AW_zret rfl isB0 dX12_isCorner_15 ⟨_, rfl, rfl, h⟩
    · replace h := h.2 q
      refine EW_iconst (pc2 := 11) (v := 1) rfl dX12_isCorner_10 (by decide) ?_
      refine EW_goto (tgt := 15) dX12_isCorner_11 (by decide) ?_
      exact AW_zret rfl isB1 dX12_isCorner_15 ⟨_, rfl, rfl, h⟩
theorem mlRX12_303 : Cond.methodLink RX12 303 yX12_isCorner ∈ ab_G ∧ Cond.static yX12_isCorner ∈ ab_G := ⟨ab_in 2222 (by decide +kernel) (by decide +kernel), ab_in 2223 (by decide +kernel) (by decide +kernel)⟩
abbrev MX12_asks : ab_M := (yX12_asks, cX12_asks, 4, (some .int))
theorem dX12_asks_0 : decode cX12_asks 0 = .ok (.aload_n 0, 1) := by decide +kernel
theorem dX12_asks_1 : decode cX12_asks 1 = .ok (.iconst 0, 1) := by decide +kernel
theorem dX12_asks_2 : decode cX12_asks 2 = .ok (.putfield 297, 3) := by decide +kernel
theorem dX12_asks_5 : decode cX12_asks 5 = .ok (.iload_n 1, 1) := by decide +kernel
theorem dX12_asks_6 : decode cX12_asks 6 = .ok (.invokestatic 303, 3) := by decide +kernel
theorem dX12_asks_9 : decode cX12_asks 9 = .ok (.ifCond .eq 21, 3) := by decide +kernel
theorem dX12_asks_12 : decode cX12_asks 12 = .ok (.iload_n 2, 1) := by decide +kernel
theorem dX12_asks_13 : decode cX12_asks 13 = .ok (.iconst 1, 1) := by decide +kernel
theorem dX12_asks_14 : decode cX12_asks 14 = .ok (.iconst 3, 1) := by decide +kernel
theorem dX12_asks_15 : decode cX12_asks 15 = .ok (.invokestatic 307, 3) := by decide +kernel
theorem dX12_asks_18 : decode cX12_asks 18 = .ok (.ifCond .eq 12, 3) := by decide +kernel
theorem dX12_asks_21 : decode cX12_asks 21 = .ok (.iload_n 3, 1) := by decide +kernel
theorem dX12_asks_22 : decode cX12_asks 22 = .ok (.iconst 0, 1) := by decide +kernel
theorem dX12_asks_23 : decode cX12_asks 23 = .ok (.iconst 4, 1) := by decide +kernel
theorem dX12_asks_24 : decode cX12_asks 24 = .ok (.invokestatic 307, 3) := by decide +kernel
theorem dX12_asks_27 : decode cX12_asks 27 = .ok (.ifCond .ne 5, 3) := by decide +kernel
theorem dX12_asks_30 : decode cX12_asks 30 = .ok (.iconst (-1), 1) := by decide +kernel
theorem dX12_asks_31 : decode cX12_asks 31 = .ok (.ireturn, 1) := by decide +kernel
theorem dX12_asks_32 : decode cX12_asks 32 = .ok (.aload_n 0, 1) := by decide +kernel
theorem dX12_asks_33 : decode cX12_asks 33 = .ok (.iload_n 1, 1) := by decide +kernel
theorem dX12_asks_34 : decode cX12_asks 34 = .ok (.iload_n 2, 1) := by decide +kernel
theorem dX12_asks_35 : decode cX12_asks 35 = .ok (.invokevirtual 540, 3) := by decide +kernel
theorem dX12_asks_38 : decode cX12_asks 38 = .ok (.aload_n 0, 1) := by decide +kernel
theorem dX12_asks_39 : decode cX12_asks 39 = .ok (.getfield 195, 3) := by decide +kernel
theorem dX12_asks_42 : decode cX12_asks 42 = .ok (.iload_n 3, 1) := by decide +kernel
theorem dX12_asks_43 : decode cX12_asks 43 = .ok (.iaload, 1) := by decide +kernel
theorem dX12_asks_44 : decode cX12_asks 44 = .ok (.ireturn, 1) := by decide +kernel
theorem okX12_asks : ab_okM MX12_asks 3 := ⟨by decide, ⟨by decide, by decide⟩, ab_in 2502 (by decide +kernel) (by decide +kernel), ab_in 99 (by decide +kernel) (by decide +kernel), by decide +kernel, by decide⟩
set_option maxHeartbeats 4000000 in
set_option maxRecDepth 100000 in
def wX12_asks (v1 : Int32) (v2 : Int32) (v3 : Int32) (x : ab_X) (K : Int32 → ab_X → Prop) : Prop := wX12_isCorner v1 (wr x 246 0 0) (fun r1 => ((r1 = 0 → K (-1) (wr x 246 0 0)) ∧ (¬ r1 = 0 → wX12_isIn v2 1 3 (wr x 246 0 0) (fun r2 => ((r2 = 0 → K (-1) (wr x 246 0 0)) ∧ (¬ r2 = 0 → wX12_isIn v3 0 4 (wr x 246 0 0) (fun r3 => ((¬ r3 = 0 → wX12_askFor v1 v2 (wr x 246 0 0) (fun x4 => (vp_in v3 5 ∧ K (x4.1 308 (Int32.toNatClampNeg v3)) x4))) ∧ (r3 = 0 → K (-1) (wr x 246 0 0))))))))))
set_option maxHeartbeats 4000000 in
set_option maxRecDepth 100000 in
theorem sX12_asks (v1 : Int32) (v2 : Int32) (v3 : Int32)  (x : ab_X) (K : Int32 → ab_X → Prop) (d bc bs : Nat) (hdp : 211 ≤ d) (h : wX12_asks v1 v2 v3 x K) : EW MX12_asks 0 [(0, .ref 246), (1, .int v1), (2, .int v2), (3, .int v3)] [] (aS x) d bc bs (liI K) := by
  unfold wX12_asks at h
  refine EW_aload_n (pc2 := 1) rfl dX12_asks_0 0 rfl ?_
  refine EW_iconst (pc2 := 2) (v := 0) rfl dX12_asks_1 (by decide) ?_
  refine AW_puti ⟨gfRX12_297, rfl, rfl⟩ (pc2 := 5) rfl dX12_asks_2 q246 ?_
  refine EW_iload_n (pc2 := 6) rfl dX12_asks_5 1 rfl ?_
  refine AW_invS (M' := MX12_isCorner) [.int v1] (rest := []) mlRX12_303 okX12_isCorner (pc2 := 9) rfl dX12_asks_6 rfl rfl (Nat.le_of_ble_eq_true rfl) (Nat.le_of_ble_eq_true rfl) (d' := 0) (by omega) (EW_mono (fun _ _ hr => ?_) (sX12_isCorner v1  (wr x 246 0 0) _ _ 0 0 (Nat.le_refl _) h))
  obtain ⟨r1, rfl, rfl, h⟩ := hr
  refine EW_if_eq (tgt := 30) (pc2 := 12) rfl dX12_asks_9 (by decide) (fun q => ?_) (fun q => ?_)
  · replace h := h.1 q
    refine EW_iconst (pc2 := 31) (v := (-1)) rfl dX12_asks_30 (by decide) ?_
    exact AW_iret rfl dX12_asks_31 ⟨_, _, rfl, rfl, h⟩
  · replace h := h.2 q
    refine EW_iload_n (pc2 := 13) rfl dX12_asks_12 2 rfl ?_
    refine EW_iconst (pc2 := 14) (v := 1) rfl dX12_asks_13 (by decide) ?_
    refine EW_iconst (pc2 := 15) (v := 3) rfl dX12_asks_14 (by decide) ?_
    refine AW_invS (M' := MX12_isIn) [.int v2, .int 1, .int 3] (rest := []) mlRX12_307 okX12_isIn (pc2 := 18) rfl dX12_asks_15 rfl rfl (Nat.le_of_ble_eq_true rfl) (Nat.le_of_ble_eq_true rfl) (d' := 0) (by omega) (EW_mono (fun _ _ hr => ?_) (sX12_isIn v2 1 3  (wr x 246 0 0) _ _ 0 0 (Nat.le_refl _) h))
    obtain ⟨r2, rfl, rfl, h⟩ := hr
    refine EW_if_eq (tgt := 30) (pc2 := 21) rfl dX12_asks_18 (by decide) (fun q => ?_) (fun q => ?_)
    · replace h := h.1 q
      refine EW_iconst (pc2 := 31) (v := (-1)) rfl dX12_asks_30 (by decide) ?_
      exact AW_iret rfl dX12_asks_31 ⟨_, _, rfl, rfl, h⟩
    · replace h := h.2 q
      refine EW_iload_n (pc2 := 22) rfl dX12_asks_21 3 rfl ?_
      refine EW_iconst (pc2 := 23) (v := 0) rfl dX12_asks_22 (by decide) ?_
      refine EW_iconst (pc2 := 24) (v := 4) rfl dX12_asks_23 (by decide) ?_
      refine AW_invS (M' := MX12_isIn) [.int v3, .int 0, .int 4] (rest := []) mlRX12_307 okX12_isIn (pc2 := 27) rfl dX12_asks_24 rfl rfl (Nat.le_of_ble_eq_true rfl) (Nat.le_of_ble_eq_true rfl) (d' := 0) (by omega) (EW_mono (fun _ _ hr => ?_) (sX12_isIn v3 0 4  (wr x 246 0 0) _ _ 0 0 (Nat.le_refl _) h))
      obtain ⟨r3, rfl, rfl, h⟩ := hr
      refine EW_if_ne (tgt := 32) (pc2 := 30) rfl dX12_asks_27 (by decide) (fun q => ?_) (fun q => ?_)
      · replace h := h.1 q
        refine EW_aload_n (pc2 := 33) rfl dX12_asks_32 0 rfl ?_
        refine EW_iload_n (pc2 := 34) rfl dX12_asks_33 1 rfl ?_
        refine EW_iload_n (pc2 := 35) rfl dX12_asks_34 2 rfl ?_
        refine AW_invV (M' := MX12_askFor) [.int v1, .int v2] (rest := []) mlRX12_540 okX12_askFor (pc2 := 38) rfl dX12_asks_35 rfl rfl (Nat.le_of_ble_eq_true rfl) (Nat.le_of_ble_eq_true rfl) (d' := 210) (by omega) q246 ⟨by decide, rfl⟩ (EW_mono (fun _ _ hr => ?_) (sX12_askFor v1 v2  (wr x 246 0 0) _ _ 0 0 (Nat.le_refl _) h))
        obtain ⟨x4, rfl, rfl, h⟩ := hr
        refine EW_aload_n (pc2 := 39) rfl dX12_asks_38 0 rfl ?_
        refine AW_getr (r := 308) ⟨gfRX12_195, rfl⟩ (pc2 := 42) rfl dX12_asks_39 q246 rfl ?_
        refine EW_iload_n (pc2 := 43) rfl dX12_asks_42 3 rfl ?_
        obtain ⟨b5, h⟩ := h
        refine AW_iald (pc2 := 44) rfl dX12_asks_43 q308 b5 ?_
        exact AW_iret rfl dX12_asks_44 ⟨_, _, rfl, rfl, h⟩
      · replace h := h.2 q
        refine EW_iconst (pc2 := 31) (v := (-1)) rfl dX12_asks_30 (by decide) ?_
        exact AW_iret rfl dX12_asks_31 ⟨_, _, rfl, rfl, h⟩
