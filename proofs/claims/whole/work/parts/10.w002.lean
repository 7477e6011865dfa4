theorem mlRX3_50 : Cond.methodLink RX3 50 yX4_storey ∈ ab_G ∧ Cond.instanceMethod yX4_storey ∈ ab_G ∧ Cond.selects RX4 yX4_storey yX4_storey ∈ ab_G := ⟨ab_in 863 (by decide +kernel) (by decide +kernel), ab_in 864 (by decide +kernel) (by decide +kernel), ab_in 865 (by decide +kernel) (by decide +kernel)⟩
theorem gfRX3_21 : ab_L RX3 21 3 3 := ⟨by decide, by decide, ab_in 183 (by decide +kernel) (by decide +kernel)⟩
abbrev MX3_load : ab_M := (yX3_load, cX3_load, 4, (some .int))
theorem dX3_load_0 : decode cX3_load 0 = .ok (.aload_n 1, 1) := by decide +kernel
theorem dX3_load_1 : decode cX3_load 1 = .ok (.iload_n 2, 1) := by decide +kernel
theorem dX3_load_2 : decode cX3_load 2 = .ok (.invokevirtual 50, 3) := by decide +kernel
theorem dX3_load_5 : decode cX3_load 5 = .ok (.istore_n 3, 1) := by decide +kernel
theorem dX3_load_6 : decode cX3_load 6 = .ok (.iload_n 2, 1) := by decide +kernel
theorem dX3_load_7 : decode cX3_load 7 = .ok (.iconst 1, 1) := by decide +kernel
theorem dX3_load_8 : decode cX3_load 8 = .ok (.if_icmp .ge 7, 3) := by decide +kernel
theorem dX3_load_11 : decode cX3_load 11 = .ok (.iconst 0, 1) := by decide +kernel
theorem dX3_load_12 : decode cX3_load 12 = .ok (.goto 20, 3) := by decide +kernel
theorem dX3_load_15 : decode cX3_load 15 = .ok (.aload_n 0, 1) := by decide +kernel
theorem dX3_load_16 : decode cX3_load 16 = .ok (.getfield 21, 3) := by decide +kernel
theorem dX3_load_19 : decode cX3_load 19 = .ok (.iload_n 3, 1) := by decide +kernel
theorem dX3_load_20 : decode cX3_load 20 = .ok (.iaload, 1) := by decide +kernel
theorem dX3_load_21 : decode cX3_load 21 = .ok (.iconst 2, 1) := by decide +kernel
theorem dX3_load_22 : decode cX3_load 22 = .ok (.aload_n 0, 1) := by decide +kernel
theorem dX3_load_23 : decode cX3_load 23 = .ok (.getfield 21, 3) := by decide +kernel
theorem dX3_load_26 : decode cX3_load 26 = .ok (.iload_n 3, 1) := by decide +kernel
theorem dX3_load_27 : decode cX3_load 27 = .ok (.iconst 1, 1) := by decide +kernel
theorem dX3_load_28 : decode cX3_load 28 = .ok (.isub, 1) := by decide +kernel
theorem dX3_load_29 : decode cX3_load 29 = .ok (.iaload, 1) := by decide +kernel
theorem dX3_load_30 : decode cX3_load 30 = .ok (.imul, 1) := by decide +kernel
theorem dX3_load_31 : decode cX3_load 31 = .ok (.iadd, 1) := by decide +kernel
theorem dX3_load_32 : decode cX3_load 32 = .ok (.ireturn, 1) := by decide +kernel
theorem okX3_load : ab_okM MX3_load 2 := ⟨by decide, ⟨by decide, by decide⟩, ab_in 924 (by decide +kernel) (by decide +kernel), ab_in 90 (by decide +kernel) (by decide +kernel), by decide +kernel, by decide⟩
set_option maxHeartbeats 4000000 in
set_option maxRecDepth 100000 in
def wX3_load (v0 : Nat) (v1 : Nat) (v2 : Int32) (x : ab_X) (K : Int32 → Prop) : Prop := wX4_storey v1 v2 x (fun r1 => ((1 ≤ v2 → (vp_in r1 72 ∧ vp_in (r1 - 1) 72 ∧ K ((x.1 (v0 + 4) (Int32.toNatClampNeg r1)) + (2 * (x.1 (v0 + 4) (Int32.toNatClampNeg (r1 - 1))))))) ∧ (¬ 1 ≤ v2 → K 0)))
set_option maxHeartbeats 4000000 in
set_option maxRecDepth 100000 in
theorem sX3_load (v0 : Nat) (v1 : Nat) (v2 : Int32) (hv0 : isF v0) (hv1 : isH v1) (x : ab_X) (K : Int32 → Prop) (d bc bs : Nat) (hdp : 1 ≤ d) (h : wX3_load v0 v1 v2 x K) : EW MX3_load 0 [(0, .ref v0), (1, .ref v1), (2, .int v2)] [] (aS x) d bc bs (liP x K) := by
  unfold wX3_load at h
  refine EW_aload_n (pc2 := 1) rfl dX3_load_0 1 rfl ?_
  refine EW_iload_n (pc2 := 2) rfl dX3_load_1 2 rfl ?_
  refine AW_invV (M' := MX4_storey) [.int v2] (rest := []) mlRX3_50 okX4_storey (pc2 := 5) rfl dX3_load_2 rfl rfl (Nat.le_of_ble_eq_true rfl) (Nat.le_of_ble_eq_true rfl) (d' := 0) (by omega) (isH.o hv1) ⟨by decide, rfl⟩ (EW_mono (fun _ _ hr => ?_) (sX4_storey v1 v2 hv1 x _ _ 0 0 (Nat.le_refl _) h))
  obtain ⟨r1, rfl, rfl, h⟩ := hr
  refine EW_istore_n (pc2 := 6) rfl dX3_load_5 (by decide) [1, 2, 3, 0] [(0, .ref v0), (1, .ref v1), (2, .int v2), (3, .int r1)] rfl ?_
  refine EW_iload_n (pc2 := 7) rfl dX3_load_6 2 rfl ?_
  refine EW_iconst (pc2 := 8) (v := 1) rfl dX3_load_7 (by decide) ?_
  refine EW_icmp_ge (tgt := 15) (pc2 := 11) rfl dX3_load_8 (by decide) (fun q => ?_) (fun q => ?_)
  · replace h := h.1 q
    refine EW_aload_n (pc2 := 16) rfl dX3_load_15 0 rfl ?_
    refine AW_getr (r := (v0 + 4)) ⟨gfRX3_21, rfl⟩ (pc2 := 19) rfl dX3_load_16 (isF.o hv0) (isF.r3 hv0) ?_
    refine EW_iload_n (pc2 := 20) rfl dX3_load_19 3 rfl ?_
    obtain ⟨b2, h⟩ := h
    refine AW_iald (pc2 := 21) rfl dX3_load_20 (isF.a3 hv0) b2 ?_
    refine EW_iconst (pc2 := 22) (v := 2) rfl dX3_load_21 (by decide) ?_
    refine EW_aload_n (pc2 := 23) rfl dX3_load_22 0 rfl ?_
    refine AW_getr (r := (v0 + 4)) ⟨gfRX3_21, rfl⟩ (pc2 := 26) rfl dX3_load_23 (isF.o hv0) (isF.r3 hv0) ?_
    refine EW_iload_n (pc2 := 27) rfl dX3_load_26 3 rfl ?_
    refine EW_iconst (pc2 := 28) (v := 1) rfl dX3_load_27 (by decide) ?_
    refine EW_isub (pc2 := 29) rfl dX3_load_28 ?_
    obtain ⟨b3, h⟩ := h
    refine AW_iald (pc2 := 30) rfl dX3_load_29 (isF.a3 hv0) b3 ?_
    refine EW_imul (pc2 := 31) rfl dX3_load_30 ?_
    refine EW_iadd (pc2 := 32) rfl dX3_load_31 ?_
    exact AW_iret rfl dX3_load_32 ⟨_, rfl, rfl, h⟩
  · replace h := h.2 q
    refine EW_iconst (pc2 := 12) (v := 0) rfl dX3_load_11 (by decide) ?_
    refine EW_goto (tgt := 32) dX3_load_12 (by decide) ?_
    exact AW_iret rfl dX3_load_32 ⟨_, rfl, rfl, h⟩
theorem gfRX4_15 : ab_L RX4 15 4 4 := ⟨by decide, by decide, ab_in 230 (by decide +kernel) (by decide +kernel)⟩
abbrev MX4_floorOf : ab_M := (yX4_floorOf, cX4_floorOf, 2, (some .int))
theorem dX4_floorOf_0 : decode cX4_floorOf 0 = .ok (.aload_n 0, 1) := by decide +kernel
theorem dX4_floorOf_1 : decode cX4_floorOf 1 = .ok (.getfield 15, 3) := by decide +kernel
theorem dX4_floorOf_4 : decode cX4_floorOf 4 = .ok (.iconst 1, 1) := by decide +kernel
theorem dX4_floorOf_5 : decode cX4_floorOf 5 = .ok (.if_icmp .ge 7, 3) := by decide +kernel
theorem dX4_floorOf_8 : decode cX4_floorOf 8 = .ok (.iconst 0, 1) := by decide +kernel
theorem dX4_floorOf_9 : decode cX4_floorOf 9 = .ok (.goto 9, 3) := by decide +kernel
theorem dX4_floorOf_12 : decode cX4_floorOf 12 = .ok (.iload_n 1, 1) := by decide +kernel
theorem dX4_floorOf_13 : decode cX4_floorOf 13 = .ok (.aload_n 0, 1) := by decide +kernel
theorem dX4_floorOf_14 : decode cX4_floorOf 14 = .ok (.getfield 15, 3) := by decide +kernel
theorem dX4_floorOf_17 : decode cX4_floorOf 17 = .ok (.idiv, 1) := by decide +kernel
theorem dX4_floorOf_18 : decode cX4_floorOf 18 = .ok (.ireturn, 1) := by decide +kernel
theorem okX4_floorOf : ab_okM MX4_floorOf 1 := ⟨by decide, ⟨by decide, by decide⟩, ab_in 902 (by decide +kernel) (by decide +kernel), ab_in 91 (by decide +kernel) (by decide +kernel), by decide +kernel, by decide⟩
set_option maxHeartbeats 4000000 in
set_option maxRecDepth 100000 in
def wX4_floorOf (v0 : Nat) (v1 : Int32) (x : ab_X) (K : Int32 → Prop) : Prop := ((1 ≤ (x.1 v0 4) → (¬ (x.1 v0 4) = 0 ∧ K (v1 / (x.1 v0 4)))) ∧ (¬ 1 ≤ (x.1 v0 4) → K 0))
set_option maxHeartbeats 4000000 in
set_option maxRecDepth 100000 in
theorem sX4_floorOf (v0 : Nat) (v1 : Int32) (hv0 : isH v0) (x : ab_X) (K : Int32 → Prop) (d bc bs : Nat) (hdp : 0 ≤ d) (h : wX4_floorOf v0 v1 x K) : EW MX4_floorOf 0 [(0, .ref v0), (1, .int v1)] [] (aS x) d bc bs (liP x K) := by
  unfold wX4_floorOf at h
  refine EW_aload_n (pc2 := 1) rfl dX4_floorOf_0 0 rfl ?_
  refine AW_geti ⟨gfRX4_15, rfl⟩ (pc2 := 4) rfl dX4_floorOf_1 (isH.o hv0) ?_
  refine EW_iconst (pc2 := 5) (v := 1) rfl dX4_floorOf_4 (by decide) ?_
  refine EW_icmp_ge (tgt := 12) (pc2 := 8) rfl dX4_floorOf_5 (by decide) (fun q => ?_) (fun q => ?_)
  · replace h := h.1 q
    refine EW_iload_n (pc2 := 13) rfl dX4_floorOf_12 1 rfl ?_
    refine EW_aload_n (pc2 := 14) rfl dX4_floorOf_13 0 rfl ?_
    refine AW_geti ⟨gfRX4_15, rfl⟩ (pc2 := 17) rfl dX4_floorOf_14 (isH.o hv0) ?_
    obtain ⟨hz, h⟩ := h
    refine EW_idiv (pc2 := 18) rfl dX4_floorOf_17 hz ?_
    exact AW_iret rfl dX4_floorOf_18 ⟨_, rfl, rfl, h⟩
  · replace h := h.2 q
    refine EW_iconst (pc2 := 9) (v := 0) rfl dX4_floorOf_8 (by decide) ?_
    refine EW_goto (tgt := 18) dX4_floorOf_9 (by decide) ?_
    exact AW_iret rfl dX4_floorOf_18 ⟨_, rfl, rfl, h⟩
theorem gfRX4_40 : ab_L RX4 40 4 2 := ⟨by decide, by decide, ab_in 221 (by decide +kernel) (by decide +kernel)⟩
abbrev MX4_limit : ab_M := (yX4_limit, cX4_limit, 1, (some .int))
theorem dX4_limit_0 : decode cX4_limit 0 = .ok (.aload_n 0, 1) := by decide +kernel
theorem dX4_limit_1 : decode cX4_limit 1 = .ok (.getfield 15, 3) := by decide +kernel
theorem dX4_limit_4 : decode cX4_limit 4 = .ok (.aload_n 0, 1) := by decide +kernel
theorem dX4_limit_5 : decode cX4_limit 5 = .ok (.getfield 40, 3) := by decide +kernel
theorem dX4_limit_8 : decode cX4_limit 8 = .ok (.ifCond .ne 8, 3) := by decide +kernel
theorem dX4_limit_11 : decode cX4_limit 11 = .ok (.bipush 60, 2) := by decide +kernel
theorem dX4_limit_13 : decode cX4_limit 13 = .ok (.goto 19, 3) := by decide +kernel
theorem dX4_limit_16 : decode cX4_limit 16 = .ok (.aload_n 0, 1) := by decide +kernel
theorem dX4_limit_17 : decode cX4_limit 17 = .ok (.getfield 40, 3) := by decide +kernel
theorem dX4_limit_20 : decode cX4_limit 20 = .ok (.iconst 1, 1) := by decide +kernel
theorem dX4_limit_21 : decode cX4_limit 21 = .ok (.if_icmp .ne 8, 3) := by decide +kernel
theorem dX4_limit_24 : decode cX4_limit 24 = .ok (.bipush 100, 2) := by decide +kernel
theorem dX4_limit_26 : decode cX4_limit 26 = .ok (.goto 6, 3) := by decide +kernel
theorem dX4_limit_29 : decode cX4_limit 29 = .ok (.sipush 140, 3) := by decide +kernel
theorem dX4_limit_32 : decode cX4_limit 32 = .ok (.imul, 1) := by decide +kernel
theorem dX4_limit_33 : decode cX4_limit 33 = .ok (.ireturn, 1) := by decide +kernel
theorem okX4_limit : ab_okM MX4_limit 0 := ⟨by decide, ⟨by decide, by decide⟩, ab_in 1422 (by decide +kernel) (by decide +kernel), ab_in 91 (by decide +kernel) (by decide +kernel), by decide +kernel, by decide⟩
set_option maxHeartbeats 4000000 in
set_option maxRecDepth 100000 in
def wX4_limit (v0 : Nat) (x : ab_X) (K : Int32 → Prop) : Prop := ((¬ (x.1 v0 2) = 0 → ((¬ (x.1 v0 2) = 1 → K ((x.1 v0 4) * 140)) ∧ ((x.1 v0 2) = 1 → K ((x.1 v0 4) * 100)))) ∧ ((x.1 v0 2) = 0 → K ((x.1 v0 4) * 60)))
set_option maxHeartbeats 4000000 in
set_option maxRecDepth 100000 in
theorem sX4_limit (v0 : Nat) (hv0 : isH v0) (x : ab_X) (K : Int32 → Prop) (d bc bs : Nat) (hdp : 0 ≤ d) (h : wX4_limit v0 x K) : EW MX4_limit 0 [(0, .ref v0)] [] (aS x) d bc bs (liP x K) := by
  unfold wX4_limit at h
  refine EW_aload_n (pc2 := 1) rfl dX4_limit_0 0 rfl ?_
  refine AW_geti ⟨gfRX4_15, rfl⟩ (pc2 := 4) rfl dX4_limit_1 (isH.o hv0) ?_
  refine EW_aload_n (pc2 := 5) rfl dX4_limit_4 0 rfl ?_
  refine AW_geti ⟨gfRX4_40, rfl⟩ (pc2 := 8) rfl dX4_limit_5 (isH.o hv0) ?_
  refine EW_if_ne (tgt := 16) (pc2 := 11) rfl dX4_limit_8 (by decide) (fun q => ?_) (fun q => ?_)
  · replace h := h.1 q
    refine EW_aload_n (pc2 := 17) rfl dX4_limit_16 0 rfl ?_
    refine AW_geti ⟨gfRX4_40, rfl⟩ (pc2 := 20) rfl dX4_limit_17 (isH.o hv0) ?_
    refine EW_iconst (pc2 := 21) (v := 1) rfl dX4_limit_20 (by decide) ?_
    refine EW_icmp_ne (tgt := 29) (pc2 := 24) rfl dX4_limit_21 (by decide) (fun q => ?_) (fun q => ?_)
    · replace h := h.1 q
      refine EW_sipush (pc2 := 32) (v := 140) rfl dX4_limit_29 (by decide) ?_
      refine EW_imul (pc2 := 33) rfl dX4_limit_32 ?_
      exact AW_iret rfl dX4_limit_33 ⟨_, rfl, rfl, h⟩
    · replace h := h.2 q
      refine EW_bipush (pc2 := 26) (v := 100) rfl dX4_limit_24 (by decide) ?_
      refine EW_goto (tgt := 32) dX4_limit_26 (by decide) ?_
      refine EW_imul (pc2 := 33) rfl dX4_limit_32 ?_
      exact AW_iret rfl dX4_limit_33 ⟨_, rfl, rfl, h⟩
  · replace h := h.2 q
    refine EW_bipush (pc2 := 13) (v := 60) rfl dX4_limit_11 (by decide) ?_
    refine EW_goto (tgt := 32) dX4_limit_13 (by decide) ?_
    refine EW_imul (pc2 := 33) rfl dX4_limit_32 ?_
    exact AW_iret rfl dX4_limit_33 ⟨_, rfl, rfl, h⟩
theorem gfRX9_34 : ab_L RX9 34 9 3 := ⟨by decide, by decide, ab_in 371 (by decide +kernel) (by decide +kernel)⟩
theorem gfRX9_15 : ab_L RX9 15 9 2 := ⟨by decide, by decide, ab_in 370 (by decide +kernel) (by decide +kernel)⟩
abbrev MX9_holds : ab_M := (yX9_holds, cX9_holds, 1, (some .boolean))
theorem dX9_holds_0 : decode cX9_holds 0 = .ok (.aload_n 0, 1) := by decide +kernel
theorem dX9_holds_1 : decode cX9_holds 1 = .ok (.getfield 34, 3) := by decide +kernel
theorem dX9_holds_4 : decode cX9_holds 4 = .ok (.ifCond .le 16, 3) := by decide +kernel
theorem dX9_holds_7 : decode cX9_holds 7 = .ok (.aload_n 0, 1) := by decide +kernel
theorem dX9_holds_8 : decode cX9_holds 8 = .ok (.getfield 15, 3) := by decide +kernel
theorem dX9_holds_11 : decode cX9_holds 11 = .ok (.iconst 0, 1) := by decide +kernel
theorem dX9_holds_12 : decode cX9_holds 12 = .ok (.iaload, 1) := by decide +kernel
theorem dX9_holds_13 : decode cX9_holds 13 = .ok (.ifCond .eq 7, 3) := by decide +kernel
theorem dX9_holds_16 : decode cX9_holds 16 = .ok (.iconst 1, 1) := by decide +kernel
theorem dX9_holds_17 : decode cX9_holds 17 = .ok (.goto 4, 3) := by decide +kernel
theorem dX9_holds_20 : decode cX9_holds 20 = .ok (.iconst 0, 1) := by decide +kernel
theorem dX9_holds_21 : decode cX9_holds 21 = .ok (.ireturn, 1) := by decide +kernel
theorem okX9_holds : ab_okM MX9_holds 0 := ⟨by decide, ⟨by decide, by decide⟩, ab_in 1427 (by decide +kernel) (by decide +kernel), ab_in 93 (by decide +kernel) (by decide +kernel), by decide +kernel, by decide⟩
set_option maxHeartbeats 4000000 in
set_option maxRecDepth 100000 in
def wX9_holds (v0 : Nat) (x : ab_X) (K : Int32 → Prop) : Prop := (((x.1 v0 3) ≤ 0 → K 0) ∧ (¬ (x.1 v0 3) ≤ 0 → (vp_in 0 40 ∧ (((x.1 (v0 + 2) (Int32.toNatClampNeg 0)) = 0 → K 0) ∧ (¬ (x.1 (v0 + 2) (Int32.toNatClampNeg 0)) = 0 → K 1)))))
set_option maxHeartbeats 4000000 in
set_option maxRecDepth 100000 in
theorem sX9_holds (v0 : Nat) (hv0 : isT v0) (x : ab_X) (K : Int32 → Prop) (d bc bs : Nat) (hdp : 0 ≤ d) (h : wX9_holds v0 x K) : EW MX9_holds 0 [(0, .ref v0)] [] (aS x) d bc bs (liP x K) := by
  unfold wX9_holds at h
  refine EW_aload_n (pc2 := 1) rfl dX9_holds_0 0 rfl ?_
  refine AW_geti ⟨gfRX9_34, rfl⟩ (pc2 := 4) rfl dX9_holds_1 (isT.o hv0) ?_
  refine EW_if_le (tgt := 20) (pc2 := 7) rfl dX9_holds_4 (by decide) (fun q => ?_) (fun q => ?_)
  · replace h := h.1 q
    refine EW_iconst (pc2 := 21) (v := 0) rfl dX9_holds_20 (by decide) ?_
    exact AW_zret rfl isB0 dX9_holds_21 ⟨_, rfl, rfl, h⟩
  · replace h := h.2 q
    refine EW_aload_n (pc2 := 8) rfl dX9_holds_7 0 rfl ?_
    refine AW_getr (r := (v0 + 2)) ⟨gfRX9_15, rfl⟩ (pc2 := 11) rfl dX9_holds_8 (isT.o hv0) (isT.r2 hv0) ?_
    refine EW_iconst (pc2 := 12) (v := 0) rfl dX9_holds_11 (by decide) ?_
    obtain ⟨b1, h⟩ := h
    refine AW_iald (pc2 := 13) rfl dX9_holds_12 (isT.a2 hv0) b1 ?_
    refine EW_if_eq (tgt := 20) (pc2 := 16) rfl dX9_holds_13 (by decide) (fun q => ?_) (fun q => ?_)
    · replace h := h.1 q
      refine EW_iconst (pc2 := 21) (v := 0) rfl dX9_holds_20 (by decide) ?_
      exact AW_zret rfl isB0 dX9_holds_21 ⟨_, rfl, rfl, h⟩
    · replace h := h.2 q
      refine EW_iconst (pc2 := 17) (v := 1) rfl dX9_holds_16 (by decide) ?_
      refine EW_goto (tgt := 21) dX9_holds_17 (by decide) ?_
      exact AW_zret rfl isB1 dX9_holds_21 ⟨_, rfl, rfl, h⟩
abbrev MX11_below : ab_M := (yX11_below, cX11_below, 2, (some .boolean))
theorem dX11_below_0 : decode cX11_below 0 = .ok (.iload_n 0, 1) := by decide +kernel
theorem dX11_below_1 : decode cX11_below 1 = .ok (.ifCond .lt 12, 3) := by decide +kernel
theorem dX11_below_4 : decode cX11_below 4 = .ok (.iload_n 0, 1) := by decide +kernel
theorem dX11_below_5 : decode cX11_below 5 = .ok (.iload_n 1, 1) := by decide +kernel
theorem dX11_below_6 : decode cX11_below 6 = .ok (.if_icmp .ge 7, 3) := by decide +kernel
theorem dX11_below_9 : decode cX11_below 9 = .ok (.iconst 1, 1) := by decide +kernel
theorem dX11_below_10 : decode cX11_below 10 = .ok (.goto 4, 3) := by decide +kernel
theorem dX11_below_13 : decode cX11_below 13 = .ok (.iconst 0, 1) := by decide +kernel
theorem dX11_below_14 : decode cX11_below 14 = .ok (.ireturn, 1) := by decide +kernel
theorem okX11_below : ab_okM MX11_below 2 := ⟨by decide, ⟨by decide, by decide⟩, ab_in 795 (by decide +kernel) (by decide +kernel), ab_in 86 (by decide +kernel) (by decide +kernel), by decide +kernel, by decide⟩
set_option maxHeartbeats 4000000 in
set_option maxRecDepth 100000 in
def wX11_below (v0 : Int32) (v1 : Int32) (x : ab_X) (K : Int32 → Prop) : Prop := ((v0 < 0 → K 0) ∧ (¬ v0 < 0 → ((v1 ≤ v0 → K 0) ∧ (¬ v1 ≤ v0 → K 1))))
set_option maxHeartbeats 4000000 in
set_option maxRecDepth 100000 in
theorem sX11_below (v0 : Int32) (v1 : Int32)  (x : ab_X) (K : Int32 → Prop) (d bc bs : Nat) (hdp : 0 ≤ d) (h : wX11_below v0 v1 x K) : EW MX11_below 0 [(0, .int v0), (1, .int v1)] [] (aS x) d bc bs (liP x K) := by
  unfold wX11_below at h
  refine EW_iload_n (pc2 := 1) rfl dX11_below_0 0 rfl ?_
  refine EW_if_lt (tgt := 13) (pc2 := 4) rfl dX11_below_1 (by decide) (fun q => ?_) (fun q => ?_)
  · replace h := h.1 q
    refine EW_iconst (pc2 := 14) (v := 0) rfl dX11_below_13 (by decide) ?_
    exact AW_zret rfl isB0 dX11_below_14 ⟨_, rfl, rfl, h⟩
  · replace h := h.2 q
    refine EW_iload_n (pc2 := 5) rfl dX11_below_4 0 rfl ?_
    refine EW_iload_n (pc2 := 6) rfl dX11_below_5 1 rfl ?_
    refine EW_icmp_ge (tgt := 13) (pc2 := 9) rfl dX11_below_6 (by decide) (fun q => ?_) (fun q => ?_)
    · replace h := h.1 q
      refine EW_iconst (pc2 := 14) (v := 0) rfl dX11_below_13 (by decide) ?_
      exact AW_zret rfl isB0 dX11_below_14 ⟨_, rfl, rfl, h⟩
    · replace h := h.2 q
      refine EW_iconst (pc2 := 10) (v := 1) rfl dX11_below_9 (by decide) ?_
      refine EW_goto (tgt := 14) dX11_below_10 (by decide) ?_
      exact AW_zret rfl isB1 dX11_below_14 ⟨_, rfl, rfl, h⟩
theorem gfRX9_40 : ab_L RX9 40 9 5 := ⟨by decide, by decide, ab_in 373 (by decide +kernel) (by decide +kernel)⟩
theorem gfRX9_18 : ab_L RX9 18 9 7 := ⟨by decide, by decide, ab_in 376 (by decide +kernel) (by decide +kernel)⟩
theorem mlRX9_61 : Cond.methodLinkNest RX9 61 yX11_below "CityBrigade" ∈ tables_1.filter ab_isN ∧ Cond.static yX11_below ∈ ab_G := ⟨List.mem_filter.mpr ⟨List.mem_of_getElem? (i := 998) (by decide +kernel), rfl⟩, ab_in 794 (by decide +kernel) (by decide +kernel)⟩
theorem mmRX9_88 : Cond.methodLink RX9 88 Lib.Math.min.name ∈ ab_G ∧ Cond.static Lib.Math.min.name ∈ ab_G ∧ Cond.initialized "java/lang/Math" ∈ ab_G ∧ Cond.code Lib.Math.min.name Lib.Math.min.code 2 (some .int) ∈ ab_G := ⟨ab_in 1096 (by decide +kernel) (by decide +kernel), ab_in 787 (by decide +kernel) (by decide +kernel), ab_in 100 (by decide +kernel) (by decide +kernel), ab_in 788 (by decide +kernel) (by decide +kernel)⟩
abbrev MX9_ask : ab_M := (yX9_ask, cX9_ask, 3, none)
theorem dX9_ask_0 : decode cX9_ask 0 = .ok (.aload_n 0, 1) := by decide +kernel
theorem dX9_ask_1 : decode cX9_ask 1 = .ok (.getfield 40, 3) := by decide +kernel
theorem dX9_ask_4 : decode cX9_ask 4 = .ok (.ifCond .eq 34, 3) := by decide +kernel
theorem dX9_ask_7 : decode cX9_ask 7 = .ok (.iload_n 1, 1) := by decide +kernel
theorem dX9_ask_8 : decode cX9_ask 8 = .ok (.aload_n 0, 1) := by decide +kernel
theorem dX9_ask_9 : decode cX9_ask 9 = .ok (.getfield 18, 3) := by decide +kernel
theorem dX9_ask_12 : decode cX9_ask 12 = .ok (.arraylength, 1) := by decide +kernel
theorem dX9_ask_13 : decode cX9_ask 13 = .ok (.invokestatic 61, 3) := by decide +kernel
theorem dX9_ask_16 : decode cX9_ask 16 = .ok (.ifCond .eq 22, 3) := by decide +kernel
theorem dX9_ask_19 : decode cX9_ask 19 = .ok (.aload_n 0, 1) := by decide +kernel
theorem dX9_ask_20 : decode cX9_ask 20 = .ok (.getfield 18, 3) := by decide +kernel
theorem dX9_ask_23 : decode cX9_ask 23 = .ok (.iload_n 1, 1) := by decide +kernel
theorem dX9_ask_24 : decode cX9_ask 24 = .ok (.bipush 9, 2) := by decide +kernel
theorem dX9_ask_26 : decode cX9_ask 26 = .ok (.aload_n 0, 1) := by decide +kernel
theorem dX9_ask_27 : decode cX9_ask 27 = .ok (.getfield 18, 3) := by decide +kernel
theorem dX9_ask_30 : decode cX9_ask 30 = .ok (.iload_n 1, 1) := by decide +kernel
theorem dX9_ask_31 : decode cX9_ask 31 = .ok (.iaload, 1) := by decide +kernel
theorem dX9_ask_32 : decode cX9_ask 32 = .ok (.iload_n 2, 1) := by decide +kernel
theorem dX9_ask_33 : decode cX9_ask 33 = .ok (.iadd, 1) := by decide +kernel
theorem dX9_ask_34 : decode cX9_ask 34 = .ok (.invokestatic 88, 3) := by decide +kernel
theorem dX9_ask_37 : decode cX9_ask 37 = .ok (.iastore, 1) := by decide +kernel
theorem dX9_ask_38 : decode cX9_ask 38 = .ok (.return_, 1) := by decide +kernel
theorem okX9_ask : ab_okM MX9_ask 2 := ⟨by decide, ⟨by decide, by decide⟩, ab_in 1095 (by decide +kernel) (by decide +kernel), ab_in 93 (by decide +kernel) (by decide +kernel), by decide +kernel, by decide⟩
set_option maxHeartbeats 4000000 in
set_option maxRecDepth 100000 in
def wX9_ask (v0 : Nat) (v1 : Int32) (v2 : Int32) (x : ab_X) (K : ab_X → Prop) : Prop := (((x.1 v0 5) = 0 → K x) ∧ (¬ (x.1 v0 5) = 0 → wX11_below v1 5 x (fun r1 => ((r1 = 0 → K x) ∧ (¬ r1 = 0 → (vp_in v1 5 ∧ vp_in v1 5 ∧ K (wr x (v0 + 3) (Int32.toNatClampNeg v1) (imin 9 ((x.1 (v0 + 3) (Int32.toNatClampNeg v1)) + v2)))))))))
set_option maxHeartbeats 4000000 in
set_option maxRecDepth 100000 in
theorem sX9_ask (v0 : Nat) (v1 : Int32) (v2 : Int32) (hv0 : isT v0) (x : ab_X) (K : ab_X → Prop) (d bc bs : Nat) (hdp : 1 ≤ d) (h : wX9_ask v0 v1 v2 x K) : EW MX9_ask 0 [(0, .ref v0), (1, .int v1), (2, .int v2)] [] (aS x) d bc bs (liV K) := by
  unfold wX9_ask at h
  refine EW_aload_n (pc2 := 1) rfl dX9_ask_0 0 rfl ?_
  refine AW_geti ⟨gfRX9_40, rfl⟩ (pc2 := 4) rfl dX9_ask_1 (isT.o hv0) ?_
  refine EW_if_eq (tgt := 38) (pc2 := 7) rfl dX9_ask_4 (by decide) (fun q => ?_) (fun q => ?_)
  · replace h := h.1 q
    exact EW_vret rfl dX9_ask_38 ⟨_, rfl, rfl, h⟩
  · replace h := h.2 q
    refine EW_iload_n (pc2 := 8) rfl dX9_ask_7 1 rfl ?_
    refine EW_aload_n (pc2 := 9) rfl dX9_ask_8 0 rfl ?_
    refine AW_getr (r := (v0 + 3)) ⟨gfRX9_18, rfl⟩ (pc2 := 12) rfl dX9_ask_9 (isT.o hv0) (isT.r7 hv0) ?_
    refine AW_alen (t := 0) (by decide) (pc2 := 13) rfl dX9_ask_12 (isT.a7 hv0) (v := 5) rfl ?_
    refine AW_invSN (M' := MX11_below) [.int v1, .int 5] (rest := []) mlRX9_61 okX11_below (pc2 := 16) rfl dX9_ask_13 rfl rfl (Nat.le_of_ble_eq_true rfl) (Nat.le_of_ble_eq_true rfl) (d' := 0) (by omega) (EW_mono (fun _ _ hr => ?_) (sX11_below v1 5  x _ _ 0 0 (Nat.le_refl _) h))
    obtain ⟨r1, rfl, rfl, h⟩ := hr
    refine EW_if_eq (tgt := 38) (pc2 := 19) rfl dX9_ask_16 (by decide) (fun q => ?_) (fun q => ?_)
    · replace h := h.1 q
      exact EW_vret rfl dX9_ask_38 ⟨_, rfl, rfl, h⟩
    · replace h := h.2 q
      refine EW_aload_n (pc2 := 20) rfl dX9_ask_19 0 rfl ?_
      refine AW_getr (r := (v0 + 3)) ⟨gfRX9_18, rfl⟩ (pc2 := 23) rfl dX9_ask_20 (isT.o hv0) (isT.r7 hv0) ?_
      refine EW_iload_n (pc2 := 24) rfl dX9_ask_23 1 rfl ?_
      refine EW_bipush (pc2 := 26) (v := 9) rfl dX9_ask_24 (by decide) ?_
      refine EW_aload_n (pc2 := 27) rfl dX9_ask_26 0 rfl ?_
      refine AW_getr (r := (v0 + 3)) ⟨gfRX9_18, rfl⟩ (pc2 := 30) rfl dX9_ask_27 (isT.o hv0) (isT.r7 hv0) ?_
      refine EW_iload_n (pc2 := 31) rfl dX9_ask_30 1 rfl ?_
      obtain ⟨b2, h⟩ := h
      refine AW_iald (pc2 := 32) rfl dX9_ask_31 (isT.a7 hv0) b2 ?_
      refine EW_iload_n (pc2 := 33) rfl dX9_ask_32 2 rfl ?_
      refine EW_iadd (pc2 := 34) rfl dX9_ask_33 ?_
      refine AW_mmin mmRX9_88 (pc2 := 37) rfl dX9_ask_34 (Nat.le_of_ble_eq_true rfl) (by omega) ?_
      obtain ⟨b3, h⟩ := h
      refine AW_iast (pc2 := 38) rfl dX9_ask_37 (isT.a7 hv0) b3 ?_
      exact EW_vret rfl dX9_ask_38 ⟨_, rfl, rfl, h⟩
theorem gfRX9_37 : ab_L RX9 37 9 4 := ⟨by decide, by decide, ab_in 372 (by decide +kernel) (by decide +kernel)⟩
theorem gfRX9_44 : ab_L RX9 44 9 6 := ⟨by decide, by decide, ab_in 374 (by decide +kernel) (by decide +kernel)⟩
abbrev MX9_beginActions : ab_M := (yX9_beginActions, cX9_beginActions, 2, none)
theorem dX9_beginActions_0 : decode cX9_beginActions 0 = .ok (.aload_n 0, 1) := by decide +kernel
theorem dX9_beginActions_1 : decode cX9_beginActions 1 = .ok (.iload_n 1, 1) := by decide +kernel
theorem dX9_beginActions_2 : decode cX9_beginActions 2 = .ok (.putfield 40, 3) := by decide +kernel
theorem dX9_beginActions_5 : decode cX9_beginActions 5 = .ok (.iload_n 1, 1) := by decide +kernel
theorem dX9_beginActions_6 : decode cX9_beginActions 6 = .ok (.ifCond .eq 27, 3) := by decide +kernel
theorem dX9_beginActions_9 : decode cX9_beginActions 9 = .ok (.aload_n 0, 1) := by decide +kernel
theorem dX9_beginActions_10 : decode cX9_beginActions 10 = .ok (.getfield 37, 3) := by decide +kernel
theorem dX9_beginActions_13 : decode cX9_beginActions 13 = .ok (.bipush 30, 2) := by decide +kernel
theorem dX9_beginActions_15 : decode cX9_beginActions 15 = .ok (.if_icmp .ge 18, 3) := by decide +kernel
theorem dX9_beginActions_18 : decode cX9_beginActions 18 = .ok (.aload_n 0, 1) := by decide +kernel
theorem dX9_beginActions_19 : decode cX9_beginActions 19 = .ok (.dup, 1) := by decide +kernel
theorem dX9_beginActions_20 : decode cX9_beginActions 20 = .ok (.getfield 44, 3) := by decide +kernel
theorem dX9_beginActions_23 : decode cX9_beginActions 23 = .ok (.iconst 1, 1) := by decide +kernel
theorem dX9_beginActions_24 : decode cX9_beginActions 24 = .ok (.aload_n 0, 1) := by decide +kernel
theorem dX9_beginActions_25 : decode cX9_beginActions 25 = .ok (.getfield 37, 3) := by decide +kernel
theorem dX9_beginActions_28 : decode cX9_beginActions 28 = .ok (.ishl, 1) := by decide +kernel
theorem dX9_beginActions_29 : decode cX9_beginActions 29 = .ok (.ior, 1) := by decide +kernel
theorem dX9_beginActions_30 : decode cX9_beginActions 30 = .ok (.putfield 44, 3) := by decide +kernel
theorem dX9_beginActions_33 : decode cX9_beginActions 33 = .ok (.aload_n 0, 1) := by decide +kernel
theorem dX9_beginActions_34 : decode cX9_beginActions 34 = .ok (.dup, 1) := by decide +kernel
theorem dX9_beginActions_35 : decode cX9_beginActions 35 = .ok (.getfield 37, 3) := by decide +kernel
theorem dX9_beginActions_38 : decode cX9_beginActions 38 = .ok (.iconst 1, 1) := by decide +kernel
theorem dX9_beginActions_39 : decode cX9_beginActions 39 = .ok (.iadd, 1) := by decide +kernel
theorem dX9_beginActions_40 : decode cX9_beginActions 40 = .ok (.putfield 37, 3) := by decide +kernel
theorem dX9_beginActions_43 : decode cX9_beginActions 43 = .ok (.return_, 1) := by decide +kernel
theorem okX9_beginActions : ab_okM MX9_beginActions 1 := ⟨by decide, ⟨by decide, by decide⟩, ab_in 1091 (by decide +kernel) (by decide +kernel), ab_in 93 (by decide +kernel) (by decide +kernel), by decide +kernel, by decide⟩
set_option maxHeartbeats 4000000 in
set_option maxRecDepth 100000 in
def wX9_beginActions_33 (v0 : Nat) (x : ab_X) (K : ab_X → Prop)  : Prop := K (wr x v0 4 ((x.1 v0 4) + 1))
set_option maxHeartbeats 4000000 in
set_option maxRecDepth 100000 in
theorem sX9_beginActions_33 (v0 : Nat) (hv0 : isT v0) (x : ab_X) (K : ab_X → Prop)  (d bc bs : Nat) (hdp : 0 ≤ d)  (h : wX9_beginActions_33 v0 x K ) : EW MX9_beginActions 33 [(0, .ref v0)] [] (aS x) d bc bs (liV K) := by
  unfold wX9_beginActions_33 at h
  refine EW_aload_n (pc2 := 34) rfl dX9_beginActions_33 0 rfl ?_
  refine EW_dup (pc2 := 35) rfl dX9_beginActions_34 rfl ?_
  refine AW_geti ⟨gfRX9_37, rfl⟩ (pc2 := 38) rfl dX9_beginActions_35 (isT.o hv0) ?_
  refine EW_iconst (pc2 := 39) (v := 1) rfl dX9_beginActions_38 (by decide) ?_
  refine EW_iadd (pc2 := 40) rfl dX9_beginActions_39 ?_
  refine AW_puti ⟨gfRX9_37, rfl, rfl⟩ (pc2 := 43) rfl dX9_beginActions_40 (isT.o hv0) ?_
  exact EW_vret rfl dX9_beginActions_43 ⟨_, rfl, rfl, h⟩
set_option maxHeartbeats 4000000 in
set_option maxRecDepth 100000 in
def wX9_beginActions (v0 : Nat) (v1 : Int32) (x : ab_X) (K : ab_X → Prop) : Prop := (isB v1 ∧ ((v1 = 0 → wX9_beginActions_33 v0 (wr x v0 5 v1) K) ∧ (¬ v1 = 0 → ((30 ≤ ((wr x v0 5 v1).1 v0 4) → wX9_beginActions_33 v0 (wr x v0 5 v1) K) ∧ (¬ 30 ≤ ((wr x v0 5 v1).1 v0 4) → wX9_beginActions_33 v0 (wr (wr x v0 5 v1) v0 6 (((wr x v0 5 v1).1 v0 6) ||| (1 <<< (((wr x v0 5 v1).1 v0 4) &&& 31)))) K)))))
set_option maxHeartbeats 4000000 in
set_option maxRecDepth 100000 in
theorem sX9_beginActions (v0 : Nat) (v1 : Int32) (hv0 : isT v0) (x : ab_X) (K : ab_X → Prop) (d bc bs : Nat) (hdp : 0 ≤ d) (h : wX9_beginActions v0 v1 x K) : EW MX9_beginActions 0 [(0, .ref v0), (1, .int v1)] [] (aS x) d bc bs (liV K) := by
  unfold wX9_beginActions at h
  refine EW_aload_n (pc2 := 1) rfl dX9_beginActions_0 0 rfl ?_
  refine EW_iload_n (pc2 := 2) rfl dX9_beginActions_1 1 rfl ?_
  obtain ⟨z1, h⟩ := h
  refine AW_putz ⟨gfRX9_40, rfl, rfl⟩ z1 (pc2 := 5) rfl dX9_beginActions_2 (isT.o hv0) ?_
  refine EW_iload_n (pc2 := 6) rfl dX9_beginActions_5 1 rfl ?_
  refine EW_if_eq (tgt := 33) (pc2 := 9) rfl dX9_beginActions_6 (by decide) (fun q => ?_) (fun q => ?_)
  · replace h := h.1 q
    refine EW_ls [0] rfl ?_
    exact sX9_beginActions_33 v0 hv0 (wr x v0 5 v1) K d bc bs hdp h
  · replace h := h.2 q
    refine EW_aload_n (pc2 := 10) rfl dX9_beginActions_9 0 rfl ?_
    refine AW_geti ⟨gfRX9_37, rfl⟩ (pc2 := 13) rfl dX9_beginActions_10 (isT.o hv0) ?_
    refine EW_bipush (pc2 := 15) (v := 30) rfl dX9_beginActions_13 (by decide) ?_
    refine EW_icmp_ge (tgt := 33) (pc2 := 18) rfl dX9_beginActions_15 (by decide) (fun q => ?_) (fun q => ?_)
    · replace h := h.1 q
      refine EW_ls [0] rfl ?_
      exact sX9_beginActions_33 v0 hv0 (wr x v0 5 v1) K d bc bs hdp h
    · replace h := h.2 q
      refine EW_aload_n (pc2 := 19) rfl dX9_beginActions_18 0 rfl ?_
      refine EW_dup (pc2 := 20) rfl dX9_beginActions_19 rfl ?_
      refine AW_geti ⟨gfRX9_44, rfl⟩ (pc2 := 23) rfl dX9_beginActions_20 (isT.o hv0) ?_
      refine EW_iconst (pc2 := 24) (v := 1) rfl dX9_beginActions_23 (by decide) ?_
      refine EW_aload_n (pc2 := 25) rfl dX9_beginActions_24 0 rfl ?_
      refine AW_geti ⟨gfRX9_37, rfl⟩ (pc2 := 28) rfl dX9_beginActions_25 (isT.o hv0) ?_
      refine EW_ishl (pc2 := 29) rfl dX9_beginActions_28 ?_
      refine EW_ior (pc2 := 30) rfl dX9_beginActions_29 ?_
      refine AW_puti ⟨gfRX9_44, rfl, rfl⟩ (pc2 := 33) rfl dX9_beginActions_30 (isT.o hv0) ?_
      refine EW_ls [0] rfl ?_
      exact sX9_beginActions_33 v0 hv0 (wr (wr x v0 5 v1) v0 6 (((wr x v0 5 v1).1 v0 6) ||| (1 <<< (((wr x v0 5 v1).1 v0 4) &&& 31)))) K d bc bs hdp h
theorem cnRX9_94 : Cond.constantLong RX9 94 (-1000000) ∈ ab_G := ab_in 1107 (by decide +kernel) (by decide +kernel)
theorem cnRX9_96 : Cond.constantLong RX9 96 1000000 ∈ ab_G := ab_in 1108 (by decide +kernel) (by decide +kernel)
theorem mmRX9_98 : Cond.methodLink RX9 98 Lib.MathLoose.min_long.x ∈ ab_G ∧ Cond.static Lib.MathLoose.min_long.x ∈ ab_G ∧ Cond.initialized "java/lang/Math" ∈ ab_G ∧ Cond.code Lib.MathLoose.min_long.x Lib.MathLoose.min_long.code 4 (some .long) ∈ ab_G := ⟨ab_in 1109 (by decide +kernel) (by decide +kernel), ab_in 1110 (by decide +kernel) (by decide +kernel), ab_in 100 (by decide +kernel) (by decide +kernel), ab_in 1111 (by decide +kernel) (by decide +kernel)⟩
theorem mmRX9_101 : Cond.methodLink RX9 101 Lib.MathLoose.max_long.x ∈ ab_G ∧ Cond.static Lib.MathLoose.max_long.x ∈ ab_G ∧ Cond.initialized "java/lang/Math" ∈ ab_G ∧ Cond.code Lib.MathLoose.max_long.x Lib.MathLoose.max_long.code 4 (some .long) ∈ ab_G := ⟨ab_in 1112 (by decide +kernel) (by decide +kernel), ab_in 1113 (by decide +kernel) (by decide +kernel), ab_in 100 (by decide +kernel) (by decide +kernel), ab_in 1114 (by decide +kernel) (by decide +kernel)⟩
abbrev MX9_bounded : ab_M := (yX9_bounded, cX9_bounded, 2, (some .int))
theorem dX9_bounded_0 : decode cX9_bounded 0 = .ok (.ldc2_w 94, 3) := by decide +kernel
theorem dX9_bounded_3 : decode cX9_bounded 3 = .ok (.ldc2_w 96, 3) := by decide +kernel
theorem dX9_bounded_6 : decode cX9_bounded 6 = .ok (.lload_n 0, 1) := by decide +kernel
theorem dX9_bounded_7 : decode cX9_bounded 7 = .ok (.invokestatic 98, 3) := by decide +kernel
theorem dX9_bounded_10 : decode cX9_bounded 10 = .ok (.invokestatic 101, 3) := by decide +kernel
theorem dX9_bounded_13 : decode cX9_bounded 13 = .ok (.l2i, 1) := by decide +kernel
theorem dX9_bounded_14 : decode cX9_bounded 14 = .ok (.ireturn, 1) := by decide +kernel
theorem okX9_bounded : ab_okM MX9_bounded 1 := ⟨by decide, ⟨by decide, by decide⟩, ab_in 1106 (by decide +kernel) (by decide +kernel), ab_in 93 (by decide +kernel) (by decide +kernel), by decide +kernel, by decide⟩
set_option maxHeartbeats 4000000 in
set_option maxRecDepth 100000 in
def wX9_bounded (v0 : Int64) (x : ab_X) (K : Int32 → Prop) : Prop := K (Int64.toInt32 (lmax (-1000000) (lmin 1000000 v0)))
set_option maxHeartbeats 4000000 in
set_option maxRecDepth 100000 in
theorem sX9_bounded (v0 : Int64)  (x : ab_X) (K : Int32 → Prop) (d bc bs : Nat) (hdp : 1 ≤ d) (h : wX9_bounded v0 x K) : EW MX9_bounded 0 [(0, .long v0)] [] (aS x) d bc bs (liP x K) := by
  unfold wX9_bounded at h
  refine EW_ldc2 cnRX9_94 (pc2 := 3) rfl dX9_bounded_0 ?_
  refine EW_ldc2 cnRX9_96 (pc2 := 6) rfl dX9_bounded_3 ?_
  refine EW_lload_n (pc2 := 7) rfl dX9_bounded_6 0 rfl ?_
  refine AW_mminl mmRX9_98 (pc2 := 10) rfl dX9_bounded_7 (Nat.le_of_ble_eq_true rfl) (by omega) ?_
  refine AW_mmaxl mmRX9_101 (pc2 := 13) rfl dX9_bounded_10 (Nat.le_of_ble_eq_true rfl) (by omega) ?_
  refine EW_l2i (pc2 := 14) (v := (Int64.toInt32 (lmax (-1000000) (lmin 1000000 v0)))) rfl dX9_bounded_13 rfl ?_
  exact AW_iret rfl dX9_bounded_14 ⟨_, rfl, rfl, h⟩
theorem gfRX9_47 : ab_L RX9 47 9 9 := ⟨by decide, by decide, ab_in 381 (by decide +kernel) (by decide +kernel)⟩
theorem gfRX9_21 : ab_L RX9 21 9 8 := ⟨by decide, by decide, ab_in 379 (by decide +kernel) (by decide +kernel)⟩
abbrev MX9_find : ab_M := (yX9_find, cX9_find, 2, none)
theorem dX9_find_0 : decode cX9_find 0 = .ok (.aload_n 0, 1) := by decide +kernel
theorem dX9_find_1 : decode cX9_find 1 = .ok (.getfield 40, 3) := by decide +kernel
theorem dX9_find_4 : decode cX9_find 4 = .ok (.ifCond .eq 32, 3) := by decide +kernel
theorem dX9_find_7 : decode cX9_find 7 = .ok (.aload_n 0, 1) := by decide +kernel
theorem dX9_find_8 : decode cX9_find 8 = .ok (.getfield 47, 3) := by decide +kernel
theorem dX9_find_11 : decode cX9_find 11 = .ok (.bipush 40, 2) := by decide +kernel
theorem dX9_find_13 : decode cX9_find 13 = .ok (.if_icmp .ge 23, 3) := by decide +kernel
theorem dX9_find_16 : decode cX9_find 16 = .ok (.aload_n 0, 1) := by decide +kernel
theorem dX9_find_17 : decode cX9_find 17 = .ok (.getfield 21, 3) := by decide +kernel
theorem dX9_find_20 : decode cX9_find 20 = .ok (.aload_n 0, 1) := by decide +kernel
theorem dX9_find_21 : decode cX9_find 21 = .ok (.getfield 47, 3) := by decide +kernel
theorem dX9_find_24 : decode cX9_find 24 = .ok (.iload_n 1, 1) := by decide +kernel
theorem dX9_find_25 : decode cX9_find 25 = .ok (.iastore, 1) := by decide +kernel
theorem dX9_find_26 : decode cX9_find 26 = .ok (.aload_n 0, 1) := by decide +kernel
theorem dX9_find_27 : decode cX9_find 27 = .ok (.dup, 1) := by decide +kernel
theorem dX9_find_28 : decode cX9_find 28 = .ok (.getfield 47, 3) := by decide +kernel
theorem dX9_find_31 : decode cX9_find 31 = .ok (.iconst 1, 1) := by decide +kernel
theorem dX9_find_32 : decode cX9_find 32 = .ok (.iadd, 1) := by decide +kernel
theorem dX9_find_33 : decode cX9_find 33 = .ok (.putfield 47, 3) := by decide +kernel
theorem dX9_find_36 : decode cX9_find 36 = .ok (.return_, 1) := by decide +kernel
theorem okX9_find : ab_okM MX9_find 1 := ⟨by decide, ⟨by decide, by decide⟩, ab_in 1100 (by decide +kernel) (by decide +kernel), ab_in 93 (by decide +kernel) (by decide +kernel), by decide +kernel, by decide⟩
set_option maxHeartbeats 4000000 in
set_option maxRecDepth 100000 in
def wX9_find (v0 : Nat) (v1 : Int32) (x : ab_X) (K : ab_X → Prop) : Prop := (((x.1 v0 5) = 0 → K x) ∧ (¬ (x.1 v0 5) = 0 → ((40 ≤ (x.1 v0 9) → K x) ∧ (¬ 40 ≤ (x.1 v0 9) → (vp_in (x.1 v0 9) 40 ∧ K (wr (wr x (v0 + 4) (Int32.toNatClampNeg (x.1 v0 9)) v1) v0 9 (((wr x (v0 + 4) (Int32.toNatClampNeg (x.1 v0 9)) v1).1 v0 9) + 1)))))))
set_option maxHeartbeats 4000000 in
set_option maxRecDepth 100000 in
theorem sX9_find (v0 : Nat) (v1 : Int32) (hv0 : isT v0) (x : ab_X) (K : ab_X → Prop) (d bc bs : Nat) (hdp : 0 ≤ d) (h : wX9_find v0 v1 x K) : EW MX9_find 0 [(0, .ref v0), (1, .int v1)] [] (aS x) d bc bs (liV K) := by
  unfold wX9_find at h
  refine EW_aload_n (pc2 := 1) rfl dX9_find_0 0 rfl ?_
  refine AW_geti ⟨gfRX9_40, rfl⟩ (pc2 := 4) rfl dX9_find_1 (isT.o hv0) ?_
  refine EW_if_eq (tgt := 36) (pc2 := 7) rfl dX9_find_4 (by decide) (fun q => ?_) (fun q => ?_)
  · replace h := h.1 q
    exact EW_vret rfl dX9_find_36 ⟨_, rfl, rfl, h⟩
  · replace h := h.2 q
    refine EW_aload_n (pc2 := 8) rfl dX9_find_7 0 rfl ?_
    refine AW_geti ⟨gfRX9_47, rfl⟩ (pc2 := 11) rfl dX9_find_8 (isT.o hv0) ?_
    refine EW_bipush (pc2 := 13) (v := 40) rfl dX9_find_11 (by decide) ?_
    refine EW_icmp_ge (tgt := 36) (pc2 := 16) rfl dX9_find_13 (by decide) (fun q => ?_) (fun q => ?_)
    · replace h := h.1 q
      exact EW_vret rfl dX9_find_36 ⟨_, rfl, rfl, h⟩
    · replace h := h.2 q
      refine EW_aload_n (pc2 := 17) rfl dX9_find_16 0 rfl ?_
      refine AW_getr (r := (v0 + 4)) ⟨gfRX9_21, rfl⟩ (pc2 := 20) rfl dX9_find_17 (isT.o hv0) (isT.r8 hv0) ?_
      refine EW_aload_n (pc2 := 21) rfl dX9_find_20 0 rfl ?_
      refine AW_geti ⟨gfRX9_47, rfl⟩ (pc2 := 24) rfl dX9_find_21 (isT.o hv0) ?_
      refine EW_iload_n (pc2 := 25) rfl dX9_find_24 1 rfl ?_
      obtain ⟨b1, h⟩ := h
      refine AW_iast (pc2 := 26) rfl dX9_find_25 (isT.a8 hv0) b1 ?_
      refine EW_aload_n (pc2 := 27) rfl dX9_find_26 0 rfl ?_
      refine EW_dup (pc2 := 28) rfl dX9_find_27 rfl ?_
      refine AW_geti ⟨gfRX9_47, rfl⟩ (pc2 := 31) rfl dX9_find_28 (isT.o hv0) ?_
      refine EW_iconst (pc2 := 32) (v := 1) rfl dX9_find_31 (by decide) ?_
      refine EW_iadd (pc2 := 33) rfl dX9_find_32 ?_
      refine AW_puti ⟨gfRX9_47, rfl, rfl⟩ (pc2 := 36) rfl dX9_find_33 (isT.o hv0) ?_
      exact EW_vret rfl dX9_find_36 ⟨_, rfl, rfl, h⟩
abbrev MX9_joined : ab_M := (yX9_joined, cX9_joined, 3, (some .long))
theorem dX9_joined_0 : decode cX9_joined 0 = .ok (.iload_n 0, 1) := by decide +kernel
theorem dX9_joined_1 : decode cX9_joined 1 = .ok (.tableswitch 103 2 9 #[47, 53, 59, 65, 76, 87, 103, 98], 47) := by decide +kernel
theorem dX9_joined_48 : decode cX9_joined 48 = .ok (.iload_n 1, 1) := by decide +kernel
theorem dX9_joined_49 : decode cX9_joined 49 = .ok (.i2l, 1) := by decide +kernel
theorem dX9_joined_50 : decode cX9_joined 50 = .ok (.iload_n 2, 1) := by decide +kernel
theorem dX9_joined_51 : decode cX9_joined 51 = .ok (.i2l, 1) := by decide +kernel
theorem dX9_joined_52 : decode cX9_joined 52 = .ok (.ladd, 1) := by decide +kernel
theorem dX9_joined_53 : decode cX9_joined 53 = .ok (.lreturn, 1) := by decide +kernel
theorem dX9_joined_54 : decode cX9_joined 54 = .ok (.iload_n 1, 1) := by decide +kernel
theorem dX9_joined_55 : decode cX9_joined 55 = .ok (.i2l, 1) := by decide +kernel
theorem dX9_joined_56 : decode cX9_joined 56 = .ok (.iload_n 2, 1) := by decide +kernel
theorem dX9_joined_57 : decode cX9_joined 57 = .ok (.i2l, 1) := by decide +kernel
theorem dX9_joined_58 : decode cX9_joined 58 = .ok (.lsub, 1) := by decide +kernel
theorem dX9_joined_59 : decode cX9_joined 59 = .ok (.lreturn, 1) := by decide +kernel
theorem dX9_joined_60 : decode cX9_joined 60 = .ok (.iload_n 1, 1) := by decide +kernel
theorem dX9_joined_61 : decode cX9_joined 61 = .ok (.i2l, 1) := by decide +kernel
theorem dX9_joined_62 : decode cX9_joined 62 = .ok (.iload_n 2, 1) := by decide +kernel
theorem dX9_joined_63 : decode cX9_joined 63 = .ok (.i2l, 1) := by decide +kernel
theorem dX9_joined_64 : decode cX9_joined 64 = .ok (.lmul, 1) := by decide +kernel
theorem dX9_joined_65 : decode cX9_joined 65 = .ok (.lreturn, 1) := by decide +kernel
theorem dX9_joined_66 : decode cX9_joined 66 = .ok (.iload_n 1, 1) := by decide +kernel
theorem dX9_joined_67 : decode cX9_joined 67 = .ok (.iload_n 2, 1) := by decide +kernel
theorem dX9_joined_68 : decode cX9_joined 68 = .ok (.if_icmp .ne 7, 3) := by decide +kernel
theorem dX9_joined_71 : decode cX9_joined 71 = .ok (.lconst 1, 1) := by decide +kernel
theorem dX9_joined_72 : decode cX9_joined 72 = .ok (.goto 4, 3) := by decide +kernel
theorem dX9_joined_75 : decode cX9_joined 75 = .ok (.lconst 0, 1) := by decide +kernel
theorem dX9_joined_76 : decode cX9_joined 76 = .ok (.lreturn, 1) := by decide +kernel
theorem dX9_joined_77 : decode cX9_joined 77 = .ok (.iload_n 1, 1) := by decide +kernel
theorem dX9_joined_78 : decode cX9_joined 78 = .ok (.iload_n 2, 1) := by decide +kernel
theorem dX9_joined_79 : decode cX9_joined 79 = .ok (.if_icmp .ge 7, 3) := by decide +kernel
theorem dX9_joined_82 : decode cX9_joined 82 = .ok (.lconst 1, 1) := by decide +kernel
theorem dX9_joined_83 : decode cX9_joined 83 = .ok (.goto 4, 3) := by decide +kernel
theorem dX9_joined_86 : decode cX9_joined 86 = .ok (.lconst 0, 1) := by decide +kernel
theorem dX9_joined_87 : decode cX9_joined 87 = .ok (.lreturn, 1) := by decide +kernel
theorem dX9_joined_88 : decode cX9_joined 88 = .ok (.iload_n 1, 1) := by decide +kernel
theorem dX9_joined_89 : decode cX9_joined 89 = .ok (.iload_n 2, 1) := by decide +kernel
theorem dX9_joined_90 : decode cX9_joined 90 = .ok (.if_icmp .le 7, 3) := by decide +kernel
theorem dX9_joined_93 : decode cX9_joined 93 = .ok (.lconst 1, 1) := by decide +kernel
theorem dX9_joined_94 : decode cX9_joined 94 = .ok (.goto 4, 3) := by decide +kernel
theorem dX9_joined_97 : decode cX9_joined 97 = .ok (.lconst 0, 1) := by decide +kernel
theorem dX9_joined_98 : decode cX9_joined 98 = .ok (.lreturn, 1) := by decide +kernel
theorem dX9_joined_99 : decode cX9_joined 99 = .ok (.iload_n 1, 1) := by decide +kernel
theorem dX9_joined_100 : decode cX9_joined 100 = .ok (.iload_n 2, 1) := by decide +kernel
theorem dX9_joined_101 : decode cX9_joined 101 = .ok (.iand, 1) := by decide +kernel
theorem dX9_joined_102 : decode cX9_joined 102 = .ok (.i2l, 1) := by decide +kernel
theorem dX9_joined_103 : decode cX9_joined 103 = .ok (.lreturn, 1) := by decide +kernel
theorem dX9_joined_104 : decode cX9_joined 104 = .ok (.iload_n 1, 1) := by decide +kernel
theorem dX9_joined_105 : decode cX9_joined 105 = .ok (.iload_n 2, 1) := by decide +kernel
theorem dX9_joined_106 : decode cX9_joined 106 = .ok (.ior, 1) := by decide +kernel
theorem dX9_joined_107 : decode cX9_joined 107 = .ok (.i2l, 1) := by decide +kernel
theorem dX9_joined_108 : decode cX9_joined 108 = .ok (.lreturn, 1) := by decide +kernel
theorem okX9_joined : ab_okM MX9_joined 3 := ⟨by decide, ⟨by decide, by decide⟩, ab_in 1103 (by decide +kernel) (by decide +kernel), ab_in 93 (by decide +kernel) (by decide +kernel), by decide +kernel, by decide⟩
set_option maxHeartbeats 4000000 in
set_option maxRecDepth 100000 in
def wX9_joined (v0 : Int32) (v1 : Int32) (v2 : Int32) (x : ab_X) (K : Int64 → Prop) : Prop := (((v0.toInt < 2 ∨ 9 < v0.toInt) → K (Int32.toInt64 (v1 ||| v2))) ∧ (v0 = 2 → K ((Int32.toInt64 v1) + (Int32.toInt64 v2))) ∧ (v0 = 3 → K ((Int32.toInt64 v1) - (Int32.toInt64 v2))) ∧ (v0 = 4 → K ((Int32.toInt64 v1) * (Int32.toInt64 v2))) ∧ (v0 = 5 → ((¬ v1 = v2 → K 0) ∧ (v1 = v2 → K 1))) ∧ (v0 = 6 → ((v2 ≤ v1 → K 0) ∧ (¬ v2 ≤ v1 → K 1))) ∧ (v0 = 7 → ((v1 ≤ v2 → K 0) ∧ (¬ v1 ≤ v2 → K 1))) ∧ (v0 = 8 → K (Int32.toInt64 (v1 ||| v2))) ∧ (v0 = 9 → K (Int32.toInt64 (v1 &&& v2))))
set_option maxHeartbeats 4000000 in
set_option maxRecDepth 100000 in
theorem sX9_joined (v0 : Int32) (v1 : Int32) (v2 : Int32)  (x : ab_X) (K : Int64 → Prop) (d bc bs : Nat) (hdp : 0 ≤ d) (h : wX9_joined v0 v1 v2 x K) : EW MX9_joined 0 [(0, .int v0), (1, .int v1), (2, .int v2)] [] (aS x) d bc bs (liL x K) := by
  unfold wX9_joined at h
  refine EW_iload_n (pc2 := 1) rfl dX9_joined_0 0 rfl ?_
  by_cases qo : Int32.toInt v0 < 2 ∨ 9 < Int32.toInt v0
  · replace h := h.1 qo
    refine EW_tabOut (tgt := 104) dX9_joined_1 qo (by decide) ?_
    refine EW_iload_n (pc2 := 105) rfl dX9_joined_104 1 rfl ?_
    refine EW_iload_n (pc2 := 106) rfl dX9_joined_105 2 rfl ?_
    refine EW_ior (pc2 := 107) rfl dX9_joined_106 ?_
    refine EW_i2l (pc2 := 108) (v := (Int32.toInt64 (v1 ||| v2))) rfl dX9_joined_107 rfl ?_
    exact EW_lret rfl dX9_joined_108 ⟨_, rfl, rfl, h⟩
  · obtain ⟨kk, hkk, qk⟩ := sw_in 2 7 (by decide) qo
    match kk, hkk, qk with
    | 0, _, qk =>
      replace h := h.2.1 qk
      refine EW_tabIn (off := 47) (tgt := 48) dX9_joined_1 (by rw [qk]; decide) (by rw [qk]; decide) (by rw [qk]; decide) (by decide) ?_
      refine EW_iload_n (pc2 := 49) rfl dX9_joined_48 1 rfl ?_
      refine EW_i2l (pc2 := 50) (v := (Int32.toInt64 v1)) rfl dX9_joined_49 rfl ?_
      refine EW_iload_n (pc2 := 51) rfl dX9_joined_50 2 rfl ?_
      refine EW_i2l (pc2 := 52) (v := (Int32.toInt64 v2)) rfl dX9_joined_51 rfl ?_
      refine EW_ladd (pc2 := 53) rfl dX9_joined_52 ?_
      exact EW_lret rfl dX9_joined_53 ⟨_, rfl, rfl, h⟩
    | 1, _, qk =>
      replace h := h.2.2.1 qk
      refine EW_tabIn (off := 53) (tgt := 54) dX9_joined_1 (by rw [qk]; decide) (by rw [qk]; decide) (by rw [qk]; decide) (by decide) ?_
      refine EW_iload_n (pc2 := 55) rfl dX9_joined_54 1 rfl ?_
      refine EW_i2l (pc2 := 56) (v := (Int32.toInt64 v1)) rfl dX9_joined_55 rfl ?_
      refine EW_iload_n (pc2 := 57) rfl dX9_joined_56 2 rfl ?_
      refine EW_i2l (pc2 := 58) (v := (Int32.toInt64 v2)) rfl dX9_joined_57 rfl ?_
      refine EW_lsub (pc2 := 59) rfl dX9_joined_58 ?_
      exact EW_lret rfl dX9_joined_59 ⟨_, rfl, rfl, h⟩
    | 2, _, qk =>
      replace h := h.2.2.2.1 qk
      refine EW_tabIn (off := 59) (tgt := 60) dX9_joined_1 (by rw [qk]; decide) (by rw [qk]; decide) (by rw [qk]; decide) (by decide) ?_
      refine EW_iload_n (pc2 := 61) rfl dX9_joined_60 1 rfl ?_
      refine EW_i2l (pc2 := 62) (v := (Int32.toInt64 v1)) rfl dX9_joined_61 rfl ?_
      refine EW_iload_n (pc2 := 63) rfl dX9_joined_62 2 rfl ?_
      refine EW_i2l (pc2 := 64) (v := (Int32.toInt64 v2)) rfl dX9_joined_63 rfl ?_
      refine EW_lmul (pc2 := 65) rfl dX9_joined_64 ?_
      exact EW_lret rfl dX9_joined_65 ⟨_, rfl, rfl, h⟩
    | 3, _, qk =>
      replace h := h.2.2.2.2.1 qk
      refine EW_tabIn (off := 65) (tgt := 66) dX9_joined_1 (by rw [qk]; decide) (by rw [qk]; decide) (by rw [qk]; decide) (by decide) ?_
      refine EW_iload_n (pc2 := 67) rfl dX9_joined_66 1 rfl ?_
      refine EW_iload_n (pc2 := 68) rfl dX9_joined_67 2 rfl ?_
      refine EW_icmp_ne (tgt := 75) (pc2 := 71) rfl dX9_joined_68 (by decide) (fun q => ?_) (fun q => ?_)
      · replace h := h.1 q
        refine EW_lconst (pc2 := 76) (v := 0) rfl dX9_joined_75 (by decide) ?_
        exact EW_lret rfl dX9_joined_76 ⟨_, rfl, rfl, h⟩
      · replace h := h.2 q
        refine EW_lconst (pc2 := 72) (v := 1) rfl dX9_joined_71 (by decide) ?_
        refine EW_goto (tgt := 76) dX9_joined_72 (by decide) ?_
        exact EW_lret rfl dX9_joined_76 ⟨_, rfl, rfl, h⟩
    | 4, _, qk =>
      replace h := h.2.2.2.2.2.1 qk
      refine EW_tabIn (off := 76) (tgt := 77) dX9_joined_1 (by rw [qk]; decide) (by rw [qk]; decide) (by rw [qk]; decide) (by decide) ?_
      refine EW_iload_n (pc2 := 78) rfl dX9_joined_77 1 rfl ?_
      refine EW_iload_n (pc2 := 79) rfl dX9_joined_78 2 rfl ?_
      refine EW_icmp_ge (tgt := 86) (pc2 := 82) rfl dX9_joined_79 (by decide) (fun q => ?_) (fun q => ?_)
      · replace h := h.1 q
        refine EW_lconst (pc2 := 87) (v := 0) rfl dX9_joined_86 (by decide) ?_
        exact EW_lret rfl dX9_joined_87 ⟨_, rfl, rfl, h⟩
      · replace h := h.2 q
        refine EW_lconst (pc2 := 83) (v := 1) rfl dX9_joined_82 (by decide) ?_
        refine EW_goto (tgt := 87) dX9_joined_83 (by decide) ?_
        exact EW_lret rfl dX9_joined_87 ⟨_, rfl, rfl, h⟩
    | 5, _, qk =>
      replace h := h.2.2.2.2.2.2.1 qk
      refine EW_tabIn (off := 87) (tgt := 88) dX9_joined_1 (by rw [qk]; decide) (by rw [qk]; decide) (by rw [qk]; decide) (by decide) ?_
      refine EW_iload_n (pc2 := 89) rfl dX9_joined_88 1 rfl ?_
      refine EW_iload_n (pc2 := 90) rfl dX9_joined_89 2 rfl ?_
      refine EW_icmp_le (tgt := 97) (pc2 := 93) rfl dX9_joined_90 (by decide) (fun q => ?_) (fun q => ?_)
      · replace h := h.1 q
        refine EW_lconst (pc2 := 98) (v := 0) rfl dX9_joined_97 (by decide) ?_
        exact EW_lret rfl dX9_joined_98 ⟨_, rfl, rfl, h⟩
      · replace h := h.2 q
        refine EW_lconst (pc2 := 94) (v := 1) rfl dX9_joined_93 (by decide) ?_
        refine EW_goto (tgt := 98) dX9_joined_94 (by decide) ?_
        exact EW_lret rfl dX9_joined_98 ⟨_, rfl, rfl, h⟩
    | 6, _, qk =>
      replace h := h.2.2.2.2.2.2.2.1 qk
      refine EW_tabIn (off := 103) (tgt := 104) dX9_joined_1 (by rw [qk]; decide) (by rw [qk]; decide) (by rw [qk]; decide) (by decide) ?_
      refine EW_iload_n (pc2 := 105) rfl dX9_joined_104 1 rfl ?_
      refine EW_iload_n (pc2 := 106) rfl dX9_joined_105 2 rfl ?_
      refine EW_ior (pc2 := 107) rfl dX9_joined_106 ?_
      refine EW_i2l (pc2 := 108) (v := (Int32.toInt64 (v1 ||| v2))) rfl dX9_joined_107 rfl ?_
      exact EW_lret rfl dX9_joined_108 ⟨_, rfl, rfl, h⟩
    | 7, _, qk =>
      replace h := h.2.2.2.2.2.2.2.2 qk
      refine EW_tabIn (off := 98) (tgt := 99) dX9_joined_1 (by rw [qk]; decide) (by rw [qk]; decide) (by rw [qk]; decide) (by decide) ?_
      refine EW_iload_n (pc2 := 100) rfl dX9_joined_99 1 rfl ?_
      refine EW_iload_n (pc2 := 101) rfl dX9_joined_100 2 rfl ?_
      refine EW_iand (pc2 := 102) rfl dX9_joined_101 ?_
      refine EW_i2l (pc2 := 103) (v := (Int32.toInt64 (v1 &&& v2))) rfl dX9_joined_102 rfl ?_
      exact EW_lret rfl dX9_joined_103 ⟨_, rfl, rfl, h⟩
    | n9 + 8, hkk, _ => exact absurd hkk (by omega)
abbrev MX9_pop : ab_M := (yX9_pop, cX9_pop, 1, (some .int))
theorem dX9_pop_0 : decode cX9_pop 0 = .ok (.aload_n 0, 1) := by decide +kernel
theorem dX9_pop_1 : decode cX9_pop 1 = .ok (.getfield 34, 3) := by decide +kernel
theorem dX9_pop_4 : decode cX9_pop 4 = .ok (.iconst 1, 1) := by decide +kernel
theorem dX9_pop_5 : decode cX9_pop 5 = .ok (.if_icmp .ge 5, 3) := by decide +kernel
theorem dX9_pop_8 : decode cX9_pop 8 = .ok (.iconst 0, 1) := by decide +kernel
theorem dX9_pop_9 : decode cX9_pop 9 = .ok (.ireturn, 1) := by decide +kernel
theorem dX9_pop_10 : decode cX9_pop 10 = .ok (.aload_n 0, 1) := by decide +kernel
theorem dX9_pop_11 : decode cX9_pop 11 = .ok (.dup, 1) := by decide +kernel
theorem dX9_pop_12 : decode cX9_pop 12 = .ok (.getfield 34, 3) := by decide +kernel
theorem dX9_pop_15 : decode cX9_pop 15 = .ok (.iconst 1, 1) := by decide +kernel
theorem dX9_pop_16 : decode cX9_pop 16 = .ok (.isub, 1) := by decide +kernel
theorem dX9_pop_17 : decode cX9_pop 17 = .ok (.putfield 34, 3) := by decide +kernel
theorem dX9_pop_20 : decode cX9_pop 20 = .ok (.aload_n 0, 1) := by decide +kernel
theorem dX9_pop_21 : decode cX9_pop 21 = .ok (.getfield 15, 3) := by decide +kernel
theorem dX9_pop_24 : decode cX9_pop 24 = .ok (.aload_n 0, 1) := by decide +kernel
theorem dX9_pop_25 : decode cX9_pop 25 = .ok (.getfield 34, 3) := by decide +kernel
theorem dX9_pop_28 : decode cX9_pop 28 = .ok (.iaload, 1) := by decide +kernel
theorem dX9_pop_29 : decode cX9_pop 29 = .ok (.ireturn, 1) := by decide +kernel
theorem okX9_pop : ab_okM MX9_pop 0 := ⟨by decide, ⟨by decide, by decide⟩, ab_in 1087 (by decide +kernel) (by decide +kernel), ab_in 93 (by decide +kernel) (by decide +kernel), by decide +kernel, by decide⟩
set_option maxHeartbeats 4000000 in
set_option maxRecDepth 100000 in
def wX9_pop (v0 : Nat) (x : ab_X) (K : Int32 → ab_X → Prop) : Prop := ((1 ≤ (x.1 v0 3) → (vp_in ((wr x v0 3 ((x.1 v0 3) - 1)).1 v0 3) 40 ∧ K ((wr x v0 3 ((x.1 v0 3) - 1)).1 (v0 + 2) (Int32.toNatClampNeg ((wr x v0 3 ((x.1 v0 3) - 1)).1 v0 3))) (wr x v0 3 ((x.1 v0 3) - 1)))) ∧ (¬ 1 ≤ (x.1 v0 3) → K 0 x))
set_option maxHeartbeats 4000000 in
set_option maxRecDepth 100000 in
theorem sX9_pop (v0 : Nat) (hv0 : isT v0) (x : ab_X) (K : Int32 → ab_X → Prop) (d bc bs : Nat) (hdp : 0 ≤ d) (h : wX9_pop v0 x K) : EW MX9_pop 0 [(0, .ref v0)] [] (aS x) d bc bs (liI K) := by
  unfold wX9_pop at h
  refine EW_aload_n (pc2 := 1) rfl dX9_pop_0 0 rfl ?_
  refine AW_geti ⟨gfRX9_34, rfl⟩ (pc2 := 4) rfl dX9_pop_1 (isT.o hv0) ?_
  refine EW_iconst (pc2 := 5) (v := 1) rfl dX9_pop_4 (by decide) ?_
  refine EW_icmp_ge (tgt := 10) (pc2 := 8) rfl dX9_pop_5 (by decide) (fun q => ?_) (fun q => ?_)
  · replace h := h.1 q
    refine EW_aload_n (pc2 := 11) rfl dX9_pop_10 0 rfl ?_
    refine EW_dup (pc2 := 12) rfl dX9_pop_11 rfl ?_
    refine AW_geti ⟨gfRX9_34, rfl⟩ (pc2 := 15) rfl dX9_pop_12 (isT.o hv0) ?_
    refine EW_iconst (pc2 := 16) (v := 1) rfl dX9_pop_15 (by decide) ?_
    refine EW_isub (pc2 := 17) rfl dX9_pop_16 ?_
    refine AW_puti ⟨gfRX9_34, rfl, rfl⟩ (pc2 := 20) rfl dX9_pop_17 (isT.o hv0) ?_
    refine EW_aload_n (pc2 := 21) rfl dX9_pop_20 0 rfl ?_
    refine AW_getr (r := (v0 + 2)) ⟨gfRX9_15, rfl⟩ (pc2 := 24) rfl dX9_pop_21 (isT.o hv0) (isT.r2 hv0) ?_
    refine EW_aload_n (pc2 := 25) rfl dX9_pop_24 0 rfl ?_
    refine AW_geti ⟨gfRX9_34, rfl⟩ (pc2 := 28) rfl dX9_pop_25 (isT.o hv0) ?_
    obtain ⟨b1, h⟩ := h
    refine AW_iald (pc2 := 29) rfl dX9_pop_28 (isT.a2 hv0) b1 ?_
    exact AW_iret rfl dX9_pop_29 ⟨_, _, rfl, rfl, h⟩
  · replace h := h.2 q
    refine EW_iconst (pc2 := 9) (v := 0) rfl dX9_pop_8 (by decide) ?_
    exact AW_iret rfl dX9_pop_9 ⟨_, _, rfl, rfl, h⟩
abbrev MX9_push : ab_M := (yX9_push, cX9_push, 2, none)
theorem dX9_push_0 : decode cX9_push 0 = .ok (.aload_n 0, 1) := by decide +kernel
theorem dX9_push_1 : decode cX9_push 1 = .ok (.getfield 34, 3) := by decide +kernel
theorem dX9_push_4 : decode cX9_push 4 = .ok (.bipush 40, 2) := by decide +kernel
theorem dX9_push_6 : decode cX9_push 6 = .ok (.if_icmp .ge 23, 3) := by decide +kernel
theorem dX9_push_9 : decode cX9_push 9 = .ok (.aload_n 0, 1) := by decide +kernel
theorem dX9_push_10 : decode cX9_push 10 = .ok (.getfield 15, 3) := by decide +kernel
theorem dX9_push_13 : decode cX9_push 13 = .ok (.aload_n 0, 1) := by decide +kernel
theorem dX9_push_14 : decode cX9_push 14 = .ok (.getfield 34, 3) := by decide +kernel
theorem dX9_push_17 : decode cX9_push 17 = .ok (.iload_n 1, 1) := by decide +kernel
theorem dX9_push_18 : decode cX9_push 18 = .ok (.iastore, 1) := by decide +kernel
theorem dX9_push_19 : decode cX9_push 19 = .ok (.aload_n 0, 1) := by decide +kernel
theorem dX9_push_20 : decode cX9_push 20 = .ok (.dup, 1) := by decide +kernel
theorem dX9_push_21 : decode cX9_push 21 = .ok (.getfield 34, 3) := by decide +kernel
theorem dX9_push_24 : decode cX9_push 24 = .ok (.iconst 1, 1) := by decide +kernel
theorem dX9_push_25 : decode cX9_push 25 = .ok (.iadd, 1) := by decide +kernel
theorem dX9_push_26 : decode cX9_push 26 = .ok (.putfield 34, 3) := by decide +kernel
theorem dX9_push_29 : decode cX9_push 29 = .ok (.return_, 1) := by decide +kernel
theorem okX9_push : ab_okM MX9_push 1 := ⟨by decide, ⟨by decide, by decide⟩, ab_in 1082 (by decide +kernel) (by decide +kernel), ab_in 93 (by decide +kernel) (by decide +kernel), by decide +kernel, by decide⟩
set_option maxHeartbeats 4000000 in
set_option maxRecDepth 100000 in
def wX9_push (v0 : Nat) (v1 : Int32) (x : ab_X) (K : ab_X → Prop) : Prop := ((40 ≤ (x.1 v0 3) → K x) ∧ (¬ 40 ≤ (x.1 v0 3) → (vp_in (x.1 v0 3) 40 ∧ K (wr (wr x (v0 + 2) (Int32.toNatClampNeg (x.1 v0 3)) v1) v0 3 (((wr x (v0 + 2) (Int32.toNatClampNeg (x.1 v0 3)) v1).1 v0 3) + 1)))))
set_option maxHeartbeats 4000000 in
set_option maxRecDepth 100000 in
theorem sX9_push (v0 : Nat) (v1 : Int32) (hv0 : isT v0) (x : ab_X) (K : ab_X → Prop) (d bc bs : Nat) (hdp : 0 ≤ d) (h : wX9_push v0 v1 x K) : EW MX9_push 0 [(0, .ref v0), (1, .int v1)] [] (aS x) d bc bs (liV K) := by
  unfold wX9_push at h
  refine EW_aload_n (pc2 := 1) rfl dX9_push_0 0 rfl ?_
  refine AW_geti ⟨gfRX9_34, rfl⟩ (pc2 := 4) rfl dX9_push_1 (isT.o hv0) ?_
  refine EW_bipush (pc2 := 6) (v := 40) rfl dX9_push_4 (by decide) ?_
  refine EW_icmp_ge (tgt := 29) (pc2 := 9) rfl dX9_push_6 (by decide) (fun q => ?_) (fun q => ?_)
  · replace h := h.1 q
    exact EW_vret rfl dX9_push_29 ⟨_, rfl, rfl, h⟩
  · replace h := h.2 q
    refine EW_aload_n (pc2 := 10) rfl dX9_push_9 0 rfl ?_
    refine AW_getr (r := (v0 + 2)) ⟨gfRX9_15, rfl⟩ (pc2 := 13) rfl dX9_push_10 (isT.o hv0) (isT.r2 hv0) ?_
    refine EW_aload_n (pc2 := 14) rfl dX9_push_13 0 rfl ?_
    refine AW_geti ⟨gfRX9_34, rfl⟩ (pc2 := 17) rfl dX9_push_14 (isT.o hv0) ?_
    refine EW_iload_n (pc2 := 18) rfl dX9_push_17 1 rfl ?_
    obtain ⟨b1, h⟩ := h
    refine AW_iast (pc2 := 19) rfl dX9_push_18 (isT.a2 hv0) b1 ?_
    refine EW_aload_n (pc2 := 20) rfl dX9_push_19 0 rfl ?_
    refine EW_dup (pc2 := 21) rfl dX9_push_20 rfl ?_
    refine AW_geti ⟨gfRX9_34, rfl⟩ (pc2 := 24) rfl dX9_push_21 (isT.o hv0) ?_
    refine EW_iconst (pc2 := 25) (v := 1) rfl dX9_push_24 (by decide) ?_
    refine EW_iadd (pc2 := 26) rfl dX9_push_25 ?_
    refine AW_puti ⟨gfRX9_34, rfl, rfl⟩ (pc2 := 29) rfl dX9_push_26 (isT.o hv0) ?_
    exact EW_vret rfl dX9_push_29 ⟨_, rfl, rfl, h⟩
