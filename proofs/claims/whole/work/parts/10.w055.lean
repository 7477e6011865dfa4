abbrev MX12_burnsAt : ab_M := (yX12_burnsAt, cX12_burnsAt, 3, (some .boolean))
theorem dX12_burnsAt_0 : decode cX12_burnsAt 0 = .ok (.iconst 0, 1) := by decide +kernel
theorem dX12_burnsAt_1 : decode cX12_burnsAt 1 = .ok (.istore_n 2, 1) := by decide +kernel
theorem dX12_burnsAt_2 : decode cX12_burnsAt 2 = .ok (.iload_n 2, 1) := by decide +kernel
theorem dX12_burnsAt_3 : decode cX12_burnsAt 3 = .ok (.aload_n 0, 1) := by decide +kernel
theorem dX12_burnsAt_4 : decode cX12_burnsAt 4 = .ok (.getfield 331, 3) := by decide +kernel
theorem dX12_burnsAt_7 : decode cX12_burnsAt 7 = .ok (.if_icmp .ge 29, 3) := by decide +kernel
theorem dX12_burnsAt_10 : decode cX12_burnsAt 10 = .ok (.aload_n 0, 1) := by decide +kernel
theorem dX12_burnsAt_11 : decode cX12_burnsAt 11 = .ok (.getfield 32, 3) := by decide +kernel
theorem dX12_burnsAt_14 : decode cX12_burnsAt 14 = .ok (.iload_n 2, 1) := by decide +kernel
theorem dX12_burnsAt_15 : decode cX12_burnsAt 15 = .ok (.iaload, 1) := by decide +kernel
theorem dX12_burnsAt_16 : decode cX12_burnsAt 16 = .ok (.iload_n 1, 1) := by decide +kernel
theorem dX12_burnsAt_17 : decode cX12_burnsAt 17 = .ok (.if_icmp .ne 13, 3) := by decide +kernel
theorem dX12_burnsAt_20 : decode cX12_burnsAt 20 = .ok (.aload_n 0, 1) := by decide +kernel
theorem dX12_burnsAt_21 : decode cX12_burnsAt 21 = .ok (.iload_n 2, 1) := by decide +kernel
theorem dX12_burnsAt_22 : decode cX12_burnsAt 22 = .ok (.invokevirtual 351, 3) := by decide +kernel
theorem dX12_burnsAt_25 : decode cX12_burnsAt 25 = .ok (.ifCond .le 5, 3) := by decide +kernel
theorem dX12_burnsAt_28 : decode cX12_burnsAt 28 = .ok (.iconst 1, 1) := by decide +kernel
theorem dX12_burnsAt_29 : decode cX12_burnsAt 29 = .ok (.ireturn, 1) := by decide +kernel
theorem dX12_burnsAt_30 : decode cX12_burnsAt 30 = .ok (.iinc 2 1, 3) := by decide +kernel
theorem dX12_burnsAt_33 : decode cX12_burnsAt 33 = .ok (.goto (-31), 3) := by decide +kernel
theorem dX12_burnsAt_36 : decode cX12_burnsAt 36 = .ok (.iconst 0, 1) := by decide +kernel
theorem dX12_burnsAt_37 : decode cX12_burnsAt 37 = .ok (.ireturn, 1) := by decide +kernel
theorem okX12_burnsAt : ab_okM MX12_burnsAt 1 := ⟨by decide, ⟨by decide, by decide⟩, ab_in 2291 (by decide +kernel) (by decide +kernel), ab_in 99 (by decide +kernel) (by decide +kernel), by decide +kernel, by decide⟩
set_option maxHeartbeats 4000000 in
set_option maxRecDepth 100000 in
def lX12_burnsAt_2 (v1 : Int32) (x : ab_X) (K : Int32 → Prop)  (L2 : Int32 → Prop) (v2 : Int32) : Prop := (((x.1 246 31) ≤ v2 → K 0) ∧ (¬ (x.1 246 31) ≤ v2 → (vp_in v2 12 ∧ ((¬ (x.1 254 (Int32.toNatClampNeg v2)) = v1 → L2 (v2 + 1)) ∧ ((x.1 254 (Int32.toNatClampNeg v2)) = v1 → wX12_burning v2 x (fun r2 => ((r2 ≤ 0 → L2 (v2 + 1)) ∧ (¬ r2 ≤ 0 → K 1))))))))
set_option maxHeartbeats 4000000 in
set_option maxRecDepth 100000 in
theorem sX12_burnsAt_2 (v1 : Int32) (v2 : Int32)  (x : ab_X) (K : Int32 → Prop)  (d bc bs : Nat) (hdp : 3 ≤ d)  (h : Lp1 (lX12_burnsAt_2 v1 x K ) v2) : EW MX12_burnsAt 2 [(0, .ref 246), (1, .int v1), (2, .int v2)] [] (aS x) d bc bs (liP x K) := by
  refine Lp1.use (P := fun v2 => EW MX12_burnsAt 2 [(0, .ref 246), (1, .int v1), (2, .int v2)] [] (aS x) d bc bs (liP x K)) (fun L2 v2 hL2 h => ?_) v2 h
  unfold lX12_burnsAt_2 at h
  refine EW_iload_n (pc2 := 3) rfl dX12_burnsAt_2 2 rfl ?_
  refine EW_aload_n (pc2 := 4) rfl dX12_burnsAt_3 0 rfl ?_
  refine AW_geti ⟨gfRX12_331, rfl⟩ (pc2 := 7) rfl dX12_burnsAt_4 q246 ?_
  refine EW_icmp_ge (tgt := 36) (pc2 := 10) rfl dX12_burnsAt_7 (by decide) (fun q => ?_) (fun q => ?_)
  · replace h := h.1 q
    refine EW_iconst (pc2 := 37) (v := 0) rfl dX12_burnsAt_36 (by decide) ?_
    exact AW_zret rfl isB0 dX12_burnsAt_37 ⟨_, rfl, rfl, h⟩
  · replace h := h.2 q
    refine EW_aload_n (pc2 := 11) rfl dX12_burnsAt_10 0 rfl ?_
    refine AW_getr (r := 254) ⟨gfRX12_32, rfl⟩ (pc2 := 14) rfl dX12_burnsAt_11 q246 rfl ?_
    refine EW_iload_n (pc2 := 15) rfl dX12_burnsAt_14 2 rfl ?_
    obtain ⟨b1, h⟩ := h
    refine AW_iald (pc2 := 16) rfl dX12_burnsAt_15 q254 b1 ?_
    refine EW_iload_n (pc2 := 17) rfl dX12_burnsAt_16 1 rfl ?_
    refine EW_icmp_ne (tgt := 30) (pc2 := 20) rfl dX12_burnsAt_17 (by decide) (fun q => ?_) (fun q => ?_)
    · replace h := h.1 q
      refine EW_iinc (v2 + 1) (pc2 := 33) rfl dX12_burnsAt_30 2 rfl rfl (by decide) [1, 2, 0] [(0, .ref 246), (1, .int v1), (2, .int (v2 + 1))] rfl ?_
      refine EW_goto (tgt := 2) dX12_burnsAt_33 (by decide) ?_
      exact hL2 (v2 + 1) h
    · replace h := h.2 q
      refine EW_aload_n (pc2 := 21) rfl dX12_burnsAt_20 0 rfl ?_
      refine EW_iload_n (pc2 := 22) rfl dX12_burnsAt_21 2 rfl ?_
      refine AW_invV (M' := MX12_burning) [.int v2] (rest := []) mlRX12_351 okX12_burning (pc2 := 25) rfl dX12_burnsAt_22 rfl rfl (Nat.le_of_ble_eq_true rfl) (Nat.le_of_ble_eq_true rfl) (d' := 2) (by omega) q246 ⟨by decide, rfl⟩ (EW_mono (fun _ _ hr => ?_) (sX12_burning v2  x _ _ 0 0 (Nat.le_refl _) h))
      obtain ⟨r2, rfl, rfl, h⟩ := hr
      refine EW_if_le (tgt := 30) (pc2 := 28) rfl dX12_burnsAt_25 (by decide) (fun q => ?_) (fun q => ?_)
      · replace h := h.1 q
        refine EW_iinc (v2 + 1) (pc2 := 33) rfl dX12_burnsAt_30 2 rfl rfl (by decide) [1, 2, 0] [(0, .ref 246), (1, .int v1), (2, .int (v2 + 1))] rfl ?_
        refine EW_goto (tgt := 2) dX12_burnsAt_33 (by decide) ?_
        exact hL2 (v2 + 1) h
      · replace h := h.2 q
        refine EW_iconst (pc2 := 29) (v := 1) rfl dX12_burnsAt_28 (by decide) ?_
        exact AW_zret rfl isB1 dX12_burnsAt_29 ⟨_, rfl, rfl, h⟩
set_option maxHeartbeats 4000000 in
set_option maxRecDepth 100000 in
def wX12_burnsAt (v1 : Int32) (x : ab_X) (K : Int32 → Prop) : Prop := Lp1 (lX12_burnsAt_2 v1 x K ) 0
set_option maxHeartbeats 4000000 in
set_option maxRecDepth 100000 in
theorem sX12_burnsAt (v1 : Int32)  (x : ab_X) (K : Int32 → Prop) (d bc bs : Nat) (hdp : 3 ≤ d) (h : wX12_burnsAt v1 x K) : EW MX12_burnsAt 0 [(0, .ref 246), (1, .int v1)] [] (aS x) d bc bs (liP x K) := by
  unfold wX12_burnsAt at h
  refine EW_iconst (pc2 := 1) (v := 0) rfl dX12_burnsAt_0 (by decide) ?_
  refine EW_istore_n (pc2 := 2) rfl dX12_burnsAt_1 (by decide) [1, 2, 0] [(0, .ref 246), (1, .int v1), (2, .int 0)] rfl ?_
  exact sX12_burnsAt_2 v1 0 x K d bc bs hdp h
abbrev MX12_burntOf : ab_M := (yX12_burntOf, cX12_burntOf, 4, (some .int))
theorem dX12_burntOf_0 : decode cX12_burntOf 0 = .ok (.iconst 0, 1) := by decide +kernel
theorem dX12_burntOf_1 : decode cX12_burntOf 1 = .ok (.istore_n 2, 1) := by decide +kernel
theorem dX12_burntOf_2 : decode cX12_burntOf 2 = .ok (.iconst 0, 1) := by decide +kernel
theorem dX12_burntOf_3 : decode cX12_burntOf 3 = .ok (.istore_n 3, 1) := by decide +kernel
theorem dX12_burntOf_4 : decode cX12_burntOf 4 = .ok (.iload_n 3, 1) := by decide +kernel
theorem dX12_burntOf_5 : decode cX12_burntOf 5 = .ok (.aload_n 0, 1) := by decide +kernel
theorem dX12_burntOf_6 : decode cX12_burntOf 6 = .ok (.getfield 38, 3) := by decide +kernel
theorem dX12_burntOf_9 : decode cX12_burntOf 9 = .ok (.iload_n 1, 1) := by decide +kernel
theorem dX12_burntOf_10 : decode cX12_burntOf 10 = .ok (.iaload, 1) := by decide +kernel
theorem dX12_burntOf_11 : decode cX12_burntOf 11 = .ok (.if_icmp .ge 23, 3) := by decide +kernel
theorem dX12_burntOf_14 : decode cX12_burntOf 14 = .ok (.iload_n 2, 1) := by decide +kernel
theorem dX12_burntOf_15 : decode cX12_burntOf 15 = .ok (.aload_n 0, 1) := by decide +kernel
theorem dX12_burntOf_16 : decode cX12_burntOf 16 = .ok (.getfield 83, 3) := by decide +kernel
theorem dX12_burntOf_19 : decode cX12_burntOf 19 = .ok (.bipush 6, 2) := by decide +kernel
theorem dX12_burntOf_21 : decode cX12_burntOf 21 = .ok (.iload_n 1, 1) := by decide +kernel
theorem dX12_burntOf_22 : decode cX12_burntOf 22 = .ok (.imul, 1) := by decide +kernel
theorem dX12_burntOf_23 : decode cX12_burntOf 23 = .ok (.iload_n 3, 1) := by decide +kernel
theorem dX12_burntOf_24 : decode cX12_burntOf 24 = .ok (.iadd, 1) := by decide +kernel
theorem dX12_burntOf_25 : decode cX12_burntOf 25 = .ok (.iaload, 1) := by decide +kernel
theorem dX12_burntOf_26 : decode cX12_burntOf 26 = .ok (.iadd, 1) := by decide +kernel
theorem dX12_burntOf_27 : decode cX12_burntOf 27 = .ok (.istore_n 2, 1) := by decide +kernel
theorem dX12_burntOf_28 : decode cX12_burntOf 28 = .ok (.iinc 3 1, 3) := by decide +kernel
theorem dX12_burntOf_31 : decode cX12_burntOf 31 = .ok (.goto (-27), 3) := by decide +kernel
theorem dX12_burntOf_34 : decode cX12_burntOf 34 = .ok (.iload_n 2, 1) := by decide +kernel
theorem dX12_burntOf_35 : decode cX12_burntOf 35 = .ok (.ireturn, 1) := by decide +kernel
theorem okX12_burntOf : ab_okM MX12_burntOf 1 := ⟨by decide, ⟨by decide, by decide⟩, ab_in 2332 (by decide +kernel) (by decide +kernel), ab_in 99 (by decide +kernel) (by decide +kernel), by decide +kernel, by decide⟩
set_option maxHeartbeats 4000000 in
set_option maxRecDepth 100000 in
def lX12_burntOf_4 (v1 : Int32) (x : ab_X) (K : Int32 → Prop)  (L4 : Int32 → Int32 → Prop) (v2 : Int32) (v3 : Int32) : Prop := (vp_in v1 12 ∧ (((x.1 256 (Int32.toNatClampNeg v1)) ≤ v3 → K v2) ∧ (¬ (x.1 256 (Int32.toNatClampNeg v1)) ≤ v3 → (vp_in ((6 * v1) + v3) 72 ∧ L4 (v2 + (x.1 271 (Int32.toNatClampNeg ((6 * v1) + v3)))) (v3 + 1)))))
set_option maxHeartbeats 4000000 in
set_option maxRecDepth 100000 in
theorem sX12_burntOf_4 (v1 : Int32) (v2 : Int32) (v3 : Int32)  (x : ab_X) (K : Int32 → Prop)  (d bc bs : Nat) (hdp : 0 ≤ d)  (h : Lp2 (lX12_burntOf_4 v1 x K ) v2 v3) : EW MX12_burntOf 4 [(0, .ref 246), (1, .int v1), (2, .int v2), (3, .int v3)] [] (aS x) d bc bs (liP x K) := by
  refine Lp2.use (P := fun v2 v3 => EW MX12_burntOf 4 [(0, .ref 246), (1, .int v1), (2, .int v2), (3, .int v3)] [] (aS x) d bc bs (liP x K)) (fun L4 v2 v3 hL4 h => ?_) v2 v3 h
  unfold lX12_burntOf_4 at h
  refine EW_iload_n (pc2 := 5) rfl dX12_burntOf_4 3 rfl ?_
  refine EW_aload_n (pc2 := 6) rfl dX12_burntOf_5 0 rfl ?_
  refine AW_getr (r := 256) ⟨gfRX12_38, rfl⟩ (pc2 := 9) rfl dX12_burntOf_6 q246 rfl ?_
  refine EW_iload_n (pc2 := 10) rfl dX12_burntOf_9 1 rfl ?_
  obtain ⟨b1, h⟩ := h
  refine AW_iald (pc2 := 11) rfl dX12_burntOf_10 q256 b1 ?_
  refine EW_icmp_ge (tgt := 34) (pc2 := 14) rfl dX12_burntOf_11 (by decide) (fun q => ?_) (fun q => ?_)
  · replace h := h.1 q
    refine EW_iload_n (pc2 := 35) rfl dX12_burntOf_34 2 rfl ?_
    exact AW_iret rfl dX12_burntOf_35 ⟨_, rfl, rfl, h⟩
  · replace h := h.2 q
    refine EW_iload_n (pc2 := 15) rfl dX12_burntOf_14 2 rfl ?_
    refine EW_aload_n (pc2 := 16) rfl dX12_burntOf_15 0 rfl ?_
    refine AW_getr (r := 271) ⟨gfRX12_83, rfl⟩ (pc2 := 19) rfl dX12_burntOf_16 q246 rfl ?_
    refine EW_bipush (pc2 := 21) (v := 6) rfl dX12_burntOf_19 (by decide) ?_
    refine EW_iload_n (pc2 := 22) rfl dX12_burntOf_21 1 rfl ?_
    refine EW_imul (pc2 := 23) rfl dX12_burntOf_22 ?_
    refine EW_iload_n (pc2 := 24) rfl dX12_burntOf_23 3 rfl ?_
    refine EW_iadd (pc2 := 25) rfl dX12_burntOf_24 ?_
    obtain ⟨b2, h⟩ := h
    refine AW_iald (pc2 := 26) rfl dX12_burntOf_25 q271 b2 ?_
    refine EW_iadd (pc2 := 27) rfl dX12_burntOf_26 ?_
    refine EW_istore_n (pc2 := 28) rfl dX12_burntOf_27 (by decide) [1, 2, 0, 3] [(0, .ref 246), (1, .int v1), (2, .int (v2 + (x.1 271 (Int32.toNatClampNeg ((6 * v1) + v3))))), (3, .int v3)] rfl ?_
    refine EW_iinc (v3 + 1) (pc2 := 31) rfl dX12_burntOf_28 3 rfl rfl (by decide) [1, 2, 3, 0] [(0, .ref 246), (1, .int v1), (2, .int (v2 + (x.1 271 (Int32.toNatClampNeg ((6 * v1) + v3))))), (3, .int (v3 + 1))] rfl ?_
    refine EW_goto (tgt := 4) dX12_burntOf_31 (by decide) ?_
    exact hL4 (v2 + (x.1 271 (Int32.toNatClampNeg ((6 * v1) + v3)))) (v3 + 1) h
set_option maxHeartbeats 4000000 in
set_option maxRecDepth 100000 in
def wX12_burntOf (v1 : Int32) (x : ab_X) (K : Int32 → Prop) : Prop := Lp2 (lX12_burntOf_4 v1 x K ) 0 0
set_option maxHeartbeats 4000000 in
set_option maxRecDepth 100000 in
theorem sX12_burntOf (v1 : Int32)  (x : ab_X) (K : Int32 → Prop) (d bc bs : Nat) (hdp : 0 ≤ d) (h : wX12_burntOf v1 x K) : EW MX12_burntOf 0 [(0, .ref 246), (1, .int v1)] [] (aS x) d bc bs (liP x K) := by
  unfold wX12_burntOf at h
  refine EW_iconst (pc2 := 1) (v := 0) rfl dX12_burntOf_0 (by decide) ?_
  refine EW_istore_n (pc2 := 2) rfl dX12_burntOf_1 (by decide) [1, 2, 0] [(0, .ref 246), (1, .int v1), (2, .int 0)] rfl ?_
  refine EW_iconst (pc2 := 3) (v := 0) rfl dX12_burntOf_2 (by decide) ?_
  refine EW_istore_n (pc2 := 4) rfl dX12_burntOf_3 (by decide) [1, 2, 3, 0] [(0, .ref 246), (1, .int v1), (2, .int 0), (3, .int 0)] rfl ?_
  exact sX12_burntOf_4 v1 0 0 x K d bc bs hdp h
abbrev MX12_bytesIn : ab_M := (yX12_bytesIn, cX12_bytesIn, 3, (some .int))
theorem dX12_bytesIn_0 : decode cX12_bytesIn 0 = .ok (.iconst 0, 1) := by decide +kernel
theorem dX12_bytesIn_1 : decode cX12_bytesIn 1 = .ok (.istore_n 1, 1) := by decide +kernel
theorem dX12_bytesIn_2 : decode cX12_bytesIn 2 = .ok (.bipush 24, 2) := by decide +kernel
theorem dX12_bytesIn_4 : decode cX12_bytesIn 4 = .ok (.istore_n 2, 1) := by decide +kernel
theorem dX12_bytesIn_5 : decode cX12_bytesIn 5 = .ok (.iload_n 2, 1) := by decide +kernel
theorem dX12_bytesIn_6 : decode cX12_bytesIn 6 = .ok (.ifCond .lt 27, 3) := by decide +kernel
theorem dX12_bytesIn_9 : decode cX12_bytesIn 9 = .ok (.iload_n 1, 1) := by decide +kernel
theorem dX12_bytesIn_10 : decode cX12_bytesIn 10 = .ok (.iload_n 0, 1) := by decide +kernel
theorem dX12_bytesIn_11 : decode cX12_bytesIn 11 = .ok (.iload_n 2, 1) := by decide +kernel
theorem dX12_bytesIn_12 : decode cX12_bytesIn 12 = .ok (.ishr, 1) := by decide +kernel
theorem dX12_bytesIn_13 : decode cX12_bytesIn 13 = .ok (.sipush 255, 3) := by decide +kernel
theorem dX12_bytesIn_16 : decode cX12_bytesIn 16 = .ok (.iand, 1) := by decide +kernel
theorem dX12_bytesIn_17 : decode cX12_bytesIn 17 = .ok (.ifCond .eq 7, 3) := by decide +kernel
theorem dX12_bytesIn_20 : decode cX12_bytesIn 20 = .ok (.iconst 1, 1) := by decide +kernel
theorem dX12_bytesIn_21 : decode cX12_bytesIn 21 = .ok (.goto 4, 3) := by decide +kernel
theorem dX12_bytesIn_24 : decode cX12_bytesIn 24 = .ok (.iconst 0, 1) := by decide +kernel
theorem dX12_bytesIn_25 : decode cX12_bytesIn 25 = .ok (.iadd, 1) := by decide +kernel
theorem dX12_bytesIn_26 : decode cX12_bytesIn 26 = .ok (.istore_n 1, 1) := by decide +kernel
theorem dX12_bytesIn_27 : decode cX12_bytesIn 27 = .ok (.iinc 2 (-8), 3) := by decide +kernel
theorem dX12_bytesIn_30 : decode cX12_bytesIn 30 = .ok (.goto (-25), 3) := by decide +kernel
theorem dX12_bytesIn_33 : decode cX12_bytesIn 33 = .ok (.iload_n 1, 1) := by decide +kernel
theorem dX12_bytesIn_34 : decode cX12_bytesIn 34 = .ok (.ireturn, 1) := by decide +kernel
theorem okX12_bytesIn : ab_okM MX12_bytesIn 1 := ⟨by decide, ⟨by decide, by decide⟩, ab_in 2395 (by decide +kernel) (by decide +kernel), ab_in 99 (by decide +kernel) (by decide +kernel), by decide +kernel, by decide⟩
set_option maxHeartbeats 4000000 in
set_option maxRecDepth 100000 in
def wX12_bytesIn_25 (v0 : Int32) (v2 : Int32) (s0 : Int32) (s1 : Int32) (x : ab_X) (K : Int32 → Prop) (L5 : Int32 → Int32 → Prop) : Prop := L5 (s0 + s1) (v2 + (-8))
set_option maxHeartbeats 4000000 in
set_option maxRecDepth 100000 in
theorem sX12_bytesIn_25 (v0 : Int32) (v2 : Int32) (s0 : Int32) (s1 : Int32)  (x : ab_X) (K : Int32 → Prop) (L5 : Int32 → Int32 → Prop) (d bc bs : Nat) (hdp : 0 ≤ d) (hL5 : ∀ (v1 : Int32) (v2 : Int32), L5 v1 v2 → EW MX12_bytesIn 5 [(0, .int v0), (1, .int v1), (2, .int v2)] [] (aS x) d bc bs (liP x K)) (h : wX12_bytesIn_25 v0 v2 s0 s1 x K L5) : EW MX12_bytesIn 25 [(0, .int v0), (2, .int v2)] [.int s1, .int s0] (aS x) d bc bs (liP x K) := by
  unfold wX12_bytesIn_25 at h
  refine EW_iadd (pc2 := 26) rfl dX12_bytesIn_25 ?_
  refine EW_istore_n (pc2 := 27) rfl dX12_bytesIn_26 (by decide) [1, 0, 2] [(0, .int v0), (1, .int (s0 + s1)), (2, .int v2)] rfl ?_
  refine EW_iinc (v2 + (-8)) (pc2 := 30) rfl dX12_bytesIn_27 2 rfl rfl (by decide) [1, 2, 0] [(0, .int v0), (1, .int (s0 + s1)), (2, .int (v2 + (-8)))] rfl ?_
  refine EW_goto (tgt := 5) dX12_bytesIn_30 (by decide) ?_
  exact hL5 (s0 + s1) (v2 + (-8)) h
set_option maxHeartbeats 4000000 in
set_option maxRecDepth 100000 in
def lX12_bytesIn_5 (v0 : Int32) (x : ab_X) (K : Int32 → Prop)  (L5 : Int32 → Int32 → Prop) (v1 : Int32) (v2 : Int32) : Prop := ((v2 < 0 → K v1) ∧ (¬ v2 < 0 → ((((v0 >>> (v2 &&& 31)) &&& 255) = 0 → wX12_bytesIn_25 v0 v2 v1 0 x K L5) ∧ (¬ ((v0 >>> (v2 &&& 31)) &&& 255) = 0 → wX12_bytesIn_25 v0 v2 v1 1 x K L5))))
set_option maxHeartbeats 4000000 in
set_option maxRecDepth 100000 in
theorem sX12_bytesIn_5 (v0 : Int32) (v1 : Int32) (v2 : Int32)  (x : ab_X) (K : Int32 → Prop)  (d bc bs : Nat) (hdp : 0 ≤ d)  (h : Lp2 (lX12_bytesIn_5 v0 x K ) v1 v2) : EW MX12_bytesIn 5 [(0, .int v0), (1, .int v1), (2, .int v2)] [] (aS x) d bc bs (liP x K) := by
  refine Lp2.use (P := fun v1 v2 => EW MX12_bytesIn 5 [(0, .int v0), (1, .int v1), (2, .int v2)] [] (aS x) d bc bs (liP x K)) (fun L5 v1 v2 hL5 h => ?_) v1 v2 h
  unfold lX12_bytesIn_5 at h
  refine EW_iload_n (pc2 := 6) rfl dX12_bytesIn_5 2 rfl ?_
  refine EW_if_lt (tgt := 33) (pc2 := 9) rfl dX12_bytesIn_6 (by decide) (fun q => ?_) (fun q => ?_)
  · replace h := h.1 q
    refine EW_iload_n (pc2 := 34) rfl dX12_bytesIn_33 1 rfl ?_
    exact AW_iret rfl dX12_bytesIn_34 ⟨_, rfl, rfl, h⟩
  · replace h := h.2 q
    refine EW_iload_n (pc2 := 10) rfl dX12_bytesIn_9 1 rfl ?_
    refine EW_iload_n (pc2 := 11) rfl dX12_bytesIn_10 0 rfl ?_
    refine EW_iload_n (pc2 := 12) rfl dX12_bytesIn_11 2 rfl ?_
    refine EW_ishr (pc2 := 13) rfl dX12_bytesIn_12 ?_
    refine EW_sipush (pc2 := 16) (v := 255) rfl dX12_bytesIn_13 (by decide) ?_
    refine EW_iand (pc2 := 17) rfl dX12_bytesIn_16 ?_
    refine EW_if_eq (tgt := 24) (pc2 := 20) rfl dX12_bytesIn_17 (by decide) (fun q => ?_) (fun q => ?_)
    · replace h := h.1 q
      refine EW_iconst (pc2 := 25) (v := 0) rfl dX12_bytesIn_24 (by decide) ?_
      refine EW_ls [0, 2] rfl ?_
      exact sX12_bytesIn_25 v0 v2 v1 0 x K L5 d bc bs hdp hL5 h
    · replace h := h.2 q
      refine EW_iconst (pc2 := 21) (v := 1) rfl dX12_bytesIn_20 (by decide) ?_
      refine EW_goto (tgt := 25) dX12_bytesIn_21 (by decide) ?_
      refine EW_ls [0, 2] rfl ?_
      exact sX12_bytesIn_25 v0 v2 v1 1 x K L5 d bc bs hdp hL5 h
set_option maxHeartbeats 4000000 in
set_option maxRecDepth 100000 in
def wX12_bytesIn (v0 : Int32) (x : ab_X) (K : Int32 → Prop) : Prop := Lp2 (lX12_bytesIn_5 v0 x K ) 0 24
set_option maxHeartbeats 4000000 in
set_option maxRecDepth 100000 in
theorem sX12_bytesIn (v0 : Int32)  (x : ab_X) (K : Int32 → Prop) (d bc bs : Nat) (hdp : 0 ≤ d) (h : wX12_bytesIn v0 x K) : EW MX12_bytesIn 0 [(0, .int v0)] [] (aS x) d bc bs (liP x K) := by
  unfold wX12_bytesIn at h
  refine EW_iconst (pc2 := 1) (v := 0) rfl dX12_bytesIn_0 (by decide) ?_
  refine EW_istore_n (pc2 := 2) rfl dX12_bytesIn_1 (by decide) [1, 0] [(0, .int v0), (1, .int 0)] rfl ?_
  refine EW_bipush (pc2 := 4) (v := 24) rfl dX12_bytesIn_2 (by decide) ?_
  refine EW_istore_n (pc2 := 5) rfl dX12_bytesIn_4 (by decide) [1, 2, 0] [(0, .int v0), (1, .int 0), (2, .int 24)] rfl ?_
  exact sX12_bytesIn_5 v0 0 24 x K d bc bs hdp h
abbrev MX12_openAt : ab_M := (yX12_openAt, cX12_openAt, 3, (some .int))
theorem dX12_openAt_0 : decode cX12_openAt 0 = .ok (.iconst 0, 1) := by decide +kernel
theorem dX12_openAt_1 : decode cX12_openAt 1 = .ok (.istore_n 2, 1) := by decide +kernel
theorem dX12_openAt_2 : decode cX12_openAt 2 = .ok (.iload_n 2, 1) := by decide +kernel
theorem dX12_openAt_3 : decode cX12_openAt 3 = .ok (.aload_n 0, 1) := by decide +kernel
theorem dX12_openAt_4 : decode cX12_openAt 4 = .ok (.getfield 525, 3) := by decide +kernel
theorem dX12_openAt_7 : decode cX12_openAt 7 = .ok (.if_icmp .ge 30, 3) := by decide +kernel
theorem dX12_openAt_10 : decode cX12_openAt 10 = .ok (.aload_n 0, 1) := by decide +kernel
theorem dX12_openAt_11 : decode cX12_openAt 11 = .ok (.getfield 214, 3) := by decide +kernel
theorem dX12_openAt_14 : decode cX12_openAt 14 = .ok (.iload_n 2, 1) := by decide +kernel
theorem dX12_openAt_15 : decode cX12_openAt 15 = .ok (.iaload, 1) := by decide +kernel
theorem dX12_openAt_16 : decode cX12_openAt 16 = .ok (.iload_n 1, 1) := by decide +kernel
theorem dX12_openAt_17 : decode cX12_openAt 17 = .ok (.if_icmp .ne 14, 3) := by decide +kernel
theorem dX12_openAt_20 : decode cX12_openAt 20 = .ok (.aload_n 0, 1) := by decide +kernel
theorem dX12_openAt_21 : decode cX12_openAt 21 = .ok (.getfield 220, 3) := by decide +kernel
theorem dX12_openAt_24 : decode cX12_openAt 24 = .ok (.iload_n 2, 1) := by decide +kernel
theorem dX12_openAt_25 : decode cX12_openAt 25 = .ok (.iaload, 1) := by decide +kernel
theorem dX12_openAt_26 : decode cX12_openAt 26 = .ok (.ifCond .ne 5, 3) := by decide +kernel
theorem dX12_openAt_29 : decode cX12_openAt 29 = .ok (.iload_n 2, 1) := by decide +kernel
theorem dX12_openAt_30 : decode cX12_openAt 30 = .ok (.ireturn, 1) := by decide +kernel
theorem dX12_openAt_31 : decode cX12_openAt 31 = .ok (.iinc 2 1, 3) := by decide +kernel
theorem dX12_openAt_34 : decode cX12_openAt 34 = .ok (.goto (-32), 3) := by decide +kernel
theorem dX12_openAt_37 : decode cX12_openAt 37 = .ok (.iconst (-1), 1) := by decide +kernel
theorem dX12_openAt_38 : decode cX12_openAt 38 = .ok (.ireturn, 1) := by decide +kernel
theorem okX12_openAt : ab_okM MX12_openAt 1 := ⟨by decide, ⟨by decide, by decide⟩, ab_in 2287 (by decide +kernel) (by decide +kernel), ab_in 99 (by decide +kernel) (by decide +kernel), by decide +kernel, by decide⟩
set_option maxHeartbeats 4000000 in
set_option maxRecDepth 100000 in
def lX12_openAt_2 (v1 : Int32) (x : ab_X) (K : Int32 → Prop)  (L2 : Int32 → Prop) (v2 : Int32) : Prop := (((x.1 246 92) ≤ v2 → K (-1)) ∧ (¬ (x.1 246 92) ≤ v2 → (vp_in v2 60 ∧ ((¬ (x.1 310 (Int32.toNatClampNeg v2)) = v1 → L2 (v2 + 1)) ∧ ((x.1 310 (Int32.toNatClampNeg v2)) = v1 → (vp_in v2 60 ∧ ((¬ (x.1 312 (Int32.toNatClampNeg v2)) = 0 → L2 (v2 + 1)) ∧ ((x.1 312 (Int32.toNatClampNeg v2)) = 0 → K v2))))))))
set_option maxHeartbeats 4000000 in
set_option maxRecDepth 100000 in
theorem sX12_openAt_2 (v1 : Int32) (v2 : Int32)  (x : ab_X) (K : Int32 → Prop)  (d bc bs : Nat) (hdp : 0 ≤ d)  (h : Lp1 (lX12_openAt_2 v1 x K ) v2) : EW MX12_openAt 2 [(0, .ref 246), (1, .int v1), (2, .int v2)] [] (aS x) d bc bs (liP x K) := by
  refine Lp1.use (P := fun v2 => EW MX12_openAt 2 [(0, .ref 246), (1, .int v1), (2, .int v2)] [] (aS x) d bc bs (liP x K)) (fun L2 v2 hL2 h => ?_) v2 h
  unfold lX12_openAt_2 at h
  refine EW_iload_n (pc2 := 3) rfl dX12_openAt_2 2 rfl ?_
  refine EW_aload_n (pc2 := 4) rfl dX12_openAt_3 0 rfl ?_
  refine AW_geti ⟨gfRX12_525, rfl⟩ (pc2 := 7) rfl dX12_openAt_4 q246 ?_
  refine EW_icmp_ge (tgt := 37) (pc2 := 10) rfl dX12_openAt_7 (by decide) (fun q => ?_) (fun q => ?_)
  · replace h := h.1 q
    refine EW_iconst (pc2 := 38) (v := (-1)) rfl dX12_openAt_37 (by decide) ?_
    exact AW_iret rfl dX12_openAt_38 ⟨_, rfl, rfl, h⟩
  · replace h := h.2 q
    refine EW_aload_n (pc2 := 11) rfl dX12_openAt_10 0 rfl ?_
    refine AW_getr (r := 310) ⟨gfRX12_214, rfl⟩ (pc2 := 14) rfl dX12_openAt_11 q246 rfl ?_
    refine EW_iload_n (pc2 := 15) rfl dX12_openAt_14 2 rfl ?_
    obtain ⟨b1, h⟩ := h
    refine AW_iald (pc2 := 16) rfl dX12_openAt_15 q310 b1 ?_
    refine EW_iload_n (pc2 := 17) rfl dX12_openAt_16 1 rfl ?_
    refine EW_icmp_ne (tgt := 31) (pc2 := 20) rfl dX12_openAt_17 (by decide) (fun q => ?_) (fun q => ?_)
    · replace h := h.1 q
      refine EW_iinc (v2 + 1) (pc2 := 34) rfl dX12_openAt_31 2 rfl rfl (by decide) [1, 2, 0] [(0, .ref 246), (1, .int v1), (2, .int (v2 + 1))] rfl ?_
      refine EW_goto (tgt := 2) dX12_openAt_34 (by decide) ?_
      exact hL2 (v2 + 1) h
    · replace h := h.2 q
      refine EW_aload_n (pc2 := 21) rfl dX12_openAt_20 0 rfl ?_
      refine AW_getr (r := 312) ⟨gfRX12_220, rfl⟩ (pc2 := 24) rfl dX12_openAt_21 q246 rfl ?_
      refine EW_iload_n (pc2 := 25) rfl dX12_openAt_24 2 rfl ?_
      obtain ⟨b2, h⟩ := h
      refine AW_iald (pc2 := 26) rfl dX12_openAt_25 q312 b2 ?_
      refine EW_if_ne (tgt := 31) (pc2 := 29) rfl dX12_openAt_26 (by decide) (fun q => ?_) (fun q => ?_)
      · replace h := h.1 q
        refine EW_iinc (v2 + 1) (pc2 := 34) rfl dX12_openAt_31 2 rfl rfl (by decide) [1, 2, 0] [(0, .ref 246), (1, .int v1), (2, .int (v2 + 1))] rfl ?_
        refine EW_goto (tgt := 2) dX12_openAt_34 (by decide) ?_
        exact hL2 (v2 + 1) h
      · replace h := h.2 q
        refine EW_iload_n (pc2 := 30) rfl dX12_openAt_29 2 rfl ?_
        exact AW_iret rfl dX12_openAt_30 ⟨_, rfl, rfl, h⟩
set_option maxHeartbeats 4000000 in
set_option maxRecDepth 100000 in
def wX12_openAt (v1 : Int32) (x : ab_X) (K : Int32 → Prop) : Prop := Lp1 (lX12_openAt_2 v1 x K ) 0
set_option maxHeartbeats 4000000 in
set_option maxRecDepth 100000 in
theorem sX12_openAt (v1 : Int32)  (x : ab_X) (K : Int32 → Prop) (d bc bs : Nat) (hdp : 0 ≤ d) (h : wX12_openAt v1 x K) : EW MX12_openAt 0 [(0, .ref 246), (1, .int v1)] [] (aS x) d bc bs (liP x K) := by
  unfold wX12_openAt at h
  refine EW_iconst (pc2 := 1) (v := 0) rfl dX12_openAt_0 (by decide) ?_
  refine EW_istore_n (pc2 := 2) rfl dX12_openAt_1 (by decide) [1, 2, 0] [(0, .ref 246), (1, .int v1), (2, .int 0)] rfl ?_
  exact sX12_openAt_2 v1 0 x K d bc bs hdp h
theorem gfRX12_235 : ab_L RX12 235 12 90 := ⟨by decide, by decide, ab_in 1939 (by decide +kernel) (by decide +kernel)⟩
theorem mlRX12_555 : Cond.methodLink RX12 555 yX12_answer ∈ ab_G ∧ Cond.instanceMethod yX12_answer ∈ ab_G ∧ Cond.selects RX12 yX12_answer yX12_answer ∈ ab_G := ⟨ab_in 2519 (by decide +kernel) (by decide +kernel), ab_in 2521 (by decide +kernel) (by decide +kernel), ab_in 52 (by decide +kernel) (by decide +kernel)⟩
theorem mlRX12_528 : Cond.methodLink RX12 528 yX12_openAt ∈ ab_G ∧ Cond.instanceMethod yX12_openAt ∈ ab_G ∧ Cond.selects RX12 yX12_openAt yX12_openAt ∈ ab_G := ⟨ab_in 2284 (by decide +kernel) (by decide +kernel), ab_in 2286 (by decide +kernel) (by decide +kernel), ab_in 20 (by decide +kernel) (by decide +kernel)⟩
theorem mlRX12_531 : Cond.methodLink RX12 531 yX12_burnsAt ∈ ab_G ∧ Cond.instanceMethod yX12_burnsAt ∈ ab_G ∧ Cond.selects RX12 yX12_burnsAt yX12_burnsAt ∈ ab_G := ⟨ab_in 2288 (by decide +kernel) (by decide +kernel), ab_in 2290 (by decide +kernel) (by decide +kernel), ab_in 21 (by decide +kernel) (by decide +kernel)⟩
abbrev MX12_call : ab_M := (yX12_call, cX12_call, 3, (some .int))
theorem dX12_call_0 : decode cX12_call 0 = .ok (.aload_n 0, 1) := by decide +kernel
theorem dX12_call_1 : decode cX12_call 1 = .ok (.iconst 0, 1) := by decide +kernel
theorem dX12_call_2 : decode cX12_call 2 = .ok (.putfield 297, 3) := by decide +kernel
theorem dX12_call_5 : decode cX12_call 5 = .ok (.iload_n 1, 1) := by decide +kernel
theorem dX12_call_6 : decode cX12_call 6 = .ok (.invokestatic 303, 3) := by decide +kernel
theorem dX12_call_9 : decode cX12_call 9 = .ok (.ifCond .ne 5, 3) := by decide +kernel
theorem dX12_call_12 : decode cX12_call 12 = .ok (.iconst (-1), 1) := by decide +kernel
theorem dX12_call_13 : decode cX12_call 13 = .ok (.ireturn, 1) := by decide +kernel
theorem dX12_call_14 : decode cX12_call 14 = .ok (.aload_n 0, 1) := by decide +kernel
theorem dX12_call_15 : decode cX12_call 15 = .ok (.iload_n 1, 1) := by decide +kernel
theorem dX12_call_16 : decode cX12_call 16 = .ok (.invokevirtual 528, 3) := by decide +kernel
theorem dX12_call_19 : decode cX12_call 19 = .ok (.istore_n 2, 1) := by decide +kernel
theorem dX12_call_20 : decode cX12_call 20 = .ok (.iload_n 2, 1) := by decide +kernel
theorem dX12_call_21 : decode cX12_call 21 = .ok (.iconst (-1), 1) := by decide +kernel
theorem dX12_call_22 : decode cX12_call 22 = .ok (.if_icmp .ne 71, 3) := by decide +kernel
theorem dX12_call_25 : decode cX12_call 25 = .ok (.aload_n 0, 1) := by decide +kernel
theorem dX12_call_26 : decode cX12_call 26 = .ok (.getfield 525, 3) := by decide +kernel
theorem dX12_call_29 : decode cX12_call 29 = .ok (.bipush 60, 2) := by decide +kernel
theorem dX12_call_31 : decode cX12_call 31 = .ok (.if_icmp .ne 5, 3) := by decide +kernel
theorem dX12_call_34 : decode cX12_call 34 = .ok (.iconst (-1), 1) := by decide +kernel
theorem dX12_call_35 : decode cX12_call 35 = .ok (.ireturn, 1) := by decide +kernel
theorem dX12_call_36 : decode cX12_call 36 = .ok (.aload_n 0, 1) := by decide +kernel
theorem dX12_call_37 : decode cX12_call 37 = .ok (.getfield 525, 3) := by decide +kernel
theorem dX12_call_40 : decode cX12_call 40 = .ok (.istore_n 2, 1) := by decide +kernel
theorem dX12_call_41 : decode cX12_call 41 = .ok (.aload_n 0, 1) := by decide +kernel
theorem dX12_call_42 : decode cX12_call 42 = .ok (.getfield 214, 3) := by decide +kernel
theorem dX12_call_45 : decode cX12_call 45 = .ok (.iload_n 2, 1) := by decide +kernel
theorem dX12_call_46 : decode cX12_call 46 = .ok (.iload_n 1, 1) := by decide +kernel
theorem dX12_call_47 : decode cX12_call 47 = .ok (.iastore, 1) := by decide +kernel
theorem dX12_call_48 : decode cX12_call 48 = .ok (.aload_n 0, 1) := by decide +kernel
theorem dX12_call_49 : decode cX12_call 49 = .ok (.getfield 217, 3) := by decide +kernel
theorem dX12_call_52 : decode cX12_call 52 = .ok (.iload_n 2, 1) := by decide +kernel
theorem dX12_call_53 : decode cX12_call 53 = .ok (.iconst 0, 1) := by decide +kernel
theorem dX12_call_54 : decode cX12_call 54 = .ok (.iastore, 1) := by decide +kernel
theorem dX12_call_55 : decode cX12_call 55 = .ok (.aload_n 0, 1) := by decide +kernel
theorem dX12_call_56 : decode cX12_call 56 = .ok (.getfield 223, 3) := by decide +kernel
theorem dX12_call_59 : decode cX12_call 59 = .ok (.iload_n 2, 1) := by decide +kernel
theorem dX12_call_60 : decode cX12_call 60 = .ok (.aload_n 0, 1) := by decide +kernel
theorem dX12_call_61 : decode cX12_call 61 = .ok (.getfield 395, 3) := by decide +kernel
theorem dX12_call_64 : decode cX12_call 64 = .ok (.iastore, 1) := by decide +kernel
theorem dX12_call_65 : decode cX12_call 65 = .ok (.aload_n 0, 1) := by decide +kernel
theorem dX12_call_66 : decode cX12_call 66 = .ok (.getfield 226, 3) := by decide +kernel
theorem dX12_call_69 : decode cX12_call 69 = .ok (.iload_n 2, 1) := by decide +kernel
theorem dX12_call_70 : decode cX12_call 70 = .ok (.iconst (-1), 1) := by decide +kernel
theorem dX12_call_71 : decode cX12_call 71 = .ok (.iastore, 1) := by decide +kernel
theorem dX12_call_72 : decode cX12_call 72 = .ok (.aload_n 0, 1) := by decide +kernel
theorem dX12_call_73 : decode cX12_call 73 = .ok (.dup, 1) := by decide +kernel
theorem dX12_call_74 : decode cX12_call 74 = .ok (.getfield 525, 3) := by decide +kernel
theorem dX12_call_77 : decode cX12_call 77 = .ok (.iconst 1, 1) := by decide +kernel
theorem dX12_call_78 : decode cX12_call 78 = .ok (.iadd, 1) := by decide +kernel
theorem dX12_call_79 : decode cX12_call 79 = .ok (.putfield 525, 3) := by decide +kernel
theorem dX12_call_82 : decode cX12_call 82 = .ok (.aload_n 0, 1) := by decide +kernel
theorem dX12_call_83 : decode cX12_call 83 = .ok (.getfield 238, 3) := by decide +kernel
theorem dX12_call_86 : decode cX12_call 86 = .ok (.iload_n 2, 1) := by decide +kernel
theorem dX12_call_87 : decode cX12_call 87 = .ok (.aload_n 0, 1) := by decide +kernel
theorem dX12_call_88 : decode cX12_call 88 = .ok (.iload_n 1, 1) := by decide +kernel
theorem dX12_call_89 : decode cX12_call 89 = .ok (.invokevirtual 531, 3) := by decide +kernel
theorem dX12_call_92 : decode cX12_call 92 = .ok (.bastore, 1) := by decide +kernel
theorem dX12_call_93 : decode cX12_call 93 = .ok (.aload_n 0, 1) := by decide +kernel
theorem dX12_call_94 : decode cX12_call 94 = .ok (.getfield 235, 3) := by decide +kernel
theorem dX12_call_97 : decode cX12_call 97 = .ok (.iload_n 2, 1) := by decide +kernel
theorem dX12_call_98 : decode cX12_call 98 = .ok (.dup2, 1) := by decide +kernel
theorem dX12_call_99 : decode cX12_call 99 = .ok (.iaload, 1) := by decide +kernel
theorem dX12_call_100 : decode cX12_call 100 = .ok (.iconst 1, 1) := by decide +kernel
theorem dX12_call_101 : decode cX12_call 101 = .ok (.iadd, 1) := by decide +kernel
theorem dX12_call_102 : decode cX12_call 102 = .ok (.iastore, 1) := by decide +kernel
theorem dX12_call_103 : decode cX12_call 103 = .ok (.aload_n 0, 1) := by decide +kernel
theorem dX12_call_104 : decode cX12_call 104 = .ok (.getfield 217, 3) := by decide +kernel
theorem dX12_call_107 : decode cX12_call 107 = .ok (.iload_n 2, 1) := by decide +kernel
theorem dX12_call_108 : decode cX12_call 108 = .ok (.iaload, 1) := by decide +kernel
theorem dX12_call_109 : decode cX12_call 109 = .ok (.iconst 3, 1) := by decide +kernel
theorem dX12_call_110 : decode cX12_call 110 = .ok (.if_icmp .ne 5, 3) := by decide +kernel
theorem dX12_call_113 : decode cX12_call 113 = .ok (.iload_n 2, 1) := by decide +kernel
theorem dX12_call_114 : decode cX12_call 114 = .ok (.ireturn, 1) := by decide +kernel
theorem dX12_call_115 : decode cX12_call 115 = .ok (.aload_n 0, 1) := by decide +kernel
theorem dX12_call_116 : decode cX12_call 116 = .ok (.getfield 217, 3) := by decide +kernel
theorem dX12_call_119 : decode cX12_call 119 = .ok (.iload_n 2, 1) := by decide +kernel
theorem dX12_call_120 : decode cX12_call 120 = .ok (.dup2, 1) := by decide +kernel
theorem dX12_call_121 : decode cX12_call 121 = .ok (.iaload, 1) := by decide +kernel
theorem dX12_call_122 : decode cX12_call 122 = .ok (.iconst 1, 1) := by decide +kernel
theorem dX12_call_123 : decode cX12_call 123 = .ok (.iadd, 1) := by decide +kernel
theorem dX12_call_124 : decode cX12_call 124 = .ok (.iastore, 1) := by decide +kernel
theorem dX12_call_125 : decode cX12_call 125 = .ok (.aload_n 0, 1) := by decide +kernel
theorem dX12_call_126 : decode cX12_call 126 = .ok (.iload_n 2, 1) := by decide +kernel
theorem dX12_call_127 : decode cX12_call 127 = .ok (.invokevirtual 555, 3) := by decide +kernel
theorem dX12_call_130 : decode cX12_call 130 = .ok (.iload_n 2, 1) := by decide +kernel
theorem dX12_call_131 : decode cX12_call 131 = .ok (.ireturn, 1) := by decide +kernel
theorem okX12_call : ab_okM MX12_call 1 := ⟨by decide, ⟨by decide, by decide⟩, ab_in 2518 (by decide +kernel) (by decide +kernel), ab_in 99 (by decide +kernel) (by decide +kernel), by decide +kernel, by decide⟩
set_option maxHeartbeats 4000000 in
set_option maxRecDepth 100000 in
def wX12_call_93 (v2 : Int32) (x : ab_X) (K : Int32 → ab_X → Prop)  : Prop := (vp_in v2 60 ∧ vp_in v2 60 ∧ vp_in v2 60 ∧ ((¬ ((wr x 317 (Int32.toNatClampNeg v2) ((x.1 317 (Int32.toNatClampNeg v2)) + 1)).1 311 (Int32.toNatClampNeg v2)) = 3 → (vp_in v2 60 ∧ vp_in v2 60 ∧ wX12_answer v2 (wr (wr x 317 (Int32.toNatClampNeg v2) ((x.1 317 (Int32.toNatClampNeg v2)) + 1)) 311 (Int32.toNatClampNeg v2) (((wr x 317 (Int32.toNatClampNeg v2) ((x.1 317 (Int32.toNatClampNeg v2)) + 1)).1 311 (Int32.toNatClampNeg v2)) + 1)) (fun x15 => K v2 x15))) ∧ (((wr x 317 (Int32.toNatClampNeg v2) ((x.1 317 (Int32.toNatClampNeg v2)) + 1)).1 311 (Int32.toNatClampNeg v2)) = 3 → K v2 (wr x 317 (Int32.toNatClampNeg v2) ((x.1 317 (Int32.toNatClampNeg v2)) + 1)))))
set_option maxHeartbeats 4000000 in
set_option maxRecDepth 100000 in
theorem sX12_call_93 (v2 : Int32)  (x : ab_X) (K : Int32 → ab_X → Prop)  (d bc bs : Nat) (hdp : 212 ≤ d)  (h : wX12_call_93 v2 x K ) : EW MX12_call 93 [(0, .ref 246), (2, .int v2)] [] (aS x) d bc bs (liI K) := by
  unfold wX12_call_93 at h
  refine EW_aload_n (pc2 := 94) rfl dX12_call_93 0 rfl ?_
  refine AW_getr (r := 317) ⟨gfRX12_235, rfl⟩ (pc2 := 97) rfl dX12_call_94 q246 rfl ?_
  refine EW_iload_n (pc2 := 98) rfl dX12_call_97 1 rfl ?_
  refine EW_dup2 (pc2 := 99) rfl dX12_call_98 rfl rfl ?_
  obtain ⟨b10, h⟩ := h
  refine AW_iald (pc2 := 100) rfl dX12_call_99 q317 b10 ?_
  refine EW_iconst (pc2 := 101) (v := 1) rfl dX12_call_100 (by decide) ?_
  refine EW_iadd (pc2 := 102) rfl dX12_call_101 ?_
  obtain ⟨b11, h⟩ := h
  refine AW_iast (pc2 := 103) rfl dX12_call_102 q317 b11 ?_
  refine EW_aload_n (pc2 := 104) rfl dX12_call_103 0 rfl ?_
  refine AW_getr (r := 311) ⟨gfRX12_217, rfl⟩ (pc2 := 107) rfl dX12_call_104 q246 rfl ?_
  refine EW_iload_n (pc2 := 108) rfl dX12_call_107 1 rfl ?_
  obtain ⟨b12, h⟩ := h
  refine AW_iald (pc2 := 109) rfl dX12_call_108 q311 b12 ?_
  refine EW_iconst (pc2 := 110) (v := 3) rfl dX12_call_109 (by decide) ?_
  refine EW_icmp_ne (tgt := 115) (pc2 := 113) rfl dX12_call_110 (by decide) (fun q => ?_) (fun q => ?_)
  · replace h := h.1 q
    refine EW_aload_n (pc2 := 116) rfl dX12_call_115 0 rfl ?_
    refine AW_getr (r := 311) ⟨gfRX12_217, rfl⟩ (pc2 := 119) rfl dX12_call_116 q246 rfl ?_
    refine EW_iload_n (pc2 := 120) rfl dX12_call_119 1 rfl ?_
    refine EW_dup2 (pc2 := 121) rfl dX12_call_120 rfl rfl ?_
    obtain ⟨b13, h⟩ := h
    refine AW_iald (pc2 := 122) rfl dX12_call_121 q311 b13 ?_
    refine EW_iconst (pc2 := 123) (v := 1) rfl dX12_call_122 (by decide) ?_
    refine EW_iadd (pc2 := 124) rfl dX12_call_123 ?_
    obtain ⟨b14, h⟩ := h
    refine AW_iast (pc2 := 125) rfl dX12_call_124 q311 b14 ?_
    refine EW_aload_n (pc2 := 126) rfl dX12_call_125 0 rfl ?_
    refine EW_iload_n (pc2 := 127) rfl dX12_call_126 1 rfl ?_
    refine AW_invV (M' := MX12_answer) [.int v2] (rest := []) mlRX12_555 okX12_answer (pc2 := 130) rfl dX12_call_127 rfl rfl (Nat.le_of_ble_eq_true rfl) (Nat.le_of_ble_eq_true rfl) (d' := 211) (by omega) q246 ⟨by decide, rfl⟩ (EW_mono (fun _ _ hr => ?_) (sX12_answer v2  (wr (wr x 317 (Int32.toNatClampNeg v2) ((x.1 317 (Int32.toNatClampNeg v2)) + 1)) 311 (Int32.toNatClampNeg v2) (((wr x 317 (Int32.toNatClampNeg v2) ((x.1 317 (Int32.toNatClampNeg v2)) + 1)).1 311 (Int32.toNatClampNeg v2)) + 1)) _ _ 0 0 (Nat.le_refl _) h))
    obtain ⟨x15, rfl, rfl, h⟩ := hr
    refine EW_iload_n (pc2 := 131) rfl dX12_call_130 1 rfl ?_
    exact AW_iret rfl dX12_call_131 ⟨_, _, rfl, rfl, h⟩
  · replace h := h.2 q
    refine EW_iload_n (pc2 := 114) rfl dX12_call_113 1 rfl ?_
    exact AW_iret rfl dX12_call_114 ⟨_, _, rfl, rfl, h⟩
set_option maxHeartbeats 4000000 in
set_option maxRecDepth 100000 in
def wX12_call (v1 : Int32) (x : ab_X) (K : Int32 → ab_X → Prop) : Prop := wX12_isCorner v1 (wr x 246 0 0) (fun r1 => ((¬ r1 = 0 → wX12_openAt v1 (wr x 246 0 0) (fun r2 => ((¬ r2 = (-1) → wX12_call_93 r2 (wr x 246 0 0) K) ∧ (r2 = (-1) → ((¬ ((wr x 246 0 0).1 246 92) = 60 → (vp_in ((wr x 246 0 0).1 246 92) 60 ∧ vp_in ((wr x 246 0 0).1 246 92) 60 ∧ vp_in ((wr x 246 0 0).1 246 92) 60 ∧ vp_in ((wr x 246 0 0).1 246 92) 60 ∧ wX12_burnsAt v1 (wr (wr (wr (wr (wr (wr x 246 0 0) 310 (Int32.toNatClampNeg ((wr x 246 0 0).1 246 92)) v1) 311 (Int32.toNatClampNeg ((wr x 246 0 0).1 246 92)) 0) 313 (Int32.toNatClampNeg ((wr x 246 0 0).1 246 92)) ((wr (wr (wr x 246 0 0) 310 (Int32.toNatClampNeg ((wr x 246 0 0).1 246 92)) v1) 311 (Int32.toNatClampNeg ((wr x 246 0 0).1 246 92)) 0).1 246 1)) 314 (Int32.toNatClampNeg ((wr x 246 0 0).1 246 92)) (-1)) 246 92 (((wr (wr (wr (wr (wr x 246 0 0) 310 (Int32.toNatClampNeg ((wr x 246 0 0).1 246 92)) v1) 311 (Int32.toNatClampNeg ((wr x 246 0 0).1 246 92)) 0) 313 (Int32.toNatClampNeg ((wr x 246 0 0).1 246 92)) ((wr (wr (wr x 246 0 0) 310 (Int32.toNatClampNeg ((wr x 246 0 0).1 246 92)) v1) 311 (Int32.toNatClampNeg ((wr x 246 0 0).1 246 92)) 0).1 246 1)) 314 (Int32.toNatClampNeg ((wr x 246 0 0).1 246 92)) (-1)).1 246 92) + 1)) (fun r7 => (vp_in ((wr x 246 0 0).1 246 92) 60 ∧ isB r7 ∧ wX12_call_93 ((wr x 246 0 0).1 246 92) (wr (wr (wr (wr (wr (wr (wr x 246 0 0) 310 (Int32.toNatClampNeg ((wr x 246 0 0).1 246 92)) v1) 311 (Int32.toNatClampNeg ((wr x 246 0 0).1 246 92)) 0) 313 (Int32.toNatClampNeg ((wr x 246 0 0).1 246 92)) ((wr (wr (wr x 246 0 0) 310 (Int32.toNatClampNeg ((wr x 246 0 0).1 246 92)) v1) 311 (Int32.toNatClampNeg ((wr x 246 0 0).1 246 92)) 0).1 246 1)) 314 (Int32.toNatClampNeg ((wr x 246 0 0).1 246 92)) (-1)) 246 92 (((wr (wr (wr (wr (wr x 246 0 0) 310 (Int32.toNatClampNeg ((wr x 246 0 0).1 246 92)) v1) 311 (Int32.toNatClampNeg ((wr x 246 0 0).1 246 92)) 0) 313 (Int32.toNatClampNeg ((wr x 246 0 0).1 246 92)) ((wr (wr (wr x 246 0 0) 310 (Int32.toNatClampNeg ((wr x 246 0 0).1 246 92)) v1) 311 (Int32.toNatClampNeg ((wr x 246 0 0).1 246 92)) 0).1 246 1)) 314 (Int32.toNatClampNeg ((wr x 246 0 0).1 246 92)) (-1)).1 246 92) + 1)) 318 (Int32.toNatClampNeg ((wr x 246 0 0).1 246 92)) r7) K)))) ∧ (((wr x 246 0 0).1 246 92) = 60 → K (-1) (wr x 246 0 0))))))) ∧ (r1 = 0 → K (-1) (wr x 246 0 0))))
set_option maxHeartbeats 4000000 in
set_option maxRecDepth 100000 in
theorem sX12_call (v1 : Int32)  (x : ab_X) (K : Int32 → ab_X → Prop) (d bc bs : Nat) (hdp : 212 ≤ d) (h : wX12_call v1 x K) : EW MX12_call 0 [(0, .ref 246), (1, .int v1)] [] (aS x) d bc bs (liI K) := by
  unfold wX12_call at h
  refine EW_aload_n (pc2 := 1) rfl dX12_call_0 0 rfl ?_
  refine EW_iconst (pc2 := 2) (v := 0) rfl dX12_call_1 (by decide) ?_
  refine AW_puti ⟨gfRX12_297, rfl, rfl⟩ (pc2 := 5) rfl dX12_call_2 q246 ?_
  refine EW_iload_n (pc2 := 6) rfl dX12_call_5 1 rfl ?_
  refine AW_invS (M' := MX12_isCorner) [.int v1] (rest := []) mlRX12_303 okX12_isCorner (pc2 := 9) rfl dX12_call_6 rfl rfl (Nat.le_of_ble_eq_true rfl) (Nat.le_of_ble_eq_true rfl) (d' := 0) (by omega) (EW_mono (fun _ _ hr => ?_) (sX12_isCorner v1  (wr x 246 0 0) _ _ 0 0 (Nat.le_refl _) h))
  obtain ⟨r1, rfl, rfl, h⟩ := hr
  refine EW_if_ne (tgt := 14) (pc2 := 12) rfl dX12_call_9 (by decide) (fun q => ?_) (fun q => ?_)
  · replace h := h.1 q
    refine EW_aload_n (pc2 := 15) rfl dX12_call_14 0 rfl ?_
    refine EW_iload_n (pc2 := 16) rfl dX12_call_15 1 rfl ?_
    refine AW_invV (M' := MX12_openAt) [.int v1] (rest := []) mlRX12_528 okX12_openAt (pc2 := 19) rfl dX12_call_16 rfl rfl (Nat.le_of_ble_eq_true rfl) (Nat.le_of_ble_eq_true rfl) (d' := 0) (by omega) q246 ⟨by decide, rfl⟩ (EW_mono (fun _ _ hr => ?_) (sX12_openAt v1  (wr x 246 0 0) _ _ 0 0 (Nat.le_refl _) h))
    obtain ⟨r2, rfl, rfl, h⟩ := hr
    refine EW_istore_n (pc2 := 20) rfl dX12_call_19 (by decide) [1, 2, 0] [(0, .ref 246), (1, .int v1), (2, .int r2)] rfl ?_
    refine EW_iload_n (pc2 := 21) rfl dX12_call_20 2 rfl ?_
    refine EW_iconst (pc2 := 22) (v := (-1)) rfl dX12_call_21 (by decide) ?_
    refine EW_icmp_ne (tgt := 93) (pc2 := 25) rfl dX12_call_22 (by decide) (fun q => ?_) (fun q => ?_)
    · replace h := h.1 q
      refine EW_ls [0, 2] rfl ?_
      exact sX12_call_93 r2 (wr x 246 0 0) K d bc bs hdp h
    · replace h := h.2 q
      refine EW_aload_n (pc2 := 26) rfl dX12_call_25 0 rfl ?_
      refine AW_geti ⟨gfRX12_525, rfl⟩ (pc2 := 29) rfl dX12_call_26 q246 ?_
      refine EW_bipush (pc2 := 31) (v := 60) rfl dX12_call_29 (by decide) ?_
      refine EW_icmp_ne (tgt := 36) (pc2 := 34) rfl dX12_call_31 (by decide) (fun q => ?_) (fun q => ?_)
      · replace h := h.1 q
        refine EW_aload_n (pc2 := 37) rfl dX12_call_36 0 rfl ?_
        refine AW_geti ⟨gfRX12_525, rfl⟩ (pc2 := 40) rfl dX12_call_37 q246 ?_
        refine EW_istore_n (pc2 := 41) rfl dX12_call_40 (by decide) [1, 2, 0] [(0, .ref 246), (1, .int v1), (2, .int ((wr x 246 0 0).1 246 92))] rfl ?_
        refine EW_aload_n (pc2 := 42) rfl dX12_call_41 0 rfl ?_
        refine AW_getr (r := 310) ⟨gfRX12_214, rfl⟩ (pc2 := 45) rfl dX12_call_42 q246 rfl ?_
        refine EW_iload_n (pc2 := 46) rfl dX12_call_45 2 rfl ?_
        refine EW_iload_n (pc2 := 47) rfl dX12_call_46 1 rfl ?_
        obtain ⟨b3, h⟩ := h
        refine AW_iast (pc2 := 48) rfl dX12_call_47 q310 b3 ?_
        refine EW_aload_n (pc2 := 49) rfl dX12_call_48 0 rfl ?_
        refine AW_getr (r := 311) ⟨gfRX12_217, rfl⟩ (pc2 := 52) rfl dX12_call_49 q246 rfl ?_
        refine EW_iload_n (pc2 := 53) rfl dX12_call_52 2 rfl ?_
        refine EW_iconst (pc2 := 54) (v := 0) rfl dX12_call_53 (by decide) ?_
        obtain ⟨b4, h⟩ := h
        refine AW_iast (pc2 := 55) rfl dX12_call_54 q311 b4 ?_
        refine EW_aload_n (pc2 := 56) rfl dX12_call_55 0 rfl ?_
        refine AW_getr (r := 313) ⟨gfRX12_223, rfl⟩ (pc2 := 59) rfl dX12_call_56 q246 rfl ?_
        refine EW_iload_n (pc2 := 60) rfl dX12_call_59 2 rfl ?_
        refine EW_aload_n (pc2 := 61) rfl dX12_call_60 0 rfl ?_
        refine AW_geti ⟨gfRX12_395, rfl⟩ (pc2 := 64) rfl dX12_call_61 q246 ?_
        obtain ⟨b5, h⟩ := h
        refine AW_iast (pc2 := 65) rfl dX12_call_64 q313 b5 ?_
        refine EW_aload_n (pc2 := 66) rfl dX12_call_65 0 rfl ?_
        refine AW_getr (r := 314) ⟨gfRX12_226, rfl⟩ (pc2 := 69) rfl dX12_call_66 q246 rfl ?_
        refine EW_iload_n (pc2 := 70) rfl dX12_call_69 2 rfl ?_
        refine EW_iconst (pc2 := 71) (v := (-1)) rfl dX12_call_70 (by decide) ?_
        obtain ⟨b6, h⟩ := h
        refine AW_iast (pc2 := 72) rfl dX12_call_71 q314 b6 ?_
        refine EW_aload_n (pc2 := 73) rfl dX12_call_72 0 rfl ?_
        refine EW_dup (pc2 := 74) rfl dX12_call_73 rfl ?_
        refine AW_geti ⟨gfRX12_525, rfl⟩ (pc2 := 77) rfl dX12_call_74 q246 ?_
        refine EW_iconst (pc2 := 78) (v := 1) rfl dX12_call_77 (by decide) ?_
        refine EW_iadd (pc2 := 79) rfl dX12_call_78 ?_
        refine AW_puti ⟨gfRX12_525, rfl, rfl⟩ (pc2 := 82) rfl dX12_call_79 q246 ?_
        refine EW_aload_n (pc2 := 83) rfl dX12_call_82 0 rfl ?_
        refine AW_getr (r := 318) ⟨gfRX12_238, rfl⟩ (pc2 := 86) rfl dX12_call_83 q246 rfl ?_
        refine EW_iload_n (pc2 := 87) rfl dX12_call_86 2 rfl ?_
        refine EW_aload_n (pc2 := 88) rfl dX12_call_87 0 rfl ?_
        refine EW_iload_n (pc2 := 89) rfl dX12_call_88 1 rfl ?_
        refine AW_invV (M' := MX12_burnsAt) [.int v1] (rest := [.int ((wr x 246 0 0).1 246 92), .ref 318]) mlRX12_531 okX12_burnsAt (pc2 := 92) rfl dX12_call_89 rfl rfl (Nat.le_of_ble_eq_true rfl) (Nat.le_of_ble_eq_true rfl) (d' := 3) (by omega) q246 ⟨by decide, rfl⟩ (EW_mono (fun _ _ hr => ?_) (sX12_burnsAt v1  (wr (wr (wr (wr (wr (wr x 246 0 0) 310 (Int32.toNatClampNeg ((wr x 246 0 0).1 246 92)) v1) 311 (Int32.toNatClampNeg ((wr x 246 0 0).1 246 92)) 0) 313 (Int32.toNatClampNeg ((wr x 246 0 0).1 246 92)) ((wr (wr (wr x 246 0 0) 310 (Int32.toNatClampNeg ((wr x 246 0 0).1 246 92)) v1) 311 (Int32.toNatClampNeg ((wr x 246 0 0).1 246 92)) 0).1 246 1)) 314 (Int32.toNatClampNeg ((wr x 246 0 0).1 246 92)) (-1)) 246 92 (((wr (wr (wr (wr (wr x 246 0 0) 310 (Int32.toNatClampNeg ((wr x 246 0 0).1 246 92)) v1) 311 (Int32.toNatClampNeg ((wr x 246 0 0).1 246 92)) 0) 313 (Int32.toNatClampNeg ((wr x 246 0 0).1 246 92)) ((wr (wr (wr x 246 0 0) 310 (Int32.toNatClampNeg ((wr x 246 0 0).1 246 92)) v1) 311 (Int32.toNatClampNeg ((wr x 246 0 0).1 246 92)) 0).1 246 1)) 314 (Int32.toNatClampNeg ((wr x 246 0 0).1 246 92)) (-1)).1 246 92) + 1)) _ _ 0 0 (Nat.le_refl _) h))
        obtain ⟨r7, rfl, rfl, h⟩ := hr
        obtain ⟨b8, h⟩ := h
        obtain ⟨z9, h⟩ := h
        refine AW_zast (pc2 := 93) rfl dX12_call_92 q318 b8 z9 ?_
        refine EW_ls [0, 2] rfl ?_
        exact sX12_call_93 ((wr x 246 0 0).1 246 92) (wr (wr (wr (wr (wr (wr (wr x 246 0 0) 310 (Int32.toNatClampNeg ((wr x 246 0 0).1 246 92)) v1) 311 (Int32.toNatClampNeg ((wr x 246 0 0).1 246 92)) 0) 313 (Int32.toNatClampNeg ((wr x 246 0 0).1 246 92)) ((wr (wr (wr x 246 0 0) 310 (Int32.toNatClampNeg ((wr x 246 0 0).1 246 92)) v1) 311 (Int32.toNatClampNeg ((wr x 246 0 0).1 246 92)) 0).1 246 1)) 314 (Int32.toNatClampNeg ((wr x 246 0 0).1 246 92)) (-1)) 246 92 (((wr (wr (wr (wr (wr x 246 0 0) 310 (Int32.toNatClampNeg ((wr x 246 0 0).1 246 92)) v1) 311 (Int32.toNatClampNeg ((wr x 246 0 0).1 246 92)) 0) 313 (Int32.toNatClampNeg ((wr x 246 0 0).1 246 92)) ((wr (wr (wr x 246 0 0) 310 (Int32.toNatClampNeg ((wr x 246 0 0).1 246 92)) v1) 311 (Int32.toNatClampNeg ((wr x 246 0 0).1 246 92)) 0).1 246 1)) 314 (Int32.toNatClampNeg ((wr x 246 0 0).1 246 92)) (-1)).1 246 92) + 1)) 318 (Int32.toNatClampNeg ((wr x 246 0 0).1 246 92)) r7) K d bc bs hdp h
      · replace h := h.2 q
        refine EW_iconst (pc2 := 35) (v := (-1)) rfl dX12_call_34 (by decide) ?_
        exact AW_iret rfl dX12_call_35 ⟨_, _, rfl, rfl, h⟩
  · replace h := h.2 q
    refine EW_iconst (pc2 := 13) (v := (-1)) rfl dX12_call_12 (by decide) ?_
    exact AW_iret rfl dX12_call_13 ⟨_, _, rfl, rfl, h⟩
