theorem gfRX12_35 : ab_L RX12 35 12 11 := ⟨by decide, by decide, ab_in 1860 (by decide +kernel) (by decide +kernel)⟩
abbrev MX12_bears : ab_M := (yX12_bears, cX12_bears, 2, (some .int))
theorem dX12_bears_0 : decode cX12_bears 0 = .ok (.aload_n 0, 1) := by decide +kernel
theorem dX12_bears_1 : decode cX12_bears 1 = .ok (.getfield 41, 3) := by decide +kernel
theorem dX12_bears_4 : decode cX12_bears 4 = .ok (.iload_n 1, 1) := by decide +kernel
theorem dX12_bears_5 : decode cX12_bears 5 = .ok (.iaload, 1) := by decide +kernel
theorem dX12_bears_6 : decode cX12_bears 6 = .ok (.aload_n 0, 1) := by decide +kernel
theorem dX12_bears_7 : decode cX12_bears 7 = .ok (.getfield 35, 3) := by decide +kernel
theorem dX12_bears_10 : decode cX12_bears 10 = .ok (.iload_n 1, 1) := by decide +kernel
theorem dX12_bears_11 : decode cX12_bears 11 = .ok (.iaload, 1) := by decide +kernel
theorem dX12_bears_12 : decode cX12_bears 12 = .ok (.ifCond .ne 8, 3) := by decide +kernel
theorem dX12_bears_15 : decode cX12_bears 15 = .ok (.bipush 60, 2) := by decide +kernel
theorem dX12_bears_17 : decode cX12_bears 17 = .ok (.goto 21, 3) := by decide +kernel
theorem dX12_bears_20 : decode cX12_bears 20 = .ok (.aload_n 0, 1) := by decide +kernel
theorem dX12_bears_21 : decode cX12_bears 21 = .ok (.getfield 35, 3) := by decide +kernel
theorem dX12_bears_24 : decode cX12_bears 24 = .ok (.iload_n 1, 1) := by decide +kernel
theorem dX12_bears_25 : decode cX12_bears 25 = .ok (.iaload, 1) := by decide +kernel
theorem dX12_bears_26 : decode cX12_bears 26 = .ok (.iconst 1, 1) := by decide +kernel
theorem dX12_bears_27 : decode cX12_bears 27 = .ok (.if_icmp .ne 8, 3) := by decide +kernel
theorem dX12_bears_30 : decode cX12_bears 30 = .ok (.bipush 100, 2) := by decide +kernel
theorem dX12_bears_32 : decode cX12_bears 32 = .ok (.goto 6, 3) := by decide +kernel
theorem dX12_bears_35 : decode cX12_bears 35 = .ok (.sipush 140, 3) := by decide +kernel
theorem dX12_bears_38 : decode cX12_bears 38 = .ok (.imul, 1) := by decide +kernel
theorem dX12_bears_39 : decode cX12_bears 39 = .ok (.ireturn, 1) := by decide +kernel
theorem okX12_bears : ab_okM MX12_bears 1 := ⟨by decide, ⟨by decide, by decide⟩, ab_in 2586 (by decide +kernel) (by decide +kernel), ab_in 99 (by decide +kernel) (by decide +kernel), by decide +kernel, by decide⟩
set_option maxHeartbeats 4000000 in
set_option maxRecDepth 100000 in
def wX12_bears (v1 : Int32) (x : ab_X) (K : Int32 → Prop) : Prop := (vp_in v1 12 ∧ vp_in v1 12 ∧ ((¬ (x.1 255 (Int32.toNatClampNeg v1)) = 0 → (vp_in v1 12 ∧ ((¬ (x.1 255 (Int32.toNatClampNeg v1)) = 1 → K ((x.1 257 (Int32.toNatClampNeg v1)) * 140)) ∧ ((x.1 255 (Int32.toNatClampNeg v1)) = 1 → K ((x.1 257 (Int32.toNatClampNeg v1)) * 100))))) ∧ ((x.1 255 (Int32.toNatClampNeg v1)) = 0 → K ((x.1 257 (Int32.toNatClampNeg v1)) * 60))))
set_option maxHeartbeats 4000000 in
set_option maxRecDepth 100000 in
theorem sX12_bears (v1 : Int32)  (x : ab_X) (K : Int32 → Prop) (d bc bs : Nat) (hdp : 0 ≤ d) (h : wX12_bears v1 x K) : EW MX12_bears 0 [(0, .ref 246), (1, .int v1)] [] (aS x) d bc bs (liP x K) := by
  unfold wX12_bears at h
  refine EW_aload_n (pc2 := 1) rfl dX12_bears_0 0 rfl ?_
  refine AW_getr (r := 257) ⟨gfRX12_41, rfl⟩ (pc2 := 4) rfl dX12_bears_1 q246 rfl ?_
  refine EW_iload_n (pc2 := 5) rfl dX12_bears_4 1 rfl ?_
  obtain ⟨b1, h⟩ := h
  refine AW_iald (pc2 := 6) rfl dX12_bears_5 q257 b1 ?_
  refine EW_aload_n (pc2 := 7) rfl dX12_bears_6 0 rfl ?_
  refine AW_getr (r := 255) ⟨gfRX12_35, rfl⟩ (pc2 := 10) rfl dX12_bears_7 q246 rfl ?_
  refine EW_iload_n (pc2 := 11) rfl dX12_bears_10 1 rfl ?_
  obtain ⟨b2, h⟩ := h
  refine AW_iald (pc2 := 12) rfl dX12_bears_11 q255 b2 ?_
  refine EW_if_ne (tgt := 20) (pc2 := 15) rfl dX12_bears_12 (by decide) (fun q => ?_) (fun q => ?_)
  · replace h := h.1 q
    refine EW_aload_n (pc2 := 21) rfl dX12_bears_20 0 rfl ?_
    refine AW_getr (r := 255) ⟨gfRX12_35, rfl⟩ (pc2 := 24) rfl dX12_bears_21 q246 rfl ?_
    refine EW_iload_n (pc2 := 25) rfl dX12_bears_24 1 rfl ?_
    obtain ⟨b3, h⟩ := h
    refine AW_iald (pc2 := 26) rfl dX12_bears_25 q255 b3 ?_
    refine EW_iconst (pc2 := 27) (v := 1) rfl dX12_bears_26 (by decide) ?_
    refine EW_icmp_ne (tgt := 35) (pc2 := 30) rfl dX12_bears_27 (by decide) (fun q => ?_) (fun q => ?_)
    · replace h := h.1 q
      refine EW_sipush (pc2 := 38) (v := 140) rfl dX12_bears_35 (by decide) ?_
      refine EW_imul (pc2 := 39) rfl dX12_bears_38 ?_
      exact AW_iret rfl dX12_bears_39 ⟨_, rfl, rfl, h⟩
    · replace h := h.2 q
      refine EW_bipush (pc2 := 32) (v := 100) rfl dX12_bears_30 (by decide) ?_
      refine EW_goto (tgt := 38) dX12_bears_32 (by decide) ?_
      refine EW_imul (pc2 := 39) rfl dX12_bears_38 ?_
      exact AW_iret rfl dX12_bears_39 ⟨_, rfl, rfl, h⟩
  · replace h := h.2 q
    refine EW_bipush (pc2 := 17) (v := 60) rfl dX12_bears_15 (by decide) ?_
    refine EW_goto (tgt := 38) dX12_bears_17 (by decide) ?_
    refine EW_imul (pc2 := 39) rfl dX12_bears_38 ?_
    exact AW_iret rfl dX12_bears_39 ⟨_, rfl, rfl, h⟩
abbrev MX12_beside : ab_M := (yX12_beside, cX12_beside, 4, (some .int))
theorem dX12_beside_0 : decode cX12_beside 0 = .ok (.iload_n 1, 1) := by decide +kernel
theorem dX12_beside_1 : decode cX12_beside 1 = .ok (.iload_n 2, 1) := by decide +kernel
theorem dX12_beside_2 : decode cX12_beside 2 = .ok (.iadd, 1) := by decide +kernel
theorem dX12_beside_3 : decode cX12_beside 3 = .ok (.istore_n 3, 1) := by decide +kernel
theorem dX12_beside_4 : decode cX12_beside 4 = .ok (.iload_n 3, 1) := by decide +kernel
theorem dX12_beside_5 : decode cX12_beside 5 = .ok (.ifCond .lt 33, 3) := by decide +kernel
theorem dX12_beside_8 : decode cX12_beside 8 = .ok (.iload_n 3, 1) := by decide +kernel
theorem dX12_beside_9 : decode cX12_beside 9 = .ok (.aload_n 0, 1) := by decide +kernel
theorem dX12_beside_10 : decode cX12_beside 10 = .ok (.getfield 331, 3) := by decide +kernel
theorem dX12_beside_13 : decode cX12_beside 13 = .ok (.if_icmp .ge 25, 3) := by decide +kernel
theorem dX12_beside_16 : decode cX12_beside 16 = .ok (.aload_n 0, 1) := by decide +kernel
theorem dX12_beside_17 : decode cX12_beside 17 = .ok (.getfield 32, 3) := by decide +kernel
theorem dX12_beside_20 : decode cX12_beside 20 = .ok (.iload_n 3, 1) := by decide +kernel
theorem dX12_beside_21 : decode cX12_beside 21 = .ok (.iaload, 1) := by decide +kernel
theorem dX12_beside_22 : decode cX12_beside 22 = .ok (.aload_n 0, 1) := by decide +kernel
theorem dX12_beside_23 : decode cX12_beside 23 = .ok (.getfield 32, 3) := by decide +kernel
theorem dX12_beside_26 : decode cX12_beside 26 = .ok (.iload_n 1, 1) := by decide +kernel
theorem dX12_beside_27 : decode cX12_beside 27 = .ok (.iaload, 1) := by decide +kernel
theorem dX12_beside_28 : decode cX12_beside 28 = .ok (.if_icmp .eq 10, 3) := by decide +kernel
theorem dX12_beside_31 : decode cX12_beside 31 = .ok (.iload_n 3, 1) := by decide +kernel
theorem dX12_beside_32 : decode cX12_beside 32 = .ok (.iload_n 2, 1) := by decide +kernel
theorem dX12_beside_33 : decode cX12_beside 33 = .ok (.iadd, 1) := by decide +kernel
theorem dX12_beside_34 : decode cX12_beside 34 = .ok (.istore_n 3, 1) := by decide +kernel
theorem dX12_beside_35 : decode cX12_beside 35 = .ok (.goto (-31), 3) := by decide +kernel
theorem dX12_beside_38 : decode cX12_beside 38 = .ok (.iload_n 3, 1) := by decide +kernel
theorem dX12_beside_39 : decode cX12_beside 39 = .ok (.ifCond .lt 15, 3) := by decide +kernel
theorem dX12_beside_42 : decode cX12_beside 42 = .ok (.iload_n 3, 1) := by decide +kernel
theorem dX12_beside_43 : decode cX12_beside 43 = .ok (.aload_n 0, 1) := by decide +kernel
theorem dX12_beside_44 : decode cX12_beside 44 = .ok (.getfield 331, 3) := by decide +kernel
theorem dX12_beside_47 : decode cX12_beside 47 = .ok (.if_icmp .ge 7, 3) := by decide +kernel
theorem dX12_beside_50 : decode cX12_beside 50 = .ok (.iload_n 3, 1) := by decide +kernel
theorem dX12_beside_51 : decode cX12_beside 51 = .ok (.goto 4, 3) := by decide +kernel
theorem dX12_beside_54 : decode cX12_beside 54 = .ok (.iconst (-1), 1) := by decide +kernel
theorem dX12_beside_55 : decode cX12_beside 55 = .ok (.ireturn, 1) := by decide +kernel
theorem okX12_beside : ab_okM MX12_beside 2 := ⟨by decide, ⟨by decide, by decide⟩, ab_in 2598 (by decide +kernel) (by decide +kernel), ab_in 99 (by decide +kernel) (by decide +kernel), by decide +kernel, by decide⟩
set_option maxHeartbeats 4000000 in
set_option maxRecDepth 100000 in
def wX12_beside_38 (v3 : Int32) (x : ab_X) (K : Int32 → Prop)  : Prop := ((v3 < 0 → K (-1)) ∧ (¬ v3 < 0 → (((x.1 246 31) ≤ v3 → K (-1)) ∧ (¬ (x.1 246 31) ≤ v3 → K v3))))
set_option maxHeartbeats 4000000 in
set_option maxRecDepth 100000 in
theorem sX12_beside_38 (v3 : Int32)  (x : ab_X) (K : Int32 → Prop)  (d bc bs : Nat) (hdp : 0 ≤ d)  (h : wX12_beside_38 v3 x K ) : EW MX12_beside 38 [(0, .ref 246), (3, .int v3)] [] (aS x) d bc bs (liP x K) := by
  unfold wX12_beside_38 at h
  refine EW_iload_n (pc2 := 39) rfl dX12_beside_38 1 rfl ?_
  refine EW_if_lt (tgt := 54) (pc2 := 42) rfl dX12_beside_39 (by decide) (fun q => ?_) (fun q => ?_)
  · replace h := h.1 q
    refine EW_iconst (pc2 := 55) (v := (-1)) rfl dX12_beside_54 (by decide) ?_
    exact AW_iret rfl dX12_beside_55 ⟨_, rfl, rfl, h⟩
  · replace h := h.2 q
    refine EW_iload_n (pc2 := 43) rfl dX12_beside_42 1 rfl ?_
    refine EW_aload_n (pc2 := 44) rfl dX12_beside_43 0 rfl ?_
    refine AW_geti ⟨gfRX12_331, rfl⟩ (pc2 := 47) rfl dX12_beside_44 q246 ?_
    refine EW_icmp_ge (tgt := 54) (pc2 := 50) rfl dX12_beside_47 (by decide) (fun q => ?_) (fun q => ?_)
    · replace h := h.1 q
      refine EW_iconst (pc2 := 55) (v := (-1)) rfl dX12_beside_54 (by decide) ?_
      exact AW_iret rfl dX12_beside_55 ⟨_, rfl, rfl, h⟩
    · replace h := h.2 q
      refine EW_iload_n (pc2 := 51) rfl dX12_beside_50 1 rfl ?_
      refine EW_goto (tgt := 55) dX12_beside_51 (by decide) ?_
      exact AW_iret rfl dX12_beside_55 ⟨_, rfl, rfl, h⟩
set_option maxHeartbeats 4000000 in
set_option maxRecDepth 100000 in
def lX12_beside_4 (v1 : Int32) (v2 : Int32) (x : ab_X) (K : Int32 → Prop)  (L4 : Int32 → Prop) (v3 : Int32) : Prop := ((v3 < 0 → wX12_beside_38 v3 x K) ∧ (¬ v3 < 0 → (((x.1 246 31) ≤ v3 → wX12_beside_38 v3 x K) ∧ (¬ (x.1 246 31) ≤ v3 → (vp_in v3 12 ∧ vp_in v1 12 ∧ (((x.1 254 (Int32.toNatClampNeg v3)) = (x.1 254 (Int32.toNatClampNeg v1)) → wX12_beside_38 v3 x K) ∧ (¬ (x.1 254 (Int32.toNatClampNeg v3)) = (x.1 254 (Int32.toNatClampNeg v1)) → L4 (v3 + v2))))))))
set_option maxHeartbeats 4000000 in
set_option maxRecDepth 100000 in
theorem sX12_beside_4 (v1 : Int32) (v2 : Int32) (v3 : Int32)  (x : ab_X) (K : Int32 → Prop)  (d bc bs : Nat) (hdp : 0 ≤ d)  (h : Lp1 (lX12_beside_4 v1 v2 x K ) v3) : EW MX12_beside 4 [(0, .ref 246), (1, .int v1), (2, .int v2), (3, .int v3)] [] (aS x) d bc bs (liP x K) := by
  refine Lp1.use (P := fun v3 => EW MX12_beside 4 [(0, .ref 246), (1, .int v1), (2, .int v2), (3, .int v3)] [] (aS x) d bc bs (liP x K)) (fun L4 v3 hL4 h => ?_) v3 h
  unfold lX12_beside_4 at h
  refine EW_iload_n (pc2 := 5) rfl dX12_beside_4 3 rfl ?_
  refine EW_if_lt (tgt := 38) (pc2 := 8) rfl dX12_beside_5 (by decide) (fun q => ?_) (fun q => ?_)
  · replace h := h.1 q
    refine EW_ls [0, 3] rfl ?_
    exact sX12_beside_38 v3 x K d bc bs hdp h
  · replace h := h.2 q
    refine EW_iload_n (pc2 := 9) rfl dX12_beside_8 3 rfl ?_
    refine EW_aload_n (pc2 := 10) rfl dX12_beside_9 0 rfl ?_
    refine AW_geti ⟨gfRX12_331, rfl⟩ (pc2 := 13) rfl dX12_beside_10 q246 ?_
    refine EW_icmp_ge (tgt := 38) (pc2 := 16) rfl dX12_beside_13 (by decide) (fun q => ?_) (fun q => ?_)
    · replace h := h.1 q
      refine EW_ls [0, 3] rfl ?_
      exact sX12_beside_38 v3 x K d bc bs hdp h
    · replace h := h.2 q
      refine EW_aload_n (pc2 := 17) rfl dX12_beside_16 0 rfl ?_
      refine AW_getr (r := 254) ⟨gfRX12_32, rfl⟩ (pc2 := 20) rfl dX12_beside_17 q246 rfl ?_
      refine EW_iload_n (pc2 := 21) rfl dX12_beside_20 3 rfl ?_
      obtain ⟨b1, h⟩ := h
      refine AW_iald (pc2 := 22) rfl dX12_beside_21 q254 b1 ?_
      refine EW_aload_n (pc2 := 23) rfl dX12_beside_22 0 rfl ?_
      refine AW_getr (r := 254) ⟨gfRX12_32, rfl⟩ (pc2 := 26) rfl dX12_beside_23 q246 rfl ?_
      refine EW_iload_n (pc2 := 27) rfl dX12_beside_26 1 rfl ?_
      obtain ⟨b2, h⟩ := h
      refine AW_iald (pc2 := 28) rfl dX12_beside_27 q254 b2 ?_
      refine EW_icmp_eq (tgt := 38) (pc2 := 31) rfl dX12_beside_28 (by decide) (fun q => ?_) (fun q => ?_)
      · replace h := h.1 q
        refine EW_ls [0, 3] rfl ?_
        exact sX12_beside_38 v3 x K d bc bs hdp h
      · replace h := h.2 q
        refine EW_iload_n (pc2 := 32) rfl dX12_beside_31 3 rfl ?_
        refine EW_iload_n (pc2 := 33) rfl dX12_beside_32 2 rfl ?_
        refine EW_iadd (pc2 := 34) rfl dX12_beside_33 ?_
        refine EW_istore_n (pc2 := 35) rfl dX12_beside_34 (by decide) [1, 2, 3, 0] [(0, .ref 246), (1, .int v1), (2, .int v2), (3, .int (v3 + v2))] rfl ?_
        refine EW_goto (tgt := 4) dX12_beside_35 (by decide) ?_
        exact hL4 (v3 + v2) h
set_option maxHeartbeats 4000000 in
set_option maxRecDepth 100000 in
def wX12_beside (v1 : Int32) (v2 : Int32) (x : ab_X) (K : Int32 → Prop) : Prop := Lp1 (lX12_beside_4 v1 v2 x K ) (v1 + v2)
set_option maxHeartbeats 4000000 in
set_option maxRecDepth 100000 in
theorem sX12_beside (v1 : Int32) (v2 : Int32)  (x : ab_X) (K : Int32 → Prop) (d bc bs : Nat) (hdp : 0 ≤ d) (h : wX12_beside v1 v2 x K) : EW MX12_beside 0 [(0, .ref 246), (1, .int v1), (2, .int v2)] [] (aS x) d bc bs (liP x K) := by
  unfold wX12_beside at h
  refine EW_iload_n (pc2 := 1) rfl dX12_beside_0 1 rfl ?_
  refine EW_iload_n (pc2 := 2) rfl dX12_beside_1 2 rfl ?_
  refine EW_iadd (pc2 := 3) rfl dX12_beside_2 ?_
  refine EW_istore_n (pc2 := 4) rfl dX12_beside_3 (by decide) [1, 2, 3, 0] [(0, .ref 246), (1, .int v1), (2, .int v2), (3, .int (v1 + v2))] rfl ?_
  exact sX12_beside_4 v1 v2 (v1 + v2) x K d bc bs hdp h
abbrev MX12_isHouse : ab_M := (yX12_isHouse, cX12_isHouse, 2, (some .boolean))
theorem dX12_isHouse_0 : decode cX12_isHouse 0 = .ok (.iload_n 1, 1) := by decide +kernel
theorem dX12_isHouse_1 : decode cX12_isHouse 1 = .ok (.ifCond .lt 15, 3) := by decide +kernel
theorem dX12_isHouse_4 : decode cX12_isHouse 4 = .ok (.iload_n 1, 1) := by decide +kernel
theorem dX12_isHouse_5 : decode cX12_isHouse 5 = .ok (.aload_n 0, 1) := by decide +kernel
theorem dX12_isHouse_6 : decode cX12_isHouse 6 = .ok (.getfield 331, 3) := by decide +kernel
theorem dX12_isHouse_9 : decode cX12_isHouse 9 = .ok (.if_icmp .ge 7, 3) := by decide +kernel
theorem dX12_isHouse_12 : decode cX12_isHouse 12 = .ok (.iconst 1, 1) := by decide +kernel
theorem dX12_isHouse_13 : decode cX12_isHouse 13 = .ok (.goto 4, 3) := by decide +kernel
theorem dX12_isHouse_16 : decode cX12_isHouse 16 = .ok (.iconst 0, 1) := by decide +kernel
theorem dX12_isHouse_17 : decode cX12_isHouse 17 = .ok (.ireturn, 1) := by decide +kernel
theorem okX12_isHouse : ab_okM MX12_isHouse 1 := ⟨by decide, ⟨by decide, by decide⟩, ab_in 2271 (by decide +kernel) (by decide +kernel), ab_in 99 (by decide +kernel) (by decide +kernel), by decide +kernel, by decide⟩
set_option maxHeartbeats 4000000 in
set_option maxRecDepth 100000 in
def wX12_isHouse (v1 : Int32) (x : ab_X) (K : Int32 → Prop) : Prop := ((v1 < 0 → K 0) ∧ (¬ v1 < 0 → (((x.1 246 31) ≤ v1 → K 0) ∧ (¬ (x.1 246 31) ≤ v1 → K 1))))
set_option maxHeartbeats 4000000 in
set_option maxRecDepth 100000 in
theorem sX12_isHouse (v1 : Int32)  (x : ab_X) (K : Int32 → Prop) (d bc bs : Nat) (hdp : 0 ≤ d) (h : wX12_isHouse v1 x K) : EW MX12_isHouse 0 [(0, .ref 246), (1, .int v1)] [] (aS x) d bc bs (liP x K) := by
  unfold wX12_isHouse at h
  refine EW_iload_n (pc2 := 1) rfl dX12_isHouse_0 1 rfl ?_
  refine EW_if_lt (tgt := 16) (pc2 := 4) rfl dX12_isHouse_1 (by decide) (fun q => ?_) (fun q => ?_)
  · replace h := h.1 q
    refine EW_iconst (pc2 := 17) (v := 0) rfl dX12_isHouse_16 (by decide) ?_
    exact AW_zret rfl isB0 dX12_isHouse_17 ⟨_, rfl, rfl, h⟩
  · replace h := h.2 q
    refine EW_iload_n (pc2 := 5) rfl dX12_isHouse_4 1 rfl ?_
    refine EW_aload_n (pc2 := 6) rfl dX12_isHouse_5 0 rfl ?_
    refine AW_geti ⟨gfRX12_331, rfl⟩ (pc2 := 9) rfl dX12_isHouse_6 q246 ?_
    refine EW_icmp_ge (tgt := 16) (pc2 := 12) rfl dX12_isHouse_9 (by decide) (fun q => ?_) (fun q => ?_)
    · replace h := h.1 q
      refine EW_iconst (pc2 := 17) (v := 0) rfl dX12_isHouse_16 (by decide) ?_
      exact AW_zret rfl isB0 dX12_isHouse_17 ⟨_, rfl, rfl, h⟩
    · replace h := h.2 q
      refine EW_iconst (pc2 := 13) (v := 1) rfl dX12_isHouse_12 (by decide) ?_
      refine EW_goto (tgt := 17) dX12_isHouse_13 (by decide) ?_
      exact AW_zret rfl isB1 dX12_isHouse_17 ⟨_, rfl, rfl, h⟩
theorem mlRX12_334 : Cond.methodLink RX12 334 yX12_isHouse ∈ ab_G ∧ Cond.instanceMethod yX12_isHouse ∈ ab_G ∧ Cond.selects RX12 yX12_isHouse yX12_isHouse ∈ ab_G := ⟨ab_in 2268 (by decide +kernel) (by decide +kernel), ab_in 2270 (by decide +kernel) (by decide +kernel), ab_in 17 (by decide +kernel) (by decide +kernel)⟩
theorem gfRX12_65 : ab_L RX12 65 12 21 := ⟨by decide, by decide, ab_in 1870 (by decide +kernel) (by decide +kernel)⟩
theorem gfRX12_47 : ab_L RX12 47 12 15 := ⟨by decide, by decide, ab_in 1864 (by decide +kernel) (by decide +kernel)⟩
abbrev MX12_build : ab_M := (yX12_build, cX12_build, 5, (some .boolean))
theorem dX12_build_0 : decode cX12_build 0 = .ok (.aload_n 0, 1) := by decide +kernel
theorem dX12_build_1 : decode cX12_build 1 = .ok (.iconst 0, 1) := by decide +kernel
theorem dX12_build_2 : decode cX12_build 2 = .ok (.putfield 297, 3) := by decide +kernel
theorem dX12_build_5 : decode cX12_build 5 = .ok (.aload_n 0, 1) := by decide +kernel
theorem dX12_build_6 : decode cX12_build 6 = .ok (.iload_n 1, 1) := by decide +kernel
theorem dX12_build_7 : decode cX12_build 7 = .ok (.invokevirtual 334, 3) := by decide +kernel
theorem dX12_build_10 : decode cX12_build 10 = .ok (.ifCond .eq 24, 3) := by decide +kernel
theorem dX12_build_13 : decode cX12_build 13 = .ok (.iload_n 3, 1) := by decide +kernel
theorem dX12_build_14 : decode cX12_build 14 = .ok (.iconst 0, 1) := by decide +kernel
theorem dX12_build_15 : decode cX12_build 15 = .ok (.iconst 3, 1) := by decide +kernel
theorem dX12_build_16 : decode cX12_build 16 = .ok (.invokestatic 307, 3) := by decide +kernel
theorem dX12_build_19 : decode cX12_build 19 = .ok (.ifCond .eq 15, 3) := by decide +kernel
theorem dX12_build_22 : decode cX12_build 22 = .ok (.iload 4, 2) := by decide +kernel
theorem dX12_build_24 : decode cX12_build 24 = .ok (.iconst 1, 1) := by decide +kernel
theorem dX12_build_25 : decode cX12_build 25 = .ok (.sipush 200, 3) := by decide +kernel
theorem dX12_build_28 : decode cX12_build 28 = .ok (.invokestatic 307, 3) := by decide +kernel
theorem dX12_build_31 : decode cX12_build 31 = .ok (.ifCond .ne 5, 3) := by decide +kernel
theorem dX12_build_34 : decode cX12_build 34 = .ok (.iconst 0, 1) := by decide +kernel
theorem dX12_build_35 : decode cX12_build 35 = .ok (.ireturn, 1) := by decide +kernel
theorem dX12_build_36 : decode cX12_build 36 = .ok (.aload_n 0, 1) := by decide +kernel
theorem dX12_build_37 : decode cX12_build 37 = .ok (.getfield 65, 3) := by decide +kernel
theorem dX12_build_40 : decode cX12_build 40 = .ok (.iload_n 1, 1) := by decide +kernel
theorem dX12_build_41 : decode cX12_build 41 = .ok (.iload_n 2, 1) := by decide +kernel
theorem dX12_build_42 : decode cX12_build 42 = .ok (.bastore, 1) := by decide +kernel
theorem dX12_build_43 : decode cX12_build 43 = .ok (.aload_n 0, 1) := by decide +kernel
theorem dX12_build_44 : decode cX12_build 44 = .ok (.getfield 47, 3) := by decide +kernel
theorem dX12_build_47 : decode cX12_build 47 = .ok (.iload_n 1, 1) := by decide +kernel
theorem dX12_build_48 : decode cX12_build 48 = .ok (.iload_n 3, 1) := by decide +kernel
theorem dX12_build_49 : decode cX12_build 49 = .ok (.iastore, 1) := by decide +kernel
theorem dX12_build_50 : decode cX12_build 50 = .ok (.aload_n 0, 1) := by decide +kernel
theorem dX12_build_51 : decode cX12_build 51 = .ok (.getfield 50, 3) := by decide +kernel
theorem dX12_build_54 : decode cX12_build 54 = .ok (.iload_n 1, 1) := by decide +kernel
theorem dX12_build_55 : decode cX12_build 55 = .ok (.iload 4, 2) := by decide +kernel
theorem dX12_build_57 : decode cX12_build 57 = .ok (.iastore, 1) := by decide +kernel
theorem dX12_build_58 : decode cX12_build 58 = .ok (.iconst 1, 1) := by decide +kernel
theorem dX12_build_59 : decode cX12_build 59 = .ok (.ireturn, 1) := by decide +kernel
theorem okX12_build : ab_okM MX12_build 4 := ⟨by decide, ⟨by decide, by decide⟩, ab_in 2267 (by decide +kernel) (by decide +kernel), ab_in 99 (by decide +kernel) (by decide +kernel), by decide +kernel, by decide⟩
set_option maxHeartbeats 4000000 in
set_option maxRecDepth 100000 in
def wX12_build (v1 : Int32) (v2 : Int32) (v3 : Int32) (v4 : Int32) (x : ab_X) (K : Int32 → ab_X → Prop) : Prop := wX12_isHouse v1 (wr x 246 0 0) (fun r1 => ((r1 = 0 → K 0 (wr x 246 0 0)) ∧ (¬ r1 = 0 → wX12_isIn v3 0 3 (wr x 246 0 0) (fun r2 => ((r2 = 0 → K 0 (wr x 246 0 0)) ∧ (¬ r2 = 0 → wX12_isIn v4 1 200 (wr x 246 0 0) (fun r3 => ((¬ r3 = 0 → (vp_in v1 12 ∧ isB v2 ∧ vp_in v1 12 ∧ vp_in v1 12 ∧ K 1 (wr (wr (wr (wr x 246 0 0) 265 (Int32.toNatClampNeg v1) v2) 259 (Int32.toNatClampNeg v1) v3) 260 (Int32.toNatClampNeg v1) v4))) ∧ (r3 = 0 → K 0 (wr x 246 0 0))))))))))
set_option maxHeartbeats 4000000 in
set_option maxRecDepth 100000 in
theorem sX12_build (v1 : Int32) (v2 : Int32) (v3 : Int32) (v4 : Int32)  (x : ab_X) (K : Int32 → ab_X → Prop) (d bc bs : Nat) (hdp : 1 ≤ d) (h : wX12_build v1 v2 v3 v4 x K) : EW MX12_build 0 [(0, .ref 246), (1, .int v1), (2, .int v2), (3, .int v3), (4, .int v4)] [] (aS x) d bc bs (liI K) := by
  unfold wX12_build at h
  refine EW_aload_n (pc2 := 1) rfl dX12_build_0 0 rfl ?_
  refine EW_iconst (pc2 := 2) (v := 0) rfl dX12_build_1 (by decide) ?_
  refine AW_puti ⟨gfRX12_297, rfl, rfl⟩ (pc2 := 5) rfl dX12_build_2 q246 ?_
  refine EW_aload_n (pc2 := 6) rfl dX12_build_5 0 rfl ?_
  refine EW_iload_n (pc2 := 7) rfl dX12_build_6 1 rfl ?_
  refine AW_invV (M' := MX12_isHouse) [.int v1] (rest := []) mlRX12_334 okX12_isHouse (pc2 := 10) rfl dX12_build_7 rfl rfl (Nat.le_of_ble_eq_true rfl) (Nat.le_of_ble_eq_true rfl) (d' := 0) (by omega) q246 ⟨by decide, rfl⟩ (EW_mono (fun _ _ hr => ?_) (sX12_isHouse v1  (wr x 246 0 0) _ _ 0 0 (Nat.le_refl _) h))
  obtain ⟨r1, rfl, rfl, h⟩ := hr
  refine EW_if_eq (tgt := 34) (pc2 := 13) rfl dX12_build_10 (by decide) (fun q => ?_) (fun q => ?_)
  · replace h := h.1 q
    refine EW_iconst (pc2 := 35) (v := 0) rfl dX12_build_34 (by decide) ?_
    exact AW_zret rfl isB0 dX12_build_35 ⟨_, _, rfl, rfl, h⟩
  · replace h := h.2 q
    refine EW_iload_n (pc2 := 14) rfl dX12_build_13 3 rfl ?_
    refine EW_iconst (pc2 := 15) (v := 0) rfl dX12_build_14 (by decide) ?_
    refine EW_iconst (pc2 := 16) (v := 3) rfl dX12_build_15 (by decide) ?_
    refine AW_invS (M' := MX12_isIn) [.int v3, .int 0, .int 3] (rest := []) mlRX12_307 okX12_isIn (pc2 := 19) rfl dX12_build_16 rfl rfl (Nat.le_of_ble_eq_true rfl) (Nat.le_of_ble_eq_true rfl) (d' := 0) (by omega) (EW_mono (fun _ _ hr => ?_) (sX12_isIn v3 0 3  (wr x 246 0 0) _ _ 0 0 (Nat.le_refl _) h))
    obtain ⟨r2, rfl, rfl, h⟩ := hr
    refine EW_if_eq (tgt := 34) (pc2 := 22) rfl dX12_build_19 (by decide) (fun q => ?_) (fun q => ?_)
    · replace h := h.1 q
      refine EW_iconst (pc2 := 35) (v := 0) rfl dX12_build_34 (by decide) ?_
      exact AW_zret rfl isB0 dX12_build_35 ⟨_, _, rfl, rfl, h⟩
    · replace h := h.2 q
      refine EW_iload (pc2 := 24) rfl dX12_build_22 4 rfl ?_
      refine EW_iconst (pc2 := 25) (v := 1) rfl dX12_build_24 (by decide) ?_
      refine EW_sipush (pc2 := 28) (v := 200) rfl dX12_build_25 (by decide) ?_
      refine AW_invS (M' := MX12_isIn) [.int v4, .int 1, .int 200] (rest := []) mlRX12_307 okX12_isIn (pc2 := 31) rfl dX12_build_28 rfl rfl (Nat.le_of_ble_eq_true rfl) (Nat.le_of_ble_eq_true rfl) (d' := 0) (by omega) (EW_mono (fun _ _ hr => ?_) (sX12_isIn v4 1 200  (wr x 246 0 0) _ _ 0 0 (Nat.le_refl _) h))
      obtain ⟨r3, rfl, rfl, h⟩ := hr
      refine EW_if_ne (tgt := 36) (pc2 := 34) rfl dX12_build_31 (by decide) (fun q => ?_) (fun q => ?_)
      · replace h := h.1 q
        refine EW_aload_n (pc2 := 37) rfl dX12_build_36 0 rfl ?_
        refine AW_getr (r := 265) ⟨gfRX12_65, rfl⟩ (pc2 := 40) rfl dX12_build_37 q246 rfl ?_
        refine EW_iload_n (pc2 := 41) rfl dX12_build_40 1 rfl ?_
        refine EW_iload_n (pc2 := 42) rfl dX12_build_41 2 rfl ?_
        obtain ⟨b4, h⟩ := h
        obtain ⟨z5, h⟩ := h
        refine AW_zast (pc2 := 43) rfl dX12_build_42 q265 b4 z5 ?_
        refine EW_aload_n (pc2 := 44) rfl dX12_build_43 0 rfl ?_
        refine AW_getr (r := 259) ⟨gfRX12_47, rfl⟩ (pc2 := 47) rfl dX12_build_44 q246 rfl ?_
        refine EW_iload_n (pc2 := 48) rfl dX12_build_47 1 rfl ?_
        refine EW_iload_n (pc2 := 49) rfl dX12_build_48 3 rfl ?_
        obtain ⟨b6, h⟩ := h
        refine AW_iast (pc2 := 50) rfl dX12_build_49 q259 b6 ?_
        refine EW_aload_n (pc2 := 51) rfl dX12_build_50 0 rfl ?_
        refine AW_getr (r := 260) ⟨gfRX12_50, rfl⟩ (pc2 := 54) rfl dX12_build_51 q246 rfl ?_
        refine EW_iload_n (pc2 := 55) rfl dX12_build_54 1 rfl ?_
        refine EW_iload (pc2 := 57) rfl dX12_build_55 4 rfl ?_
        obtain ⟨b7, h⟩ := h
        refine AW_iast (pc2 := 58) rfl dX12_build_57 q260 b7 ?_
        refine EW_iconst (pc2 := 59) (v := 1) rfl dX12_build_58 (by decide) ?_
        exact AW_zret rfl isB1 dX12_build_59 ⟨_, _, rfl, rfl, h⟩
      · replace h := h.2 q
        refine EW_iconst (pc2 := 35) (v := 0) rfl dX12_build_34 (by decide) ?_
        exact AW_zret rfl isB0 dX12_build_35 ⟨_, _, rfl, rfl, h⟩
