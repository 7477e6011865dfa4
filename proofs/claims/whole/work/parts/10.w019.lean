theorem gfRX10_59 : ab_L RX10 59 4 4 := ⟨by decide, by decide, ab_in 231 (by decide +kernel) (by decide +kernel)⟩
abbrev MX10_hasRoom : ab_M := (yX10_hasRoom, cX10_hasRoom, 3, (some .boolean))
theorem dX10_hasRoom_0 : decode cX10_hasRoom 0 = .ok (.aload_n 0, 1) := by decide +kernel
theorem dX10_hasRoom_1 : decode cX10_hasRoom 1 = .ok (.iload_n 1, 1) := by decide +kernel
theorem dX10_hasRoom_2 : decode cX10_hasRoom 2 = .ok (.invokevirtual 52, 3) := by decide +kernel
theorem dX10_hasRoom_5 : decode cX10_hasRoom 5 = .ok (.ifCond .eq 33, 3) := by decide +kernel
theorem dX10_hasRoom_8 : decode cX10_hasRoom 8 = .ok (.iload_n 2, 1) := by decide +kernel
theorem dX10_hasRoom_9 : decode cX10_hasRoom 9 = .ok (.aload_n 0, 1) := by decide +kernel
theorem dX10_hasRoom_10 : decode cX10_hasRoom 10 = .ok (.getfield 11, 3) := by decide +kernel
theorem dX10_hasRoom_13 : decode cX10_hasRoom 13 = .ok (.iload_n 1, 1) := by decide +kernel
theorem dX10_hasRoom_14 : decode cX10_hasRoom 14 = .ok (.aaload, 1) := by decide +kernel
theorem dX10_hasRoom_15 : decode cX10_hasRoom 15 = .ok (.getfield 56, 3) := by decide +kernel
theorem dX10_hasRoom_18 : decode cX10_hasRoom 18 = .ok (.aload_n 0, 1) := by decide +kernel
theorem dX10_hasRoom_19 : decode cX10_hasRoom 19 = .ok (.getfield 11, 3) := by decide +kernel
theorem dX10_hasRoom_22 : decode cX10_hasRoom 22 = .ok (.iload_n 1, 1) := by decide +kernel
theorem dX10_hasRoom_23 : decode cX10_hasRoom 23 = .ok (.aaload, 1) := by decide +kernel
theorem dX10_hasRoom_24 : decode cX10_hasRoom 24 = .ok (.getfield 59, 3) := by decide +kernel
theorem dX10_hasRoom_27 : decode cX10_hasRoom 27 = .ok (.imul, 1) := by decide +kernel
theorem dX10_hasRoom_28 : decode cX10_hasRoom 28 = .ok (.invokestatic 48, 3) := by decide +kernel
theorem dX10_hasRoom_31 : decode cX10_hasRoom 31 = .ok (.ifCond .eq 7, 3) := by decide +kernel
theorem dX10_hasRoom_34 : decode cX10_hasRoom 34 = .ok (.iconst 1, 1) := by decide +kernel
theorem dX10_hasRoom_35 : decode cX10_hasRoom 35 = .ok (.goto 4, 3) := by decide +kernel
theorem dX10_hasRoom_38 : decode cX10_hasRoom 38 = .ok (.iconst 0, 1) := by decide +kernel
theorem dX10_hasRoom_39 : decode cX10_hasRoom 39 = .ok (.ireturn, 1) := by decide +kernel
theorem okX10_hasRoom : ab_okM MX10_hasRoom 2 := ⟨by decide, ⟨by decide, by decide⟩, ab_in 898 (by decide +kernel) (by decide +kernel), ab_in 89 (by decide +kernel) (by decide +kernel), by decide +kernel, by decide⟩
set_option maxHeartbeats 4000000 in
set_option maxRecDepth 100000 in
def wX10_hasRoom (v1 : Int32) (v2 : Int32) (x : ab_X) (K : Int32 → Prop) : Prop := wX10_has v1 x (fun r1 => ((r1 = 0 → K 0) ∧ (¬ r1 = 0 → (vp_in v1 12 ∧ vp_in v1 12 ∧ wX11_below v2 ((x.1 (30 + 3 * Int32.toNatClampNeg v1) 3) * (x.1 (30 + 3 * Int32.toNatClampNeg v1) 4)) x (fun r4 => ((r4 = 0 → K 0) ∧ (¬ r4 = 0 → K 1)))))))
set_option maxHeartbeats 4000000 in
set_option maxRecDepth 100000 in
theorem sX10_hasRoom (v1 : Int32) (v2 : Int32)  (x : ab_X) (K : Int32 → Prop) (d bc bs : Nat) (hdp : 2 ≤ d) (h : wX10_hasRoom v1 v2 x K) : EW MX10_hasRoom 0 [(0, .ref 9), (1, .int v1), (2, .int v2)] [] (aS x) d bc bs (liP x K) := by
  unfold wX10_hasRoom at h
  refine EW_aload_n (pc2 := 1) rfl dX10_hasRoom_0 0 rfl ?_
  refine EW_iload_n (pc2 := 2) rfl dX10_hasRoom_1 1 rfl ?_
  refine AW_invV (M' := MX10_has) [.int v1] (rest := []) mlRX10_52 okX10_has (pc2 := 5) rfl dX10_hasRoom_2 rfl rfl (Nat.le_of_ble_eq_true rfl) (Nat.le_of_ble_eq_true rfl) (d' := 1) (by omega) q9 ⟨by decide, rfl⟩ (EW_mono (fun _ _ hr => ?_) (sX10_has v1  x _ _ 0 0 (Nat.le_refl _) h))
  obtain ⟨r1, rfl, rfl, h⟩ := hr
  refine EW_if_eq (tgt := 38) (pc2 := 8) rfl dX10_hasRoom_5 (by decide) (fun q => ?_) (fun q => ?_)
  · replace h := h.1 q
    refine EW_iconst (pc2 := 39) (v := 0) rfl dX10_hasRoom_38 (by decide) ?_
    exact AW_zret rfl isB0 dX10_hasRoom_39 ⟨_, rfl, rfl, h⟩
  · replace h := h.2 q
    refine EW_iload_n (pc2 := 9) rfl dX10_hasRoom_8 2 rfl ?_
    refine EW_aload_n (pc2 := 10) rfl dX10_hasRoom_9 0 rfl ?_
    refine AW_getr (r := 10) ⟨gfRX10_11, rfl⟩ (pc2 := 13) rfl dX10_hasRoom_10 q9 rfl ?_
    refine EW_iload_n (pc2 := 14) rfl dX10_hasRoom_13 1 rfl ?_
    obtain ⟨b2, h⟩ := h
    refine AW_aald5 (pc2 := 15) rfl dX10_hasRoom_14 b2 ?_
    refine AW_geti ⟨gfRX10_56, rfl⟩ (pc2 := 18) rfl dX10_hasRoom_15 (isH.o (isH_of b2)) ?_
    refine EW_aload_n (pc2 := 19) rfl dX10_hasRoom_18 0 rfl ?_
    refine AW_getr (r := 10) ⟨gfRX10_11, rfl⟩ (pc2 := 22) rfl dX10_hasRoom_19 q9 rfl ?_
    refine EW_iload_n (pc2 := 23) rfl dX10_hasRoom_22 1 rfl ?_
    obtain ⟨b3, h⟩ := h
    refine AW_aald5 (pc2 := 24) rfl dX10_hasRoom_23 b3 ?_
    refine AW_geti ⟨gfRX10_59, rfl⟩ (pc2 := 27) rfl dX10_hasRoom_24 (isH.o (isH_of b3)) ?_
    refine EW_imul (pc2 := 28) rfl dX10_hasRoom_27 ?_
    refine AW_invSN (M' := MX11_below) [.int v2, .int ((x.1 (30 + 3 * Int32.toNatClampNeg v1) 3) * (x.1 (30 + 3 * Int32.toNatClampNeg v1) 4))] (rest := []) mlRX10_48 okX11_below (pc2 := 31) rfl dX10_hasRoom_28 rfl rfl (Nat.le_of_ble_eq_true rfl) (Nat.le_of_ble_eq_true rfl) (d' := 0) (by omega) (EW_mono (fun _ _ hr => ?_) (sX11_below v2 ((x.1 (30 + 3 * Int32.toNatClampNeg v1) 3) * (x.1 (30 + 3 * Int32.toNatClampNeg v1) 4))  x _ _ 0 0 (Nat.le_refl _) h))
    obtain ⟨r4, rfl, rfl, h⟩ := hr
    refine EW_if_eq (tgt := 38) (pc2 := 34) rfl dX10_hasRoom_31 (by decide) (fun q => ?_) (fun q => ?_)
    · replace h := h.1 q
      refine EW_iconst (pc2 := 39) (v := 0) rfl dX10_hasRoom_38 (by decide) ?_
      exact AW_zret rfl isB0 dX10_hasRoom_39 ⟨_, rfl, rfl, h⟩
    · replace h := h.2 q
      refine EW_iconst (pc2 := 35) (v := 1) rfl dX10_hasRoom_34 (by decide) ?_
      refine EW_goto (tgt := 39) dX10_hasRoom_35 (by decide) ?_
      exact AW_zret rfl isB1 dX10_hasRoom_39 ⟨_, rfl, rfl, h⟩
theorem gfRX10_137 : ab_L RX10 137 4 15 := ⟨by decide, by decide, ab_in 269 (by decide +kernel) (by decide +kernel)⟩
abbrev MX10_lostInAll : ab_M := (yX10_lostInAll, cX10_lostInAll, 3, (some .int))
theorem dX10_lostInAll_0 : decode cX10_lostInAll 0 = .ok (.iconst 0, 1) := by decide +kernel
theorem dX10_lostInAll_1 : decode cX10_lostInAll 1 = .ok (.istore_n 1, 1) := by decide +kernel
theorem dX10_lostInAll_2 : decode cX10_lostInAll 2 = .ok (.iconst 0, 1) := by decide +kernel
theorem dX10_lostInAll_3 : decode cX10_lostInAll 3 = .ok (.istore_n 2, 1) := by decide +kernel
theorem dX10_lostInAll_4 : decode cX10_lostInAll 4 = .ok (.iload_n 2, 1) := by decide +kernel
theorem dX10_lostInAll_5 : decode cX10_lostInAll 5 = .ok (.aload_n 0, 1) := by decide +kernel
theorem dX10_lostInAll_6 : decode cX10_lostInAll 6 = .ok (.getfield 44, 3) := by decide +kernel
theorem dX10_lostInAll_9 : decode cX10_lostInAll 9 = .ok (.if_icmp .ge 21, 3) := by decide +kernel
theorem dX10_lostInAll_12 : decode cX10_lostInAll 12 = .ok (.iload_n 1, 1) := by decide +kernel
theorem dX10_lostInAll_13 : decode cX10_lostInAll 13 = .ok (.aload_n 0, 1) := by decide +kernel
theorem dX10_lostInAll_14 : decode cX10_lostInAll 14 = .ok (.getfield 11, 3) := by decide +kernel
theorem dX10_lostInAll_17 : decode cX10_lostInAll 17 = .ok (.iload_n 2, 1) := by decide +kernel
theorem dX10_lostInAll_18 : decode cX10_lostInAll 18 = .ok (.aaload, 1) := by decide +kernel
theorem dX10_lostInAll_19 : decode cX10_lostInAll 19 = .ok (.getfield 137, 3) := by decide +kernel
theorem dX10_lostInAll_22 : decode cX10_lostInAll 22 = .ok (.iadd, 1) := by decide +kernel
theorem dX10_lostInAll_23 : decode cX10_lostInAll 23 = .ok (.istore_n 1, 1) := by decide +kernel
theorem dX10_lostInAll_24 : decode cX10_lostInAll 24 = .ok (.iinc 2 1, 3) := by decide +kernel
theorem dX10_lostInAll_27 : decode cX10_lostInAll 27 = .ok (.goto (-23), 3) := by decide +kernel
theorem dX10_lostInAll_30 : decode cX10_lostInAll 30 = .ok (.iload_n 1, 1) := by decide +kernel
theorem dX10_lostInAll_31 : decode cX10_lostInAll 31 = .ok (.ireturn, 1) := by decide +kernel
theorem okX10_lostInAll : ab_okM MX10_lostInAll 0 := ⟨by decide, ⟨by decide, by decide⟩, ab_in 1766 (by decide +kernel) (by decide +kernel), ab_in 89 (by decide +kernel) (by decide +kernel), by decide +kernel, by decide⟩
set_option maxHeartbeats 4000000 in
set_option maxRecDepth 100000 in
def lX10_lostInAll_4  (x : ab_X) (K : Int32 → Prop)  (L4 : Int32 → Int32 → Prop) (v1 : Int32) (v2 : Int32) : Prop := (((x.1 9 2) ≤ v2 → K v1) ∧ (¬ (x.1 9 2) ≤ v2 → (vp_in v2 12 ∧ L4 (v1 + (x.1 (30 + 3 * Int32.toNatClampNeg v2) 15)) (v2 + 1))))
set_option maxHeartbeats 4000000 in
set_option maxRecDepth 100000 in
theorem sX10_lostInAll_4 (v1 : Int32) (v2 : Int32)  (x : ab_X) (K : Int32 → Prop)  (d bc bs : Nat) (hdp : 0 ≤ d)  (h : Lp2 (lX10_lostInAll_4  x K ) v1 v2) : EW MX10_lostInAll 4 [(0, .ref 9), (1, .int v1), (2, .int v2)] [] (aS x) d bc bs (liP x K) := by
  refine Lp2.use (P := fun v1 v2 => EW MX10_lostInAll 4 [(0, .ref 9), (1, .int v1), (2, .int v2)] [] (aS x) d bc bs (liP x K)) (fun L4 v1 v2 hL4 h => ?_) v1 v2 h
  unfold lX10_lostInAll_4 at h
  refine EW_iload_n (pc2 := 5) rfl dX10_lostInAll_4 2 rfl ?_
  refine EW_aload_n (pc2 := 6) rfl dX10_lostInAll_5 0 rfl ?_
  refine AW_geti ⟨gfRX10_44, rfl⟩ (pc2 := 9) rfl dX10_lostInAll_6 q9 ?_
  refine EW_icmp_ge (tgt := 30) (pc2 := 12) rfl dX10_lostInAll_9 (by decide) (fun q => ?_) (fun q => ?_)
  · replace h := h.1 q
    refine EW_iload_n (pc2 := 31) rfl dX10_lostInAll_30 1 rfl ?_
    exact AW_iret rfl dX10_lostInAll_31 ⟨_, rfl, rfl, h⟩
  · replace h := h.2 q
    refine EW_iload_n (pc2 := 13) rfl dX10_lostInAll_12 1 rfl ?_
    refine EW_aload_n (pc2 := 14) rfl dX10_lostInAll_13 0 rfl ?_
    refine AW_getr (r := 10) ⟨gfRX10_11, rfl⟩ (pc2 := 17) rfl dX10_lostInAll_14 q9 rfl ?_
    refine EW_iload_n (pc2 := 18) rfl dX10_lostInAll_17 2 rfl ?_
    obtain ⟨b1, h⟩ := h
    refine AW_aald5 (pc2 := 19) rfl dX10_lostInAll_18 b1 ?_
    refine AW_geti ⟨gfRX10_137, rfl⟩ (pc2 := 22) rfl dX10_lostInAll_19 (isH.o (isH_of b1)) ?_
    refine EW_iadd (pc2 := 23) rfl dX10_lostInAll_22 ?_
    refine EW_istore_n (pc2 := 24) rfl dX10_lostInAll_23 (by decide) [1, 0, 2] [(0, .ref 9), (1, .int (v1 + (x.1 (30 + 3 * Int32.toNatClampNeg v2) 15))), (2, .int v2)] rfl ?_
    refine EW_iinc (v2 + 1) (pc2 := 27) rfl dX10_lostInAll_24 2 rfl rfl (by decide) [1, 2, 0] [(0, .ref 9), (1, .int (v1 + (x.1 (30 + 3 * Int32.toNatClampNeg v2) 15))), (2, .int (v2 + 1))] rfl ?_
    refine EW_goto (tgt := 4) dX10_lostInAll_27 (by decide) ?_
    exact hL4 (v1 + (x.1 (30 + 3 * Int32.toNatClampNeg v2) 15)) (v2 + 1) h
set_option maxHeartbeats 4000000 in
set_option maxRecDepth 100000 in
def wX10_lostInAll  (x : ab_X) (K : Int32 → Prop) : Prop := Lp2 (lX10_lostInAll_4 x K ) 0 0
set_option maxHeartbeats 4000000 in
set_option maxRecDepth 100000 in
theorem sX10_lostInAll   (x : ab_X) (K : Int32 → Prop) (d bc bs : Nat) (hdp : 0 ≤ d) (h : wX10_lostInAll  x K) : EW MX10_lostInAll 0 [(0, .ref 9)] [] (aS x) d bc bs (liP x K) := by
  unfold wX10_lostInAll at h
  refine EW_iconst (pc2 := 1) (v := 0) rfl dX10_lostInAll_0 (by decide) ?_
  refine EW_istore_n (pc2 := 2) rfl dX10_lostInAll_1 (by decide) [1, 0] [(0, .ref 9), (1, .int 0)] rfl ?_
  refine EW_iconst (pc2 := 3) (v := 0) rfl dX10_lostInAll_2 (by decide) ?_
  refine EW_istore_n (pc2 := 4) rfl dX10_lostInAll_3 (by decide) [1, 2, 0] [(0, .ref 9), (1, .int 0), (2, .int 0)] rfl ?_
  exact sX10_lostInAll_4 0 0 x K d bc bs hdp h
theorem gfRX10_134 : ab_L RX10 134 4 14 := ⟨by decide, by decide, ab_in 264 (by decide +kernel) (by decide +kernel)⟩
abbrev MX10_savedInAll : ab_M := (yX10_savedInAll, cX10_savedInAll, 3, (some .int))
theorem dX10_savedInAll_0 : decode cX10_savedInAll 0 = .ok (.iconst 0, 1) := by decide +kernel
theorem dX10_savedInAll_1 : decode cX10_savedInAll 1 = .ok (.istore_n 1, 1) := by decide +kernel
theorem dX10_savedInAll_2 : decode cX10_savedInAll 2 = .ok (.iconst 0, 1) := by decide +kernel
theorem dX10_savedInAll_3 : decode cX10_savedInAll 3 = .ok (.istore_n 2, 1) := by decide +kernel
theorem dX10_savedInAll_4 : decode cX10_savedInAll 4 = .ok (.iload_n 2, 1) := by decide +kernel
theorem dX10_savedInAll_5 : decode cX10_savedInAll 5 = .ok (.aload_n 0, 1) := by decide +kernel
theorem dX10_savedInAll_6 : decode cX10_savedInAll 6 = .ok (.getfield 44, 3) := by decide +kernel
theorem dX10_savedInAll_9 : decode cX10_savedInAll 9 = .ok (.if_icmp .ge 21, 3) := by decide +kernel
theorem dX10_savedInAll_12 : decode cX10_savedInAll 12 = .ok (.iload_n 1, 1) := by decide +kernel
theorem dX10_savedInAll_13 : decode cX10_savedInAll 13 = .ok (.aload_n 0, 1) := by decide +kernel
theorem dX10_savedInAll_14 : decode cX10_savedInAll 14 = .ok (.getfield 11, 3) := by decide +kernel
theorem dX10_savedInAll_17 : decode cX10_savedInAll 17 = .ok (.iload_n 2, 1) := by decide +kernel
theorem dX10_savedInAll_18 : decode cX10_savedInAll 18 = .ok (.aaload, 1) := by decide +kernel
theorem dX10_savedInAll_19 : decode cX10_savedInAll 19 = .ok (.getfield 134, 3) := by decide +kernel
theorem dX10_savedInAll_22 : decode cX10_savedInAll 22 = .ok (.iadd, 1) := by decide +kernel
theorem dX10_savedInAll_23 : decode cX10_savedInAll 23 = .ok (.istore_n 1, 1) := by decide +kernel
theorem dX10_savedInAll_24 : decode cX10_savedInAll 24 = .ok (.iinc 2 1, 3) := by decide +kernel
theorem dX10_savedInAll_27 : decode cX10_savedInAll 27 = .ok (.goto (-23), 3) := by decide +kernel
theorem dX10_savedInAll_30 : decode cX10_savedInAll 30 = .ok (.iload_n 1, 1) := by decide +kernel
theorem dX10_savedInAll_31 : decode cX10_savedInAll 31 = .ok (.ireturn, 1) := by decide +kernel
theorem okX10_savedInAll : ab_okM MX10_savedInAll 0 := ⟨by decide, ⟨by decide, by decide⟩, ab_in 1762 (by decide +kernel) (by decide +kernel), ab_in 89 (by decide +kernel) (by decide +kernel), by decide +kernel, by decide⟩
set_option maxHeartbeats 4000000 in
set_option maxRecDepth 100000 in
def lX10_savedInAll_4  (x : ab_X) (K : Int32 → Prop)  (L4 : Int32 → Int32 → Prop) (v1 : Int32) (v2 : Int32) : Prop := (((x.1 9 2) ≤ v2 → K v1) ∧ (¬ (x.1 9 2) ≤ v2 → (vp_in v2 12 ∧ L4 (v1 + (x.1 (30 + 3 * Int32.toNatClampNeg v2) 14)) (v2 + 1))))
set_option maxHeartbeats 4000000 in
set_option maxRecDepth 100000 in
theorem sX10_savedInAll_4 (v1 : Int32) (v2 : Int32)  (x : ab_X) (K : Int32 → Prop)  (d bc bs : Nat) (hdp : 0 ≤ d)  (h : Lp2 (lX10_savedInAll_4  x K ) v1 v2) : EW MX10_savedInAll 4 [(0, .ref 9), (1, .int v1), (2, .int v2)] [] (aS x) d bc bs (liP x K) := by
  refine Lp2.use (P := fun v1 v2 => EW MX10_savedInAll 4 [(0, .ref 9), (1, .int v1), (2, .int v2)] [] (aS x) d bc bs (liP x K)) (fun L4 v1 v2 hL4 h => ?_) v1 v2 h
  unfold lX10_savedInAll_4 at h
  refine EW_iload_n (pc2 := 5) rfl dX10_savedInAll_4 2 rfl ?_
  refine EW_aload_n (pc2 := 6) rfl dX10_savedInAll_5 0 rfl ?_
  refine AW_geti ⟨gfRX10_44, rfl⟩ (pc2 := 9) rfl dX10_savedInAll_6 q9 ?_
  refine EW_icmp_ge (tgt := 30) (pc2 := 12) rfl dX10_savedInAll_9 (by decide) (fun q => ?_) (fun q => ?_)
  · replace h := h.1 q
    refine EW_iload_n (pc2 := 31) rfl dX10_savedInAll_30 1 rfl ?_
    exact AW_iret rfl dX10_savedInAll_31 ⟨_, rfl, rfl, h⟩
  · replace h := h.2 q
    refine EW_iload_n (pc2 := 13) rfl dX10_savedInAll_12 1 rfl ?_
    refine EW_aload_n (pc2 := 14) rfl dX10_savedInAll_13 0 rfl ?_
    refine AW_getr (r := 10) ⟨gfRX10_11, rfl⟩ (pc2 := 17) rfl dX10_savedInAll_14 q9 rfl ?_
    refine EW_iload_n (pc2 := 18) rfl dX10_savedInAll_17 2 rfl ?_
    obtain ⟨b1, h⟩ := h
    refine AW_aald5 (pc2 := 19) rfl dX10_savedInAll_18 b1 ?_
    refine AW_geti ⟨gfRX10_134, rfl⟩ (pc2 := 22) rfl dX10_savedInAll_19 (isH.o (isH_of b1)) ?_
    refine EW_iadd (pc2 := 23) rfl dX10_savedInAll_22 ?_
    refine EW_istore_n (pc2 := 24) rfl dX10_savedInAll_23 (by decide) [1, 0, 2] [(0, .ref 9), (1, .int (v1 + (x.1 (30 + 3 * Int32.toNatClampNeg v2) 14))), (2, .int v2)] rfl ?_
    refine EW_iinc (v2 + 1) (pc2 := 27) rfl dX10_savedInAll_24 2 rfl rfl (by decide) [1, 2, 0] [(0, .ref 9), (1, .int (v1 + (x.1 (30 + 3 * Int32.toNatClampNeg v2) 14))), (2, .int (v2 + 1))] rfl ?_
    refine EW_goto (tgt := 4) dX10_savedInAll_27 (by decide) ?_
    exact hL4 (v1 + (x.1 (30 + 3 * Int32.toNatClampNeg v2) 14)) (v2 + 1) h
set_option maxHeartbeats 4000000 in
set_option maxRecDepth 100000 in
def wX10_savedInAll  (x : ab_X) (K : Int32 → Prop) : Prop := Lp2 (lX10_savedInAll_4 x K ) 0 0
set_option maxHeartbeats 4000000 in
set_option maxRecDepth 100000 in
theorem sX10_savedInAll   (x : ab_X) (K : Int32 → Prop) (d bc bs : Nat) (hdp : 0 ≤ d) (h : wX10_savedInAll  x K) : EW MX10_savedInAll 0 [(0, .ref 9)] [] (aS x) d bc bs (liP x K) := by
  unfold wX10_savedInAll at h
  refine EW_iconst (pc2 := 1) (v := 0) rfl dX10_savedInAll_0 (by decide) ?_
  refine EW_istore_n (pc2 := 2) rfl dX10_savedInAll_1 (by decide) [1, 0] [(0, .ref 9), (1, .int 0)] rfl ?_
  refine EW_iconst (pc2 := 3) (v := 0) rfl dX10_savedInAll_2 (by decide) ?_
  refine EW_istore_n (pc2 := 4) rfl dX10_savedInAll_3 (by decide) [1, 2, 0] [(0, .ref 9), (1, .int 0), (2, .int 0)] rfl ?_
  exact sX10_savedInAll_4 0 0 x K d bc bs hdp h
theorem mmRX3_38 : Cond.methodLink RX3 38 arraycopyName ∈ ab_G ∧ Cond.native arraycopyName ∈ ab_G ∧ Cond.static arraycopyName ∈ ab_G ∧ Cond.initialized "java/lang/System" ∈ ab_G := ⟨ab_in 1747 (by decide +kernel) (by decide +kernel), ab_in 1337 (by decide +kernel) (by decide +kernel), ab_in 1336 (by decide +kernel) (by decide +kernel), ab_in 111 (by decide +kernel) (by decide +kernel)⟩
abbrev MX3_become : ab_M := (yX3_become, cX3_become, 2, none)
theorem dX3_become_0 : decode cX3_become 0 = .ok (.aload_n 1, 1) := by decide +kernel
theorem dX3_become_1 : decode cX3_become 1 = .ok (.getfield 9, 3) := by decide +kernel
theorem dX3_become_4 : decode cX3_become 4 = .ok (.iconst 0, 1) := by decide +kernel
theorem dX3_become_5 : decode cX3_become 5 = .ok (.aload_n 0, 1) := by decide +kernel
theorem dX3_become_6 : decode cX3_become 6 = .ok (.getfield 9, 3) := by decide +kernel
theorem dX3_become_9 : decode cX3_become 9 = .ok (.iconst 0, 1) := by decide +kernel
theorem dX3_become_10 : decode cX3_become 10 = .ok (.sipush 288, 3) := by decide +kernel
theorem dX3_become_13 : decode cX3_become 13 = .ok (.invokestatic 38, 3) := by decide +kernel
theorem dX3_become_16 : decode cX3_become 16 = .ok (.aload_n 1, 1) := by decide +kernel
theorem dX3_become_17 : decode cX3_become 17 = .ok (.getfield 15, 3) := by decide +kernel
theorem dX3_become_20 : decode cX3_become 20 = .ok (.iconst 0, 1) := by decide +kernel
theorem dX3_become_21 : decode cX3_become 21 = .ok (.aload_n 0, 1) := by decide +kernel
theorem dX3_become_22 : decode cX3_become 22 = .ok (.getfield 15, 3) := by decide +kernel
theorem dX3_become_25 : decode cX3_become 25 = .ok (.iconst 0, 1) := by decide +kernel
theorem dX3_become_26 : decode cX3_become 26 = .ok (.sipush 288, 3) := by decide +kernel
theorem dX3_become_29 : decode cX3_become 29 = .ok (.invokestatic 38, 3) := by decide +kernel
theorem dX3_become_32 : decode cX3_become 32 = .ok (.aload_n 1, 1) := by decide +kernel
theorem dX3_become_33 : decode cX3_become 33 = .ok (.getfield 21, 3) := by decide +kernel
theorem dX3_become_36 : decode cX3_become 36 = .ok (.iconst 0, 1) := by decide +kernel
theorem dX3_become_37 : decode cX3_become 37 = .ok (.aload_n 0, 1) := by decide +kernel
theorem dX3_become_38 : decode cX3_become 38 = .ok (.getfield 21, 3) := by decide +kernel
theorem dX3_become_41 : decode cX3_become 41 = .ok (.iconst 0, 1) := by decide +kernel
theorem dX3_become_42 : decode cX3_become 42 = .ok (.bipush 72, 2) := by decide +kernel
theorem dX3_become_44 : decode cX3_become 44 = .ok (.invokestatic 38, 3) := by decide +kernel
theorem dX3_become_47 : decode cX3_become 47 = .ok (.aload_n 1, 1) := by decide +kernel
theorem dX3_become_48 : decode cX3_become 48 = .ok (.getfield 24, 3) := by decide +kernel
theorem dX3_become_51 : decode cX3_become 51 = .ok (.iconst 0, 1) := by decide +kernel
theorem dX3_become_52 : decode cX3_become 52 = .ok (.aload_n 0, 1) := by decide +kernel
theorem dX3_become_53 : decode cX3_become 53 = .ok (.getfield 24, 3) := by decide +kernel
theorem dX3_become_56 : decode cX3_become 56 = .ok (.iconst 0, 1) := by decide +kernel
theorem dX3_become_57 : decode cX3_become 57 = .ok (.bipush 72, 2) := by decide +kernel
theorem dX3_become_59 : decode cX3_become 59 = .ok (.invokestatic 38, 3) := by decide +kernel
theorem dX3_become_62 : decode cX3_become 62 = .ok (.aload_n 0, 1) := by decide +kernel
theorem dX3_become_63 : decode cX3_become 63 = .ok (.getfield 18, 3) := by decide +kernel
theorem dX3_become_66 : decode cX3_become 66 = .ok (.iconst 0, 1) := by decide +kernel
theorem dX3_become_67 : decode cX3_become 67 = .ok (.invokestatic 44, 3) := by decide +kernel
theorem dX3_become_70 : decode cX3_become 70 = .ok (.aload_n 0, 1) := by decide +kernel
theorem dX3_become_71 : decode cX3_become 71 = .ok (.aload_n 1, 1) := by decide +kernel
theorem dX3_become_72 : decode cX3_become 72 = .ok (.getfield 34, 3) := by decide +kernel
theorem dX3_become_75 : decode cX3_become 75 = .ok (.putfield 34, 3) := by decide +kernel
theorem dX3_become_78 : decode cX3_become 78 = .ok (.return_, 1) := by decide +kernel
theorem okX3_become : ab_okM MX3_become 1 := ⟨by decide, ⟨by decide, by decide⟩, ab_in 1746 (by decide +kernel) (by decide +kernel), ab_in 90 (by decide +kernel) (by decide +kernel), by decide +kernel, by decide⟩
set_option maxHeartbeats 4000000 in
set_option maxRecDepth 100000 in
def wX3_become (v0 : Nat) (v1 : Nat) (x : ab_X) (K : ab_X → Prop) : Prop := (¬ 0 < 0 ∧ ¬ 0 < 0 ∧ ¬ 288 < 0 ∧ (Int32.toNatClampNeg 0) + (Int32.toNatClampNeg 288) ≤ 288 ∧ (Int32.toNatClampNeg 0) + (Int32.toNatClampNeg 288) ≤ 288 ∧ ¬ 0 < 0 ∧ ¬ 0 < 0 ∧ ¬ 288 < 0 ∧ (Int32.toNatClampNeg 0) + (Int32.toNatClampNeg 288) ≤ 288 ∧ (Int32.toNatClampNeg 0) + (Int32.toNatClampNeg 288) ≤ 288 ∧ ¬ 0 < 0 ∧ ¬ 0 < 0 ∧ ¬ 72 < 0 ∧ (Int32.toNatClampNeg 0) + (Int32.toNatClampNeg 72) ≤ 72 ∧ (Int32.toNatClampNeg 0) + (Int32.toNatClampNeg 72) ≤ 72 ∧ ¬ 0 < 0 ∧ ¬ 0 < 0 ∧ ¬ 72 < 0 ∧ (Int32.toNatClampNeg 0) + (Int32.toNatClampNeg 72) ≤ 72 ∧ (Int32.toNatClampNeg 0) + (Int32.toNatClampNeg 72) ≤ 72 ∧ (∀ i, i < (Int32.toNatClampNeg 72) → isB ((wrA (wrA (wrA x (v0 + 1) (va_cpy (x.1 (v1 + 1)) (x.1 (v0 + 1)) (Int32.toNatClampNeg 0) (Int32.toNatClampNeg 0) (Int32.toNatClampNeg 288))) (v0 + 2) (va_cpy ((wrA x (v0 + 1) (va_cpy (x.1 (v1 + 1)) (x.1 (v0 + 1)) (Int32.toNatClampNeg 0) (Int32.toNatClampNeg 0) (Int32.toNatClampNeg 288))).1 (v1 + 2)) ((wrA x (v0 + 1) (va_cpy (x.1 (v1 + 1)) (x.1 (v0 + 1)) (Int32.toNatClampNeg 0) (Int32.toNatClampNeg 0) (Int32.toNatClampNeg 288))).1 (v0 + 2)) (Int32.toNatClampNeg 0) (Int32.toNatClampNeg 0) (Int32.toNatClampNeg 288))) (v0 + 4) (va_cpy ((wrA (wrA x (v0 + 1) (va_cpy (x.1 (v1 + 1)) (x.1 (v0 + 1)) (Int32.toNatClampNeg 0) (Int32.toNatClampNeg 0) (Int32.toNatClampNeg 288))) (v0 + 2) (va_cpy ((wrA x (v0 + 1) (va_cpy (x.1 (v1 + 1)) (x.1 (v0 + 1)) (Int32.toNatClampNeg 0) (Int32.toNatClampNeg 0) (Int32.toNatClampNeg 288))).1 (v1 + 2)) ((wrA x (v0 + 1) (va_cpy (x.1 (v1 + 1)) (x.1 (v0 + 1)) (Int32.toNatClampNeg 0) (Int32.toNatClampNeg 0) (Int32.toNatClampNeg 288))).1 (v0 + 2)) (Int32.toNatClampNeg 0) (Int32.toNatClampNeg 0) (Int32.toNatClampNeg 288))).1 (v1 + 4)) ((wrA (wrA x (v0 + 1) (va_cpy (x.1 (v1 + 1)) (x.1 (v0 + 1)) (Int32.toNatClampNeg 0) (Int32.toNatClampNeg 0) (Int32.toNatClampNeg 288))) (v0 + 2) (va_cpy ((wrA x (v0 + 1) (va_cpy (x.1 (v1 + 1)) (x.1 (v0 + 1)) (Int32.toNatClampNeg 0) (Int32.toNatClampNeg 0) (Int32.toNatClampNeg 288))).1 (v1 + 2)) ((wrA x (v0 + 1) (va_cpy (x.1 (v1 + 1)) (x.1 (v0 + 1)) (Int32.toNatClampNeg 0) (Int32.toNatClampNeg 0) (Int32.toNatClampNeg 288))).1 (v0 + 2)) (Int32.toNatClampNeg 0) (Int32.toNatClampNeg 0) (Int32.toNatClampNeg 288))).1 (v0 + 4)) (Int32.toNatClampNeg 0) (Int32.toNatClampNeg 0) (Int32.toNatClampNeg 72))).1 (v1 + 5) ((Int32.toNatClampNeg 0) + i))) ∧ wJ7_fill_53178 (v0 + 3) 288 0 (wrA (wrA (wrA (wrA x (v0 + 1) (va_cpy (x.1 (v1 + 1)) (x.1 (v0 + 1)) (Int32.toNatClampNeg 0) (Int32.toNatClampNeg 0) (Int32.toNatClampNeg 288))) (v0 + 2) (va_cpy ((wrA x (v0 + 1) (va_cpy (x.1 (v1 + 1)) (x.1 (v0 + 1)) (Int32.toNatClampNeg 0) (Int32.toNatClampNeg 0) (Int32.toNatClampNeg 288))).1 (v1 + 2)) ((wrA x (v0 + 1) (va_cpy (x.1 (v1 + 1)) (x.1 (v0 + 1)) (Int32.toNatClampNeg 0) (Int32.toNatClampNeg 0) (Int32.toNatClampNeg 288))).1 (v0 + 2)) (Int32.toNatClampNeg 0) (Int32.toNatClampNeg 0) (Int32.toNatClampNeg 288))) (v0 + 4) (va_cpy ((wrA (wrA x (v0 + 1) (va_cpy (x.1 (v1 + 1)) (x.1 (v0 + 1)) (Int32.toNatClampNeg 0) (Int32.toNatClampNeg 0) (Int32.toNatClampNeg 288))) (v0 + 2) (va_cpy ((wrA x (v0 + 1) (va_cpy (x.1 (v1 + 1)) (x.1 (v0 + 1)) (Int32.toNatClampNeg 0) (Int32.toNatClampNeg 0) (Int32.toNatClampNeg 288))).1 (v1 + 2)) ((wrA x (v0 + 1) (va_cpy (x.1 (v1 + 1)) (x.1 (v0 + 1)) (Int32.toNatClampNeg 0) (Int32.toNatClampNeg 0) (Int32.toNatClampNeg 288))).1 (v0 + 2)) (Int32.toNatClampNeg 0) (Int32.toNatClampNeg 0) (Int32.toNatClampNeg 288))).1 (v1 + 4)) ((wrA (wrA x (v0 + 1) (va_cpy (x.1 (v1 + 1)) (x.1 (v0 + 1)) (Int32.toNatClampNeg 0) (Int32.toNatClampNeg 0) (Int32.toNatClampNeg 288))) (v0 + 2) (va_cpy ((wrA x (v0 + 1) (va_cpy (x.1 (v1 + 1)) (x.1 (v0 + 1)) (Int32.toNatClampNeg 0) (Int32.toNatClampNeg 0) (Int32.toNatClampNeg 288))).1 (v1 + 2)) ((wrA x (v0 + 1) (va_cpy (x.1 (v1 + 1)) (x.1 (v0 + 1)) (Int32.toNatClampNeg 0) (Int32.toNatClampNeg 0) (Int32.toNatClampNeg 288))).1 (v0 + 2)) (Int32.toNatClampNeg 0) (Int32.toNatClampNeg 0) (Int32.toNatClampNeg 288))).1 (v0 + 4)) (Int32.toNatClampNeg 0) (Int32.toNatClampNeg 0) (Int32.toNatClampNeg 72))) (v0 + 5) (va_cpy ((wrA (wrA (wrA x (v0 + 1) (va_cpy (x.1 (v1 + 1)) (x.1 (v0 + 1)) (Int32.toNatClampNeg 0) (Int32.toNatClampNeg 0) (Int32.toNatClampNeg 288))) (v0 + 2) (va_cpy ((wrA x (v0 + 1) (va_cpy (x.1 (v1 + 1)) (x.1 (v0 + 1)) (Int32.toNatClampNeg 0) (Int32.toNatClampNeg 0) (Int32.toNatClampNeg 288))).1 (v1 + 2)) ((wrA x (v0 + 1) (va_cpy (x.1 (v1 + 1)) (x.1 (v0 + 1)) (Int32.toNatClampNeg 0) (Int32.toNatClampNeg 0) (Int32.toNatClampNeg 288))).1 (v0 + 2)) (Int32.toNatClampNeg 0) (Int32.toNatClampNeg 0) (Int32.toNatClampNeg 288))) (v0 + 4) (va_cpy ((wrA (wrA x (v0 + 1) (va_cpy (x.1 (v1 + 1)) (x.1 (v0 + 1)) (Int32.toNatClampNeg 0) (Int32.toNatClampNeg 0) (Int32.toNatClampNeg 288))) (v0 + 2) (va_cpy ((wrA x (v0 + 1) (va_cpy (x.1 (v1 + 1)) (x.1 (v0 + 1)) (Int32.toNatClampNeg 0) (Int32.toNatClampNeg 0) (Int32.toNatClampNeg 288))).1 (v1 + 2)) ((wrA x (v0 + 1) (va_cpy (x.1 (v1 + 1)) (x.1 (v0 + 1)) (Int32.toNatClampNeg 0) (Int32.toNatClampNeg 0) (Int32.toNatClampNeg 288))).1 (v0 + 2)) (Int32.toNatClampNeg 0) (Int32.toNatClampNeg 0) (Int32.toNatClampNeg 288))).1 (v1 + 4)) ((wrA (wrA x (v0 + 1) (va_cpy (x.1 (v1 + 1)) (x.1 (v0 + 1)) (Int32.toNatClampNeg 0) (Int32.toNatClampNeg 0) (Int32.toNatClampNeg 288))) (v0 + 2) (va_cpy ((wrA x (v0 + 1) (va_cpy (x.1 (v1 + 1)) (x.1 (v0 + 1)) (Int32.toNatClampNeg 0) (Int32.toNatClampNeg 0) (Int32.toNatClampNeg 288))).1 (v1 + 2)) ((wrA x (v0 + 1) (va_cpy (x.1 (v1 + 1)) (x.1 (v0 + 1)) (Int32.toNatClampNeg 0) (Int32.toNatClampNeg 0) (Int32.toNatClampNeg 288))).1 (v0 + 2)) (Int32.toNatClampNeg 0) (Int32.toNatClampNeg 0) (Int32.toNatClampNeg 288))).1 (v0 + 4)) (Int32.toNatClampNeg 0) (Int32.toNatClampNeg 0) (Int32.toNatClampNeg 72))).1 (v1 + 5)) ((wrA (wrA (wrA x (v0 + 1) (va_cpy (x.1 (v1 + 1)) (x.1 (v0 + 1)) (Int32.toNatClampNeg 0) (Int32.toNatClampNeg 0) (Int32.toNatClampNeg 288))) (v0 + 2) (va_cpy ((wrA x (v0 + 1) (va_cpy (x.1 (v1 + 1)) (x.1 (v0 + 1)) (Int32.toNatClampNeg 0) (Int32.toNatClampNeg 0) (Int32.toNatClampNeg 288))).1 (v1 + 2)) ((wrA x (v0 + 1) (va_cpy (x.1 (v1 + 1)) (x.1 (v0 + 1)) (Int32.toNatClampNeg 0) (Int32.toNatClampNeg 0) (Int32.toNatClampNeg 288))).1 (v0 + 2)) (Int32.toNatClampNeg 0) (Int32.toNatClampNeg 0) (Int32.toNatClampNeg 288))) (v0 + 4) (va_cpy ((wrA (wrA x (v0 + 1) (va_cpy (x.1 (v1 + 1)) (x.1 (v0 + 1)) (Int32.toNatClampNeg 0) (Int32.toNatClampNeg 0) (Int32.toNatClampNeg 288))) (v0 + 2) (va_cpy ((wrA x (v0 + 1) (va_cpy (x.1 (v1 + 1)) (x.1 (v0 + 1)) (Int32.toNatClampNeg 0) (Int32.toNatClampNeg 0) (Int32.toNatClampNeg 288))).1 (v1 + 2)) ((wrA x (v0 + 1) (va_cpy (x.1 (v1 + 1)) (x.1 (v0 + 1)) (Int32.toNatClampNeg 0) (Int32.toNatClampNeg 0) (Int32.toNatClampNeg 288))).1 (v0 + 2)) (Int32.toNatClampNeg 0) (Int32.toNatClampNeg 0) (Int32.toNatClampNeg 288))).1 (v1 + 4)) ((wrA (wrA x (v0 + 1) (va_cpy (x.1 (v1 + 1)) (x.1 (v0 + 1)) (Int32.toNatClampNeg 0) (Int32.toNatClampNeg 0) (Int32.toNatClampNeg 288))) (v0 + 2) (va_cpy ((wrA x (v0 + 1) (va_cpy (x.1 (v1 + 1)) (x.1 (v0 + 1)) (Int32.toNatClampNeg 0) (Int32.toNatClampNeg 0) (Int32.toNatClampNeg 288))).1 (v1 + 2)) ((wrA x (v0 + 1) (va_cpy (x.1 (v1 + 1)) (x.1 (v0 + 1)) (Int32.toNatClampNeg 0) (Int32.toNatClampNeg 0) (Int32.toNatClampNeg 288))).1 (v0 + 2)) (Int32.toNatClampNeg 0) (Int32.toNatClampNeg 0) (Int32.toNatClampNeg 288))).1 (v0 + 4)) (Int32.toNatClampNeg 0) (Int32.toNatClampNeg 0) (Int32.toNatClampNeg 72))).1 (v0 + 5)) (Int32.toNatClampNeg 0) (Int32.toNatClampNeg 0) (Int32.toNatClampNeg 72))) (fun x22 => (isB (x22.1 v1 7) ∧ K (wr x22 v0 7 (x22.1 v1 7)))))
set_option maxHeartbeats 4000000 in
set_option maxRecDepth 100000 in
theorem sX3_become (v0 : Nat) (v1 : Nat) (hv0 : isF v0) (hv1 : isF v1) (x : ab_X) (K : ab_X → Prop) (d bc bs : Nat) (hdp : 1 ≤ d) (h : wX3_become v0 v1 x K) : EW MX3_become 0 [(0, .ref v0), (1, .ref v1)] [] (aS x) d bc bs (liV K) := by
  unfold wX3_become at h
  refine EW_aload_n (pc2 := 1) rfl dX3_become_0 1 rfl ?_
  refine AW_getr (r := (v1 + 1)) ⟨gfRX3_9, rfl⟩ (pc2 := 4) rfl dX3_become_1 (isF.o hv1) (isF.r0 hv1) ?_
  refine EW_iconst (pc2 := 5) (v := 0) rfl dX3_become_4 (by decide) ?_
  refine EW_aload_n (pc2 := 6) rfl dX3_become_5 0 rfl ?_
  refine AW_getr (r := (v0 + 1)) ⟨gfRX3_9, rfl⟩ (pc2 := 9) rfl dX3_become_6 (isF.o hv0) (isF.r0 hv0) ?_
  refine EW_iconst (pc2 := 10) (v := 0) rfl dX3_become_9 (by decide) ?_
  refine EW_sipush (pc2 := 13) (v := 288) rfl dX3_become_10 (by decide) ?_
  obtain ⟨c1, h⟩ := h
  obtain ⟨c2, h⟩ := h
  obtain ⟨c3, h⟩ := h
  obtain ⟨c4, h⟩ := h
  obtain ⟨c5, h⟩ := h
  refine AW_copyi mmRX3_38 (pc2 := 16) rfl dX3_become_13 (Nat.le_of_ble_eq_true rfl) (by omega) (isF.a0 hv1) (isF.a0 hv0) c1 c2 c3 c4 c5 ?_
  refine EW_aload_n (pc2 := 17) rfl dX3_become_16 1 rfl ?_
  refine AW_getr (r := (v1 + 2)) ⟨gfRX3_15, rfl⟩ (pc2 := 20) rfl dX3_become_17 (isF.o hv1) (isF.r1 hv1) ?_
  refine EW_iconst (pc2 := 21) (v := 0) rfl dX3_become_20 (by decide) ?_
  refine EW_aload_n (pc2 := 22) rfl dX3_become_21 0 rfl ?_
  refine AW_getr (r := (v0 + 2)) ⟨gfRX3_15, rfl⟩ (pc2 := 25) rfl dX3_become_22 (isF.o hv0) (isF.r1 hv0) ?_
  refine EW_iconst (pc2 := 26) (v := 0) rfl dX3_become_25 (by decide) ?_
  refine EW_sipush (pc2 := 29) (v := 288) rfl dX3_become_26 (by decide) ?_
  obtain ⟨c6, h⟩ := h
  obtain ⟨c7, h⟩ := h
  obtain ⟨c8, h⟩ := h
  obtain ⟨c9, h⟩ := h
  obtain ⟨c10, h⟩ := h
  refine AW_copyi mmRX3_38 (pc2 := 32) rfl dX3_become_29 (Nat.le_of_ble_eq_true rfl) (by omega) (isF.a1 hv1) (isF.a1 hv0) c6 c7 c8 c9 c10 ?_
  refine EW_aload_n (pc2 := 33) rfl dX3_become_32 1 rfl ?_
  refine AW_getr (r := (v1 + 4)) ⟨gfRX3_21, rfl⟩ (pc2 := 36) rfl dX3_become_33 (isF.o hv1) (isF.r3 hv1) ?_
  refine EW_iconst (pc2 := 37) (v := 0) rfl dX3_become_36 (by decide) ?_
  refine EW_aload_n (pc2 := 38) rfl dX3_become_37 0 rfl ?_
  refine AW_getr (r := (v0 + 4)) ⟨gfRX3_21, rfl⟩ (pc2 := 41) rfl dX3_become_38 (isF.o hv0) (isF.r3 hv0) ?_
  refine EW_iconst (pc2 := 42) (v := 0) rfl dX3_become_41 (by decide) ?_
  refine EW_bipush (pc2 := 44) (v := 72) rfl dX3_become_42 (by decide) ?_
  obtain ⟨c11, h⟩ := h
  obtain ⟨c12, h⟩ := h
  obtain ⟨c13, h⟩ := h
  obtain ⟨c14, h⟩ := h
  obtain ⟨c15, h⟩ := h
  refine AW_copyi mmRX3_38 (pc2 := 47) rfl dX3_become_44 (Nat.le_of_ble_eq_true rfl) (by omega) (isF.a3 hv1) (isF.a3 hv0) c11 c12 c13 c14 c15 ?_
  refine EW_aload_n (pc2 := 48) rfl dX3_become_47 1 rfl ?_
  refine AW_getr (r := (v1 + 5)) ⟨gfRX3_24, rfl⟩ (pc2 := 51) rfl dX3_become_48 (isF.o hv1) (isF.r4 hv1) ?_
  refine EW_iconst (pc2 := 52) (v := 0) rfl dX3_become_51 (by decide) ?_
  refine EW_aload_n (pc2 := 53) rfl dX3_become_52 0 rfl ?_
  refine AW_getr (r := (v0 + 5)) ⟨gfRX3_24, rfl⟩ (pc2 := 56) rfl dX3_become_53 (isF.o hv0) (isF.r4 hv0) ?_
  refine EW_iconst (pc2 := 57) (v := 0) rfl dX3_become_56 (by decide) ?_
  refine EW_bipush (pc2 := 59) (v := 72) rfl dX3_become_57 (by decide) ?_
  obtain ⟨c16, h⟩ := h
  obtain ⟨c17, h⟩ := h
  obtain ⟨c18, h⟩ := h
  obtain ⟨c19, h⟩ := h
  obtain ⟨c20, h⟩ := h
  obtain ⟨c21, h⟩ := h
  refine AW_copyz mmRX3_38 (pc2 := 62) rfl dX3_become_59 (Nat.le_of_ble_eq_true rfl) (by omega) (isF.a4 hv1) (isF.a4 hv0) c16 c17 c18 c19 c20 c21 ?_
  refine EW_aload_n (pc2 := 63) rfl dX3_become_62 0 rfl ?_
  refine AW_getr (r := (v0 + 3)) ⟨gfRX3_18, rfl⟩ (pc2 := 66) rfl dX3_become_63 (isF.o hv0) (isF.r2 hv0) ?_
  refine EW_iconst (pc2 := 67) (v := 0) rfl dX3_become_66 (by decide) ?_
  refine AW_invS (M' := MJ7_fill_53178) [.ref (v0 + 3), .int 0] (rest := []) mlRX3_44 okJ7_fill_53178 (pc2 := 70) rfl dX3_become_67 rfl rfl (Nat.le_of_ble_eq_true rfl) (Nat.le_of_ble_eq_true rfl) (d' := 0) (by omega) (EW_mono (fun _ _ hr => ?_) (sJ7_fill_53178 (v0 + 3) 288 0 (isF.a2 hv0) (wrA (wrA (wrA (wrA x (v0 + 1) (va_cpy (x.1 (v1 + 1)) (x.1 (v0 + 1)) (Int32.toNatClampNeg 0) (Int32.toNatClampNeg 0) (Int32.toNatClampNeg 288))) (v0 + 2) (va_cpy ((wrA x (v0 + 1) (va_cpy (x.1 (v1 + 1)) (x.1 (v0 + 1)) (Int32.toNatClampNeg 0) (Int32.toNatClampNeg 0) (Int32.toNatClampNeg 288))).1 (v1 + 2)) ((wrA x (v0 + 1) (va_cpy (x.1 (v1 + 1)) (x.1 (v0 + 1)) (Int32.toNatClampNeg 0) (Int32.toNatClampNeg 0) (Int32.toNatClampNeg 288))).1 (v0 + 2)) (Int32.toNatClampNeg 0) (Int32.toNatClampNeg 0) (Int32.toNatClampNeg 288))) (v0 + 4) (va_cpy ((wrA (wrA x (v0 + 1) (va_cpy (x.1 (v1 + 1)) (x.1 (v0 + 1)) (Int32.toNatClampNeg 0) (Int32.toNatClampNeg 0) (Int32.toNatClampNeg 288))) (v0 + 2) (va_cpy ((wrA x (v0 + 1) (va_cpy (x.1 (v1 + 1)) (x.1 (v0 + 1)) (Int32.toNatClampNeg 0) (Int32.toNatClampNeg 0) (Int32.toNatClampNeg 288))).1 (v1 + 2)) ((wrA x (v0 + 1) (va_cpy (x.1 (v1 + 1)) (x.1 (v0 + 1)) (Int32.toNatClampNeg 0) (Int32.toNatClampNeg 0) (Int32.toNatClampNeg 288))).1 (v0 + 2)) (Int32.toNatClampNeg 0) (Int32.toNatClampNeg 0) (Int32.toNatClampNeg 288))).1 (v1 + 4)) ((wrA (wrA x (v0 + 1) (va_cpy (x.1 (v1 + 1)) (x.1 (v0 + 1)) (Int32.toNatClampNeg 0) (Int32.toNatClampNeg 0) (Int32.toNatClampNeg 288))) (v0 + 2) (va_cpy ((wrA x (v0 + 1) (va_cpy (x.1 (v1 + 1)) (x.1 (v0 + 1)) (Int32.toNatClampNeg 0) (Int32.toNatClampNeg 0) (Int32.toNatClampNeg 288))).1 (v1 + 2)) ((wrA x (v0 + 1) (va_cpy (x.1 (v1 + 1)) (x.1 (v0 + 1)) (Int32.toNatClampNeg 0) (Int32.toNatClampNeg 0) (Int32.toNatClampNeg 288))).1 (v0 + 2)) (Int32.toNatClampNeg 0) (Int32.toNatClampNeg 0) (Int32.toNatClampNeg 288))).1 (v0 + 4)) (Int32.toNatClampNeg 0) (Int32.toNatClampNeg 0) (Int32.toNatClampNeg 72))) (v0 + 5) (va_cpy ((wrA (wrA (wrA x (v0 + 1) (va_cpy (x.1 (v1 + 1)) (x.1 (v0 + 1)) (Int32.toNatClampNeg 0) (Int32.toNatClampNeg 0) (Int32.toNatClampNeg 288))) (v0 + 2) (va_cpy ((wrA x (v0 + 1) (va_cpy (x.1 (v1 + 1)) (x.1 (v0 + 1)) (Int32.toNatClampNeg 0) (Int32.toNatClampNeg 0) (Int32.toNatClampNeg 288))).1 (v1 + 2)) ((wrA x (v0 + 1) (va_cpy (x.1 (v1 + 1)) (x.1 (v0 + 1)) (Int32.toNatClampNeg 0) (Int32.toNatClampNeg 0) (Int32.toNatClampNeg 288))).1 (v0 + 2)) (Int32.toNatClampNeg 0) (Int32.toNatClampNeg 0) (Int32.toNatClampNeg 288))) (v0 + 4) (va_cpy ((wrA (wrA x (v0 + 1) (va_cpy (x.1 (v1 + 1)) (x.1 (v0 + 1)) (Int32.toNatClampNeg 0) (Int32.toNatClampNeg 0) (Int32.toNatClampNeg 288))) (v0 + 2) (va_cpy ((wrA x (v0 + 1) (va_cpy (x.1 (v1 + 1)) (x.1 (v0 + 1)) (Int32.toNatClampNeg 0) (Int32.toNatClampNeg 0) (Int32.toNatClampNeg 288))).1 (v1 + 2)) ((wrA x (v0 + 1) (va_cpy (x.1 (v1 + 1)) (x.1 (v0 + 1)) (Int32.toNatClampNeg 0) (Int32.toNatClampNeg 0) (Int32.toNatClampNeg 288))).1 (v0 + 2)) (Int32.toNatClampNeg 0) (Int32.toNatClampNeg 0) (Int32.toNatClampNeg 288))).1 (v1 + 4)) ((wrA (wrA x (v0 + 1) (va_cpy (x.1 (v1 + 1)) (x.1 (v0 + 1)) (Int32.toNatClampNeg 0) (Int32.toNatClampNeg 0) (Int32.toNatClampNeg 288))) (v0 + 2) (va_cpy ((wrA x (v0 + 1) (va_cpy (x.1 (v1 + 1)) (x.1 (v0 + 1)) (Int32.toNatClampNeg 0) (Int32.toNatClampNeg 0) (Int32.toNatClampNeg 288))).1 (v1 + 2)) ((wrA x (v0 + 1) (va_cpy (x.1 (v1 + 1)) (x.1 (v0 + 1)) (Int32.toNatClampNeg 0) (Int32.toNatClampNeg 0) (Int32.toNatClampNeg 288))).1 (v0 + 2)) (Int32.toNatClampNeg 0) (Int32.toNatClampNeg 0) (Int32.toNatClampNeg 288))).1 (v0 + 4)) (Int32.toNatClampNeg 0) (Int32.toNatClampNeg 0) (Int32.toNatClampNeg 72))).1 (v1 + 5)) ((wrA (wrA (wrA x (v0 + 1) (va_cpy (x.1 (v1 + 1)) (x.1 (v0 + 1)) (Int32.toNatClampNeg 0) (Int32.toNatClampNeg 0) (Int32.toNatClampNeg 288))) (v0 + 2) (va_cpy ((wrA x (v0 + 1) (va_cpy (x.1 (v1 + 1)) (x.1 (v0 + 1)) (Int32.toNatClampNeg 0) (Int32.toNatClampNeg 0) (Int32.toNatClampNeg 288))).1 (v1 + 2)) ((wrA x (v0 + 1) (va_cpy (x.1 (v1 + 1)) (x.1 (v0 + 1)) (Int32.toNatClampNeg 0) (Int32.toNatClampNeg 0) (Int32.toNatClampNeg 288))).1 (v0 + 2)) (Int32.toNatClampNeg 0) (Int32.toNatClampNeg 0) (Int32.toNatClampNeg 288))) (v0 + 4) (va_cpy ((wrA (wrA x (v0 + 1) (va_cpy (x.1 (v1 + 1)) (x.1 (v0 + 1)) (Int32.toNatClampNeg 0) (Int32.toNatClampNeg 0) (Int32.toNatClampNeg 288))) (v0 + 2) (va_cpy ((wrA x (v0 + 1) (va_cpy (x.1 (v1 + 1)) (x.1 (v0 + 1)) (Int32.toNatClampNeg 0) (Int32.toNatClampNeg 0) (Int32.toNatClampNeg 288))).1 (v1 + 2)) ((wrA x (v0 + 1) (va_cpy (x.1 (v1 + 1)) (x.1 (v0 + 1)) (Int32.toNatClampNeg 0) (Int32.toNatClampNeg 0) (Int32.toNatClampNeg 288))).1 (v0 + 2)) (Int32.toNatClampNeg 0) (Int32.toNatClampNeg 0) (Int32.toNatClampNeg 288))).1 (v1 + 4)) ((wrA (wrA x (v0 + 1) (va_cpy (x.1 (v1 + 1)) (x.1 (v0 + 1)) (Int32.toNatClampNeg 0) (Int32.toNatClampNeg 0) (Int32.toNatClampNeg 288))) (v0 + 2) (va_cpy ((wrA x (v0 + 1) (va_cpy (x.1 (v1 + 1)) (x.1 (v0 + 1)) (Int32.toNatClampNeg 0) (Int32.toNatClampNeg 0) (Int32.toNatClampNeg 288))).1 (v1 + 2)) ((wrA x (v0 + 1) (va_cpy (x.1 (v1 + 1)) (x.1 (v0 + 1)) (Int32.toNatClampNeg 0) (Int32.toNatClampNeg 0) (Int32.toNatClampNeg 288))).1 (v0 + 2)) (Int32.toNatClampNeg 0) (Int32.toNatClampNeg 0) (Int32.toNatClampNeg 288))).1 (v0 + 4)) (Int32.toNatClampNeg 0) (Int32.toNatClampNeg 0) (Int32.toNatClampNeg 72))).1 (v0 + 5)) (Int32.toNatClampNeg 0) (Int32.toNatClampNeg 0) (Int32.toNatClampNeg 72))) _ _ 0 0 (Nat.le_refl _) h))
  obtain ⟨x22, rfl, rfl, h⟩ := hr
  refine EW_aload_n (pc2 := 71) rfl dX3_become_70 0 rfl ?_
  refine EW_aload_n (pc2 := 72) rfl dX3_become_71 1 rfl ?_
  refine AW_geti ⟨gfRX3_34, rfl⟩ (pc2 := 75) rfl dX3_become_72 (isF.o hv1) ?_
  obtain ⟨z23, h⟩ := h
  refine AW_putz ⟨gfRX3_34, rfl, rfl⟩ z23 (pc2 := 78) rfl dX3_become_75 (isF.o hv0) ?_
  exact EW_vret rfl dX3_become_78 ⟨_, rfl, rfl, h⟩
abbrev MX3_burntOf : ab_M := (yX3_burntOf, cX3_burntOf, 4, (some .int))
theorem dX3_burntOf_0 : decode cX3_burntOf 0 = .ok (.iconst 0, 1) := by decide +kernel
theorem dX3_burntOf_1 : decode cX3_burntOf 1 = .ok (.istore_n 2, 1) := by decide +kernel
theorem dX3_burntOf_2 : decode cX3_burntOf 2 = .ok (.iconst 0, 1) := by decide +kernel
theorem dX3_burntOf_3 : decode cX3_burntOf 3 = .ok (.istore_n 3, 1) := by decide +kernel
theorem dX3_burntOf_4 : decode cX3_burntOf 4 = .ok (.iload_n 3, 1) := by decide +kernel
theorem dX3_burntOf_5 : decode cX3_burntOf 5 = .ok (.aload_n 1, 1) := by decide +kernel
theorem dX3_burntOf_6 : decode cX3_burntOf 6 = .ok (.getfield 56, 3) := by decide +kernel
theorem dX3_burntOf_9 : decode cX3_burntOf 9 = .ok (.if_icmp .ge 22, 3) := by decide +kernel
theorem dX3_burntOf_12 : decode cX3_burntOf 12 = .ok (.iload_n 2, 1) := by decide +kernel
theorem dX3_burntOf_13 : decode cX3_burntOf 13 = .ok (.aload_n 0, 1) := by decide +kernel
theorem dX3_burntOf_14 : decode cX3_burntOf 14 = .ok (.getfield 21, 3) := by decide +kernel
theorem dX3_burntOf_17 : decode cX3_burntOf 17 = .ok (.aload_n 1, 1) := by decide +kernel
theorem dX3_burntOf_18 : decode cX3_burntOf 18 = .ok (.iload_n 3, 1) := by decide +kernel
theorem dX3_burntOf_19 : decode cX3_burntOf 19 = .ok (.invokevirtual 50, 3) := by decide +kernel
theorem dX3_burntOf_22 : decode cX3_burntOf 22 = .ok (.iaload, 1) := by decide +kernel
theorem dX3_burntOf_23 : decode cX3_burntOf 23 = .ok (.iadd, 1) := by decide +kernel
theorem dX3_burntOf_24 : decode cX3_burntOf 24 = .ok (.istore_n 2, 1) := by decide +kernel
theorem dX3_burntOf_25 : decode cX3_burntOf 25 = .ok (.iinc 3 1, 3) := by decide +kernel
theorem dX3_burntOf_28 : decode cX3_burntOf 28 = .ok (.goto (-24), 3) := by decide +kernel
theorem dX3_burntOf_31 : decode cX3_burntOf 31 = .ok (.iload_n 2, 1) := by decide +kernel
theorem dX3_burntOf_32 : decode cX3_burntOf 32 = .ok (.ireturn, 1) := by decide +kernel
theorem okX3_burntOf : ab_okM MX3_burntOf 1 := ⟨by decide, ⟨by decide, by decide⟩, ab_in 933 (by decide +kernel) (by decide +kernel), ab_in 90 (by decide +kernel) (by decide +kernel), by decide +kernel, by decide⟩
set_option maxHeartbeats 4000000 in
set_option maxRecDepth 100000 in
def lX3_burntOf_4 (v0 : Nat) (v1 : Nat) (x : ab_X) (K : Int32 → Prop)  (L4 : Int32 → Int32 → Prop) (v2 : Int32) (v3 : Int32) : Prop := (((x.1 v1 3) ≤ v3 → K v2) ∧ (¬ (x.1 v1 3) ≤ v3 → wX4_storey v1 v3 x (fun r1 => (vp_in r1 72 ∧ L4 (v2 + (x.1 (v0 + 4) (Int32.toNatClampNeg r1))) (v3 + 1)))))
set_option maxHeartbeats 4000000 in
set_option maxRecDepth 100000 in
theorem sX3_burntOf_4 (v0 : Nat) (v1 : Nat) (v2 : Int32) (v3 : Int32) (hv0 : isF v0) (hv1 : isH v1) (x : ab_X) (K : Int32 → Prop)  (d bc bs : Nat) (hdp : 1 ≤ d)  (h : Lp2 (lX3_burntOf_4 v0 v1 x K ) v2 v3) : EW MX3_burntOf 4 [(0, .ref v0), (1, .ref v1), (2, .int v2), (3, .int v3)] [] (aS x) d bc bs (liP x K) := by
  refine Lp2.use (P := fun v2 v3 => EW MX3_burntOf 4 [(0, .ref v0), (1, .ref v1), (2, .int v2), (3, .int v3)] [] (aS x) d bc bs (liP x K)) (fun L4 v2 v3 hL4 h => ?_) v2 v3 h
  unfold lX3_burntOf_4 at h
  refine EW_iload_n (pc2 := 5) rfl dX3_burntOf_4 3 rfl ?_
  refine EW_aload_n (pc2 := 6) rfl dX3_burntOf_5 1 rfl ?_
  refine AW_geti ⟨gfRX3_56, rfl⟩ (pc2 := 9) rfl dX3_burntOf_6 (isH.o hv1) ?_
  refine EW_icmp_ge (tgt := 31) (pc2 := 12) rfl dX3_burntOf_9 (by decide) (fun q => ?_) (fun q => ?_)
  · replace h := h.1 q
    refine EW_iload_n (pc2 := 32) rfl dX3_burntOf_31 2 rfl ?_
    exact AW_iret rfl dX3_burntOf_32 ⟨_, rfl, rfl, h⟩
  · replace h := h.2 q
    refine EW_iload_n (pc2 := 13) rfl dX3_burntOf_12 2 rfl ?_
    refine EW_aload_n (pc2 := 14) rfl dX3_burntOf_13 0 rfl ?_
    refine AW_getr (r := (v0 + 4)) ⟨gfRX3_21, rfl⟩ (pc2 := 17) rfl dX3_burntOf_14 (isF.o hv0) (isF.r3 hv0) ?_
    refine EW_aload_n (pc2 := 18) rfl dX3_burntOf_17 1 rfl ?_
    refine EW_iload_n (pc2 := 19) rfl dX3_burntOf_18 3 rfl ?_
    refine AW_invV (M' := MX4_storey) [.int v3] (rest := [.ref (v0 + 4), .int v2]) mlRX3_50 okX4_storey (pc2 := 22) rfl dX3_burntOf_19 rfl rfl (Nat.le_of_ble_eq_true rfl) (Nat.le_of_ble_eq_true rfl) (d' := 0) (by omega) (isH.o hv1) ⟨by decide, rfl⟩ (EW_mono (fun _ _ hr => ?_) (sX4_storey v1 v3 hv1 x _ _ 0 0 (Nat.le_refl _) h))
    obtain ⟨r1, rfl, rfl, h⟩ := hr
    obtain ⟨b2, h⟩ := h
    refine AW_iald (pc2 := 23) rfl dX3_burntOf_22 (isF.a3 hv0) b2 ?_
    refine EW_iadd (pc2 := 24) rfl dX3_burntOf_23 ?_
    refine EW_istore_n (pc2 := 25) rfl dX3_burntOf_24 (by decide) [1, 2, 0, 3] [(0, .ref v0), (1, .ref v1), (2, .int (v2 + (x.1 (v0 + 4) (Int32.toNatClampNeg r1)))), (3, .int v3)] rfl ?_
    refine EW_iinc (v3 + 1) (pc2 := 28) rfl dX3_burntOf_25 3 rfl rfl (by decide) [1, 2, 3, 0] [(0, .ref v0), (1, .ref v1), (2, .int (v2 + (x.1 (v0 + 4) (Int32.toNatClampNeg r1)))), (3, .int (v3 + 1))] rfl ?_
    refine EW_goto (tgt := 4) dX3_burntOf_28 (by decide) ?_
    exact hL4 (v2 + (x.1 (v0 + 4) (Int32.toNatClampNeg r1))) (v3 + 1) h
set_option maxHeartbeats 4000000 in
set_option maxRecDepth 100000 in
def wX3_burntOf (v0 : Nat) (v1 : Nat) (x : ab_X) (K : Int32 → Prop) : Prop := Lp2 (lX3_burntOf_4 v0 v1 x K ) 0 0
set_option maxHeartbeats 4000000 in
set_option maxRecDepth 100000 in
theorem sX3_burntOf (v0 : Nat) (v1 : Nat) (hv0 : isF v0) (hv1 : isH v1) (x : ab_X) (K : Int32 → Prop) (d bc bs : Nat) (hdp : 1 ≤ d) (h : wX3_burntOf v0 v1 x K) : EW MX3_burntOf 0 [(0, .ref v0), (1, .ref v1)] [] (aS x) d bc bs (liP x K) := by
  unfold wX3_burntOf at h
  refine EW_iconst (pc2 := 1) (v := 0) rfl dX3_burntOf_0 (by decide) ?_
  refine EW_istore_n (pc2 := 2) rfl dX3_burntOf_1 (by decide) [1, 2, 0] [(0, .ref v0), (1, .ref v1), (2, .int 0)] rfl ?_
  refine EW_iconst (pc2 := 3) (v := 0) rfl dX3_burntOf_2 (by decide) ?_
  refine EW_istore_n (pc2 := 4) rfl dX3_burntOf_3 (by decide) [1, 2, 3, 0] [(0, .ref v0), (1, .ref v1), (2, .int 0), (3, .int 0)] rfl ?_
  exact sX3_burntOf_4 v0 v1 0 0 hv0 hv1 x K d bc bs hdp h
theorem gfRX10_24 : ab_L RX10 24 10 4 := ⟨by decide, by decide, ab_in 320 (by decide +kernel) (by decide +kernel)⟩
theorem mlRX10_131 : Cond.methodLink RX10 131 yX3_burntOf ∈ ab_G ∧ Cond.instanceMethod yX3_burntOf ∈ ab_G ∧ Cond.selects RX3 yX3_burntOf yX3_burntOf ∈ ab_G := ⟨ab_in 1749 (by decide +kernel) (by decide +kernel), ab_in 931 (by decide +kernel) (by decide +kernel), ab_in 932 (by decide +kernel) (by decide +kernel)⟩
theorem mlRX10_120 : Cond.methodLink RX10 120 yX3_become ∈ ab_G ∧ Cond.instanceMethod yX3_become ∈ ab_G ∧ Cond.selects RX3 yX3_become yX3_become ∈ ab_G := ⟨ab_in 1743 (by decide +kernel) (by decide +kernel), ab_in 1744 (by decide +kernel) (by decide +kernel), ab_in 1745 (by decide +kernel) (by decide +kernel)⟩
theorem gfRX10_124 : ab_L RX10 124 3 2 := ⟨by decide, by decide, ab_in 181 (by decide +kernel) (by decide +kernel)⟩
theorem mlRX10_127 : Cond.methodLink RX10 127 yX4_place ∈ ab_G ∧ Cond.instanceMethod yX4_place ∈ ab_G ∧ Cond.selects RX4 yX4_place yX4_place ∈ ab_G := ⟨ab_in 1748 (by decide +kernel) (by decide +kernel), ab_in 872 (by decide +kernel) (by decide +kernel), ab_in 873 (by decide +kernel) (by decide +kernel)⟩
abbrev MX10_tryWater : ab_M := (yX10_tryWater, cX10_tryWater, 6, (some .int))
theorem dX10_tryWater_0 : decode cX10_tryWater 0 = .ok (.aload_n 0, 1) := by decide +kernel
theorem dX10_tryWater_1 : decode cX10_tryWater 1 = .ok (.getfield 24, 3) := by decide +kernel
theorem dX10_tryWater_4 : decode cX10_tryWater 4 = .ok (.aload_n 0, 1) := by decide +kernel
theorem dX10_tryWater_5 : decode cX10_tryWater 5 = .ok (.getfield 20, 3) := by decide +kernel
theorem dX10_tryWater_8 : decode cX10_tryWater 8 = .ok (.invokevirtual 120, 3) := by decide +kernel
theorem dX10_tryWater_11 : decode cX10_tryWater 11 = .ok (.aload_n 0, 1) := by decide +kernel
theorem dX10_tryWater_12 : decode cX10_tryWater 12 = .ok (.getfield 24, 3) := by decide +kernel
theorem dX10_tryWater_15 : decode cX10_tryWater 15 = .ok (.getfield 124, 3) := by decide +kernel
theorem dX10_tryWater_18 : decode cX10_tryWater 18 = .ok (.aload_n 1, 1) := by decide +kernel
theorem dX10_tryWater_19 : decode cX10_tryWater 19 = .ok (.iload_n 2, 1) := by decide +kernel
theorem dX10_tryWater_20 : decode cX10_tryWater 20 = .ok (.invokevirtual 127, 3) := by decide +kernel
theorem dX10_tryWater_23 : decode cX10_tryWater 23 = .ok (.iload_n 3, 1) := by decide +kernel
theorem dX10_tryWater_24 : decode cX10_tryWater 24 = .ok (.iastore, 1) := by decide +kernel
theorem dX10_tryWater_25 : decode cX10_tryWater 25 = .ok (.iconst 0, 1) := by decide +kernel
theorem dX10_tryWater_26 : decode cX10_tryWater 26 = .ok (.istore 5, 2) := by decide +kernel
theorem dX10_tryWater_28 : decode cX10_tryWater 28 = .ok (.iload 5, 2) := by decide +kernel
theorem dX10_tryWater_30 : decode cX10_tryWater 30 = .ok (.iload 4, 2) := by decide +kernel
theorem dX10_tryWater_32 : decode cX10_tryWater 32 = .ok (.if_icmp .ge 24, 3) := by decide +kernel
theorem dX10_tryWater_35 : decode cX10_tryWater 35 = .ok (.aload_n 0, 1) := by decide +kernel
theorem dX10_tryWater_36 : decode cX10_tryWater 36 = .ok (.getfield 24, 3) := by decide +kernel
theorem dX10_tryWater_39 : decode cX10_tryWater 39 = .ok (.aload_n 0, 1) := by decide +kernel
theorem dX10_tryWater_40 : decode cX10_tryWater 40 = .ok (.getfield 11, 3) := by decide +kernel
theorem dX10_tryWater_43 : decode cX10_tryWater 43 = .ok (.aload_n 0, 1) := by decide +kernel
theorem dX10_tryWater_44 : decode cX10_tryWater 44 = .ok (.getfield 44, 3) := by decide +kernel
theorem dX10_tryWater_47 : decode cX10_tryWater 47 = .ok (.invokevirtual 97, 3) := by decide +kernel
theorem dX10_tryWater_50 : decode cX10_tryWater 50 = .ok (.iinc 5 1, 3) := by decide +kernel
theorem dX10_tryWater_53 : decode cX10_tryWater 53 = .ok (.goto (-25), 3) := by decide +kernel
theorem dX10_tryWater_56 : decode cX10_tryWater 56 = .ok (.aload_n 0, 1) := by decide +kernel
theorem dX10_tryWater_57 : decode cX10_tryWater 57 = .ok (.getfield 24, 3) := by decide +kernel
theorem dX10_tryWater_60 : decode cX10_tryWater 60 = .ok (.aload_n 1, 1) := by decide +kernel
theorem dX10_tryWater_61 : decode cX10_tryWater 61 = .ok (.invokevirtual 131, 3) := by decide +kernel
theorem dX10_tryWater_64 : decode cX10_tryWater 64 = .ok (.aload_n 0, 1) := by decide +kernel
theorem dX10_tryWater_65 : decode cX10_tryWater 65 = .ok (.getfield 20, 3) := by decide +kernel
theorem dX10_tryWater_68 : decode cX10_tryWater 68 = .ok (.aload_n 1, 1) := by decide +kernel
theorem dX10_tryWater_69 : decode cX10_tryWater 69 = .ok (.invokevirtual 131, 3) := by decide +kernel
theorem dX10_tryWater_72 : decode cX10_tryWater 72 = .ok (.isub, 1) := by decide +kernel
theorem dX10_tryWater_73 : decode cX10_tryWater 73 = .ok (.ireturn, 1) := by decide +kernel
theorem okX10_tryWater : ab_okM MX10_tryWater 4 := ⟨by decide, ⟨by decide, by decide⟩, ab_in 1742 (by decide +kernel) (by decide +kernel), ab_in 89 (by decide +kernel) (by decide +kernel), by decide +kernel, by decide⟩
set_option maxHeartbeats 4000000 in
set_option maxRecDepth 100000 in
def lX10_tryWater_28 (v1 : Nat) (v4 : Int32) (K : Int32 → ab_X → Prop)  (L28 : Int32 → ab_X → Prop) (v5 : Int32) (x : ab_X) : Prop := ((v4 ≤ v5 → wX3_burntOf 19 v1 x (fun r4 => wX3_burntOf 11 v1 x (fun r5 => K (r4 - r5) x))) ∧ (¬ v4 ≤ v5 → wX3_step 19 (x.1 9 2) x (fun x6 => L28 (v5 + 1) x6)))
set_option maxHeartbeats 4000000 in
set_option maxRecDepth 100000 in
theorem sX10_tryWater_28 (v1 : Nat) (v4 : Int32) (v5 : Int32) (hv1 : isH v1) (x : ab_X) (K : Int32 → ab_X → Prop)  (d bc bs : Nat) (hdp : 4 ≤ d)  (h : Lp2 (lX10_tryWater_28 v1 v4 K ) v5 x) : EW MX10_tryWater 28 [(0, .ref 9), (1, .ref v1), (4, .int v4), (5, .int v5)] [] (aS x) d bc bs (liI K) := by
  refine Lp2.use (P := fun v5 x => EW MX10_tryWater 28 [(0, .ref 9), (1, .ref v1), (4, .int v4), (5, .int v5)] [] (aS x) d bc bs (liI K)) (fun L28 v5 x hL28 h => ?_) v5 x h
  unfold lX10_tryWater_28 at h
  refine EW_iload (pc2 := 30) rfl dX10_tryWater_28 3 rfl ?_
  refine EW_iload (pc2 := 32) rfl dX10_tryWater_30 2 rfl ?_
  refine EW_icmp_ge (tgt := 56) (pc2 := 35) rfl dX10_tryWater_32 (by decide) (fun q => ?_) (fun q => ?_)
  · replace h := h.1 q
    refine EW_aload_n (pc2 := 57) rfl dX10_tryWater_56 0 rfl ?_
    refine AW_getr (r := 19) ⟨gfRX10_24, rfl⟩ (pc2 := 60) rfl dX10_tryWater_57 q9 rfl ?_
    refine EW_aload_n (pc2 := 61) rfl dX10_tryWater_60 1 rfl ?_
    refine AW_invV (M' := MX3_burntOf) [.ref v1] (rest := []) mlRX10_131 okX3_burntOf (pc2 := 64) rfl dX10_tryWater_61 rfl rfl (Nat.le_of_ble_eq_true rfl) (Nat.le_of_ble_eq_true rfl) (d' := 1) (by omega) q19 ⟨by decide, rfl⟩ (EW_mono (fun _ _ hr => ?_) (sX3_burntOf 19 v1 (Or.inr rfl : isF 19) hv1 x _ _ 0 0 (Nat.le_refl _) h))
    obtain ⟨r4, rfl, rfl, h⟩ := hr
    refine EW_aload_n (pc2 := 65) rfl dX10_tryWater_64 0 rfl ?_
    refine AW_getr (r := 11) ⟨gfRX10_20, rfl⟩ (pc2 := 68) rfl dX10_tryWater_65 q9 rfl ?_
    refine EW_aload_n (pc2 := 69) rfl dX10_tryWater_68 1 rfl ?_
    refine AW_invV (M' := MX3_burntOf) [.ref v1] (rest := [.int r4]) mlRX10_131 okX3_burntOf (pc2 := 72) rfl dX10_tryWater_69 rfl rfl (Nat.le_of_ble_eq_true rfl) (Nat.le_of_ble_eq_true rfl) (d' := 1) (by omega) q11 ⟨by decide, rfl⟩ (EW_mono (fun _ _ hr => ?_) (sX3_burntOf 11 v1 (Or.inl rfl : isF 11) hv1 x _ _ 0 0 (Nat.le_refl _) h))
    obtain ⟨r5, rfl, rfl, h⟩ := hr
    refine EW_isub (pc2 := 73) rfl dX10_tryWater_72 ?_
    exact AW_iret rfl dX10_tryWater_73 ⟨_, _, rfl, rfl, h⟩
  · replace h := h.2 q
    refine EW_aload_n (pc2 := 36) rfl dX10_tryWater_35 0 rfl ?_
    refine AW_getr (r := 19) ⟨gfRX10_24, rfl⟩ (pc2 := 39) rfl dX10_tryWater_36 q9 rfl ?_
    refine EW_aload_n (pc2 := 40) rfl dX10_tryWater_39 0 rfl ?_
    refine AW_getr (r := 10) ⟨gfRX10_11, rfl⟩ (pc2 := 43) rfl dX10_tryWater_40 q9 rfl ?_
    refine EW_aload_n (pc2 := 44) rfl dX10_tryWater_43 0 rfl ?_
    refine AW_geti ⟨gfRX10_44, rfl⟩ (pc2 := 47) rfl dX10_tryWater_44 q9 ?_
    refine AW_invV (M' := MX3_step) [.ref 10, .int (x.1 9 2)] (rest := []) mlRX10_97 okX3_step (pc2 := 50) rfl dX10_tryWater_47 rfl rfl (Nat.le_of_ble_eq_true rfl) (Nat.le_of_ble_eq_true rfl) (d' := 3) (by omega) q19 ⟨by decide, rfl⟩ (EW_mono (fun _ _ hr => ?_) (sX3_step 19 (x.1 9 2) (Or.inr rfl : isF 19) x _ _ 0 0 (Nat.le_refl _) h))
    obtain ⟨x6, rfl, rfl, h⟩ := hr
    refine EW_iinc (v5 + 1) (pc2 := 53) rfl dX10_tryWater_50 3 rfl rfl (by decide) [1, 2, 3, 0] [(0, .ref 9), (1, .ref v1), (4, .int v4), (5, .int (v5 + 1))] rfl ?_
    refine EW_goto (tgt := 28) dX10_tryWater_53 (by decide) ?_
    exact hL28 (v5 + 1) x6 h
set_option maxHeartbeats 4000000 in
set_option maxRecDepth 100000 in
def wX10_tryWater (v1 : Nat) (v2 : Int32) (v3 : Int32) (v4 : Int32) (x : ab_X) (K : Int32 → ab_X → Prop) : Prop := wX3_become 19 11 x (fun x1 => wX4_place v1 v2 x1 (fun r2 => (vp_in r2 288 ∧ Lp2 (lX10_tryWater_28 v1 v4 K ) 0 (wr x1 22 (Int32.toNatClampNeg r2) v3))))
set_option maxHeartbeats 4000000 in
set_option maxRecDepth 100000 in
theorem sX10_tryWater (v1 : Nat) (v2 : Int32) (v3 : Int32) (v4 : Int32) (hv1 : isH v1) (x : ab_X) (K : Int32 → ab_X → Prop) (d bc bs : Nat) (hdp : 4 ≤ d) (h : wX10_tryWater v1 v2 v3 v4 x K) : EW MX10_tryWater 0 [(0, .ref 9), (1, .ref v1), (2, .int v2), (3, .int v3), (4, .int v4)] [] (aS x) d bc bs (liI K) := by
  unfold wX10_tryWater at h
  refine EW_aload_n (pc2 := 1) rfl dX10_tryWater_0 0 rfl ?_
  refine AW_getr (r := 19) ⟨gfRX10_24, rfl⟩ (pc2 := 4) rfl dX10_tryWater_1 q9 rfl ?_
  refine EW_aload_n (pc2 := 5) rfl dX10_tryWater_4 0 rfl ?_
  refine AW_getr (r := 11) ⟨gfRX10_20, rfl⟩ (pc2 := 8) rfl dX10_tryWater_5 q9 rfl ?_
  refine AW_invV (M' := MX3_become) [.ref 11] (rest := []) mlRX10_120 okX3_become (pc2 := 11) rfl dX10_tryWater_8 rfl rfl (Nat.le_of_ble_eq_true rfl) (Nat.le_of_ble_eq_true rfl) (d' := 1) (by omega) q19 ⟨by decide, rfl⟩ (EW_mono (fun _ _ hr => ?_) (sX3_become 19 11 (Or.inr rfl : isF 19) (Or.inl rfl : isF 11) x _ _ 0 0 (Nat.le_refl _) h))
  obtain ⟨x1, rfl, rfl, h⟩ := hr
  refine EW_aload_n (pc2 := 12) rfl dX10_tryWater_11 0 rfl ?_
  refine AW_getr (r := 19) ⟨gfRX10_24, rfl⟩ (pc2 := 15) rfl dX10_tryWater_12 q9 rfl ?_
  refine AW_getr (r := 22) ⟨gfRX10_124, rfl⟩ (pc2 := 18) rfl dX10_tryWater_15 q19 rfl ?_
  refine EW_aload_n (pc2 := 19) rfl dX10_tryWater_18 1 rfl ?_
  refine EW_iload_n (pc2 := 20) rfl dX10_tryWater_19 2 rfl ?_
  refine AW_invV (M' := MX4_place) [.int v2] (rest := [.ref 22]) mlRX10_127 okX4_place (pc2 := 23) rfl dX10_tryWater_20 rfl rfl (Nat.le_of_ble_eq_true rfl) (Nat.le_of_ble_eq_true rfl) (d' := 0) (by omega) (isH.o hv1) ⟨by decide, rfl⟩ (EW_mono (fun _ _ hr => ?_) (sX4_place v1 v2 hv1 x1 _ _ 0 0 (Nat.le_refl _) h))
  obtain ⟨r2, rfl, rfl, h⟩ := hr
  refine EW_iload_n (pc2 := 24) rfl dX10_tryWater_23 3 rfl ?_
  obtain ⟨b3, h⟩ := h
  refine AW_iast (pc2 := 25) rfl dX10_tryWater_24 q22 b3 ?_
  refine EW_iconst (pc2 := 26) (v := 0) rfl dX10_tryWater_25 (by decide) ?_
  refine EW_istore (pc2 := 28) rfl dX10_tryWater_26 (by decide) [1, 2, 3, 4, 5, 0] [(0, .ref 9), (1, .ref v1), (2, .int v2), (3, .int v3), (4, .int v4), (5, .int 0)] rfl ?_
  refine EW_ls [0, 1, 4, 5] rfl ?_
  exact sX10_tryWater_28 v1 v4 0 hv1 (wr x1 22 (Int32.toNatClampNeg r2) v3) K d bc bs hdp h
abbrev MX11_within : ab_M := (yX11_within, cX11_within, 3, (some .boolean))
theorem dX11_within_0 : decode cX11_within 0 = .ok (.iload_n 0, 1) := by decide +kernel
theorem dX11_within_1 : decode cX11_within 1 = .ok (.iload_n 1, 1) := by decide +kernel
theorem dX11_within_2 : decode cX11_within 2 = .ok (.if_icmp .lt 12, 3) := by decide +kernel
theorem dX11_within_5 : decode cX11_within 5 = .ok (.iload_n 0, 1) := by decide +kernel
theorem dX11_within_6 : decode cX11_within 6 = .ok (.iload_n 2, 1) := by decide +kernel
theorem dX11_within_7 : decode cX11_within 7 = .ok (.if_icmp .gt 7, 3) := by decide +kernel
theorem dX11_within_10 : decode cX11_within 10 = .ok (.iconst 1, 1) := by decide +kernel
theorem dX11_within_11 : decode cX11_within 11 = .ok (.goto 4, 3) := by decide +kernel
theorem dX11_within_14 : decode cX11_within 14 = .ok (.iconst 0, 1) := by decide +kernel
theorem dX11_within_15 : decode cX11_within 15 = .ok (.ireturn, 1) := by decide +kernel
theorem okX11_within : ab_okM MX11_within 3 := ⟨by decide, ⟨by decide, by decide⟩, ab_in 772 (by decide +kernel) (by decide +kernel), ab_in 86 (by decide +kernel) (by decide +kernel), by decide +kernel, by decide⟩
set_option maxHeartbeats 4000000 in
set_option maxRecDepth 100000 in
def wX11_within (v0 : Int32) (v1 : Int32) (v2 : Int32) (x : ab_X) (K : Int32 → Prop) : Prop := ((v0 < v1 → K 0) ∧ (¬ v0 < v1 → ((v2 < v0 → K 0) ∧ (¬ v2 < v0 → K 1))))
set_option maxHeartbeats 4000000 in
set_option maxRecDepth 100000 in
theorem sX11_within (v0 : Int32) (v1 : Int32) (v2 : Int32)  (x : ab_X) (K : Int32 → Prop) (d bc bs : Nat) (hdp : 0 ≤ d) (h : wX11_within v0 v1 v2 x K) : EW MX11_within 0 [(0, .int v0), (1, .int v1), (2, .int v2)] [] (aS x) d bc bs (liP x K) := by
  unfold wX11_within at h
  refine EW_iload_n (pc2 := 1) rfl dX11_within_0 0 rfl ?_
  refine EW_iload_n (pc2 := 2) rfl dX11_within_1 1 rfl ?_
  refine EW_icmp_lt (tgt := 14) (pc2 := 5) rfl dX11_within_2 (by decide) (fun q => ?_) (fun q => ?_)
  · replace h := h.1 q
    refine EW_iconst (pc2 := 15) (v := 0) rfl dX11_within_14 (by decide) ?_
    exact AW_zret rfl isB0 dX11_within_15 ⟨_, rfl, rfl, h⟩
  · replace h := h.2 q
    refine EW_iload_n (pc2 := 6) rfl dX11_within_5 0 rfl ?_
    refine EW_iload_n (pc2 := 7) rfl dX11_within_6 2 rfl ?_
    refine EW_icmp_gt (tgt := 14) (pc2 := 10) rfl dX11_within_7 (by decide) (fun q => ?_) (fun q => ?_)
    · replace h := h.1 q
      refine EW_iconst (pc2 := 15) (v := 0) rfl dX11_within_14 (by decide) ?_
      exact AW_zret rfl isB0 dX11_within_15 ⟨_, rfl, rfl, h⟩
    · replace h := h.2 q
      refine EW_iconst (pc2 := 11) (v := 1) rfl dX11_within_10 (by decide) ?_
      refine EW_goto (tgt := 15) dX11_within_11 (by decide) ?_
      exact AW_zret rfl isB1 dX11_within_15 ⟨_, rfl, rfl, h⟩
