theorem mlRX11_426 : Cond.methodLink RX11 426 yX5_useAt ∈ ab_G ∧ Cond.instanceMethod yX5_useAt ∈ ab_G ∧ Cond.selects RX5 yX5_useAt yX5_useAt ∈ ab_G := ⟨ab_in 1543 (by decide +kernel) (by decide +kernel), ab_in 1544 (by decide +kernel) (by decide +kernel), ab_in 1545 (by decide +kernel) (by decide +kernel)⟩
abbrev MX11_used : ab_M := (yX11_used, cX11_used, 3, (some .int))
theorem dX11_used_0 : decode cX11_used 0 = .ok (.aload_n 0, 1) := by decide +kernel
theorem dX11_used_1 : decode cX11_used 1 = .ok (.iload_n 1, 1) := by decide +kernel
theorem dX11_used_2 : decode cX11_used 2 = .ok (.iload_n 2, 1) := by decide +kernel
theorem dX11_used_3 : decode cX11_used 3 = .ok (.invokevirtual 416, 3) := by decide +kernel
theorem dX11_used_6 : decode cX11_used 6 = .ok (.ifCond .eq 15, 3) := by decide +kernel
theorem dX11_used_9 : decode cX11_used 9 = .ok (.aload_n 0, 1) := by decide +kernel
theorem dX11_used_10 : decode cX11_used 10 = .ok (.getfield 46, 3) := by decide +kernel
theorem dX11_used_13 : decode cX11_used 13 = .ok (.iload_n 1, 1) := by decide +kernel
theorem dX11_used_14 : decode cX11_used 14 = .ok (.iload_n 2, 1) := by decide +kernel
theorem dX11_used_15 : decode cX11_used 15 = .ok (.invokevirtual 426, 3) := by decide +kernel
theorem dX11_used_18 : decode cX11_used 18 = .ok (.goto 4, 3) := by decide +kernel
theorem dX11_used_21 : decode cX11_used 21 = .ok (.iconst (-1), 1) := by decide +kernel
theorem dX11_used_22 : decode cX11_used 22 = .ok (.ireturn, 1) := by decide +kernel
theorem okX11_used : ab_okM MX11_used 2 := ⟨by decide, ⟨by decide, by decide⟩, ab_in 1542 (by decide +kernel) (by decide +kernel), ab_in 86 (by decide +kernel) (by decide +kernel), by decide +kernel, by decide⟩
set_option maxHeartbeats 4000000 in
set_option maxRecDepth 100000 in
def wX11_used (v1 : Int32) (v2 : Int32) (x : ab_X) (K : Int32 → Prop) : Prop := wX11_isKnown v1 v2 x (fun r1 => ((r1 = 0 → K (-1)) ∧ (¬ r1 = 0 → wX5_useAt v1 v2 x (fun r2 => K r2))))
set_option maxHeartbeats 4000000 in
set_option maxRecDepth 100000 in
theorem sX11_used (v1 : Int32) (v2 : Int32)  (x : ab_X) (K : Int32 → Prop) (d bc bs : Nat) (hdp : 3 ≤ d) (h : wX11_used v1 v2 x K) : EW MX11_used 0 [(0, .ref 0), (1, .int v1), (2, .int v2)] [] (aS x) d bc bs (liP x K) := by
  unfold wX11_used at h
  refine EW_aload_n (pc2 := 1) rfl dX11_used_0 0 rfl ?_
  refine EW_iload_n (pc2 := 2) rfl dX11_used_1 1 rfl ?_
  refine EW_iload_n (pc2 := 3) rfl dX11_used_2 2 rfl ?_
  refine AW_invV (M' := MX11_isKnown) [.int v1, .int v2] (rest := []) mlRX11_416 okX11_isKnown (pc2 := 6) rfl dX11_used_3 rfl rfl (Nat.le_of_ble_eq_true rfl) (Nat.le_of_ble_eq_true rfl) (d' := 2) (by omega) q0 ⟨by decide, rfl⟩ (EW_mono (fun _ _ hr => ?_) (sX11_isKnown v1 v2  x _ _ 0 0 (Nat.le_refl _) h))
  obtain ⟨r1, rfl, rfl, h⟩ := hr
  refine EW_if_eq (tgt := 21) (pc2 := 9) rfl dX11_used_6 (by decide) (fun q => ?_) (fun q => ?_)
  · replace h := h.1 q
    refine EW_iconst (pc2 := 22) (v := (-1)) rfl dX11_used_21 (by decide) ?_
    exact AW_iret rfl dX11_used_22 ⟨_, rfl, rfl, h⟩
  · replace h := h.2 q
    refine EW_aload_n (pc2 := 10) rfl dX11_used_9 0 rfl ?_
    refine AW_getr (r := 165) ⟨gfRX11_46, rfl⟩ (pc2 := 13) rfl dX11_used_10 q0 rfl ?_
    refine EW_iload_n (pc2 := 14) rfl dX11_used_13 1 rfl ?_
    refine EW_iload_n (pc2 := 15) rfl dX11_used_14 2 rfl ?_
    refine AW_invV (M' := MX5_useAt) [.int v1, .int v2] (rest := []) mlRX11_426 okX5_useAt (pc2 := 18) rfl dX11_used_15 rfl rfl (Nat.le_of_ble_eq_true rfl) (Nat.le_of_ble_eq_true rfl) (d' := 0) (by omega) q165 ⟨by decide, rfl⟩ (EW_mono (fun _ _ hr => ?_) (sX5_useAt v1 v2  x _ _ 0 0 (Nat.le_refl _) h))
    obtain ⟨r2, rfl, rfl, h⟩ := hr
    refine EW_goto (tgt := 22) dX11_used_18 (by decide) ?_
    exact AW_iret rfl dX11_used_22 ⟨_, rfl, rfl, h⟩
theorem mlRX11_491 : Cond.methodLink RX11 491 yX10_tryWater ∈ ab_G ∧ Cond.instanceMethod yX10_tryWater ∈ ab_G ∧ Cond.selects RX10 yX10_tryWater yX10_tryWater ∈ ab_G := ⟨ab_in 1739 (by decide +kernel) (by decide +kernel), ab_in 1740 (by decide +kernel) (by decide +kernel), ab_in 1741 (by decide +kernel) (by decide +kernel)⟩
abbrev MX11_what : ab_M := (yX11_what, cX11_what, 5, (some .int))
theorem dX11_what_0 : decode cX11_what 0 = .ok (.aload_n 0, 1) := by decide +kernel
theorem dX11_what_1 : decode cX11_what 1 = .ok (.getfield 21, 3) := by decide +kernel
theorem dX11_what_4 : decode cX11_what 4 = .ok (.iload_n 1, 1) := by decide +kernel
theorem dX11_what_5 : decode cX11_what 5 = .ok (.iload_n 2, 1) := by decide +kernel
theorem dX11_what_6 : decode cX11_what 6 = .ok (.invokevirtual 173, 3) := by decide +kernel
theorem dX11_what_9 : decode cX11_what 9 = .ok (.ifCond .eq 26, 3) := by decide +kernel
theorem dX11_what_12 : decode cX11_what 12 = .ok (.iload_n 3, 1) := by decide +kernel
theorem dX11_what_13 : decode cX11_what 13 = .ok (.iconst 0, 1) := by decide +kernel
theorem dX11_what_14 : decode cX11_what 14 = .ok (.sipush 500, 3) := by decide +kernel
theorem dX11_what_17 : decode cX11_what 17 = .ok (.invokestatic 74, 3) := by decide +kernel
theorem dX11_what_20 : decode cX11_what 20 = .ok (.ifCond .eq 15, 3) := by decide +kernel
theorem dX11_what_23 : decode cX11_what 23 = .ok (.iload 4, 2) := by decide +kernel
theorem dX11_what_25 : decode cX11_what 25 = .ok (.iconst 1, 1) := by decide +kernel
theorem dX11_what_26 : decode cX11_what 26 = .ok (.sipush 200, 3) := by decide +kernel
theorem dX11_what_29 : decode cX11_what 29 = .ok (.invokestatic 74, 3) := by decide +kernel
theorem dX11_what_32 : decode cX11_what 32 = .ok (.ifCond .ne 5, 3) := by decide +kernel
theorem dX11_what_35 : decode cX11_what 35 = .ok (.iconst (-1), 1) := by decide +kernel
theorem dX11_what_36 : decode cX11_what 36 = .ok (.ireturn, 1) := by decide +kernel
theorem dX11_what_37 : decode cX11_what 37 = .ok (.aload_n 0, 1) := by decide +kernel
theorem dX11_what_38 : decode cX11_what 38 = .ok (.getfield 21, 3) := by decide +kernel
theorem dX11_what_41 : decode cX11_what 41 = .ok (.aload_n 0, 1) := by decide +kernel
theorem dX11_what_42 : decode cX11_what 42 = .ok (.getfield 21, 3) := by decide +kernel
theorem dX11_what_45 : decode cX11_what 45 = .ok (.getfield 127, 3) := by decide +kernel
theorem dX11_what_48 : decode cX11_what 48 = .ok (.iload_n 1, 1) := by decide +kernel
theorem dX11_what_49 : decode cX11_what 49 = .ok (.aaload, 1) := by decide +kernel
theorem dX11_what_50 : decode cX11_what 50 = .ok (.iload_n 2, 1) := by decide +kernel
theorem dX11_what_51 : decode cX11_what 51 = .ok (.iload_n 3, 1) := by decide +kernel
theorem dX11_what_52 : decode cX11_what 52 = .ok (.iload 4, 2) := by decide +kernel
theorem dX11_what_54 : decode cX11_what 54 = .ok (.invokevirtual 491, 3) := by decide +kernel
theorem dX11_what_57 : decode cX11_what 57 = .ok (.ireturn, 1) := by decide +kernel
theorem okX11_what : ab_okM MX11_what 4 := ⟨by decide, ⟨by decide, by decide⟩, ab_in 1738 (by decide +kernel) (by decide +kernel), ab_in 86 (by decide +kernel) (by decide +kernel), by decide +kernel, by decide⟩
set_option maxHeartbeats 4000000 in
set_option maxRecDepth 100000 in
def wX11_what (v1 : Int32) (v2 : Int32) (v3 : Int32) (v4 : Int32) (x : ab_X) (K : Int32 → ab_X → Prop) : Prop := wX10_hasRoom v1 v2 x (fun r1 => ((r1 = 0 → K (-1) x) ∧ (¬ r1 = 0 → wX11_within v3 0 500 x (fun r2 => ((r2 = 0 → K (-1) x) ∧ (¬ r2 = 0 → wX11_within v4 1 200 x (fun r3 => ((¬ r3 = 0 → (vp_in v1 12 ∧ wX10_tryWater (30 + 3 * Int32.toNatClampNeg v1) v2 v3 v4 x (fun r5 x6 => K r5 x6))) ∧ (r3 = 0 → K (-1) x)))))))))
set_option maxHeartbeats 4000000 in
set_option maxRecDepth 100000 in
theorem sX11_what (v1 : Int32) (v2 : Int32) (v3 : Int32) (v4 : Int32)  (x : ab_X) (K : Int32 → ab_X → Prop) (d bc bs : Nat) (hdp : 5 ≤ d) (h : wX11_what v1 v2 v3 v4 x K) : EW MX11_what 0 [(0, .ref 0), (1, .int v1), (2, .int v2), (3, .int v3), (4, .int v4)] [] (aS x) d bc bs (liI K) := by
  unfold wX11_what at h
  refine EW_aload_n (pc2 := 1) rfl dX11_what_0 0 rfl ?_
  refine AW_getr (r := 9) ⟨gfRX11_21, rfl⟩ (pc2 := 4) rfl dX11_what_1 q0 rfl ?_
  refine EW_iload_n (pc2 := 5) rfl dX11_what_4 1 rfl ?_
  refine EW_iload_n (pc2 := 6) rfl dX11_what_5 2 rfl ?_
  refine AW_invV (M' := MX10_hasRoom) [.int v1, .int v2] (rest := []) mlRX11_173 okX10_hasRoom (pc2 := 9) rfl dX11_what_6 rfl rfl (Nat.le_of_ble_eq_true rfl) (Nat.le_of_ble_eq_true rfl) (d' := 2) (by omega) q9 ⟨by decide, rfl⟩ (EW_mono (fun _ _ hr => ?_) (sX10_hasRoom v1 v2  x _ _ 0 0 (Nat.le_refl _) h))
  obtain ⟨r1, rfl, rfl, h⟩ := hr
  refine EW_if_eq (tgt := 35) (pc2 := 12) rfl dX11_what_9 (by decide) (fun q => ?_) (fun q => ?_)
  · replace h := h.1 q
    refine EW_iconst (pc2 := 36) (v := (-1)) rfl dX11_what_35 (by decide) ?_
    exact AW_iret rfl dX11_what_36 ⟨_, _, rfl, rfl, h⟩
  · replace h := h.2 q
    refine EW_iload_n (pc2 := 13) rfl dX11_what_12 3 rfl ?_
    refine EW_iconst (pc2 := 14) (v := 0) rfl dX11_what_13 (by decide) ?_
    refine EW_sipush (pc2 := 17) (v := 500) rfl dX11_what_14 (by decide) ?_
    refine AW_invS (M' := MX11_within) [.int v3, .int 0, .int 500] (rest := []) mlRX11_74 okX11_within (pc2 := 20) rfl dX11_what_17 rfl rfl (Nat.le_of_ble_eq_true rfl) (Nat.le_of_ble_eq_true rfl) (d' := 0) (by omega) (EW_mono (fun _ _ hr => ?_) (sX11_within v3 0 500  x _ _ 0 0 (Nat.le_refl _) h))
    obtain ⟨r2, rfl, rfl, h⟩ := hr
    refine EW_if_eq (tgt := 35) (pc2 := 23) rfl dX11_what_20 (by decide) (fun q => ?_) (fun q => ?_)
    · replace h := h.1 q
      refine EW_iconst (pc2 := 36) (v := (-1)) rfl dX11_what_35 (by decide) ?_
      exact AW_iret rfl dX11_what_36 ⟨_, _, rfl, rfl, h⟩
    · replace h := h.2 q
      refine EW_iload (pc2 := 25) rfl dX11_what_23 4 rfl ?_
      refine EW_iconst (pc2 := 26) (v := 1) rfl dX11_what_25 (by decide) ?_
      refine EW_sipush (pc2 := 29) (v := 200) rfl dX11_what_26 (by decide) ?_
      refine AW_invS (M' := MX11_within) [.int v4, .int 1, .int 200] (rest := []) mlRX11_74 okX11_within (pc2 := 32) rfl dX11_what_29 rfl rfl (Nat.le_of_ble_eq_true rfl) (Nat.le_of_ble_eq_true rfl) (d' := 0) (by omega) (EW_mono (fun _ _ hr => ?_) (sX11_within v4 1 200  x _ _ 0 0 (Nat.le_refl _) h))
      obtain ⟨r3, rfl, rfl, h⟩ := hr
      refine EW_if_ne (tgt := 37) (pc2 := 35) rfl dX11_what_32 (by decide) (fun q => ?_) (fun q => ?_)
      · replace h := h.1 q
        refine EW_aload_n (pc2 := 38) rfl dX11_what_37 0 rfl ?_
        refine AW_getr (r := 9) ⟨gfRX11_21, rfl⟩ (pc2 := 41) rfl dX11_what_38 q0 rfl ?_
        refine EW_aload_n (pc2 := 42) rfl dX11_what_41 0 rfl ?_
        refine AW_getr (r := 9) ⟨gfRX11_21, rfl⟩ (pc2 := 45) rfl dX11_what_42 q0 rfl ?_
        refine AW_getr (r := 10) ⟨gfRX11_127, rfl⟩ (pc2 := 48) rfl dX11_what_45 q9 rfl ?_
        refine EW_iload_n (pc2 := 49) rfl dX11_what_48 1 rfl ?_
        obtain ⟨b4, h⟩ := h
        refine AW_aald5 (pc2 := 50) rfl dX11_what_49 b4 ?_
        refine EW_iload_n (pc2 := 51) rfl dX11_what_50 2 rfl ?_
        refine EW_iload_n (pc2 := 52) rfl dX11_what_51 3 rfl ?_
        refine EW_iload (pc2 := 54) rfl dX11_what_52 4 rfl ?_
        refine AW_invV (M' := MX10_tryWater) [.ref (30 + 3 * Int32.toNatClampNeg v1), .int v2, .int v3, .int v4] (rest := []) mlRX11_491 okX10_tryWater (pc2 := 57) rfl dX11_what_54 rfl rfl (Nat.le_of_ble_eq_true rfl) (Nat.le_of_ble_eq_true rfl) (d' := 4) (by omega) q9 ⟨by decide, rfl⟩ (EW_mono (fun _ _ hr => ?_) (sX10_tryWater (30 + 3 * Int32.toNatClampNeg v1) v2 v3 v4 (isH_of b4) x _ _ 0 0 (Nat.le_refl _) h))
        obtain ⟨r5, x6, rfl, rfl, h⟩ := hr
        exact AW_iret rfl dX11_what_57 ⟨_, _, rfl, rfl, h⟩
      · replace h := h.2 q
        refine EW_iconst (pc2 := 36) (v := (-1)) rfl dX11_what_35 (by decide) ?_
        exact AW_iret rfl dX11_what_36 ⟨_, _, rfl, rfl, h⟩
theorem gfRX11_397 : ab_L RX11 397 9 6 := ⟨by decide, by decide, ab_in 375 (by decide +kernel) (by decide +kernel)⟩
abbrev MX11_why : ab_M := (yX11_why, cX11_why, 3, (some .int))
theorem dX11_why_0 : decode cX11_why 0 = .ok (.iload_n 1, 1) := by decide +kernel
theorem dX11_why_1 : decode cX11_why 1 = .ok (.invokestatic 70, 3) := by decide +kernel
theorem dX11_why_4 : decode cX11_why 4 = .ok (.ifCond .eq 12, 3) := by decide +kernel
theorem dX11_why_7 : decode cX11_why 7 = .ok (.iload_n 2, 1) := by decide +kernel
theorem dX11_why_8 : decode cX11_why 8 = .ok (.iconst 1, 1) := by decide +kernel
theorem dX11_why_9 : decode cX11_why 9 = .ok (.iconst 3, 1) := by decide +kernel
theorem dX11_why_10 : decode cX11_why 10 = .ok (.invokestatic 74, 3) := by decide +kernel
theorem dX11_why_13 : decode cX11_why 13 = .ok (.ifCond .ne 5, 3) := by decide +kernel
theorem dX11_why_16 : decode cX11_why 16 = .ok (.iconst (-1), 1) := by decide +kernel
theorem dX11_why_17 : decode cX11_why 17 = .ok (.ireturn, 1) := by decide +kernel
theorem dX11_why_18 : decode cX11_why 18 = .ok (.aload_n 0, 1) := by decide +kernel
theorem dX11_why_19 : decode cX11_why 19 = .ok (.getfield 30, 3) := by decide +kernel
theorem dX11_why_22 : decode cX11_why 22 = .ok (.iload_n 1, 1) := by decide +kernel
theorem dX11_why_23 : decode cX11_why 23 = .ok (.iload_n 2, 1) := by decide +kernel
theorem dX11_why_24 : decode cX11_why 24 = .ok (.invokevirtual 388, 3) := by decide +kernel
theorem dX11_why_27 : decode cX11_why 27 = .ok (.aload_n 0, 1) := by decide +kernel
theorem dX11_why_28 : decode cX11_why 28 = .ok (.getfield 30, 3) := by decide +kernel
theorem dX11_why_31 : decode cX11_why 31 = .ok (.getfield 377, 3) := by decide +kernel
theorem dX11_why_34 : decode cX11_why 34 = .ok (.getfield 397, 3) := by decide +kernel
theorem dX11_why_37 : decode cX11_why 37 = .ok (.ireturn, 1) := by decide +kernel
theorem okX11_why : ab_okM MX11_why 2 := ⟨by decide, ⟨by decide, by decide⟩, ab_in 1350 (by decide +kernel) (by decide +kernel), ab_in 86 (by decide +kernel) (by decide +kernel), by decide +kernel, by decide⟩
set_option maxHeartbeats 4000000 in
set_option maxRecDepth 100000 in
def wX11_why (v1 : Int32) (v2 : Int32) (x : ab_X) (K : Int32 → ab_X → Prop) : Prop := wX11_isCorner v1 x (fun r1 => ((r1 = 0 → K (-1) x) ∧ (¬ r1 = 0 → wX11_within v2 1 3 x (fun r2 => ((¬ r2 = 0 → wX0_readOrders v1 v2 x (fun x3 => K (x3.1 69 6) x3)) ∧ (r2 = 0 → K (-1) x))))))
set_option maxHeartbeats 4000000 in
set_option maxRecDepth 100000 in
theorem sX11_why (v1 : Int32) (v2 : Int32)  (x : ab_X) (K : Int32 → ab_X → Prop) (d bc bs : Nat) (hdp : 4 ≤ d) (h : wX11_why v1 v2 x K) : EW MX11_why 0 [(0, .ref 0), (1, .int v1), (2, .int v2)] [] (aS x) d bc bs (liI K) := by
  unfold wX11_why at h
  refine EW_iload_n (pc2 := 1) rfl dX11_why_0 1 rfl ?_
  refine AW_invS (M' := MX11_isCorner) [.int v1] (rest := []) mlRX11_70 okX11_isCorner (pc2 := 4) rfl dX11_why_1 rfl rfl (Nat.le_of_ble_eq_true rfl) (Nat.le_of_ble_eq_true rfl) (d' := 0) (by omega) (EW_mono (fun _ _ hr => ?_) (sX11_isCorner v1  x _ _ 0 0 (Nat.le_refl _) h))
  obtain ⟨r1, rfl, rfl, h⟩ := hr
  refine EW_if_eq (tgt := 16) (pc2 := 7) rfl dX11_why_4 (by decide) (fun q => ?_) (fun q => ?_)
  · replace h := h.1 q
    refine EW_iconst (pc2 := 17) (v := (-1)) rfl dX11_why_16 (by decide) ?_
    exact AW_iret rfl dX11_why_17 ⟨_, _, rfl, rfl, h⟩
  · replace h := h.2 q
    refine EW_iload_n (pc2 := 8) rfl dX11_why_7 2 rfl ?_
    refine EW_iconst (pc2 := 9) (v := 1) rfl dX11_why_8 (by decide) ?_
    refine EW_iconst (pc2 := 10) (v := 3) rfl dX11_why_9 (by decide) ?_
    refine AW_invS (M' := MX11_within) [.int v2, .int 1, .int 3] (rest := []) mlRX11_74 okX11_within (pc2 := 13) rfl dX11_why_10 rfl rfl (Nat.le_of_ble_eq_true rfl) (Nat.le_of_ble_eq_true rfl) (d' := 0) (by omega) (EW_mono (fun _ _ hr => ?_) (sX11_within v2 1 3  x _ _ 0 0 (Nat.le_refl _) h))
    obtain ⟨r2, rfl, rfl, h⟩ := hr
    refine EW_if_ne (tgt := 18) (pc2 := 16) rfl dX11_why_13 (by decide) (fun q => ?_) (fun q => ?_)
    · replace h := h.1 q
      refine EW_aload_n (pc2 := 19) rfl dX11_why_18 0 rfl ?_
      refine AW_getr (r := 66) ⟨gfRX11_30, rfl⟩ (pc2 := 22) rfl dX11_why_19 q0 rfl ?_
      refine EW_iload_n (pc2 := 23) rfl dX11_why_22 1 rfl ?_
      refine EW_iload_n (pc2 := 24) rfl dX11_why_23 2 rfl ?_
      refine AW_invV (M' := MX0_readOrders) [.int v1, .int v2] (rest := []) mlRX11_388 okX0_readOrders (pc2 := 27) rfl dX11_why_24 rfl rfl (Nat.le_of_ble_eq_true rfl) (Nat.le_of_ble_eq_true rfl) (d' := 3) (by omega) q66 ⟨by decide, rfl⟩ (EW_mono (fun _ _ hr => ?_) (sX0_readOrders v1 v2  x _ _ 0 0 (Nat.le_refl _) h))
      obtain ⟨x3, rfl, rfl, h⟩ := hr
      refine EW_aload_n (pc2 := 28) rfl dX11_why_27 0 rfl ?_
      refine AW_getr (r := 66) ⟨gfRX11_30, rfl⟩ (pc2 := 31) rfl dX11_why_28 q0 rfl ?_
      refine AW_getr (r := 69) ⟨gfRX11_377, rfl⟩ (pc2 := 34) rfl dX11_why_31 q66 rfl ?_
      refine AW_geti ⟨gfRX11_397, rfl⟩ (pc2 := 37) rfl dX11_why_34 q69 ?_
      exact AW_iret rfl dX11_why_37 ⟨_, _, rfl, rfl, h⟩
    · replace h := h.2 q
      refine EW_iconst (pc2 := 17) (v := (-1)) rfl dX11_why_16 (by decide) ?_
      exact AW_iret rfl dX11_why_17 ⟨_, _, rfl, rfl, h⟩
theorem gfRX12_366 : ab_L RX12 366 12 58 := ⟨by decide, by decide, ab_in 1907 (by decide +kernel) (by decide +kernel)⟩
abbrev MX12_isCrew : ab_M := (yX12_isCrew, cX12_isCrew, 2, (some .boolean))
theorem dX12_isCrew_0 : decode cX12_isCrew 0 = .ok (.iload_n 1, 1) := by decide +kernel
theorem dX12_isCrew_1 : decode cX12_isCrew 1 = .ok (.ifCond .lt 15, 3) := by decide +kernel
theorem dX12_isCrew_4 : decode cX12_isCrew 4 = .ok (.iload_n 1, 1) := by decide +kernel
theorem dX12_isCrew_5 : decode cX12_isCrew 5 = .ok (.aload_n 0, 1) := by decide +kernel
theorem dX12_isCrew_6 : decode cX12_isCrew 6 = .ok (.getfield 366, 3) := by decide +kernel
theorem dX12_isCrew_9 : decode cX12_isCrew 9 = .ok (.if_icmp .ge 7, 3) := by decide +kernel
theorem dX12_isCrew_12 : decode cX12_isCrew 12 = .ok (.iconst 1, 1) := by decide +kernel
theorem dX12_isCrew_13 : decode cX12_isCrew 13 = .ok (.goto 4, 3) := by decide +kernel
theorem dX12_isCrew_16 : decode cX12_isCrew 16 = .ok (.iconst 0, 1) := by decide +kernel
theorem dX12_isCrew_17 : decode cX12_isCrew 17 = .ok (.ireturn, 1) := by decide +kernel
theorem okX12_isCrew : ab_okM MX12_isCrew 1 := ⟨by decide, ⟨by decide, by decide⟩, ab_in 2352 (by decide +kernel) (by decide +kernel), ab_in 99 (by decide +kernel) (by decide +kernel), by decide +kernel, by decide⟩
set_option maxHeartbeats 4000000 in
set_option maxRecDepth 100000 in
def wX12_isCrew (v1 : Int32) (x : ab_X) (K : Int32 → Prop) : Prop := ((v1 < 0 → K 0) ∧ (¬ v1 < 0 → (((x.1 246 58) ≤ v1 → K 0) ∧ (¬ (x.1 246 58) ≤ v1 → K 1))))
set_option maxHeartbeats 4000000 in
set_option maxRecDepth 100000 in
theorem sX12_isCrew (v1 : Int32)  (x : ab_X) (K : Int32 → Prop) (d bc bs : Nat) (hdp : 0 ≤ d) (h : wX12_isCrew v1 x K) : EW MX12_isCrew 0 [(0, .ref 246), (1, .int v1)] [] (aS x) d bc bs (liP x K) := by
  unfold wX12_isCrew at h
  refine EW_iload_n (pc2 := 1) rfl dX12_isCrew_0 1 rfl ?_
  refine EW_if_lt (tgt := 16) (pc2 := 4) rfl dX12_isCrew_1 (by decide) (fun q => ?_) (fun q => ?_)
  · replace h := h.1 q
    refine EW_iconst (pc2 := 17) (v := 0) rfl dX12_isCrew_16 (by decide) ?_
    exact AW_zret rfl isB0 dX12_isCrew_17 ⟨_, rfl, rfl, h⟩
  · replace h := h.2 q
    refine EW_iload_n (pc2 := 5) rfl dX12_isCrew_4 1 rfl ?_
    refine EW_aload_n (pc2 := 6) rfl dX12_isCrew_5 0 rfl ?_
    refine AW_geti ⟨gfRX12_366, rfl⟩ (pc2 := 9) rfl dX12_isCrew_6 q246 ?_
    refine EW_icmp_ge (tgt := 16) (pc2 := 12) rfl dX12_isCrew_9 (by decide) (fun q => ?_) (fun q => ?_)
    · replace h := h.1 q
      refine EW_iconst (pc2 := 17) (v := 0) rfl dX12_isCrew_16 (by decide) ?_
      exact AW_zret rfl isB0 dX12_isCrew_17 ⟨_, rfl, rfl, h⟩
    · replace h := h.2 q
      refine EW_iconst (pc2 := 13) (v := 1) rfl dX12_isCrew_12 (by decide) ?_
      refine EW_goto (tgt := 17) dX12_isCrew_13 (by decide) ?_
      exact AW_zret rfl isB1 dX12_isCrew_17 ⟨_, rfl, rfl, h⟩
abbrev MX12_isIn : ab_M := (yX12_isIn, cX12_isIn, 3, (some .boolean))
theorem dX12_isIn_0 : decode cX12_isIn 0 = .ok (.iload_n 0, 1) := by decide +kernel
theorem dX12_isIn_1 : decode cX12_isIn 1 = .ok (.iload_n 1, 1) := by decide +kernel
theorem dX12_isIn_2 : decode cX12_isIn 2 = .ok (.if_icmp .lt 12, 3) := by decide +kernel
theorem dX12_isIn_5 : decode cX12_isIn 5 = .ok (.iload_n 0, 1) := by decide +kernel
theorem dX12_isIn_6 : decode cX12_isIn 6 = .ok (.iload_n 2, 1) := by decide +kernel
theorem dX12_isIn_7 : decode cX12_isIn 7 = .ok (.if_icmp .gt 7, 3) := by decide +kernel
theorem dX12_isIn_10 : decode cX12_isIn 10 = .ok (.iconst 1, 1) := by decide +kernel
theorem dX12_isIn_11 : decode cX12_isIn 11 = .ok (.goto 4, 3) := by decide +kernel
theorem dX12_isIn_14 : decode cX12_isIn 14 = .ok (.iconst 0, 1) := by decide +kernel
theorem dX12_isIn_15 : decode cX12_isIn 15 = .ok (.ireturn, 1) := by decide +kernel
theorem okX12_isIn : ab_okM MX12_isIn 3 := ⟨by decide, ⟨by decide, by decide⟩, ab_in 2227 (by decide +kernel) (by decide +kernel), ab_in 99 (by decide +kernel) (by decide +kernel), by decide +kernel, by decide⟩
set_option maxHeartbeats 4000000 in
set_option maxRecDepth 100000 in
def wX12_isIn (v0 : Int32) (v1 : Int32) (v2 : Int32) (x : ab_X) (K : Int32 → Prop) : Prop := ((v0 < v1 → K 0) ∧ (¬ v0 < v1 → ((v2 < v0 → K 0) ∧ (¬ v2 < v0 → K 1))))
set_option maxHeartbeats 4000000 in
set_option maxRecDepth 100000 in
theorem sX12_isIn (v0 : Int32) (v1 : Int32) (v2 : Int32)  (x : ab_X) (K : Int32 → Prop) (d bc bs : Nat) (hdp : 0 ≤ d) (h : wX12_isIn v0 v1 v2 x K) : EW MX12_isIn 0 [(0, .int v0), (1, .int v1), (2, .int v2)] [] (aS x) d bc bs (liP x K) := by
  unfold wX12_isIn at h
  refine EW_iload_n (pc2 := 1) rfl dX12_isIn_0 0 rfl ?_
  refine EW_iload_n (pc2 := 2) rfl dX12_isIn_1 1 rfl ?_
  refine EW_icmp_lt (tgt := 14) (pc2 := 5) rfl dX12_isIn_2 (by decide) (fun q => ?_) (fun q => ?_)
  · replace h := h.1 q
    refine EW_iconst (pc2 := 15) (v := 0) rfl dX12_isIn_14 (by decide) ?_
    exact AW_zret rfl isB0 dX12_isIn_15 ⟨_, rfl, rfl, h⟩
  · replace h := h.2 q
    refine EW_iload_n (pc2 := 6) rfl dX12_isIn_5 0 rfl ?_
    refine EW_iload_n (pc2 := 7) rfl dX12_isIn_6 2 rfl ?_
    refine EW_icmp_gt (tgt := 14) (pc2 := 10) rfl dX12_isIn_7 (by decide) (fun q => ?_) (fun q => ?_)
    · replace h := h.1 q
      refine EW_iconst (pc2 := 15) (v := 0) rfl dX12_isIn_14 (by decide) ?_
      exact AW_zret rfl isB0 dX12_isIn_15 ⟨_, rfl, rfl, h⟩
    · replace h := h.2 q
      refine EW_iconst (pc2 := 11) (v := 1) rfl dX12_isIn_10 (by decide) ?_
      refine EW_goto (tgt := 15) dX12_isIn_11 (by decide) ?_
      exact AW_zret rfl isB1 dX12_isIn_15 ⟨_, rfl, rfl, h⟩
theorem gfRX12_113 : ab_L RX12 113 12 38 := ⟨by decide, by decide, ab_in 1887 (by decide +kernel) (by decide +kernel)⟩
theorem gfRX12_164 : ab_L RX12 164 12 55 := ⟨by decide, by decide, ab_in 1904 (by decide +kernel) (by decide +kernel)⟩
theorem gfRX12_146 : ab_L RX12 146 12 49 := ⟨by decide, by decide, ab_in 1898 (by decide +kernel) (by decide +kernel)⟩
abbrev MX12_slowOf : ab_M := (yX12_slowOf, cX12_slowOf, 2, (some .int))
theorem dX12_slowOf_0 : decode cX12_slowOf 0 = .ok (.aload_n 0, 1) := by decide +kernel
theorem dX12_slowOf_1 : decode cX12_slowOf 1 = .ok (.getfield 113, 3) := by decide +kernel
theorem dX12_slowOf_4 : decode cX12_slowOf 4 = .ok (.iload_n 1, 1) := by decide +kernel
theorem dX12_slowOf_5 : decode cX12_slowOf 5 = .ok (.iaload, 1) := by decide +kernel
theorem dX12_slowOf_6 : decode cX12_slowOf 6 = .ok (.aload_n 0, 1) := by decide +kernel
theorem dX12_slowOf_7 : decode cX12_slowOf 7 = .ok (.getfield 164, 3) := by decide +kernel
theorem dX12_slowOf_10 : decode cX12_slowOf 10 = .ok (.iload_n 1, 1) := by decide +kernel
theorem dX12_slowOf_11 : decode cX12_slowOf 11 = .ok (.baload, 1) := by decide +kernel
theorem dX12_slowOf_12 : decode cX12_slowOf 12 = .ok (.ifCond .eq 14, 3) := by decide +kernel
theorem dX12_slowOf_15 : decode cX12_slowOf 15 = .ok (.aload_n 0, 1) := by decide +kernel
theorem dX12_slowOf_16 : decode cX12_slowOf 16 = .ok (.getfield 146, 3) := by decide +kernel
theorem dX12_slowOf_19 : decode cX12_slowOf 19 = .ok (.iload_n 1, 1) := by decide +kernel
theorem dX12_slowOf_20 : decode cX12_slowOf 20 = .ok (.iaload, 1) := by decide +kernel
theorem dX12_slowOf_21 : decode cX12_slowOf 21 = .ok (.iconst 3, 1) := by decide +kernel
theorem dX12_slowOf_22 : decode cX12_slowOf 22 = .ok (.idiv, 1) := by decide +kernel
theorem dX12_slowOf_23 : decode cX12_slowOf 23 = .ok (.goto 4, 3) := by decide +kernel
theorem dX12_slowOf_26 : decode cX12_slowOf 26 = .ok (.iconst 0, 1) := by decide +kernel
theorem dX12_slowOf_27 : decode cX12_slowOf 27 = .ok (.iadd, 1) := by decide +kernel
theorem dX12_slowOf_28 : decode cX12_slowOf 28 = .ok (.ireturn, 1) := by decide +kernel
theorem okX12_slowOf : ab_okM MX12_slowOf 1 := ⟨by decide, ⟨by decide, by decide⟩, ab_in 2372 (by decide +kernel) (by decide +kernel), ab_in 99 (by decide +kernel) (by decide +kernel), by decide +kernel, by decide⟩
set_option maxHeartbeats 4000000 in
set_option maxRecDepth 100000 in
def wX12_slowOf (v1 : Int32) (x : ab_X) (K : Int32 → Prop) : Prop := (vp_in v1 16 ∧ vp_in v1 16 ∧ (((x.1 298 (Int32.toNatClampNeg v1)) = 0 → K ((x.1 281 (Int32.toNatClampNeg v1)) + 0)) ∧ (¬ (x.1 298 (Int32.toNatClampNeg v1)) = 0 → (vp_in v1 16 ∧ K ((x.1 281 (Int32.toNatClampNeg v1)) + ((x.1 292 (Int32.toNatClampNeg v1)) / 3))))))
set_option maxHeartbeats 4000000 in
set_option maxRecDepth 100000 in
theorem sX12_slowOf (v1 : Int32)  (x : ab_X) (K : Int32 → Prop) (d bc bs : Nat) (hdp : 0 ≤ d) (h : wX12_slowOf v1 x K) : EW MX12_slowOf 0 [(0, .ref 246), (1, .int v1)] [] (aS x) d bc bs (liP x K) := by
  unfold wX12_slowOf at h
  refine EW_aload_n (pc2 := 1) rfl dX12_slowOf_0 0 rfl ?_
  refine AW_getr (r := 281) ⟨gfRX12_113, rfl⟩ (pc2 := 4) rfl dX12_slowOf_1 q246 rfl ?_
  refine EW_iload_n (pc2 := 5) rfl dX12_slowOf_4 1 rfl ?_
  obtain ⟨b1, h⟩ := h
  refine AW_iald (pc2 := 6) rfl dX12_slowOf_5 q281 b1 ?_
  refine EW_aload_n (pc2 := 7) rfl dX12_slowOf_6 0 rfl ?_
  refine AW_getr (r := 298) ⟨gfRX12_164, rfl⟩ (pc2 := 10) rfl dX12_slowOf_7 q246 rfl ?_
  refine EW_iload_n (pc2 := 11) rfl dX12_slowOf_10 1 rfl ?_
  obtain ⟨b2, h⟩ := h
  refine AW_zald (pc2 := 12) rfl dX12_slowOf_11 q298 b2 ?_
  refine EW_if_eq (tgt := 26) (pc2 := 15) rfl dX12_slowOf_12 (by decide) (fun q => ?_) (fun q => ?_)
  · replace h := h.1 q
    refine EW_iconst (pc2 := 27) (v := 0) rfl dX12_slowOf_26 (by decide) ?_
    refine EW_iadd (pc2 := 28) rfl dX12_slowOf_27 ?_
    exact AW_iret rfl dX12_slowOf_28 ⟨_, rfl, rfl, h⟩
  · replace h := h.2 q
    refine EW_aload_n (pc2 := 16) rfl dX12_slowOf_15 0 rfl ?_
    refine AW_getr (r := 292) ⟨gfRX12_146, rfl⟩ (pc2 := 19) rfl dX12_slowOf_16 q246 rfl ?_
    refine EW_iload_n (pc2 := 20) rfl dX12_slowOf_19 1 rfl ?_
    obtain ⟨b3, h⟩ := h
    refine AW_iald (pc2 := 21) rfl dX12_slowOf_20 q292 b3 ?_
    refine EW_iconst (pc2 := 22) (v := 3) rfl dX12_slowOf_21 (by decide) ?_
    refine EW_idiv (pc2 := 23) rfl dX12_slowOf_22 (by decide) ?_
    refine EW_goto (tgt := 27) dX12_slowOf_23 (by decide) ?_
    refine EW_iadd (pc2 := 28) rfl dX12_slowOf_27 ?_
    exact AW_iret rfl dX12_slowOf_28 ⟨_, rfl, rfl, h⟩
theorem gfRX12_297 : ab_L RX12 297 12 0 := ⟨by decide, by decide, ab_in 1849 (by decide +kernel) (by decide +kernel)⟩
theorem gfRX12_155 : ab_L RX12 155 12 52 := ⟨by decide, by decide, ab_in 1901 (by decide +kernel) (by decide +kernel)⟩
theorem gfRX12_128 : ab_L RX12 128 12 43 := ⟨by decide, by decide, ab_in 1892 (by decide +kernel) (by decide +kernel)⟩
theorem gfRX12_131 : ab_L RX12 131 12 44 := ⟨by decide, by decide, ab_in 1893 (by decide +kernel) (by decide +kernel)⟩
theorem gfRX12_134 : ab_L RX12 134 12 45 := ⟨by decide, by decide, ab_in 1894 (by decide +kernel) (by decide +kernel)⟩
theorem gfRX12_137 : ab_L RX12 137 12 46 := ⟨by decide, by decide, ab_in 1895 (by decide +kernel) (by decide +kernel)⟩
theorem gfRX12_140 : ab_L RX12 140 12 47 := ⟨by decide, by decide, ab_in 1896 (by decide +kernel) (by decide +kernel)⟩
theorem gfRX12_143 : ab_L RX12 143 12 48 := ⟨by decide, by decide, ab_in 1897 (by decide +kernel) (by decide +kernel)⟩
theorem mlRX12_398 : Cond.methodLink RX12 398 yX12_slowOf ∈ ab_G ∧ Cond.instanceMethod yX12_slowOf ∈ ab_G ∧ Cond.selects RX12 yX12_slowOf yX12_slowOf ∈ ab_G := ⟨ab_in 2369 (by decide +kernel) (by decide +kernel), ab_in 2371 (by decide +kernel) (by decide +kernel), ab_in 31 (by decide +kernel) (by decide +kernel)⟩
theorem mlRX12_392 : Cond.methodLink RX12 392 yX12_isCrew ∈ ab_G ∧ Cond.instanceMethod yX12_isCrew ∈ ab_G ∧ Cond.selects RX12 yX12_isCrew yX12_isCrew ∈ ab_G := ⟨ab_in 2349 (by decide +kernel) (by decide +kernel), ab_in 2351 (by decide +kernel) (by decide +kernel), ab_in 28 (by decide +kernel) (by decide +kernel)⟩
theorem mlRX12_307 : Cond.methodLink RX12 307 yX12_isIn ∈ ab_G ∧ Cond.static yX12_isIn ∈ ab_G := ⟨ab_in 2225 (by decide +kernel) (by decide +kernel), ab_in 2226 (by decide +kernel) (by decide +kernel)⟩
abbrev MX12_about : ab_M := (yX12_about, cX12_about, 3, (some .int))
theorem dX12_about_0 : decode cX12_about 0 = .ok (.aload_n 0, 1) := by decide +kernel
theorem dX12_about_1 : decode cX12_about 1 = .ok (.aload_n 0, 1) := by decide +kernel
theorem dX12_about_2 : decode cX12_about 2 = .ok (.iload_n 1, 1) := by decide +kernel
theorem dX12_about_3 : decode cX12_about 3 = .ok (.invokevirtual 392, 3) := by decide +kernel
theorem dX12_about_6 : decode cX12_about 6 = .ok (.ifCond .eq 17, 3) := by decide +kernel
theorem dX12_about_9 : decode cX12_about 9 = .ok (.iload_n 2, 1) := by decide +kernel
theorem dX12_about_10 : decode cX12_about 10 = .ok (.iconst 0, 1) := by decide +kernel
theorem dX12_about_11 : decode cX12_about 11 = .ok (.bipush 8, 2) := by decide +kernel
theorem dX12_about_13 : decode cX12_about 13 = .ok (.invokestatic 307, 3) := by decide +kernel
theorem dX12_about_16 : decode cX12_about 16 = .ok (.ifCond .eq 7, 3) := by decide +kernel
theorem dX12_about_19 : decode cX12_about 19 = .ok (.iconst 0, 1) := by decide +kernel
theorem dX12_about_20 : decode cX12_about 20 = .ok (.goto 4, 3) := by decide +kernel
theorem dX12_about_23 : decode cX12_about 23 = .ok (.iconst 1, 1) := by decide +kernel
theorem dX12_about_24 : decode cX12_about 24 = .ok (.putfield 297, 3) := by decide +kernel
theorem dX12_about_27 : decode cX12_about 27 = .ok (.aload_n 0, 1) := by decide +kernel
theorem dX12_about_28 : decode cX12_about 28 = .ok (.getfield 297, 3) := by decide +kernel
theorem dX12_about_31 : decode cX12_about 31 = .ok (.ifCond .le 5, 3) := by decide +kernel
theorem dX12_about_34 : decode cX12_about 34 = .ok (.iconst 0, 1) := by decide +kernel
theorem dX12_about_35 : decode cX12_about 35 = .ok (.ireturn, 1) := by decide +kernel
theorem dX12_about_36 : decode cX12_about 36 = .ok (.iload_n 2, 1) := by decide +kernel
theorem dX12_about_37 : decode cX12_about 37 = .ok (.tableswitch 102 0 7 #[47, 54, 61, 68, 75, 82, 89, 96], 47) := by decide +kernel
theorem dX12_about_84 : decode cX12_about 84 = .ok (.aload_n 0, 1) := by decide +kernel
theorem dX12_about_85 : decode cX12_about 85 = .ok (.getfield 128, 3) := by decide +kernel
theorem dX12_about_88 : decode cX12_about 88 = .ok (.iload_n 1, 1) := by decide +kernel
theorem dX12_about_89 : decode cX12_about 89 = .ok (.iaload, 1) := by decide +kernel
theorem dX12_about_90 : decode cX12_about 90 = .ok (.ireturn, 1) := by decide +kernel
theorem dX12_about_91 : decode cX12_about 91 = .ok (.aload_n 0, 1) := by decide +kernel
theorem dX12_about_92 : decode cX12_about 92 = .ok (.getfield 131, 3) := by decide +kernel
theorem dX12_about_95 : decode cX12_about 95 = .ok (.iload_n 1, 1) := by decide +kernel
theorem dX12_about_96 : decode cX12_about 96 = .ok (.iaload, 1) := by decide +kernel
theorem dX12_about_97 : decode cX12_about 97 = .ok (.ireturn, 1) := by decide +kernel
theorem dX12_about_98 : decode cX12_about 98 = .ok (.aload_n 0, 1) := by decide +kernel
theorem dX12_about_99 : decode cX12_about 99 = .ok (.getfield 134, 3) := by decide +kernel
theorem dX12_about_102 : decode cX12_about 102 = .ok (.iload_n 1, 1) := by decide +kernel
theorem dX12_about_103 : decode cX12_about 103 = .ok (.iaload, 1) := by decide +kernel
theorem dX12_about_104 : decode cX12_about 104 = .ok (.ireturn, 1) := by decide +kernel
theorem dX12_about_105 : decode cX12_about 105 = .ok (.aload_n 0, 1) := by decide +kernel
theorem dX12_about_106 : decode cX12_about 106 = .ok (.getfield 137, 3) := by decide +kernel
theorem dX12_about_109 : decode cX12_about 109 = .ok (.iload_n 1, 1) := by decide +kernel
theorem dX12_about_110 : decode cX12_about 110 = .ok (.iaload, 1) := by decide +kernel
theorem dX12_about_111 : decode cX12_about 111 = .ok (.ireturn, 1) := by decide +kernel
theorem dX12_about_112 : decode cX12_about 112 = .ok (.aload_n 0, 1) := by decide +kernel
theorem dX12_about_113 : decode cX12_about 113 = .ok (.getfield 140, 3) := by decide +kernel
theorem dX12_about_116 : decode cX12_about 116 = .ok (.iload_n 1, 1) := by decide +kernel
theorem dX12_about_117 : decode cX12_about 117 = .ok (.iaload, 1) := by decide +kernel
theorem dX12_about_118 : decode cX12_about 118 = .ok (.ireturn, 1) := by decide +kernel
theorem dX12_about_119 : decode cX12_about 119 = .ok (.aload_n 0, 1) := by decide +kernel
theorem dX12_about_120 : decode cX12_about 120 = .ok (.getfield 143, 3) := by decide +kernel
theorem dX12_about_123 : decode cX12_about 123 = .ok (.iload_n 1, 1) := by decide +kernel
theorem dX12_about_124 : decode cX12_about 124 = .ok (.iaload, 1) := by decide +kernel
theorem dX12_about_125 : decode cX12_about 125 = .ok (.ireturn, 1) := by decide +kernel
theorem dX12_about_126 : decode cX12_about 126 = .ok (.aload_n 0, 1) := by decide +kernel
theorem dX12_about_127 : decode cX12_about 127 = .ok (.getfield 146, 3) := by decide +kernel
theorem dX12_about_130 : decode cX12_about 130 = .ok (.iload_n 1, 1) := by decide +kernel
theorem dX12_about_131 : decode cX12_about 131 = .ok (.iaload, 1) := by decide +kernel
theorem dX12_about_132 : decode cX12_about 132 = .ok (.ireturn, 1) := by decide +kernel
theorem dX12_about_133 : decode cX12_about 133 = .ok (.aload_n 0, 1) := by decide +kernel
theorem dX12_about_134 : decode cX12_about 134 = .ok (.iload_n 1, 1) := by decide +kernel
theorem dX12_about_135 : decode cX12_about 135 = .ok (.invokevirtual 398, 3) := by decide +kernel
theorem dX12_about_138 : decode cX12_about 138 = .ok (.ireturn, 1) := by decide +kernel
theorem dX12_about_139 : decode cX12_about 139 = .ok (.aload_n 0, 1) := by decide +kernel
theorem dX12_about_140 : decode cX12_about 140 = .ok (.getfield 155, 3) := by decide +kernel
theorem dX12_about_143 : decode cX12_about 143 = .ok (.iload_n 1, 1) := by decide +kernel
theorem dX12_about_144 : decode cX12_about 144 = .ok (.iaload, 1) := by decide +kernel
theorem dX12_about_145 : decode cX12_about 145 = .ok (.ireturn, 1) := by decide +kernel
theorem okX12_about : ab_okM MX12_about 2 := ⟨by decide, ⟨by decide, by decide⟩, ab_in 2376 (by decide +kernel) (by decide +kernel), ab_in 99 (by decide +kernel) (by decide +kernel), by decide +kernel, by decide⟩
set_option maxHeartbeats 4000000 in
set_option maxRecDepth 100000 in
def wX12_about_24 (v1 : Int32) (v2 : Int32) (s1 : Int32) (x : ab_X) (K : Int32 → ab_X → Prop)  : Prop := ((((wr x 246 0 s1).1 246 0) ≤ 0 → (((v2.toInt < 0 ∨ 7 < v2.toInt) → (vp_in v1 16 ∧ K ((wr x 246 0 s1).1 295 (Int32.toNatClampNeg v1)) (wr x 246 0 s1))) ∧ (v2 = 0 → (vp_in v1 16 ∧ K ((wr x 246 0 s1).1 286 (Int32.toNatClampNeg v1)) (wr x 246 0 s1))) ∧ (v2 = 1 → (vp_in v1 16 ∧ K ((wr x 246 0 s1).1 287 (Int32.toNatClampNeg v1)) (wr x 246 0 s1))) ∧ (v2 = 2 → (vp_in v1 16 ∧ K ((wr x 246 0 s1).1 288 (Int32.toNatClampNeg v1)) (wr x 246 0 s1))) ∧ (v2 = 3 → (vp_in v1 16 ∧ K ((wr x 246 0 s1).1 289 (Int32.toNatClampNeg v1)) (wr x 246 0 s1))) ∧ (v2 = 4 → (vp_in v1 16 ∧ K ((wr x 246 0 s1).1 290 (Int32.toNatClampNeg v1)) (wr x 246 0 s1))) ∧ (v2 = 5 → (vp_in v1 16 ∧ K ((wr x 246 0 s1).1 291 (Int32.toNatClampNeg v1)) (wr x 246 0 s1))) ∧ (v2 = 6 → (vp_in v1 16 ∧ K ((wr x 246 0 s1).1 292 (Int32.toNatClampNeg v1)) (wr x 246 0 s1))) ∧ (v2 = 7 → wX12_slowOf v1 (wr x 246 0 s1) (fun r11 => K r11 (wr x 246 0 s1))))) ∧ (¬ ((wr x 246 0 s1).1 246 0) ≤ 0 → K 0 (wr x 246 0 s1)))
set_option maxHeartbeats 4000000 in
set_option maxRecDepth 100000 in
theorem sX12_about_24 (v1 : Int32) (v2 : Int32) (s1 : Int32)  (x : ab_X) (K : Int32 → ab_X → Prop)  (d bc bs : Nat) (hdp : 1 ≤ d)  (h : wX12_about_24 v1 v2 s1 x K ) : EW MX12_about 24 [(0, .ref 246), (1, .int v1), (2, .int v2)] [.int s1, .ref 246] (aS x) d bc bs (liI K) := by
  unfold wX12_about_24 at h
  refine AW_puti ⟨gfRX12_297, rfl, rfl⟩ (pc2 := 27) rfl dX12_about_24 q246 ?_
  refine EW_aload_n (pc2 := 28) rfl dX12_about_27 0 rfl ?_
  refine AW_geti ⟨gfRX12_297, rfl⟩ (pc2 := 31) rfl dX12_about_28 q246 ?_
  refine EW_if_le (tgt := 36) (pc2 := 34) rfl dX12_about_31 (by decide) (fun q => ?_) (fun q => ?_)
  · replace h := h.1 q
    refine EW_iload_n (pc2 := 37) rfl dX12_about_36 2 rfl ?_
    by_cases qo : Int32.toInt v2 < 0 ∨ 7 < Int32.toInt v2
    · replace h := h.1 qo
      refine EW_tabOut (tgt := 139) dX12_about_37 qo (by decide) ?_
      refine EW_aload_n (pc2 := 140) rfl dX12_about_139 0 rfl ?_
      refine AW_getr (r := 295) ⟨gfRX12_155, rfl⟩ (pc2 := 143) rfl dX12_about_140 q246 rfl ?_
      refine EW_iload_n (pc2 := 144) rfl dX12_about_143 1 rfl ?_
      obtain ⟨b3, h⟩ := h
      refine AW_iald (pc2 := 145) rfl dX12_about_144 q295 b3 ?_
      exact AW_iret rfl dX12_about_145 ⟨_, _, rfl, rfl, h⟩
    · obtain ⟨kk, hkk, qk⟩ := sw_in 0 7 (by decide) qo
      match kk, hkk, qk with
      | 0, _, qk =>
        replace h := h.2.1 qk
        refine EW_tabIn (off := 47) (tgt := 84) dX12_about_37 (by rw [qk]; decide) (by rw [qk]; decide) (by rw [qk]; decide) (by decide) ?_
        refine EW_aload_n (pc2 := 85) rfl dX12_about_84 0 rfl ?_
        refine AW_getr (r := 286) ⟨gfRX12_128, rfl⟩ (pc2 := 88) rfl dX12_about_85 q246 rfl ?_
        refine EW_iload_n (pc2 := 89) rfl dX12_about_88 1 rfl ?_
        obtain ⟨b4, h⟩ := h
        refine AW_iald (pc2 := 90) rfl dX12_about_89 q286 b4 ?_
        exact AW_iret rfl dX12_about_90 ⟨_, _, rfl, rfl, h⟩
      | 1, _, qk =>
        replace h := h.2.2.1 qk
        refine EW_tabIn (off := 54) (tgt := 91) dX12_about_37 (by rw [qk]; decide) (by rw [qk]; decide) (by rw [qk]; decide) (by decide) ?_
        refine EW_aload_n (pc2 := 92) rfl dX12_about_91 0 rfl ?_
        refine AW_getr (r := 287) ⟨gfRX12_131, rfl⟩ (pc2 := 95) rfl dX12_about_92 q246 rfl ?_
        refine EW_iload_n (pc2 := 96) rfl dX12_about_95 1 rfl ?_
        obtain ⟨b5, h⟩ := h
        refine AW_iald (pc2 := 97) rfl dX12_about_96 q287 b5 ?_
        exact AW_iret rfl dX12_about_97 ⟨_, _, rfl, rfl, h⟩
      | 2, _, qk =>
        replace h := h.2.2.2.1 qk
        refine EW_tabIn (off := 61) (tgt := 98) dX12_about_37 (by rw [qk]; decide) (by rw [qk]; decide) (by rw [qk]; decide) (by decide) ?_
        refine EW_aload_n (pc2 := 99) rfl dX12_about_98 0 rfl ?_
        refine AW_getr (r := 288) ⟨gfRX12_134, rfl⟩ (pc2 := 102) rfl dX12_about_99 q246 rfl ?_
        refine EW_iload_n (pc2 := 103) rfl dX12_about_102 1 rfl ?_
        obtain ⟨b6, h⟩ := h
        refine AW_iald (pc2 := 104) rfl dX12_about_103 q288 b6 ?_
        exact AW_iret rfl dX12_about_104 ⟨_, _, rfl, rfl, h⟩
      | 3, _, qk =>
        replace h := h.2.2.2.2.1 qk
        refine EW_tabIn (off := 68) (tgt := 105) dX12_about_37 (by rw [qk]; decide) (by rw [qk]; decide) (by rw [qk]; decide) (by decide) ?_
        refine EW_aload_n (pc2 := 106) rfl dX12_about_105 0 rfl ?_
        refine AW_getr (r := 289) ⟨gfRX12_137, rfl⟩ (pc2 := 109) rfl dX12_about_106 q246 rfl ?_
        refine EW_iload_n (pc2 := 110) rfl dX12_about_109 1 rfl ?_
        obtain ⟨b7, h⟩ := h
        refine AW_iald (pc2 := 111) rfl dX12_about_110 q289 b7 ?_
        exact AW_iret rfl dX12_about_111 ⟨_, _, rfl, rfl, h⟩
      | 4, _, qk =>
        replace h := h.2.2.2.2.2.1 qk
        refine EW_tabIn (off := 75) (tgt := 112) dX12_about_37 (by rw [qk]; decide) (by rw [qk]; decide) (by rw [qk]; decide) (by decide) ?_
        refine EW_aload_n (pc2 := 113) rfl dX12_about_112 0 rfl ?_
        refine AW_getr (r := 290) ⟨gfRX12_140, rfl⟩ (pc2 := 116) rfl dX12_about_113 q246 rfl ?_
        refine EW_iload_n (pc2 := 117) rfl dX12_about_116 1 rfl ?_
        obtain ⟨b8, h⟩ := h
        refine AW_iald (pc2 := 118) rfl dX12_about_117 q290 b8 ?_
        exact AW_iret rfl dX12_about_118 ⟨_, _, rfl, rfl, h⟩
      | 5, _, qk =>
        replace h := h.2.2.2.2.2.2.1 qk
        refine EW_tabIn (off := 82) (tgt := 119) dX12_about_37 (by rw [qk]; decide) (by rw [qk]; decide) (by rw [qk]; decide) (by decide) ?_
        refine EW_aload_n (pc2 := 120) rfl dX12_about_119 0 rfl ?_
        refine AW_getr (r := 291) ⟨gfRX12_143, rfl⟩ (pc2 := 123) rfl dX12_about_120 q246 rfl ?_
        refine EW_iload_n (pc2 := 124) rfl dX12_about_123 1 rfl ?_
        obtain ⟨b9, h⟩ := h
        refine AW_iald (pc2 := 125) rfl dX12_about_124 q291 b9 ?_
        exact AW_iret rfl dX12_about_125 ⟨_, _, rfl, rfl, h⟩
      | 6, _, qk =>
        replace h := h.2.2.2.2.2.2.2.1 qk
        refine EW_tabIn (off := 89) (tgt := 126) dX12_about_37 (by rw [qk]; decide) (by rw [qk]; decide) (by rw [qk]; decide) (by decide) ?_
        refine EW_aload_n (pc2 := 127) rfl dX12_about_126 0 rfl ?_
        refine AW_getr (r := 292) ⟨gfRX12_146, rfl⟩ (pc2 := 130) rfl dX12_about_127 q246 rfl ?_
        refine EW_iload_n (pc2 := 131) rfl dX12_about_130 1 rfl ?_
        obtain ⟨b10, h⟩ := h
        refine AW_iald (pc2 := 132) rfl dX12_about_131 q292 b10 ?_
        exact AW_iret rfl dX12_about_132 ⟨_, _, rfl, rfl, h⟩
      | 7, _, qk =>
        replace h := h.2.2.2.2.2.2.2.2 qk
        refine EW_tabIn (off := 96) (tgt := 133) dX12_about_37 (by rw [qk]; decide) (by rw [qk]; decide) (by rw [qk]; decide) (by decide) ?_
        refine EW_aload_n (pc2 := 134) rfl dX12_about_133 0 rfl ?_
        refine EW_iload_n (pc2 := 135) rfl dX12_about_134 1 rfl ?_
        refine AW_invV (M' := MX12_slowOf) [.int v1] (rest := []) mlRX12_398 okX12_slowOf (pc2 := 138) rfl dX12_about_135 rfl rfl (Nat.le_of_ble_eq_true rfl) (Nat.le_of_ble_eq_true rfl) (d' := 0) (by omega) q246 ⟨by decide, rfl⟩ (EW_mono (fun _ _ hr => ?_) (sX12_slowOf v1  (wr x 246 0 s1) _ _ 0 0 (Nat.le_refl _) h))
        obtain ⟨r11, rfl, rfl, h⟩ := hr
        exact AW_iret rfl dX12_about_138 ⟨_, _, rfl, rfl, h⟩
      | n9 + 8, hkk, _ => exact absurd hkk (by omega)
  · replace h := h.2 q
    refine EW_iconst (pc2 := 35) (v := 0) rfl dX12_about_34 (by decide) ?_
    exact AW_iret rfl dX12_about_35 ⟨_, _, rfl, rfl, h⟩
set_option maxHeartbeats 4000000 in
set_option maxRecDepth 100000 in
def wX12_about_23 (v1 : Int32) (v2 : Int32) (x : ab_X) (K : Int32 → ab_X → Prop)  : Prop := wX12_about_24 v1 v2 1 x K
set_option maxHeartbeats 4000000 in
set_option maxRecDepth 100000 in
theorem sX12_about_23 (v1 : Int32) (v2 : Int32)  (x : ab_X) (K : Int32 → ab_X → Prop)  (d bc bs : Nat) (hdp : 1 ≤ d)  (h : wX12_about_23 v1 v2 x K ) : EW MX12_about 23 [(0, .ref 246), (1, .int v1), (2, .int v2)] [.ref 246] (aS x) d bc bs (liI K) := by
  unfold wX12_about_23 at h
  refine EW_iconst (pc2 := 24) (v := 1) rfl dX12_about_23 (by decide) ?_
  exact sX12_about_24 v1 v2 1 x K d bc bs hdp h
set_option maxHeartbeats 4000000 in
set_option maxRecDepth 100000 in
def wX12_about (v1 : Int32) (v2 : Int32) (x : ab_X) (K : Int32 → ab_X → Prop) : Prop := wX12_isCrew v1 x (fun r1 => ((r1 = 0 → wX12_about_23 v1 v2 x K) ∧ (¬ r1 = 0 → wX12_isIn v2 0 8 x (fun r2 => ((r2 = 0 → wX12_about_23 v1 v2 x K) ∧ (¬ r2 = 0 → wX12_about_24 v1 v2 0 x K))))))
set_option maxHeartbeats 4000000 in
set_option maxRecDepth 100000 in
theorem sX12_about (v1 : Int32) (v2 : Int32)  (x : ab_X) (K : Int32 → ab_X → Prop) (d bc bs : Nat) (hdp : 1 ≤ d) (h : wX12_about v1 v2 x K) : EW MX12_about 0 [(0, .ref 246), (1, .int v1), (2, .int v2)] [] (aS x) d bc bs (liI K) := by
  unfold wX12_about at h
  refine EW_aload_n (pc2 := 1) rfl dX12_about_0 0 rfl ?_
  refine EW_aload_n (pc2 := 2) rfl dX12_about_1 0 rfl ?_
  refine EW_iload_n (pc2 := 3) rfl dX12_about_2 1 rfl ?_
  refine AW_invV (M' := MX12_isCrew) [.int v1] (rest := [.ref 246]) mlRX12_392 okX12_isCrew (pc2 := 6) rfl dX12_about_3 rfl rfl (Nat.le_of_ble_eq_true rfl) (Nat.le_of_ble_eq_true rfl) (d' := 0) (by omega) q246 ⟨by decide, rfl⟩ (EW_mono (fun _ _ hr => ?_) (sX12_isCrew v1  x _ _ 0 0 (Nat.le_refl _) h))
  obtain ⟨r1, rfl, rfl, h⟩ := hr
  refine EW_if_eq (tgt := 23) (pc2 := 9) rfl dX12_about_6 (by decide) (fun q => ?_) (fun q => ?_)
  · replace h := h.1 q
    exact sX12_about_23 v1 v2 x K d bc bs hdp h
  · replace h := h.2 q
    refine EW_iload_n (pc2 := 10) rfl dX12_about_9 2 rfl ?_
    refine EW_iconst (pc2 := 11) (v := 0) rfl dX12_about_10 (by decide) ?_
    refine EW_bipush (pc2 := 13) (v := 8) rfl dX12_about_11 (by decide) ?_
    refine AW_invS (M' := MX12_isIn) [.int v2, .int 0, .int 8] (rest := [.ref 246]) mlRX12_307 okX12_isIn (pc2 := 16) rfl dX12_about_13 rfl rfl (Nat.le_of_ble_eq_true rfl) (Nat.le_of_ble_eq_true rfl) (d' := 0) (by omega) (EW_mono (fun _ _ hr => ?_) (sX12_isIn v2 0 8  x _ _ 0 0 (Nat.le_refl _) h))
    obtain ⟨r2, rfl, rfl, h⟩ := hr
    refine EW_if_eq (tgt := 23) (pc2 := 19) rfl dX12_about_16 (by decide) (fun q => ?_) (fun q => ?_)
    · replace h := h.1 q
      exact sX12_about_23 v1 v2 x K d bc bs hdp h
    · replace h := h.2 q
      refine EW_iconst (pc2 := 20) (v := 0) rfl dX12_about_19 (by decide) ?_
      refine EW_goto (tgt := 24) dX12_about_20 (by decide) ?_
      exact sX12_about_24 v1 v2 0 x K d bc bs hdp h
abbrev MX12_actionOf : ab_M := (yX12_actionOf, cX12_actionOf, 1, (some .int))
theorem dX12_actionOf_0 : decode cX12_actionOf 0 = .ok (.iload_n 0, 1) := by decide +kernel
theorem dX12_actionOf_1 : decode cX12_actionOf 1 = .ok (.bipush 112, 2) := by decide +kernel
theorem dX12_actionOf_3 : decode cX12_actionOf 3 = .ok (.if_icmp .ne 7, 3) := by decide +kernel
theorem dX12_actionOf_6 : decode cX12_actionOf 6 = .ok (.iconst 0, 1) := by decide +kernel
theorem dX12_actionOf_7 : decode cX12_actionOf 7 = .ok (.goto 44, 3) := by decide +kernel
theorem dX12_actionOf_10 : decode cX12_actionOf 10 = .ok (.iload_n 0, 1) := by decide +kernel
theorem dX12_actionOf_11 : decode cX12_actionOf 11 = .ok (.bipush 115, 2) := by decide +kernel
theorem dX12_actionOf_13 : decode cX12_actionOf 13 = .ok (.if_icmp .ne 7, 3) := by decide +kernel
theorem dX12_actionOf_16 : decode cX12_actionOf 16 = .ok (.iconst 1, 1) := by decide +kernel
theorem dX12_actionOf_17 : decode cX12_actionOf 17 = .ok (.goto 34, 3) := by decide +kernel
theorem dX12_actionOf_20 : decode cX12_actionOf 20 = .ok (.iload_n 0, 1) := by decide +kernel
theorem dX12_actionOf_21 : decode cX12_actionOf 21 = .ok (.bipush 108, 2) := by decide +kernel
theorem dX12_actionOf_23 : decode cX12_actionOf 23 = .ok (.if_icmp .ne 7, 3) := by decide +kernel
theorem dX12_actionOf_26 : decode cX12_actionOf 26 = .ok (.iconst 2, 1) := by decide +kernel
theorem dX12_actionOf_27 : decode cX12_actionOf 27 = .ok (.goto 24, 3) := by decide +kernel
theorem dX12_actionOf_30 : decode cX12_actionOf 30 = .ok (.iload_n 0, 1) := by decide +kernel
theorem dX12_actionOf_31 : decode cX12_actionOf 31 = .ok (.bipush 99, 2) := by decide +kernel
theorem dX12_actionOf_33 : decode cX12_actionOf 33 = .ok (.if_icmp .ne 7, 3) := by decide +kernel
theorem dX12_actionOf_36 : decode cX12_actionOf 36 = .ok (.iconst 3, 1) := by decide +kernel
theorem dX12_actionOf_37 : decode cX12_actionOf 37 = .ok (.goto 14, 3) := by decide +kernel
theorem dX12_actionOf_40 : decode cX12_actionOf 40 = .ok (.iload_n 0, 1) := by decide +kernel
theorem dX12_actionOf_41 : decode cX12_actionOf 41 = .ok (.bipush 109, 2) := by decide +kernel
theorem dX12_actionOf_43 : decode cX12_actionOf 43 = .ok (.if_icmp .ne 7, 3) := by decide +kernel
theorem dX12_actionOf_46 : decode cX12_actionOf 46 = .ok (.iconst 4, 1) := by decide +kernel
theorem dX12_actionOf_47 : decode cX12_actionOf 47 = .ok (.goto 4, 3) := by decide +kernel
theorem dX12_actionOf_50 : decode cX12_actionOf 50 = .ok (.iconst (-1), 1) := by decide +kernel
theorem dX12_actionOf_51 : decode cX12_actionOf 51 = .ok (.ireturn, 1) := by decide +kernel
theorem okX12_actionOf : ab_okM MX12_actionOf 1 := ⟨by decide, ⟨by decide, by decide⟩, ab_in 2477 (by decide +kernel) (by decide +kernel), ab_in 99 (by decide +kernel) (by decide +kernel), by decide +kernel, by decide⟩
set_option maxHeartbeats 4000000 in
set_option maxRecDepth 100000 in
def wX12_actionOf (v0 : Int32) (x : ab_X) (K : Int32 → Prop) : Prop := ((¬ v0 = 112 → ((¬ v0 = 115 → ((¬ v0 = 108 → ((¬ v0 = 99 → ((¬ v0 = 109 → K (-1)) ∧ (v0 = 109 → K 4))) ∧ (v0 = 99 → K 3))) ∧ (v0 = 108 → K 2))) ∧ (v0 = 115 → K 1))) ∧ (v0 = 112 → K 0))
set_option maxHeartbeats 4000000 in
set_option maxRecDepth 100000 in
theorem sX12_actionOf (v0 : Int32)  (x : ab_X) (K : Int32 → Prop) (d bc bs : Nat) (hdp : 0 ≤ d) (h : wX12_actionOf v0 x K) : EW MX12_actionOf 0 [(0, .int v0)] [] (aS x) d bc bs (liP x K) := by
  unfold wX12_actionOf at h
  refine EW_iload_n (pc2 := 1) rfl dX12_actionOf_0 0 rfl ?_
  refine EW_bipush (pc2 := 3) (v := 112) rfl dX12_actionOf_1 (by decide) ?_
  refine EW_icmp_ne (tgt := 10) (pc2 := 6) rfl dX12_actionOf_3 (by decide) (fun q => ?_) (fun q => ?_)
  · replace h := h.1 q
    refine EW_iload_n (pc2 := 11) rfl dX12_actionOf_10 0 rfl ?_
    refine EW_bipush (pc2 := 13) (v := 115) rfl dX12_actionOf_11 (by decide) ?_
    refine EW_icmp_ne (tgt := 20) (pc2 := 16) rfl dX12_actionOf_13 (by decide) (fun q => ?_) (fun q => ?_)
    · replace h := h.1 q
      refine EW_iload_n (pc2 := 21) rfl dX12_actionOf_20 0 rfl ?_
      refine EW_bipush (pc2 := 23) (v := 108) rfl dX12_actionOf_21 (by decide) ?_
      refine EW_icmp_ne (tgt := 30) (pc2 := 26) rfl dX12_actionOf_23 (by decide) (fun q => ?_) (fun q => ?_)
      · replace h := h.1 q
        refine EW_iload_n (pc2 := 31) rfl dX12_actionOf_30 0 rfl ?_
        refine EW_bipush (pc2 := 33) (v := 99) rfl dX12_actionOf_31 (by decide) ?_
        refine EW_icmp_ne (tgt := 40) (pc2 := 36) rfl dX12_actionOf_33 (by decide) (fun q => ?_) (fun q => ?_)
        · replace h := h.1 q
          refine EW_iload_n (pc2 := 41) rfl dX12_actionOf_40 0 rfl ?_
          refine EW_bipush (pc2 := 43) (v := 109) rfl dX12_actionOf_41 (by decide) ?_
          refine EW_icmp_ne (tgt := 50) (pc2 := 46) rfl dX12_actionOf_43 (by decide) (fun q => ?_) (fun q => ?_)
          · replace h := h.1 q
            refine EW_iconst (pc2 := 51) (v := (-1)) rfl dX12_actionOf_50 (by decide) ?_
            exact AW_iret rfl dX12_actionOf_51 ⟨_, rfl, rfl, h⟩
          · replace h := h.2 q
            refine EW_iconst (pc2 := 47) (v := 4) rfl dX12_actionOf_46 (by decide) ?_
            refine EW_goto (tgt := 51) dX12_actionOf_47 (by decide) ?_
            exact AW_iret rfl dX12_actionOf_51 ⟨_, rfl, rfl, h⟩
        · replace h := h.2 q
          refine EW_iconst (pc2 := 37) (v := 3) rfl dX12_actionOf_36 (by decide) ?_
          refine EW_goto (tgt := 51) dX12_actionOf_37 (by decide) ?_
          exact AW_iret rfl dX12_actionOf_51 ⟨_, rfl, rfl, h⟩
      · replace h := h.2 q
        refine EW_iconst (pc2 := 27) (v := 2) rfl dX12_actionOf_26 (by decide) ?_
        refine EW_goto (tgt := 51) dX12_actionOf_27 (by decide) ?_
        exact AW_iret rfl dX12_actionOf_51 ⟨_, rfl, rfl, h⟩
    · replace h := h.2 q
      refine EW_iconst (pc2 := 17) (v := 1) rfl dX12_actionOf_16 (by decide) ?_
      refine EW_goto (tgt := 51) dX12_actionOf_17 (by decide) ?_
      exact AW_iret rfl dX12_actionOf_51 ⟨_, rfl, rfl, h⟩
  · replace h := h.2 q
    refine EW_iconst (pc2 := 7) (v := 0) rfl dX12_actionOf_6 (by decide) ?_
    refine EW_goto (tgt := 51) dX12_actionOf_7 (by decide) ?_
    exact AW_iret rfl dX12_actionOf_51 ⟨_, rfl, rfl, h⟩
