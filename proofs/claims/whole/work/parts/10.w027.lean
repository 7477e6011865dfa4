theorem mlRX5_86 : Cond.methodLink RX5 86 yX5_failures ∈ ab_G ∧ Cond.instanceMethod yX5_failures ∈ ab_G ∧ Cond.selects RX5 yX5_failures yX5_failures ∈ ab_G := ⟨ab_in 1584 (by decide +kernel) (by decide +kernel), ab_in 1556 (by decide +kernel) (by decide +kernel), ab_in 1557 (by decide +kernel) (by decide +kernel)⟩
theorem gfRX5_89 : ab_L RX5 89 9 8 := ⟨by decide, by decide, ab_in 380 (by decide +kernel) (by decide +kernel)⟩
abbrev MX5_codeAt : ab_M := (yX5_codeAt, cX5_codeAt, 5, (some .int))
theorem dX5_codeAt_0 : decode cX5_codeAt 0 = .ok (.aload_n 0, 1) := by decide +kernel
theorem dX5_codeAt_1 : decode cX5_codeAt 1 = .ok (.iload_n 1, 1) := by decide +kernel
theorem dX5_codeAt_2 : decode cX5_codeAt 2 = .ok (.iload_n 2, 1) := by decide +kernel
theorem dX5_codeAt_3 : decode cX5_codeAt 3 = .ok (.invokevirtual 67, 3) := by decide +kernel
theorem dX5_codeAt_6 : decode cX5_codeAt 6 = .ok (.istore 4, 2) := by decide +kernel
theorem dX5_codeAt_8 : decode cX5_codeAt 8 = .ok (.iload 4, 2) := by decide +kernel
theorem dX5_codeAt_10 : decode cX5_codeAt 10 = .ok (.aload_n 0, 1) := by decide +kernel
theorem dX5_codeAt_11 : decode cX5_codeAt 11 = .ok (.getfield 46, 3) := by decide +kernel
theorem dX5_codeAt_14 : decode cX5_codeAt 14 = .ok (.invokestatic 71, 3) := by decide +kernel
theorem dX5_codeAt_17 : decode cX5_codeAt 17 = .ok (.ifCond .eq 31, 3) := by decide +kernel
theorem dX5_codeAt_20 : decode cX5_codeAt 20 = .ok (.iload_n 3, 1) := by decide +kernel
theorem dX5_codeAt_21 : decode cX5_codeAt 21 = .ok (.aload_n 0, 1) := by decide +kernel
theorem dX5_codeAt_22 : decode cX5_codeAt 22 = .ok (.iload_n 1, 1) := by decide +kernel
theorem dX5_codeAt_23 : decode cX5_codeAt 23 = .ok (.iload_n 2, 1) := by decide +kernel
theorem dX5_codeAt_24 : decode cX5_codeAt 24 = .ok (.invokevirtual 86, 3) := by decide +kernel
theorem dX5_codeAt_27 : decode cX5_codeAt 27 = .ok (.invokestatic 71, 3) := by decide +kernel
theorem dX5_codeAt_30 : decode cX5_codeAt 30 = .ok (.ifCond .eq 18, 3) := by decide +kernel
theorem dX5_codeAt_33 : decode cX5_codeAt 33 = .ok (.aload_n 0, 1) := by decide +kernel
theorem dX5_codeAt_34 : decode cX5_codeAt 34 = .ok (.getfield 11, 3) := by decide +kernel
theorem dX5_codeAt_37 : decode cX5_codeAt 37 = .ok (.iload 4, 2) := by decide +kernel
theorem dX5_codeAt_39 : decode cX5_codeAt 39 = .ok (.aaload, 1) := by decide +kernel
theorem dX5_codeAt_40 : decode cX5_codeAt 40 = .ok (.getfield 89, 3) := by decide +kernel
theorem dX5_codeAt_43 : decode cX5_codeAt 43 = .ok (.iload_n 3, 1) := by decide +kernel
theorem dX5_codeAt_44 : decode cX5_codeAt 44 = .ok (.iaload, 1) := by decide +kernel
theorem dX5_codeAt_45 : decode cX5_codeAt 45 = .ok (.goto 4, 3) := by decide +kernel
theorem dX5_codeAt_48 : decode cX5_codeAt 48 = .ok (.iconst (-1), 1) := by decide +kernel
theorem dX5_codeAt_49 : decode cX5_codeAt 49 = .ok (.ireturn, 1) := by decide +kernel
theorem okX5_codeAt : ab_okM MX5_codeAt 3 := ⟨by decide, ⟨by decide, by decide⟩, ab_in 1583 (by decide +kernel) (by decide +kernel), ab_in 97 (by decide +kernel) (by decide +kernel), by decide +kernel, by decide⟩
set_option maxHeartbeats 4000000 in
set_option maxRecDepth 100000 in
def wX5_codeAt (v1 : Int32) (v2 : Int32) (v3 : Int32) (x : ab_X) (K : Int32 → ab_X → Prop) : Prop := wX5_actFor v1 v2 x (fun r1 => wX11_below r1 (x.1 165 4) x (fun r2 => ((r2 = 0 → K (-1) x) ∧ (¬ r2 = 0 → wX5_failures v1 v2 x (fun r3 x4 => wX11_below v3 r3 x4 (fun r5 => ((r5 = 0 → K (-1) x4) ∧ (¬ r5 = 0 → (vp_in r1 12 ∧ vp_in v3 40 ∧ K (x4.1 ((174 + 5 * Int32.toNatClampNeg r1) + 4) (Int32.toNatClampNeg v3)) x4)))))))))
set_option maxHeartbeats 4000000 in
set_option maxRecDepth 100000 in
theorem sX5_codeAt (v1 : Int32) (v2 : Int32) (v3 : Int32)  (x : ab_X) (K : Int32 → ab_X → Prop) (d bc bs : Nat) (hdp : 4 ≤ d) (h : wX5_codeAt v1 v2 v3 x K) : EW MX5_codeAt 0 [(0, .ref 165), (1, .int v1), (2, .int v2), (3, .int v3)] [] (aS x) d bc bs (liI K) := by
  unfold wX5_codeAt at h
  refine EW_aload_n (pc2 := 1) rfl dX5_codeAt_0 0 rfl ?_
  refine EW_iload_n (pc2 := 2) rfl dX5_codeAt_1 1 rfl ?_
  refine EW_iload_n (pc2 := 3) rfl dX5_codeAt_2 2 rfl ?_
  refine AW_invV (M' := MX5_actFor) [.int v1, .int v2] (rest := []) mlRX5_67 okX5_actFor (pc2 := 6) rfl dX5_codeAt_3 rfl rfl (Nat.le_of_ble_eq_true rfl) (Nat.le_of_ble_eq_true rfl) (d' := 0) (by omega) q165 ⟨by decide, rfl⟩ (EW_mono (fun _ _ hr => ?_) (sX5_actFor v1 v2  x _ _ 0 0 (Nat.le_refl _) h))
  obtain ⟨r1, rfl, rfl, h⟩ := hr
  refine EW_istore (pc2 := 8) rfl dX5_codeAt_6 (by decide) [1, 2, 3, 4, 0] [(0, .ref 165), (1, .int v1), (2, .int v2), (3, .int v3), (4, .int r1)] rfl ?_
  refine EW_iload (pc2 := 10) rfl dX5_codeAt_8 4 rfl ?_
  refine EW_aload_n (pc2 := 11) rfl dX5_codeAt_10 0 rfl ?_
  refine AW_geti ⟨gfRX5_46, rfl⟩ (pc2 := 14) rfl dX5_codeAt_11 q165 ?_
  refine AW_invSN (M' := MX11_below) [.int r1, .int (x.1 165 4)] (rest := []) mlRX5_71 okX11_below (pc2 := 17) rfl dX5_codeAt_14 rfl rfl (Nat.le_of_ble_eq_true rfl) (Nat.le_of_ble_eq_true rfl) (d' := 0) (by omega) (EW_mono (fun _ _ hr => ?_) (sX11_below r1 (x.1 165 4)  x _ _ 0 0 (Nat.le_refl _) h))
  obtain ⟨r2, rfl, rfl, h⟩ := hr
  refine EW_if_eq (tgt := 48) (pc2 := 20) rfl dX5_codeAt_17 (by decide) (fun q => ?_) (fun q => ?_)
  · replace h := h.1 q
    refine EW_iconst (pc2 := 49) (v := (-1)) rfl dX5_codeAt_48 (by decide) ?_
    exact AW_iret rfl dX5_codeAt_49 ⟨_, _, rfl, rfl, h⟩
  · replace h := h.2 q
    refine EW_iload_n (pc2 := 21) rfl dX5_codeAt_20 3 rfl ?_
    refine EW_aload_n (pc2 := 22) rfl dX5_codeAt_21 0 rfl ?_
    refine EW_iload_n (pc2 := 23) rfl dX5_codeAt_22 1 rfl ?_
    refine EW_iload_n (pc2 := 24) rfl dX5_codeAt_23 2 rfl ?_
    refine AW_invV (M' := MX5_failures) [.int v1, .int v2] (rest := [.int v3]) mlRX5_86 okX5_failures (pc2 := 27) rfl dX5_codeAt_24 rfl rfl (Nat.le_of_ble_eq_true rfl) (Nat.le_of_ble_eq_true rfl) (d' := 3) (by omega) q165 ⟨by decide, rfl⟩ (EW_mono (fun _ _ hr => ?_) (sX5_failures v1 v2  x _ _ 0 0 (Nat.le_refl _) h))
    obtain ⟨r3, x4, rfl, rfl, h⟩ := hr
    refine AW_invSN (M' := MX11_below) [.int v3, .int r3] (rest := []) mlRX5_71 okX11_below (pc2 := 30) rfl dX5_codeAt_27 rfl rfl (Nat.le_of_ble_eq_true rfl) (Nat.le_of_ble_eq_true rfl) (d' := 0) (by omega) (EW_mono (fun _ _ hr => ?_) (sX11_below v3 r3  x4 _ _ 0 0 (Nat.le_refl _) h))
    obtain ⟨r5, rfl, rfl, h⟩ := hr
    refine EW_if_eq (tgt := 48) (pc2 := 33) rfl dX5_codeAt_30 (by decide) (fun q => ?_) (fun q => ?_)
    · replace h := h.1 q
      refine EW_iconst (pc2 := 49) (v := (-1)) rfl dX5_codeAt_48 (by decide) ?_
      exact AW_iret rfl dX5_codeAt_49 ⟨_, _, rfl, rfl, h⟩
    · replace h := h.2 q
      refine EW_aload_n (pc2 := 34) rfl dX5_codeAt_33 0 rfl ?_
      refine AW_getr (r := 166) ⟨gfRX5_11, rfl⟩ (pc2 := 37) rfl dX5_codeAt_34 q165 rfl ?_
      refine EW_iload (pc2 := 39) rfl dX5_codeAt_37 4 rfl ?_
      obtain ⟨b6, h⟩ := h
      refine AW_aald8 (pc2 := 40) rfl dX5_codeAt_39 b6 ?_
      refine AW_getr (r := ((174 + 5 * Int32.toNatClampNeg r1) + 4)) ⟨gfRX5_89, rfl⟩ (pc2 := 43) rfl dX5_codeAt_40 (isT.o (isT_of b6)) (isT.r8 (isT_of b6)) ?_
      refine EW_iload_n (pc2 := 44) rfl dX5_codeAt_43 3 rfl ?_
      obtain ⟨b7, h⟩ := h
      refine AW_iald (pc2 := 45) rfl dX5_codeAt_44 (isT.a8 (isT_of b6)) b7 ?_
      refine EW_goto (tgt := 49) dX5_codeAt_45 (by decide) ?_
      exact AW_iret rfl dX5_codeAt_49 ⟨_, _, rfl, rfl, h⟩
theorem mlRX11_429 : Cond.methodLink RX11 429 yX5_failures ∈ ab_G ∧ Cond.instanceMethod yX5_failures ∈ ab_G ∧ Cond.selects RX5 yX5_failures yX5_failures ∈ ab_G := ⟨ab_in 1555 (by decide +kernel) (by decide +kernel), ab_in 1556 (by decide +kernel) (by decide +kernel), ab_in 1557 (by decide +kernel) (by decide +kernel)⟩
theorem mlRX11_432 : Cond.methodLink RX11 432 yX5_codeAt ∈ ab_G ∧ Cond.instanceMethod yX5_codeAt ∈ ab_G ∧ Cond.selects RX5 yX5_codeAt yX5_codeAt ∈ ab_G := ⟨ab_in 1580 (by decide +kernel) (by decide +kernel), ab_in 1581 (by decide +kernel) (by decide +kernel), ab_in 1582 (by decide +kernel) (by decide +kernel)⟩
abbrev MX11_code : ab_M := (yX11_code, cX11_code, 4, (some .int))
theorem dX11_code_0 : decode cX11_code 0 = .ok (.aload_n 0, 1) := by decide +kernel
theorem dX11_code_1 : decode cX11_code 1 = .ok (.iload_n 1, 1) := by decide +kernel
theorem dX11_code_2 : decode cX11_code 2 = .ok (.iload_n 2, 1) := by decide +kernel
theorem dX11_code_3 : decode cX11_code 3 = .ok (.invokevirtual 416, 3) := by decide +kernel
theorem dX11_code_6 : decode cX11_code 6 = .ok (.ifCond .eq 19, 3) := by decide +kernel
theorem dX11_code_9 : decode cX11_code 9 = .ok (.iload_n 3, 1) := by decide +kernel
theorem dX11_code_10 : decode cX11_code 10 = .ok (.aload_n 0, 1) := by decide +kernel
theorem dX11_code_11 : decode cX11_code 11 = .ok (.getfield 46, 3) := by decide +kernel
theorem dX11_code_14 : decode cX11_code 14 = .ok (.iload_n 1, 1) := by decide +kernel
theorem dX11_code_15 : decode cX11_code 15 = .ok (.iload_n 2, 1) := by decide +kernel
theorem dX11_code_16 : decode cX11_code 16 = .ok (.invokevirtual 429, 3) := by decide +kernel
theorem dX11_code_19 : decode cX11_code 19 = .ok (.invokestatic 86, 3) := by decide +kernel
theorem dX11_code_22 : decode cX11_code 22 = .ok (.ifCond .ne 5, 3) := by decide +kernel
theorem dX11_code_25 : decode cX11_code 25 = .ok (.iconst (-1), 1) := by decide +kernel
theorem dX11_code_26 : decode cX11_code 26 = .ok (.ireturn, 1) := by decide +kernel
theorem dX11_code_27 : decode cX11_code 27 = .ok (.aload_n 0, 1) := by decide +kernel
theorem dX11_code_28 : decode cX11_code 28 = .ok (.getfield 46, 3) := by decide +kernel
theorem dX11_code_31 : decode cX11_code 31 = .ok (.iload_n 1, 1) := by decide +kernel
theorem dX11_code_32 : decode cX11_code 32 = .ok (.iload_n 2, 1) := by decide +kernel
theorem dX11_code_33 : decode cX11_code 33 = .ok (.iload_n 3, 1) := by decide +kernel
theorem dX11_code_34 : decode cX11_code 34 = .ok (.invokevirtual 432, 3) := by decide +kernel
theorem dX11_code_37 : decode cX11_code 37 = .ok (.ireturn, 1) := by decide +kernel
theorem okX11_code : ab_okM MX11_code 3 := ⟨by decide, ⟨by decide, by decide⟩, ab_in 1579 (by decide +kernel) (by decide +kernel), ab_in 86 (by decide +kernel) (by decide +kernel), by decide +kernel, by decide⟩
set_option maxHeartbeats 4000000 in
set_option maxRecDepth 100000 in
def wX11_code (v1 : Int32) (v2 : Int32) (v3 : Int32) (x : ab_X) (K : Int32 → ab_X → Prop) : Prop := wX11_isKnown v1 v2 x (fun r1 => ((r1 = 0 → K (-1) x) ∧ (¬ r1 = 0 → wX5_failures v1 v2 x (fun r2 x3 => wX11_below v3 r2 x3 (fun r4 => ((¬ r4 = 0 → wX5_codeAt v1 v2 v3 x3 (fun r5 x6 => K r5 x6)) ∧ (r4 = 0 → K (-1) x3)))))))
set_option maxHeartbeats 4000000 in
set_option maxRecDepth 100000 in
theorem sX11_code (v1 : Int32) (v2 : Int32) (v3 : Int32)  (x : ab_X) (K : Int32 → ab_X → Prop) (d bc bs : Nat) (hdp : 5 ≤ d) (h : wX11_code v1 v2 v3 x K) : EW MX11_code 0 [(0, .ref 0), (1, .int v1), (2, .int v2), (3, .int v3)] [] (aS x) d bc bs (liI K) := by
  unfold wX11_code at h
  refine EW_aload_n (pc2 := 1) rfl dX11_code_0 0 rfl ?_
  refine EW_iload_n (pc2 := 2) rfl dX11_code_1 1 rfl ?_
  refine EW_iload_n (pc2 := 3) rfl dX11_code_2 2 rfl ?_
  refine AW_invV (M' := MX11_isKnown) [.int v1, .int v2] (rest := []) mlRX11_416 okX11_isKnown (pc2 := 6) rfl dX11_code_3 rfl rfl (Nat.le_of_ble_eq_true rfl) (Nat.le_of_ble_eq_true rfl) (d' := 2) (by omega) q0 ⟨by decide, rfl⟩ (EW_mono (fun _ _ hr => ?_) (sX11_isKnown v1 v2  x _ _ 0 0 (Nat.le_refl _) h))
  obtain ⟨r1, rfl, rfl, h⟩ := hr
  refine EW_if_eq (tgt := 25) (pc2 := 9) rfl dX11_code_6 (by decide) (fun q => ?_) (fun q => ?_)
  · replace h := h.1 q
    refine EW_iconst (pc2 := 26) (v := (-1)) rfl dX11_code_25 (by decide) ?_
    exact AW_iret rfl dX11_code_26 ⟨_, _, rfl, rfl, h⟩
  · replace h := h.2 q
    refine EW_iload_n (pc2 := 10) rfl dX11_code_9 3 rfl ?_
    refine EW_aload_n (pc2 := 11) rfl dX11_code_10 0 rfl ?_
    refine AW_getr (r := 165) ⟨gfRX11_46, rfl⟩ (pc2 := 14) rfl dX11_code_11 q0 rfl ?_
    refine EW_iload_n (pc2 := 15) rfl dX11_code_14 1 rfl ?_
    refine EW_iload_n (pc2 := 16) rfl dX11_code_15 2 rfl ?_
    refine AW_invV (M' := MX5_failures) [.int v1, .int v2] (rest := [.int v3]) mlRX11_429 okX5_failures (pc2 := 19) rfl dX11_code_16 rfl rfl (Nat.le_of_ble_eq_true rfl) (Nat.le_of_ble_eq_true rfl) (d' := 3) (by omega) q165 ⟨by decide, rfl⟩ (EW_mono (fun _ _ hr => ?_) (sX5_failures v1 v2  x _ _ 0 0 (Nat.le_refl _) h))
    obtain ⟨r2, x3, rfl, rfl, h⟩ := hr
    refine AW_invS (M' := MX11_below) [.int v3, .int r2] (rest := []) mlRX11_86 okX11_below (pc2 := 22) rfl dX11_code_19 rfl rfl (Nat.le_of_ble_eq_true rfl) (Nat.le_of_ble_eq_true rfl) (d' := 0) (by omega) (EW_mono (fun _ _ hr => ?_) (sX11_below v3 r2  x3 _ _ 0 0 (Nat.le_refl _) h))
    obtain ⟨r4, rfl, rfl, h⟩ := hr
    refine EW_if_ne (tgt := 27) (pc2 := 25) rfl dX11_code_22 (by decide) (fun q => ?_) (fun q => ?_)
    · replace h := h.1 q
      refine EW_aload_n (pc2 := 28) rfl dX11_code_27 0 rfl ?_
      refine AW_getr (r := 165) ⟨gfRX11_46, rfl⟩ (pc2 := 31) rfl dX11_code_28 q0 rfl ?_
      refine EW_iload_n (pc2 := 32) rfl dX11_code_31 1 rfl ?_
      refine EW_iload_n (pc2 := 33) rfl dX11_code_32 2 rfl ?_
      refine EW_iload_n (pc2 := 34) rfl dX11_code_33 3 rfl ?_
      refine AW_invV (M' := MX5_codeAt) [.int v1, .int v2, .int v3] (rest := []) mlRX11_432 okX5_codeAt (pc2 := 37) rfl dX11_code_34 rfl rfl (Nat.le_of_ble_eq_true rfl) (Nat.le_of_ble_eq_true rfl) (d' := 4) (by omega) q165 ⟨by decide, rfl⟩ (EW_mono (fun _ _ hr => ?_) (sX5_codeAt v1 v2 v3  x3 _ _ 0 0 (Nat.le_refl _) h))
      obtain ⟨r5, x6, rfl, rfl, h⟩ := hr
      exact AW_iret rfl dX11_code_37 ⟨_, _, rfl, rfl, h⟩
    · replace h := h.2 q
      refine EW_iconst (pc2 := 26) (v := (-1)) rfl dX11_code_25 (by decide) ?_
      exact AW_iret rfl dX11_code_26 ⟨_, _, rfl, rfl, h⟩
theorem mlRX11_96 : Cond.methodLink RX11 96 yX6_arrival ∈ ab_G ∧ Cond.instanceMethod yX6_arrival ∈ ab_G ∧ Cond.selects RX6 yX6_arrival yX6_arrival ∈ ab_G := ⟨ab_in 804 (by decide +kernel) (by decide +kernel), ab_in 805 (by decide +kernel) (by decide +kernel), ab_in 806 (by decide +kernel) (by decide +kernel)⟩
abbrev MX11_come : ab_M := (yX11_come, cX11_come, 5, (some .int))
theorem dX11_come_0 : decode cX11_come 0 = .ok (.iload_n 3, 1) := by decide +kernel
theorem dX11_come_1 : decode cX11_come 1 = .ok (.iconst 0, 1) := by decide +kernel
theorem dX11_come_2 : decode cX11_come 2 = .ok (.sipush 30000, 3) := by decide +kernel
theorem dX11_come_5 : decode cX11_come 5 = .ok (.invokestatic 74, 3) := by decide +kernel
theorem dX11_come_8 : decode cX11_come 8 = .ok (.ifCond .eq 16, 3) := by decide +kernel
theorem dX11_come_11 : decode cX11_come 11 = .ok (.iload 4, 2) := by decide +kernel
theorem dX11_come_13 : decode cX11_come 13 = .ok (.bipush 50, 2) := by decide +kernel
theorem dX11_come_15 : decode cX11_come 15 = .ok (.sipush 300, 3) := by decide +kernel
theorem dX11_come_18 : decode cX11_come 18 = .ok (.invokestatic 74, 3) := by decide +kernel
theorem dX11_come_21 : decode cX11_come 21 = .ok (.ifCond .ne 5, 3) := by decide +kernel
theorem dX11_come_24 : decode cX11_come 24 = .ok (.iconst (-1), 1) := by decide +kernel
theorem dX11_come_25 : decode cX11_come 25 = .ok (.ireturn, 1) := by decide +kernel
theorem dX11_come_26 : decode cX11_come 26 = .ok (.aload_n 0, 1) := by decide +kernel
theorem dX11_come_27 : decode cX11_come 27 = .ok (.getfield 12, 3) := by decide +kernel
theorem dX11_come_30 : decode cX11_come 30 = .ok (.iload_n 1, 1) := by decide +kernel
theorem dX11_come_31 : decode cX11_come 31 = .ok (.iload_n 2, 1) := by decide +kernel
theorem dX11_come_32 : decode cX11_come 32 = .ok (.iload_n 3, 1) := by decide +kernel
theorem dX11_come_33 : decode cX11_come 33 = .ok (.iload 4, 2) := by decide +kernel
theorem dX11_come_35 : decode cX11_come 35 = .ok (.invokevirtual 96, 3) := by decide +kernel
theorem dX11_come_38 : decode cX11_come 38 = .ok (.ireturn, 1) := by decide +kernel
theorem okX11_come : ab_okM MX11_come 4 := ⟨by decide, ⟨by decide, by decide⟩, ab_in 803 (by decide +kernel) (by decide +kernel), ab_in 86 (by decide +kernel) (by decide +kernel), by decide +kernel, by decide⟩
set_option maxHeartbeats 4000000 in
set_option maxRecDepth 100000 in
def wX11_come (v1 : Int32) (v2 : Int32) (v3 : Int32) (v4 : Int32) (x : ab_X) (K : Int32 → ab_X → Prop) : Prop := wX11_within v3 0 30000 x (fun r1 => ((r1 = 0 → K (-1) x) ∧ (¬ r1 = 0 → wX11_within v4 50 300 x (fun r2 => ((¬ r2 = 0 → wX6_arrival v1 v2 v3 v4 x (fun r3 x4 => K r3 x4)) ∧ (r2 = 0 → K (-1) x))))))
set_option maxHeartbeats 4000000 in
set_option maxRecDepth 100000 in
theorem sX11_come (v1 : Int32) (v2 : Int32) (v3 : Int32) (v4 : Int32)  (x : ab_X) (K : Int32 → ab_X → Prop) (d bc bs : Nat) (hdp : 2 ≤ d) (h : wX11_come v1 v2 v3 v4 x K) : EW MX11_come 0 [(0, .ref 0), (1, .int v1), (2, .int v2), (3, .int v3), (4, .int v4)] [] (aS x) d bc bs (liI K) := by
  unfold wX11_come at h
  refine EW_iload_n (pc2 := 1) rfl dX11_come_0 3 rfl ?_
  refine EW_iconst (pc2 := 2) (v := 0) rfl dX11_come_1 (by decide) ?_
  refine EW_sipush (pc2 := 5) (v := 30000) rfl dX11_come_2 (by decide) ?_
  refine AW_invS (M' := MX11_within) [.int v3, .int 0, .int 30000] (rest := []) mlRX11_74 okX11_within (pc2 := 8) rfl dX11_come_5 rfl rfl (Nat.le_of_ble_eq_true rfl) (Nat.le_of_ble_eq_true rfl) (d' := 0) (by omega) (EW_mono (fun _ _ hr => ?_) (sX11_within v3 0 30000  x _ _ 0 0 (Nat.le_refl _) h))
  obtain ⟨r1, rfl, rfl, h⟩ := hr
  refine EW_if_eq (tgt := 24) (pc2 := 11) rfl dX11_come_8 (by decide) (fun q => ?_) (fun q => ?_)
  · replace h := h.1 q
    refine EW_iconst (pc2 := 25) (v := (-1)) rfl dX11_come_24 (by decide) ?_
    exact AW_iret rfl dX11_come_25 ⟨_, _, rfl, rfl, h⟩
  · replace h := h.2 q
    refine EW_iload (pc2 := 13) rfl dX11_come_11 4 rfl ?_
    refine EW_bipush (pc2 := 15) (v := 50) rfl dX11_come_13 (by decide) ?_
    refine EW_sipush (pc2 := 18) (v := 300) rfl dX11_come_15 (by decide) ?_
    refine AW_invS (M' := MX11_within) [.int v4, .int 50, .int 300] (rest := []) mlRX11_74 okX11_within (pc2 := 21) rfl dX11_come_18 rfl rfl (Nat.le_of_ble_eq_true rfl) (Nat.le_of_ble_eq_true rfl) (d' := 0) (by omega) (EW_mono (fun _ _ hr => ?_) (sX11_within v4 50 300  x _ _ 0 0 (Nat.le_refl _) h))
    obtain ⟨r2, rfl, rfl, h⟩ := hr
    refine EW_if_ne (tgt := 26) (pc2 := 24) rfl dX11_come_21 (by decide) (fun q => ?_) (fun q => ?_)
    · replace h := h.1 q
      refine EW_aload_n (pc2 := 27) rfl dX11_come_26 0 rfl ?_
      refine AW_getr (r := 1) ⟨gfRX11_12, rfl⟩ (pc2 := 30) rfl dX11_come_27 q0 rfl ?_
      refine EW_iload_n (pc2 := 31) rfl dX11_come_30 1 rfl ?_
      refine EW_iload_n (pc2 := 32) rfl dX11_come_31 2 rfl ?_
      refine EW_iload_n (pc2 := 33) rfl dX11_come_32 3 rfl ?_
      refine EW_iload (pc2 := 35) rfl dX11_come_33 4 rfl ?_
      refine AW_invV (M' := MX6_arrival) [.int v1, .int v2, .int v3, .int v4] (rest := []) mlRX11_96 okX6_arrival (pc2 := 38) rfl dX11_come_35 rfl rfl (Nat.le_of_ble_eq_true rfl) (Nat.le_of_ble_eq_true rfl) (d' := 1) (by omega) q1 ⟨by decide, rfl⟩ (EW_mono (fun _ _ hr => ?_) (sX6_arrival v1 v2 v3 v4  x _ _ 0 0 (Nat.le_refl _) h))
      obtain ⟨r3, x4, rfl, rfl, h⟩ := hr
      exact AW_iret rfl dX11_come_38 ⟨_, _, rfl, rfl, h⟩
    · replace h := h.2 q
      refine EW_iconst (pc2 := 25) (v := (-1)) rfl dX11_come_24 (by decide) ?_
      exact AW_iret rfl dX11_come_25 ⟨_, _, rfl, rfl, h⟩
theorem gfRX11_59 : ab_L RX11 59 11 6 := ⟨by decide, by decide, ab_in 738 (by decide +kernel) (by decide +kernel)⟩
theorem gfRX11_67 : ab_L RX11 67 11 8 := ⟨by decide, by decide, ab_in 740 (by decide +kernel) (by decide +kernel)⟩
theorem mmRX11_474 : Cond.methodLink RX11 474 arraycopyName ∈ ab_G ∧ Cond.native arraycopyName ∈ ab_G ∧ Cond.static arraycopyName ∈ ab_G ∧ Cond.initialized "java/lang/System" ∈ ab_G := ⟨ab_in 1708 (by decide +kernel) (by decide +kernel), ab_in 1337 (by decide +kernel) (by decide +kernel), ab_in 1336 (by decide +kernel) (by decide +kernel), ab_in 111 (by decide +kernel) (by decide +kernel)⟩
abbrev MX11_copy : ab_M := (yX11_copy, cX11_copy, 6, (some .int))
theorem dX11_copy_0 : decode cX11_copy 0 = .ok (.iload_n 1, 1) := by decide +kernel
theorem dX11_copy_1 : decode cX11_copy 1 = .ok (.aload_n 0, 1) := by decide +kernel
theorem dX11_copy_2 : decode cX11_copy 2 = .ok (.getfield 464, 3) := by decide +kernel
theorem dX11_copy_5 : decode cX11_copy 5 = .ok (.invokestatic 86, 3) := by decide +kernel
theorem dX11_copy_8 : decode cX11_copy 8 = .ok (.ifCond .eq 14, 3) := by decide +kernel
theorem dX11_copy_11 : decode cX11_copy 11 = .ok (.iload_n 3, 1) := by decide +kernel
theorem dX11_copy_12 : decode cX11_copy 12 = .ok (.aload_n 0, 1) := by decide +kernel
theorem dX11_copy_13 : decode cX11_copy 13 = .ok (.getfield 464, 3) := by decide +kernel
theorem dX11_copy_16 : decode cX11_copy 16 = .ok (.invokestatic 86, 3) := by decide +kernel
theorem dX11_copy_19 : decode cX11_copy 19 = .ok (.ifCond .ne 5, 3) := by decide +kernel
theorem dX11_copy_22 : decode cX11_copy 22 = .ok (.iconst 1, 1) := by decide +kernel
theorem dX11_copy_23 : decode cX11_copy 23 = .ok (.ireturn, 1) := by decide +kernel
theorem dX11_copy_24 : decode cX11_copy 24 = .ok (.aload_n 0, 1) := by decide +kernel
theorem dX11_copy_25 : decode cX11_copy 25 = .ok (.getfield 63, 3) := by decide +kernel
theorem dX11_copy_28 : decode cX11_copy 28 = .ok (.iload_n 1, 1) := by decide +kernel
theorem dX11_copy_29 : decode cX11_copy 29 = .ok (.baload, 1) := by decide +kernel
theorem dX11_copy_30 : decode cX11_copy 30 = .ok (.ifCond .ne 12, 3) := by decide +kernel
theorem dX11_copy_33 : decode cX11_copy 33 = .ok (.aload_n 0, 1) := by decide +kernel
theorem dX11_copy_34 : decode cX11_copy 34 = .ok (.getfield 63, 3) := by decide +kernel
theorem dX11_copy_37 : decode cX11_copy 37 = .ok (.iload_n 3, 1) := by decide +kernel
theorem dX11_copy_38 : decode cX11_copy 38 = .ok (.baload, 1) := by decide +kernel
theorem dX11_copy_39 : decode cX11_copy 39 = .ok (.ifCond .eq 5, 3) := by decide +kernel
theorem dX11_copy_42 : decode cX11_copy 42 = .ok (.iconst 2, 1) := by decide +kernel
theorem dX11_copy_43 : decode cX11_copy 43 = .ok (.ireturn, 1) := by decide +kernel
theorem dX11_copy_44 : decode cX11_copy 44 = .ok (.aload_n 0, 1) := by decide +kernel
theorem dX11_copy_45 : decode cX11_copy 45 = .ok (.getfield 59, 3) := by decide +kernel
theorem dX11_copy_48 : decode cX11_copy 48 = .ok (.iload_n 1, 1) := by decide +kernel
theorem dX11_copy_49 : decode cX11_copy 49 = .ok (.iaload, 1) := by decide +kernel
theorem dX11_copy_50 : decode cX11_copy 50 = .ok (.aload_n 0, 1) := by decide +kernel
theorem dX11_copy_51 : decode cX11_copy 51 = .ok (.getfield 59, 3) := by decide +kernel
theorem dX11_copy_54 : decode cX11_copy 54 = .ok (.iload_n 3, 1) := by decide +kernel
theorem dX11_copy_55 : decode cX11_copy 55 = .ok (.iaload, 1) := by decide +kernel
theorem dX11_copy_56 : decode cX11_copy 56 = .ok (.if_icmp .eq 5, 3) := by decide +kernel
theorem dX11_copy_59 : decode cX11_copy 59 = .ok (.iconst 3, 1) := by decide +kernel
theorem dX11_copy_60 : decode cX11_copy 60 = .ok (.ireturn, 1) := by decide +kernel
theorem dX11_copy_61 : decode cX11_copy 61 = .ok (.iload 5, 2) := by decide +kernel
theorem dX11_copy_63 : decode cX11_copy 63 = .ok (.iconst 0, 1) := by decide +kernel
theorem dX11_copy_64 : decode cX11_copy 64 = .ok (.bipush 20, 2) := by decide +kernel
theorem dX11_copy_66 : decode cX11_copy 66 = .ok (.invokestatic 74, 3) := by decide +kernel
theorem dX11_copy_69 : decode cX11_copy 69 = .ok (.ifCond .eq 30, 3) := by decide +kernel
theorem dX11_copy_72 : decode cX11_copy 72 = .ok (.iload_n 2, 1) := by decide +kernel
theorem dX11_copy_73 : decode cX11_copy 73 = .ok (.iconst 0, 1) := by decide +kernel
theorem dX11_copy_74 : decode cX11_copy 74 = .ok (.bipush 20, 2) := by decide +kernel
theorem dX11_copy_76 : decode cX11_copy 76 = .ok (.iload 5, 2) := by decide +kernel
theorem dX11_copy_78 : decode cX11_copy 78 = .ok (.isub, 1) := by decide +kernel
theorem dX11_copy_79 : decode cX11_copy 79 = .ok (.invokestatic 74, 3) := by decide +kernel
theorem dX11_copy_82 : decode cX11_copy 82 = .ok (.ifCond .eq 17, 3) := by decide +kernel
theorem dX11_copy_85 : decode cX11_copy 85 = .ok (.iload 4, 2) := by decide +kernel
theorem dX11_copy_87 : decode cX11_copy 87 = .ok (.iconst 0, 1) := by decide +kernel
theorem dX11_copy_88 : decode cX11_copy 88 = .ok (.bipush 20, 2) := by decide +kernel
theorem dX11_copy_90 : decode cX11_copy 90 = .ok (.iload 5, 2) := by decide +kernel
theorem dX11_copy_92 : decode cX11_copy 92 = .ok (.isub, 1) := by decide +kernel
theorem dX11_copy_93 : decode cX11_copy 93 = .ok (.invokestatic 74, 3) := by decide +kernel
theorem dX11_copy_96 : decode cX11_copy 96 = .ok (.ifCond .ne 5, 3) := by decide +kernel
theorem dX11_copy_99 : decode cX11_copy 99 = .ok (.iconst 4, 1) := by decide +kernel
theorem dX11_copy_100 : decode cX11_copy 100 = .ok (.ireturn, 1) := by decide +kernel
theorem dX11_copy_101 : decode cX11_copy 101 = .ok (.aload_n 0, 1) := by decide +kernel
theorem dX11_copy_102 : decode cX11_copy 102 = .ok (.getfield 67, 3) := by decide +kernel
theorem dX11_copy_105 : decode cX11_copy 105 = .ok (.iload_n 1, 1) := by decide +kernel
theorem dX11_copy_106 : decode cX11_copy 106 = .ok (.bipush 20, 2) := by decide +kernel
theorem dX11_copy_108 : decode cX11_copy 108 = .ok (.imul, 1) := by decide +kernel
theorem dX11_copy_109 : decode cX11_copy 109 = .ok (.iload_n 2, 1) := by decide +kernel
theorem dX11_copy_110 : decode cX11_copy 110 = .ok (.iadd, 1) := by decide +kernel
theorem dX11_copy_111 : decode cX11_copy 111 = .ok (.aload_n 0, 1) := by decide +kernel
theorem dX11_copy_112 : decode cX11_copy 112 = .ok (.getfield 67, 3) := by decide +kernel
theorem dX11_copy_115 : decode cX11_copy 115 = .ok (.iload_n 3, 1) := by decide +kernel
theorem dX11_copy_116 : decode cX11_copy 116 = .ok (.bipush 20, 2) := by decide +kernel
theorem dX11_copy_118 : decode cX11_copy 118 = .ok (.imul, 1) := by decide +kernel
theorem dX11_copy_119 : decode cX11_copy 119 = .ok (.iload 4, 2) := by decide +kernel
theorem dX11_copy_121 : decode cX11_copy 121 = .ok (.iadd, 1) := by decide +kernel
theorem dX11_copy_122 : decode cX11_copy 122 = .ok (.iload 5, 2) := by decide +kernel
theorem dX11_copy_124 : decode cX11_copy 124 = .ok (.invokestatic 474, 3) := by decide +kernel
theorem dX11_copy_127 : decode cX11_copy 127 = .ok (.iconst 0, 1) := by decide +kernel
theorem dX11_copy_128 : decode cX11_copy 128 = .ok (.ireturn, 1) := by decide +kernel
theorem okX11_copy : ab_okM MX11_copy 5 := ⟨by decide, ⟨by decide, by decide⟩, ab_in 1707 (by decide +kernel) (by decide +kernel), ab_in 86 (by decide +kernel) (by decide +kernel), by decide +kernel, by decide⟩
set_option maxHeartbeats 4000000 in
set_option maxRecDepth 100000 in
def wX11_copy (v1 : Int32) (v2 : Int32) (v3 : Int32) (v4 : Int32) (v5 : Int32) (x : ab_X) (K : Int32 → ab_X → Prop) : Prop := wX11_below v1 (x.1 0 9) x (fun r1 => ((r1 = 0 → K 1 x) ∧ (¬ r1 = 0 → wX11_below v3 (x.1 0 9) x (fun r2 => ((¬ r2 = 0 → (vp_in v1 6 ∧ ((¬ (x.1 244 (Int32.toNatClampNeg v1)) = 0 → K 2 x) ∧ ((x.1 244 (Int32.toNatClampNeg v1)) = 0 → (vp_in v3 6 ∧ (((x.1 244 (Int32.toNatClampNeg v3)) = 0 → (vp_in v1 6 ∧ vp_in v3 6 ∧ (((x.1 243 (Int32.toNatClampNeg v1)) = (x.1 243 (Int32.toNatClampNeg v3)) → wX11_within v5 0 20 x (fun r7 => ((r7 = 0 → K 4 x) ∧ (¬ r7 = 0 → wX11_within v2 0 (20 - v5) x (fun r8 => ((r8 = 0 → K 4 x) ∧ (¬ r8 = 0 → wX11_within v4 0 (20 - v5) x (fun r9 => ((¬ r9 = 0 → (¬ ((v1 * 20) + v2) < 0 ∧ ¬ ((v3 * 20) + v4) < 0 ∧ ¬ v5 < 0 ∧ (Int32.toNatClampNeg ((v1 * 20) + v2)) + (Int32.toNatClampNeg v5) ≤ 120 ∧ (Int32.toNatClampNeg ((v3 * 20) + v4)) + (Int32.toNatClampNeg v5) ≤ 120 ∧ K 0 (wrA x 245 (va_cpy (x.1 245) (x.1 245) (Int32.toNatClampNeg ((v1 * 20) + v2)) (Int32.toNatClampNeg ((v3 * 20) + v4)) (Int32.toNatClampNeg v5))))) ∧ (r9 = 0 → K 4 x)))))))))) ∧ (¬ (x.1 243 (Int32.toNatClampNeg v1)) = (x.1 243 (Int32.toNatClampNeg v3)) → K 3 x)))) ∧ (¬ (x.1 244 (Int32.toNatClampNeg v3)) = 0 → K 2 x))))))) ∧ (r2 = 0 → K 1 x))))))
set_option maxHeartbeats 4000000 in
set_option maxRecDepth 100000 in
theorem sX11_copy (v1 : Int32) (v2 : Int32) (v3 : Int32) (v4 : Int32) (v5 : Int32)  (x : ab_X) (K : Int32 → ab_X → Prop) (d bc bs : Nat) (hdp : 1 ≤ d) (h : wX11_copy v1 v2 v3 v4 v5 x K) : EW MX11_copy 0 [(0, .ref 0), (1, .int v1), (2, .int v2), (3, .int v3), (4, .int v4), (5, .int v5)] [] (aS x) d bc bs (liI K) := by
  unfold wX11_copy at h
  refine EW_iload_n (pc2 := 1) rfl dX11_copy_0 1 rfl ?_
  refine EW_aload_n (pc2 := 2) rfl dX11_copy_1 0 rfl ?_
  refine AW_geti ⟨gfRX11_464, rfl⟩ (pc2 := 5) rfl dX11_copy_2 q0 ?_
  refine AW_invS (M' := MX11_below) [.int v1, .int (x.1 0 9)] (rest := []) mlRX11_86 okX11_below (pc2 := 8) rfl dX11_copy_5 rfl rfl (Nat.le_of_ble_eq_true rfl) (Nat.le_of_ble_eq_true rfl) (d' := 0) (by omega) (EW_mono (fun _ _ hr => ?_) (sX11_below v1 (x.1 0 9)  x _ _ 0 0 (Nat.le_refl _) h))
  obtain ⟨r1, rfl, rfl, h⟩ := hr
  refine EW_if_eq (tgt := 22) (pc2 := 11) rfl dX11_copy_8 (by decide) (fun q => ?_) (fun q => ?_)
  · replace h := h.1 q
    refine EW_iconst (pc2 := 23) (v := 1) rfl dX11_copy_22 (by decide) ?_
    exact AW_iret rfl dX11_copy_23 ⟨_, _, rfl, rfl, h⟩
  · replace h := h.2 q
    refine EW_iload_n (pc2 := 12) rfl dX11_copy_11 3 rfl ?_
    refine EW_aload_n (pc2 := 13) rfl dX11_copy_12 0 rfl ?_
    refine AW_geti ⟨gfRX11_464, rfl⟩ (pc2 := 16) rfl dX11_copy_13 q0 ?_
    refine AW_invS (M' := MX11_below) [.int v3, .int (x.1 0 9)] (rest := []) mlRX11_86 okX11_below (pc2 := 19) rfl dX11_copy_16 rfl rfl (Nat.le_of_ble_eq_true rfl) (Nat.le_of_ble_eq_true rfl) (d' := 0) (by omega) (EW_mono (fun _ _ hr => ?_) (sX11_below v3 (x.1 0 9)  x _ _ 0 0 (Nat.le_refl _) h))
    obtain ⟨r2, rfl, rfl, h⟩ := hr
    refine EW_if_ne (tgt := 24) (pc2 := 22) rfl dX11_copy_19 (by decide) (fun q => ?_) (fun q => ?_)
    · replace h := h.1 q
      refine EW_aload_n (pc2 := 25) rfl dX11_copy_24 0 rfl ?_
      refine AW_getr (r := 244) ⟨gfRX11_63, rfl⟩ (pc2 := 28) rfl dX11_copy_25 q0 rfl ?_
      refine EW_iload_n (pc2 := 29) rfl dX11_copy_28 1 rfl ?_
      obtain ⟨b3, h⟩ := h
      refine AW_zald (pc2 := 30) rfl dX11_copy_29 q244 b3 ?_
      refine EW_if_ne (tgt := 42) (pc2 := 33) rfl dX11_copy_30 (by decide) (fun q => ?_) (fun q => ?_)
      · replace h := h.1 q
        refine EW_iconst (pc2 := 43) (v := 2) rfl dX11_copy_42 (by decide) ?_
        exact AW_iret rfl dX11_copy_43 ⟨_, _, rfl, rfl, h⟩
      · replace h := h.2 q
        refine EW_aload_n (pc2 := 34) rfl dX11_copy_33 0 rfl ?_
        refine AW_getr (r := 244) ⟨gfRX11_63, rfl⟩ (pc2 := 37) rfl dX11_copy_34 q0 rfl ?_
        refine EW_iload_n (pc2 := 38) rfl dX11_copy_37 3 rfl ?_
        obtain ⟨b4, h⟩ := h
        refine AW_zald (pc2 := 39) rfl dX11_copy_38 q244 b4 ?_
        refine EW_if_eq (tgt := 44) (pc2 := 42) rfl dX11_copy_39 (by decide) (fun q => ?_) (fun q => ?_)
        · replace h := h.1 q
          refine EW_aload_n (pc2 := 45) rfl dX11_copy_44 0 rfl ?_
          refine AW_getr (r := 243) ⟨gfRX11_59, rfl⟩ (pc2 := 48) rfl dX11_copy_45 q0 rfl ?_
          refine EW_iload_n (pc2 := 49) rfl dX11_copy_48 1 rfl ?_
          obtain ⟨b5, h⟩ := h
          refine AW_iald (pc2 := 50) rfl dX11_copy_49 q243 b5 ?_
          refine EW_aload_n (pc2 := 51) rfl dX11_copy_50 0 rfl ?_
          refine AW_getr (r := 243) ⟨gfRX11_59, rfl⟩ (pc2 := 54) rfl dX11_copy_51 q0 rfl ?_
          refine EW_iload_n (pc2 := 55) rfl dX11_copy_54 3 rfl ?_
          obtain ⟨b6, h⟩ := h
          refine AW_iald (pc2 := 56) rfl dX11_copy_55 q243 b6 ?_
          refine EW_icmp_eq (tgt := 61) (pc2 := 59) rfl dX11_copy_56 (by decide) (fun q => ?_) (fun q => ?_)
          · replace h := h.1 q
            refine EW_iload (pc2 := 63) rfl dX11_copy_61 5 rfl ?_
            refine EW_iconst (pc2 := 64) (v := 0) rfl dX11_copy_63 (by decide) ?_
            refine EW_bipush (pc2 := 66) (v := 20) rfl dX11_copy_64 (by decide) ?_
            refine AW_invS (M' := MX11_within) [.int v5, .int 0, .int 20] (rest := []) mlRX11_74 okX11_within (pc2 := 69) rfl dX11_copy_66 rfl rfl (Nat.le_of_ble_eq_true rfl) (Nat.le_of_ble_eq_true rfl) (d' := 0) (by omega) (EW_mono (fun _ _ hr => ?_) (sX11_within v5 0 20  x _ _ 0 0 (Nat.le_refl _) h))
            obtain ⟨r7, rfl, rfl, h⟩ := hr
            refine EW_if_eq (tgt := 99) (pc2 := 72) rfl dX11_copy_69 (by decide) (fun q => ?_) (fun q => ?_)
            · replace h := h.1 q
              refine EW_iconst (pc2 := 100) (v := 4) rfl dX11_copy_99 (by decide) ?_
              exact AW_iret rfl dX11_copy_100 ⟨_, _, rfl, rfl, h⟩
            · replace h := h.2 q
              refine EW_iload_n (pc2 := 73) rfl dX11_copy_72 2 rfl ?_
              refine EW_iconst (pc2 := 74) (v := 0) rfl dX11_copy_73 (by decide) ?_
              refine EW_bipush (pc2 := 76) (v := 20) rfl dX11_copy_74 (by decide) ?_
              refine EW_iload (pc2 := 78) rfl dX11_copy_76 5 rfl ?_
              refine EW_isub (pc2 := 79) rfl dX11_copy_78 ?_
              refine AW_invS (M' := MX11_within) [.int v2, .int 0, .int (20 - v5)] (rest := []) mlRX11_74 okX11_within (pc2 := 82) rfl dX11_copy_79 rfl rfl (Nat.le_of_ble_eq_true rfl) (Nat.le_of_ble_eq_true rfl) (d' := 0) (by omega) (EW_mono (fun _ _ hr => ?_) (sX11_within v2 0 (20 - v5)  x _ _ 0 0 (Nat.le_refl _) h))
              obtain ⟨r8, rfl, rfl, h⟩ := hr
              refine EW_if_eq (tgt := 99) (pc2 := 85) rfl dX11_copy_82 (by decide) (fun q => ?_) (fun q => ?_)
              · replace h := h.1 q
                refine EW_iconst (pc2 := 100) (v := 4) rfl dX11_copy_99 (by decide) ?_
                exact AW_iret rfl dX11_copy_100 ⟨_, _, rfl, rfl, h⟩
              · replace h := h.2 q
                refine EW_iload (pc2 := 87) rfl dX11_copy_85 4 rfl ?_
                refine EW_iconst (pc2 := 88) (v := 0) rfl dX11_copy_87 (by decide) ?_
                refine EW_bipush (pc2 := 90) (v := 20) rfl dX11_copy_88 (by decide) ?_
                refine EW_iload (pc2 := 92) rfl dX11_copy_90 5 rfl ?_
                refine EW_isub (pc2 := 93) rfl dX11_copy_92 ?_
                refine AW_invS (M' := MX11_within) [.int v4, .int 0, .int (20 - v5)] (rest := []) mlRX11_74 okX11_within (pc2 := 96) rfl dX11_copy_93 rfl rfl (Nat.le_of_ble_eq_true rfl) (Nat.le_of_ble_eq_true rfl) (d' := 0) (by omega) (EW_mono (fun _ _ hr => ?_) (sX11_within v4 0 (20 - v5)  x _ _ 0 0 (Nat.le_refl _) h))
                obtain ⟨r9, rfl, rfl, h⟩ := hr
                refine EW_if_ne (tgt := 101) (pc2 := 99) rfl dX11_copy_96 (by decide) (fun q => ?_) (fun q => ?_)
                · replace h := h.1 q
                  refine EW_aload_n (pc2 := 102) rfl dX11_copy_101 0 rfl ?_
                  refine AW_getr (r := 245) ⟨gfRX11_67, rfl⟩ (pc2 := 105) rfl dX11_copy_102 q0 rfl ?_
                  refine EW_iload_n (pc2 := 106) rfl dX11_copy_105 1 rfl ?_
                  refine EW_bipush (pc2 := 108) (v := 20) rfl dX11_copy_106 (by decide) ?_
                  refine EW_imul (pc2 := 109) rfl dX11_copy_108 ?_
                  refine EW_iload_n (pc2 := 110) rfl dX11_copy_109 2 rfl ?_
                  refine EW_iadd (pc2 := 111) rfl dX11_copy_110 ?_
                  refine EW_aload_n (pc2 := 112) rfl dX11_copy_111 0 rfl ?_
                  refine AW_getr (r := 245) ⟨gfRX11_67, rfl⟩ (pc2 := 115) rfl dX11_copy_112 q0 rfl ?_
                  refine EW_iload_n (pc2 := 116) rfl dX11_copy_115 3 rfl ?_
                  refine EW_bipush (pc2 := 118) (v := 20) rfl dX11_copy_116 (by decide) ?_
                  refine EW_imul (pc2 := 119) rfl dX11_copy_118 ?_
                  refine EW_iload (pc2 := 121) rfl dX11_copy_119 4 rfl ?_
                  refine EW_iadd (pc2 := 122) rfl dX11_copy_121 ?_
                  refine EW_iload (pc2 := 124) rfl dX11_copy_122 5 rfl ?_
                  obtain ⟨c10, h⟩ := h
                  obtain ⟨c11, h⟩ := h
                  obtain ⟨c12, h⟩ := h
                  obtain ⟨c13, h⟩ := h
                  obtain ⟨c14, h⟩ := h
                  refine AW_copyi mmRX11_474 (pc2 := 127) rfl dX11_copy_124 (Nat.le_of_ble_eq_true rfl) (by omega) q245 q245 c10 c11 c12 c13 c14 ?_
                  refine EW_iconst (pc2 := 128) (v := 0) rfl dX11_copy_127 (by decide) ?_
                  exact AW_iret rfl dX11_copy_128 ⟨_, _, rfl, rfl, h⟩
                · replace h := h.2 q
                  refine EW_iconst (pc2 := 100) (v := 4) rfl dX11_copy_99 (by decide) ?_
                  exact AW_iret rfl dX11_copy_100 ⟨_, _, rfl, rfl, h⟩
          · replace h := h.2 q
            refine EW_iconst (pc2 := 60) (v := 3) rfl dX11_copy_59 (by decide) ?_
            exact AW_iret rfl dX11_copy_60 ⟨_, _, rfl, rfl, h⟩
        · replace h := h.2 q
          refine EW_iconst (pc2 := 43) (v := 2) rfl dX11_copy_42 (by decide) ?_
          exact AW_iret rfl dX11_copy_43 ⟨_, _, rfl, rfl, h⟩
    · replace h := h.2 q
      refine EW_iconst (pc2 := 23) (v := 1) rfl dX11_copy_22 (by decide) ?_
      exact AW_iret rfl dX11_copy_23 ⟨_, _, rfl, rfl, h⟩
theorem gfRX11_105 : ab_L RX11 105 10 2 := ⟨by decide, by decide, ab_in 315 (by decide +kernel) (by decide +kernel)⟩
theorem gfRX11_237 : ab_L RX11 237 0 3 := ⟨by decide, by decide, ab_in 548 (by decide +kernel) (by decide +kernel)⟩
theorem mlRX11_495 : Cond.methodLink RX11 495 yX0_callsThatAre ∈ ab_G ∧ Cond.instanceMethod yX0_callsThatAre ∈ ab_G ∧ Cond.selects RX0 yX0_callsThatAre yX0_callsThatAre ∈ ab_G := ⟨ab_in 1754 (by decide +kernel) (by decide +kernel), ab_in 1070 (by decide +kernel) (by decide +kernel), ab_in 1071 (by decide +kernel) (by decide +kernel)⟩
theorem mlRX11_498 : Cond.methodLink RX11 498 yX0_lackedInAll ∈ ab_G ∧ Cond.instanceMethod yX0_lackedInAll ∈ ab_G ∧ Cond.selects RX0 yX0_lackedInAll yX0_lackedInAll ∈ ab_G := ⟨ab_in 1755 (by decide +kernel) (by decide +kernel), ab_in 1756 (by decide +kernel) (by decide +kernel), ab_in 1757 (by decide +kernel) (by decide +kernel)⟩
theorem mlRX11_501 : Cond.methodLink RX11 501 yX10_savedInAll ∈ ab_G ∧ Cond.instanceMethod yX10_savedInAll ∈ ab_G ∧ Cond.selects RX10 yX10_savedInAll yX10_savedInAll ∈ ab_G := ⟨ab_in 1759 (by decide +kernel) (by decide +kernel), ab_in 1760 (by decide +kernel) (by decide +kernel), ab_in 1761 (by decide +kernel) (by decide +kernel)⟩
theorem mlRX11_504 : Cond.methodLink RX11 504 yX10_lostInAll ∈ ab_G ∧ Cond.instanceMethod yX10_lostInAll ∈ ab_G ∧ Cond.selects RX10 yX10_lostInAll yX10_lostInAll ∈ ab_G := ⟨ab_in 1763 (by decide +kernel) (by decide +kernel), ab_in 1764 (by decide +kernel) (by decide +kernel), ab_in 1765 (by decide +kernel) (by decide +kernel)⟩
theorem mlRX11_507 : Cond.methodLink RX11 507 yX0_hurtNow ∈ ab_G ∧ Cond.instanceMethod yX0_hurtNow ∈ ab_G ∧ Cond.selects RX0 yX0_hurtNow yX0_hurtNow ∈ ab_G := ⟨ab_in 1767 (by decide +kernel) (by decide +kernel), ab_in 1768 (by decide +kernel) (by decide +kernel), ab_in 1769 (by decide +kernel) (by decide +kernel)⟩
theorem gfRX11_374 : ab_L RX11 374 0 7 := ⟨by decide, by decide, ab_in 557 (by decide +kernel) (by decide +kernel)⟩
theorem gfRX11_362 : ab_L RX11 362 8 1 := ⟨by decide, by decide, ab_in 603 (by decide +kernel) (by decide +kernel)⟩
theorem gfRX11_231 : ab_L RX11 231 10 6 := ⟨by decide, by decide, ab_in 324 (by decide +kernel) (by decide +kernel)⟩
theorem gfRX11_510 : ab_L RX11 510 10 9 := ⟨by decide, by decide, ab_in 329 (by decide +kernel) (by decide +kernel)⟩
abbrev MX11_count : ab_M := (yX11_count, cX11_count, 2, (some .int))
theorem dX11_count_0 : decode cX11_count 0 = .ok (.iload_n 1, 1) := by decide +kernel
theorem dX11_count_1 : decode cX11_count 1 = .ok (.tableswitch 218 0 16 #[83, 91, 99, 107, 115, 123, 132, 141, 149, 157, 165, 173, 181, 189, 197, 205, 213], 83) := by decide +kernel
theorem dX11_count_84 : decode cX11_count 84 = .ok (.aload_n 0, 1) := by decide +kernel
theorem dX11_count_85 : decode cX11_count 85 = .ok (.getfield 30, 3) := by decide +kernel
theorem dX11_count_88 : decode cX11_count 88 = .ok (.getfield 400, 3) := by decide +kernel
theorem dX11_count_91 : decode cX11_count 91 = .ok (.ireturn, 1) := by decide +kernel
theorem dX11_count_92 : decode cX11_count 92 = .ok (.aload_n 0, 1) := by decide +kernel
theorem dX11_count_93 : decode cX11_count 93 = .ok (.getfield 12, 3) := by decide +kernel
theorem dX11_count_96 : decode cX11_count 96 = .ok (.getfield 82, 3) := by decide +kernel
theorem dX11_count_99 : decode cX11_count 99 = .ok (.ireturn, 1) := by decide +kernel
theorem dX11_count_100 : decode cX11_count 100 = .ok (.aload_n 0, 1) := by decide +kernel
theorem dX11_count_101 : decode cX11_count 101 = .ok (.getfield 21, 3) := by decide +kernel
theorem dX11_count_104 : decode cX11_count 104 = .ok (.getfield 105, 3) := by decide +kernel
theorem dX11_count_107 : decode cX11_count 107 = .ok (.ireturn, 1) := by decide +kernel
theorem dX11_count_108 : decode cX11_count 108 = .ok (.aload_n 0, 1) := by decide +kernel
theorem dX11_count_109 : decode cX11_count 109 = .ok (.getfield 30, 3) := by decide +kernel
theorem dX11_count_112 : decode cX11_count 112 = .ok (.getfield 237, 3) := by decide +kernel
theorem dX11_count_115 : decode cX11_count 115 = .ok (.ireturn, 1) := by decide +kernel
theorem dX11_count_116 : decode cX11_count 116 = .ok (.aload_n 0, 1) := by decide +kernel
theorem dX11_count_117 : decode cX11_count 117 = .ok (.getfield 30, 3) := by decide +kernel
theorem dX11_count_120 : decode cX11_count 120 = .ok (.getfield 327, 3) := by decide +kernel
theorem dX11_count_123 : decode cX11_count 123 = .ok (.ireturn, 1) := by decide +kernel
theorem dX11_count_124 : decode cX11_count 124 = .ok (.aload_n 0, 1) := by decide +kernel
theorem dX11_count_125 : decode cX11_count 125 = .ok (.getfield 30, 3) := by decide +kernel
theorem dX11_count_128 : decode cX11_count 128 = .ok (.iconst 0, 1) := by decide +kernel
theorem dX11_count_129 : decode cX11_count 129 = .ok (.invokevirtual 495, 3) := by decide +kernel
theorem dX11_count_132 : decode cX11_count 132 = .ok (.ireturn, 1) := by decide +kernel
theorem dX11_count_133 : decode cX11_count 133 = .ok (.aload_n 0, 1) := by decide +kernel
theorem dX11_count_134 : decode cX11_count 134 = .ok (.getfield 30, 3) := by decide +kernel
theorem dX11_count_137 : decode cX11_count 137 = .ok (.iconst 2, 1) := by decide +kernel
theorem dX11_count_138 : decode cX11_count 138 = .ok (.invokevirtual 495, 3) := by decide +kernel
theorem dX11_count_141 : decode cX11_count 141 = .ok (.ireturn, 1) := by decide +kernel
theorem dX11_count_142 : decode cX11_count 142 = .ok (.aload_n 0, 1) := by decide +kernel
theorem dX11_count_143 : decode cX11_count 143 = .ok (.getfield 30, 3) := by decide +kernel
theorem dX11_count_146 : decode cX11_count 146 = .ok (.invokevirtual 498, 3) := by decide +kernel
theorem dX11_count_149 : decode cX11_count 149 = .ok (.ireturn, 1) := by decide +kernel
theorem dX11_count_150 : decode cX11_count 150 = .ok (.aload_n 0, 1) := by decide +kernel
theorem dX11_count_151 : decode cX11_count 151 = .ok (.getfield 21, 3) := by decide +kernel
theorem dX11_count_154 : decode cX11_count 154 = .ok (.invokevirtual 501, 3) := by decide +kernel
theorem dX11_count_157 : decode cX11_count 157 = .ok (.ireturn, 1) := by decide +kernel
theorem dX11_count_158 : decode cX11_count 158 = .ok (.aload_n 0, 1) := by decide +kernel
theorem dX11_count_159 : decode cX11_count 159 = .ok (.getfield 21, 3) := by decide +kernel
theorem dX11_count_162 : decode cX11_count 162 = .ok (.invokevirtual 504, 3) := by decide +kernel
theorem dX11_count_165 : decode cX11_count 165 = .ok (.ireturn, 1) := by decide +kernel
theorem dX11_count_166 : decode cX11_count 166 = .ok (.aload_n 0, 1) := by decide +kernel
theorem dX11_count_167 : decode cX11_count 167 = .ok (.getfield 30, 3) := by decide +kernel
theorem dX11_count_170 : decode cX11_count 170 = .ok (.invokevirtual 507, 3) := by decide +kernel
theorem dX11_count_173 : decode cX11_count 173 = .ok (.ireturn, 1) := by decide +kernel
theorem dX11_count_174 : decode cX11_count 174 = .ok (.aload_n 0, 1) := by decide +kernel
theorem dX11_count_175 : decode cX11_count 175 = .ok (.getfield 46, 3) := by decide +kernel
theorem dX11_count_178 : decode cX11_count 178 = .ok (.getfield 406, 3) := by decide +kernel
theorem dX11_count_181 : decode cX11_count 181 = .ok (.ireturn, 1) := by decide +kernel
theorem dX11_count_182 : decode cX11_count 182 = .ok (.aload_n 0, 1) := by decide +kernel
theorem dX11_count_183 : decode cX11_count 183 = .ok (.getfield 30, 3) := by decide +kernel
theorem dX11_count_186 : decode cX11_count 186 = .ok (.getfield 374, 3) := by decide +kernel
theorem dX11_count_189 : decode cX11_count 189 = .ok (.ireturn, 1) := by decide +kernel
theorem dX11_count_190 : decode cX11_count 190 = .ok (.aload_n 0, 1) := by decide +kernel
theorem dX11_count_191 : decode cX11_count 191 = .ok (.getfield 37, 3) := by decide +kernel
theorem dX11_count_194 : decode cX11_count 194 = .ok (.getfield 362, 3) := by decide +kernel
theorem dX11_count_197 : decode cX11_count 197 = .ok (.ireturn, 1) := by decide +kernel
theorem dX11_count_198 : decode cX11_count 198 = .ok (.aload_n 0, 1) := by decide +kernel
theorem dX11_count_199 : decode cX11_count 199 = .ok (.getfield 21, 3) := by decide +kernel
theorem dX11_count_202 : decode cX11_count 202 = .ok (.getfield 231, 3) := by decide +kernel
theorem dX11_count_205 : decode cX11_count 205 = .ok (.ireturn, 1) := by decide +kernel
theorem dX11_count_206 : decode cX11_count 206 = .ok (.aload_n 0, 1) := by decide +kernel
theorem dX11_count_207 : decode cX11_count 207 = .ok (.getfield 21, 3) := by decide +kernel
theorem dX11_count_210 : decode cX11_count 210 = .ok (.getfield 510, 3) := by decide +kernel
theorem dX11_count_213 : decode cX11_count 213 = .ok (.ireturn, 1) := by decide +kernel
theorem dX11_count_214 : decode cX11_count 214 = .ok (.aload_n 0, 1) := by decide +kernel
theorem dX11_count_215 : decode cX11_count 215 = .ok (.getfield 464, 3) := by decide +kernel
theorem dX11_count_218 : decode cX11_count 218 = .ok (.ireturn, 1) := by decide +kernel
theorem dX11_count_219 : decode cX11_count 219 = .ok (.iconst (-1), 1) := by decide +kernel
theorem dX11_count_220 : decode cX11_count 220 = .ok (.ireturn, 1) := by decide +kernel
theorem okX11_count : ab_okM MX11_count 1 := ⟨by decide, ⟨by decide, by decide⟩, ab_in 1753 (by decide +kernel) (by decide +kernel), ab_in 86 (by decide +kernel) (by decide +kernel), by decide +kernel, by decide⟩
set_option maxHeartbeats 4000000 in
set_option maxRecDepth 100000 in
def wX11_count (v1 : Int32) (x : ab_X) (K : Int32 → Prop) : Prop := (((v1.toInt < 0 ∨ 16 < v1.toInt) → K (-1)) ∧ (v1 = 0 → K (x.1 66 12)) ∧ (v1 = 1 → K (x.1 1 7)) ∧ (v1 = 2 → K (x.1 9 2)) ∧ (v1 = 3 → K (x.1 66 3)) ∧ (v1 = 4 → K (x.1 66 5)) ∧ (v1 = 5 → wX0_callsThatAre 0 x (fun r1 => K r1)) ∧ (v1 = 6 → wX0_callsThatAre 2 x (fun r2 => K r2)) ∧ (v1 = 7 → wX0_lackedInAll x (fun r3 => K r3)) ∧ (v1 = 8 → wX10_savedInAll x (fun r4 => K r4)) ∧ (v1 = 9 → wX10_lostInAll x (fun r5 => K r5)) ∧ (v1 = 10 → wX0_hurtNow x (fun r6 => K r6)) ∧ (v1 = 11 → K (x.1 165 4)) ∧ (v1 = 12 → K (x.1 66 7)) ∧ (v1 = 13 → K (x.1 158 1)) ∧ (v1 = 14 → K (x.1 9 6)) ∧ (v1 = 15 → K (x.1 9 9)) ∧ (v1 = 16 → K (x.1 0 9)))
set_option maxHeartbeats 4000000 in
set_option maxRecDepth 100000 in
theorem sX11_count (v1 : Int32)  (x : ab_X) (K : Int32 → Prop) (d bc bs : Nat) (hdp : 1 ≤ d) (h : wX11_count v1 x K) : EW MX11_count 0 [(0, .ref 0), (1, .int v1)] [] (aS x) d bc bs (liP x K) := by
  unfold wX11_count at h
  refine EW_iload_n (pc2 := 1) rfl dX11_count_0 1 rfl ?_
  by_cases qo : Int32.toInt v1 < 0 ∨ 16 < Int32.toInt v1
  · replace h := h.1 qo
    refine EW_tabOut (tgt := 219) dX11_count_1 qo (by decide) ?_
    refine EW_iconst (pc2 := 220) (v := (-1)) rfl dX11_count_219 (by decide) ?_
    exact AW_iret rfl dX11_count_220 ⟨_, rfl, rfl, h⟩
  · obtain ⟨kk, hkk, qk⟩ := sw_in 0 16 (by decide) qo
    match kk, hkk, qk with
    | 0, _, qk =>
      replace h := h.2.1 qk
      refine EW_tabIn (off := 83) (tgt := 84) dX11_count_1 (by rw [qk]; decide) (by rw [qk]; decide) (by rw [qk]; decide) (by decide) ?_
      refine EW_aload_n (pc2 := 85) rfl dX11_count_84 0 rfl ?_
      refine AW_getr (r := 66) ⟨gfRX11_30, rfl⟩ (pc2 := 88) rfl dX11_count_85 q0 rfl ?_
      refine AW_geti ⟨gfRX11_400, rfl⟩ (pc2 := 91) rfl dX11_count_88 q66 ?_
      exact AW_iret rfl dX11_count_91 ⟨_, rfl, rfl, h⟩
    | 1, _, qk =>
      replace h := h.2.2.1 qk
      refine EW_tabIn (off := 91) (tgt := 92) dX11_count_1 (by rw [qk]; decide) (by rw [qk]; decide) (by rw [qk]; decide) (by decide) ?_
      refine EW_aload_n (pc2 := 93) rfl dX11_count_92 0 rfl ?_
      refine AW_getr (r := 1) ⟨gfRX11_12, rfl⟩ (pc2 := 96) rfl dX11_count_93 q0 rfl ?_
      refine AW_geti ⟨gfRX11_82, rfl⟩ (pc2 := 99) rfl dX11_count_96 q1 ?_
      exact AW_iret rfl dX11_count_99 ⟨_, rfl, rfl, h⟩
    | 2, _, qk =>
      replace h := h.2.2.2.1 qk
      refine EW_tabIn (off := 99) (tgt := 100) dX11_count_1 (by rw [qk]; decide) (by rw [qk]; decide) (by rw [qk]; decide) (by decide) ?_
      refine EW_aload_n (pc2 := 101) rfl dX11_count_100 0 rfl ?_
      refine AW_getr (r := 9) ⟨gfRX11_21, rfl⟩ (pc2 := 104) rfl dX11_count_101 q0 rfl ?_
      refine AW_geti ⟨gfRX11_105, rfl⟩ (pc2 := 107) rfl dX11_count_104 q9 ?_
      exact AW_iret rfl dX11_count_107 ⟨_, rfl, rfl, h⟩
    | 3, _, qk =>
      replace h := h.2.2.2.2.1 qk
      refine EW_tabIn (off := 107) (tgt := 108) dX11_count_1 (by rw [qk]; decide) (by rw [qk]; decide) (by rw [qk]; decide) (by decide) ?_
      refine EW_aload_n (pc2 := 109) rfl dX11_count_108 0 rfl ?_
      refine AW_getr (r := 66) ⟨gfRX11_30, rfl⟩ (pc2 := 112) rfl dX11_count_109 q0 rfl ?_
      refine AW_geti ⟨gfRX11_237, rfl⟩ (pc2 := 115) rfl dX11_count_112 q66 ?_
      exact AW_iret rfl dX11_count_115 ⟨_, rfl, rfl, h⟩
    | 4, _, qk =>
      replace h := h.2.2.2.2.2.1 qk
      refine EW_tabIn (off := 115) (tgt := 116) dX11_count_1 (by rw [qk]; decide) (by rw [qk]; decide) (by rw [qk]; decide) (by decide) ?_
      refine EW_aload_n (pc2 := 117) rfl dX11_count_116 0 rfl ?_
      refine AW_getr (r := 66) ⟨gfRX11_30, rfl⟩ (pc2 := 120) rfl dX11_count_117 q0 rfl ?_
      refine AW_geti ⟨gfRX11_327, rfl⟩ (pc2 := 123) rfl dX11_count_120 q66 ?_
      exact AW_iret rfl dX11_count_123 ⟨_, rfl, rfl, h⟩
    | 5, _, qk =>
      replace h := h.2.2.2.2.2.2.1 qk
      refine EW_tabIn (off := 123) (tgt := 124) dX11_count_1 (by rw [qk]; decide) (by rw [qk]; decide) (by rw [qk]; decide) (by decide) ?_
      refine EW_aload_n (pc2 := 125) rfl dX11_count_124 0 rfl ?_
      refine AW_getr (r := 66) ⟨gfRX11_30, rfl⟩ (pc2 := 128) rfl dX11_count_125 q0 rfl ?_
      refine EW_iconst (pc2 := 129) (v := 0) rfl dX11_count_128 (by decide) ?_
      refine AW_invV (M' := MX0_callsThatAre) [.int 0] (rest := []) mlRX11_495 okX0_callsThatAre (pc2 := 132) rfl dX11_count_129 rfl rfl (Nat.le_of_ble_eq_true rfl) (Nat.le_of_ble_eq_true rfl) (d' := 0) (by omega) q66 ⟨by decide, rfl⟩ (EW_mono (fun _ _ hr => ?_) (sX0_callsThatAre 0  x _ _ 0 0 (Nat.le_refl _) h))
      obtain ⟨r1, rfl, rfl, h⟩ := hr
      exact AW_iret rfl dX11_count_132 ⟨_, rfl, rfl, h⟩
    | 6, _, qk =>
      replace h := h.2.2.2.2.2.2.2.1 qk
      refine EW_tabIn (off := 132) (tgt := 133) dX11_count_1 (by rw [qk]; decide) (by rw [qk]; decide) (by rw [qk]; decide) (by decide) ?_
      refine EW_aload_n (pc2 := 134) rfl dX11_count_133 0 rfl ?_
      refine AW_getr (r := 66) ⟨gfRX11_30, rfl⟩ (pc2 := 137) rfl dX11_count_134 q0 rfl ?_
      refine EW_iconst (pc2 := 138) (v := 2) rfl dX11_count_137 (by decide) ?_
      refine AW_invV (M' := MX0_callsThatAre) [.int 2] (rest := []) mlRX11_495 okX0_callsThatAre (pc2 := 141) rfl dX11_count_138 rfl rfl (Nat.le_of_ble_eq_true rfl) (Nat.le_of_ble_eq_true rfl) (d' := 0) (by omega) q66 ⟨by decide, rfl⟩ (EW_mono (fun _ _ hr => ?_) (sX0_callsThatAre 2  x _ _ 0 0 (Nat.le_refl _) h))
      obtain ⟨r2, rfl, rfl, h⟩ := hr
      exact AW_iret rfl dX11_count_141 ⟨_, rfl, rfl, h⟩
    | 7, _, qk =>
      replace h := h.2.2.2.2.2.2.2.2.1 qk
      refine EW_tabIn (off := 141) (tgt := 142) dX11_count_1 (by rw [qk]; decide) (by rw [qk]; decide) (by rw [qk]; decide) (by decide) ?_
      refine EW_aload_n (pc2 := 143) rfl dX11_count_142 0 rfl ?_
      refine AW_getr (r := 66) ⟨gfRX11_30, rfl⟩ (pc2 := 146) rfl dX11_count_143 q0 rfl ?_
      refine AW_invV (M' := MX0_lackedInAll) [] (rest := []) mlRX11_498 okX0_lackedInAll (pc2 := 149) rfl dX11_count_146 rfl rfl (Nat.le_of_ble_eq_true rfl) (Nat.le_of_ble_eq_true rfl) (d' := 0) (by omega) q66 ⟨by decide, rfl⟩ (EW_mono (fun _ _ hr => ?_) (sX0_lackedInAll   x _ _ 0 0 (Nat.le_refl _) h))
      obtain ⟨r3, rfl, rfl, h⟩ := hr
      exact AW_iret rfl dX11_count_149 ⟨_, rfl, rfl, h⟩
    | 8, _, qk =>
      replace h := h.2.2.2.2.2.2.2.2.2.1 qk
      refine EW_tabIn (off := 149) (tgt := 150) dX11_count_1 (by rw [qk]; decide) (by rw [qk]; decide) (by rw [qk]; decide) (by decide) ?_
      refine EW_aload_n (pc2 := 151) rfl dX11_count_150 0 rfl ?_
      refine AW_getr (r := 9) ⟨gfRX11_21, rfl⟩ (pc2 := 154) rfl dX11_count_151 q0 rfl ?_
      refine AW_invV (M' := MX10_savedInAll) [] (rest := []) mlRX11_501 okX10_savedInAll (pc2 := 157) rfl dX11_count_154 rfl rfl (Nat.le_of_ble_eq_true rfl) (Nat.le_of_ble_eq_true rfl) (d' := 0) (by omega) q9 ⟨by decide, rfl⟩ (EW_mono (fun _ _ hr => ?_) (sX10_savedInAll   x _ _ 0 0 (Nat.le_refl _) h))
      obtain ⟨r4, rfl, rfl, h⟩ := hr
      exact AW_iret rfl dX11_count_157 ⟨_, rfl, rfl, h⟩
    | 9, _, qk =>
      replace h := h.2.2.2.2.2.2.2.2.2.2.1 qk
      refine EW_tabIn (off := 157) (tgt := 158) dX11_count_1 (by rw [qk]; decide) (by rw [qk]; decide) (by rw [qk]; decide) (by decide) ?_
      refine EW_aload_n (pc2 := 159) rfl dX11_count_158 0 rfl ?_
      refine AW_getr (r := 9) ⟨gfRX11_21, rfl⟩ (pc2 := 162) rfl dX11_count_159 q0 rfl ?_
      refine AW_invV (M' := MX10_lostInAll) [] (rest := []) mlRX11_504 okX10_lostInAll (pc2 := 165) rfl dX11_count_162 rfl rfl (Nat.le_of_ble_eq_true rfl) (Nat.le_of_ble_eq_true rfl) (d' := 0) (by omega) q9 ⟨by decide, rfl⟩ (EW_mono (fun _ _ hr => ?_) (sX10_lostInAll   x _ _ 0 0 (Nat.le_refl _) h))
      obtain ⟨r5, rfl, rfl, h⟩ := hr
      exact AW_iret rfl dX11_count_165 ⟨_, rfl, rfl, h⟩
    | 10, _, qk =>
      replace h := h.2.2.2.2.2.2.2.2.2.2.2.1 qk
      refine EW_tabIn (off := 165) (tgt := 166) dX11_count_1 (by rw [qk]; decide) (by rw [qk]; decide) (by rw [qk]; decide) (by decide) ?_
      refine EW_aload_n (pc2 := 167) rfl dX11_count_166 0 rfl ?_
      refine AW_getr (r := 66) ⟨gfRX11_30, rfl⟩ (pc2 := 170) rfl dX11_count_167 q0 rfl ?_
      refine AW_invV (M' := MX0_hurtNow) [] (rest := []) mlRX11_507 okX0_hurtNow (pc2 := 173) rfl dX11_count_170 rfl rfl (Nat.le_of_ble_eq_true rfl) (Nat.le_of_ble_eq_true rfl) (d' := 0) (by omega) q66 ⟨by decide, rfl⟩ (EW_mono (fun _ _ hr => ?_) (sX0_hurtNow   x _ _ 0 0 (Nat.le_refl _) h))
      obtain ⟨r6, rfl, rfl, h⟩ := hr
      exact AW_iret rfl dX11_count_173 ⟨_, rfl, rfl, h⟩
    | 11, _, qk =>
      replace h := h.2.2.2.2.2.2.2.2.2.2.2.2.1 qk
      refine EW_tabIn (off := 173) (tgt := 174) dX11_count_1 (by rw [qk]; decide) (by rw [qk]; decide) (by rw [qk]; decide) (by decide) ?_
      refine EW_aload_n (pc2 := 175) rfl dX11_count_174 0 rfl ?_
      refine AW_getr (r := 165) ⟨gfRX11_46, rfl⟩ (pc2 := 178) rfl dX11_count_175 q0 rfl ?_
      refine AW_geti ⟨gfRX11_406, rfl⟩ (pc2 := 181) rfl dX11_count_178 q165 ?_
      exact AW_iret rfl dX11_count_181 ⟨_, rfl, rfl, h⟩
    | 12, _, qk =>
      replace h := h.2.2.2.2.2.2.2.2.2.2.2.2.2.1 qk
      refine EW_tabIn (off := 181) (tgt := 182) dX11_count_1 (by rw [qk]; decide) (by rw [qk]; decide) (by rw [qk]; decide) (by decide) ?_
      refine EW_aload_n (pc2 := 183) rfl dX11_count_182 0 rfl ?_
      refine AW_getr (r := 66) ⟨gfRX11_30, rfl⟩ (pc2 := 186) rfl dX11_count_183 q0 rfl ?_
      refine AW_geti ⟨gfRX11_374, rfl⟩ (pc2 := 189) rfl dX11_count_186 q66 ?_
      exact AW_iret rfl dX11_count_189 ⟨_, rfl, rfl, h⟩
    | 13, _, qk =>
      replace h := h.2.2.2.2.2.2.2.2.2.2.2.2.2.2.1 qk
      refine EW_tabIn (off := 189) (tgt := 190) dX11_count_1 (by rw [qk]; decide) (by rw [qk]; decide) (by rw [qk]; decide) (by decide) ?_
      refine EW_aload_n (pc2 := 191) rfl dX11_count_190 0 rfl ?_
      refine AW_getr (r := 158) ⟨gfRX11_37, rfl⟩ (pc2 := 194) rfl dX11_count_191 q0 rfl ?_
      refine AW_geti ⟨gfRX11_362, rfl⟩ (pc2 := 197) rfl dX11_count_194 q158 ?_
      exact AW_iret rfl dX11_count_197 ⟨_, rfl, rfl, h⟩
    | 14, _, qk =>
      replace h := h.2.2.2.2.2.2.2.2.2.2.2.2.2.2.2.1 qk
      refine EW_tabIn (off := 197) (tgt := 198) dX11_count_1 (by rw [qk]; decide) (by rw [qk]; decide) (by rw [qk]; decide) (by decide) ?_
      refine EW_aload_n (pc2 := 199) rfl dX11_count_198 0 rfl ?_
      refine AW_getr (r := 9) ⟨gfRX11_21, rfl⟩ (pc2 := 202) rfl dX11_count_199 q0 rfl ?_
      refine AW_geti ⟨gfRX11_231, rfl⟩ (pc2 := 205) rfl dX11_count_202 q9 ?_
      exact AW_iret rfl dX11_count_205 ⟨_, rfl, rfl, h⟩
    | 15, _, qk =>
      replace h := h.2.2.2.2.2.2.2.2.2.2.2.2.2.2.2.2.1 qk
      refine EW_tabIn (off := 205) (tgt := 206) dX11_count_1 (by rw [qk]; decide) (by rw [qk]; decide) (by rw [qk]; decide) (by decide) ?_
      refine EW_aload_n (pc2 := 207) rfl dX11_count_206 0 rfl ?_
      refine AW_getr (r := 9) ⟨gfRX11_21, rfl⟩ (pc2 := 210) rfl dX11_count_207 q0 rfl ?_
      refine AW_geti ⟨gfRX11_510, rfl⟩ (pc2 := 213) rfl dX11_count_210 q9 ?_
      exact AW_iret rfl dX11_count_213 ⟨_, rfl, rfl, h⟩
    | 16, _, qk =>
      replace h := h.2.2.2.2.2.2.2.2.2.2.2.2.2.2.2.2.2 qk
      refine EW_tabIn (off := 213) (tgt := 214) dX11_count_1 (by rw [qk]; decide) (by rw [qk]; decide) (by rw [qk]; decide) (by decide) ?_
      refine EW_aload_n (pc2 := 215) rfl dX11_count_214 0 rfl ?_
      refine AW_geti ⟨gfRX11_464, rfl⟩ (pc2 := 218) rfl dX11_count_215 q0 ?_
      exact AW_iret rfl dX11_count_218 ⟨_, rfl, rfl, h⟩
    | n9 + 17, hkk, _ => exact absurd hkk (by omega)
