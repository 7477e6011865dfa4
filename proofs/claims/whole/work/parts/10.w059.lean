abbrev MX12_come : ab_M := (yX12_come, cX12_come, 5, (some .int))
theorem dX12_come_0 : decode cX12_come 0 = .ok (.aload_n 0, 1) := by decide +kernel
theorem dX12_come_1 : decode cX12_come 1 = .ok (.iconst 0, 1) := by decide +kernel
theorem dX12_come_2 : decode cX12_come 2 = .ok (.putfield 297, 3) := by decide +kernel
theorem dX12_come_5 : decode cX12_come 5 = .ok (.iload_n 1, 1) := by decide +kernel
theorem dX12_come_6 : decode cX12_come 6 = .ok (.invokestatic 303, 3) := by decide +kernel
theorem dX12_come_9 : decode cX12_come 9 = .ok (.ifCond .eq 46, 3) := by decide +kernel
theorem dX12_come_12 : decode cX12_come 12 = .ok (.iload_n 2, 1) := by decide +kernel
theorem dX12_come_13 : decode cX12_come 13 = .ok (.invokestatic 303, 3) := by decide +kernel
theorem dX12_come_16 : decode cX12_come 16 = .ok (.ifCond .eq 39, 3) := by decide +kernel
theorem dX12_come_19 : decode cX12_come 19 = .ok (.iload_n 3, 1) := by decide +kernel
theorem dX12_come_20 : decode cX12_come 20 = .ok (.iconst 0, 1) := by decide +kernel
theorem dX12_come_21 : decode cX12_come 21 = .ok (.sipush 30000, 3) := by decide +kernel
theorem dX12_come_24 : decode cX12_come 24 = .ok (.invokestatic 307, 3) := by decide +kernel
theorem dX12_come_27 : decode cX12_come 27 = .ok (.ifCond .eq 28, 3) := by decide +kernel
theorem dX12_come_30 : decode cX12_come 30 = .ok (.iload 4, 2) := by decide +kernel
theorem dX12_come_32 : decode cX12_come 32 = .ok (.bipush 50, 2) := by decide +kernel
theorem dX12_come_34 : decode cX12_come 34 = .ok (.sipush 300, 3) := by decide +kernel
theorem dX12_come_37 : decode cX12_come 37 = .ok (.invokestatic 307, 3) := by decide +kernel
theorem dX12_come_40 : decode cX12_come 40 = .ok (.ifCond .eq 15, 3) := by decide +kernel
theorem dX12_come_43 : decode cX12_come 43 = .ok (.aload_n 0, 1) := by decide +kernel
theorem dX12_come_44 : decode cX12_come 44 = .ok (.iload_n 1, 1) := by decide +kernel
theorem dX12_come_45 : decode cX12_come 45 = .ok (.iload_n 2, 1) := by decide +kernel
theorem dX12_come_46 : decode cX12_come 46 = .ok (.iload_n 3, 1) := by decide +kernel
theorem dX12_come_47 : decode cX12_come 47 = .ok (.iload 4, 2) := by decide +kernel
theorem dX12_come_49 : decode cX12_come 49 = .ok (.invokevirtual 324, 3) := by decide +kernel
theorem dX12_come_52 : decode cX12_come 52 = .ok (.goto 4, 3) := by decide +kernel
theorem dX12_come_55 : decode cX12_come 55 = .ok (.iconst (-1), 1) := by decide +kernel
theorem dX12_come_56 : decode cX12_come 56 = .ok (.ireturn, 1) := by decide +kernel
theorem okX12_come : ab_okM MX12_come 4 := ⟨by decide, ⟨by decide, by decide⟩, ab_in 2244 (by decide +kernel) (by decide +kernel), ab_in 99 (by decide +kernel) (by decide +kernel), by decide +kernel, by decide⟩
set_option maxHeartbeats 4000000 in
set_option maxRecDepth 100000 in
def wX12_come (v1 : Int32) (v2 : Int32) (v3 : Int32) (v4 : Int32) (x : ab_X) (K : Int32 → ab_X → Prop) : Prop := wX12_isCorner v1 (wr x 246 0 0) (fun r1 => ((r1 = 0 → K (-1) (wr x 246 0 0)) ∧ (¬ r1 = 0 → wX12_isCorner v2 (wr x 246 0 0) (fun r2 => ((r2 = 0 → K (-1) (wr x 246 0 0)) ∧ (¬ r2 = 0 → wX12_isIn v3 0 30000 (wr x 246 0 0) (fun r3 => ((r3 = 0 → K (-1) (wr x 246 0 0)) ∧ (¬ r3 = 0 → wX12_isIn v4 50 300 (wr x 246 0 0) (fun r4 => ((r4 = 0 → K (-1) (wr x 246 0 0)) ∧ (¬ r4 = 0 → wX12_comeBy v1 v2 v3 v4 (wr x 246 0 0) (fun r5 x6 => K r5 x6)))))))))))))
set_option maxHeartbeats 4000000 in
set_option maxRecDepth 100000 in
theorem sX12_come (v1 : Int32) (v2 : Int32) (v3 : Int32) (v4 : Int32)  (x : ab_X) (K : Int32 → ab_X → Prop) (d bc bs : Nat) (hdp : 2 ≤ d) (h : wX12_come v1 v2 v3 v4 x K) : EW MX12_come 0 [(0, .ref 246), (1, .int v1), (2, .int v2), (3, .int v3), (4, .int v4)] [] (aS x) d bc bs (liI K) := by
  unfold wX12_come at h
  refine EW_aload_n (pc2 := 1) rfl dX12_come_0 0 rfl ?_
  refine EW_iconst (pc2 := 2) (v := 0) rfl dX12_come_1 (by decide) ?_
  refine AW_puti ⟨gfRX12_297, rfl, rfl⟩ (pc2 := 5) rfl dX12_come_2 q246 ?_
  refine EW_iload_n (pc2 := 6) rfl dX12_come_5 1 rfl ?_
  refine AW_invS (M' := MX12_isCorner) [.int v1] (rest := []) mlRX12_303 okX12_isCorner (pc2 := 9) rfl dX12_come_6 rfl rfl (Nat.le_of_ble_eq_true rfl) (Nat.le_of_ble_eq_true rfl) (d' := 0) (by omega) (EW_mono (fun _ _ hr => ?_) (sX12_isCorner v1  (wr x 246 0 0) _ _ 0 0 (Nat.le_refl _) h))
  obtain ⟨r1, rfl, rfl, h⟩ := hr
  refine EW_if_eq (tgt := 55) (pc2 := 12) rfl dX12_come_9 (by decide) (fun q => ?_) (fun q => ?_)
  · replace h := h.1 q
    refine EW_iconst (pc2 := 56) (v := (-1)) rfl dX12_come_55 (by decide) ?_
    exact AW_iret rfl dX12_come_56 ⟨_, _, rfl, rfl, h⟩
  · replace h := h.2 q
    refine EW_iload_n (pc2 := 13) rfl dX12_come_12 2 rfl ?_
    refine AW_invS (M' := MX12_isCorner) [.int v2] (rest := []) mlRX12_303 okX12_isCorner (pc2 := 16) rfl dX12_come_13 rfl rfl (Nat.le_of_ble_eq_true rfl) (Nat.le_of_ble_eq_true rfl) (d' := 0) (by omega) (EW_mono (fun _ _ hr => ?_) (sX12_isCorner v2  (wr x 246 0 0) _ _ 0 0 (Nat.le_refl _) h))
    obtain ⟨r2, rfl, rfl, h⟩ := hr
    refine EW_if_eq (tgt := 55) (pc2 := 19) rfl dX12_come_16 (by decide) (fun q => ?_) (fun q => ?_)
    · replace h := h.1 q
      refine EW_iconst (pc2 := 56) (v := (-1)) rfl dX12_come_55 (by decide) ?_
      exact AW_iret rfl dX12_come_56 ⟨_, _, rfl, rfl, h⟩
    · replace h := h.2 q
      refine EW_iload_n (pc2 := 20) rfl dX12_come_19 3 rfl ?_
      refine EW_iconst (pc2 := 21) (v := 0) rfl dX12_come_20 (by decide) ?_
      refine EW_sipush (pc2 := 24) (v := 30000) rfl dX12_come_21 (by decide) ?_
      refine AW_invS (M' := MX12_isIn) [.int v3, .int 0, .int 30000] (rest := []) mlRX12_307 okX12_isIn (pc2 := 27) rfl dX12_come_24 rfl rfl (Nat.le_of_ble_eq_true rfl) (Nat.le_of_ble_eq_true rfl) (d' := 0) (by omega) (EW_mono (fun _ _ hr => ?_) (sX12_isIn v3 0 30000  (wr x 246 0 0) _ _ 0 0 (Nat.le_refl _) h))
      obtain ⟨r3, rfl, rfl, h⟩ := hr
      refine EW_if_eq (tgt := 55) (pc2 := 30) rfl dX12_come_27 (by decide) (fun q => ?_) (fun q => ?_)
      · replace h := h.1 q
        refine EW_iconst (pc2 := 56) (v := (-1)) rfl dX12_come_55 (by decide) ?_
        exact AW_iret rfl dX12_come_56 ⟨_, _, rfl, rfl, h⟩
      · replace h := h.2 q
        refine EW_iload (pc2 := 32) rfl dX12_come_30 4 rfl ?_
        refine EW_bipush (pc2 := 34) (v := 50) rfl dX12_come_32 (by decide) ?_
        refine EW_sipush (pc2 := 37) (v := 300) rfl dX12_come_34 (by decide) ?_
        refine AW_invS (M' := MX12_isIn) [.int v4, .int 50, .int 300] (rest := []) mlRX12_307 okX12_isIn (pc2 := 40) rfl dX12_come_37 rfl rfl (Nat.le_of_ble_eq_true rfl) (Nat.le_of_ble_eq_true rfl) (d' := 0) (by omega) (EW_mono (fun _ _ hr => ?_) (sX12_isIn v4 50 300  (wr x 246 0 0) _ _ 0 0 (Nat.le_refl _) h))
        obtain ⟨r4, rfl, rfl, h⟩ := hr
        refine EW_if_eq (tgt := 55) (pc2 := 43) rfl dX12_come_40 (by decide) (fun q => ?_) (fun q => ?_)
        · replace h := h.1 q
          refine EW_iconst (pc2 := 56) (v := (-1)) rfl dX12_come_55 (by decide) ?_
          exact AW_iret rfl dX12_come_56 ⟨_, _, rfl, rfl, h⟩
        · replace h := h.2 q
          refine EW_aload_n (pc2 := 44) rfl dX12_come_43 0 rfl ?_
          refine EW_iload_n (pc2 := 45) rfl dX12_come_44 1 rfl ?_
          refine EW_iload_n (pc2 := 46) rfl dX12_come_45 2 rfl ?_
          refine EW_iload_n (pc2 := 47) rfl dX12_come_46 3 rfl ?_
          refine EW_iload (pc2 := 49) rfl dX12_come_47 4 rfl ?_
          refine AW_invV (M' := MX12_comeBy) [.int v1, .int v2, .int v3, .int v4] (rest := []) mlRX12_324 okX12_comeBy (pc2 := 52) rfl dX12_come_49 rfl rfl (Nat.le_of_ble_eq_true rfl) (Nat.le_of_ble_eq_true rfl) (d' := 1) (by omega) q246 ⟨by decide, rfl⟩ (EW_mono (fun _ _ hr => ?_) (sX12_comeBy v1 v2 v3 v4  (wr x 246 0 0) _ _ 0 0 (Nat.le_refl _) h))
          obtain ⟨r5, x6, rfl, rfl, h⟩ := hr
          refine EW_goto (tgt := 56) dX12_come_52 (by decide) ?_
          exact AW_iret rfl dX12_come_56 ⟨_, _, rfl, rfl, h⟩
abbrev MX12_isWithin : ab_M := (yX12_isWithin, cX12_isWithin, 2, (some .boolean))
theorem dX12_isWithin_0 : decode cX12_isWithin 0 = .ok (.iload_n 0, 1) := by decide +kernel
theorem dX12_isWithin_1 : decode cX12_isWithin 1 = .ok (.ifCond .lt 25, 3) := by decide +kernel
theorem dX12_isWithin_4 : decode cX12_isWithin 4 = .ok (.iload_n 1, 1) := by decide +kernel
theorem dX12_isWithin_5 : decode cX12_isWithin 5 = .ok (.ifCond .lt 21, 3) := by decide +kernel
theorem dX12_isWithin_8 : decode cX12_isWithin 8 = .ok (.iload_n 0, 1) := by decide +kernel
theorem dX12_isWithin_9 : decode cX12_isWithin 9 = .ok (.bipush 20, 2) := by decide +kernel
theorem dX12_isWithin_11 : decode cX12_isWithin 11 = .ok (.if_icmp .gt 15, 3) := by decide +kernel
theorem dX12_isWithin_14 : decode cX12_isWithin 14 = .ok (.iload_n 1, 1) := by decide +kernel
theorem dX12_isWithin_15 : decode cX12_isWithin 15 = .ok (.bipush 20, 2) := by decide +kernel
theorem dX12_isWithin_17 : decode cX12_isWithin 17 = .ok (.iload_n 0, 1) := by decide +kernel
theorem dX12_isWithin_18 : decode cX12_isWithin 18 = .ok (.isub, 1) := by decide +kernel
theorem dX12_isWithin_19 : decode cX12_isWithin 19 = .ok (.if_icmp .gt 7, 3) := by decide +kernel
theorem dX12_isWithin_22 : decode cX12_isWithin 22 = .ok (.iconst 1, 1) := by decide +kernel
theorem dX12_isWithin_23 : decode cX12_isWithin 23 = .ok (.goto 4, 3) := by decide +kernel
theorem dX12_isWithin_26 : decode cX12_isWithin 26 = .ok (.iconst 0, 1) := by decide +kernel
theorem dX12_isWithin_27 : decode cX12_isWithin 27 = .ok (.ireturn, 1) := by decide +kernel
theorem okX12_isWithin : ab_okM MX12_isWithin 2 := ⟨by decide, ⟨by decide, by decide⟩, ab_in 2720 (by decide +kernel) (by decide +kernel), ab_in 99 (by decide +kernel) (by decide +kernel), by decide +kernel, by decide⟩
set_option maxHeartbeats 4000000 in
set_option maxRecDepth 100000 in
def wX12_isWithin (v0 : Int32) (v1 : Int32) (x : ab_X) (K : Int32 → Prop) : Prop := ((v0 < 0 → K 0) ∧ (¬ v0 < 0 → ((v1 < 0 → K 0) ∧ (¬ v1 < 0 → ((20 < v0 → K 0) ∧ (¬ 20 < v0 → (((20 - v0) < v1 → K 0) ∧ (¬ (20 - v0) < v1 → K 1))))))))
set_option maxHeartbeats 4000000 in
set_option maxRecDepth 100000 in
theorem sX12_isWithin (v0 : Int32) (v1 : Int32)  (x : ab_X) (K : Int32 → Prop) (d bc bs : Nat) (hdp : 0 ≤ d) (h : wX12_isWithin v0 v1 x K) : EW MX12_isWithin 0 [(0, .int v0), (1, .int v1)] [] (aS x) d bc bs (liP x K) := by
  unfold wX12_isWithin at h
  refine EW_iload_n (pc2 := 1) rfl dX12_isWithin_0 0 rfl ?_
  refine EW_if_lt (tgt := 26) (pc2 := 4) rfl dX12_isWithin_1 (by decide) (fun q => ?_) (fun q => ?_)
  · replace h := h.1 q
    refine EW_iconst (pc2 := 27) (v := 0) rfl dX12_isWithin_26 (by decide) ?_
    exact AW_zret rfl isB0 dX12_isWithin_27 ⟨_, rfl, rfl, h⟩
  · replace h := h.2 q
    refine EW_iload_n (pc2 := 5) rfl dX12_isWithin_4 1 rfl ?_
    refine EW_if_lt (tgt := 26) (pc2 := 8) rfl dX12_isWithin_5 (by decide) (fun q => ?_) (fun q => ?_)
    · replace h := h.1 q
      refine EW_iconst (pc2 := 27) (v := 0) rfl dX12_isWithin_26 (by decide) ?_
      exact AW_zret rfl isB0 dX12_isWithin_27 ⟨_, rfl, rfl, h⟩
    · replace h := h.2 q
      refine EW_iload_n (pc2 := 9) rfl dX12_isWithin_8 0 rfl ?_
      refine EW_bipush (pc2 := 11) (v := 20) rfl dX12_isWithin_9 (by decide) ?_
      refine EW_icmp_gt (tgt := 26) (pc2 := 14) rfl dX12_isWithin_11 (by decide) (fun q => ?_) (fun q => ?_)
      · replace h := h.1 q
        refine EW_iconst (pc2 := 27) (v := 0) rfl dX12_isWithin_26 (by decide) ?_
        exact AW_zret rfl isB0 dX12_isWithin_27 ⟨_, rfl, rfl, h⟩
      · replace h := h.2 q
        refine EW_iload_n (pc2 := 15) rfl dX12_isWithin_14 1 rfl ?_
        refine EW_bipush (pc2 := 17) (v := 20) rfl dX12_isWithin_15 (by decide) ?_
        refine EW_iload_n (pc2 := 18) rfl dX12_isWithin_17 0 rfl ?_
        refine EW_isub (pc2 := 19) rfl dX12_isWithin_18 ?_
        refine EW_icmp_gt (tgt := 26) (pc2 := 22) rfl dX12_isWithin_19 (by decide) (fun q => ?_) (fun q => ?_)
        · replace h := h.1 q
          refine EW_iconst (pc2 := 27) (v := 0) rfl dX12_isWithin_26 (by decide) ?_
          exact AW_zret rfl isB0 dX12_isWithin_27 ⟨_, rfl, rfl, h⟩
        · replace h := h.2 q
          refine EW_iconst (pc2 := 23) (v := 1) rfl dX12_isWithin_22 (by decide) ?_
          refine EW_goto (tgt := 27) dX12_isWithin_23 (by decide) ?_
          exact AW_zret rfl isB1 dX12_isWithin_27 ⟨_, rfl, rfl, h⟩
theorem gfRX12_271 : ab_L RX12 271 12 112 := ⟨by decide, by decide, ab_in 1961 (by decide +kernel) (by decide +kernel)⟩
theorem gfRX12_275 : ab_L RX12 275 12 113 := ⟨by decide, by decide, ab_in 1962 (by decide +kernel) (by decide +kernel)⟩
theorem gfRX12_278 : ab_L RX12 278 12 114 := ⟨by decide, by decide, ab_in 1963 (by decide +kernel) (by decide +kernel)⟩
theorem mlRX12_660 : Cond.methodLink RX12 660 yX12_isWithin ∈ ab_G ∧ Cond.static yX12_isWithin ∈ ab_G := ⟨ab_in 2718 (by decide +kernel) (by decide +kernel), ab_in 2719 (by decide +kernel) (by decide +kernel)⟩
abbrev MX12_copy : ab_M := (yX12_copy, cX12_copy, 7, (some .int))
theorem dX12_copy_0 : decode cX12_copy 0 = .ok (.aload_n 0, 1) := by decide +kernel
theorem dX12_copy_1 : decode cX12_copy 1 = .ok (.iconst 0, 1) := by decide +kernel
theorem dX12_copy_2 : decode cX12_copy 2 = .ok (.putfield 297, 3) := by decide +kernel
theorem dX12_copy_5 : decode cX12_copy 5 = .ok (.aload_n 0, 1) := by decide +kernel
theorem dX12_copy_6 : decode cX12_copy 6 = .ok (.iload_n 1, 1) := by decide +kernel
theorem dX12_copy_7 : decode cX12_copy 7 = .ok (.invokevirtual 651, 3) := by decide +kernel
theorem dX12_copy_10 : decode cX12_copy 10 = .ok (.ifCond .eq 11, 3) := by decide +kernel
theorem dX12_copy_13 : decode cX12_copy 13 = .ok (.aload_n 0, 1) := by decide +kernel
theorem dX12_copy_14 : decode cX12_copy 14 = .ok (.iload_n 3, 1) := by decide +kernel
theorem dX12_copy_15 : decode cX12_copy 15 = .ok (.invokevirtual 651, 3) := by decide +kernel
theorem dX12_copy_18 : decode cX12_copy 18 = .ok (.ifCond .ne 5, 3) := by decide +kernel
theorem dX12_copy_21 : decode cX12_copy 21 = .ok (.iconst 1, 1) := by decide +kernel
theorem dX12_copy_22 : decode cX12_copy 22 = .ok (.ireturn, 1) := by decide +kernel
theorem dX12_copy_23 : decode cX12_copy 23 = .ok (.aload_n 0, 1) := by decide +kernel
theorem dX12_copy_24 : decode cX12_copy 24 = .ok (.getfield 281, 3) := by decide +kernel
theorem dX12_copy_27 : decode cX12_copy 27 = .ok (.iload_n 1, 1) := by decide +kernel
theorem dX12_copy_28 : decode cX12_copy 28 = .ok (.baload, 1) := by decide +kernel
theorem dX12_copy_29 : decode cX12_copy 29 = .ok (.ifCond .ne 12, 3) := by decide +kernel
theorem dX12_copy_32 : decode cX12_copy 32 = .ok (.aload_n 0, 1) := by decide +kernel
theorem dX12_copy_33 : decode cX12_copy 33 = .ok (.getfield 281, 3) := by decide +kernel
theorem dX12_copy_36 : decode cX12_copy 36 = .ok (.iload_n 3, 1) := by decide +kernel
theorem dX12_copy_37 : decode cX12_copy 37 = .ok (.baload, 1) := by decide +kernel
theorem dX12_copy_38 : decode cX12_copy 38 = .ok (.ifCond .eq 5, 3) := by decide +kernel
theorem dX12_copy_41 : decode cX12_copy 41 = .ok (.iconst 2, 1) := by decide +kernel
theorem dX12_copy_42 : decode cX12_copy 42 = .ok (.ireturn, 1) := by decide +kernel
theorem dX12_copy_43 : decode cX12_copy 43 = .ok (.aload_n 0, 1) := by decide +kernel
theorem dX12_copy_44 : decode cX12_copy 44 = .ok (.getfield 278, 3) := by decide +kernel
theorem dX12_copy_47 : decode cX12_copy 47 = .ok (.iload_n 1, 1) := by decide +kernel
theorem dX12_copy_48 : decode cX12_copy 48 = .ok (.iaload, 1) := by decide +kernel
theorem dX12_copy_49 : decode cX12_copy 49 = .ok (.aload_n 0, 1) := by decide +kernel
theorem dX12_copy_50 : decode cX12_copy 50 = .ok (.getfield 278, 3) := by decide +kernel
theorem dX12_copy_53 : decode cX12_copy 53 = .ok (.iload_n 3, 1) := by decide +kernel
theorem dX12_copy_54 : decode cX12_copy 54 = .ok (.iaload, 1) := by decide +kernel
theorem dX12_copy_55 : decode cX12_copy 55 = .ok (.if_icmp .eq 5, 3) := by decide +kernel
theorem dX12_copy_58 : decode cX12_copy 58 = .ok (.iconst 3, 1) := by decide +kernel
theorem dX12_copy_59 : decode cX12_copy 59 = .ok (.ireturn, 1) := by decide +kernel
theorem dX12_copy_60 : decode cX12_copy 60 = .ok (.iload_n 2, 1) := by decide +kernel
theorem dX12_copy_61 : decode cX12_copy 61 = .ok (.iload 5, 2) := by decide +kernel
theorem dX12_copy_63 : decode cX12_copy 63 = .ok (.invokestatic 660, 3) := by decide +kernel
theorem dX12_copy_66 : decode cX12_copy 66 = .ok (.ifCond .eq 13, 3) := by decide +kernel
theorem dX12_copy_69 : decode cX12_copy 69 = .ok (.iload 4, 2) := by decide +kernel
theorem dX12_copy_71 : decode cX12_copy 71 = .ok (.iload 5, 2) := by decide +kernel
theorem dX12_copy_73 : decode cX12_copy 73 = .ok (.invokestatic 660, 3) := by decide +kernel
theorem dX12_copy_76 : decode cX12_copy 76 = .ok (.ifCond .ne 5, 3) := by decide +kernel
theorem dX12_copy_79 : decode cX12_copy 79 = .ok (.iconst 4, 1) := by decide +kernel
theorem dX12_copy_80 : decode cX12_copy 80 = .ok (.ireturn, 1) := by decide +kernel
theorem dX12_copy_81 : decode cX12_copy 81 = .ok (.iconst 0, 1) := by decide +kernel
theorem dX12_copy_82 : decode cX12_copy 82 = .ok (.istore 6, 2) := by decide +kernel
theorem dX12_copy_84 : decode cX12_copy 84 = .ok (.iload 6, 2) := by decide +kernel
theorem dX12_copy_86 : decode cX12_copy 86 = .ok (.iload 5, 2) := by decide +kernel
theorem dX12_copy_88 : decode cX12_copy 88 = .ok (.if_icmp .ge 30, 3) := by decide +kernel
theorem dX12_copy_91 : decode cX12_copy 91 = .ok (.aload_n 0, 1) := by decide +kernel
theorem dX12_copy_92 : decode cX12_copy 92 = .ok (.getfield 275, 3) := by decide +kernel
theorem dX12_copy_95 : decode cX12_copy 95 = .ok (.iload 6, 2) := by decide +kernel
theorem dX12_copy_97 : decode cX12_copy 97 = .ok (.aload_n 0, 1) := by decide +kernel
theorem dX12_copy_98 : decode cX12_copy 98 = .ok (.getfield 271, 3) := by decide +kernel
theorem dX12_copy_101 : decode cX12_copy 101 = .ok (.bipush 20, 2) := by decide +kernel
theorem dX12_copy_103 : decode cX12_copy 103 = .ok (.iload_n 1, 1) := by decide +kernel
theorem dX12_copy_104 : decode cX12_copy 104 = .ok (.imul, 1) := by decide +kernel
theorem dX12_copy_105 : decode cX12_copy 105 = .ok (.iload_n 2, 1) := by decide +kernel
theorem dX12_copy_106 : decode cX12_copy 106 = .ok (.iadd, 1) := by decide +kernel
theorem dX12_copy_107 : decode cX12_copy 107 = .ok (.iload 6, 2) := by decide +kernel
theorem dX12_copy_109 : decode cX12_copy 109 = .ok (.iadd, 1) := by decide +kernel
theorem dX12_copy_110 : decode cX12_copy 110 = .ok (.daload, 1) := by decide +kernel
theorem dX12_copy_111 : decode cX12_copy 111 = .ok (.dastore, 1) := by decide +kernel
theorem dX12_copy_112 : decode cX12_copy 112 = .ok (.iinc 6 1, 3) := by decide +kernel
theorem dX12_copy_115 : decode cX12_copy 115 = .ok (.goto (-31), 3) := by decide +kernel
theorem dX12_copy_118 : decode cX12_copy 118 = .ok (.iconst 0, 1) := by decide +kernel
theorem dX12_copy_119 : decode cX12_copy 119 = .ok (.istore 6, 2) := by decide +kernel
theorem dX12_copy_121 : decode cX12_copy 121 = .ok (.iload 6, 2) := by decide +kernel
theorem dX12_copy_123 : decode cX12_copy 123 = .ok (.iload 5, 2) := by decide +kernel
theorem dX12_copy_125 : decode cX12_copy 125 = .ok (.if_icmp .ge 31, 3) := by decide +kernel
theorem dX12_copy_128 : decode cX12_copy 128 = .ok (.aload_n 0, 1) := by decide +kernel
theorem dX12_copy_129 : decode cX12_copy 129 = .ok (.getfield 271, 3) := by decide +kernel
theorem dX12_copy_132 : decode cX12_copy 132 = .ok (.bipush 20, 2) := by decide +kernel
theorem dX12_copy_134 : decode cX12_copy 134 = .ok (.iload_n 3, 1) := by decide +kernel
theorem dX12_copy_135 : decode cX12_copy 135 = .ok (.imul, 1) := by decide +kernel
theorem dX12_copy_136 : decode cX12_copy 136 = .ok (.iload 4, 2) := by decide +kernel
theorem dX12_copy_138 : decode cX12_copy 138 = .ok (.iadd, 1) := by decide +kernel
theorem dX12_copy_139 : decode cX12_copy 139 = .ok (.iload 6, 2) := by decide +kernel
theorem dX12_copy_141 : decode cX12_copy 141 = .ok (.iadd, 1) := by decide +kernel
theorem dX12_copy_142 : decode cX12_copy 142 = .ok (.aload_n 0, 1) := by decide +kernel
theorem dX12_copy_143 : decode cX12_copy 143 = .ok (.getfield 275, 3) := by decide +kernel
theorem dX12_copy_146 : decode cX12_copy 146 = .ok (.iload 6, 2) := by decide +kernel
theorem dX12_copy_148 : decode cX12_copy 148 = .ok (.daload, 1) := by decide +kernel
theorem dX12_copy_149 : decode cX12_copy 149 = .ok (.dastore, 1) := by decide +kernel
theorem dX12_copy_150 : decode cX12_copy 150 = .ok (.iinc 6 1, 3) := by decide +kernel
theorem dX12_copy_153 : decode cX12_copy 153 = .ok (.goto (-32), 3) := by decide +kernel
theorem dX12_copy_156 : decode cX12_copy 156 = .ok (.iconst 0, 1) := by decide +kernel
theorem dX12_copy_157 : decode cX12_copy 157 = .ok (.ireturn, 1) := by decide +kernel
theorem okX12_copy : ab_okM MX12_copy 5 := ⟨by decide, ⟨by decide, by decide⟩, ab_in 2717 (by decide +kernel) (by decide +kernel), ab_in 99 (by decide +kernel) (by decide +kernel), by decide +kernel, by decide⟩
set_option maxHeartbeats 4000000 in
set_option maxRecDepth 100000 in
def lX12_copy_121 (v3 : Int32) (v4 : Int32) (v5 : Int32) (K : Int32 → ab_X → Prop)  (L121 : Int32 → ab_X → Prop) (v6 : Int32) (x : ab_X) : Prop := ((v5 ≤ v6 → K 0 x) ∧ (¬ v5 ≤ v6 → (vp_in v6 20 ∧ vp_in (((20 * v3) + v4) + v6) 120 ∧ L121 (v6 + 1) (wrd x 329 (Int32.toNatClampNeg (((20 * v3) + v4) + v6)) (x.2.1 330 (Int32.toNatClampNeg v6))))))
set_option maxHeartbeats 4000000 in
set_option maxRecDepth 100000 in
theorem sX12_copy_121 (v3 : Int32) (v4 : Int32) (v5 : Int32) (v6 : Int32)  (x : ab_X) (K : Int32 → ab_X → Prop)  (d bc bs : Nat) (hdp : 1 ≤ d)  (h : Lp2 (lX12_copy_121 v3 v4 v5 K ) v6 x) : EW MX12_copy 121 [(0, .ref 246), (3, .int v3), (4, .int v4), (5, .int v5), (6, .int v6)] [] (aS x) d bc bs (liI K) := by
  refine Lp2.use (P := fun v6 x => EW MX12_copy 121 [(0, .ref 246), (3, .int v3), (4, .int v4), (5, .int v5), (6, .int v6)] [] (aS x) d bc bs (liI K)) (fun L121 v6 x hL121 h => ?_) v6 x h
  unfold lX12_copy_121 at h
  refine EW_iload (pc2 := 123) rfl dX12_copy_121 4 rfl ?_
  refine EW_iload (pc2 := 125) rfl dX12_copy_123 3 rfl ?_
  refine EW_icmp_ge (tgt := 156) (pc2 := 128) rfl dX12_copy_125 (by decide) (fun q => ?_) (fun q => ?_)
  · replace h := h.1 q
    refine EW_iconst (pc2 := 157) (v := 0) rfl dX12_copy_156 (by decide) ?_
    exact AW_iret rfl dX12_copy_157 ⟨_, _, rfl, rfl, h⟩
  · replace h := h.2 q
    refine EW_aload_n (pc2 := 129) rfl dX12_copy_128 0 rfl ?_
    refine AW_getr (r := 329) ⟨gfRX12_271, rfl⟩ (pc2 := 132) rfl dX12_copy_129 q246 rfl ?_
    refine EW_bipush (pc2 := 134) (v := 20) rfl dX12_copy_132 (by decide) ?_
    refine EW_iload_n (pc2 := 135) rfl dX12_copy_134 1 rfl ?_
    refine EW_imul (pc2 := 136) rfl dX12_copy_135 ?_
    refine EW_iload (pc2 := 138) rfl dX12_copy_136 2 rfl ?_
    refine EW_iadd (pc2 := 139) rfl dX12_copy_138 ?_
    refine EW_iload (pc2 := 141) rfl dX12_copy_139 4 rfl ?_
    refine EW_iadd (pc2 := 142) rfl dX12_copy_141 ?_
    refine EW_aload_n (pc2 := 143) rfl dX12_copy_142 0 rfl ?_
    refine AW_getr (r := 330) ⟨gfRX12_275, rfl⟩ (pc2 := 146) rfl dX12_copy_143 q246 rfl ?_
    refine EW_iload (pc2 := 148) rfl dX12_copy_146 4 rfl ?_
    obtain ⟨b11, h⟩ := h
    refine AW_dald (pc2 := 149) rfl dX12_copy_148 q330 b11 ?_
    obtain ⟨b12, h⟩ := h
    refine AW_dast (pc2 := 150) rfl dX12_copy_149 q329 b12 ?_
    refine EW_iinc (v6 + 1) (pc2 := 153) rfl dX12_copy_150 4 rfl rfl (by decide) [1, 2, 3, 4, 0] [(0, .ref 246), (3, .int v3), (4, .int v4), (5, .int v5), (6, .int (v6 + 1))] rfl ?_
    refine EW_goto (tgt := 121) dX12_copy_153 (by decide) ?_
    exact hL121 (v6 + 1) (wrd x 329 (Int32.toNatClampNeg (((20 * v3) + v4) + v6)) (x.2.1 330 (Int32.toNatClampNeg v6))) h
set_option maxHeartbeats 4000000 in
set_option maxRecDepth 100000 in
def lX12_copy_84 (v1 : Int32) (v2 : Int32) (v3 : Int32) (v4 : Int32) (v5 : Int32) (K : Int32 → ab_X → Prop)  (L84 : Int32 → ab_X → Prop) (v6 : Int32) (x : ab_X) : Prop := ((v5 ≤ v6 → Lp2 (lX12_copy_121 v3 v4 v5 K ) 0 x) ∧ (¬ v5 ≤ v6 → (vp_in (((20 * v1) + v2) + v6) 120 ∧ vp_in v6 20 ∧ L84 (v6 + 1) (wrd x 330 (Int32.toNatClampNeg v6) (x.2.1 329 (Int32.toNatClampNeg (((20 * v1) + v2) + v6)))))))
set_option maxHeartbeats 4000000 in
set_option maxRecDepth 100000 in
theorem sX12_copy_84 (v1 : Int32) (v2 : Int32) (v3 : Int32) (v4 : Int32) (v5 : Int32) (v6 : Int32)  (x : ab_X) (K : Int32 → ab_X → Prop)  (d bc bs : Nat) (hdp : 1 ≤ d)  (h : Lp2 (lX12_copy_84 v1 v2 v3 v4 v5 K ) v6 x) : EW MX12_copy 84 [(0, .ref 246), (1, .int v1), (2, .int v2), (3, .int v3), (4, .int v4), (5, .int v5), (6, .int v6)] [] (aS x) d bc bs (liI K) := by
  refine Lp2.use (P := fun v6 x => EW MX12_copy 84 [(0, .ref 246), (1, .int v1), (2, .int v2), (3, .int v3), (4, .int v4), (5, .int v5), (6, .int v6)] [] (aS x) d bc bs (liI K)) (fun L84 v6 x hL84 h => ?_) v6 x h
  unfold lX12_copy_84 at h
  refine EW_iload (pc2 := 86) rfl dX12_copy_84 6 rfl ?_
  refine EW_iload (pc2 := 88) rfl dX12_copy_86 5 rfl ?_
  refine EW_icmp_ge (tgt := 118) (pc2 := 91) rfl dX12_copy_88 (by decide) (fun q => ?_) (fun q => ?_)
  · replace h := h.1 q
    refine EW_iconst (pc2 := 119) (v := 0) rfl dX12_copy_118 (by decide) ?_
    refine EW_istore (pc2 := 121) rfl dX12_copy_119 (by decide) [1, 2, 3, 4, 5, 6, 0] [(0, .ref 246), (1, .int v1), (2, .int v2), (3, .int v3), (4, .int v4), (5, .int v5), (6, .int 0)] rfl ?_
    refine EW_ls [0, 3, 4, 5, 6] rfl ?_
    exact sX12_copy_121 v3 v4 v5 0 x K d bc bs hdp h
  · replace h := h.2 q
    refine EW_aload_n (pc2 := 92) rfl dX12_copy_91 0 rfl ?_
    refine AW_getr (r := 330) ⟨gfRX12_275, rfl⟩ (pc2 := 95) rfl dX12_copy_92 q246 rfl ?_
    refine EW_iload (pc2 := 97) rfl dX12_copy_95 6 rfl ?_
    refine EW_aload_n (pc2 := 98) rfl dX12_copy_97 0 rfl ?_
    refine AW_getr (r := 329) ⟨gfRX12_271, rfl⟩ (pc2 := 101) rfl dX12_copy_98 q246 rfl ?_
    refine EW_bipush (pc2 := 103) (v := 20) rfl dX12_copy_101 (by decide) ?_
    refine EW_iload_n (pc2 := 104) rfl dX12_copy_103 1 rfl ?_
    refine EW_imul (pc2 := 105) rfl dX12_copy_104 ?_
    refine EW_iload_n (pc2 := 106) rfl dX12_copy_105 2 rfl ?_
    refine EW_iadd (pc2 := 107) rfl dX12_copy_106 ?_
    refine EW_iload (pc2 := 109) rfl dX12_copy_107 6 rfl ?_
    refine EW_iadd (pc2 := 110) rfl dX12_copy_109 ?_
    obtain ⟨b9, h⟩ := h
    refine AW_dald (pc2 := 111) rfl dX12_copy_110 q329 b9 ?_
    obtain ⟨b10, h⟩ := h
    refine AW_dast (pc2 := 112) rfl dX12_copy_111 q330 b10 ?_
    refine EW_iinc (v6 + 1) (pc2 := 115) rfl dX12_copy_112 6 rfl rfl (by decide) [1, 2, 3, 4, 5, 6, 0] [(0, .ref 246), (1, .int v1), (2, .int v2), (3, .int v3), (4, .int v4), (5, .int v5), (6, .int (v6 + 1))] rfl ?_
    refine EW_goto (tgt := 84) dX12_copy_115 (by decide) ?_
    exact hL84 (v6 + 1) (wrd x 330 (Int32.toNatClampNeg v6) (x.2.1 329 (Int32.toNatClampNeg (((20 * v1) + v2) + v6)))) h
set_option maxHeartbeats 4000000 in
set_option maxRecDepth 100000 in
def wX12_copy (v1 : Int32) (v2 : Int32) (v3 : Int32) (v4 : Int32) (v5 : Int32) (x : ab_X) (K : Int32 → ab_X → Prop) : Prop := wX12_isRow v1 (wr x 246 0 0) (fun r1 => ((r1 = 0 → K 1 (wr x 246 0 0)) ∧ (¬ r1 = 0 → wX12_isRow v3 (wr x 246 0 0) (fun r2 => ((¬ r2 = 0 → (vp_in v1 6 ∧ ((¬ ((wr x 246 0 0).1 332 (Int32.toNatClampNeg v1)) = 0 → K 2 (wr x 246 0 0)) ∧ (((wr x 246 0 0).1 332 (Int32.toNatClampNeg v1)) = 0 → (vp_in v3 6 ∧ ((((wr x 246 0 0).1 332 (Int32.toNatClampNeg v3)) = 0 → (vp_in v1 6 ∧ vp_in v3 6 ∧ ((((wr x 246 0 0).1 331 (Int32.toNatClampNeg v1)) = ((wr x 246 0 0).1 331 (Int32.toNatClampNeg v3)) → wX12_isWithin v2 v5 (wr x 246 0 0) (fun r7 => ((r7 = 0 → K 4 (wr x 246 0 0)) ∧ (¬ r7 = 0 → wX12_isWithin v4 v5 (wr x 246 0 0) (fun r8 => ((¬ r8 = 0 → Lp2 (lX12_copy_84 v1 v2 v3 v4 v5 K ) 0 (wr x 246 0 0)) ∧ (r8 = 0 → K 4 (wr x 246 0 0)))))))) ∧ (¬ ((wr x 246 0 0).1 331 (Int32.toNatClampNeg v1)) = ((wr x 246 0 0).1 331 (Int32.toNatClampNeg v3)) → K 3 (wr x 246 0 0))))) ∧ (¬ ((wr x 246 0 0).1 332 (Int32.toNatClampNeg v3)) = 0 → K 2 (wr x 246 0 0)))))))) ∧ (r2 = 0 → K 1 (wr x 246 0 0)))))))
set_option maxHeartbeats 4000000 in
set_option maxRecDepth 100000 in
theorem sX12_copy (v1 : Int32) (v2 : Int32) (v3 : Int32) (v4 : Int32) (v5 : Int32)  (x : ab_X) (K : Int32 → ab_X → Prop) (d bc bs : Nat) (hdp : 1 ≤ d) (h : wX12_copy v1 v2 v3 v4 v5 x K) : EW MX12_copy 0 [(0, .ref 246), (1, .int v1), (2, .int v2), (3, .int v3), (4, .int v4), (5, .int v5)] [] (aS x) d bc bs (liI K) := by
  unfold wX12_copy at h
  refine EW_aload_n (pc2 := 1) rfl dX12_copy_0 0 rfl ?_
  refine EW_iconst (pc2 := 2) (v := 0) rfl dX12_copy_1 (by decide) ?_
  refine AW_puti ⟨gfRX12_297, rfl, rfl⟩ (pc2 := 5) rfl dX12_copy_2 q246 ?_
  refine EW_aload_n (pc2 := 6) rfl dX12_copy_5 0 rfl ?_
  refine EW_iload_n (pc2 := 7) rfl dX12_copy_6 1 rfl ?_
  refine AW_invV (M' := MX12_isRow) [.int v1] (rest := []) mlRX12_651 okX12_isRow (pc2 := 10) rfl dX12_copy_7 rfl rfl (Nat.le_of_ble_eq_true rfl) (Nat.le_of_ble_eq_true rfl) (d' := 0) (by omega) q246 ⟨by decide, rfl⟩ (EW_mono (fun _ _ hr => ?_) (sX12_isRow v1  (wr x 246 0 0) _ _ 0 0 (Nat.le_refl _) h))
  obtain ⟨r1, rfl, rfl, h⟩ := hr
  refine EW_if_eq (tgt := 21) (pc2 := 13) rfl dX12_copy_10 (by decide) (fun q => ?_) (fun q => ?_)
  · replace h := h.1 q
    refine EW_iconst (pc2 := 22) (v := 1) rfl dX12_copy_21 (by decide) ?_
    exact AW_iret rfl dX12_copy_22 ⟨_, _, rfl, rfl, h⟩
  · replace h := h.2 q
    refine EW_aload_n (pc2 := 14) rfl dX12_copy_13 0 rfl ?_
    refine EW_iload_n (pc2 := 15) rfl dX12_copy_14 3 rfl ?_
    refine AW_invV (M' := MX12_isRow) [.int v3] (rest := []) mlRX12_651 okX12_isRow (pc2 := 18) rfl dX12_copy_15 rfl rfl (Nat.le_of_ble_eq_true rfl) (Nat.le_of_ble_eq_true rfl) (d' := 0) (by omega) q246 ⟨by decide, rfl⟩ (EW_mono (fun _ _ hr => ?_) (sX12_isRow v3  (wr x 246 0 0) _ _ 0 0 (Nat.le_refl _) h))
    obtain ⟨r2, rfl, rfl, h⟩ := hr
    refine EW_if_ne (tgt := 23) (pc2 := 21) rfl dX12_copy_18 (by decide) (fun q => ?_) (fun q => ?_)
    · replace h := h.1 q
      refine EW_aload_n (pc2 := 24) rfl dX12_copy_23 0 rfl ?_
      refine AW_getr (r := 332) ⟨gfRX12_281, rfl⟩ (pc2 := 27) rfl dX12_copy_24 q246 rfl ?_
      refine EW_iload_n (pc2 := 28) rfl dX12_copy_27 1 rfl ?_
      obtain ⟨b3, h⟩ := h
      refine AW_zald (pc2 := 29) rfl dX12_copy_28 q332 b3 ?_
      refine EW_if_ne (tgt := 41) (pc2 := 32) rfl dX12_copy_29 (by decide) (fun q => ?_) (fun q => ?_)
      · replace h := h.1 q
        refine EW_iconst (pc2 := 42) (v := 2) rfl dX12_copy_41 (by decide) ?_
        exact AW_iret rfl dX12_copy_42 ⟨_, _, rfl, rfl, h⟩
      · replace h := h.2 q
        refine EW_aload_n (pc2 := 33) rfl dX12_copy_32 0 rfl ?_
        refine AW_getr (r := 332) ⟨gfRX12_281, rfl⟩ (pc2 := 36) rfl dX12_copy_33 q246 rfl ?_
        refine EW_iload_n (pc2 := 37) rfl dX12_copy_36 3 rfl ?_
        obtain ⟨b4, h⟩ := h
        refine AW_zald (pc2 := 38) rfl dX12_copy_37 q332 b4 ?_
        refine EW_if_eq (tgt := 43) (pc2 := 41) rfl dX12_copy_38 (by decide) (fun q => ?_) (fun q => ?_)
        · replace h := h.1 q
          refine EW_aload_n (pc2 := 44) rfl dX12_copy_43 0 rfl ?_
          refine AW_getr (r := 331) ⟨gfRX12_278, rfl⟩ (pc2 := 47) rfl dX12_copy_44 q246 rfl ?_
          refine EW_iload_n (pc2 := 48) rfl dX12_copy_47 1 rfl ?_
          obtain ⟨b5, h⟩ := h
          refine AW_iald (pc2 := 49) rfl dX12_copy_48 q331 b5 ?_
          refine EW_aload_n (pc2 := 50) rfl dX12_copy_49 0 rfl ?_
          refine AW_getr (r := 331) ⟨gfRX12_278, rfl⟩ (pc2 := 53) rfl dX12_copy_50 q246 rfl ?_
          refine EW_iload_n (pc2 := 54) rfl dX12_copy_53 3 rfl ?_
          obtain ⟨b6, h⟩ := h
          refine AW_iald (pc2 := 55) rfl dX12_copy_54 q331 b6 ?_
          refine EW_icmp_eq (tgt := 60) (pc2 := 58) rfl dX12_copy_55 (by decide) (fun q => ?_) (fun q => ?_)
          · replace h := h.1 q
            refine EW_iload_n (pc2 := 61) rfl dX12_copy_60 2 rfl ?_
            refine EW_iload (pc2 := 63) rfl dX12_copy_61 5 rfl ?_
            refine AW_invS (M' := MX12_isWithin) [.int v2, .int v5] (rest := []) mlRX12_660 okX12_isWithin (pc2 := 66) rfl dX12_copy_63 rfl rfl (Nat.le_of_ble_eq_true rfl) (Nat.le_of_ble_eq_true rfl) (d' := 0) (by omega) (EW_mono (fun _ _ hr => ?_) (sX12_isWithin v2 v5  (wr x 246 0 0) _ _ 0 0 (Nat.le_refl _) h))
            obtain ⟨r7, rfl, rfl, h⟩ := hr
            refine EW_if_eq (tgt := 79) (pc2 := 69) rfl dX12_copy_66 (by decide) (fun q => ?_) (fun q => ?_)
            · replace h := h.1 q
              refine EW_iconst (pc2 := 80) (v := 4) rfl dX12_copy_79 (by decide) ?_
              exact AW_iret rfl dX12_copy_80 ⟨_, _, rfl, rfl, h⟩
            · replace h := h.2 q
              refine EW_iload (pc2 := 71) rfl dX12_copy_69 4 rfl ?_
              refine EW_iload (pc2 := 73) rfl dX12_copy_71 5 rfl ?_
              refine AW_invS (M' := MX12_isWithin) [.int v4, .int v5] (rest := []) mlRX12_660 okX12_isWithin (pc2 := 76) rfl dX12_copy_73 rfl rfl (Nat.le_of_ble_eq_true rfl) (Nat.le_of_ble_eq_true rfl) (d' := 0) (by omega) (EW_mono (fun _ _ hr => ?_) (sX12_isWithin v4 v5  (wr x 246 0 0) _ _ 0 0 (Nat.le_refl _) h))
              obtain ⟨r8, rfl, rfl, h⟩ := hr
              refine EW_if_ne (tgt := 81) (pc2 := 79) rfl dX12_copy_76 (by decide) (fun q => ?_) (fun q => ?_)
              · replace h := h.1 q
                refine EW_iconst (pc2 := 82) (v := 0) rfl dX12_copy_81 (by decide) ?_
                refine EW_istore (pc2 := 84) rfl dX12_copy_82 (by decide) [1, 2, 3, 4, 5, 6, 0] [(0, .ref 246), (1, .int v1), (2, .int v2), (3, .int v3), (4, .int v4), (5, .int v5), (6, .int 0)] rfl ?_
                exact sX12_copy_84 v1 v2 v3 v4 v5 0 (wr x 246 0 0) K d bc bs hdp h
              · replace h := h.2 q
                refine EW_iconst (pc2 := 80) (v := 4) rfl dX12_copy_79 (by decide) ?_
                exact AW_iret rfl dX12_copy_80 ⟨_, _, rfl, rfl, h⟩
          · replace h := h.2 q
            refine EW_iconst (pc2 := 59) (v := 3) rfl dX12_copy_58 (by decide) ?_
            exact AW_iret rfl dX12_copy_59 ⟨_, _, rfl, rfl, h⟩
        · replace h := h.2 q
          refine EW_iconst (pc2 := 42) (v := 2) rfl dX12_copy_41 (by decide) ?_
          exact AW_iret rfl dX12_copy_42 ⟨_, _, rfl, rfl, h⟩
    · replace h := h.2 q
      refine EW_iconst (pc2 := 22) (v := 1) rfl dX12_copy_21 (by decide) ?_
      exact AW_iret rfl dX12_copy_22 ⟨_, _, rfl, rfl, h⟩
