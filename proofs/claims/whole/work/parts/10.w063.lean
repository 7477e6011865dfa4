abbrev MX12_findPlan : ab_M := (yX12_findPlan, cX12_findPlan, 4, (some .boolean))
theorem dX12_findPlan_0 : decode cX12_findPlan 0 = .ok (.aload_n 0, 1) := by decide +kernel
theorem dX12_findPlan_1 : decode cX12_findPlan 1 = .ok (.iconst 0, 1) := by decide +kernel
theorem dX12_findPlan_2 : decode cX12_findPlan 2 = .ok (.putfield 297, 3) := by decide +kernel
theorem dX12_findPlan_5 : decode cX12_findPlan 5 = .ok (.iload_n 1, 1) := by decide +kernel
theorem dX12_findPlan_6 : decode cX12_findPlan 6 = .ok (.iconst 1, 1) := by decide +kernel
theorem dX12_findPlan_7 : decode cX12_findPlan 7 = .ok (.iconst 4, 1) := by decide +kernel
theorem dX12_findPlan_8 : decode cX12_findPlan 8 = .ok (.invokestatic 307, 3) := by decide +kernel
theorem dX12_findPlan_11 : decode cX12_findPlan 11 = .ok (.ifCond .eq 13, 3) := by decide +kernel
theorem dX12_findPlan_14 : decode cX12_findPlan 14 = .ok (.iload_n 2, 1) := by decide +kernel
theorem dX12_findPlan_15 : decode cX12_findPlan 15 = .ok (.iconst 1, 1) := by decide +kernel
theorem dX12_findPlan_16 : decode cX12_findPlan 16 = .ok (.bipush 100, 2) := by decide +kernel
theorem dX12_findPlan_18 : decode cX12_findPlan 18 = .ok (.invokestatic 307, 3) := by decide +kernel
theorem dX12_findPlan_21 : decode cX12_findPlan 21 = .ok (.ifCond .ne 5, 3) := by decide +kernel
theorem dX12_findPlan_24 : decode cX12_findPlan 24 = .ok (.iconst 0, 1) := by decide +kernel
theorem dX12_findPlan_25 : decode cX12_findPlan 25 = .ok (.ireturn, 1) := by decide +kernel
theorem dX12_findPlan_26 : decode cX12_findPlan 26 = .ok (.iconst 0, 1) := by decide +kernel
theorem dX12_findPlan_27 : decode cX12_findPlan 27 = .ok (.istore_n 3, 1) := by decide +kernel
theorem dX12_findPlan_28 : decode cX12_findPlan 28 = .ok (.iload_n 3, 1) := by decide +kernel
theorem dX12_findPlan_29 : decode cX12_findPlan 29 = .ok (.bipush 20, 2) := by decide +kernel
theorem dX12_findPlan_31 : decode cX12_findPlan 31 = .ok (.if_icmp .ge 16, 3) := by decide +kernel
theorem dX12_findPlan_34 : decode cX12_findPlan 34 = .ok (.aload_n 0, 1) := by decide +kernel
theorem dX12_findPlan_35 : decode cX12_findPlan 35 = .ok (.getfield 268, 3) := by decide +kernel
theorem dX12_findPlan_38 : decode cX12_findPlan 38 = .ok (.iload_n 3, 1) := by decide +kernel
theorem dX12_findPlan_39 : decode cX12_findPlan 39 = .ok (.iconst 0, 1) := by decide +kernel
theorem dX12_findPlan_40 : decode cX12_findPlan 40 = .ok (.iastore, 1) := by decide +kernel
theorem dX12_findPlan_41 : decode cX12_findPlan 41 = .ok (.iinc 3 1, 3) := by decide +kernel
theorem dX12_findPlan_44 : decode cX12_findPlan 44 = .ok (.goto (-16), 3) := by decide +kernel
theorem dX12_findPlan_47 : decode cX12_findPlan 47 = .ok (.iconst 0, 1) := by decide +kernel
theorem dX12_findPlan_48 : decode cX12_findPlan 48 = .ok (.istore_n 3, 1) := by decide +kernel
theorem dX12_findPlan_49 : decode cX12_findPlan 49 = .ok (.iload_n 3, 1) := by decide +kernel
theorem dX12_findPlan_50 : decode cX12_findPlan 50 = .ok (.aload_n 0, 1) := by decide +kernel
theorem dX12_findPlan_51 : decode cX12_findPlan 51 = .ok (.getfield 525, 3) := by decide +kernel
theorem dX12_findPlan_54 : decode cX12_findPlan 54 = .ok (.if_icmp .ge 24, 3) := by decide +kernel
theorem dX12_findPlan_57 : decode cX12_findPlan 57 = .ok (.aload_n 0, 1) := by decide +kernel
theorem dX12_findPlan_58 : decode cX12_findPlan 58 = .ok (.getfield 268, 3) := by decide +kernel
theorem dX12_findPlan_61 : decode cX12_findPlan 61 = .ok (.aload_n 0, 1) := by decide +kernel
theorem dX12_findPlan_62 : decode cX12_findPlan 62 = .ok (.getfield 214, 3) := by decide +kernel
theorem dX12_findPlan_65 : decode cX12_findPlan 65 = .ok (.iload_n 3, 1) := by decide +kernel
theorem dX12_findPlan_66 : decode cX12_findPlan 66 = .ok (.iaload, 1) := by decide +kernel
theorem dX12_findPlan_67 : decode cX12_findPlan 67 = .ok (.dup2, 1) := by decide +kernel
theorem dX12_findPlan_68 : decode cX12_findPlan 68 = .ok (.iaload, 1) := by decide +kernel
theorem dX12_findPlan_69 : decode cX12_findPlan 69 = .ok (.iconst 1, 1) := by decide +kernel
theorem dX12_findPlan_70 : decode cX12_findPlan 70 = .ok (.iadd, 1) := by decide +kernel
theorem dX12_findPlan_71 : decode cX12_findPlan 71 = .ok (.iastore, 1) := by decide +kernel
theorem dX12_findPlan_72 : decode cX12_findPlan 72 = .ok (.iinc 3 1, 3) := by decide +kernel
theorem dX12_findPlan_75 : decode cX12_findPlan 75 = .ok (.goto (-26), 3) := by decide +kernel
theorem dX12_findPlan_78 : decode cX12_findPlan 78 = .ok (.aload_n 0, 1) := by decide +kernel
theorem dX12_findPlan_79 : decode cX12_findPlan 79 = .ok (.iconst (-1), 1) := by decide +kernel
theorem dX12_findPlan_80 : decode cX12_findPlan 80 = .ok (.putfield 639, 3) := by decide +kernel
theorem dX12_findPlan_83 : decode cX12_findPlan 83 = .ok (.aload_n 0, 1) := by decide +kernel
theorem dX12_findPlan_84 : decode cX12_findPlan 84 = .ok (.iconst 0, 1) := by decide +kernel
theorem dX12_findPlan_85 : decode cX12_findPlan 85 = .ok (.iconst 0, 1) := by decide +kernel
theorem dX12_findPlan_86 : decode cX12_findPlan 86 = .ok (.iload_n 1, 1) := by decide +kernel
theorem dX12_findPlan_87 : decode cX12_findPlan 87 = .ok (.iload_n 2, 1) := by decide +kernel
theorem dX12_findPlan_88 : decode cX12_findPlan 88 = .ok (.invokevirtual 633, 3) := by decide +kernel
theorem dX12_findPlan_91 : decode cX12_findPlan 91 = .ok (.iconst 1, 1) := by decide +kernel
theorem dX12_findPlan_92 : decode cX12_findPlan 92 = .ok (.ireturn, 1) := by decide +kernel
theorem okX12_findPlan : ab_okM MX12_findPlan 2 := ⟨by decide, ⟨by decide, by decide⟩, ab_in 2682 (by decide +kernel) (by decide +kernel), ab_in 99 (by decide +kernel) (by decide +kernel), by decide +kernel, by decide⟩
set_option maxHeartbeats 4000000 in
set_option maxRecDepth 100000 in
def lX12_findPlan_49 (v1 : Int32) (v2 : Int32) (K : Int32 → ab_X → Prop)  (L49 : Int32 → ab_X → Prop) (v3 : Int32) (x : ab_X) : Prop := (((x.1 246 92) ≤ v3 → wX12_plans 0 0 v1 v2 (wr x 246 109 (-1)) (fun x4 => K 1 x4)) ∧ (¬ (x.1 246 92) ≤ v3 → (vp_in v3 60 ∧ vp_in (x.1 310 (Int32.toNatClampNeg v3)) 20 ∧ vp_in (x.1 310 (Int32.toNatClampNeg v3)) 20 ∧ L49 (v3 + 1) (wr x 328 (Int32.toNatClampNeg (x.1 310 (Int32.toNatClampNeg v3))) ((x.1 328 (Int32.toNatClampNeg (x.1 310 (Int32.toNatClampNeg v3)))) + 1)))))
set_option maxHeartbeats 4000000 in
set_option maxRecDepth 100000 in
theorem sX12_findPlan_49 (v1 : Int32) (v2 : Int32) (v3 : Int32)  (x : ab_X) (K : Int32 → ab_X → Prop)  (d bc bs : Nat) (hdp : 104 ≤ d)  (h : Lp2 (lX12_findPlan_49 v1 v2 K ) v3 x) : EW MX12_findPlan 49 [(0, .ref 246), (1, .int v1), (2, .int v2), (3, .int v3)] [] (aS x) d bc bs (liI K) := by
  refine Lp2.use (P := fun v3 x => EW MX12_findPlan 49 [(0, .ref 246), (1, .int v1), (2, .int v2), (3, .int v3)] [] (aS x) d bc bs (liI K)) (fun L49 v3 x hL49 h => ?_) v3 x h
  unfold lX12_findPlan_49 at h
  refine EW_iload_n (pc2 := 50) rfl dX12_findPlan_49 3 rfl ?_
  refine EW_aload_n (pc2 := 51) rfl dX12_findPlan_50 0 rfl ?_
  refine AW_geti ⟨gfRX12_525, rfl⟩ (pc2 := 54) rfl dX12_findPlan_51 q246 ?_
  refine EW_icmp_ge (tgt := 78) (pc2 := 57) rfl dX12_findPlan_54 (by decide) (fun q => ?_) (fun q => ?_)
  · replace h := h.1 q
    refine EW_aload_n (pc2 := 79) rfl dX12_findPlan_78 0 rfl ?_
    refine EW_iconst (pc2 := 80) (v := (-1)) rfl dX12_findPlan_79 (by decide) ?_
    refine AW_puti ⟨gfRX12_639, rfl, rfl⟩ (pc2 := 83) rfl dX12_findPlan_80 q246 ?_
    refine EW_aload_n (pc2 := 84) rfl dX12_findPlan_83 0 rfl ?_
    refine EW_iconst (pc2 := 85) (v := 0) rfl dX12_findPlan_84 (by decide) ?_
    refine EW_iconst (pc2 := 86) (v := 0) rfl dX12_findPlan_85 (by decide) ?_
    refine EW_iload_n (pc2 := 87) rfl dX12_findPlan_86 1 rfl ?_
    refine EW_iload_n (pc2 := 88) rfl dX12_findPlan_87 2 rfl ?_
    refine AW_invV (M' := MX12_plans) [.int 0, .int 0, .int v1, .int v2] (rest := []) mlRX12_633 okX12_plans (pc2 := 91) rfl dX12_findPlan_88 rfl rfl (Nat.le_of_ble_eq_true rfl) (Nat.le_of_ble_eq_true rfl) (d' := 103) (by omega) q246 ⟨by decide, rfl⟩ (EW_mono (fun _ _ hr => ?_) (sX12_plans 0 0 v1 v2  (wr x 246 109 (-1)) _ _ 0 0 (Nat.le_refl _) h))
    obtain ⟨x4, rfl, rfl, h⟩ := hr
    refine EW_iconst (pc2 := 92) (v := 1) rfl dX12_findPlan_91 (by decide) ?_
    exact AW_zret rfl isB1 dX12_findPlan_92 ⟨_, _, rfl, rfl, h⟩
  · replace h := h.2 q
    refine EW_aload_n (pc2 := 58) rfl dX12_findPlan_57 0 rfl ?_
    refine AW_getr (r := 328) ⟨gfRX12_268, rfl⟩ (pc2 := 61) rfl dX12_findPlan_58 q246 rfl ?_
    refine EW_aload_n (pc2 := 62) rfl dX12_findPlan_61 0 rfl ?_
    refine AW_getr (r := 310) ⟨gfRX12_214, rfl⟩ (pc2 := 65) rfl dX12_findPlan_62 q246 rfl ?_
    refine EW_iload_n (pc2 := 66) rfl dX12_findPlan_65 3 rfl ?_
    obtain ⟨b5, h⟩ := h
    refine AW_iald (pc2 := 67) rfl dX12_findPlan_66 q310 b5 ?_
    refine EW_dup2 (pc2 := 68) rfl dX12_findPlan_67 rfl rfl ?_
    obtain ⟨b6, h⟩ := h
    refine AW_iald (pc2 := 69) rfl dX12_findPlan_68 q328 b6 ?_
    refine EW_iconst (pc2 := 70) (v := 1) rfl dX12_findPlan_69 (by decide) ?_
    refine EW_iadd (pc2 := 71) rfl dX12_findPlan_70 ?_
    obtain ⟨b7, h⟩ := h
    refine AW_iast (pc2 := 72) rfl dX12_findPlan_71 q328 b7 ?_
    refine EW_iinc (v3 + 1) (pc2 := 75) rfl dX12_findPlan_72 3 rfl rfl (by decide) [1, 2, 3, 0] [(0, .ref 246), (1, .int v1), (2, .int v2), (3, .int (v3 + 1))] rfl ?_
    refine EW_goto (tgt := 49) dX12_findPlan_75 (by decide) ?_
    exact hL49 (v3 + 1) (wr x 328 (Int32.toNatClampNeg (x.1 310 (Int32.toNatClampNeg v3))) ((x.1 328 (Int32.toNatClampNeg (x.1 310 (Int32.toNatClampNeg v3)))) + 1)) h
set_option maxHeartbeats 4000000 in
set_option maxRecDepth 100000 in
def lX12_findPlan_28 (v1 : Int32) (v2 : Int32) (K : Int32 → ab_X → Prop)  (L28 : Int32 → ab_X → Prop) (v3 : Int32) (x : ab_X) : Prop := ((20 ≤ v3 → Lp2 (lX12_findPlan_49 v1 v2 K ) 0 x) ∧ (¬ 20 ≤ v3 → (vp_in v3 20 ∧ L28 (v3 + 1) (wr x 328 (Int32.toNatClampNeg v3) 0))))
set_option maxHeartbeats 4000000 in
set_option maxRecDepth 100000 in
theorem sX12_findPlan_28 (v1 : Int32) (v2 : Int32) (v3 : Int32)  (x : ab_X) (K : Int32 → ab_X → Prop)  (d bc bs : Nat) (hdp : 104 ≤ d)  (h : Lp2 (lX12_findPlan_28 v1 v2 K ) v3 x) : EW MX12_findPlan 28 [(0, .ref 246), (1, .int v1), (2, .int v2), (3, .int v3)] [] (aS x) d bc bs (liI K) := by
  refine Lp2.use (P := fun v3 x => EW MX12_findPlan 28 [(0, .ref 246), (1, .int v1), (2, .int v2), (3, .int v3)] [] (aS x) d bc bs (liI K)) (fun L28 v3 x hL28 h => ?_) v3 x h
  unfold lX12_findPlan_28 at h
  refine EW_iload_n (pc2 := 29) rfl dX12_findPlan_28 3 rfl ?_
  refine EW_bipush (pc2 := 31) (v := 20) rfl dX12_findPlan_29 (by decide) ?_
  refine EW_icmp_ge (tgt := 47) (pc2 := 34) rfl dX12_findPlan_31 (by decide) (fun q => ?_) (fun q => ?_)
  · replace h := h.1 q
    refine EW_iconst (pc2 := 48) (v := 0) rfl dX12_findPlan_47 (by decide) ?_
    refine EW_istore_n (pc2 := 49) rfl dX12_findPlan_48 (by decide) [1, 2, 3, 0] [(0, .ref 246), (1, .int v1), (2, .int v2), (3, .int 0)] rfl ?_
    exact sX12_findPlan_49 v1 v2 0 x K d bc bs hdp h
  · replace h := h.2 q
    refine EW_aload_n (pc2 := 35) rfl dX12_findPlan_34 0 rfl ?_
    refine AW_getr (r := 328) ⟨gfRX12_268, rfl⟩ (pc2 := 38) rfl dX12_findPlan_35 q246 rfl ?_
    refine EW_iload_n (pc2 := 39) rfl dX12_findPlan_38 3 rfl ?_
    refine EW_iconst (pc2 := 40) (v := 0) rfl dX12_findPlan_39 (by decide) ?_
    obtain ⟨b3, h⟩ := h
    refine AW_iast (pc2 := 41) rfl dX12_findPlan_40 q328 b3 ?_
    refine EW_iinc (v3 + 1) (pc2 := 44) rfl dX12_findPlan_41 3 rfl rfl (by decide) [1, 2, 3, 0] [(0, .ref 246), (1, .int v1), (2, .int v2), (3, .int (v3 + 1))] rfl ?_
    refine EW_goto (tgt := 28) dX12_findPlan_44 (by decide) ?_
    exact hL28 (v3 + 1) (wr x 328 (Int32.toNatClampNeg v3) 0) h
set_option maxHeartbeats 4000000 in
set_option maxRecDepth 100000 in
def wX12_findPlan (v1 : Int32) (v2 : Int32) (x : ab_X) (K : Int32 → ab_X → Prop) : Prop := wX12_isIn v1 1 4 (wr x 246 0 0) (fun r1 => ((r1 = 0 → K 0 (wr x 246 0 0)) ∧ (¬ r1 = 0 → wX12_isIn v2 1 100 (wr x 246 0 0) (fun r2 => ((¬ r2 = 0 → Lp2 (lX12_findPlan_28 v1 v2 K ) 0 (wr x 246 0 0)) ∧ (r2 = 0 → K 0 (wr x 246 0 0)))))))
set_option maxHeartbeats 4000000 in
set_option maxRecDepth 100000 in
theorem sX12_findPlan (v1 : Int32) (v2 : Int32)  (x : ab_X) (K : Int32 → ab_X → Prop) (d bc bs : Nat) (hdp : 104 ≤ d) (h : wX12_findPlan v1 v2 x K) : EW MX12_findPlan 0 [(0, .ref 246), (1, .int v1), (2, .int v2)] [] (aS x) d bc bs (liI K) := by
  unfold wX12_findPlan at h
  refine EW_aload_n (pc2 := 1) rfl dX12_findPlan_0 0 rfl ?_
  refine EW_iconst (pc2 := 2) (v := 0) rfl dX12_findPlan_1 (by decide) ?_
  refine AW_puti ⟨gfRX12_297, rfl, rfl⟩ (pc2 := 5) rfl dX12_findPlan_2 q246 ?_
  refine EW_iload_n (pc2 := 6) rfl dX12_findPlan_5 1 rfl ?_
  refine EW_iconst (pc2 := 7) (v := 1) rfl dX12_findPlan_6 (by decide) ?_
  refine EW_iconst (pc2 := 8) (v := 4) rfl dX12_findPlan_7 (by decide) ?_
  refine AW_invS (M' := MX12_isIn) [.int v1, .int 1, .int 4] (rest := []) mlRX12_307 okX12_isIn (pc2 := 11) rfl dX12_findPlan_8 rfl rfl (Nat.le_of_ble_eq_true rfl) (Nat.le_of_ble_eq_true rfl) (d' := 0) (by omega) (EW_mono (fun _ _ hr => ?_) (sX12_isIn v1 1 4  (wr x 246 0 0) _ _ 0 0 (Nat.le_refl _) h))
  obtain ⟨r1, rfl, rfl, h⟩ := hr
  refine EW_if_eq (tgt := 24) (pc2 := 14) rfl dX12_findPlan_11 (by decide) (fun q => ?_) (fun q => ?_)
  · replace h := h.1 q
    refine EW_iconst (pc2 := 25) (v := 0) rfl dX12_findPlan_24 (by decide) ?_
    exact AW_zret rfl isB0 dX12_findPlan_25 ⟨_, _, rfl, rfl, h⟩
  · replace h := h.2 q
    refine EW_iload_n (pc2 := 15) rfl dX12_findPlan_14 2 rfl ?_
    refine EW_iconst (pc2 := 16) (v := 1) rfl dX12_findPlan_15 (by decide) ?_
    refine EW_bipush (pc2 := 18) (v := 100) rfl dX12_findPlan_16 (by decide) ?_
    refine AW_invS (M' := MX12_isIn) [.int v2, .int 1, .int 100] (rest := []) mlRX12_307 okX12_isIn (pc2 := 21) rfl dX12_findPlan_18 rfl rfl (Nat.le_of_ble_eq_true rfl) (Nat.le_of_ble_eq_true rfl) (d' := 0) (by omega) (EW_mono (fun _ _ hr => ?_) (sX12_isIn v2 1 100  (wr x 246 0 0) _ _ 0 0 (Nat.le_refl _) h))
    obtain ⟨r2, rfl, rfl, h⟩ := hr
    refine EW_if_ne (tgt := 26) (pc2 := 24) rfl dX12_findPlan_21 (by decide) (fun q => ?_) (fun q => ?_)
    · replace h := h.1 q
      refine EW_iconst (pc2 := 27) (v := 0) rfl dX12_findPlan_26 (by decide) ?_
      refine EW_istore_n (pc2 := 28) rfl dX12_findPlan_27 (by decide) [1, 2, 3, 0] [(0, .ref 246), (1, .int v1), (2, .int v2), (3, .int 0)] rfl ?_
      exact sX12_findPlan_28 v1 v2 0 (wr x 246 0 0) K d bc bs hdp h
    · replace h := h.2 q
      refine EW_iconst (pc2 := 25) (v := 0) rfl dX12_findPlan_24 (by decide) ?_
      exact AW_zret rfl isB0 dX12_findPlan_25 ⟨_, _, rfl, rfl, h⟩
theorem gfRX12_265 : ab_L RX12 265 12 103 := ⟨by decide, by decide, ab_in 1952 (by decide +kernel) (by decide +kernel)⟩
theorem gfRX12_614 : ab_L RX12 614 12 105 := ⟨by decide, by decide, ab_in 1954 (by decide +kernel) (by decide +kernel)⟩
theorem gfRX12_259 : ab_L RX12 259 12 101 := ⟨by decide, by decide, ab_in 1950 (by decide +kernel) (by decide +kernel)⟩
theorem gfRX12_256 : ab_L RX12 256 12 100 := ⟨by decide, by decide, ab_in 1949 (by decide +kernel) (by decide +kernel)⟩
theorem mlRX12_626 : Cond.methodLink RX12 626 yX12_tours ∈ ab_G ∧ Cond.instanceMethod yX12_tours ∈ ab_G ∧ Cond.selects RX12 yX12_tours yX12_tours ∈ ab_G := ⟨ab_in 2667 (by decide +kernel) (by decide +kernel), ab_in 2669 (by decide +kernel) (by decide +kernel), ab_in 78 (by decide +kernel) (by decide +kernel)⟩
theorem gfRX12_262 : ab_L RX12 262 12 102 := ⟨by decide, by decide, ab_in 1951 (by decide +kernel) (by decide +kernel)⟩
theorem gfRX12_617 : ab_L RX12 617 12 108 := ⟨by decide, by decide, ab_in 1957 (by decide +kernel) (by decide +kernel)⟩
theorem gfRX12_620 : ab_L RX12 620 12 106 := ⟨by decide, by decide, ab_in 1955 (by decide +kernel) (by decide +kernel)⟩
theorem gfRX12_623 : ab_L RX12 623 12 107 := ⟨by decide, by decide, ab_in 1956 (by decide +kernel) (by decide +kernel)⟩
theorem gfRX12_611 : ab_L RX12 611 12 104 := ⟨by decide, by decide, ab_in 1953 (by decide +kernel) (by decide +kernel)⟩
abbrev MX12_tours : ab_M := (yX12_tours, cX12_tours, 8, none)
theorem dX12_tours_0 : decode cX12_tours 0 = .ok (.iload_n 3, 1) := by decide +kernel
theorem dX12_tours_1 : decode cX12_tours 1 = .ok (.aload_n 0, 1) := by decide +kernel
theorem dX12_tours_2 : decode cX12_tours 2 = .ok (.iload_n 2, 1) := by decide +kernel
theorem dX12_tours_3 : decode cX12_tours 3 = .ok (.aload_n 0, 1) := by decide +kernel
theorem dX12_tours_4 : decode cX12_tours 4 = .ok (.getfield 611, 3) := by decide +kernel
theorem dX12_tours_7 : decode cX12_tours 7 = .ok (.invokevirtual 328, 3) := by decide +kernel
theorem dX12_tours_10 : decode cX12_tours 10 = .ok (.iadd, 1) := by decide +kernel
theorem dX12_tours_11 : decode cX12_tours 11 = .ok (.istore 5, 2) := by decide +kernel
theorem dX12_tours_13 : decode cX12_tours 13 = .ok (.iload 5, 2) := by decide +kernel
theorem dX12_tours_15 : decode cX12_tours 15 = .ok (.aload_n 0, 1) := by decide +kernel
theorem dX12_tours_16 : decode cX12_tours 16 = .ok (.getfield 614, 3) := by decide +kernel
theorem dX12_tours_19 : decode cX12_tours 19 = .ok (.if_icmp .gt 84, 3) := by decide +kernel
theorem dX12_tours_22 : decode cX12_tours 22 = .ok (.aload_n 0, 1) := by decide +kernel
theorem dX12_tours_23 : decode cX12_tours 23 = .ok (.getfield 617, 3) := by decide +kernel
theorem dX12_tours_26 : decode cX12_tours 26 = .ok (.iconst (-1), 1) := by decide +kernel
theorem dX12_tours_27 : decode cX12_tours 27 = .ok (.if_icmp .eq 30, 3) := by decide +kernel
theorem dX12_tours_30 : decode cX12_tours 30 = .ok (.iload 4, 2) := by decide +kernel
theorem dX12_tours_32 : decode cX12_tours 32 = .ok (.aload_n 0, 1) := by decide +kernel
theorem dX12_tours_33 : decode cX12_tours 33 = .ok (.getfield 620, 3) := by decide +kernel
theorem dX12_tours_36 : decode cX12_tours 36 = .ok (.if_icmp .gt 21, 3) := by decide +kernel
theorem dX12_tours_39 : decode cX12_tours 39 = .ok (.iload 4, 2) := by decide +kernel
theorem dX12_tours_41 : decode cX12_tours 41 = .ok (.aload_n 0, 1) := by decide +kernel
theorem dX12_tours_42 : decode cX12_tours 42 = .ok (.getfield 620, 3) := by decide +kernel
theorem dX12_tours_45 : decode cX12_tours 45 = .ok (.if_icmp .ne 58, 3) := by decide +kernel
theorem dX12_tours_48 : decode cX12_tours 48 = .ok (.iload 5, 2) := by decide +kernel
theorem dX12_tours_50 : decode cX12_tours 50 = .ok (.aload_n 0, 1) := by decide +kernel
theorem dX12_tours_51 : decode cX12_tours 51 = .ok (.getfield 623, 3) := by decide +kernel
theorem dX12_tours_54 : decode cX12_tours 54 = .ok (.if_icmp .ge 49, 3) := by decide +kernel
theorem dX12_tours_57 : decode cX12_tours 57 = .ok (.aload_n 0, 1) := by decide +kernel
theorem dX12_tours_58 : decode cX12_tours 58 = .ok (.iload_n 1, 1) := by decide +kernel
theorem dX12_tours_59 : decode cX12_tours 59 = .ok (.putfield 617, 3) := by decide +kernel
theorem dX12_tours_62 : decode cX12_tours 62 = .ok (.aload_n 0, 1) := by decide +kernel
theorem dX12_tours_63 : decode cX12_tours 63 = .ok (.iload 4, 2) := by decide +kernel
theorem dX12_tours_65 : decode cX12_tours 65 = .ok (.putfield 620, 3) := by decide +kernel
theorem dX12_tours_68 : decode cX12_tours 68 = .ok (.aload_n 0, 1) := by decide +kernel
theorem dX12_tours_69 : decode cX12_tours 69 = .ok (.iload 5, 2) := by decide +kernel
theorem dX12_tours_71 : decode cX12_tours 71 = .ok (.putfield 623, 3) := by decide +kernel
theorem dX12_tours_74 : decode cX12_tours 74 = .ok (.iconst 0, 1) := by decide +kernel
theorem dX12_tours_75 : decode cX12_tours 75 = .ok (.istore 6, 2) := by decide +kernel
theorem dX12_tours_77 : decode cX12_tours 77 = .ok (.iload 6, 2) := by decide +kernel
theorem dX12_tours_79 : decode cX12_tours 79 = .ok (.iload_n 1, 1) := by decide +kernel
theorem dX12_tours_80 : decode cX12_tours 80 = .ok (.if_icmp .ge 23, 3) := by decide +kernel
theorem dX12_tours_83 : decode cX12_tours 83 = .ok (.aload_n 0, 1) := by decide +kernel
theorem dX12_tours_84 : decode cX12_tours 84 = .ok (.getfield 262, 3) := by decide +kernel
theorem dX12_tours_87 : decode cX12_tours 87 = .ok (.iload 6, 2) := by decide +kernel
theorem dX12_tours_89 : decode cX12_tours 89 = .ok (.aload_n 0, 1) := by decide +kernel
theorem dX12_tours_90 : decode cX12_tours 90 = .ok (.getfield 259, 3) := by decide +kernel
theorem dX12_tours_93 : decode cX12_tours 93 = .ok (.iload 6, 2) := by decide +kernel
theorem dX12_tours_95 : decode cX12_tours 95 = .ok (.iaload, 1) := by decide +kernel
theorem dX12_tours_96 : decode cX12_tours 96 = .ok (.iastore, 1) := by decide +kernel
theorem dX12_tours_97 : decode cX12_tours 97 = .ok (.iinc 6 1, 3) := by decide +kernel
theorem dX12_tours_100 : decode cX12_tours 100 = .ok (.goto (-23), 3) := by decide +kernel
theorem dX12_tours_103 : decode cX12_tours 103 = .ok (.iconst 0, 1) := by decide +kernel
theorem dX12_tours_104 : decode cX12_tours 104 = .ok (.istore 6, 2) := by decide +kernel
theorem dX12_tours_106 : decode cX12_tours 106 = .ok (.iload 6, 2) := by decide +kernel
theorem dX12_tours_108 : decode cX12_tours 108 = .ok (.aload_n 0, 1) := by decide +kernel
theorem dX12_tours_109 : decode cX12_tours 109 = .ok (.getfield 331, 3) := by decide +kernel
theorem dX12_tours_112 : decode cX12_tours 112 = .ok (.if_icmp .ge 103, 3) := by decide +kernel
theorem dX12_tours_115 : decode cX12_tours 115 = .ok (.aload_n 0, 1) := by decide +kernel
theorem dX12_tours_116 : decode cX12_tours 116 = .ok (.getfield 265, 3) := by decide +kernel
theorem dX12_tours_119 : decode cX12_tours 119 = .ok (.iload 6, 2) := by decide +kernel
theorem dX12_tours_121 : decode cX12_tours 121 = .ok (.baload, 1) := by decide +kernel
theorem dX12_tours_122 : decode cX12_tours 122 = .ok (.ifCond .ne 6, 3) := by decide +kernel
theorem dX12_tours_125 : decode cX12_tours 125 = .ok (.goto 84, 3) := by decide +kernel
theorem dX12_tours_128 : decode cX12_tours 128 = .ok (.iload_n 3, 1) := by decide +kernel
theorem dX12_tours_129 : decode cX12_tours 129 = .ok (.aload_n 0, 1) := by decide +kernel
theorem dX12_tours_130 : decode cX12_tours 130 = .ok (.iload_n 2, 1) := by decide +kernel
theorem dX12_tours_131 : decode cX12_tours 131 = .ok (.aload_n 0, 1) := by decide +kernel
theorem dX12_tours_132 : decode cX12_tours 132 = .ok (.getfield 32, 3) := by decide +kernel
theorem dX12_tours_135 : decode cX12_tours 135 = .ok (.iload 6, 2) := by decide +kernel
theorem dX12_tours_137 : decode cX12_tours 137 = .ok (.iaload, 1) := by decide +kernel
theorem dX12_tours_138 : decode cX12_tours 138 = .ok (.invokevirtual 328, 3) := by decide +kernel
theorem dX12_tours_141 : decode cX12_tours 141 = .ok (.iadd, 1) := by decide +kernel
theorem dX12_tours_142 : decode cX12_tours 142 = .ok (.bipush 10, 2) := by decide +kernel
theorem dX12_tours_144 : decode cX12_tours 144 = .ok (.iadd, 1) := by decide +kernel
theorem dX12_tours_145 : decode cX12_tours 145 = .ok (.istore 7, 2) := by decide +kernel
theorem dX12_tours_147 : decode cX12_tours 147 = .ok (.iload 7, 2) := by decide +kernel
theorem dX12_tours_149 : decode cX12_tours 149 = .ok (.aload_n 0, 1) := by decide +kernel
theorem dX12_tours_150 : decode cX12_tours 150 = .ok (.getfield 614, 3) := by decide +kernel
theorem dX12_tours_153 : decode cX12_tours 153 = .ok (.if_icmp .le 6, 3) := by decide +kernel
theorem dX12_tours_156 : decode cX12_tours 156 = .ok (.goto 53, 3) := by decide +kernel
theorem dX12_tours_159 : decode cX12_tours 159 = .ok (.aload_n 0, 1) := by decide +kernel
theorem dX12_tours_160 : decode cX12_tours 160 = .ok (.getfield 265, 3) := by decide +kernel
theorem dX12_tours_163 : decode cX12_tours 163 = .ok (.iload 6, 2) := by decide +kernel
theorem dX12_tours_165 : decode cX12_tours 165 = .ok (.iconst 0, 1) := by decide +kernel
theorem dX12_tours_166 : decode cX12_tours 166 = .ok (.bastore, 1) := by decide +kernel
theorem dX12_tours_167 : decode cX12_tours 167 = .ok (.aload_n 0, 1) := by decide +kernel
theorem dX12_tours_168 : decode cX12_tours 168 = .ok (.getfield 259, 3) := by decide +kernel
theorem dX12_tours_171 : decode cX12_tours 171 = .ok (.iload_n 1, 1) := by decide +kernel
theorem dX12_tours_172 : decode cX12_tours 172 = .ok (.iload 6, 2) := by decide +kernel
theorem dX12_tours_174 : decode cX12_tours 174 = .ok (.iastore, 1) := by decide +kernel
theorem dX12_tours_175 : decode cX12_tours 175 = .ok (.aload_n 0, 1) := by decide +kernel
theorem dX12_tours_176 : decode cX12_tours 176 = .ok (.iload_n 1, 1) := by decide +kernel
theorem dX12_tours_177 : decode cX12_tours 177 = .ok (.iconst 1, 1) := by decide +kernel
theorem dX12_tours_178 : decode cX12_tours 178 = .ok (.iadd, 1) := by decide +kernel
theorem dX12_tours_179 : decode cX12_tours 179 = .ok (.aload_n 0, 1) := by decide +kernel
theorem dX12_tours_180 : decode cX12_tours 180 = .ok (.getfield 32, 3) := by decide +kernel
theorem dX12_tours_183 : decode cX12_tours 183 = .ok (.iload 6, 2) := by decide +kernel
theorem dX12_tours_185 : decode cX12_tours 185 = .ok (.iaload, 1) := by decide +kernel
theorem dX12_tours_186 : decode cX12_tours 186 = .ok (.iload 7, 2) := by decide +kernel
theorem dX12_tours_188 : decode cX12_tours 188 = .ok (.iload 4, 2) := by decide +kernel
theorem dX12_tours_190 : decode cX12_tours 190 = .ok (.aload_n 0, 1) := by decide +kernel
theorem dX12_tours_191 : decode cX12_tours 191 = .ok (.getfield 256, 3) := by decide +kernel
theorem dX12_tours_194 : decode cX12_tours 194 = .ok (.iload 6, 2) := by decide +kernel
theorem dX12_tours_196 : decode cX12_tours 196 = .ok (.iaload, 1) := by decide +kernel
theorem dX12_tours_197 : decode cX12_tours 197 = .ok (.iadd, 1) := by decide +kernel
theorem dX12_tours_198 : decode cX12_tours 198 = .ok (.invokevirtual 626, 3) := by decide +kernel
theorem dX12_tours_201 : decode cX12_tours 201 = .ok (.aload_n 0, 1) := by decide +kernel
theorem dX12_tours_202 : decode cX12_tours 202 = .ok (.getfield 265, 3) := by decide +kernel
theorem dX12_tours_205 : decode cX12_tours 205 = .ok (.iload 6, 2) := by decide +kernel
theorem dX12_tours_207 : decode cX12_tours 207 = .ok (.iconst 1, 1) := by decide +kernel
theorem dX12_tours_208 : decode cX12_tours 208 = .ok (.bastore, 1) := by decide +kernel
theorem dX12_tours_209 : decode cX12_tours 209 = .ok (.iinc 6 1, 3) := by decide +kernel
theorem dX12_tours_212 : decode cX12_tours 212 = .ok (.goto (-106), 3) := by decide +kernel
theorem dX12_tours_215 : decode cX12_tours 215 = .ok (.return_, 1) := by decide +kernel
theorem okX12_tours : ab_okM MX12_tours 4 := ⟨by decide, ⟨by decide, by decide⟩, ab_in 2670 (by decide +kernel) (by decide +kernel), ab_in 99 (by decide +kernel) (by decide +kernel), by decide +kernel, by decide⟩
set_option maxHeartbeats 4000000 in
set_option maxRecDepth 100000 in
def lX12_tours_106 (RX12_tours : Int32 → Int32 → Int32 → Int32 → ab_X → (ab_X → Prop) → Prop) (v1 : Int32) (v2 : Int32) (v3 : Int32) (v4 : Int32) (K : ab_X → Prop)  (L106 : Int32 → ab_X → Prop) (v6 : Int32) (x : ab_X) : Prop := (((x.1 246 31) ≤ v6 → K x) ∧ (¬ (x.1 246 31) ≤ v6 → (vp_in v6 12 ∧ ((¬ (x.1 327 (Int32.toNatClampNeg v6)) = 0 → (vp_in v6 12 ∧ wX12_walkOf v2 (x.1 254 (Int32.toNatClampNeg v6)) x (fun r4 => ((((v3 + r4) + 10) ≤ (x.1 246 105) → (vp_in v6 12 ∧ vp_in v1 12 ∧ vp_in v6 12 ∧ vp_in v6 12 ∧ RX12_tours (v1 + 1) ((wr (wr x 327 (Int32.toNatClampNeg v6) 0) 325 (Int32.toNatClampNeg v1) v6).1 254 (Int32.toNatClampNeg v6)) ((v3 + r4) + 10) (v4 + ((wr (wr x 327 (Int32.toNatClampNeg v6) 0) 325 (Int32.toNatClampNeg v1) v6).1 324 (Int32.toNatClampNeg v6))) (wr (wr x 327 (Int32.toNatClampNeg v6) 0) 325 (Int32.toNatClampNeg v1) v6) (fun x9 => (vp_in v6 12 ∧ L106 (v6 + 1) (wr x9 327 (Int32.toNatClampNeg v6) 1))))) ∧ (¬ ((v3 + r4) + 10) ≤ (x.1 246 105) → L106 (v6 + 1) x))))) ∧ ((x.1 327 (Int32.toNatClampNeg v6)) = 0 → L106 (v6 + 1) x)))))
set_option maxHeartbeats 4000000 in
set_option maxRecDepth 100000 in
theorem sX12_tours_106 (RX12_tours : Int32 → Int32 → Int32 → Int32 → ab_X → (ab_X → Prop) → Prop) (v1 : Int32) (v2 : Int32) (v3 : Int32) (v4 : Int32) (v6 : Int32)  (x : ab_X) (K : ab_X → Prop)  (d bc bs : Nat) (hdp : 1 ≤ d) (dr : Nat) (hRX12_tours : ∀ (v1 : Int32) (v2 : Int32) (v3 : Int32) (v4 : Int32)  (x : ab_X) (K : ab_X → Prop), RX12_tours v1 v2 v3 v4 x K → EW MX12_tours 0 [(0, .ref 246), (1, .int v1), (2, .int v2), (3, .int v3), (4, .int v4)] [] (aS x) dr 0 0 (liV K)) (hdr : dr + 1 ≤ d)  (h : Lp2 (lX12_tours_106 RX12_tours v1 v2 v3 v4 K ) v6 x) : EW MX12_tours 106 [(0, .ref 246), (1, .int v1), (2, .int v2), (3, .int v3), (4, .int v4), (6, .int v6)] [] (aS x) d bc bs (liV K) := by
  refine Lp2.use (P := fun v6 x => EW MX12_tours 106 [(0, .ref 246), (1, .int v1), (2, .int v2), (3, .int v3), (4, .int v4), (6, .int v6)] [] (aS x) d bc bs (liV K)) (fun L106 v6 x hL106 h => ?_) v6 x h
  unfold lX12_tours_106 at h
  refine EW_iload (pc2 := 108) rfl dX12_tours_106 5 rfl ?_
  refine EW_aload_n (pc2 := 109) rfl dX12_tours_108 0 rfl ?_
  refine AW_geti ⟨gfRX12_331, rfl⟩ (pc2 := 112) rfl dX12_tours_109 q246 ?_
  refine EW_icmp_ge (tgt := 215) (pc2 := 115) rfl dX12_tours_112 (by decide) (fun q => ?_) (fun q => ?_)
  · replace h := h.1 q
    exact EW_vret rfl dX12_tours_215 ⟨_, rfl, rfl, h⟩
  · replace h := h.2 q
    refine EW_aload_n (pc2 := 116) rfl dX12_tours_115 0 rfl ?_
    refine AW_getr (r := 327) ⟨gfRX12_265, rfl⟩ (pc2 := 119) rfl dX12_tours_116 q246 rfl ?_
    refine EW_iload (pc2 := 121) rfl dX12_tours_119 5 rfl ?_
    obtain ⟨b2, h⟩ := h
    refine AW_zald (pc2 := 122) rfl dX12_tours_121 q327 b2 ?_
    refine EW_if_ne (tgt := 128) (pc2 := 125) rfl dX12_tours_122 (by decide) (fun q => ?_) (fun q => ?_)
    · replace h := h.1 q
      refine EW_iload_n (pc2 := 129) rfl dX12_tours_128 3 rfl ?_
      refine EW_aload_n (pc2 := 130) rfl dX12_tours_129 0 rfl ?_
      refine EW_iload_n (pc2 := 131) rfl dX12_tours_130 2 rfl ?_
      refine EW_aload_n (pc2 := 132) rfl dX12_tours_131 0 rfl ?_
      refine AW_getr (r := 254) ⟨gfRX12_32, rfl⟩ (pc2 := 135) rfl dX12_tours_132 q246 rfl ?_
      refine EW_iload (pc2 := 137) rfl dX12_tours_135 5 rfl ?_
      obtain ⟨b3, h⟩ := h
      refine AW_iald (pc2 := 138) rfl dX12_tours_137 q254 b3 ?_
      refine AW_invV (M' := MX12_walkOf) [.int v2, .int (x.1 254 (Int32.toNatClampNeg v6))] (rest := [.int v3]) mlRX12_328 okX12_walkOf (pc2 := 141) rfl dX12_tours_138 rfl rfl (Nat.le_of_ble_eq_true rfl) (Nat.le_of_ble_eq_true rfl) (d' := 0) (by omega) q246 ⟨by decide, rfl⟩ (EW_mono (fun _ _ hr => ?_) (sX12_walkOf v2 (x.1 254 (Int32.toNatClampNeg v6))  x _ _ 0 0 (Nat.le_refl _) h))
      obtain ⟨r4, rfl, rfl, h⟩ := hr
      refine EW_iadd (pc2 := 142) rfl dX12_tours_141 ?_
      refine EW_bipush (pc2 := 144) (v := 10) rfl dX12_tours_142 (by decide) ?_
      refine EW_iadd (pc2 := 145) rfl dX12_tours_144 ?_
      refine EW_istore (pc2 := 147) rfl dX12_tours_145 (by decide) [1, 2, 3, 4, 5, 6, 0] [(0, .ref 246), (1, .int v1), (2, .int v2), (3, .int v3), (4, .int v4), (6, .int v6), (7, .int ((v3 + r4) + 10))] rfl ?_
      refine EW_iload (pc2 := 149) rfl dX12_tours_147 6 rfl ?_
      refine EW_aload_n (pc2 := 150) rfl dX12_tours_149 0 rfl ?_
      refine AW_geti ⟨gfRX12_614, rfl⟩ (pc2 := 153) rfl dX12_tours_150 q246 ?_
      refine EW_icmp_le (tgt := 159) (pc2 := 156) rfl dX12_tours_153 (by decide) (fun q => ?_) (fun q => ?_)
      · replace h := h.1 q
        refine EW_aload_n (pc2 := 160) rfl dX12_tours_159 0 rfl ?_
        refine AW_getr (r := 327) ⟨gfRX12_265, rfl⟩ (pc2 := 163) rfl dX12_tours_160 q246 rfl ?_
        refine EW_iload (pc2 := 165) rfl dX12_tours_163 5 rfl ?_
        refine EW_iconst (pc2 := 166) (v := 0) rfl dX12_tours_165 (by decide) ?_
        obtain ⟨b5, h⟩ := h
        refine AW_zast (pc2 := 167) rfl dX12_tours_166 q327 b5 isB0 ?_
        refine EW_aload_n (pc2 := 168) rfl dX12_tours_167 0 rfl ?_
        refine AW_getr (r := 325) ⟨gfRX12_259, rfl⟩ (pc2 := 171) rfl dX12_tours_168 q246 rfl ?_
        refine EW_iload_n (pc2 := 172) rfl dX12_tours_171 1 rfl ?_
        refine EW_iload (pc2 := 174) rfl dX12_tours_172 5 rfl ?_
        obtain ⟨b6, h⟩ := h
        refine AW_iast (pc2 := 175) rfl dX12_tours_174 q325 b6 ?_
        refine EW_aload_n (pc2 := 176) rfl dX12_tours_175 0 rfl ?_
        refine EW_iload_n (pc2 := 177) rfl dX12_tours_176 1 rfl ?_
        refine EW_iconst (pc2 := 178) (v := 1) rfl dX12_tours_177 (by decide) ?_
        refine EW_iadd (pc2 := 179) rfl dX12_tours_178 ?_
        refine EW_aload_n (pc2 := 180) rfl dX12_tours_179 0 rfl ?_
        refine AW_getr (r := 254) ⟨gfRX12_32, rfl⟩ (pc2 := 183) rfl dX12_tours_180 q246 rfl ?_
        refine EW_iload (pc2 := 185) rfl dX12_tours_183 5 rfl ?_
        obtain ⟨b7, h⟩ := h
        refine AW_iald (pc2 := 186) rfl dX12_tours_185 q254 b7 ?_
        refine EW_iload (pc2 := 188) rfl dX12_tours_186 6 rfl ?_
        refine EW_iload (pc2 := 190) rfl dX12_tours_188 4 rfl ?_
        refine EW_aload_n (pc2 := 191) rfl dX12_tours_190 0 rfl ?_
        refine AW_getr (r := 324) ⟨gfRX12_256, rfl⟩ (pc2 := 194) rfl dX12_tours_191 q246 rfl ?_
        refine EW_iload (pc2 := 196) rfl dX12_tours_194 5 rfl ?_
        obtain ⟨b8, h⟩ := h
        refine AW_iald (pc2 := 197) rfl dX12_tours_196 q324 b8 ?_
        refine EW_iadd (pc2 := 198) rfl dX12_tours_197 ?_
        refine AW_invV (M' := MX12_tours) [.int (v1 + 1), .int ((wr (wr x 327 (Int32.toNatClampNeg v6) 0) 325 (Int32.toNatClampNeg v1) v6).1 254 (Int32.toNatClampNeg v6)), .int ((v3 + r4) + 10), .int (v4 + ((wr (wr x 327 (Int32.toNatClampNeg v6) 0) 325 (Int32.toNatClampNeg v1) v6).1 324 (Int32.toNatClampNeg v6)))] (rest := []) mlRX12_626 okX12_tours (pc2 := 201) rfl dX12_tours_198 rfl rfl (Nat.le_of_ble_eq_true rfl) (Nat.le_of_ble_eq_true rfl) (d' := dr) (by omega) q246 ⟨by decide, rfl⟩ (EW_mono (fun _ _ hr => ?_) (hRX12_tours (v1 + 1) ((wr (wr x 327 (Int32.toNatClampNeg v6) 0) 325 (Int32.toNatClampNeg v1) v6).1 254 (Int32.toNatClampNeg v6)) ((v3 + r4) + 10) (v4 + ((wr (wr x 327 (Int32.toNatClampNeg v6) 0) 325 (Int32.toNatClampNeg v1) v6).1 324 (Int32.toNatClampNeg v6)))  (wr (wr x 327 (Int32.toNatClampNeg v6) 0) 325 (Int32.toNatClampNeg v1) v6) _  h))
        obtain ⟨x9, rfl, rfl, h⟩ := hr
        refine EW_aload_n (pc2 := 202) rfl dX12_tours_201 0 rfl ?_
        refine AW_getr (r := 327) ⟨gfRX12_265, rfl⟩ (pc2 := 205) rfl dX12_tours_202 q246 rfl ?_
        refine EW_iload (pc2 := 207) rfl dX12_tours_205 5 rfl ?_
        refine EW_iconst (pc2 := 208) (v := 1) rfl dX12_tours_207 (by decide) ?_
        obtain ⟨b10, h⟩ := h
        refine AW_zast (pc2 := 209) rfl dX12_tours_208 q327 b10 isB1 ?_
        refine EW_iinc (v6 + 1) (pc2 := 212) rfl dX12_tours_209 5 rfl rfl (by decide) [1, 2, 3, 4, 5, 0, 6] [(0, .ref 246), (1, .int v1), (2, .int v2), (3, .int v3), (4, .int v4), (6, .int (v6 + 1)), (7, .int ((v3 + r4) + 10))] rfl ?_
        refine EW_goto (tgt := 106) dX12_tours_212 (by decide) ?_
        refine EW_ls [0, 1, 2, 3, 4, 5] rfl ?_
        exact hL106 (v6 + 1) (wr x9 327 (Int32.toNatClampNeg v6) 1) h
      · replace h := h.2 q
        refine EW_goto (tgt := 209) dX12_tours_156 (by decide) ?_
        refine EW_iinc (v6 + 1) (pc2 := 212) rfl dX12_tours_209 5 rfl rfl (by decide) [1, 2, 3, 4, 5, 0, 6] [(0, .ref 246), (1, .int v1), (2, .int v2), (3, .int v3), (4, .int v4), (6, .int (v6 + 1)), (7, .int ((v3 + r4) + 10))] rfl ?_
        refine EW_goto (tgt := 106) dX12_tours_212 (by decide) ?_
        refine EW_ls [0, 1, 2, 3, 4, 5] rfl ?_
        exact hL106 (v6 + 1) x h
    · replace h := h.2 q
      refine EW_goto (tgt := 209) dX12_tours_125 (by decide) ?_
      refine EW_iinc (v6 + 1) (pc2 := 212) rfl dX12_tours_209 5 rfl rfl (by decide) [1, 2, 3, 4, 5, 0] [(0, .ref 246), (1, .int v1), (2, .int v2), (3, .int v3), (4, .int v4), (6, .int (v6 + 1))] rfl ?_
      refine EW_goto (tgt := 106) dX12_tours_212 (by decide) ?_
      exact hL106 (v6 + 1) x h
set_option maxHeartbeats 4000000 in
set_option maxRecDepth 100000 in
def lX12_tours_77 (RX12_tours : Int32 → Int32 → Int32 → Int32 → ab_X → (ab_X → Prop) → Prop) (v1 : Int32) (v2 : Int32) (v3 : Int32) (v4 : Int32) (K : ab_X → Prop)  (L77 : Int32 → ab_X → Prop) (v6 : Int32) (x : ab_X) : Prop := ((v1 ≤ v6 → Lp2 (lX12_tours_106 RX12_tours v1 v2 v3 v4 K ) 0 x) ∧ (¬ v1 ≤ v6 → (vp_in v6 12 ∧ vp_in v6 12 ∧ L77 (v6 + 1) (wr x 326 (Int32.toNatClampNeg v6) (x.1 325 (Int32.toNatClampNeg v6))))))
set_option maxHeartbeats 4000000 in
set_option maxRecDepth 100000 in
theorem sX12_tours_77 (RX12_tours : Int32 → Int32 → Int32 → Int32 → ab_X → (ab_X → Prop) → Prop) (v1 : Int32) (v2 : Int32) (v3 : Int32) (v4 : Int32) (v6 : Int32)  (x : ab_X) (K : ab_X → Prop)  (d bc bs : Nat) (hdp : 1 ≤ d) (dr : Nat) (hRX12_tours : ∀ (v1 : Int32) (v2 : Int32) (v3 : Int32) (v4 : Int32)  (x : ab_X) (K : ab_X → Prop), RX12_tours v1 v2 v3 v4 x K → EW MX12_tours 0 [(0, .ref 246), (1, .int v1), (2, .int v2), (3, .int v3), (4, .int v4)] [] (aS x) dr 0 0 (liV K)) (hdr : dr + 1 ≤ d)  (h : Lp2 (lX12_tours_77 RX12_tours v1 v2 v3 v4 K ) v6 x) : EW MX12_tours 77 [(0, .ref 246), (1, .int v1), (2, .int v2), (3, .int v3), (4, .int v4), (6, .int v6)] [] (aS x) d bc bs (liV K) := by
  refine Lp2.use (P := fun v6 x => EW MX12_tours 77 [(0, .ref 246), (1, .int v1), (2, .int v2), (3, .int v3), (4, .int v4), (6, .int v6)] [] (aS x) d bc bs (liV K)) (fun L77 v6 x hL77 h => ?_) v6 x h
  unfold lX12_tours_77 at h
  refine EW_iload (pc2 := 79) rfl dX12_tours_77 5 rfl ?_
  refine EW_iload_n (pc2 := 80) rfl dX12_tours_79 1 rfl ?_
  refine EW_icmp_ge (tgt := 103) (pc2 := 83) rfl dX12_tours_80 (by decide) (fun q => ?_) (fun q => ?_)
  · replace h := h.1 q
    refine EW_iconst (pc2 := 104) (v := 0) rfl dX12_tours_103 (by decide) ?_
    refine EW_istore (pc2 := 106) rfl dX12_tours_104 (by decide) [1, 2, 3, 4, 5, 0] [(0, .ref 246), (1, .int v1), (2, .int v2), (3, .int v3), (4, .int v4), (6, .int 0)] rfl ?_
    exact sX12_tours_106 RX12_tours v1 v2 v3 v4 0 x K d bc bs hdp dr hRX12_tours hdr h
  · replace h := h.2 q
    refine EW_aload_n (pc2 := 84) rfl dX12_tours_83 0 rfl ?_
    refine AW_getr (r := 326) ⟨gfRX12_262, rfl⟩ (pc2 := 87) rfl dX12_tours_84 q246 rfl ?_
    refine EW_iload (pc2 := 89) rfl dX12_tours_87 5 rfl ?_
    refine EW_aload_n (pc2 := 90) rfl dX12_tours_89 0 rfl ?_
    refine AW_getr (r := 325) ⟨gfRX12_259, rfl⟩ (pc2 := 93) rfl dX12_tours_90 q246 rfl ?_
    refine EW_iload (pc2 := 95) rfl dX12_tours_93 5 rfl ?_
    obtain ⟨b11, h⟩ := h
    refine AW_iald (pc2 := 96) rfl dX12_tours_95 q325 b11 ?_
    obtain ⟨b12, h⟩ := h
    refine AW_iast (pc2 := 97) rfl dX12_tours_96 q326 b12 ?_
    refine EW_iinc (v6 + 1) (pc2 := 100) rfl dX12_tours_97 5 rfl rfl (by decide) [1, 2, 3, 4, 5, 0] [(0, .ref 246), (1, .int v1), (2, .int v2), (3, .int v3), (4, .int v4), (6, .int (v6 + 1))] rfl ?_
    refine EW_goto (tgt := 77) dX12_tours_100 (by decide) ?_
    exact hL77 (v6 + 1) (wr x 326 (Int32.toNatClampNeg v6) (x.1 325 (Int32.toNatClampNeg v6))) h
set_option maxHeartbeats 4000000 in
set_option maxRecDepth 100000 in
def wX12_tours_57 (RX12_tours : Int32 → Int32 → Int32 → Int32 → ab_X → (ab_X → Prop) → Prop) (v1 : Int32) (v2 : Int32) (v3 : Int32) (v4 : Int32) (v5 : Int32) (x : ab_X) (K : ab_X → Prop)  : Prop := Lp2 (lX12_tours_77 RX12_tours v1 v2 v3 v4 K ) 0 (wr (wr (wr x 246 108 v1) 246 106 v4) 246 107 v5)
set_option maxHeartbeats 4000000 in
set_option maxRecDepth 100000 in
theorem sX12_tours_57 (RX12_tours : Int32 → Int32 → Int32 → Int32 → ab_X → (ab_X → Prop) → Prop) (v1 : Int32) (v2 : Int32) (v3 : Int32) (v4 : Int32) (v5 : Int32)  (x : ab_X) (K : ab_X → Prop)  (d bc bs : Nat) (hdp : 1 ≤ d) (dr : Nat) (hRX12_tours : ∀ (v1 : Int32) (v2 : Int32) (v3 : Int32) (v4 : Int32)  (x : ab_X) (K : ab_X → Prop), RX12_tours v1 v2 v3 v4 x K → EW MX12_tours 0 [(0, .ref 246), (1, .int v1), (2, .int v2), (3, .int v3), (4, .int v4)] [] (aS x) dr 0 0 (liV K)) (hdr : dr + 1 ≤ d)  (h : wX12_tours_57 RX12_tours v1 v2 v3 v4 v5 x K ) : EW MX12_tours 57 [(0, .ref 246), (1, .int v1), (2, .int v2), (3, .int v3), (4, .int v4), (5, .int v5)] [] (aS x) d bc bs (liV K) := by
  unfold wX12_tours_57 at h
  refine EW_aload_n (pc2 := 58) rfl dX12_tours_57 0 rfl ?_
  refine EW_iload_n (pc2 := 59) rfl dX12_tours_58 1 rfl ?_
  refine AW_puti ⟨gfRX12_617, rfl, rfl⟩ (pc2 := 62) rfl dX12_tours_59 q246 ?_
  refine EW_aload_n (pc2 := 63) rfl dX12_tours_62 0 rfl ?_
  refine EW_iload (pc2 := 65) rfl dX12_tours_63 4 rfl ?_
  refine AW_puti ⟨gfRX12_620, rfl, rfl⟩ (pc2 := 68) rfl dX12_tours_65 q246 ?_
  refine EW_aload_n (pc2 := 69) rfl dX12_tours_68 0 rfl ?_
  refine EW_iload (pc2 := 71) rfl dX12_tours_69 5 rfl ?_
  refine AW_puti ⟨gfRX12_623, rfl, rfl⟩ (pc2 := 74) rfl dX12_tours_71 q246 ?_
  refine EW_iconst (pc2 := 75) (v := 0) rfl dX12_tours_74 (by decide) ?_
  refine EW_istore (pc2 := 77) rfl dX12_tours_75 (by decide) [1, 2, 3, 4, 5, 6, 0] [(0, .ref 246), (1, .int v1), (2, .int v2), (3, .int v3), (4, .int v4), (5, .int v5), (6, .int 0)] rfl ?_
  refine EW_ls [0, 1, 2, 3, 4, 6] rfl ?_
  exact sX12_tours_77 RX12_tours v1 v2 v3 v4 0 (wr (wr (wr x 246 108 v1) 246 106 v4) 246 107 v5) K d bc bs hdp dr hRX12_tours hdr h
set_option maxHeartbeats 4000000 in
set_option maxRecDepth 100000 in
def bX12_tours (RX12_tours : Int32 → Int32 → Int32 → Int32 → ab_X → (ab_X → Prop) → Prop) (v1 : Int32) (v2 : Int32) (v3 : Int32) (v4 : Int32) (x : ab_X) (K : ab_X → Prop) : Prop := wX12_walkOf v2 (x.1 246 104) x (fun r1 => (((x.1 246 105) < (v3 + r1) → Lp2 (lX12_tours_106 RX12_tours v1 v2 v3 v4 K ) 0 x) ∧ (¬ (x.1 246 105) < (v3 + r1) → (((x.1 246 108) = (-1) → wX12_tours_57 RX12_tours v1 v2 v3 v4 (v3 + r1) x K) ∧ (¬ (x.1 246 108) = (-1) → (((x.1 246 106) < v4 → wX12_tours_57 RX12_tours v1 v2 v3 v4 (v3 + r1) x K) ∧ (¬ (x.1 246 106) < v4 → ((¬ v4 = (x.1 246 106) → Lp2 (lX12_tours_106 RX12_tours v1 v2 v3 v4 K ) 0 x) ∧ (v4 = (x.1 246 106) → (((x.1 246 107) ≤ (v3 + r1) → Lp2 (lX12_tours_106 RX12_tours v1 v2 v3 v4 K ) 0 x) ∧ (¬ (x.1 246 107) ≤ (v3 + r1) → wX12_tours_57 RX12_tours v1 v2 v3 v4 (v3 + r1) x K)))))))))))
set_option maxHeartbeats 4000000 in
set_option maxRecDepth 100000 in
theorem bsX12_tours (RX12_tours : Int32 → Int32 → Int32 → Int32 → ab_X → (ab_X → Prop) → Prop) (v1 : Int32) (v2 : Int32) (v3 : Int32) (v4 : Int32)  (x : ab_X) (K : ab_X → Prop) (d bc bs : Nat) (hdp : 1 ≤ d) (dr : Nat) (hRX12_tours : ∀ (v1 : Int32) (v2 : Int32) (v3 : Int32) (v4 : Int32)  (x : ab_X) (K : ab_X → Prop), RX12_tours v1 v2 v3 v4 x K → EW MX12_tours 0 [(0, .ref 246), (1, .int v1), (2, .int v2), (3, .int v3), (4, .int v4)] [] (aS x) dr 0 0 (liV K)) (hdr : dr + 1 ≤ d) (h : bX12_tours RX12_tours v1 v2 v3 v4 x K) : EW MX12_tours 0 [(0, .ref 246), (1, .int v1), (2, .int v2), (3, .int v3), (4, .int v4)] [] (aS x) d bc bs (liV K) := by
  unfold bX12_tours at h
  refine EW_iload_n (pc2 := 1) rfl dX12_tours_0 3 rfl ?_
  refine EW_aload_n (pc2 := 2) rfl dX12_tours_1 0 rfl ?_
  refine EW_iload_n (pc2 := 3) rfl dX12_tours_2 2 rfl ?_
  refine EW_aload_n (pc2 := 4) rfl dX12_tours_3 0 rfl ?_
  refine AW_geti ⟨gfRX12_611, rfl⟩ (pc2 := 7) rfl dX12_tours_4 q246 ?_
  refine AW_invV (M' := MX12_walkOf) [.int v2, .int (x.1 246 104)] (rest := [.int v3]) mlRX12_328 okX12_walkOf (pc2 := 10) rfl dX12_tours_7 rfl rfl (Nat.le_of_ble_eq_true rfl) (Nat.le_of_ble_eq_true rfl) (d' := 0) (by omega) q246 ⟨by decide, rfl⟩ (EW_mono (fun _ _ hr => ?_) (sX12_walkOf v2 (x.1 246 104)  x _ _ 0 0 (Nat.le_refl _) h))
  obtain ⟨r1, rfl, rfl, h⟩ := hr
  refine EW_iadd (pc2 := 11) rfl dX12_tours_10 ?_
  refine EW_istore (pc2 := 13) rfl dX12_tours_11 (by decide) [1, 2, 3, 4, 5, 0] [(0, .ref 246), (1, .int v1), (2, .int v2), (3, .int v3), (4, .int v4), (5, .int (v3 + r1))] rfl ?_
  refine EW_iload (pc2 := 15) rfl dX12_tours_13 5 rfl ?_
  refine EW_aload_n (pc2 := 16) rfl dX12_tours_15 0 rfl ?_
  refine AW_geti ⟨gfRX12_614, rfl⟩ (pc2 := 19) rfl dX12_tours_16 q246 ?_
  refine EW_icmp_gt (tgt := 103) (pc2 := 22) rfl dX12_tours_19 (by decide) (fun q => ?_) (fun q => ?_)
  · replace h := h.1 q
    refine EW_iconst (pc2 := 104) (v := 0) rfl dX12_tours_103 (by decide) ?_
    refine EW_istore (pc2 := 106) rfl dX12_tours_104 (by decide) [1, 2, 3, 4, 5, 6, 0] [(0, .ref 246), (1, .int v1), (2, .int v2), (3, .int v3), (4, .int v4), (5, .int (v3 + r1)), (6, .int 0)] rfl ?_
    refine EW_ls [0, 1, 2, 3, 4, 6] rfl ?_
    exact sX12_tours_106 RX12_tours v1 v2 v3 v4 0 x K d bc bs hdp dr hRX12_tours hdr h
  · replace h := h.2 q
    refine EW_aload_n (pc2 := 23) rfl dX12_tours_22 0 rfl ?_
    refine AW_geti ⟨gfRX12_617, rfl⟩ (pc2 := 26) rfl dX12_tours_23 q246 ?_
    refine EW_iconst (pc2 := 27) (v := (-1)) rfl dX12_tours_26 (by decide) ?_
    refine EW_icmp_eq (tgt := 57) (pc2 := 30) rfl dX12_tours_27 (by decide) (fun q => ?_) (fun q => ?_)
    · replace h := h.1 q
      exact sX12_tours_57 RX12_tours v1 v2 v3 v4 (v3 + r1) x K d bc bs hdp dr hRX12_tours hdr h
    · replace h := h.2 q
      refine EW_iload (pc2 := 32) rfl dX12_tours_30 4 rfl ?_
      refine EW_aload_n (pc2 := 33) rfl dX12_tours_32 0 rfl ?_
      refine AW_geti ⟨gfRX12_620, rfl⟩ (pc2 := 36) rfl dX12_tours_33 q246 ?_
      refine EW_icmp_gt (tgt := 57) (pc2 := 39) rfl dX12_tours_36 (by decide) (fun q => ?_) (fun q => ?_)
      · replace h := h.1 q
        exact sX12_tours_57 RX12_tours v1 v2 v3 v4 (v3 + r1) x K d bc bs hdp dr hRX12_tours hdr h
      · replace h := h.2 q
        refine EW_iload (pc2 := 41) rfl dX12_tours_39 4 rfl ?_
        refine EW_aload_n (pc2 := 42) rfl dX12_tours_41 0 rfl ?_
        refine AW_geti ⟨gfRX12_620, rfl⟩ (pc2 := 45) rfl dX12_tours_42 q246 ?_
        refine EW_icmp_ne (tgt := 103) (pc2 := 48) rfl dX12_tours_45 (by decide) (fun q => ?_) (fun q => ?_)
        · replace h := h.1 q
          refine EW_iconst (pc2 := 104) (v := 0) rfl dX12_tours_103 (by decide) ?_
          refine EW_istore (pc2 := 106) rfl dX12_tours_104 (by decide) [1, 2, 3, 4, 5, 6, 0] [(0, .ref 246), (1, .int v1), (2, .int v2), (3, .int v3), (4, .int v4), (5, .int (v3 + r1)), (6, .int 0)] rfl ?_
          refine EW_ls [0, 1, 2, 3, 4, 6] rfl ?_
          exact sX12_tours_106 RX12_tours v1 v2 v3 v4 0 x K d bc bs hdp dr hRX12_tours hdr h
        · replace h := h.2 q
          refine EW_iload (pc2 := 50) rfl dX12_tours_48 5 rfl ?_
          refine EW_aload_n (pc2 := 51) rfl dX12_tours_50 0 rfl ?_
          refine AW_geti ⟨gfRX12_623, rfl⟩ (pc2 := 54) rfl dX12_tours_51 q246 ?_
          refine EW_icmp_ge (tgt := 103) (pc2 := 57) rfl dX12_tours_54 (by decide) (fun q => ?_) (fun q => ?_)
          · replace h := h.1 q
            refine EW_iconst (pc2 := 104) (v := 0) rfl dX12_tours_103 (by decide) ?_
            refine EW_istore (pc2 := 106) rfl dX12_tours_104 (by decide) [1, 2, 3, 4, 5, 6, 0] [(0, .ref 246), (1, .int v1), (2, .int v2), (3, .int v3), (4, .int v4), (5, .int (v3 + r1)), (6, .int 0)] rfl ?_
            refine EW_ls [0, 1, 2, 3, 4, 6] rfl ?_
            exact sX12_tours_106 RX12_tours v1 v2 v3 v4 0 x K d bc bs hdp dr hRX12_tours hdr h
          · replace h := h.2 q
            exact sX12_tours_57 RX12_tours v1 v2 v3 v4 (v3 + r1) x K d bc bs hdp dr hRX12_tours hdr h
def famX12_tours : Nat → (Int32 → Int32 → Int32 → Int32 → ab_X → (ab_X → Prop) → Prop)
  | 0 => ((fun v1 v2 v3 v4 x K => False))
  | n + 1 => ((fun v1 v2 v3 v4 x K => bX12_tours (famX12_tours n) v1 v2 v3 v4 x K))
set_option maxHeartbeats 4000000 in
theorem famX12_toursS : ∀ n, (∀ (v1 : Int32) (v2 : Int32) (v3 : Int32) (v4 : Int32)  (x : ab_X) (K : ab_X → Prop), (famX12_tours n) v1 v2 v3 v4 x K → EW MX12_tours 0 [(0, .ref 246), (1, .int v1), (2, .int v2), (3, .int v3), (4, .int v4)] [] (aS x) (1 + n) 0 0 (liV K)) := by
  intro n
  induction n with
  | zero => exact fun v1 v2 v3 v4  x K h => False.elim h
  | succ n ih =>
    have i0 := ih
    exact fun v1 v2 v3 v4  x K h => bsX12_tours _ v1 v2 v3 v4  x K (1 + (n + 1)) 0 0 (by omega) (1 + n) i0 (by omega) h
def wX12_tours (v1 : Int32) (v2 : Int32) (v3 : Int32) (v4 : Int32) (x : ab_X) (K : ab_X → Prop) : Prop := ∃ n, n ≤ 100 ∧ (famX12_tours n) v1 v2 v3 v4 x K
theorem sX12_tours (v1 : Int32) (v2 : Int32) (v3 : Int32) (v4 : Int32)  (x : ab_X) (K : ab_X → Prop) (d bc bs : Nat) (hdp : 102 ≤ d) (h : wX12_tours v1 v2 v3 v4 x K) : EW MX12_tours 0 [(0, .ref 246), (1, .int v1), (2, .int v2), (3, .int v3), (4, .int v4)] [] (aS x) d bc bs (liV K) := by
  obtain ⟨n, hn, h⟩ := h
  cases n with
  | zero => exact False.elim h
  | succ n =>
    have i0 := famX12_toursS n
    exact bsX12_tours _ v1 v2 v3 v4  x K d bc bs (by omega) (1 + n) i0 (by omega) h
