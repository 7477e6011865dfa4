abbrev MX12_orders : ab_M := (yX12_orders, cX12_orders, 2, (some .int))
theorem dX12_orders_0 : decode cX12_orders 0 = .ok (.aload_n 0, 1) := by decide +kernel
theorem dX12_orders_1 : decode cX12_orders 1 = .ok (.iconst 0, 1) := by decide +kernel
theorem dX12_orders_2 : decode cX12_orders 2 = .ok (.invokevirtual 517, 3) := by decide +kernel
theorem dX12_orders_5 : decode cX12_orders 5 = .ok (.iconst (-1), 1) := by decide +kernel
theorem dX12_orders_6 : decode cX12_orders 6 = .ok (.if_icmp .ne 12, 3) := by decide +kernel
theorem dX12_orders_9 : decode cX12_orders 9 = .ok (.aload_n 0, 1) := by decide +kernel
theorem dX12_orders_10 : decode cX12_orders 10 = .ok (.getfield 519, 3) := by decide +kernel
theorem dX12_orders_13 : decode cX12_orders 13 = .ok (.bipush 20, 2) := by decide +kernel
theorem dX12_orders_15 : decode cX12_orders 15 = .ok (.if_icmp .ne 5, 3) := by decide +kernel
theorem dX12_orders_18 : decode cX12_orders 18 = .ok (.iconst (-1), 1) := by decide +kernel
theorem dX12_orders_19 : decode cX12_orders 19 = .ok (.ireturn, 1) := by decide +kernel
theorem dX12_orders_20 : decode cX12_orders 20 = .ok (.iconst 0, 1) := by decide +kernel
theorem dX12_orders_21 : decode cX12_orders 21 = .ok (.istore_n 1, 1) := by decide +kernel
theorem dX12_orders_22 : decode cX12_orders 22 = .ok (.iload_n 1, 1) := by decide +kernel
theorem dX12_orders_23 : decode cX12_orders 23 = .ok (.aload_n 0, 1) := by decide +kernel
theorem dX12_orders_24 : decode cX12_orders 24 = .ok (.getfield 414, 3) := by decide +kernel
theorem dX12_orders_27 : decode cX12_orders 27 = .ok (.if_icmp .ge 30, 3) := by decide +kernel
theorem dX12_orders_30 : decode cX12_orders 30 = .ok (.aload_n 0, 1) := by decide +kernel
theorem dX12_orders_31 : decode cX12_orders 31 = .ok (.getfield 171, 3) := by decide +kernel
theorem dX12_orders_34 : decode cX12_orders 34 = .ok (.sipush 200, 3) := by decide +kernel
theorem dX12_orders_37 : decode cX12_orders 37 = .ok (.aload_n 0, 1) := by decide +kernel
theorem dX12_orders_38 : decode cX12_orders 38 = .ok (.getfield 519, 3) := by decide +kernel
theorem dX12_orders_41 : decode cX12_orders 41 = .ok (.imul, 1) := by decide +kernel
theorem dX12_orders_42 : decode cX12_orders 42 = .ok (.iload_n 1, 1) := by decide +kernel
theorem dX12_orders_43 : decode cX12_orders 43 = .ok (.iadd, 1) := by decide +kernel
theorem dX12_orders_44 : decode cX12_orders 44 = .ok (.aload_n 0, 1) := by decide +kernel
theorem dX12_orders_45 : decode cX12_orders 45 = .ok (.getfield 167, 3) := by decide +kernel
theorem dX12_orders_48 : decode cX12_orders 48 = .ok (.iload_n 1, 1) := by decide +kernel
theorem dX12_orders_49 : decode cX12_orders 49 = .ok (.baload, 1) := by decide +kernel
theorem dX12_orders_50 : decode cX12_orders 50 = .ok (.bastore, 1) := by decide +kernel
theorem dX12_orders_51 : decode cX12_orders 51 = .ok (.iinc 1 1, 3) := by decide +kernel
theorem dX12_orders_54 : decode cX12_orders 54 = .ok (.goto (-32), 3) := by decide +kernel
theorem dX12_orders_57 : decode cX12_orders 57 = .ok (.aload_n 0, 1) := by decide +kernel
theorem dX12_orders_58 : decode cX12_orders 58 = .ok (.getfield 180, 3) := by decide +kernel
theorem dX12_orders_61 : decode cX12_orders 61 = .ok (.aload_n 0, 1) := by decide +kernel
theorem dX12_orders_62 : decode cX12_orders 62 = .ok (.getfield 519, 3) := by decide +kernel
theorem dX12_orders_65 : decode cX12_orders 65 = .ok (.aload_n 0, 1) := by decide +kernel
theorem dX12_orders_66 : decode cX12_orders 66 = .ok (.getfield 414, 3) := by decide +kernel
theorem dX12_orders_69 : decode cX12_orders 69 = .ok (.iastore, 1) := by decide +kernel
theorem dX12_orders_70 : decode cX12_orders 70 = .ok (.aload_n 0, 1) := by decide +kernel
theorem dX12_orders_71 : decode cX12_orders 71 = .ok (.dup, 1) := by decide +kernel
theorem dX12_orders_72 : decode cX12_orders 72 = .ok (.getfield 519, 3) := by decide +kernel
theorem dX12_orders_75 : decode cX12_orders 75 = .ok (.iconst 1, 1) := by decide +kernel
theorem dX12_orders_76 : decode cX12_orders 76 = .ok (.iadd, 1) := by decide +kernel
theorem dX12_orders_77 : decode cX12_orders 77 = .ok (.putfield 519, 3) := by decide +kernel
theorem dX12_orders_80 : decode cX12_orders 80 = .ok (.aload_n 0, 1) := by decide +kernel
theorem dX12_orders_81 : decode cX12_orders 81 = .ok (.iconst 0, 1) := by decide +kernel
theorem dX12_orders_82 : decode cX12_orders 82 = .ok (.putfield 414, 3) := by decide +kernel
theorem dX12_orders_85 : decode cX12_orders 85 = .ok (.aload_n 0, 1) := by decide +kernel
theorem dX12_orders_86 : decode cX12_orders 86 = .ok (.getfield 519, 3) := by decide +kernel
theorem dX12_orders_89 : decode cX12_orders 89 = .ok (.iconst 1, 1) := by decide +kernel
theorem dX12_orders_90 : decode cX12_orders 90 = .ok (.isub, 1) := by decide +kernel
theorem dX12_orders_91 : decode cX12_orders 91 = .ok (.ireturn, 1) := by decide +kernel
theorem okX12_orders : ab_okM MX12_orders 0 := ⟨by decide, ⟨by decide, by decide⟩, ab_in 2481 (by decide +kernel) (by decide +kernel), ab_in 99 (by decide +kernel) (by decide +kernel), by decide +kernel, by decide⟩
set_option maxHeartbeats 4000000 in
set_option maxRecDepth 100000 in
def lX12_orders_22  (K : Int32 → ab_X → Prop)  (L22 : Int32 → ab_X → Prop) (v1 : Int32) (x : ab_X) : Prop := (((x.1 246 70) ≤ v1 → (vp_in (x.1 246 71) 20 ∧ K (((wr (wr (wr x 303 (Int32.toNatClampNeg (x.1 246 71)) (x.1 246 70)) 246 71 (((wr x 303 (Int32.toNatClampNeg (x.1 246 71)) (x.1 246 70)).1 246 71) + 1)) 246 70 0).1 246 71) - 1) (wr (wr (wr x 303 (Int32.toNatClampNeg (x.1 246 71)) (x.1 246 70)) 246 71 (((wr x 303 (Int32.toNatClampNeg (x.1 246 71)) (x.1 246 70)).1 246 71) + 1)) 246 70 0))) ∧ (¬ (x.1 246 70) ≤ v1 → (vp_in v1 200 ∧ vp_in ((200 * (x.1 246 71)) + v1) 4000 ∧ L22 (v1 + 1) (wr x 300 (Int32.toNatClampNeg ((200 * (x.1 246 71)) + v1)) (vp_nar .byte (x.1 299 (Int32.toNatClampNeg v1)))))))
set_option maxHeartbeats 4000000 in
set_option maxRecDepth 100000 in
theorem sX12_orders_22 (v1 : Int32)  (x : ab_X) (K : Int32 → ab_X → Prop)  (d bc bs : Nat) (hdp : 211 ≤ d)  (h : Lp2 (lX12_orders_22  K ) v1 x) : EW MX12_orders 22 [(0, .ref 246), (1, .int v1)] [] (aS x) d bc bs (liI K) := by
  refine Lp2.use (P := fun v1 x => EW MX12_orders 22 [(0, .ref 246), (1, .int v1)] [] (aS x) d bc bs (liI K)) (fun L22 v1 x hL22 h => ?_) v1 x h
  unfold lX12_orders_22 at h
  refine EW_iload_n (pc2 := 23) rfl dX12_orders_22 1 rfl ?_
  refine EW_aload_n (pc2 := 24) rfl dX12_orders_23 0 rfl ?_
  refine AW_geti ⟨gfRX12_414, rfl⟩ (pc2 := 27) rfl dX12_orders_24 q246 ?_
  refine EW_icmp_ge (tgt := 57) (pc2 := 30) rfl dX12_orders_27 (by decide) (fun q => ?_) (fun q => ?_)
  · replace h := h.1 q
    refine EW_aload_n (pc2 := 58) rfl dX12_orders_57 0 rfl ?_
    refine AW_getr (r := 303) ⟨gfRX12_180, rfl⟩ (pc2 := 61) rfl dX12_orders_58 q246 rfl ?_
    refine EW_aload_n (pc2 := 62) rfl dX12_orders_61 0 rfl ?_
    refine AW_geti ⟨gfRX12_519, rfl⟩ (pc2 := 65) rfl dX12_orders_62 q246 ?_
    refine EW_aload_n (pc2 := 66) rfl dX12_orders_65 0 rfl ?_
    refine AW_geti ⟨gfRX12_414, rfl⟩ (pc2 := 69) rfl dX12_orders_66 q246 ?_
    obtain ⟨b3, h⟩ := h
    refine AW_iast (pc2 := 70) rfl dX12_orders_69 q303 b3 ?_
    refine EW_aload_n (pc2 := 71) rfl dX12_orders_70 0 rfl ?_
    refine EW_dup (pc2 := 72) rfl dX12_orders_71 rfl ?_
    refine AW_geti ⟨gfRX12_519, rfl⟩ (pc2 := 75) rfl dX12_orders_72 q246 ?_
    refine EW_iconst (pc2 := 76) (v := 1) rfl dX12_orders_75 (by decide) ?_
    refine EW_iadd (pc2 := 77) rfl dX12_orders_76 ?_
    refine AW_puti ⟨gfRX12_519, rfl, rfl⟩ (pc2 := 80) rfl dX12_orders_77 q246 ?_
    refine EW_aload_n (pc2 := 81) rfl dX12_orders_80 0 rfl ?_
    refine EW_iconst (pc2 := 82) (v := 0) rfl dX12_orders_81 (by decide) ?_
    refine AW_puti ⟨gfRX12_414, rfl, rfl⟩ (pc2 := 85) rfl dX12_orders_82 q246 ?_
    refine EW_aload_n (pc2 := 86) rfl dX12_orders_85 0 rfl ?_
    refine AW_geti ⟨gfRX12_519, rfl⟩ (pc2 := 89) rfl dX12_orders_86 q246 ?_
    refine EW_iconst (pc2 := 90) (v := 1) rfl dX12_orders_89 (by decide) ?_
    refine EW_isub (pc2 := 91) rfl dX12_orders_90 ?_
    exact AW_iret rfl dX12_orders_91 ⟨_, _, rfl, rfl, h⟩
  · replace h := h.2 q
    refine EW_aload_n (pc2 := 31) rfl dX12_orders_30 0 rfl ?_
    refine AW_getr (r := 300) ⟨gfRX12_171, rfl⟩ (pc2 := 34) rfl dX12_orders_31 q246 rfl ?_
    refine EW_sipush (pc2 := 37) (v := 200) rfl dX12_orders_34 (by decide) ?_
    refine EW_aload_n (pc2 := 38) rfl dX12_orders_37 0 rfl ?_
    refine AW_geti ⟨gfRX12_519, rfl⟩ (pc2 := 41) rfl dX12_orders_38 q246 ?_
    refine EW_imul (pc2 := 42) rfl dX12_orders_41 ?_
    refine EW_iload_n (pc2 := 43) rfl dX12_orders_42 1 rfl ?_
    refine EW_iadd (pc2 := 44) rfl dX12_orders_43 ?_
    refine EW_aload_n (pc2 := 45) rfl dX12_orders_44 0 rfl ?_
    refine AW_getr (r := 299) ⟨gfRX12_167, rfl⟩ (pc2 := 48) rfl dX12_orders_45 q246 rfl ?_
    refine EW_iload_n (pc2 := 49) rfl dX12_orders_48 1 rfl ?_
    obtain ⟨b4, h⟩ := h
    refine AW_bald (pc2 := 50) rfl dX12_orders_49 q299 b4 ?_
    obtain ⟨b5, h⟩ := h
    refine AW_bast (pc2 := 51) rfl dX12_orders_50 q300 b5 ?_
    refine EW_iinc (v1 + 1) (pc2 := 54) rfl dX12_orders_51 1 rfl rfl (by decide) [1, 0] [(0, .ref 246), (1, .int (v1 + 1))] rfl ?_
    refine EW_goto (tgt := 22) dX12_orders_54 (by decide) ?_
    exact hL22 (v1 + 1) (wr x 300 (Int32.toNatClampNeg ((200 * (x.1 246 71)) + v1)) (vp_nar .byte (x.1 299 (Int32.toNatClampNeg v1)))) h
set_option maxHeartbeats 4000000 in
set_option maxRecDepth 100000 in
def wX12_orders  (x : ab_X) (K : Int32 → ab_X → Prop) : Prop := wX12_fault 0 x (fun r1 x2 => ((¬ r1 = (-1) → K (-1) x2) ∧ (r1 = (-1) → ((¬ (x2.1 246 71) = 20 → Lp2 (lX12_orders_22 K ) 0 x2) ∧ ((x2.1 246 71) = 20 → K (-1) x2)))))
set_option maxHeartbeats 4000000 in
set_option maxRecDepth 100000 in
theorem sX12_orders   (x : ab_X) (K : Int32 → ab_X → Prop) (d bc bs : Nat) (hdp : 211 ≤ d) (h : wX12_orders  x K) : EW MX12_orders 0 [(0, .ref 246)] [] (aS x) d bc bs (liI K) := by
  unfold wX12_orders at h
  refine EW_aload_n (pc2 := 1) rfl dX12_orders_0 0 rfl ?_
  refine EW_iconst (pc2 := 2) (v := 0) rfl dX12_orders_1 (by decide) ?_
  refine AW_invV (M' := MX12_fault) [.int 0] (rest := []) mlRX12_517 okX12_fault (pc2 := 5) rfl dX12_orders_2 rfl rfl (Nat.le_of_ble_eq_true rfl) (Nat.le_of_ble_eq_true rfl) (d' := 210) (by omega) q246 ⟨by decide, rfl⟩ (EW_mono (fun _ _ hr => ?_) (sX12_fault 0  x _ _ 0 0 (Nat.le_refl _) h))
  obtain ⟨r1, x2, rfl, rfl, h⟩ := hr
  refine EW_iconst (pc2 := 6) (v := (-1)) rfl dX12_orders_5 (by decide) ?_
  refine EW_icmp_ne (tgt := 18) (pc2 := 9) rfl dX12_orders_6 (by decide) (fun q => ?_) (fun q => ?_)
  · replace h := h.1 q
    refine EW_iconst (pc2 := 19) (v := (-1)) rfl dX12_orders_18 (by decide) ?_
    exact AW_iret rfl dX12_orders_19 ⟨_, _, rfl, rfl, h⟩
  · replace h := h.2 q
    refine EW_aload_n (pc2 := 10) rfl dX12_orders_9 0 rfl ?_
    refine AW_geti ⟨gfRX12_519, rfl⟩ (pc2 := 13) rfl dX12_orders_10 q246 ?_
    refine EW_bipush (pc2 := 15) (v := 20) rfl dX12_orders_13 (by decide) ?_
    refine EW_icmp_ne (tgt := 20) (pc2 := 18) rfl dX12_orders_15 (by decide) (fun q => ?_) (fun q => ?_)
    · replace h := h.1 q
      refine EW_iconst (pc2 := 21) (v := 0) rfl dX12_orders_20 (by decide) ?_
      refine EW_istore_n (pc2 := 22) rfl dX12_orders_21 (by decide) [1, 0] [(0, .ref 246), (1, .int 0)] rfl ?_
      exact sX12_orders_22 0 x2 K d bc bs hdp h
    · replace h := h.2 q
      refine EW_iconst (pc2 := 19) (v := (-1)) rfl dX12_orders_18 (by decide) ?_
      exact AW_iret rfl dX12_orders_19 ⟨_, _, rfl, rfl, h⟩
theorem mlRX12_645 : Cond.methodLink RX12 645 yX12_findPlan ∈ ab_G ∧ Cond.instanceMethod yX12_findPlan ∈ ab_G ∧ Cond.selects RX12 yX12_findPlan yX12_findPlan ∈ ab_G := ⟨ab_in 2679 (by decide +kernel) (by decide +kernel), ab_in 2681 (by decide +kernel) (by decide +kernel), ab_in 79 (by decide +kernel) (by decide +kernel)⟩
abbrev MX12_plan : ab_M := (yX12_plan, cX12_plan, 3, (some .int))
theorem dX12_plan_0 : decode cX12_plan 0 = .ok (.aload_n 0, 1) := by decide +kernel
theorem dX12_plan_1 : decode cX12_plan 1 = .ok (.iload_n 1, 1) := by decide +kernel
theorem dX12_plan_2 : decode cX12_plan 2 = .ok (.iload_n 2, 1) := by decide +kernel
theorem dX12_plan_3 : decode cX12_plan 3 = .ok (.invokevirtual 645, 3) := by decide +kernel
theorem dX12_plan_6 : decode cX12_plan 6 = .ok (.ifCond .eq 10, 3) := by decide +kernel
theorem dX12_plan_9 : decode cX12_plan 9 = .ok (.aload_n 0, 1) := by decide +kernel
theorem dX12_plan_10 : decode cX12_plan 10 = .ok (.getfield 639, 3) := by decide +kernel
theorem dX12_plan_13 : decode cX12_plan 13 = .ok (.goto 4, 3) := by decide +kernel
theorem dX12_plan_16 : decode cX12_plan 16 = .ok (.iconst (-1), 1) := by decide +kernel
theorem dX12_plan_17 : decode cX12_plan 17 = .ok (.ireturn, 1) := by decide +kernel
theorem okX12_plan : ab_okM MX12_plan 2 := ⟨by decide, ⟨by decide, by decide⟩, ab_in 2678 (by decide +kernel) (by decide +kernel), ab_in 99 (by decide +kernel) (by decide +kernel), by decide +kernel, by decide⟩
set_option maxHeartbeats 4000000 in
set_option maxRecDepth 100000 in
def wX12_plan (v1 : Int32) (v2 : Int32) (x : ab_X) (K : Int32 → ab_X → Prop) : Prop := wX12_findPlan v1 v2 x (fun r1 x2 => ((r1 = 0 → K (-1) x2) ∧ (¬ r1 = 0 → K (x2.1 246 109) x2)))
set_option maxHeartbeats 4000000 in
set_option maxRecDepth 100000 in
theorem sX12_plan (v1 : Int32) (v2 : Int32)  (x : ab_X) (K : Int32 → ab_X → Prop) (d bc bs : Nat) (hdp : 105 ≤ d) (h : wX12_plan v1 v2 x K) : EW MX12_plan 0 [(0, .ref 246), (1, .int v1), (2, .int v2)] [] (aS x) d bc bs (liI K) := by
  unfold wX12_plan at h
  refine EW_aload_n (pc2 := 1) rfl dX12_plan_0 0 rfl ?_
  refine EW_iload_n (pc2 := 2) rfl dX12_plan_1 1 rfl ?_
  refine EW_iload_n (pc2 := 3) rfl dX12_plan_2 2 rfl ?_
  refine AW_invV (M' := MX12_findPlan) [.int v1, .int v2] (rest := []) mlRX12_645 okX12_findPlan (pc2 := 6) rfl dX12_plan_3 rfl rfl (Nat.le_of_ble_eq_true rfl) (Nat.le_of_ble_eq_true rfl) (d' := 104) (by omega) q246 ⟨by decide, rfl⟩ (EW_mono (fun _ _ hr => ?_) (sX12_findPlan v1 v2  x _ _ 0 0 (Nat.le_refl _) h))
  obtain ⟨r1, x2, rfl, rfl, h⟩ := hr
  refine EW_if_eq (tgt := 16) (pc2 := 9) rfl dX12_plan_6 (by decide) (fun q => ?_) (fun q => ?_)
  · replace h := h.1 q
    refine EW_iconst (pc2 := 17) (v := (-1)) rfl dX12_plan_16 (by decide) ?_
    exact AW_iret rfl dX12_plan_17 ⟨_, _, rfl, rfl, h⟩
  · replace h := h.2 q
    refine EW_aload_n (pc2 := 10) rfl dX12_plan_9 0 rfl ?_
    refine AW_geti ⟨gfRX12_639, rfl⟩ (pc2 := 13) rfl dX12_plan_10 q246 ?_
    refine EW_goto (tgt := 17) dX12_plan_13 (by decide) ?_
    exact AW_iret rfl dX12_plan_17 ⟨_, _, rfl, rfl, h⟩
abbrev MX12_planned : ab_M := (yX12_planned, cX12_planned, 6, (some .int))
theorem dX12_planned_0 : decode cX12_planned 0 = .ok (.aload_n 0, 1) := by decide +kernel
theorem dX12_planned_1 : decode cX12_planned 1 = .ok (.iload_n 1, 1) := by decide +kernel
theorem dX12_planned_2 : decode cX12_planned 2 = .ok (.iload_n 2, 1) := by decide +kernel
theorem dX12_planned_3 : decode cX12_planned 3 = .ok (.invokevirtual 645, 3) := by decide +kernel
theorem dX12_planned_6 : decode cX12_planned 6 = .ok (.ifCond .eq 7, 3) := by decide +kernel
theorem dX12_planned_9 : decode cX12_planned 9 = .ok (.iload_n 3, 1) := by decide +kernel
theorem dX12_planned_10 : decode cX12_planned 10 = .ok (.ifCond .ge 5, 3) := by decide +kernel
theorem dX12_planned_13 : decode cX12_planned 13 = .ok (.iconst (-1), 1) := by decide +kernel
theorem dX12_planned_14 : decode cX12_planned 14 = .ok (.ireturn, 1) := by decide +kernel
theorem dX12_planned_15 : decode cX12_planned 15 = .ok (.iload_n 3, 1) := by decide +kernel
theorem dX12_planned_16 : decode cX12_planned 16 = .ok (.istore 4, 2) := by decide +kernel
theorem dX12_planned_18 : decode cX12_planned 18 = .ok (.iconst 0, 1) := by decide +kernel
theorem dX12_planned_19 : decode cX12_planned 19 = .ok (.istore 5, 2) := by decide +kernel
theorem dX12_planned_21 : decode cX12_planned 21 = .ok (.iload 5, 2) := by decide +kernel
theorem dX12_planned_23 : decode cX12_planned 23 = .ok (.bipush 20, 2) := by decide +kernel
theorem dX12_planned_25 : decode cX12_planned 25 = .ok (.if_icmp .ge 35, 3) := by decide +kernel
theorem dX12_planned_28 : decode cX12_planned 28 = .ok (.aload_n 0, 1) := by decide +kernel
theorem dX12_planned_29 : decode cX12_planned 29 = .ok (.getfield 642, 3) := by decide +kernel
theorem dX12_planned_32 : decode cX12_planned 32 = .ok (.iload 5, 2) := by decide +kernel
theorem dX12_planned_34 : decode cX12_planned 34 = .ok (.ishr, 1) := by decide +kernel
theorem dX12_planned_35 : decode cX12_planned 35 = .ok (.iconst 1, 1) := by decide +kernel
theorem dX12_planned_36 : decode cX12_planned 36 = .ok (.iand, 1) := by decide +kernel
theorem dX12_planned_37 : decode cX12_planned 37 = .ok (.ifCond .ne 6, 3) := by decide +kernel
theorem dX12_planned_40 : decode cX12_planned 40 = .ok (.goto 14, 3) := by decide +kernel
theorem dX12_planned_43 : decode cX12_planned 43 = .ok (.iload 4, 2) := by decide +kernel
theorem dX12_planned_45 : decode cX12_planned 45 = .ok (.ifCond .ne 6, 3) := by decide +kernel
theorem dX12_planned_48 : decode cX12_planned 48 = .ok (.iload 5, 2) := by decide +kernel
theorem dX12_planned_50 : decode cX12_planned 50 = .ok (.ireturn, 1) := by decide +kernel
theorem dX12_planned_51 : decode cX12_planned 51 = .ok (.iinc 4 (-1), 3) := by decide +kernel
theorem dX12_planned_54 : decode cX12_planned 54 = .ok (.iinc 5 1, 3) := by decide +kernel
theorem dX12_planned_57 : decode cX12_planned 57 = .ok (.goto (-36), 3) := by decide +kernel
theorem dX12_planned_60 : decode cX12_planned 60 = .ok (.iconst (-1), 1) := by decide +kernel
theorem dX12_planned_61 : decode cX12_planned 61 = .ok (.ireturn, 1) := by decide +kernel
theorem okX12_planned : ab_okM MX12_planned 3 := ⟨by decide, ⟨by decide, by decide⟩, ab_in 2694 (by decide +kernel) (by decide +kernel), ab_in 99 (by decide +kernel) (by decide +kernel), by decide +kernel, by decide⟩
set_option maxHeartbeats 4000000 in
set_option maxRecDepth 100000 in
def lX12_planned_21  (x : ab_X) (K : Int32 → ab_X → Prop)  (L21 : Int32 → Int32 → Prop) (v4 : Int32) (v5 : Int32) : Prop := ((20 ≤ v5 → K (-1) x) ∧ (¬ 20 ≤ v5 → ((¬ (((x.1 246 110) >>> (v5 &&& 31)) &&& 1) = 0 → ((¬ v4 = 0 → L21 (v4 + (-1)) (v5 + 1)) ∧ (v4 = 0 → K v5 x))) ∧ ((((x.1 246 110) >>> (v5 &&& 31)) &&& 1) = 0 → L21 v4 (v5 + 1)))))
set_option maxHeartbeats 4000000 in
set_option maxRecDepth 100000 in
theorem sX12_planned_21 (v4 : Int32) (v5 : Int32)  (x : ab_X) (K : Int32 → ab_X → Prop)  (d bc bs : Nat) (hdp : 105 ≤ d)  (h : Lp2 (lX12_planned_21  x K ) v4 v5) : EW MX12_planned 21 [(0, .ref 246), (4, .int v4), (5, .int v5)] [] (aS x) d bc bs (liI K) := by
  refine Lp2.use (P := fun v4 v5 => EW MX12_planned 21 [(0, .ref 246), (4, .int v4), (5, .int v5)] [] (aS x) d bc bs (liI K)) (fun L21 v4 v5 hL21 h => ?_) v4 v5 h
  unfold lX12_planned_21 at h
  refine EW_iload (pc2 := 23) rfl dX12_planned_21 2 rfl ?_
  refine EW_bipush (pc2 := 25) (v := 20) rfl dX12_planned_23 (by decide) ?_
  refine EW_icmp_ge (tgt := 60) (pc2 := 28) rfl dX12_planned_25 (by decide) (fun q => ?_) (fun q => ?_)
  · replace h := h.1 q
    refine EW_iconst (pc2 := 61) (v := (-1)) rfl dX12_planned_60 (by decide) ?_
    exact AW_iret rfl dX12_planned_61 ⟨_, _, rfl, rfl, h⟩
  · replace h := h.2 q
    refine EW_aload_n (pc2 := 29) rfl dX12_planned_28 0 rfl ?_
    refine AW_geti ⟨gfRX12_642, rfl⟩ (pc2 := 32) rfl dX12_planned_29 q246 ?_
    refine EW_iload (pc2 := 34) rfl dX12_planned_32 2 rfl ?_
    refine EW_ishr (pc2 := 35) rfl dX12_planned_34 ?_
    refine EW_iconst (pc2 := 36) (v := 1) rfl dX12_planned_35 (by decide) ?_
    refine EW_iand (pc2 := 37) rfl dX12_planned_36 ?_
    refine EW_if_ne (tgt := 43) (pc2 := 40) rfl dX12_planned_37 (by decide) (fun q => ?_) (fun q => ?_)
    · replace h := h.1 q
      refine EW_iload (pc2 := 45) rfl dX12_planned_43 1 rfl ?_
      refine EW_if_ne (tgt := 51) (pc2 := 48) rfl dX12_planned_45 (by decide) (fun q => ?_) (fun q => ?_)
      · replace h := h.1 q
        refine EW_iinc (v4 + (-1)) (pc2 := 54) rfl dX12_planned_51 1 rfl rfl (by decide) [1, 0, 2] [(0, .ref 246), (4, .int (v4 + (-1))), (5, .int v5)] rfl ?_
        refine EW_iinc (v5 + 1) (pc2 := 57) rfl dX12_planned_54 2 rfl rfl (by decide) [1, 2, 0] [(0, .ref 246), (4, .int (v4 + (-1))), (5, .int (v5 + 1))] rfl ?_
        refine EW_goto (tgt := 21) dX12_planned_57 (by decide) ?_
        exact hL21 (v4 + (-1)) (v5 + 1) h
      · replace h := h.2 q
        refine EW_iload (pc2 := 50) rfl dX12_planned_48 2 rfl ?_
        exact AW_iret rfl dX12_planned_50 ⟨_, _, rfl, rfl, h⟩
    · replace h := h.2 q
      refine EW_goto (tgt := 54) dX12_planned_40 (by decide) ?_
      refine EW_iinc (v5 + 1) (pc2 := 57) rfl dX12_planned_54 2 rfl rfl (by decide) [1, 2, 0] [(0, .ref 246), (4, .int v4), (5, .int (v5 + 1))] rfl ?_
      refine EW_goto (tgt := 21) dX12_planned_57 (by decide) ?_
      exact hL21 v4 (v5 + 1) h
set_option maxHeartbeats 4000000 in
set_option maxRecDepth 100000 in
def wX12_planned (v1 : Int32) (v2 : Int32) (v3 : Int32) (x : ab_X) (K : Int32 → ab_X → Prop) : Prop := wX12_findPlan v1 v2 x (fun r1 x2 => ((r1 = 0 → K (-1) x2) ∧ (¬ r1 = 0 → ((0 ≤ v3 → Lp2 (lX12_planned_21 x2 K ) v3 0) ∧ (¬ 0 ≤ v3 → K (-1) x2)))))
set_option maxHeartbeats 4000000 in
set_option maxRecDepth 100000 in
theorem sX12_planned (v1 : Int32) (v2 : Int32) (v3 : Int32)  (x : ab_X) (K : Int32 → ab_X → Prop) (d bc bs : Nat) (hdp : 105 ≤ d) (h : wX12_planned v1 v2 v3 x K) : EW MX12_planned 0 [(0, .ref 246), (1, .int v1), (2, .int v2), (3, .int v3)] [] (aS x) d bc bs (liI K) := by
  unfold wX12_planned at h
  refine EW_aload_n (pc2 := 1) rfl dX12_planned_0 0 rfl ?_
  refine EW_iload_n (pc2 := 2) rfl dX12_planned_1 1 rfl ?_
  refine EW_iload_n (pc2 := 3) rfl dX12_planned_2 2 rfl ?_
  refine AW_invV (M' := MX12_findPlan) [.int v1, .int v2] (rest := []) mlRX12_645 okX12_findPlan (pc2 := 6) rfl dX12_planned_3 rfl rfl (Nat.le_of_ble_eq_true rfl) (Nat.le_of_ble_eq_true rfl) (d' := 104) (by omega) q246 ⟨by decide, rfl⟩ (EW_mono (fun _ _ hr => ?_) (sX12_findPlan v1 v2  x _ _ 0 0 (Nat.le_refl _) h))
  obtain ⟨r1, x2, rfl, rfl, h⟩ := hr
  refine EW_if_eq (tgt := 13) (pc2 := 9) rfl dX12_planned_6 (by decide) (fun q => ?_) (fun q => ?_)
  · replace h := h.1 q
    refine EW_iconst (pc2 := 14) (v := (-1)) rfl dX12_planned_13 (by decide) ?_
    exact AW_iret rfl dX12_planned_14 ⟨_, _, rfl, rfl, h⟩
  · replace h := h.2 q
    refine EW_iload_n (pc2 := 10) rfl dX12_planned_9 3 rfl ?_
    refine EW_if_ge (tgt := 15) (pc2 := 13) rfl dX12_planned_10 (by decide) (fun q => ?_) (fun q => ?_)
    · replace h := h.1 q
      refine EW_iload_n (pc2 := 16) rfl dX12_planned_15 3 rfl ?_
      refine EW_istore (pc2 := 18) rfl dX12_planned_16 (by decide) [1, 2, 3, 4, 0] [(0, .ref 246), (1, .int v1), (2, .int v2), (3, .int v3), (4, .int v3)] rfl ?_
      refine EW_iconst (pc2 := 19) (v := 0) rfl dX12_planned_18 (by decide) ?_
      refine EW_istore (pc2 := 21) rfl dX12_planned_19 (by decide) [1, 2, 3, 4, 5, 0] [(0, .ref 246), (1, .int v1), (2, .int v2), (3, .int v3), (4, .int v3), (5, .int 0)] rfl ?_
      refine EW_ls [0, 4, 5] rfl ?_
      exact sX12_planned_21 v3 0 x2 K d bc bs hdp h
    · replace h := h.2 q
      refine EW_iconst (pc2 := 14) (v := (-1)) rfl dX12_planned_13 (by decide) ?_
      exact AW_iret rfl dX12_planned_14 ⟨_, _, rfl, rfl, h⟩
theorem cnRX12_654 : Cond.constant RX12 654 (-1000000) ∈ ab_G := ab_in 2707 (by decide +kernel) (by decide +kernel)
theorem cnRX12_659 : Cond.constantFloat RX12 659 1090519040 ∈ ab_G := ab_in 2709 (by decide +kernel) (by decide +kernel)
abbrev MX12_put : ab_M := (yX12_put, cX12_put, 5, (some .boolean))
theorem dX12_put_0 : decode cX12_put 0 = .ok (.aload_n 0, 1) := by decide +kernel
theorem dX12_put_1 : decode cX12_put 1 = .ok (.iconst 0, 1) := by decide +kernel
theorem dX12_put_2 : decode cX12_put 2 = .ok (.putfield 297, 3) := by decide +kernel
theorem dX12_put_5 : decode cX12_put 5 = .ok (.aload_n 0, 1) := by decide +kernel
theorem dX12_put_6 : decode cX12_put 6 = .ok (.iload_n 1, 1) := by decide +kernel
theorem dX12_put_7 : decode cX12_put 7 = .ok (.invokevirtual 651, 3) := by decide +kernel
theorem dX12_put_10 : decode cX12_put 10 = .ok (.ifCond .eq 32, 3) := by decide +kernel
theorem dX12_put_13 : decode cX12_put 13 = .ok (.iload_n 2, 1) := by decide +kernel
theorem dX12_put_14 : decode cX12_put 14 = .ok (.invokestatic 303, 3) := by decide +kernel
theorem dX12_put_17 : decode cX12_put 17 = .ok (.ifCond .eq 25, 3) := by decide +kernel
theorem dX12_put_20 : decode cX12_put 20 = .ok (.iload_n 3, 1) := by decide +kernel
theorem dX12_put_21 : decode cX12_put 21 = .ok (.ldc_w 654, 3) := by decide +kernel
theorem dX12_put_24 : decode cX12_put 24 = .ok (.ldc_w 296, 3) := by decide +kernel
theorem dX12_put_27 : decode cX12_put 27 = .ok (.invokestatic 307, 3) := by decide +kernel
theorem dX12_put_30 : decode cX12_put 30 = .ok (.ifCond .eq 12, 3) := by decide +kernel
theorem dX12_put_33 : decode cX12_put 33 = .ok (.aload_n 0, 1) := by decide +kernel
theorem dX12_put_34 : decode cX12_put 34 = .ok (.getfield 281, 3) := by decide +kernel
theorem dX12_put_37 : decode cX12_put 37 = .ok (.iload_n 1, 1) := by decide +kernel
theorem dX12_put_38 : decode cX12_put 38 = .ok (.baload, 1) := by decide +kernel
theorem dX12_put_39 : decode cX12_put 39 = .ok (.ifCond .eq 5, 3) := by decide +kernel
theorem dX12_put_42 : decode cX12_put 42 = .ok (.iconst 0, 1) := by decide +kernel
theorem dX12_put_43 : decode cX12_put 43 = .ok (.ireturn, 1) := by decide +kernel
theorem dX12_put_44 : decode cX12_put 44 = .ok (.bipush 20, 2) := by decide +kernel
theorem dX12_put_46 : decode cX12_put 46 = .ok (.iload_n 1, 1) := by decide +kernel
theorem dX12_put_47 : decode cX12_put 47 = .ok (.imul, 1) := by decide +kernel
theorem dX12_put_48 : decode cX12_put 48 = .ok (.iload_n 2, 1) := by decide +kernel
theorem dX12_put_49 : decode cX12_put 49 = .ok (.iadd, 1) := by decide +kernel
theorem dX12_put_50 : decode cX12_put 50 = .ok (.istore 4, 2) := by decide +kernel
theorem dX12_put_52 : decode cX12_put 52 = .ok (.aload_n 0, 1) := by decide +kernel
theorem dX12_put_53 : decode cX12_put 53 = .ok (.getfield 278, 3) := by decide +kernel
theorem dX12_put_56 : decode cX12_put 56 = .ok (.iload_n 1, 1) := by decide +kernel
theorem dX12_put_57 : decode cX12_put 57 = .ok (.iaload, 1) := by decide +kernel
theorem dX12_put_58 : decode cX12_put 58 = .ok (.tableswitch 61 0 2 #[26, 38, 50], 26) := by decide +kernel
theorem dX12_put_84 : decode cX12_put 84 = .ok (.aload_n 0, 1) := by decide +kernel
theorem dX12_put_85 : decode cX12_put 85 = .ok (.getfield 271, 3) := by decide +kernel
theorem dX12_put_88 : decode cX12_put 88 = .ok (.iload 4, 2) := by decide +kernel
theorem dX12_put_90 : decode cX12_put 90 = .ok (.iload_n 3, 1) := by decide +kernel
theorem dX12_put_91 : decode cX12_put 91 = .ok (.i2b, 1) := by decide +kernel
theorem dX12_put_92 : decode cX12_put 92 = .ok (.i2d, 1) := by decide +kernel
theorem dX12_put_93 : decode cX12_put 93 = .ok (.dastore, 1) := by decide +kernel
theorem dX12_put_94 : decode cX12_put 94 = .ok (.iconst 1, 1) := by decide +kernel
theorem dX12_put_95 : decode cX12_put 95 = .ok (.ireturn, 1) := by decide +kernel
theorem dX12_put_96 : decode cX12_put 96 = .ok (.aload_n 0, 1) := by decide +kernel
theorem dX12_put_97 : decode cX12_put 97 = .ok (.getfield 271, 3) := by decide +kernel
theorem dX12_put_100 : decode cX12_put 100 = .ok (.iload 4, 2) := by decide +kernel
theorem dX12_put_102 : decode cX12_put 102 = .ok (.iload_n 3, 1) := by decide +kernel
theorem dX12_put_103 : decode cX12_put 103 = .ok (.i2s, 1) := by decide +kernel
theorem dX12_put_104 : decode cX12_put 104 = .ok (.i2d, 1) := by decide +kernel
theorem dX12_put_105 : decode cX12_put 105 = .ok (.dastore, 1) := by decide +kernel
theorem dX12_put_106 : decode cX12_put 106 = .ok (.iconst 1, 1) := by decide +kernel
theorem dX12_put_107 : decode cX12_put 107 = .ok (.ireturn, 1) := by decide +kernel
theorem dX12_put_108 : decode cX12_put 108 = .ok (.aload_n 0, 1) := by decide +kernel
theorem dX12_put_109 : decode cX12_put 109 = .ok (.getfield 271, 3) := by decide +kernel
theorem dX12_put_112 : decode cX12_put 112 = .ok (.iload 4, 2) := by decide +kernel
theorem dX12_put_114 : decode cX12_put 114 = .ok (.iload_n 3, 1) := by decide +kernel
theorem dX12_put_115 : decode cX12_put 115 = .ok (.i2d, 1) := by decide +kernel
theorem dX12_put_116 : decode cX12_put 116 = .ok (.dastore, 1) := by decide +kernel
theorem dX12_put_117 : decode cX12_put 117 = .ok (.iconst 1, 1) := by decide +kernel
theorem dX12_put_118 : decode cX12_put 118 = .ok (.ireturn, 1) := by decide +kernel
theorem dX12_put_119 : decode cX12_put 119 = .ok (.aload_n 0, 1) := by decide +kernel
theorem dX12_put_120 : decode cX12_put 120 = .ok (.getfield 271, 3) := by decide +kernel
theorem dX12_put_123 : decode cX12_put 123 = .ok (.iload 4, 2) := by decide +kernel
theorem dX12_put_125 : decode cX12_put 125 = .ok (.iload_n 3, 1) := by decide +kernel
theorem dX12_put_126 : decode cX12_put 126 = .ok (.ldc_w 654, 3) := by decide +kernel
theorem dX12_put_129 : decode cX12_put 129 = .ok (.if_icmp .ne 9, 3) := by decide +kernel
theorem dX12_put_132 : decode cX12_put 132 = .ok (.ldc2_w 657, 3) := by decide +kernel
theorem dX12_put_135 : decode cX12_put 135 = .ok (.goto 10, 3) := by decide +kernel
theorem dX12_put_138 : decode cX12_put 138 = .ok (.iload_n 3, 1) := by decide +kernel
theorem dX12_put_139 : decode cX12_put 139 = .ok (.i2f, 1) := by decide +kernel
theorem dX12_put_140 : decode cX12_put 140 = .ok (.ldc_w 659, 3) := by decide +kernel
theorem dX12_put_143 : decode cX12_put 143 = .ok (.fdiv, 1) := by decide +kernel
theorem dX12_put_144 : decode cX12_put 144 = .ok (.f2d, 1) := by decide +kernel
theorem dX12_put_145 : decode cX12_put 145 = .ok (.dastore, 1) := by decide +kernel
theorem dX12_put_146 : decode cX12_put 146 = .ok (.iconst 1, 1) := by decide +kernel
theorem dX12_put_147 : decode cX12_put 147 = .ok (.ireturn, 1) := by decide +kernel
theorem okX12_put : ab_okM MX12_put 3 := ⟨by decide, ⟨by decide, by decide⟩, ab_in 2702 (by decide +kernel) (by decide +kernel), ab_in 99 (by decide +kernel) (by decide +kernel), by decide +kernel, by decide⟩
set_option maxHeartbeats 4000000 in
set_option maxRecDepth 100000 in
def wX12_put (v1 : Int32) (v2 : Int32) (v3 : Int32) (x : ab_X) (K : Int32 → ab_X → Prop) : Prop := wX12_isRow v1 (wr x 246 0 0) (fun r1 => ((r1 = 0 → K 0 (wr x 246 0 0)) ∧ (¬ r1 = 0 → wX12_isCorner v2 (wr x 246 0 0) (fun r2 => ((r2 = 0 → K 0 (wr x 246 0 0)) ∧ (¬ r2 = 0 → wX12_isIn v3 (-1000000) 1000000 (wr x 246 0 0) (fun r3 => ((r3 = 0 → K 0 (wr x 246 0 0)) ∧ (¬ r3 = 0 → (vp_in v1 6 ∧ ((((wr x 246 0 0).1 332 (Int32.toNatClampNeg v1)) = 0 → (vp_in v1 6 ∧ (((Int32.toInt ((wr x 246 0 0).1 331 (Int32.toNatClampNeg v1)) < 0 ∨ 2 < Int32.toInt ((wr x 246 0 0).1 331 (Int32.toNatClampNeg v1))) → ((¬ v3 = (-1000000) → (∀ r6, alike32 r6 (FP.fdiv (FP.i2f v3) 1090519040) = true → (∀ r7, alike64 r7 (FP.f2d r6) = true → (vp_in ((20 * v1) + v2) 120 ∧ K 1 (wrd (wr x 246 0 0) 329 (Int32.toNatClampNeg ((20 * v1) + v2)) r7))))) ∧ (v3 = (-1000000) → (vp_in ((20 * v1) + v2) 120 ∧ K 1 (wrd (wr x 246 0 0) 329 (Int32.toNatClampNeg ((20 * v1) + v2)) 9221120237041090560))))) ∧ (((wr x 246 0 0).1 331 (Int32.toNatClampNeg v1)) = 0 → (vp_in ((20 * v1) + v2) 120 ∧ K 1 (wrd (wr x 246 0 0) 329 (Int32.toNatClampNeg ((20 * v1) + v2)) (FP.i2d (v3).toInt8.toInt32)))) ∧ (((wr x 246 0 0).1 331 (Int32.toNatClampNeg v1)) = 1 → (vp_in ((20 * v1) + v2) 120 ∧ K 1 (wrd (wr x 246 0 0) 329 (Int32.toNatClampNeg ((20 * v1) + v2)) (FP.i2d (v3).toInt16.toInt32)))) ∧ (((wr x 246 0 0).1 331 (Int32.toNatClampNeg v1)) = 2 → (vp_in ((20 * v1) + v2) 120 ∧ K 1 (wrd (wr x 246 0 0) 329 (Int32.toNatClampNeg ((20 * v1) + v2)) (FP.i2d v3))))))) ∧ (¬ ((wr x 246 0 0).1 332 (Int32.toNatClampNeg v1)) = 0 → K 0 (wr x 246 0 0)))))))))))))
set_option maxHeartbeats 4000000 in
set_option maxRecDepth 100000 in
theorem sX12_put (v1 : Int32) (v2 : Int32) (v3 : Int32)  (x : ab_X) (K : Int32 → ab_X → Prop) (d bc bs : Nat) (hdp : 1 ≤ d) (h : wX12_put v1 v2 v3 x K) : EW MX12_put 0 [(0, .ref 246), (1, .int v1), (2, .int v2), (3, .int v3)] [] (aS x) d bc bs (liI K) := by
  unfold wX12_put at h
  refine EW_aload_n (pc2 := 1) rfl dX12_put_0 0 rfl ?_
  refine EW_iconst (pc2 := 2) (v := 0) rfl dX12_put_1 (by decide) ?_
  refine AW_puti ⟨gfRX12_297, rfl, rfl⟩ (pc2 := 5) rfl dX12_put_2 q246 ?_
  refine EW_aload_n (pc2 := 6) rfl dX12_put_5 0 rfl ?_
  refine EW_iload_n (pc2 := 7) rfl dX12_put_6 1 rfl ?_
  refine AW_invV (M' := MX12_isRow) [.int v1] (rest := []) mlRX12_651 okX12_isRow (pc2 := 10) rfl dX12_put_7 rfl rfl (Nat.le_of_ble_eq_true rfl) (Nat.le_of_ble_eq_true rfl) (d' := 0) (by omega) q246 ⟨by decide, rfl⟩ (EW_mono (fun _ _ hr => ?_) (sX12_isRow v1  (wr x 246 0 0) _ _ 0 0 (Nat.le_refl _) h))
  obtain ⟨r1, rfl, rfl, h⟩ := hr
  refine EW_if_eq (tgt := 42) (pc2 := 13) rfl dX12_put_10 (by decide) (fun q => ?_) (fun q => ?_)
  · replace h := h.1 q
    refine EW_iconst (pc2 := 43) (v := 0) rfl dX12_put_42 (by decide) ?_
    exact AW_zret rfl isB0 dX12_put_43 ⟨_, _, rfl, rfl, h⟩
  · replace h := h.2 q
    refine EW_iload_n (pc2 := 14) rfl dX12_put_13 2 rfl ?_
    refine AW_invS (M' := MX12_isCorner) [.int v2] (rest := []) mlRX12_303 okX12_isCorner (pc2 := 17) rfl dX12_put_14 rfl rfl (Nat.le_of_ble_eq_true rfl) (Nat.le_of_ble_eq_true rfl) (d' := 0) (by omega) (EW_mono (fun _ _ hr => ?_) (sX12_isCorner v2  (wr x 246 0 0) _ _ 0 0 (Nat.le_refl _) h))
    obtain ⟨r2, rfl, rfl, h⟩ := hr
    refine EW_if_eq (tgt := 42) (pc2 := 20) rfl dX12_put_17 (by decide) (fun q => ?_) (fun q => ?_)
    · replace h := h.1 q
      refine EW_iconst (pc2 := 43) (v := 0) rfl dX12_put_42 (by decide) ?_
      exact AW_zret rfl isB0 dX12_put_43 ⟨_, _, rfl, rfl, h⟩
    · replace h := h.2 q
      refine EW_iload_n (pc2 := 21) rfl dX12_put_20 3 rfl ?_
      refine EW_ldcw cnRX12_654 (pc2 := 24) rfl dX12_put_21 ?_
      refine EW_ldcw cnRX12_296 (pc2 := 27) rfl dX12_put_24 ?_
      refine AW_invS (M' := MX12_isIn) [.int v3, .int (-1000000), .int 1000000] (rest := []) mlRX12_307 okX12_isIn (pc2 := 30) rfl dX12_put_27 rfl rfl (Nat.le_of_ble_eq_true rfl) (Nat.le_of_ble_eq_true rfl) (d' := 0) (by omega) (EW_mono (fun _ _ hr => ?_) (sX12_isIn v3 (-1000000) 1000000  (wr x 246 0 0) _ _ 0 0 (Nat.le_refl _) h))
      obtain ⟨r3, rfl, rfl, h⟩ := hr
      refine EW_if_eq (tgt := 42) (pc2 := 33) rfl dX12_put_30 (by decide) (fun q => ?_) (fun q => ?_)
      · replace h := h.1 q
        refine EW_iconst (pc2 := 43) (v := 0) rfl dX12_put_42 (by decide) ?_
        exact AW_zret rfl isB0 dX12_put_43 ⟨_, _, rfl, rfl, h⟩
      · replace h := h.2 q
        refine EW_aload_n (pc2 := 34) rfl dX12_put_33 0 rfl ?_
        refine AW_getr (r := 332) ⟨gfRX12_281, rfl⟩ (pc2 := 37) rfl dX12_put_34 q246 rfl ?_
        refine EW_iload_n (pc2 := 38) rfl dX12_put_37 1 rfl ?_
        obtain ⟨b4, h⟩ := h
        refine AW_zald (pc2 := 39) rfl dX12_put_38 q332 b4 ?_
        refine EW_if_eq (tgt := 44) (pc2 := 42) rfl dX12_put_39 (by decide) (fun q => ?_) (fun q => ?_)
        · replace h := h.1 q
          refine EW_bipush (pc2 := 46) (v := 20) rfl dX12_put_44 (by decide) ?_
          refine EW_iload_n (pc2 := 47) rfl dX12_put_46 1 rfl ?_
          refine EW_imul (pc2 := 48) rfl dX12_put_47 ?_
          refine EW_iload_n (pc2 := 49) rfl dX12_put_48 2 rfl ?_
          refine EW_iadd (pc2 := 50) rfl dX12_put_49 ?_
          refine EW_istore (pc2 := 52) rfl dX12_put_50 (by decide) [1, 2, 3, 4, 0] [(0, .ref 246), (1, .int v1), (2, .int v2), (3, .int v3), (4, .int ((20 * v1) + v2))] rfl ?_
          refine EW_aload_n (pc2 := 53) rfl dX12_put_52 0 rfl ?_
          refine AW_getr (r := 331) ⟨gfRX12_278, rfl⟩ (pc2 := 56) rfl dX12_put_53 q246 rfl ?_
          refine EW_iload_n (pc2 := 57) rfl dX12_put_56 1 rfl ?_
          obtain ⟨b5, h⟩ := h
          refine AW_iald (pc2 := 58) rfl dX12_put_57 q331 b5 ?_
          by_cases qo : Int32.toInt ((wr x 246 0 0).1 331 (Int32.toNatClampNeg v1)) < 0 ∨ 2 < Int32.toInt ((wr x 246 0 0).1 331 (Int32.toNatClampNeg v1))
          · replace h := h.1 qo
            refine EW_tabOut (tgt := 119) dX12_put_58 qo (by decide) ?_
            refine EW_aload_n (pc2 := 120) rfl dX12_put_119 0 rfl ?_
            refine AW_getr (r := 329) ⟨gfRX12_271, rfl⟩ (pc2 := 123) rfl dX12_put_120 q246 rfl ?_
            refine EW_iload (pc2 := 125) rfl dX12_put_123 4 rfl ?_
            refine EW_iload_n (pc2 := 126) rfl dX12_put_125 3 rfl ?_
            refine EW_ldcw cnRX12_654 (pc2 := 129) rfl dX12_put_126 ?_
            refine EW_icmp_ne (tgt := 138) (pc2 := 132) rfl dX12_put_129 (by decide) (fun q => ?_) (fun q => ?_)
            · replace h := h.1 q
              refine EW_iload_n (pc2 := 139) rfl dX12_put_138 3 rfl ?_
              refine EW_i2f (pc2 := 140) rfl dX12_put_139 ?_
              refine EW_ldcf cnRX12_659 (pc2 := 143) rfl dX12_put_140 ?_
              refine EW_fdiv_any (pc2 := 144) rfl dX12_put_143 (fun r6 qr6 => ?_)
              replace h := h r6 qr6
              refine EW_f2d_any (pc2 := 145) rfl dX12_put_144 (fun r7 qr7 => ?_)
              replace h := h r7 qr7
              obtain ⟨b8, h⟩ := h
              refine AW_dast (pc2 := 146) rfl dX12_put_145 q329 b8 ?_
              refine EW_iconst (pc2 := 147) (v := 1) rfl dX12_put_146 (by decide) ?_
              exact AW_zret rfl isB1 dX12_put_147 ⟨_, _, rfl, rfl, h⟩
            · replace h := h.2 q
              refine EW_ldc2d cnRX12_657 (pc2 := 135) rfl dX12_put_132 ?_
              refine EW_goto (tgt := 145) dX12_put_135 (by decide) ?_
              obtain ⟨b9, h⟩ := h
              refine AW_dast (pc2 := 146) rfl dX12_put_145 q329 b9 ?_
              refine EW_iconst (pc2 := 147) (v := 1) rfl dX12_put_146 (by decide) ?_
              exact AW_zret rfl isB1 dX12_put_147 ⟨_, _, rfl, rfl, h⟩
          · obtain ⟨kk, hkk, qk⟩ := sw_in 0 2 (by decide) qo
            match kk, hkk, qk with
            | 0, _, qk =>
              replace h := h.2.1 qk
              refine EW_tabIn (off := 26) (tgt := 84) dX12_put_58 (by rw [qk]; decide) (by rw [qk]; decide) (by rw [qk]; decide) (by decide) ?_
              refine EW_aload_n (pc2 := 85) rfl dX12_put_84 0 rfl ?_
              refine AW_getr (r := 329) ⟨gfRX12_271, rfl⟩ (pc2 := 88) rfl dX12_put_85 q246 rfl ?_
              refine EW_iload (pc2 := 90) rfl dX12_put_88 4 rfl ?_
              refine EW_iload_n (pc2 := 91) rfl dX12_put_90 3 rfl ?_
              refine EW_i2b (pc2 := 92) (v := (v3).toInt8.toInt32) rfl dX12_put_91 rfl ?_
              refine EW_i2d (pc2 := 93) rfl dX12_put_92 ?_
              obtain ⟨b10, h⟩ := h
              refine AW_dast (pc2 := 94) rfl dX12_put_93 q329 b10 ?_
              refine EW_iconst (pc2 := 95) (v := 1) rfl dX12_put_94 (by decide) ?_
              exact AW_zret rfl isB1 dX12_put_95 ⟨_, _, rfl, rfl, h⟩
            | 1, _, qk =>
              replace h := h.2.2.1 qk
              refine EW_tabIn (off := 38) (tgt := 96) dX12_put_58 (by rw [qk]; decide) (by rw [qk]; decide) (by rw [qk]; decide) (by decide) ?_
              refine EW_aload_n (pc2 := 97) rfl dX12_put_96 0 rfl ?_
              refine AW_getr (r := 329) ⟨gfRX12_271, rfl⟩ (pc2 := 100) rfl dX12_put_97 q246 rfl ?_
              refine EW_iload (pc2 := 102) rfl dX12_put_100 4 rfl ?_
              refine EW_iload_n (pc2 := 103) rfl dX12_put_102 3 rfl ?_
              refine EW_i2s (pc2 := 104) (v := (v3).toInt16.toInt32) rfl dX12_put_103 rfl ?_
              refine EW_i2d (pc2 := 105) rfl dX12_put_104 ?_
              obtain ⟨b11, h⟩ := h
              refine AW_dast (pc2 := 106) rfl dX12_put_105 q329 b11 ?_
              refine EW_iconst (pc2 := 107) (v := 1) rfl dX12_put_106 (by decide) ?_
              exact AW_zret rfl isB1 dX12_put_107 ⟨_, _, rfl, rfl, h⟩
            | 2, _, qk =>
              replace h := h.2.2.2 qk
              refine EW_tabIn (off := 50) (tgt := 108) dX12_put_58 (by rw [qk]; decide) (by rw [qk]; decide) (by rw [qk]; decide) (by decide) ?_
              refine EW_aload_n (pc2 := 109) rfl dX12_put_108 0 rfl ?_
              refine AW_getr (r := 329) ⟨gfRX12_271, rfl⟩ (pc2 := 112) rfl dX12_put_109 q246 rfl ?_
              refine EW_iload (pc2 := 114) rfl dX12_put_112 4 rfl ?_
              refine EW_iload_n (pc2 := 115) rfl dX12_put_114 3 rfl ?_
              refine EW_i2d (pc2 := 116) rfl dX12_put_115 ?_
              obtain ⟨b12, h⟩ := h
              refine AW_dast (pc2 := 117) rfl dX12_put_116 q329 b12 ?_
              refine EW_iconst (pc2 := 118) (v := 1) rfl dX12_put_117 (by decide) ?_
              exact AW_zret rfl isB1 dX12_put_118 ⟨_, _, rfl, rfl, h⟩
            | n9 + 3, hkk, _ => exact absurd hkk (by omega)
        · replace h := h.2 q
          refine EW_iconst (pc2 := 43) (v := 0) rfl dX12_put_42 (by decide) ?_
          exact AW_zret rfl isB0 dX12_put_43 ⟨_, _, rfl, rfl, h⟩
abbrev MX12_reach : ab_M := (yX12_reach, cX12_reach, 3, (some .int))
theorem dX12_reach_0 : decode cX12_reach 0 = .ok (.aload_n 0, 1) := by decide +kernel
theorem dX12_reach_1 : decode cX12_reach 1 = .ok (.iconst 0, 1) := by decide +kernel
theorem dX12_reach_2 : decode cX12_reach 2 = .ok (.putfield 297, 3) := by decide +kernel
theorem dX12_reach_5 : decode cX12_reach 5 = .ok (.aload_n 0, 1) := by decide +kernel
theorem dX12_reach_6 : decode cX12_reach 6 = .ok (.iload_n 1, 1) := by decide +kernel
theorem dX12_reach_7 : decode cX12_reach 7 = .ok (.invokevirtual 392, 3) := by decide +kernel
theorem dX12_reach_10 : decode cX12_reach 10 = .ok (.ifCond .eq 20, 3) := by decide +kernel
theorem dX12_reach_13 : decode cX12_reach 13 = .ok (.aload_n 0, 1) := by decide +kernel
theorem dX12_reach_14 : decode cX12_reach 14 = .ok (.iload_n 2, 1) := by decide +kernel
theorem dX12_reach_15 : decode cX12_reach 15 = .ok (.invokevirtual 334, 3) := by decide +kernel
theorem dX12_reach_18 : decode cX12_reach 18 = .ok (.ifCond .eq 12, 3) := by decide +kernel
theorem dX12_reach_21 : decode cX12_reach 21 = .ok (.aload_n 0, 1) := by decide +kernel
theorem dX12_reach_22 : decode cX12_reach 22 = .ok (.iload_n 1, 1) := by decide +kernel
theorem dX12_reach_23 : decode cX12_reach 23 = .ok (.iload_n 2, 1) := by decide +kernel
theorem dX12_reach_24 : decode cX12_reach 24 = .ok (.invokevirtual 411, 3) := by decide +kernel
theorem dX12_reach_27 : decode cX12_reach 27 = .ok (.goto 4, 3) := by decide +kernel
theorem dX12_reach_30 : decode cX12_reach 30 = .ok (.iconst (-1), 1) := by decide +kernel
theorem dX12_reach_31 : decode cX12_reach 31 = .ok (.ireturn, 1) := by decide +kernel
theorem okX12_reach : ab_okM MX12_reach 2 := ⟨by decide, ⟨by decide, by decide⟩, ab_in 2380 (by decide +kernel) (by decide +kernel), ab_in 99 (by decide +kernel) (by decide +kernel), by decide +kernel, by decide⟩
set_option maxHeartbeats 4000000 in
set_option maxRecDepth 100000 in
def wX12_reach (v1 : Int32) (v2 : Int32) (x : ab_X) (K : Int32 → ab_X → Prop) : Prop := wX12_isCrew v1 (wr x 246 0 0) (fun r1 => ((r1 = 0 → K (-1) (wr x 246 0 0)) ∧ (¬ r1 = 0 → wX12_isHouse v2 (wr x 246 0 0) (fun r2 => ((r2 = 0 → K (-1) (wr x 246 0 0)) ∧ (¬ r2 = 0 → wX12_reachOf v1 v2 (wr x 246 0 0) (fun r3 => K r3 (wr x 246 0 0))))))))
set_option maxHeartbeats 4000000 in
set_option maxRecDepth 100000 in
theorem sX12_reach (v1 : Int32) (v2 : Int32)  (x : ab_X) (K : Int32 → ab_X → Prop) (d bc bs : Nat) (hdp : 3 ≤ d) (h : wX12_reach v1 v2 x K) : EW MX12_reach 0 [(0, .ref 246), (1, .int v1), (2, .int v2)] [] (aS x) d bc bs (liI K) := by
  unfold wX12_reach at h
  refine EW_aload_n (pc2 := 1) rfl dX12_reach_0 0 rfl ?_
  refine EW_iconst (pc2 := 2) (v := 0) rfl dX12_reach_1 (by decide) ?_
  refine AW_puti ⟨gfRX12_297, rfl, rfl⟩ (pc2 := 5) rfl dX12_reach_2 q246 ?_
  refine EW_aload_n (pc2 := 6) rfl dX12_reach_5 0 rfl ?_
  refine EW_iload_n (pc2 := 7) rfl dX12_reach_6 1 rfl ?_
  refine AW_invV (M' := MX12_isCrew) [.int v1] (rest := []) mlRX12_392 okX12_isCrew (pc2 := 10) rfl dX12_reach_7 rfl rfl (Nat.le_of_ble_eq_true rfl) (Nat.le_of_ble_eq_true rfl) (d' := 0) (by omega) q246 ⟨by decide, rfl⟩ (EW_mono (fun _ _ hr => ?_) (sX12_isCrew v1  (wr x 246 0 0) _ _ 0 0 (Nat.le_refl _) h))
  obtain ⟨r1, rfl, rfl, h⟩ := hr
  refine EW_if_eq (tgt := 30) (pc2 := 13) rfl dX12_reach_10 (by decide) (fun q => ?_) (fun q => ?_)
  · replace h := h.1 q
    refine EW_iconst (pc2 := 31) (v := (-1)) rfl dX12_reach_30 (by decide) ?_
    exact AW_iret rfl dX12_reach_31 ⟨_, _, rfl, rfl, h⟩
  · replace h := h.2 q
    refine EW_aload_n (pc2 := 14) rfl dX12_reach_13 0 rfl ?_
    refine EW_iload_n (pc2 := 15) rfl dX12_reach_14 2 rfl ?_
    refine AW_invV (M' := MX12_isHouse) [.int v2] (rest := []) mlRX12_334 okX12_isHouse (pc2 := 18) rfl dX12_reach_15 rfl rfl (Nat.le_of_ble_eq_true rfl) (Nat.le_of_ble_eq_true rfl) (d' := 0) (by omega) q246 ⟨by decide, rfl⟩ (EW_mono (fun _ _ hr => ?_) (sX12_isHouse v2  (wr x 246 0 0) _ _ 0 0 (Nat.le_refl _) h))
    obtain ⟨r2, rfl, rfl, h⟩ := hr
    refine EW_if_eq (tgt := 30) (pc2 := 21) rfl dX12_reach_18 (by decide) (fun q => ?_) (fun q => ?_)
    · replace h := h.1 q
      refine EW_iconst (pc2 := 31) (v := (-1)) rfl dX12_reach_30 (by decide) ?_
      exact AW_iret rfl dX12_reach_31 ⟨_, _, rfl, rfl, h⟩
    · replace h := h.2 q
      refine EW_aload_n (pc2 := 22) rfl dX12_reach_21 0 rfl ?_
      refine EW_iload_n (pc2 := 23) rfl dX12_reach_22 1 rfl ?_
      refine EW_iload_n (pc2 := 24) rfl dX12_reach_23 2 rfl ?_
      refine AW_invV (M' := MX12_reachOf) [.int v1, .int v2] (rest := []) mlRX12_411 okX12_reachOf (pc2 := 27) rfl dX12_reach_24 rfl rfl (Nat.le_of_ble_eq_true rfl) (Nat.le_of_ble_eq_true rfl) (d' := 2) (by omega) q246 ⟨by decide, rfl⟩ (EW_mono (fun _ _ hr => ?_) (sX12_reachOf v1 v2  (wr x 246 0 0) _ _ 0 0 (Nat.le_refl _) h))
      obtain ⟨r3, rfl, rfl, h⟩ := hr
      refine EW_goto (tgt := 31) dX12_reach_27 (by decide) ?_
      exact AW_iret rfl dX12_reach_31 ⟨_, _, rfl, rfl, h⟩
abbrev MX12_recall : ab_M := (yX12_recall, cX12_recall, 2, (some .boolean))
theorem dX12_recall_0 : decode cX12_recall 0 = .ok (.aload_n 0, 1) := by decide +kernel
theorem dX12_recall_1 : decode cX12_recall 1 = .ok (.iconst 0, 1) := by decide +kernel
theorem dX12_recall_2 : decode cX12_recall 2 = .ok (.putfield 297, 3) := by decide +kernel
theorem dX12_recall_5 : decode cX12_recall 5 = .ok (.aload_n 0, 1) := by decide +kernel
theorem dX12_recall_6 : decode cX12_recall 6 = .ok (.iload_n 1, 1) := by decide +kernel
theorem dX12_recall_7 : decode cX12_recall 7 = .ok (.invokevirtual 392, 3) := by decide +kernel
theorem dX12_recall_10 : decode cX12_recall 10 = .ok (.ifCond .eq 27, 3) := by decide +kernel
theorem dX12_recall_13 : decode cX12_recall 13 = .ok (.aload_n 0, 1) := by decide +kernel
theorem dX12_recall_14 : decode cX12_recall 14 = .ok (.getfield 128, 3) := by decide +kernel
theorem dX12_recall_17 : decode cX12_recall 17 = .ok (.iload_n 1, 1) := by decide +kernel
theorem dX12_recall_18 : decode cX12_recall 18 = .ok (.iaload, 1) := by decide +kernel
theorem dX12_recall_19 : decode cX12_recall 19 = .ok (.ifCond .ne 18, 3) := by decide +kernel
theorem dX12_recall_22 : decode cX12_recall 22 = .ok (.aload_n 0, 1) := by decide +kernel
theorem dX12_recall_23 : decode cX12_recall 23 = .ok (.getfield 131, 3) := by decide +kernel
theorem dX12_recall_26 : decode cX12_recall 26 = .ok (.iload_n 1, 1) := by decide +kernel
theorem dX12_recall_27 : decode cX12_recall 27 = .ok (.iaload, 1) := by decide +kernel
theorem dX12_recall_28 : decode cX12_recall 28 = .ok (.aload_n 0, 1) := by decide +kernel
theorem dX12_recall_29 : decode cX12_recall 29 = .ok (.getfield 110, 3) := by decide +kernel
theorem dX12_recall_32 : decode cX12_recall 32 = .ok (.iload_n 1, 1) := by decide +kernel
theorem dX12_recall_33 : decode cX12_recall 33 = .ok (.iaload, 1) := by decide +kernel
theorem dX12_recall_34 : decode cX12_recall 34 = .ok (.if_icmp .ne 5, 3) := by decide +kernel
theorem dX12_recall_37 : decode cX12_recall 37 = .ok (.iconst 0, 1) := by decide +kernel
theorem dX12_recall_38 : decode cX12_recall 38 = .ok (.ireturn, 1) := by decide +kernel
theorem dX12_recall_39 : decode cX12_recall 39 = .ok (.aload_n 0, 1) := by decide +kernel
theorem dX12_recall_40 : decode cX12_recall 40 = .ok (.iload_n 1, 1) := by decide +kernel
theorem dX12_recall_41 : decode cX12_recall 41 = .ok (.aload_n 0, 1) := by decide +kernel
theorem dX12_recall_42 : decode cX12_recall 42 = .ok (.getfield 131, 3) := by decide +kernel
theorem dX12_recall_45 : decode cX12_recall 45 = .ok (.iload_n 1, 1) := by decide +kernel
theorem dX12_recall_46 : decode cX12_recall 46 = .ok (.iaload, 1) := by decide +kernel
theorem dX12_recall_47 : decode cX12_recall 47 = .ok (.invokevirtual 405, 3) := by decide +kernel
theorem dX12_recall_50 : decode cX12_recall 50 = .ok (.iconst 1, 1) := by decide +kernel
theorem dX12_recall_51 : decode cX12_recall 51 = .ok (.ireturn, 1) := by decide +kernel
theorem okX12_recall : ab_okM MX12_recall 1 := ⟨by decide, ⟨by decide, by decide⟩, ab_in 2364 (by decide +kernel) (by decide +kernel), ab_in 99 (by decide +kernel) (by decide +kernel), by decide +kernel, by decide⟩
set_option maxHeartbeats 4000000 in
set_option maxRecDepth 100000 in
def wX12_recall (v1 : Int32) (x : ab_X) (K : Int32 → ab_X → Prop) : Prop := wX12_isCrew v1 (wr x 246 0 0) (fun r1 => ((r1 = 0 → K 0 (wr x 246 0 0)) ∧ (¬ r1 = 0 → (vp_in v1 16 ∧ ((¬ ((wr x 246 0 0).1 286 (Int32.toNatClampNeg v1)) = 0 → K 0 (wr x 246 0 0)) ∧ (((wr x 246 0 0).1 286 (Int32.toNatClampNeg v1)) = 0 → (vp_in v1 16 ∧ vp_in v1 16 ∧ ((¬ ((wr x 246 0 0).1 287 (Int32.toNatClampNeg v1)) = ((wr x 246 0 0).1 280 (Int32.toNatClampNeg v1)) → (vp_in v1 16 ∧ wX12_turns v1 ((wr x 246 0 0).1 287 (Int32.toNatClampNeg v1)) (wr x 246 0 0) (fun x6 => K 1 x6))) ∧ (((wr x 246 0 0).1 287 (Int32.toNatClampNeg v1)) = ((wr x 246 0 0).1 280 (Int32.toNatClampNeg v1)) → K 0 (wr x 246 0 0))))))))))
set_option maxHeartbeats 4000000 in
set_option maxRecDepth 100000 in
theorem sX12_recall (v1 : Int32)  (x : ab_X) (K : Int32 → ab_X → Prop) (d bc bs : Nat) (hdp : 3 ≤ d) (h : wX12_recall v1 x K) : EW MX12_recall 0 [(0, .ref 246), (1, .int v1)] [] (aS x) d bc bs (liI K) := by
  unfold wX12_recall at h
  refine EW_aload_n (pc2 := 1) rfl dX12_recall_0 0 rfl ?_
  refine EW_iconst (pc2 := 2) (v := 0) rfl dX12_recall_1 (by decide) ?_
  refine AW_puti ⟨gfRX12_297, rfl, rfl⟩ (pc2 := 5) rfl dX12_recall_2 q246 ?_
  refine EW_aload_n (pc2 := 6) rfl dX12_recall_5 0 rfl ?_
  refine EW_iload_n (pc2 := 7) rfl dX12_recall_6 1 rfl ?_
  refine AW_invV (M' := MX12_isCrew) [.int v1] (rest := []) mlRX12_392 okX12_isCrew (pc2 := 10) rfl dX12_recall_7 rfl rfl (Nat.le_of_ble_eq_true rfl) (Nat.le_of_ble_eq_true rfl) (d' := 0) (by omega) q246 ⟨by decide, rfl⟩ (EW_mono (fun _ _ hr => ?_) (sX12_isCrew v1  (wr x 246 0 0) _ _ 0 0 (Nat.le_refl _) h))
  obtain ⟨r1, rfl, rfl, h⟩ := hr
  refine EW_if_eq (tgt := 37) (pc2 := 13) rfl dX12_recall_10 (by decide) (fun q => ?_) (fun q => ?_)
  · replace h := h.1 q
    refine EW_iconst (pc2 := 38) (v := 0) rfl dX12_recall_37 (by decide) ?_
    exact AW_zret rfl isB0 dX12_recall_38 ⟨_, _, rfl, rfl, h⟩
  · replace h := h.2 q
    refine EW_aload_n (pc2 := 14) rfl dX12_recall_13 0 rfl ?_
    refine AW_getr (r := 286) ⟨gfRX12_128, rfl⟩ (pc2 := 17) rfl dX12_recall_14 q246 rfl ?_
    refine EW_iload_n (pc2 := 18) rfl dX12_recall_17 1 rfl ?_
    obtain ⟨b2, h⟩ := h
    refine AW_iald (pc2 := 19) rfl dX12_recall_18 q286 b2 ?_
    refine EW_if_ne (tgt := 37) (pc2 := 22) rfl dX12_recall_19 (by decide) (fun q => ?_) (fun q => ?_)
    · replace h := h.1 q
      refine EW_iconst (pc2 := 38) (v := 0) rfl dX12_recall_37 (by decide) ?_
      exact AW_zret rfl isB0 dX12_recall_38 ⟨_, _, rfl, rfl, h⟩
    · replace h := h.2 q
      refine EW_aload_n (pc2 := 23) rfl dX12_recall_22 0 rfl ?_
      refine AW_getr (r := 287) ⟨gfRX12_131, rfl⟩ (pc2 := 26) rfl dX12_recall_23 q246 rfl ?_
      refine EW_iload_n (pc2 := 27) rfl dX12_recall_26 1 rfl ?_
      obtain ⟨b3, h⟩ := h
      refine AW_iald (pc2 := 28) rfl dX12_recall_27 q287 b3 ?_
      refine EW_aload_n (pc2 := 29) rfl dX12_recall_28 0 rfl ?_
      refine AW_getr (r := 280) ⟨gfRX12_110, rfl⟩ (pc2 := 32) rfl dX12_recall_29 q246 rfl ?_
      refine EW_iload_n (pc2 := 33) rfl dX12_recall_32 1 rfl ?_
      obtain ⟨b4, h⟩ := h
      refine AW_iald (pc2 := 34) rfl dX12_recall_33 q280 b4 ?_
      refine EW_icmp_ne (tgt := 39) (pc2 := 37) rfl dX12_recall_34 (by decide) (fun q => ?_) (fun q => ?_)
      · replace h := h.1 q
        refine EW_aload_n (pc2 := 40) rfl dX12_recall_39 0 rfl ?_
        refine EW_iload_n (pc2 := 41) rfl dX12_recall_40 1 rfl ?_
        refine EW_aload_n (pc2 := 42) rfl dX12_recall_41 0 rfl ?_
        refine AW_getr (r := 287) ⟨gfRX12_131, rfl⟩ (pc2 := 45) rfl dX12_recall_42 q246 rfl ?_
        refine EW_iload_n (pc2 := 46) rfl dX12_recall_45 1 rfl ?_
        obtain ⟨b5, h⟩ := h
        refine AW_iald (pc2 := 47) rfl dX12_recall_46 q287 b5 ?_
        refine AW_invV (M' := MX12_turns) [.int v1, .int ((wr x 246 0 0).1 287 (Int32.toNatClampNeg v1))] (rest := []) mlRX12_405 okX12_turns (pc2 := 50) rfl dX12_recall_47 rfl rfl (Nat.le_of_ble_eq_true rfl) (Nat.le_of_ble_eq_true rfl) (d' := 2) (by omega) q246 ⟨by decide, rfl⟩ (EW_mono (fun _ _ hr => ?_) (sX12_turns v1 ((wr x 246 0 0).1 287 (Int32.toNatClampNeg v1))  (wr x 246 0 0) _ _ 0 0 (Nat.le_refl _) h))
        obtain ⟨x6, rfl, rfl, h⟩ := hr
        refine EW_iconst (pc2 := 51) (v := 1) rfl dX12_recall_50 (by decide) ?_
        exact AW_zret rfl isB1 dX12_recall_51 ⟨_, _, rfl, rfl, h⟩
      · replace h := h.2 q
        refine EW_iconst (pc2 := 38) (v := 0) rfl dX12_recall_37 (by decide) ?_
        exact AW_zret rfl isB0 dX12_recall_38 ⟨_, _, rfl, rfl, h⟩
