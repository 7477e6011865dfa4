theorem gfRX10_74 : ab_L RX10 74 10 9 := ⟨by decide, by decide, ab_in 328 (by decide +kernel) (by decide +kernel)⟩
theorem gfRX10_37 : ab_L RX10 37 10 0 := ⟨by decide, by decide, ab_in 307 (by decide +kernel) (by decide +kernel)⟩
theorem gfRX10_31 : ab_L RX10 31 10 7 := ⟨by decide, by decide, ab_in 325 (by decide +kernel) (by decide +kernel)⟩
theorem mlRX10_78 : Cond.methodLink RX10 78 yX6_walk ∈ ab_G ∧ Cond.instanceMethod yX6_walk ∈ ab_G ∧ Cond.selects RX6 yX6_walk yX6_walk ∈ ab_G := ⟨ab_in 1033 (by decide +kernel) (by decide +kernel), ab_in 782 (by decide +kernel) (by decide +kernel), ab_in 783 (by decide +kernel) (by decide +kernel)⟩
theorem cnRX10_77 : Cond.constant RX10 77 1000000 ∈ ab_G := ab_in 1032 (by decide +kernel) (by decide +kernel)
abbrev MX10_nearestHead : ab_M := (yX10_nearestHead, cX10_nearestHead, 6, (some .int))
theorem dX10_nearestHead_0 : decode cX10_nearestHead 0 = .ok (.iconst (-1), 1) := by decide +kernel
theorem dX10_nearestHead_1 : decode cX10_nearestHead 1 = .ok (.istore_n 2, 1) := by decide +kernel
theorem dX10_nearestHead_2 : decode cX10_nearestHead 2 = .ok (.ldc 77, 2) := by decide +kernel
theorem dX10_nearestHead_4 : decode cX10_nearestHead 4 = .ok (.istore_n 3, 1) := by decide +kernel
theorem dX10_nearestHead_5 : decode cX10_nearestHead 5 = .ok (.iconst 0, 1) := by decide +kernel
theorem dX10_nearestHead_6 : decode cX10_nearestHead 6 = .ok (.istore 4, 2) := by decide +kernel
theorem dX10_nearestHead_8 : decode cX10_nearestHead 8 = .ok (.iload 4, 2) := by decide +kernel
theorem dX10_nearestHead_10 : decode cX10_nearestHead 10 = .ok (.aload_n 0, 1) := by decide +kernel
theorem dX10_nearestHead_11 : decode cX10_nearestHead 11 = .ok (.getfield 74, 3) := by decide +kernel
theorem dX10_nearestHead_14 : decode cX10_nearestHead 14 = .ok (.if_icmp .ge 38, 3) := by decide +kernel
theorem dX10_nearestHead_17 : decode cX10_nearestHead 17 = .ok (.aload_n 0, 1) := by decide +kernel
theorem dX10_nearestHead_18 : decode cX10_nearestHead 18 = .ok (.getfield 37, 3) := by decide +kernel
theorem dX10_nearestHead_21 : decode cX10_nearestHead 21 = .ok (.aload_n 0, 1) := by decide +kernel
theorem dX10_nearestHead_22 : decode cX10_nearestHead 22 = .ok (.getfield 31, 3) := by decide +kernel
theorem dX10_nearestHead_25 : decode cX10_nearestHead 25 = .ok (.iload 4, 2) := by decide +kernel
theorem dX10_nearestHead_27 : decode cX10_nearestHead 27 = .ok (.iaload, 1) := by decide +kernel
theorem dX10_nearestHead_28 : decode cX10_nearestHead 28 = .ok (.iload_n 1, 1) := by decide +kernel
theorem dX10_nearestHead_29 : decode cX10_nearestHead 29 = .ok (.invokevirtual 78, 3) := by decide +kernel
theorem dX10_nearestHead_32 : decode cX10_nearestHead 32 = .ok (.istore 5, 2) := by decide +kernel
theorem dX10_nearestHead_34 : decode cX10_nearestHead 34 = .ok (.iload 5, 2) := by decide +kernel
theorem dX10_nearestHead_36 : decode cX10_nearestHead 36 = .ok (.iload_n 3, 1) := by decide +kernel
theorem dX10_nearestHead_37 : decode cX10_nearestHead 37 = .ok (.if_icmp .ge 9, 3) := by decide +kernel
theorem dX10_nearestHead_40 : decode cX10_nearestHead 40 = .ok (.iload 5, 2) := by decide +kernel
theorem dX10_nearestHead_42 : decode cX10_nearestHead 42 = .ok (.istore_n 3, 1) := by decide +kernel
theorem dX10_nearestHead_43 : decode cX10_nearestHead 43 = .ok (.iload 4, 2) := by decide +kernel
theorem dX10_nearestHead_45 : decode cX10_nearestHead 45 = .ok (.istore_n 2, 1) := by decide +kernel
theorem dX10_nearestHead_46 : decode cX10_nearestHead 46 = .ok (.iinc 4 1, 3) := by decide +kernel
theorem dX10_nearestHead_49 : decode cX10_nearestHead 49 = .ok (.goto (-41), 3) := by decide +kernel
theorem dX10_nearestHead_52 : decode cX10_nearestHead 52 = .ok (.iload_n 2, 1) := by decide +kernel
theorem dX10_nearestHead_53 : decode cX10_nearestHead 53 = .ok (.ireturn, 1) := by decide +kernel
theorem okX10_nearestHead : ab_okM MX10_nearestHead 1 := ⟨by decide, ⟨by decide, by decide⟩, ab_in 1031 (by decide +kernel) (by decide +kernel), ab_in 89 (by decide +kernel) (by decide +kernel), by decide +kernel, by decide⟩
set_option maxHeartbeats 4000000 in
set_option maxRecDepth 100000 in
def lX10_nearestHead_8 (v1 : Int32) (x : ab_X) (K : Int32 → Prop)  (L8 : Int32 → Int32 → Int32 → Prop) (v2 : Int32) (v3 : Int32) (v4 : Int32) : Prop := (((x.1 9 9) ≤ v4 → K v2) ∧ (¬ (x.1 9 9) ≤ v4 → (vp_in v4 20 ∧ wX6_walk (x.1 28 (Int32.toNatClampNeg v4)) v1 x (fun r2 => ((v3 ≤ r2 → L8 v2 v3 (v4 + 1)) ∧ (¬ v3 ≤ r2 → L8 v4 r2 (v4 + 1)))))))
set_option maxHeartbeats 4000000 in
set_option maxRecDepth 100000 in
theorem sX10_nearestHead_8 (v1 : Int32) (v2 : Int32) (v3 : Int32) (v4 : Int32)  (x : ab_X) (K : Int32 → Prop)  (d bc bs : Nat) (hdp : 2 ≤ d)  (h : Lp3 (lX10_nearestHead_8 v1 x K ) v2 v3 v4) : EW MX10_nearestHead 8 [(0, .ref 9), (1, .int v1), (2, .int v2), (3, .int v3), (4, .int v4)] [] (aS x) d bc bs (liP x K) := by
  refine Lp3.use (P := fun v2 v3 v4 => EW MX10_nearestHead 8 [(0, .ref 9), (1, .int v1), (2, .int v2), (3, .int v3), (4, .int v4)] [] (aS x) d bc bs (liP x K)) (fun L8 v2 v3 v4 hL8 h => ?_) v2 v3 v4 h
  unfold lX10_nearestHead_8 at h
  refine EW_iload (pc2 := 10) rfl dX10_nearestHead_8 4 rfl ?_
  refine EW_aload_n (pc2 := 11) rfl dX10_nearestHead_10 0 rfl ?_
  refine AW_geti ⟨gfRX10_74, rfl⟩ (pc2 := 14) rfl dX10_nearestHead_11 q9 ?_
  refine EW_icmp_ge (tgt := 52) (pc2 := 17) rfl dX10_nearestHead_14 (by decide) (fun q => ?_) (fun q => ?_)
  · replace h := h.1 q
    refine EW_iload_n (pc2 := 53) rfl dX10_nearestHead_52 2 rfl ?_
    exact AW_iret rfl dX10_nearestHead_53 ⟨_, rfl, rfl, h⟩
  · replace h := h.2 q
    refine EW_aload_n (pc2 := 18) rfl dX10_nearestHead_17 0 rfl ?_
    refine AW_getr (r := 1) ⟨gfRX10_37, rfl⟩ (pc2 := 21) rfl dX10_nearestHead_18 q9 rfl ?_
    refine EW_aload_n (pc2 := 22) rfl dX10_nearestHead_21 0 rfl ?_
    refine AW_getr (r := 28) ⟨gfRX10_31, rfl⟩ (pc2 := 25) rfl dX10_nearestHead_22 q9 rfl ?_
    refine EW_iload (pc2 := 27) rfl dX10_nearestHead_25 4 rfl ?_
    obtain ⟨b1, h⟩ := h
    refine AW_iald (pc2 := 28) rfl dX10_nearestHead_27 q28 b1 ?_
    refine EW_iload_n (pc2 := 29) rfl dX10_nearestHead_28 1 rfl ?_
    refine AW_invV (M' := MX6_walk) [.int (x.1 28 (Int32.toNatClampNeg v4)), .int v1] (rest := []) mlRX10_78 okX6_walk (pc2 := 32) rfl dX10_nearestHead_29 rfl rfl (Nat.le_of_ble_eq_true rfl) (Nat.le_of_ble_eq_true rfl) (d' := 1) (by omega) q1 ⟨by decide, rfl⟩ (EW_mono (fun _ _ hr => ?_) (sX6_walk (x.1 28 (Int32.toNatClampNeg v4)) v1  x _ _ 0 0 (Nat.le_refl _) h))
    obtain ⟨r2, rfl, rfl, h⟩ := hr
    refine EW_istore (pc2 := 34) rfl dX10_nearestHead_32 (by decide) [1, 2, 3, 4, 5, 0] [(0, .ref 9), (1, .int v1), (2, .int v2), (3, .int v3), (4, .int v4), (5, .int r2)] rfl ?_
    refine EW_iload (pc2 := 36) rfl dX10_nearestHead_34 5 rfl ?_
    refine EW_iload_n (pc2 := 37) rfl dX10_nearestHead_36 3 rfl ?_
    refine EW_icmp_ge (tgt := 46) (pc2 := 40) rfl dX10_nearestHead_37 (by decide) (fun q => ?_) (fun q => ?_)
    · replace h := h.1 q
      refine EW_iinc (v4 + 1) (pc2 := 49) rfl dX10_nearestHead_46 4 rfl rfl (by decide) [1, 2, 3, 4, 0, 5] [(0, .ref 9), (1, .int v1), (2, .int v2), (3, .int v3), (4, .int (v4 + 1)), (5, .int r2)] rfl ?_
      refine EW_goto (tgt := 8) dX10_nearestHead_49 (by decide) ?_
      refine EW_ls [0, 1, 2, 3, 4] rfl ?_
      exact hL8 v2 v3 (v4 + 1) h
    · replace h := h.2 q
      refine EW_iload (pc2 := 42) rfl dX10_nearestHead_40 5 rfl ?_
      refine EW_istore_n (pc2 := 43) rfl dX10_nearestHead_42 (by decide) [1, 2, 3, 0, 4, 5] [(0, .ref 9), (1, .int v1), (2, .int v2), (3, .int r2), (4, .int v4), (5, .int r2)] rfl ?_
      refine EW_iload (pc2 := 45) rfl dX10_nearestHead_43 4 rfl ?_
      refine EW_istore_n (pc2 := 46) rfl dX10_nearestHead_45 (by decide) [1, 2, 0, 3, 4, 5] [(0, .ref 9), (1, .int v1), (2, .int v4), (3, .int r2), (4, .int v4), (5, .int r2)] rfl ?_
      refine EW_iinc (v4 + 1) (pc2 := 49) rfl dX10_nearestHead_46 4 rfl rfl (by decide) [1, 2, 3, 4, 0, 5] [(0, .ref 9), (1, .int v1), (2, .int v4), (3, .int r2), (4, .int (v4 + 1)), (5, .int r2)] rfl ?_
      refine EW_goto (tgt := 8) dX10_nearestHead_49 (by decide) ?_
      refine EW_ls [0, 1, 2, 3, 4] rfl ?_
      exact hL8 v4 r2 (v4 + 1) h
set_option maxHeartbeats 4000000 in
set_option maxRecDepth 100000 in
def wX10_nearestHead (v1 : Int32) (x : ab_X) (K : Int32 → Prop) : Prop := Lp3 (lX10_nearestHead_8 v1 x K ) (-1) 1000000 0
set_option maxHeartbeats 4000000 in
set_option maxRecDepth 100000 in
theorem sX10_nearestHead (v1 : Int32)  (x : ab_X) (K : Int32 → Prop) (d bc bs : Nat) (hdp : 2 ≤ d) (h : wX10_nearestHead v1 x K) : EW MX10_nearestHead 0 [(0, .ref 9), (1, .int v1)] [] (aS x) d bc bs (liP x K) := by
  unfold wX10_nearestHead at h
  refine EW_iconst (pc2 := 1) (v := (-1)) rfl dX10_nearestHead_0 (by decide) ?_
  refine EW_istore_n (pc2 := 2) rfl dX10_nearestHead_1 (by decide) [1, 2, 0] [(0, .ref 9), (1, .int v1), (2, .int (-1))] rfl ?_
  refine EW_ldc cnRX10_77 (pc2 := 4) rfl dX10_nearestHead_2 ?_
  refine EW_istore_n (pc2 := 5) rfl dX10_nearestHead_4 (by decide) [1, 2, 3, 0] [(0, .ref 9), (1, .int v1), (2, .int (-1)), (3, .int 1000000)] rfl ?_
  refine EW_iconst (pc2 := 6) (v := 0) rfl dX10_nearestHead_5 (by decide) ?_
  refine EW_istore (pc2 := 8) rfl dX10_nearestHead_6 (by decide) [1, 2, 3, 4, 0] [(0, .ref 9), (1, .int v1), (2, .int (-1)), (3, .int 1000000), (4, .int 0)] rfl ?_
  exact sX10_nearestHead_8 v1 (-1) 1000000 0 x K d bc bs hdp h
theorem mlRX10_48 : Cond.methodLinkNest RX10 48 yX11_below "CityBrigade" ∈ tables_1.filter ab_isN ∧ Cond.static yX11_below ∈ ab_G := ⟨List.mem_filter.mpr ⟨List.mem_of_getElem? (i := 752) (by decide +kernel), rfl⟩, ab_in 794 (by decide +kernel) (by decide +kernel)⟩
theorem gfRX10_62 : ab_L RX10 62 4 1 := ⟨by decide, by decide, ab_in 218 (by decide +kernel) (by decide +kernel)⟩
theorem gfRX10_56 : ab_L RX10 56 4 3 := ⟨by decide, by decide, ab_in 225 (by decide +kernel) (by decide +kernel)⟩
theorem mmRX10_84 : Cond.methodLink RX10 84 Lib.Math.min.name ∈ ab_G ∧ Cond.static Lib.Math.min.name ∈ ab_G ∧ Cond.initialized "java/lang/Math" ∈ ab_G ∧ Cond.code Lib.Math.min.name Lib.Math.min.code 2 (some .int) ∈ ab_G := ⟨ab_in 1038 (by decide +kernel) (by decide +kernel), ab_in 787 (by decide +kernel) (by decide +kernel), ab_in 100 (by decide +kernel) (by decide +kernel), ab_in 788 (by decide +kernel) (by decide +kernel)⟩
abbrev MX10_topFloor : ab_M := (yX10_topFloor, cX10_topFloor, 5, (some .int))
theorem dX10_topFloor_0 : decode cX10_topFloor 0 = .ok (.iload_n 2, 1) := by decide +kernel
theorem dX10_topFloor_1 : decode cX10_topFloor 1 = .ok (.aload_n 0, 1) := by decide +kernel
theorem dX10_topFloor_2 : decode cX10_topFloor 2 = .ok (.getfield 74, 3) := by decide +kernel
theorem dX10_topFloor_5 : decode cX10_topFloor 5 = .ok (.invokestatic 48, 3) := by decide +kernel
theorem dX10_topFloor_8 : decode cX10_topFloor 8 = .ok (.ifCond .ne 5, 3) := by decide +kernel
theorem dX10_topFloor_11 : decode cX10_topFloor 11 = .ok (.iconst (-1), 1) := by decide +kernel
theorem dX10_topFloor_12 : decode cX10_topFloor 12 = .ok (.ireturn, 1) := by decide +kernel
theorem dX10_topFloor_13 : decode cX10_topFloor 13 = .ok (.iload_n 3, 1) := by decide +kernel
theorem dX10_topFloor_14 : decode cX10_topFloor 14 = .ok (.aload_n 0, 1) := by decide +kernel
theorem dX10_topFloor_15 : decode cX10_topFloor 15 = .ok (.getfield 37, 3) := by decide +kernel
theorem dX10_topFloor_18 : decode cX10_topFloor 18 = .ok (.aload_n 0, 1) := by decide +kernel
theorem dX10_topFloor_19 : decode cX10_topFloor 19 = .ok (.getfield 31, 3) := by decide +kernel
theorem dX10_topFloor_22 : decode cX10_topFloor 22 = .ok (.iload_n 2, 1) := by decide +kernel
theorem dX10_topFloor_23 : decode cX10_topFloor 23 = .ok (.iaload, 1) := by decide +kernel
theorem dX10_topFloor_24 : decode cX10_topFloor 24 = .ok (.aload_n 1, 1) := by decide +kernel
theorem dX10_topFloor_25 : decode cX10_topFloor 25 = .ok (.getfield 62, 3) := by decide +kernel
theorem dX10_topFloor_28 : decode cX10_topFloor 28 = .ok (.invokevirtual 78, 3) := by decide +kernel
theorem dX10_topFloor_31 : decode cX10_topFloor 31 = .ok (.bipush 100, 2) := by decide +kernel
theorem dX10_topFloor_33 : decode cX10_topFloor 33 = .ok (.imul, 1) := by decide +kernel
theorem dX10_topFloor_34 : decode cX10_topFloor 34 = .ok (.isub, 1) := by decide +kernel
theorem dX10_topFloor_35 : decode cX10_topFloor 35 = .ok (.istore 4, 2) := by decide +kernel
theorem dX10_topFloor_37 : decode cX10_topFloor 37 = .ok (.iload 4, 2) := by decide +kernel
theorem dX10_topFloor_39 : decode cX10_topFloor 39 = .ok (.bipush 20, 2) := by decide +kernel
theorem dX10_topFloor_41 : decode cX10_topFloor 41 = .ok (.if_icmp .ge 7, 3) := by decide +kernel
theorem dX10_topFloor_44 : decode cX10_topFloor 44 = .ok (.iconst (-1), 1) := by decide +kernel
theorem dX10_topFloor_45 : decode cX10_topFloor 45 = .ok (.goto 17, 3) := by decide +kernel
theorem dX10_topFloor_48 : decode cX10_topFloor 48 = .ok (.aload_n 1, 1) := by decide +kernel
theorem dX10_topFloor_49 : decode cX10_topFloor 49 = .ok (.getfield 56, 3) := by decide +kernel
theorem dX10_topFloor_52 : decode cX10_topFloor 52 = .ok (.iload 4, 2) := by decide +kernel
theorem dX10_topFloor_54 : decode cX10_topFloor 54 = .ok (.bipush 20, 2) := by decide +kernel
theorem dX10_topFloor_56 : decode cX10_topFloor 56 = .ok (.idiv, 1) := by decide +kernel
theorem dX10_topFloor_57 : decode cX10_topFloor 57 = .ok (.invokestatic 84, 3) := by decide +kernel
theorem dX10_topFloor_60 : decode cX10_topFloor 60 = .ok (.iconst 1, 1) := by decide +kernel
theorem dX10_topFloor_61 : decode cX10_topFloor 61 = .ok (.isub, 1) := by decide +kernel
theorem dX10_topFloor_62 : decode cX10_topFloor 62 = .ok (.ireturn, 1) := by decide +kernel
theorem okX10_topFloor : ab_okM MX10_topFloor 3 := ⟨by decide, ⟨by decide, by decide⟩, ab_in 1037 (by decide +kernel) (by decide +kernel), ab_in 89 (by decide +kernel) (by decide +kernel), by decide +kernel, by decide⟩
set_option maxHeartbeats 4000000 in
set_option maxRecDepth 100000 in
def wX10_topFloor (v1 : Nat) (v2 : Int32) (v3 : Int32) (x : ab_X) (K : Int32 → Prop) : Prop := wX11_below v2 (x.1 9 9) x (fun r1 => ((¬ r1 = 0 → (vp_in v2 20 ∧ wX6_walk (x.1 28 (Int32.toNatClampNeg v2)) (x.1 v1 1) x (fun r3 => ((20 ≤ (v3 - (r3 * 100)) → K ((imin (x.1 v1 3) ((v3 - (r3 * 100)) / 20)) - 1)) ∧ (¬ 20 ≤ (v3 - (r3 * 100)) → K (-1)))))) ∧ (r1 = 0 → K (-1))))
set_option maxHeartbeats 4000000 in
set_option maxRecDepth 100000 in
theorem sX10_topFloor (v1 : Nat) (v2 : Int32) (v3 : Int32) (hv1 : isH v1) (x : ab_X) (K : Int32 → Prop) (d bc bs : Nat) (hdp : 2 ≤ d) (h : wX10_topFloor v1 v2 v3 x K) : EW MX10_topFloor 0 [(0, .ref 9), (1, .ref v1), (2, .int v2), (3, .int v3)] [] (aS x) d bc bs (liP x K) := by
  unfold wX10_topFloor at h
  refine EW_iload_n (pc2 := 1) rfl dX10_topFloor_0 2 rfl ?_
  refine EW_aload_n (pc2 := 2) rfl dX10_topFloor_1 0 rfl ?_
  refine AW_geti ⟨gfRX10_74, rfl⟩ (pc2 := 5) rfl dX10_topFloor_2 q9 ?_
  refine AW_invSN (M' := MX11_below) [.int v2, .int (x.1 9 9)] (rest := []) mlRX10_48 okX11_below (pc2 := 8) rfl dX10_topFloor_5 rfl rfl (Nat.le_of_ble_eq_true rfl) (Nat.le_of_ble_eq_true rfl) (d' := 0) (by omega) (EW_mono (fun _ _ hr => ?_) (sX11_below v2 (x.1 9 9)  x _ _ 0 0 (Nat.le_refl _) h))
  obtain ⟨r1, rfl, rfl, h⟩ := hr
  refine EW_if_ne (tgt := 13) (pc2 := 11) rfl dX10_topFloor_8 (by decide) (fun q => ?_) (fun q => ?_)
  · replace h := h.1 q
    refine EW_iload_n (pc2 := 14) rfl dX10_topFloor_13 3 rfl ?_
    refine EW_aload_n (pc2 := 15) rfl dX10_topFloor_14 0 rfl ?_
    refine AW_getr (r := 1) ⟨gfRX10_37, rfl⟩ (pc2 := 18) rfl dX10_topFloor_15 q9 rfl ?_
    refine EW_aload_n (pc2 := 19) rfl dX10_topFloor_18 0 rfl ?_
    refine AW_getr (r := 28) ⟨gfRX10_31, rfl⟩ (pc2 := 22) rfl dX10_topFloor_19 q9 rfl ?_
    refine EW_iload_n (pc2 := 23) rfl dX10_topFloor_22 2 rfl ?_
    obtain ⟨b2, h⟩ := h
    refine AW_iald (pc2 := 24) rfl dX10_topFloor_23 q28 b2 ?_
    refine EW_aload_n (pc2 := 25) rfl dX10_topFloor_24 1 rfl ?_
    refine AW_geti ⟨gfRX10_62, rfl⟩ (pc2 := 28) rfl dX10_topFloor_25 (isH.o hv1) ?_
    refine AW_invV (M' := MX6_walk) [.int (x.1 28 (Int32.toNatClampNeg v2)), .int (x.1 v1 1)] (rest := [.int v3]) mlRX10_78 okX6_walk (pc2 := 31) rfl dX10_topFloor_28 rfl rfl (Nat.le_of_ble_eq_true rfl) (Nat.le_of_ble_eq_true rfl) (d' := 1) (by omega) q1 ⟨by decide, rfl⟩ (EW_mono (fun _ _ hr => ?_) (sX6_walk (x.1 28 (Int32.toNatClampNeg v2)) (x.1 v1 1)  x _ _ 0 0 (Nat.le_refl _) h))
    obtain ⟨r3, rfl, rfl, h⟩ := hr
    refine EW_bipush (pc2 := 33) (v := 100) rfl dX10_topFloor_31 (by decide) ?_
    refine EW_imul (pc2 := 34) rfl dX10_topFloor_33 ?_
    refine EW_isub (pc2 := 35) rfl dX10_topFloor_34 ?_
    refine EW_istore (pc2 := 37) rfl dX10_topFloor_35 (by decide) [1, 2, 3, 4, 0] [(0, .ref 9), (1, .ref v1), (2, .int v2), (3, .int v3), (4, .int (v3 - (r3 * 100)))] rfl ?_
    refine EW_iload (pc2 := 39) rfl dX10_topFloor_37 4 rfl ?_
    refine EW_bipush (pc2 := 41) (v := 20) rfl dX10_topFloor_39 (by decide) ?_
    refine EW_icmp_ge (tgt := 48) (pc2 := 44) rfl dX10_topFloor_41 (by decide) (fun q => ?_) (fun q => ?_)
    · replace h := h.1 q
      refine EW_aload_n (pc2 := 49) rfl dX10_topFloor_48 1 rfl ?_
      refine AW_geti ⟨gfRX10_56, rfl⟩ (pc2 := 52) rfl dX10_topFloor_49 (isH.o hv1) ?_
      refine EW_iload (pc2 := 54) rfl dX10_topFloor_52 4 rfl ?_
      refine EW_bipush (pc2 := 56) (v := 20) rfl dX10_topFloor_54 (by decide) ?_
      refine EW_idiv (pc2 := 57) rfl dX10_topFloor_56 (by decide) ?_
      refine AW_mmin mmRX10_84 (pc2 := 60) rfl dX10_topFloor_57 (Nat.le_of_ble_eq_true rfl) (by omega) ?_
      refine EW_iconst (pc2 := 61) (v := 1) rfl dX10_topFloor_60 (by decide) ?_
      refine EW_isub (pc2 := 62) rfl dX10_topFloor_61 ?_
      exact AW_iret rfl dX10_topFloor_62 ⟨_, rfl, rfl, h⟩
    · replace h := h.2 q
      refine EW_iconst (pc2 := 45) (v := (-1)) rfl dX10_topFloor_44 (by decide) ?_
      refine EW_goto (tgt := 62) dX10_topFloor_45 (by decide) ?_
      exact AW_iret rfl dX10_topFloor_62 ⟨_, rfl, rfl, h⟩
  · replace h := h.2 q
    refine EW_iconst (pc2 := 12) (v := (-1)) rfl dX10_topFloor_11 (by decide) ?_
    exact AW_iret rfl dX10_topFloor_12 ⟨_, rfl, rfl, h⟩
theorem gfRX0_344 : ab_L RX0 344 2 13 := ⟨by decide, by decide, ab_in 445 (by decide +kernel) (by decide +kernel)⟩
theorem gfRX0_338 : ab_L RX0 338 2 17 := ⟨by decide, by decide, ab_in 454 (by decide +kernel) (by decide +kernel)⟩
theorem gfRX0_319 : ab_L RX0 319 2 7 := ⟨by decide, by decide, ab_in 427 (by decide +kernel) (by decide +kernel)⟩
theorem mlRX0_322 : Cond.methodLink RX0 322 yX0_isLeaving ∈ ab_G ∧ Cond.instanceMethod yX0_isLeaving ∈ ab_G ∧ Cond.selects RX0 yX0_isLeaving yX0_isLeaving ∈ ab_G := ⟨ab_in 1414 (by decide +kernel) (by decide +kernel), ab_in 1415 (by decide +kernel) (by decide +kernel), ab_in 1416 (by decide +kernel) (by decide +kernel)⟩
theorem gfRX0_326 : ab_L RX0 326 2 19 := ⟨by decide, by decide, ab_in 458 (by decide +kernel) (by decide +kernel)⟩
theorem gfRX0_329 : ab_L RX0 329 10 8 := ⟨by decide, by decide, ab_in 327 (by decide +kernel) (by decide +kernel)⟩
theorem gfRX0_332 : ab_L RX0 332 2 18 := ⟨by decide, by decide, ab_in 456 (by decide +kernel) (by decide +kernel)⟩
theorem gfRX0_335 : ab_L RX0 335 2 6 := ⟨by decide, by decide, ab_in 424 (by decide +kernel) (by decide +kernel)⟩
theorem gfRX0_152 : ab_L RX0 152 4 1 := ⟨by decide, by decide, ab_in 219 (by decide +kernel) (by decide +kernel)⟩
theorem mlRX0_303 : Cond.methodLink RX0 303 yX10_nearestHead ∈ ab_G ∧ Cond.instanceMethod yX10_nearestHead ∈ ab_G ∧ Cond.selects RX10 yX10_nearestHead yX10_nearestHead ∈ ab_G := ⟨ab_in 1402 (by decide +kernel) (by decide +kernel), ab_in 1029 (by decide +kernel) (by decide +kernel), ab_in 1030 (by decide +kernel) (by decide +kernel)⟩
theorem gfRX0_287 : ab_L RX0 287 2 5 := ⟨by decide, by decide, ab_in 421 (by decide +kernel) (by decide +kernel)⟩
theorem mlRX0_306 : Cond.methodLink RX0 306 yX10_topFloor ∈ ab_G ∧ Cond.instanceMethod yX10_topFloor ∈ ab_G ∧ Cond.selects RX10 yX10_topFloor yX10_topFloor ∈ ab_G := ⟨ab_in 1403 (by decide +kernel) (by decide +kernel), ab_in 1035 (by decide +kernel) (by decide +kernel), ab_in 1036 (by decide +kernel) (by decide +kernel)⟩
theorem gfRX0_310 : ab_L RX0 310 4 0 := ⟨by decide, by decide, ab_in 216 (by decide +kernel) (by decide +kernel)⟩
theorem mlRX0_311 : Cond.methodLink RX0 311 yX0_isLed ∈ ab_G ∧ Cond.instanceMethod yX0_isLed ∈ ab_G ∧ Cond.selects RX0 yX0_isLed yX0_isLed ∈ ab_G := ⟨ab_in 1404 (by decide +kernel) (by decide +kernel), ab_in 1405 (by decide +kernel) (by decide +kernel), ab_in 1406 (by decide +kernel) (by decide +kernel)⟩
theorem mlRX0_314 : Cond.methodLink RX0 314 yX0_roomFor ∈ ab_G ∧ Cond.instanceMethod yX0_roomFor ∈ ab_G ∧ Cond.selects RX0 yX0_roomFor yX0_roomFor ∈ ab_G := ⟨ab_in 1408 (by decide +kernel) (by decide +kernel), ab_in 1409 (by decide +kernel) (by decide +kernel), ab_in 1410 (by decide +kernel) (by decide +kernel)⟩
abbrev MX0_aim : ab_M := (yX0_aim, cX0_aim, 7, none)
theorem dX0_aim_0 : decode cX0_aim 0 = .ok (.aload_n 0, 1) := by decide +kernel
theorem dX0_aim_1 : decode cX0_aim 1 = .ok (.getfield 49, 3) := by decide +kernel
theorem dX0_aim_4 : decode cX0_aim 4 = .ok (.aload_n 2, 1) := by decide +kernel
theorem dX0_aim_5 : decode cX0_aim 5 = .ok (.getfield 152, 3) := by decide +kernel
theorem dX0_aim_8 : decode cX0_aim 8 = .ok (.invokevirtual 303, 3) := by decide +kernel
theorem dX0_aim_11 : decode cX0_aim 11 = .ok (.istore_n 3, 1) := by decide +kernel
theorem dX0_aim_12 : decode cX0_aim 12 = .ok (.aload_n 0, 1) := by decide +kernel
theorem dX0_aim_13 : decode cX0_aim 13 = .ok (.getfield 49, 3) := by decide +kernel
theorem dX0_aim_16 : decode cX0_aim 16 = .ok (.aload_n 2, 1) := by decide +kernel
theorem dX0_aim_17 : decode cX0_aim 17 = .ok (.iload_n 3, 1) := by decide +kernel
theorem dX0_aim_18 : decode cX0_aim 18 = .ok (.aload_n 1, 1) := by decide +kernel
theorem dX0_aim_19 : decode cX0_aim 19 = .ok (.getfield 287, 3) := by decide +kernel
theorem dX0_aim_22 : decode cX0_aim 22 = .ok (.invokevirtual 306, 3) := by decide +kernel
theorem dX0_aim_25 : decode cX0_aim 25 = .ok (.istore 4, 2) := by decide +kernel
theorem dX0_aim_27 : decode cX0_aim 27 = .ok (.iload 4, 2) := by decide +kernel
theorem dX0_aim_29 : decode cX0_aim 29 = .ok (.iconst (-1), 1) := by decide +kernel
theorem dX0_aim_30 : decode cX0_aim 30 = .ok (.if_icmp .ne 7, 3) := by decide +kernel
theorem dX0_aim_33 : decode cX0_aim 33 = .ok (.iconst (-1), 1) := by decide +kernel
theorem dX0_aim_34 : decode cX0_aim 34 = .ok (.goto 18, 3) := by decide +kernel
theorem dX0_aim_37 : decode cX0_aim 37 = .ok (.aload_n 0, 1) := by decide +kernel
theorem dX0_aim_38 : decode cX0_aim 38 = .ok (.aload_n 2, 1) := by decide +kernel
theorem dX0_aim_39 : decode cX0_aim 39 = .ok (.iload 4, 2) := by decide +kernel
theorem dX0_aim_41 : decode cX0_aim 41 = .ok (.aload_n 0, 1) := by decide +kernel
theorem dX0_aim_42 : decode cX0_aim 42 = .ok (.aload_n 2, 1) := by decide +kernel
theorem dX0_aim_43 : decode cX0_aim 43 = .ok (.getfield 310, 3) := by decide +kernel
theorem dX0_aim_46 : decode cX0_aim 46 = .ok (.invokevirtual 311, 3) := by decide +kernel
theorem dX0_aim_49 : decode cX0_aim 49 = .ok (.invokevirtual 314, 3) := by decide +kernel
theorem dX0_aim_52 : decode cX0_aim 52 = .ok (.istore 5, 2) := by decide +kernel
theorem dX0_aim_54 : decode cX0_aim 54 = .ok (.iload 5, 2) := by decide +kernel
theorem dX0_aim_56 : decode cX0_aim 56 = .ok (.iconst (-1), 1) := by decide +kernel
theorem dX0_aim_57 : decode cX0_aim 57 = .ok (.if_icmp .eq 19, 3) := by decide +kernel
theorem dX0_aim_60 : decode cX0_aim 60 = .ok (.aload_n 0, 1) := by decide +kernel
theorem dX0_aim_61 : decode cX0_aim 61 = .ok (.getfield 144, 3) := by decide +kernel
theorem dX0_aim_64 : decode cX0_aim 64 = .ok (.aload_n 1, 1) := by decide +kernel
theorem dX0_aim_65 : decode cX0_aim 65 = .ok (.getfield 318, 3) := by decide +kernel
theorem dX0_aim_68 : decode cX0_aim 68 = .ok (.aload_n 1, 1) := by decide +kernel
theorem dX0_aim_69 : decode cX0_aim 69 = .ok (.getfield 319, 3) := by decide +kernel
theorem dX0_aim_72 : decode cX0_aim 72 = .ok (.iadd, 1) := by decide +kernel
theorem dX0_aim_73 : decode cX0_aim 73 = .ok (.if_icmp .ge 4, 3) := by decide +kernel
theorem dX0_aim_76 : decode cX0_aim 76 = .ok (.return_, 1) := by decide +kernel
theorem dX0_aim_77 : decode cX0_aim 77 = .ok (.aload_n 0, 1) := by decide +kernel
theorem dX0_aim_78 : decode cX0_aim 78 = .ok (.aload_n 1, 1) := by decide +kernel
theorem dX0_aim_79 : decode cX0_aim 79 = .ok (.aload_n 2, 1) := by decide +kernel
theorem dX0_aim_80 : decode cX0_aim 80 = .ok (.iload 5, 2) := by decide +kernel
theorem dX0_aim_82 : decode cX0_aim 82 = .ok (.invokevirtual 322, 3) := by decide +kernel
theorem dX0_aim_85 : decode cX0_aim 85 = .ok (.istore 6, 2) := by decide +kernel
theorem dX0_aim_87 : decode cX0_aim 87 = .ok (.aload_n 1, 1) := by decide +kernel
theorem dX0_aim_88 : decode cX0_aim 88 = .ok (.iload 5, 2) := by decide +kernel
theorem dX0_aim_90 : decode cX0_aim 90 = .ok (.putfield 326, 3) := by decide +kernel
theorem dX0_aim_93 : decode cX0_aim 93 = .ok (.aload_n 1, 1) := by decide +kernel
theorem dX0_aim_94 : decode cX0_aim 94 = .ok (.aload_n 0, 1) := by decide +kernel
theorem dX0_aim_95 : decode cX0_aim 95 = .ok (.getfield 49, 3) := by decide +kernel
theorem dX0_aim_98 : decode cX0_aim 98 = .ok (.getfield 329, 3) := by decide +kernel
theorem dX0_aim_101 : decode cX0_aim 101 = .ok (.iload_n 3, 1) := by decide +kernel
theorem dX0_aim_102 : decode cX0_aim 102 = .ok (.iaload, 1) := by decide +kernel
theorem dX0_aim_103 : decode cX0_aim 103 = .ok (.putfield 332, 3) := by decide +kernel
theorem dX0_aim_106 : decode cX0_aim 106 = .ok (.aload_n 1, 1) := by decide +kernel
theorem dX0_aim_107 : decode cX0_aim 107 = .ok (.iload 6, 2) := by decide +kernel
theorem dX0_aim_109 : decode cX0_aim 109 = .ok (.ifCond .eq 12, 3) := by decide +kernel
theorem dX0_aim_112 : decode cX0_aim 112 = .ok (.aload_n 1, 1) := by decide +kernel
theorem dX0_aim_113 : decode cX0_aim 113 = .ok (.getfield 335, 3) := by decide +kernel
theorem dX0_aim_116 : decode cX0_aim 116 = .ok (.iconst 2, 1) := by decide +kernel
theorem dX0_aim_117 : decode cX0_aim 117 = .ok (.idiv, 1) := by decide +kernel
theorem dX0_aim_118 : decode cX0_aim 118 = .ok (.goto 7, 3) := by decide +kernel
theorem dX0_aim_121 : decode cX0_aim 121 = .ok (.aload_n 1, 1) := by decide +kernel
theorem dX0_aim_122 : decode cX0_aim 122 = .ok (.getfield 335, 3) := by decide +kernel
theorem dX0_aim_125 : decode cX0_aim 125 = .ok (.putfield 338, 3) := by decide +kernel
theorem dX0_aim_128 : decode cX0_aim 128 = .ok (.aload_n 1, 1) := by decide +kernel
theorem dX0_aim_129 : decode cX0_aim 129 = .ok (.iload 6, 2) := by decide +kernel
theorem dX0_aim_131 : decode cX0_aim 131 = .ok (.ifCond .eq 7, 3) := by decide +kernel
theorem dX0_aim_134 : decode cX0_aim 134 = .ok (.iconst (-1), 1) := by decide +kernel
theorem dX0_aim_135 : decode cX0_aim 135 = .ok (.goto 9, 3) := by decide +kernel
theorem dX0_aim_138 : decode cX0_aim 138 = .ok (.aload_n 2, 1) := by decide +kernel
theorem dX0_aim_139 : decode cX0_aim 139 = .ok (.iload 5, 2) := by decide +kernel
theorem dX0_aim_141 : decode cX0_aim 141 = .ok (.invokevirtual 341, 3) := by decide +kernel
theorem dX0_aim_144 : decode cX0_aim 144 = .ok (.putfield 344, 3) := by decide +kernel
theorem dX0_aim_147 : decode cX0_aim 147 = .ok (.aload_n 0, 1) := by decide +kernel
theorem dX0_aim_148 : decode cX0_aim 148 = .ok (.getfield 49, 3) := by decide +kernel
theorem dX0_aim_151 : decode cX0_aim 151 = .ok (.getfield 100, 3) := by decide +kernel
theorem dX0_aim_154 : decode cX0_aim 154 = .ok (.getfield 347, 3) := by decide +kernel
theorem dX0_aim_157 : decode cX0_aim 157 = .ok (.aload_n 2, 1) := by decide +kernel
theorem dX0_aim_158 : decode cX0_aim 158 = .ok (.iload 5, 2) := by decide +kernel
theorem dX0_aim_160 : decode cX0_aim 160 = .ok (.invokevirtual 350, 3) := by decide +kernel
theorem dX0_aim_163 : decode cX0_aim 163 = .ok (.dup2, 1) := by decide +kernel
theorem dX0_aim_164 : decode cX0_aim 164 = .ok (.iaload, 1) := by decide +kernel
theorem dX0_aim_165 : decode cX0_aim 165 = .ok (.aload_n 1, 1) := by decide +kernel
theorem dX0_aim_166 : decode cX0_aim 166 = .ok (.getfield 338, 3) := by decide +kernel
theorem dX0_aim_169 : decode cX0_aim 169 = .ok (.iadd, 1) := by decide +kernel
theorem dX0_aim_170 : decode cX0_aim 170 = .ok (.iastore, 1) := by decide +kernel
theorem dX0_aim_171 : decode cX0_aim 171 = .ok (.return_, 1) := by decide +kernel
theorem okX0_aim : ab_okM MX0_aim 2 := ⟨by decide, ⟨by decide, by decide⟩, ab_in 1401 (by decide +kernel) (by decide +kernel), ab_in 92 (by decide +kernel) (by decide +kernel), by decide +kernel, by decide⟩
set_option maxHeartbeats 4000000 in
set_option maxRecDepth 100000 in
def wX0_aim_144 (v1 : Nat) (v2 : Nat) (v5 : Int32) (s0 : Nat) (s1 : Int32) (x : ab_X) (K : ab_X → Prop)  : Prop := wX4_place v2 v5 (wr x s0 13 s1) (fun r9 => (vp_in r9 288 ∧ vp_in r9 288 ∧ K (wr (wr x s0 13 s1) 14 (Int32.toNatClampNeg r9) (((wr x s0 13 s1).1 14 (Int32.toNatClampNeg r9)) + ((wr x s0 13 s1).1 v1 17)))))
set_option maxHeartbeats 4000000 in
set_option maxRecDepth 100000 in
theorem sX0_aim_144 (v1 : Nat) (v2 : Nat) (v5 : Int32) (s0 : Nat) (s1 : Int32) (hv1 : isW v1) (hv2 : isH v2) (hs0 : isW s0) (x : ab_X) (K : ab_X → Prop)  (d bc bs : Nat) (hdp : 4 ≤ d)  (h : wX0_aim_144 v1 v2 v5 s0 s1 x K ) : EW MX0_aim 144 [(0, .ref 66), (1, .ref v1), (2, .ref v2), (5, .int v5)] [.int s1, .ref s0] (aS x) d bc bs (liV K) := by
  unfold wX0_aim_144 at h
  refine AW_puti ⟨gfRX0_344, rfl, rfl⟩ (pc2 := 147) rfl dX0_aim_144 (isW.o hs0) ?_
  refine EW_aload_n (pc2 := 148) rfl dX0_aim_147 0 rfl ?_
  refine AW_getr (r := 9) ⟨gfRX0_49, rfl⟩ (pc2 := 151) rfl dX0_aim_148 q66 rfl ?_
  refine AW_getr (r := 11) ⟨gfRX0_100, rfl⟩ (pc2 := 154) rfl dX0_aim_151 q9 rfl ?_
  refine AW_getr (r := 14) ⟨gfRX0_347, rfl⟩ (pc2 := 157) rfl dX0_aim_154 q11 rfl ?_
  refine EW_aload_n (pc2 := 158) rfl dX0_aim_157 2 rfl ?_
  refine EW_iload (pc2 := 160) rfl dX0_aim_158 3 rfl ?_
  refine AW_invV (M' := MX4_place) [.int v5] (rest := [.ref 14]) mlRX0_350 okX4_place (pc2 := 163) rfl dX0_aim_160 rfl rfl (Nat.le_of_ble_eq_true rfl) (Nat.le_of_ble_eq_true rfl) (d' := 0) (by omega) (isH.o hv2) ⟨by decide, rfl⟩ (EW_mono (fun _ _ hr => ?_) (sX4_place v2 v5 hv2 (wr x s0 13 s1) _ _ 0 0 (Nat.le_refl _) h))
  obtain ⟨r9, rfl, rfl, h⟩ := hr
  refine EW_dup2 (pc2 := 164) rfl dX0_aim_163 rfl rfl ?_
  obtain ⟨b10, h⟩ := h
  refine AW_iald (pc2 := 165) rfl dX0_aim_164 q14 b10 ?_
  refine EW_aload_n (pc2 := 166) rfl dX0_aim_165 1 rfl ?_
  refine AW_geti ⟨gfRX0_338, rfl⟩ (pc2 := 169) rfl dX0_aim_166 (isW.o hv1) ?_
  refine EW_iadd (pc2 := 170) rfl dX0_aim_169 ?_
  obtain ⟨b11, h⟩ := h
  refine AW_iast (pc2 := 171) rfl dX0_aim_170 q14 b11 ?_
  exact EW_vret rfl dX0_aim_171 ⟨_, rfl, rfl, h⟩
set_option maxHeartbeats 4000000 in
set_option maxRecDepth 100000 in
def wX0_aim_125 (v1 : Nat) (v2 : Nat) (v5 : Int32) (v6 : Int32) (s0 : Nat) (s1 : Int32) (x : ab_X) (K : ab_X → Prop)  : Prop := ((v6 = 0 → wX4_floorOf v2 v5 (wr x s0 17 s1) (fun r8 => wX0_aim_144 v1 v2 v5 v1 r8 (wr x s0 17 s1) K)) ∧ (¬ v6 = 0 → wX0_aim_144 v1 v2 v5 v1 (-1) (wr x s0 17 s1) K))
set_option maxHeartbeats 4000000 in
set_option maxRecDepth 100000 in
theorem sX0_aim_125 (v1 : Nat) (v2 : Nat) (v5 : Int32) (v6 : Int32) (s0 : Nat) (s1 : Int32) (hv1 : isW v1) (hv2 : isH v2) (hs0 : isW s0) (x : ab_X) (K : ab_X → Prop)  (d bc bs : Nat) (hdp : 4 ≤ d)  (h : wX0_aim_125 v1 v2 v5 v6 s0 s1 x K ) : EW MX0_aim 125 [(0, .ref 66), (1, .ref v1), (2, .ref v2), (5, .int v5), (6, .int v6)] [.int s1, .ref s0] (aS x) d bc bs (liV K) := by
  unfold wX0_aim_125 at h
  refine AW_puti ⟨gfRX0_338, rfl, rfl⟩ (pc2 := 128) rfl dX0_aim_125 (isW.o hs0) ?_
  refine EW_aload_n (pc2 := 129) rfl dX0_aim_128 1 rfl ?_
  refine EW_iload (pc2 := 131) rfl dX0_aim_129 4 rfl ?_
  refine EW_if_eq (tgt := 138) (pc2 := 134) rfl dX0_aim_131 (by decide) (fun q => ?_) (fun q => ?_)
  · replace h := h.1 q
    refine EW_aload_n (pc2 := 139) rfl dX0_aim_138 2 rfl ?_
    refine EW_iload (pc2 := 141) rfl dX0_aim_139 3 rfl ?_
    refine AW_invV (M' := MX4_floorOf) [.int v5] (rest := [.ref v1]) mlRX0_341 okX4_floorOf (pc2 := 144) rfl dX0_aim_141 rfl rfl (Nat.le_of_ble_eq_true rfl) (Nat.le_of_ble_eq_true rfl) (d' := 0) (by omega) (isH.o hv2) ⟨by decide, rfl⟩ (EW_mono (fun _ _ hr => ?_) (sX4_floorOf v2 v5 hv2 (wr x s0 17 s1) _ _ 0 0 (Nat.le_refl _) h))
    obtain ⟨r8, rfl, rfl, h⟩ := hr
    refine EW_ls [0, 1, 2, 3] rfl ?_
    exact sX0_aim_144 v1 v2 v5 v1 r8 hv1 hv2 hv1 (wr x s0 17 s1) K d bc bs hdp h
  · replace h := h.2 q
    refine EW_iconst (pc2 := 135) (v := (-1)) rfl dX0_aim_134 (by decide) ?_
    refine EW_goto (tgt := 144) dX0_aim_135 (by decide) ?_
    refine EW_ls [0, 1, 2, 3] rfl ?_
    exact sX0_aim_144 v1 v2 v5 v1 (-1) hv1 hv2 hv1 (wr x s0 17 s1) K d bc bs hdp h
set_option maxHeartbeats 4000000 in
set_option maxRecDepth 100000 in
def wX0_aim_52 (v1 : Nat) (v2 : Nat) (v3 : Int32) (s0 : Int32) (x : ab_X) (K : ab_X → Prop)  : Prop := ((s0 = (-1) → K x) ∧ (¬ s0 = (-1) → ((((x.1 v1 14) + (x.1 v1 7)) ≤ (x.1 66 12) → wX0_isLeaving v1 v2 s0 x (fun r5 x6 => (vp_in v3 20 ∧ ((r5 = 0 → wX0_aim_125 v1 v2 s0 r5 v1 ((wr (wr x6 v1 19 s0) v1 18 ((wr x6 v1 19 s0).1 29 (Int32.toNatClampNeg v3))).1 v1 6) (wr (wr x6 v1 19 s0) v1 18 ((wr x6 v1 19 s0).1 29 (Int32.toNatClampNeg v3))) K) ∧ (¬ r5 = 0 → wX0_aim_125 v1 v2 s0 r5 v1 (((wr (wr x6 v1 19 s0) v1 18 ((wr x6 v1 19 s0).1 29 (Int32.toNatClampNeg v3))).1 v1 6) / 2) (wr (wr x6 v1 19 s0) v1 18 ((wr x6 v1 19 s0).1 29 (Int32.toNatClampNeg v3))) K))))) ∧ (¬ ((x.1 v1 14) + (x.1 v1 7)) ≤ (x.1 66 12) → K x))))
set_option maxHeartbeats 4000000 in
set_option maxRecDepth 100000 in
theorem sX0_aim_52 (v1 : Nat) (v2 : Nat) (v3 : Int32) (s0 : Int32) (hv1 : isW v1) (hv2 : isH v2) (x : ab_X) (K : ab_X → Prop)  (d bc bs : Nat) (hdp : 4 ≤ d)  (h : wX0_aim_52 v1 v2 v3 s0 x K ) : EW MX0_aim 52 [(0, .ref 66), (1, .ref v1), (2, .ref v2), (3, .int v3)] [.int s0] (aS x) d bc bs (liV K) := by
  unfold wX0_aim_52 at h
  refine EW_istore (pc2 := 54) rfl dX0_aim_52 (by decide) [1, 2, 3, 4, 0] [(0, .ref 66), (1, .ref v1), (2, .ref v2), (3, .int v3), (5, .int s0)] rfl ?_
  refine EW_iload (pc2 := 56) rfl dX0_aim_54 4 rfl ?_
  refine EW_iconst (pc2 := 57) (v := (-1)) rfl dX0_aim_56 (by decide) ?_
  refine EW_icmp_eq (tgt := 76) (pc2 := 60) rfl dX0_aim_57 (by decide) (fun q => ?_) (fun q => ?_)
  · replace h := h.1 q
    exact EW_vret rfl dX0_aim_76 ⟨_, rfl, rfl, h⟩
  · replace h := h.2 q
    refine EW_aload_n (pc2 := 61) rfl dX0_aim_60 0 rfl ?_
    refine AW_geti ⟨gfRX0_144, rfl⟩ (pc2 := 64) rfl dX0_aim_61 q66 ?_
    refine EW_aload_n (pc2 := 65) rfl dX0_aim_64 1 rfl ?_
    refine AW_geti ⟨gfRX0_318, rfl⟩ (pc2 := 68) rfl dX0_aim_65 (isW.o hv1) ?_
    refine EW_aload_n (pc2 := 69) rfl dX0_aim_68 1 rfl ?_
    refine AW_geti ⟨gfRX0_319, rfl⟩ (pc2 := 72) rfl dX0_aim_69 (isW.o hv1) ?_
    refine EW_iadd (pc2 := 73) rfl dX0_aim_72 ?_
    refine EW_icmp_ge (tgt := 77) (pc2 := 76) rfl dX0_aim_73 (by decide) (fun q => ?_) (fun q => ?_)
    · replace h := h.1 q
      refine EW_aload_n (pc2 := 78) rfl dX0_aim_77 0 rfl ?_
      refine EW_aload_n (pc2 := 79) rfl dX0_aim_78 1 rfl ?_
      refine EW_aload_n (pc2 := 80) rfl dX0_aim_79 2 rfl ?_
      refine EW_iload (pc2 := 82) rfl dX0_aim_80 4 rfl ?_
      refine AW_invV (M' := MX0_isLeaving) [.ref v1, .ref v2, .int s0] (rest := []) mlRX0_322 okX0_isLeaving (pc2 := 85) rfl dX0_aim_82 rfl rfl (Nat.le_of_ble_eq_true rfl) (Nat.le_of_ble_eq_true rfl) (d' := 3) (by omega) q66 ⟨by decide, rfl⟩ (EW_mono (fun _ _ hr => ?_) (sX0_isLeaving v1 v2 s0 hv1 hv2 x _ _ 0 0 (Nat.le_refl _) h))
      obtain ⟨r5, x6, rfl, rfl, h⟩ := hr
      refine EW_istore (pc2 := 87) rfl dX0_aim_85 (by decide) [1, 2, 3, 4, 5, 0] [(0, .ref 66), (1, .ref v1), (2, .ref v2), (3, .int v3), (5, .int s0), (6, .int r5)] rfl ?_
      refine EW_aload_n (pc2 := 88) rfl dX0_aim_87 1 rfl ?_
      refine EW_iload (pc2 := 90) rfl dX0_aim_88 4 rfl ?_
      refine AW_puti ⟨gfRX0_326, rfl, rfl⟩ (pc2 := 93) rfl dX0_aim_90 (isW.o hv1) ?_
      refine EW_aload_n (pc2 := 94) rfl dX0_aim_93 1 rfl ?_
      refine EW_aload_n (pc2 := 95) rfl dX0_aim_94 0 rfl ?_
      refine AW_getr (r := 9) ⟨gfRX0_49, rfl⟩ (pc2 := 98) rfl dX0_aim_95 q66 rfl ?_
      refine AW_getr (r := 29) ⟨gfRX0_329, rfl⟩ (pc2 := 101) rfl dX0_aim_98 q9 rfl ?_
      refine EW_iload_n (pc2 := 102) rfl dX0_aim_101 3 rfl ?_
      obtain ⟨b7, h⟩ := h
      refine AW_iald (pc2 := 103) rfl dX0_aim_102 q29 b7 ?_
      refine AW_puti ⟨gfRX0_332, rfl, rfl⟩ (pc2 := 106) rfl dX0_aim_103 (isW.o hv1) ?_
      refine EW_aload_n (pc2 := 107) rfl dX0_aim_106 1 rfl ?_
      refine EW_iload (pc2 := 109) rfl dX0_aim_107 5 rfl ?_
      refine EW_if_eq (tgt := 121) (pc2 := 112) rfl dX0_aim_109 (by decide) (fun q => ?_) (fun q => ?_)
      · replace h := h.1 q
        refine EW_aload_n (pc2 := 122) rfl dX0_aim_121 1 rfl ?_
        refine AW_geti ⟨gfRX0_335, rfl⟩ (pc2 := 125) rfl dX0_aim_122 (isW.o hv1) ?_
        refine EW_ls [0, 1, 2, 4, 5] rfl ?_
        exact sX0_aim_125 v1 v2 s0 r5 v1 ((wr (wr x6 v1 19 s0) v1 18 ((wr x6 v1 19 s0).1 29 (Int32.toNatClampNeg v3))).1 v1 6) hv1 hv2 hv1 (wr (wr x6 v1 19 s0) v1 18 ((wr x6 v1 19 s0).1 29 (Int32.toNatClampNeg v3))) K d bc bs hdp h
      · replace h := h.2 q
        refine EW_aload_n (pc2 := 113) rfl dX0_aim_112 1 rfl ?_
        refine AW_geti ⟨gfRX0_335, rfl⟩ (pc2 := 116) rfl dX0_aim_113 (isW.o hv1) ?_
        refine EW_iconst (pc2 := 117) (v := 2) rfl dX0_aim_116 (by decide) ?_
        refine EW_idiv (pc2 := 118) rfl dX0_aim_117 (by decide) ?_
        refine EW_goto (tgt := 125) dX0_aim_118 (by decide) ?_
        refine EW_ls [0, 1, 2, 4, 5] rfl ?_
        exact sX0_aim_125 v1 v2 s0 r5 v1 (((wr (wr x6 v1 19 s0) v1 18 ((wr x6 v1 19 s0).1 29 (Int32.toNatClampNeg v3))).1 v1 6) / 2) hv1 hv2 hv1 (wr (wr x6 v1 19 s0) v1 18 ((wr x6 v1 19 s0).1 29 (Int32.toNatClampNeg v3))) K d bc bs hdp h
    · replace h := h.2 q
      exact EW_vret rfl dX0_aim_76 ⟨_, rfl, rfl, h⟩
set_option maxHeartbeats 4000000 in
set_option maxRecDepth 100000 in
def wX0_aim (v1 : Nat) (v2 : Nat) (x : ab_X) (K : ab_X → Prop) : Prop := wX10_nearestHead (x.1 v2 1) x (fun r1 => wX10_topFloor v2 r1 (x.1 v1 5) x (fun r2 => ((¬ r2 = (-1) → wX0_isLed (x.1 v2 0) x (fun r3 => wX0_roomFor v2 r2 r3 x (fun r4 => wX0_aim_52 v1 v2 r1 r4 x K))) ∧ (r2 = (-1) → wX0_aim_52 v1 v2 r1 (-1) x K))))
set_option maxHeartbeats 4000000 in
set_option maxRecDepth 100000 in
theorem sX0_aim (v1 : Nat) (v2 : Nat) (hv1 : isW v1) (hv2 : isH v2) (x : ab_X) (K : ab_X → Prop) (d bc bs : Nat) (hdp : 4 ≤ d) (h : wX0_aim v1 v2 x K) : EW MX0_aim 0 [(0, .ref 66), (1, .ref v1), (2, .ref v2)] [] (aS x) d bc bs (liV K) := by
  unfold wX0_aim at h
  refine EW_aload_n (pc2 := 1) rfl dX0_aim_0 0 rfl ?_
  refine AW_getr (r := 9) ⟨gfRX0_49, rfl⟩ (pc2 := 4) rfl dX0_aim_1 q66 rfl ?_
  refine EW_aload_n (pc2 := 5) rfl dX0_aim_4 2 rfl ?_
  refine AW_geti ⟨gfRX0_152, rfl⟩ (pc2 := 8) rfl dX0_aim_5 (isH.o hv2) ?_
  refine AW_invV (M' := MX10_nearestHead) [.int (x.1 v2 1)] (rest := []) mlRX0_303 okX10_nearestHead (pc2 := 11) rfl dX0_aim_8 rfl rfl (Nat.le_of_ble_eq_true rfl) (Nat.le_of_ble_eq_true rfl) (d' := 2) (by omega) q9 ⟨by decide, rfl⟩ (EW_mono (fun _ _ hr => ?_) (sX10_nearestHead (x.1 v2 1)  x _ _ 0 0 (Nat.le_refl _) h))
  obtain ⟨r1, rfl, rfl, h⟩ := hr
  refine EW_istore_n (pc2 := 12) rfl dX0_aim_11 (by decide) [1, 2, 3, 0] [(0, .ref 66), (1, .ref v1), (2, .ref v2), (3, .int r1)] rfl ?_
  refine EW_aload_n (pc2 := 13) rfl dX0_aim_12 0 rfl ?_
  refine AW_getr (r := 9) ⟨gfRX0_49, rfl⟩ (pc2 := 16) rfl dX0_aim_13 q66 rfl ?_
  refine EW_aload_n (pc2 := 17) rfl dX0_aim_16 2 rfl ?_
  refine EW_iload_n (pc2 := 18) rfl dX0_aim_17 3 rfl ?_
  refine EW_aload_n (pc2 := 19) rfl dX0_aim_18 1 rfl ?_
  refine AW_geti ⟨gfRX0_287, rfl⟩ (pc2 := 22) rfl dX0_aim_19 (isW.o hv1) ?_
  refine AW_invV (M' := MX10_topFloor) [.ref v2, .int r1, .int (x.1 v1 5)] (rest := []) mlRX0_306 okX10_topFloor (pc2 := 25) rfl dX0_aim_22 rfl rfl (Nat.le_of_ble_eq_true rfl) (Nat.le_of_ble_eq_true rfl) (d' := 2) (by omega) q9 ⟨by decide, rfl⟩ (EW_mono (fun _ _ hr => ?_) (sX10_topFloor v2 r1 (x.1 v1 5) hv2 x _ _ 0 0 (Nat.le_refl _) h))
  obtain ⟨r2, rfl, rfl, h⟩ := hr
  refine EW_istore (pc2 := 27) rfl dX0_aim_25 (by decide) [1, 2, 3, 4, 0] [(0, .ref 66), (1, .ref v1), (2, .ref v2), (3, .int r1), (4, .int r2)] rfl ?_
  refine EW_iload (pc2 := 29) rfl dX0_aim_27 4 rfl ?_
  refine EW_iconst (pc2 := 30) (v := (-1)) rfl dX0_aim_29 (by decide) ?_
  refine EW_icmp_ne (tgt := 37) (pc2 := 33) rfl dX0_aim_30 (by decide) (fun q => ?_) (fun q => ?_)
  · replace h := h.1 q
    refine EW_aload_n (pc2 := 38) rfl dX0_aim_37 0 rfl ?_
    refine EW_aload_n (pc2 := 39) rfl dX0_aim_38 2 rfl ?_
    refine EW_iload (pc2 := 41) rfl dX0_aim_39 4 rfl ?_
    refine EW_aload_n (pc2 := 42) rfl dX0_aim_41 0 rfl ?_
    refine EW_aload_n (pc2 := 43) rfl dX0_aim_42 2 rfl ?_
    refine AW_geti ⟨gfRX0_310, rfl⟩ (pc2 := 46) rfl dX0_aim_43 (isH.o hv2) ?_
    refine AW_invV (M' := MX0_isLed) [.int (x.1 v2 0)] (rest := [.int r2, .ref v2, .ref 66]) mlRX0_311 okX0_isLed (pc2 := 49) rfl dX0_aim_46 rfl rfl (Nat.le_of_ble_eq_true rfl) (Nat.le_of_ble_eq_true rfl) (d' := 0) (by omega) q66 ⟨by decide, rfl⟩ (EW_mono (fun _ _ hr => ?_) (sX0_isLed (x.1 v2 0)  x _ _ 0 0 (Nat.le_refl _) h))
    obtain ⟨r3, rfl, rfl, h⟩ := hr
    refine AW_invV (M' := MX0_roomFor) [.ref v2, .int r2, .int r3] (rest := []) mlRX0_314 okX0_roomFor (pc2 := 52) rfl dX0_aim_49 rfl rfl (Nat.le_of_ble_eq_true rfl) (Nat.le_of_ble_eq_true rfl) (d' := 1) (by omega) q66 ⟨by decide, rfl⟩ (EW_mono (fun _ _ hr => ?_) (sX0_roomFor v2 r2 r3 hv2 x _ _ 0 0 (Nat.le_refl _) h))
    obtain ⟨r4, rfl, rfl, h⟩ := hr
    refine EW_ls [0, 1, 2, 3] rfl ?_
    exact sX0_aim_52 v1 v2 r1 r4 hv1 hv2 x K d bc bs hdp h
  · replace h := h.2 q
    refine EW_iconst (pc2 := 34) (v := (-1)) rfl dX0_aim_33 (by decide) ?_
    refine EW_goto (tgt := 52) dX0_aim_34 (by decide) ?_
    refine EW_ls [0, 1, 2, 3] rfl ?_
    exact sX0_aim_52 v1 v2 r1 (-1) hv1 hv2 x K d bc bs hdp h
theorem gfRX10_44 : ab_L RX10 44 10 2 := ⟨by decide, by decide, ab_in 313 (by decide +kernel) (by decide +kernel)⟩
theorem gfRX10_20 : ab_L RX10 20 10 3 := ⟨by decide, by decide, ab_in 317 (by decide +kernel) (by decide +kernel)⟩
theorem gfRX10_89 : ab_L RX10 89 3 7 := ⟨by decide, by decide, ab_in 190 (by decide +kernel) (by decide +kernel)⟩
theorem gfRX10_11 : ab_L RX10 11 10 1 := ⟨by decide, by decide, ab_in 308 (by decide +kernel) (by decide +kernel)⟩
theorem mlRX10_93 : Cond.methodLink RX10 93 yX3_burningRooms ∈ ab_G ∧ Cond.instanceMethod yX3_burningRooms ∈ ab_G ∧ Cond.selects RX3 yX3_burningRooms yX3_burningRooms ∈ ab_G := ⟨ab_in 883 (by decide +kernel) (by decide +kernel), ab_in 884 (by decide +kernel) (by decide +kernel), ab_in 885 (by decide +kernel) (by decide +kernel)⟩
abbrev MX10_worstAt : ab_M := (yX10_worstAt, cX10_worstAt, 6, (some .int))
theorem dX10_worstAt_0 : decode cX10_worstAt 0 = .ok (.iconst (-1), 1) := by decide +kernel
theorem dX10_worstAt_1 : decode cX10_worstAt 1 = .ok (.istore_n 2, 1) := by decide +kernel
theorem dX10_worstAt_2 : decode cX10_worstAt 2 = .ok (.iconst 0, 1) := by decide +kernel
theorem dX10_worstAt_3 : decode cX10_worstAt 3 = .ok (.istore_n 3, 1) := by decide +kernel
theorem dX10_worstAt_4 : decode cX10_worstAt 4 = .ok (.iconst 0, 1) := by decide +kernel
theorem dX10_worstAt_5 : decode cX10_worstAt 5 = .ok (.istore 4, 2) := by decide +kernel
theorem dX10_worstAt_7 : decode cX10_worstAt 7 = .ok (.iload 4, 2) := by decide +kernel
theorem dX10_worstAt_9 : decode cX10_worstAt 9 = .ok (.aload_n 0, 1) := by decide +kernel
theorem dX10_worstAt_10 : decode cX10_worstAt 10 = .ok (.getfield 44, 3) := by decide +kernel
theorem dX10_worstAt_13 : decode cX10_worstAt 13 = .ok (.if_icmp .ge 65, 3) := by decide +kernel
theorem dX10_worstAt_16 : decode cX10_worstAt 16 = .ok (.aload_n 0, 1) := by decide +kernel
theorem dX10_worstAt_17 : decode cX10_worstAt 17 = .ok (.getfield 20, 3) := by decide +kernel
theorem dX10_worstAt_20 : decode cX10_worstAt 20 = .ok (.getfield 89, 3) := by decide +kernel
theorem dX10_worstAt_23 : decode cX10_worstAt 23 = .ok (.ifCond .ne 55, 3) := by decide +kernel
theorem dX10_worstAt_26 : decode cX10_worstAt 26 = .ok (.aload_n 0, 1) := by decide +kernel
theorem dX10_worstAt_27 : decode cX10_worstAt 27 = .ok (.getfield 11, 3) := by decide +kernel
theorem dX10_worstAt_30 : decode cX10_worstAt 30 = .ok (.iload 4, 2) := by decide +kernel
theorem dX10_worstAt_32 : decode cX10_worstAt 32 = .ok (.aaload, 1) := by decide +kernel
theorem dX10_worstAt_33 : decode cX10_worstAt 33 = .ok (.getfield 62, 3) := by decide +kernel
theorem dX10_worstAt_36 : decode cX10_worstAt 36 = .ok (.iload_n 1, 1) := by decide +kernel
theorem dX10_worstAt_37 : decode cX10_worstAt 37 = .ok (.if_icmp .ne 20, 3) := by decide +kernel
theorem dX10_worstAt_40 : decode cX10_worstAt 40 = .ok (.aload_n 0, 1) := by decide +kernel
theorem dX10_worstAt_41 : decode cX10_worstAt 41 = .ok (.getfield 20, 3) := by decide +kernel
theorem dX10_worstAt_44 : decode cX10_worstAt 44 = .ok (.aload_n 0, 1) := by decide +kernel
theorem dX10_worstAt_45 : decode cX10_worstAt 45 = .ok (.getfield 11, 3) := by decide +kernel
theorem dX10_worstAt_48 : decode cX10_worstAt 48 = .ok (.iload 4, 2) := by decide +kernel
theorem dX10_worstAt_50 : decode cX10_worstAt 50 = .ok (.aaload, 1) := by decide +kernel
theorem dX10_worstAt_51 : decode cX10_worstAt 51 = .ok (.invokevirtual 93, 3) := by decide +kernel
theorem dX10_worstAt_54 : decode cX10_worstAt 54 = .ok (.goto 4, 3) := by decide +kernel
theorem dX10_worstAt_57 : decode cX10_worstAt 57 = .ok (.iconst 0, 1) := by decide +kernel
theorem dX10_worstAt_58 : decode cX10_worstAt 58 = .ok (.istore 5, 2) := by decide +kernel
theorem dX10_worstAt_60 : decode cX10_worstAt 60 = .ok (.iload 5, 2) := by decide +kernel
theorem dX10_worstAt_62 : decode cX10_worstAt 62 = .ok (.iload_n 3, 1) := by decide +kernel
theorem dX10_worstAt_63 : decode cX10_worstAt 63 = .ok (.if_icmp .le 9, 3) := by decide +kernel
theorem dX10_worstAt_66 : decode cX10_worstAt 66 = .ok (.iload 5, 2) := by decide +kernel
theorem dX10_worstAt_68 : decode cX10_worstAt 68 = .ok (.istore_n 3, 1) := by decide +kernel
theorem dX10_worstAt_69 : decode cX10_worstAt 69 = .ok (.iload 4, 2) := by decide +kernel
theorem dX10_worstAt_71 : decode cX10_worstAt 71 = .ok (.istore_n 2, 1) := by decide +kernel
theorem dX10_worstAt_72 : decode cX10_worstAt 72 = .ok (.iinc 4 1, 3) := by decide +kernel
theorem dX10_worstAt_75 : decode cX10_worstAt 75 = .ok (.goto (-68), 3) := by decide +kernel
theorem dX10_worstAt_78 : decode cX10_worstAt 78 = .ok (.iload_n 2, 1) := by decide +kernel
theorem dX10_worstAt_79 : decode cX10_worstAt 79 = .ok (.ireturn, 1) := by decide +kernel
theorem okX10_worstAt : ab_okM MX10_worstAt 1 := ⟨by decide, ⟨by decide, by decide⟩, ab_in 882 (by decide +kernel) (by decide +kernel), ab_in 89 (by decide +kernel) (by decide +kernel), by decide +kernel, by decide⟩
set_option maxHeartbeats 4000000 in
set_option maxRecDepth 100000 in
def wX10_worstAt_58 (v1 : Int32) (v2 : Int32) (v3 : Int32) (v4 : Int32) (s0 : Int32) (x : ab_X) (K : Int32 → Prop) (L7 : Int32 → Int32 → Int32 → Prop) : Prop := ((s0 ≤ v3 → L7 v2 v3 (v4 + 1)) ∧ (¬ s0 ≤ v3 → L7 v4 s0 (v4 + 1)))
set_option maxHeartbeats 4000000 in
set_option maxRecDepth 100000 in
theorem sX10_worstAt_58 (v1 : Int32) (v2 : Int32) (v3 : Int32) (v4 : Int32) (s0 : Int32)  (x : ab_X) (K : Int32 → Prop) (L7 : Int32 → Int32 → Int32 → Prop) (d bc bs : Nat) (hdp : 2 ≤ d) (hL7 : ∀ (v2 : Int32) (v3 : Int32) (v4 : Int32), L7 v2 v3 v4 → EW MX10_worstAt 7 [(0, .ref 9), (1, .int v1), (2, .int v2), (3, .int v3), (4, .int v4)] [] (aS x) d bc bs (liP x K)) (h : wX10_worstAt_58 v1 v2 v3 v4 s0 x K L7) : EW MX10_worstAt 58 [(0, .ref 9), (1, .int v1), (2, .int v2), (3, .int v3), (4, .int v4)] [.int s0] (aS x) d bc bs (liP x K) := by
  unfold wX10_worstAt_58 at h
  refine EW_istore (pc2 := 60) rfl dX10_worstAt_58 (by decide) [1, 2, 3, 4, 5, 0] [(0, .ref 9), (1, .int v1), (2, .int v2), (3, .int v3), (4, .int v4), (5, .int s0)] rfl ?_
  refine EW_iload (pc2 := 62) rfl dX10_worstAt_60 5 rfl ?_
  refine EW_iload_n (pc2 := 63) rfl dX10_worstAt_62 3 rfl ?_
  refine EW_icmp_le (tgt := 72) (pc2 := 66) rfl dX10_worstAt_63 (by decide) (fun q => ?_) (fun q => ?_)
  · replace h := h.1 q
    refine EW_iinc (v4 + 1) (pc2 := 75) rfl dX10_worstAt_72 4 rfl rfl (by decide) [1, 2, 3, 4, 0, 5] [(0, .ref 9), (1, .int v1), (2, .int v2), (3, .int v3), (4, .int (v4 + 1)), (5, .int s0)] rfl ?_
    refine EW_goto (tgt := 7) dX10_worstAt_75 (by decide) ?_
    refine EW_ls [0, 1, 2, 3, 4] rfl ?_
    exact hL7 v2 v3 (v4 + 1) h
  · replace h := h.2 q
    refine EW_iload (pc2 := 68) rfl dX10_worstAt_66 5 rfl ?_
    refine EW_istore_n (pc2 := 69) rfl dX10_worstAt_68 (by decide) [1, 2, 3, 0, 4, 5] [(0, .ref 9), (1, .int v1), (2, .int v2), (3, .int s0), (4, .int v4), (5, .int s0)] rfl ?_
    refine EW_iload (pc2 := 71) rfl dX10_worstAt_69 4 rfl ?_
    refine EW_istore_n (pc2 := 72) rfl dX10_worstAt_71 (by decide) [1, 2, 0, 3, 4, 5] [(0, .ref 9), (1, .int v1), (2, .int v4), (3, .int s0), (4, .int v4), (5, .int s0)] rfl ?_
    refine EW_iinc (v4 + 1) (pc2 := 75) rfl dX10_worstAt_72 4 rfl rfl (by decide) [1, 2, 3, 4, 0, 5] [(0, .ref 9), (1, .int v1), (2, .int v4), (3, .int s0), (4, .int (v4 + 1)), (5, .int s0)] rfl ?_
    refine EW_goto (tgt := 7) dX10_worstAt_75 (by decide) ?_
    refine EW_ls [0, 1, 2, 3, 4] rfl ?_
    exact hL7 v4 s0 (v4 + 1) h
set_option maxHeartbeats 4000000 in
set_option maxRecDepth 100000 in
def lX10_worstAt_7 (v1 : Int32) (x : ab_X) (K : Int32 → Prop)  (L7 : Int32 → Int32 → Int32 → Prop) (v2 : Int32) (v3 : Int32) (v4 : Int32) : Prop := (((x.1 9 2) ≤ v4 → K v2) ∧ (¬ (x.1 9 2) ≤ v4 → ((¬ (x.1 11 7) = 0 → K v2) ∧ ((x.1 11 7) = 0 → (vp_in v4 12 ∧ ((¬ (x.1 (30 + 3 * Int32.toNatClampNeg v4) 1) = v1 → wX10_worstAt_58 v1 v2 v3 v4 0 x K L7) ∧ ((x.1 (30 + 3 * Int32.toNatClampNeg v4) 1) = v1 → (vp_in v4 12 ∧ wX3_burningRooms 11 (30 + 3 * Int32.toNatClampNeg v4) x (fun r3 => wX10_worstAt_58 v1 v2 v3 v4 r3 x K L7)))))))))
set_option maxHeartbeats 4000000 in
set_option maxRecDepth 100000 in
theorem sX10_worstAt_7 (v1 : Int32) (v2 : Int32) (v3 : Int32) (v4 : Int32)  (x : ab_X) (K : Int32 → Prop)  (d bc bs : Nat) (hdp : 2 ≤ d)  (h : Lp3 (lX10_worstAt_7 v1 x K ) v2 v3 v4) : EW MX10_worstAt 7 [(0, .ref 9), (1, .int v1), (2, .int v2), (3, .int v3), (4, .int v4)] [] (aS x) d bc bs (liP x K) := by
  refine Lp3.use (P := fun v2 v3 v4 => EW MX10_worstAt 7 [(0, .ref 9), (1, .int v1), (2, .int v2), (3, .int v3), (4, .int v4)] [] (aS x) d bc bs (liP x K)) (fun L7 v2 v3 v4 hL7 h => ?_) v2 v3 v4 h
  unfold lX10_worstAt_7 at h
  refine EW_iload (pc2 := 9) rfl dX10_worstAt_7 4 rfl ?_
  refine EW_aload_n (pc2 := 10) rfl dX10_worstAt_9 0 rfl ?_
  refine AW_geti ⟨gfRX10_44, rfl⟩ (pc2 := 13) rfl dX10_worstAt_10 q9 ?_
  refine EW_icmp_ge (tgt := 78) (pc2 := 16) rfl dX10_worstAt_13 (by decide) (fun q => ?_) (fun q => ?_)
  · replace h := h.1 q
    refine EW_iload_n (pc2 := 79) rfl dX10_worstAt_78 2 rfl ?_
    exact AW_iret rfl dX10_worstAt_79 ⟨_, rfl, rfl, h⟩
  · replace h := h.2 q
    refine EW_aload_n (pc2 := 17) rfl dX10_worstAt_16 0 rfl ?_
    refine AW_getr (r := 11) ⟨gfRX10_20, rfl⟩ (pc2 := 20) rfl dX10_worstAt_17 q9 rfl ?_
    refine AW_geti ⟨gfRX10_89, rfl⟩ (pc2 := 23) rfl dX10_worstAt_20 q11 ?_
    refine EW_if_ne (tgt := 78) (pc2 := 26) rfl dX10_worstAt_23 (by decide) (fun q => ?_) (fun q => ?_)
    · replace h := h.1 q
      refine EW_iload_n (pc2 := 79) rfl dX10_worstAt_78 2 rfl ?_
      exact AW_iret rfl dX10_worstAt_79 ⟨_, rfl, rfl, h⟩
    · replace h := h.2 q
      refine EW_aload_n (pc2 := 27) rfl dX10_worstAt_26 0 rfl ?_
      refine AW_getr (r := 10) ⟨gfRX10_11, rfl⟩ (pc2 := 30) rfl dX10_worstAt_27 q9 rfl ?_
      refine EW_iload (pc2 := 32) rfl dX10_worstAt_30 4 rfl ?_
      obtain ⟨b1, h⟩ := h
      refine AW_aald5 (pc2 := 33) rfl dX10_worstAt_32 b1 ?_
      refine AW_geti ⟨gfRX10_62, rfl⟩ (pc2 := 36) rfl dX10_worstAt_33 (isH.o (isH_of b1)) ?_
      refine EW_iload_n (pc2 := 37) rfl dX10_worstAt_36 1 rfl ?_
      refine EW_icmp_ne (tgt := 57) (pc2 := 40) rfl dX10_worstAt_37 (by decide) (fun q => ?_) (fun q => ?_)
      · replace h := h.1 q
        refine EW_iconst (pc2 := 58) (v := 0) rfl dX10_worstAt_57 (by decide) ?_
        exact sX10_worstAt_58 v1 v2 v3 v4 0 x K L7 d bc bs hdp hL7 h
      · replace h := h.2 q
        refine EW_aload_n (pc2 := 41) rfl dX10_worstAt_40 0 rfl ?_
        refine AW_getr (r := 11) ⟨gfRX10_20, rfl⟩ (pc2 := 44) rfl dX10_worstAt_41 q9 rfl ?_
        refine EW_aload_n (pc2 := 45) rfl dX10_worstAt_44 0 rfl ?_
        refine AW_getr (r := 10) ⟨gfRX10_11, rfl⟩ (pc2 := 48) rfl dX10_worstAt_45 q9 rfl ?_
        refine EW_iload (pc2 := 50) rfl dX10_worstAt_48 4 rfl ?_
        obtain ⟨b2, h⟩ := h
        refine AW_aald5 (pc2 := 51) rfl dX10_worstAt_50 b2 ?_
        refine AW_invV (M' := MX3_burningRooms) [.ref (30 + 3 * Int32.toNatClampNeg v4)] (rest := []) mlRX10_93 okX3_burningRooms (pc2 := 54) rfl dX10_worstAt_51 rfl rfl (Nat.le_of_ble_eq_true rfl) (Nat.le_of_ble_eq_true rfl) (d' := 1) (by omega) q11 ⟨by decide, rfl⟩ (EW_mono (fun _ _ hr => ?_) (sX3_burningRooms 11 (30 + 3 * Int32.toNatClampNeg v4) (Or.inl rfl : isF 11) (isH_of b2) x _ _ 0 0 (Nat.le_refl _) h))
        obtain ⟨r3, rfl, rfl, h⟩ := hr
        refine EW_goto (tgt := 58) dX10_worstAt_54 (by decide) ?_
        exact sX10_worstAt_58 v1 v2 v3 v4 r3 x K L7 d bc bs hdp hL7 h
set_option maxHeartbeats 4000000 in
set_option maxRecDepth 100000 in
def wX10_worstAt (v1 : Int32) (x : ab_X) (K : Int32 → Prop) : Prop := Lp3 (lX10_worstAt_7 v1 x K ) (-1) 0 0
set_option maxHeartbeats 4000000 in
set_option maxRecDepth 100000 in
theorem sX10_worstAt (v1 : Int32)  (x : ab_X) (K : Int32 → Prop) (d bc bs : Nat) (hdp : 2 ≤ d) (h : wX10_worstAt v1 x K) : EW MX10_worstAt 0 [(0, .ref 9), (1, .int v1)] [] (aS x) d bc bs (liP x K) := by
  unfold wX10_worstAt at h
  refine EW_iconst (pc2 := 1) (v := (-1)) rfl dX10_worstAt_0 (by decide) ?_
  refine EW_istore_n (pc2 := 2) rfl dX10_worstAt_1 (by decide) [1, 2, 0] [(0, .ref 9), (1, .int v1), (2, .int (-1))] rfl ?_
  refine EW_iconst (pc2 := 3) (v := 0) rfl dX10_worstAt_2 (by decide) ?_
  refine EW_istore_n (pc2 := 4) rfl dX10_worstAt_3 (by decide) [1, 2, 3, 0] [(0, .ref 9), (1, .int v1), (2, .int (-1)), (3, .int 0)] rfl ?_
  refine EW_iconst (pc2 := 5) (v := 0) rfl dX10_worstAt_4 (by decide) ?_
  refine EW_istore (pc2 := 7) rfl dX10_worstAt_5 (by decide) [1, 2, 3, 4, 0] [(0, .ref 9), (1, .int v1), (2, .int (-1)), (3, .int 0), (4, .int 0)] rfl ?_
  exact sX10_worstAt_7 v1 (-1) 0 0 x K d bc bs hdp h
