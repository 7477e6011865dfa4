abbrev MX11_loss : ab_M := (yX11_loss, cX11_loss, 5, (some .double))
theorem dX11_loss_0 : decode cX11_loss 0 = .ok (.aload_n 0, 1) := by decide +kernel
theorem dX11_loss_1 : decode cX11_loss 1 = .ok (.iload_n 1, 1) := by decide +kernel
theorem dX11_loss_2 : decode cX11_loss 2 = .ok (.iload_n 2, 1) := by decide +kernel
theorem dX11_loss_3 : decode cX11_loss 3 = .ok (.iload_n 3, 1) := by decide +kernel
theorem dX11_loss_4 : decode cX11_loss 4 = .ok (.invokevirtual 480, 3) := by decide +kernel
theorem dX11_loss_7 : decode cX11_loss 7 = .ok (.ifCond .eq 20, 3) := by decide +kernel
theorem dX11_loss_10 : decode cX11_loss 10 = .ok (.iload 4, 2) := by decide +kernel
theorem dX11_loss_12 : decode cX11_loss 12 = .ok (.invokestatic 70, 3) := by decide +kernel
theorem dX11_loss_15 : decode cX11_loss 15 = .ok (.ifCond .eq 12, 3) := by decide +kernel
theorem dX11_loss_18 : decode cX11_loss 18 = .ok (.iload_n 2, 1) := by decide +kernel
theorem dX11_loss_19 : decode cX11_loss 19 = .ok (.iload 4, 2) := by decide +kernel
theorem dX11_loss_21 : decode cX11_loss 21 = .ok (.ishr, 1) := by decide +kernel
theorem dX11_loss_22 : decode cX11_loss 22 = .ok (.iconst 1, 1) := by decide +kernel
theorem dX11_loss_23 : decode cX11_loss 23 = .ok (.iand, 1) := by decide +kernel
theorem dX11_loss_24 : decode cX11_loss 24 = .ok (.ifCond .ne 7, 3) := by decide +kernel
theorem dX11_loss_27 : decode cX11_loss 27 = .ok (.ldc2_w 489, 3) := by decide +kernel
theorem dX11_loss_30 : decode cX11_loss 30 = .ok (.dreturn, 1) := by decide +kernel
theorem dX11_loss_31 : decode cX11_loss 31 = .ok (.aload_n 0, 1) := by decide +kernel
theorem dX11_loss_32 : decode cX11_loss 32 = .ok (.iload_n 1, 1) := by decide +kernel
theorem dX11_loss_33 : decode cX11_loss 33 = .ok (.iload_n 2, 1) := by decide +kernel
theorem dX11_loss_34 : decode cX11_loss 34 = .ok (.iload_n 3, 1) := by decide +kernel
theorem dX11_loss_35 : decode cX11_loss 35 = .ok (.invokevirtual 483, 3) := by decide +kernel
theorem dX11_loss_38 : decode cX11_loss 38 = .ok (.aload_n 0, 1) := by decide +kernel
theorem dX11_loss_39 : decode cX11_loss 39 = .ok (.iload_n 1, 1) := by decide +kernel
theorem dX11_loss_40 : decode cX11_loss 40 = .ok (.iload_n 2, 1) := by decide +kernel
theorem dX11_loss_41 : decode cX11_loss 41 = .ok (.iconst 1, 1) := by decide +kernel
theorem dX11_loss_42 : decode cX11_loss 42 = .ok (.iload 4, 2) := by decide +kernel
theorem dX11_loss_44 : decode cX11_loss 44 = .ok (.ishl, 1) := by decide +kernel
theorem dX11_loss_45 : decode cX11_loss 45 = .ok (.iconst (-1), 1) := by decide +kernel
theorem dX11_loss_46 : decode cX11_loss 46 = .ok (.ixor, 1) := by decide +kernel
theorem dX11_loss_47 : decode cX11_loss 47 = .ok (.iand, 1) := by decide +kernel
theorem dX11_loss_48 : decode cX11_loss 48 = .ok (.iload_n 3, 1) := by decide +kernel
theorem dX11_loss_49 : decode cX11_loss 49 = .ok (.invokevirtual 483, 3) := by decide +kernel
theorem dX11_loss_52 : decode cX11_loss 52 = .ok (.dsub, 1) := by decide +kernel
theorem dX11_loss_53 : decode cX11_loss 53 = .ok (.dreturn, 1) := by decide +kernel
theorem okX11_loss : ab_okM MX11_loss 4 := ⟨by decide, ⟨by decide, by decide⟩, ab_in 1734 (by decide +kernel) (by decide +kernel), ab_in 86 (by decide +kernel) (by decide +kernel), by decide +kernel, by decide⟩
set_option maxHeartbeats 4000000 in
set_option maxRecDepth 100000 in
theorem sX11_loss (v1 : Int32) (v2 : Int32) (v3 : Int32) (v4 : Int32)  (x : ab_X) (K : UInt64 → ab_X → Prop) (d bc bs : Nat) (hdp : 4 ≤ d) (h : wX11_loss v1 v2 v3 v4 x K) : EW MX11_loss 0 [(0, .ref 0), (1, .int v1), (2, .int v2), (3, .int v3), (4, .int v4)] [] (aS x) d bc bs (liDI K) := by
  unfold wX11_loss at h
  refine EW_aload_n (pc2 := 1) rfl dX11_loss_0 0 rfl ?_
  refine EW_iload_n (pc2 := 2) rfl dX11_loss_1 1 rfl ?_
  refine EW_iload_n (pc2 := 3) rfl dX11_loss_2 2 rfl ?_
  refine EW_iload_n (pc2 := 4) rfl dX11_loss_3 3 rfl ?_
  refine AW_invV (M' := MX11_canJudge) [.int v1, .int v2, .int v3] (rest := []) mlRX11_480 okX11_canJudge (pc2 := 7) rfl dX11_loss_4 rfl rfl (Nat.le_of_ble_eq_true rfl) (Nat.le_of_ble_eq_true rfl) (d' := 2) (by omega) q0 ⟨by decide, rfl⟩ (EW_mono (fun _ _ hr => ?_) (sX11_canJudge v1 v2 v3  x _ _ 0 0 (Nat.le_refl _) h))
  obtain ⟨r1, rfl, rfl, h⟩ := hr
  refine EW_if_eq (tgt := 27) (pc2 := 10) rfl dX11_loss_7 (by decide) (fun q => ?_) (fun q => ?_)
  · replace h := h.1 q
    refine EW_ldc2d cnRX11_489 (pc2 := 30) rfl dX11_loss_27 ?_
    exact EW_dret rfl dX11_loss_30 ⟨_, _, rfl, rfl, h⟩
  · replace h := h.2 q
    refine EW_iload (pc2 := 12) rfl dX11_loss_10 4 rfl ?_
    refine AW_invS (M' := MX11_isCorner) [.int v4] (rest := []) mlRX11_70 okX11_isCorner (pc2 := 15) rfl dX11_loss_12 rfl rfl (Nat.le_of_ble_eq_true rfl) (Nat.le_of_ble_eq_true rfl) (d' := 0) (by omega) (EW_mono (fun _ _ hr => ?_) (sX11_isCorner v4  x _ _ 0 0 (Nat.le_refl _) h))
    obtain ⟨r2, rfl, rfl, h⟩ := hr
    refine EW_if_eq (tgt := 27) (pc2 := 18) rfl dX11_loss_15 (by decide) (fun q => ?_) (fun q => ?_)
    · replace h := h.1 q
      refine EW_ldc2d cnRX11_489 (pc2 := 30) rfl dX11_loss_27 ?_
      exact EW_dret rfl dX11_loss_30 ⟨_, _, rfl, rfl, h⟩
    · replace h := h.2 q
      refine EW_iload_n (pc2 := 19) rfl dX11_loss_18 2 rfl ?_
      refine EW_iload (pc2 := 21) rfl dX11_loss_19 4 rfl ?_
      refine EW_ishr (pc2 := 22) rfl dX11_loss_21 ?_
      refine EW_iconst (pc2 := 23) (v := 1) rfl dX11_loss_22 (by decide) ?_
      refine EW_iand (pc2 := 24) rfl dX11_loss_23 ?_
      refine EW_if_ne (tgt := 31) (pc2 := 27) rfl dX11_loss_24 (by decide) (fun q => ?_) (fun q => ?_)
      · replace h := h.1 q
        refine EW_aload_n (pc2 := 32) rfl dX11_loss_31 0 rfl ?_
        refine EW_iload_n (pc2 := 33) rfl dX11_loss_32 1 rfl ?_
        refine EW_iload_n (pc2 := 34) rfl dX11_loss_33 2 rfl ?_
        refine EW_iload_n (pc2 := 35) rfl dX11_loss_34 3 rfl ?_
        refine AW_invV (M' := MX11_judgement) [.int v1, .int v2, .int v3] (rest := []) mlRX11_483 okX11_judgement (pc2 := 38) rfl dX11_loss_35 rfl rfl (Nat.le_of_ble_eq_true rfl) (Nat.le_of_ble_eq_true rfl) (d' := 3) (by omega) q0 ⟨by decide, rfl⟩ (EW_mono (fun _ _ hr => ?_) (sX11_judgement v1 v2 v3  x _ _ 0 0 (Nat.le_refl _) h))
        obtain ⟨r3, x4, rfl, rfl, h⟩ := hr
        refine EW_aload_n (pc2 := 39) rfl dX11_loss_38 0 rfl ?_
        refine EW_iload_n (pc2 := 40) rfl dX11_loss_39 1 rfl ?_
        refine EW_iload_n (pc2 := 41) rfl dX11_loss_40 2 rfl ?_
        refine EW_iconst (pc2 := 42) (v := 1) rfl dX11_loss_41 (by decide) ?_
        refine EW_iload (pc2 := 44) rfl dX11_loss_42 4 rfl ?_
        refine EW_ishl (pc2 := 45) rfl dX11_loss_44 ?_
        refine EW_iconst (pc2 := 46) (v := (-1)) rfl dX11_loss_45 (by decide) ?_
        refine EW_ixor (pc2 := 47) rfl dX11_loss_46 ?_
        refine EW_iand (pc2 := 48) rfl dX11_loss_47 ?_
        refine EW_iload_n (pc2 := 49) rfl dX11_loss_48 3 rfl ?_
        refine AW_invV (M' := MX11_judgement) [.int v1, .int (v2 &&& ((1 <<< (v4 &&& 31)) ^^^ (-1))), .int v3] (rest := [.double r3]) mlRX11_483 okX11_judgement (pc2 := 52) rfl dX11_loss_49 rfl rfl (Nat.le_of_ble_eq_true rfl) (Nat.le_of_ble_eq_true rfl) (d' := 3) (by omega) q0 ⟨by decide, rfl⟩ (EW_mono (fun _ _ hr => ?_) (sX11_judgement v1 (v2 &&& ((1 <<< (v4 &&& 31)) ^^^ (-1))) v3  x4 _ _ 0 0 (Nat.le_refl _) h))
        obtain ⟨r5, x6, rfl, rfl, h⟩ := hr
        refine EW_dsub_any (pc2 := 53) rfl dX11_loss_52 (fun r7 qr7 => ?_)
        replace h := h r7 qr7
        exact EW_dret rfl dX11_loss_53 ⟨_, _, rfl, rfl, h⟩
      · replace h := h.2 q
        refine EW_ldc2d cnRX11_489 (pc2 := 30) rfl dX11_loss_27 ?_
        exact EW_dret rfl dX11_loss_30 ⟨_, _, rfl, rfl, h⟩
theorem mlRX11_228 : Cond.methodLink RX11 228 yX10_addMain ∈ ab_G ∧ Cond.instanceMethod yX10_addMain ∈ ab_G ∧ Cond.selects RX10 yX10_addMain yX10_addMain ∈ ab_G := ⟨ab_in 947 (by decide +kernel) (by decide +kernel), ab_in 948 (by decide +kernel) (by decide +kernel), ab_in 949 (by decide +kernel) (by decide +kernel)⟩
abbrev MX11_main : ab_M := (yX11_main, cX11_main, 2, (some .int))
theorem dX11_main_0 : decode cX11_main 0 = .ok (.iload_n 1, 1) := by decide +kernel
theorem dX11_main_1 : decode cX11_main 1 = .ok (.bipush 10, 2) := by decide +kernel
theorem dX11_main_3 : decode cX11_main 3 = .ok (.sipush 2000, 3) := by decide +kernel
theorem dX11_main_6 : decode cX11_main 6 = .ok (.invokestatic 74, 3) := by decide +kernel
theorem dX11_main_9 : decode cX11_main 9 = .ok (.ifCond .eq 14, 3) := by decide +kernel
theorem dX11_main_12 : decode cX11_main 12 = .ok (.aload_n 0, 1) := by decide +kernel
theorem dX11_main_13 : decode cX11_main 13 = .ok (.getfield 21, 3) := by decide +kernel
theorem dX11_main_16 : decode cX11_main 16 = .ok (.iload_n 1, 1) := by decide +kernel
theorem dX11_main_17 : decode cX11_main 17 = .ok (.invokevirtual 228, 3) := by decide +kernel
theorem dX11_main_20 : decode cX11_main 20 = .ok (.goto 4, 3) := by decide +kernel
theorem dX11_main_23 : decode cX11_main 23 = .ok (.iconst (-1), 1) := by decide +kernel
theorem dX11_main_24 : decode cX11_main 24 = .ok (.ireturn, 1) := by decide +kernel
theorem okX11_main : ab_okM MX11_main 1 := ⟨by decide, ⟨by decide, by decide⟩, ab_in 946 (by decide +kernel) (by decide +kernel), ab_in 86 (by decide +kernel) (by decide +kernel), by decide +kernel, by decide⟩
set_option maxHeartbeats 4000000 in
set_option maxRecDepth 100000 in
theorem sX11_main (v1 : Int32)  (x : ab_X) (K : Int32 → ab_X → Prop) (d bc bs : Nat) (hdp : 1 ≤ d) (h : wX11_main v1 x K) : EW MX11_main 0 [(0, .ref 0), (1, .int v1)] [] (aS x) d bc bs (liI K) := by
  unfold wX11_main at h
  refine EW_iload_n (pc2 := 1) rfl dX11_main_0 1 rfl ?_
  refine EW_bipush (pc2 := 3) (v := 10) rfl dX11_main_1 (by decide) ?_
  refine EW_sipush (pc2 := 6) (v := 2000) rfl dX11_main_3 (by decide) ?_
  refine AW_invS (M' := MX11_within) [.int v1, .int 10, .int 2000] (rest := []) mlRX11_74 okX11_within (pc2 := 9) rfl dX11_main_6 rfl rfl (Nat.le_of_ble_eq_true rfl) (Nat.le_of_ble_eq_true rfl) (d' := 0) (by omega) (EW_mono (fun _ _ hr => ?_) (sX11_within v1 10 2000  x _ _ 0 0 (Nat.le_refl _) h))
  obtain ⟨r1, rfl, rfl, h⟩ := hr
  refine EW_if_eq (tgt := 23) (pc2 := 12) rfl dX11_main_9 (by decide) (fun q => ?_) (fun q => ?_)
  · replace h := h.1 q
    refine EW_iconst (pc2 := 24) (v := (-1)) rfl dX11_main_23 (by decide) ?_
    exact AW_iret rfl dX11_main_24 ⟨_, _, rfl, rfl, h⟩
  · replace h := h.2 q
    refine EW_aload_n (pc2 := 13) rfl dX11_main_12 0 rfl ?_
    refine AW_getr (r := 9) ⟨gfRX11_21, rfl⟩ (pc2 := 16) rfl dX11_main_13 q0 rfl ?_
    refine EW_iload_n (pc2 := 17) rfl dX11_main_16 1 rfl ?_
    refine AW_invV (M' := MX10_addMain) [.int v1] (rest := []) mlRX11_228 okX10_addMain (pc2 := 20) rfl dX11_main_17 rfl rfl (Nat.le_of_ble_eq_true rfl) (Nat.le_of_ble_eq_true rfl) (d' := 0) (by omega) q9 ⟨by decide, rfl⟩ (EW_mono (fun _ _ hr => ?_) (sX10_addMain v1  x _ _ 0 0 (Nat.le_refl _) h))
    obtain ⟨r2, x3, rfl, rfl, h⟩ := hr
    refine EW_goto (tgt := 24) dX11_main_20 (by decide) ?_
    exact AW_iret rfl dX11_main_24 ⟨_, _, rfl, rfl, h⟩
abbrev MX11_orders : ab_M := (yX11_orders, cX11_orders, 1, (some .int))
theorem dX11_orders_0 : decode cX11_orders 0 = .ok (.aload_n 0, 1) := by decide +kernel
theorem dX11_orders_1 : decode cX11_orders 1 = .ok (.getfield 30, 3) := by decide +kernel
theorem dX11_orders_4 : decode cX11_orders 4 = .ok (.getfield 374, 3) := by decide +kernel
theorem dX11_orders_7 : decode cX11_orders 7 = .ok (.bipush 20, 2) := by decide +kernel
theorem dX11_orders_9 : decode cX11_orders 9 = .ok (.if_icmp .ge 14, 3) := by decide +kernel
theorem dX11_orders_12 : decode cX11_orders 12 = .ok (.aload_n 0, 1) := by decide +kernel
theorem dX11_orders_13 : decode cX11_orders 13 = .ok (.getfield 37, 3) := by decide +kernel
theorem dX11_orders_16 : decode cX11_orders 16 = .ok (.iconst 0, 1) := by decide +kernel
theorem dX11_orders_17 : decode cX11_orders 17 = .ok (.invokevirtual 368, 3) := by decide +kernel
theorem dX11_orders_20 : decode cX11_orders 20 = .ok (.ifCond .ne 5, 3) := by decide +kernel
theorem dX11_orders_23 : decode cX11_orders 23 = .ok (.iconst (-1), 1) := by decide +kernel
theorem dX11_orders_24 : decode cX11_orders 24 = .ok (.ireturn, 1) := by decide +kernel
theorem dX11_orders_25 : decode cX11_orders 25 = .ok (.aload_n 0, 1) := by decide +kernel
theorem dX11_orders_26 : decode cX11_orders 26 = .ok (.getfield 37, 3) := by decide +kernel
theorem dX11_orders_29 : decode cX11_orders 29 = .ok (.aload_n 0, 1) := by decide +kernel
theorem dX11_orders_30 : decode cX11_orders 30 = .ok (.getfield 30, 3) := by decide +kernel
theorem dX11_orders_33 : decode cX11_orders 33 = .ok (.getfield 377, 3) := by decide +kernel
theorem dX11_orders_36 : decode cX11_orders 36 = .ok (.invokevirtual 381, 3) := by decide +kernel
theorem dX11_orders_39 : decode cX11_orders 39 = .ok (.aload_n 0, 1) := by decide +kernel
theorem dX11_orders_40 : decode cX11_orders 40 = .ok (.getfield 30, 3) := by decide +kernel
theorem dX11_orders_43 : decode cX11_orders 43 = .ok (.dup, 1) := by decide +kernel
theorem dX11_orders_44 : decode cX11_orders 44 = .ok (.getfield 374, 3) := by decide +kernel
theorem dX11_orders_47 : decode cX11_orders 47 = .ok (.iconst 1, 1) := by decide +kernel
theorem dX11_orders_48 : decode cX11_orders 48 = .ok (.iadd, 1) := by decide +kernel
theorem dX11_orders_49 : decode cX11_orders 49 = .ok (.putfield 374, 3) := by decide +kernel
theorem dX11_orders_52 : decode cX11_orders 52 = .ok (.aload_n 0, 1) := by decide +kernel
theorem dX11_orders_53 : decode cX11_orders 53 = .ok (.getfield 30, 3) := by decide +kernel
theorem dX11_orders_56 : decode cX11_orders 56 = .ok (.getfield 374, 3) := by decide +kernel
theorem dX11_orders_59 : decode cX11_orders 59 = .ok (.iconst 1, 1) := by decide +kernel
theorem dX11_orders_60 : decode cX11_orders 60 = .ok (.isub, 1) := by decide +kernel
theorem dX11_orders_61 : decode cX11_orders 61 = .ok (.ireturn, 1) := by decide +kernel
theorem okX11_orders : ab_okM MX11_orders 0 := ⟨by decide, ⟨by decide, by decide⟩, ab_in 1326 (by decide +kernel) (by decide +kernel), ab_in 86 (by decide +kernel) (by decide +kernel), by decide +kernel, by decide⟩
set_option maxHeartbeats 4000000 in
set_option maxRecDepth 100000 in
theorem sX11_orders   (x : ab_X) (K : Int32 → ab_X → Prop) (d bc bs : Nat) (hdp : 212 ≤ d) (h : wX11_orders  x K) : EW MX11_orders 0 [(0, .ref 0)] [] (aS x) d bc bs (liI K) := by
  unfold wX11_orders at h
  refine EW_aload_n (pc2 := 1) rfl dX11_orders_0 0 rfl ?_
  refine AW_getr (r := 66) ⟨gfRX11_30, rfl⟩ (pc2 := 4) rfl dX11_orders_1 q0 rfl ?_
  refine AW_geti ⟨gfRX11_374, rfl⟩ (pc2 := 7) rfl dX11_orders_4 q66 ?_
  refine EW_bipush (pc2 := 9) (v := 20) rfl dX11_orders_7 (by decide) ?_
  refine EW_icmp_ge (tgt := 23) (pc2 := 12) rfl dX11_orders_9 (by decide) (fun q => ?_) (fun q => ?_)
  · replace h := h.1 q
    refine EW_iconst (pc2 := 24) (v := (-1)) rfl dX11_orders_23 (by decide) ?_
    exact AW_iret rfl dX11_orders_24 ⟨_, _, rfl, rfl, h⟩
  · replace h := h.2 q
    refine EW_aload_n (pc2 := 13) rfl dX11_orders_12 0 rfl ?_
    refine AW_getr (r := 158) ⟨gfRX11_37, rfl⟩ (pc2 := 16) rfl dX11_orders_13 q0 rfl ?_
    refine EW_iconst (pc2 := 17) (v := 0) rfl dX11_orders_16 (by decide) ?_
    refine AW_invV (M' := MX8_parse) [.int 0] (rest := []) mlRX11_368 okX8_parse (pc2 := 20) rfl dX11_orders_17 rfl rfl (Nat.le_of_ble_eq_true rfl) (Nat.le_of_ble_eq_true rfl) (d' := 211) (by omega) q158 ⟨by decide, rfl⟩ (EW_mono (fun _ _ hr => ?_) (sX8_parse 0  x _ _ 0 0 (Nat.le_refl _) h))
    obtain ⟨r1, x2, rfl, rfl, h⟩ := hr
    refine EW_if_ne (tgt := 25) (pc2 := 23) rfl dX11_orders_20 (by decide) (fun q => ?_) (fun q => ?_)
    · replace h := h.1 q
      refine EW_aload_n (pc2 := 26) rfl dX11_orders_25 0 rfl ?_
      refine AW_getr (r := 158) ⟨gfRX11_37, rfl⟩ (pc2 := 29) rfl dX11_orders_26 q0 rfl ?_
      refine EW_aload_n (pc2 := 30) rfl dX11_orders_29 0 rfl ?_
      refine AW_getr (r := 66) ⟨gfRX11_30, rfl⟩ (pc2 := 33) rfl dX11_orders_30 q0 rfl ?_
      refine AW_getr (r := 69) ⟨gfRX11_377, rfl⟩ (pc2 := 36) rfl dX11_orders_33 q66 rfl ?_
      refine AW_invV (M' := MX8_handOver) [.ref 69] (rest := []) mlRX11_381 okX8_handOver (pc2 := 39) rfl dX11_orders_36 rfl rfl (Nat.le_of_ble_eq_true rfl) (Nat.le_of_ble_eq_true rfl) (d' := 2) (by omega) q158 ⟨by decide, rfl⟩ (EW_mono (fun _ _ hr => ?_) (sX8_handOver 69 (Or.inl rfl : isT 69) x2 _ _ 0 0 (Nat.le_refl _) h))
      obtain ⟨x3, rfl, rfl, h⟩ := hr
      refine EW_aload_n (pc2 := 40) rfl dX11_orders_39 0 rfl ?_
      refine AW_getr (r := 66) ⟨gfRX11_30, rfl⟩ (pc2 := 43) rfl dX11_orders_40 q0 rfl ?_
      refine EW_dup (pc2 := 44) rfl dX11_orders_43 rfl ?_
      refine AW_geti ⟨gfRX11_374, rfl⟩ (pc2 := 47) rfl dX11_orders_44 q66 ?_
      refine EW_iconst (pc2 := 48) (v := 1) rfl dX11_orders_47 (by decide) ?_
      refine EW_iadd (pc2 := 49) rfl dX11_orders_48 ?_
      refine AW_puti ⟨gfRX11_374, rfl, rfl⟩ (pc2 := 52) rfl dX11_orders_49 q66 ?_
      refine EW_aload_n (pc2 := 53) rfl dX11_orders_52 0 rfl ?_
      refine AW_getr (r := 66) ⟨gfRX11_30, rfl⟩ (pc2 := 56) rfl dX11_orders_53 q0 rfl ?_
      refine AW_geti ⟨gfRX11_374, rfl⟩ (pc2 := 59) rfl dX11_orders_56 q66 ?_
      refine EW_iconst (pc2 := 60) (v := 1) rfl dX11_orders_59 (by decide) ?_
      refine EW_isub (pc2 := 61) rfl dX11_orders_60 ?_
      exact AW_iret rfl dX11_orders_61 ⟨_, _, rfl, rfl, h⟩
    · replace h := h.2 q
      refine EW_iconst (pc2 := 24) (v := (-1)) rfl dX11_orders_23 (by decide) ?_
      exact AW_iret rfl dX11_orders_24 ⟨_, _, rfl, rfl, h⟩
theorem gfRX7_158 : ab_L RX7 158 7 16 := ⟨by decide, by decide, ab_in 691 (by decide +kernel) (by decide +kernel)⟩
theorem gfRX7_161 : ab_L RX7 161 7 17 := ⟨by decide, by decide, ab_in 693 (by decide +kernel) (by decide +kernel)⟩
theorem gfRX7_33 : ab_L RX7 33 7 15 := ⟨by decide, by decide, ab_in 690 (by decide +kernel) (by decide +kernel)⟩
theorem mlRX7_171 : Cond.methodLink RX7 171 yX7_pointsAt ∈ ab_G ∧ Cond.instanceMethod yX7_pointsAt ∈ ab_G ∧ Cond.selects RX7 yX7_pointsAt yX7_pointsAt ∈ ab_G := ⟨ab_in 1667 (by decide +kernel) (by decide +kernel), ab_in 1668 (by decide +kernel) (by decide +kernel), ab_in 1669 (by decide +kernel) (by decide +kernel)⟩
abbrev MX7_weigh : ab_M := (yX7_weigh, cX7_weigh, 4, none)
theorem dX7_weigh_0 : decode cX7_weigh 0 = .ok (.iconst 0, 1) := by decide +kernel
theorem dX7_weigh_1 : decode cX7_weigh 1 = .ok (.istore_n 2, 1) := by decide +kernel
theorem dX7_weigh_2 : decode cX7_weigh 2 = .ok (.iconst 0, 1) := by decide +kernel
theorem dX7_weigh_3 : decode cX7_weigh 3 = .ok (.istore_n 3, 1) := by decide +kernel
theorem dX7_weigh_4 : decode cX7_weigh 4 = .ok (.iload_n 3, 1) := by decide +kernel
theorem dX7_weigh_5 : decode cX7_weigh 5 = .ok (.bipush 20, 2) := by decide +kernel
theorem dX7_weigh_7 : decode cX7_weigh 7 = .ok (.if_icmp .ge 25, 3) := by decide +kernel
theorem dX7_weigh_10 : decode cX7_weigh 10 = .ok (.iload_n 2, 1) := by decide +kernel
theorem dX7_weigh_11 : decode cX7_weigh 11 = .ok (.aload_n 0, 1) := by decide +kernel
theorem dX7_weigh_12 : decode cX7_weigh 12 = .ok (.getfield 33, 3) := by decide +kernel
theorem dX7_weigh_15 : decode cX7_weigh 15 = .ok (.iload_n 3, 1) := by decide +kernel
theorem dX7_weigh_16 : decode cX7_weigh 16 = .ok (.iaload, 1) := by decide +kernel
theorem dX7_weigh_17 : decode cX7_weigh 17 = .ok (.aload_n 0, 1) := by decide +kernel
theorem dX7_weigh_18 : decode cX7_weigh 18 = .ok (.iload_n 3, 1) := by decide +kernel
theorem dX7_weigh_19 : decode cX7_weigh 19 = .ok (.iload_n 1, 1) := by decide +kernel
theorem dX7_weigh_20 : decode cX7_weigh 20 = .ok (.invokevirtual 171, 3) := by decide +kernel
theorem dX7_weigh_23 : decode cX7_weigh 23 = .ok (.imul, 1) := by decide +kernel
theorem dX7_weigh_24 : decode cX7_weigh 24 = .ok (.iadd, 1) := by decide +kernel
theorem dX7_weigh_25 : decode cX7_weigh 25 = .ok (.istore_n 2, 1) := by decide +kernel
theorem dX7_weigh_26 : decode cX7_weigh 26 = .ok (.iinc 3 1, 3) := by decide +kernel
theorem dX7_weigh_29 : decode cX7_weigh 29 = .ok (.goto (-25), 3) := by decide +kernel
theorem dX7_weigh_32 : decode cX7_weigh 32 = .ok (.iload_n 2, 1) := by decide +kernel
theorem dX7_weigh_33 : decode cX7_weigh 33 = .ok (.aload_n 0, 1) := by decide +kernel
theorem dX7_weigh_34 : decode cX7_weigh 34 = .ok (.getfield 158, 3) := by decide +kernel
theorem dX7_weigh_37 : decode cX7_weigh 37 = .ok (.if_icmp .le 13, 3) := by decide +kernel
theorem dX7_weigh_40 : decode cX7_weigh 40 = .ok (.aload_n 0, 1) := by decide +kernel
theorem dX7_weigh_41 : decode cX7_weigh 41 = .ok (.iload_n 2, 1) := by decide +kernel
theorem dX7_weigh_42 : decode cX7_weigh 42 = .ok (.putfield 158, 3) := by decide +kernel
theorem dX7_weigh_45 : decode cX7_weigh 45 = .ok (.aload_n 0, 1) := by decide +kernel
theorem dX7_weigh_46 : decode cX7_weigh 46 = .ok (.iload_n 1, 1) := by decide +kernel
theorem dX7_weigh_47 : decode cX7_weigh 47 = .ok (.putfield 161, 3) := by decide +kernel
theorem dX7_weigh_50 : decode cX7_weigh 50 = .ok (.return_, 1) := by decide +kernel
theorem okX7_weigh : ab_okM MX7_weigh 1 := ⟨by decide, ⟨by decide, by decide⟩, ab_in 1666 (by decide +kernel) (by decide +kernel), ab_in 98 (by decide +kernel) (by decide +kernel), by decide +kernel, by decide⟩
set_option maxHeartbeats 4000000 in
set_option maxRecDepth 100000 in
theorem sX7_weigh_4 (v1 : Int32) (v2 : Int32) (v3 : Int32)  (x : ab_X) (K : ab_X → Prop)  (d bc bs : Nat) (hdp : 2 ≤ d)  (h : Lp2 (lX7_weigh_4 v1 x K ) v2 v3) : EW MX7_weigh 4 [(0, .ref 234), (1, .int v1), (2, .int v2), (3, .int v3)] [] (aS x) d bc bs (liV K) := by
  refine Lp2.use (P := fun v2 v3 => EW MX7_weigh 4 [(0, .ref 234), (1, .int v1), (2, .int v2), (3, .int v3)] [] (aS x) d bc bs (liV K)) (fun L4 v2 v3 hL4 h => ?_) v2 v3 h
  unfold lX7_weigh_4 at h
  refine EW_iload_n (pc2 := 5) rfl dX7_weigh_4 3 rfl ?_
  refine EW_bipush (pc2 := 7) (v := 20) rfl dX7_weigh_5 (by decide) ?_
  refine EW_icmp_ge (tgt := 32) (pc2 := 10) rfl dX7_weigh_7 (by decide) (fun q => ?_) (fun q => ?_)
  · replace h := h.1 q
    refine EW_iload_n (pc2 := 33) rfl dX7_weigh_32 2 rfl ?_
    refine EW_aload_n (pc2 := 34) rfl dX7_weigh_33 0 rfl ?_
    refine AW_geti ⟨gfRX7_158, rfl⟩ (pc2 := 37) rfl dX7_weigh_34 q234 ?_
    refine EW_icmp_le (tgt := 50) (pc2 := 40) rfl dX7_weigh_37 (by decide) (fun q => ?_) (fun q => ?_)
    · replace h := h.1 q
      exact EW_vret rfl dX7_weigh_50 ⟨_, rfl, rfl, h⟩
    · replace h := h.2 q
      refine EW_aload_n (pc2 := 41) rfl dX7_weigh_40 0 rfl ?_
      refine EW_iload_n (pc2 := 42) rfl dX7_weigh_41 2 rfl ?_
      refine AW_puti ⟨gfRX7_158, rfl, rfl⟩ (pc2 := 45) rfl dX7_weigh_42 q234 ?_
      refine EW_aload_n (pc2 := 46) rfl dX7_weigh_45 0 rfl ?_
      refine EW_iload_n (pc2 := 47) rfl dX7_weigh_46 1 rfl ?_
      refine AW_puti ⟨gfRX7_161, rfl, rfl⟩ (pc2 := 50) rfl dX7_weigh_47 q234 ?_
      exact EW_vret rfl dX7_weigh_50 ⟨_, rfl, rfl, h⟩
  · replace h := h.2 q
    refine EW_iload_n (pc2 := 11) rfl dX7_weigh_10 2 rfl ?_
    refine EW_aload_n (pc2 := 12) rfl dX7_weigh_11 0 rfl ?_
    refine AW_getr (r := 242) ⟨gfRX7_33, rfl⟩ (pc2 := 15) rfl dX7_weigh_12 q234 rfl ?_
    refine EW_iload_n (pc2 := 16) rfl dX7_weigh_15 3 rfl ?_
    obtain ⟨b1, h⟩ := h
    refine AW_iald (pc2 := 17) rfl dX7_weigh_16 q242 b1 ?_
    refine EW_aload_n (pc2 := 18) rfl dX7_weigh_17 0 rfl ?_
    refine EW_iload_n (pc2 := 19) rfl dX7_weigh_18 3 rfl ?_
    refine EW_iload_n (pc2 := 20) rfl dX7_weigh_19 1 rfl ?_
    refine AW_invV (M' := MX7_pointsAt) [.int v3, .int v1] (rest := [.int (x.1 242 (Int32.toNatClampNeg v3)), .int v2]) mlRX7_171 okX7_pointsAt (pc2 := 23) rfl dX7_weigh_20 rfl rfl (Nat.le_of_ble_eq_true rfl) (Nat.le_of_ble_eq_true rfl) (d' := 1) (by omega) q234 ⟨by decide, rfl⟩ (EW_mono (fun _ _ hr => ?_) (sX7_pointsAt v3 v1  x _ _ 0 0 (Nat.le_refl _) h))
    obtain ⟨r2, rfl, rfl, h⟩ := hr
    refine EW_imul (pc2 := 24) rfl dX7_weigh_23 ?_
    refine EW_iadd (pc2 := 25) rfl dX7_weigh_24 ?_
    refine EW_istore_n (pc2 := 26) rfl dX7_weigh_25 (by decide) [1, 2, 0, 3] [(0, .ref 234), (1, .int v1), (2, .int (v2 + ((x.1 242 (Int32.toNatClampNeg v3)) * r2))), (3, .int v3)] rfl ?_
    refine EW_iinc (v3 + 1) (pc2 := 29) rfl dX7_weigh_26 3 rfl rfl (by decide) [1, 2, 3, 0] [(0, .ref 234), (1, .int v1), (2, .int (v2 + ((x.1 242 (Int32.toNatClampNeg v3)) * r2))), (3, .int (v3 + 1))] rfl ?_
    refine EW_goto (tgt := 4) dX7_weigh_29 (by decide) ?_
    exact hL4 (v2 + ((x.1 242 (Int32.toNatClampNeg v3)) * r2)) (v3 + 1) h
set_option maxHeartbeats 4000000 in
set_option maxRecDepth 100000 in
theorem sX7_weigh (v1 : Int32)  (x : ab_X) (K : ab_X → Prop) (d bc bs : Nat) (hdp : 2 ≤ d) (h : wX7_weigh v1 x K) : EW MX7_weigh 0 [(0, .ref 234), (1, .int v1)] [] (aS x) d bc bs (liV K) := by
  unfold wX7_weigh at h
  refine EW_iconst (pc2 := 1) (v := 0) rfl dX7_weigh_0 (by decide) ?_
  refine EW_istore_n (pc2 := 2) rfl dX7_weigh_1 (by decide) [1, 2, 0] [(0, .ref 234), (1, .int v1), (2, .int 0)] rfl ?_
  refine EW_iconst (pc2 := 3) (v := 0) rfl dX7_weigh_2 (by decide) ?_
  refine EW_istore_n (pc2 := 4) rfl dX7_weigh_3 (by decide) [1, 2, 3, 0] [(0, .ref 234), (1, .int v1), (2, .int 0), (3, .int 0)] rfl ?_
  exact sX7_weigh_4 v1 0 0 x K d bc bs hdp h
theorem mlRX7_164 : Cond.methodLink RX7 164 yX7_choose ∈ ab_G ∧ Cond.instanceMethod yX7_choose ∈ ab_G ∧ Cond.selects RX7 yX7_choose yX7_choose ∈ ab_G := ⟨ab_in 1659 (by decide +kernel) (by decide +kernel), ab_in 1661 (by decide +kernel) (by decide +kernel), ab_in 8 (by decide +kernel) (by decide +kernel)⟩
theorem mlRX7_168 : Cond.methodLink RX7 168 yX7_weigh ∈ ab_G ∧ Cond.instanceMethod yX7_weigh ∈ ab_G ∧ Cond.selects RX7 yX7_weigh yX7_weigh ∈ ab_G := ⟨ab_in 1663 (by decide +kernel) (by decide +kernel), ab_in 1664 (by decide +kernel) (by decide +kernel), ab_in 1665 (by decide +kernel) (by decide +kernel)⟩
abbrev MX7_choose : ab_M := (yX7_choose, cX7_choose, 5, none)
theorem dX7_choose_0 : decode cX7_choose 0 = .ok (.iload_n 1, 1) := by decide +kernel
theorem dX7_choose_1 : decode cX7_choose 1 = .ok (.ifCond .gt 9, 3) := by decide +kernel
theorem dX7_choose_4 : decode cX7_choose 4 = .ok (.aload_n 0, 1) := by decide +kernel
theorem dX7_choose_5 : decode cX7_choose 5 = .ok (.iload_n 3, 1) := by decide +kernel
theorem dX7_choose_6 : decode cX7_choose 6 = .ok (.invokevirtual 168, 3) := by decide +kernel
theorem dX7_choose_9 : decode cX7_choose 9 = .ok (.return_, 1) := by decide +kernel
theorem dX7_choose_10 : decode cX7_choose 10 = .ok (.iload_n 2, 1) := by decide +kernel
theorem dX7_choose_11 : decode cX7_choose 11 = .ok (.istore 4, 2) := by decide +kernel
theorem dX7_choose_13 : decode cX7_choose 13 = .ok (.iload 4, 2) := by decide +kernel
theorem dX7_choose_15 : decode cX7_choose 15 = .ok (.bipush 20, 2) := by decide +kernel
theorem dX7_choose_17 : decode cX7_choose 17 = .ok (.iload_n 1, 1) := by decide +kernel
theorem dX7_choose_18 : decode cX7_choose 18 = .ok (.isub, 1) := by decide +kernel
theorem dX7_choose_19 : decode cX7_choose 19 = .ok (.if_icmp .gt 26, 3) := by decide +kernel
theorem dX7_choose_22 : decode cX7_choose 22 = .ok (.aload_n 0, 1) := by decide +kernel
theorem dX7_choose_23 : decode cX7_choose 23 = .ok (.iload_n 1, 1) := by decide +kernel
theorem dX7_choose_24 : decode cX7_choose 24 = .ok (.iconst 1, 1) := by decide +kernel
theorem dX7_choose_25 : decode cX7_choose 25 = .ok (.isub, 1) := by decide +kernel
theorem dX7_choose_26 : decode cX7_choose 26 = .ok (.iload 4, 2) := by decide +kernel
theorem dX7_choose_28 : decode cX7_choose 28 = .ok (.iconst 1, 1) := by decide +kernel
theorem dX7_choose_29 : decode cX7_choose 29 = .ok (.iadd, 1) := by decide +kernel
theorem dX7_choose_30 : decode cX7_choose 30 = .ok (.iload_n 3, 1) := by decide +kernel
theorem dX7_choose_31 : decode cX7_choose 31 = .ok (.iconst 1, 1) := by decide +kernel
theorem dX7_choose_32 : decode cX7_choose 32 = .ok (.iload 4, 2) := by decide +kernel
theorem dX7_choose_34 : decode cX7_choose 34 = .ok (.ishl, 1) := by decide +kernel
theorem dX7_choose_35 : decode cX7_choose 35 = .ok (.ior, 1) := by decide +kernel
theorem dX7_choose_36 : decode cX7_choose 36 = .ok (.invokevirtual 164, 3) := by decide +kernel
theorem dX7_choose_39 : decode cX7_choose 39 = .ok (.iinc 4 1, 3) := by decide +kernel
theorem dX7_choose_42 : decode cX7_choose 42 = .ok (.goto (-29), 3) := by decide +kernel
theorem dX7_choose_45 : decode cX7_choose 45 = .ok (.return_, 1) := by decide +kernel
theorem okX7_choose : ab_okM MX7_choose 3 := ⟨by decide, ⟨by decide, by decide⟩, ab_in 1662 (by decide +kernel) (by decide +kernel), ab_in 98 (by decide +kernel) (by decide +kernel), by decide +kernel, by decide⟩
set_option maxHeartbeats 4000000 in
set_option maxRecDepth 100000 in
theorem sX7_choose_13 (RX7_choose : Int32 → Int32 → Int32 → ab_X → (ab_X → Prop) → Prop) (v1 : Int32) (v3 : Int32) (v4 : Int32)  (x : ab_X) (K : ab_X → Prop)  (d bc bs : Nat) (hdp : 3 ≤ d) (dr : Nat) (hRX7_choose : ∀ (v1 : Int32) (v2 : Int32) (v3 : Int32)  (x : ab_X) (K : ab_X → Prop), RX7_choose v1 v2 v3 x K → EW MX7_choose 0 [(0, .ref 234), (1, .int v1), (2, .int v2), (3, .int v3)] [] (aS x) dr 0 0 (liV K)) (hdr : dr + 1 ≤ d)  (h : Lp2 (lX7_choose_13 RX7_choose v1 v3 K ) v4 x) : EW MX7_choose 13 [(0, .ref 234), (1, .int v1), (3, .int v3), (4, .int v4)] [] (aS x) d bc bs (liV K) := by
  refine Lp2.use (P := fun v4 x => EW MX7_choose 13 [(0, .ref 234), (1, .int v1), (3, .int v3), (4, .int v4)] [] (aS x) d bc bs (liV K)) (fun L13 v4 x hL13 h => ?_) v4 x h
  unfold lX7_choose_13 at h
  refine EW_iload (pc2 := 15) rfl dX7_choose_13 3 rfl ?_
  refine EW_bipush (pc2 := 17) (v := 20) rfl dX7_choose_15 (by decide) ?_
  refine EW_iload_n (pc2 := 18) rfl dX7_choose_17 1 rfl ?_
  refine EW_isub (pc2 := 19) rfl dX7_choose_18 ?_
  refine EW_icmp_gt (tgt := 45) (pc2 := 22) rfl dX7_choose_19 (by decide) (fun q => ?_) (fun q => ?_)
  · replace h := h.1 q
    exact EW_vret rfl dX7_choose_45 ⟨_, rfl, rfl, h⟩
  · replace h := h.2 q
    refine EW_aload_n (pc2 := 23) rfl dX7_choose_22 0 rfl ?_
    refine EW_iload_n (pc2 := 24) rfl dX7_choose_23 1 rfl ?_
    refine EW_iconst (pc2 := 25) (v := 1) rfl dX7_choose_24 (by decide) ?_
    refine EW_isub (pc2 := 26) rfl dX7_choose_25 ?_
    refine EW_iload (pc2 := 28) rfl dX7_choose_26 3 rfl ?_
    refine EW_iconst (pc2 := 29) (v := 1) rfl dX7_choose_28 (by decide) ?_
    refine EW_iadd (pc2 := 30) rfl dX7_choose_29 ?_
    refine EW_iload_n (pc2 := 31) rfl dX7_choose_30 2 rfl ?_
    refine EW_iconst (pc2 := 32) (v := 1) rfl dX7_choose_31 (by decide) ?_
    refine EW_iload (pc2 := 34) rfl dX7_choose_32 3 rfl ?_
    refine EW_ishl (pc2 := 35) rfl dX7_choose_34 ?_
    refine EW_ior (pc2 := 36) rfl dX7_choose_35 ?_
    refine AW_invV (M' := MX7_choose) [.int (v1 - 1), .int (v4 + 1), .int (v3 ||| (1 <<< (v4 &&& 31)))] (rest := []) mlRX7_164 okX7_choose (pc2 := 39) rfl dX7_choose_36 rfl rfl (Nat.le_of_ble_eq_true rfl) (Nat.le_of_ble_eq_true rfl) (d' := dr) (by omega) q234 ⟨by decide, rfl⟩ (EW_mono (fun _ _ hr => ?_) (hRX7_choose (v1 - 1) (v4 + 1) (v3 ||| (1 <<< (v4 &&& 31)))  x _  h))
    obtain ⟨x2, rfl, rfl, h⟩ := hr
    refine EW_iinc (v4 + 1) (pc2 := 42) rfl dX7_choose_39 3 rfl rfl (by decide) [1, 2, 3, 0] [(0, .ref 234), (1, .int v1), (3, .int v3), (4, .int (v4 + 1))] rfl ?_
    refine EW_goto (tgt := 13) dX7_choose_42 (by decide) ?_
    exact hL13 (v4 + 1) x2 h
set_option maxHeartbeats 4000000 in
set_option maxRecDepth 100000 in
theorem bsX7_choose (RX7_choose : Int32 → Int32 → Int32 → ab_X → (ab_X → Prop) → Prop) (v1 : Int32) (v2 : Int32) (v3 : Int32)  (x : ab_X) (K : ab_X → Prop) (d bc bs : Nat) (hdp : 3 ≤ d) (dr : Nat) (hRX7_choose : ∀ (v1 : Int32) (v2 : Int32) (v3 : Int32)  (x : ab_X) (K : ab_X → Prop), RX7_choose v1 v2 v3 x K → EW MX7_choose 0 [(0, .ref 234), (1, .int v1), (2, .int v2), (3, .int v3)] [] (aS x) dr 0 0 (liV K)) (hdr : dr + 1 ≤ d) (h : bX7_choose RX7_choose v1 v2 v3 x K) : EW MX7_choose 0 [(0, .ref 234), (1, .int v1), (2, .int v2), (3, .int v3)] [] (aS x) d bc bs (liV K) := by
  unfold bX7_choose at h
  refine EW_iload_n (pc2 := 1) rfl dX7_choose_0 1 rfl ?_
  refine EW_if_gt (tgt := 10) (pc2 := 4) rfl dX7_choose_1 (by decide) (fun q => ?_) (fun q => ?_)
  · replace h := h.1 q
    refine EW_iload_n (pc2 := 11) rfl dX7_choose_10 2 rfl ?_
    refine EW_istore (pc2 := 13) rfl dX7_choose_11 (by decide) [1, 2, 3, 4, 0] [(0, .ref 234), (1, .int v1), (2, .int v2), (3, .int v3), (4, .int v2)] rfl ?_
    refine EW_ls [0, 1, 3, 4] rfl ?_
    exact sX7_choose_13 RX7_choose v1 v3 v2 x K d bc bs hdp dr hRX7_choose hdr h
  · replace h := h.2 q
    refine EW_aload_n (pc2 := 5) rfl dX7_choose_4 0 rfl ?_
    refine EW_iload_n (pc2 := 6) rfl dX7_choose_5 3 rfl ?_
    refine AW_invV (M' := MX7_weigh) [.int v3] (rest := []) mlRX7_168 okX7_weigh (pc2 := 9) rfl dX7_choose_6 rfl rfl (Nat.le_of_ble_eq_true rfl) (Nat.le_of_ble_eq_true rfl) (d' := 2) (by omega) q234 ⟨by decide, rfl⟩ (EW_mono (fun _ _ hr => ?_) (sX7_weigh v3  x _ _ 0 0 (Nat.le_refl _) h))
    obtain ⟨x1, rfl, rfl, h⟩ := hr
    exact EW_vret rfl dX7_choose_9 ⟨_, rfl, rfl, h⟩
set_option maxHeartbeats 4000000 in
theorem famX7_chooseS : ∀ n, (∀ (v1 : Int32) (v2 : Int32) (v3 : Int32)  (x : ab_X) (K : ab_X → Prop), (famX7_choose n) v1 v2 v3 x K → EW MX7_choose 0 [(0, .ref 234), (1, .int v1), (2, .int v2), (3, .int v3)] [] (aS x) (3 + n) 0 0 (liV K)) := by
  intro n
  induction n with
  | zero => exact fun v1 v2 v3  x K h => False.elim h
  | succ n ih =>
    have i0 := ih
    exact fun v1 v2 v3  x K h => bsX7_choose _ v1 v2 v3  x K (3 + (n + 1)) 0 0 (by omega) (3 + n) i0 (by omega) h
theorem sX7_choose (v1 : Int32) (v2 : Int32) (v3 : Int32)  (x : ab_X) (K : ab_X → Prop) (d bc bs : Nat) (hdp : 104 ≤ d) (h : wX7_choose v1 v2 v3 x K) : EW MX7_choose 0 [(0, .ref 234), (1, .int v1), (2, .int v2), (3, .int v3)] [] (aS x) d bc bs (liV K) := by
  obtain ⟨n, hn, h⟩ := h
  cases n with
  | zero => exact False.elim h
  | succ n =>
    have i0 := famX7_chooseS n
    exact bsX7_choose _ v1 v2 v3  x K d bc bs (by omega) (3 + n) i0 (by omega) h
theorem gfRX7_146 : ab_L RX7 146 0 5 := ⟨by decide, by decide, ab_in 553 (by decide +kernel) (by decide +kernel)⟩
theorem gfRX7_151 : ab_L RX7 151 0 4 := ⟨by decide, by decide, ab_in 550 (by decide +kernel) (by decide +kernel)⟩
theorem gfRX7_155 : ab_L RX7 155 1 0 := ⟨by decide, by decide, ab_in 506 (by decide +kernel) (by decide +kernel)⟩
theorem mlRX7_137 : Cond.methodLink RX7 137 yX7_findNear ∈ ab_G ∧ Cond.instanceMethod yX7_findNear ∈ ab_G ∧ Cond.selects RX7 yX7_findNear yX7_findNear ∈ ab_G := ⟨ab_in 1654 (by decide +kernel) (by decide +kernel), ab_in 1655 (by decide +kernel) (by decide +kernel), ab_in 1656 (by decide +kernel) (by decide +kernel)⟩
theorem mlRX7_140 : Cond.methodLink RX7 140 yJ7_fill_53178 ∈ ab_G ∧ Cond.static yJ7_fill_53178 ∈ ab_G := ⟨ab_in 1658 (by decide +kernel) (by decide +kernel), ab_in 128 (by decide +kernel) (by decide +kernel)⟩
abbrev MX7_makePlan : ab_M := (yX7_makePlan, cX7_makePlan, 5, none)
theorem dX7_makePlan_0 : decode cX7_makePlan 0 = .ok (.aload_n 0, 1) := by decide +kernel
theorem dX7_makePlan_1 : decode cX7_makePlan 1 = .ok (.iload_n 2, 1) := by decide +kernel
theorem dX7_makePlan_2 : decode cX7_makePlan 2 = .ok (.invokevirtual 137, 3) := by decide +kernel
theorem dX7_makePlan_5 : decode cX7_makePlan 5 = .ok (.aload_n 0, 1) := by decide +kernel
theorem dX7_makePlan_6 : decode cX7_makePlan 6 = .ok (.getfield 33, 3) := by decide +kernel
theorem dX7_makePlan_9 : decode cX7_makePlan 9 = .ok (.iconst 0, 1) := by decide +kernel
theorem dX7_makePlan_10 : decode cX7_makePlan 10 = .ok (.invokestatic 140, 3) := by decide +kernel
theorem dX7_makePlan_13 : decode cX7_makePlan 13 = .ok (.iconst 0, 1) := by decide +kernel
theorem dX7_makePlan_14 : decode cX7_makePlan 14 = .ok (.istore 4, 2) := by decide +kernel
theorem dX7_makePlan_16 : decode cX7_makePlan 16 = .ok (.iload 4, 2) := by decide +kernel
theorem dX7_makePlan_18 : decode cX7_makePlan 18 = .ok (.aload_n 3, 1) := by decide +kernel
theorem dX7_makePlan_19 : decode cX7_makePlan 19 = .ok (.getfield 146, 3) := by decide +kernel
theorem dX7_makePlan_22 : decode cX7_makePlan 22 = .ok (.if_icmp .ge 28, 3) := by decide +kernel
theorem dX7_makePlan_25 : decode cX7_makePlan 25 = .ok (.aload_n 0, 1) := by decide +kernel
theorem dX7_makePlan_26 : decode cX7_makePlan 26 = .ok (.getfield 33, 3) := by decide +kernel
theorem dX7_makePlan_29 : decode cX7_makePlan 29 = .ok (.aload_n 3, 1) := by decide +kernel
theorem dX7_makePlan_30 : decode cX7_makePlan 30 = .ok (.getfield 151, 3) := by decide +kernel
theorem dX7_makePlan_33 : decode cX7_makePlan 33 = .ok (.iload 4, 2) := by decide +kernel
theorem dX7_makePlan_35 : decode cX7_makePlan 35 = .ok (.aaload, 1) := by decide +kernel
theorem dX7_makePlan_36 : decode cX7_makePlan 36 = .ok (.getfield 155, 3) := by decide +kernel
theorem dX7_makePlan_39 : decode cX7_makePlan 39 = .ok (.dup2, 1) := by decide +kernel
theorem dX7_makePlan_40 : decode cX7_makePlan 40 = .ok (.iaload, 1) := by decide +kernel
theorem dX7_makePlan_41 : decode cX7_makePlan 41 = .ok (.iconst 1, 1) := by decide +kernel
theorem dX7_makePlan_42 : decode cX7_makePlan 42 = .ok (.iadd, 1) := by decide +kernel
theorem dX7_makePlan_43 : decode cX7_makePlan 43 = .ok (.iastore, 1) := by decide +kernel
theorem dX7_makePlan_44 : decode cX7_makePlan 44 = .ok (.iinc 4 1, 3) := by decide +kernel
theorem dX7_makePlan_47 : decode cX7_makePlan 47 = .ok (.goto (-31), 3) := by decide +kernel
theorem dX7_makePlan_50 : decode cX7_makePlan 50 = .ok (.aload_n 0, 1) := by decide +kernel
theorem dX7_makePlan_51 : decode cX7_makePlan 51 = .ok (.iconst (-1), 1) := by decide +kernel
theorem dX7_makePlan_52 : decode cX7_makePlan 52 = .ok (.putfield 158, 3) := by decide +kernel
theorem dX7_makePlan_55 : decode cX7_makePlan 55 = .ok (.aload_n 0, 1) := by decide +kernel
theorem dX7_makePlan_56 : decode cX7_makePlan 56 = .ok (.iconst 0, 1) := by decide +kernel
theorem dX7_makePlan_57 : decode cX7_makePlan 57 = .ok (.putfield 161, 3) := by decide +kernel
theorem dX7_makePlan_60 : decode cX7_makePlan 60 = .ok (.aload_n 0, 1) := by decide +kernel
theorem dX7_makePlan_61 : decode cX7_makePlan 61 = .ok (.iload_n 1, 1) := by decide +kernel
theorem dX7_makePlan_62 : decode cX7_makePlan 62 = .ok (.iconst 0, 1) := by decide +kernel
theorem dX7_makePlan_63 : decode cX7_makePlan 63 = .ok (.iconst 0, 1) := by decide +kernel
theorem dX7_makePlan_64 : decode cX7_makePlan 64 = .ok (.invokevirtual 164, 3) := by decide +kernel
theorem dX7_makePlan_67 : decode cX7_makePlan 67 = .ok (.return_, 1) := by decide +kernel
theorem okX7_makePlan : ab_okM MX7_makePlan 3 := ⟨by decide, ⟨by decide, by decide⟩, ab_in 1653 (by decide +kernel) (by decide +kernel), ab_in 98 (by decide +kernel) (by decide +kernel), by decide +kernel, by decide⟩
set_option maxHeartbeats 4000000 in
set_option maxRecDepth 100000 in
theorem sX7_makePlan_16 (v1 : Int32) (v4 : Int32)  (x : ab_X) (K : ab_X → Prop)  (d bc bs : Nat) (hdp : 105 ≤ d)  (h : Lp2 (lX7_makePlan_16 v1 K ) v4 x) : EW MX7_makePlan 16 [(0, .ref 234), (1, .int v1), (3, .ref 66), (4, .int v4)] [] (aS x) d bc bs (liV K) := by
  refine Lp2.use (P := fun v4 x => EW MX7_makePlan 16 [(0, .ref 234), (1, .int v1), (3, .ref 66), (4, .int v4)] [] (aS x) d bc bs (liV K)) (fun L16 v4 x hL16 h => ?_) v4 x h
  unfold lX7_makePlan_16 at h
  refine EW_iload (pc2 := 18) rfl dX7_makePlan_16 3 rfl ?_
  refine EW_aload_n (pc2 := 19) rfl dX7_makePlan_18 2 rfl ?_
  refine AW_geti ⟨gfRX7_146, rfl⟩ (pc2 := 22) rfl dX7_makePlan_19 q66 ?_
  refine EW_icmp_ge (tgt := 50) (pc2 := 25) rfl dX7_makePlan_22 (by decide) (fun q => ?_) (fun q => ?_)
  · replace h := h.1 q
    refine EW_aload_n (pc2 := 51) rfl dX7_makePlan_50 0 rfl ?_
    refine EW_iconst (pc2 := 52) (v := (-1)) rfl dX7_makePlan_51 (by decide) ?_
    refine AW_puti ⟨gfRX7_158, rfl, rfl⟩ (pc2 := 55) rfl dX7_makePlan_52 q234 ?_
    refine EW_aload_n (pc2 := 56) rfl dX7_makePlan_55 0 rfl ?_
    refine EW_iconst (pc2 := 57) (v := 0) rfl dX7_makePlan_56 (by decide) ?_
    refine AW_puti ⟨gfRX7_161, rfl, rfl⟩ (pc2 := 60) rfl dX7_makePlan_57 q234 ?_
    refine EW_aload_n (pc2 := 61) rfl dX7_makePlan_60 0 rfl ?_
    refine EW_iload_n (pc2 := 62) rfl dX7_makePlan_61 1 rfl ?_
    refine EW_iconst (pc2 := 63) (v := 0) rfl dX7_makePlan_62 (by decide) ?_
    refine EW_iconst (pc2 := 64) (v := 0) rfl dX7_makePlan_63 (by decide) ?_
    refine AW_invV (M' := MX7_choose) [.int v1, .int 0, .int 0] (rest := []) mlRX7_164 okX7_choose (pc2 := 67) rfl dX7_makePlan_64 rfl rfl (Nat.le_of_ble_eq_true rfl) (Nat.le_of_ble_eq_true rfl) (d' := 104) (by omega) q234 ⟨by decide, rfl⟩ (EW_mono (fun _ _ hr => ?_) (sX7_choose v1 0 0  (wr (wr x 234 16 (-1)) 234 17 0) _ _ 0 0 (Nat.le_refl _) h))
    obtain ⟨x3, rfl, rfl, h⟩ := hr
    exact EW_vret rfl dX7_makePlan_67 ⟨_, rfl, rfl, h⟩
  · replace h := h.2 q
    refine EW_aload_n (pc2 := 26) rfl dX7_makePlan_25 0 rfl ?_
    refine AW_getr (r := 242) ⟨gfRX7_33, rfl⟩ (pc2 := 29) rfl dX7_makePlan_26 q234 rfl ?_
    refine EW_aload_n (pc2 := 30) rfl dX7_makePlan_29 2 rfl ?_
    refine AW_getr (r := 68) ⟨gfRX7_151, rfl⟩ (pc2 := 33) rfl dX7_makePlan_30 q66 rfl ?_
    refine EW_iload (pc2 := 35) rfl dX7_makePlan_33 3 rfl ?_
    obtain ⟨b4, h⟩ := h
    refine AW_aald7 (pc2 := 36) rfl dX7_makePlan_35 b4 ?_
    refine AW_geti ⟨gfRX7_155, rfl⟩ (pc2 := 39) rfl dX7_makePlan_36 (isK.o (isK_of b4)) ?_
    refine EW_dup2 (pc2 := 40) rfl dX7_makePlan_39 rfl rfl ?_
    obtain ⟨b5, h⟩ := h
    refine AW_iald (pc2 := 41) rfl dX7_makePlan_40 q242 b5 ?_
    refine EW_iconst (pc2 := 42) (v := 1) rfl dX7_makePlan_41 (by decide) ?_
    refine EW_iadd (pc2 := 43) rfl dX7_makePlan_42 ?_
    obtain ⟨b6, h⟩ := h
    refine AW_iast (pc2 := 44) rfl dX7_makePlan_43 q242 b6 ?_
    refine EW_iinc (v4 + 1) (pc2 := 47) rfl dX7_makePlan_44 3 rfl rfl (by decide) [1, 2, 3, 0] [(0, .ref 234), (1, .int v1), (3, .ref 66), (4, .int (v4 + 1))] rfl ?_
    refine EW_goto (tgt := 16) dX7_makePlan_47 (by decide) ?_
    exact hL16 (v4 + 1) (wr x 242 (Int32.toNatClampNeg (x.1 (98 + Int32.toNatClampNeg v4) 0)) ((x.1 242 (Int32.toNatClampNeg (x.1 (98 + Int32.toNatClampNeg v4) 0))) + 1)) h
set_option maxHeartbeats 4000000 in
set_option maxRecDepth 100000 in
theorem sX7_makePlan (v1 : Int32) (v2 : Int32)  (x : ab_X) (K : ab_X → Prop) (d bc bs : Nat) (hdp : 105 ≤ d) (h : wX7_makePlan v1 v2 x K) : EW MX7_makePlan 0 [(0, .ref 234), (1, .int v1), (2, .int v2), (3, .ref 66)] [] (aS x) d bc bs (liV K) := by
  unfold wX7_makePlan at h
  refine EW_aload_n (pc2 := 1) rfl dX7_makePlan_0 0 rfl ?_
  refine EW_iload_n (pc2 := 2) rfl dX7_makePlan_1 2 rfl ?_
  refine AW_invV (M' := MX7_findNear) [.int v2] (rest := []) mlRX7_137 okX7_findNear (pc2 := 5) rfl dX7_makePlan_2 rfl rfl (Nat.le_of_ble_eq_true rfl) (Nat.le_of_ble_eq_true rfl) (d' := 2) (by omega) q234 ⟨by decide, rfl⟩ (EW_mono (fun _ _ hr => ?_) (sX7_findNear v2  x _ _ 0 0 (Nat.le_refl _) h))
  obtain ⟨x1, rfl, rfl, h⟩ := hr
  refine EW_aload_n (pc2 := 6) rfl dX7_makePlan_5 0 rfl ?_
  refine AW_getr (r := 242) ⟨gfRX7_33, rfl⟩ (pc2 := 9) rfl dX7_makePlan_6 q234 rfl ?_
  refine EW_iconst (pc2 := 10) (v := 0) rfl dX7_makePlan_9 (by decide) ?_
  refine AW_invS (M' := MJ7_fill_53178) [.ref 242, .int 0] (rest := []) mlRX7_140 okJ7_fill_53178 (pc2 := 13) rfl dX7_makePlan_10 rfl rfl (Nat.le_of_ble_eq_true rfl) (Nat.le_of_ble_eq_true rfl) (d' := 0) (by omega) (EW_mono (fun _ _ hr => ?_) (sJ7_fill_53178 242 20 0 q242 x1 _ _ 0 0 (Nat.le_refl _) h))
  obtain ⟨x2, rfl, rfl, h⟩ := hr
  refine EW_iconst (pc2 := 14) (v := 0) rfl dX7_makePlan_13 (by decide) ?_
  refine EW_istore (pc2 := 16) rfl dX7_makePlan_14 (by decide) [1, 2, 3, 4, 0] [(0, .ref 234), (1, .int v1), (2, .int v2), (3, .ref 66), (4, .int 0)] rfl ?_
  refine EW_ls [0, 1, 3, 4] rfl ?_
  exact sX7_makePlan_16 v1 0 x2 K d bc bs hdp h
theorem mlRX11_451 : Cond.methodLink RX11 451 yX7_makePlan ∈ ab_G ∧ Cond.instanceMethod yX7_makePlan ∈ ab_G ∧ Cond.selects RX7 yX7_makePlan yX7_makePlan ∈ ab_G := ⟨ab_in 1650 (by decide +kernel) (by decide +kernel), ab_in 1651 (by decide +kernel) (by decide +kernel), ab_in 1652 (by decide +kernel) (by decide +kernel)⟩
theorem gfRX11_455 : ab_L RX11 455 7 16 := ⟨by decide, by decide, ab_in 692 (by decide +kernel) (by decide +kernel)⟩
abbrev MX11_plan : ab_M := (yX11_plan, cX11_plan, 3, (some .int))
theorem dX11_plan_0 : decode cX11_plan 0 = .ok (.iload_n 1, 1) := by decide +kernel
theorem dX11_plan_1 : decode cX11_plan 1 = .ok (.iconst 1, 1) := by decide +kernel
theorem dX11_plan_2 : decode cX11_plan 2 = .ok (.iconst 4, 1) := by decide +kernel
theorem dX11_plan_3 : decode cX11_plan 3 = .ok (.invokestatic 74, 3) := by decide +kernel
theorem dX11_plan_6 : decode cX11_plan 6 = .ok (.ifCond .eq 13, 3) := by decide +kernel
theorem dX11_plan_9 : decode cX11_plan 9 = .ok (.iload_n 2, 1) := by decide +kernel
theorem dX11_plan_10 : decode cX11_plan 10 = .ok (.iconst 1, 1) := by decide +kernel
theorem dX11_plan_11 : decode cX11_plan 11 = .ok (.bipush 100, 2) := by decide +kernel
theorem dX11_plan_13 : decode cX11_plan 13 = .ok (.invokestatic 74, 3) := by decide +kernel
theorem dX11_plan_16 : decode cX11_plan 16 = .ok (.ifCond .ne 5, 3) := by decide +kernel
theorem dX11_plan_19 : decode cX11_plan 19 = .ok (.iconst (-1), 1) := by decide +kernel
theorem dX11_plan_20 : decode cX11_plan 20 = .ok (.ireturn, 1) := by decide +kernel
theorem dX11_plan_21 : decode cX11_plan 21 = .ok (.aload_n 0, 1) := by decide +kernel
theorem dX11_plan_22 : decode cX11_plan 22 = .ok (.getfield 55, 3) := by decide +kernel
theorem dX11_plan_25 : decode cX11_plan 25 = .ok (.iload_n 1, 1) := by decide +kernel
theorem dX11_plan_26 : decode cX11_plan 26 = .ok (.iload_n 2, 1) := by decide +kernel
theorem dX11_plan_27 : decode cX11_plan 27 = .ok (.aload_n 0, 1) := by decide +kernel
theorem dX11_plan_28 : decode cX11_plan 28 = .ok (.getfield 30, 3) := by decide +kernel
theorem dX11_plan_31 : decode cX11_plan 31 = .ok (.invokevirtual 451, 3) := by decide +kernel
theorem dX11_plan_34 : decode cX11_plan 34 = .ok (.aload_n 0, 1) := by decide +kernel
theorem dX11_plan_35 : decode cX11_plan 35 = .ok (.getfield 55, 3) := by decide +kernel
theorem dX11_plan_38 : decode cX11_plan 38 = .ok (.getfield 455, 3) := by decide +kernel
theorem dX11_plan_41 : decode cX11_plan 41 = .ok (.ireturn, 1) := by decide +kernel
theorem okX11_plan : ab_okM MX11_plan 2 := ⟨by decide, ⟨by decide, by decide⟩, ab_in 1649 (by decide +kernel) (by decide +kernel), ab_in 86 (by decide +kernel) (by decide +kernel), by decide +kernel, by decide⟩
set_option maxHeartbeats 4000000 in
set_option maxRecDepth 100000 in
theorem sX11_plan (v1 : Int32) (v2 : Int32)  (x : ab_X) (K : Int32 → ab_X → Prop) (d bc bs : Nat) (hdp : 106 ≤ d) (h : wX11_plan v1 v2 x K) : EW MX11_plan 0 [(0, .ref 0), (1, .int v1), (2, .int v2)] [] (aS x) d bc bs (liI K) := by
  unfold wX11_plan at h
  refine EW_iload_n (pc2 := 1) rfl dX11_plan_0 1 rfl ?_
  refine EW_iconst (pc2 := 2) (v := 1) rfl dX11_plan_1 (by decide) ?_
  refine EW_iconst (pc2 := 3) (v := 4) rfl dX11_plan_2 (by decide) ?_
  refine AW_invS (M' := MX11_within) [.int v1, .int 1, .int 4] (rest := []) mlRX11_74 okX11_within (pc2 := 6) rfl dX11_plan_3 rfl rfl (Nat.le_of_ble_eq_true rfl) (Nat.le_of_ble_eq_true rfl) (d' := 0) (by omega) (EW_mono (fun _ _ hr => ?_) (sX11_within v1 1 4  x _ _ 0 0 (Nat.le_refl _) h))
  obtain ⟨r1, rfl, rfl, h⟩ := hr
  refine EW_if_eq (tgt := 19) (pc2 := 9) rfl dX11_plan_6 (by decide) (fun q => ?_) (fun q => ?_)
  · replace h := h.1 q
    refine EW_iconst (pc2 := 20) (v := (-1)) rfl dX11_plan_19 (by decide) ?_
    exact AW_iret rfl dX11_plan_20 ⟨_, _, rfl, rfl, h⟩
  · replace h := h.2 q
    refine EW_iload_n (pc2 := 10) rfl dX11_plan_9 2 rfl ?_
    refine EW_iconst (pc2 := 11) (v := 1) rfl dX11_plan_10 (by decide) ?_
    refine EW_bipush (pc2 := 13) (v := 100) rfl dX11_plan_11 (by decide) ?_
    refine AW_invS (M' := MX11_within) [.int v2, .int 1, .int 100] (rest := []) mlRX11_74 okX11_within (pc2 := 16) rfl dX11_plan_13 rfl rfl (Nat.le_of_ble_eq_true rfl) (Nat.le_of_ble_eq_true rfl) (d' := 0) (by omega) (EW_mono (fun _ _ hr => ?_) (sX11_within v2 1 100  x _ _ 0 0 (Nat.le_refl _) h))
    obtain ⟨r2, rfl, rfl, h⟩ := hr
    refine EW_if_ne (tgt := 21) (pc2 := 19) rfl dX11_plan_16 (by decide) (fun q => ?_) (fun q => ?_)
    · replace h := h.1 q
      refine EW_aload_n (pc2 := 22) rfl dX11_plan_21 0 rfl ?_
      refine AW_getr (r := 234) ⟨gfRX11_55, rfl⟩ (pc2 := 25) rfl dX11_plan_22 q0 rfl ?_
      refine EW_iload_n (pc2 := 26) rfl dX11_plan_25 1 rfl ?_
      refine EW_iload_n (pc2 := 27) rfl dX11_plan_26 2 rfl ?_
      refine EW_aload_n (pc2 := 28) rfl dX11_plan_27 0 rfl ?_
      refine AW_getr (r := 66) ⟨gfRX11_30, rfl⟩ (pc2 := 31) rfl dX11_plan_28 q0 rfl ?_
      refine AW_invV (M' := MX7_makePlan) [.int v1, .int v2, .ref 66] (rest := []) mlRX11_451 okX7_makePlan (pc2 := 34) rfl dX11_plan_31 rfl rfl (Nat.le_of_ble_eq_true rfl) (Nat.le_of_ble_eq_true rfl) (d' := 105) (by omega) q234 ⟨by decide, rfl⟩ (EW_mono (fun _ _ hr => ?_) (sX7_makePlan v1 v2  x _ _ 0 0 (Nat.le_refl _) h))
      obtain ⟨x3, rfl, rfl, h⟩ := hr
      refine EW_aload_n (pc2 := 35) rfl dX11_plan_34 0 rfl ?_
      refine AW_getr (r := 234) ⟨gfRX11_55, rfl⟩ (pc2 := 38) rfl dX11_plan_35 q0 rfl ?_
      refine AW_geti ⟨gfRX11_455, rfl⟩ (pc2 := 41) rfl dX11_plan_38 q234 ?_
      exact AW_iret rfl dX11_plan_41 ⟨_, _, rfl, rfl, h⟩
    · replace h := h.2 q
      refine EW_iconst (pc2 := 20) (v := (-1)) rfl dX11_plan_19 (by decide) ?_
      exact AW_iret rfl dX11_plan_20 ⟨_, _, rfl, rfl, h⟩
abbrev MX7_bitAt : ab_M := (yX7_bitAt, cX7_bitAt, 4, (some .int))
theorem dX7_bitAt_0 : decode cX7_bitAt 0 = .ok (.iconst 0, 1) := by decide +kernel
theorem dX7_bitAt_1 : decode cX7_bitAt 1 = .ok (.istore_n 2, 1) := by decide +kernel
theorem dX7_bitAt_2 : decode cX7_bitAt 2 = .ok (.iconst 0, 1) := by decide +kernel
theorem dX7_bitAt_3 : decode cX7_bitAt 3 = .ok (.istore_n 3, 1) := by decide +kernel
theorem dX7_bitAt_4 : decode cX7_bitAt 4 = .ok (.iload_n 3, 1) := by decide +kernel
theorem dX7_bitAt_5 : decode cX7_bitAt 5 = .ok (.bipush 20, 2) := by decide +kernel
theorem dX7_bitAt_7 : decode cX7_bitAt 7 = .ok (.if_icmp .ge 28, 3) := by decide +kernel
theorem dX7_bitAt_10 : decode cX7_bitAt 10 = .ok (.iload_n 0, 1) := by decide +kernel
theorem dX7_bitAt_11 : decode cX7_bitAt 11 = .ok (.iload_n 3, 1) := by decide +kernel
theorem dX7_bitAt_12 : decode cX7_bitAt 12 = .ok (.ishr, 1) := by decide +kernel
theorem dX7_bitAt_13 : decode cX7_bitAt 13 = .ok (.iconst 1, 1) := by decide +kernel
theorem dX7_bitAt_14 : decode cX7_bitAt 14 = .ok (.iand, 1) := by decide +kernel
theorem dX7_bitAt_15 : decode cX7_bitAt 15 = .ok (.iconst 1, 1) := by decide +kernel
theorem dX7_bitAt_16 : decode cX7_bitAt 16 = .ok (.if_icmp .ne 13, 3) := by decide +kernel
theorem dX7_bitAt_19 : decode cX7_bitAt 19 = .ok (.iload_n 2, 1) := by decide +kernel
theorem dX7_bitAt_20 : decode cX7_bitAt 20 = .ok (.iload_n 1, 1) := by decide +kernel
theorem dX7_bitAt_21 : decode cX7_bitAt 21 = .ok (.if_icmp .ne 5, 3) := by decide +kernel
theorem dX7_bitAt_24 : decode cX7_bitAt 24 = .ok (.iload_n 3, 1) := by decide +kernel
theorem dX7_bitAt_25 : decode cX7_bitAt 25 = .ok (.ireturn, 1) := by decide +kernel
theorem dX7_bitAt_26 : decode cX7_bitAt 26 = .ok (.iinc 2 1, 3) := by decide +kernel
theorem dX7_bitAt_29 : decode cX7_bitAt 29 = .ok (.iinc 3 1, 3) := by decide +kernel
theorem dX7_bitAt_32 : decode cX7_bitAt 32 = .ok (.goto (-28), 3) := by decide +kernel
theorem dX7_bitAt_35 : decode cX7_bitAt 35 = .ok (.iconst (-1), 1) := by decide +kernel
theorem dX7_bitAt_36 : decode cX7_bitAt 36 = .ok (.ireturn, 1) := by decide +kernel
theorem okX7_bitAt : ab_okM MX7_bitAt 2 := ⟨by decide, ⟨by decide, by decide⟩, ab_in 1683 (by decide +kernel) (by decide +kernel), ab_in 98 (by decide +kernel) (by decide +kernel), by decide +kernel, by decide⟩
set_option maxHeartbeats 4000000 in
set_option maxRecDepth 100000 in
theorem sX7_bitAt_4 (v0 : Int32) (v1 : Int32) (v2 : Int32) (v3 : Int32)  (x : ab_X) (K : Int32 → Prop)  (d bc bs : Nat) (hdp : 0 ≤ d)  (h : Lp2 (lX7_bitAt_4 v0 v1 x K ) v2 v3) : EW MX7_bitAt 4 [(0, .int v0), (1, .int v1), (2, .int v2), (3, .int v3)] [] (aS x) d bc bs (liP x K) := by
  refine Lp2.use (P := fun v2 v3 => EW MX7_bitAt 4 [(0, .int v0), (1, .int v1), (2, .int v2), (3, .int v3)] [] (aS x) d bc bs (liP x K)) (fun L4 v2 v3 hL4 h => ?_) v2 v3 h
  unfold lX7_bitAt_4 at h
  refine EW_iload_n (pc2 := 5) rfl dX7_bitAt_4 3 rfl ?_
  refine EW_bipush (pc2 := 7) (v := 20) rfl dX7_bitAt_5 (by decide) ?_
  refine EW_icmp_ge (tgt := 35) (pc2 := 10) rfl dX7_bitAt_7 (by decide) (fun q => ?_) (fun q => ?_)
  · replace h := h.1 q
    refine EW_iconst (pc2 := 36) (v := (-1)) rfl dX7_bitAt_35 (by decide) ?_
    exact AW_iret rfl dX7_bitAt_36 ⟨_, rfl, rfl, h⟩
  · replace h := h.2 q
    refine EW_iload_n (pc2 := 11) rfl dX7_bitAt_10 0 rfl ?_
    refine EW_iload_n (pc2 := 12) rfl dX7_bitAt_11 3 rfl ?_
    refine EW_ishr (pc2 := 13) rfl dX7_bitAt_12 ?_
    refine EW_iconst (pc2 := 14) (v := 1) rfl dX7_bitAt_13 (by decide) ?_
    refine EW_iand (pc2 := 15) rfl dX7_bitAt_14 ?_
    refine EW_iconst (pc2 := 16) (v := 1) rfl dX7_bitAt_15 (by decide) ?_
    refine EW_icmp_ne (tgt := 29) (pc2 := 19) rfl dX7_bitAt_16 (by decide) (fun q => ?_) (fun q => ?_)
    · replace h := h.1 q
      refine EW_iinc (v3 + 1) (pc2 := 32) rfl dX7_bitAt_29 3 rfl rfl (by decide) [1, 2, 3, 0] [(0, .int v0), (1, .int v1), (2, .int v2), (3, .int (v3 + 1))] rfl ?_
      refine EW_goto (tgt := 4) dX7_bitAt_32 (by decide) ?_
      exact hL4 v2 (v3 + 1) h
    · replace h := h.2 q
      refine EW_iload_n (pc2 := 20) rfl dX7_bitAt_19 2 rfl ?_
      refine EW_iload_n (pc2 := 21) rfl dX7_bitAt_20 1 rfl ?_
      refine EW_icmp_ne (tgt := 26) (pc2 := 24) rfl dX7_bitAt_21 (by decide) (fun q => ?_) (fun q => ?_)
      · replace h := h.1 q
        refine EW_iinc (v2 + 1) (pc2 := 29) rfl dX7_bitAt_26 2 rfl rfl (by decide) [1, 2, 0, 3] [(0, .int v0), (1, .int v1), (2, .int (v2 + 1)), (3, .int v3)] rfl ?_
        refine EW_iinc (v3 + 1) (pc2 := 32) rfl dX7_bitAt_29 3 rfl rfl (by decide) [1, 2, 3, 0] [(0, .int v0), (1, .int v1), (2, .int (v2 + 1)), (3, .int (v3 + 1))] rfl ?_
        refine EW_goto (tgt := 4) dX7_bitAt_32 (by decide) ?_
        exact hL4 (v2 + 1) (v3 + 1) h
      · replace h := h.2 q
        refine EW_iload_n (pc2 := 25) rfl dX7_bitAt_24 3 rfl ?_
        exact AW_iret rfl dX7_bitAt_25 ⟨_, rfl, rfl, h⟩
set_option maxHeartbeats 4000000 in
set_option maxRecDepth 100000 in
theorem sX7_bitAt (v0 : Int32) (v1 : Int32)  (x : ab_X) (K : Int32 → Prop) (d bc bs : Nat) (hdp : 0 ≤ d) (h : wX7_bitAt v0 v1 x K) : EW MX7_bitAt 0 [(0, .int v0), (1, .int v1)] [] (aS x) d bc bs (liP x K) := by
  unfold wX7_bitAt at h
  refine EW_iconst (pc2 := 1) (v := 0) rfl dX7_bitAt_0 (by decide) ?_
  refine EW_istore_n (pc2 := 2) rfl dX7_bitAt_1 (by decide) [1, 2, 0] [(0, .int v0), (1, .int v1), (2, .int 0)] rfl ?_
  refine EW_iconst (pc2 := 3) (v := 0) rfl dX7_bitAt_2 (by decide) ?_
  refine EW_istore_n (pc2 := 4) rfl dX7_bitAt_3 (by decide) [1, 2, 3, 0] [(0, .int v0), (1, .int v1), (2, .int 0), (3, .int 0)] rfl ?_
  exact sX7_bitAt_4 v0 v1 0 0 x K d bc bs hdp h
theorem gfRX11_458 : ab_L RX11 458 7 17 := ⟨by decide, by decide, ab_in 694 (by decide +kernel) (by decide +kernel)⟩
theorem mlRX11_461 : Cond.methodLink RX11 461 yX7_bitAt ∈ ab_G ∧ Cond.static yX7_bitAt ∈ ab_G := ⟨ab_in 1681 (by decide +kernel) (by decide +kernel), ab_in 1682 (by decide +kernel) (by decide +kernel)⟩
abbrev MX11_planned : ab_M := (yX11_planned, cX11_planned, 4, (some .int))
theorem dX11_planned_0 : decode cX11_planned 0 = .ok (.iload_n 1, 1) := by decide +kernel
theorem dX11_planned_1 : decode cX11_planned 1 = .ok (.iconst 1, 1) := by decide +kernel
theorem dX11_planned_2 : decode cX11_planned 2 = .ok (.iconst 4, 1) := by decide +kernel
theorem dX11_planned_3 : decode cX11_planned 3 = .ok (.invokestatic 74, 3) := by decide +kernel
theorem dX11_planned_6 : decode cX11_planned 6 = .ok (.ifCond .eq 21, 3) := by decide +kernel
theorem dX11_planned_9 : decode cX11_planned 9 = .ok (.iload_n 2, 1) := by decide +kernel
theorem dX11_planned_10 : decode cX11_planned 10 = .ok (.iconst 1, 1) := by decide +kernel
theorem dX11_planned_11 : decode cX11_planned 11 = .ok (.bipush 100, 2) := by decide +kernel
theorem dX11_planned_13 : decode cX11_planned 13 = .ok (.invokestatic 74, 3) := by decide +kernel
theorem dX11_planned_16 : decode cX11_planned 16 = .ok (.ifCond .eq 11, 3) := by decide +kernel
theorem dX11_planned_19 : decode cX11_planned 19 = .ok (.iload_n 3, 1) := by decide +kernel
theorem dX11_planned_20 : decode cX11_planned 20 = .ok (.iload_n 1, 1) := by decide +kernel
theorem dX11_planned_21 : decode cX11_planned 21 = .ok (.invokestatic 86, 3) := by decide +kernel
theorem dX11_planned_24 : decode cX11_planned 24 = .ok (.ifCond .ne 5, 3) := by decide +kernel
theorem dX11_planned_27 : decode cX11_planned 27 = .ok (.iconst (-1), 1) := by decide +kernel
theorem dX11_planned_28 : decode cX11_planned 28 = .ok (.ireturn, 1) := by decide +kernel
theorem dX11_planned_29 : decode cX11_planned 29 = .ok (.aload_n 0, 1) := by decide +kernel
theorem dX11_planned_30 : decode cX11_planned 30 = .ok (.getfield 55, 3) := by decide +kernel
theorem dX11_planned_33 : decode cX11_planned 33 = .ok (.iload_n 1, 1) := by decide +kernel
theorem dX11_planned_34 : decode cX11_planned 34 = .ok (.iload_n 2, 1) := by decide +kernel
theorem dX11_planned_35 : decode cX11_planned 35 = .ok (.aload_n 0, 1) := by decide +kernel
theorem dX11_planned_36 : decode cX11_planned 36 = .ok (.getfield 30, 3) := by decide +kernel
theorem dX11_planned_39 : decode cX11_planned 39 = .ok (.invokevirtual 451, 3) := by decide +kernel
theorem dX11_planned_42 : decode cX11_planned 42 = .ok (.aload_n 0, 1) := by decide +kernel
theorem dX11_planned_43 : decode cX11_planned 43 = .ok (.getfield 55, 3) := by decide +kernel
theorem dX11_planned_46 : decode cX11_planned 46 = .ok (.getfield 458, 3) := by decide +kernel
theorem dX11_planned_49 : decode cX11_planned 49 = .ok (.iload_n 3, 1) := by decide +kernel
theorem dX11_planned_50 : decode cX11_planned 50 = .ok (.invokestatic 461, 3) := by decide +kernel
theorem dX11_planned_53 : decode cX11_planned 53 = .ok (.ireturn, 1) := by decide +kernel
theorem okX11_planned : ab_okM MX11_planned 3 := ⟨by decide, ⟨by decide, by decide⟩, ab_in 1680 (by decide +kernel) (by decide +kernel), ab_in 86 (by decide +kernel) (by decide +kernel), by decide +kernel, by decide⟩
set_option maxHeartbeats 4000000 in
set_option maxRecDepth 100000 in
theorem sX11_planned (v1 : Int32) (v2 : Int32) (v3 : Int32)  (x : ab_X) (K : Int32 → ab_X → Prop) (d bc bs : Nat) (hdp : 106 ≤ d) (h : wX11_planned v1 v2 v3 x K) : EW MX11_planned 0 [(0, .ref 0), (1, .int v1), (2, .int v2), (3, .int v3)] [] (aS x) d bc bs (liI K) := by
  unfold wX11_planned at h
  refine EW_iload_n (pc2 := 1) rfl dX11_planned_0 1 rfl ?_
  refine EW_iconst (pc2 := 2) (v := 1) rfl dX11_planned_1 (by decide) ?_
  refine EW_iconst (pc2 := 3) (v := 4) rfl dX11_planned_2 (by decide) ?_
  refine AW_invS (M' := MX11_within) [.int v1, .int 1, .int 4] (rest := []) mlRX11_74 okX11_within (pc2 := 6) rfl dX11_planned_3 rfl rfl (Nat.le_of_ble_eq_true rfl) (Nat.le_of_ble_eq_true rfl) (d' := 0) (by omega) (EW_mono (fun _ _ hr => ?_) (sX11_within v1 1 4  x _ _ 0 0 (Nat.le_refl _) h))
  obtain ⟨r1, rfl, rfl, h⟩ := hr
  refine EW_if_eq (tgt := 27) (pc2 := 9) rfl dX11_planned_6 (by decide) (fun q => ?_) (fun q => ?_)
  · replace h := h.1 q
    refine EW_iconst (pc2 := 28) (v := (-1)) rfl dX11_planned_27 (by decide) ?_
    exact AW_iret rfl dX11_planned_28 ⟨_, _, rfl, rfl, h⟩
  · replace h := h.2 q
    refine EW_iload_n (pc2 := 10) rfl dX11_planned_9 2 rfl ?_
    refine EW_iconst (pc2 := 11) (v := 1) rfl dX11_planned_10 (by decide) ?_
    refine EW_bipush (pc2 := 13) (v := 100) rfl dX11_planned_11 (by decide) ?_
    refine AW_invS (M' := MX11_within) [.int v2, .int 1, .int 100] (rest := []) mlRX11_74 okX11_within (pc2 := 16) rfl dX11_planned_13 rfl rfl (Nat.le_of_ble_eq_true rfl) (Nat.le_of_ble_eq_true rfl) (d' := 0) (by omega) (EW_mono (fun _ _ hr => ?_) (sX11_within v2 1 100  x _ _ 0 0 (Nat.le_refl _) h))
    obtain ⟨r2, rfl, rfl, h⟩ := hr
    refine EW_if_eq (tgt := 27) (pc2 := 19) rfl dX11_planned_16 (by decide) (fun q => ?_) (fun q => ?_)
    · replace h := h.1 q
      refine EW_iconst (pc2 := 28) (v := (-1)) rfl dX11_planned_27 (by decide) ?_
      exact AW_iret rfl dX11_planned_28 ⟨_, _, rfl, rfl, h⟩
    · replace h := h.2 q
      refine EW_iload_n (pc2 := 20) rfl dX11_planned_19 3 rfl ?_
      refine EW_iload_n (pc2 := 21) rfl dX11_planned_20 1 rfl ?_
      refine AW_invS (M' := MX11_below) [.int v3, .int v1] (rest := []) mlRX11_86 okX11_below (pc2 := 24) rfl dX11_planned_21 rfl rfl (Nat.le_of_ble_eq_true rfl) (Nat.le_of_ble_eq_true rfl) (d' := 0) (by omega) (EW_mono (fun _ _ hr => ?_) (sX11_below v3 v1  x _ _ 0 0 (Nat.le_refl _) h))
      obtain ⟨r3, rfl, rfl, h⟩ := hr
      refine EW_if_ne (tgt := 29) (pc2 := 27) rfl dX11_planned_24 (by decide) (fun q => ?_) (fun q => ?_)
      · replace h := h.1 q
        refine EW_aload_n (pc2 := 30) rfl dX11_planned_29 0 rfl ?_
        refine AW_getr (r := 234) ⟨gfRX11_55, rfl⟩ (pc2 := 33) rfl dX11_planned_30 q0 rfl ?_
        refine EW_iload_n (pc2 := 34) rfl dX11_planned_33 1 rfl ?_
        refine EW_iload_n (pc2 := 35) rfl dX11_planned_34 2 rfl ?_
        refine EW_aload_n (pc2 := 36) rfl dX11_planned_35 0 rfl ?_
        refine AW_getr (r := 66) ⟨gfRX11_30, rfl⟩ (pc2 := 39) rfl dX11_planned_36 q0 rfl ?_
        refine AW_invV (M' := MX7_makePlan) [.int v1, .int v2, .ref 66] (rest := []) mlRX11_451 okX7_makePlan (pc2 := 42) rfl dX11_planned_39 rfl rfl (Nat.le_of_ble_eq_true rfl) (Nat.le_of_ble_eq_true rfl) (d' := 105) (by omega) q234 ⟨by decide, rfl⟩ (EW_mono (fun _ _ hr => ?_) (sX7_makePlan v1 v2  x _ _ 0 0 (Nat.le_refl _) h))
        obtain ⟨x4, rfl, rfl, h⟩ := hr
        refine EW_aload_n (pc2 := 43) rfl dX11_planned_42 0 rfl ?_
        refine AW_getr (r := 234) ⟨gfRX11_55, rfl⟩ (pc2 := 46) rfl dX11_planned_43 q0 rfl ?_
        refine AW_geti ⟨gfRX11_458, rfl⟩ (pc2 := 49) rfl dX11_planned_46 q234 ?_
        refine EW_iload_n (pc2 := 50) rfl dX11_planned_49 3 rfl ?_
        refine AW_invS (M' := MX7_bitAt) [.int (x4.1 234 17), .int v3] (rest := []) mlRX11_461 okX7_bitAt (pc2 := 53) rfl dX11_planned_50 rfl rfl (Nat.le_of_ble_eq_true rfl) (Nat.le_of_ble_eq_true rfl) (d' := 0) (by omega) (EW_mono (fun _ _ hr => ?_) (sX7_bitAt (x4.1 234 17) v3  x4 _ _ 0 0 (Nat.le_refl _) h))
        obtain ⟨r5, rfl, rfl, h⟩ := hr
        exact AW_iret rfl dX11_planned_53 ⟨_, _, rfl, rfl, h⟩
      · replace h := h.2 q
        refine EW_iconst (pc2 := 28) (v := (-1)) rfl dX11_planned_27 (by decide) ?_
        exact AW_iret rfl dX11_planned_28 ⟨_, _, rfl, rfl, h⟩
theorem mlRX11_471 : Cond.methodLink RX11 471 yX11_kept ∈ ab_G ∧ Cond.static yX11_kept ∈ ab_G := ⟨ab_in 1697 (by decide +kernel) (by decide +kernel), ab_in 1698 (by decide +kernel) (by decide +kernel)⟩
abbrev MX11_put : ab_M := (yX11_put, cX11_put, 4, (some .boolean))
theorem dX11_put_0 : decode cX11_put 0 = .ok (.aload_n 0, 1) := by decide +kernel
theorem dX11_put_1 : decode cX11_put 1 = .ok (.iload_n 1, 1) := by decide +kernel
theorem dX11_put_2 : decode cX11_put 2 = .ok (.invokevirtual 467, 3) := by decide +kernel
theorem dX11_put_5 : decode cX11_put 5 = .ok (.ifCond .eq 22, 3) := by decide +kernel
theorem dX11_put_8 : decode cX11_put 8 = .ok (.iload_n 2, 1) := by decide +kernel
theorem dX11_put_9 : decode cX11_put 9 = .ok (.invokestatic 70, 3) := by decide +kernel
theorem dX11_put_12 : decode cX11_put 12 = .ok (.ifCond .eq 15, 3) := by decide +kernel
theorem dX11_put_15 : decode cX11_put 15 = .ok (.iload_n 3, 1) := by decide +kernel
theorem dX11_put_16 : decode cX11_put 16 = .ok (.ldc_w 470, 3) := by decide +kernel
theorem dX11_put_19 : decode cX11_put 19 = .ok (.ldc 104, 2) := by decide +kernel
theorem dX11_put_21 : decode cX11_put 21 = .ok (.invokestatic 74, 3) := by decide +kernel
theorem dX11_put_24 : decode cX11_put 24 = .ok (.ifCond .ne 5, 3) := by decide +kernel
theorem dX11_put_27 : decode cX11_put 27 = .ok (.iconst 0, 1) := by decide +kernel
theorem dX11_put_28 : decode cX11_put 28 = .ok (.ireturn, 1) := by decide +kernel
theorem dX11_put_29 : decode cX11_put 29 = .ok (.aload_n 0, 1) := by decide +kernel
theorem dX11_put_30 : decode cX11_put 30 = .ok (.getfield 67, 3) := by decide +kernel
theorem dX11_put_33 : decode cX11_put 33 = .ok (.iload_n 1, 1) := by decide +kernel
theorem dX11_put_34 : decode cX11_put 34 = .ok (.bipush 20, 2) := by decide +kernel
theorem dX11_put_36 : decode cX11_put 36 = .ok (.imul, 1) := by decide +kernel
theorem dX11_put_37 : decode cX11_put 37 = .ok (.iload_n 2, 1) := by decide +kernel
theorem dX11_put_38 : decode cX11_put 38 = .ok (.iadd, 1) := by decide +kernel
theorem dX11_put_39 : decode cX11_put 39 = .ok (.aload_n 0, 1) := by decide +kernel
theorem dX11_put_40 : decode cX11_put 40 = .ok (.getfield 59, 3) := by decide +kernel
theorem dX11_put_43 : decode cX11_put 43 = .ok (.iload_n 1, 1) := by decide +kernel
theorem dX11_put_44 : decode cX11_put 44 = .ok (.iaload, 1) := by decide +kernel
theorem dX11_put_45 : decode cX11_put 45 = .ok (.iload_n 3, 1) := by decide +kernel
theorem dX11_put_46 : decode cX11_put 46 = .ok (.invokestatic 471, 3) := by decide +kernel
theorem dX11_put_49 : decode cX11_put 49 = .ok (.iastore, 1) := by decide +kernel
theorem dX11_put_50 : decode cX11_put 50 = .ok (.iconst 1, 1) := by decide +kernel
theorem dX11_put_51 : decode cX11_put 51 = .ok (.ireturn, 1) := by decide +kernel
theorem okX11_put : ab_okM MX11_put 3 := ⟨by decide, ⟨by decide, by decide⟩, ab_in 1691 (by decide +kernel) (by decide +kernel), ab_in 86 (by decide +kernel) (by decide +kernel), by decide +kernel, by decide⟩
set_option maxHeartbeats 4000000 in
set_option maxRecDepth 100000 in
theorem sX11_put (v1 : Int32) (v2 : Int32) (v3 : Int32)  (x : ab_X) (K : Int32 → ab_X → Prop) (d bc bs : Nat) (hdp : 2 ≤ d) (h : wX11_put v1 v2 v3 x K) : EW MX11_put 0 [(0, .ref 0), (1, .int v1), (2, .int v2), (3, .int v3)] [] (aS x) d bc bs (liI K) := by
  unfold wX11_put at h
  refine EW_aload_n (pc2 := 1) rfl dX11_put_0 0 rfl ?_
  refine EW_iload_n (pc2 := 2) rfl dX11_put_1 1 rfl ?_
  refine AW_invV (M' := MX11_hasRow) [.int v1] (rest := []) mlRX11_467 okX11_hasRow (pc2 := 5) rfl dX11_put_2 rfl rfl (Nat.le_of_ble_eq_true rfl) (Nat.le_of_ble_eq_true rfl) (d' := 1) (by omega) q0 ⟨by decide, rfl⟩ (EW_mono (fun _ _ hr => ?_) (sX11_hasRow v1  x _ _ 0 0 (Nat.le_refl _) h))
  obtain ⟨r1, rfl, rfl, h⟩ := hr
  refine EW_if_eq (tgt := 27) (pc2 := 8) rfl dX11_put_5 (by decide) (fun q => ?_) (fun q => ?_)
  · replace h := h.1 q
    refine EW_iconst (pc2 := 28) (v := 0) rfl dX11_put_27 (by decide) ?_
    exact AW_zret rfl isB0 dX11_put_28 ⟨_, _, rfl, rfl, h⟩
  · replace h := h.2 q
    refine EW_iload_n (pc2 := 9) rfl dX11_put_8 2 rfl ?_
    refine AW_invS (M' := MX11_isCorner) [.int v2] (rest := []) mlRX11_70 okX11_isCorner (pc2 := 12) rfl dX11_put_9 rfl rfl (Nat.le_of_ble_eq_true rfl) (Nat.le_of_ble_eq_true rfl) (d' := 0) (by omega) (EW_mono (fun _ _ hr => ?_) (sX11_isCorner v2  x _ _ 0 0 (Nat.le_refl _) h))
    obtain ⟨r2, rfl, rfl, h⟩ := hr
    refine EW_if_eq (tgt := 27) (pc2 := 15) rfl dX11_put_12 (by decide) (fun q => ?_) (fun q => ?_)
    · replace h := h.1 q
      refine EW_iconst (pc2 := 28) (v := 0) rfl dX11_put_27 (by decide) ?_
      exact AW_zret rfl isB0 dX11_put_28 ⟨_, _, rfl, rfl, h⟩
    · replace h := h.2 q
      refine EW_iload_n (pc2 := 16) rfl dX11_put_15 3 rfl ?_
      refine EW_ldcw cnRX11_470 (pc2 := 19) rfl dX11_put_16 ?_
      refine EW_ldc cnRX11_104 (pc2 := 21) rfl dX11_put_19 ?_
      refine AW_invS (M' := MX11_within) [.int v3, .int (-1000000), .int 1000000] (rest := []) mlRX11_74 okX11_within (pc2 := 24) rfl dX11_put_21 rfl rfl (Nat.le_of_ble_eq_true rfl) (Nat.le_of_ble_eq_true rfl) (d' := 0) (by omega) (EW_mono (fun _ _ hr => ?_) (sX11_within v3 (-1000000) 1000000  x _ _ 0 0 (Nat.le_refl _) h))
      obtain ⟨r3, rfl, rfl, h⟩ := hr
      refine EW_if_ne (tgt := 29) (pc2 := 27) rfl dX11_put_24 (by decide) (fun q => ?_) (fun q => ?_)
      · replace h := h.1 q
        refine EW_aload_n (pc2 := 30) rfl dX11_put_29 0 rfl ?_
        refine AW_getr (r := 245) ⟨gfRX11_67, rfl⟩ (pc2 := 33) rfl dX11_put_30 q0 rfl ?_
        refine EW_iload_n (pc2 := 34) rfl dX11_put_33 1 rfl ?_
        refine EW_bipush (pc2 := 36) (v := 20) rfl dX11_put_34 (by decide) ?_
        refine EW_imul (pc2 := 37) rfl dX11_put_36 ?_
        refine EW_iload_n (pc2 := 38) rfl dX11_put_37 2 rfl ?_
        refine EW_iadd (pc2 := 39) rfl dX11_put_38 ?_
        refine EW_aload_n (pc2 := 40) rfl dX11_put_39 0 rfl ?_
        refine AW_getr (r := 243) ⟨gfRX11_59, rfl⟩ (pc2 := 43) rfl dX11_put_40 q0 rfl ?_
        refine EW_iload_n (pc2 := 44) rfl dX11_put_43 1 rfl ?_
        obtain ⟨b4, h⟩ := h
        refine AW_iald (pc2 := 45) rfl dX11_put_44 q243 b4 ?_
        refine EW_iload_n (pc2 := 46) rfl dX11_put_45 3 rfl ?_
        refine AW_invS (M' := MX11_kept) [.int (x.1 243 (Int32.toNatClampNeg v1)), .int v3] (rest := [.int ((v1 * 20) + v2), .ref 245]) mlRX11_471 okX11_kept (pc2 := 49) rfl dX11_put_46 rfl rfl (Nat.le_of_ble_eq_true rfl) (Nat.le_of_ble_eq_true rfl) (d' := 0) (by omega) (EW_mono (fun _ _ hr => ?_) (sX11_kept (x.1 243 (Int32.toNatClampNeg v1)) v3  x _ _ 0 0 (Nat.le_refl _) h))
        obtain ⟨r5, rfl, rfl, h⟩ := hr
        obtain ⟨b6, h⟩ := h
        refine AW_iast (pc2 := 50) rfl dX11_put_49 q245 b6 ?_
        refine EW_iconst (pc2 := 51) (v := 1) rfl dX11_put_50 (by decide) ?_
        exact AW_zret rfl isB1 dX11_put_51 ⟨_, _, rfl, rfl, h⟩
      · replace h := h.2 q
        refine EW_iconst (pc2 := 28) (v := 0) rfl dX11_put_27 (by decide) ?_
        exact AW_zret rfl isB0 dX11_put_28 ⟨_, _, rfl, rfl, h⟩
theorem mlRX11_310 : Cond.methodLink RX11 310 yX2_hasHose ∈ ab_G ∧ Cond.instanceMethod yX2_hasHose ∈ ab_G ∧ Cond.selects RX2 yX2_hasHose yX2_hasHose ∈ ab_G := ⟨ab_in 1027 (by decide +kernel) (by decide +kernel), ab_in 972 (by decide +kernel) (by decide +kernel), ab_in 973 (by decide +kernel) (by decide +kernel)⟩
theorem gfRX11_314 : ab_L RX11 314 4 1 := ⟨by decide, by decide, ab_in 220 (by decide +kernel) (by decide +kernel)⟩
theorem mlRX11_317 : Cond.methodLink RX11 317 yX10_nearestHead ∈ ab_G ∧ Cond.instanceMethod yX10_nearestHead ∈ ab_G ∧ Cond.selects RX10 yX10_nearestHead yX10_nearestHead ∈ ab_G := ⟨ab_in 1028 (by decide +kernel) (by decide +kernel), ab_in 1029 (by decide +kernel) (by decide +kernel), ab_in 1030 (by decide +kernel) (by decide +kernel)⟩
theorem mlRX11_320 : Cond.methodLink RX11 320 yX10_topFloor ∈ ab_G ∧ Cond.instanceMethod yX10_topFloor ∈ ab_G ∧ Cond.selects RX10 yX10_topFloor yX10_topFloor ∈ ab_G := ⟨ab_in 1034 (by decide +kernel) (by decide +kernel), ab_in 1035 (by decide +kernel) (by decide +kernel), ab_in 1036 (by decide +kernel) (by decide +kernel)⟩
abbrev MX11_reach : ab_M := (yX11_reach, cX11_reach, 4, (some .int))
theorem dX11_reach_0 : decode cX11_reach 0 = .ok (.aload_n 0, 1) := by decide +kernel
theorem dX11_reach_1 : decode cX11_reach 1 = .ok (.getfield 30, 3) := by decide +kernel
theorem dX11_reach_4 : decode cX11_reach 4 = .ok (.iload_n 1, 1) := by decide +kernel
theorem dX11_reach_5 : decode cX11_reach 5 = .ok (.invokevirtual 256, 3) := by decide +kernel
theorem dX11_reach_8 : decode cX11_reach 8 = .ok (.ifCond .eq 29, 3) := by decide +kernel
theorem dX11_reach_11 : decode cX11_reach 11 = .ok (.aload_n 0, 1) := by decide +kernel
theorem dX11_reach_12 : decode cX11_reach 12 = .ok (.getfield 21, 3) := by decide +kernel
theorem dX11_reach_15 : decode cX11_reach 15 = .ok (.iload_n 2, 1) := by decide +kernel
theorem dX11_reach_16 : decode cX11_reach 16 = .ok (.invokevirtual 124, 3) := by decide +kernel
theorem dX11_reach_19 : decode cX11_reach 19 = .ok (.ifCond .eq 18, 3) := by decide +kernel
theorem dX11_reach_22 : decode cX11_reach 22 = .ok (.aload_n 0, 1) := by decide +kernel
theorem dX11_reach_23 : decode cX11_reach 23 = .ok (.getfield 30, 3) := by decide +kernel
theorem dX11_reach_26 : decode cX11_reach 26 = .ok (.getfield 241, 3) := by decide +kernel
theorem dX11_reach_29 : decode cX11_reach 29 = .ok (.iload_n 1, 1) := by decide +kernel
theorem dX11_reach_30 : decode cX11_reach 30 = .ok (.aaload, 1) := by decide +kernel
theorem dX11_reach_31 : decode cX11_reach 31 = .ok (.invokevirtual 310, 3) := by decide +kernel
theorem dX11_reach_34 : decode cX11_reach 34 = .ok (.ifCond .ne 5, 3) := by decide +kernel
theorem dX11_reach_37 : decode cX11_reach 37 = .ok (.iconst (-1), 1) := by decide +kernel
theorem dX11_reach_38 : decode cX11_reach 38 = .ok (.ireturn, 1) := by decide +kernel
theorem dX11_reach_39 : decode cX11_reach 39 = .ok (.aload_n 0, 1) := by decide +kernel
theorem dX11_reach_40 : decode cX11_reach 40 = .ok (.getfield 21, 3) := by decide +kernel
theorem dX11_reach_43 : decode cX11_reach 43 = .ok (.getfield 127, 3) := by decide +kernel
theorem dX11_reach_46 : decode cX11_reach 46 = .ok (.iload_n 2, 1) := by decide +kernel
theorem dX11_reach_47 : decode cX11_reach 47 = .ok (.aaload, 1) := by decide +kernel
theorem dX11_reach_48 : decode cX11_reach 48 = .ok (.astore_n 3, 1) := by decide +kernel
theorem dX11_reach_49 : decode cX11_reach 49 = .ok (.aload_n 0, 1) := by decide +kernel
theorem dX11_reach_50 : decode cX11_reach 50 = .ok (.getfield 21, 3) := by decide +kernel
theorem dX11_reach_53 : decode cX11_reach 53 = .ok (.aload_n 3, 1) := by decide +kernel
theorem dX11_reach_54 : decode cX11_reach 54 = .ok (.aload_n 0, 1) := by decide +kernel
theorem dX11_reach_55 : decode cX11_reach 55 = .ok (.getfield 21, 3) := by decide +kernel
theorem dX11_reach_58 : decode cX11_reach 58 = .ok (.aload_n 3, 1) := by decide +kernel
theorem dX11_reach_59 : decode cX11_reach 59 = .ok (.getfield 314, 3) := by decide +kernel
theorem dX11_reach_62 : decode cX11_reach 62 = .ok (.invokevirtual 317, 3) := by decide +kernel
theorem dX11_reach_65 : decode cX11_reach 65 = .ok (.aload_n 0, 1) := by decide +kernel
theorem dX11_reach_66 : decode cX11_reach 66 = .ok (.getfield 30, 3) := by decide +kernel
theorem dX11_reach_69 : decode cX11_reach 69 = .ok (.getfield 241, 3) := by decide +kernel
theorem dX11_reach_72 : decode cX11_reach 72 = .ok (.iload_n 1, 1) := by decide +kernel
theorem dX11_reach_73 : decode cX11_reach 73 = .ok (.aaload, 1) := by decide +kernel
theorem dX11_reach_74 : decode cX11_reach 74 = .ok (.getfield 263, 3) := by decide +kernel
theorem dX11_reach_77 : decode cX11_reach 77 = .ok (.invokevirtual 320, 3) := by decide +kernel
theorem dX11_reach_80 : decode cX11_reach 80 = .ok (.ireturn, 1) := by decide +kernel
theorem okX11_reach : ab_okM MX11_reach 2 := ⟨by decide, ⟨by decide, by decide⟩, ab_in 1026 (by decide +kernel) (by decide +kernel), ab_in 86 (by decide +kernel) (by decide +kernel), by decide +kernel, by decide⟩
set_option maxHeartbeats 4000000 in
set_option maxRecDepth 100000 in
theorem sX11_reach (v1 : Int32) (v2 : Int32)  (x : ab_X) (K : Int32 → Prop) (d bc bs : Nat) (hdp : 3 ≤ d) (h : wX11_reach v1 v2 x K) : EW MX11_reach 0 [(0, .ref 0), (1, .int v1), (2, .int v2)] [] (aS x) d bc bs (liP x K) := by
  unfold wX11_reach at h
  refine EW_aload_n (pc2 := 1) rfl dX11_reach_0 0 rfl ?_
  refine AW_getr (r := 66) ⟨gfRX11_30, rfl⟩ (pc2 := 4) rfl dX11_reach_1 q0 rfl ?_
  refine EW_iload_n (pc2 := 5) rfl dX11_reach_4 1 rfl ?_
  refine AW_invV (M' := MX0_has) [.int v1] (rest := []) mlRX11_256 okX0_has (pc2 := 8) rfl dX11_reach_5 rfl rfl (Nat.le_of_ble_eq_true rfl) (Nat.le_of_ble_eq_true rfl) (d' := 1) (by omega) q66 ⟨by decide, rfl⟩ (EW_mono (fun _ _ hr => ?_) (sX0_has v1  x _ _ 0 0 (Nat.le_refl _) h))
  obtain ⟨r1, rfl, rfl, h⟩ := hr
  refine EW_if_eq (tgt := 37) (pc2 := 11) rfl dX11_reach_8 (by decide) (fun q => ?_) (fun q => ?_)
  · replace h := h.1 q
    refine EW_iconst (pc2 := 38) (v := (-1)) rfl dX11_reach_37 (by decide) ?_
    exact AW_iret rfl dX11_reach_38 ⟨_, rfl, rfl, h⟩
  · replace h := h.2 q
    refine EW_aload_n (pc2 := 12) rfl dX11_reach_11 0 rfl ?_
    refine AW_getr (r := 9) ⟨gfRX11_21, rfl⟩ (pc2 := 15) rfl dX11_reach_12 q0 rfl ?_
    refine EW_iload_n (pc2 := 16) rfl dX11_reach_15 2 rfl ?_
    refine AW_invV (M' := MX10_has) [.int v2] (rest := []) mlRX11_124 okX10_has (pc2 := 19) rfl dX11_reach_16 rfl rfl (Nat.le_of_ble_eq_true rfl) (Nat.le_of_ble_eq_true rfl) (d' := 1) (by omega) q9 ⟨by decide, rfl⟩ (EW_mono (fun _ _ hr => ?_) (sX10_has v2  x _ _ 0 0 (Nat.le_refl _) h))
    obtain ⟨r2, rfl, rfl, h⟩ := hr
    refine EW_if_eq (tgt := 37) (pc2 := 22) rfl dX11_reach_19 (by decide) (fun q => ?_) (fun q => ?_)
    · replace h := h.1 q
      refine EW_iconst (pc2 := 38) (v := (-1)) rfl dX11_reach_37 (by decide) ?_
      exact AW_iret rfl dX11_reach_38 ⟨_, rfl, rfl, h⟩
    · replace h := h.2 q
      refine EW_aload_n (pc2 := 23) rfl dX11_reach_22 0 rfl ?_
      refine AW_getr (r := 66) ⟨gfRX11_30, rfl⟩ (pc2 := 26) rfl dX11_reach_23 q0 rfl ?_
      refine AW_getr (r := 67) ⟨gfRX11_241, rfl⟩ (pc2 := 29) rfl dX11_reach_26 q66 rfl ?_
      refine EW_iload_n (pc2 := 30) rfl dX11_reach_29 1 rfl ?_
      obtain ⟨b3, h⟩ := h
      refine AW_aald6 (pc2 := 31) rfl dX11_reach_30 b3 ?_
      refine AW_invV (M' := MX2_hasHose) [] (rest := []) mlRX11_310 okX2_hasHose (pc2 := 34) rfl dX11_reach_31 rfl rfl (Nat.le_of_ble_eq_true rfl) (Nat.le_of_ble_eq_true rfl) (d' := 0) (by omega) (isW.o (isW_of b3)) ⟨by decide, rfl⟩ (EW_mono (fun _ _ hr => ?_) (sX2_hasHose (82 + Int32.toNatClampNeg v1) (isW_of b3) x _ _ 0 0 (Nat.le_refl _) h))
      obtain ⟨r4, rfl, rfl, h⟩ := hr
      refine EW_if_ne (tgt := 39) (pc2 := 37) rfl dX11_reach_34 (by decide) (fun q => ?_) (fun q => ?_)
      · replace h := h.1 q
        refine EW_aload_n (pc2 := 40) rfl dX11_reach_39 0 rfl ?_
        refine AW_getr (r := 9) ⟨gfRX11_21, rfl⟩ (pc2 := 43) rfl dX11_reach_40 q0 rfl ?_
        refine AW_getr (r := 10) ⟨gfRX11_127, rfl⟩ (pc2 := 46) rfl dX11_reach_43 q9 rfl ?_
        refine EW_iload_n (pc2 := 47) rfl dX11_reach_46 2 rfl ?_
        obtain ⟨b5, h⟩ := h
        refine AW_aald5 (pc2 := 48) rfl dX11_reach_47 b5 ?_
        refine EW_astore_n (pc2 := 49) rfl dX11_reach_48 (by decide) [1, 2, 3, 0] [(0, .ref 0), (1, .int v1), (2, .int v2), (3, .ref (30 + 3 * Int32.toNatClampNeg v2))] rfl ?_
        refine EW_aload_n (pc2 := 50) rfl dX11_reach_49 0 rfl ?_
        refine AW_getr (r := 9) ⟨gfRX11_21, rfl⟩ (pc2 := 53) rfl dX11_reach_50 q0 rfl ?_
        refine EW_aload_n (pc2 := 54) rfl dX11_reach_53 3 rfl ?_
        refine EW_aload_n (pc2 := 55) rfl dX11_reach_54 0 rfl ?_
        refine AW_getr (r := 9) ⟨gfRX11_21, rfl⟩ (pc2 := 58) rfl dX11_reach_55 q0 rfl ?_
        refine EW_aload_n (pc2 := 59) rfl dX11_reach_58 3 rfl ?_
        refine AW_geti ⟨gfRX11_314, rfl⟩ (pc2 := 62) rfl dX11_reach_59 (isH.o (isH_of b5)) ?_
        refine AW_invV (M' := MX10_nearestHead) [.int (x.1 (30 + 3 * Int32.toNatClampNeg v2) 1)] (rest := [.ref (30 + 3 * Int32.toNatClampNeg v2), .ref 9]) mlRX11_317 okX10_nearestHead (pc2 := 65) rfl dX11_reach_62 rfl rfl (Nat.le_of_ble_eq_true rfl) (Nat.le_of_ble_eq_true rfl) (d' := 2) (by omega) q9 ⟨by decide, rfl⟩ (EW_mono (fun _ _ hr => ?_) (sX10_nearestHead (x.1 (30 + 3 * Int32.toNatClampNeg v2) 1)  x _ _ 0 0 (Nat.le_refl _) h))
        obtain ⟨r6, rfl, rfl, h⟩ := hr
        refine EW_aload_n (pc2 := 66) rfl dX11_reach_65 0 rfl ?_
        refine AW_getr (r := 66) ⟨gfRX11_30, rfl⟩ (pc2 := 69) rfl dX11_reach_66 q0 rfl ?_
        refine AW_getr (r := 67) ⟨gfRX11_241, rfl⟩ (pc2 := 72) rfl dX11_reach_69 q66 rfl ?_
        refine EW_iload_n (pc2 := 73) rfl dX11_reach_72 1 rfl ?_
        obtain ⟨b7, h⟩ := h
        refine AW_aald6 (pc2 := 74) rfl dX11_reach_73 b7 ?_
        refine AW_geti ⟨gfRX11_263, rfl⟩ (pc2 := 77) rfl dX11_reach_74 (isW.o (isW_of b7)) ?_
        refine AW_invV (M' := MX10_topFloor) [.ref (30 + 3 * Int32.toNatClampNeg v2), .int r6, .int (x.1 (82 + Int32.toNatClampNeg v1) 5)] (rest := []) mlRX11_320 okX10_topFloor (pc2 := 80) rfl dX11_reach_77 rfl rfl (Nat.le_of_ble_eq_true rfl) (Nat.le_of_ble_eq_true rfl) (d' := 2) (by omega) q9 ⟨by decide, rfl⟩ (EW_mono (fun _ _ hr => ?_) (sX10_topFloor (30 + 3 * Int32.toNatClampNeg v2) r6 (x.1 (82 + Int32.toNatClampNeg v1) 5) (isH_of b5) x _ _ 0 0 (Nat.le_refl _) h))
        obtain ⟨r8, rfl, rfl, h⟩ := hr
        exact AW_iret rfl dX11_reach_80 ⟨_, rfl, rfl, h⟩
      · replace h := h.2 q
        refine EW_iconst (pc2 := 38) (v := (-1)) rfl dX11_reach_37 (by decide) ?_
        exact AW_iret rfl dX11_reach_38 ⟨_, rfl, rfl, h⟩
theorem gfRX11_278 : ab_L RX11 278 2 9 := ⟨by decide, by decide, ab_in 433 (by decide +kernel) (by decide +kernel)⟩
theorem mlRX11_281 : Cond.methodLink RX11 281 yX0_turnHome ∈ ab_G ∧ Cond.instanceMethod yX0_turnHome ∈ ab_G ∧ Cond.selects RX0 yX0_turnHome yX0_turnHome ∈ ab_G := ⟨ab_in 1005 (by decide +kernel) (by decide +kernel), ab_in 1006 (by decide +kernel) (by decide +kernel), ab_in 1007 (by decide +kernel) (by decide +kernel)⟩
abbrev MX11_recall : ab_M := (yX11_recall, cX11_recall, 3, (some .boolean))
theorem dX11_recall_0 : decode cX11_recall 0 = .ok (.aload_n 0, 1) := by decide +kernel
theorem dX11_recall_1 : decode cX11_recall 1 = .ok (.getfield 30, 3) := by decide +kernel
theorem dX11_recall_4 : decode cX11_recall 4 = .ok (.iload_n 1, 1) := by decide +kernel
theorem dX11_recall_5 : decode cX11_recall 5 = .ok (.invokevirtual 256, 3) := by decide +kernel
theorem dX11_recall_8 : decode cX11_recall 8 = .ok (.ifCond .ne 5, 3) := by decide +kernel
theorem dX11_recall_11 : decode cX11_recall 11 = .ok (.iconst 0, 1) := by decide +kernel
theorem dX11_recall_12 : decode cX11_recall 12 = .ok (.ireturn, 1) := by decide +kernel
theorem dX11_recall_13 : decode cX11_recall 13 = .ok (.aload_n 0, 1) := by decide +kernel
theorem dX11_recall_14 : decode cX11_recall 14 = .ok (.getfield 30, 3) := by decide +kernel
theorem dX11_recall_17 : decode cX11_recall 17 = .ok (.getfield 241, 3) := by decide +kernel
theorem dX11_recall_20 : decode cX11_recall 20 = .ok (.iload_n 1, 1) := by decide +kernel
theorem dX11_recall_21 : decode cX11_recall 21 = .ok (.aaload, 1) := by decide +kernel
theorem dX11_recall_22 : decode cX11_recall 22 = .ok (.astore_n 2, 1) := by decide +kernel
theorem dX11_recall_23 : decode cX11_recall 23 = .ok (.aload_n 2, 1) := by decide +kernel
theorem dX11_recall_24 : decode cX11_recall 24 = .ok (.getfield 257, 3) := by decide +kernel
theorem dX11_recall_27 : decode cX11_recall 27 = .ok (.ifCond .ne 14, 3) := by decide +kernel
theorem dX11_recall_30 : decode cX11_recall 30 = .ok (.aload_n 2, 1) := by decide +kernel
theorem dX11_recall_31 : decode cX11_recall 31 = .ok (.getfield 278, 3) := by decide +kernel
theorem dX11_recall_34 : decode cX11_recall 34 = .ok (.aload_n 2, 1) := by decide +kernel
theorem dX11_recall_35 : decode cX11_recall 35 = .ok (.getfield 272, 3) := by decide +kernel
theorem dX11_recall_38 : decode cX11_recall 38 = .ok (.if_icmp .ne 5, 3) := by decide +kernel
theorem dX11_recall_41 : decode cX11_recall 41 = .ok (.iconst 0, 1) := by decide +kernel
theorem dX11_recall_42 : decode cX11_recall 42 = .ok (.ireturn, 1) := by decide +kernel
theorem dX11_recall_43 : decode cX11_recall 43 = .ok (.aload_n 0, 1) := by decide +kernel
theorem dX11_recall_44 : decode cX11_recall 44 = .ok (.getfield 30, 3) := by decide +kernel
theorem dX11_recall_47 : decode cX11_recall 47 = .ok (.aload_n 2, 1) := by decide +kernel
theorem dX11_recall_48 : decode cX11_recall 48 = .ok (.invokevirtual 281, 3) := by decide +kernel
theorem dX11_recall_51 : decode cX11_recall 51 = .ok (.iconst 1, 1) := by decide +kernel
theorem dX11_recall_52 : decode cX11_recall 52 = .ok (.ireturn, 1) := by decide +kernel
theorem okX11_recall : ab_okM MX11_recall 1 := ⟨by decide, ⟨by decide, by decide⟩, ab_in 1004 (by decide +kernel) (by decide +kernel), ab_in 86 (by decide +kernel) (by decide +kernel), by decide +kernel, by decide⟩
set_option maxHeartbeats 4000000 in
set_option maxRecDepth 100000 in
theorem sX11_recall (v1 : Int32)  (x : ab_X) (K : Int32 → ab_X → Prop) (d bc bs : Nat) (hdp : 4 ≤ d) (h : wX11_recall v1 x K) : EW MX11_recall 0 [(0, .ref 0), (1, .int v1)] [] (aS x) d bc bs (liI K) := by
  unfold wX11_recall at h
  refine EW_aload_n (pc2 := 1) rfl dX11_recall_0 0 rfl ?_
  refine AW_getr (r := 66) ⟨gfRX11_30, rfl⟩ (pc2 := 4) rfl dX11_recall_1 q0 rfl ?_
  refine EW_iload_n (pc2 := 5) rfl dX11_recall_4 1 rfl ?_
  refine AW_invV (M' := MX0_has) [.int v1] (rest := []) mlRX11_256 okX0_has (pc2 := 8) rfl dX11_recall_5 rfl rfl (Nat.le_of_ble_eq_true rfl) (Nat.le_of_ble_eq_true rfl) (d' := 1) (by omega) q66 ⟨by decide, rfl⟩ (EW_mono (fun _ _ hr => ?_) (sX0_has v1  x _ _ 0 0 (Nat.le_refl _) h))
  obtain ⟨r1, rfl, rfl, h⟩ := hr
  refine EW_if_ne (tgt := 13) (pc2 := 11) rfl dX11_recall_8 (by decide) (fun q => ?_) (fun q => ?_)
  · replace h := h.1 q
    refine EW_aload_n (pc2 := 14) rfl dX11_recall_13 0 rfl ?_
    refine AW_getr (r := 66) ⟨gfRX11_30, rfl⟩ (pc2 := 17) rfl dX11_recall_14 q0 rfl ?_
    refine AW_getr (r := 67) ⟨gfRX11_241, rfl⟩ (pc2 := 20) rfl dX11_recall_17 q66 rfl ?_
    refine EW_iload_n (pc2 := 21) rfl dX11_recall_20 1 rfl ?_
    obtain ⟨b2, h⟩ := h
    refine AW_aald6 (pc2 := 22) rfl dX11_recall_21 b2 ?_
    refine EW_astore_n (pc2 := 23) rfl dX11_recall_22 (by decide) [1, 2, 0] [(0, .ref 0), (1, .int v1), (2, .ref (82 + Int32.toNatClampNeg v1))] rfl ?_
    refine EW_aload_n (pc2 := 24) rfl dX11_recall_23 2 rfl ?_
    refine AW_geti ⟨gfRX11_257, rfl⟩ (pc2 := 27) rfl dX11_recall_24 (isW.o (isW_of b2)) ?_
    refine EW_if_ne (tgt := 41) (pc2 := 30) rfl dX11_recall_27 (by decide) (fun q => ?_) (fun q => ?_)
    · replace h := h.1 q
      refine EW_iconst (pc2 := 42) (v := 0) rfl dX11_recall_41 (by decide) ?_
      exact AW_zret rfl isB0 dX11_recall_42 ⟨_, _, rfl, rfl, h⟩
    · replace h := h.2 q
      refine EW_aload_n (pc2 := 31) rfl dX11_recall_30 2 rfl ?_
      refine AW_geti ⟨gfRX11_278, rfl⟩ (pc2 := 34) rfl dX11_recall_31 (isW.o (isW_of b2)) ?_
      refine EW_aload_n (pc2 := 35) rfl dX11_recall_34 2 rfl ?_
      refine AW_geti ⟨gfRX11_272, rfl⟩ (pc2 := 38) rfl dX11_recall_35 (isW.o (isW_of b2)) ?_
      refine EW_icmp_ne (tgt := 43) (pc2 := 41) rfl dX11_recall_38 (by decide) (fun q => ?_) (fun q => ?_)
      · replace h := h.1 q
        refine EW_aload_n (pc2 := 44) rfl dX11_recall_43 0 rfl ?_
        refine AW_getr (r := 66) ⟨gfRX11_30, rfl⟩ (pc2 := 47) rfl dX11_recall_44 q0 rfl ?_
        refine EW_aload_n (pc2 := 48) rfl dX11_recall_47 2 rfl ?_
        refine AW_invV (M' := MX0_turnHome) [.ref (82 + Int32.toNatClampNeg v1)] (rest := []) mlRX11_281 okX0_turnHome (pc2 := 51) rfl dX11_recall_48 rfl rfl (Nat.le_of_ble_eq_true rfl) (Nat.le_of_ble_eq_true rfl) (d' := 3) (by omega) q66 ⟨by decide, rfl⟩ (EW_mono (fun _ _ hr => ?_) (sX0_turnHome (82 + Int32.toNatClampNeg v1) (isW_of b2) x _ _ 0 0 (Nat.le_refl _) h))
        obtain ⟨x3, rfl, rfl, h⟩ := hr
        refine EW_iconst (pc2 := 52) (v := 1) rfl dX11_recall_51 (by decide) ?_
        exact AW_zret rfl isB1 dX11_recall_52 ⟨_, _, rfl, rfl, h⟩
      · replace h := h.2 q
        refine EW_iconst (pc2 := 42) (v := 0) rfl dX11_recall_41 (by decide) ?_
        exact AW_zret rfl isB0 dX11_recall_42 ⟨_, _, rfl, rfl, h⟩
  · replace h := h.2 q
    refine EW_iconst (pc2 := 12) (v := 0) rfl dX11_recall_11 (by decide) ?_
    exact AW_zret rfl isB0 dX11_recall_12 ⟨_, _, rfl, rfl, h⟩
theorem gfRX11_187 : ab_L RX11 187 3 0 := ⟨by decide, by decide, ab_in 176 (by decide +kernel) (by decide +kernel)⟩
theorem gfRX11_190 : ab_L RX11 190 3 1 := ⟨by decide, by decide, ab_in 179 (by decide +kernel) (by decide +kernel)⟩
theorem mlRX11_193 : Cond.methodLink RX11 193 yX3_burns ∈ ab_G ∧ Cond.instanceMethod yX3_burns ∈ ab_G ∧ Cond.selects RX3 yX3_burns yX3_burns ∈ ab_G := ⟨ab_in 915 (by decide +kernel) (by decide +kernel), ab_in 888 (by decide +kernel) (by decide +kernel), ab_in 889 (by decide +kernel) (by decide +kernel)⟩
abbrev MX11_room : ab_M := (yX11_room, cX11_room, 5, (some .int))
theorem dX11_room_0 : decode cX11_room 0 = .ok (.aload_n 0, 1) := by decide +kernel
theorem dX11_room_1 : decode cX11_room 1 = .ok (.getfield 21, 3) := by decide +kernel
theorem dX11_room_4 : decode cX11_room 4 = .ok (.iload_n 1, 1) := by decide +kernel
theorem dX11_room_5 : decode cX11_room 5 = .ok (.iload_n 2, 1) := by decide +kernel
theorem dX11_room_6 : decode cX11_room 6 = .ok (.invokevirtual 173, 3) := by decide +kernel
theorem dX11_room_9 : decode cX11_room 9 = .ok (.ifCond .ne 5, 3) := by decide +kernel
theorem dX11_room_12 : decode cX11_room 12 = .ok (.iconst (-1), 1) := by decide +kernel
theorem dX11_room_13 : decode cX11_room 13 = .ok (.ireturn, 1) := by decide +kernel
theorem dX11_room_14 : decode cX11_room 14 = .ok (.aload_n 0, 1) := by decide +kernel
theorem dX11_room_15 : decode cX11_room 15 = .ok (.getfield 21, 3) := by decide +kernel
theorem dX11_room_18 : decode cX11_room 18 = .ok (.getfield 127, 3) := by decide +kernel
theorem dX11_room_21 : decode cX11_room 21 = .ok (.iload_n 1, 1) := by decide +kernel
theorem dX11_room_22 : decode cX11_room 22 = .ok (.aaload, 1) := by decide +kernel
theorem dX11_room_23 : decode cX11_room 23 = .ok (.astore 4, 2) := by decide +kernel
theorem dX11_room_25 : decode cX11_room 25 = .ok (.iload_n 3, 1) := by decide +kernel
theorem dX11_room_26 : decode cX11_room 26 = .ok (.tableswitch 87 0 2 #[26, 44, 62], 26) := by decide +kernel
theorem dX11_room_52 : decode cX11_room 52 = .ok (.aload_n 0, 1) := by decide +kernel
theorem dX11_room_53 : decode cX11_room 53 = .ok (.getfield 21, 3) := by decide +kernel
theorem dX11_room_56 : decode cX11_room 56 = .ok (.getfield 150, 3) := by decide +kernel
theorem dX11_room_59 : decode cX11_room 59 = .ok (.getfield 187, 3) := by decide +kernel
theorem dX11_room_62 : decode cX11_room 62 = .ok (.aload 4, 2) := by decide +kernel
theorem dX11_room_64 : decode cX11_room 64 = .ok (.iload_n 2, 1) := by decide +kernel
theorem dX11_room_65 : decode cX11_room 65 = .ok (.invokevirtual 180, 3) := by decide +kernel
theorem dX11_room_68 : decode cX11_room 68 = .ok (.iaload, 1) := by decide +kernel
theorem dX11_room_69 : decode cX11_room 69 = .ok (.ireturn, 1) := by decide +kernel
theorem dX11_room_70 : decode cX11_room 70 = .ok (.aload_n 0, 1) := by decide +kernel
theorem dX11_room_71 : decode cX11_room 71 = .ok (.getfield 21, 3) := by decide +kernel
theorem dX11_room_74 : decode cX11_room 74 = .ok (.getfield 150, 3) := by decide +kernel
theorem dX11_room_77 : decode cX11_room 77 = .ok (.getfield 190, 3) := by decide +kernel
theorem dX11_room_80 : decode cX11_room 80 = .ok (.aload 4, 2) := by decide +kernel
theorem dX11_room_82 : decode cX11_room 82 = .ok (.iload_n 2, 1) := by decide +kernel
theorem dX11_room_83 : decode cX11_room 83 = .ok (.invokevirtual 180, 3) := by decide +kernel
theorem dX11_room_86 : decode cX11_room 86 = .ok (.iaload, 1) := by decide +kernel
theorem dX11_room_87 : decode cX11_room 87 = .ok (.ireturn, 1) := by decide +kernel
theorem dX11_room_88 : decode cX11_room 88 = .ok (.aload_n 0, 1) := by decide +kernel
theorem dX11_room_89 : decode cX11_room 89 = .ok (.getfield 21, 3) := by decide +kernel
theorem dX11_room_92 : decode cX11_room 92 = .ok (.getfield 150, 3) := by decide +kernel
theorem dX11_room_95 : decode cX11_room 95 = .ok (.aload 4, 2) := by decide +kernel
theorem dX11_room_97 : decode cX11_room 97 = .ok (.iload_n 2, 1) := by decide +kernel
theorem dX11_room_98 : decode cX11_room 98 = .ok (.invokevirtual 180, 3) := by decide +kernel
theorem dX11_room_101 : decode cX11_room 101 = .ok (.invokevirtual 193, 3) := by decide +kernel
theorem dX11_room_104 : decode cX11_room 104 = .ok (.ifCond .eq 7, 3) := by decide +kernel
theorem dX11_room_107 : decode cX11_room 107 = .ok (.iconst 1, 1) := by decide +kernel
theorem dX11_room_108 : decode cX11_room 108 = .ok (.goto 4, 3) := by decide +kernel
theorem dX11_room_111 : decode cX11_room 111 = .ok (.iconst 0, 1) := by decide +kernel
theorem dX11_room_112 : decode cX11_room 112 = .ok (.ireturn, 1) := by decide +kernel
theorem dX11_room_113 : decode cX11_room 113 = .ok (.iconst (-1), 1) := by decide +kernel
theorem dX11_room_114 : decode cX11_room 114 = .ok (.ireturn, 1) := by decide +kernel
theorem okX11_room : ab_okM MX11_room 3 := ⟨by decide, ⟨by decide, by decide⟩, ab_in 914 (by decide +kernel) (by decide +kernel), ab_in 86 (by decide +kernel) (by decide +kernel), by decide +kernel, by decide⟩
set_option maxHeartbeats 4000000 in
set_option maxRecDepth 100000 in
theorem sX11_room (v1 : Int32) (v2 : Int32) (v3 : Int32)  (x : ab_X) (K : Int32 → Prop) (d bc bs : Nat) (hdp : 3 ≤ d) (h : wX11_room v1 v2 v3 x K) : EW MX11_room 0 [(0, .ref 0), (1, .int v1), (2, .int v2), (3, .int v3)] [] (aS x) d bc bs (liP x K) := by
  unfold wX11_room at h
  refine EW_aload_n (pc2 := 1) rfl dX11_room_0 0 rfl ?_
  refine AW_getr (r := 9) ⟨gfRX11_21, rfl⟩ (pc2 := 4) rfl dX11_room_1 q0 rfl ?_
  refine EW_iload_n (pc2 := 5) rfl dX11_room_4 1 rfl ?_
  refine EW_iload_n (pc2 := 6) rfl dX11_room_5 2 rfl ?_
  refine AW_invV (M' := MX10_hasRoom) [.int v1, .int v2] (rest := []) mlRX11_173 okX10_hasRoom (pc2 := 9) rfl dX11_room_6 rfl rfl (Nat.le_of_ble_eq_true rfl) (Nat.le_of_ble_eq_true rfl) (d' := 2) (by omega) q9 ⟨by decide, rfl⟩ (EW_mono (fun _ _ hr => ?_) (sX10_hasRoom v1 v2  x _ _ 0 0 (Nat.le_refl _) h))
  obtain ⟨r1, rfl, rfl, h⟩ := hr
  refine EW_if_ne (tgt := 14) (pc2 := 12) rfl dX11_room_9 (by decide) (fun q => ?_) (fun q => ?_)
  · replace h := h.1 q
    refine EW_aload_n (pc2 := 15) rfl dX11_room_14 0 rfl ?_
    refine AW_getr (r := 9) ⟨gfRX11_21, rfl⟩ (pc2 := 18) rfl dX11_room_15 q0 rfl ?_
    refine AW_getr (r := 10) ⟨gfRX11_127, rfl⟩ (pc2 := 21) rfl dX11_room_18 q9 rfl ?_
    refine EW_iload_n (pc2 := 22) rfl dX11_room_21 1 rfl ?_
    obtain ⟨b2, h⟩ := h
    refine AW_aald5 (pc2 := 23) rfl dX11_room_22 b2 ?_
    refine EW_astore (pc2 := 25) rfl dX11_room_23 (by decide) [1, 2, 3, 4, 0] [(0, .ref 0), (1, .int v1), (2, .int v2), (3, .int v3), (4, .ref (30 + 3 * Int32.toNatClampNeg v1))] rfl ?_
    refine EW_iload_n (pc2 := 26) rfl dX11_room_25 3 rfl ?_
    by_cases qo : Int32.toInt v3 < 0 ∨ 2 < Int32.toInt v3
    · replace h := h.1 qo
      refine EW_tabOut (tgt := 113) dX11_room_26 qo (by decide) ?_
      refine EW_iconst (pc2 := 114) (v := (-1)) rfl dX11_room_113 (by decide) ?_
      exact AW_iret rfl dX11_room_114 ⟨_, rfl, rfl, h⟩
    · obtain ⟨kk, hkk, qk⟩ := sw_in 0 2 (by decide) qo
      match kk, hkk, qk with
      | 0, _, qk =>
        replace h := h.2.1 qk
        refine EW_tabIn (off := 26) (tgt := 52) dX11_room_26 (by rw [qk]; decide) (by rw [qk]; decide) (by rw [qk]; decide) (by decide) ?_
        refine EW_aload_n (pc2 := 53) rfl dX11_room_52 0 rfl ?_
        refine AW_getr (r := 9) ⟨gfRX11_21, rfl⟩ (pc2 := 56) rfl dX11_room_53 q0 rfl ?_
        refine AW_getr (r := 11) ⟨gfRX11_150, rfl⟩ (pc2 := 59) rfl dX11_room_56 q9 rfl ?_
        refine AW_getr (r := 12) ⟨gfRX11_187, rfl⟩ (pc2 := 62) rfl dX11_room_59 q11 rfl ?_
        refine EW_aload (pc2 := 64) rfl dX11_room_62 4 rfl ?_
        refine EW_iload_n (pc2 := 65) rfl dX11_room_64 2 rfl ?_
        refine AW_invV (M' := MX4_place) [.int v2] (rest := [.ref 12]) mlRX11_180 okX4_place (pc2 := 68) rfl dX11_room_65 rfl rfl (Nat.le_of_ble_eq_true rfl) (Nat.le_of_ble_eq_true rfl) (d' := 0) (by omega) (isH.o (isH_of b2)) ⟨by decide, rfl⟩ (EW_mono (fun _ _ hr => ?_) (sX4_place (30 + 3 * Int32.toNatClampNeg v1) v2 (isH_of b2) x _ _ 0 0 (Nat.le_refl _) h))
        obtain ⟨r3, rfl, rfl, h⟩ := hr
        obtain ⟨b4, h⟩ := h
        refine AW_iald (pc2 := 69) rfl dX11_room_68 q12 b4 ?_
        exact AW_iret rfl dX11_room_69 ⟨_, rfl, rfl, h⟩
      | 1, _, qk =>
        replace h := h.2.2.1 qk
        refine EW_tabIn (off := 44) (tgt := 70) dX11_room_26 (by rw [qk]; decide) (by rw [qk]; decide) (by rw [qk]; decide) (by decide) ?_
        refine EW_aload_n (pc2 := 71) rfl dX11_room_70 0 rfl ?_
        refine AW_getr (r := 9) ⟨gfRX11_21, rfl⟩ (pc2 := 74) rfl dX11_room_71 q0 rfl ?_
        refine AW_getr (r := 11) ⟨gfRX11_150, rfl⟩ (pc2 := 77) rfl dX11_room_74 q9 rfl ?_
        refine AW_getr (r := 13) ⟨gfRX11_190, rfl⟩ (pc2 := 80) rfl dX11_room_77 q11 rfl ?_
        refine EW_aload (pc2 := 82) rfl dX11_room_80 4 rfl ?_
        refine EW_iload_n (pc2 := 83) rfl dX11_room_82 2 rfl ?_
        refine AW_invV (M' := MX4_place) [.int v2] (rest := [.ref 13]) mlRX11_180 okX4_place (pc2 := 86) rfl dX11_room_83 rfl rfl (Nat.le_of_ble_eq_true rfl) (Nat.le_of_ble_eq_true rfl) (d' := 0) (by omega) (isH.o (isH_of b2)) ⟨by decide, rfl⟩ (EW_mono (fun _ _ hr => ?_) (sX4_place (30 + 3 * Int32.toNatClampNeg v1) v2 (isH_of b2) x _ _ 0 0 (Nat.le_refl _) h))
        obtain ⟨r5, rfl, rfl, h⟩ := hr
        obtain ⟨b6, h⟩ := h
        refine AW_iald (pc2 := 87) rfl dX11_room_86 q13 b6 ?_
        exact AW_iret rfl dX11_room_87 ⟨_, rfl, rfl, h⟩
      | 2, _, qk =>
        replace h := h.2.2.2 qk
        refine EW_tabIn (off := 62) (tgt := 88) dX11_room_26 (by rw [qk]; decide) (by rw [qk]; decide) (by rw [qk]; decide) (by decide) ?_
        refine EW_aload_n (pc2 := 89) rfl dX11_room_88 0 rfl ?_
        refine AW_getr (r := 9) ⟨gfRX11_21, rfl⟩ (pc2 := 92) rfl dX11_room_89 q0 rfl ?_
        refine AW_getr (r := 11) ⟨gfRX11_150, rfl⟩ (pc2 := 95) rfl dX11_room_92 q9 rfl ?_
        refine EW_aload (pc2 := 97) rfl dX11_room_95 4 rfl ?_
        refine EW_iload_n (pc2 := 98) rfl dX11_room_97 2 rfl ?_
        refine AW_invV (M' := MX4_place) [.int v2] (rest := [.ref 11]) mlRX11_180 okX4_place (pc2 := 101) rfl dX11_room_98 rfl rfl (Nat.le_of_ble_eq_true rfl) (Nat.le_of_ble_eq_true rfl) (d' := 0) (by omega) (isH.o (isH_of b2)) ⟨by decide, rfl⟩ (EW_mono (fun _ _ hr => ?_) (sX4_place (30 + 3 * Int32.toNatClampNeg v1) v2 (isH_of b2) x _ _ 0 0 (Nat.le_refl _) h))
        obtain ⟨r7, rfl, rfl, h⟩ := hr
        refine AW_invV (M' := MX3_burns) [.int r7] (rest := []) mlRX11_193 okX3_burns (pc2 := 104) rfl dX11_room_101 rfl rfl (Nat.le_of_ble_eq_true rfl) (Nat.le_of_ble_eq_true rfl) (d' := 0) (by omega) q11 ⟨by decide, rfl⟩ (EW_mono (fun _ _ hr => ?_) (sX3_burns 11 r7 (Or.inl rfl : isF 11) x _ _ 0 0 (Nat.le_refl _) h))
        obtain ⟨r8, rfl, rfl, h⟩ := hr
        refine EW_if_eq (tgt := 111) (pc2 := 107) rfl dX11_room_104 (by decide) (fun q => ?_) (fun q => ?_)
        · replace h := h.1 q
          refine EW_iconst (pc2 := 112) (v := 0) rfl dX11_room_111 (by decide) ?_
          exact AW_iret rfl dX11_room_112 ⟨_, rfl, rfl, h⟩
        · replace h := h.2 q
          refine EW_iconst (pc2 := 108) (v := 1) rfl dX11_room_107 (by decide) ?_
          refine EW_goto (tgt := 112) dX11_room_108 (by decide) ?_
          exact AW_iret rfl dX11_room_112 ⟨_, rfl, rfl, h⟩
      | n9 + 3, hkk, _ => exact absurd hkk (by omega)
  · replace h := h.2 q
    refine EW_iconst (pc2 := 13) (v := (-1)) rfl dX11_room_12 (by decide) ?_
    exact AW_iret rfl dX11_room_13 ⟨_, rfl, rfl, h⟩
theorem gfRX7_40 : ab_L RX7 40 7 1 := ⟨by decide, by decide, ab_in 672 (by decide +kernel) (by decide +kernel)⟩
theorem gfRX7_79 : ab_L RX7 79 10 1 := ⟨by decide, by decide, ab_in 309 (by decide +kernel) (by decide +kernel)⟩
theorem gfRX7_9 : ab_L RX7 9 7 3 := ⟨by decide, by decide, ab_in 674 (by decide +kernel) (by decide +kernel)⟩
theorem gfRX7_83 : ab_L RX7 83 4 1 := ⟨by decide, by decide, ab_in 217 (by decide +kernel) (by decide +kernel)⟩
abbrev MX7_cornerOf : ab_M := (yX7_cornerOf, cX7_cornerOf, 2, (some .int))
theorem dX7_cornerOf_0 : decode cX7_cornerOf 0 = .ok (.aload_n 0, 1) := by decide +kernel
theorem dX7_cornerOf_1 : decode cX7_cornerOf 1 = .ok (.getfield 40, 3) := by decide +kernel
theorem dX7_cornerOf_4 : decode cX7_cornerOf 4 = .ok (.getfield 79, 3) := by decide +kernel
theorem dX7_cornerOf_7 : decode cX7_cornerOf 7 = .ok (.aload_n 0, 1) := by decide +kernel
theorem dX7_cornerOf_8 : decode cX7_cornerOf 8 = .ok (.getfield 9, 3) := by decide +kernel
theorem dX7_cornerOf_11 : decode cX7_cornerOf 11 = .ok (.iload_n 1, 1) := by decide +kernel
theorem dX7_cornerOf_12 : decode cX7_cornerOf 12 = .ok (.iaload, 1) := by decide +kernel
theorem dX7_cornerOf_13 : decode cX7_cornerOf 13 = .ok (.aaload, 1) := by decide +kernel
theorem dX7_cornerOf_14 : decode cX7_cornerOf 14 = .ok (.getfield 83, 3) := by decide +kernel
theorem dX7_cornerOf_17 : decode cX7_cornerOf 17 = .ok (.ireturn, 1) := by decide +kernel
theorem okX7_cornerOf : ab_okM MX7_cornerOf 1 := ⟨by decide, ⟨by decide, by decide⟩, ab_in 1617 (by decide +kernel) (by decide +kernel), ab_in 98 (by decide +kernel) (by decide +kernel), by decide +kernel, by decide⟩
set_option maxHeartbeats 4000000 in
set_option maxRecDepth 100000 in
theorem sX7_cornerOf (v1 : Int32)  (x : ab_X) (K : Int32 → Prop) (d bc bs : Nat) (hdp : 0 ≤ d) (h : wX7_cornerOf v1 x K) : EW MX7_cornerOf 0 [(0, .ref 234), (1, .int v1)] [] (aS x) d bc bs (liP x K) := by
  unfold wX7_cornerOf at h
  refine EW_aload_n (pc2 := 1) rfl dX7_cornerOf_0 0 rfl ?_
  refine AW_getr (r := 9) ⟨gfRX7_40, rfl⟩ (pc2 := 4) rfl dX7_cornerOf_1 q234 rfl ?_
  refine AW_getr (r := 10) ⟨gfRX7_79, rfl⟩ (pc2 := 7) rfl dX7_cornerOf_4 q9 rfl ?_
  refine EW_aload_n (pc2 := 8) rfl dX7_cornerOf_7 0 rfl ?_
  refine AW_getr (r := 235) ⟨gfRX7_9, rfl⟩ (pc2 := 11) rfl dX7_cornerOf_8 q234 rfl ?_
  refine EW_iload_n (pc2 := 12) rfl dX7_cornerOf_11 1 rfl ?_
  obtain ⟨b1, h⟩ := h
  refine AW_iald (pc2 := 13) rfl dX7_cornerOf_12 q235 b1 ?_
  obtain ⟨b2, h⟩ := h
  refine AW_aald5 (pc2 := 14) rfl dX7_cornerOf_13 b2 ?_
  refine AW_geti ⟨gfRX7_83, rfl⟩ (pc2 := 17) rfl dX7_cornerOf_14 (isH.o (isH_of b2)) ?_
  exact AW_iret rfl dX7_cornerOf_17 ⟨_, rfl, rfl, h⟩
theorem gfRX7_24 : ab_L RX7 24 7 9 := ⟨by decide, by decide, ab_in 680 (by decide +kernel) (by decide +kernel)⟩
theorem gfRX7_21 : ab_L RX7 21 7 7 := ⟨by decide, by decide, ab_in 678 (by decide +kernel) (by decide +kernel)⟩
abbrev MX7_through : ab_M := (yX7_through, cX7_through, 4, (some .int))
theorem dX7_through_0 : decode cX7_through 0 = .ok (.aload_n 0, 1) := by decide +kernel
theorem dX7_through_1 : decode cX7_through 1 = .ok (.getfield 24, 3) := by decide +kernel
theorem dX7_through_4 : decode cX7_through 4 = .ok (.iload_n 2, 1) := by decide +kernel
theorem dX7_through_5 : decode cX7_through 5 = .ok (.bipush 8, 2) := by decide +kernel
theorem dX7_through_7 : decode cX7_through 7 = .ok (.imul, 1) := by decide +kernel
theorem dX7_through_8 : decode cX7_through 8 = .ok (.iload_n 3, 1) := by decide +kernel
theorem dX7_through_9 : decode cX7_through 9 = .ok (.iadd, 1) := by decide +kernel
theorem dX7_through_10 : decode cX7_through 10 = .ok (.iaload, 1) := by decide +kernel
theorem dX7_through_11 : decode cX7_through 11 = .ok (.aload_n 0, 1) := by decide +kernel
theorem dX7_through_12 : decode cX7_through 12 = .ok (.getfield 21, 3) := by decide +kernel
theorem dX7_through_15 : decode cX7_through 15 = .ok (.iload_n 1, 1) := by decide +kernel
theorem dX7_through_16 : decode cX7_through 16 = .ok (.iconst 1, 1) := by decide +kernel
theorem dX7_through_17 : decode cX7_through 17 = .ok (.iload_n 3, 1) := by decide +kernel
theorem dX7_through_18 : decode cX7_through 18 = .ok (.ishl, 1) := by decide +kernel
theorem dX7_through_19 : decode cX7_through 19 = .ok (.iconst (-1), 1) := by decide +kernel
theorem dX7_through_20 : decode cX7_through 20 = .ok (.ixor, 1) := by decide +kernel
theorem dX7_through_21 : decode cX7_through 21 = .ok (.iand, 1) := by decide +kernel
theorem dX7_through_22 : decode cX7_through 22 = .ok (.bipush 8, 2) := by decide +kernel
theorem dX7_through_24 : decode cX7_through 24 = .ok (.imul, 1) := by decide +kernel
theorem dX7_through_25 : decode cX7_through 25 = .ok (.iload_n 3, 1) := by decide +kernel
theorem dX7_through_26 : decode cX7_through 26 = .ok (.iadd, 1) := by decide +kernel
theorem dX7_through_27 : decode cX7_through 27 = .ok (.iaload, 1) := by decide +kernel
theorem dX7_through_28 : decode cX7_through 28 = .ok (.iadd, 1) := by decide +kernel
theorem dX7_through_29 : decode cX7_through 29 = .ok (.ireturn, 1) := by decide +kernel
theorem okX7_through : ab_okM MX7_through 3 := ⟨by decide, ⟨by decide, by decide⟩, ab_in 1625 (by decide +kernel) (by decide +kernel), ab_in 98 (by decide +kernel) (by decide +kernel), by decide +kernel, by decide⟩
set_option maxHeartbeats 4000000 in
set_option maxRecDepth 100000 in
theorem sX7_through (v1 : Int32) (v2 : Int32) (v3 : Int32)  (x : ab_X) (K : Int32 → Prop) (d bc bs : Nat) (hdp : 0 ≤ d) (h : wX7_through v1 v2 v3 x K) : EW MX7_through 0 [(0, .ref 234), (1, .int v1), (2, .int v2), (3, .int v3)] [] (aS x) d bc bs (liP x K) := by
  unfold wX7_through at h
  refine EW_aload_n (pc2 := 1) rfl dX7_through_0 0 rfl ?_
  refine AW_getr (r := 239) ⟨gfRX7_24, rfl⟩ (pc2 := 4) rfl dX7_through_1 q234 rfl ?_
  refine EW_iload_n (pc2 := 5) rfl dX7_through_4 2 rfl ?_
  refine EW_bipush (pc2 := 7) (v := 8) rfl dX7_through_5 (by decide) ?_
  refine EW_imul (pc2 := 8) rfl dX7_through_7 ?_
  refine EW_iload_n (pc2 := 9) rfl dX7_through_8 3 rfl ?_
  refine EW_iadd (pc2 := 10) rfl dX7_through_9 ?_
  obtain ⟨b1, h⟩ := h
  refine AW_iald (pc2 := 11) rfl dX7_through_10 q239 b1 ?_
  refine EW_aload_n (pc2 := 12) rfl dX7_through_11 0 rfl ?_
  refine AW_getr (r := 238) ⟨gfRX7_21, rfl⟩ (pc2 := 15) rfl dX7_through_12 q234 rfl ?_
  refine EW_iload_n (pc2 := 16) rfl dX7_through_15 1 rfl ?_
  refine EW_iconst (pc2 := 17) (v := 1) rfl dX7_through_16 (by decide) ?_
  refine EW_iload_n (pc2 := 18) rfl dX7_through_17 3 rfl ?_
  refine EW_ishl (pc2 := 19) rfl dX7_through_18 ?_
  refine EW_iconst (pc2 := 20) (v := (-1)) rfl dX7_through_19 (by decide) ?_
  refine EW_ixor (pc2 := 21) rfl dX7_through_20 ?_
  refine EW_iand (pc2 := 22) rfl dX7_through_21 ?_
  refine EW_bipush (pc2 := 24) (v := 8) rfl dX7_through_22 (by decide) ?_
  refine EW_imul (pc2 := 25) rfl dX7_through_24 ?_
  refine EW_iload_n (pc2 := 26) rfl dX7_through_25 3 rfl ?_
  refine EW_iadd (pc2 := 27) rfl dX7_through_26 ?_
  obtain ⟨b2, h⟩ := h
  refine AW_iald (pc2 := 28) rfl dX7_through_27 q238 b2 ?_
  refine EW_iadd (pc2 := 29) rfl dX7_through_28 ?_
  exact AW_iret rfl dX7_through_29 ⟨_, rfl, rfl, h⟩
theorem gfRX7_71 : ab_L RX7 71 7 5 := ⟨by decide, by decide, ab_in 676 (by decide +kernel) (by decide +kernel)⟩
theorem mlRX7_112 : Cond.methodLink RX7 112 yX7_through ∈ ab_G ∧ Cond.instanceMethod yX7_through ∈ ab_G ∧ Cond.selects RX7 yX7_through yX7_through ∈ ab_G := ⟨ab_in 1622 (by decide +kernel) (by decide +kernel), ab_in 1623 (by decide +kernel) (by decide +kernel), ab_in 1624 (by decide +kernel) (by decide +kernel)⟩
theorem mmRX7_103 : Cond.methodLink RX7 103 Lib.Math.min.name ∈ ab_G ∧ Cond.static Lib.Math.min.name ∈ ab_G ∧ Cond.initialized "java/lang/Math" ∈ ab_G ∧ Cond.code Lib.Math.min.name Lib.Math.min.code 2 (some .int) ∈ ab_G := ⟨ab_in 1605 (by decide +kernel) (by decide +kernel), ab_in 787 (by decide +kernel) (by decide +kernel), ab_in 100 (by decide +kernel) (by decide +kernel), ab_in 788 (by decide +kernel) (by decide +kernel)⟩
theorem cnRX7_94 : Cond.constant RX7 94 1000000 ∈ ab_G := ab_in 1602 (by decide +kernel) (by decide +kernel)
theorem mlRX7_108 : Cond.methodLink RX7 108 yX7_cornerOf ∈ ab_G ∧ Cond.instanceMethod yX7_cornerOf ∈ ab_G ∧ Cond.selects RX7 yX7_cornerOf yX7_cornerOf ∈ ab_G := ⟨ab_in 1614 (by decide +kernel) (by decide +kernel), ab_in 1615 (by decide +kernel) (by decide +kernel), ab_in 1616 (by decide +kernel) (by decide +kernel)⟩
theorem gfRX7_48 : ab_L RX7 48 7 8 := ⟨by decide, by decide, ab_in 679 (by decide +kernel) (by decide +kernel)⟩
abbrev MX7_fillRest : ab_M := (yX7_fillRest, cX7_fillRest, 5, none)
theorem dX7_fillRest_0 : decode cX7_fillRest 0 = .ok (.iconst 0, 1) := by decide +kernel
theorem dX7_fillRest_1 : decode cX7_fillRest 1 = .ok (.istore_n 1, 1) := by decide +kernel
theorem dX7_fillRest_2 : decode cX7_fillRest 2 = .ok (.iload_n 1, 1) := by decide +kernel
theorem dX7_fillRest_3 : decode cX7_fillRest 3 = .ok (.iconst 1, 1) := by decide +kernel
theorem dX7_fillRest_4 : decode cX7_fillRest 4 = .ok (.aload_n 0, 1) := by decide +kernel
theorem dX7_fillRest_5 : decode cX7_fillRest 5 = .ok (.getfield 71, 3) := by decide +kernel
theorem dX7_fillRest_8 : decode cX7_fillRest 8 = .ok (.ishl, 1) := by decide +kernel
theorem dX7_fillRest_9 : decode cX7_fillRest 9 = .ok (.if_icmp .ge 104, 3) := by decide +kernel
theorem dX7_fillRest_12 : decode cX7_fillRest 12 = .ok (.iconst 0, 1) := by decide +kernel
theorem dX7_fillRest_13 : decode cX7_fillRest 13 = .ok (.istore_n 2, 1) := by decide +kernel
theorem dX7_fillRest_14 : decode cX7_fillRest 14 = .ok (.iload_n 2, 1) := by decide +kernel
theorem dX7_fillRest_15 : decode cX7_fillRest 15 = .ok (.aload_n 0, 1) := by decide +kernel
theorem dX7_fillRest_16 : decode cX7_fillRest 16 = .ok (.getfield 71, 3) := by decide +kernel
theorem dX7_fillRest_19 : decode cX7_fillRest 19 = .ok (.if_icmp .ge 88, 3) := by decide +kernel
theorem dX7_fillRest_22 : decode cX7_fillRest 22 = .ok (.iload_n 1, 1) := by decide +kernel
theorem dX7_fillRest_23 : decode cX7_fillRest 23 = .ok (.ifCond .ne 22, 3) := by decide +kernel
theorem dX7_fillRest_26 : decode cX7_fillRest 26 = .ok (.aload_n 0, 1) := by decide +kernel
theorem dX7_fillRest_27 : decode cX7_fillRest 27 = .ok (.getfield 36, 3) := by decide +kernel
theorem dX7_fillRest_30 : decode cX7_fillRest 30 = .ok (.aload_n 0, 1) := by decide +kernel
theorem dX7_fillRest_31 : decode cX7_fillRest 31 = .ok (.iload_n 2, 1) := by decide +kernel
theorem dX7_fillRest_32 : decode cX7_fillRest 32 = .ok (.invokevirtual 108, 3) := by decide +kernel
theorem dX7_fillRest_35 : decode cX7_fillRest 35 = .ok (.aload_n 0, 1) := by decide +kernel
theorem dX7_fillRest_36 : decode cX7_fillRest 36 = .ok (.getfield 48, 3) := by decide +kernel
theorem dX7_fillRest_39 : decode cX7_fillRest 39 = .ok (.invokevirtual 88, 3) := by decide +kernel
theorem dX7_fillRest_42 : decode cX7_fillRest 42 = .ok (.goto 5, 3) := by decide +kernel
theorem dX7_fillRest_45 : decode cX7_fillRest 45 = .ok (.ldc 94, 2) := by decide +kernel
theorem dX7_fillRest_47 : decode cX7_fillRest 47 = .ok (.istore_n 3, 1) := by decide +kernel
theorem dX7_fillRest_48 : decode cX7_fillRest 48 = .ok (.iconst 0, 1) := by decide +kernel
theorem dX7_fillRest_49 : decode cX7_fillRest 49 = .ok (.istore 4, 2) := by decide +kernel
theorem dX7_fillRest_51 : decode cX7_fillRest 51 = .ok (.iload 4, 2) := by decide +kernel
theorem dX7_fillRest_53 : decode cX7_fillRest 53 = .ok (.aload_n 0, 1) := by decide +kernel
theorem dX7_fillRest_54 : decode cX7_fillRest 54 = .ok (.getfield 71, 3) := by decide +kernel
theorem dX7_fillRest_57 : decode cX7_fillRest 57 = .ok (.if_icmp .ge 32, 3) := by decide +kernel
theorem dX7_fillRest_60 : decode cX7_fillRest 60 = .ok (.iload_n 1, 1) := by decide +kernel
theorem dX7_fillRest_61 : decode cX7_fillRest 61 = .ok (.iload 4, 2) := by decide +kernel
theorem dX7_fillRest_63 : decode cX7_fillRest 63 = .ok (.ishr, 1) := by decide +kernel
theorem dX7_fillRest_64 : decode cX7_fillRest 64 = .ok (.iconst 1, 1) := by decide +kernel
theorem dX7_fillRest_65 : decode cX7_fillRest 65 = .ok (.iand, 1) := by decide +kernel
theorem dX7_fillRest_66 : decode cX7_fillRest 66 = .ok (.iconst 1, 1) := by decide +kernel
theorem dX7_fillRest_67 : decode cX7_fillRest 67 = .ok (.if_icmp .ne 16, 3) := by decide +kernel
theorem dX7_fillRest_70 : decode cX7_fillRest 70 = .ok (.iload_n 3, 1) := by decide +kernel
theorem dX7_fillRest_71 : decode cX7_fillRest 71 = .ok (.aload_n 0, 1) := by decide +kernel
theorem dX7_fillRest_72 : decode cX7_fillRest 72 = .ok (.iload_n 1, 1) := by decide +kernel
theorem dX7_fillRest_73 : decode cX7_fillRest 73 = .ok (.iload_n 2, 1) := by decide +kernel
theorem dX7_fillRest_74 : decode cX7_fillRest 74 = .ok (.iload 4, 2) := by decide +kernel
theorem dX7_fillRest_76 : decode cX7_fillRest 76 = .ok (.invokevirtual 112, 3) := by decide +kernel
theorem dX7_fillRest_79 : decode cX7_fillRest 79 = .ok (.invokestatic 103, 3) := by decide +kernel
theorem dX7_fillRest_82 : decode cX7_fillRest 82 = .ok (.istore_n 3, 1) := by decide +kernel
theorem dX7_fillRest_83 : decode cX7_fillRest 83 = .ok (.iinc 4 1, 3) := by decide +kernel
theorem dX7_fillRest_86 : decode cX7_fillRest 86 = .ok (.goto (-35), 3) := by decide +kernel
theorem dX7_fillRest_89 : decode cX7_fillRest 89 = .ok (.aload_n 0, 1) := by decide +kernel
theorem dX7_fillRest_90 : decode cX7_fillRest 90 = .ok (.getfield 21, 3) := by decide +kernel
theorem dX7_fillRest_93 : decode cX7_fillRest 93 = .ok (.iload_n 1, 1) := by decide +kernel
theorem dX7_fillRest_94 : decode cX7_fillRest 94 = .ok (.bipush 8, 2) := by decide +kernel
theorem dX7_fillRest_96 : decode cX7_fillRest 96 = .ok (.imul, 1) := by decide +kernel
theorem dX7_fillRest_97 : decode cX7_fillRest 97 = .ok (.iload_n 2, 1) := by decide +kernel
theorem dX7_fillRest_98 : decode cX7_fillRest 98 = .ok (.iadd, 1) := by decide +kernel
theorem dX7_fillRest_99 : decode cX7_fillRest 99 = .ok (.iload_n 3, 1) := by decide +kernel
theorem dX7_fillRest_100 : decode cX7_fillRest 100 = .ok (.iastore, 1) := by decide +kernel
theorem dX7_fillRest_101 : decode cX7_fillRest 101 = .ok (.iinc 2 1, 3) := by decide +kernel
theorem dX7_fillRest_104 : decode cX7_fillRest 104 = .ok (.goto (-90), 3) := by decide +kernel
theorem dX7_fillRest_107 : decode cX7_fillRest 107 = .ok (.iinc 1 1, 3) := by decide +kernel
theorem dX7_fillRest_110 : decode cX7_fillRest 110 = .ok (.goto (-108), 3) := by decide +kernel
theorem dX7_fillRest_113 : decode cX7_fillRest 113 = .ok (.return_, 1) := by decide +kernel
theorem okX7_fillRest : ab_okM MX7_fillRest 0 := ⟨by decide, ⟨by decide, by decide⟩, ab_in 1621 (by decide +kernel) (by decide +kernel), ab_in 98 (by decide +kernel) (by decide +kernel), by decide +kernel, by decide⟩
set_option maxHeartbeats 4000000 in
set_option maxRecDepth 100000 in
theorem sX7_fillRest_51 (v1 : Int32) (v2 : Int32) (v3 : Int32) (v4 : Int32)  (x : ab_X) (K : ab_X → Prop) (L2 : Int32 → ab_X → Prop) (L14 : Int32 → ab_X → Prop) (d bc bs : Nat) (hdp : 2 ≤ d) (hL2 : ∀ (v1 : Int32) (x : ab_X), L2 v1 x → EW MX7_fillRest 2 [(0, .ref 234), (1, .int v1)] [] (aS x) d bc bs (liV K)) (hL14 : ∀ (v2 : Int32) (x : ab_X), L14 v2 x → EW MX7_fillRest 14 [(0, .ref 234), (1, .int v1), (2, .int v2)] [] (aS x) d bc bs (liV K)) (h : Lp2 (lX7_fillRest_51 v1 v2 x K L2 L14) v3 v4) : EW MX7_fillRest 51 [(0, .ref 234), (1, .int v1), (2, .int v2), (3, .int v3), (4, .int v4)] [] (aS x) d bc bs (liV K) := by
  refine Lp2.use (P := fun v3 v4 => EW MX7_fillRest 51 [(0, .ref 234), (1, .int v1), (2, .int v2), (3, .int v3), (4, .int v4)] [] (aS x) d bc bs (liV K)) (fun L51 v3 v4 hL51 h => ?_) v3 v4 h
  unfold lX7_fillRest_51 at h
  refine EW_iload (pc2 := 53) rfl dX7_fillRest_51 4 rfl ?_
  refine EW_aload_n (pc2 := 54) rfl dX7_fillRest_53 0 rfl ?_
  refine AW_geti ⟨gfRX7_71, rfl⟩ (pc2 := 57) rfl dX7_fillRest_54 q234 ?_
  refine EW_icmp_ge (tgt := 89) (pc2 := 60) rfl dX7_fillRest_57 (by decide) (fun q => ?_) (fun q => ?_)
  · replace h := h.1 q
    refine EW_aload_n (pc2 := 90) rfl dX7_fillRest_89 0 rfl ?_
    refine AW_getr (r := 238) ⟨gfRX7_21, rfl⟩ (pc2 := 93) rfl dX7_fillRest_90 q234 rfl ?_
    refine EW_iload_n (pc2 := 94) rfl dX7_fillRest_93 1 rfl ?_
    refine EW_bipush (pc2 := 96) (v := 8) rfl dX7_fillRest_94 (by decide) ?_
    refine EW_imul (pc2 := 97) rfl dX7_fillRest_96 ?_
    refine EW_iload_n (pc2 := 98) rfl dX7_fillRest_97 2 rfl ?_
    refine EW_iadd (pc2 := 99) rfl dX7_fillRest_98 ?_
    refine EW_iload_n (pc2 := 100) rfl dX7_fillRest_99 3 rfl ?_
    obtain ⟨b3, h⟩ := h
    refine AW_iast (pc2 := 101) rfl dX7_fillRest_100 q238 b3 ?_
    refine EW_iinc (v2 + 1) (pc2 := 104) rfl dX7_fillRest_101 2 rfl rfl (by decide) [1, 2, 0, 3, 4] [(0, .ref 234), (1, .int v1), (2, .int (v2 + 1)), (3, .int v3), (4, .int v4)] rfl ?_
    refine EW_goto (tgt := 14) dX7_fillRest_104 (by decide) ?_
    refine EW_ls [0, 1, 2] rfl ?_
    exact hL14 (v2 + 1) (wr x 238 (Int32.toNatClampNeg ((v1 * 8) + v2)) v3) h
  · replace h := h.2 q
    refine EW_iload_n (pc2 := 61) rfl dX7_fillRest_60 1 rfl ?_
    refine EW_iload (pc2 := 63) rfl dX7_fillRest_61 4 rfl ?_
    refine EW_ishr (pc2 := 64) rfl dX7_fillRest_63 ?_
    refine EW_iconst (pc2 := 65) (v := 1) rfl dX7_fillRest_64 (by decide) ?_
    refine EW_iand (pc2 := 66) rfl dX7_fillRest_65 ?_
    refine EW_iconst (pc2 := 67) (v := 1) rfl dX7_fillRest_66 (by decide) ?_
    refine EW_icmp_ne (tgt := 83) (pc2 := 70) rfl dX7_fillRest_67 (by decide) (fun q => ?_) (fun q => ?_)
    · replace h := h.1 q
      refine EW_iinc (v4 + 1) (pc2 := 86) rfl dX7_fillRest_83 4 rfl rfl (by decide) [1, 2, 3, 4, 0] [(0, .ref 234), (1, .int v1), (2, .int v2), (3, .int v3), (4, .int (v4 + 1))] rfl ?_
      refine EW_goto (tgt := 51) dX7_fillRest_86 (by decide) ?_
      exact hL51 v3 (v4 + 1) h
    · replace h := h.2 q
      refine EW_iload_n (pc2 := 71) rfl dX7_fillRest_70 3 rfl ?_
      refine EW_aload_n (pc2 := 72) rfl dX7_fillRest_71 0 rfl ?_
      refine EW_iload_n (pc2 := 73) rfl dX7_fillRest_72 1 rfl ?_
      refine EW_iload_n (pc2 := 74) rfl dX7_fillRest_73 2 rfl ?_
      refine EW_iload (pc2 := 76) rfl dX7_fillRest_74 4 rfl ?_
      refine AW_invV (M' := MX7_through) [.int v1, .int v2, .int v4] (rest := [.int v3]) mlRX7_112 okX7_through (pc2 := 79) rfl dX7_fillRest_76 rfl rfl (Nat.le_of_ble_eq_true rfl) (Nat.le_of_ble_eq_true rfl) (d' := 0) (by omega) q234 ⟨by decide, rfl⟩ (EW_mono (fun _ _ hr => ?_) (sX7_through v1 v2 v4  x _ _ 0 0 (Nat.le_refl _) h))
      obtain ⟨r4, rfl, rfl, h⟩ := hr
      refine AW_mmin mmRX7_103 (pc2 := 82) rfl dX7_fillRest_79 (Nat.le_of_ble_eq_true rfl) (by omega) ?_
      refine EW_istore_n (pc2 := 83) rfl dX7_fillRest_82 (by decide) [1, 2, 3, 0, 4] [(0, .ref 234), (1, .int v1), (2, .int v2), (3, .int (imin v3 r4)), (4, .int v4)] rfl ?_
      refine EW_iinc (v4 + 1) (pc2 := 86) rfl dX7_fillRest_83 4 rfl rfl (by decide) [1, 2, 3, 4, 0] [(0, .ref 234), (1, .int v1), (2, .int v2), (3, .int (imin v3 r4)), (4, .int (v4 + 1))] rfl ?_
      refine EW_goto (tgt := 51) dX7_fillRest_86 (by decide) ?_
      exact hL51 (imin v3 r4) (v4 + 1) h
set_option maxHeartbeats 4000000 in
set_option maxRecDepth 100000 in
theorem sX7_fillRest_14 (v1 : Int32) (v2 : Int32)  (x : ab_X) (K : ab_X → Prop) (L2 : Int32 → ab_X → Prop) (d bc bs : Nat) (hdp : 2 ≤ d) (hL2 : ∀ (v1 : Int32) (x : ab_X), L2 v1 x → EW MX7_fillRest 2 [(0, .ref 234), (1, .int v1)] [] (aS x) d bc bs (liV K)) (h : Lp2 (lX7_fillRest_14 v1 K L2) v2 x) : EW MX7_fillRest 14 [(0, .ref 234), (1, .int v1), (2, .int v2)] [] (aS x) d bc bs (liV K) := by
  refine Lp2.use (P := fun v2 x => EW MX7_fillRest 14 [(0, .ref 234), (1, .int v1), (2, .int v2)] [] (aS x) d bc bs (liV K)) (fun L14 v2 x hL14 h => ?_) v2 x h
  unfold lX7_fillRest_14 at h
  refine EW_iload_n (pc2 := 15) rfl dX7_fillRest_14 2 rfl ?_
  refine EW_aload_n (pc2 := 16) rfl dX7_fillRest_15 0 rfl ?_
  refine AW_geti ⟨gfRX7_71, rfl⟩ (pc2 := 19) rfl dX7_fillRest_16 q234 ?_
  refine EW_icmp_ge (tgt := 107) (pc2 := 22) rfl dX7_fillRest_19 (by decide) (fun q => ?_) (fun q => ?_)
  · replace h := h.1 q
    refine EW_iinc (v1 + 1) (pc2 := 110) rfl dX7_fillRest_107 1 rfl rfl (by decide) [1, 0, 2] [(0, .ref 234), (1, .int (v1 + 1)), (2, .int v2)] rfl ?_
    refine EW_goto (tgt := 2) dX7_fillRest_110 (by decide) ?_
    refine EW_ls [0, 1] rfl ?_
    exact hL2 (v1 + 1) x h
  · replace h := h.2 q
    refine EW_iload_n (pc2 := 23) rfl dX7_fillRest_22 1 rfl ?_
    refine EW_if_ne (tgt := 45) (pc2 := 26) rfl dX7_fillRest_23 (by decide) (fun q => ?_) (fun q => ?_)
    · replace h := h.1 q
      refine EW_ldc cnRX7_94 (pc2 := 47) rfl dX7_fillRest_45 ?_
      refine EW_istore_n (pc2 := 48) rfl dX7_fillRest_47 (by decide) [1, 2, 3, 0] [(0, .ref 234), (1, .int v1), (2, .int v2), (3, .int 1000000)] rfl ?_
      refine EW_iconst (pc2 := 49) (v := 0) rfl dX7_fillRest_48 (by decide) ?_
      refine EW_istore (pc2 := 51) rfl dX7_fillRest_49 (by decide) [1, 2, 3, 4, 0] [(0, .ref 234), (1, .int v1), (2, .int v2), (3, .int 1000000), (4, .int 0)] rfl ?_
      exact sX7_fillRest_51 v1 v2 1000000 0 x K L2 L14 d bc bs hdp hL2 hL14 h
    · replace h := h.2 q
      refine EW_aload_n (pc2 := 27) rfl dX7_fillRest_26 0 rfl ?_
      refine AW_getr (r := 1) ⟨gfRX7_36, rfl⟩ (pc2 := 30) rfl dX7_fillRest_27 q234 rfl ?_
      refine EW_aload_n (pc2 := 31) rfl dX7_fillRest_30 0 rfl ?_
      refine EW_iload_n (pc2 := 32) rfl dX7_fillRest_31 2 rfl ?_
      refine AW_invV (M' := MX7_cornerOf) [.int v2] (rest := [.ref 1]) mlRX7_108 okX7_cornerOf (pc2 := 35) rfl dX7_fillRest_32 rfl rfl (Nat.le_of_ble_eq_true rfl) (Nat.le_of_ble_eq_true rfl) (d' := 0) (by omega) q234 ⟨by decide, rfl⟩ (EW_mono (fun _ _ hr => ?_) (sX7_cornerOf v2  x _ _ 0 0 (Nat.le_refl _) h))
      obtain ⟨r1, rfl, rfl, h⟩ := hr
      refine EW_aload_n (pc2 := 36) rfl dX7_fillRest_35 0 rfl ?_
      refine AW_geti ⟨gfRX7_48, rfl⟩ (pc2 := 39) rfl dX7_fillRest_36 q234 ?_
      refine AW_invV (M' := MX6_walk) [.int r1, .int (x.1 234 8)] (rest := []) mlRX7_88 okX6_walk (pc2 := 42) rfl dX7_fillRest_39 rfl rfl (Nat.le_of_ble_eq_true rfl) (Nat.le_of_ble_eq_true rfl) (d' := 1) (by omega) q1 ⟨by decide, rfl⟩ (EW_mono (fun _ _ hr => ?_) (sX6_walk r1 (x.1 234 8)  x _ _ 0 0 (Nat.le_refl _) h))
      obtain ⟨r2, rfl, rfl, h⟩ := hr
      refine EW_goto (tgt := 47) dX7_fillRest_42 (by decide) ?_
      refine EW_istore_n (pc2 := 48) rfl dX7_fillRest_47 (by decide) [1, 2, 3, 0] [(0, .ref 234), (1, .int v1), (2, .int v2), (3, .int r2)] rfl ?_
      refine EW_iconst (pc2 := 49) (v := 0) rfl dX7_fillRest_48 (by decide) ?_
      refine EW_istore (pc2 := 51) rfl dX7_fillRest_49 (by decide) [1, 2, 3, 4, 0] [(0, .ref 234), (1, .int v1), (2, .int v2), (3, .int r2), (4, .int 0)] rfl ?_
      exact sX7_fillRest_51 v1 v2 r2 0 x K L2 L14 d bc bs hdp hL2 hL14 h
set_option maxHeartbeats 4000000 in
set_option maxRecDepth 100000 in
theorem sX7_fillRest_2 (v1 : Int32)  (x : ab_X) (K : ab_X → Prop)  (d bc bs : Nat) (hdp : 2 ≤ d)  (h : Lp2 (lX7_fillRest_2  K ) v1 x) : EW MX7_fillRest 2 [(0, .ref 234), (1, .int v1)] [] (aS x) d bc bs (liV K) := by
  refine Lp2.use (P := fun v1 x => EW MX7_fillRest 2 [(0, .ref 234), (1, .int v1)] [] (aS x) d bc bs (liV K)) (fun L2 v1 x hL2 h => ?_) v1 x h
  unfold lX7_fillRest_2 at h
  refine EW_iload_n (pc2 := 3) rfl dX7_fillRest_2 1 rfl ?_
  refine EW_iconst (pc2 := 4) (v := 1) rfl dX7_fillRest_3 (by decide) ?_
  refine EW_aload_n (pc2 := 5) rfl dX7_fillRest_4 0 rfl ?_
  refine AW_geti ⟨gfRX7_71, rfl⟩ (pc2 := 8) rfl dX7_fillRest_5 q234 ?_
  refine EW_ishl (pc2 := 9) rfl dX7_fillRest_8 ?_
  refine EW_icmp_ge (tgt := 113) (pc2 := 12) rfl dX7_fillRest_9 (by decide) (fun q => ?_) (fun q => ?_)
  · replace h := h.1 q
    exact EW_vret rfl dX7_fillRest_113 ⟨_, rfl, rfl, h⟩
  · replace h := h.2 q
    refine EW_iconst (pc2 := 13) (v := 0) rfl dX7_fillRest_12 (by decide) ?_
    refine EW_istore_n (pc2 := 14) rfl dX7_fillRest_13 (by decide) [1, 2, 0] [(0, .ref 234), (1, .int v1), (2, .int 0)] rfl ?_
    exact sX7_fillRest_14 v1 0 x K L2 d bc bs hdp hL2 h
set_option maxHeartbeats 4000000 in
set_option maxRecDepth 100000 in
theorem sX7_fillRest   (x : ab_X) (K : ab_X → Prop) (d bc bs : Nat) (hdp : 2 ≤ d) (h : wX7_fillRest  x K) : EW MX7_fillRest 0 [(0, .ref 234)] [] (aS x) d bc bs (liV K) := by
  unfold wX7_fillRest at h
  refine EW_iconst (pc2 := 1) (v := 0) rfl dX7_fillRest_0 (by decide) ?_
  refine EW_istore_n (pc2 := 2) rfl dX7_fillRest_1 (by decide) [1, 0] [(0, .ref 234), (1, .int 0)] rfl ?_
  exact sX7_fillRest_2 0 x K d bc bs hdp h
abbrev MX7_fillSteps : ab_M := (yX7_fillSteps, cX7_fillSteps, 3, none)
theorem dX7_fillSteps_0 : decode cX7_fillSteps 0 = .ok (.iconst 0, 1) := by decide +kernel
theorem dX7_fillSteps_1 : decode cX7_fillSteps 1 = .ok (.istore_n 1, 1) := by decide +kernel
theorem dX7_fillSteps_2 : decode cX7_fillSteps 2 = .ok (.iload_n 1, 1) := by decide +kernel
theorem dX7_fillSteps_3 : decode cX7_fillSteps 3 = .ok (.aload_n 0, 1) := by decide +kernel
theorem dX7_fillSteps_4 : decode cX7_fillSteps 4 = .ok (.getfield 71, 3) := by decide +kernel
theorem dX7_fillSteps_7 : decode cX7_fillSteps 7 = .ok (.if_icmp .ge 84, 3) := by decide +kernel
theorem dX7_fillSteps_10 : decode cX7_fillSteps 10 = .ok (.iconst 0, 1) := by decide +kernel
theorem dX7_fillSteps_11 : decode cX7_fillSteps 11 = .ok (.istore_n 2, 1) := by decide +kernel
theorem dX7_fillSteps_12 : decode cX7_fillSteps 12 = .ok (.iload_n 2, 1) := by decide +kernel
theorem dX7_fillSteps_13 : decode cX7_fillSteps 13 = .ok (.aload_n 0, 1) := by decide +kernel
theorem dX7_fillSteps_14 : decode cX7_fillSteps 14 = .ok (.getfield 71, 3) := by decide +kernel
theorem dX7_fillSteps_17 : decode cX7_fillSteps 17 = .ok (.if_icmp .ge 40, 3) := by decide +kernel
theorem dX7_fillSteps_20 : decode cX7_fillSteps 20 = .ok (.aload_n 0, 1) := by decide +kernel
theorem dX7_fillSteps_21 : decode cX7_fillSteps 21 = .ok (.getfield 24, 3) := by decide +kernel
theorem dX7_fillSteps_24 : decode cX7_fillSteps 24 = .ok (.iload_n 2, 1) := by decide +kernel
theorem dX7_fillSteps_25 : decode cX7_fillSteps 25 = .ok (.bipush 8, 2) := by decide +kernel
theorem dX7_fillSteps_27 : decode cX7_fillSteps 27 = .ok (.imul, 1) := by decide +kernel
theorem dX7_fillSteps_28 : decode cX7_fillSteps 28 = .ok (.iload_n 1, 1) := by decide +kernel
theorem dX7_fillSteps_29 : decode cX7_fillSteps 29 = .ok (.iadd, 1) := by decide +kernel
theorem dX7_fillSteps_30 : decode cX7_fillSteps 30 = .ok (.aload_n 0, 1) := by decide +kernel
theorem dX7_fillSteps_31 : decode cX7_fillSteps 31 = .ok (.getfield 36, 3) := by decide +kernel
theorem dX7_fillSteps_34 : decode cX7_fillSteps 34 = .ok (.aload_n 0, 1) := by decide +kernel
theorem dX7_fillSteps_35 : decode cX7_fillSteps 35 = .ok (.iload_n 2, 1) := by decide +kernel
theorem dX7_fillSteps_36 : decode cX7_fillSteps 36 = .ok (.invokevirtual 108, 3) := by decide +kernel
theorem dX7_fillSteps_39 : decode cX7_fillSteps 39 = .ok (.aload_n 0, 1) := by decide +kernel
theorem dX7_fillSteps_40 : decode cX7_fillSteps 40 = .ok (.iload_n 1, 1) := by decide +kernel
theorem dX7_fillSteps_41 : decode cX7_fillSteps 41 = .ok (.invokevirtual 108, 3) := by decide +kernel
theorem dX7_fillSteps_44 : decode cX7_fillSteps 44 = .ok (.invokevirtual 88, 3) := by decide +kernel
theorem dX7_fillSteps_47 : decode cX7_fillSteps 47 = .ok (.bipush 10, 2) := by decide +kernel
theorem dX7_fillSteps_49 : decode cX7_fillSteps 49 = .ok (.iadd, 1) := by decide +kernel
theorem dX7_fillSteps_50 : decode cX7_fillSteps 50 = .ok (.iastore, 1) := by decide +kernel
theorem dX7_fillSteps_51 : decode cX7_fillSteps 51 = .ok (.iinc 2 1, 3) := by decide +kernel
theorem dX7_fillSteps_54 : decode cX7_fillSteps 54 = .ok (.goto (-42), 3) := by decide +kernel
theorem dX7_fillSteps_57 : decode cX7_fillSteps 57 = .ok (.aload_n 0, 1) := by decide +kernel
theorem dX7_fillSteps_58 : decode cX7_fillSteps 58 = .ok (.getfield 24, 3) := by decide +kernel
theorem dX7_fillSteps_61 : decode cX7_fillSteps 61 = .ok (.bipush 64, 2) := by decide +kernel
theorem dX7_fillSteps_63 : decode cX7_fillSteps 63 = .ok (.iload_n 1, 1) := by decide +kernel
theorem dX7_fillSteps_64 : decode cX7_fillSteps 64 = .ok (.iadd, 1) := by decide +kernel
theorem dX7_fillSteps_65 : decode cX7_fillSteps 65 = .ok (.aload_n 0, 1) := by decide +kernel
theorem dX7_fillSteps_66 : decode cX7_fillSteps 66 = .ok (.getfield 36, 3) := by decide +kernel
theorem dX7_fillSteps_69 : decode cX7_fillSteps 69 = .ok (.aload_n 0, 1) := by decide +kernel
theorem dX7_fillSteps_70 : decode cX7_fillSteps 70 = .ok (.getfield 48, 3) := by decide +kernel
theorem dX7_fillSteps_73 : decode cX7_fillSteps 73 = .ok (.aload_n 0, 1) := by decide +kernel
theorem dX7_fillSteps_74 : decode cX7_fillSteps 74 = .ok (.iload_n 1, 1) := by decide +kernel
theorem dX7_fillSteps_75 : decode cX7_fillSteps 75 = .ok (.invokevirtual 108, 3) := by decide +kernel
theorem dX7_fillSteps_78 : decode cX7_fillSteps 78 = .ok (.invokevirtual 88, 3) := by decide +kernel
theorem dX7_fillSteps_81 : decode cX7_fillSteps 81 = .ok (.bipush 10, 2) := by decide +kernel
theorem dX7_fillSteps_83 : decode cX7_fillSteps 83 = .ok (.iadd, 1) := by decide +kernel
theorem dX7_fillSteps_84 : decode cX7_fillSteps 84 = .ok (.iastore, 1) := by decide +kernel
theorem dX7_fillSteps_85 : decode cX7_fillSteps 85 = .ok (.iinc 1 1, 3) := by decide +kernel
theorem dX7_fillSteps_88 : decode cX7_fillSteps 88 = .ok (.goto (-86), 3) := by decide +kernel
theorem dX7_fillSteps_91 : decode cX7_fillSteps 91 = .ok (.return_, 1) := by decide +kernel
theorem okX7_fillSteps : ab_okM MX7_fillSteps 0 := ⟨by decide, ⟨by decide, by decide⟩, ab_in 1613 (by decide +kernel) (by decide +kernel), ab_in 98 (by decide +kernel) (by decide +kernel), by decide +kernel, by decide⟩
set_option maxHeartbeats 4000000 in
set_option maxRecDepth 100000 in
theorem sX7_fillSteps_12 (v1 : Int32) (v2 : Int32)  (x : ab_X) (K : ab_X → Prop) (L2 : Int32 → ab_X → Prop) (d bc bs : Nat) (hdp : 2 ≤ d) (hL2 : ∀ (v1 : Int32) (x : ab_X), L2 v1 x → EW MX7_fillSteps 2 [(0, .ref 234), (1, .int v1)] [] (aS x) d bc bs (liV K)) (h : Lp2 (lX7_fillSteps_12 v1 K L2) v2 x) : EW MX7_fillSteps 12 [(0, .ref 234), (1, .int v1), (2, .int v2)] [] (aS x) d bc bs (liV K) := by
  refine Lp2.use (P := fun v2 x => EW MX7_fillSteps 12 [(0, .ref 234), (1, .int v1), (2, .int v2)] [] (aS x) d bc bs (liV K)) (fun L12 v2 x hL12 h => ?_) v2 x h
  unfold lX7_fillSteps_12 at h
  refine EW_iload_n (pc2 := 13) rfl dX7_fillSteps_12 2 rfl ?_
  refine EW_aload_n (pc2 := 14) rfl dX7_fillSteps_13 0 rfl ?_
  refine AW_geti ⟨gfRX7_71, rfl⟩ (pc2 := 17) rfl dX7_fillSteps_14 q234 ?_
  refine EW_icmp_ge (tgt := 57) (pc2 := 20) rfl dX7_fillSteps_17 (by decide) (fun q => ?_) (fun q => ?_)
  · replace h := h.1 q
    refine EW_aload_n (pc2 := 58) rfl dX7_fillSteps_57 0 rfl ?_
    refine AW_getr (r := 239) ⟨gfRX7_24, rfl⟩ (pc2 := 61) rfl dX7_fillSteps_58 q234 rfl ?_
    refine EW_bipush (pc2 := 63) (v := 64) rfl dX7_fillSteps_61 (by decide) ?_
    refine EW_iload_n (pc2 := 64) rfl dX7_fillSteps_63 1 rfl ?_
    refine EW_iadd (pc2 := 65) rfl dX7_fillSteps_64 ?_
    refine EW_aload_n (pc2 := 66) rfl dX7_fillSteps_65 0 rfl ?_
    refine AW_getr (r := 1) ⟨gfRX7_36, rfl⟩ (pc2 := 69) rfl dX7_fillSteps_66 q234 rfl ?_
    refine EW_aload_n (pc2 := 70) rfl dX7_fillSteps_69 0 rfl ?_
    refine AW_geti ⟨gfRX7_48, rfl⟩ (pc2 := 73) rfl dX7_fillSteps_70 q234 ?_
    refine EW_aload_n (pc2 := 74) rfl dX7_fillSteps_73 0 rfl ?_
    refine EW_iload_n (pc2 := 75) rfl dX7_fillSteps_74 1 rfl ?_
    refine AW_invV (M' := MX7_cornerOf) [.int v1] (rest := [.int (x.1 234 8), .ref 1, .int (64 + v1), .ref 239]) mlRX7_108 okX7_cornerOf (pc2 := 78) rfl dX7_fillSteps_75 rfl rfl (Nat.le_of_ble_eq_true rfl) (Nat.le_of_ble_eq_true rfl) (d' := 0) (by omega) q234 ⟨by decide, rfl⟩ (EW_mono (fun _ _ hr => ?_) (sX7_cornerOf v1  x _ _ 0 0 (Nat.le_refl _) h))
    obtain ⟨r1, rfl, rfl, h⟩ := hr
    refine AW_invV (M' := MX6_walk) [.int (x.1 234 8), .int r1] (rest := [.int (64 + v1), .ref 239]) mlRX7_88 okX6_walk (pc2 := 81) rfl dX7_fillSteps_78 rfl rfl (Nat.le_of_ble_eq_true rfl) (Nat.le_of_ble_eq_true rfl) (d' := 1) (by omega) q1 ⟨by decide, rfl⟩ (EW_mono (fun _ _ hr => ?_) (sX6_walk (x.1 234 8) r1  x _ _ 0 0 (Nat.le_refl _) h))
    obtain ⟨r2, rfl, rfl, h⟩ := hr
    refine EW_bipush (pc2 := 83) (v := 10) rfl dX7_fillSteps_81 (by decide) ?_
    refine EW_iadd (pc2 := 84) rfl dX7_fillSteps_83 ?_
    obtain ⟨b3, h⟩ := h
    refine AW_iast (pc2 := 85) rfl dX7_fillSteps_84 q239 b3 ?_
    refine EW_iinc (v1 + 1) (pc2 := 88) rfl dX7_fillSteps_85 1 rfl rfl (by decide) [1, 0, 2] [(0, .ref 234), (1, .int (v1 + 1)), (2, .int v2)] rfl ?_
    refine EW_goto (tgt := 2) dX7_fillSteps_88 (by decide) ?_
    refine EW_ls [0, 1] rfl ?_
    exact hL2 (v1 + 1) (wr x 239 (Int32.toNatClampNeg (64 + v1)) (r2 + 10)) h
  · replace h := h.2 q
    refine EW_aload_n (pc2 := 21) rfl dX7_fillSteps_20 0 rfl ?_
    refine AW_getr (r := 239) ⟨gfRX7_24, rfl⟩ (pc2 := 24) rfl dX7_fillSteps_21 q234 rfl ?_
    refine EW_iload_n (pc2 := 25) rfl dX7_fillSteps_24 2 rfl ?_
    refine EW_bipush (pc2 := 27) (v := 8) rfl dX7_fillSteps_25 (by decide) ?_
    refine EW_imul (pc2 := 28) rfl dX7_fillSteps_27 ?_
    refine EW_iload_n (pc2 := 29) rfl dX7_fillSteps_28 1 rfl ?_
    refine EW_iadd (pc2 := 30) rfl dX7_fillSteps_29 ?_
    refine EW_aload_n (pc2 := 31) rfl dX7_fillSteps_30 0 rfl ?_
    refine AW_getr (r := 1) ⟨gfRX7_36, rfl⟩ (pc2 := 34) rfl dX7_fillSteps_31 q234 rfl ?_
    refine EW_aload_n (pc2 := 35) rfl dX7_fillSteps_34 0 rfl ?_
    refine EW_iload_n (pc2 := 36) rfl dX7_fillSteps_35 2 rfl ?_
    refine AW_invV (M' := MX7_cornerOf) [.int v2] (rest := [.ref 1, .int ((v2 * 8) + v1), .ref 239]) mlRX7_108 okX7_cornerOf (pc2 := 39) rfl dX7_fillSteps_36 rfl rfl (Nat.le_of_ble_eq_true rfl) (Nat.le_of_ble_eq_true rfl) (d' := 0) (by omega) q234 ⟨by decide, rfl⟩ (EW_mono (fun _ _ hr => ?_) (sX7_cornerOf v2  x _ _ 0 0 (Nat.le_refl _) h))
    obtain ⟨r4, rfl, rfl, h⟩ := hr
    refine EW_aload_n (pc2 := 40) rfl dX7_fillSteps_39 0 rfl ?_
    refine EW_iload_n (pc2 := 41) rfl dX7_fillSteps_40 1 rfl ?_
    refine AW_invV (M' := MX7_cornerOf) [.int v1] (rest := [.int r4, .ref 1, .int ((v2 * 8) + v1), .ref 239]) mlRX7_108 okX7_cornerOf (pc2 := 44) rfl dX7_fillSteps_41 rfl rfl (Nat.le_of_ble_eq_true rfl) (Nat.le_of_ble_eq_true rfl) (d' := 0) (by omega) q234 ⟨by decide, rfl⟩ (EW_mono (fun _ _ hr => ?_) (sX7_cornerOf v1  x _ _ 0 0 (Nat.le_refl _) h))
    obtain ⟨r5, rfl, rfl, h⟩ := hr
    refine AW_invV (M' := MX6_walk) [.int r4, .int r5] (rest := [.int ((v2 * 8) + v1), .ref 239]) mlRX7_88 okX6_walk (pc2 := 47) rfl dX7_fillSteps_44 rfl rfl (Nat.le_of_ble_eq_true rfl) (Nat.le_of_ble_eq_true rfl) (d' := 1) (by omega) q1 ⟨by decide, rfl⟩ (EW_mono (fun _ _ hr => ?_) (sX6_walk r4 r5  x _ _ 0 0 (Nat.le_refl _) h))
    obtain ⟨r6, rfl, rfl, h⟩ := hr
    refine EW_bipush (pc2 := 49) (v := 10) rfl dX7_fillSteps_47 (by decide) ?_
    refine EW_iadd (pc2 := 50) rfl dX7_fillSteps_49 ?_
    obtain ⟨b7, h⟩ := h
    refine AW_iast (pc2 := 51) rfl dX7_fillSteps_50 q239 b7 ?_
    refine EW_iinc (v2 + 1) (pc2 := 54) rfl dX7_fillSteps_51 2 rfl rfl (by decide) [1, 2, 0] [(0, .ref 234), (1, .int v1), (2, .int (v2 + 1))] rfl ?_
    refine EW_goto (tgt := 12) dX7_fillSteps_54 (by decide) ?_
    exact hL12 (v2 + 1) (wr x 239 (Int32.toNatClampNeg ((v2 * 8) + v1)) (r6 + 10)) h
set_option maxHeartbeats 4000000 in
set_option maxRecDepth 100000 in
theorem sX7_fillSteps_2 (v1 : Int32)  (x : ab_X) (K : ab_X → Prop)  (d bc bs : Nat) (hdp : 2 ≤ d)  (h : Lp2 (lX7_fillSteps_2  K ) v1 x) : EW MX7_fillSteps 2 [(0, .ref 234), (1, .int v1)] [] (aS x) d bc bs (liV K) := by
  refine Lp2.use (P := fun v1 x => EW MX7_fillSteps 2 [(0, .ref 234), (1, .int v1)] [] (aS x) d bc bs (liV K)) (fun L2 v1 x hL2 h => ?_) v1 x h
  unfold lX7_fillSteps_2 at h
  refine EW_iload_n (pc2 := 3) rfl dX7_fillSteps_2 1 rfl ?_
  refine EW_aload_n (pc2 := 4) rfl dX7_fillSteps_3 0 rfl ?_
  refine AW_geti ⟨gfRX7_71, rfl⟩ (pc2 := 7) rfl dX7_fillSteps_4 q234 ?_
  refine EW_icmp_ge (tgt := 91) (pc2 := 10) rfl dX7_fillSteps_7 (by decide) (fun q => ?_) (fun q => ?_)
  · replace h := h.1 q
    exact EW_vret rfl dX7_fillSteps_91 ⟨_, rfl, rfl, h⟩
  · replace h := h.2 q
    refine EW_iconst (pc2 := 11) (v := 0) rfl dX7_fillSteps_10 (by decide) ?_
    refine EW_istore_n (pc2 := 12) rfl dX7_fillSteps_11 (by decide) [1, 2, 0] [(0, .ref 234), (1, .int v1), (2, .int 0)] rfl ?_
    exact sX7_fillSteps_12 v1 0 x K L2 d bc bs hdp hL2 h
set_option maxHeartbeats 4000000 in
set_option maxRecDepth 100000 in
theorem sX7_fillSteps   (x : ab_X) (K : ab_X → Prop) (d bc bs : Nat) (hdp : 2 ≤ d) (h : wX7_fillSteps  x K) : EW MX7_fillSteps 0 [(0, .ref 234)] [] (aS x) d bc bs (liV K) := by
  unfold wX7_fillSteps at h
  refine EW_iconst (pc2 := 1) (v := 0) rfl dX7_fillSteps_0 (by decide) ?_
  refine EW_istore_n (pc2 := 2) rfl dX7_fillSteps_1 (by decide) [1, 0] [(0, .ref 234), (1, .int 0)] rfl ?_
  exact sX7_fillSteps_2 0 x K d bc bs hdp h
