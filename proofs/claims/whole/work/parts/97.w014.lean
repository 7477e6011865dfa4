theorem mlRX11_403 : Cond.methodLink RX11 403 yX0_passMinute ∈ ab_G ∧ Cond.instanceMethod yX0_passMinute ∈ ab_G ∧ Cond.selects RX0 yX0_passMinute yX0_passMinute ∈ ab_G := ⟨ab_in 1355 (by decide +kernel) (by decide +kernel), ab_in 1356 (by decide +kernel) (by decide +kernel), ab_in 1357 (by decide +kernel) (by decide +kernel)⟩
abbrev MX11_tick : ab_M := (yX11_tick, cX11_tick, 3, (some .int))
theorem dX11_tick_0 : decode cX11_tick 0 = .ok (.iload_n 1, 1) := by decide +kernel
theorem dX11_tick_1 : decode cX11_tick 1 = .ok (.iconst 0, 1) := by decide +kernel
theorem dX11_tick_2 : decode cX11_tick 2 = .ok (.sipush 300, 3) := by decide +kernel
theorem dX11_tick_5 : decode cX11_tick 5 = .ok (.invokestatic 74, 3) := by decide +kernel
theorem dX11_tick_8 : decode cX11_tick 8 = .ok (.ifCond .eq 18, 3) := by decide +kernel
theorem dX11_tick_11 : decode cX11_tick 11 = .ok (.aload_n 0, 1) := by decide +kernel
theorem dX11_tick_12 : decode cX11_tick 12 = .ok (.getfield 30, 3) := by decide +kernel
theorem dX11_tick_15 : decode cX11_tick 15 = .ok (.getfield 400, 3) := by decide +kernel
theorem dX11_tick_18 : decode cX11_tick 18 = .ok (.iload_n 1, 1) := by decide +kernel
theorem dX11_tick_19 : decode cX11_tick 19 = .ok (.iadd, 1) := by decide +kernel
theorem dX11_tick_20 : decode cX11_tick 20 = .ok (.sipush 20000, 3) := by decide +kernel
theorem dX11_tick_23 : decode cX11_tick 23 = .ok (.if_icmp .le 5, 3) := by decide +kernel
theorem dX11_tick_26 : decode cX11_tick 26 = .ok (.iconst (-1), 1) := by decide +kernel
theorem dX11_tick_27 : decode cX11_tick 27 = .ok (.ireturn, 1) := by decide +kernel
theorem dX11_tick_28 : decode cX11_tick 28 = .ok (.iconst 0, 1) := by decide +kernel
theorem dX11_tick_29 : decode cX11_tick 29 = .ok (.istore_n 2, 1) := by decide +kernel
theorem dX11_tick_30 : decode cX11_tick 30 = .ok (.iload_n 2, 1) := by decide +kernel
theorem dX11_tick_31 : decode cX11_tick 31 = .ok (.iload_n 1, 1) := by decide +kernel
theorem dX11_tick_32 : decode cX11_tick 32 = .ok (.if_icmp .ge 16, 3) := by decide +kernel
theorem dX11_tick_35 : decode cX11_tick 35 = .ok (.aload_n 0, 1) := by decide +kernel
theorem dX11_tick_36 : decode cX11_tick 36 = .ok (.getfield 30, 3) := by decide +kernel
theorem dX11_tick_39 : decode cX11_tick 39 = .ok (.invokevirtual 403, 3) := by decide +kernel
theorem dX11_tick_42 : decode cX11_tick 42 = .ok (.iinc 2 1, 3) := by decide +kernel
theorem dX11_tick_45 : decode cX11_tick 45 = .ok (.goto (-15), 3) := by decide +kernel
theorem dX11_tick_48 : decode cX11_tick 48 = .ok (.aload_n 0, 1) := by decide +kernel
theorem dX11_tick_49 : decode cX11_tick 49 = .ok (.getfield 30, 3) := by decide +kernel
theorem dX11_tick_52 : decode cX11_tick 52 = .ok (.getfield 400, 3) := by decide +kernel
theorem dX11_tick_55 : decode cX11_tick 55 = .ok (.ireturn, 1) := by decide +kernel
theorem okX11_tick : ab_okM MX11_tick 1 := ⟨by decide, ⟨by decide, by decide⟩, ab_in 1354 (by decide +kernel) (by decide +kernel), ab_in 86 (by decide +kernel) (by decide +kernel), by decide +kernel, by decide⟩
set_option maxHeartbeats 4000000 in
set_option maxRecDepth 100000 in
theorem sX11_tick_30 (v1 : Int32) (v2 : Int32)  (x : ab_X) (K : Int32 → ab_X → Prop)  (d bc bs : Nat) (hdp : 7 ≤ d)  (h : Lp2 (lX11_tick_30 v1 K ) v2 x) : EW MX11_tick 30 [(0, .ref 0), (1, .int v1), (2, .int v2)] [] (aS x) d bc bs (liI K) := by
  refine Lp2.use (P := fun v2 x => EW MX11_tick 30 [(0, .ref 0), (1, .int v1), (2, .int v2)] [] (aS x) d bc bs (liI K)) (fun L30 v2 x hL30 h => ?_) v2 x h
  unfold lX11_tick_30 at h
  refine EW_iload_n (pc2 := 31) rfl dX11_tick_30 2 rfl ?_
  refine EW_iload_n (pc2 := 32) rfl dX11_tick_31 1 rfl ?_
  refine EW_icmp_ge (tgt := 48) (pc2 := 35) rfl dX11_tick_32 (by decide) (fun q => ?_) (fun q => ?_)
  · replace h := h.1 q
    refine EW_aload_n (pc2 := 49) rfl dX11_tick_48 0 rfl ?_
    refine AW_getr (r := 66) ⟨gfRX11_30, rfl⟩ (pc2 := 52) rfl dX11_tick_49 q0 rfl ?_
    refine AW_geti ⟨gfRX11_400, rfl⟩ (pc2 := 55) rfl dX11_tick_52 q66 ?_
    exact AW_iret rfl dX11_tick_55 ⟨_, _, rfl, rfl, h⟩
  · replace h := h.2 q
    refine EW_aload_n (pc2 := 36) rfl dX11_tick_35 0 rfl ?_
    refine AW_getr (r := 66) ⟨gfRX11_30, rfl⟩ (pc2 := 39) rfl dX11_tick_36 q0 rfl ?_
    refine AW_invV (M' := MX0_passMinute) [] (rest := []) mlRX11_403 okX0_passMinute (pc2 := 42) rfl dX11_tick_39 rfl rfl (Nat.le_of_ble_eq_true rfl) (Nat.le_of_ble_eq_true rfl) (d' := 6) (by omega) q66 ⟨by decide, rfl⟩ (EW_mono (fun _ _ hr => ?_) (sX0_passMinute   x _ _ 0 0 (Nat.le_refl _) h))
    obtain ⟨x2, rfl, rfl, h⟩ := hr
    refine EW_iinc (v2 + 1) (pc2 := 45) rfl dX11_tick_42 2 rfl rfl (by decide) [1, 2, 0] [(0, .ref 0), (1, .int v1), (2, .int (v2 + 1))] rfl ?_
    refine EW_goto (tgt := 30) dX11_tick_45 (by decide) ?_
    exact hL30 (v2 + 1) x2 h
set_option maxHeartbeats 4000000 in
set_option maxRecDepth 100000 in
theorem sX11_tick (v1 : Int32)  (x : ab_X) (K : Int32 → ab_X → Prop) (d bc bs : Nat) (hdp : 7 ≤ d) (h : wX11_tick v1 x K) : EW MX11_tick 0 [(0, .ref 0), (1, .int v1)] [] (aS x) d bc bs (liI K) := by
  unfold wX11_tick at h
  refine EW_iload_n (pc2 := 1) rfl dX11_tick_0 1 rfl ?_
  refine EW_iconst (pc2 := 2) (v := 0) rfl dX11_tick_1 (by decide) ?_
  refine EW_sipush (pc2 := 5) (v := 300) rfl dX11_tick_2 (by decide) ?_
  refine AW_invS (M' := MX11_within) [.int v1, .int 0, .int 300] (rest := []) mlRX11_74 okX11_within (pc2 := 8) rfl dX11_tick_5 rfl rfl (Nat.le_of_ble_eq_true rfl) (Nat.le_of_ble_eq_true rfl) (d' := 0) (by omega) (EW_mono (fun _ _ hr => ?_) (sX11_within v1 0 300  x _ _ 0 0 (Nat.le_refl _) h))
  obtain ⟨r1, rfl, rfl, h⟩ := hr
  refine EW_if_eq (tgt := 26) (pc2 := 11) rfl dX11_tick_8 (by decide) (fun q => ?_) (fun q => ?_)
  · replace h := h.1 q
    refine EW_iconst (pc2 := 27) (v := (-1)) rfl dX11_tick_26 (by decide) ?_
    exact AW_iret rfl dX11_tick_27 ⟨_, _, rfl, rfl, h⟩
  · replace h := h.2 q
    refine EW_aload_n (pc2 := 12) rfl dX11_tick_11 0 rfl ?_
    refine AW_getr (r := 66) ⟨gfRX11_30, rfl⟩ (pc2 := 15) rfl dX11_tick_12 q0 rfl ?_
    refine AW_geti ⟨gfRX11_400, rfl⟩ (pc2 := 18) rfl dX11_tick_15 q66 ?_
    refine EW_iload_n (pc2 := 19) rfl dX11_tick_18 1 rfl ?_
    refine EW_iadd (pc2 := 20) rfl dX11_tick_19 ?_
    refine EW_sipush (pc2 := 23) (v := 20000) rfl dX11_tick_20 (by decide) ?_
    refine EW_icmp_le (tgt := 28) (pc2 := 26) rfl dX11_tick_23 (by decide) (fun q => ?_) (fun q => ?_)
    · replace h := h.1 q
      refine EW_iconst (pc2 := 29) (v := 0) rfl dX11_tick_28 (by decide) ?_
      refine EW_istore_n (pc2 := 30) rfl dX11_tick_29 (by decide) [1, 2, 0] [(0, .ref 0), (1, .int v1), (2, .int 0)] rfl ?_
      exact sX11_tick_30 v1 0 x K d bc bs hdp h
    · replace h := h.2 q
      refine EW_iconst (pc2 := 27) (v := (-1)) rfl dX11_tick_26 (by decide) ?_
      exact AW_iret rfl dX11_tick_27 ⟨_, _, rfl, rfl, h⟩
abbrev MX5_wasChanged : ab_M := (yX5_wasChanged, cX5_wasChanged, 3, (some .boolean))
theorem dX5_wasChanged_0 : decode cX5_wasChanged 0 = .ok (.iconst 0, 1) := by decide +kernel
theorem dX5_wasChanged_1 : decode cX5_wasChanged 1 = .ok (.istore_n 2, 1) := by decide +kernel
theorem dX5_wasChanged_2 : decode cX5_wasChanged 2 = .ok (.iload_n 2, 1) := by decide +kernel
theorem dX5_wasChanged_3 : decode cX5_wasChanged 3 = .ok (.aload_n 0, 1) := by decide +kernel
theorem dX5_wasChanged_4 : decode cX5_wasChanged 4 = .ok (.getfield 50, 3) := by decide +kernel
theorem dX5_wasChanged_7 : decode cX5_wasChanged 7 = .ok (.if_icmp .ge 31, 3) := by decide +kernel
theorem dX5_wasChanged_10 : decode cX5_wasChanged 10 = .ok (.aload_n 0, 1) := by decide +kernel
theorem dX5_wasChanged_11 : decode cX5_wasChanged 11 = .ok (.getfield 24, 3) := by decide +kernel
theorem dX5_wasChanged_14 : decode cX5_wasChanged 14 = .ok (.iload_n 2, 1) := by decide +kernel
theorem dX5_wasChanged_15 : decode cX5_wasChanged 15 = .ok (.iaload, 1) := by decide +kernel
theorem dX5_wasChanged_16 : decode cX5_wasChanged 16 = .ok (.iload_n 1, 1) := by decide +kernel
theorem dX5_wasChanged_17 : decode cX5_wasChanged 17 = .ok (.if_icmp .ne 15, 3) := by decide +kernel
theorem dX5_wasChanged_20 : decode cX5_wasChanged 20 = .ok (.aload_n 0, 1) := by decide +kernel
theorem dX5_wasChanged_21 : decode cX5_wasChanged 21 = .ok (.getfield 30, 3) := by decide +kernel
theorem dX5_wasChanged_24 : decode cX5_wasChanged 24 = .ok (.iload_n 2, 1) := by decide +kernel
theorem dX5_wasChanged_25 : decode cX5_wasChanged 25 = .ok (.iaload, 1) := by decide +kernel
theorem dX5_wasChanged_26 : decode cX5_wasChanged 26 = .ok (.iconst (-1), 1) := by decide +kernel
theorem dX5_wasChanged_27 : decode cX5_wasChanged 27 = .ok (.if_icmp .eq 5, 3) := by decide +kernel
theorem dX5_wasChanged_30 : decode cX5_wasChanged 30 = .ok (.iconst 1, 1) := by decide +kernel
theorem dX5_wasChanged_31 : decode cX5_wasChanged 31 = .ok (.ireturn, 1) := by decide +kernel
theorem dX5_wasChanged_32 : decode cX5_wasChanged 32 = .ok (.iinc 2 1, 3) := by decide +kernel
theorem dX5_wasChanged_35 : decode cX5_wasChanged 35 = .ok (.goto (-33), 3) := by decide +kernel
theorem dX5_wasChanged_38 : decode cX5_wasChanged 38 = .ok (.iconst 0, 1) := by decide +kernel
theorem dX5_wasChanged_39 : decode cX5_wasChanged 39 = .ok (.ireturn, 1) := by decide +kernel
theorem okX5_wasChanged : ab_okM MX5_wasChanged 1 := ⟨by decide, ⟨by decide, by decide⟩, ab_in 850 (by decide +kernel) (by decide +kernel), ab_in 97 (by decide +kernel) (by decide +kernel), by decide +kernel, by decide⟩
set_option maxHeartbeats 4000000 in
set_option maxRecDepth 100000 in
theorem sX5_wasChanged_2 (v1 : Int32) (v2 : Int32)  (x : ab_X) (K : Int32 → Prop)  (d bc bs : Nat) (hdp : 0 ≤ d)  (h : Lp1 (lX5_wasChanged_2 v1 x K ) v2) : EW MX5_wasChanged 2 [(0, .ref 165), (1, .int v1), (2, .int v2)] [] (aS x) d bc bs (liP x K) := by
  refine Lp1.use (P := fun v2 => EW MX5_wasChanged 2 [(0, .ref 165), (1, .int v1), (2, .int v2)] [] (aS x) d bc bs (liP x K)) (fun L2 v2 hL2 h => ?_) v2 h
  unfold lX5_wasChanged_2 at h
  refine EW_iload_n (pc2 := 3) rfl dX5_wasChanged_2 2 rfl ?_
  refine EW_aload_n (pc2 := 4) rfl dX5_wasChanged_3 0 rfl ?_
  refine AW_geti ⟨gfRX5_50, rfl⟩ (pc2 := 7) rfl dX5_wasChanged_4 q165 ?_
  refine EW_icmp_ge (tgt := 38) (pc2 := 10) rfl dX5_wasChanged_7 (by decide) (fun q => ?_) (fun q => ?_)
  · replace h := h.1 q
    refine EW_iconst (pc2 := 39) (v := 0) rfl dX5_wasChanged_38 (by decide) ?_
    exact AW_zret rfl isB0 dX5_wasChanged_39 ⟨_, rfl, rfl, h⟩
  · replace h := h.2 q
    refine EW_aload_n (pc2 := 11) rfl dX5_wasChanged_10 0 rfl ?_
    refine AW_getr (r := 169) ⟨gfRX5_24, rfl⟩ (pc2 := 14) rfl dX5_wasChanged_11 q165 rfl ?_
    refine EW_iload_n (pc2 := 15) rfl dX5_wasChanged_14 2 rfl ?_
    obtain ⟨b1, h⟩ := h
    refine AW_iald (pc2 := 16) rfl dX5_wasChanged_15 q169 b1 ?_
    refine EW_iload_n (pc2 := 17) rfl dX5_wasChanged_16 1 rfl ?_
    refine EW_icmp_ne (tgt := 32) (pc2 := 20) rfl dX5_wasChanged_17 (by decide) (fun q => ?_) (fun q => ?_)
    · replace h := h.1 q
      refine EW_iinc (v2 + 1) (pc2 := 35) rfl dX5_wasChanged_32 2 rfl rfl (by decide) [1, 2, 0] [(0, .ref 165), (1, .int v1), (2, .int (v2 + 1))] rfl ?_
      refine EW_goto (tgt := 2) dX5_wasChanged_35 (by decide) ?_
      exact hL2 (v2 + 1) h
    · replace h := h.2 q
      refine EW_aload_n (pc2 := 21) rfl dX5_wasChanged_20 0 rfl ?_
      refine AW_getr (r := 171) ⟨gfRX5_30, rfl⟩ (pc2 := 24) rfl dX5_wasChanged_21 q165 rfl ?_
      refine EW_iload_n (pc2 := 25) rfl dX5_wasChanged_24 2 rfl ?_
      obtain ⟨b2, h⟩ := h
      refine AW_iald (pc2 := 26) rfl dX5_wasChanged_25 q171 b2 ?_
      refine EW_iconst (pc2 := 27) (v := (-1)) rfl dX5_wasChanged_26 (by decide) ?_
      refine EW_icmp_eq (tgt := 32) (pc2 := 30) rfl dX5_wasChanged_27 (by decide) (fun q => ?_) (fun q => ?_)
      · replace h := h.1 q
        refine EW_iinc (v2 + 1) (pc2 := 35) rfl dX5_wasChanged_32 2 rfl rfl (by decide) [1, 2, 0] [(0, .ref 165), (1, .int v1), (2, .int (v2 + 1))] rfl ?_
        refine EW_goto (tgt := 2) dX5_wasChanged_35 (by decide) ?_
        exact hL2 (v2 + 1) h
      · replace h := h.2 q
        refine EW_iconst (pc2 := 31) (v := 1) rfl dX5_wasChanged_30 (by decide) ?_
        exact AW_zret rfl isB1 dX5_wasChanged_31 ⟨_, rfl, rfl, h⟩
set_option maxHeartbeats 4000000 in
set_option maxRecDepth 100000 in
theorem sX5_wasChanged (v1 : Int32)  (x : ab_X) (K : Int32 → Prop) (d bc bs : Nat) (hdp : 0 ≤ d) (h : wX5_wasChanged v1 x K) : EW MX5_wasChanged 0 [(0, .ref 165), (1, .int v1)] [] (aS x) d bc bs (liP x K) := by
  unfold wX5_wasChanged at h
  refine EW_iconst (pc2 := 1) (v := 0) rfl dX5_wasChanged_0 (by decide) ?_
  refine EW_istore_n (pc2 := 2) rfl dX5_wasChanged_1 (by decide) [1, 2, 0] [(0, .ref 165), (1, .int v1), (2, .int 0)] rfl ?_
  exact sX5_wasChanged_2 v1 0 x K d bc bs hdp h
theorem mlRX11_141 : Cond.methodLink RX11 141 yX5_wasChanged ∈ ab_G ∧ Cond.instanceMethod yX5_wasChanged ∈ ab_G ∧ Cond.selects RX5 yX5_wasChanged yX5_wasChanged ∈ ab_G := ⟨ab_in 847 (by decide +kernel) (by decide +kernel), ab_in 848 (by decide +kernel) (by decide +kernel), ab_in 849 (by decide +kernel) (by decide +kernel)⟩
theorem gfRX11_144 : ab_L RX11 144 4 9 := ⟨by decide, by decide, ab_in 250 (by decide +kernel) (by decide +kernel)⟩
abbrev MX11_use : ab_M := (yX11_use, cX11_use, 3, (some .boolean))
theorem dX11_use_0 : decode cX11_use 0 = .ok (.aload_n 0, 1) := by decide +kernel
theorem dX11_use_1 : decode cX11_use 1 = .ok (.getfield 21, 3) := by decide +kernel
theorem dX11_use_4 : decode cX11_use 4 = .ok (.iload_n 1, 1) := by decide +kernel
theorem dX11_use_5 : decode cX11_use 5 = .ok (.invokevirtual 124, 3) := by decide +kernel
theorem dX11_use_8 : decode cX11_use 8 = .ok (.ifCond .eq 24, 3) := by decide +kernel
theorem dX11_use_11 : decode cX11_use 11 = .ok (.iload_n 2, 1) := by decide +kernel
theorem dX11_use_12 : decode cX11_use 12 = .ok (.iconst 0, 1) := by decide +kernel
theorem dX11_use_13 : decode cX11_use 13 = .ok (.bipush 9, 2) := by decide +kernel
theorem dX11_use_15 : decode cX11_use 15 = .ok (.invokestatic 74, 3) := by decide +kernel
theorem dX11_use_18 : decode cX11_use 18 = .ok (.ifCond .eq 14, 3) := by decide +kernel
theorem dX11_use_21 : decode cX11_use 21 = .ok (.aload_n 0, 1) := by decide +kernel
theorem dX11_use_22 : decode cX11_use 22 = .ok (.getfield 46, 3) := by decide +kernel
theorem dX11_use_25 : decode cX11_use 25 = .ok (.iload_n 1, 1) := by decide +kernel
theorem dX11_use_26 : decode cX11_use 26 = .ok (.invokevirtual 141, 3) := by decide +kernel
theorem dX11_use_29 : decode cX11_use 29 = .ok (.ifCond .eq 5, 3) := by decide +kernel
theorem dX11_use_32 : decode cX11_use 32 = .ok (.iconst 0, 1) := by decide +kernel
theorem dX11_use_33 : decode cX11_use 33 = .ok (.ireturn, 1) := by decide +kernel
theorem dX11_use_34 : decode cX11_use 34 = .ok (.aload_n 0, 1) := by decide +kernel
theorem dX11_use_35 : decode cX11_use 35 = .ok (.getfield 21, 3) := by decide +kernel
theorem dX11_use_38 : decode cX11_use 38 = .ok (.getfield 127, 3) := by decide +kernel
theorem dX11_use_41 : decode cX11_use 41 = .ok (.iload_n 1, 1) := by decide +kernel
theorem dX11_use_42 : decode cX11_use 42 = .ok (.aaload, 1) := by decide +kernel
theorem dX11_use_43 : decode cX11_use 43 = .ok (.iload_n 2, 1) := by decide +kernel
theorem dX11_use_44 : decode cX11_use 44 = .ok (.putfield 144, 3) := by decide +kernel
theorem dX11_use_47 : decode cX11_use 47 = .ok (.iconst 1, 1) := by decide +kernel
theorem dX11_use_48 : decode cX11_use 48 = .ok (.ireturn, 1) := by decide +kernel
theorem okX11_use : ab_okM MX11_use 2 := ⟨by decide, ⟨by decide, by decide⟩, ab_in 846 (by decide +kernel) (by decide +kernel), ab_in 86 (by decide +kernel) (by decide +kernel), by decide +kernel, by decide⟩
set_option maxHeartbeats 4000000 in
set_option maxRecDepth 100000 in
theorem sX11_use (v1 : Int32) (v2 : Int32)  (x : ab_X) (K : Int32 → ab_X → Prop) (d bc bs : Nat) (hdp : 2 ≤ d) (h : wX11_use v1 v2 x K) : EW MX11_use 0 [(0, .ref 0), (1, .int v1), (2, .int v2)] [] (aS x) d bc bs (liI K) := by
  unfold wX11_use at h
  refine EW_aload_n (pc2 := 1) rfl dX11_use_0 0 rfl ?_
  refine AW_getr (r := 9) ⟨gfRX11_21, rfl⟩ (pc2 := 4) rfl dX11_use_1 q0 rfl ?_
  refine EW_iload_n (pc2 := 5) rfl dX11_use_4 1 rfl ?_
  refine AW_invV (M' := MX10_has) [.int v1] (rest := []) mlRX11_124 okX10_has (pc2 := 8) rfl dX11_use_5 rfl rfl (Nat.le_of_ble_eq_true rfl) (Nat.le_of_ble_eq_true rfl) (d' := 1) (by omega) q9 ⟨by decide, rfl⟩ (EW_mono (fun _ _ hr => ?_) (sX10_has v1  x _ _ 0 0 (Nat.le_refl _) h))
  obtain ⟨r1, rfl, rfl, h⟩ := hr
  refine EW_if_eq (tgt := 32) (pc2 := 11) rfl dX11_use_8 (by decide) (fun q => ?_) (fun q => ?_)
  · replace h := h.1 q
    refine EW_iconst (pc2 := 33) (v := 0) rfl dX11_use_32 (by decide) ?_
    exact AW_zret rfl isB0 dX11_use_33 ⟨_, _, rfl, rfl, h⟩
  · replace h := h.2 q
    refine EW_iload_n (pc2 := 12) rfl dX11_use_11 2 rfl ?_
    refine EW_iconst (pc2 := 13) (v := 0) rfl dX11_use_12 (by decide) ?_
    refine EW_bipush (pc2 := 15) (v := 9) rfl dX11_use_13 (by decide) ?_
    refine AW_invS (M' := MX11_within) [.int v2, .int 0, .int 9] (rest := []) mlRX11_74 okX11_within (pc2 := 18) rfl dX11_use_15 rfl rfl (Nat.le_of_ble_eq_true rfl) (Nat.le_of_ble_eq_true rfl) (d' := 0) (by omega) (EW_mono (fun _ _ hr => ?_) (sX11_within v2 0 9  x _ _ 0 0 (Nat.le_refl _) h))
    obtain ⟨r2, rfl, rfl, h⟩ := hr
    refine EW_if_eq (tgt := 32) (pc2 := 21) rfl dX11_use_18 (by decide) (fun q => ?_) (fun q => ?_)
    · replace h := h.1 q
      refine EW_iconst (pc2 := 33) (v := 0) rfl dX11_use_32 (by decide) ?_
      exact AW_zret rfl isB0 dX11_use_33 ⟨_, _, rfl, rfl, h⟩
    · replace h := h.2 q
      refine EW_aload_n (pc2 := 22) rfl dX11_use_21 0 rfl ?_
      refine AW_getr (r := 165) ⟨gfRX11_46, rfl⟩ (pc2 := 25) rfl dX11_use_22 q0 rfl ?_
      refine EW_iload_n (pc2 := 26) rfl dX11_use_25 1 rfl ?_
      refine AW_invV (M' := MX5_wasChanged) [.int v1] (rest := []) mlRX11_141 okX5_wasChanged (pc2 := 29) rfl dX11_use_26 rfl rfl (Nat.le_of_ble_eq_true rfl) (Nat.le_of_ble_eq_true rfl) (d' := 0) (by omega) q165 ⟨by decide, rfl⟩ (EW_mono (fun _ _ hr => ?_) (sX5_wasChanged v1  x _ _ 0 0 (Nat.le_refl _) h))
      obtain ⟨r3, rfl, rfl, h⟩ := hr
      refine EW_if_eq (tgt := 34) (pc2 := 32) rfl dX11_use_29 (by decide) (fun q => ?_) (fun q => ?_)
      · replace h := h.1 q
        refine EW_aload_n (pc2 := 35) rfl dX11_use_34 0 rfl ?_
        refine AW_getr (r := 9) ⟨gfRX11_21, rfl⟩ (pc2 := 38) rfl dX11_use_35 q0 rfl ?_
        refine AW_getr (r := 10) ⟨gfRX11_127, rfl⟩ (pc2 := 41) rfl dX11_use_38 q9 rfl ?_
        refine EW_iload_n (pc2 := 42) rfl dX11_use_41 1 rfl ?_
        obtain ⟨b4, h⟩ := h
        refine AW_aald5 (pc2 := 43) rfl dX11_use_42 b4 ?_
        refine EW_iload_n (pc2 := 44) rfl dX11_use_43 2 rfl ?_
        refine AW_puti ⟨gfRX11_144, rfl, rfl⟩ (pc2 := 47) rfl dX11_use_44 (isH.o (isH_of b4)) ?_
        refine EW_iconst (pc2 := 48) (v := 1) rfl dX11_use_47 (by decide) ?_
        exact AW_zret rfl isB1 dX11_use_48 ⟨_, _, rfl, rfl, h⟩
      · replace h := h.2 q
        refine EW_iconst (pc2 := 33) (v := 0) rfl dX11_use_32 (by decide) ?_
        exact AW_zret rfl isB0 dX11_use_33 ⟨_, _, rfl, rfl, h⟩
theorem mlRX11_426 : Cond.methodLink RX11 426 yX5_useAt ∈ ab_G ∧ Cond.instanceMethod yX5_useAt ∈ ab_G ∧ Cond.selects RX5 yX5_useAt yX5_useAt ∈ ab_G := ⟨ab_in 1543 (by decide +kernel) (by decide +kernel), ab_in 1544 (by decide +kernel) (by decide +kernel), ab_in 1545 (by decide +kernel) (by decide +kernel)⟩
abbrev MX11_used : ab_M := (yX11_used, cX11_used, 3, (some .int))
theorem dX11_used_0 : decode cX11_used 0 = .ok (.aload_n 0, 1) := by decide +kernel
theorem dX11_used_1 : decode cX11_used 1 = .ok (.iload_n 1, 1) := by decide +kernel
theorem dX11_used_2 : decode cX11_used 2 = .ok (.iload_n 2, 1) := by decide +kernel
theorem dX11_used_3 : decode cX11_used 3 = .ok (.invokevirtual 416, 3) := by decide +kernel
theorem dX11_used_6 : decode cX11_used 6 = .ok (.ifCond .eq 15, 3) := by decide +kernel
theorem dX11_used_9 : decode cX11_used 9 = .ok (.aload_n 0, 1) := by decide +kernel
theorem dX11_used_10 : decode cX11_used 10 = .ok (.getfield 46, 3) := by decide +kernel
theorem dX11_used_13 : decode cX11_used 13 = .ok (.iload_n 1, 1) := by decide +kernel
theorem dX11_used_14 : decode cX11_used 14 = .ok (.iload_n 2, 1) := by decide +kernel
theorem dX11_used_15 : decode cX11_used 15 = .ok (.invokevirtual 426, 3) := by decide +kernel
theorem dX11_used_18 : decode cX11_used 18 = .ok (.goto 4, 3) := by decide +kernel
theorem dX11_used_21 : decode cX11_used 21 = .ok (.iconst (-1), 1) := by decide +kernel
theorem dX11_used_22 : decode cX11_used 22 = .ok (.ireturn, 1) := by decide +kernel
theorem okX11_used : ab_okM MX11_used 2 := ⟨by decide, ⟨by decide, by decide⟩, ab_in 1542 (by decide +kernel) (by decide +kernel), ab_in 86 (by decide +kernel) (by decide +kernel), by decide +kernel, by decide⟩
set_option maxHeartbeats 4000000 in
set_option maxRecDepth 100000 in
theorem sX11_used (v1 : Int32) (v2 : Int32)  (x : ab_X) (K : Int32 → Prop) (d bc bs : Nat) (hdp : 3 ≤ d) (h : wX11_used v1 v2 x K) : EW MX11_used 0 [(0, .ref 0), (1, .int v1), (2, .int v2)] [] (aS x) d bc bs (liP x K) := by
  unfold wX11_used at h
  refine EW_aload_n (pc2 := 1) rfl dX11_used_0 0 rfl ?_
  refine EW_iload_n (pc2 := 2) rfl dX11_used_1 1 rfl ?_
  refine EW_iload_n (pc2 := 3) rfl dX11_used_2 2 rfl ?_
  refine AW_invV (M' := MX11_isKnown) [.int v1, .int v2] (rest := []) mlRX11_416 okX11_isKnown (pc2 := 6) rfl dX11_used_3 rfl rfl (Nat.le_of_ble_eq_true rfl) (Nat.le_of_ble_eq_true rfl) (d' := 2) (by omega) q0 ⟨by decide, rfl⟩ (EW_mono (fun _ _ hr => ?_) (sX11_isKnown v1 v2  x _ _ 0 0 (Nat.le_refl _) h))
  obtain ⟨r1, rfl, rfl, h⟩ := hr
  refine EW_if_eq (tgt := 21) (pc2 := 9) rfl dX11_used_6 (by decide) (fun q => ?_) (fun q => ?_)
  · replace h := h.1 q
    refine EW_iconst (pc2 := 22) (v := (-1)) rfl dX11_used_21 (by decide) ?_
    exact AW_iret rfl dX11_used_22 ⟨_, rfl, rfl, h⟩
  · replace h := h.2 q
    refine EW_aload_n (pc2 := 10) rfl dX11_used_9 0 rfl ?_
    refine AW_getr (r := 165) ⟨gfRX11_46, rfl⟩ (pc2 := 13) rfl dX11_used_10 q0 rfl ?_
    refine EW_iload_n (pc2 := 14) rfl dX11_used_13 1 rfl ?_
    refine EW_iload_n (pc2 := 15) rfl dX11_used_14 2 rfl ?_
    refine AW_invV (M' := MX5_useAt) [.int v1, .int v2] (rest := []) mlRX11_426 okX5_useAt (pc2 := 18) rfl dX11_used_15 rfl rfl (Nat.le_of_ble_eq_true rfl) (Nat.le_of_ble_eq_true rfl) (d' := 0) (by omega) q165 ⟨by decide, rfl⟩ (EW_mono (fun _ _ hr => ?_) (sX5_useAt v1 v2  x _ _ 0 0 (Nat.le_refl _) h))
    obtain ⟨r2, rfl, rfl, h⟩ := hr
    refine EW_goto (tgt := 22) dX11_used_18 (by decide) ?_
    exact AW_iret rfl dX11_used_22 ⟨_, rfl, rfl, h⟩
theorem mlRX11_491 : Cond.methodLink RX11 491 yX10_tryWater ∈ ab_G ∧ Cond.instanceMethod yX10_tryWater ∈ ab_G ∧ Cond.selects RX10 yX10_tryWater yX10_tryWater ∈ ab_G := ⟨ab_in 1739 (by decide +kernel) (by decide +kernel), ab_in 1740 (by decide +kernel) (by decide +kernel), ab_in 1741 (by decide +kernel) (by decide +kernel)⟩
abbrev MX11_what : ab_M := (yX11_what, cX11_what, 5, (some .int))
theorem dX11_what_0 : decode cX11_what 0 = .ok (.aload_n 0, 1) := by decide +kernel
theorem dX11_what_1 : decode cX11_what 1 = .ok (.getfield 21, 3) := by decide +kernel
theorem dX11_what_4 : decode cX11_what 4 = .ok (.iload_n 1, 1) := by decide +kernel
theorem dX11_what_5 : decode cX11_what 5 = .ok (.iload_n 2, 1) := by decide +kernel
theorem dX11_what_6 : decode cX11_what 6 = .ok (.invokevirtual 173, 3) := by decide +kernel
theorem dX11_what_9 : decode cX11_what 9 = .ok (.ifCond .eq 26, 3) := by decide +kernel
theorem dX11_what_12 : decode cX11_what 12 = .ok (.iload_n 3, 1) := by decide +kernel
theorem dX11_what_13 : decode cX11_what 13 = .ok (.iconst 0, 1) := by decide +kernel
theorem dX11_what_14 : decode cX11_what 14 = .ok (.sipush 500, 3) := by decide +kernel
theorem dX11_what_17 : decode cX11_what 17 = .ok (.invokestatic 74, 3) := by decide +kernel
theorem dX11_what_20 : decode cX11_what 20 = .ok (.ifCond .eq 15, 3) := by decide +kernel
theorem dX11_what_23 : decode cX11_what 23 = .ok (.iload 4, 2) := by decide +kernel
theorem dX11_what_25 : decode cX11_what 25 = .ok (.iconst 1, 1) := by decide +kernel
theorem dX11_what_26 : decode cX11_what 26 = .ok (.sipush 200, 3) := by decide +kernel
theorem dX11_what_29 : decode cX11_what 29 = .ok (.invokestatic 74, 3) := by decide +kernel
theorem dX11_what_32 : decode cX11_what 32 = .ok (.ifCond .ne 5, 3) := by decide +kernel
theorem dX11_what_35 : decode cX11_what 35 = .ok (.iconst (-1), 1) := by decide +kernel
theorem dX11_what_36 : decode cX11_what 36 = .ok (.ireturn, 1) := by decide +kernel
theorem dX11_what_37 : decode cX11_what 37 = .ok (.aload_n 0, 1) := by decide +kernel
theorem dX11_what_38 : decode cX11_what 38 = .ok (.getfield 21, 3) := by decide +kernel
theorem dX11_what_41 : decode cX11_what 41 = .ok (.aload_n 0, 1) := by decide +kernel
theorem dX11_what_42 : decode cX11_what 42 = .ok (.getfield 21, 3) := by decide +kernel
theorem dX11_what_45 : decode cX11_what 45 = .ok (.getfield 127, 3) := by decide +kernel
theorem dX11_what_48 : decode cX11_what 48 = .ok (.iload_n 1, 1) := by decide +kernel
theorem dX11_what_49 : decode cX11_what 49 = .ok (.aaload, 1) := by decide +kernel
theorem dX11_what_50 : decode cX11_what 50 = .ok (.iload_n 2, 1) := by decide +kernel
theorem dX11_what_51 : decode cX11_what 51 = .ok (.iload_n 3, 1) := by decide +kernel
theorem dX11_what_52 : decode cX11_what 52 = .ok (.iload 4, 2) := by decide +kernel
theorem dX11_what_54 : decode cX11_what 54 = .ok (.invokevirtual 491, 3) := by decide +kernel
theorem dX11_what_57 : decode cX11_what 57 = .ok (.ireturn, 1) := by decide +kernel
theorem okX11_what : ab_okM MX11_what 4 := ⟨by decide, ⟨by decide, by decide⟩, ab_in 1738 (by decide +kernel) (by decide +kernel), ab_in 86 (by decide +kernel) (by decide +kernel), by decide +kernel, by decide⟩
set_option maxHeartbeats 4000000 in
set_option maxRecDepth 100000 in
theorem sX11_what (v1 : Int32) (v2 : Int32) (v3 : Int32) (v4 : Int32)  (x : ab_X) (K : Int32 → ab_X → Prop) (d bc bs : Nat) (hdp : 5 ≤ d) (h : wX11_what v1 v2 v3 v4 x K) : EW MX11_what 0 [(0, .ref 0), (1, .int v1), (2, .int v2), (3, .int v3), (4, .int v4)] [] (aS x) d bc bs (liI K) := by
  unfold wX11_what at h
  refine EW_aload_n (pc2 := 1) rfl dX11_what_0 0 rfl ?_
  refine AW_getr (r := 9) ⟨gfRX11_21, rfl⟩ (pc2 := 4) rfl dX11_what_1 q0 rfl ?_
  refine EW_iload_n (pc2 := 5) rfl dX11_what_4 1 rfl ?_
  refine EW_iload_n (pc2 := 6) rfl dX11_what_5 2 rfl ?_
  refine AW_invV (M' := MX10_hasRoom) [.int v1, .int v2] (rest := []) mlRX11_173 okX10_hasRoom (pc2 := 9) rfl dX11_what_6 rfl rfl (Nat.le_of_ble_eq_true rfl) (Nat.le_of_ble_eq_true rfl) (d' := 2) (by omega) q9 ⟨by decide, rfl⟩ (EW_mono (fun _ _ hr => ?_) (sX10_hasRoom v1 v2  x _ _ 0 0 (Nat.le_refl _) h))
  obtain ⟨r1, rfl, rfl, h⟩ := hr
  refine EW_if_eq (tgt := 35) (pc2 := 12) rfl dX11_what_9 (by decide) (fun q => ?_) (fun q => ?_)
  · replace h := h.1 q
    refine EW_iconst (pc2 := 36) (v := (-1)) rfl dX11_what_35 (by decide) ?_
    exact AW_iret rfl dX11_what_36 ⟨_, _, rfl, rfl, h⟩
  · replace h := h.2 q
    refine EW_iload_n (pc2 := 13) rfl dX11_what_12 3 rfl ?_
    refine EW_iconst (pc2 := 14) (v := 0) rfl dX11_what_13 (by decide) ?_
    refine EW_sipush (pc2 := 17) (v := 500) rfl dX11_what_14 (by decide) ?_
    refine AW_invS (M' := MX11_within) [.int v3, .int 0, .int 500] (rest := []) mlRX11_74 okX11_within (pc2 := 20) rfl dX11_what_17 rfl rfl (Nat.le_of_ble_eq_true rfl) (Nat.le_of_ble_eq_true rfl) (d' := 0) (by omega) (EW_mono (fun _ _ hr => ?_) (sX11_within v3 0 500  x _ _ 0 0 (Nat.le_refl _) h))
    obtain ⟨r2, rfl, rfl, h⟩ := hr
    refine EW_if_eq (tgt := 35) (pc2 := 23) rfl dX11_what_20 (by decide) (fun q => ?_) (fun q => ?_)
    · replace h := h.1 q
      refine EW_iconst (pc2 := 36) (v := (-1)) rfl dX11_what_35 (by decide) ?_
      exact AW_iret rfl dX11_what_36 ⟨_, _, rfl, rfl, h⟩
    · replace h := h.2 q
      refine EW_iload (pc2 := 25) rfl dX11_what_23 4 rfl ?_
      refine EW_iconst (pc2 := 26) (v := 1) rfl dX11_what_25 (by decide) ?_
      refine EW_sipush (pc2 := 29) (v := 200) rfl dX11_what_26 (by decide) ?_
      refine AW_invS (M' := MX11_within) [.int v4, .int 1, .int 200] (rest := []) mlRX11_74 okX11_within (pc2 := 32) rfl dX11_what_29 rfl rfl (Nat.le_of_ble_eq_true rfl) (Nat.le_of_ble_eq_true rfl) (d' := 0) (by omega) (EW_mono (fun _ _ hr => ?_) (sX11_within v4 1 200  x _ _ 0 0 (Nat.le_refl _) h))
      obtain ⟨r3, rfl, rfl, h⟩ := hr
      refine EW_if_ne (tgt := 37) (pc2 := 35) rfl dX11_what_32 (by decide) (fun q => ?_) (fun q => ?_)
      · replace h := h.1 q
        refine EW_aload_n (pc2 := 38) rfl dX11_what_37 0 rfl ?_
        refine AW_getr (r := 9) ⟨gfRX11_21, rfl⟩ (pc2 := 41) rfl dX11_what_38 q0 rfl ?_
        refine EW_aload_n (pc2 := 42) rfl dX11_what_41 0 rfl ?_
        refine AW_getr (r := 9) ⟨gfRX11_21, rfl⟩ (pc2 := 45) rfl dX11_what_42 q0 rfl ?_
        refine AW_getr (r := 10) ⟨gfRX11_127, rfl⟩ (pc2 := 48) rfl dX11_what_45 q9 rfl ?_
        refine EW_iload_n (pc2 := 49) rfl dX11_what_48 1 rfl ?_
        obtain ⟨b4, h⟩ := h
        refine AW_aald5 (pc2 := 50) rfl dX11_what_49 b4 ?_
        refine EW_iload_n (pc2 := 51) rfl dX11_what_50 2 rfl ?_
        refine EW_iload_n (pc2 := 52) rfl dX11_what_51 3 rfl ?_
        refine EW_iload (pc2 := 54) rfl dX11_what_52 4 rfl ?_
        refine AW_invV (M' := MX10_tryWater) [.ref (30 + 3 * Int32.toNatClampNeg v1), .int v2, .int v3, .int v4] (rest := []) mlRX11_491 okX10_tryWater (pc2 := 57) rfl dX11_what_54 rfl rfl (Nat.le_of_ble_eq_true rfl) (Nat.le_of_ble_eq_true rfl) (d' := 4) (by omega) q9 ⟨by decide, rfl⟩ (EW_mono (fun _ _ hr => ?_) (sX10_tryWater (30 + 3 * Int32.toNatClampNeg v1) v2 v3 v4 (isH_of b4) x _ _ 0 0 (Nat.le_refl _) h))
        obtain ⟨r5, x6, rfl, rfl, h⟩ := hr
        exact AW_iret rfl dX11_what_57 ⟨_, _, rfl, rfl, h⟩
      · replace h := h.2 q
        refine EW_iconst (pc2 := 36) (v := (-1)) rfl dX11_what_35 (by decide) ?_
        exact AW_iret rfl dX11_what_36 ⟨_, _, rfl, rfl, h⟩
theorem gfRX11_397 : ab_L RX11 397 9 6 := ⟨by decide, by decide, ab_in 375 (by decide +kernel) (by decide +kernel)⟩
abbrev MX11_why : ab_M := (yX11_why, cX11_why, 3, (some .int))
theorem dX11_why_0 : decode cX11_why 0 = .ok (.iload_n 1, 1) := by decide +kernel
theorem dX11_why_1 : decode cX11_why 1 = .ok (.invokestatic 70, 3) := by decide +kernel
theorem dX11_why_4 : decode cX11_why 4 = .ok (.ifCond .eq 12, 3) := by decide +kernel
theorem dX11_why_7 : decode cX11_why 7 = .ok (.iload_n 2, 1) := by decide +kernel
theorem dX11_why_8 : decode cX11_why 8 = .ok (.iconst 1, 1) := by decide +kernel
theorem dX11_why_9 : decode cX11_why 9 = .ok (.iconst 3, 1) := by decide +kernel
theorem dX11_why_10 : decode cX11_why 10 = .ok (.invokestatic 74, 3) := by decide +kernel
theorem dX11_why_13 : decode cX11_why 13 = .ok (.ifCond .ne 5, 3) := by decide +kernel
theorem dX11_why_16 : decode cX11_why 16 = .ok (.iconst (-1), 1) := by decide +kernel
theorem dX11_why_17 : decode cX11_why 17 = .ok (.ireturn, 1) := by decide +kernel
theorem dX11_why_18 : decode cX11_why 18 = .ok (.aload_n 0, 1) := by decide +kernel
theorem dX11_why_19 : decode cX11_why 19 = .ok (.getfield 30, 3) := by decide +kernel
theorem dX11_why_22 : decode cX11_why 22 = .ok (.iload_n 1, 1) := by decide +kernel
theorem dX11_why_23 : decode cX11_why 23 = .ok (.iload_n 2, 1) := by decide +kernel
theorem dX11_why_24 : decode cX11_why 24 = .ok (.invokevirtual 388, 3) := by decide +kernel
theorem dX11_why_27 : decode cX11_why 27 = .ok (.aload_n 0, 1) := by decide +kernel
theorem dX11_why_28 : decode cX11_why 28 = .ok (.getfield 30, 3) := by decide +kernel
theorem dX11_why_31 : decode cX11_why 31 = .ok (.getfield 377, 3) := by decide +kernel
theorem dX11_why_34 : decode cX11_why 34 = .ok (.getfield 397, 3) := by decide +kernel
theorem dX11_why_37 : decode cX11_why 37 = .ok (.ireturn, 1) := by decide +kernel
theorem okX11_why : ab_okM MX11_why 2 := ⟨by decide, ⟨by decide, by decide⟩, ab_in 1350 (by decide +kernel) (by decide +kernel), ab_in 86 (by decide +kernel) (by decide +kernel), by decide +kernel, by decide⟩
set_option maxHeartbeats 4000000 in
set_option maxRecDepth 100000 in
theorem sX11_why (v1 : Int32) (v2 : Int32)  (x : ab_X) (K : Int32 → ab_X → Prop) (d bc bs : Nat) (hdp : 4 ≤ d) (h : wX11_why v1 v2 x K) : EW MX11_why 0 [(0, .ref 0), (1, .int v1), (2, .int v2)] [] (aS x) d bc bs (liI K) := by
  unfold wX11_why at h
  refine EW_iload_n (pc2 := 1) rfl dX11_why_0 1 rfl ?_
  refine AW_invS (M' := MX11_isCorner) [.int v1] (rest := []) mlRX11_70 okX11_isCorner (pc2 := 4) rfl dX11_why_1 rfl rfl (Nat.le_of_ble_eq_true rfl) (Nat.le_of_ble_eq_true rfl) (d' := 0) (by omega) (EW_mono (fun _ _ hr => ?_) (sX11_isCorner v1  x _ _ 0 0 (Nat.le_refl _) h))
  obtain ⟨r1, rfl, rfl, h⟩ := hr
  refine EW_if_eq (tgt := 16) (pc2 := 7) rfl dX11_why_4 (by decide) (fun q => ?_) (fun q => ?_)
  · replace h := h.1 q
    refine EW_iconst (pc2 := 17) (v := (-1)) rfl dX11_why_16 (by decide) ?_
    exact AW_iret rfl dX11_why_17 ⟨_, _, rfl, rfl, h⟩
  · replace h := h.2 q
    refine EW_iload_n (pc2 := 8) rfl dX11_why_7 2 rfl ?_
    refine EW_iconst (pc2 := 9) (v := 1) rfl dX11_why_8 (by decide) ?_
    refine EW_iconst (pc2 := 10) (v := 3) rfl dX11_why_9 (by decide) ?_
    refine AW_invS (M' := MX11_within) [.int v2, .int 1, .int 3] (rest := []) mlRX11_74 okX11_within (pc2 := 13) rfl dX11_why_10 rfl rfl (Nat.le_of_ble_eq_true rfl) (Nat.le_of_ble_eq_true rfl) (d' := 0) (by omega) (EW_mono (fun _ _ hr => ?_) (sX11_within v2 1 3  x _ _ 0 0 (Nat.le_refl _) h))
    obtain ⟨r2, rfl, rfl, h⟩ := hr
    refine EW_if_ne (tgt := 18) (pc2 := 16) rfl dX11_why_13 (by decide) (fun q => ?_) (fun q => ?_)
    · replace h := h.1 q
      refine EW_aload_n (pc2 := 19) rfl dX11_why_18 0 rfl ?_
      refine AW_getr (r := 66) ⟨gfRX11_30, rfl⟩ (pc2 := 22) rfl dX11_why_19 q0 rfl ?_
      refine EW_iload_n (pc2 := 23) rfl dX11_why_22 1 rfl ?_
      refine EW_iload_n (pc2 := 24) rfl dX11_why_23 2 rfl ?_
      refine AW_invV (M' := MX0_readOrders) [.int v1, .int v2] (rest := []) mlRX11_388 okX0_readOrders (pc2 := 27) rfl dX11_why_24 rfl rfl (Nat.le_of_ble_eq_true rfl) (Nat.le_of_ble_eq_true rfl) (d' := 3) (by omega) q66 ⟨by decide, rfl⟩ (EW_mono (fun _ _ hr => ?_) (sX0_readOrders v1 v2  x _ _ 0 0 (Nat.le_refl _) h))
      obtain ⟨x3, rfl, rfl, h⟩ := hr
      refine EW_aload_n (pc2 := 28) rfl dX11_why_27 0 rfl ?_
      refine AW_getr (r := 66) ⟨gfRX11_30, rfl⟩ (pc2 := 31) rfl dX11_why_28 q0 rfl ?_
      refine AW_getr (r := 69) ⟨gfRX11_377, rfl⟩ (pc2 := 34) rfl dX11_why_31 q66 rfl ?_
      refine AW_geti ⟨gfRX11_397, rfl⟩ (pc2 := 37) rfl dX11_why_34 q69 ?_
      exact AW_iret rfl dX11_why_37 ⟨_, _, rfl, rfl, h⟩
    · replace h := h.2 q
      refine EW_iconst (pc2 := 17) (v := (-1)) rfl dX11_why_16 (by decide) ?_
      exact AW_iret rfl dX11_why_17 ⟨_, _, rfl, rfl, h⟩
theorem gfRX12_366 : ab_L RX12 366 12 58 := ⟨by decide, by decide, ab_in 1907 (by decide +kernel) (by decide +kernel)⟩
abbrev MX12_isCrew : ab_M := (yX12_isCrew, cX12_isCrew, 2, (some .boolean))
theorem dX12_isCrew_0 : decode cX12_isCrew 0 = .ok (.iload_n 1, 1) := by decide +kernel
theorem dX12_isCrew_1 : decode cX12_isCrew 1 = .ok (.ifCond .lt 15, 3) := by decide +kernel
theorem dX12_isCrew_4 : decode cX12_isCrew 4 = .ok (.iload_n 1, 1) := by decide +kernel
theorem dX12_isCrew_5 : decode cX12_isCrew 5 = .ok (.aload_n 0, 1) := by decide +kernel
theorem dX12_isCrew_6 : decode cX12_isCrew 6 = .ok (.getfield 366, 3) := by decide +kernel
theorem dX12_isCrew_9 : decode cX12_isCrew 9 = .ok (.if_icmp .ge 7, 3) := by decide +kernel
theorem dX12_isCrew_12 : decode cX12_isCrew 12 = .ok (.iconst 1, 1) := by decide +kernel
theorem dX12_isCrew_13 : decode cX12_isCrew 13 = .ok (.goto 4, 3) := by decide +kernel
theorem dX12_isCrew_16 : decode cX12_isCrew 16 = .ok (.iconst 0, 1) := by decide +kernel
theorem dX12_isCrew_17 : decode cX12_isCrew 17 = .ok (.ireturn, 1) := by decide +kernel
theorem okX12_isCrew : ab_okM MX12_isCrew 1 := ⟨by decide, ⟨by decide, by decide⟩, ab_in 2352 (by decide +kernel) (by decide +kernel), ab_in 99 (by decide +kernel) (by decide +kernel), by decide +kernel, by decide⟩
set_option maxHeartbeats 4000000 in
set_option maxRecDepth 100000 in
theorem sX12_isCrew (v1 : Int32)  (x : ab_X) (K : Int32 → Prop) (d bc bs : Nat) (hdp : 0 ≤ d) (h : wX12_isCrew v1 x K) : EW MX12_isCrew 0 [(0, .ref 246), (1, .int v1)] [] (aS x) d bc bs (liP x K) := by
  unfold wX12_isCrew at h
  refine EW_iload_n (pc2 := 1) rfl dX12_isCrew_0 1 rfl ?_
  refine EW_if_lt (tgt := 16) (pc2 := 4) rfl dX12_isCrew_1 (by decide) (fun q => ?_) (fun q => ?_)
  · replace h := h.1 q
    refine EW_iconst (pc2 := 17) (v := 0) rfl dX12_isCrew_16 (by decide) ?_
    exact AW_zret rfl isB0 dX12_isCrew_17 ⟨_, rfl, rfl, h⟩
  · replace h := h.2 q
    refine EW_iload_n (pc2 := 5) rfl dX12_isCrew_4 1 rfl ?_
    refine EW_aload_n (pc2 := 6) rfl dX12_isCrew_5 0 rfl ?_
    refine AW_geti ⟨gfRX12_366, rfl⟩ (pc2 := 9) rfl dX12_isCrew_6 q246 ?_
    refine EW_icmp_ge (tgt := 16) (pc2 := 12) rfl dX12_isCrew_9 (by decide) (fun q => ?_) (fun q => ?_)
    · replace h := h.1 q
      refine EW_iconst (pc2 := 17) (v := 0) rfl dX12_isCrew_16 (by decide) ?_
      exact AW_zret rfl isB0 dX12_isCrew_17 ⟨_, rfl, rfl, h⟩
    · replace h := h.2 q
      refine EW_iconst (pc2 := 13) (v := 1) rfl dX12_isCrew_12 (by decide) ?_
      refine EW_goto (tgt := 17) dX12_isCrew_13 (by decide) ?_
      exact AW_zret rfl isB1 dX12_isCrew_17 ⟨_, rfl, rfl, h⟩
abbrev MX12_isIn : ab_M := (yX12_isIn, cX12_isIn, 3, (some .boolean))
theorem dX12_isIn_0 : decode cX12_isIn 0 = .ok (.iload_n 0, 1) := by decide +kernel
theorem dX12_isIn_1 : decode cX12_isIn 1 = .ok (.iload_n 1, 1) := by decide +kernel
theorem dX12_isIn_2 : decode cX12_isIn 2 = .ok (.if_icmp .lt 12, 3) := by decide +kernel
theorem dX12_isIn_5 : decode cX12_isIn 5 = .ok (.iload_n 0, 1) := by decide +kernel
theorem dX12_isIn_6 : decode cX12_isIn 6 = .ok (.iload_n 2, 1) := by decide +kernel
theorem dX12_isIn_7 : decode cX12_isIn 7 = .ok (.if_icmp .gt 7, 3) := by decide +kernel
theorem dX12_isIn_10 : decode cX12_isIn 10 = .ok (.iconst 1, 1) := by decide +kernel
theorem dX12_isIn_11 : decode cX12_isIn 11 = .ok (.goto 4, 3) := by decide +kernel
theorem dX12_isIn_14 : decode cX12_isIn 14 = .ok (.iconst 0, 1) := by decide +kernel
theorem dX12_isIn_15 : decode cX12_isIn 15 = .ok (.ireturn, 1) := by decide +kernel
theorem okX12_isIn : ab_okM MX12_isIn 3 := ⟨by decide, ⟨by decide, by decide⟩, ab_in 2227 (by decide +kernel) (by decide +kernel), ab_in 99 (by decide +kernel) (by decide +kernel), by decide +kernel, by decide⟩
set_option maxHeartbeats 4000000 in
set_option maxRecDepth 100000 in
theorem sX12_isIn (v0 : Int32) (v1 : Int32) (v2 : Int32)  (x : ab_X) (K : Int32 → Prop) (d bc bs : Nat) (hdp : 0 ≤ d) (h : wX12_isIn v0 v1 v2 x K) : EW MX12_isIn 0 [(0, .int v0), (1, .int v1), (2, .int v2)] [] (aS x) d bc bs (liP x K) := by
  unfold wX12_isIn at h
  refine EW_iload_n (pc2 := 1) rfl dX12_isIn_0 0 rfl ?_
  refine EW_iload_n (pc2 := 2) rfl dX12_isIn_1 1 rfl ?_
  refine EW_icmp_lt (tgt := 14) (pc2 := 5) rfl dX12_isIn_2 (by decide) (fun q => ?_) (fun q => ?_)
  · replace h := h.1 q
    refine EW_iconst (pc2 := 15) (v := 0) rfl dX12_isIn_14 (by decide) ?_
    exact AW_zret rfl isB0 dX12_isIn_15 ⟨_, rfl, rfl, h⟩
  · replace h := h.2 q
    refine EW_iload_n (pc2 := 6) rfl dX12_isIn_5 0 rfl ?_
    refine EW_iload_n (pc2 := 7) rfl dX12_isIn_6 2 rfl ?_
    refine EW_icmp_gt (tgt := 14) (pc2 := 10) rfl dX12_isIn_7 (by decide) (fun q => ?_) (fun q => ?_)
    · replace h := h.1 q
      refine EW_iconst (pc2 := 15) (v := 0) rfl dX12_isIn_14 (by decide) ?_
      exact AW_zret rfl isB0 dX12_isIn_15 ⟨_, rfl, rfl, h⟩
    · replace h := h.2 q
      refine EW_iconst (pc2 := 11) (v := 1) rfl dX12_isIn_10 (by decide) ?_
      refine EW_goto (tgt := 15) dX12_isIn_11 (by decide) ?_
      exact AW_zret rfl isB1 dX12_isIn_15 ⟨_, rfl, rfl, h⟩
theorem gfRX12_113 : ab_L RX12 113 12 38 := ⟨by decide, by decide, ab_in 1887 (by decide +kernel) (by decide +kernel)⟩
theorem gfRX12_164 : ab_L RX12 164 12 55 := ⟨by decide, by decide, ab_in 1904 (by decide +kernel) (by decide +kernel)⟩
theorem gfRX12_146 : ab_L RX12 146 12 49 := ⟨by decide, by decide, ab_in 1898 (by decide +kernel) (by decide +kernel)⟩
abbrev MX12_slowOf : ab_M := (yX12_slowOf, cX12_slowOf, 2, (some .int))
theorem dX12_slowOf_0 : decode cX12_slowOf 0 = .ok (.aload_n 0, 1) := by decide +kernel
theorem dX12_slowOf_1 : decode cX12_slowOf 1 = .ok (.getfield 113, 3) := by decide +kernel
theorem dX12_slowOf_4 : decode cX12_slowOf 4 = .ok (.iload_n 1, 1) := by decide +kernel
theorem dX12_slowOf_5 : decode cX12_slowOf 5 = .ok (.iaload, 1) := by decide +kernel
theorem dX12_slowOf_6 : decode cX12_slowOf 6 = .ok (.aload_n 0, 1) := by decide +kernel
theorem dX12_slowOf_7 : decode cX12_slowOf 7 = .ok (.getfield 164, 3) := by decide +kernel
theorem dX12_slowOf_10 : decode cX12_slowOf 10 = .ok (.iload_n 1, 1) := by decide +kernel
theorem dX12_slowOf_11 : decode cX12_slowOf 11 = .ok (.baload, 1) := by decide +kernel
theorem dX12_slowOf_12 : decode cX12_slowOf 12 = .ok (.ifCond .eq 14, 3) := by decide +kernel
theorem dX12_slowOf_15 : decode cX12_slowOf 15 = .ok (.aload_n 0, 1) := by decide +kernel
theorem dX12_slowOf_16 : decode cX12_slowOf 16 = .ok (.getfield 146, 3) := by decide +kernel
theorem dX12_slowOf_19 : decode cX12_slowOf 19 = .ok (.iload_n 1, 1) := by decide +kernel
theorem dX12_slowOf_20 : decode cX12_slowOf 20 = .ok (.iaload, 1) := by decide +kernel
theorem dX12_slowOf_21 : decode cX12_slowOf 21 = .ok (.iconst 3, 1) := by decide +kernel
theorem dX12_slowOf_22 : decode cX12_slowOf 22 = .ok (.idiv, 1) := by decide +kernel
theorem dX12_slowOf_23 : decode cX12_slowOf 23 = .ok (.goto 4, 3) := by decide +kernel
theorem dX12_slowOf_26 : decode cX12_slowOf 26 = .ok (.iconst 0, 1) := by decide +kernel
theorem dX12_slowOf_27 : decode cX12_slowOf 27 = .ok (.iadd, 1) := by decide +kernel
theorem dX12_slowOf_28 : decode cX12_slowOf 28 = .ok (.ireturn, 1) := by decide +kernel
theorem okX12_slowOf : ab_okM MX12_slowOf 1 := ⟨by decide, ⟨by decide, by decide⟩, ab_in 2372 (by decide +kernel) (by decide +kernel), ab_in 99 (by decide +kernel) (by decide +kernel), by decide +kernel, by decide⟩
set_option maxHeartbeats 4000000 in
set_option maxRecDepth 100000 in
theorem sX12_slowOf (v1 : Int32)  (x : ab_X) (K : Int32 → Prop) (d bc bs : Nat) (hdp : 0 ≤ d) (h : wX12_slowOf v1 x K) : EW MX12_slowOf 0 [(0, .ref 246), (1, .int v1)] [] (aS x) d bc bs (liP x K) := by
  unfold wX12_slowOf at h
  refine EW_aload_n (pc2 := 1) rfl dX12_slowOf_0 0 rfl ?_
  refine AW_getr (r := 281) ⟨gfRX12_113, rfl⟩ (pc2 := 4) rfl dX12_slowOf_1 q246 rfl ?_
  refine EW_iload_n (pc2 := 5) rfl dX12_slowOf_4 1 rfl ?_
  obtain ⟨b1, h⟩ := h
  refine AW_iald (pc2 := 6) rfl dX12_slowOf_5 q281 b1 ?_
  refine EW_aload_n (pc2 := 7) rfl dX12_slowOf_6 0 rfl ?_
  refine AW_getr (r := 298) ⟨gfRX12_164, rfl⟩ (pc2 := 10) rfl dX12_slowOf_7 q246 rfl ?_
  refine EW_iload_n (pc2 := 11) rfl dX12_slowOf_10 1 rfl ?_
  obtain ⟨b2, h⟩ := h
  refine AW_zald (pc2 := 12) rfl dX12_slowOf_11 q298 b2 ?_
  refine EW_if_eq (tgt := 26) (pc2 := 15) rfl dX12_slowOf_12 (by decide) (fun q => ?_) (fun q => ?_)
  · replace h := h.1 q
    refine EW_iconst (pc2 := 27) (v := 0) rfl dX12_slowOf_26 (by decide) ?_
    refine EW_iadd (pc2 := 28) rfl dX12_slowOf_27 ?_
    exact AW_iret rfl dX12_slowOf_28 ⟨_, rfl, rfl, h⟩
  · replace h := h.2 q
    refine EW_aload_n (pc2 := 16) rfl dX12_slowOf_15 0 rfl ?_
    refine AW_getr (r := 292) ⟨gfRX12_146, rfl⟩ (pc2 := 19) rfl dX12_slowOf_16 q246 rfl ?_
    refine EW_iload_n (pc2 := 20) rfl dX12_slowOf_19 1 rfl ?_
    obtain ⟨b3, h⟩ := h
    refine AW_iald (pc2 := 21) rfl dX12_slowOf_20 q292 b3 ?_
    refine EW_iconst (pc2 := 22) (v := 3) rfl dX12_slowOf_21 (by decide) ?_
    refine EW_idiv (pc2 := 23) rfl dX12_slowOf_22 (by decide) ?_
    refine EW_goto (tgt := 27) dX12_slowOf_23 (by decide) ?_
    refine EW_iadd (pc2 := 28) rfl dX12_slowOf_27 ?_
    exact AW_iret rfl dX12_slowOf_28 ⟨_, rfl, rfl, h⟩
theorem gfRX12_297 : ab_L RX12 297 12 0 := ⟨by decide, by decide, ab_in 1849 (by decide +kernel) (by decide +kernel)⟩
theorem gfRX12_155 : ab_L RX12 155 12 52 := ⟨by decide, by decide, ab_in 1901 (by decide +kernel) (by decide +kernel)⟩
theorem gfRX12_128 : ab_L RX12 128 12 43 := ⟨by decide, by decide, ab_in 1892 (by decide +kernel) (by decide +kernel)⟩
theorem gfRX12_131 : ab_L RX12 131 12 44 := ⟨by decide, by decide, ab_in 1893 (by decide +kernel) (by decide +kernel)⟩
theorem gfRX12_134 : ab_L RX12 134 12 45 := ⟨by decide, by decide, ab_in 1894 (by decide +kernel) (by decide +kernel)⟩
theorem gfRX12_137 : ab_L RX12 137 12 46 := ⟨by decide, by decide, ab_in 1895 (by decide +kernel) (by decide +kernel)⟩
theorem gfRX12_140 : ab_L RX12 140 12 47 := ⟨by decide, by decide, ab_in 1896 (by decide +kernel) (by decide +kernel)⟩
theorem gfRX12_143 : ab_L RX12 143 12 48 := ⟨by decide, by decide, ab_in 1897 (by decide +kernel) (by decide +kernel)⟩
theorem mlRX12_398 : Cond.methodLink RX12 398 yX12_slowOf ∈ ab_G ∧ Cond.instanceMethod yX12_slowOf ∈ ab_G ∧ Cond.selects RX12 yX12_slowOf yX12_slowOf ∈ ab_G := ⟨ab_in 2369 (by decide +kernel) (by decide +kernel), ab_in 2371 (by decide +kernel) (by decide +kernel), ab_in 31 (by decide +kernel) (by decide +kernel)⟩
theorem mlRX12_392 : Cond.methodLink RX12 392 yX12_isCrew ∈ ab_G ∧ Cond.instanceMethod yX12_isCrew ∈ ab_G ∧ Cond.selects RX12 yX12_isCrew yX12_isCrew ∈ ab_G := ⟨ab_in 2349 (by decide +kernel) (by decide +kernel), ab_in 2351 (by decide +kernel) (by decide +kernel), ab_in 28 (by decide +kernel) (by decide +kernel)⟩
theorem mlRX12_307 : Cond.methodLink RX12 307 yX12_isIn ∈ ab_G ∧ Cond.static yX12_isIn ∈ ab_G := ⟨ab_in 2225 (by decide +kernel) (by decide +kernel), ab_in 2226 (by decide +kernel) (by decide +kernel)⟩
abbrev MX12_about : ab_M := (yX12_about, cX12_about, 3, (some .int))
theorem dX12_about_0 : decode cX12_about 0 = .ok (.aload_n 0, 1) := by decide +kernel
theorem dX12_about_1 : decode cX12_about 1 = .ok (.aload_n 0, 1) := by decide +kernel
theorem dX12_about_2 : decode cX12_about 2 = .ok (.iload_n 1, 1) := by decide +kernel
theorem dX12_about_3 : decode cX12_about 3 = .ok (.invokevirtual 392, 3) := by decide +kernel
theorem dX12_about_6 : decode cX12_about 6 = .ok (.ifCond .eq 17, 3) := by decide +kernel
theorem dX12_about_9 : decode cX12_about 9 = .ok (.iload_n 2, 1) := by decide +kernel
theorem dX12_about_10 : decode cX12_about 10 = .ok (.iconst 0, 1) := by decide +kernel
theorem dX12_about_11 : decode cX12_about 11 = .ok (.bipush 8, 2) := by decide +kernel
theorem dX12_about_13 : decode cX12_about 13 = .ok (.invokestatic 307, 3) := by decide +kernel
theorem dX12_about_16 : decode cX12_about 16 = .ok (.ifCond .eq 7, 3) := by decide +kernel
theorem dX12_about_19 : decode cX12_about 19 = .ok (.iconst 0, 1) := by decide +kernel
theorem dX12_about_20 : decode cX12_about 20 = .ok (.goto 4, 3) := by decide +kernel
theorem dX12_about_23 : decode cX12_about 23 = .ok (.iconst 1, 1) := by decide +kernel
theorem dX12_about_24 : decode cX12_about 24 = .ok (.putfield 297, 3) := by decide +kernel
theorem dX12_about_27 : decode cX12_about 27 = .ok (.aload_n 0, 1) := by decide +kernel
theorem dX12_about_28 : decode cX12_about 28 = .ok (.getfield 297, 3) := by decide +kernel
theorem dX12_about_31 : decode cX12_about 31 = .ok (.ifCond .le 5, 3) := by decide +kernel
theorem dX12_about_34 : decode cX12_about 34 = .ok (.iconst 0, 1) := by decide +kernel
theorem dX12_about_35 : decode cX12_about 35 = .ok (.ireturn, 1) := by decide +kernel
theorem dX12_about_36 : decode cX12_about 36 = .ok (.iload_n 2, 1) := by decide +kernel
theorem dX12_about_37 : decode cX12_about 37 = .ok (.tableswitch 102 0 7 #[47, 54, 61, 68, 75, 82, 89, 96], 47) := by decide +kernel
theorem dX12_about_84 : decode cX12_about 84 = .ok (.aload_n 0, 1) := by decide +kernel
theorem dX12_about_85 : decode cX12_about 85 = .ok (.getfield 128, 3) := by decide +kernel
theorem dX12_about_88 : decode cX12_about 88 = .ok (.iload_n 1, 1) := by decide +kernel
theorem dX12_about_89 : decode cX12_about 89 = .ok (.iaload, 1) := by decide +kernel
theorem dX12_about_90 : decode cX12_about 90 = .ok (.ireturn, 1) := by decide +kernel
theorem dX12_about_91 : decode cX12_about 91 = .ok (.aload_n 0, 1) := by decide +kernel
theorem dX12_about_92 : decode cX12_about 92 = .ok (.getfield 131, 3) := by decide +kernel
theorem dX12_about_95 : decode cX12_about 95 = .ok (.iload_n 1, 1) := by decide +kernel
theorem dX12_about_96 : decode cX12_about 96 = .ok (.iaload, 1) := by decide +kernel
theorem dX12_about_97 : decode cX12_about 97 = .ok (.ireturn, 1) := by decide +kernel
theorem dX12_about_98 : decode cX12_about 98 = .ok (.aload_n 0, 1) := by decide +kernel
theorem dX12_about_99 : decode cX12_about 99 = .ok (.getfield 134, 3) := by decide +kernel
theorem dX12_about_102 : decode cX12_about 102 = .ok (.iload_n 1, 1) := by decide +kernel
theorem dX12_about_103 : decode cX12_about 103 = .ok (.iaload, 1) := by decide +kernel
theorem dX12_about_104 : decode cX12_about 104 = .ok (.ireturn, 1) := by decide +kernel
theorem dX12_about_105 : decode cX12_about 105 = .ok (.aload_n 0, 1) := by decide +kernel
theorem dX12_about_106 : decode cX12_about 106 = .ok (.getfield 137, 3) := by decide +kernel
theorem dX12_about_109 : decode cX12_about 109 = .ok (.iload_n 1, 1) := by decide +kernel
theorem dX12_about_110 : decode cX12_about 110 = .ok (.iaload, 1) := by decide +kernel
theorem dX12_about_111 : decode cX12_about 111 = .ok (.ireturn, 1) := by decide +kernel
theorem dX12_about_112 : decode cX12_about 112 = .ok (.aload_n 0, 1) := by decide +kernel
theorem dX12_about_113 : decode cX12_about 113 = .ok (.getfield 140, 3) := by decide +kernel
theorem dX12_about_116 : decode cX12_about 116 = .ok (.iload_n 1, 1) := by decide +kernel
theorem dX12_about_117 : decode cX12_about 117 = .ok (.iaload, 1) := by decide +kernel
theorem dX12_about_118 : decode cX12_about 118 = .ok (.ireturn, 1) := by decide +kernel
theorem dX12_about_119 : decode cX12_about 119 = .ok (.aload_n 0, 1) := by decide +kernel
theorem dX12_about_120 : decode cX12_about 120 = .ok (.getfield 143, 3) := by decide +kernel
theorem dX12_about_123 : decode cX12_about 123 = .ok (.iload_n 1, 1) := by decide +kernel
theorem dX12_about_124 : decode cX12_about 124 = .ok (.iaload, 1) := by decide +kernel
theorem dX12_about_125 : decode cX12_about 125 = .ok (.ireturn, 1) := by decide +kernel
theorem dX12_about_126 : decode cX12_about 126 = .ok (.aload_n 0, 1) := by decide +kernel
theorem dX12_about_127 : decode cX12_about 127 = .ok (.getfield 146, 3) := by decide +kernel
theorem dX12_about_130 : decode cX12_about 130 = .ok (.iload_n 1, 1) := by decide +kernel
theorem dX12_about_131 : decode cX12_about 131 = .ok (.iaload, 1) := by decide +kernel
theorem dX12_about_132 : decode cX12_about 132 = .ok (.ireturn, 1) := by decide +kernel
theorem dX12_about_133 : decode cX12_about 133 = .ok (.aload_n 0, 1) := by decide +kernel
theorem dX12_about_134 : decode cX12_about 134 = .ok (.iload_n 1, 1) := by decide +kernel
theorem dX12_about_135 : decode cX12_about 135 = .ok (.invokevirtual 398, 3) := by decide +kernel
theorem dX12_about_138 : decode cX12_about 138 = .ok (.ireturn, 1) := by decide +kernel
theorem dX12_about_139 : decode cX12_about 139 = .ok (.aload_n 0, 1) := by decide +kernel
theorem dX12_about_140 : decode cX12_about 140 = .ok (.getfield 155, 3) := by decide +kernel
theorem dX12_about_143 : decode cX12_about 143 = .ok (.iload_n 1, 1) := by decide +kernel
theorem dX12_about_144 : decode cX12_about 144 = .ok (.iaload, 1) := by decide +kernel
theorem dX12_about_145 : decode cX12_about 145 = .ok (.ireturn, 1) := by decide +kernel
theorem okX12_about : ab_okM MX12_about 2 := ⟨by decide, ⟨by decide, by decide⟩, ab_in 2376 (by decide +kernel) (by decide +kernel), ab_in 99 (by decide +kernel) (by decide +kernel), by decide +kernel, by decide⟩
set_option maxHeartbeats 4000000 in
set_option maxRecDepth 100000 in
theorem sX12_about_24 (v1 : Int32) (v2 : Int32) (s1 : Int32)  (x : ab_X) (K : Int32 → ab_X → Prop)  (d bc bs : Nat) (hdp : 1 ≤ d)  (h : wX12_about_24 v1 v2 s1 x K ) : EW MX12_about 24 [(0, .ref 246), (1, .int v1), (2, .int v2)] [.int s1, .ref 246] (aS x) d bc bs (liI K) := by
  unfold wX12_about_24 at h
  refine AW_puti ⟨gfRX12_297, rfl, rfl⟩ (pc2 := 27) rfl dX12_about_24 q246 ?_
  refine EW_aload_n (pc2 := 28) rfl dX12_about_27 0 rfl ?_
  refine AW_geti ⟨gfRX12_297, rfl⟩ (pc2 := 31) rfl dX12_about_28 q246 ?_
  refine EW_if_le (tgt := 36) (pc2 := 34) rfl dX12_about_31 (by decide) (fun q => ?_) (fun q => ?_)
  · replace h := h.1 q
    refine EW_iload_n (pc2 := 37) rfl dX12_about_36 2 rfl ?_
    by_cases qo : Int32.toInt v2 < 0 ∨ 7 < Int32.toInt v2
    · replace h := h.1 qo
      refine EW_tabOut (tgt := 139) dX12_about_37 qo (by decide) ?_
      refine EW_aload_n (pc2 := 140) rfl dX12_about_139 0 rfl ?_
      refine AW_getr (r := 295) ⟨gfRX12_155, rfl⟩ (pc2 := 143) rfl dX12_about_140 q246 rfl ?_
      refine EW_iload_n (pc2 := 144) rfl dX12_about_143 1 rfl ?_
      obtain ⟨b3, h⟩ := h
      refine AW_iald (pc2 := 145) rfl dX12_about_144 q295 b3 ?_
      exact AW_iret rfl dX12_about_145 ⟨_, _, rfl, rfl, h⟩
    · obtain ⟨kk, hkk, qk⟩ := sw_in 0 7 (by decide) qo
      match kk, hkk, qk with
      | 0, _, qk =>
        replace h := h.2.1 qk
        refine EW_tabIn (off := 47) (tgt := 84) dX12_about_37 (by rw [qk]; decide) (by rw [qk]; decide) (by rw [qk]; decide) (by decide) ?_
        refine EW_aload_n (pc2 := 85) rfl dX12_about_84 0 rfl ?_
        refine AW_getr (r := 286) ⟨gfRX12_128, rfl⟩ (pc2 := 88) rfl dX12_about_85 q246 rfl ?_
        refine EW_iload_n (pc2 := 89) rfl dX12_about_88 1 rfl ?_
        obtain ⟨b4, h⟩ := h
        refine AW_iald (pc2 := 90) rfl dX12_about_89 q286 b4 ?_
        exact AW_iret rfl dX12_about_90 ⟨_, _, rfl, rfl, h⟩
      | 1, _, qk =>
        replace h := h.2.2.1 qk
        refine EW_tabIn (off := 54) (tgt := 91) dX12_about_37 (by rw [qk]; decide) (by rw [qk]; decide) (by rw [qk]; decide) (by decide) ?_
        refine EW_aload_n (pc2 := 92) rfl dX12_about_91 0 rfl ?_
        refine AW_getr (r := 287) ⟨gfRX12_131, rfl⟩ (pc2 := 95) rfl dX12_about_92 q246 rfl ?_
        refine EW_iload_n (pc2 := 96) rfl dX12_about_95 1 rfl ?_
        obtain ⟨b5, h⟩ := h
        refine AW_iald (pc2 := 97) rfl dX12_about_96 q287 b5 ?_
        exact AW_iret rfl dX12_about_97 ⟨_, _, rfl, rfl, h⟩
      | 2, _, qk =>
        replace h := h.2.2.2.1 qk
        refine EW_tabIn (off := 61) (tgt := 98) dX12_about_37 (by rw [qk]; decide) (by rw [qk]; decide) (by rw [qk]; decide) (by decide) ?_
        refine EW_aload_n (pc2 := 99) rfl dX12_about_98 0 rfl ?_
        refine AW_getr (r := 288) ⟨gfRX12_134, rfl⟩ (pc2 := 102) rfl dX12_about_99 q246 rfl ?_
        refine EW_iload_n (pc2 := 103) rfl dX12_about_102 1 rfl ?_
        obtain ⟨b6, h⟩ := h
        refine AW_iald (pc2 := 104) rfl dX12_about_103 q288 b6 ?_
        exact AW_iret rfl dX12_about_104 ⟨_, _, rfl, rfl, h⟩
      | 3, _, qk =>
        replace h := h.2.2.2.2.1 qk
        refine EW_tabIn (off := 68) (tgt := 105) dX12_about_37 (by rw [qk]; decide) (by rw [qk]; decide) (by rw [qk]; decide) (by decide) ?_
        refine EW_aload_n (pc2 := 106) rfl dX12_about_105 0 rfl ?_
        refine AW_getr (r := 289) ⟨gfRX12_137, rfl⟩ (pc2 := 109) rfl dX12_about_106 q246 rfl ?_
        refine EW_iload_n (pc2 := 110) rfl dX12_about_109 1 rfl ?_
        obtain ⟨b7, h⟩ := h
        refine AW_iald (pc2 := 111) rfl dX12_about_110 q289 b7 ?_
        exact AW_iret rfl dX12_about_111 ⟨_, _, rfl, rfl, h⟩
      | 4, _, qk =>
        replace h := h.2.2.2.2.2.1 qk
        refine EW_tabIn (off := 75) (tgt := 112) dX12_about_37 (by rw [qk]; decide) (by rw [qk]; decide) (by rw [qk]; decide) (by decide) ?_
        refine EW_aload_n (pc2 := 113) rfl dX12_about_112 0 rfl ?_
        refine AW_getr (r := 290) ⟨gfRX12_140, rfl⟩ (pc2 := 116) rfl dX12_about_113 q246 rfl ?_
        refine EW_iload_n (pc2 := 117) rfl dX12_about_116 1 rfl ?_
        obtain ⟨b8, h⟩ := h
        refine AW_iald (pc2 := 118) rfl dX12_about_117 q290 b8 ?_
        exact AW_iret rfl dX12_about_118 ⟨_, _, rfl, rfl, h⟩
      | 5, _, qk =>
        replace h := h.2.2.2.2.2.2.1 qk
        refine EW_tabIn (off := 82) (tgt := 119) dX12_about_37 (by rw [qk]; decide) (by rw [qk]; decide) (by rw [qk]; decide) (by decide) ?_
        refine EW_aload_n (pc2 := 120) rfl dX12_about_119 0 rfl ?_
        refine AW_getr (r := 291) ⟨gfRX12_143, rfl⟩ (pc2 := 123) rfl dX12_about_120 q246 rfl ?_
        refine EW_iload_n (pc2 := 124) rfl dX12_about_123 1 rfl ?_
        obtain ⟨b9, h⟩ := h
        refine AW_iald (pc2 := 125) rfl dX12_about_124 q291 b9 ?_
        exact AW_iret rfl dX12_about_125 ⟨_, _, rfl, rfl, h⟩
      | 6, _, qk =>
        replace h := h.2.2.2.2.2.2.2.1 qk
        refine EW_tabIn (off := 89) (tgt := 126) dX12_about_37 (by rw [qk]; decide) (by rw [qk]; decide) (by rw [qk]; decide) (by decide) ?_
        refine EW_aload_n (pc2 := 127) rfl dX12_about_126 0 rfl ?_
        refine AW_getr (r := 292) ⟨gfRX12_146, rfl⟩ (pc2 := 130) rfl dX12_about_127 q246 rfl ?_
        refine EW_iload_n (pc2 := 131) rfl dX12_about_130 1 rfl ?_
        obtain ⟨b10, h⟩ := h
        refine AW_iald (pc2 := 132) rfl dX12_about_131 q292 b10 ?_
        exact AW_iret rfl dX12_about_132 ⟨_, _, rfl, rfl, h⟩
      | 7, _, qk =>
        replace h := h.2.2.2.2.2.2.2.2 qk
        refine EW_tabIn (off := 96) (tgt := 133) dX12_about_37 (by rw [qk]; decide) (by rw [qk]; decide) (by rw [qk]; decide) (by decide) ?_
        refine EW_aload_n (pc2 := 134) rfl dX12_about_133 0 rfl ?_
        refine EW_iload_n (pc2 := 135) rfl dX12_about_134 1 rfl ?_
        refine AW_invV (M' := MX12_slowOf) [.int v1] (rest := []) mlRX12_398 okX12_slowOf (pc2 := 138) rfl dX12_about_135 rfl rfl (Nat.le_of_ble_eq_true rfl) (Nat.le_of_ble_eq_true rfl) (d' := 0) (by omega) q246 ⟨by decide, rfl⟩ (EW_mono (fun _ _ hr => ?_) (sX12_slowOf v1  (wr x 246 0 s1) _ _ 0 0 (Nat.le_refl _) h))
        obtain ⟨r11, rfl, rfl, h⟩ := hr
        exact AW_iret rfl dX12_about_138 ⟨_, _, rfl, rfl, h⟩
      | n9 + 8, hkk, _ => exact absurd hkk (by omega)
  · replace h := h.2 q
    refine EW_iconst (pc2 := 35) (v := 0) rfl dX12_about_34 (by decide) ?_
    exact AW_iret rfl dX12_about_35 ⟨_, _, rfl, rfl, h⟩
set_option maxHeartbeats 4000000 in
set_option maxRecDepth 100000 in
theorem sX12_about_23 (v1 : Int32) (v2 : Int32)  (x : ab_X) (K : Int32 → ab_X → Prop)  (d bc bs : Nat) (hdp : 1 ≤ d)  (h : wX12_about_23 v1 v2 x K ) : EW MX12_about 23 [(0, .ref 246), (1, .int v1), (2, .int v2)] [.ref 246] (aS x) d bc bs (liI K) := by
  unfold wX12_about_23 at h
  refine EW_iconst (pc2 := 24) (v := 1) rfl dX12_about_23 (by decide) ?_
  exact sX12_about_24 v1 v2 1 x K d bc bs hdp h
set_option maxHeartbeats 4000000 in
set_option maxRecDepth 100000 in
theorem sX12_about (v1 : Int32) (v2 : Int32)  (x : ab_X) (K : Int32 → ab_X → Prop) (d bc bs : Nat) (hdp : 1 ≤ d) (h : wX12_about v1 v2 x K) : EW MX12_about 0 [(0, .ref 246), (1, .int v1), (2, .int v2)] [] (aS x) d bc bs (liI K) := by
  unfold wX12_about at h
  refine EW_aload_n (pc2 := 1) rfl dX12_about_0 0 rfl ?_
  refine EW_aload_n (pc2 := 2) rfl dX12_about_1 0 rfl ?_
  refine EW_iload_n (pc2 := 3) rfl dX12_about_2 1 rfl ?_
  refine AW_invV (M' := MX12_isCrew) [.int v1] (rest := [.ref 246]) mlRX12_392 okX12_isCrew (pc2 := 6) rfl dX12_about_3 rfl rfl (Nat.le_of_ble_eq_true rfl) (Nat.le_of_ble_eq_true rfl) (d' := 0) (by omega) q246 ⟨by decide, rfl⟩ (EW_mono (fun _ _ hr => ?_) (sX12_isCrew v1  x _ _ 0 0 (Nat.le_refl _) h))
  obtain ⟨r1, rfl, rfl, h⟩ := hr
  refine EW_if_eq (tgt := 23) (pc2 := 9) rfl dX12_about_6 (by decide) (fun q => ?_) (fun q => ?_)
  · replace h := h.1 q
    exact sX12_about_23 v1 v2 x K d bc bs hdp h
  · replace h := h.2 q
    refine EW_iload_n (pc2 := 10) rfl dX12_about_9 2 rfl ?_
    refine EW_iconst (pc2 := 11) (v := 0) rfl dX12_about_10 (by decide) ?_
    refine EW_bipush (pc2 := 13) (v := 8) rfl dX12_about_11 (by decide) ?_
    refine AW_invS (M' := MX12_isIn) [.int v2, .int 0, .int 8] (rest := [.ref 246]) mlRX12_307 okX12_isIn (pc2 := 16) rfl dX12_about_13 rfl rfl (Nat.le_of_ble_eq_true rfl) (Nat.le_of_ble_eq_true rfl) (d' := 0) (by omega) (EW_mono (fun _ _ hr => ?_) (sX12_isIn v2 0 8  x _ _ 0 0 (Nat.le_refl _) h))
    obtain ⟨r2, rfl, rfl, h⟩ := hr
    refine EW_if_eq (tgt := 23) (pc2 := 19) rfl dX12_about_16 (by decide) (fun q => ?_) (fun q => ?_)
    · replace h := h.1 q
      exact sX12_about_23 v1 v2 x K d bc bs hdp h
    · replace h := h.2 q
      refine EW_iconst (pc2 := 20) (v := 0) rfl dX12_about_19 (by decide) ?_
      refine EW_goto (tgt := 24) dX12_about_20 (by decide) ?_
      exact sX12_about_24 v1 v2 0 x K d bc bs hdp h
abbrev MX12_actionOf : ab_M := (yX12_actionOf, cX12_actionOf, 1, (some .int))
theorem dX12_actionOf_0 : decode cX12_actionOf 0 = .ok (.iload_n 0, 1) := by decide +kernel
theorem dX12_actionOf_1 : decode cX12_actionOf 1 = .ok (.bipush 112, 2) := by decide +kernel
theorem dX12_actionOf_3 : decode cX12_actionOf 3 = .ok (.if_icmp .ne 7, 3) := by decide +kernel
theorem dX12_actionOf_6 : decode cX12_actionOf 6 = .ok (.iconst 0, 1) := by decide +kernel
theorem dX12_actionOf_7 : decode cX12_actionOf 7 = .ok (.goto 44, 3) := by decide +kernel
theorem dX12_actionOf_10 : decode cX12_actionOf 10 = .ok (.iload_n 0, 1) := by decide +kernel
theorem dX12_actionOf_11 : decode cX12_actionOf 11 = .ok (.bipush 115, 2) := by decide +kernel
theorem dX12_actionOf_13 : decode cX12_actionOf 13 = .ok (.if_icmp .ne 7, 3) := by decide +kernel
theorem dX12_actionOf_16 : decode cX12_actionOf 16 = .ok (.iconst 1, 1) := by decide +kernel
theorem dX12_actionOf_17 : decode cX12_actionOf 17 = .ok (.goto 34, 3) := by decide +kernel
theorem dX12_actionOf_20 : decode cX12_actionOf 20 = .ok (.iload_n 0, 1) := by decide +kernel
theorem dX12_actionOf_21 : decode cX12_actionOf 21 = .ok (.bipush 108, 2) := by decide +kernel
theorem dX12_actionOf_23 : decode cX12_actionOf 23 = .ok (.if_icmp .ne 7, 3) := by decide +kernel
theorem dX12_actionOf_26 : decode cX12_actionOf 26 = .ok (.iconst 2, 1) := by decide +kernel
theorem dX12_actionOf_27 : decode cX12_actionOf 27 = .ok (.goto 24, 3) := by decide +kernel
theorem dX12_actionOf_30 : decode cX12_actionOf 30 = .ok (.iload_n 0, 1) := by decide +kernel
theorem dX12_actionOf_31 : decode cX12_actionOf 31 = .ok (.bipush 99, 2) := by decide +kernel
theorem dX12_actionOf_33 : decode cX12_actionOf 33 = .ok (.if_icmp .ne 7, 3) := by decide +kernel
theorem dX12_actionOf_36 : decode cX12_actionOf 36 = .ok (.iconst 3, 1) := by decide +kernel
theorem dX12_actionOf_37 : decode cX12_actionOf 37 = .ok (.goto 14, 3) := by decide +kernel
theorem dX12_actionOf_40 : decode cX12_actionOf 40 = .ok (.iload_n 0, 1) := by decide +kernel
theorem dX12_actionOf_41 : decode cX12_actionOf 41 = .ok (.bipush 109, 2) := by decide +kernel
theorem dX12_actionOf_43 : decode cX12_actionOf 43 = .ok (.if_icmp .ne 7, 3) := by decide +kernel
theorem dX12_actionOf_46 : decode cX12_actionOf 46 = .ok (.iconst 4, 1) := by decide +kernel
theorem dX12_actionOf_47 : decode cX12_actionOf 47 = .ok (.goto 4, 3) := by decide +kernel
theorem dX12_actionOf_50 : decode cX12_actionOf 50 = .ok (.iconst (-1), 1) := by decide +kernel
theorem dX12_actionOf_51 : decode cX12_actionOf 51 = .ok (.ireturn, 1) := by decide +kernel
theorem okX12_actionOf : ab_okM MX12_actionOf 1 := ⟨by decide, ⟨by decide, by decide⟩, ab_in 2477 (by decide +kernel) (by decide +kernel), ab_in 99 (by decide +kernel) (by decide +kernel), by decide +kernel, by decide⟩
set_option maxHeartbeats 4000000 in
set_option maxRecDepth 100000 in
theorem sX12_actionOf (v0 : Int32)  (x : ab_X) (K : Int32 → Prop) (d bc bs : Nat) (hdp : 0 ≤ d) (h : wX12_actionOf v0 x K) : EW MX12_actionOf 0 [(0, .int v0)] [] (aS x) d bc bs (liP x K) := by
  unfold wX12_actionOf at h
  refine EW_iload_n (pc2 := 1) rfl dX12_actionOf_0 0 rfl ?_
  refine EW_bipush (pc2 := 3) (v := 112) rfl dX12_actionOf_1 (by decide) ?_
  refine EW_icmp_ne (tgt := 10) (pc2 := 6) rfl dX12_actionOf_3 (by decide) (fun q => ?_) (fun q => ?_)
  · replace h := h.1 q
    refine EW_iload_n (pc2 := 11) rfl dX12_actionOf_10 0 rfl ?_
    refine EW_bipush (pc2 := 13) (v := 115) rfl dX12_actionOf_11 (by decide) ?_
    refine EW_icmp_ne (tgt := 20) (pc2 := 16) rfl dX12_actionOf_13 (by decide) (fun q => ?_) (fun q => ?_)
    · replace h := h.1 q
      refine EW_iload_n (pc2 := 21) rfl dX12_actionOf_20 0 rfl ?_
      refine EW_bipush (pc2 := 23) (v := 108) rfl dX12_actionOf_21 (by decide) ?_
      refine EW_icmp_ne (tgt := 30) (pc2 := 26) rfl dX12_actionOf_23 (by decide) (fun q => ?_) (fun q => ?_)
      · replace h := h.1 q
        refine EW_iload_n (pc2 := 31) rfl dX12_actionOf_30 0 rfl ?_
        refine EW_bipush (pc2 := 33) (v := 99) rfl dX12_actionOf_31 (by decide) ?_
        refine EW_icmp_ne (tgt := 40) (pc2 := 36) rfl dX12_actionOf_33 (by decide) (fun q => ?_) (fun q => ?_)
        · replace h := h.1 q
          refine EW_iload_n (pc2 := 41) rfl dX12_actionOf_40 0 rfl ?_
          refine EW_bipush (pc2 := 43) (v := 109) rfl dX12_actionOf_41 (by decide) ?_
          refine EW_icmp_ne (tgt := 50) (pc2 := 46) rfl dX12_actionOf_43 (by decide) (fun q => ?_) (fun q => ?_)
          · replace h := h.1 q
            refine EW_iconst (pc2 := 51) (v := (-1)) rfl dX12_actionOf_50 (by decide) ?_
            exact AW_iret rfl dX12_actionOf_51 ⟨_, rfl, rfl, h⟩
          · replace h := h.2 q
            refine EW_iconst (pc2 := 47) (v := 4) rfl dX12_actionOf_46 (by decide) ?_
            refine EW_goto (tgt := 51) dX12_actionOf_47 (by decide) ?_
            exact AW_iret rfl dX12_actionOf_51 ⟨_, rfl, rfl, h⟩
        · replace h := h.2 q
          refine EW_iconst (pc2 := 37) (v := 3) rfl dX12_actionOf_36 (by decide) ?_
          refine EW_goto (tgt := 51) dX12_actionOf_37 (by decide) ?_
          exact AW_iret rfl dX12_actionOf_51 ⟨_, rfl, rfl, h⟩
      · replace h := h.2 q
        refine EW_iconst (pc2 := 27) (v := 2) rfl dX12_actionOf_26 (by decide) ?_
        refine EW_goto (tgt := 51) dX12_actionOf_27 (by decide) ?_
        exact AW_iret rfl dX12_actionOf_51 ⟨_, rfl, rfl, h⟩
    · replace h := h.2 q
      refine EW_iconst (pc2 := 17) (v := 1) rfl dX12_actionOf_16 (by decide) ?_
      refine EW_goto (tgt := 51) dX12_actionOf_17 (by decide) ?_
      exact AW_iret rfl dX12_actionOf_51 ⟨_, rfl, rfl, h⟩
  · replace h := h.2 q
    refine EW_iconst (pc2 := 7) (v := 0) rfl dX12_actionOf_6 (by decide) ?_
    refine EW_goto (tgt := 51) dX12_actionOf_7 (by decide) ?_
    exact AW_iret rfl dX12_actionOf_51 ⟨_, rfl, rfl, h⟩
theorem gfRX12_423 : ab_L RX12 423 12 80 := ⟨by decide, by decide, ab_in 1929 (by decide +kernel) (by decide +kernel)⟩
theorem gfRX12_426 : ab_L RX12 426 12 79 := ⟨by decide, by decide, ab_in 1928 (by decide +kernel) (by decide +kernel)⟩
theorem gfRX12_205 : ab_L RX12 205 12 76 := ⟨by decide, by decide, ab_in 1925 (by decide +kernel) (by decide +kernel)⟩
theorem gfRX12_429 : ab_L RX12 429 12 78 := ⟨by decide, by decide, ab_in 1927 (by decide +kernel) (by decide +kernel)⟩
abbrev MX12_look : ab_M := (yX12_look, cX12_look, 1, (some .int))
theorem dX12_look_0 : decode cX12_look 0 = .ok (.aload_n 0, 1) := by decide +kernel
theorem dX12_look_1 : decode cX12_look 1 = .ok (.getfield 423, 3) := by decide +kernel
theorem dX12_look_4 : decode cX12_look 4 = .ok (.aload_n 0, 1) := by decide +kernel
theorem dX12_look_5 : decode cX12_look 5 = .ok (.getfield 426, 3) := by decide +kernel
theorem dX12_look_8 : decode cX12_look 8 = .ok (.if_icmp .ge 35, 3) := by decide +kernel
theorem dX12_look_11 : decode cX12_look 11 = .ok (.aload_n 0, 1) := by decide +kernel
theorem dX12_look_12 : decode cX12_look 12 = .ok (.getfield 205, 3) := by decide +kernel
theorem dX12_look_15 : decode cX12_look 15 = .ok (.aload_n 0, 1) := by decide +kernel
theorem dX12_look_16 : decode cX12_look 16 = .ok (.getfield 429, 3) := by decide +kernel
theorem dX12_look_19 : decode cX12_look 19 = .ok (.aload_n 0, 1) := by decide +kernel
theorem dX12_look_20 : decode cX12_look 20 = .ok (.getfield 423, 3) := by decide +kernel
theorem dX12_look_23 : decode cX12_look 23 = .ok (.iadd, 1) := by decide +kernel
theorem dX12_look_24 : decode cX12_look 24 = .ok (.baload, 1) := by decide +kernel
theorem dX12_look_25 : decode cX12_look 25 = .ok (.bipush 32, 2) := by decide +kernel
theorem dX12_look_27 : decode cX12_look 27 = .ok (.if_icmp .ne 16, 3) := by decide +kernel
theorem dX12_look_30 : decode cX12_look 30 = .ok (.aload_n 0, 1) := by decide +kernel
theorem dX12_look_31 : decode cX12_look 31 = .ok (.dup, 1) := by decide +kernel
theorem dX12_look_32 : decode cX12_look 32 = .ok (.getfield 423, 3) := by decide +kernel
theorem dX12_look_35 : decode cX12_look 35 = .ok (.iconst 1, 1) := by decide +kernel
theorem dX12_look_36 : decode cX12_look 36 = .ok (.iadd, 1) := by decide +kernel
theorem dX12_look_37 : decode cX12_look 37 = .ok (.putfield 423, 3) := by decide +kernel
theorem dX12_look_40 : decode cX12_look 40 = .ok (.goto (-40), 3) := by decide +kernel
theorem dX12_look_43 : decode cX12_look 43 = .ok (.aload_n 0, 1) := by decide +kernel
theorem dX12_look_44 : decode cX12_look 44 = .ok (.getfield 423, 3) := by decide +kernel
theorem dX12_look_47 : decode cX12_look 47 = .ok (.aload_n 0, 1) := by decide +kernel
theorem dX12_look_48 : decode cX12_look 48 = .ok (.getfield 426, 3) := by decide +kernel
theorem dX12_look_51 : decode cX12_look 51 = .ok (.if_icmp .ge 24, 3) := by decide +kernel
theorem dX12_look_54 : decode cX12_look 54 = .ok (.aload_n 0, 1) := by decide +kernel
theorem dX12_look_55 : decode cX12_look 55 = .ok (.getfield 205, 3) := by decide +kernel
theorem dX12_look_58 : decode cX12_look 58 = .ok (.aload_n 0, 1) := by decide +kernel
theorem dX12_look_59 : decode cX12_look 59 = .ok (.getfield 429, 3) := by decide +kernel
theorem dX12_look_62 : decode cX12_look 62 = .ok (.aload_n 0, 1) := by decide +kernel
theorem dX12_look_63 : decode cX12_look 63 = .ok (.getfield 423, 3) := by decide +kernel
theorem dX12_look_66 : decode cX12_look 66 = .ok (.iadd, 1) := by decide +kernel
theorem dX12_look_67 : decode cX12_look 67 = .ok (.baload, 1) := by decide +kernel
theorem dX12_look_68 : decode cX12_look 68 = .ok (.sipush 255, 3) := by decide +kernel
theorem dX12_look_71 : decode cX12_look 71 = .ok (.iand, 1) := by decide +kernel
theorem dX12_look_72 : decode cX12_look 72 = .ok (.goto 4, 3) := by decide +kernel
theorem dX12_look_75 : decode cX12_look 75 = .ok (.iconst (-1), 1) := by decide +kernel
theorem dX12_look_76 : decode cX12_look 76 = .ok (.ireturn, 1) := by decide +kernel
theorem okX12_look : ab_okM MX12_look 0 := ⟨by decide, ⟨by decide, by decide⟩, ab_in 2430 (by decide +kernel) (by decide +kernel), ab_in 99 (by decide +kernel) (by decide +kernel), by decide +kernel, by decide⟩
set_option maxHeartbeats 4000000 in
set_option maxRecDepth 100000 in
theorem sX12_look_43   (x : ab_X) (K : Int32 → ab_X → Prop)  (d bc bs : Nat) (hdp : 0 ≤ d)  (h : wX12_look_43  x K ) : EW MX12_look 43 [(0, .ref 246)] [] (aS x) d bc bs (liI K) := by
  unfold wX12_look_43 at h
  refine EW_aload_n (pc2 := 44) rfl dX12_look_43 0 rfl ?_
  refine AW_geti ⟨gfRX12_423, rfl⟩ (pc2 := 47) rfl dX12_look_44 q246 ?_
  refine EW_aload_n (pc2 := 48) rfl dX12_look_47 0 rfl ?_
  refine AW_geti ⟨gfRX12_426, rfl⟩ (pc2 := 51) rfl dX12_look_48 q246 ?_
  refine EW_icmp_ge (tgt := 75) (pc2 := 54) rfl dX12_look_51 (by decide) (fun q => ?_) (fun q => ?_)
  · replace h := h.1 q
    refine EW_iconst (pc2 := 76) (v := (-1)) rfl dX12_look_75 (by decide) ?_
    exact AW_iret rfl dX12_look_76 ⟨_, _, rfl, rfl, h⟩
  · replace h := h.2 q
    refine EW_aload_n (pc2 := 55) rfl dX12_look_54 0 rfl ?_
    refine AW_getr (r := x.2.2.2.2.1) ⟨gfRX12_205, rfl⟩ (pc2 := 58) rfl dX12_look_55 q246 rfl ?_
    refine EW_aload_n (pc2 := 59) rfl dX12_look_58 0 rfl ?_
    refine AW_geti ⟨gfRX12_429, rfl⟩ (pc2 := 62) rfl dX12_look_59 q246 ?_
    refine EW_aload_n (pc2 := 63) rfl dX12_look_62 0 rfl ?_
    refine AW_geti ⟨gfRX12_423, rfl⟩ (pc2 := 66) rfl dX12_look_63 q246 ?_
    refine EW_iadd (pc2 := 67) rfl dX12_look_66 ?_
    obtain ⟨⟨nb2, hb2, b2⟩, h⟩ := h
    refine AW_bald (pc2 := 68) rfl dX12_look_67 hb2 b2 ?_
    refine EW_sipush (pc2 := 71) (v := 255) rfl dX12_look_68 (by decide) ?_
    refine EW_iand (pc2 := 72) rfl dX12_look_71 ?_
    refine EW_goto (tgt := 76) dX12_look_72 (by decide) ?_
    exact AW_iret rfl dX12_look_76 ⟨_, _, rfl, rfl, h⟩
set_option maxHeartbeats 4000000 in
set_option maxRecDepth 100000 in
theorem sX12_look_0   (x : ab_X) (K : Int32 → ab_X → Prop)  (d bc bs : Nat) (hdp : 0 ≤ d)  (h : Lp1 (lX12_look_0  K )  x) : EW MX12_look 0 [(0, .ref 246)] [] (aS x) d bc bs (liI K) := by
  refine Lp1.use (P := fun  x => EW MX12_look 0 [(0, .ref 246)] [] (aS x) d bc bs (liI K)) (fun L0  x hL0 h => ?_)  x h
  unfold lX12_look_0 at h
  refine EW_aload_n (pc2 := 1) rfl dX12_look_0 0 rfl ?_
  refine AW_geti ⟨gfRX12_423, rfl⟩ (pc2 := 4) rfl dX12_look_1 q246 ?_
  refine EW_aload_n (pc2 := 5) rfl dX12_look_4 0 rfl ?_
  refine AW_geti ⟨gfRX12_426, rfl⟩ (pc2 := 8) rfl dX12_look_5 q246 ?_
  refine EW_icmp_ge (tgt := 43) (pc2 := 11) rfl dX12_look_8 (by decide) (fun q => ?_) (fun q => ?_)
  · replace h := h.1 q
    exact sX12_look_43  x K d bc bs hdp h
  · replace h := h.2 q
    refine EW_aload_n (pc2 := 12) rfl dX12_look_11 0 rfl ?_
    refine AW_getr (r := x.2.2.2.2.1) ⟨gfRX12_205, rfl⟩ (pc2 := 15) rfl dX12_look_12 q246 rfl ?_
    refine EW_aload_n (pc2 := 16) rfl dX12_look_15 0 rfl ?_
    refine AW_geti ⟨gfRX12_429, rfl⟩ (pc2 := 19) rfl dX12_look_16 q246 ?_
    refine EW_aload_n (pc2 := 20) rfl dX12_look_19 0 rfl ?_
    refine AW_geti ⟨gfRX12_423, rfl⟩ (pc2 := 23) rfl dX12_look_20 q246 ?_
    refine EW_iadd (pc2 := 24) rfl dX12_look_23 ?_
    obtain ⟨⟨nb1, hb1, b1⟩, h⟩ := h
    refine AW_bald (pc2 := 25) rfl dX12_look_24 hb1 b1 ?_
    refine EW_bipush (pc2 := 27) (v := 32) rfl dX12_look_25 (by decide) ?_
    refine EW_icmp_ne (tgt := 43) (pc2 := 30) rfl dX12_look_27 (by decide) (fun q => ?_) (fun q => ?_)
    · replace h := h.1 q
      exact sX12_look_43  x K d bc bs hdp h
    · replace h := h.2 q
      refine EW_aload_n (pc2 := 31) rfl dX12_look_30 0 rfl ?_
      refine EW_dup (pc2 := 32) rfl dX12_look_31 rfl ?_
      refine AW_geti ⟨gfRX12_423, rfl⟩ (pc2 := 35) rfl dX12_look_32 q246 ?_
      refine EW_iconst (pc2 := 36) (v := 1) rfl dX12_look_35 (by decide) ?_
      refine EW_iadd (pc2 := 37) rfl dX12_look_36 ?_
      refine AW_puti ⟨gfRX12_423, rfl, rfl⟩ (pc2 := 40) rfl dX12_look_37 q246 ?_
      refine EW_goto (tgt := 0) dX12_look_40 (by decide) ?_
      exact hL0 (wr x 246 80 ((x.1 246 80) + 1)) h
set_option maxHeartbeats 4000000 in
set_option maxRecDepth 100000 in
theorem sX12_look   (x : ab_X) (K : Int32 → ab_X → Prop) (d bc bs : Nat) (hdp : 0 ≤ d) (h : wX12_look  x K) : EW MX12_look 0 [(0, .ref 246)] [] (aS x) d bc bs (liI K) := by
  unfold wX12_look at h
  exact sX12_look_0  x K d bc bs hdp h
theorem gfRX12_432 : ab_L RX12 432 12 81 := ⟨by decide, by decide, ab_in 1930 (by decide +kernel) (by decide +kernel)⟩
abbrev MX12_stop : ab_M := (yX12_stop, cX12_stop, 1, (some .boolean))
theorem dX12_stop_0 : decode cX12_stop 0 = .ok (.aload_n 0, 1) := by decide +kernel
theorem dX12_stop_1 : decode cX12_stop 1 = .ok (.getfield 432, 3) := by decide +kernel
theorem dX12_stop_4 : decode cX12_stop 4 = .ok (.iconst (-1), 1) := by decide +kernel
theorem dX12_stop_5 : decode cX12_stop 5 = .ok (.if_icmp .ne 11, 3) := by decide +kernel
theorem dX12_stop_8 : decode cX12_stop 8 = .ok (.aload_n 0, 1) := by decide +kernel
theorem dX12_stop_9 : decode cX12_stop 9 = .ok (.aload_n 0, 1) := by decide +kernel
theorem dX12_stop_10 : decode cX12_stop 10 = .ok (.getfield 423, 3) := by decide +kernel
theorem dX12_stop_13 : decode cX12_stop 13 = .ok (.putfield 432, 3) := by decide +kernel
theorem dX12_stop_16 : decode cX12_stop 16 = .ok (.iconst 0, 1) := by decide +kernel
theorem dX12_stop_17 : decode cX12_stop 17 = .ok (.ireturn, 1) := by decide +kernel
theorem okX12_stop : ab_okM MX12_stop 0 := ⟨by decide, ⟨by decide, by decide⟩, ab_in 2438 (by decide +kernel) (by decide +kernel), ab_in 99 (by decide +kernel) (by decide +kernel), by decide +kernel, by decide⟩
set_option maxHeartbeats 4000000 in
set_option maxRecDepth 100000 in
theorem sX12_stop   (x : ab_X) (K : Int32 → ab_X → Prop) (d bc bs : Nat) (hdp : 0 ≤ d) (h : wX12_stop  x K) : EW MX12_stop 0 [(0, .ref 246)] [] (aS x) d bc bs (liI K) := by
  unfold wX12_stop at h
  refine EW_aload_n (pc2 := 1) rfl dX12_stop_0 0 rfl ?_
  refine AW_geti ⟨gfRX12_432, rfl⟩ (pc2 := 4) rfl dX12_stop_1 q246 ?_
  refine EW_iconst (pc2 := 5) (v := (-1)) rfl dX12_stop_4 (by decide) ?_
  refine EW_icmp_ne (tgt := 16) (pc2 := 8) rfl dX12_stop_5 (by decide) (fun q => ?_) (fun q => ?_)
  · replace h := h.1 q
    refine EW_iconst (pc2 := 17) (v := 0) rfl dX12_stop_16 (by decide) ?_
    exact AW_zret rfl isB0 dX12_stop_17 ⟨_, _, rfl, rfl, h⟩
  · replace h := h.2 q
    refine EW_aload_n (pc2 := 9) rfl dX12_stop_8 0 rfl ?_
    refine EW_aload_n (pc2 := 10) rfl dX12_stop_9 0 rfl ?_
    refine AW_geti ⟨gfRX12_423, rfl⟩ (pc2 := 13) rfl dX12_stop_10 q246 ?_
    refine AW_puti ⟨gfRX12_432, rfl, rfl⟩ (pc2 := 16) rfl dX12_stop_13 q246 ?_
    refine EW_iconst (pc2 := 17) (v := 0) rfl dX12_stop_16 (by decide) ?_
    exact AW_zret rfl isB0 dX12_stop_17 ⟨_, _, rfl, rfl, h⟩
theorem gfRX12_435 : ab_L RX12 435 12 82 := ⟨by decide, by decide, ab_in 1931 (by decide +kernel) (by decide +kernel)⟩
theorem mlRX12_438 : Cond.methodLink RX12 438 yX12_stop ∈ ab_G ∧ Cond.instanceMethod yX12_stop ∈ ab_G ∧ Cond.selects RX12 yX12_stop yX12_stop ∈ ab_G := ⟨ab_in 2435 (by decide +kernel) (by decide +kernel), ab_in 2437 (by decide +kernel) (by decide +kernel), ab_in 41 (by decide +kernel) (by decide +kernel)⟩
abbrev MX12_goesIn : ab_M := (yX12_goesIn, cX12_goesIn, 1, (some .boolean))
theorem dX12_goesIn_0 : decode cX12_goesIn 0 = .ok (.aload_n 0, 1) := by decide +kernel
theorem dX12_goesIn_1 : decode cX12_goesIn 1 = .ok (.getfield 435, 3) := by decide +kernel
theorem dX12_goesIn_4 : decode cX12_goesIn 4 = .ok (.bipush 8, 2) := by decide +kernel
theorem dX12_goesIn_6 : decode cX12_goesIn 6 = .ok (.if_icmp .ne 8, 3) := by decide +kernel
theorem dX12_goesIn_9 : decode cX12_goesIn 9 = .ok (.aload_n 0, 1) := by decide +kernel
theorem dX12_goesIn_10 : decode cX12_goesIn 10 = .ok (.invokevirtual 438, 3) := by decide +kernel
theorem dX12_goesIn_13 : decode cX12_goesIn 13 = .ok (.ireturn, 1) := by decide +kernel
theorem dX12_goesIn_14 : decode cX12_goesIn 14 = .ok (.aload_n 0, 1) := by decide +kernel
theorem dX12_goesIn_15 : decode cX12_goesIn 15 = .ok (.dup, 1) := by decide +kernel
theorem dX12_goesIn_16 : decode cX12_goesIn 16 = .ok (.getfield 435, 3) := by decide +kernel
theorem dX12_goesIn_19 : decode cX12_goesIn 19 = .ok (.iconst 1, 1) := by decide +kernel
theorem dX12_goesIn_20 : decode cX12_goesIn 20 = .ok (.iadd, 1) := by decide +kernel
theorem dX12_goesIn_21 : decode cX12_goesIn 21 = .ok (.putfield 435, 3) := by decide +kernel
theorem dX12_goesIn_24 : decode cX12_goesIn 24 = .ok (.aload_n 0, 1) := by decide +kernel
theorem dX12_goesIn_25 : decode cX12_goesIn 25 = .ok (.dup, 1) := by decide +kernel
theorem dX12_goesIn_26 : decode cX12_goesIn 26 = .ok (.getfield 423, 3) := by decide +kernel
theorem dX12_goesIn_29 : decode cX12_goesIn 29 = .ok (.iconst 1, 1) := by decide +kernel
theorem dX12_goesIn_30 : decode cX12_goesIn 30 = .ok (.iadd, 1) := by decide +kernel
theorem dX12_goesIn_31 : decode cX12_goesIn 31 = .ok (.putfield 423, 3) := by decide +kernel
theorem dX12_goesIn_34 : decode cX12_goesIn 34 = .ok (.iconst 1, 1) := by decide +kernel
theorem dX12_goesIn_35 : decode cX12_goesIn 35 = .ok (.ireturn, 1) := by decide +kernel
theorem okX12_goesIn : ab_okM MX12_goesIn 0 := ⟨by decide, ⟨by decide, by decide⟩, ab_in 2434 (by decide +kernel) (by decide +kernel), ab_in 99 (by decide +kernel) (by decide +kernel), by decide +kernel, by decide⟩
set_option maxHeartbeats 4000000 in
set_option maxRecDepth 100000 in
theorem sX12_goesIn   (x : ab_X) (K : Int32 → ab_X → Prop) (d bc bs : Nat) (hdp : 1 ≤ d) (h : wX12_goesIn  x K) : EW MX12_goesIn 0 [(0, .ref 246)] [] (aS x) d bc bs (liI K) := by
  unfold wX12_goesIn at h
  refine EW_aload_n (pc2 := 1) rfl dX12_goesIn_0 0 rfl ?_
  refine AW_geti ⟨gfRX12_435, rfl⟩ (pc2 := 4) rfl dX12_goesIn_1 q246 ?_
  refine EW_bipush (pc2 := 6) (v := 8) rfl dX12_goesIn_4 (by decide) ?_
  refine EW_icmp_ne (tgt := 14) (pc2 := 9) rfl dX12_goesIn_6 (by decide) (fun q => ?_) (fun q => ?_)
  · replace h := h.1 q
    refine EW_aload_n (pc2 := 15) rfl dX12_goesIn_14 0 rfl ?_
    refine EW_dup (pc2 := 16) rfl dX12_goesIn_15 rfl ?_
    refine AW_geti ⟨gfRX12_435, rfl⟩ (pc2 := 19) rfl dX12_goesIn_16 q246 ?_
    refine EW_iconst (pc2 := 20) (v := 1) rfl dX12_goesIn_19 (by decide) ?_
    refine EW_iadd (pc2 := 21) rfl dX12_goesIn_20 ?_
    refine AW_puti ⟨gfRX12_435, rfl, rfl⟩ (pc2 := 24) rfl dX12_goesIn_21 q246 ?_
    refine EW_aload_n (pc2 := 25) rfl dX12_goesIn_24 0 rfl ?_
    refine EW_dup (pc2 := 26) rfl dX12_goesIn_25 rfl ?_
    refine AW_geti ⟨gfRX12_423, rfl⟩ (pc2 := 29) rfl dX12_goesIn_26 q246 ?_
    refine EW_iconst (pc2 := 30) (v := 1) rfl dX12_goesIn_29 (by decide) ?_
    refine EW_iadd (pc2 := 31) rfl dX12_goesIn_30 ?_
    refine AW_puti ⟨gfRX12_423, rfl, rfl⟩ (pc2 := 34) rfl dX12_goesIn_31 q246 ?_
    refine EW_iconst (pc2 := 35) (v := 1) rfl dX12_goesIn_34 (by decide) ?_
    exact AW_zret rfl isB1 dX12_goesIn_35 ⟨_, _, rfl, rfl, h⟩
  · replace h := h.2 q
    refine EW_aload_n (pc2 := 10) rfl dX12_goesIn_9 0 rfl ?_
    refine AW_invV (M' := MX12_stop) [] (rest := []) mlRX12_438 okX12_stop (pc2 := 13) rfl dX12_goesIn_10 rfl rfl (Nat.le_of_ble_eq_true rfl) (Nat.le_of_ble_eq_true rfl) (d' := 0) (by omega) q246 ⟨by decide, rfl⟩ (EW_mono (fun _ _ hr => ?_) (sX12_stop   x _ _ 0 0 (Nat.le_refl _) h))
    obtain ⟨r1, x2, rfl, rfl, h⟩ := hr
    obtain ⟨z3, h⟩ := h
    exact AW_zret rfl z3 dX12_goesIn_13 ⟨_, _, rfl, rfl, h⟩
theorem cnRX12_449 : Cond.constantLong RX12 449 (-1000000) ∈ ab_G := ab_in 2467 (by decide +kernel) (by decide +kernel)
theorem cnRX12_451 : Cond.constantLong RX12 451 1000000 ∈ ab_G := ab_in 2468 (by decide +kernel) (by decide +kernel)
theorem mmRX12_453 : Cond.methodLink RX12 453 Lib.MathLoose.min_long.x ∈ ab_G ∧ Cond.static Lib.MathLoose.min_long.x ∈ ab_G ∧ Cond.initialized "java/lang/Math" ∈ ab_G ∧ Cond.code Lib.MathLoose.min_long.x Lib.MathLoose.min_long.code 4 (some .long) ∈ ab_G := ⟨ab_in 2469 (by decide +kernel) (by decide +kernel), ab_in 1110 (by decide +kernel) (by decide +kernel), ab_in 100 (by decide +kernel) (by decide +kernel), ab_in 1111 (by decide +kernel) (by decide +kernel)⟩
theorem mmRX12_456 : Cond.methodLink RX12 456 Lib.MathLoose.max_long.x ∈ ab_G ∧ Cond.static Lib.MathLoose.max_long.x ∈ ab_G ∧ Cond.initialized "java/lang/Math" ∈ ab_G ∧ Cond.code Lib.MathLoose.max_long.x Lib.MathLoose.max_long.code 4 (some .long) ∈ ab_G := ⟨ab_in 2470 (by decide +kernel) (by decide +kernel), ab_in 1113 (by decide +kernel) (by decide +kernel), ab_in 100 (by decide +kernel) (by decide +kernel), ab_in 1114 (by decide +kernel) (by decide +kernel)⟩
abbrev MX12_bound : ab_M := (yX12_bound, cX12_bound, 2, (some .int))
theorem dX12_bound_0 : decode cX12_bound 0 = .ok (.ldc2_w 449, 3) := by decide +kernel
theorem dX12_bound_3 : decode cX12_bound 3 = .ok (.ldc2_w 451, 3) := by decide +kernel
theorem dX12_bound_6 : decode cX12_bound 6 = .ok (.lload_n 0, 1) := by decide +kernel
theorem dX12_bound_7 : decode cX12_bound 7 = .ok (.invokestatic 453, 3) := by decide +kernel
theorem dX12_bound_10 : decode cX12_bound 10 = .ok (.invokestatic 456, 3) := by decide +kernel
theorem dX12_bound_13 : decode cX12_bound 13 = .ok (.l2i, 1) := by decide +kernel
theorem dX12_bound_14 : decode cX12_bound 14 = .ok (.ireturn, 1) := by decide +kernel
theorem okX12_bound : ab_okM MX12_bound 1 := ⟨by decide, ⟨by decide, by decide⟩, ab_in 2466 (by decide +kernel) (by decide +kernel), ab_in 99 (by decide +kernel) (by decide +kernel), by decide +kernel, by decide⟩
set_option maxHeartbeats 4000000 in
set_option maxRecDepth 100000 in
theorem sX12_bound (v0 : Int64)  (x : ab_X) (K : Int32 → Prop) (d bc bs : Nat) (hdp : 1 ≤ d) (h : wX12_bound v0 x K) : EW MX12_bound 0 [(0, .long v0)] [] (aS x) d bc bs (liP x K) := by
  unfold wX12_bound at h
  refine EW_ldc2 cnRX12_449 (pc2 := 3) rfl dX12_bound_0 ?_
  refine EW_ldc2 cnRX12_451 (pc2 := 6) rfl dX12_bound_3 ?_
  refine EW_lload_n (pc2 := 7) rfl dX12_bound_6 0 rfl ?_
  refine AW_mminl mmRX12_453 (pc2 := 10) rfl dX12_bound_7 (Nat.le_of_ble_eq_true rfl) (by omega) ?_
  refine AW_mmaxl mmRX12_456 (pc2 := 13) rfl dX12_bound_10 (Nat.le_of_ble_eq_true rfl) (by omega) ?_
  refine EW_l2i (pc2 := 14) (v := (Int64.toInt32 (lmax (-1000000) (lmin 1000000 v0)))) rfl dX12_bound_13 rfl ?_
  exact AW_iret rfl dX12_bound_14 ⟨_, rfl, rfl, h⟩
abbrev MX12_isDigit : ab_M := (yX12_isDigit, cX12_isDigit, 1, (some .boolean))
theorem dX12_isDigit_0 : decode cX12_isDigit 0 = .ok (.aload_n 0, 1) := by decide +kernel
theorem dX12_isDigit_1 : decode cX12_isDigit 1 = .ok (.getfield 423, 3) := by decide +kernel
theorem dX12_isDigit_4 : decode cX12_isDigit 4 = .ok (.aload_n 0, 1) := by decide +kernel
theorem dX12_isDigit_5 : decode cX12_isDigit 5 = .ok (.getfield 426, 3) := by decide +kernel
theorem dX12_isDigit_8 : decode cX12_isDigit 8 = .ok (.if_icmp .ge 45, 3) := by decide +kernel
theorem dX12_isDigit_11 : decode cX12_isDigit 11 = .ok (.aload_n 0, 1) := by decide +kernel
theorem dX12_isDigit_12 : decode cX12_isDigit 12 = .ok (.getfield 205, 3) := by decide +kernel
theorem dX12_isDigit_15 : decode cX12_isDigit 15 = .ok (.aload_n 0, 1) := by decide +kernel
theorem dX12_isDigit_16 : decode cX12_isDigit 16 = .ok (.getfield 429, 3) := by decide +kernel
theorem dX12_isDigit_19 : decode cX12_isDigit 19 = .ok (.aload_n 0, 1) := by decide +kernel
theorem dX12_isDigit_20 : decode cX12_isDigit 20 = .ok (.getfield 423, 3) := by decide +kernel
theorem dX12_isDigit_23 : decode cX12_isDigit 23 = .ok (.iadd, 1) := by decide +kernel
theorem dX12_isDigit_24 : decode cX12_isDigit 24 = .ok (.baload, 1) := by decide +kernel
theorem dX12_isDigit_25 : decode cX12_isDigit 25 = .ok (.bipush 48, 2) := by decide +kernel
theorem dX12_isDigit_27 : decode cX12_isDigit 27 = .ok (.if_icmp .lt 26, 3) := by decide +kernel
theorem dX12_isDigit_30 : decode cX12_isDigit 30 = .ok (.aload_n 0, 1) := by decide +kernel
theorem dX12_isDigit_31 : decode cX12_isDigit 31 = .ok (.getfield 205, 3) := by decide +kernel
theorem dX12_isDigit_34 : decode cX12_isDigit 34 = .ok (.aload_n 0, 1) := by decide +kernel
theorem dX12_isDigit_35 : decode cX12_isDigit 35 = .ok (.getfield 429, 3) := by decide +kernel
theorem dX12_isDigit_38 : decode cX12_isDigit 38 = .ok (.aload_n 0, 1) := by decide +kernel
theorem dX12_isDigit_39 : decode cX12_isDigit 39 = .ok (.getfield 423, 3) := by decide +kernel
theorem dX12_isDigit_42 : decode cX12_isDigit 42 = .ok (.iadd, 1) := by decide +kernel
theorem dX12_isDigit_43 : decode cX12_isDigit 43 = .ok (.baload, 1) := by decide +kernel
theorem dX12_isDigit_44 : decode cX12_isDigit 44 = .ok (.bipush 57, 2) := by decide +kernel
theorem dX12_isDigit_46 : decode cX12_isDigit 46 = .ok (.if_icmp .gt 7, 3) := by decide +kernel
theorem dX12_isDigit_49 : decode cX12_isDigit 49 = .ok (.iconst 1, 1) := by decide +kernel
theorem dX12_isDigit_50 : decode cX12_isDigit 50 = .ok (.goto 4, 3) := by decide +kernel
theorem dX12_isDigit_53 : decode cX12_isDigit 53 = .ok (.iconst 0, 1) := by decide +kernel
theorem dX12_isDigit_54 : decode cX12_isDigit 54 = .ok (.ireturn, 1) := by decide +kernel
theorem okX12_isDigit : ab_okM MX12_isDigit 0 := ⟨by decide, ⟨by decide, by decide⟩, ab_in 2463 (by decide +kernel) (by decide +kernel), ab_in 99 (by decide +kernel) (by decide +kernel), by decide +kernel, by decide⟩
set_option maxHeartbeats 4000000 in
set_option maxRecDepth 100000 in
theorem sX12_isDigit   (x : ab_X) (K : Int32 → Prop) (d bc bs : Nat) (hdp : 0 ≤ d) (h : wX12_isDigit  x K) : EW MX12_isDigit 0 [(0, .ref 246)] [] (aS x) d bc bs (liP x K) := by
  unfold wX12_isDigit at h
  refine EW_aload_n (pc2 := 1) rfl dX12_isDigit_0 0 rfl ?_
  refine AW_geti ⟨gfRX12_423, rfl⟩ (pc2 := 4) rfl dX12_isDigit_1 q246 ?_
  refine EW_aload_n (pc2 := 5) rfl dX12_isDigit_4 0 rfl ?_
  refine AW_geti ⟨gfRX12_426, rfl⟩ (pc2 := 8) rfl dX12_isDigit_5 q246 ?_
  refine EW_icmp_ge (tgt := 53) (pc2 := 11) rfl dX12_isDigit_8 (by decide) (fun q => ?_) (fun q => ?_)
  · replace h := h.1 q
    refine EW_iconst (pc2 := 54) (v := 0) rfl dX12_isDigit_53 (by decide) ?_
    exact AW_zret rfl isB0 dX12_isDigit_54 ⟨_, rfl, rfl, h⟩
  · replace h := h.2 q
    refine EW_aload_n (pc2 := 12) rfl dX12_isDigit_11 0 rfl ?_
    refine AW_getr (r := x.2.2.2.2.1) ⟨gfRX12_205, rfl⟩ (pc2 := 15) rfl dX12_isDigit_12 q246 rfl ?_
    refine EW_aload_n (pc2 := 16) rfl dX12_isDigit_15 0 rfl ?_
    refine AW_geti ⟨gfRX12_429, rfl⟩ (pc2 := 19) rfl dX12_isDigit_16 q246 ?_
    refine EW_aload_n (pc2 := 20) rfl dX12_isDigit_19 0 rfl ?_
    refine AW_geti ⟨gfRX12_423, rfl⟩ (pc2 := 23) rfl dX12_isDigit_20 q246 ?_
    refine EW_iadd (pc2 := 24) rfl dX12_isDigit_23 ?_
    obtain ⟨⟨nb1, hb1, b1⟩, h⟩ := h
    refine AW_bald (pc2 := 25) rfl dX12_isDigit_24 hb1 b1 ?_
    refine EW_bipush (pc2 := 27) (v := 48) rfl dX12_isDigit_25 (by decide) ?_
    refine EW_icmp_lt (tgt := 53) (pc2 := 30) rfl dX12_isDigit_27 (by decide) (fun q => ?_) (fun q => ?_)
    · replace h := h.1 q
      refine EW_iconst (pc2 := 54) (v := 0) rfl dX12_isDigit_53 (by decide) ?_
      exact AW_zret rfl isB0 dX12_isDigit_54 ⟨_, rfl, rfl, h⟩
    · replace h := h.2 q
      refine EW_aload_n (pc2 := 31) rfl dX12_isDigit_30 0 rfl ?_
      refine AW_getr (r := x.2.2.2.2.1) ⟨gfRX12_205, rfl⟩ (pc2 := 34) rfl dX12_isDigit_31 q246 rfl ?_
      refine EW_aload_n (pc2 := 35) rfl dX12_isDigit_34 0 rfl ?_
      refine AW_geti ⟨gfRX12_429, rfl⟩ (pc2 := 38) rfl dX12_isDigit_35 q246 ?_
      refine EW_aload_n (pc2 := 39) rfl dX12_isDigit_38 0 rfl ?_
      refine AW_geti ⟨gfRX12_423, rfl⟩ (pc2 := 42) rfl dX12_isDigit_39 q246 ?_
      refine EW_iadd (pc2 := 43) rfl dX12_isDigit_42 ?_
      obtain ⟨⟨nb2, hb2, b2⟩, h⟩ := h
      refine AW_bald (pc2 := 44) rfl dX12_isDigit_43 hb2 b2 ?_
      refine EW_bipush (pc2 := 46) (v := 57) rfl dX12_isDigit_44 (by decide) ?_
      refine EW_icmp_gt (tgt := 53) (pc2 := 49) rfl dX12_isDigit_46 (by decide) (fun q => ?_) (fun q => ?_)
      · replace h := h.1 q
        refine EW_iconst (pc2 := 54) (v := 0) rfl dX12_isDigit_53 (by decide) ?_
        exact AW_zret rfl isB0 dX12_isDigit_54 ⟨_, rfl, rfl, h⟩
      · replace h := h.2 q
        refine EW_iconst (pc2 := 50) (v := 1) rfl dX12_isDigit_49 (by decide) ?_
        refine EW_goto (tgt := 54) dX12_isDigit_50 (by decide) ?_
        exact AW_zret rfl isB1 dX12_isDigit_54 ⟨_, rfl, rfl, h⟩
theorem mlRX12_446 : Cond.methodLink RX12 446 yX12_isDigit ∈ ab_G ∧ Cond.instanceMethod yX12_isDigit ∈ ab_G ∧ Cond.selects RX12 yX12_isDigit yX12_isDigit ∈ ab_G := ⟨ab_in 2460 (by decide +kernel) (by decide +kernel), ab_in 2462 (by decide +kernel) (by decide +kernel), ab_in 47 (by decide +kernel) (by decide +kernel)⟩
theorem mlRX12_442 : Cond.methodLink RX12 442 yX12_look ∈ ab_G ∧ Cond.instanceMethod yX12_look ∈ ab_G ∧ Cond.selects RX12 yX12_look yX12_look ∈ ab_G := ⟨ab_in 2427 (by decide +kernel) (by decide +kernel), ab_in 2429 (by decide +kernel) (by decide +kernel), ab_in 39 (by decide +kernel) (by decide +kernel)⟩
abbrev MX12_number : ab_M := (yX12_number, cX12_number, 5, (some .int))
theorem dX12_number_0 : decode cX12_number 0 = .ok (.aload_n 0, 1) := by decide +kernel
theorem dX12_number_1 : decode cX12_number 1 = .ok (.invokevirtual 442, 3) := by decide +kernel
theorem dX12_number_4 : decode cX12_number 4 = .ok (.istore_n 2, 1) := by decide +kernel
theorem dX12_number_5 : decode cX12_number 5 = .ok (.iconst 0, 1) := by decide +kernel
theorem dX12_number_6 : decode cX12_number 6 = .ok (.istore_n 3, 1) := by decide +kernel
theorem dX12_number_7 : decode cX12_number 7 = .ok (.aload_n 0, 1) := by decide +kernel
theorem dX12_number_8 : decode cX12_number 8 = .ok (.invokevirtual 446, 3) := by decide +kernel
theorem dX12_number_11 : decode cX12_number 11 = .ok (.ifCond .ne 8, 3) := by decide +kernel
theorem dX12_number_14 : decode cX12_number 14 = .ok (.aload_n 0, 1) := by decide +kernel
theorem dX12_number_15 : decode cX12_number 15 = .ok (.invokevirtual 438, 3) := by decide +kernel
theorem dX12_number_18 : decode cX12_number 18 = .ok (.pop, 1) := by decide +kernel
theorem dX12_number_19 : decode cX12_number 19 = .ok (.iconst 0, 1) := by decide +kernel
theorem dX12_number_20 : decode cX12_number 20 = .ok (.istore 4, 2) := by decide +kernel
theorem dX12_number_22 : decode cX12_number 22 = .ok (.aload_n 0, 1) := by decide +kernel
theorem dX12_number_23 : decode cX12_number 23 = .ok (.invokevirtual 446, 3) := by decide +kernel
theorem dX12_number_26 : decode cX12_number 26 = .ok (.ifCond .eq 63, 3) := by decide +kernel
theorem dX12_number_29 : decode cX12_number 29 = .ok (.aload_n 0, 1) := by decide +kernel
theorem dX12_number_30 : decode cX12_number 30 = .ok (.getfield 432, 3) := by decide +kernel
theorem dX12_number_33 : decode cX12_number 33 = .ok (.iconst (-1), 1) := by decide +kernel
theorem dX12_number_34 : decode cX12_number 34 = .ok (.if_icmp .ne 55, 3) := by decide +kernel
theorem dX12_number_37 : decode cX12_number 37 = .ok (.iload 4, 2) := by decide +kernel
theorem dX12_number_39 : decode cX12_number 39 = .ok (.iload_n 1, 1) := by decide +kernel
theorem dX12_number_40 : decode cX12_number 40 = .ok (.if_icmp .ne 10, 3) := by decide +kernel
theorem dX12_number_43 : decode cX12_number 43 = .ok (.aload_n 0, 1) := by decide +kernel
theorem dX12_number_44 : decode cX12_number 44 = .ok (.invokevirtual 438, 3) := by decide +kernel
theorem dX12_number_47 : decode cX12_number 47 = .ok (.pop, 1) := by decide +kernel
theorem dX12_number_48 : decode cX12_number 48 = .ok (.iconst 0, 1) := by decide +kernel
theorem dX12_number_49 : decode cX12_number 49 = .ok (.ireturn, 1) := by decide +kernel
theorem dX12_number_50 : decode cX12_number 50 = .ok (.bipush 10, 2) := by decide +kernel
theorem dX12_number_52 : decode cX12_number 52 = .ok (.iload_n 3, 1) := by decide +kernel
theorem dX12_number_53 : decode cX12_number 53 = .ok (.imul, 1) := by decide +kernel
theorem dX12_number_54 : decode cX12_number 54 = .ok (.aload_n 0, 1) := by decide +kernel
theorem dX12_number_55 : decode cX12_number 55 = .ok (.getfield 205, 3) := by decide +kernel
theorem dX12_number_58 : decode cX12_number 58 = .ok (.aload_n 0, 1) := by decide +kernel
theorem dX12_number_59 : decode cX12_number 59 = .ok (.getfield 429, 3) := by decide +kernel
theorem dX12_number_62 : decode cX12_number 62 = .ok (.aload_n 0, 1) := by decide +kernel
theorem dX12_number_63 : decode cX12_number 63 = .ok (.getfield 423, 3) := by decide +kernel
theorem dX12_number_66 : decode cX12_number 66 = .ok (.iadd, 1) := by decide +kernel
theorem dX12_number_67 : decode cX12_number 67 = .ok (.baload, 1) := by decide +kernel
theorem dX12_number_68 : decode cX12_number 68 = .ok (.iadd, 1) := by decide +kernel
theorem dX12_number_69 : decode cX12_number 69 = .ok (.bipush 48, 2) := by decide +kernel
theorem dX12_number_71 : decode cX12_number 71 = .ok (.isub, 1) := by decide +kernel
theorem dX12_number_72 : decode cX12_number 72 = .ok (.istore_n 3, 1) := by decide +kernel
theorem dX12_number_73 : decode cX12_number 73 = .ok (.aload_n 0, 1) := by decide +kernel
theorem dX12_number_74 : decode cX12_number 74 = .ok (.dup, 1) := by decide +kernel
theorem dX12_number_75 : decode cX12_number 75 = .ok (.getfield 423, 3) := by decide +kernel
theorem dX12_number_78 : decode cX12_number 78 = .ok (.iconst 1, 1) := by decide +kernel
theorem dX12_number_79 : decode cX12_number 79 = .ok (.iadd, 1) := by decide +kernel
theorem dX12_number_80 : decode cX12_number 80 = .ok (.putfield 423, 3) := by decide +kernel
theorem dX12_number_83 : decode cX12_number 83 = .ok (.iinc 4 1, 3) := by decide +kernel
theorem dX12_number_86 : decode cX12_number 86 = .ok (.goto (-64), 3) := by decide +kernel
theorem dX12_number_89 : decode cX12_number 89 = .ok (.iload_n 3, 1) := by decide +kernel
theorem dX12_number_90 : decode cX12_number 90 = .ok (.ireturn, 1) := by decide +kernel
theorem okX12_number : ab_okM MX12_number 1 := ⟨by decide, ⟨by decide, by decide⟩, ab_in 2459 (by decide +kernel) (by decide +kernel), ab_in 99 (by decide +kernel) (by decide +kernel), by decide +kernel, by decide⟩
set_option maxHeartbeats 4000000 in
set_option maxRecDepth 100000 in
theorem sX12_number_22 (v1 : Int32) (v3 : Int32) (v4 : Int32)  (x : ab_X) (K : Int32 → ab_X → Prop)  (d bc bs : Nat) (hdp : 1 ≤ d)  (h : Lp3 (lX12_number_22 v1 K ) v3 v4 x) : EW MX12_number 22 [(0, .ref 246), (1, .int v1), (3, .int v3), (4, .int v4)] [] (aS x) d bc bs (liI K) := by
  refine Lp3.use (P := fun v3 v4 x => EW MX12_number 22 [(0, .ref 246), (1, .int v1), (3, .int v3), (4, .int v4)] [] (aS x) d bc bs (liI K)) (fun L22 v3 v4 x hL22 h => ?_) v3 v4 x h
  unfold lX12_number_22 at h
  refine EW_aload_n (pc2 := 23) rfl dX12_number_22 0 rfl ?_
  refine AW_invV (M' := MX12_isDigit) [] (rest := []) mlRX12_446 okX12_isDigit (pc2 := 26) rfl dX12_number_23 rfl rfl (Nat.le_of_ble_eq_true rfl) (Nat.le_of_ble_eq_true rfl) (d' := 0) (by omega) q246 ⟨by decide, rfl⟩ (EW_mono (fun _ _ hr => ?_) (sX12_isDigit   x _ _ 0 0 (Nat.le_refl _) h))
  obtain ⟨r6, rfl, rfl, h⟩ := hr
  refine EW_if_eq (tgt := 89) (pc2 := 29) rfl dX12_number_26 (by decide) (fun q => ?_) (fun q => ?_)
  · replace h := h.1 q
    refine EW_iload_n (pc2 := 90) rfl dX12_number_89 2 rfl ?_
    exact AW_iret rfl dX12_number_90 ⟨_, _, rfl, rfl, h⟩
  · replace h := h.2 q
    refine EW_aload_n (pc2 := 30) rfl dX12_number_29 0 rfl ?_
    refine AW_geti ⟨gfRX12_432, rfl⟩ (pc2 := 33) rfl dX12_number_30 q246 ?_
    refine EW_iconst (pc2 := 34) (v := (-1)) rfl dX12_number_33 (by decide) ?_
    refine EW_icmp_ne (tgt := 89) (pc2 := 37) rfl dX12_number_34 (by decide) (fun q => ?_) (fun q => ?_)
    · replace h := h.1 q
      refine EW_iload_n (pc2 := 90) rfl dX12_number_89 2 rfl ?_
      exact AW_iret rfl dX12_number_90 ⟨_, _, rfl, rfl, h⟩
    · replace h := h.2 q
      refine EW_iload (pc2 := 39) rfl dX12_number_37 3 rfl ?_
      refine EW_iload_n (pc2 := 40) rfl dX12_number_39 1 rfl ?_
      refine EW_icmp_ne (tgt := 50) (pc2 := 43) rfl dX12_number_40 (by decide) (fun q => ?_) (fun q => ?_)
      · replace h := h.1 q
        refine EW_bipush (pc2 := 52) (v := 10) rfl dX12_number_50 (by decide) ?_
        refine EW_iload_n (pc2 := 53) rfl dX12_number_52 2 rfl ?_
        refine EW_imul (pc2 := 54) rfl dX12_number_53 ?_
        refine EW_aload_n (pc2 := 55) rfl dX12_number_54 0 rfl ?_
        refine AW_getr (r := x.2.2.2.2.1) ⟨gfRX12_205, rfl⟩ (pc2 := 58) rfl dX12_number_55 q246 rfl ?_
        refine EW_aload_n (pc2 := 59) rfl dX12_number_58 0 rfl ?_
        refine AW_geti ⟨gfRX12_429, rfl⟩ (pc2 := 62) rfl dX12_number_59 q246 ?_
        refine EW_aload_n (pc2 := 63) rfl dX12_number_62 0 rfl ?_
        refine AW_geti ⟨gfRX12_423, rfl⟩ (pc2 := 66) rfl dX12_number_63 q246 ?_
        refine EW_iadd (pc2 := 67) rfl dX12_number_66 ?_
        obtain ⟨⟨nb7, hb7, b7⟩, h⟩ := h
        refine AW_bald (pc2 := 68) rfl dX12_number_67 hb7 b7 ?_
        refine EW_iadd (pc2 := 69) rfl dX12_number_68 ?_
        refine EW_bipush (pc2 := 71) (v := 48) rfl dX12_number_69 (by decide) ?_
        refine EW_isub (pc2 := 72) rfl dX12_number_71 ?_
        refine EW_istore_n (pc2 := 73) rfl dX12_number_72 (by decide) [1, 2, 0, 3] [(0, .ref 246), (1, .int v1), (3, .int (((10 * v3) + (x.1 x.2.2.2.2.1 (Int32.toNatClampNeg ((x.1 246 78) + (x.1 246 80))))) - 48)), (4, .int v4)] rfl ?_
        refine EW_aload_n (pc2 := 74) rfl dX12_number_73 0 rfl ?_
        refine EW_dup (pc2 := 75) rfl dX12_number_74 rfl ?_
        refine AW_geti ⟨gfRX12_423, rfl⟩ (pc2 := 78) rfl dX12_number_75 q246 ?_
        refine EW_iconst (pc2 := 79) (v := 1) rfl dX12_number_78 (by decide) ?_
        refine EW_iadd (pc2 := 80) rfl dX12_number_79 ?_
        refine AW_puti ⟨gfRX12_423, rfl, rfl⟩ (pc2 := 83) rfl dX12_number_80 q246 ?_
        refine EW_iinc (v4 + 1) (pc2 := 86) rfl dX12_number_83 3 rfl rfl (by decide) [1, 2, 3, 0] [(0, .ref 246), (1, .int v1), (3, .int (((10 * v3) + (x.1 x.2.2.2.2.1 (Int32.toNatClampNeg ((x.1 246 78) + (x.1 246 80))))) - 48)), (4, .int (v4 + 1))] rfl ?_
        refine EW_goto (tgt := 22) dX12_number_86 (by decide) ?_
        exact hL22 (((10 * v3) + (x.1 x.2.2.2.2.1 (Int32.toNatClampNeg ((x.1 246 78) + (x.1 246 80))))) - 48) (v4 + 1) (wr x 246 80 ((x.1 246 80) + 1)) h
      · replace h := h.2 q
        refine EW_aload_n (pc2 := 44) rfl dX12_number_43 0 rfl ?_
        refine AW_invV (M' := MX12_stop) [] (rest := []) mlRX12_438 okX12_stop (pc2 := 47) rfl dX12_number_44 rfl rfl (Nat.le_of_ble_eq_true rfl) (Nat.le_of_ble_eq_true rfl) (d' := 0) (by omega) q246 ⟨by decide, rfl⟩ (EW_mono (fun _ _ hr => ?_) (sX12_stop   x _ _ 0 0 (Nat.le_refl _) h))
        obtain ⟨r8, x9, rfl, rfl, h⟩ := hr
        refine EW_pop (pc2 := 48) rfl dX12_number_47 rfl ?_
        refine EW_iconst (pc2 := 49) (v := 0) rfl dX12_number_48 (by decide) ?_
        exact AW_iret rfl dX12_number_49 ⟨_, _, rfl, rfl, h⟩
set_option maxHeartbeats 4000000 in
set_option maxRecDepth 100000 in
theorem sX12_number (v1 : Int32)  (x : ab_X) (K : Int32 → ab_X → Prop) (d bc bs : Nat) (hdp : 1 ≤ d) (h : wX12_number v1 x K) : EW MX12_number 0 [(0, .ref 246), (1, .int v1)] [] (aS x) d bc bs (liI K) := by
  unfold wX12_number at h
  refine EW_aload_n (pc2 := 1) rfl dX12_number_0 0 rfl ?_
  refine AW_invV (M' := MX12_look) [] (rest := []) mlRX12_442 okX12_look (pc2 := 4) rfl dX12_number_1 rfl rfl (Nat.le_of_ble_eq_true rfl) (Nat.le_of_ble_eq_true rfl) (d' := 0) (by omega) q246 ⟨by decide, rfl⟩ (EW_mono (fun _ _ hr => ?_) (sX12_look   x _ _ 0 0 (Nat.le_refl _) h))
  obtain ⟨r1, x2, rfl, rfl, h⟩ := hr
  refine EW_istore_n (pc2 := 5) rfl dX12_number_4 (by decide) [1, 2, 0] [(0, .ref 246), (1, .int v1), (2, .int r1)] rfl ?_
  refine EW_iconst (pc2 := 6) (v := 0) rfl dX12_number_5 (by decide) ?_
  refine EW_istore_n (pc2 := 7) rfl dX12_number_6 (by decide) [1, 2, 3, 0] [(0, .ref 246), (1, .int v1), (2, .int r1), (3, .int 0)] rfl ?_
  refine EW_aload_n (pc2 := 8) rfl dX12_number_7 0 rfl ?_
  refine AW_invV (M' := MX12_isDigit) [] (rest := []) mlRX12_446 okX12_isDigit (pc2 := 11) rfl dX12_number_8 rfl rfl (Nat.le_of_ble_eq_true rfl) (Nat.le_of_ble_eq_true rfl) (d' := 0) (by omega) q246 ⟨by decide, rfl⟩ (EW_mono (fun _ _ hr => ?_) (sX12_isDigit   x2 _ _ 0 0 (Nat.le_refl _) h))
  obtain ⟨r3, rfl, rfl, h⟩ := hr
  refine EW_if_ne (tgt := 19) (pc2 := 14) rfl dX12_number_11 (by decide) (fun q => ?_) (fun q => ?_)
  · replace h := h.1 q
    refine EW_iconst (pc2 := 20) (v := 0) rfl dX12_number_19 (by decide) ?_
    refine EW_istore (pc2 := 22) rfl dX12_number_20 (by decide) [1, 2, 3, 4, 0] [(0, .ref 246), (1, .int v1), (2, .int r1), (3, .int 0), (4, .int 0)] rfl ?_
    refine EW_ls [0, 1, 3, 4] rfl ?_
    exact sX12_number_22 v1 0 0 x2 K d bc bs hdp h
  · replace h := h.2 q
    refine EW_aload_n (pc2 := 15) rfl dX12_number_14 0 rfl ?_
    refine AW_invV (M' := MX12_stop) [] (rest := []) mlRX12_438 okX12_stop (pc2 := 18) rfl dX12_number_15 rfl rfl (Nat.le_of_ble_eq_true rfl) (Nat.le_of_ble_eq_true rfl) (d' := 0) (by omega) q246 ⟨by decide, rfl⟩ (EW_mono (fun _ _ hr => ?_) (sX12_stop   x2 _ _ 0 0 (Nat.le_refl _) h))
    obtain ⟨r4, x5, rfl, rfl, h⟩ := hr
    refine EW_pop (pc2 := 19) rfl dX12_number_18 rfl ?_
    refine EW_iconst (pc2 := 20) (v := 0) rfl dX12_number_19 (by decide) ?_
    refine EW_istore (pc2 := 22) rfl dX12_number_20 (by decide) [1, 2, 3, 4, 0] [(0, .ref 246), (1, .int v1), (2, .int r1), (3, .int 0), (4, .int 0)] rfl ?_
    refine EW_ls [0, 1, 3, 4] rfl ?_
    exact sX12_number_22 v1 0 0 x5 K d bc bs hdp h
abbrev MX12_takes : ab_M := (yX12_takes, cX12_takes, 2, (some .boolean))
theorem dX12_takes_0 : decode cX12_takes 0 = .ok (.aload_n 0, 1) := by decide +kernel
theorem dX12_takes_1 : decode cX12_takes 1 = .ok (.getfield 432, 3) := by decide +kernel
theorem dX12_takes_4 : decode cX12_takes 4 = .ok (.iconst (-1), 1) := by decide +kernel
theorem dX12_takes_5 : decode cX12_takes 5 = .ok (.if_icmp .ne 11, 3) := by decide +kernel
theorem dX12_takes_8 : decode cX12_takes 8 = .ok (.aload_n 0, 1) := by decide +kernel
theorem dX12_takes_9 : decode cX12_takes 9 = .ok (.invokevirtual 442, 3) := by decide +kernel
theorem dX12_takes_12 : decode cX12_takes 12 = .ok (.iload_n 1, 1) := by decide +kernel
theorem dX12_takes_13 : decode cX12_takes 13 = .ok (.if_icmp .eq 8, 3) := by decide +kernel
theorem dX12_takes_16 : decode cX12_takes 16 = .ok (.aload_n 0, 1) := by decide +kernel
theorem dX12_takes_17 : decode cX12_takes 17 = .ok (.invokevirtual 438, 3) := by decide +kernel
theorem dX12_takes_20 : decode cX12_takes 20 = .ok (.ireturn, 1) := by decide +kernel
theorem dX12_takes_21 : decode cX12_takes 21 = .ok (.aload_n 0, 1) := by decide +kernel
theorem dX12_takes_22 : decode cX12_takes 22 = .ok (.dup, 1) := by decide +kernel
theorem dX12_takes_23 : decode cX12_takes 23 = .ok (.getfield 423, 3) := by decide +kernel
theorem dX12_takes_26 : decode cX12_takes 26 = .ok (.iconst 1, 1) := by decide +kernel
theorem dX12_takes_27 : decode cX12_takes 27 = .ok (.iadd, 1) := by decide +kernel
theorem dX12_takes_28 : decode cX12_takes 28 = .ok (.putfield 423, 3) := by decide +kernel
theorem dX12_takes_31 : decode cX12_takes 31 = .ok (.iconst 1, 1) := by decide +kernel
theorem dX12_takes_32 : decode cX12_takes 32 = .ok (.ireturn, 1) := by decide +kernel
theorem okX12_takes : ab_okM MX12_takes 1 := ⟨by decide, ⟨by decide, by decide⟩, ab_in 2442 (by decide +kernel) (by decide +kernel), ab_in 99 (by decide +kernel) (by decide +kernel), by decide +kernel, by decide⟩
set_option maxHeartbeats 4000000 in
set_option maxRecDepth 100000 in
theorem sX12_takes_16   (x : ab_X) (K : Int32 → ab_X → Prop)  (d bc bs : Nat) (hdp : 1 ≤ d)  (h : wX12_takes_16  x K ) : EW MX12_takes 16 [(0, .ref 246)] [] (aS x) d bc bs (liI K) := by
  unfold wX12_takes_16 at h
  refine EW_aload_n (pc2 := 17) rfl dX12_takes_16 0 rfl ?_
  refine AW_invV (M' := MX12_stop) [] (rest := []) mlRX12_438 okX12_stop (pc2 := 20) rfl dX12_takes_17 rfl rfl (Nat.le_of_ble_eq_true rfl) (Nat.le_of_ble_eq_true rfl) (d' := 0) (by omega) q246 ⟨by decide, rfl⟩ (EW_mono (fun _ _ hr => ?_) (sX12_stop   x _ _ 0 0 (Nat.le_refl _) h))
  obtain ⟨r3, x4, rfl, rfl, h⟩ := hr
  obtain ⟨z5, h⟩ := h
  exact AW_zret rfl z5 dX12_takes_20 ⟨_, _, rfl, rfl, h⟩
set_option maxHeartbeats 4000000 in
set_option maxRecDepth 100000 in
theorem sX12_takes (v1 : Int32)  (x : ab_X) (K : Int32 → ab_X → Prop) (d bc bs : Nat) (hdp : 1 ≤ d) (h : wX12_takes v1 x K) : EW MX12_takes 0 [(0, .ref 246), (1, .int v1)] [] (aS x) d bc bs (liI K) := by
  unfold wX12_takes at h
  refine EW_aload_n (pc2 := 1) rfl dX12_takes_0 0 rfl ?_
  refine AW_geti ⟨gfRX12_432, rfl⟩ (pc2 := 4) rfl dX12_takes_1 q246 ?_
  refine EW_iconst (pc2 := 5) (v := (-1)) rfl dX12_takes_4 (by decide) ?_
  refine EW_icmp_ne (tgt := 16) (pc2 := 8) rfl dX12_takes_5 (by decide) (fun q => ?_) (fun q => ?_)
  · replace h := h.1 q
    refine EW_ls [0] rfl ?_
    exact sX12_takes_16  x K d bc bs hdp h
  · replace h := h.2 q
    refine EW_aload_n (pc2 := 9) rfl dX12_takes_8 0 rfl ?_
    refine AW_invV (M' := MX12_look) [] (rest := []) mlRX12_442 okX12_look (pc2 := 12) rfl dX12_takes_9 rfl rfl (Nat.le_of_ble_eq_true rfl) (Nat.le_of_ble_eq_true rfl) (d' := 0) (by omega) q246 ⟨by decide, rfl⟩ (EW_mono (fun _ _ hr => ?_) (sX12_look   x _ _ 0 0 (Nat.le_refl _) h))
    obtain ⟨r1, x2, rfl, rfl, h⟩ := hr
    refine EW_iload_n (pc2 := 13) rfl dX12_takes_12 1 rfl ?_
    refine EW_icmp_eq (tgt := 21) (pc2 := 16) rfl dX12_takes_13 (by decide) (fun q => ?_) (fun q => ?_)
    · replace h := h.1 q
      refine EW_aload_n (pc2 := 22) rfl dX12_takes_21 0 rfl ?_
      refine EW_dup (pc2 := 23) rfl dX12_takes_22 rfl ?_
      refine AW_geti ⟨gfRX12_423, rfl⟩ (pc2 := 26) rfl dX12_takes_23 q246 ?_
      refine EW_iconst (pc2 := 27) (v := 1) rfl dX12_takes_26 (by decide) ?_
      refine EW_iadd (pc2 := 28) rfl dX12_takes_27 ?_
      refine AW_puti ⟨gfRX12_423, rfl, rfl⟩ (pc2 := 31) rfl dX12_takes_28 q246 ?_
      refine EW_iconst (pc2 := 32) (v := 1) rfl dX12_takes_31 (by decide) ?_
      exact AW_zret rfl isB1 dX12_takes_32 ⟨_, _, rfl, rfl, h⟩
    · replace h := h.2 q
      refine EW_ls [0] rfl ?_
      exact sX12_takes_16  x2 K d bc bs hdp h
