theorem mlRX11_74 : Cond.methodLink RX11 74 yX11_within ∈ ab_G ∧ Cond.static yX11_within ∈ ab_G := ⟨ab_in 770 (by decide +kernel) (by decide +kernel), ab_in 771 (by decide +kernel) (by decide +kernel)⟩
theorem gfRX11_46 : ab_L RX11 46 11 4 := ⟨by decide, by decide, ab_in 736 (by decide +kernel) (by decide +kernel)⟩
theorem gfRX11_406 : ab_L RX11 406 5 4 := ⟨by decide, by decide, ab_in 635 (by decide +kernel) (by decide +kernel)⟩
theorem gfRX11_37 : ab_L RX11 37 11 3 := ⟨by decide, by decide, ab_in 735 (by decide +kernel) (by decide +kernel)⟩
theorem mlRX11_368 : Cond.methodLink RX11 368 yX8_parse ∈ ab_G ∧ Cond.instanceMethod yX8_parse ∈ ab_G ∧ Cond.selects RX8 yX8_parse yX8_parse ∈ ab_G := ⟨ab_in 1171 (by decide +kernel) (by decide +kernel), ab_in 1172 (by decide +kernel) (by decide +kernel), ab_in 1173 (by decide +kernel) (by decide +kernel)⟩
theorem gfRX11_30 : ab_L RX11 30 11 2 := ⟨by decide, by decide, ab_in 734 (by decide +kernel) (by decide +kernel)⟩
theorem gfRX11_400 : ab_L RX11 400 0 12 := ⟨by decide, by decide, ab_in 564 (by decide +kernel) (by decide +kernel)⟩
theorem mlRX11_409 : Cond.methodLink RX11 409 yX5_addAct ∈ ab_G ∧ Cond.instanceMethod yX5_addAct ∈ ab_G ∧ Cond.selects RX5 yX5_addAct yX5_addAct ∈ ab_G := ⟨ab_in 1515 (by decide +kernel) (by decide +kernel), ab_in 1516 (by decide +kernel) (by decide +kernel), ab_in 1517 (by decide +kernel) (by decide +kernel)⟩
theorem gfRX11_412 : ab_L RX11 412 5 1 := ⟨by decide, by decide, ab_in 631 (by decide +kernel) (by decide +kernel)⟩
theorem mlRX11_381 : Cond.methodLink RX11 381 yX8_handOver ∈ ab_G ∧ Cond.instanceMethod yX8_handOver ∈ ab_G ∧ Cond.selects RX8 yX8_handOver yX8_handOver ∈ ab_G := ⟨ab_in 1327 (by decide +kernel) (by decide +kernel), ab_in 1328 (by decide +kernel) (by decide +kernel), ab_in 1329 (by decide +kernel) (by decide +kernel)⟩
abbrev MX11_act : ab_M := (yX11_act, cX11_act, 3, (some .int))
theorem dX11_act_0 : decode cX11_act 0 = .ok (.iload_n 1, 1) := by decide +kernel
theorem dX11_act_1 : decode cX11_act 1 = .ok (.iconst 1, 1) := by decide +kernel
theorem dX11_act_2 : decode cX11_act 2 = .ok (.sipush 200, 3) := by decide +kernel
theorem dX11_act_5 : decode cX11_act 5 = .ok (.invokestatic 74, 3) := by decide +kernel
theorem dX11_act_8 : decode cX11_act 8 = .ok (.ifCond .eq 26, 3) := by decide +kernel
theorem dX11_act_11 : decode cX11_act 11 = .ok (.aload_n 0, 1) := by decide +kernel
theorem dX11_act_12 : decode cX11_act 12 = .ok (.getfield 46, 3) := by decide +kernel
theorem dX11_act_15 : decode cX11_act 15 = .ok (.getfield 406, 3) := by decide +kernel
theorem dX11_act_18 : decode cX11_act 18 = .ok (.bipush 12, 2) := by decide +kernel
theorem dX11_act_20 : decode cX11_act 20 = .ok (.if_icmp .ge 14, 3) := by decide +kernel
theorem dX11_act_23 : decode cX11_act 23 = .ok (.aload_n 0, 1) := by decide +kernel
theorem dX11_act_24 : decode cX11_act 24 = .ok (.getfield 37, 3) := by decide +kernel
theorem dX11_act_27 : decode cX11_act 27 = .ok (.iconst 2, 1) := by decide +kernel
theorem dX11_act_28 : decode cX11_act 28 = .ok (.invokevirtual 368, 3) := by decide +kernel
theorem dX11_act_31 : decode cX11_act 31 = .ok (.ifCond .ne 5, 3) := by decide +kernel
theorem dX11_act_34 : decode cX11_act 34 = .ok (.iconst (-1), 1) := by decide +kernel
theorem dX11_act_35 : decode cX11_act 35 = .ok (.ireturn, 1) := by decide +kernel
theorem dX11_act_36 : decode cX11_act 36 = .ok (.aload_n 0, 1) := by decide +kernel
theorem dX11_act_37 : decode cX11_act 37 = .ok (.getfield 46, 3) := by decide +kernel
theorem dX11_act_40 : decode cX11_act 40 = .ok (.iload_n 1, 1) := by decide +kernel
theorem dX11_act_41 : decode cX11_act 41 = .ok (.aload_n 0, 1) := by decide +kernel
theorem dX11_act_42 : decode cX11_act 42 = .ok (.getfield 30, 3) := by decide +kernel
theorem dX11_act_45 : decode cX11_act 45 = .ok (.getfield 400, 3) := by decide +kernel
theorem dX11_act_48 : decode cX11_act 48 = .ok (.invokevirtual 409, 3) := by decide +kernel
theorem dX11_act_51 : decode cX11_act 51 = .ok (.istore_n 2, 1) := by decide +kernel
theorem dX11_act_52 : decode cX11_act 52 = .ok (.aload_n 0, 1) := by decide +kernel
theorem dX11_act_53 : decode cX11_act 53 = .ok (.getfield 37, 3) := by decide +kernel
theorem dX11_act_56 : decode cX11_act 56 = .ok (.aload_n 0, 1) := by decide +kernel
theorem dX11_act_57 : decode cX11_act 57 = .ok (.getfield 46, 3) := by decide +kernel
theorem dX11_act_60 : decode cX11_act 60 = .ok (.getfield 412, 3) := by decide +kernel
theorem dX11_act_63 : decode cX11_act 63 = .ok (.iload_n 2, 1) := by decide +kernel
theorem dX11_act_64 : decode cX11_act 64 = .ok (.aaload, 1) := by decide +kernel
theorem dX11_act_65 : decode cX11_act 65 = .ok (.invokevirtual 381, 3) := by decide +kernel
theorem dX11_act_68 : decode cX11_act 68 = .ok (.iload_n 2, 1) := by decide +kernel
theorem dX11_act_69 : decode cX11_act 69 = .ok (.ireturn, 1) := by decide +kernel
theorem okX11_act : ab_okM MX11_act 1 := ⟨by decide, ⟨by decide, by decide⟩, ab_in 1514 (by decide +kernel) (by decide +kernel), ab_in 86 (by decide +kernel) (by decide +kernel), by decide +kernel, by decide⟩
set_option maxHeartbeats 4000000 in
set_option maxRecDepth 100000 in
def wX11_act (v1 : Int32) (x : ab_X) (K : Int32 → ab_X → Prop) : Prop := wX11_within v1 1 200 x (fun r1 => ((r1 = 0 → K (-1) x) ∧ (¬ r1 = 0 → ((12 ≤ (x.1 165 4) → K (-1) x) ∧ (¬ 12 ≤ (x.1 165 4) → wX8_parse 2 x (fun r2 x3 => ((¬ r2 = 0 → wX5_addAct v1 (x3.1 66 12) x3 (fun r4 x5 => (vp_in r4 12 ∧ wX8_handOver (174 + 5 * Int32.toNatClampNeg r4) x5 (fun x7 => K r4 x7)))) ∧ (r2 = 0 → K (-1) x3))))))))
set_option maxHeartbeats 4000000 in
set_option maxRecDepth 100000 in
theorem sX11_act (v1 : Int32)  (x : ab_X) (K : Int32 → ab_X → Prop) (d bc bs : Nat) (hdp : 212 ≤ d) (h : wX11_act v1 x K) : EW MX11_act 0 [(0, .ref 0), (1, .int v1)] [] (aS x) d bc bs (liI K) := by
  unfold wX11_act at h
  refine EW_iload_n (pc2 := 1) rfl dX11_act_0 1 rfl ?_
  refine EW_iconst (pc2 := 2) (v := 1) rfl dX11_act_1 (by decide) ?_
  refine EW_sipush (pc2 := 5) (v := 200) rfl dX11_act_2 (by decide) ?_
  refine AW_invS (M' := MX11_within) [.int v1, .int 1, .int 200] (rest := []) mlRX11_74 okX11_within (pc2 := 8) rfl dX11_act_5 rfl rfl (Nat.le_of_ble_eq_true rfl) (Nat.le_of_ble_eq_true rfl) (d' := 0) (by omega) (EW_mono (fun _ _ hr => ?_) (sX11_within v1 1 200  x _ _ 0 0 (Nat.le_refl _) h))
  obtain ⟨r1, rfl, rfl, h⟩ := hr
  refine EW_if_eq (tgt := 34) (pc2 := 11) rfl dX11_act_8 (by decide) (fun q => ?_) (fun q => ?_)
  · replace h := h.1 q
    refine EW_iconst (pc2 := 35) (v := (-1)) rfl dX11_act_34 (by decide) ?_
    exact AW_iret rfl dX11_act_35 ⟨_, _, rfl, rfl, h⟩
  · replace h := h.2 q
    refine EW_aload_n (pc2 := 12) rfl dX11_act_11 0 rfl ?_
    refine AW_getr (r := 165) ⟨gfRX11_46, rfl⟩ (pc2 := 15) rfl dX11_act_12 q0 rfl ?_
    refine AW_geti ⟨gfRX11_406, rfl⟩ (pc2 := 18) rfl dX11_act_15 q165 ?_
    refine EW_bipush (pc2 := 20) (v := 12) rfl dX11_act_18 (by decide) ?_
    refine EW_icmp_ge (tgt := 34) (pc2 := 23) rfl dX11_act_20 (by decide) (fun q => ?_) (fun q => ?_)
    · replace h := h.1 q
      refine EW_iconst (pc2 := 35) (v := (-1)) rfl dX11_act_34 (by decide) ?_
      exact AW_iret rfl dX11_act_35 ⟨_, _, rfl, rfl, h⟩
    · replace h := h.2 q
      refine EW_aload_n (pc2 := 24) rfl dX11_act_23 0 rfl ?_
      refine AW_getr (r := 158) ⟨gfRX11_37, rfl⟩ (pc2 := 27) rfl dX11_act_24 q0 rfl ?_
      refine EW_iconst (pc2 := 28) (v := 2) rfl dX11_act_27 (by decide) ?_
      refine AW_invV (M' := MX8_parse) [.int 2] (rest := []) mlRX11_368 okX8_parse (pc2 := 31) rfl dX11_act_28 rfl rfl (Nat.le_of_ble_eq_true rfl) (Nat.le_of_ble_eq_true rfl) (d' := 211) (by omega) q158 ⟨by decide, rfl⟩ (EW_mono (fun _ _ hr => ?_) (sX8_parse 2  x _ _ 0 0 (Nat.le_refl _) h))
      obtain ⟨r2, x3, rfl, rfl, h⟩ := hr
      refine EW_if_ne (tgt := 36) (pc2 := 34) rfl dX11_act_31 (by decide) (fun q => ?_) (fun q => ?_)
      · replace h := h.1 q
        refine EW_aload_n (pc2 := 37) rfl dX11_act_36 0 rfl ?_
        refine AW_getr (r := 165) ⟨gfRX11_46, rfl⟩ (pc2 := 40) rfl dX11_act_37 q0 rfl ?_
        refine EW_iload_n (pc2 := 41) rfl dX11_act_40 1 rfl ?_
        refine EW_aload_n (pc2 := 42) rfl dX11_act_41 0 rfl ?_
        refine AW_getr (r := 66) ⟨gfRX11_30, rfl⟩ (pc2 := 45) rfl dX11_act_42 q0 rfl ?_
        refine AW_geti ⟨gfRX11_400, rfl⟩ (pc2 := 48) rfl dX11_act_45 q66 ?_
        refine AW_invV (M' := MX5_addAct) [.int v1, .int (x3.1 66 12)] (rest := []) mlRX11_409 okX5_addAct (pc2 := 51) rfl dX11_act_48 rfl rfl (Nat.le_of_ble_eq_true rfl) (Nat.le_of_ble_eq_true rfl) (d' := 0) (by omega) q165 ⟨by decide, rfl⟩ (EW_mono (fun _ _ hr => ?_) (sX5_addAct v1 (x3.1 66 12)  x3 _ _ 0 0 (Nat.le_refl _) h))
        obtain ⟨r4, x5, rfl, rfl, h⟩ := hr
        refine EW_istore_n (pc2 := 52) rfl dX11_act_51 (by decide) [1, 2, 0] [(0, .ref 0), (1, .int v1), (2, .int r4)] rfl ?_
        refine EW_aload_n (pc2 := 53) rfl dX11_act_52 0 rfl ?_
        refine AW_getr (r := 158) ⟨gfRX11_37, rfl⟩ (pc2 := 56) rfl dX11_act_53 q0 rfl ?_
        refine EW_aload_n (pc2 := 57) rfl dX11_act_56 0 rfl ?_
        refine AW_getr (r := 165) ⟨gfRX11_46, rfl⟩ (pc2 := 60) rfl dX11_act_57 q0 rfl ?_
        refine AW_getr (r := 166) ⟨gfRX11_412, rfl⟩ (pc2 := 63) rfl dX11_act_60 q165 rfl ?_
        refine EW_iload_n (pc2 := 64) rfl dX11_act_63 2 rfl ?_
        obtain ⟨b6, h⟩ := h
        refine AW_aald8 (pc2 := 65) rfl dX11_act_64 b6 ?_
        refine AW_invV (M' := MX8_handOver) [.ref (174 + 5 * Int32.toNatClampNeg r4)] (rest := []) mlRX11_381 okX8_handOver (pc2 := 68) rfl dX11_act_65 rfl rfl (Nat.le_of_ble_eq_true rfl) (Nat.le_of_ble_eq_true rfl) (d' := 2) (by omega) q158 ⟨by decide, rfl⟩ (EW_mono (fun _ _ hr => ?_) (sX8_handOver (174 + 5 * Int32.toNatClampNeg r4) (isT_of b6) x5 _ _ 0 0 (Nat.le_refl _) h))
        obtain ⟨x7, rfl, rfl, h⟩ := hr
        refine EW_iload_n (pc2 := 69) rfl dX11_act_68 2 rfl ?_
        exact AW_iret rfl dX11_act_69 ⟨_, _, rfl, rfl, h⟩
      · replace h := h.2 q
        refine EW_iconst (pc2 := 35) (v := (-1)) rfl dX11_act_34 (by decide) ?_
        exact AW_iret rfl dX11_act_35 ⟨_, _, rfl, rfl, h⟩
theorem mlRX11_70 : Cond.methodLink RX11 70 yX11_isCorner ∈ ab_G ∧ Cond.static yX11_isCorner ∈ ab_G := ⟨ab_in 767 (by decide +kernel) (by decide +kernel), ab_in 768 (by decide +kernel) (by decide +kernel)⟩
theorem mlRX11_388 : Cond.methodLink RX11 388 yX0_readOrders ∈ ab_G ∧ Cond.instanceMethod yX0_readOrders ∈ ab_G ∧ Cond.selects RX0 yX0_readOrders yX0_readOrders ∈ ab_G := ⟨ab_in 1346 (by decide +kernel) (by decide +kernel), ab_in 1056 (by decide +kernel) (by decide +kernel), ab_in 1057 (by decide +kernel) (by decide +kernel)⟩
theorem gfRX11_377 : ab_L RX11 377 0 6 := ⟨by decide, by decide, ab_in 556 (by decide +kernel) (by decide +kernel)⟩
theorem gfRX11_392 : ab_L RX11 392 9 7 := ⟨by decide, by decide, ab_in 378 (by decide +kernel) (by decide +kernel)⟩
abbrev MX11_asks : ab_M := (yX11_asks, cX11_asks, 4, (some .int))
theorem dX11_asks_0 : decode cX11_asks 0 = .ok (.iload_n 1, 1) := by decide +kernel
theorem dX11_asks_1 : decode cX11_asks 1 = .ok (.invokestatic 70, 3) := by decide +kernel
theorem dX11_asks_4 : decode cX11_asks 4 = .ok (.ifCond .eq 21, 3) := by decide +kernel
theorem dX11_asks_7 : decode cX11_asks 7 = .ok (.iload_n 2, 1) := by decide +kernel
theorem dX11_asks_8 : decode cX11_asks 8 = .ok (.iconst 1, 1) := by decide +kernel
theorem dX11_asks_9 : decode cX11_asks 9 = .ok (.iconst 3, 1) := by decide +kernel
theorem dX11_asks_10 : decode cX11_asks 10 = .ok (.invokestatic 74, 3) := by decide +kernel
theorem dX11_asks_13 : decode cX11_asks 13 = .ok (.ifCond .eq 12, 3) := by decide +kernel
theorem dX11_asks_16 : decode cX11_asks 16 = .ok (.iload_n 3, 1) := by decide +kernel
theorem dX11_asks_17 : decode cX11_asks 17 = .ok (.iconst 0, 1) := by decide +kernel
theorem dX11_asks_18 : decode cX11_asks 18 = .ok (.iconst 4, 1) := by decide +kernel
theorem dX11_asks_19 : decode cX11_asks 19 = .ok (.invokestatic 74, 3) := by decide +kernel
theorem dX11_asks_22 : decode cX11_asks 22 = .ok (.ifCond .ne 5, 3) := by decide +kernel
theorem dX11_asks_25 : decode cX11_asks 25 = .ok (.iconst (-1), 1) := by decide +kernel
theorem dX11_asks_26 : decode cX11_asks 26 = .ok (.ireturn, 1) := by decide +kernel
theorem dX11_asks_27 : decode cX11_asks 27 = .ok (.aload_n 0, 1) := by decide +kernel
theorem dX11_asks_28 : decode cX11_asks 28 = .ok (.getfield 30, 3) := by decide +kernel
theorem dX11_asks_31 : decode cX11_asks 31 = .ok (.iload_n 1, 1) := by decide +kernel
theorem dX11_asks_32 : decode cX11_asks 32 = .ok (.iload_n 2, 1) := by decide +kernel
theorem dX11_asks_33 : decode cX11_asks 33 = .ok (.invokevirtual 388, 3) := by decide +kernel
theorem dX11_asks_36 : decode cX11_asks 36 = .ok (.aload_n 0, 1) := by decide +kernel
theorem dX11_asks_37 : decode cX11_asks 37 = .ok (.getfield 30, 3) := by decide +kernel
theorem dX11_asks_40 : decode cX11_asks 40 = .ok (.getfield 377, 3) := by decide +kernel
theorem dX11_asks_43 : decode cX11_asks 43 = .ok (.getfield 392, 3) := by decide +kernel
theorem dX11_asks_46 : decode cX11_asks 46 = .ok (.iload_n 3, 1) := by decide +kernel
theorem dX11_asks_47 : decode cX11_asks 47 = .ok (.iaload, 1) := by decide +kernel
theorem dX11_asks_48 : decode cX11_asks 48 = .ok (.ireturn, 1) := by decide +kernel
theorem okX11_asks : ab_okM MX11_asks 3 := ⟨by decide, ⟨by decide, by decide⟩, ab_in 1345 (by decide +kernel) (by decide +kernel), ab_in 86 (by decide +kernel) (by decide +kernel), by decide +kernel, by decide⟩
set_option maxHeartbeats 4000000 in
set_option maxRecDepth 100000 in
def wX11_asks (v1 : Int32) (v2 : Int32) (v3 : Int32) (x : ab_X) (K : Int32 → ab_X → Prop) : Prop := wX11_isCorner v1 x (fun r1 => ((r1 = 0 → K (-1) x) ∧ (¬ r1 = 0 → wX11_within v2 1 3 x (fun r2 => ((r2 = 0 → K (-1) x) ∧ (¬ r2 = 0 → wX11_within v3 0 4 x (fun r3 => ((¬ r3 = 0 → wX0_readOrders v1 v2 x (fun x4 => (vp_in v3 5 ∧ K (x4.1 72 (Int32.toNatClampNeg v3)) x4))) ∧ (r3 = 0 → K (-1) x)))))))))
set_option maxHeartbeats 4000000 in
set_option maxRecDepth 100000 in
theorem sX11_asks (v1 : Int32) (v2 : Int32) (v3 : Int32)  (x : ab_X) (K : Int32 → ab_X → Prop) (d bc bs : Nat) (hdp : 4 ≤ d) (h : wX11_asks v1 v2 v3 x K) : EW MX11_asks 0 [(0, .ref 0), (1, .int v1), (2, .int v2), (3, .int v3)] [] (aS x) d bc bs (liI K) := by
  unfold wX11_asks at h
  refine EW_iload_n (pc2 := 1) rfl dX11_asks_0 1 rfl ?_
  refine AW_invS (M' := MX11_isCorner) [.int v1] (rest := []) mlRX11_70 okX11_isCorner (pc2 := 4) rfl dX11_asks_1 rfl rfl (Nat.le_of_ble_eq_true rfl) (Nat.le_of_ble_eq_true rfl) (d' := 0) (by omega) (EW_mono (fun _ _ hr => ?_) (sX11_isCorner v1  x _ _ 0 0 (Nat.le_refl _) h))
  obtain ⟨r1, rfl, rfl, h⟩ := hr
  refine EW_if_eq (tgt := 25) (pc2 := 7) rfl dX11_asks_4 (by decide) (fun q => ?_) (fun q => ?_)
  · replace h := h.1 q
    refine EW_iconst (pc2 := 26) (v := (-1)) rfl dX11_asks_25 (by decide) ?_
    exact AW_iret rfl dX11_asks_26 ⟨_, _, rfl, rfl, h⟩
  · replace h := h.2 q
    refine EW_iload_n (pc2 := 8) rfl dX11_asks_7 2 rfl ?_
    refine EW_iconst (pc2 := 9) (v := 1) rfl dX11_asks_8 (by decide) ?_
    refine EW_iconst (pc2 := 10) (v := 3) rfl dX11_asks_9 (by decide) ?_
    refine AW_invS (M' := MX11_within) [.int v2, .int 1, .int 3] (rest := []) mlRX11_74 okX11_within (pc2 := 13) rfl dX11_asks_10 rfl rfl (Nat.le_of_ble_eq_true rfl) (Nat.le_of_ble_eq_true rfl) (d' := 0) (by omega) (EW_mono (fun _ _ hr => ?_) (sX11_within v2 1 3  x _ _ 0 0 (Nat.le_refl _) h))
    obtain ⟨r2, rfl, rfl, h⟩ := hr
    refine EW_if_eq (tgt := 25) (pc2 := 16) rfl dX11_asks_13 (by decide) (fun q => ?_) (fun q => ?_)
    · replace h := h.1 q
      refine EW_iconst (pc2 := 26) (v := (-1)) rfl dX11_asks_25 (by decide) ?_
      exact AW_iret rfl dX11_asks_26 ⟨_, _, rfl, rfl, h⟩
    · replace h := h.2 q
      refine EW_iload_n (pc2 := 17) rfl dX11_asks_16 3 rfl ?_
      refine EW_iconst (pc2 := 18) (v := 0) rfl dX11_asks_17 (by decide) ?_
      refine EW_iconst (pc2 := 19) (v := 4) rfl dX11_asks_18 (by decide) ?_
      refine AW_invS (M' := MX11_within) [.int v3, .int 0, .int 4] (rest := []) mlRX11_74 okX11_within (pc2 := 22) rfl dX11_asks_19 rfl rfl (Nat.le_of_ble_eq_true rfl) (Nat.le_of_ble_eq_true rfl) (d' := 0) (by omega) (EW_mono (fun _ _ hr => ?_) (sX11_within v3 0 4  x _ _ 0 0 (Nat.le_refl _) h))
      obtain ⟨r3, rfl, rfl, h⟩ := hr
      refine EW_if_ne (tgt := 27) (pc2 := 25) rfl dX11_asks_22 (by decide) (fun q => ?_) (fun q => ?_)
      · replace h := h.1 q
        refine EW_aload_n (pc2 := 28) rfl dX11_asks_27 0 rfl ?_
        refine AW_getr (r := 66) ⟨gfRX11_30, rfl⟩ (pc2 := 31) rfl dX11_asks_28 q0 rfl ?_
        refine EW_iload_n (pc2 := 32) rfl dX11_asks_31 1 rfl ?_
        refine EW_iload_n (pc2 := 33) rfl dX11_asks_32 2 rfl ?_
        refine AW_invV (M' := MX0_readOrders) [.int v1, .int v2] (rest := []) mlRX11_388 okX0_readOrders (pc2 := 36) rfl dX11_asks_33 rfl rfl (Nat.le_of_ble_eq_true rfl) (Nat.le_of_ble_eq_true rfl) (d' := 3) (by omega) q66 ⟨by decide, rfl⟩ (EW_mono (fun _ _ hr => ?_) (sX0_readOrders v1 v2  x _ _ 0 0 (Nat.le_refl _) h))
        obtain ⟨x4, rfl, rfl, h⟩ := hr
        refine EW_aload_n (pc2 := 37) rfl dX11_asks_36 0 rfl ?_
        refine AW_getr (r := 66) ⟨gfRX11_30, rfl⟩ (pc2 := 40) rfl dX11_asks_37 q0 rfl ?_
        refine AW_getr (r := 69) ⟨gfRX11_377, rfl⟩ (pc2 := 43) rfl dX11_asks_40 q66 rfl ?_
        refine AW_getr (r := 72) ⟨gfRX11_392, rfl⟩ (pc2 := 46) rfl dX11_asks_43 q69 rfl ?_
        refine EW_iload_n (pc2 := 47) rfl dX11_asks_46 3 rfl ?_
        obtain ⟨b5, h⟩ := h
        refine AW_iald (pc2 := 48) rfl dX11_asks_47 q72 b5 ?_
        exact AW_iret rfl dX11_asks_48 ⟨_, _, rfl, rfl, h⟩
      · replace h := h.2 q
        refine EW_iconst (pc2 := 26) (v := (-1)) rfl dX11_asks_25 (by decide) ?_
        exact AW_iret rfl dX11_asks_26 ⟨_, _, rfl, rfl, h⟩
theorem gfRX11_21 : ab_L RX11 21 11 1 := ⟨by decide, by decide, ab_in 733 (by decide +kernel) (by decide +kernel)⟩
theorem mlRX11_124 : Cond.methodLink RX11 124 yX10_has ∈ ab_G ∧ Cond.instanceMethod yX10_has ∈ ab_G ∧ Cond.selects RX10 yX10_has yX10_has ∈ ab_G := ⟨ab_in 842 (by decide +kernel) (by decide +kernel), ab_in 834 (by decide +kernel) (by decide +kernel), ab_in 835 (by decide +kernel) (by decide +kernel)⟩
theorem gfRX11_127 : ab_L RX11 127 10 1 := ⟨by decide, by decide, ab_in 311 (by decide +kernel) (by decide +kernel)⟩
theorem gfRX11_131 : ab_L RX11 131 4 6 := ⟨by decide, by decide, ab_in 240 (by decide +kernel) (by decide +kernel)⟩
theorem gfRX11_135 : ab_L RX11 135 4 7 := ⟨by decide, by decide, ab_in 243 (by decide +kernel) (by decide +kernel)⟩
theorem gfRX11_138 : ab_L RX11 138 4 8 := ⟨by decide, by decide, ab_in 248 (by decide +kernel) (by decide +kernel)⟩
abbrev MX11_build : ab_M := (yX11_build, cX11_build, 6, (some .boolean))
theorem dX11_build_0 : decode cX11_build 0 = .ok (.aload_n 0, 1) := by decide +kernel
theorem dX11_build_1 : decode cX11_build 1 = .ok (.getfield 21, 3) := by decide +kernel
theorem dX11_build_4 : decode cX11_build 4 = .ok (.iload_n 1, 1) := by decide +kernel
theorem dX11_build_5 : decode cX11_build 5 = .ok (.invokevirtual 124, 3) := by decide +kernel
theorem dX11_build_8 : decode cX11_build 8 = .ok (.ifCond .eq 24, 3) := by decide +kernel
theorem dX11_build_11 : decode cX11_build 11 = .ok (.iload_n 3, 1) := by decide +kernel
theorem dX11_build_12 : decode cX11_build 12 = .ok (.iconst 0, 1) := by decide +kernel
theorem dX11_build_13 : decode cX11_build 13 = .ok (.iconst 3, 1) := by decide +kernel
theorem dX11_build_14 : decode cX11_build 14 = .ok (.invokestatic 74, 3) := by decide +kernel
theorem dX11_build_17 : decode cX11_build 17 = .ok (.ifCond .eq 15, 3) := by decide +kernel
theorem dX11_build_20 : decode cX11_build 20 = .ok (.iload 4, 2) := by decide +kernel
theorem dX11_build_22 : decode cX11_build 22 = .ok (.iconst 1, 1) := by decide +kernel
theorem dX11_build_23 : decode cX11_build 23 = .ok (.sipush 200, 3) := by decide +kernel
theorem dX11_build_26 : decode cX11_build 26 = .ok (.invokestatic 74, 3) := by decide +kernel
theorem dX11_build_29 : decode cX11_build 29 = .ok (.ifCond .ne 5, 3) := by decide +kernel
theorem dX11_build_32 : decode cX11_build 32 = .ok (.iconst 0, 1) := by decide +kernel
theorem dX11_build_33 : decode cX11_build 33 = .ok (.ireturn, 1) := by decide +kernel
theorem dX11_build_34 : decode cX11_build 34 = .ok (.aload_n 0, 1) := by decide +kernel
theorem dX11_build_35 : decode cX11_build 35 = .ok (.getfield 21, 3) := by decide +kernel
theorem dX11_build_38 : decode cX11_build 38 = .ok (.getfield 127, 3) := by decide +kernel
theorem dX11_build_41 : decode cX11_build 41 = .ok (.iload_n 1, 1) := by decide +kernel
theorem dX11_build_42 : decode cX11_build 42 = .ok (.aaload, 1) := by decide +kernel
theorem dX11_build_43 : decode cX11_build 43 = .ok (.astore 5, 2) := by decide +kernel
theorem dX11_build_45 : decode cX11_build 45 = .ok (.aload 5, 2) := by decide +kernel
theorem dX11_build_47 : decode cX11_build 47 = .ok (.iload_n 2, 1) := by decide +kernel
theorem dX11_build_48 : decode cX11_build 48 = .ok (.putfield 131, 3) := by decide +kernel
theorem dX11_build_51 : decode cX11_build 51 = .ok (.aload 5, 2) := by decide +kernel
theorem dX11_build_53 : decode cX11_build 53 = .ok (.iload_n 3, 1) := by decide +kernel
theorem dX11_build_54 : decode cX11_build 54 = .ok (.putfield 135, 3) := by decide +kernel
theorem dX11_build_57 : decode cX11_build 57 = .ok (.aload 5, 2) := by decide +kernel
theorem dX11_build_59 : decode cX11_build 59 = .ok (.iload 4, 2) := by decide +kernel
theorem dX11_build_61 : decode cX11_build 61 = .ok (.putfield 138, 3) := by decide +kernel
theorem dX11_build_64 : decode cX11_build 64 = .ok (.iconst 1, 1) := by decide +kernel
theorem dX11_build_65 : decode cX11_build 65 = .ok (.ireturn, 1) := by decide +kernel
theorem okX11_build : ab_okM MX11_build 4 := ⟨by decide, ⟨by decide, by decide⟩, ab_in 841 (by decide +kernel) (by decide +kernel), ab_in 86 (by decide +kernel) (by decide +kernel), by decide +kernel, by decide⟩
set_option maxHeartbeats 4000000 in
set_option maxRecDepth 100000 in
def wX11_build (v1 : Int32) (v2 : Int32) (v3 : Int32) (v4 : Int32) (x : ab_X) (K : Int32 → ab_X → Prop) : Prop := wX10_has v1 x (fun r1 => ((r1 = 0 → K 0 x) ∧ (¬ r1 = 0 → wX11_within v3 0 3 x (fun r2 => ((r2 = 0 → K 0 x) ∧ (¬ r2 = 0 → wX11_within v4 1 200 x (fun r3 => ((¬ r3 = 0 → (vp_in v1 12 ∧ isB v2 ∧ K 1 (wr (wr (wr x (30 + 3 * Int32.toNatClampNeg v1) 6 v2) (30 + 3 * Int32.toNatClampNeg v1) 7 v3) (30 + 3 * Int32.toNatClampNeg v1) 8 v4))) ∧ (r3 = 0 → K 0 x)))))))))
set_option maxHeartbeats 4000000 in
set_option maxRecDepth 100000 in
theorem sX11_build (v1 : Int32) (v2 : Int32) (v3 : Int32) (v4 : Int32)  (x : ab_X) (K : Int32 → ab_X → Prop) (d bc bs : Nat) (hdp : 2 ≤ d) (h : wX11_build v1 v2 v3 v4 x K) : EW MX11_build 0 [(0, .ref 0), (1, .int v1), (2, .int v2), (3, .int v3), (4, .int v4)] [] (aS x) d bc bs (liI K) := by
  unfold wX11_build at h
  refine EW_aload_n (pc2 := 1) rfl dX11_build_0 0 rfl ?_
  refine AW_getr (r := 9) ⟨gfRX11_21, rfl⟩ (pc2 := 4) rfl dX11_build_1 q0 rfl ?_
  refine EW_iload_n (pc2 := 5) rfl dX11_build_4 1 rfl ?_
  refine AW_invV (M' := MX10_has) [.int v1] (rest := []) mlRX11_124 okX10_has (pc2 := 8) rfl dX11_build_5 rfl rfl (Nat.le_of_ble_eq_true rfl) (Nat.le_of_ble_eq_true rfl) (d' := 1) (by omega) q9 ⟨by decide, rfl⟩ (EW_mono (fun _ _ hr => ?_) (sX10_has v1  x _ _ 0 0 (Nat.le_refl _) h))
  obtain ⟨r1, rfl, rfl, h⟩ := hr
  refine EW_if_eq (tgt := 32) (pc2 := 11) rfl dX11_build_8 (by decide) (fun q => ?_) (fun q => ?_)
  · replace h := h.1 q
    refine EW_iconst (pc2 := 33) (v := 0) rfl dX11_build_32 (by decide) ?_
    exact AW_zret rfl isB0 dX11_build_33 ⟨_, _, rfl, rfl, h⟩
  · replace h := h.2 q
    refine EW_iload_n (pc2 := 12) rfl dX11_build_11 3 rfl ?_
    refine EW_iconst (pc2 := 13) (v := 0) rfl dX11_build_12 (by decide) ?_
    refine EW_iconst (pc2 := 14) (v := 3) rfl dX11_build_13 (by decide) ?_
    refine AW_invS (M' := MX11_within) [.int v3, .int 0, .int 3] (rest := []) mlRX11_74 okX11_within (pc2 := 17) rfl dX11_build_14 rfl rfl (Nat.le_of_ble_eq_true rfl) (Nat.le_of_ble_eq_true rfl) (d' := 0) (by omega) (EW_mono (fun _ _ hr => ?_) (sX11_within v3 0 3  x _ _ 0 0 (Nat.le_refl _) h))
    obtain ⟨r2, rfl, rfl, h⟩ := hr
    refine EW_if_eq (tgt := 32) (pc2 := 20) rfl dX11_build_17 (by decide) (fun q => ?_) (fun q => ?_)
    · replace h := h.1 q
      refine EW_iconst (pc2 := 33) (v := 0) rfl dX11_build_32 (by decide) ?_
      exact AW_zret rfl isB0 dX11_build_33 ⟨_, _, rfl, rfl, h⟩
    · replace h := h.2 q
      refine EW_iload (pc2 := 22) rfl dX11_build_20 4 rfl ?_
      refine EW_iconst (pc2 := 23) (v := 1) rfl dX11_build_22 (by decide) ?_
      refine EW_sipush (pc2 := 26) (v := 200) rfl dX11_build_23 (by decide) ?_
      refine AW_invS (M' := MX11_within) [.int v4, .int 1, .int 200] (rest := []) mlRX11_74 okX11_within (pc2 := 29) rfl dX11_build_26 rfl rfl (Nat.le_of_ble_eq_true rfl) (Nat.le_of_ble_eq_true rfl) (d' := 0) (by omega) (EW_mono (fun _ _ hr => ?_) (sX11_within v4 1 200  x _ _ 0 0 (Nat.le_refl _) h))
      obtain ⟨r3, rfl, rfl, h⟩ := hr
      refine EW_if_ne (tgt := 34) (pc2 := 32) rfl dX11_build_29 (by decide) (fun q => ?_) (fun q => ?_)
      · replace h := h.1 q
        refine EW_aload_n (pc2 := 35) rfl dX11_build_34 0 rfl ?_
        refine AW_getr (r := 9) ⟨gfRX11_21, rfl⟩ (pc2 := 38) rfl dX11_build_35 q0 rfl ?_
        refine AW_getr (r := 10) ⟨gfRX11_127, rfl⟩ (pc2 := 41) rfl dX11_build_38 q9 rfl ?_
        refine EW_iload_n (pc2 := 42) rfl dX11_build_41 1 rfl ?_
        obtain ⟨b4, h⟩ := h
        refine AW_aald5 (pc2 := 43) rfl dX11_build_42 b4 ?_
        refine EW_astore (pc2 := 45) rfl dX11_build_43 (by decide) [1, 2, 3, 4, 5, 0] [(0, .ref 0), (1, .int v1), (2, .int v2), (3, .int v3), (4, .int v4), (5, .ref (30 + 3 * Int32.toNatClampNeg v1))] rfl ?_
        refine EW_aload (pc2 := 47) rfl dX11_build_45 5 rfl ?_
        refine EW_iload_n (pc2 := 48) rfl dX11_build_47 2 rfl ?_
        obtain ⟨z5, h⟩ := h
        refine AW_putz ⟨gfRX11_131, rfl, rfl⟩ z5 (pc2 := 51) rfl dX11_build_48 (isH.o (isH_of b4)) ?_
        refine EW_aload (pc2 := 53) rfl dX11_build_51 5 rfl ?_
        refine EW_iload_n (pc2 := 54) rfl dX11_build_53 3 rfl ?_
        refine AW_puti ⟨gfRX11_135, rfl, rfl⟩ (pc2 := 57) rfl dX11_build_54 (isH.o (isH_of b4)) ?_
        refine EW_aload (pc2 := 59) rfl dX11_build_57 5 rfl ?_
        refine EW_iload (pc2 := 61) rfl dX11_build_59 4 rfl ?_
        refine AW_puti ⟨gfRX11_138, rfl, rfl⟩ (pc2 := 64) rfl dX11_build_61 (isH.o (isH_of b4)) ?_
        refine EW_iconst (pc2 := 65) (v := 1) rfl dX11_build_64 (by decide) ?_
        exact AW_zret rfl isB1 dX11_build_65 ⟨_, _, rfl, rfl, h⟩
      · replace h := h.2 q
        refine EW_iconst (pc2 := 33) (v := 0) rfl dX11_build_32 (by decide) ?_
        exact AW_zret rfl isB0 dX11_build_33 ⟨_, _, rfl, rfl, h⟩
theorem mlRX11_324 : Cond.methodLink RX11 324 yX0_answer ∈ ab_G ∧ Cond.instanceMethod yX0_answer ∈ ab_G ∧ Cond.selects RX0 yX0_answer yX0_answer ∈ ab_G := ⟨ab_in 1043 (by decide +kernel) (by decide +kernel), ab_in 1044 (by decide +kernel) (by decide +kernel), ab_in 1045 (by decide +kernel) (by decide +kernel)⟩
abbrev MX11_call : ab_M := (yX11_call, cX11_call, 2, (some .int))
theorem dX11_call_0 : decode cX11_call 0 = .ok (.iload_n 1, 1) := by decide +kernel
theorem dX11_call_1 : decode cX11_call 1 = .ok (.invokestatic 70, 3) := by decide +kernel
theorem dX11_call_4 : decode cX11_call 4 = .ok (.ifCond .eq 14, 3) := by decide +kernel
theorem dX11_call_7 : decode cX11_call 7 = .ok (.aload_n 0, 1) := by decide +kernel
theorem dX11_call_8 : decode cX11_call 8 = .ok (.getfield 30, 3) := by decide +kernel
theorem dX11_call_11 : decode cX11_call 11 = .ok (.iload_n 1, 1) := by decide +kernel
theorem dX11_call_12 : decode cX11_call 12 = .ok (.invokevirtual 324, 3) := by decide +kernel
theorem dX11_call_15 : decode cX11_call 15 = .ok (.goto 4, 3) := by decide +kernel
theorem dX11_call_18 : decode cX11_call 18 = .ok (.iconst (-1), 1) := by decide +kernel
theorem dX11_call_19 : decode cX11_call 19 = .ok (.ireturn, 1) := by decide +kernel
theorem okX11_call : ab_okM MX11_call 1 := ⟨by decide, ⟨by decide, by decide⟩, ab_in 1042 (by decide +kernel) (by decide +kernel), ab_in 86 (by decide +kernel) (by decide +kernel), by decide +kernel, by decide⟩
set_option maxHeartbeats 4000000 in
set_option maxRecDepth 100000 in
def wX11_call (v1 : Int32) (x : ab_X) (K : Int32 → ab_X → Prop) : Prop := wX11_isCorner v1 x (fun r1 => ((r1 = 0 → K (-1) x) ∧ (¬ r1 = 0 → wX0_answer v1 x (fun r2 x3 => K r2 x3))))
set_option maxHeartbeats 4000000 in
set_option maxRecDepth 100000 in
theorem sX11_call (v1 : Int32)  (x : ab_X) (K : Int32 → ab_X → Prop) (d bc bs : Nat) (hdp : 6 ≤ d) (h : wX11_call v1 x K) : EW MX11_call 0 [(0, .ref 0), (1, .int v1)] [] (aS x) d bc bs (liI K) := by
  unfold wX11_call at h
  refine EW_iload_n (pc2 := 1) rfl dX11_call_0 1 rfl ?_
  refine AW_invS (M' := MX11_isCorner) [.int v1] (rest := []) mlRX11_70 okX11_isCorner (pc2 := 4) rfl dX11_call_1 rfl rfl (Nat.le_of_ble_eq_true rfl) (Nat.le_of_ble_eq_true rfl) (d' := 0) (by omega) (EW_mono (fun _ _ hr => ?_) (sX11_isCorner v1  x _ _ 0 0 (Nat.le_refl _) h))
  obtain ⟨r1, rfl, rfl, h⟩ := hr
  refine EW_if_eq (tgt := 18) (pc2 := 7) rfl dX11_call_4 (by decide) (fun q => ?_) (fun q => ?_)
  · replace h := h.1 q
    refine EW_iconst (pc2 := 19) (v := (-1)) rfl dX11_call_18 (by decide) ?_
    exact AW_iret rfl dX11_call_19 ⟨_, _, rfl, rfl, h⟩
  · replace h := h.2 q
    refine EW_aload_n (pc2 := 8) rfl dX11_call_7 0 rfl ?_
    refine AW_getr (r := 66) ⟨gfRX11_30, rfl⟩ (pc2 := 11) rfl dX11_call_8 q0 rfl ?_
    refine EW_iload_n (pc2 := 12) rfl dX11_call_11 1 rfl ?_
    refine AW_invV (M' := MX0_answer) [.int v1] (rest := []) mlRX11_324 okX0_answer (pc2 := 15) rfl dX11_call_12 rfl rfl (Nat.le_of_ble_eq_true rfl) (Nat.le_of_ble_eq_true rfl) (d' := 5) (by omega) q66 ⟨by decide, rfl⟩ (EW_mono (fun _ _ hr => ?_) (sX0_answer v1  x _ _ 0 0 (Nat.le_refl _) h))
    obtain ⟨r2, x3, rfl, rfl, h⟩ := hr
    refine EW_goto (tgt := 19) dX11_call_15 (by decide) ?_
    exact AW_iret rfl dX11_call_19 ⟨_, _, rfl, rfl, h⟩
theorem gfRX11_327 : ab_L RX11 327 0 5 := ⟨by decide, by decide, ab_in 554 (by decide +kernel) (by decide +kernel)⟩
theorem mlRX11_86 : Cond.methodLink RX11 86 yX11_below ∈ ab_G ∧ Cond.static yX11_below ∈ ab_G := ⟨ab_in 793 (by decide +kernel) (by decide +kernel), ab_in 794 (by decide +kernel) (by decide +kernel)⟩
theorem gfRX11_330 : ab_L RX11 330 0 4 := ⟨by decide, by decide, ab_in 551 (by decide +kernel) (by decide +kernel)⟩
theorem gfRX11_334 : ab_L RX11 334 1 0 := ⟨by decide, by decide, ab_in 507 (by decide +kernel) (by decide +kernel)⟩
theorem gfRX11_337 : ab_L RX11 337 1 1 := ⟨by decide, by decide, ab_in 509 (by decide +kernel) (by decide +kernel)⟩
theorem gfRX11_340 : ab_L RX11 340 1 2 := ⟨by decide, by decide, ab_in 512 (by decide +kernel) (by decide +kernel)⟩
theorem gfRX11_341 : ab_L RX11 341 1 3 := ⟨by decide, by decide, ab_in 514 (by decide +kernel) (by decide +kernel)⟩
theorem gfRX11_344 : ab_L RX11 344 1 4 := ⟨by decide, by decide, ab_in 516 (by decide +kernel) (by decide +kernel)⟩
theorem gfRX11_347 : ab_L RX11 347 1 5 := ⟨by decide, by decide, ab_in 518 (by decide +kernel) (by decide +kernel)⟩
theorem gfRX11_350 : ab_L RX11 350 1 6 := ⟨by decide, by decide, ab_in 520 (by decide +kernel) (by decide +kernel)⟩
theorem gfRX11_353 : ab_L RX11 353 1 7 := ⟨by decide, by decide, ab_in 522 (by decide +kernel) (by decide +kernel)⟩
abbrev MX11_called : ab_M := (yX11_called, cX11_called, 4, (some .int))
theorem dX11_called_0 : decode cX11_called 0 = .ok (.iload_n 1, 1) := by decide +kernel
theorem dX11_called_1 : decode cX11_called 1 = .ok (.aload_n 0, 1) := by decide +kernel
theorem dX11_called_2 : decode cX11_called 2 = .ok (.getfield 30, 3) := by decide +kernel
theorem dX11_called_5 : decode cX11_called 5 = .ok (.getfield 327, 3) := by decide +kernel
theorem dX11_called_8 : decode cX11_called 8 = .ok (.invokestatic 86, 3) := by decide +kernel
theorem dX11_called_11 : decode cX11_called 11 = .ok (.ifCond .ne 5, 3) := by decide +kernel
theorem dX11_called_14 : decode cX11_called 14 = .ok (.iconst (-1), 1) := by decide +kernel
theorem dX11_called_15 : decode cX11_called 15 = .ok (.ireturn, 1) := by decide +kernel
theorem dX11_called_16 : decode cX11_called 16 = .ok (.aload_n 0, 1) := by decide +kernel
theorem dX11_called_17 : decode cX11_called 17 = .ok (.getfield 30, 3) := by decide +kernel
theorem dX11_called_20 : decode cX11_called 20 = .ok (.getfield 330, 3) := by decide +kernel
theorem dX11_called_23 : decode cX11_called 23 = .ok (.iload_n 1, 1) := by decide +kernel
theorem dX11_called_24 : decode cX11_called 24 = .ok (.aaload, 1) := by decide +kernel
theorem dX11_called_25 : decode cX11_called 25 = .ok (.astore_n 3, 1) := by decide +kernel
theorem dX11_called_26 : decode cX11_called 26 = .ok (.iload_n 2, 1) := by decide +kernel
theorem dX11_called_27 : decode cX11_called 27 = .ok (.tableswitch 85 0 7 #[45, 50, 55, 60, 65, 70, 75, 80], 45) := by decide +kernel
theorem dX11_called_72 : decode cX11_called 72 = .ok (.aload_n 3, 1) := by decide +kernel
theorem dX11_called_73 : decode cX11_called 73 = .ok (.getfield 334, 3) := by decide +kernel
theorem dX11_called_76 : decode cX11_called 76 = .ok (.ireturn, 1) := by decide +kernel
theorem dX11_called_77 : decode cX11_called 77 = .ok (.aload_n 3, 1) := by decide +kernel
theorem dX11_called_78 : decode cX11_called 78 = .ok (.getfield 337, 3) := by decide +kernel
theorem dX11_called_81 : decode cX11_called 81 = .ok (.ireturn, 1) := by decide +kernel
theorem dX11_called_82 : decode cX11_called 82 = .ok (.aload_n 3, 1) := by decide +kernel
theorem dX11_called_83 : decode cX11_called 83 = .ok (.getfield 340, 3) := by decide +kernel
theorem dX11_called_86 : decode cX11_called 86 = .ok (.ireturn, 1) := by decide +kernel
theorem dX11_called_87 : decode cX11_called 87 = .ok (.aload_n 3, 1) := by decide +kernel
theorem dX11_called_88 : decode cX11_called 88 = .ok (.getfield 341, 3) := by decide +kernel
theorem dX11_called_91 : decode cX11_called 91 = .ok (.ireturn, 1) := by decide +kernel
theorem dX11_called_92 : decode cX11_called 92 = .ok (.aload_n 3, 1) := by decide +kernel
theorem dX11_called_93 : decode cX11_called 93 = .ok (.getfield 344, 3) := by decide +kernel
theorem dX11_called_96 : decode cX11_called 96 = .ok (.ireturn, 1) := by decide +kernel
theorem dX11_called_97 : decode cX11_called 97 = .ok (.aload_n 3, 1) := by decide +kernel
theorem dX11_called_98 : decode cX11_called 98 = .ok (.getfield 347, 3) := by decide +kernel
theorem dX11_called_101 : decode cX11_called 101 = .ok (.ireturn, 1) := by decide +kernel
theorem dX11_called_102 : decode cX11_called 102 = .ok (.aload_n 3, 1) := by decide +kernel
theorem dX11_called_103 : decode cX11_called 103 = .ok (.getfield 350, 3) := by decide +kernel
theorem dX11_called_106 : decode cX11_called 106 = .ok (.ireturn, 1) := by decide +kernel
theorem dX11_called_107 : decode cX11_called 107 = .ok (.aload_n 3, 1) := by decide +kernel
theorem dX11_called_108 : decode cX11_called 108 = .ok (.getfield 353, 3) := by decide +kernel
theorem dX11_called_111 : decode cX11_called 111 = .ok (.ireturn, 1) := by decide +kernel
theorem dX11_called_112 : decode cX11_called 112 = .ok (.iconst (-1), 1) := by decide +kernel
theorem dX11_called_113 : decode cX11_called 113 = .ok (.ireturn, 1) := by decide +kernel
theorem okX11_called : ab_okM MX11_called 2 := ⟨by decide, ⟨by decide, by decide⟩, ab_in 1146 (by decide +kernel) (by decide +kernel), ab_in 86 (by decide +kernel) (by decide +kernel), by decide +kernel, by decide⟩
set_option maxHeartbeats 4000000 in
set_option maxRecDepth 100000 in
def wX11_called (v1 : Int32) (v2 : Int32) (x : ab_X) (K : Int32 → Prop) : Prop := wX11_below v1 (x.1 66 5) x (fun r1 => ((¬ r1 = 0 → (vp_in v1 60 ∧ (((v2.toInt < 0 ∨ 7 < v2.toInt) → K (-1)) ∧ (v2 = 0 → K (x.1 (98 + Int32.toNatClampNeg v1) 0)) ∧ (v2 = 1 → K (x.1 (98 + Int32.toNatClampNeg v1) 1)) ∧ (v2 = 2 → K (x.1 (98 + Int32.toNatClampNeg v1) 2)) ∧ (v2 = 3 → K (x.1 (98 + Int32.toNatClampNeg v1) 3)) ∧ (v2 = 4 → K (x.1 (98 + Int32.toNatClampNeg v1) 4)) ∧ (v2 = 5 → K (x.1 (98 + Int32.toNatClampNeg v1) 5)) ∧ (v2 = 6 → K (x.1 (98 + Int32.toNatClampNeg v1) 6)) ∧ (v2 = 7 → K (x.1 (98 + Int32.toNatClampNeg v1) 7))))) ∧ (r1 = 0 → K (-1))))
set_option maxHeartbeats 4000000 in
set_option maxRecDepth 100000 in
theorem sX11_called (v1 : Int32) (v2 : Int32)  (x : ab_X) (K : Int32 → Prop) (d bc bs : Nat) (hdp : 1 ≤ d) (h : wX11_called v1 v2 x K) : EW MX11_called 0 [(0, .ref 0), (1, .int v1), (2, .int v2)] [] (aS x) d bc bs (liP x K) := by
  unfold wX11_called at h
  refine EW_iload_n (pc2 := 1) rfl dX11_called_0 1 rfl ?_
  refine EW_aload_n (pc2 := 2) rfl dX11_called_1 0 rfl ?_
  refine AW_getr (r := 66) ⟨gfRX11_30, rfl⟩ (pc2 := 5) rfl dX11_called_2 q0 rfl ?_
  refine AW_geti ⟨gfRX11_327, rfl⟩ (pc2 := 8) rfl dX11_called_5 q66 ?_
  refine AW_invS (M' := MX11_below) [.int v1, .int (x.1 66 5)] (rest := []) mlRX11_86 okX11_below (pc2 := 11) rfl dX11_called_8 rfl rfl (Nat.le_of_ble_eq_true rfl) (Nat.le_of_ble_eq_true rfl) (d' := 0) (by omega) (EW_mono (fun _ _ hr => ?_) (sX11_below v1 (x.1 66 5)  x _ _ 0 0 (Nat.le_refl _) h))
  obtain ⟨r1, rfl, rfl, h⟩ := hr
  refine EW_if_ne (tgt := 16) (pc2 := 14) rfl dX11_called_11 (by decide) (fun q => ?_) (fun q => ?_)
  · replace h := h.1 q
    refine EW_aload_n (pc2 := 17) rfl dX11_called_16 0 rfl ?_
    refine AW_getr (r := 66) ⟨gfRX11_30, rfl⟩ (pc2 := 20) rfl dX11_called_17 q0 rfl ?_
    refine AW_getr (r := 68) ⟨gfRX11_330, rfl⟩ (pc2 := 23) rfl dX11_called_20 q66 rfl ?_
    refine EW_iload_n (pc2 := 24) rfl dX11_called_23 1 rfl ?_
    obtain ⟨b2, h⟩ := h
    refine AW_aald7 (pc2 := 25) rfl dX11_called_24 b2 ?_
    refine EW_astore_n (pc2 := 26) rfl dX11_called_25 (by decide) [1, 2, 3, 0] [(0, .ref 0), (1, .int v1), (2, .int v2), (3, .ref (98 + Int32.toNatClampNeg v1))] rfl ?_
    refine EW_iload_n (pc2 := 27) rfl dX11_called_26 2 rfl ?_
    by_cases qo : Int32.toInt v2 < 0 ∨ 7 < Int32.toInt v2
    · replace h := h.1 qo
      refine EW_tabOut (tgt := 112) dX11_called_27 qo (by decide) ?_
      refine EW_iconst (pc2 := 113) (v := (-1)) rfl dX11_called_112 (by decide) ?_
      exact AW_iret rfl dX11_called_113 ⟨_, rfl, rfl, h⟩
    · obtain ⟨kk, hkk, qk⟩ := sw_in 0 7 (by decide) qo
      match kk, hkk, qk with
      | 0, _, qk =>
        replace h := h.2.1 qk
        refine EW_tabIn (off := 45) (tgt := 72) dX11_called_27 (by rw [qk]; decide) (by rw [qk]; decide) (by rw [qk]; decide) (by decide) ?_
        refine EW_aload_n (pc2 := 73) rfl dX11_called_72 3 rfl ?_
        refine AW_geti ⟨gfRX11_334, rfl⟩ (pc2 := 76) rfl dX11_called_73 (isK.o (isK_of b2)) ?_
        exact AW_iret rfl dX11_called_76 ⟨_, rfl, rfl, h⟩
      | 1, _, qk =>
        replace h := h.2.2.1 qk
        refine EW_tabIn (off := 50) (tgt := 77) dX11_called_27 (by rw [qk]; decide) (by rw [qk]; decide) (by rw [qk]; decide) (by decide) ?_
        refine EW_aload_n (pc2 := 78) rfl dX11_called_77 3 rfl ?_
        refine AW_geti ⟨gfRX11_337, rfl⟩ (pc2 := 81) rfl dX11_called_78 (isK.o (isK_of b2)) ?_
        exact AW_iret rfl dX11_called_81 ⟨_, rfl, rfl, h⟩
      | 2, _, qk =>
        replace h := h.2.2.2.1 qk
        refine EW_tabIn (off := 55) (tgt := 82) dX11_called_27 (by rw [qk]; decide) (by rw [qk]; decide) (by rw [qk]; decide) (by decide) ?_
        refine EW_aload_n (pc2 := 83) rfl dX11_called_82 3 rfl ?_
        refine AW_geti ⟨gfRX11_340, rfl⟩ (pc2 := 86) rfl dX11_called_83 (isK.o (isK_of b2)) ?_
        exact AW_iret rfl dX11_called_86 ⟨_, rfl, rfl, h⟩
      | 3, _, qk =>
        replace h := h.2.2.2.2.1 qk
        refine EW_tabIn (off := 60) (tgt := 87) dX11_called_27 (by rw [qk]; decide) (by rw [qk]; decide) (by rw [qk]; decide) (by decide) ?_
        refine EW_aload_n (pc2 := 88) rfl dX11_called_87 3 rfl ?_
        refine AW_geti ⟨gfRX11_341, rfl⟩ (pc2 := 91) rfl dX11_called_88 (isK.o (isK_of b2)) ?_
        exact AW_iret rfl dX11_called_91 ⟨_, rfl, rfl, h⟩
      | 4, _, qk =>
        replace h := h.2.2.2.2.2.1 qk
        refine EW_tabIn (off := 65) (tgt := 92) dX11_called_27 (by rw [qk]; decide) (by rw [qk]; decide) (by rw [qk]; decide) (by decide) ?_
        refine EW_aload_n (pc2 := 93) rfl dX11_called_92 3 rfl ?_
        refine AW_geti ⟨gfRX11_344, rfl⟩ (pc2 := 96) rfl dX11_called_93 (isK.o (isK_of b2)) ?_
        exact AW_iret rfl dX11_called_96 ⟨_, rfl, rfl, h⟩
      | 5, _, qk =>
        replace h := h.2.2.2.2.2.2.1 qk
        refine EW_tabIn (off := 70) (tgt := 97) dX11_called_27 (by rw [qk]; decide) (by rw [qk]; decide) (by rw [qk]; decide) (by decide) ?_
        refine EW_aload_n (pc2 := 98) rfl dX11_called_97 3 rfl ?_
        refine AW_geti ⟨gfRX11_347, rfl⟩ (pc2 := 101) rfl dX11_called_98 (isK.o (isK_of b2)) ?_
        exact AW_iret rfl dX11_called_101 ⟨_, rfl, rfl, h⟩
      | 6, _, qk =>
        replace h := h.2.2.2.2.2.2.2.1 qk
        refine EW_tabIn (off := 75) (tgt := 102) dX11_called_27 (by rw [qk]; decide) (by rw [qk]; decide) (by rw [qk]; decide) (by decide) ?_
        refine EW_aload_n (pc2 := 103) rfl dX11_called_102 3 rfl ?_
        refine AW_geti ⟨gfRX11_350, rfl⟩ (pc2 := 106) rfl dX11_called_103 (isK.o (isK_of b2)) ?_
        exact AW_iret rfl dX11_called_106 ⟨_, rfl, rfl, h⟩
      | 7, _, qk =>
        replace h := h.2.2.2.2.2.2.2.2 qk
        refine EW_tabIn (off := 80) (tgt := 107) dX11_called_27 (by rw [qk]; decide) (by rw [qk]; decide) (by rw [qk]; decide) (by decide) ?_
        refine EW_aload_n (pc2 := 108) rfl dX11_called_107 3 rfl ?_
        refine AW_geti ⟨gfRX11_353, rfl⟩ (pc2 := 111) rfl dX11_called_108 (isK.o (isK_of b2)) ?_
        exact AW_iret rfl dX11_called_111 ⟨_, rfl, rfl, h⟩
      | n9 + 8, hkk, _ => exact absurd hkk (by omega)
  · replace h := h.2 q
    refine EW_iconst (pc2 := 15) (v := (-1)) rfl dX11_called_14 (by decide) ?_
    exact AW_iret rfl dX11_called_15 ⟨_, rfl, rfl, h⟩
theorem gfRX11_464 : ab_L RX11 464 11 9 := ⟨by decide, by decide, ab_in 741 (by decide +kernel) (by decide +kernel)⟩
theorem gfRX11_63 : ab_L RX11 63 11 7 := ⟨by decide, by decide, ab_in 739 (by decide +kernel) (by decide +kernel)⟩
abbrev MX11_hasRow : ab_M := (yX11_hasRow, cX11_hasRow, 2, (some .boolean))
theorem dX11_hasRow_0 : decode cX11_hasRow 0 = .ok (.iload_n 1, 1) := by decide +kernel
theorem dX11_hasRow_1 : decode cX11_hasRow 1 = .ok (.aload_n 0, 1) := by decide +kernel
theorem dX11_hasRow_2 : decode cX11_hasRow 2 = .ok (.getfield 464, 3) := by decide +kernel
theorem dX11_hasRow_5 : decode cX11_hasRow 5 = .ok (.invokestatic 86, 3) := by decide +kernel
theorem dX11_hasRow_8 : decode cX11_hasRow 8 = .ok (.ifCond .eq 16, 3) := by decide +kernel
theorem dX11_hasRow_11 : decode cX11_hasRow 11 = .ok (.aload_n 0, 1) := by decide +kernel
theorem dX11_hasRow_12 : decode cX11_hasRow 12 = .ok (.getfield 63, 3) := by decide +kernel
theorem dX11_hasRow_15 : decode cX11_hasRow 15 = .ok (.iload_n 1, 1) := by decide +kernel
theorem dX11_hasRow_16 : decode cX11_hasRow 16 = .ok (.baload, 1) := by decide +kernel
theorem dX11_hasRow_17 : decode cX11_hasRow 17 = .ok (.ifCond .ne 7, 3) := by decide +kernel
theorem dX11_hasRow_20 : decode cX11_hasRow 20 = .ok (.iconst 1, 1) := by decide +kernel
theorem dX11_hasRow_21 : decode cX11_hasRow 21 = .ok (.goto 4, 3) := by decide +kernel
theorem dX11_hasRow_24 : decode cX11_hasRow 24 = .ok (.iconst 0, 1) := by decide +kernel
theorem dX11_hasRow_25 : decode cX11_hasRow 25 = .ok (.ireturn, 1) := by decide +kernel
theorem okX11_hasRow : ab_okM MX11_hasRow 1 := ⟨by decide, ⟨by decide, by decide⟩, ab_in 1695 (by decide +kernel) (by decide +kernel), ab_in 86 (by decide +kernel) (by decide +kernel), by decide +kernel, by decide⟩
set_option maxHeartbeats 4000000 in
set_option maxRecDepth 100000 in
def wX11_hasRow (v1 : Int32) (x : ab_X) (K : Int32 → Prop) : Prop := wX11_below v1 (x.1 0 9) x (fun r1 => ((r1 = 0 → K 0) ∧ (¬ r1 = 0 → (vp_in v1 6 ∧ ((¬ (x.1 244 (Int32.toNatClampNeg v1)) = 0 → K 0) ∧ ((x.1 244 (Int32.toNatClampNeg v1)) = 0 → K 1))))))
set_option maxHeartbeats 4000000 in
set_option maxRecDepth 100000 in
theorem sX11_hasRow (v1 : Int32)  (x : ab_X) (K : Int32 → Prop) (d bc bs : Nat) (hdp : 1 ≤ d) (h : wX11_hasRow v1 x K) : EW MX11_hasRow 0 [(0, .ref 0), (1, .int v1)] [] (aS x) d bc bs (liP x K) := by
  unfold wX11_hasRow at h
  refine EW_iload_n (pc2 := 1) rfl dX11_hasRow_0 1 rfl ?_
  refine EW_aload_n (pc2 := 2) rfl dX11_hasRow_1 0 rfl ?_
  refine AW_geti ⟨gfRX11_464, rfl⟩ (pc2 := 5) rfl dX11_hasRow_2 q0 ?_
  refine AW_invS (M' := MX11_below) [.int v1, .int (x.1 0 9)] (rest := []) mlRX11_86 okX11_below (pc2 := 8) rfl dX11_hasRow_5 rfl rfl (Nat.le_of_ble_eq_true rfl) (Nat.le_of_ble_eq_true rfl) (d' := 0) (by omega) (EW_mono (fun _ _ hr => ?_) (sX11_below v1 (x.1 0 9)  x _ _ 0 0 (Nat.le_refl _) h))
  obtain ⟨r1, rfl, rfl, h⟩ := hr
  refine EW_if_eq (tgt := 24) (pc2 := 11) rfl dX11_hasRow_8 (by decide) (fun q => ?_) (fun q => ?_)
  · replace h := h.1 q
    refine EW_iconst (pc2 := 25) (v := 0) rfl dX11_hasRow_24 (by decide) ?_
    exact AW_zret rfl isB0 dX11_hasRow_25 ⟨_, rfl, rfl, h⟩
  · replace h := h.2 q
    refine EW_aload_n (pc2 := 12) rfl dX11_hasRow_11 0 rfl ?_
    refine AW_getr (r := 244) ⟨gfRX11_63, rfl⟩ (pc2 := 15) rfl dX11_hasRow_12 q0 rfl ?_
    refine EW_iload_n (pc2 := 16) rfl dX11_hasRow_15 1 rfl ?_
    obtain ⟨b2, h⟩ := h
    refine AW_zald (pc2 := 17) rfl dX11_hasRow_16 q244 b2 ?_
    refine EW_if_ne (tgt := 24) (pc2 := 20) rfl dX11_hasRow_17 (by decide) (fun q => ?_) (fun q => ?_)
    · replace h := h.1 q
      refine EW_iconst (pc2 := 25) (v := 0) rfl dX11_hasRow_24 (by decide) ?_
      exact AW_zret rfl isB0 dX11_hasRow_25 ⟨_, rfl, rfl, h⟩
    · replace h := h.2 q
      refine EW_iconst (pc2 := 21) (v := 1) rfl dX11_hasRow_20 (by decide) ?_
      refine EW_goto (tgt := 25) dX11_hasRow_21 (by decide) ?_
      exact AW_zret rfl isB1 dX11_hasRow_25 ⟨_, rfl, rfl, h⟩
theorem mlRX11_467 : Cond.methodLink RX11 467 yX11_hasRow ∈ ab_G ∧ Cond.instanceMethod yX11_hasRow ∈ ab_G ∧ Cond.selects RX11 yX11_hasRow yX11_hasRow ∈ ab_G := ⟨ab_in 1692 (by decide +kernel) (by decide +kernel), ab_in 1694 (by decide +kernel) (by decide +kernel), ab_in 9 (by decide +kernel) (by decide +kernel)⟩
theorem cnRX11_513 : Cond.constant RX11 513 1048576 ∈ ab_G := ab_in 1717 (by decide +kernel) (by decide +kernel)
abbrev MX11_canJudge : ab_M := (yX11_canJudge, cX11_canJudge, 4, (some .boolean))
theorem dX11_canJudge_0 : decode cX11_canJudge 0 = .ok (.aload_n 0, 1) := by decide +kernel
theorem dX11_canJudge_1 : decode cX11_canJudge 1 = .ok (.iload_n 1, 1) := by decide +kernel
theorem dX11_canJudge_2 : decode cX11_canJudge 2 = .ok (.invokevirtual 467, 3) := by decide +kernel
theorem dX11_canJudge_5 : decode cX11_canJudge 5 = .ok (.ifCond .eq 27, 3) := by decide +kernel
theorem dX11_canJudge_8 : decode cX11_canJudge 8 = .ok (.iload_n 2, 1) := by decide +kernel
theorem dX11_canJudge_9 : decode cX11_canJudge 9 = .ok (.ldc_w 513, 3) := by decide +kernel
theorem dX11_canJudge_12 : decode cX11_canJudge 12 = .ok (.invokestatic 86, 3) := by decide +kernel
theorem dX11_canJudge_15 : decode cX11_canJudge 15 = .ok (.ifCond .eq 17, 3) := by decide +kernel
theorem dX11_canJudge_18 : decode cX11_canJudge 18 = .ok (.iload_n 3, 1) := by decide +kernel
theorem dX11_canJudge_19 : decode cX11_canJudge 19 = .ok (.iconst 0, 1) := by decide +kernel
theorem dX11_canJudge_20 : decode cX11_canJudge 20 = .ok (.bipush 100, 2) := by decide +kernel
theorem dX11_canJudge_22 : decode cX11_canJudge 22 = .ok (.invokestatic 74, 3) := by decide +kernel
theorem dX11_canJudge_25 : decode cX11_canJudge 25 = .ok (.ifCond .eq 7, 3) := by decide +kernel
theorem dX11_canJudge_28 : decode cX11_canJudge 28 = .ok (.iconst 1, 1) := by decide +kernel
theorem dX11_canJudge_29 : decode cX11_canJudge 29 = .ok (.goto 4, 3) := by decide +kernel
theorem dX11_canJudge_32 : decode cX11_canJudge 32 = .ok (.iconst 0, 1) := by decide +kernel
theorem dX11_canJudge_33 : decode cX11_canJudge 33 = .ok (.ireturn, 1) := by decide +kernel
theorem okX11_canJudge : ab_okM MX11_canJudge 3 := ⟨by decide, ⟨by decide, by decide⟩, ab_in 1716 (by decide +kernel) (by decide +kernel), ab_in 86 (by decide +kernel) (by decide +kernel), by decide +kernel, by decide⟩
set_option maxHeartbeats 4000000 in
set_option maxRecDepth 100000 in
def wX11_canJudge (v1 : Int32) (v2 : Int32) (v3 : Int32) (x : ab_X) (K : Int32 → Prop) : Prop := wX11_hasRow v1 x (fun r1 => ((r1 = 0 → K 0) ∧ (¬ r1 = 0 → wX11_below v2 1048576 x (fun r2 => ((r2 = 0 → K 0) ∧ (¬ r2 = 0 → wX11_within v3 0 100 x (fun r3 => ((r3 = 0 → K 0) ∧ (¬ r3 = 0 → K 1)))))))))
set_option maxHeartbeats 4000000 in
set_option maxRecDepth 100000 in
theorem sX11_canJudge (v1 : Int32) (v2 : Int32) (v3 : Int32)  (x : ab_X) (K : Int32 → Prop) (d bc bs : Nat) (hdp : 2 ≤ d) (h : wX11_canJudge v1 v2 v3 x K) : EW MX11_canJudge 0 [(0, .ref 0), (1, .int v1), (2, .int v2), (3, .int v3)] [] (aS x) d bc bs (liP x K) := by
  unfold wX11_canJudge at h
  refine EW_aload_n (pc2 := 1) rfl dX11_canJudge_0 0 rfl ?_
  refine EW_iload_n (pc2 := 2) rfl dX11_canJudge_1 1 rfl ?_
  refine AW_invV (M' := MX11_hasRow) [.int v1] (rest := []) mlRX11_467 okX11_hasRow (pc2 := 5) rfl dX11_canJudge_2 rfl rfl (Nat.le_of_ble_eq_true rfl) (Nat.le_of_ble_eq_true rfl) (d' := 1) (by omega) q0 ⟨by decide, rfl⟩ (EW_mono (fun _ _ hr => ?_) (sX11_hasRow v1  x _ _ 0 0 (Nat.le_refl _) h))
  obtain ⟨r1, rfl, rfl, h⟩ := hr
  refine EW_if_eq (tgt := 32) (pc2 := 8) rfl dX11_canJudge_5 (by decide) (fun q => ?_) (fun q => ?_)
  · replace h := h.1 q
    refine EW_iconst (pc2 := 33) (v := 0) rfl dX11_canJudge_32 (by decide) ?_
    exact AW_zret rfl isB0 dX11_canJudge_33 ⟨_, rfl, rfl, h⟩
  · replace h := h.2 q
    refine EW_iload_n (pc2 := 9) rfl dX11_canJudge_8 2 rfl ?_
    refine EW_ldcw cnRX11_513 (pc2 := 12) rfl dX11_canJudge_9 ?_
    refine AW_invS (M' := MX11_below) [.int v2, .int 1048576] (rest := []) mlRX11_86 okX11_below (pc2 := 15) rfl dX11_canJudge_12 rfl rfl (Nat.le_of_ble_eq_true rfl) (Nat.le_of_ble_eq_true rfl) (d' := 0) (by omega) (EW_mono (fun _ _ hr => ?_) (sX11_below v2 1048576  x _ _ 0 0 (Nat.le_refl _) h))
    obtain ⟨r2, rfl, rfl, h⟩ := hr
    refine EW_if_eq (tgt := 32) (pc2 := 18) rfl dX11_canJudge_15 (by decide) (fun q => ?_) (fun q => ?_)
    · replace h := h.1 q
      refine EW_iconst (pc2 := 33) (v := 0) rfl dX11_canJudge_32 (by decide) ?_
      exact AW_zret rfl isB0 dX11_canJudge_33 ⟨_, rfl, rfl, h⟩
    · replace h := h.2 q
      refine EW_iload_n (pc2 := 19) rfl dX11_canJudge_18 3 rfl ?_
      refine EW_iconst (pc2 := 20) (v := 0) rfl dX11_canJudge_19 (by decide) ?_
      refine EW_bipush (pc2 := 22) (v := 100) rfl dX11_canJudge_20 (by decide) ?_
      refine AW_invS (M' := MX11_within) [.int v3, .int 0, .int 100] (rest := []) mlRX11_74 okX11_within (pc2 := 25) rfl dX11_canJudge_22 rfl rfl (Nat.le_of_ble_eq_true rfl) (Nat.le_of_ble_eq_true rfl) (d' := 0) (by omega) (EW_mono (fun _ _ hr => ?_) (sX11_within v3 0 100  x _ _ 0 0 (Nat.le_refl _) h))
      obtain ⟨r3, rfl, rfl, h⟩ := hr
      refine EW_if_eq (tgt := 32) (pc2 := 28) rfl dX11_canJudge_25 (by decide) (fun q => ?_) (fun q => ?_)
      · replace h := h.1 q
        refine EW_iconst (pc2 := 33) (v := 0) rfl dX11_canJudge_32 (by decide) ?_
        exact AW_zret rfl isB0 dX11_canJudge_33 ⟨_, rfl, rfl, h⟩
      · replace h := h.2 q
        refine EW_iconst (pc2 := 29) (v := 1) rfl dX11_canJudge_28 (by decide) ?_
        refine EW_goto (tgt := 33) dX11_canJudge_29 (by decide) ?_
        exact AW_zret rfl isB1 dX11_canJudge_33 ⟨_, rfl, rfl, h⟩
abbrev MX11_isKnown : ab_M := (yX11_isKnown, cX11_isKnown, 3, (some .boolean))
theorem dX11_isKnown_0 : decode cX11_isKnown 0 = .ok (.aload_n 0, 1) := by decide +kernel
theorem dX11_isKnown_1 : decode cX11_isKnown 1 = .ok (.getfield 21, 3) := by decide +kernel
theorem dX11_isKnown_4 : decode cX11_isKnown 4 = .ok (.iload_n 1, 1) := by decide +kernel
theorem dX11_isKnown_5 : decode cX11_isKnown 5 = .ok (.invokevirtual 124, 3) := by decide +kernel
theorem dX11_isKnown_8 : decode cX11_isKnown 8 = .ok (.ifCond .eq 22, 3) := by decide +kernel
theorem dX11_isKnown_11 : decode cX11_isKnown 11 = .ok (.iload_n 2, 1) := by decide +kernel
theorem dX11_isKnown_12 : decode cX11_isKnown 12 = .ok (.iconst 0, 1) := by decide +kernel
theorem dX11_isKnown_13 : decode cX11_isKnown 13 = .ok (.aload_n 0, 1) := by decide +kernel
theorem dX11_isKnown_14 : decode cX11_isKnown 14 = .ok (.getfield 30, 3) := by decide +kernel
theorem dX11_isKnown_17 : decode cX11_isKnown 17 = .ok (.getfield 400, 3) := by decide +kernel
theorem dX11_isKnown_20 : decode cX11_isKnown 20 = .ok (.invokestatic 74, 3) := by decide +kernel
theorem dX11_isKnown_23 : decode cX11_isKnown 23 = .ok (.ifCond .eq 7, 3) := by decide +kernel
theorem dX11_isKnown_26 : decode cX11_isKnown 26 = .ok (.iconst 1, 1) := by decide +kernel
theorem dX11_isKnown_27 : decode cX11_isKnown 27 = .ok (.goto 4, 3) := by decide +kernel
theorem dX11_isKnown_30 : decode cX11_isKnown 30 = .ok (.iconst 0, 1) := by decide +kernel
theorem dX11_isKnown_31 : decode cX11_isKnown 31 = .ok (.ireturn, 1) := by decide +kernel
theorem okX11_isKnown : ab_okM MX11_isKnown 2 := ⟨by decide, ⟨by decide, by decide⟩, ab_in 1526 (by decide +kernel) (by decide +kernel), ab_in 86 (by decide +kernel) (by decide +kernel), by decide +kernel, by decide⟩
set_option maxHeartbeats 4000000 in
set_option maxRecDepth 100000 in
def wX11_isKnown (v1 : Int32) (v2 : Int32) (x : ab_X) (K : Int32 → Prop) : Prop := wX10_has v1 x (fun r1 => ((r1 = 0 → K 0) ∧ (¬ r1 = 0 → wX11_within v2 0 (x.1 66 12) x (fun r2 => ((r2 = 0 → K 0) ∧ (¬ r2 = 0 → K 1))))))
set_option maxHeartbeats 4000000 in
set_option maxRecDepth 100000 in
theorem sX11_isKnown (v1 : Int32) (v2 : Int32)  (x : ab_X) (K : Int32 → Prop) (d bc bs : Nat) (hdp : 2 ≤ d) (h : wX11_isKnown v1 v2 x K) : EW MX11_isKnown 0 [(0, .ref 0), (1, .int v1), (2, .int v2)] [] (aS x) d bc bs (liP x K) := by
  unfold wX11_isKnown at h
  refine EW_aload_n (pc2 := 1) rfl dX11_isKnown_0 0 rfl ?_
  refine AW_getr (r := 9) ⟨gfRX11_21, rfl⟩ (pc2 := 4) rfl dX11_isKnown_1 q0 rfl ?_
  refine EW_iload_n (pc2 := 5) rfl dX11_isKnown_4 1 rfl ?_
  refine AW_invV (M' := MX10_has) [.int v1] (rest := []) mlRX11_124 okX10_has (pc2 := 8) rfl dX11_isKnown_5 rfl rfl (Nat.le_of_ble_eq_true rfl) (Nat.le_of_ble_eq_true rfl) (d' := 1) (by omega) q9 ⟨by decide, rfl⟩ (EW_mono (fun _ _ hr => ?_) (sX10_has v1  x _ _ 0 0 (Nat.le_refl _) h))
  obtain ⟨r1, rfl, rfl, h⟩ := hr
  refine EW_if_eq (tgt := 30) (pc2 := 11) rfl dX11_isKnown_8 (by decide) (fun q => ?_) (fun q => ?_)
  · replace h := h.1 q
    refine EW_iconst (pc2 := 31) (v := 0) rfl dX11_isKnown_30 (by decide) ?_
    exact AW_zret rfl isB0 dX11_isKnown_31 ⟨_, rfl, rfl, h⟩
  · replace h := h.2 q
    refine EW_iload_n (pc2 := 12) rfl dX11_isKnown_11 2 rfl ?_
    refine EW_iconst (pc2 := 13) (v := 0) rfl dX11_isKnown_12 (by decide) ?_
    refine EW_aload_n (pc2 := 14) rfl dX11_isKnown_13 0 rfl ?_
    refine AW_getr (r := 66) ⟨gfRX11_30, rfl⟩ (pc2 := 17) rfl dX11_isKnown_14 q0 rfl ?_
    refine AW_geti ⟨gfRX11_400, rfl⟩ (pc2 := 20) rfl dX11_isKnown_17 q66 ?_
    refine AW_invS (M' := MX11_within) [.int v2, .int 0, .int (x.1 66 12)] (rest := []) mlRX11_74 okX11_within (pc2 := 23) rfl dX11_isKnown_20 rfl rfl (Nat.le_of_ble_eq_true rfl) (Nat.le_of_ble_eq_true rfl) (d' := 0) (by omega) (EW_mono (fun _ _ hr => ?_) (sX11_within v2 0 (x.1 66 12)  x _ _ 0 0 (Nat.le_refl _) h))
    obtain ⟨r2, rfl, rfl, h⟩ := hr
    refine EW_if_eq (tgt := 30) (pc2 := 26) rfl dX11_isKnown_23 (by decide) (fun q => ?_) (fun q => ?_)
    · replace h := h.1 q
      refine EW_iconst (pc2 := 31) (v := 0) rfl dX11_isKnown_30 (by decide) ?_
      exact AW_zret rfl isB0 dX11_isKnown_31 ⟨_, rfl, rfl, h⟩
    · replace h := h.2 q
      refine EW_iconst (pc2 := 27) (v := 1) rfl dX11_isKnown_26 (by decide) ?_
      refine EW_goto (tgt := 31) dX11_isKnown_27 (by decide) ?_
      exact AW_zret rfl isB1 dX11_isKnown_31 ⟨_, rfl, rfl, h⟩
