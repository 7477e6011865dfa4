theorem gfRX3_24 : ab_L RX3 24 3 4 := ⟨by decide, by decide, ab_in 185 (by decide +kernel) (by decide +kernel)⟩
abbrev MX3_hasFallen : ab_M := (yX3_hasFallen, cX3_hasFallen, 3, (some .boolean))
theorem dX3_hasFallen_0 : decode cX3_hasFallen 0 = .ok (.aload_n 0, 1) := by decide +kernel
theorem dX3_hasFallen_1 : decode cX3_hasFallen 1 = .ok (.getfield 24, 3) := by decide +kernel
theorem dX3_hasFallen_4 : decode cX3_hasFallen 4 = .ok (.aload_n 1, 1) := by decide +kernel
theorem dX3_hasFallen_5 : decode cX3_hasFallen 5 = .ok (.iload_n 2, 1) := by decide +kernel
theorem dX3_hasFallen_6 : decode cX3_hasFallen 6 = .ok (.invokevirtual 50, 3) := by decide +kernel
theorem dX3_hasFallen_9 : decode cX3_hasFallen 9 = .ok (.baload, 1) := by decide +kernel
theorem dX3_hasFallen_10 : decode cX3_hasFallen 10 = .ok (.ireturn, 1) := by decide +kernel
theorem okX3_hasFallen : ab_okM MX3_hasFallen 2 := ⟨by decide, ⟨by decide, by decide⟩, ab_in 862 (by decide +kernel) (by decide +kernel), ab_in 90 (by decide +kernel) (by decide +kernel), by decide +kernel, by decide⟩
set_option maxHeartbeats 4000000 in
set_option maxRecDepth 100000 in
def wX3_hasFallen (v0 : Nat) (v1 : Nat) (v2 : Int32) (x : ab_X) (K : Int32 → Prop) : Prop := wX4_storey v1 v2 x (fun r1 => (vp_in r1 72 ∧ isB (x.1 (v0 + 5) (Int32.toNatClampNeg r1)) ∧ K (x.1 (v0 + 5) (Int32.toNatClampNeg r1))))
set_option maxHeartbeats 4000000 in
set_option maxRecDepth 100000 in
theorem sX3_hasFallen (v0 : Nat) (v1 : Nat) (v2 : Int32) (hv0 : isF v0) (hv1 : isH v1) (x : ab_X) (K : Int32 → Prop) (d bc bs : Nat) (hdp : 1 ≤ d) (h : wX3_hasFallen v0 v1 v2 x K) : EW MX3_hasFallen 0 [(0, .ref v0), (1, .ref v1), (2, .int v2)] [] (aS x) d bc bs (liP x K) := by
  unfold wX3_hasFallen at h
  refine EW_aload_n (pc2 := 1) rfl dX3_hasFallen_0 0 rfl ?_
  refine AW_getr (r := (v0 + 5)) ⟨gfRX3_24, rfl⟩ (pc2 := 4) rfl dX3_hasFallen_1 (isF.o hv0) (isF.r4 hv0) ?_
  refine EW_aload_n (pc2 := 5) rfl dX3_hasFallen_4 1 rfl ?_
  refine EW_iload_n (pc2 := 6) rfl dX3_hasFallen_5 2 rfl ?_
  refine AW_invV (M' := MX4_storey) [.int v2] (rest := [.ref (v0 + 5)]) mlRX3_50 okX4_storey (pc2 := 9) rfl dX3_hasFallen_6 rfl rfl (Nat.le_of_ble_eq_true rfl) (Nat.le_of_ble_eq_true rfl) (d' := 0) (by omega) (isH.o hv1) ⟨by decide, rfl⟩ (EW_mono (fun _ _ hr => ?_) (sX4_storey v1 v2 hv1 x _ _ 0 0 (Nat.le_refl _) h))
  obtain ⟨r1, rfl, rfl, h⟩ := hr
  obtain ⟨b2, h⟩ := h
  refine AW_zald (pc2 := 10) rfl dX3_hasFallen_9 (isF.a4 hv0) b2 ?_
  obtain ⟨z3, h⟩ := h
  exact AW_zret rfl z3 dX3_hasFallen_10 ⟨_, rfl, rfl, h⟩
theorem mlRX0_393 : Cond.methodLink RX0 393 yX10_hasFloor ∈ ab_G ∧ Cond.instanceMethod yX10_hasFloor ∈ ab_G ∧ Cond.selects RX10 yX10_hasFloor yX10_hasFloor ∈ ab_G := ⟨ab_in 1491 (by decide +kernel) (by decide +kernel), ab_in 856 (by decide +kernel) (by decide +kernel), ab_in 857 (by decide +kernel) (by decide +kernel)⟩
theorem mlRX0_296 : Cond.methodLink RX0 296 yX3_hasFallen ∈ ab_G ∧ Cond.instanceMethod yX3_hasFallen ∈ ab_G ∧ Cond.selects RX3 yX3_hasFallen yX3_hasFallen ∈ ab_G := ⟨ab_in 1396 (by decide +kernel) (by decide +kernel), ab_in 860 (by decide +kernel) (by decide +kernel), ab_in 861 (by decide +kernel) (by decide +kernel)⟩
abbrev MX0_hurtFallen : ab_M := (yX0_hurtFallen, cX0_hurtFallen, 3, none)
theorem dX0_hurtFallen_0 : decode cX0_hurtFallen 0 = .ok (.iconst 0, 1) := by decide +kernel
theorem dX0_hurtFallen_1 : decode cX0_hurtFallen 1 = .ok (.istore_n 1, 1) := by decide +kernel
theorem dX0_hurtFallen_2 : decode cX0_hurtFallen 2 = .ok (.iload_n 1, 1) := by decide +kernel
theorem dX0_hurtFallen_3 : decode cX0_hurtFallen 3 = .ok (.aload_n 0, 1) := by decide +kernel
theorem dX0_hurtFallen_4 : decode cX0_hurtFallen 4 = .ok (.getfield 55, 3) := by decide +kernel
theorem dX0_hurtFallen_7 : decode cX0_hurtFallen 7 = .ok (.if_icmp .ge 81, 3) := by decide +kernel
theorem dX0_hurtFallen_10 : decode cX0_hurtFallen 10 = .ok (.aload_n 0, 1) := by decide +kernel
theorem dX0_hurtFallen_11 : decode cX0_hurtFallen 11 = .ok (.getfield 11, 3) := by decide +kernel
theorem dX0_hurtFallen_14 : decode cX0_hurtFallen 14 = .ok (.iload_n 1, 1) := by decide +kernel
theorem dX0_hurtFallen_15 : decode cX0_hurtFallen 15 = .ok (.aaload, 1) := by decide +kernel
theorem dX0_hurtFallen_16 : decode cX0_hurtFallen 16 = .ok (.astore_n 2, 1) := by decide +kernel
theorem dX0_hurtFallen_17 : decode cX0_hurtFallen 17 = .ok (.aload_n 2, 1) := by decide +kernel
theorem dX0_hurtFallen_18 : decode cX0_hurtFallen 18 = .ok (.getfield 75, 3) := by decide +kernel
theorem dX0_hurtFallen_21 : decode cX0_hurtFallen 21 = .ok (.iconst 2, 1) := by decide +kernel
theorem dX0_hurtFallen_22 : decode cX0_hurtFallen 22 = .ok (.if_icmp .ne 60, 3) := by decide +kernel
theorem dX0_hurtFallen_25 : decode cX0_hurtFallen 25 = .ok (.aload_n 0, 1) := by decide +kernel
theorem dX0_hurtFallen_26 : decode cX0_hurtFallen 26 = .ok (.getfield 49, 3) := by decide +kernel
theorem dX0_hurtFallen_29 : decode cX0_hurtFallen 29 = .ok (.aload_n 2, 1) := by decide +kernel
theorem dX0_hurtFallen_30 : decode cX0_hurtFallen 30 = .ok (.getfield 78, 3) := by decide +kernel
theorem dX0_hurtFallen_33 : decode cX0_hurtFallen 33 = .ok (.aload_n 2, 1) := by decide +kernel
theorem dX0_hurtFallen_34 : decode cX0_hurtFallen 34 = .ok (.getfield 344, 3) := by decide +kernel
theorem dX0_hurtFallen_37 : decode cX0_hurtFallen 37 = .ok (.invokevirtual 393, 3) := by decide +kernel
theorem dX0_hurtFallen_40 : decode cX0_hurtFallen 40 = .ok (.ifCond .eq 42, 3) := by decide +kernel
theorem dX0_hurtFallen_43 : decode cX0_hurtFallen 43 = .ok (.aload_n 0, 1) := by decide +kernel
theorem dX0_hurtFallen_44 : decode cX0_hurtFallen 44 = .ok (.getfield 49, 3) := by decide +kernel
theorem dX0_hurtFallen_47 : decode cX0_hurtFallen 47 = .ok (.getfield 100, 3) := by decide +kernel
theorem dX0_hurtFallen_50 : decode cX0_hurtFallen 50 = .ok (.aload_n 0, 1) := by decide +kernel
theorem dX0_hurtFallen_51 : decode cX0_hurtFallen 51 = .ok (.getfield 49, 3) := by decide +kernel
theorem dX0_hurtFallen_54 : decode cX0_hurtFallen 54 = .ok (.getfield 148, 3) := by decide +kernel
theorem dX0_hurtFallen_57 : decode cX0_hurtFallen 57 = .ok (.aload_n 2, 1) := by decide +kernel
theorem dX0_hurtFallen_58 : decode cX0_hurtFallen 58 = .ok (.getfield 78, 3) := by decide +kernel
theorem dX0_hurtFallen_61 : decode cX0_hurtFallen 61 = .ok (.aaload, 1) := by decide +kernel
theorem dX0_hurtFallen_62 : decode cX0_hurtFallen 62 = .ok (.aload_n 2, 1) := by decide +kernel
theorem dX0_hurtFallen_63 : decode cX0_hurtFallen 63 = .ok (.getfield 344, 3) := by decide +kernel
theorem dX0_hurtFallen_66 : decode cX0_hurtFallen 66 = .ok (.invokevirtual 296, 3) := by decide +kernel
theorem dX0_hurtFallen_69 : decode cX0_hurtFallen 69 = .ok (.ifCond .eq 13, 3) := by decide +kernel
theorem dX0_hurtFallen_72 : decode cX0_hurtFallen 72 = .ok (.aload_n 2, 1) := by decide +kernel
theorem dX0_hurtFallen_73 : decode cX0_hurtFallen 73 = .ok (.iconst 4, 1) := by decide +kernel
theorem dX0_hurtFallen_74 : decode cX0_hurtFallen 74 = .ok (.aload_n 2, 1) := by decide +kernel
theorem dX0_hurtFallen_75 : decode cX0_hurtFallen 75 = .ok (.getfield 66, 3) := by decide +kernel
theorem dX0_hurtFallen_78 : decode cX0_hurtFallen 78 = .ok (.iconst (-1), 1) := by decide +kernel
theorem dX0_hurtFallen_79 : decode cX0_hurtFallen 79 = .ok (.invokevirtual 184, 3) := by decide +kernel
theorem dX0_hurtFallen_82 : decode cX0_hurtFallen 82 = .ok (.iinc 1 1, 3) := by decide +kernel
theorem dX0_hurtFallen_85 : decode cX0_hurtFallen 85 = .ok (.goto (-83), 3) := by decide +kernel
theorem dX0_hurtFallen_88 : decode cX0_hurtFallen 88 = .ok (.return_, 1) := by decide +kernel
theorem okX0_hurtFallen : ab_okM MX0_hurtFallen 0 := ⟨by decide, ⟨by decide, by decide⟩, ab_in 1490 (by decide +kernel) (by decide +kernel), ab_in 92 (by decide +kernel) (by decide +kernel), by decide +kernel, by decide⟩
set_option maxHeartbeats 4000000 in
set_option maxRecDepth 100000 in
def lX0_hurtFallen_2  (K : ab_X → Prop)  (L2 : Int32 → ab_X → Prop) (v1 : Int32) (x : ab_X) : Prop := (((x.1 66 3) ≤ v1 → K x) ∧ (¬ (x.1 66 3) ≤ v1 → (vp_in v1 16 ∧ ((¬ (x.1 (82 + Int32.toNatClampNeg v1) 8) = 2 → L2 (v1 + 1) x) ∧ ((x.1 (82 + Int32.toNatClampNeg v1) 8) = 2 → wX10_hasFloor (x.1 (82 + Int32.toNatClampNeg v1) 12) (x.1 (82 + Int32.toNatClampNeg v1) 13) x (fun r2 => ((r2 = 0 → L2 (v1 + 1) x) ∧ (¬ r2 = 0 → (vp_in (x.1 (82 + Int32.toNatClampNeg v1) 12) 12 ∧ wX3_hasFallen 11 (30 + 3 * Int32.toNatClampNeg (x.1 (82 + Int32.toNatClampNeg v1) 12)) (x.1 (82 + Int32.toNatClampNeg v1) 13) x (fun r4 => ((r4 = 0 → L2 (v1 + 1) x) ∧ (¬ r4 = 0 → wX2_set (82 + Int32.toNatClampNeg v1) 4 (x.1 (82 + Int32.toNatClampNeg v1) 1) (-1) x (fun x5 => L2 (v1 + 1) x5)))))))))))))
set_option maxHeartbeats 4000000 in
set_option maxRecDepth 100000 in
theorem sX0_hurtFallen_2 (v1 : Int32)  (x : ab_X) (K : ab_X → Prop)  (d bc bs : Nat) (hdp : 3 ≤ d)  (h : Lp2 (lX0_hurtFallen_2  K ) v1 x) : EW MX0_hurtFallen 2 [(0, .ref 66), (1, .int v1)] [] (aS x) d bc bs (liV K) := by
  refine Lp2.use (P := fun v1 x => EW MX0_hurtFallen 2 [(0, .ref 66), (1, .int v1)] [] (aS x) d bc bs (liV K)) (fun L2 v1 x hL2 h => ?_) v1 x h
  unfold lX0_hurtFallen_2 at h
  refine EW_iload_n (pc2 := 3) rfl dX0_hurtFallen_2 1 rfl ?_
  refine EW_aload_n (pc2 := 4) rfl dX0_hurtFallen_3 0 rfl ?_
  refine AW_geti ⟨gfRX0_55, rfl⟩ (pc2 := 7) rfl dX0_hurtFallen_4 q66 ?_
  refine EW_icmp_ge (tgt := 88) (pc2 := 10) rfl dX0_hurtFallen_7 (by decide) (fun q => ?_) (fun q => ?_)
  · replace h := h.1 q
    exact EW_vret rfl dX0_hurtFallen_88 ⟨_, rfl, rfl, h⟩
  · replace h := h.2 q
    refine EW_aload_n (pc2 := 11) rfl dX0_hurtFallen_10 0 rfl ?_
    refine AW_getr (r := 67) ⟨gfRX0_11, rfl⟩ (pc2 := 14) rfl dX0_hurtFallen_11 q66 rfl ?_
    refine EW_iload_n (pc2 := 15) rfl dX0_hurtFallen_14 1 rfl ?_
    obtain ⟨b1, h⟩ := h
    refine AW_aald6 (pc2 := 16) rfl dX0_hurtFallen_15 b1 ?_
    refine EW_astore_n (pc2 := 17) rfl dX0_hurtFallen_16 (by decide) [1, 2, 0] [(0, .ref 66), (1, .int v1), (2, .ref (82 + Int32.toNatClampNeg v1))] rfl ?_
    refine EW_aload_n (pc2 := 18) rfl dX0_hurtFallen_17 2 rfl ?_
    refine AW_geti ⟨gfRX0_75, rfl⟩ (pc2 := 21) rfl dX0_hurtFallen_18 (isW.o (isW_of b1)) ?_
    refine EW_iconst (pc2 := 22) (v := 2) rfl dX0_hurtFallen_21 (by decide) ?_
    refine EW_icmp_ne (tgt := 82) (pc2 := 25) rfl dX0_hurtFallen_22 (by decide) (fun q => ?_) (fun q => ?_)
    · replace h := h.1 q
      refine EW_iinc (v1 + 1) (pc2 := 85) rfl dX0_hurtFallen_82 1 rfl rfl (by decide) [1, 0, 2] [(0, .ref 66), (1, .int (v1 + 1)), (2, .ref (82 + Int32.toNatClampNeg v1))] rfl ?_
      refine EW_goto (tgt := 2) dX0_hurtFallen_85 (by decide) ?_
      refine EW_ls [0, 1] rfl ?_
      exact hL2 (v1 + 1) x h
    · replace h := h.2 q
      refine EW_aload_n (pc2 := 26) rfl dX0_hurtFallen_25 0 rfl ?_
      refine AW_getr (r := 9) ⟨gfRX0_49, rfl⟩ (pc2 := 29) rfl dX0_hurtFallen_26 q66 rfl ?_
      refine EW_aload_n (pc2 := 30) rfl dX0_hurtFallen_29 2 rfl ?_
      refine AW_geti ⟨gfRX0_78, rfl⟩ (pc2 := 33) rfl dX0_hurtFallen_30 (isW.o (isW_of b1)) ?_
      refine EW_aload_n (pc2 := 34) rfl dX0_hurtFallen_33 2 rfl ?_
      refine AW_geti ⟨gfRX0_344, rfl⟩ (pc2 := 37) rfl dX0_hurtFallen_34 (isW.o (isW_of b1)) ?_
      refine AW_invV (M' := MX10_hasFloor) [.int (x.1 (82 + Int32.toNatClampNeg v1) 12), .int (x.1 (82 + Int32.toNatClampNeg v1) 13)] (rest := []) mlRX0_393 okX10_hasFloor (pc2 := 40) rfl dX0_hurtFallen_37 rfl rfl (Nat.le_of_ble_eq_true rfl) (Nat.le_of_ble_eq_true rfl) (d' := 2) (by omega) q9 ⟨by decide, rfl⟩ (EW_mono (fun _ _ hr => ?_) (sX10_hasFloor (x.1 (82 + Int32.toNatClampNeg v1) 12) (x.1 (82 + Int32.toNatClampNeg v1) 13)  x _ _ 0 0 (Nat.le_refl _) h))
      obtain ⟨r2, rfl, rfl, h⟩ := hr
      refine EW_if_eq (tgt := 82) (pc2 := 43) rfl dX0_hurtFallen_40 (by decide) (fun q => ?_) (fun q => ?_)
      · replace h := h.1 q
        refine EW_iinc (v1 + 1) (pc2 := 85) rfl dX0_hurtFallen_82 1 rfl rfl (by decide) [1, 0, 2] [(0, .ref 66), (1, .int (v1 + 1)), (2, .ref (82 + Int32.toNatClampNeg v1))] rfl ?_
        refine EW_goto (tgt := 2) dX0_hurtFallen_85 (by decide) ?_
        refine EW_ls [0, 1] rfl ?_
        exact hL2 (v1 + 1) x h
      · replace h := h.2 q
        refine EW_aload_n (pc2 := 44) rfl dX0_hurtFallen_43 0 rfl ?_
        refine AW_getr (r := 9) ⟨gfRX0_49, rfl⟩ (pc2 := 47) rfl dX0_hurtFallen_44 q66 rfl ?_
        refine AW_getr (r := 11) ⟨gfRX0_100, rfl⟩ (pc2 := 50) rfl dX0_hurtFallen_47 q9 rfl ?_
        refine EW_aload_n (pc2 := 51) rfl dX0_hurtFallen_50 0 rfl ?_
        refine AW_getr (r := 9) ⟨gfRX0_49, rfl⟩ (pc2 := 54) rfl dX0_hurtFallen_51 q66 rfl ?_
        refine AW_getr (r := 10) ⟨gfRX0_148, rfl⟩ (pc2 := 57) rfl dX0_hurtFallen_54 q9 rfl ?_
        refine EW_aload_n (pc2 := 58) rfl dX0_hurtFallen_57 2 rfl ?_
        refine AW_geti ⟨gfRX0_78, rfl⟩ (pc2 := 61) rfl dX0_hurtFallen_58 (isW.o (isW_of b1)) ?_
        obtain ⟨b3, h⟩ := h
        refine AW_aald5 (pc2 := 62) rfl dX0_hurtFallen_61 b3 ?_
        refine EW_aload_n (pc2 := 63) rfl dX0_hurtFallen_62 2 rfl ?_
        refine AW_geti ⟨gfRX0_344, rfl⟩ (pc2 := 66) rfl dX0_hurtFallen_63 (isW.o (isW_of b1)) ?_
        refine AW_invV (M' := MX3_hasFallen) [.ref (30 + 3 * Int32.toNatClampNeg (x.1 (82 + Int32.toNatClampNeg v1) 12)), .int (x.1 (82 + Int32.toNatClampNeg v1) 13)] (rest := []) mlRX0_296 okX3_hasFallen (pc2 := 69) rfl dX0_hurtFallen_66 rfl rfl (Nat.le_of_ble_eq_true rfl) (Nat.le_of_ble_eq_true rfl) (d' := 1) (by omega) q11 ⟨by decide, rfl⟩ (EW_mono (fun _ _ hr => ?_) (sX3_hasFallen 11 (30 + 3 * Int32.toNatClampNeg (x.1 (82 + Int32.toNatClampNeg v1) 12)) (x.1 (82 + Int32.toNatClampNeg v1) 13) (Or.inl rfl : isF 11) (isH_of b3) x _ _ 0 0 (Nat.le_refl _) h))
        obtain ⟨r4, rfl, rfl, h⟩ := hr
        refine EW_if_eq (tgt := 82) (pc2 := 72) rfl dX0_hurtFallen_69 (by decide) (fun q => ?_) (fun q => ?_)
        · replace h := h.1 q
          refine EW_iinc (v1 + 1) (pc2 := 85) rfl dX0_hurtFallen_82 1 rfl rfl (by decide) [1, 0, 2] [(0, .ref 66), (1, .int (v1 + 1)), (2, .ref (82 + Int32.toNatClampNeg v1))] rfl ?_
          refine EW_goto (tgt := 2) dX0_hurtFallen_85 (by decide) ?_
          refine EW_ls [0, 1] rfl ?_
          exact hL2 (v1 + 1) x h
        · replace h := h.2 q
          refine EW_aload_n (pc2 := 73) rfl dX0_hurtFallen_72 2 rfl ?_
          refine EW_iconst (pc2 := 74) (v := 4) rfl dX0_hurtFallen_73 (by decide) ?_
          refine EW_aload_n (pc2 := 75) rfl dX0_hurtFallen_74 2 rfl ?_
          refine AW_geti ⟨gfRX0_66, rfl⟩ (pc2 := 78) rfl dX0_hurtFallen_75 (isW.o (isW_of b1)) ?_
          refine EW_iconst (pc2 := 79) (v := (-1)) rfl dX0_hurtFallen_78 (by decide) ?_
          refine AW_invV (M' := MX2_set) [.int 4, .int (x.1 (82 + Int32.toNatClampNeg v1) 1), .int (-1)] (rest := []) mlRX0_184 okX2_set (pc2 := 82) rfl dX0_hurtFallen_79 rfl rfl (Nat.le_of_ble_eq_true rfl) (Nat.le_of_ble_eq_true rfl) (d' := 1) (by omega) (isW.o (isW_of b1)) ⟨by decide, rfl⟩ (EW_mono (fun _ _ hr => ?_) (sX2_set (82 + Int32.toNatClampNeg v1) 4 (x.1 (82 + Int32.toNatClampNeg v1) 1) (-1) (isW_of b1) x _ _ 0 0 (Nat.le_refl _) h))
          obtain ⟨x5, rfl, rfl, h⟩ := hr
          refine EW_iinc (v1 + 1) (pc2 := 85) rfl dX0_hurtFallen_82 1 rfl rfl (by decide) [1, 0, 2] [(0, .ref 66), (1, .int (v1 + 1)), (2, .ref (82 + Int32.toNatClampNeg v1))] rfl ?_
          refine EW_goto (tgt := 2) dX0_hurtFallen_85 (by decide) ?_
          refine EW_ls [0, 1] rfl ?_
          exact hL2 (v1 + 1) x5 h
set_option maxHeartbeats 4000000 in
set_option maxRecDepth 100000 in
def wX0_hurtFallen  (x : ab_X) (K : ab_X → Prop) : Prop := Lp2 (lX0_hurtFallen_2 K ) 0 x
set_option maxHeartbeats 4000000 in
set_option maxRecDepth 100000 in
theorem sX0_hurtFallen   (x : ab_X) (K : ab_X → Prop) (d bc bs : Nat) (hdp : 3 ≤ d) (h : wX0_hurtFallen  x K) : EW MX0_hurtFallen 0 [(0, .ref 66)] [] (aS x) d bc bs (liV K) := by
  unfold wX0_hurtFallen at h
  refine EW_iconst (pc2 := 1) (v := 0) rfl dX0_hurtFallen_0 (by decide) ?_
  refine EW_istore_n (pc2 := 2) rfl dX0_hurtFallen_1 (by decide) [1, 0] [(0, .ref 66), (1, .int 0)] rfl ?_
  exact sX0_hurtFallen_2 0 x K d bc bs hdp h
abbrev MX0_hurtNow : ab_M := (yX0_hurtNow, cX0_hurtNow, 3, (some .int))
theorem dX0_hurtNow_0 : decode cX0_hurtNow 0 = .ok (.iconst 0, 1) := by decide +kernel
theorem dX0_hurtNow_1 : decode cX0_hurtNow 1 = .ok (.istore_n 1, 1) := by decide +kernel
theorem dX0_hurtNow_2 : decode cX0_hurtNow 2 = .ok (.iconst 0, 1) := by decide +kernel
theorem dX0_hurtNow_3 : decode cX0_hurtNow 3 = .ok (.istore_n 2, 1) := by decide +kernel
theorem dX0_hurtNow_4 : decode cX0_hurtNow 4 = .ok (.iload_n 2, 1) := by decide +kernel
theorem dX0_hurtNow_5 : decode cX0_hurtNow 5 = .ok (.aload_n 0, 1) := by decide +kernel
theorem dX0_hurtNow_6 : decode cX0_hurtNow 6 = .ok (.getfield 55, 3) := by decide +kernel
theorem dX0_hurtNow_9 : decode cX0_hurtNow 9 = .ok (.if_icmp .ge 30, 3) := by decide +kernel
theorem dX0_hurtNow_12 : decode cX0_hurtNow 12 = .ok (.iload_n 1, 1) := by decide +kernel
theorem dX0_hurtNow_13 : decode cX0_hurtNow 13 = .ok (.aload_n 0, 1) := by decide +kernel
theorem dX0_hurtNow_14 : decode cX0_hurtNow 14 = .ok (.getfield 11, 3) := by decide +kernel
theorem dX0_hurtNow_17 : decode cX0_hurtNow 17 = .ok (.iload_n 2, 1) := by decide +kernel
theorem dX0_hurtNow_18 : decode cX0_hurtNow 18 = .ok (.aaload, 1) := by decide +kernel
theorem dX0_hurtNow_19 : decode cX0_hurtNow 19 = .ok (.getfield 75, 3) := by decide +kernel
theorem dX0_hurtNow_22 : decode cX0_hurtNow 22 = .ok (.iconst 4, 1) := by decide +kernel
theorem dX0_hurtNow_23 : decode cX0_hurtNow 23 = .ok (.if_icmp .ne 7, 3) := by decide +kernel
theorem dX0_hurtNow_26 : decode cX0_hurtNow 26 = .ok (.iconst 1, 1) := by decide +kernel
theorem dX0_hurtNow_27 : decode cX0_hurtNow 27 = .ok (.goto 4, 3) := by decide +kernel
theorem dX0_hurtNow_30 : decode cX0_hurtNow 30 = .ok (.iconst 0, 1) := by decide +kernel
theorem dX0_hurtNow_31 : decode cX0_hurtNow 31 = .ok (.iadd, 1) := by decide +kernel
theorem dX0_hurtNow_32 : decode cX0_hurtNow 32 = .ok (.istore_n 1, 1) := by decide +kernel
theorem dX0_hurtNow_33 : decode cX0_hurtNow 33 = .ok (.iinc 2 1, 3) := by decide +kernel
theorem dX0_hurtNow_36 : decode cX0_hurtNow 36 = .ok (.goto (-32), 3) := by decide +kernel
theorem dX0_hurtNow_39 : decode cX0_hurtNow 39 = .ok (.iload_n 1, 1) := by decide +kernel
theorem dX0_hurtNow_40 : decode cX0_hurtNow 40 = .ok (.ireturn, 1) := by decide +kernel
theorem okX0_hurtNow : ab_okM MX0_hurtNow 0 := ⟨by decide, ⟨by decide, by decide⟩, ab_in 1770 (by decide +kernel) (by decide +kernel), ab_in 92 (by decide +kernel) (by decide +kernel), by decide +kernel, by decide⟩
set_option maxHeartbeats 4000000 in
set_option maxRecDepth 100000 in
def wX0_hurtNow_31 (v2 : Int32) (s0 : Int32) (s1 : Int32) (x : ab_X) (K : Int32 → Prop) (L4 : Int32 → Int32 → Prop) : Prop := L4 (s0 + s1) (v2 + 1)
set_option maxHeartbeats 4000000 in
set_option maxRecDepth 100000 in
theorem sX0_hurtNow_31 (v2 : Int32) (s0 : Int32) (s1 : Int32)  (x : ab_X) (K : Int32 → Prop) (L4 : Int32 → Int32 → Prop) (d bc bs : Nat) (hdp : 0 ≤ d) (hL4 : ∀ (v1 : Int32) (v2 : Int32), L4 v1 v2 → EW MX0_hurtNow 4 [(0, .ref 66), (1, .int v1), (2, .int v2)] [] (aS x) d bc bs (liP x K)) (h : wX0_hurtNow_31 v2 s0 s1 x K L4) : EW MX0_hurtNow 31 [(0, .ref 66), (2, .int v2)] [.int s1, .int s0] (aS x) d bc bs (liP x K) := by
  unfold wX0_hurtNow_31 at h
  refine EW_iadd (pc2 := 32) rfl dX0_hurtNow_31 ?_
  refine EW_istore_n (pc2 := 33) rfl dX0_hurtNow_32 (by decide) [1, 0, 2] [(0, .ref 66), (1, .int (s0 + s1)), (2, .int v2)] rfl ?_
  refine EW_iinc (v2 + 1) (pc2 := 36) rfl dX0_hurtNow_33 2 rfl rfl (by decide) [1, 2, 0] [(0, .ref 66), (1, .int (s0 + s1)), (2, .int (v2 + 1))] rfl ?_
  refine EW_goto (tgt := 4) dX0_hurtNow_36 (by decide) ?_
  exact hL4 (s0 + s1) (v2 + 1) h
set_option maxHeartbeats 4000000 in
set_option maxRecDepth 100000 in
def lX0_hurtNow_4  (x : ab_X) (K : Int32 → Prop)  (L4 : Int32 → Int32 → Prop) (v1 : Int32) (v2 : Int32) : Prop := (((x.1 66 3) ≤ v2 → K v1) ∧ (¬ (x.1 66 3) ≤ v2 → (vp_in v2 16 ∧ ((¬ (x.1 (82 + Int32.toNatClampNeg v2) 8) = 4 → wX0_hurtNow_31 v2 v1 0 x K L4) ∧ ((x.1 (82 + Int32.toNatClampNeg v2) 8) = 4 → wX0_hurtNow_31 v2 v1 1 x K L4)))))
set_option maxHeartbeats 4000000 in
set_option maxRecDepth 100000 in
theorem sX0_hurtNow_4 (v1 : Int32) (v2 : Int32)  (x : ab_X) (K : Int32 → Prop)  (d bc bs : Nat) (hdp : 0 ≤ d)  (h : Lp2 (lX0_hurtNow_4  x K ) v1 v2) : EW MX0_hurtNow 4 [(0, .ref 66), (1, .int v1), (2, .int v2)] [] (aS x) d bc bs (liP x K) := by
  refine Lp2.use (P := fun v1 v2 => EW MX0_hurtNow 4 [(0, .ref 66), (1, .int v1), (2, .int v2)] [] (aS x) d bc bs (liP x K)) (fun L4 v1 v2 hL4 h => ?_) v1 v2 h
  unfold lX0_hurtNow_4 at h
  refine EW_iload_n (pc2 := 5) rfl dX0_hurtNow_4 2 rfl ?_
  refine EW_aload_n (pc2 := 6) rfl dX0_hurtNow_5 0 rfl ?_
  refine AW_geti ⟨gfRX0_55, rfl⟩ (pc2 := 9) rfl dX0_hurtNow_6 q66 ?_
  refine EW_icmp_ge (tgt := 39) (pc2 := 12) rfl dX0_hurtNow_9 (by decide) (fun q => ?_) (fun q => ?_)
  · replace h := h.1 q
    refine EW_iload_n (pc2 := 40) rfl dX0_hurtNow_39 1 rfl ?_
    exact AW_iret rfl dX0_hurtNow_40 ⟨_, rfl, rfl, h⟩
  · replace h := h.2 q
    refine EW_iload_n (pc2 := 13) rfl dX0_hurtNow_12 1 rfl ?_
    refine EW_aload_n (pc2 := 14) rfl dX0_hurtNow_13 0 rfl ?_
    refine AW_getr (r := 67) ⟨gfRX0_11, rfl⟩ (pc2 := 17) rfl dX0_hurtNow_14 q66 rfl ?_
    refine EW_iload_n (pc2 := 18) rfl dX0_hurtNow_17 2 rfl ?_
    obtain ⟨b1, h⟩ := h
    refine AW_aald6 (pc2 := 19) rfl dX0_hurtNow_18 b1 ?_
    refine AW_geti ⟨gfRX0_75, rfl⟩ (pc2 := 22) rfl dX0_hurtNow_19 (isW.o (isW_of b1)) ?_
    refine EW_iconst (pc2 := 23) (v := 4) rfl dX0_hurtNow_22 (by decide) ?_
    refine EW_icmp_ne (tgt := 30) (pc2 := 26) rfl dX0_hurtNow_23 (by decide) (fun q => ?_) (fun q => ?_)
    · replace h := h.1 q
      refine EW_iconst (pc2 := 31) (v := 0) rfl dX0_hurtNow_30 (by decide) ?_
      refine EW_ls [0, 2] rfl ?_
      exact sX0_hurtNow_31 v2 v1 0 x K L4 d bc bs hdp hL4 h
    · replace h := h.2 q
      refine EW_iconst (pc2 := 27) (v := 1) rfl dX0_hurtNow_26 (by decide) ?_
      refine EW_goto (tgt := 31) dX0_hurtNow_27 (by decide) ?_
      refine EW_ls [0, 2] rfl ?_
      exact sX0_hurtNow_31 v2 v1 1 x K L4 d bc bs hdp hL4 h
set_option maxHeartbeats 4000000 in
set_option maxRecDepth 100000 in
def wX0_hurtNow  (x : ab_X) (K : Int32 → Prop) : Prop := Lp2 (lX0_hurtNow_4 x K ) 0 0
set_option maxHeartbeats 4000000 in
set_option maxRecDepth 100000 in
theorem sX0_hurtNow   (x : ab_X) (K : Int32 → Prop) (d bc bs : Nat) (hdp : 0 ≤ d) (h : wX0_hurtNow  x K) : EW MX0_hurtNow 0 [(0, .ref 66)] [] (aS x) d bc bs (liP x K) := by
  unfold wX0_hurtNow at h
  refine EW_iconst (pc2 := 1) (v := 0) rfl dX0_hurtNow_0 (by decide) ?_
  refine EW_istore_n (pc2 := 2) rfl dX0_hurtNow_1 (by decide) [1, 0] [(0, .ref 66), (1, .int 0)] rfl ?_
  refine EW_iconst (pc2 := 3) (v := 0) rfl dX0_hurtNow_2 (by decide) ?_
  refine EW_istore_n (pc2 := 4) rfl dX0_hurtNow_3 (by decide) [1, 2, 0] [(0, .ref 66), (1, .int 0), (2, .int 0)] rfl ?_
  exact sX0_hurtNow_4 0 0 x K d bc bs hdp h
abbrev MX0_lackedInAll : ab_M := (yX0_lackedInAll, cX0_lackedInAll, 3, (some .int))
theorem dX0_lackedInAll_0 : decode cX0_lackedInAll 0 = .ok (.iconst 0, 1) := by decide +kernel
theorem dX0_lackedInAll_1 : decode cX0_lackedInAll 1 = .ok (.istore_n 1, 1) := by decide +kernel
theorem dX0_lackedInAll_2 : decode cX0_lackedInAll 2 = .ok (.iconst 0, 1) := by decide +kernel
theorem dX0_lackedInAll_3 : decode cX0_lackedInAll 3 = .ok (.istore_n 2, 1) := by decide +kernel
theorem dX0_lackedInAll_4 : decode cX0_lackedInAll 4 = .ok (.iload_n 2, 1) := by decide +kernel
theorem dX0_lackedInAll_5 : decode cX0_lackedInAll 5 = .ok (.aload_n 0, 1) := by decide +kernel
theorem dX0_lackedInAll_6 : decode cX0_lackedInAll 6 = .ok (.getfield 81, 3) := by decide +kernel
theorem dX0_lackedInAll_9 : decode cX0_lackedInAll 9 = .ok (.if_icmp .ge 21, 3) := by decide +kernel
theorem dX0_lackedInAll_12 : decode cX0_lackedInAll 12 = .ok (.iload_n 1, 1) := by decide +kernel
theorem dX0_lackedInAll_13 : decode cX0_lackedInAll 13 = .ok (.aload_n 0, 1) := by decide +kernel
theorem dX0_lackedInAll_14 : decode cX0_lackedInAll 14 = .ok (.getfield 19, 3) := by decide +kernel
theorem dX0_lackedInAll_17 : decode cX0_lackedInAll 17 = .ok (.iload_n 2, 1) := by decide +kernel
theorem dX0_lackedInAll_18 : decode cX0_lackedInAll 18 = .ok (.aaload, 1) := by decide +kernel
theorem dX0_lackedInAll_19 : decode cX0_lackedInAll 19 = .ok (.getfield 85, 3) := by decide +kernel
theorem dX0_lackedInAll_22 : decode cX0_lackedInAll 22 = .ok (.iadd, 1) := by decide +kernel
theorem dX0_lackedInAll_23 : decode cX0_lackedInAll 23 = .ok (.istore_n 1, 1) := by decide +kernel
theorem dX0_lackedInAll_24 : decode cX0_lackedInAll 24 = .ok (.iinc 2 1, 3) := by decide +kernel
theorem dX0_lackedInAll_27 : decode cX0_lackedInAll 27 = .ok (.goto (-23), 3) := by decide +kernel
theorem dX0_lackedInAll_30 : decode cX0_lackedInAll 30 = .ok (.iload_n 1, 1) := by decide +kernel
theorem dX0_lackedInAll_31 : decode cX0_lackedInAll 31 = .ok (.ireturn, 1) := by decide +kernel
theorem okX0_lackedInAll : ab_okM MX0_lackedInAll 0 := ⟨by decide, ⟨by decide, by decide⟩, ab_in 1758 (by decide +kernel) (by decide +kernel), ab_in 92 (by decide +kernel) (by decide +kernel), by decide +kernel, by decide⟩
set_option maxHeartbeats 4000000 in
set_option maxRecDepth 100000 in
def lX0_lackedInAll_4  (x : ab_X) (K : Int32 → Prop)  (L4 : Int32 → Int32 → Prop) (v1 : Int32) (v2 : Int32) : Prop := (((x.1 66 5) ≤ v2 → K v1) ∧ (¬ (x.1 66 5) ≤ v2 → (vp_in v2 60 ∧ L4 (v1 + (x.1 (98 + Int32.toNatClampNeg v2) 6)) (v2 + 1))))
set_option maxHeartbeats 4000000 in
set_option maxRecDepth 100000 in
theorem sX0_lackedInAll_4 (v1 : Int32) (v2 : Int32)  (x : ab_X) (K : Int32 → Prop)  (d bc bs : Nat) (hdp : 0 ≤ d)  (h : Lp2 (lX0_lackedInAll_4  x K ) v1 v2) : EW MX0_lackedInAll 4 [(0, .ref 66), (1, .int v1), (2, .int v2)] [] (aS x) d bc bs (liP x K) := by
  refine Lp2.use (P := fun v1 v2 => EW MX0_lackedInAll 4 [(0, .ref 66), (1, .int v1), (2, .int v2)] [] (aS x) d bc bs (liP x K)) (fun L4 v1 v2 hL4 h => ?_) v1 v2 h
  unfold lX0_lackedInAll_4 at h
  refine EW_iload_n (pc2 := 5) rfl dX0_lackedInAll_4 2 rfl ?_
  refine EW_aload_n (pc2 := 6) rfl dX0_lackedInAll_5 0 rfl ?_
  refine AW_geti ⟨gfRX0_81, rfl⟩ (pc2 := 9) rfl dX0_lackedInAll_6 q66 ?_
  refine EW_icmp_ge (tgt := 30) (pc2 := 12) rfl dX0_lackedInAll_9 (by decide) (fun q => ?_) (fun q => ?_)
  · replace h := h.1 q
    refine EW_iload_n (pc2 := 31) rfl dX0_lackedInAll_30 1 rfl ?_
    exact AW_iret rfl dX0_lackedInAll_31 ⟨_, rfl, rfl, h⟩
  · replace h := h.2 q
    refine EW_iload_n (pc2 := 13) rfl dX0_lackedInAll_12 1 rfl ?_
    refine EW_aload_n (pc2 := 14) rfl dX0_lackedInAll_13 0 rfl ?_
    refine AW_getr (r := 68) ⟨gfRX0_19, rfl⟩ (pc2 := 17) rfl dX0_lackedInAll_14 q66 rfl ?_
    refine EW_iload_n (pc2 := 18) rfl dX0_lackedInAll_17 2 rfl ?_
    obtain ⟨b1, h⟩ := h
    refine AW_aald7 (pc2 := 19) rfl dX0_lackedInAll_18 b1 ?_
    refine AW_geti ⟨gfRX0_85, rfl⟩ (pc2 := 22) rfl dX0_lackedInAll_19 (isK.o (isK_of b1)) ?_
    refine EW_iadd (pc2 := 23) rfl dX0_lackedInAll_22 ?_
    refine EW_istore_n (pc2 := 24) rfl dX0_lackedInAll_23 (by decide) [1, 0, 2] [(0, .ref 66), (1, .int (v1 + (x.1 (98 + Int32.toNatClampNeg v2) 6))), (2, .int v2)] rfl ?_
    refine EW_iinc (v2 + 1) (pc2 := 27) rfl dX0_lackedInAll_24 2 rfl rfl (by decide) [1, 2, 0] [(0, .ref 66), (1, .int (v1 + (x.1 (98 + Int32.toNatClampNeg v2) 6))), (2, .int (v2 + 1))] rfl ?_
    refine EW_goto (tgt := 4) dX0_lackedInAll_27 (by decide) ?_
    exact hL4 (v1 + (x.1 (98 + Int32.toNatClampNeg v2) 6)) (v2 + 1) h
set_option maxHeartbeats 4000000 in
set_option maxRecDepth 100000 in
def wX0_lackedInAll  (x : ab_X) (K : Int32 → Prop) : Prop := Lp2 (lX0_lackedInAll_4 x K ) 0 0
set_option maxHeartbeats 4000000 in
set_option maxRecDepth 100000 in
theorem sX0_lackedInAll   (x : ab_X) (K : Int32 → Prop) (d bc bs : Nat) (hdp : 0 ≤ d) (h : wX0_lackedInAll  x K) : EW MX0_lackedInAll 0 [(0, .ref 66)] [] (aS x) d bc bs (liP x K) := by
  unfold wX0_lackedInAll at h
  refine EW_iconst (pc2 := 1) (v := 0) rfl dX0_lackedInAll_0 (by decide) ?_
  refine EW_istore_n (pc2 := 2) rfl dX0_lackedInAll_1 (by decide) [1, 0] [(0, .ref 66), (1, .int 0)] rfl ?_
  refine EW_iconst (pc2 := 3) (v := 0) rfl dX0_lackedInAll_2 (by decide) ?_
  refine EW_istore_n (pc2 := 4) rfl dX0_lackedInAll_3 (by decide) [1, 2, 0] [(0, .ref 66), (1, .int 0), (2, .int 0)] rfl ?_
  exact sX0_lackedInAll_4 0 0 x K d bc bs hdp h
abbrev MX0_sendHome : ab_M := (yX0_sendHome, cX0_sendHome, 2, none)
theorem dX0_sendHome_0 : decode cX0_sendHome 0 = .ok (.iconst 0, 1) := by decide +kernel
theorem dX0_sendHome_1 : decode cX0_sendHome 1 = .ok (.istore_n 1, 1) := by decide +kernel
theorem dX0_sendHome_2 : decode cX0_sendHome 2 = .ok (.iload_n 1, 1) := by decide +kernel
theorem dX0_sendHome_3 : decode cX0_sendHome 3 = .ok (.aload_n 0, 1) := by decide +kernel
theorem dX0_sendHome_4 : decode cX0_sendHome 4 = .ok (.getfield 55, 3) := by decide +kernel
theorem dX0_sendHome_7 : decode cX0_sendHome 7 = .ok (.if_icmp .ge 52, 3) := by decide +kernel
theorem dX0_sendHome_10 : decode cX0_sendHome 10 = .ok (.aload_n 0, 1) := by decide +kernel
theorem dX0_sendHome_11 : decode cX0_sendHome 11 = .ok (.getfield 11, 3) := by decide +kernel
theorem dX0_sendHome_14 : decode cX0_sendHome 14 = .ok (.iload_n 1, 1) := by decide +kernel
theorem dX0_sendHome_15 : decode cX0_sendHome 15 = .ok (.aaload, 1) := by decide +kernel
theorem dX0_sendHome_16 : decode cX0_sendHome 16 = .ok (.getfield 75, 3) := by decide +kernel
theorem dX0_sendHome_19 : decode cX0_sendHome 19 = .ok (.iconst 2, 1) := by decide +kernel
theorem dX0_sendHome_20 : decode cX0_sendHome 20 = .ok (.if_icmp .ne 33, 3) := by decide +kernel
theorem dX0_sendHome_23 : decode cX0_sendHome 23 = .ok (.aload_n 0, 1) := by decide +kernel
theorem dX0_sendHome_24 : decode cX0_sendHome 24 = .ok (.getfield 49, 3) := by decide +kernel
theorem dX0_sendHome_27 : decode cX0_sendHome 27 = .ok (.aload_n 0, 1) := by decide +kernel
theorem dX0_sendHome_28 : decode cX0_sendHome 28 = .ok (.getfield 11, 3) := by decide +kernel
theorem dX0_sendHome_31 : decode cX0_sendHome 31 = .ok (.iload_n 1, 1) := by decide +kernel
theorem dX0_sendHome_32 : decode cX0_sendHome 32 = .ok (.aaload, 1) := by decide +kernel
theorem dX0_sendHome_33 : decode cX0_sendHome 33 = .ok (.getfield 69, 3) := by decide +kernel
theorem dX0_sendHome_36 : decode cX0_sendHome 36 = .ok (.invokevirtual 115, 3) := by decide +kernel
theorem dX0_sendHome_39 : decode cX0_sendHome 39 = .ok (.iconst (-1), 1) := by decide +kernel
theorem dX0_sendHome_40 : decode cX0_sendHome 40 = .ok (.if_icmp .ne 13, 3) := by decide +kernel
theorem dX0_sendHome_43 : decode cX0_sendHome 43 = .ok (.aload_n 0, 1) := by decide +kernel
theorem dX0_sendHome_44 : decode cX0_sendHome 44 = .ok (.aload_n 0, 1) := by decide +kernel
theorem dX0_sendHome_45 : decode cX0_sendHome 45 = .ok (.getfield 11, 3) := by decide +kernel
theorem dX0_sendHome_48 : decode cX0_sendHome 48 = .ok (.iload_n 1, 1) := by decide +kernel
theorem dX0_sendHome_49 : decode cX0_sendHome 49 = .ok (.aaload, 1) := by decide +kernel
theorem dX0_sendHome_50 : decode cX0_sendHome 50 = .ok (.invokevirtual 260, 3) := by decide +kernel
theorem dX0_sendHome_53 : decode cX0_sendHome 53 = .ok (.iinc 1 1, 3) := by decide +kernel
theorem dX0_sendHome_56 : decode cX0_sendHome 56 = .ok (.goto (-54), 3) := by decide +kernel
theorem dX0_sendHome_59 : decode cX0_sendHome 59 = .ok (.return_, 1) := by decide +kernel
theorem okX0_sendHome : ab_okM MX0_sendHome 0 := ⟨by decide, ⟨by decide, by decide⟩, ab_in 1503 (by decide +kernel) (by decide +kernel), ab_in 92 (by decide +kernel) (by decide +kernel), by decide +kernel, by decide⟩
set_option maxHeartbeats 4000000 in
set_option maxRecDepth 100000 in
def lX0_sendHome_2  (K : ab_X → Prop)  (L2 : Int32 → ab_X → Prop) (v1 : Int32) (x : ab_X) : Prop := (((x.1 66 3) ≤ v1 → K x) ∧ (¬ (x.1 66 3) ≤ v1 → (vp_in v1 16 ∧ ((¬ (x.1 (82 + Int32.toNatClampNeg v1) 8) = 2 → L2 (v1 + 1) x) ∧ ((x.1 (82 + Int32.toNatClampNeg v1) 8) = 2 → (vp_in v1 16 ∧ wX10_worstAt (x.1 (82 + Int32.toNatClampNeg v1) 9) x (fun r3 => ((¬ r3 = (-1) → L2 (v1 + 1) x) ∧ (r3 = (-1) → (vp_in v1 16 ∧ wX0_turnHome (82 + Int32.toNatClampNeg v1) x (fun x5 => L2 (v1 + 1) x5)))))))))))
set_option maxHeartbeats 4000000 in
set_option maxRecDepth 100000 in
theorem sX0_sendHome_2 (v1 : Int32)  (x : ab_X) (K : ab_X → Prop)  (d bc bs : Nat) (hdp : 4 ≤ d)  (h : Lp2 (lX0_sendHome_2  K ) v1 x) : EW MX0_sendHome 2 [(0, .ref 66), (1, .int v1)] [] (aS x) d bc bs (liV K) := by
  refine Lp2.use (P := fun v1 x => EW MX0_sendHome 2 [(0, .ref 66), (1, .int v1)] [] (aS x) d bc bs (liV K)) (fun L2 v1 x hL2 h => ?_) v1 x h
  unfold lX0_sendHome_2 at h
  refine EW_iload_n (pc2 := 3) rfl dX0_sendHome_2 1 rfl ?_
  refine EW_aload_n (pc2 := 4) rfl dX0_sendHome_3 0 rfl ?_
  refine AW_geti ⟨gfRX0_55, rfl⟩ (pc2 := 7) rfl dX0_sendHome_4 q66 ?_
  refine EW_icmp_ge (tgt := 59) (pc2 := 10) rfl dX0_sendHome_7 (by decide) (fun q => ?_) (fun q => ?_)
  · replace h := h.1 q
    exact EW_vret rfl dX0_sendHome_59 ⟨_, rfl, rfl, h⟩
  · replace h := h.2 q
    refine EW_aload_n (pc2 := 11) rfl dX0_sendHome_10 0 rfl ?_
    refine AW_getr (r := 67) ⟨gfRX0_11, rfl⟩ (pc2 := 14) rfl dX0_sendHome_11 q66 rfl ?_
    refine EW_iload_n (pc2 := 15) rfl dX0_sendHome_14 1 rfl ?_
    obtain ⟨b1, h⟩ := h
    refine AW_aald6 (pc2 := 16) rfl dX0_sendHome_15 b1 ?_
    refine AW_geti ⟨gfRX0_75, rfl⟩ (pc2 := 19) rfl dX0_sendHome_16 (isW.o (isW_of b1)) ?_
    refine EW_iconst (pc2 := 20) (v := 2) rfl dX0_sendHome_19 (by decide) ?_
    refine EW_icmp_ne (tgt := 53) (pc2 := 23) rfl dX0_sendHome_20 (by decide) (fun q => ?_) (fun q => ?_)
    · replace h := h.1 q
      refine EW_iinc (v1 + 1) (pc2 := 56) rfl dX0_sendHome_53 1 rfl rfl (by decide) [1, 0] [(0, .ref 66), (1, .int (v1 + 1))] rfl ?_
      refine EW_goto (tgt := 2) dX0_sendHome_56 (by decide) ?_
      exact hL2 (v1 + 1) x h
    · replace h := h.2 q
      refine EW_aload_n (pc2 := 24) rfl dX0_sendHome_23 0 rfl ?_
      refine AW_getr (r := 9) ⟨gfRX0_49, rfl⟩ (pc2 := 27) rfl dX0_sendHome_24 q66 rfl ?_
      refine EW_aload_n (pc2 := 28) rfl dX0_sendHome_27 0 rfl ?_
      refine AW_getr (r := 67) ⟨gfRX0_11, rfl⟩ (pc2 := 31) rfl dX0_sendHome_28 q66 rfl ?_
      refine EW_iload_n (pc2 := 32) rfl dX0_sendHome_31 1 rfl ?_
      obtain ⟨b2, h⟩ := h
      refine AW_aald6 (pc2 := 33) rfl dX0_sendHome_32 b2 ?_
      refine AW_geti ⟨gfRX0_69, rfl⟩ (pc2 := 36) rfl dX0_sendHome_33 (isW.o (isW_of b2)) ?_
      refine AW_invV (M' := MX10_worstAt) [.int (x.1 (82 + Int32.toNatClampNeg v1) 9)] (rest := []) mlRX0_115 okX10_worstAt (pc2 := 39) rfl dX0_sendHome_36 rfl rfl (Nat.le_of_ble_eq_true rfl) (Nat.le_of_ble_eq_true rfl) (d' := 2) (by omega) q9 ⟨by decide, rfl⟩ (EW_mono (fun _ _ hr => ?_) (sX10_worstAt (x.1 (82 + Int32.toNatClampNeg v1) 9)  x _ _ 0 0 (Nat.le_refl _) h))
      obtain ⟨r3, rfl, rfl, h⟩ := hr
      refine EW_iconst (pc2 := 40) (v := (-1)) rfl dX0_sendHome_39 (by decide) ?_
      refine EW_icmp_ne (tgt := 53) (pc2 := 43) rfl dX0_sendHome_40 (by decide) (fun q => ?_) (fun q => ?_)
      · replace h := h.1 q
        refine EW_iinc (v1 + 1) (pc2 := 56) rfl dX0_sendHome_53 1 rfl rfl (by decide) [1, 0] [(0, .ref 66), (1, .int (v1 + 1))] rfl ?_
        refine EW_goto (tgt := 2) dX0_sendHome_56 (by decide) ?_
        exact hL2 (v1 + 1) x h
      · replace h := h.2 q
        refine EW_aload_n (pc2 := 44) rfl dX0_sendHome_43 0 rfl ?_
        refine EW_aload_n (pc2 := 45) rfl dX0_sendHome_44 0 rfl ?_
        refine AW_getr (r := 67) ⟨gfRX0_11, rfl⟩ (pc2 := 48) rfl dX0_sendHome_45 q66 rfl ?_
        refine EW_iload_n (pc2 := 49) rfl dX0_sendHome_48 1 rfl ?_
        obtain ⟨b4, h⟩ := h
        refine AW_aald6 (pc2 := 50) rfl dX0_sendHome_49 b4 ?_
        refine AW_invV (M' := MX0_turnHome) [.ref (82 + Int32.toNatClampNeg v1)] (rest := []) mlRX0_260 okX0_turnHome (pc2 := 53) rfl dX0_sendHome_50 rfl rfl (Nat.le_of_ble_eq_true rfl) (Nat.le_of_ble_eq_true rfl) (d' := 3) (by omega) q66 ⟨by decide, rfl⟩ (EW_mono (fun _ _ hr => ?_) (sX0_turnHome (82 + Int32.toNatClampNeg v1) (isW_of b4) x _ _ 0 0 (Nat.le_refl _) h))
        obtain ⟨x5, rfl, rfl, h⟩ := hr
        refine EW_iinc (v1 + 1) (pc2 := 56) rfl dX0_sendHome_53 1 rfl rfl (by decide) [1, 0] [(0, .ref 66), (1, .int (v1 + 1))] rfl ?_
        refine EW_goto (tgt := 2) dX0_sendHome_56 (by decide) ?_
        exact hL2 (v1 + 1) x5 h
set_option maxHeartbeats 4000000 in
set_option maxRecDepth 100000 in
def wX0_sendHome  (x : ab_X) (K : ab_X → Prop) : Prop := Lp2 (lX0_sendHome_2 K ) 0 x
set_option maxHeartbeats 4000000 in
set_option maxRecDepth 100000 in
theorem sX0_sendHome   (x : ab_X) (K : ab_X → Prop) (d bc bs : Nat) (hdp : 4 ≤ d) (h : wX0_sendHome  x K) : EW MX0_sendHome 0 [(0, .ref 66)] [] (aS x) d bc bs (liV K) := by
  unfold wX0_sendHome at h
  refine EW_iconst (pc2 := 1) (v := 0) rfl dX0_sendHome_0 (by decide) ?_
  refine EW_istore_n (pc2 := 2) rfl dX0_sendHome_1 (by decide) [1, 0] [(0, .ref 66), (1, .int 0)] rfl ?_
  exact sX0_sendHome_2 0 x K d bc bs hdp h
theorem gfRX0_387 : ab_L RX0 387 2 16 := ⟨by decide, by decide, ab_in 452 (by decide +kernel) (by decide +kernel)⟩
theorem gfRX0_390 : ab_L RX0 390 4 16 := ⟨by decide, by decide, ab_in 271 (by decide +kernel) (by decide +kernel)⟩
theorem gfRX0_42 : ab_L RX0 42 0 11 := ⟨by decide, by decide, ab_in 562 (by decide +kernel) (by decide +kernel)⟩
theorem gfRX0_384 : ab_L RX0 384 10 5 := ⟨by decide, by decide, ab_in 322 (by decide +kernel) (by decide +kernel)⟩
abbrev MX0_pour : ab_M := (yX0_pour, cX0_pour, 5, none)
theorem dX0_pour_0 : decode cX0_pour 0 = .ok (.aload_n 0, 1) := by decide +kernel
theorem dX0_pour_1 : decode cX0_pour 1 = .ok (.getfield 42, 3) := by decide +kernel
theorem dX0_pour_4 : decode cX0_pour 4 = .ok (.aload_n 1, 1) := by decide +kernel
theorem dX0_pour_5 : decode cX0_pour 5 = .ok (.getfield 332, 3) := by decide +kernel
theorem dX0_pour_8 : decode cX0_pour 8 = .ok (.iaload, 1) := by decide +kernel
theorem dX0_pour_9 : decode cX0_pour 9 = .ok (.istore_n 3, 1) := by decide +kernel
theorem dX0_pour_10 : decode cX0_pour 10 = .ok (.aload_n 0, 1) := by decide +kernel
theorem dX0_pour_11 : decode cX0_pour 11 = .ok (.getfield 49, 3) := by decide +kernel
theorem dX0_pour_14 : decode cX0_pour 14 = .ok (.getfield 384, 3) := by decide +kernel
theorem dX0_pour_17 : decode cX0_pour 17 = .ok (.aload_n 1, 1) := by decide +kernel
theorem dX0_pour_18 : decode cX0_pour 18 = .ok (.getfield 332, 3) := by decide +kernel
theorem dX0_pour_21 : decode cX0_pour 21 = .ok (.iaload, 1) := by decide +kernel
theorem dX0_pour_22 : decode cX0_pour 22 = .ok (.istore 4, 2) := by decide +kernel
theorem dX0_pour_24 : decode cX0_pour 24 = .ok (.aload_n 1, 1) := by decide +kernel
theorem dX0_pour_25 : decode cX0_pour 25 = .ok (.iload_n 3, 1) := by decide +kernel
theorem dX0_pour_26 : decode cX0_pour 26 = .ok (.iload 4, 2) := by decide +kernel
theorem dX0_pour_28 : decode cX0_pour 28 = .ok (.if_icmp .le 8, 3) := by decide +kernel
theorem dX0_pour_31 : decode cX0_pour 31 = .ok (.iload_n 3, 1) := by decide +kernel
theorem dX0_pour_32 : decode cX0_pour 32 = .ok (.iconst 1, 1) := by decide +kernel
theorem dX0_pour_33 : decode cX0_pour 33 = .ok (.if_icmp .ge 10, 3) := by decide +kernel
theorem dX0_pour_36 : decode cX0_pour 36 = .ok (.aload_n 1, 1) := by decide +kernel
theorem dX0_pour_37 : decode cX0_pour 37 = .ok (.getfield 338, 3) := by decide +kernel
theorem dX0_pour_40 : decode cX0_pour 40 = .ok (.goto 12, 3) := by decide +kernel
theorem dX0_pour_43 : decode cX0_pour 43 = .ok (.aload_n 1, 1) := by decide +kernel
theorem dX0_pour_44 : decode cX0_pour 44 = .ok (.getfield 338, 3) := by decide +kernel
theorem dX0_pour_47 : decode cX0_pour 47 = .ok (.iload 4, 2) := by decide +kernel
theorem dX0_pour_49 : decode cX0_pour 49 = .ok (.imul, 1) := by decide +kernel
theorem dX0_pour_50 : decode cX0_pour 50 = .ok (.iload_n 3, 1) := by decide +kernel
theorem dX0_pour_51 : decode cX0_pour 51 = .ok (.idiv, 1) := by decide +kernel
theorem dX0_pour_52 : decode cX0_pour 52 = .ok (.putfield 387, 3) := by decide +kernel
theorem dX0_pour_55 : decode cX0_pour 55 = .ok (.aload_n 0, 1) := by decide +kernel
theorem dX0_pour_56 : decode cX0_pour 56 = .ok (.getfield 49, 3) := by decide +kernel
theorem dX0_pour_59 : decode cX0_pour 59 = .ok (.getfield 100, 3) := by decide +kernel
theorem dX0_pour_62 : decode cX0_pour 62 = .ok (.getfield 347, 3) := by decide +kernel
theorem dX0_pour_65 : decode cX0_pour 65 = .ok (.aload_n 2, 1) := by decide +kernel
theorem dX0_pour_66 : decode cX0_pour 66 = .ok (.aload_n 1, 1) := by decide +kernel
theorem dX0_pour_67 : decode cX0_pour 67 = .ok (.getfield 326, 3) := by decide +kernel
theorem dX0_pour_70 : decode cX0_pour 70 = .ok (.invokevirtual 350, 3) := by decide +kernel
theorem dX0_pour_73 : decode cX0_pour 73 = .ok (.dup2, 1) := by decide +kernel
theorem dX0_pour_74 : decode cX0_pour 74 = .ok (.iaload, 1) := by decide +kernel
theorem dX0_pour_75 : decode cX0_pour 75 = .ok (.aload_n 1, 1) := by decide +kernel
theorem dX0_pour_76 : decode cX0_pour 76 = .ok (.getfield 387, 3) := by decide +kernel
theorem dX0_pour_79 : decode cX0_pour 79 = .ok (.iadd, 1) := by decide +kernel
theorem dX0_pour_80 : decode cX0_pour 80 = .ok (.iastore, 1) := by decide +kernel
theorem dX0_pour_81 : decode cX0_pour 81 = .ok (.aload_n 2, 1) := by decide +kernel
theorem dX0_pour_82 : decode cX0_pour 82 = .ok (.dup, 1) := by decide +kernel
theorem dX0_pour_83 : decode cX0_pour 83 = .ok (.getfield 390, 3) := by decide +kernel
theorem dX0_pour_86 : decode cX0_pour 86 = .ok (.aload_n 1, 1) := by decide +kernel
theorem dX0_pour_87 : decode cX0_pour 87 = .ok (.getfield 387, 3) := by decide +kernel
theorem dX0_pour_90 : decode cX0_pour 90 = .ok (.iadd, 1) := by decide +kernel
theorem dX0_pour_91 : decode cX0_pour 91 = .ok (.putfield 390, 3) := by decide +kernel
theorem dX0_pour_94 : decode cX0_pour 94 = .ok (.return_, 1) := by decide +kernel
theorem okX0_pour : ab_okM MX0_pour 2 := ⟨by decide, ⟨by decide, by decide⟩, ab_in 1436 (by decide +kernel) (by decide +kernel), ab_in 92 (by decide +kernel) (by decide +kernel), by decide +kernel, by decide⟩
set_option maxHeartbeats 4000000 in
set_option maxRecDepth 100000 in
def wX0_pour_52 (v1 : Nat) (v2 : Nat) (s0 : Nat) (s1 : Int32) (x : ab_X) (K : ab_X → Prop)  : Prop := wX4_place v2 ((wr x s0 16 s1).1 v1 19) (wr x s0 16 s1) (fun r3 => (vp_in r3 288 ∧ vp_in r3 288 ∧ K (wr (wr (wr x s0 16 s1) 14 (Int32.toNatClampNeg r3) (((wr x s0 16 s1).1 14 (Int32.toNatClampNeg r3)) + ((wr x s0 16 s1).1 v1 16))) v2 16 (((wr (wr x s0 16 s1) 14 (Int32.toNatClampNeg r3) (((wr x s0 16 s1).1 14 (Int32.toNatClampNeg r3)) + ((wr x s0 16 s1).1 v1 16))).1 v2 16) + ((wr (wr x s0 16 s1) 14 (Int32.toNatClampNeg r3) (((wr x s0 16 s1).1 14 (Int32.toNatClampNeg r3)) + ((wr x s0 16 s1).1 v1 16))).1 v1 16)))))
set_option maxHeartbeats 4000000 in
set_option maxRecDepth 100000 in
theorem sX0_pour_52 (v1 : Nat) (v2 : Nat) (s0 : Nat) (s1 : Int32) (hv1 : isW v1) (hv2 : isH v2) (hs0 : isW s0) (x : ab_X) (K : ab_X → Prop)  (d bc bs : Nat) (hdp : 1 ≤ d)  (h : wX0_pour_52 v1 v2 s0 s1 x K ) : EW MX0_pour 52 [(0, .ref 66), (1, .ref v1), (2, .ref v2)] [.int s1, .ref s0] (aS x) d bc bs (liV K) := by
  unfold wX0_pour_52 at h
  refine AW_puti ⟨gfRX0_387, rfl, rfl⟩ (pc2 := 55) rfl dX0_pour_52 (isW.o hs0) ?_
  refine EW_aload_n (pc2 := 56) rfl dX0_pour_55 0 rfl ?_
  refine AW_getr (r := 9) ⟨gfRX0_49, rfl⟩ (pc2 := 59) rfl dX0_pour_56 q66 rfl ?_
  refine AW_getr (r := 11) ⟨gfRX0_100, rfl⟩ (pc2 := 62) rfl dX0_pour_59 q9 rfl ?_
  refine AW_getr (r := 14) ⟨gfRX0_347, rfl⟩ (pc2 := 65) rfl dX0_pour_62 q11 rfl ?_
  refine EW_aload_n (pc2 := 66) rfl dX0_pour_65 2 rfl ?_
  refine EW_aload_n (pc2 := 67) rfl dX0_pour_66 1 rfl ?_
  refine AW_geti ⟨gfRX0_326, rfl⟩ (pc2 := 70) rfl dX0_pour_67 (isW.o hv1) ?_
  refine AW_invV (M' := MX4_place) [.int ((wr x s0 16 s1).1 v1 19)] (rest := [.ref 14]) mlRX0_350 okX4_place (pc2 := 73) rfl dX0_pour_70 rfl rfl (Nat.le_of_ble_eq_true rfl) (Nat.le_of_ble_eq_true rfl) (d' := 0) (by omega) (isH.o hv2) ⟨by decide, rfl⟩ (EW_mono (fun _ _ hr => ?_) (sX4_place v2 ((wr x s0 16 s1).1 v1 19) hv2 (wr x s0 16 s1) _ _ 0 0 (Nat.le_refl _) h))
  obtain ⟨r3, rfl, rfl, h⟩ := hr
  refine EW_dup2 (pc2 := 74) rfl dX0_pour_73 rfl rfl ?_
  obtain ⟨b4, h⟩ := h
  refine AW_iald (pc2 := 75) rfl dX0_pour_74 q14 b4 ?_
  refine EW_aload_n (pc2 := 76) rfl dX0_pour_75 1 rfl ?_
  refine AW_geti ⟨gfRX0_387, rfl⟩ (pc2 := 79) rfl dX0_pour_76 (isW.o hv1) ?_
  refine EW_iadd (pc2 := 80) rfl dX0_pour_79 ?_
  obtain ⟨b5, h⟩ := h
  refine AW_iast (pc2 := 81) rfl dX0_pour_80 q14 b5 ?_
  refine EW_aload_n (pc2 := 82) rfl dX0_pour_81 2 rfl ?_
  refine EW_dup (pc2 := 83) rfl dX0_pour_82 rfl ?_
  refine AW_geti ⟨gfRX0_390, rfl⟩ (pc2 := 86) rfl dX0_pour_83 (isH.o hv2) ?_
  refine EW_aload_n (pc2 := 87) rfl dX0_pour_86 1 rfl ?_
  refine AW_geti ⟨gfRX0_387, rfl⟩ (pc2 := 90) rfl dX0_pour_87 (isW.o hv1) ?_
  refine EW_iadd (pc2 := 91) rfl dX0_pour_90 ?_
  refine AW_puti ⟨gfRX0_390, rfl, rfl⟩ (pc2 := 94) rfl dX0_pour_91 (isH.o hv2) ?_
  exact EW_vret rfl dX0_pour_94 ⟨_, rfl, rfl, h⟩
set_option maxHeartbeats 4000000 in
set_option maxRecDepth 100000 in
def wX0_pour_36 (v1 : Nat) (v2 : Nat) (s0 : Nat) (x : ab_X) (K : ab_X → Prop)  : Prop := wX0_pour_52 v1 v2 s0 (x.1 v1 17) x K
set_option maxHeartbeats 4000000 in
set_option maxRecDepth 100000 in
theorem sX0_pour_36 (v1 : Nat) (v2 : Nat) (s0 : Nat) (hv1 : isW v1) (hv2 : isH v2) (hs0 : isW s0) (x : ab_X) (K : ab_X → Prop)  (d bc bs : Nat) (hdp : 1 ≤ d)  (h : wX0_pour_36 v1 v2 s0 x K ) : EW MX0_pour 36 [(0, .ref 66), (1, .ref v1), (2, .ref v2)] [.ref s0] (aS x) d bc bs (liV K) := by
  unfold wX0_pour_36 at h
  refine EW_aload_n (pc2 := 37) rfl dX0_pour_36 1 rfl ?_
  refine AW_geti ⟨gfRX0_338, rfl⟩ (pc2 := 40) rfl dX0_pour_37 (isW.o hv1) ?_
  refine EW_goto (tgt := 52) dX0_pour_40 (by decide) ?_
  exact sX0_pour_52 v1 v2 s0 (x.1 v1 17) hv1 hv2 hs0 x K d bc bs hdp h
set_option maxHeartbeats 4000000 in
set_option maxRecDepth 100000 in
def wX0_pour (v1 : Nat) (v2 : Nat) (x : ab_X) (K : ab_X → Prop) : Prop := (vp_in (x.1 v1 18) 6 ∧ vp_in (x.1 v1 18) 6 ∧ (((x.1 81 (Int32.toNatClampNeg (x.1 v1 18))) ≤ (x.1 27 (Int32.toNatClampNeg (x.1 v1 18))) → wX0_pour_36 v1 v2 v1 x K) ∧ (¬ (x.1 81 (Int32.toNatClampNeg (x.1 v1 18))) ≤ (x.1 27 (Int32.toNatClampNeg (x.1 v1 18))) → ((1 ≤ (x.1 81 (Int32.toNatClampNeg (x.1 v1 18))) → (¬ (x.1 81 (Int32.toNatClampNeg (x.1 v1 18))) = 0 ∧ wX0_pour_52 v1 v2 v1 (((x.1 v1 17) * (x.1 27 (Int32.toNatClampNeg (x.1 v1 18)))) / (x.1 81 (Int32.toNatClampNeg (x.1 v1 18)))) x K)) ∧ (¬ 1 ≤ (x.1 81 (Int32.toNatClampNeg (x.1 v1 18))) → wX0_pour_36 v1 v2 v1 x K)))))
set_option maxHeartbeats 4000000 in
set_option maxRecDepth 100000 in
theorem sX0_pour (v1 : Nat) (v2 : Nat) (hv1 : isW v1) (hv2 : isH v2) (x : ab_X) (K : ab_X → Prop) (d bc bs : Nat) (hdp : 1 ≤ d) (h : wX0_pour v1 v2 x K) : EW MX0_pour 0 [(0, .ref 66), (1, .ref v1), (2, .ref v2)] [] (aS x) d bc bs (liV K) := by
  unfold wX0_pour at h
  refine EW_aload_n (pc2 := 1) rfl dX0_pour_0 0 rfl ?_
  refine AW_getr (r := 81) ⟨gfRX0_42, rfl⟩ (pc2 := 4) rfl dX0_pour_1 q66 rfl ?_
  refine EW_aload_n (pc2 := 5) rfl dX0_pour_4 1 rfl ?_
  refine AW_geti ⟨gfRX0_332, rfl⟩ (pc2 := 8) rfl dX0_pour_5 (isW.o hv1) ?_
  obtain ⟨b1, h⟩ := h
  refine AW_iald (pc2 := 9) rfl dX0_pour_8 q81 b1 ?_
  refine EW_istore_n (pc2 := 10) rfl dX0_pour_9 (by decide) [1, 2, 3, 0] [(0, .ref 66), (1, .ref v1), (2, .ref v2), (3, .int (x.1 81 (Int32.toNatClampNeg (x.1 v1 18))))] rfl ?_
  refine EW_aload_n (pc2 := 11) rfl dX0_pour_10 0 rfl ?_
  refine AW_getr (r := 9) ⟨gfRX0_49, rfl⟩ (pc2 := 14) rfl dX0_pour_11 q66 rfl ?_
  refine AW_getr (r := 27) ⟨gfRX0_384, rfl⟩ (pc2 := 17) rfl dX0_pour_14 q9 rfl ?_
  refine EW_aload_n (pc2 := 18) rfl dX0_pour_17 1 rfl ?_
  refine AW_geti ⟨gfRX0_332, rfl⟩ (pc2 := 21) rfl dX0_pour_18 (isW.o hv1) ?_
  obtain ⟨b2, h⟩ := h
  refine AW_iald (pc2 := 22) rfl dX0_pour_21 q27 b2 ?_
  refine EW_istore (pc2 := 24) rfl dX0_pour_22 (by decide) [1, 2, 3, 4, 0] [(0, .ref 66), (1, .ref v1), (2, .ref v2), (3, .int (x.1 81 (Int32.toNatClampNeg (x.1 v1 18)))), (4, .int (x.1 27 (Int32.toNatClampNeg (x.1 v1 18))))] rfl ?_
  refine EW_aload_n (pc2 := 25) rfl dX0_pour_24 1 rfl ?_
  refine EW_iload_n (pc2 := 26) rfl dX0_pour_25 3 rfl ?_
  refine EW_iload (pc2 := 28) rfl dX0_pour_26 4 rfl ?_
  refine EW_icmp_le (tgt := 36) (pc2 := 31) rfl dX0_pour_28 (by decide) (fun q => ?_) (fun q => ?_)
  · replace h := h.1 q
    refine EW_ls [0, 1, 2] rfl ?_
    exact sX0_pour_36 v1 v2 v1 hv1 hv2 hv1 x K d bc bs hdp h
  · replace h := h.2 q
    refine EW_iload_n (pc2 := 32) rfl dX0_pour_31 3 rfl ?_
    refine EW_iconst (pc2 := 33) (v := 1) rfl dX0_pour_32 (by decide) ?_
    refine EW_icmp_ge (tgt := 43) (pc2 := 36) rfl dX0_pour_33 (by decide) (fun q => ?_) (fun q => ?_)
    · replace h := h.1 q
      refine EW_aload_n (pc2 := 44) rfl dX0_pour_43 1 rfl ?_
      refine AW_geti ⟨gfRX0_338, rfl⟩ (pc2 := 47) rfl dX0_pour_44 (isW.o hv1) ?_
      refine EW_iload (pc2 := 49) rfl dX0_pour_47 4 rfl ?_
      refine EW_imul (pc2 := 50) rfl dX0_pour_49 ?_
      refine EW_iload_n (pc2 := 51) rfl dX0_pour_50 3 rfl ?_
      obtain ⟨hz, h⟩ := h
      refine EW_idiv (pc2 := 52) rfl dX0_pour_51 hz ?_
      refine EW_ls [0, 1, 2] rfl ?_
      exact sX0_pour_52 v1 v2 v1 (((x.1 v1 17) * (x.1 27 (Int32.toNatClampNeg (x.1 v1 18)))) / (x.1 81 (Int32.toNatClampNeg (x.1 v1 18)))) hv1 hv2 hv1 x K d bc bs hdp h
    · replace h := h.2 q
      refine EW_ls [0, 1, 2] rfl ?_
      exact sX0_pour_36 v1 v2 v1 hv1 hv2 hv1 x K d bc bs hdp h
theorem gfRX3_18 : ab_L RX3 18 3 2 := ⟨by decide, by decide, ab_in 180 (by decide +kernel) (by decide +kernel)⟩
theorem mlRX3_44 : Cond.methodLink RX3 44 yJ7_fill_53178 ∈ ab_G ∧ Cond.static yJ7_fill_53178 ∈ ab_G := ⟨ab_in 1386 (by decide +kernel) (by decide +kernel), ab_in 128 (by decide +kernel) (by decide +kernel)⟩
abbrev MX3_dry : ab_M := (yX3_dry, cX3_dry, 1, none)
theorem dX3_dry_0 : decode cX3_dry 0 = .ok (.aload_n 0, 1) := by decide +kernel
theorem dX3_dry_1 : decode cX3_dry 1 = .ok (.getfield 34, 3) := by decide +kernel
theorem dX3_dry_4 : decode cX3_dry 4 = .ok (.ifCond .ne 11, 3) := by decide +kernel
theorem dX3_dry_7 : decode cX3_dry 7 = .ok (.aload_n 0, 1) := by decide +kernel
theorem dX3_dry_8 : decode cX3_dry 8 = .ok (.getfield 18, 3) := by decide +kernel
theorem dX3_dry_11 : decode cX3_dry 11 = .ok (.iconst 0, 1) := by decide +kernel
theorem dX3_dry_12 : decode cX3_dry 12 = .ok (.invokestatic 44, 3) := by decide +kernel
theorem dX3_dry_15 : decode cX3_dry 15 = .ok (.return_, 1) := by decide +kernel
theorem okX3_dry : ab_okM MX3_dry 0 := ⟨by decide, ⟨by decide, by decide⟩, ab_in 1385 (by decide +kernel) (by decide +kernel), ab_in 90 (by decide +kernel) (by decide +kernel), by decide +kernel, by decide⟩
set_option maxHeartbeats 4000000 in
set_option maxRecDepth 100000 in
def wX3_dry (v0 : Nat) (x : ab_X) (K : ab_X → Prop) : Prop := ((¬ (x.1 v0 7) = 0 → K x) ∧ ((x.1 v0 7) = 0 → wJ7_fill_53178 (v0 + 3) 288 0 x (fun x1 => K x1)))
set_option maxHeartbeats 4000000 in
set_option maxRecDepth 100000 in
theorem sX3_dry (v0 : Nat) (hv0 : isF v0) (x : ab_X) (K : ab_X → Prop) (d bc bs : Nat) (hdp : 1 ≤ d) (h : wX3_dry v0 x K) : EW MX3_dry 0 [(0, .ref v0)] [] (aS x) d bc bs (liV K) := by
  unfold wX3_dry at h
  refine EW_aload_n (pc2 := 1) rfl dX3_dry_0 0 rfl ?_
  refine AW_geti ⟨gfRX3_34, rfl⟩ (pc2 := 4) rfl dX3_dry_1 (isF.o hv0) ?_
  refine EW_if_ne (tgt := 15) (pc2 := 7) rfl dX3_dry_4 (by decide) (fun q => ?_) (fun q => ?_)
  · replace h := h.1 q
    exact EW_vret rfl dX3_dry_15 ⟨_, rfl, rfl, h⟩
  · replace h := h.2 q
    refine EW_aload_n (pc2 := 8) rfl dX3_dry_7 0 rfl ?_
    refine AW_getr (r := (v0 + 3)) ⟨gfRX3_18, rfl⟩ (pc2 := 11) rfl dX3_dry_8 (isF.o hv0) (isF.r2 hv0) ?_
    refine EW_iconst (pc2 := 12) (v := 0) rfl dX3_dry_11 (by decide) ?_
    refine AW_invS (M' := MJ7_fill_53178) [.ref (v0 + 3), .int 0] (rest := []) mlRX3_44 okJ7_fill_53178 (pc2 := 15) rfl dX3_dry_12 rfl rfl (Nat.le_of_ble_eq_true rfl) (Nat.le_of_ble_eq_true rfl) (d' := 0) (by omega) (EW_mono (fun _ _ hr => ?_) (sJ7_fill_53178 (v0 + 3) 288 0 (isF.a2 hv0) x _ _ 0 0 (Nat.le_refl _) h))
    obtain ⟨x1, rfl, rfl, h⟩ := hr
    exact EW_vret rfl dX3_dry_15 ⟨_, rfl, rfl, h⟩
