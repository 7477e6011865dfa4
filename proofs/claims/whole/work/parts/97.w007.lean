theorem gfRX10_65 : ab_L RX10 65 4 10 := ⟨by decide, by decide, ab_in 252 (by decide +kernel) (by decide +kernel)⟩
theorem gfRX10_68 : ab_L RX10 68 4 11 := ⟨by decide, by decide, ab_in 255 (by decide +kernel) (by decide +kernel)⟩
abbrev MX10_add : ab_M := (yX10_add, cX10_add, 4, (some (.object "CityBrigade$House")))
theorem dX10_add_0 : decode cX10_add 0 = .ok (.aload_n 0, 1) := by decide +kernel
theorem dX10_add_1 : decode cX10_add 1 = .ok (.getfield 11, 3) := by decide +kernel
theorem dX10_add_4 : decode cX10_add 4 = .ok (.aload_n 0, 1) := by decide +kernel
theorem dX10_add_5 : decode cX10_add 5 = .ok (.getfield 44, 3) := by decide +kernel
theorem dX10_add_8 : decode cX10_add 8 = .ok (.aaload, 1) := by decide +kernel
theorem dX10_add_9 : decode cX10_add 9 = .ok (.astore_n 2, 1) := by decide +kernel
theorem dX10_add_10 : decode cX10_add 10 = .ok (.aload_n 2, 1) := by decide +kernel
theorem dX10_add_11 : decode cX10_add 11 = .ok (.iload_n 1, 1) := by decide +kernel
theorem dX10_add_12 : decode cX10_add 12 = .ok (.putfield 62, 3) := by decide +kernel
theorem dX10_add_15 : decode cX10_add 15 = .ok (.iconst 0, 1) := by decide +kernel
theorem dX10_add_16 : decode cX10_add 16 = .ok (.istore_n 3, 1) := by decide +kernel
theorem dX10_add_17 : decode cX10_add 17 = .ok (.iload_n 3, 1) := by decide +kernel
theorem dX10_add_18 : decode cX10_add 18 = .ok (.aload_n 0, 1) := by decide +kernel
theorem dX10_add_19 : decode cX10_add 19 = .ok (.getfield 44, 3) := by decide +kernel
theorem dX10_add_22 : decode cX10_add 22 = .ok (.if_icmp .ge 27, 3) := by decide +kernel
theorem dX10_add_25 : decode cX10_add 25 = .ok (.aload_n 0, 1) := by decide +kernel
theorem dX10_add_26 : decode cX10_add 26 = .ok (.getfield 11, 3) := by decide +kernel
theorem dX10_add_29 : decode cX10_add 29 = .ok (.iload_n 3, 1) := by decide +kernel
theorem dX10_add_30 : decode cX10_add 30 = .ok (.aaload, 1) := by decide +kernel
theorem dX10_add_31 : decode cX10_add 31 = .ok (.getfield 62, 3) := by decide +kernel
theorem dX10_add_34 : decode cX10_add 34 = .ok (.iload_n 1, 1) := by decide +kernel
theorem dX10_add_35 : decode cX10_add 35 = .ok (.if_icmp .ne 8, 3) := by decide +kernel
theorem dX10_add_38 : decode cX10_add 38 = .ok (.aload_n 2, 1) := by decide +kernel
theorem dX10_add_39 : decode cX10_add 39 = .ok (.iload_n 3, 1) := by decide +kernel
theorem dX10_add_40 : decode cX10_add 40 = .ok (.putfield 65, 3) := by decide +kernel
theorem dX10_add_43 : decode cX10_add 43 = .ok (.iinc 3 1, 3) := by decide +kernel
theorem dX10_add_46 : decode cX10_add 46 = .ok (.goto (-29), 3) := by decide +kernel
theorem dX10_add_49 : decode cX10_add 49 = .ok (.aload_n 0, 1) := by decide +kernel
theorem dX10_add_50 : decode cX10_add 50 = .ok (.aload_n 2, 1) := by decide +kernel
theorem dX10_add_51 : decode cX10_add 51 = .ok (.getfield 65, 3) := by decide +kernel
theorem dX10_add_54 : decode cX10_add 54 = .ok (.invokevirtual 52, 3) := by decide +kernel
theorem dX10_add_57 : decode cX10_add 57 = .ok (.ifCond .eq 19, 3) := by decide +kernel
theorem dX10_add_60 : decode cX10_add 60 = .ok (.aload_n 0, 1) := by decide +kernel
theorem dX10_add_61 : decode cX10_add 61 = .ok (.getfield 11, 3) := by decide +kernel
theorem dX10_add_64 : decode cX10_add 64 = .ok (.aload_n 2, 1) := by decide +kernel
theorem dX10_add_65 : decode cX10_add 65 = .ok (.getfield 65, 3) := by decide +kernel
theorem dX10_add_68 : decode cX10_add 68 = .ok (.aaload, 1) := by decide +kernel
theorem dX10_add_69 : decode cX10_add 69 = .ok (.aload_n 0, 1) := by decide +kernel
theorem dX10_add_70 : decode cX10_add 70 = .ok (.getfield 44, 3) := by decide +kernel
theorem dX10_add_73 : decode cX10_add 73 = .ok (.putfield 68, 3) := by decide +kernel
theorem dX10_add_76 : decode cX10_add 76 = .ok (.aload_n 0, 1) := by decide +kernel
theorem dX10_add_77 : decode cX10_add 77 = .ok (.dup, 1) := by decide +kernel
theorem dX10_add_78 : decode cX10_add 78 = .ok (.getfield 44, 3) := by decide +kernel
theorem dX10_add_81 : decode cX10_add 81 = .ok (.iconst 1, 1) := by decide +kernel
theorem dX10_add_82 : decode cX10_add 82 = .ok (.iadd, 1) := by decide +kernel
theorem dX10_add_83 : decode cX10_add 83 = .ok (.putfield 44, 3) := by decide +kernel
theorem dX10_add_86 : decode cX10_add 86 = .ok (.aload_n 2, 1) := by decide +kernel
theorem dX10_add_87 : decode cX10_add 87 = .ok (.areturn, 1) := by decide +kernel
theorem okX10_add : ab_okM MX10_add 1 := ⟨by decide, ⟨by decide, by decide⟩, ab_in 832 (by decide +kernel) (by decide +kernel), ab_in 89 (by decide +kernel) (by decide +kernel), by decide +kernel, by decide⟩
set_option maxHeartbeats 4000000 in
set_option maxRecDepth 100000 in
theorem sX10_add_76 (v2 : Nat) (hv2 : isH v2) (x : ab_X) (K : Nat → ab_X → Prop)  (d bc bs : Nat) (hdp : 2 ≤ d)  (h : wX10_add_76 v2 x K ) : EW MX10_add 76 [(0, .ref 9), (2, .ref v2)] [] (aS x) d bc bs (liR K) := by
  unfold wX10_add_76 at h
  refine EW_aload_n (pc2 := 77) rfl dX10_add_76 0 rfl ?_
  refine EW_dup (pc2 := 78) rfl dX10_add_77 rfl ?_
  refine AW_geti ⟨gfRX10_44, rfl⟩ (pc2 := 81) rfl dX10_add_78 q9 ?_
  refine EW_iconst (pc2 := 82) (v := 1) rfl dX10_add_81 (by decide) ?_
  refine EW_iadd (pc2 := 83) rfl dX10_add_82 ?_
  refine AW_puti ⟨gfRX10_44, rfl, rfl⟩ (pc2 := 86) rfl dX10_add_83 q9 ?_
  refine EW_aload_n (pc2 := 87) rfl dX10_add_86 1 rfl ?_
  exact EW_aret rfl (Or.inl ⟨_, rfl⟩) dX10_add_87 ⟨_, _, rfl, rfl, h⟩
set_option maxHeartbeats 4000000 in
set_option maxRecDepth 100000 in
theorem sX10_add_17 (v1 : Int32) (v2 : Nat) (v3 : Int32) (hv2 : isH v2) (x : ab_X) (K : Nat → ab_X → Prop)  (d bc bs : Nat) (hdp : 2 ≤ d)  (h : Lp2 (lX10_add_17 v1 v2 K ) v3 x) : EW MX10_add 17 [(0, .ref 9), (1, .int v1), (2, .ref v2), (3, .int v3)] [] (aS x) d bc bs (liR K) := by
  refine Lp2.use (P := fun v3 x => EW MX10_add 17 [(0, .ref 9), (1, .int v1), (2, .ref v2), (3, .int v3)] [] (aS x) d bc bs (liR K)) (fun L17 v3 x hL17 h => ?_) v3 x h
  unfold lX10_add_17 at h
  refine EW_iload_n (pc2 := 18) rfl dX10_add_17 3 rfl ?_
  refine EW_aload_n (pc2 := 19) rfl dX10_add_18 0 rfl ?_
  refine AW_geti ⟨gfRX10_44, rfl⟩ (pc2 := 22) rfl dX10_add_19 q9 ?_
  refine EW_icmp_ge (tgt := 49) (pc2 := 25) rfl dX10_add_22 (by decide) (fun q => ?_) (fun q => ?_)
  · replace h := h.1 q
    refine EW_aload_n (pc2 := 50) rfl dX10_add_49 0 rfl ?_
    refine EW_aload_n (pc2 := 51) rfl dX10_add_50 2 rfl ?_
    refine AW_geti ⟨gfRX10_65, rfl⟩ (pc2 := 54) rfl dX10_add_51 (isH.o hv2) ?_
    refine AW_invV (M' := MX10_has) [.int (x.1 v2 10)] (rest := []) mlRX10_52 okX10_has (pc2 := 57) rfl dX10_add_54 rfl rfl (Nat.le_of_ble_eq_true rfl) (Nat.le_of_ble_eq_true rfl) (d' := 1) (by omega) q9 ⟨by decide, rfl⟩ (EW_mono (fun _ _ hr => ?_) (sX10_has (x.1 v2 10)  x _ _ 0 0 (Nat.le_refl _) h))
    obtain ⟨r2, rfl, rfl, h⟩ := hr
    refine EW_if_eq (tgt := 76) (pc2 := 60) rfl dX10_add_57 (by decide) (fun q => ?_) (fun q => ?_)
    · replace h := h.1 q
      refine EW_ls [0, 2] rfl ?_
      exact sX10_add_76 v2 hv2 x K d bc bs hdp h
    · replace h := h.2 q
      refine EW_aload_n (pc2 := 61) rfl dX10_add_60 0 rfl ?_
      refine AW_getr (r := 10) ⟨gfRX10_11, rfl⟩ (pc2 := 64) rfl dX10_add_61 q9 rfl ?_
      refine EW_aload_n (pc2 := 65) rfl dX10_add_64 2 rfl ?_
      refine AW_geti ⟨gfRX10_65, rfl⟩ (pc2 := 68) rfl dX10_add_65 (isH.o hv2) ?_
      obtain ⟨b3, h⟩ := h
      refine AW_aald5 (pc2 := 69) rfl dX10_add_68 b3 ?_
      refine EW_aload_n (pc2 := 70) rfl dX10_add_69 0 rfl ?_
      refine AW_geti ⟨gfRX10_44, rfl⟩ (pc2 := 73) rfl dX10_add_70 q9 ?_
      refine AW_puti ⟨gfRX10_68, rfl, rfl⟩ (pc2 := 76) rfl dX10_add_73 (isH.o (isH_of b3)) ?_
      refine EW_ls [0, 2] rfl ?_
      exact sX10_add_76 v2 hv2 (wr x (30 + 3 * Int32.toNatClampNeg (x.1 v2 10)) 11 (x.1 9 2)) K d bc bs hdp h
  · replace h := h.2 q
    refine EW_aload_n (pc2 := 26) rfl dX10_add_25 0 rfl ?_
    refine AW_getr (r := 10) ⟨gfRX10_11, rfl⟩ (pc2 := 29) rfl dX10_add_26 q9 rfl ?_
    refine EW_iload_n (pc2 := 30) rfl dX10_add_29 3 rfl ?_
    obtain ⟨b4, h⟩ := h
    refine AW_aald5 (pc2 := 31) rfl dX10_add_30 b4 ?_
    refine AW_geti ⟨gfRX10_62, rfl⟩ (pc2 := 34) rfl dX10_add_31 (isH.o (isH_of b4)) ?_
    refine EW_iload_n (pc2 := 35) rfl dX10_add_34 1 rfl ?_
    refine EW_icmp_ne (tgt := 43) (pc2 := 38) rfl dX10_add_35 (by decide) (fun q => ?_) (fun q => ?_)
    · replace h := h.1 q
      refine EW_iinc (v3 + 1) (pc2 := 46) rfl dX10_add_43 3 rfl rfl (by decide) [1, 2, 3, 0] [(0, .ref 9), (1, .int v1), (2, .ref v2), (3, .int (v3 + 1))] rfl ?_
      refine EW_goto (tgt := 17) dX10_add_46 (by decide) ?_
      exact hL17 (v3 + 1) x h
    · replace h := h.2 q
      refine EW_aload_n (pc2 := 39) rfl dX10_add_38 2 rfl ?_
      refine EW_iload_n (pc2 := 40) rfl dX10_add_39 3 rfl ?_
      refine AW_puti ⟨gfRX10_65, rfl, rfl⟩ (pc2 := 43) rfl dX10_add_40 (isH.o hv2) ?_
      refine EW_iinc (v3 + 1) (pc2 := 46) rfl dX10_add_43 3 rfl rfl (by decide) [1, 2, 3, 0] [(0, .ref 9), (1, .int v1), (2, .ref v2), (3, .int (v3 + 1))] rfl ?_
      refine EW_goto (tgt := 17) dX10_add_46 (by decide) ?_
      exact hL17 (v3 + 1) (wr x v2 10 v3) h
set_option maxHeartbeats 4000000 in
set_option maxRecDepth 100000 in
theorem sX10_add (v1 : Int32)  (x : ab_X) (K : Nat → ab_X → Prop) (d bc bs : Nat) (hdp : 2 ≤ d) (h : wX10_add v1 x K) : EW MX10_add 0 [(0, .ref 9), (1, .int v1)] [] (aS x) d bc bs (liR K) := by
  unfold wX10_add at h
  refine EW_aload_n (pc2 := 1) rfl dX10_add_0 0 rfl ?_
  refine AW_getr (r := 10) ⟨gfRX10_11, rfl⟩ (pc2 := 4) rfl dX10_add_1 q9 rfl ?_
  refine EW_aload_n (pc2 := 5) rfl dX10_add_4 0 rfl ?_
  refine AW_geti ⟨gfRX10_44, rfl⟩ (pc2 := 8) rfl dX10_add_5 q9 ?_
  obtain ⟨b1, h⟩ := h
  refine AW_aald5 (pc2 := 9) rfl dX10_add_8 b1 ?_
  refine EW_astore_n (pc2 := 10) rfl dX10_add_9 (by decide) [1, 2, 0] [(0, .ref 9), (1, .int v1), (2, .ref (30 + 3 * Int32.toNatClampNeg (x.1 9 2)))] rfl ?_
  refine EW_aload_n (pc2 := 11) rfl dX10_add_10 2 rfl ?_
  refine EW_iload_n (pc2 := 12) rfl dX10_add_11 1 rfl ?_
  refine AW_puti ⟨gfRX10_62, rfl, rfl⟩ (pc2 := 15) rfl dX10_add_12 (isH.o (isH_of b1)) ?_
  refine EW_iconst (pc2 := 16) (v := 0) rfl dX10_add_15 (by decide) ?_
  refine EW_istore_n (pc2 := 17) rfl dX10_add_16 (by decide) [1, 2, 3, 0] [(0, .ref 9), (1, .int v1), (2, .ref (30 + 3 * Int32.toNatClampNeg (x.1 9 2))), (3, .int 0)] rfl ?_
  exact sX10_add_17 v1 (30 + 3 * Int32.toNatClampNeg (x.1 9 2)) 0 (isH_of b1) (wr x (30 + 3 * Int32.toNatClampNeg (x.1 9 2)) 1 v1) K d bc bs hdp h
theorem gfRX10_34 : ab_L RX10 34 10 8 := ⟨by decide, by decide, ab_in 326 (by decide +kernel) (by decide +kernel)⟩
abbrev MX10_addHead : ab_M := (yX10_addHead, cX10_addHead, 3, (some .int))
theorem dX10_addHead_0 : decode cX10_addHead 0 = .ok (.aload_n 0, 1) := by decide +kernel
theorem dX10_addHead_1 : decode cX10_addHead 1 = .ok (.getfield 74, 3) := by decide +kernel
theorem dX10_addHead_4 : decode cX10_addHead 4 = .ok (.bipush 20, 2) := by decide +kernel
theorem dX10_addHead_6 : decode cX10_addHead 6 = .ok (.if_icmp .lt 5, 3) := by decide +kernel
theorem dX10_addHead_9 : decode cX10_addHead 9 = .ok (.iconst (-1), 1) := by decide +kernel
theorem dX10_addHead_10 : decode cX10_addHead 10 = .ok (.ireturn, 1) := by decide +kernel
theorem dX10_addHead_11 : decode cX10_addHead 11 = .ok (.aload_n 0, 1) := by decide +kernel
theorem dX10_addHead_12 : decode cX10_addHead 12 = .ok (.getfield 31, 3) := by decide +kernel
theorem dX10_addHead_15 : decode cX10_addHead 15 = .ok (.aload_n 0, 1) := by decide +kernel
theorem dX10_addHead_16 : decode cX10_addHead 16 = .ok (.getfield 74, 3) := by decide +kernel
theorem dX10_addHead_19 : decode cX10_addHead 19 = .ok (.iload_n 1, 1) := by decide +kernel
theorem dX10_addHead_20 : decode cX10_addHead 20 = .ok (.iastore, 1) := by decide +kernel
theorem dX10_addHead_21 : decode cX10_addHead 21 = .ok (.aload_n 0, 1) := by decide +kernel
theorem dX10_addHead_22 : decode cX10_addHead 22 = .ok (.getfield 34, 3) := by decide +kernel
theorem dX10_addHead_25 : decode cX10_addHead 25 = .ok (.aload_n 0, 1) := by decide +kernel
theorem dX10_addHead_26 : decode cX10_addHead 26 = .ok (.getfield 74, 3) := by decide +kernel
theorem dX10_addHead_29 : decode cX10_addHead 29 = .ok (.iload_n 2, 1) := by decide +kernel
theorem dX10_addHead_30 : decode cX10_addHead 30 = .ok (.iastore, 1) := by decide +kernel
theorem dX10_addHead_31 : decode cX10_addHead 31 = .ok (.aload_n 0, 1) := by decide +kernel
theorem dX10_addHead_32 : decode cX10_addHead 32 = .ok (.dup, 1) := by decide +kernel
theorem dX10_addHead_33 : decode cX10_addHead 33 = .ok (.getfield 74, 3) := by decide +kernel
theorem dX10_addHead_36 : decode cX10_addHead 36 = .ok (.iconst 1, 1) := by decide +kernel
theorem dX10_addHead_37 : decode cX10_addHead 37 = .ok (.iadd, 1) := by decide +kernel
theorem dX10_addHead_38 : decode cX10_addHead 38 = .ok (.putfield 74, 3) := by decide +kernel
theorem dX10_addHead_41 : decode cX10_addHead 41 = .ok (.aload_n 0, 1) := by decide +kernel
theorem dX10_addHead_42 : decode cX10_addHead 42 = .ok (.getfield 74, 3) := by decide +kernel
theorem dX10_addHead_45 : decode cX10_addHead 45 = .ok (.iconst 1, 1) := by decide +kernel
theorem dX10_addHead_46 : decode cX10_addHead 46 = .ok (.isub, 1) := by decide +kernel
theorem dX10_addHead_47 : decode cX10_addHead 47 = .ok (.ireturn, 1) := by decide +kernel
theorem okX10_addHead : ab_okM MX10_addHead 2 := ⟨by decide, ⟨by decide, by decide⟩, ab_in 958 (by decide +kernel) (by decide +kernel), ab_in 89 (by decide +kernel) (by decide +kernel), by decide +kernel, by decide⟩
set_option maxHeartbeats 4000000 in
set_option maxRecDepth 100000 in
theorem sX10_addHead (v1 : Int32) (v2 : Int32)  (x : ab_X) (K : Int32 → ab_X → Prop) (d bc bs : Nat) (hdp : 0 ≤ d) (h : wX10_addHead v1 v2 x K) : EW MX10_addHead 0 [(0, .ref 9), (1, .int v1), (2, .int v2)] [] (aS x) d bc bs (liI K) := by
  unfold wX10_addHead at h
  refine EW_aload_n (pc2 := 1) rfl dX10_addHead_0 0 rfl ?_
  refine AW_geti ⟨gfRX10_74, rfl⟩ (pc2 := 4) rfl dX10_addHead_1 q9 ?_
  refine EW_bipush (pc2 := 6) (v := 20) rfl dX10_addHead_4 (by decide) ?_
  refine EW_icmp_lt (tgt := 11) (pc2 := 9) rfl dX10_addHead_6 (by decide) (fun q => ?_) (fun q => ?_)
  · replace h := h.1 q
    refine EW_aload_n (pc2 := 12) rfl dX10_addHead_11 0 rfl ?_
    refine AW_getr (r := 28) ⟨gfRX10_31, rfl⟩ (pc2 := 15) rfl dX10_addHead_12 q9 rfl ?_
    refine EW_aload_n (pc2 := 16) rfl dX10_addHead_15 0 rfl ?_
    refine AW_geti ⟨gfRX10_74, rfl⟩ (pc2 := 19) rfl dX10_addHead_16 q9 ?_
    refine EW_iload_n (pc2 := 20) rfl dX10_addHead_19 1 rfl ?_
    obtain ⟨b1, h⟩ := h
    refine AW_iast (pc2 := 21) rfl dX10_addHead_20 q28 b1 ?_
    refine EW_aload_n (pc2 := 22) rfl dX10_addHead_21 0 rfl ?_
    refine AW_getr (r := 29) ⟨gfRX10_34, rfl⟩ (pc2 := 25) rfl dX10_addHead_22 q9 rfl ?_
    refine EW_aload_n (pc2 := 26) rfl dX10_addHead_25 0 rfl ?_
    refine AW_geti ⟨gfRX10_74, rfl⟩ (pc2 := 29) rfl dX10_addHead_26 q9 ?_
    refine EW_iload_n (pc2 := 30) rfl dX10_addHead_29 2 rfl ?_
    obtain ⟨b2, h⟩ := h
    refine AW_iast (pc2 := 31) rfl dX10_addHead_30 q29 b2 ?_
    refine EW_aload_n (pc2 := 32) rfl dX10_addHead_31 0 rfl ?_
    refine EW_dup (pc2 := 33) rfl dX10_addHead_32 rfl ?_
    refine AW_geti ⟨gfRX10_74, rfl⟩ (pc2 := 36) rfl dX10_addHead_33 q9 ?_
    refine EW_iconst (pc2 := 37) (v := 1) rfl dX10_addHead_36 (by decide) ?_
    refine EW_iadd (pc2 := 38) rfl dX10_addHead_37 ?_
    refine AW_puti ⟨gfRX10_74, rfl, rfl⟩ (pc2 := 41) rfl dX10_addHead_38 q9 ?_
    refine EW_aload_n (pc2 := 42) rfl dX10_addHead_41 0 rfl ?_
    refine AW_geti ⟨gfRX10_74, rfl⟩ (pc2 := 45) rfl dX10_addHead_42 q9 ?_
    refine EW_iconst (pc2 := 46) (v := 1) rfl dX10_addHead_45 (by decide) ?_
    refine EW_isub (pc2 := 47) rfl dX10_addHead_46 ?_
    exact AW_iret rfl dX10_addHead_47 ⟨_, _, rfl, rfl, h⟩
  · replace h := h.2 q
    refine EW_iconst (pc2 := 10) (v := (-1)) rfl dX10_addHead_9 (by decide) ?_
    exact AW_iret rfl dX10_addHead_10 ⟨_, _, rfl, rfl, h⟩
theorem gfRX10_71 : ab_L RX10 71 10 6 := ⟨by decide, by decide, ab_in 323 (by decide +kernel) (by decide +kernel)⟩
theorem gfRX10_27 : ab_L RX10 27 10 5 := ⟨by decide, by decide, ab_in 321 (by decide +kernel) (by decide +kernel)⟩
abbrev MX10_addMain : ab_M := (yX10_addMain, cX10_addMain, 2, (some .int))
theorem dX10_addMain_0 : decode cX10_addMain 0 = .ok (.aload_n 0, 1) := by decide +kernel
theorem dX10_addMain_1 : decode cX10_addMain 1 = .ok (.getfield 71, 3) := by decide +kernel
theorem dX10_addMain_4 : decode cX10_addMain 4 = .ok (.bipush 6, 2) := by decide +kernel
theorem dX10_addMain_6 : decode cX10_addMain 6 = .ok (.if_icmp .lt 5, 3) := by decide +kernel
theorem dX10_addMain_9 : decode cX10_addMain 9 = .ok (.iconst (-1), 1) := by decide +kernel
theorem dX10_addMain_10 : decode cX10_addMain 10 = .ok (.ireturn, 1) := by decide +kernel
theorem dX10_addMain_11 : decode cX10_addMain 11 = .ok (.aload_n 0, 1) := by decide +kernel
theorem dX10_addMain_12 : decode cX10_addMain 12 = .ok (.getfield 27, 3) := by decide +kernel
theorem dX10_addMain_15 : decode cX10_addMain 15 = .ok (.aload_n 0, 1) := by decide +kernel
theorem dX10_addMain_16 : decode cX10_addMain 16 = .ok (.getfield 71, 3) := by decide +kernel
theorem dX10_addMain_19 : decode cX10_addMain 19 = .ok (.iload_n 1, 1) := by decide +kernel
theorem dX10_addMain_20 : decode cX10_addMain 20 = .ok (.iastore, 1) := by decide +kernel
theorem dX10_addMain_21 : decode cX10_addMain 21 = .ok (.aload_n 0, 1) := by decide +kernel
theorem dX10_addMain_22 : decode cX10_addMain 22 = .ok (.dup, 1) := by decide +kernel
theorem dX10_addMain_23 : decode cX10_addMain 23 = .ok (.getfield 71, 3) := by decide +kernel
theorem dX10_addMain_26 : decode cX10_addMain 26 = .ok (.iconst 1, 1) := by decide +kernel
theorem dX10_addMain_27 : decode cX10_addMain 27 = .ok (.iadd, 1) := by decide +kernel
theorem dX10_addMain_28 : decode cX10_addMain 28 = .ok (.putfield 71, 3) := by decide +kernel
theorem dX10_addMain_31 : decode cX10_addMain 31 = .ok (.aload_n 0, 1) := by decide +kernel
theorem dX10_addMain_32 : decode cX10_addMain 32 = .ok (.getfield 71, 3) := by decide +kernel
theorem dX10_addMain_35 : decode cX10_addMain 35 = .ok (.iconst 1, 1) := by decide +kernel
theorem dX10_addMain_36 : decode cX10_addMain 36 = .ok (.isub, 1) := by decide +kernel
theorem dX10_addMain_37 : decode cX10_addMain 37 = .ok (.ireturn, 1) := by decide +kernel
theorem okX10_addMain : ab_okM MX10_addMain 1 := ⟨by decide, ⟨by decide, by decide⟩, ab_in 950 (by decide +kernel) (by decide +kernel), ab_in 89 (by decide +kernel) (by decide +kernel), by decide +kernel, by decide⟩
set_option maxHeartbeats 4000000 in
set_option maxRecDepth 100000 in
theorem sX10_addMain (v1 : Int32)  (x : ab_X) (K : Int32 → ab_X → Prop) (d bc bs : Nat) (hdp : 0 ≤ d) (h : wX10_addMain v1 x K) : EW MX10_addMain 0 [(0, .ref 9), (1, .int v1)] [] (aS x) d bc bs (liI K) := by
  unfold wX10_addMain at h
  refine EW_aload_n (pc2 := 1) rfl dX10_addMain_0 0 rfl ?_
  refine AW_geti ⟨gfRX10_71, rfl⟩ (pc2 := 4) rfl dX10_addMain_1 q9 ?_
  refine EW_bipush (pc2 := 6) (v := 6) rfl dX10_addMain_4 (by decide) ?_
  refine EW_icmp_lt (tgt := 11) (pc2 := 9) rfl dX10_addMain_6 (by decide) (fun q => ?_) (fun q => ?_)
  · replace h := h.1 q
    refine EW_aload_n (pc2 := 12) rfl dX10_addMain_11 0 rfl ?_
    refine AW_getr (r := 27) ⟨gfRX10_27, rfl⟩ (pc2 := 15) rfl dX10_addMain_12 q9 rfl ?_
    refine EW_aload_n (pc2 := 16) rfl dX10_addMain_15 0 rfl ?_
    refine AW_geti ⟨gfRX10_71, rfl⟩ (pc2 := 19) rfl dX10_addMain_16 q9 ?_
    refine EW_iload_n (pc2 := 20) rfl dX10_addMain_19 1 rfl ?_
    obtain ⟨b1, h⟩ := h
    refine AW_iast (pc2 := 21) rfl dX10_addMain_20 q27 b1 ?_
    refine EW_aload_n (pc2 := 22) rfl dX10_addMain_21 0 rfl ?_
    refine EW_dup (pc2 := 23) rfl dX10_addMain_22 rfl ?_
    refine AW_geti ⟨gfRX10_71, rfl⟩ (pc2 := 26) rfl dX10_addMain_23 q9 ?_
    refine EW_iconst (pc2 := 27) (v := 1) rfl dX10_addMain_26 (by decide) ?_
    refine EW_iadd (pc2 := 28) rfl dX10_addMain_27 ?_
    refine AW_puti ⟨gfRX10_71, rfl, rfl⟩ (pc2 := 31) rfl dX10_addMain_28 q9 ?_
    refine EW_aload_n (pc2 := 32) rfl dX10_addMain_31 0 rfl ?_
    refine AW_geti ⟨gfRX10_71, rfl⟩ (pc2 := 35) rfl dX10_addMain_32 q9 ?_
    refine EW_iconst (pc2 := 36) (v := 1) rfl dX10_addMain_35 (by decide) ?_
    refine EW_isub (pc2 := 37) rfl dX10_addMain_36 ?_
    exact AW_iret rfl dX10_addMain_37 ⟨_, _, rfl, rfl, h⟩
  · replace h := h.2 q
    refine EW_iconst (pc2 := 10) (v := (-1)) rfl dX10_addMain_9 (by decide) ?_
    exact AW_iret rfl dX10_addMain_10 ⟨_, _, rfl, rfl, h⟩
theorem gfRX10_59 : ab_L RX10 59 4 4 := ⟨by decide, by decide, ab_in 231 (by decide +kernel) (by decide +kernel)⟩
abbrev MX10_hasRoom : ab_M := (yX10_hasRoom, cX10_hasRoom, 3, (some .boolean))
theorem dX10_hasRoom_0 : decode cX10_hasRoom 0 = .ok (.aload_n 0, 1) := by decide +kernel
theorem dX10_hasRoom_1 : decode cX10_hasRoom 1 = .ok (.iload_n 1, 1) := by decide +kernel
theorem dX10_hasRoom_2 : decode cX10_hasRoom 2 = .ok (.invokevirtual 52, 3) := by decide +kernel
theorem dX10_hasRoom_5 : decode cX10_hasRoom 5 = .ok (.ifCond .eq 33, 3) := by decide +kernel
theorem dX10_hasRoom_8 : decode cX10_hasRoom 8 = .ok (.iload_n 2, 1) := by decide +kernel
theorem dX10_hasRoom_9 : decode cX10_hasRoom 9 = .ok (.aload_n 0, 1) := by decide +kernel
theorem dX10_hasRoom_10 : decode cX10_hasRoom 10 = .ok (.getfield 11, 3) := by decide +kernel
theorem dX10_hasRoom_13 : decode cX10_hasRoom 13 = .ok (.iload_n 1, 1) := by decide +kernel
theorem dX10_hasRoom_14 : decode cX10_hasRoom 14 = .ok (.aaload, 1) := by decide +kernel
theorem dX10_hasRoom_15 : decode cX10_hasRoom 15 = .ok (.getfield 56, 3) := by decide +kernel
theorem dX10_hasRoom_18 : decode cX10_hasRoom 18 = .ok (.aload_n 0, 1) := by decide +kernel
theorem dX10_hasRoom_19 : decode cX10_hasRoom 19 = .ok (.getfield 11, 3) := by decide +kernel
theorem dX10_hasRoom_22 : decode cX10_hasRoom 22 = .ok (.iload_n 1, 1) := by decide +kernel
theorem dX10_hasRoom_23 : decode cX10_hasRoom 23 = .ok (.aaload, 1) := by decide +kernel
theorem dX10_hasRoom_24 : decode cX10_hasRoom 24 = .ok (.getfield 59, 3) := by decide +kernel
theorem dX10_hasRoom_27 : decode cX10_hasRoom 27 = .ok (.imul, 1) := by decide +kernel
theorem dX10_hasRoom_28 : decode cX10_hasRoom 28 = .ok (.invokestatic 48, 3) := by decide +kernel
theorem dX10_hasRoom_31 : decode cX10_hasRoom 31 = .ok (.ifCond .eq 7, 3) := by decide +kernel
theorem dX10_hasRoom_34 : decode cX10_hasRoom 34 = .ok (.iconst 1, 1) := by decide +kernel
theorem dX10_hasRoom_35 : decode cX10_hasRoom 35 = .ok (.goto 4, 3) := by decide +kernel
theorem dX10_hasRoom_38 : decode cX10_hasRoom 38 = .ok (.iconst 0, 1) := by decide +kernel
theorem dX10_hasRoom_39 : decode cX10_hasRoom 39 = .ok (.ireturn, 1) := by decide +kernel
theorem okX10_hasRoom : ab_okM MX10_hasRoom 2 := ⟨by decide, ⟨by decide, by decide⟩, ab_in 898 (by decide +kernel) (by decide +kernel), ab_in 89 (by decide +kernel) (by decide +kernel), by decide +kernel, by decide⟩
set_option maxHeartbeats 4000000 in
set_option maxRecDepth 100000 in
theorem sX10_hasRoom (v1 : Int32) (v2 : Int32)  (x : ab_X) (K : Int32 → Prop) (d bc bs : Nat) (hdp : 2 ≤ d) (h : wX10_hasRoom v1 v2 x K) : EW MX10_hasRoom 0 [(0, .ref 9), (1, .int v1), (2, .int v2)] [] (aS x) d bc bs (liP x K) := by
  unfold wX10_hasRoom at h
  refine EW_aload_n (pc2 := 1) rfl dX10_hasRoom_0 0 rfl ?_
  refine EW_iload_n (pc2 := 2) rfl dX10_hasRoom_1 1 rfl ?_
  refine AW_invV (M' := MX10_has) [.int v1] (rest := []) mlRX10_52 okX10_has (pc2 := 5) rfl dX10_hasRoom_2 rfl rfl (Nat.le_of_ble_eq_true rfl) (Nat.le_of_ble_eq_true rfl) (d' := 1) (by omega) q9 ⟨by decide, rfl⟩ (EW_mono (fun _ _ hr => ?_) (sX10_has v1  x _ _ 0 0 (Nat.le_refl _) h))
  obtain ⟨r1, rfl, rfl, h⟩ := hr
  refine EW_if_eq (tgt := 38) (pc2 := 8) rfl dX10_hasRoom_5 (by decide) (fun q => ?_) (fun q => ?_)
  · replace h := h.1 q
    refine EW_iconst (pc2 := 39) (v := 0) rfl dX10_hasRoom_38 (by decide) ?_
    exact AW_zret rfl isB0 dX10_hasRoom_39 ⟨_, rfl, rfl, h⟩
  · replace h := h.2 q
    refine EW_iload_n (pc2 := 9) rfl dX10_hasRoom_8 2 rfl ?_
    refine EW_aload_n (pc2 := 10) rfl dX10_hasRoom_9 0 rfl ?_
    refine AW_getr (r := 10) ⟨gfRX10_11, rfl⟩ (pc2 := 13) rfl dX10_hasRoom_10 q9 rfl ?_
    refine EW_iload_n (pc2 := 14) rfl dX10_hasRoom_13 1 rfl ?_
    obtain ⟨b2, h⟩ := h
    refine AW_aald5 (pc2 := 15) rfl dX10_hasRoom_14 b2 ?_
    refine AW_geti ⟨gfRX10_56, rfl⟩ (pc2 := 18) rfl dX10_hasRoom_15 (isH.o (isH_of b2)) ?_
    refine EW_aload_n (pc2 := 19) rfl dX10_hasRoom_18 0 rfl ?_
    refine AW_getr (r := 10) ⟨gfRX10_11, rfl⟩ (pc2 := 22) rfl dX10_hasRoom_19 q9 rfl ?_
    refine EW_iload_n (pc2 := 23) rfl dX10_hasRoom_22 1 rfl ?_
    obtain ⟨b3, h⟩ := h
    refine AW_aald5 (pc2 := 24) rfl dX10_hasRoom_23 b3 ?_
    refine AW_geti ⟨gfRX10_59, rfl⟩ (pc2 := 27) rfl dX10_hasRoom_24 (isH.o (isH_of b3)) ?_
    refine EW_imul (pc2 := 28) rfl dX10_hasRoom_27 ?_
    refine AW_invSN (M' := MX11_below) [.int v2, .int ((x.1 (30 + 3 * Int32.toNatClampNeg v1) 3) * (x.1 (30 + 3 * Int32.toNatClampNeg v1) 4))] (rest := []) mlRX10_48 okX11_below (pc2 := 31) rfl dX10_hasRoom_28 rfl rfl (Nat.le_of_ble_eq_true rfl) (Nat.le_of_ble_eq_true rfl) (d' := 0) (by omega) (EW_mono (fun _ _ hr => ?_) (sX11_below v2 ((x.1 (30 + 3 * Int32.toNatClampNeg v1) 3) * (x.1 (30 + 3 * Int32.toNatClampNeg v1) 4))  x _ _ 0 0 (Nat.le_refl _) h))
    obtain ⟨r4, rfl, rfl, h⟩ := hr
    refine EW_if_eq (tgt := 38) (pc2 := 34) rfl dX10_hasRoom_31 (by decide) (fun q => ?_) (fun q => ?_)
    · replace h := h.1 q
      refine EW_iconst (pc2 := 39) (v := 0) rfl dX10_hasRoom_38 (by decide) ?_
      exact AW_zret rfl isB0 dX10_hasRoom_39 ⟨_, rfl, rfl, h⟩
    · replace h := h.2 q
      refine EW_iconst (pc2 := 35) (v := 1) rfl dX10_hasRoom_34 (by decide) ?_
      refine EW_goto (tgt := 39) dX10_hasRoom_35 (by decide) ?_
      exact AW_zret rfl isB1 dX10_hasRoom_39 ⟨_, rfl, rfl, h⟩
theorem gfRX10_137 : ab_L RX10 137 4 15 := ⟨by decide, by decide, ab_in 269 (by decide +kernel) (by decide +kernel)⟩
abbrev MX10_lostInAll : ab_M := (yX10_lostInAll, cX10_lostInAll, 3, (some .int))
theorem dX10_lostInAll_0 : decode cX10_lostInAll 0 = .ok (.iconst 0, 1) := by decide +kernel
theorem dX10_lostInAll_1 : decode cX10_lostInAll 1 = .ok (.istore_n 1, 1) := by decide +kernel
theorem dX10_lostInAll_2 : decode cX10_lostInAll 2 = .ok (.iconst 0, 1) := by decide +kernel
theorem dX10_lostInAll_3 : decode cX10_lostInAll 3 = .ok (.istore_n 2, 1) := by decide +kernel
theorem dX10_lostInAll_4 : decode cX10_lostInAll 4 = .ok (.iload_n 2, 1) := by decide +kernel
theorem dX10_lostInAll_5 : decode cX10_lostInAll 5 = .ok (.aload_n 0, 1) := by decide +kernel
theorem dX10_lostInAll_6 : decode cX10_lostInAll 6 = .ok (.getfield 44, 3) := by decide +kernel
theorem dX10_lostInAll_9 : decode cX10_lostInAll 9 = .ok (.if_icmp .ge 21, 3) := by decide +kernel
theorem dX10_lostInAll_12 : decode cX10_lostInAll 12 = .ok (.iload_n 1, 1) := by decide +kernel
theorem dX10_lostInAll_13 : decode cX10_lostInAll 13 = .ok (.aload_n 0, 1) := by decide +kernel
theorem dX10_lostInAll_14 : decode cX10_lostInAll 14 = .ok (.getfield 11, 3) := by decide +kernel
theorem dX10_lostInAll_17 : decode cX10_lostInAll 17 = .ok (.iload_n 2, 1) := by decide +kernel
theorem dX10_lostInAll_18 : decode cX10_lostInAll 18 = .ok (.aaload, 1) := by decide +kernel
theorem dX10_lostInAll_19 : decode cX10_lostInAll 19 = .ok (.getfield 137, 3) := by decide +kernel
theorem dX10_lostInAll_22 : decode cX10_lostInAll 22 = .ok (.iadd, 1) := by decide +kernel
theorem dX10_lostInAll_23 : decode cX10_lostInAll 23 = .ok (.istore_n 1, 1) := by decide +kernel
theorem dX10_lostInAll_24 : decode cX10_lostInAll 24 = .ok (.iinc 2 1, 3) := by decide +kernel
theorem dX10_lostInAll_27 : decode cX10_lostInAll 27 = .ok (.goto (-23), 3) := by decide +kernel
theorem dX10_lostInAll_30 : decode cX10_lostInAll 30 = .ok (.iload_n 1, 1) := by decide +kernel
theorem dX10_lostInAll_31 : decode cX10_lostInAll 31 = .ok (.ireturn, 1) := by decide +kernel
theorem okX10_lostInAll : ab_okM MX10_lostInAll 0 := ⟨by decide, ⟨by decide, by decide⟩, ab_in 1766 (by decide +kernel) (by decide +kernel), ab_in 89 (by decide +kernel) (by decide +kernel), by decide +kernel, by decide⟩
set_option maxHeartbeats 4000000 in
set_option maxRecDepth 100000 in
theorem sX10_lostInAll_4 (v1 : Int32) (v2 : Int32)  (x : ab_X) (K : Int32 → Prop)  (d bc bs : Nat) (hdp : 0 ≤ d)  (h : Lp2 (lX10_lostInAll_4  x K ) v1 v2) : EW MX10_lostInAll 4 [(0, .ref 9), (1, .int v1), (2, .int v2)] [] (aS x) d bc bs (liP x K) := by
  refine Lp2.use (P := fun v1 v2 => EW MX10_lostInAll 4 [(0, .ref 9), (1, .int v1), (2, .int v2)] [] (aS x) d bc bs (liP x K)) (fun L4 v1 v2 hL4 h => ?_) v1 v2 h
  unfold lX10_lostInAll_4 at h
  refine EW_iload_n (pc2 := 5) rfl dX10_lostInAll_4 2 rfl ?_
  refine EW_aload_n (pc2 := 6) rfl dX10_lostInAll_5 0 rfl ?_
  refine AW_geti ⟨gfRX10_44, rfl⟩ (pc2 := 9) rfl dX10_lostInAll_6 q9 ?_
  refine EW_icmp_ge (tgt := 30) (pc2 := 12) rfl dX10_lostInAll_9 (by decide) (fun q => ?_) (fun q => ?_)
  · replace h := h.1 q
    refine EW_iload_n (pc2 := 31) rfl dX10_lostInAll_30 1 rfl ?_
    exact AW_iret rfl dX10_lostInAll_31 ⟨_, rfl, rfl, h⟩
  · replace h := h.2 q
    refine EW_iload_n (pc2 := 13) rfl dX10_lostInAll_12 1 rfl ?_
    refine EW_aload_n (pc2 := 14) rfl dX10_lostInAll_13 0 rfl ?_
    refine AW_getr (r := 10) ⟨gfRX10_11, rfl⟩ (pc2 := 17) rfl dX10_lostInAll_14 q9 rfl ?_
    refine EW_iload_n (pc2 := 18) rfl dX10_lostInAll_17 2 rfl ?_
    obtain ⟨b1, h⟩ := h
    refine AW_aald5 (pc2 := 19) rfl dX10_lostInAll_18 b1 ?_
    refine AW_geti ⟨gfRX10_137, rfl⟩ (pc2 := 22) rfl dX10_lostInAll_19 (isH.o (isH_of b1)) ?_
    refine EW_iadd (pc2 := 23) rfl dX10_lostInAll_22 ?_
    refine EW_istore_n (pc2 := 24) rfl dX10_lostInAll_23 (by decide) [1, 0, 2] [(0, .ref 9), (1, .int (v1 + (x.1 (30 + 3 * Int32.toNatClampNeg v2) 15))), (2, .int v2)] rfl ?_
    refine EW_iinc (v2 + 1) (pc2 := 27) rfl dX10_lostInAll_24 2 rfl rfl (by decide) [1, 2, 0] [(0, .ref 9), (1, .int (v1 + (x.1 (30 + 3 * Int32.toNatClampNeg v2) 15))), (2, .int (v2 + 1))] rfl ?_
    refine EW_goto (tgt := 4) dX10_lostInAll_27 (by decide) ?_
    exact hL4 (v1 + (x.1 (30 + 3 * Int32.toNatClampNeg v2) 15)) (v2 + 1) h
set_option maxHeartbeats 4000000 in
set_option maxRecDepth 100000 in
theorem sX10_lostInAll   (x : ab_X) (K : Int32 → Prop) (d bc bs : Nat) (hdp : 0 ≤ d) (h : wX10_lostInAll  x K) : EW MX10_lostInAll 0 [(0, .ref 9)] [] (aS x) d bc bs (liP x K) := by
  unfold wX10_lostInAll at h
  refine EW_iconst (pc2 := 1) (v := 0) rfl dX10_lostInAll_0 (by decide) ?_
  refine EW_istore_n (pc2 := 2) rfl dX10_lostInAll_1 (by decide) [1, 0] [(0, .ref 9), (1, .int 0)] rfl ?_
  refine EW_iconst (pc2 := 3) (v := 0) rfl dX10_lostInAll_2 (by decide) ?_
  refine EW_istore_n (pc2 := 4) rfl dX10_lostInAll_3 (by decide) [1, 2, 0] [(0, .ref 9), (1, .int 0), (2, .int 0)] rfl ?_
  exact sX10_lostInAll_4 0 0 x K d bc bs hdp h
theorem gfRX10_134 : ab_L RX10 134 4 14 := ⟨by decide, by decide, ab_in 264 (by decide +kernel) (by decide +kernel)⟩
abbrev MX10_savedInAll : ab_M := (yX10_savedInAll, cX10_savedInAll, 3, (some .int))
theorem dX10_savedInAll_0 : decode cX10_savedInAll 0 = .ok (.iconst 0, 1) := by decide +kernel
theorem dX10_savedInAll_1 : decode cX10_savedInAll 1 = .ok (.istore_n 1, 1) := by decide +kernel
theorem dX10_savedInAll_2 : decode cX10_savedInAll 2 = .ok (.iconst 0, 1) := by decide +kernel
theorem dX10_savedInAll_3 : decode cX10_savedInAll 3 = .ok (.istore_n 2, 1) := by decide +kernel
theorem dX10_savedInAll_4 : decode cX10_savedInAll 4 = .ok (.iload_n 2, 1) := by decide +kernel
theorem dX10_savedInAll_5 : decode cX10_savedInAll 5 = .ok (.aload_n 0, 1) := by decide +kernel
theorem dX10_savedInAll_6 : decode cX10_savedInAll 6 = .ok (.getfield 44, 3) := by decide +kernel
theorem dX10_savedInAll_9 : decode cX10_savedInAll 9 = .ok (.if_icmp .ge 21, 3) := by decide +kernel
theorem dX10_savedInAll_12 : decode cX10_savedInAll 12 = .ok (.iload_n 1, 1) := by decide +kernel
theorem dX10_savedInAll_13 : decode cX10_savedInAll 13 = .ok (.aload_n 0, 1) := by decide +kernel
theorem dX10_savedInAll_14 : decode cX10_savedInAll 14 = .ok (.getfield 11, 3) := by decide +kernel
theorem dX10_savedInAll_17 : decode cX10_savedInAll 17 = .ok (.iload_n 2, 1) := by decide +kernel
theorem dX10_savedInAll_18 : decode cX10_savedInAll 18 = .ok (.aaload, 1) := by decide +kernel
theorem dX10_savedInAll_19 : decode cX10_savedInAll 19 = .ok (.getfield 134, 3) := by decide +kernel
theorem dX10_savedInAll_22 : decode cX10_savedInAll 22 = .ok (.iadd, 1) := by decide +kernel
theorem dX10_savedInAll_23 : decode cX10_savedInAll 23 = .ok (.istore_n 1, 1) := by decide +kernel
theorem dX10_savedInAll_24 : decode cX10_savedInAll 24 = .ok (.iinc 2 1, 3) := by decide +kernel
theorem dX10_savedInAll_27 : decode cX10_savedInAll 27 = .ok (.goto (-23), 3) := by decide +kernel
theorem dX10_savedInAll_30 : decode cX10_savedInAll 30 = .ok (.iload_n 1, 1) := by decide +kernel
theorem dX10_savedInAll_31 : decode cX10_savedInAll 31 = .ok (.ireturn, 1) := by decide +kernel
theorem okX10_savedInAll : ab_okM MX10_savedInAll 0 := ⟨by decide, ⟨by decide, by decide⟩, ab_in 1762 (by decide +kernel) (by decide +kernel), ab_in 89 (by decide +kernel) (by decide +kernel), by decide +kernel, by decide⟩
set_option maxHeartbeats 4000000 in
set_option maxRecDepth 100000 in
theorem sX10_savedInAll_4 (v1 : Int32) (v2 : Int32)  (x : ab_X) (K : Int32 → Prop)  (d bc bs : Nat) (hdp : 0 ≤ d)  (h : Lp2 (lX10_savedInAll_4  x K ) v1 v2) : EW MX10_savedInAll 4 [(0, .ref 9), (1, .int v1), (2, .int v2)] [] (aS x) d bc bs (liP x K) := by
  refine Lp2.use (P := fun v1 v2 => EW MX10_savedInAll 4 [(0, .ref 9), (1, .int v1), (2, .int v2)] [] (aS x) d bc bs (liP x K)) (fun L4 v1 v2 hL4 h => ?_) v1 v2 h
  unfold lX10_savedInAll_4 at h
  refine EW_iload_n (pc2 := 5) rfl dX10_savedInAll_4 2 rfl ?_
  refine EW_aload_n (pc2 := 6) rfl dX10_savedInAll_5 0 rfl ?_
  refine AW_geti ⟨gfRX10_44, rfl⟩ (pc2 := 9) rfl dX10_savedInAll_6 q9 ?_
  refine EW_icmp_ge (tgt := 30) (pc2 := 12) rfl dX10_savedInAll_9 (by decide) (fun q => ?_) (fun q => ?_)
  · replace h := h.1 q
    refine EW_iload_n (pc2 := 31) rfl dX10_savedInAll_30 1 rfl ?_
    exact AW_iret rfl dX10_savedInAll_31 ⟨_, rfl, rfl, h⟩
  · replace h := h.2 q
    refine EW_iload_n (pc2 := 13) rfl dX10_savedInAll_12 1 rfl ?_
    refine EW_aload_n (pc2 := 14) rfl dX10_savedInAll_13 0 rfl ?_
    refine AW_getr (r := 10) ⟨gfRX10_11, rfl⟩ (pc2 := 17) rfl dX10_savedInAll_14 q9 rfl ?_
    refine EW_iload_n (pc2 := 18) rfl dX10_savedInAll_17 2 rfl ?_
    obtain ⟨b1, h⟩ := h
    refine AW_aald5 (pc2 := 19) rfl dX10_savedInAll_18 b1 ?_
    refine AW_geti ⟨gfRX10_134, rfl⟩ (pc2 := 22) rfl dX10_savedInAll_19 (isH.o (isH_of b1)) ?_
    refine EW_iadd (pc2 := 23) rfl dX10_savedInAll_22 ?_
    refine EW_istore_n (pc2 := 24) rfl dX10_savedInAll_23 (by decide) [1, 0, 2] [(0, .ref 9), (1, .int (v1 + (x.1 (30 + 3 * Int32.toNatClampNeg v2) 14))), (2, .int v2)] rfl ?_
    refine EW_iinc (v2 + 1) (pc2 := 27) rfl dX10_savedInAll_24 2 rfl rfl (by decide) [1, 2, 0] [(0, .ref 9), (1, .int (v1 + (x.1 (30 + 3 * Int32.toNatClampNeg v2) 14))), (2, .int (v2 + 1))] rfl ?_
    refine EW_goto (tgt := 4) dX10_savedInAll_27 (by decide) ?_
    exact hL4 (v1 + (x.1 (30 + 3 * Int32.toNatClampNeg v2) 14)) (v2 + 1) h
set_option maxHeartbeats 4000000 in
set_option maxRecDepth 100000 in
theorem sX10_savedInAll   (x : ab_X) (K : Int32 → Prop) (d bc bs : Nat) (hdp : 0 ≤ d) (h : wX10_savedInAll  x K) : EW MX10_savedInAll 0 [(0, .ref 9)] [] (aS x) d bc bs (liP x K) := by
  unfold wX10_savedInAll at h
  refine EW_iconst (pc2 := 1) (v := 0) rfl dX10_savedInAll_0 (by decide) ?_
  refine EW_istore_n (pc2 := 2) rfl dX10_savedInAll_1 (by decide) [1, 0] [(0, .ref 9), (1, .int 0)] rfl ?_
  refine EW_iconst (pc2 := 3) (v := 0) rfl dX10_savedInAll_2 (by decide) ?_
  refine EW_istore_n (pc2 := 4) rfl dX10_savedInAll_3 (by decide) [1, 2, 0] [(0, .ref 9), (1, .int 0), (2, .int 0)] rfl ?_
  exact sX10_savedInAll_4 0 0 x K d bc bs hdp h
theorem mmRX3_38 : Cond.methodLink RX3 38 arraycopyName ∈ ab_G ∧ Cond.native arraycopyName ∈ ab_G ∧ Cond.static arraycopyName ∈ ab_G ∧ Cond.initialized "java/lang/System" ∈ ab_G := ⟨ab_in 1747 (by decide +kernel) (by decide +kernel), ab_in 1337 (by decide +kernel) (by decide +kernel), ab_in 1336 (by decide +kernel) (by decide +kernel), ab_in 111 (by decide +kernel) (by decide +kernel)⟩
abbrev MX3_become : ab_M := (yX3_become, cX3_become, 2, none)
theorem dX3_become_0 : decode cX3_become 0 = .ok (.aload_n 1, 1) := by decide +kernel
theorem dX3_become_1 : decode cX3_become 1 = .ok (.getfield 9, 3) := by decide +kernel
theorem dX3_become_4 : decode cX3_become 4 = .ok (.iconst 0, 1) := by decide +kernel
theorem dX3_become_5 : decode cX3_become 5 = .ok (.aload_n 0, 1) := by decide +kernel
theorem dX3_become_6 : decode cX3_become 6 = .ok (.getfield 9, 3) := by decide +kernel
theorem dX3_become_9 : decode cX3_become 9 = .ok (.iconst 0, 1) := by decide +kernel
theorem dX3_become_10 : decode cX3_become 10 = .ok (.sipush 288, 3) := by decide +kernel
theorem dX3_become_13 : decode cX3_become 13 = .ok (.invokestatic 38, 3) := by decide +kernel
theorem dX3_become_16 : decode cX3_become 16 = .ok (.aload_n 1, 1) := by decide +kernel
theorem dX3_become_17 : decode cX3_become 17 = .ok (.getfield 15, 3) := by decide +kernel
theorem dX3_become_20 : decode cX3_become 20 = .ok (.iconst 0, 1) := by decide +kernel
theorem dX3_become_21 : decode cX3_become 21 = .ok (.aload_n 0, 1) := by decide +kernel
theorem dX3_become_22 : decode cX3_become 22 = .ok (.getfield 15, 3) := by decide +kernel
theorem dX3_become_25 : decode cX3_become 25 = .ok (.iconst 0, 1) := by decide +kernel
theorem dX3_become_26 : decode cX3_become 26 = .ok (.sipush 288, 3) := by decide +kernel
theorem dX3_become_29 : decode cX3_become 29 = .ok (.invokestatic 38, 3) := by decide +kernel
theorem dX3_become_32 : decode cX3_become 32 = .ok (.aload_n 1, 1) := by decide +kernel
theorem dX3_become_33 : decode cX3_become 33 = .ok (.getfield 21, 3) := by decide +kernel
theorem dX3_become_36 : decode cX3_become 36 = .ok (.iconst 0, 1) := by decide +kernel
theorem dX3_become_37 : decode cX3_become 37 = .ok (.aload_n 0, 1) := by decide +kernel
theorem dX3_become_38 : decode cX3_become 38 = .ok (.getfield 21, 3) := by decide +kernel
theorem dX3_become_41 : decode cX3_become 41 = .ok (.iconst 0, 1) := by decide +kernel
theorem dX3_become_42 : decode cX3_become 42 = .ok (.bipush 72, 2) := by decide +kernel
theorem dX3_become_44 : decode cX3_become 44 = .ok (.invokestatic 38, 3) := by decide +kernel
theorem dX3_become_47 : decode cX3_become 47 = .ok (.aload_n 1, 1) := by decide +kernel
theorem dX3_become_48 : decode cX3_become 48 = .ok (.getfield 24, 3) := by decide +kernel
theorem dX3_become_51 : decode cX3_become 51 = .ok (.iconst 0, 1) := by decide +kernel
theorem dX3_become_52 : decode cX3_become 52 = .ok (.aload_n 0, 1) := by decide +kernel
theorem dX3_become_53 : decode cX3_become 53 = .ok (.getfield 24, 3) := by decide +kernel
theorem dX3_become_56 : decode cX3_become 56 = .ok (.iconst 0, 1) := by decide +kernel
theorem dX3_become_57 : decode cX3_become 57 = .ok (.bipush 72, 2) := by decide +kernel
theorem dX3_become_59 : decode cX3_become 59 = .ok (.invokestatic 38, 3) := by decide +kernel
theorem dX3_become_62 : decode cX3_become 62 = .ok (.aload_n 0, 1) := by decide +kernel
theorem dX3_become_63 : decode cX3_become 63 = .ok (.getfield 18, 3) := by decide +kernel
theorem dX3_become_66 : decode cX3_become 66 = .ok (.iconst 0, 1) := by decide +kernel
theorem dX3_become_67 : decode cX3_become 67 = .ok (.invokestatic 44, 3) := by decide +kernel
theorem dX3_become_70 : decode cX3_become 70 = .ok (.aload_n 0, 1) := by decide +kernel
theorem dX3_become_71 : decode cX3_become 71 = .ok (.aload_n 1, 1) := by decide +kernel
theorem dX3_become_72 : decode cX3_become 72 = .ok (.getfield 34, 3) := by decide +kernel
theorem dX3_become_75 : decode cX3_become 75 = .ok (.putfield 34, 3) := by decide +kernel
theorem dX3_become_78 : decode cX3_become 78 = .ok (.return_, 1) := by decide +kernel
theorem okX3_become : ab_okM MX3_become 1 := ⟨by decide, ⟨by decide, by decide⟩, ab_in 1746 (by decide +kernel) (by decide +kernel), ab_in 90 (by decide +kernel) (by decide +kernel), by decide +kernel, by decide⟩
set_option maxHeartbeats 4000000 in
set_option maxRecDepth 100000 in
theorem sX3_become (v0 : Nat) (v1 : Nat) (hv0 : isF v0) (hv1 : isF v1) (x : ab_X) (K : ab_X → Prop) (d bc bs : Nat) (hdp : 1 ≤ d) (h : wX3_become v0 v1 x K) : EW MX3_become 0 [(0, .ref v0), (1, .ref v1)] [] (aS x) d bc bs (liV K) := by
  unfold wX3_become at h
  refine EW_aload_n (pc2 := 1) rfl dX3_become_0 1 rfl ?_
  refine AW_getr (r := (v1 + 1)) ⟨gfRX3_9, rfl⟩ (pc2 := 4) rfl dX3_become_1 (isF.o hv1) (isF.r0 hv1) ?_
  refine EW_iconst (pc2 := 5) (v := 0) rfl dX3_become_4 (by decide) ?_
  refine EW_aload_n (pc2 := 6) rfl dX3_become_5 0 rfl ?_
  refine AW_getr (r := (v0 + 1)) ⟨gfRX3_9, rfl⟩ (pc2 := 9) rfl dX3_become_6 (isF.o hv0) (isF.r0 hv0) ?_
  refine EW_iconst (pc2 := 10) (v := 0) rfl dX3_become_9 (by decide) ?_
  refine EW_sipush (pc2 := 13) (v := 288) rfl dX3_become_10 (by decide) ?_
  obtain ⟨c1, h⟩ := h
  obtain ⟨c2, h⟩ := h
  obtain ⟨c3, h⟩ := h
  obtain ⟨c4, h⟩ := h
  obtain ⟨c5, h⟩ := h
  refine AW_copyi mmRX3_38 (pc2 := 16) rfl dX3_become_13 (Nat.le_of_ble_eq_true rfl) (by omega) (isF.a0 hv1) (isF.a0 hv0) c1 c2 c3 c4 c5 ?_
  refine EW_aload_n (pc2 := 17) rfl dX3_become_16 1 rfl ?_
  refine AW_getr (r := (v1 + 2)) ⟨gfRX3_15, rfl⟩ (pc2 := 20) rfl dX3_become_17 (isF.o hv1) (isF.r1 hv1) ?_
  refine EW_iconst (pc2 := 21) (v := 0) rfl dX3_become_20 (by decide) ?_
  refine EW_aload_n (pc2 := 22) rfl dX3_become_21 0 rfl ?_
  refine AW_getr (r := (v0 + 2)) ⟨gfRX3_15, rfl⟩ (pc2 := 25) rfl dX3_become_22 (isF.o hv0) (isF.r1 hv0) ?_
  refine EW_iconst (pc2 := 26) (v := 0) rfl dX3_become_25 (by decide) ?_
  refine EW_sipush (pc2 := 29) (v := 288) rfl dX3_become_26 (by decide) ?_
  obtain ⟨c6, h⟩ := h
  obtain ⟨c7, h⟩ := h
  obtain ⟨c8, h⟩ := h
  obtain ⟨c9, h⟩ := h
  obtain ⟨c10, h⟩ := h
  refine AW_copyi mmRX3_38 (pc2 := 32) rfl dX3_become_29 (Nat.le_of_ble_eq_true rfl) (by omega) (isF.a1 hv1) (isF.a1 hv0) c6 c7 c8 c9 c10 ?_
  refine EW_aload_n (pc2 := 33) rfl dX3_become_32 1 rfl ?_
  refine AW_getr (r := (v1 + 4)) ⟨gfRX3_21, rfl⟩ (pc2 := 36) rfl dX3_become_33 (isF.o hv1) (isF.r3 hv1) ?_
  refine EW_iconst (pc2 := 37) (v := 0) rfl dX3_become_36 (by decide) ?_
  refine EW_aload_n (pc2 := 38) rfl dX3_become_37 0 rfl ?_
  refine AW_getr (r := (v0 + 4)) ⟨gfRX3_21, rfl⟩ (pc2 := 41) rfl dX3_become_38 (isF.o hv0) (isF.r3 hv0) ?_
  refine EW_iconst (pc2 := 42) (v := 0) rfl dX3_become_41 (by decide) ?_
  refine EW_bipush (pc2 := 44) (v := 72) rfl dX3_become_42 (by decide) ?_
  obtain ⟨c11, h⟩ := h
  obtain ⟨c12, h⟩ := h
  obtain ⟨c13, h⟩ := h
  obtain ⟨c14, h⟩ := h
  obtain ⟨c15, h⟩ := h
  refine AW_copyi mmRX3_38 (pc2 := 47) rfl dX3_become_44 (Nat.le_of_ble_eq_true rfl) (by omega) (isF.a3 hv1) (isF.a3 hv0) c11 c12 c13 c14 c15 ?_
  refine EW_aload_n (pc2 := 48) rfl dX3_become_47 1 rfl ?_
  refine AW_getr (r := (v1 + 5)) ⟨gfRX3_24, rfl⟩ (pc2 := 51) rfl dX3_become_48 (isF.o hv1) (isF.r4 hv1) ?_
  refine EW_iconst (pc2 := 52) (v := 0) rfl dX3_become_51 (by decide) ?_
  refine EW_aload_n (pc2 := 53) rfl dX3_become_52 0 rfl ?_
  refine AW_getr (r := (v0 + 5)) ⟨gfRX3_24, rfl⟩ (pc2 := 56) rfl dX3_become_53 (isF.o hv0) (isF.r4 hv0) ?_
  refine EW_iconst (pc2 := 57) (v := 0) rfl dX3_become_56 (by decide) ?_
  refine EW_bipush (pc2 := 59) (v := 72) rfl dX3_become_57 (by decide) ?_
  obtain ⟨c16, h⟩ := h
  obtain ⟨c17, h⟩ := h
  obtain ⟨c18, h⟩ := h
  obtain ⟨c19, h⟩ := h
  obtain ⟨c20, h⟩ := h
  obtain ⟨c21, h⟩ := h
  refine AW_copyz mmRX3_38 (pc2 := 62) rfl dX3_become_59 (Nat.le_of_ble_eq_true rfl) (by omega) (isF.a4 hv1) (isF.a4 hv0) c16 c17 c18 c19 c20 c21 ?_
  refine EW_aload_n (pc2 := 63) rfl dX3_become_62 0 rfl ?_
  refine AW_getr (r := (v0 + 3)) ⟨gfRX3_18, rfl⟩ (pc2 := 66) rfl dX3_become_63 (isF.o hv0) (isF.r2 hv0) ?_
  refine EW_iconst (pc2 := 67) (v := 0) rfl dX3_become_66 (by decide) ?_
  refine AW_invS (M' := MJ7_fill_53178) [.ref (v0 + 3), .int 0] (rest := []) mlRX3_44 okJ7_fill_53178 (pc2 := 70) rfl dX3_become_67 rfl rfl (Nat.le_of_ble_eq_true rfl) (Nat.le_of_ble_eq_true rfl) (d' := 0) (by omega) (EW_mono (fun _ _ hr => ?_) (sJ7_fill_53178 (v0 + 3) 288 0 (isF.a2 hv0) (wrA (wrA (wrA (wrA x (v0 + 1) (va_cpy (x.1 (v1 + 1)) (x.1 (v0 + 1)) (Int32.toNatClampNeg 0) (Int32.toNatClampNeg 0) (Int32.toNatClampNeg 288))) (v0 + 2) (va_cpy ((wrA x (v0 + 1) (va_cpy (x.1 (v1 + 1)) (x.1 (v0 + 1)) (Int32.toNatClampNeg 0) (Int32.toNatClampNeg 0) (Int32.toNatClampNeg 288))).1 (v1 + 2)) ((wrA x (v0 + 1) (va_cpy (x.1 (v1 + 1)) (x.1 (v0 + 1)) (Int32.toNatClampNeg 0) (Int32.toNatClampNeg 0) (Int32.toNatClampNeg 288))).1 (v0 + 2)) (Int32.toNatClampNeg 0) (Int32.toNatClampNeg 0) (Int32.toNatClampNeg 288))) (v0 + 4) (va_cpy ((wrA (wrA x (v0 + 1) (va_cpy (x.1 (v1 + 1)) (x.1 (v0 + 1)) (Int32.toNatClampNeg 0) (Int32.toNatClampNeg 0) (Int32.toNatClampNeg 288))) (v0 + 2) (va_cpy ((wrA x (v0 + 1) (va_cpy (x.1 (v1 + 1)) (x.1 (v0 + 1)) (Int32.toNatClampNeg 0) (Int32.toNatClampNeg 0) (Int32.toNatClampNeg 288))).1 (v1 + 2)) ((wrA x (v0 + 1) (va_cpy (x.1 (v1 + 1)) (x.1 (v0 + 1)) (Int32.toNatClampNeg 0) (Int32.toNatClampNeg 0) (Int32.toNatClampNeg 288))).1 (v0 + 2)) (Int32.toNatClampNeg 0) (Int32.toNatClampNeg 0) (Int32.toNatClampNeg 288))).1 (v1 + 4)) ((wrA (wrA x (v0 + 1) (va_cpy (x.1 (v1 + 1)) (x.1 (v0 + 1)) (Int32.toNatClampNeg 0) (Int32.toNatClampNeg 0) (Int32.toNatClampNeg 288))) (v0 + 2) (va_cpy ((wrA x (v0 + 1) (va_cpy (x.1 (v1 + 1)) (x.1 (v0 + 1)) (Int32.toNatClampNeg 0) (Int32.toNatClampNeg 0) (Int32.toNatClampNeg 288))).1 (v1 + 2)) ((wrA x (v0 + 1) (va_cpy (x.1 (v1 + 1)) (x.1 (v0 + 1)) (Int32.toNatClampNeg 0) (Int32.toNatClampNeg 0) (Int32.toNatClampNeg 288))).1 (v0 + 2)) (Int32.toNatClampNeg 0) (Int32.toNatClampNeg 0) (Int32.toNatClampNeg 288))).1 (v0 + 4)) (Int32.toNatClampNeg 0) (Int32.toNatClampNeg 0) (Int32.toNatClampNeg 72))) (v0 + 5) (va_cpy ((wrA (wrA (wrA x (v0 + 1) (va_cpy (x.1 (v1 + 1)) (x.1 (v0 + 1)) (Int32.toNatClampNeg 0) (Int32.toNatClampNeg 0) (Int32.toNatClampNeg 288))) (v0 + 2) (va_cpy ((wrA x (v0 + 1) (va_cpy (x.1 (v1 + 1)) (x.1 (v0 + 1)) (Int32.toNatClampNeg 0) (Int32.toNatClampNeg 0) (Int32.toNatClampNeg 288))).1 (v1 + 2)) ((wrA x (v0 + 1) (va_cpy (x.1 (v1 + 1)) (x.1 (v0 + 1)) (Int32.toNatClampNeg 0) (Int32.toNatClampNeg 0) (Int32.toNatClampNeg 288))).1 (v0 + 2)) (Int32.toNatClampNeg 0) (Int32.toNatClampNeg 0) (Int32.toNatClampNeg 288))) (v0 + 4) (va_cpy ((wrA (wrA x (v0 + 1) (va_cpy (x.1 (v1 + 1)) (x.1 (v0 + 1)) (Int32.toNatClampNeg 0) (Int32.toNatClampNeg 0) (Int32.toNatClampNeg 288))) (v0 + 2) (va_cpy ((wrA x (v0 + 1) (va_cpy (x.1 (v1 + 1)) (x.1 (v0 + 1)) (Int32.toNatClampNeg 0) (Int32.toNatClampNeg 0) (Int32.toNatClampNeg 288))).1 (v1 + 2)) ((wrA x (v0 + 1) (va_cpy (x.1 (v1 + 1)) (x.1 (v0 + 1)) (Int32.toNatClampNeg 0) (Int32.toNatClampNeg 0) (Int32.toNatClampNeg 288))).1 (v0 + 2)) (Int32.toNatClampNeg 0) (Int32.toNatClampNeg 0) (Int32.toNatClampNeg 288))).1 (v1 + 4)) ((wrA (wrA x (v0 + 1) (va_cpy (x.1 (v1 + 1)) (x.1 (v0 + 1)) (Int32.toNatClampNeg 0) (Int32.toNatClampNeg 0) (Int32.toNatClampNeg 288))) (v0 + 2) (va_cpy ((wrA x (v0 + 1) (va_cpy (x.1 (v1 + 1)) (x.1 (v0 + 1)) (Int32.toNatClampNeg 0) (Int32.toNatClampNeg 0) (Int32.toNatClampNeg 288))).1 (v1 + 2)) ((wrA x (v0 + 1) (va_cpy (x.1 (v1 + 1)) (x.1 (v0 + 1)) (Int32.toNatClampNeg 0) (Int32.toNatClampNeg 0) (Int32.toNatClampNeg 288))).1 (v0 + 2)) (Int32.toNatClampNeg 0) (Int32.toNatClampNeg 0) (Int32.toNatClampNeg 288))).1 (v0 + 4)) (Int32.toNatClampNeg 0) (Int32.toNatClampNeg 0) (Int32.toNatClampNeg 72))).1 (v1 + 5)) ((wrA (wrA (wrA x (v0 + 1) (va_cpy (x.1 (v1 + 1)) (x.1 (v0 + 1)) (Int32.toNatClampNeg 0) (Int32.toNatClampNeg 0) (Int32.toNatClampNeg 288))) (v0 + 2) (va_cpy ((wrA x (v0 + 1) (va_cpy (x.1 (v1 + 1)) (x.1 (v0 + 1)) (Int32.toNatClampNeg 0) (Int32.toNatClampNeg 0) (Int32.toNatClampNeg 288))).1 (v1 + 2)) ((wrA x (v0 + 1) (va_cpy (x.1 (v1 + 1)) (x.1 (v0 + 1)) (Int32.toNatClampNeg 0) (Int32.toNatClampNeg 0) (Int32.toNatClampNeg 288))).1 (v0 + 2)) (Int32.toNatClampNeg 0) (Int32.toNatClampNeg 0) (Int32.toNatClampNeg 288))) (v0 + 4) (va_cpy ((wrA (wrA x (v0 + 1) (va_cpy (x.1 (v1 + 1)) (x.1 (v0 + 1)) (Int32.toNatClampNeg 0) (Int32.toNatClampNeg 0) (Int32.toNatClampNeg 288))) (v0 + 2) (va_cpy ((wrA x (v0 + 1) (va_cpy (x.1 (v1 + 1)) (x.1 (v0 + 1)) (Int32.toNatClampNeg 0) (Int32.toNatClampNeg 0) (Int32.toNatClampNeg 288))).1 (v1 + 2)) ((wrA x (v0 + 1) (va_cpy (x.1 (v1 + 1)) (x.1 (v0 + 1)) (Int32.toNatClampNeg 0) (Int32.toNatClampNeg 0) (Int32.toNatClampNeg 288))).1 (v0 + 2)) (Int32.toNatClampNeg 0) (Int32.toNatClampNeg 0) (Int32.toNatClampNeg 288))).1 (v1 + 4)) ((wrA (wrA x (v0 + 1) (va_cpy (x.1 (v1 + 1)) (x.1 (v0 + 1)) (Int32.toNatClampNeg 0) (Int32.toNatClampNeg 0) (Int32.toNatClampNeg 288))) (v0 + 2) (va_cpy ((wrA x (v0 + 1) (va_cpy (x.1 (v1 + 1)) (x.1 (v0 + 1)) (Int32.toNatClampNeg 0) (Int32.toNatClampNeg 0) (Int32.toNatClampNeg 288))).1 (v1 + 2)) ((wrA x (v0 + 1) (va_cpy (x.1 (v1 + 1)) (x.1 (v0 + 1)) (Int32.toNatClampNeg 0) (Int32.toNatClampNeg 0) (Int32.toNatClampNeg 288))).1 (v0 + 2)) (Int32.toNatClampNeg 0) (Int32.toNatClampNeg 0) (Int32.toNatClampNeg 288))).1 (v0 + 4)) (Int32.toNatClampNeg 0) (Int32.toNatClampNeg 0) (Int32.toNatClampNeg 72))).1 (v0 + 5)) (Int32.toNatClampNeg 0) (Int32.toNatClampNeg 0) (Int32.toNatClampNeg 72))) _ _ 0 0 (Nat.le_refl _) h))
  obtain ⟨x22, rfl, rfl, h⟩ := hr
  refine EW_aload_n (pc2 := 71) rfl dX3_become_70 0 rfl ?_
  refine EW_aload_n (pc2 := 72) rfl dX3_become_71 1 rfl ?_
  refine AW_geti ⟨gfRX3_34, rfl⟩ (pc2 := 75) rfl dX3_become_72 (isF.o hv1) ?_
  obtain ⟨z23, h⟩ := h
  refine AW_putz ⟨gfRX3_34, rfl, rfl⟩ z23 (pc2 := 78) rfl dX3_become_75 (isF.o hv0) ?_
  exact EW_vret rfl dX3_become_78 ⟨_, rfl, rfl, h⟩
abbrev MX3_burntOf : ab_M := (yX3_burntOf, cX3_burntOf, 4, (some .int))
theorem dX3_burntOf_0 : decode cX3_burntOf 0 = .ok (.iconst 0, 1) := by decide +kernel
theorem dX3_burntOf_1 : decode cX3_burntOf 1 = .ok (.istore_n 2, 1) := by decide +kernel
theorem dX3_burntOf_2 : decode cX3_burntOf 2 = .ok (.iconst 0, 1) := by decide +kernel
theorem dX3_burntOf_3 : decode cX3_burntOf 3 = .ok (.istore_n 3, 1) := by decide +kernel
theorem dX3_burntOf_4 : decode cX3_burntOf 4 = .ok (.iload_n 3, 1) := by decide +kernel
theorem dX3_burntOf_5 : decode cX3_burntOf 5 = .ok (.aload_n 1, 1) := by decide +kernel
theorem dX3_burntOf_6 : decode cX3_burntOf 6 = .ok (.getfield 56, 3) := by decide +kernel
theorem dX3_burntOf_9 : decode cX3_burntOf 9 = .ok (.if_icmp .ge 22, 3) := by decide +kernel
theorem dX3_burntOf_12 : decode cX3_burntOf 12 = .ok (.iload_n 2, 1) := by decide +kernel
theorem dX3_burntOf_13 : decode cX3_burntOf 13 = .ok (.aload_n 0, 1) := by decide +kernel
theorem dX3_burntOf_14 : decode cX3_burntOf 14 = .ok (.getfield 21, 3) := by decide +kernel
theorem dX3_burntOf_17 : decode cX3_burntOf 17 = .ok (.aload_n 1, 1) := by decide +kernel
theorem dX3_burntOf_18 : decode cX3_burntOf 18 = .ok (.iload_n 3, 1) := by decide +kernel
theorem dX3_burntOf_19 : decode cX3_burntOf 19 = .ok (.invokevirtual 50, 3) := by decide +kernel
theorem dX3_burntOf_22 : decode cX3_burntOf 22 = .ok (.iaload, 1) := by decide +kernel
theorem dX3_burntOf_23 : decode cX3_burntOf 23 = .ok (.iadd, 1) := by decide +kernel
theorem dX3_burntOf_24 : decode cX3_burntOf 24 = .ok (.istore_n 2, 1) := by decide +kernel
theorem dX3_burntOf_25 : decode cX3_burntOf 25 = .ok (.iinc 3 1, 3) := by decide +kernel
theorem dX3_burntOf_28 : decode cX3_burntOf 28 = .ok (.goto (-24), 3) := by decide +kernel
theorem dX3_burntOf_31 : decode cX3_burntOf 31 = .ok (.iload_n 2, 1) := by decide +kernel
theorem dX3_burntOf_32 : decode cX3_burntOf 32 = .ok (.ireturn, 1) := by decide +kernel
theorem okX3_burntOf : ab_okM MX3_burntOf 1 := ⟨by decide, ⟨by decide, by decide⟩, ab_in 933 (by decide +kernel) (by decide +kernel), ab_in 90 (by decide +kernel) (by decide +kernel), by decide +kernel, by decide⟩
set_option maxHeartbeats 4000000 in
set_option maxRecDepth 100000 in
theorem sX3_burntOf_4 (v0 : Nat) (v1 : Nat) (v2 : Int32) (v3 : Int32) (hv0 : isF v0) (hv1 : isH v1) (x : ab_X) (K : Int32 → Prop)  (d bc bs : Nat) (hdp : 1 ≤ d)  (h : Lp2 (lX3_burntOf_4 v0 v1 x K ) v2 v3) : EW MX3_burntOf 4 [(0, .ref v0), (1, .ref v1), (2, .int v2), (3, .int v3)] [] (aS x) d bc bs (liP x K) := by
  refine Lp2.use (P := fun v2 v3 => EW MX3_burntOf 4 [(0, .ref v0), (1, .ref v1), (2, .int v2), (3, .int v3)] [] (aS x) d bc bs (liP x K)) (fun L4 v2 v3 hL4 h => ?_) v2 v3 h
  unfold lX3_burntOf_4 at h
  refine EW_iload_n (pc2 := 5) rfl dX3_burntOf_4 3 rfl ?_
  refine EW_aload_n (pc2 := 6) rfl dX3_burntOf_5 1 rfl ?_
  refine AW_geti ⟨gfRX3_56, rfl⟩ (pc2 := 9) rfl dX3_burntOf_6 (isH.o hv1) ?_
  refine EW_icmp_ge (tgt := 31) (pc2 := 12) rfl dX3_burntOf_9 (by decide) (fun q => ?_) (fun q => ?_)
  · replace h := h.1 q
    refine EW_iload_n (pc2 := 32) rfl dX3_burntOf_31 2 rfl ?_
    exact AW_iret rfl dX3_burntOf_32 ⟨_, rfl, rfl, h⟩
  · replace h := h.2 q
    refine EW_iload_n (pc2 := 13) rfl dX3_burntOf_12 2 rfl ?_
    refine EW_aload_n (pc2 := 14) rfl dX3_burntOf_13 0 rfl ?_
    refine AW_getr (r := (v0 + 4)) ⟨gfRX3_21, rfl⟩ (pc2 := 17) rfl dX3_burntOf_14 (isF.o hv0) (isF.r3 hv0) ?_
    refine EW_aload_n (pc2 := 18) rfl dX3_burntOf_17 1 rfl ?_
    refine EW_iload_n (pc2 := 19) rfl dX3_burntOf_18 3 rfl ?_
    refine AW_invV (M' := MX4_storey) [.int v3] (rest := [.ref (v0 + 4), .int v2]) mlRX3_50 okX4_storey (pc2 := 22) rfl dX3_burntOf_19 rfl rfl (Nat.le_of_ble_eq_true rfl) (Nat.le_of_ble_eq_true rfl) (d' := 0) (by omega) (isH.o hv1) ⟨by decide, rfl⟩ (EW_mono (fun _ _ hr => ?_) (sX4_storey v1 v3 hv1 x _ _ 0 0 (Nat.le_refl _) h))
    obtain ⟨r1, rfl, rfl, h⟩ := hr
    obtain ⟨b2, h⟩ := h
    refine AW_iald (pc2 := 23) rfl dX3_burntOf_22 (isF.a3 hv0) b2 ?_
    refine EW_iadd (pc2 := 24) rfl dX3_burntOf_23 ?_
    refine EW_istore_n (pc2 := 25) rfl dX3_burntOf_24 (by decide) [1, 2, 0, 3] [(0, .ref v0), (1, .ref v1), (2, .int (v2 + (x.1 (v0 + 4) (Int32.toNatClampNeg r1)))), (3, .int v3)] rfl ?_
    refine EW_iinc (v3 + 1) (pc2 := 28) rfl dX3_burntOf_25 3 rfl rfl (by decide) [1, 2, 3, 0] [(0, .ref v0), (1, .ref v1), (2, .int (v2 + (x.1 (v0 + 4) (Int32.toNatClampNeg r1)))), (3, .int (v3 + 1))] rfl ?_
    refine EW_goto (tgt := 4) dX3_burntOf_28 (by decide) ?_
    exact hL4 (v2 + (x.1 (v0 + 4) (Int32.toNatClampNeg r1))) (v3 + 1) h
set_option maxHeartbeats 4000000 in
set_option maxRecDepth 100000 in
theorem sX3_burntOf (v0 : Nat) (v1 : Nat) (hv0 : isF v0) (hv1 : isH v1) (x : ab_X) (K : Int32 → Prop) (d bc bs : Nat) (hdp : 1 ≤ d) (h : wX3_burntOf v0 v1 x K) : EW MX3_burntOf 0 [(0, .ref v0), (1, .ref v1)] [] (aS x) d bc bs (liP x K) := by
  unfold wX3_burntOf at h
  refine EW_iconst (pc2 := 1) (v := 0) rfl dX3_burntOf_0 (by decide) ?_
  refine EW_istore_n (pc2 := 2) rfl dX3_burntOf_1 (by decide) [1, 2, 0] [(0, .ref v0), (1, .ref v1), (2, .int 0)] rfl ?_
  refine EW_iconst (pc2 := 3) (v := 0) rfl dX3_burntOf_2 (by decide) ?_
  refine EW_istore_n (pc2 := 4) rfl dX3_burntOf_3 (by decide) [1, 2, 3, 0] [(0, .ref v0), (1, .ref v1), (2, .int 0), (3, .int 0)] rfl ?_
  exact sX3_burntOf_4 v0 v1 0 0 hv0 hv1 x K d bc bs hdp h
theorem gfRX10_24 : ab_L RX10 24 10 4 := ⟨by decide, by decide, ab_in 320 (by decide +kernel) (by decide +kernel)⟩
theorem mlRX10_131 : Cond.methodLink RX10 131 yX3_burntOf ∈ ab_G ∧ Cond.instanceMethod yX3_burntOf ∈ ab_G ∧ Cond.selects RX3 yX3_burntOf yX3_burntOf ∈ ab_G := ⟨ab_in 1749 (by decide +kernel) (by decide +kernel), ab_in 931 (by decide +kernel) (by decide +kernel), ab_in 932 (by decide +kernel) (by decide +kernel)⟩
theorem mlRX10_120 : Cond.methodLink RX10 120 yX3_become ∈ ab_G ∧ Cond.instanceMethod yX3_become ∈ ab_G ∧ Cond.selects RX3 yX3_become yX3_become ∈ ab_G := ⟨ab_in 1743 (by decide +kernel) (by decide +kernel), ab_in 1744 (by decide +kernel) (by decide +kernel), ab_in 1745 (by decide +kernel) (by decide +kernel)⟩
theorem gfRX10_124 : ab_L RX10 124 3 2 := ⟨by decide, by decide, ab_in 181 (by decide +kernel) (by decide +kernel)⟩
theorem mlRX10_127 : Cond.methodLink RX10 127 yX4_place ∈ ab_G ∧ Cond.instanceMethod yX4_place ∈ ab_G ∧ Cond.selects RX4 yX4_place yX4_place ∈ ab_G := ⟨ab_in 1748 (by decide +kernel) (by decide +kernel), ab_in 872 (by decide +kernel) (by decide +kernel), ab_in 873 (by decide +kernel) (by decide +kernel)⟩
abbrev MX10_tryWater : ab_M := (yX10_tryWater, cX10_tryWater, 6, (some .int))
theorem dX10_tryWater_0 : decode cX10_tryWater 0 = .ok (.aload_n 0, 1) := by decide +kernel
theorem dX10_tryWater_1 : decode cX10_tryWater 1 = .ok (.getfield 24, 3) := by decide +kernel
theorem dX10_tryWater_4 : decode cX10_tryWater 4 = .ok (.aload_n 0, 1) := by decide +kernel
theorem dX10_tryWater_5 : decode cX10_tryWater 5 = .ok (.getfield 20, 3) := by decide +kernel
theorem dX10_tryWater_8 : decode cX10_tryWater 8 = .ok (.invokevirtual 120, 3) := by decide +kernel
theorem dX10_tryWater_11 : decode cX10_tryWater 11 = .ok (.aload_n 0, 1) := by decide +kernel
theorem dX10_tryWater_12 : decode cX10_tryWater 12 = .ok (.getfield 24, 3) := by decide +kernel
theorem dX10_tryWater_15 : decode cX10_tryWater 15 = .ok (.getfield 124, 3) := by decide +kernel
theorem dX10_tryWater_18 : decode cX10_tryWater 18 = .ok (.aload_n 1, 1) := by decide +kernel
theorem dX10_tryWater_19 : decode cX10_tryWater 19 = .ok (.iload_n 2, 1) := by decide +kernel
theorem dX10_tryWater_20 : decode cX10_tryWater 20 = .ok (.invokevirtual 127, 3) := by decide +kernel
theorem dX10_tryWater_23 : decode cX10_tryWater 23 = .ok (.iload_n 3, 1) := by decide +kernel
theorem dX10_tryWater_24 : decode cX10_tryWater 24 = .ok (.iastore, 1) := by decide +kernel
theorem dX10_tryWater_25 : decode cX10_tryWater 25 = .ok (.iconst 0, 1) := by decide +kernel
theorem dX10_tryWater_26 : decode cX10_tryWater 26 = .ok (.istore 5, 2) := by decide +kernel
theorem dX10_tryWater_28 : decode cX10_tryWater 28 = .ok (.iload 5, 2) := by decide +kernel
theorem dX10_tryWater_30 : decode cX10_tryWater 30 = .ok (.iload 4, 2) := by decide +kernel
theorem dX10_tryWater_32 : decode cX10_tryWater 32 = .ok (.if_icmp .ge 24, 3) := by decide +kernel
theorem dX10_tryWater_35 : decode cX10_tryWater 35 = .ok (.aload_n 0, 1) := by decide +kernel
theorem dX10_tryWater_36 : decode cX10_tryWater 36 = .ok (.getfield 24, 3) := by decide +kernel
theorem dX10_tryWater_39 : decode cX10_tryWater 39 = .ok (.aload_n 0, 1) := by decide +kernel
theorem dX10_tryWater_40 : decode cX10_tryWater 40 = .ok (.getfield 11, 3) := by decide +kernel
theorem dX10_tryWater_43 : decode cX10_tryWater 43 = .ok (.aload_n 0, 1) := by decide +kernel
theorem dX10_tryWater_44 : decode cX10_tryWater 44 = .ok (.getfield 44, 3) := by decide +kernel
theorem dX10_tryWater_47 : decode cX10_tryWater 47 = .ok (.invokevirtual 97, 3) := by decide +kernel
theorem dX10_tryWater_50 : decode cX10_tryWater 50 = .ok (.iinc 5 1, 3) := by decide +kernel
theorem dX10_tryWater_53 : decode cX10_tryWater 53 = .ok (.goto (-25), 3) := by decide +kernel
theorem dX10_tryWater_56 : decode cX10_tryWater 56 = .ok (.aload_n 0, 1) := by decide +kernel
theorem dX10_tryWater_57 : decode cX10_tryWater 57 = .ok (.getfield 24, 3) := by decide +kernel
theorem dX10_tryWater_60 : decode cX10_tryWater 60 = .ok (.aload_n 1, 1) := by decide +kernel
theorem dX10_tryWater_61 : decode cX10_tryWater 61 = .ok (.invokevirtual 131, 3) := by decide +kernel
theorem dX10_tryWater_64 : decode cX10_tryWater 64 = .ok (.aload_n 0, 1) := by decide +kernel
theorem dX10_tryWater_65 : decode cX10_tryWater 65 = .ok (.getfield 20, 3) := by decide +kernel
theorem dX10_tryWater_68 : decode cX10_tryWater 68 = .ok (.aload_n 1, 1) := by decide +kernel
theorem dX10_tryWater_69 : decode cX10_tryWater 69 = .ok (.invokevirtual 131, 3) := by decide +kernel
theorem dX10_tryWater_72 : decode cX10_tryWater 72 = .ok (.isub, 1) := by decide +kernel
theorem dX10_tryWater_73 : decode cX10_tryWater 73 = .ok (.ireturn, 1) := by decide +kernel
theorem okX10_tryWater : ab_okM MX10_tryWater 4 := ⟨by decide, ⟨by decide, by decide⟩, ab_in 1742 (by decide +kernel) (by decide +kernel), ab_in 89 (by decide +kernel) (by decide +kernel), by decide +kernel, by decide⟩
set_option maxHeartbeats 4000000 in
set_option maxRecDepth 100000 in
theorem sX10_tryWater_28 (v1 : Nat) (v4 : Int32) (v5 : Int32) (hv1 : isH v1) (x : ab_X) (K : Int32 → ab_X → Prop)  (d bc bs : Nat) (hdp : 4 ≤ d)  (h : Lp2 (lX10_tryWater_28 v1 v4 K ) v5 x) : EW MX10_tryWater 28 [(0, .ref 9), (1, .ref v1), (4, .int v4), (5, .int v5)] [] (aS x) d bc bs (liI K) := by
  refine Lp2.use (P := fun v5 x => EW MX10_tryWater 28 [(0, .ref 9), (1, .ref v1), (4, .int v4), (5, .int v5)] [] (aS x) d bc bs (liI K)) (fun L28 v5 x hL28 h => ?_) v5 x h
  unfold lX10_tryWater_28 at h
  refine EW_iload (pc2 := 30) rfl dX10_tryWater_28 3 rfl ?_
  refine EW_iload (pc2 := 32) rfl dX10_tryWater_30 2 rfl ?_
  refine EW_icmp_ge (tgt := 56) (pc2 := 35) rfl dX10_tryWater_32 (by decide) (fun q => ?_) (fun q => ?_)
  · replace h := h.1 q
    refine EW_aload_n (pc2 := 57) rfl dX10_tryWater_56 0 rfl ?_
    refine AW_getr (r := 19) ⟨gfRX10_24, rfl⟩ (pc2 := 60) rfl dX10_tryWater_57 q9 rfl ?_
    refine EW_aload_n (pc2 := 61) rfl dX10_tryWater_60 1 rfl ?_
    refine AW_invV (M' := MX3_burntOf) [.ref v1] (rest := []) mlRX10_131 okX3_burntOf (pc2 := 64) rfl dX10_tryWater_61 rfl rfl (Nat.le_of_ble_eq_true rfl) (Nat.le_of_ble_eq_true rfl) (d' := 1) (by omega) q19 ⟨by decide, rfl⟩ (EW_mono (fun _ _ hr => ?_) (sX3_burntOf 19 v1 (Or.inr rfl : isF 19) hv1 x _ _ 0 0 (Nat.le_refl _) h))
    obtain ⟨r4, rfl, rfl, h⟩ := hr
    refine EW_aload_n (pc2 := 65) rfl dX10_tryWater_64 0 rfl ?_
    refine AW_getr (r := 11) ⟨gfRX10_20, rfl⟩ (pc2 := 68) rfl dX10_tryWater_65 q9 rfl ?_
    refine EW_aload_n (pc2 := 69) rfl dX10_tryWater_68 1 rfl ?_
    refine AW_invV (M' := MX3_burntOf) [.ref v1] (rest := [.int r4]) mlRX10_131 okX3_burntOf (pc2 := 72) rfl dX10_tryWater_69 rfl rfl (Nat.le_of_ble_eq_true rfl) (Nat.le_of_ble_eq_true rfl) (d' := 1) (by omega) q11 ⟨by decide, rfl⟩ (EW_mono (fun _ _ hr => ?_) (sX3_burntOf 11 v1 (Or.inl rfl : isF 11) hv1 x _ _ 0 0 (Nat.le_refl _) h))
    obtain ⟨r5, rfl, rfl, h⟩ := hr
    refine EW_isub (pc2 := 73) rfl dX10_tryWater_72 ?_
    exact AW_iret rfl dX10_tryWater_73 ⟨_, _, rfl, rfl, h⟩
  · replace h := h.2 q
    refine EW_aload_n (pc2 := 36) rfl dX10_tryWater_35 0 rfl ?_
    refine AW_getr (r := 19) ⟨gfRX10_24, rfl⟩ (pc2 := 39) rfl dX10_tryWater_36 q9 rfl ?_
    refine EW_aload_n (pc2 := 40) rfl dX10_tryWater_39 0 rfl ?_
    refine AW_getr (r := 10) ⟨gfRX10_11, rfl⟩ (pc2 := 43) rfl dX10_tryWater_40 q9 rfl ?_
    refine EW_aload_n (pc2 := 44) rfl dX10_tryWater_43 0 rfl ?_
    refine AW_geti ⟨gfRX10_44, rfl⟩ (pc2 := 47) rfl dX10_tryWater_44 q9 ?_
    refine AW_invV (M' := MX3_step) [.ref 10, .int (x.1 9 2)] (rest := []) mlRX10_97 okX3_step (pc2 := 50) rfl dX10_tryWater_47 rfl rfl (Nat.le_of_ble_eq_true rfl) (Nat.le_of_ble_eq_true rfl) (d' := 3) (by omega) q19 ⟨by decide, rfl⟩ (EW_mono (fun _ _ hr => ?_) (sX3_step 19 (x.1 9 2) (Or.inr rfl : isF 19) x _ _ 0 0 (Nat.le_refl _) h))
    obtain ⟨x6, rfl, rfl, h⟩ := hr
    refine EW_iinc (v5 + 1) (pc2 := 53) rfl dX10_tryWater_50 3 rfl rfl (by decide) [1, 2, 3, 0] [(0, .ref 9), (1, .ref v1), (4, .int v4), (5, .int (v5 + 1))] rfl ?_
    refine EW_goto (tgt := 28) dX10_tryWater_53 (by decide) ?_
    exact hL28 (v5 + 1) x6 h
set_option maxHeartbeats 4000000 in
set_option maxRecDepth 100000 in
theorem sX10_tryWater (v1 : Nat) (v2 : Int32) (v3 : Int32) (v4 : Int32) (hv1 : isH v1) (x : ab_X) (K : Int32 → ab_X → Prop) (d bc bs : Nat) (hdp : 4 ≤ d) (h : wX10_tryWater v1 v2 v3 v4 x K) : EW MX10_tryWater 0 [(0, .ref 9), (1, .ref v1), (2, .int v2), (3, .int v3), (4, .int v4)] [] (aS x) d bc bs (liI K) := by
  unfold wX10_tryWater at h
  refine EW_aload_n (pc2 := 1) rfl dX10_tryWater_0 0 rfl ?_
  refine AW_getr (r := 19) ⟨gfRX10_24, rfl⟩ (pc2 := 4) rfl dX10_tryWater_1 q9 rfl ?_
  refine EW_aload_n (pc2 := 5) rfl dX10_tryWater_4 0 rfl ?_
  refine AW_getr (r := 11) ⟨gfRX10_20, rfl⟩ (pc2 := 8) rfl dX10_tryWater_5 q9 rfl ?_
  refine AW_invV (M' := MX3_become) [.ref 11] (rest := []) mlRX10_120 okX3_become (pc2 := 11) rfl dX10_tryWater_8 rfl rfl (Nat.le_of_ble_eq_true rfl) (Nat.le_of_ble_eq_true rfl) (d' := 1) (by omega) q19 ⟨by decide, rfl⟩ (EW_mono (fun _ _ hr => ?_) (sX3_become 19 11 (Or.inr rfl : isF 19) (Or.inl rfl : isF 11) x _ _ 0 0 (Nat.le_refl _) h))
  obtain ⟨x1, rfl, rfl, h⟩ := hr
  refine EW_aload_n (pc2 := 12) rfl dX10_tryWater_11 0 rfl ?_
  refine AW_getr (r := 19) ⟨gfRX10_24, rfl⟩ (pc2 := 15) rfl dX10_tryWater_12 q9 rfl ?_
  refine AW_getr (r := 22) ⟨gfRX10_124, rfl⟩ (pc2 := 18) rfl dX10_tryWater_15 q19 rfl ?_
  refine EW_aload_n (pc2 := 19) rfl dX10_tryWater_18 1 rfl ?_
  refine EW_iload_n (pc2 := 20) rfl dX10_tryWater_19 2 rfl ?_
  refine AW_invV (M' := MX4_place) [.int v2] (rest := [.ref 22]) mlRX10_127 okX4_place (pc2 := 23) rfl dX10_tryWater_20 rfl rfl (Nat.le_of_ble_eq_true rfl) (Nat.le_of_ble_eq_true rfl) (d' := 0) (by omega) (isH.o hv1) ⟨by decide, rfl⟩ (EW_mono (fun _ _ hr => ?_) (sX4_place v1 v2 hv1 x1 _ _ 0 0 (Nat.le_refl _) h))
  obtain ⟨r2, rfl, rfl, h⟩ := hr
  refine EW_iload_n (pc2 := 24) rfl dX10_tryWater_23 3 rfl ?_
  obtain ⟨b3, h⟩ := h
  refine AW_iast (pc2 := 25) rfl dX10_tryWater_24 q22 b3 ?_
  refine EW_iconst (pc2 := 26) (v := 0) rfl dX10_tryWater_25 (by decide) ?_
  refine EW_istore (pc2 := 28) rfl dX10_tryWater_26 (by decide) [1, 2, 3, 4, 5, 0] [(0, .ref 9), (1, .ref v1), (2, .int v2), (3, .int v3), (4, .int v4), (5, .int 0)] rfl ?_
  refine EW_ls [0, 1, 4, 5] rfl ?_
  exact sX10_tryWater_28 v1 v4 0 hv1 (wr x1 22 (Int32.toNatClampNeg r2) v3) K d bc bs hdp h
abbrev MX11_within : ab_M := (yX11_within, cX11_within, 3, (some .boolean))
theorem dX11_within_0 : decode cX11_within 0 = .ok (.iload_n 0, 1) := by decide +kernel
theorem dX11_within_1 : decode cX11_within 1 = .ok (.iload_n 1, 1) := by decide +kernel
theorem dX11_within_2 : decode cX11_within 2 = .ok (.if_icmp .lt 12, 3) := by decide +kernel
theorem dX11_within_5 : decode cX11_within 5 = .ok (.iload_n 0, 1) := by decide +kernel
theorem dX11_within_6 : decode cX11_within 6 = .ok (.iload_n 2, 1) := by decide +kernel
theorem dX11_within_7 : decode cX11_within 7 = .ok (.if_icmp .gt 7, 3) := by decide +kernel
theorem dX11_within_10 : decode cX11_within 10 = .ok (.iconst 1, 1) := by decide +kernel
theorem dX11_within_11 : decode cX11_within 11 = .ok (.goto 4, 3) := by decide +kernel
theorem dX11_within_14 : decode cX11_within 14 = .ok (.iconst 0, 1) := by decide +kernel
theorem dX11_within_15 : decode cX11_within 15 = .ok (.ireturn, 1) := by decide +kernel
theorem okX11_within : ab_okM MX11_within 3 := ⟨by decide, ⟨by decide, by decide⟩, ab_in 772 (by decide +kernel) (by decide +kernel), ab_in 86 (by decide +kernel) (by decide +kernel), by decide +kernel, by decide⟩
set_option maxHeartbeats 4000000 in
set_option maxRecDepth 100000 in
theorem sX11_within (v0 : Int32) (v1 : Int32) (v2 : Int32)  (x : ab_X) (K : Int32 → Prop) (d bc bs : Nat) (hdp : 0 ≤ d) (h : wX11_within v0 v1 v2 x K) : EW MX11_within 0 [(0, .int v0), (1, .int v1), (2, .int v2)] [] (aS x) d bc bs (liP x K) := by
  unfold wX11_within at h
  refine EW_iload_n (pc2 := 1) rfl dX11_within_0 0 rfl ?_
  refine EW_iload_n (pc2 := 2) rfl dX11_within_1 1 rfl ?_
  refine EW_icmp_lt (tgt := 14) (pc2 := 5) rfl dX11_within_2 (by decide) (fun q => ?_) (fun q => ?_)
  · replace h := h.1 q
    refine EW_iconst (pc2 := 15) (v := 0) rfl dX11_within_14 (by decide) ?_
    exact AW_zret rfl isB0 dX11_within_15 ⟨_, rfl, rfl, h⟩
  · replace h := h.2 q
    refine EW_iload_n (pc2 := 6) rfl dX11_within_5 0 rfl ?_
    refine EW_iload_n (pc2 := 7) rfl dX11_within_6 2 rfl ?_
    refine EW_icmp_gt (tgt := 14) (pc2 := 10) rfl dX11_within_7 (by decide) (fun q => ?_) (fun q => ?_)
    · replace h := h.1 q
      refine EW_iconst (pc2 := 15) (v := 0) rfl dX11_within_14 (by decide) ?_
      exact AW_zret rfl isB0 dX11_within_15 ⟨_, rfl, rfl, h⟩
    · replace h := h.2 q
      refine EW_iconst (pc2 := 11) (v := 1) rfl dX11_within_10 (by decide) ?_
      refine EW_goto (tgt := 15) dX11_within_11 (by decide) ?_
      exact AW_zret rfl isB1 dX11_within_15 ⟨_, rfl, rfl, h⟩
theorem gfRX5_17 : ab_L RX5 17 5 2 := ⟨by decide, by decide, ab_in 632 (by decide +kernel) (by decide +kernel)⟩
theorem gfRX5_46 : ab_L RX5 46 5 4 := ⟨by decide, by decide, ab_in 634 (by decide +kernel) (by decide +kernel)⟩
theorem gfRX5_21 : ab_L RX5 21 5 3 := ⟨by decide, by decide, ab_in 633 (by decide +kernel) (by decide +kernel)⟩
abbrev MX5_addAct : ab_M := (yX5_addAct, cX5_addAct, 3, (some .int))
theorem dX5_addAct_0 : decode cX5_addAct 0 = .ok (.aload_n 0, 1) := by decide +kernel
theorem dX5_addAct_1 : decode cX5_addAct 1 = .ok (.getfield 17, 3) := by decide +kernel
theorem dX5_addAct_4 : decode cX5_addAct 4 = .ok (.aload_n 0, 1) := by decide +kernel
theorem dX5_addAct_5 : decode cX5_addAct 5 = .ok (.getfield 46, 3) := by decide +kernel
theorem dX5_addAct_8 : decode cX5_addAct 8 = .ok (.iload_n 1, 1) := by decide +kernel
theorem dX5_addAct_9 : decode cX5_addAct 9 = .ok (.iastore, 1) := by decide +kernel
theorem dX5_addAct_10 : decode cX5_addAct 10 = .ok (.aload_n 0, 1) := by decide +kernel
theorem dX5_addAct_11 : decode cX5_addAct 11 = .ok (.getfield 21, 3) := by decide +kernel
theorem dX5_addAct_14 : decode cX5_addAct 14 = .ok (.aload_n 0, 1) := by decide +kernel
theorem dX5_addAct_15 : decode cX5_addAct 15 = .ok (.getfield 46, 3) := by decide +kernel
theorem dX5_addAct_18 : decode cX5_addAct 18 = .ok (.iload_n 2, 1) := by decide +kernel
theorem dX5_addAct_19 : decode cX5_addAct 19 = .ok (.iastore, 1) := by decide +kernel
theorem dX5_addAct_20 : decode cX5_addAct 20 = .ok (.aload_n 0, 1) := by decide +kernel
theorem dX5_addAct_21 : decode cX5_addAct 21 = .ok (.dup, 1) := by decide +kernel
theorem dX5_addAct_22 : decode cX5_addAct 22 = .ok (.getfield 46, 3) := by decide +kernel
theorem dX5_addAct_25 : decode cX5_addAct 25 = .ok (.iconst 1, 1) := by decide +kernel
theorem dX5_addAct_26 : decode cX5_addAct 26 = .ok (.iadd, 1) := by decide +kernel
theorem dX5_addAct_27 : decode cX5_addAct 27 = .ok (.putfield 46, 3) := by decide +kernel
theorem dX5_addAct_30 : decode cX5_addAct 30 = .ok (.aload_n 0, 1) := by decide +kernel
theorem dX5_addAct_31 : decode cX5_addAct 31 = .ok (.getfield 46, 3) := by decide +kernel
theorem dX5_addAct_34 : decode cX5_addAct 34 = .ok (.iconst 1, 1) := by decide +kernel
theorem dX5_addAct_35 : decode cX5_addAct 35 = .ok (.isub, 1) := by decide +kernel
theorem dX5_addAct_36 : decode cX5_addAct 36 = .ok (.ireturn, 1) := by decide +kernel
theorem okX5_addAct : ab_okM MX5_addAct 2 := ⟨by decide, ⟨by decide, by decide⟩, ab_in 1518 (by decide +kernel) (by decide +kernel), ab_in 97 (by decide +kernel) (by decide +kernel), by decide +kernel, by decide⟩
set_option maxHeartbeats 4000000 in
set_option maxRecDepth 100000 in
theorem sX5_addAct (v1 : Int32) (v2 : Int32)  (x : ab_X) (K : Int32 → ab_X → Prop) (d bc bs : Nat) (hdp : 0 ≤ d) (h : wX5_addAct v1 v2 x K) : EW MX5_addAct 0 [(0, .ref 165), (1, .int v1), (2, .int v2)] [] (aS x) d bc bs (liI K) := by
  unfold wX5_addAct at h
  refine EW_aload_n (pc2 := 1) rfl dX5_addAct_0 0 rfl ?_
  refine AW_getr (r := 167) ⟨gfRX5_17, rfl⟩ (pc2 := 4) rfl dX5_addAct_1 q165 rfl ?_
  refine EW_aload_n (pc2 := 5) rfl dX5_addAct_4 0 rfl ?_
  refine AW_geti ⟨gfRX5_46, rfl⟩ (pc2 := 8) rfl dX5_addAct_5 q165 ?_
  refine EW_iload_n (pc2 := 9) rfl dX5_addAct_8 1 rfl ?_
  obtain ⟨b1, h⟩ := h
  refine AW_iast (pc2 := 10) rfl dX5_addAct_9 q167 b1 ?_
  refine EW_aload_n (pc2 := 11) rfl dX5_addAct_10 0 rfl ?_
  refine AW_getr (r := 168) ⟨gfRX5_21, rfl⟩ (pc2 := 14) rfl dX5_addAct_11 q165 rfl ?_
  refine EW_aload_n (pc2 := 15) rfl dX5_addAct_14 0 rfl ?_
  refine AW_geti ⟨gfRX5_46, rfl⟩ (pc2 := 18) rfl dX5_addAct_15 q165 ?_
  refine EW_iload_n (pc2 := 19) rfl dX5_addAct_18 2 rfl ?_
  obtain ⟨b2, h⟩ := h
  refine AW_iast (pc2 := 20) rfl dX5_addAct_19 q168 b2 ?_
  refine EW_aload_n (pc2 := 21) rfl dX5_addAct_20 0 rfl ?_
  refine EW_dup (pc2 := 22) rfl dX5_addAct_21 rfl ?_
  refine AW_geti ⟨gfRX5_46, rfl⟩ (pc2 := 25) rfl dX5_addAct_22 q165 ?_
  refine EW_iconst (pc2 := 26) (v := 1) rfl dX5_addAct_25 (by decide) ?_
  refine EW_iadd (pc2 := 27) rfl dX5_addAct_26 ?_
  refine AW_puti ⟨gfRX5_46, rfl, rfl⟩ (pc2 := 30) rfl dX5_addAct_27 q165 ?_
  refine EW_aload_n (pc2 := 31) rfl dX5_addAct_30 0 rfl ?_
  refine AW_geti ⟨gfRX5_46, rfl⟩ (pc2 := 34) rfl dX5_addAct_31 q165 ?_
  refine EW_iconst (pc2 := 35) (v := 1) rfl dX5_addAct_34 (by decide) ?_
  refine EW_isub (pc2 := 36) rfl dX5_addAct_35 ?_
  exact AW_iret rfl dX5_addAct_36 ⟨_, _, rfl, rfl, h⟩
theorem mmRX9_28 : Cond.methodLink RX9 28 arraycopyName ∈ ab_G ∧ Cond.native arraycopyName ∈ ab_G ∧ Cond.static arraycopyName ∈ ab_G ∧ Cond.initialized "java/lang/System" ∈ ab_G := ⟨ab_in 1335 (by decide +kernel) (by decide +kernel), ab_in 1337 (by decide +kernel) (by decide +kernel), ab_in 1336 (by decide +kernel) (by decide +kernel), ab_in 111 (by decide +kernel) (by decide +kernel)⟩
abbrev MX9_become : ab_M := (yX9_become, cX9_become, 2, none)
theorem dX9_become_0 : decode cX9_become 0 = .ok (.aload_n 1, 1) := by decide +kernel
theorem dX9_become_1 : decode cX9_become 1 = .ok (.getfield 9, 3) := by decide +kernel
theorem dX9_become_4 : decode cX9_become 4 = .ok (.iconst 0, 1) := by decide +kernel
theorem dX9_become_5 : decode cX9_become 5 = .ok (.aload_n 0, 1) := by decide +kernel
theorem dX9_become_6 : decode cX9_become 6 = .ok (.getfield 9, 3) := by decide +kernel
theorem dX9_become_9 : decode cX9_become 9 = .ok (.iconst 0, 1) := by decide +kernel
theorem dX9_become_10 : decode cX9_become 10 = .ok (.sipush 200, 3) := by decide +kernel
theorem dX9_become_13 : decode cX9_become 13 = .ok (.invokestatic 28, 3) := by decide +kernel
theorem dX9_become_16 : decode cX9_become 16 = .ok (.aload_n 0, 1) := by decide +kernel
theorem dX9_become_17 : decode cX9_become 17 = .ok (.aload_n 1, 1) := by decide +kernel
theorem dX9_become_18 : decode cX9_become 18 = .ok (.getfield 24, 3) := by decide +kernel
theorem dX9_become_21 : decode cX9_become 21 = .ok (.putfield 24, 3) := by decide +kernel
theorem dX9_become_24 : decode cX9_become 24 = .ok (.return_, 1) := by decide +kernel
theorem okX9_become : ab_okM MX9_become 1 := ⟨by decide, ⟨by decide, by decide⟩, ab_in 1334 (by decide +kernel) (by decide +kernel), ab_in 93 (by decide +kernel) (by decide +kernel), by decide +kernel, by decide⟩
set_option maxHeartbeats 4000000 in
set_option maxRecDepth 100000 in
theorem sX9_become (v0 : Nat) (v1 : Nat) (hv0 : isT v0) (hv1 : isT v1) (x : ab_X) (K : ab_X → Prop) (d bc bs : Nat) (hdp : 1 ≤ d) (h : wX9_become v0 v1 x K) : EW MX9_become 0 [(0, .ref v0), (1, .ref v1)] [] (aS x) d bc bs (liV K) := by
  unfold wX9_become at h
  refine EW_aload_n (pc2 := 1) rfl dX9_become_0 1 rfl ?_
  refine AW_getr (r := (v1 + 1)) ⟨gfRX9_9, rfl⟩ (pc2 := 4) rfl dX9_become_1 (isT.o hv1) (isT.r0 hv1) ?_
  refine EW_iconst (pc2 := 5) (v := 0) rfl dX9_become_4 (by decide) ?_
  refine EW_aload_n (pc2 := 6) rfl dX9_become_5 0 rfl ?_
  refine AW_getr (r := (v0 + 1)) ⟨gfRX9_9, rfl⟩ (pc2 := 9) rfl dX9_become_6 (isT.o hv0) (isT.r0 hv0) ?_
  refine EW_iconst (pc2 := 10) (v := 0) rfl dX9_become_9 (by decide) ?_
  refine EW_sipush (pc2 := 13) (v := 200) rfl dX9_become_10 (by decide) ?_
  obtain ⟨c1, h⟩ := h
  obtain ⟨c2, h⟩ := h
  obtain ⟨c3, h⟩ := h
  obtain ⟨c4, h⟩ := h
  obtain ⟨c5, h⟩ := h
  refine AW_copyi mmRX9_28 (pc2 := 16) rfl dX9_become_13 (Nat.le_of_ble_eq_true rfl) (by omega) (isT.a0 hv1) (isT.a0 hv0) c1 c2 c3 c4 c5 ?_
  refine EW_aload_n (pc2 := 17) rfl dX9_become_16 0 rfl ?_
  refine EW_aload_n (pc2 := 18) rfl dX9_become_17 1 rfl ?_
  refine AW_geti ⟨gfRX9_24, rfl⟩ (pc2 := 21) rfl dX9_become_18 (isT.o hv1) ?_
  refine AW_puti ⟨gfRX9_24, rfl, rfl⟩ (pc2 := 24) rfl dX9_become_21 (isT.o hv0) ?_
  exact EW_vret rfl dX9_become_24 ⟨_, rfl, rfl, h⟩
theorem gfRX8_24 : ab_L RX8 24 8 4 := ⟨by decide, by decide, ab_in 607 (by decide +kernel) (by decide +kernel)⟩
theorem mlRX8_32 : Cond.methodLink RX8 32 yX9_become ∈ ab_G ∧ Cond.instanceMethod yX9_become ∈ ab_G ∧ Cond.selects RX9 yX9_become yX9_become ∈ ab_G := ⟨ab_in 1331 (by decide +kernel) (by decide +kernel), ab_in 1332 (by decide +kernel) (by decide +kernel), ab_in 1333 (by decide +kernel) (by decide +kernel)⟩
theorem gfRX8_28 : ab_L RX8 28 8 1 := ⟨by decide, by decide, ab_in 602 (by decide +kernel) (by decide +kernel)⟩
abbrev MX8_handOver : ab_M := (yX8_handOver, cX8_handOver, 2, none)
theorem dX8_handOver_0 : decode cX8_handOver 0 = .ok (.aload_n 1, 1) := by decide +kernel
theorem dX8_handOver_1 : decode cX8_handOver 1 = .ok (.aload_n 0, 1) := by decide +kernel
theorem dX8_handOver_2 : decode cX8_handOver 2 = .ok (.getfield 24, 3) := by decide +kernel
theorem dX8_handOver_5 : decode cX8_handOver 5 = .ok (.invokevirtual 32, 3) := by decide +kernel
theorem dX8_handOver_8 : decode cX8_handOver 8 = .ok (.aload_n 0, 1) := by decide +kernel
theorem dX8_handOver_9 : decode cX8_handOver 9 = .ok (.iconst 0, 1) := by decide +kernel
theorem dX8_handOver_10 : decode cX8_handOver 10 = .ok (.putfield 28, 3) := by decide +kernel
theorem dX8_handOver_13 : decode cX8_handOver 13 = .ok (.return_, 1) := by decide +kernel
theorem okX8_handOver : ab_okM MX8_handOver 1 := ⟨by decide, ⟨by decide, by decide⟩, ab_in 1330 (by decide +kernel) (by decide +kernel), ab_in 96 (by decide +kernel) (by decide +kernel), by decide +kernel, by decide⟩
set_option maxHeartbeats 4000000 in
set_option maxRecDepth 100000 in
theorem sX8_handOver (v1 : Nat) (hv1 : isT v1) (x : ab_X) (K : ab_X → Prop) (d bc bs : Nat) (hdp : 2 ≤ d) (h : wX8_handOver v1 x K) : EW MX8_handOver 0 [(0, .ref 158), (1, .ref v1)] [] (aS x) d bc bs (liV K) := by
  unfold wX8_handOver at h
  refine EW_aload_n (pc2 := 1) rfl dX8_handOver_0 1 rfl ?_
  refine EW_aload_n (pc2 := 2) rfl dX8_handOver_1 0 rfl ?_
  refine AW_getr (r := 160) ⟨gfRX8_24, rfl⟩ (pc2 := 5) rfl dX8_handOver_2 q158 rfl ?_
  refine AW_invV (M' := MX9_become) [.ref 160] (rest := []) mlRX8_32 okX9_become (pc2 := 8) rfl dX8_handOver_5 rfl rfl (Nat.le_of_ble_eq_true rfl) (Nat.le_of_ble_eq_true rfl) (d' := 1) (by omega) (isT.o hv1) ⟨by decide, rfl⟩ (EW_mono (fun _ _ hr => ?_) (sX9_become v1 160 hv1 (Or.inr (Or.inr (Or.inl rfl)) : isT 160) x _ _ 0 0 (Nat.le_refl _) h))
  obtain ⟨x1, rfl, rfl, h⟩ := hr
  refine EW_aload_n (pc2 := 9) rfl dX8_handOver_8 0 rfl ?_
  refine EW_iconst (pc2 := 10) (v := 0) rfl dX8_handOver_9 (by decide) ?_
  refine AW_puti ⟨gfRX8_28, rfl, rfl⟩ (pc2 := 13) rfl dX8_handOver_10 q158 ?_
  exact EW_vret rfl dX8_handOver_13 ⟨_, rfl, rfl, h⟩
theorem gfRX8_36 : ab_L RX8 36 8 2 := ⟨by decide, by decide, ab_in 604 (by decide +kernel) (by decide +kernel)⟩
theorem gfRX8_9 : ab_L RX8 9 8 0 := ⟨by decide, by decide, ab_in 601 (by decide +kernel) (by decide +kernel)⟩
abbrev MX8_peek : ab_M := (yX8_peek, cX8_peek, 2, (some .int))
theorem dX8_peek_0 : decode cX8_peek 0 = .ok (.iconst 0, 1) := by decide +kernel
theorem dX8_peek_1 : decode cX8_peek 1 = .ok (.istore_n 1, 1) := by decide +kernel
theorem dX8_peek_2 : decode cX8_peek 2 = .ok (.iload_n 1, 1) := by decide +kernel
theorem dX8_peek_3 : decode cX8_peek 3 = .ok (.sipush 200, 3) := by decide +kernel
theorem dX8_peek_6 : decode cX8_peek 6 = .ok (.if_icmp .ge 44, 3) := by decide +kernel
theorem dX8_peek_9 : decode cX8_peek 9 = .ok (.aload_n 0, 1) := by decide +kernel
theorem dX8_peek_10 : decode cX8_peek 10 = .ok (.getfield 36, 3) := by decide +kernel
theorem dX8_peek_13 : decode cX8_peek 13 = .ok (.aload_n 0, 1) := by decide +kernel
theorem dX8_peek_14 : decode cX8_peek 14 = .ok (.getfield 28, 3) := by decide +kernel
theorem dX8_peek_17 : decode cX8_peek 17 = .ok (.if_icmp .ge 33, 3) := by decide +kernel
theorem dX8_peek_20 : decode cX8_peek 20 = .ok (.aload_n 0, 1) := by decide +kernel
theorem dX8_peek_21 : decode cX8_peek 21 = .ok (.getfield 9, 3) := by decide +kernel
theorem dX8_peek_24 : decode cX8_peek 24 = .ok (.aload_n 0, 1) := by decide +kernel
theorem dX8_peek_25 : decode cX8_peek 25 = .ok (.getfield 36, 3) := by decide +kernel
theorem dX8_peek_28 : decode cX8_peek 28 = .ok (.iaload, 1) := by decide +kernel
theorem dX8_peek_29 : decode cX8_peek 29 = .ok (.bipush 32, 2) := by decide +kernel
theorem dX8_peek_31 : decode cX8_peek 31 = .ok (.if_icmp .ne 19, 3) := by decide +kernel
theorem dX8_peek_34 : decode cX8_peek 34 = .ok (.aload_n 0, 1) := by decide +kernel
theorem dX8_peek_35 : decode cX8_peek 35 = .ok (.dup, 1) := by decide +kernel
theorem dX8_peek_36 : decode cX8_peek 36 = .ok (.getfield 36, 3) := by decide +kernel
theorem dX8_peek_39 : decode cX8_peek 39 = .ok (.iconst 1, 1) := by decide +kernel
theorem dX8_peek_40 : decode cX8_peek 40 = .ok (.iadd, 1) := by decide +kernel
theorem dX8_peek_41 : decode cX8_peek 41 = .ok (.putfield 36, 3) := by decide +kernel
theorem dX8_peek_44 : decode cX8_peek 44 = .ok (.iinc 1 1, 3) := by decide +kernel
theorem dX8_peek_47 : decode cX8_peek 47 = .ok (.goto (-45), 3) := by decide +kernel
theorem dX8_peek_50 : decode cX8_peek 50 = .ok (.aload_n 0, 1) := by decide +kernel
theorem dX8_peek_51 : decode cX8_peek 51 = .ok (.getfield 36, 3) := by decide +kernel
theorem dX8_peek_54 : decode cX8_peek 54 = .ok (.aload_n 0, 1) := by decide +kernel
theorem dX8_peek_55 : decode cX8_peek 55 = .ok (.getfield 28, 3) := by decide +kernel
theorem dX8_peek_58 : decode cX8_peek 58 = .ok (.if_icmp .ge 15, 3) := by decide +kernel
theorem dX8_peek_61 : decode cX8_peek 61 = .ok (.aload_n 0, 1) := by decide +kernel
theorem dX8_peek_62 : decode cX8_peek 62 = .ok (.getfield 9, 3) := by decide +kernel
theorem dX8_peek_65 : decode cX8_peek 65 = .ok (.aload_n 0, 1) := by decide +kernel
theorem dX8_peek_66 : decode cX8_peek 66 = .ok (.getfield 36, 3) := by decide +kernel
theorem dX8_peek_69 : decode cX8_peek 69 = .ok (.iaload, 1) := by decide +kernel
theorem dX8_peek_70 : decode cX8_peek 70 = .ok (.goto 4, 3) := by decide +kernel
theorem dX8_peek_73 : decode cX8_peek 73 = .ok (.iconst (-1), 1) := by decide +kernel
theorem dX8_peek_74 : decode cX8_peek 74 = .ok (.ireturn, 1) := by decide +kernel
theorem okX8_peek : ab_okM MX8_peek 0 := ⟨by decide, ⟨by decide, by decide⟩, ab_in 1191 (by decide +kernel) (by decide +kernel), ab_in 96 (by decide +kernel) (by decide +kernel), by decide +kernel, by decide⟩
set_option maxHeartbeats 4000000 in
set_option maxRecDepth 100000 in
theorem sX8_peek_50   (x : ab_X) (K : Int32 → ab_X → Prop)  (d bc bs : Nat) (hdp : 0 ≤ d)  (h : wX8_peek_50  x K ) : EW MX8_peek 50 [(0, .ref 158)] [] (aS x) d bc bs (liI K) := by
  unfold wX8_peek_50 at h
  refine EW_aload_n (pc2 := 51) rfl dX8_peek_50 0 rfl ?_
  refine AW_geti ⟨gfRX8_36, rfl⟩ (pc2 := 54) rfl dX8_peek_51 q158 ?_
  refine EW_aload_n (pc2 := 55) rfl dX8_peek_54 0 rfl ?_
  refine AW_geti ⟨gfRX8_28, rfl⟩ (pc2 := 58) rfl dX8_peek_55 q158 ?_
  refine EW_icmp_ge (tgt := 73) (pc2 := 61) rfl dX8_peek_58 (by decide) (fun q => ?_) (fun q => ?_)
  · replace h := h.1 q
    refine EW_iconst (pc2 := 74) (v := (-1)) rfl dX8_peek_73 (by decide) ?_
    exact AW_iret rfl dX8_peek_74 ⟨_, _, rfl, rfl, h⟩
  · replace h := h.2 q
    refine EW_aload_n (pc2 := 62) rfl dX8_peek_61 0 rfl ?_
    refine AW_getr (r := 159) ⟨gfRX8_9, rfl⟩ (pc2 := 65) rfl dX8_peek_62 q158 rfl ?_
    refine EW_aload_n (pc2 := 66) rfl dX8_peek_65 0 rfl ?_
    refine AW_geti ⟨gfRX8_36, rfl⟩ (pc2 := 69) rfl dX8_peek_66 q158 ?_
    obtain ⟨b2, h⟩ := h
    refine AW_iald (pc2 := 70) rfl dX8_peek_69 q159 b2 ?_
    refine EW_goto (tgt := 74) dX8_peek_70 (by decide) ?_
    exact AW_iret rfl dX8_peek_74 ⟨_, _, rfl, rfl, h⟩
set_option maxHeartbeats 4000000 in
set_option maxRecDepth 100000 in
theorem sX8_peek_2 (v1 : Int32)  (x : ab_X) (K : Int32 → ab_X → Prop)  (d bc bs : Nat) (hdp : 0 ≤ d)  (h : Lp2 (lX8_peek_2  K ) v1 x) : EW MX8_peek 2 [(0, .ref 158), (1, .int v1)] [] (aS x) d bc bs (liI K) := by
  refine Lp2.use (P := fun v1 x => EW MX8_peek 2 [(0, .ref 158), (1, .int v1)] [] (aS x) d bc bs (liI K)) (fun L2 v1 x hL2 h => ?_) v1 x h
  unfold lX8_peek_2 at h
  refine EW_iload_n (pc2 := 3) rfl dX8_peek_2 1 rfl ?_
  refine EW_sipush (pc2 := 6) (v := 200) rfl dX8_peek_3 (by decide) ?_
  refine EW_icmp_ge (tgt := 50) (pc2 := 9) rfl dX8_peek_6 (by decide) (fun q => ?_) (fun q => ?_)
  · replace h := h.1 q
    refine EW_ls [0] rfl ?_
    exact sX8_peek_50  x K d bc bs hdp h
  · replace h := h.2 q
    refine EW_aload_n (pc2 := 10) rfl dX8_peek_9 0 rfl ?_
    refine AW_geti ⟨gfRX8_36, rfl⟩ (pc2 := 13) rfl dX8_peek_10 q158 ?_
    refine EW_aload_n (pc2 := 14) rfl dX8_peek_13 0 rfl ?_
    refine AW_geti ⟨gfRX8_28, rfl⟩ (pc2 := 17) rfl dX8_peek_14 q158 ?_
    refine EW_icmp_ge (tgt := 50) (pc2 := 20) rfl dX8_peek_17 (by decide) (fun q => ?_) (fun q => ?_)
    · replace h := h.1 q
      refine EW_ls [0] rfl ?_
      exact sX8_peek_50  x K d bc bs hdp h
    · replace h := h.2 q
      refine EW_aload_n (pc2 := 21) rfl dX8_peek_20 0 rfl ?_
      refine AW_getr (r := 159) ⟨gfRX8_9, rfl⟩ (pc2 := 24) rfl dX8_peek_21 q158 rfl ?_
      refine EW_aload_n (pc2 := 25) rfl dX8_peek_24 0 rfl ?_
      refine AW_geti ⟨gfRX8_36, rfl⟩ (pc2 := 28) rfl dX8_peek_25 q158 ?_
      obtain ⟨b1, h⟩ := h
      refine AW_iald (pc2 := 29) rfl dX8_peek_28 q159 b1 ?_
      refine EW_bipush (pc2 := 31) (v := 32) rfl dX8_peek_29 (by decide) ?_
      refine EW_icmp_ne (tgt := 50) (pc2 := 34) rfl dX8_peek_31 (by decide) (fun q => ?_) (fun q => ?_)
      · replace h := h.1 q
        refine EW_ls [0] rfl ?_
        exact sX8_peek_50  x K d bc bs hdp h
      · replace h := h.2 q
        refine EW_aload_n (pc2 := 35) rfl dX8_peek_34 0 rfl ?_
        refine EW_dup (pc2 := 36) rfl dX8_peek_35 rfl ?_
        refine AW_geti ⟨gfRX8_36, rfl⟩ (pc2 := 39) rfl dX8_peek_36 q158 ?_
        refine EW_iconst (pc2 := 40) (v := 1) rfl dX8_peek_39 (by decide) ?_
        refine EW_iadd (pc2 := 41) rfl dX8_peek_40 ?_
        refine AW_puti ⟨gfRX8_36, rfl, rfl⟩ (pc2 := 44) rfl dX8_peek_41 q158 ?_
        refine EW_iinc (v1 + 1) (pc2 := 47) rfl dX8_peek_44 1 rfl rfl (by decide) [1, 0] [(0, .ref 158), (1, .int (v1 + 1))] rfl ?_
        refine EW_goto (tgt := 2) dX8_peek_47 (by decide) ?_
        exact hL2 (v1 + 1) (wr x 158 2 ((x.1 158 2) + 1)) h
set_option maxHeartbeats 4000000 in
set_option maxRecDepth 100000 in
theorem sX8_peek   (x : ab_X) (K : Int32 → ab_X → Prop) (d bc bs : Nat) (hdp : 0 ≤ d) (h : wX8_peek  x K) : EW MX8_peek 0 [(0, .ref 158)] [] (aS x) d bc bs (liI K) := by
  unfold wX8_peek at h
  refine EW_iconst (pc2 := 1) (v := 0) rfl dX8_peek_0 (by decide) ?_
  refine EW_istore_n (pc2 := 2) rfl dX8_peek_1 (by decide) [1, 0] [(0, .ref 158), (1, .int 0)] rfl ?_
  exact sX8_peek_2 0 x K d bc bs hdp h
theorem mlRX8_46 : Cond.methodLink RX8 46 yX8_peek ∈ ab_G ∧ Cond.instanceMethod yX8_peek ∈ ab_G ∧ Cond.selects RX8 yX8_peek yX8_peek ∈ ab_G := ⟨ab_in 1188 (by decide +kernel) (by decide +kernel), ab_in 1189 (by decide +kernel) (by decide +kernel), ab_in 1190 (by decide +kernel) (by decide +kernel)⟩
theorem mlRX8_100 : Cond.methodLink RX8 100 yJ0_indexOf_0f7a4 ∈ ab_G ∧ Cond.instanceMethod yJ0_indexOf_0f7a4 ∈ ab_G ∧ Cond.selects RJ0 yJ0_indexOf_0f7a4 yJ0_indexOf_0f7a4 ∈ ab_G := ⟨ab_in 1231 (by decide +kernel) (by decide +kernel), ab_in 1232 (by decide +kernel) (by decide +kernel), ab_in 1233 (by decide +kernel) (by decide +kernel)⟩
abbrev MX8_indexIn : ab_M := (yX8_indexIn, cX8_indexIn, 3, (some .int))
theorem dX8_indexIn_0 : decode cX8_indexIn 0 = .ok (.aload_n 0, 1) := by decide +kernel
theorem dX8_indexIn_1 : decode cX8_indexIn 1 = .ok (.invokevirtual 46, 3) := by decide +kernel
theorem dX8_indexIn_4 : decode cX8_indexIn 4 = .ok (.istore_n 2, 1) := by decide +kernel
theorem dX8_indexIn_5 : decode cX8_indexIn 5 = .ok (.iload_n 2, 1) := by decide +kernel
theorem dX8_indexIn_6 : decode cX8_indexIn 6 = .ok (.iconst (-1), 1) := by decide +kernel
theorem dX8_indexIn_7 : decode cX8_indexIn 7 = .ok (.if_icmp .ne 7, 3) := by decide +kernel
theorem dX8_indexIn_10 : decode cX8_indexIn 10 = .ok (.iconst (-1), 1) := by decide +kernel
theorem dX8_indexIn_11 : decode cX8_indexIn 11 = .ok (.goto 9, 3) := by decide +kernel
theorem dX8_indexIn_14 : decode cX8_indexIn 14 = .ok (.aload_n 1, 1) := by decide +kernel
theorem dX8_indexIn_15 : decode cX8_indexIn 15 = .ok (.iload_n 2, 1) := by decide +kernel
theorem dX8_indexIn_16 : decode cX8_indexIn 16 = .ok (.i2c, 1) := by decide +kernel
theorem dX8_indexIn_17 : decode cX8_indexIn 17 = .ok (.invokevirtual 100, 3) := by decide +kernel
theorem dX8_indexIn_20 : decode cX8_indexIn 20 = .ok (.ireturn, 1) := by decide +kernel
theorem okX8_indexIn : ab_okM MX8_indexIn 1 := ⟨by decide, ⟨by decide, by decide⟩, ab_in 1230 (by decide +kernel) (by decide +kernel), ab_in 96 (by decide +kernel) (by decide +kernel), by decide +kernel, by decide⟩
set_option maxHeartbeats 4000000 in
set_option maxRecDepth 100000 in
theorem sX8_indexIn (v1 : Nat) (hv1 : isS v1) (x : ab_X) (K : Int32 → ab_X → Prop) (d bc bs : Nat) (hdp : 4 ≤ d) (h : wX8_indexIn v1 x K) : EW MX8_indexIn 0 [(0, .ref 158), (1, .ref v1)] [] (aS x) d bc bs (liI K) := by
  unfold wX8_indexIn at h
  refine EW_aload_n (pc2 := 1) rfl dX8_indexIn_0 0 rfl ?_
  refine AW_invV (M' := MX8_peek) [] (rest := []) mlRX8_46 okX8_peek (pc2 := 4) rfl dX8_indexIn_1 rfl rfl (Nat.le_of_ble_eq_true rfl) (Nat.le_of_ble_eq_true rfl) (d' := 0) (by omega) q158 ⟨by decide, rfl⟩ (EW_mono (fun _ _ hr => ?_) (sX8_peek   x _ _ 0 0 (Nat.le_refl _) h))
  obtain ⟨r1, x2, rfl, rfl, h⟩ := hr
  refine EW_istore_n (pc2 := 5) rfl dX8_indexIn_4 (by decide) [1, 2, 0] [(0, .ref 158), (1, .ref v1), (2, .int r1)] rfl ?_
  refine EW_iload_n (pc2 := 6) rfl dX8_indexIn_5 2 rfl ?_
  refine EW_iconst (pc2 := 7) (v := (-1)) rfl dX8_indexIn_6 (by decide) ?_
  refine EW_icmp_ne (tgt := 14) (pc2 := 10) rfl dX8_indexIn_7 (by decide) (fun q => ?_) (fun q => ?_)
  · replace h := h.1 q
    refine EW_aload_n (pc2 := 15) rfl dX8_indexIn_14 1 rfl ?_
    refine EW_iload_n (pc2 := 16) rfl dX8_indexIn_15 2 rfl ?_
    refine EW_i2c (pc2 := 17) (v := ((r1).toUInt32 % 65536).toInt32) rfl dX8_indexIn_16 rfl ?_
    refine AW_invVS (M' := MJ0_indexOf_0f7a4) [.int ((r1).toUInt32 % 65536).toInt32] (rest := []) mlRX8_100 okJ0_indexOf_0f7a4 (pc2 := 20) rfl dX8_indexIn_17 rfl rfl (Nat.le_of_ble_eq_true rfl) (Nat.le_of_ble_eq_true rfl) (d' := 3) (by omega) hv1 rfl (EW_mono (fun _ _ hr => ?_) (sJ0_indexOf_0f7a4 v1 ((r1).toUInt32 % 65536).toInt32 hv1 x2 _ _ 0 0 (Nat.le_refl _) h))
    obtain ⟨r3, rfl, rfl, h⟩ := hr
    exact AW_iret rfl dX8_indexIn_20 ⟨_, _, rfl, rfl, h⟩
  · replace h := h.2 q
    refine EW_iconst (pc2 := 11) (v := (-1)) rfl dX8_indexIn_10 (by decide) ?_
    refine EW_goto (tgt := 20) dX8_indexIn_11 (by decide) ?_
    exact AW_iret rfl dX8_indexIn_20 ⟨_, _, rfl, rfl, h⟩
abbrev MX8_isDigit : ab_M := (yX8_isDigit, cX8_isDigit, 1, (some .boolean))
theorem dX8_isDigit_0 : decode cX8_isDigit 0 = .ok (.iload_n 0, 1) := by decide +kernel
theorem dX8_isDigit_1 : decode cX8_isDigit 1 = .ok (.bipush 48, 2) := by decide +kernel
theorem dX8_isDigit_3 : decode cX8_isDigit 3 = .ok (.if_icmp .lt 13, 3) := by decide +kernel
theorem dX8_isDigit_6 : decode cX8_isDigit 6 = .ok (.iload_n 0, 1) := by decide +kernel
theorem dX8_isDigit_7 : decode cX8_isDigit 7 = .ok (.bipush 57, 2) := by decide +kernel
theorem dX8_isDigit_9 : decode cX8_isDigit 9 = .ok (.if_icmp .gt 7, 3) := by decide +kernel
theorem dX8_isDigit_12 : decode cX8_isDigit 12 = .ok (.iconst 1, 1) := by decide +kernel
theorem dX8_isDigit_13 : decode cX8_isDigit 13 = .ok (.goto 4, 3) := by decide +kernel
theorem dX8_isDigit_16 : decode cX8_isDigit 16 = .ok (.iconst 0, 1) := by decide +kernel
theorem dX8_isDigit_17 : decode cX8_isDigit 17 = .ok (.ireturn, 1) := by decide +kernel
theorem okX8_isDigit : ab_okM MX8_isDigit 1 := ⟨by decide, ⟨by decide, by decide⟩, ab_in 1222 (by decide +kernel) (by decide +kernel), ab_in 96 (by decide +kernel) (by decide +kernel), by decide +kernel, by decide⟩
set_option maxHeartbeats 4000000 in
set_option maxRecDepth 100000 in
theorem sX8_isDigit (v0 : Int32)  (x : ab_X) (K : Int32 → Prop) (d bc bs : Nat) (hdp : 0 ≤ d) (h : wX8_isDigit v0 x K) : EW MX8_isDigit 0 [(0, .int v0)] [] (aS x) d bc bs (liP x K) := by
  unfold wX8_isDigit at h
  refine EW_iload_n (pc2 := 1) rfl dX8_isDigit_0 0 rfl ?_
  refine EW_bipush (pc2 := 3) (v := 48) rfl dX8_isDigit_1 (by decide) ?_
  refine EW_icmp_lt (tgt := 16) (pc2 := 6) rfl dX8_isDigit_3 (by decide) (fun q => ?_) (fun q => ?_)
  · replace h := h.1 q
    refine EW_iconst (pc2 := 17) (v := 0) rfl dX8_isDigit_16 (by decide) ?_
    exact AW_zret rfl isB0 dX8_isDigit_17 ⟨_, rfl, rfl, h⟩
  · replace h := h.2 q
    refine EW_iload_n (pc2 := 7) rfl dX8_isDigit_6 0 rfl ?_
    refine EW_bipush (pc2 := 9) (v := 57) rfl dX8_isDigit_7 (by decide) ?_
    refine EW_icmp_gt (tgt := 16) (pc2 := 12) rfl dX8_isDigit_9 (by decide) (fun q => ?_) (fun q => ?_)
    · replace h := h.1 q
      refine EW_iconst (pc2 := 17) (v := 0) rfl dX8_isDigit_16 (by decide) ?_
      exact AW_zret rfl isB0 dX8_isDigit_17 ⟨_, rfl, rfl, h⟩
    · replace h := h.2 q
      refine EW_iconst (pc2 := 13) (v := 1) rfl dX8_isDigit_12 (by decide) ?_
      refine EW_goto (tgt := 17) dX8_isDigit_13 (by decide) ?_
      exact AW_zret rfl isB1 dX8_isDigit_17 ⟨_, rfl, rfl, h⟩
abbrev MX9_add : ab_M := (yX9_add, cX9_add, 3, none)
theorem dX9_add_0 : decode cX9_add 0 = .ok (.aload_n 0, 1) := by decide +kernel
theorem dX9_add_1 : decode cX9_add 1 = .ok (.getfield 24, 3) := by decide +kernel
theorem dX9_add_4 : decode cX9_add 4 = .ok (.sipush 200, 3) := by decide +kernel
theorem dX9_add_7 : decode cX9_add 7 = .ok (.if_icmp .ge 28, 3) := by decide +kernel
theorem dX9_add_10 : decode cX9_add 10 = .ok (.aload_n 0, 1) := by decide +kernel
theorem dX9_add_11 : decode cX9_add 11 = .ok (.getfield 9, 3) := by decide +kernel
theorem dX9_add_14 : decode cX9_add 14 = .ok (.aload_n 0, 1) := by decide +kernel
theorem dX9_add_15 : decode cX9_add 15 = .ok (.getfield 24, 3) := by decide +kernel
theorem dX9_add_18 : decode cX9_add 18 = .ok (.iload_n 1, 1) := by decide +kernel
theorem dX9_add_19 : decode cX9_add 19 = .ok (.bipush 16, 2) := by decide +kernel
theorem dX9_add_21 : decode cX9_add 21 = .ok (.ishl, 1) := by decide +kernel
theorem dX9_add_22 : decode cX9_add 22 = .ok (.iload_n 2, 1) := by decide +kernel
theorem dX9_add_23 : decode cX9_add 23 = .ok (.ior, 1) := by decide +kernel
theorem dX9_add_24 : decode cX9_add 24 = .ok (.iastore, 1) := by decide +kernel
theorem dX9_add_25 : decode cX9_add 25 = .ok (.aload_n 0, 1) := by decide +kernel
theorem dX9_add_26 : decode cX9_add 26 = .ok (.dup, 1) := by decide +kernel
theorem dX9_add_27 : decode cX9_add 27 = .ok (.getfield 24, 3) := by decide +kernel
theorem dX9_add_30 : decode cX9_add 30 = .ok (.iconst 1, 1) := by decide +kernel
theorem dX9_add_31 : decode cX9_add 31 = .ok (.iadd, 1) := by decide +kernel
theorem dX9_add_32 : decode cX9_add 32 = .ok (.putfield 24, 3) := by decide +kernel
theorem dX9_add_35 : decode cX9_add 35 = .ok (.return_, 1) := by decide +kernel
theorem okX9_add : ab_okM MX9_add 2 := ⟨by decide, ⟨by decide, by decide⟩, ab_in 1199 (by decide +kernel) (by decide +kernel), ab_in 93 (by decide +kernel) (by decide +kernel), by decide +kernel, by decide⟩
set_option maxHeartbeats 4000000 in
set_option maxRecDepth 100000 in
theorem sX9_add (v0 : Nat) (v1 : Int32) (v2 : Int32) (hv0 : isT v0) (x : ab_X) (K : ab_X → Prop) (d bc bs : Nat) (hdp : 0 ≤ d) (h : wX9_add v0 v1 v2 x K) : EW MX9_add 0 [(0, .ref v0), (1, .int v1), (2, .int v2)] [] (aS x) d bc bs (liV K) := by
  unfold wX9_add at h
  refine EW_aload_n (pc2 := 1) rfl dX9_add_0 0 rfl ?_
  refine AW_geti ⟨gfRX9_24, rfl⟩ (pc2 := 4) rfl dX9_add_1 (isT.o hv0) ?_
  refine EW_sipush (pc2 := 7) (v := 200) rfl dX9_add_4 (by decide) ?_
  refine EW_icmp_ge (tgt := 35) (pc2 := 10) rfl dX9_add_7 (by decide) (fun q => ?_) (fun q => ?_)
  · replace h := h.1 q
    exact EW_vret rfl dX9_add_35 ⟨_, rfl, rfl, h⟩
  · replace h := h.2 q
    refine EW_aload_n (pc2 := 11) rfl dX9_add_10 0 rfl ?_
    refine AW_getr (r := (v0 + 1)) ⟨gfRX9_9, rfl⟩ (pc2 := 14) rfl dX9_add_11 (isT.o hv0) (isT.r0 hv0) ?_
    refine EW_aload_n (pc2 := 15) rfl dX9_add_14 0 rfl ?_
    refine AW_geti ⟨gfRX9_24, rfl⟩ (pc2 := 18) rfl dX9_add_15 (isT.o hv0) ?_
    refine EW_iload_n (pc2 := 19) rfl dX9_add_18 1 rfl ?_
    refine EW_bipush (pc2 := 21) (v := 16) rfl dX9_add_19 (by decide) ?_
    refine EW_ishl (pc2 := 22) rfl dX9_add_21 ?_
    refine EW_iload_n (pc2 := 23) rfl dX9_add_22 2 rfl ?_
    refine EW_ior (pc2 := 24) rfl dX9_add_23 ?_
    obtain ⟨b1, h⟩ := h
    refine AW_iast (pc2 := 25) rfl dX9_add_24 (isT.a0 hv0) b1 ?_
    refine EW_aload_n (pc2 := 26) rfl dX9_add_25 0 rfl ?_
    refine EW_dup (pc2 := 27) rfl dX9_add_26 rfl ?_
    refine AW_geti ⟨gfRX9_24, rfl⟩ (pc2 := 30) rfl dX9_add_27 (isT.o hv0) ?_
    refine EW_iconst (pc2 := 31) (v := 1) rfl dX9_add_30 (by decide) ?_
    refine EW_iadd (pc2 := 32) rfl dX9_add_31 ?_
    refine AW_puti ⟨gfRX9_24, rfl, rfl⟩ (pc2 := 35) rfl dX9_add_32 (isT.o hv0) ?_
    exact EW_vret rfl dX9_add_35 ⟨_, rfl, rfl, h⟩
theorem mlRX8_72 : Cond.methodLink RX8 72 yX8_indexIn ∈ ab_G ∧ Cond.instanceMethod yX8_indexIn ∈ ab_G ∧ Cond.selects RX8 yX8_indexIn yX8_indexIn ∈ ab_G := ⟨ab_in 1227 (by decide +kernel) (by decide +kernel), ab_in 1228 (by decide +kernel) (by decide +kernel), ab_in 1229 (by decide +kernel) (by decide +kernel)⟩
theorem mlRX8_76 : Cond.methodLink RX8 76 yX8_isDigit ∈ ab_G ∧ Cond.static yX8_isDigit ∈ ab_G := ⟨ab_in 1220 (by decide +kernel) (by decide +kernel), ab_in 1221 (by decide +kernel) (by decide +kernel)⟩
theorem mlRX8_58 : Cond.methodLink RX8 58 yX9_add ∈ ab_G ∧ Cond.instanceMethod yX9_add ∈ ab_G ∧ Cond.selects RX9 yX9_add yX9_add ∈ ab_G := ⟨ab_in 1196 (by decide +kernel) (by decide +kernel), ab_in 1197 (by decide +kernel) (by decide +kernel), ab_in 1198 (by decide +kernel) (by decide +kernel)⟩
abbrev MX8_actions : ab_M := (yX8_actions, cX8_actions, 3, (some .boolean))
theorem dX8_actions_0 : decode cX8_actions 0 = .ok (.iconst 0, 1) := by decide +kernel
theorem dX8_actions_1 : decode cX8_actions 1 = .ok (.istore_n 1, 1) := by decide +kernel
theorem dX8_actions_2 : decode cX8_actions 2 = .ok (.iload_n 1, 1) := by decide +kernel
theorem dX8_actions_3 : decode cX8_actions 3 = .ok (.sipush 200, 3) := by decide +kernel
theorem dX8_actions_6 : decode cX8_actions 6 = .ok (.if_icmp .ge 89, 3) := by decide +kernel
theorem dX8_actions_9 : decode cX8_actions 9 = .ok (.aload_n 0, 1) := by decide +kernel
theorem dX8_actions_10 : decode cX8_actions 10 = .ok (.ldc 70, 2) := by decide +kernel
theorem dX8_actions_12 : decode cX8_actions 12 = .ok (.invokevirtual 72, 3) := by decide +kernel
theorem dX8_actions_15 : decode cX8_actions 15 = .ok (.istore_n 2, 1) := by decide +kernel
theorem dX8_actions_16 : decode cX8_actions 16 = .ok (.iload_n 2, 1) := by decide +kernel
theorem dX8_actions_17 : decode cX8_actions 17 = .ok (.iconst (-1), 1) := by decide +kernel
theorem dX8_actions_18 : decode cX8_actions 18 = .ok (.if_icmp .ne 13, 3) := by decide +kernel
theorem dX8_actions_21 : decode cX8_actions 21 = .ok (.iload_n 1, 1) := by decide +kernel
theorem dX8_actions_22 : decode cX8_actions 22 = .ok (.ifCond .le 7, 3) := by decide +kernel
theorem dX8_actions_25 : decode cX8_actions 25 = .ok (.iconst 1, 1) := by decide +kernel
theorem dX8_actions_26 : decode cX8_actions 26 = .ok (.goto 4, 3) := by decide +kernel
theorem dX8_actions_29 : decode cX8_actions 29 = .ok (.iconst 0, 1) := by decide +kernel
theorem dX8_actions_30 : decode cX8_actions 30 = .ok (.ireturn, 1) := by decide +kernel
theorem dX8_actions_31 : decode cX8_actions 31 = .ok (.aload_n 0, 1) := by decide +kernel
theorem dX8_actions_32 : decode cX8_actions 32 = .ok (.dup, 1) := by decide +kernel
theorem dX8_actions_33 : decode cX8_actions 33 = .ok (.getfield 36, 3) := by decide +kernel
theorem dX8_actions_36 : decode cX8_actions 36 = .ok (.iconst 1, 1) := by decide +kernel
theorem dX8_actions_37 : decode cX8_actions 37 = .ok (.iadd, 1) := by decide +kernel
theorem dX8_actions_38 : decode cX8_actions 38 = .ok (.putfield 36, 3) := by decide +kernel
theorem dX8_actions_41 : decode cX8_actions 41 = .ok (.aload_n 0, 1) := by decide +kernel
theorem dX8_actions_42 : decode cX8_actions 42 = .ok (.invokevirtual 46, 3) := by decide +kernel
theorem dX8_actions_45 : decode cX8_actions 45 = .ok (.invokestatic 76, 3) := by decide +kernel
theorem dX8_actions_48 : decode cX8_actions 48 = .ok (.ifCond .ne 5, 3) := by decide +kernel
theorem dX8_actions_51 : decode cX8_actions 51 = .ok (.iconst 0, 1) := by decide +kernel
theorem dX8_actions_52 : decode cX8_actions 52 = .ok (.ireturn, 1) := by decide +kernel
theorem dX8_actions_53 : decode cX8_actions 53 = .ok (.aload_n 0, 1) := by decide +kernel
theorem dX8_actions_54 : decode cX8_actions 54 = .ok (.getfield 24, 3) := by decide +kernel
theorem dX8_actions_57 : decode cX8_actions 57 = .ok (.bipush 12, 2) := by decide +kernel
theorem dX8_actions_59 : decode cX8_actions 59 = .ok (.iload_n 2, 1) := by decide +kernel
theorem dX8_actions_60 : decode cX8_actions 60 = .ok (.bipush 10, 2) := by decide +kernel
theorem dX8_actions_62 : decode cX8_actions 62 = .ok (.imul, 1) := by decide +kernel
theorem dX8_actions_63 : decode cX8_actions 63 = .ok (.aload_n 0, 1) := by decide +kernel
theorem dX8_actions_64 : decode cX8_actions 64 = .ok (.getfield 9, 3) := by decide +kernel
theorem dX8_actions_67 : decode cX8_actions 67 = .ok (.aload_n 0, 1) := by decide +kernel
theorem dX8_actions_68 : decode cX8_actions 68 = .ok (.getfield 36, 3) := by decide +kernel
theorem dX8_actions_71 : decode cX8_actions 71 = .ok (.iaload, 1) := by decide +kernel
theorem dX8_actions_72 : decode cX8_actions 72 = .ok (.iadd, 1) := by decide +kernel
theorem dX8_actions_73 : decode cX8_actions 73 = .ok (.bipush 48, 2) := by decide +kernel
theorem dX8_actions_75 : decode cX8_actions 75 = .ok (.isub, 1) := by decide +kernel
theorem dX8_actions_76 : decode cX8_actions 76 = .ok (.invokevirtual 58, 3) := by decide +kernel
theorem dX8_actions_79 : decode cX8_actions 79 = .ok (.aload_n 0, 1) := by decide +kernel
theorem dX8_actions_80 : decode cX8_actions 80 = .ok (.dup, 1) := by decide +kernel
theorem dX8_actions_81 : decode cX8_actions 81 = .ok (.getfield 36, 3) := by decide +kernel
theorem dX8_actions_84 : decode cX8_actions 84 = .ok (.iconst 1, 1) := by decide +kernel
theorem dX8_actions_85 : decode cX8_actions 85 = .ok (.iadd, 1) := by decide +kernel
theorem dX8_actions_86 : decode cX8_actions 86 = .ok (.putfield 36, 3) := by decide +kernel
theorem dX8_actions_89 : decode cX8_actions 89 = .ok (.iinc 1 1, 3) := by decide +kernel
theorem dX8_actions_92 : decode cX8_actions 92 = .ok (.goto (-90), 3) := by decide +kernel
theorem dX8_actions_95 : decode cX8_actions 95 = .ok (.iconst 0, 1) := by decide +kernel
theorem dX8_actions_96 : decode cX8_actions 96 = .ok (.ireturn, 1) := by decide +kernel
theorem okX8_actions : ab_okM MX8_actions 0 := ⟨by decide, ⟨by decide, by decide⟩, ab_in 1321 (by decide +kernel) (by decide +kernel), ab_in 96 (by decide +kernel) (by decide +kernel), by decide +kernel, by decide⟩
set_option maxHeartbeats 4000000 in
set_option maxRecDepth 100000 in
theorem sX8_actions_2 (v1 : Int32)  (x : ab_X) (K : Int32 → ab_X → Prop)  (d bc bs : Nat) (hdp : 5 ≤ d)  (h : Lp2 (lX8_actions_2  K ) v1 x) : EW MX8_actions 2 [(0, .ref 158), (1, .int v1)] [] (aS x) d bc bs (liI K) := by
  refine Lp2.use (P := fun v1 x => EW MX8_actions 2 [(0, .ref 158), (1, .int v1)] [] (aS x) d bc bs (liI K)) (fun L2 v1 x hL2 h => ?_) v1 x h
  unfold lX8_actions_2 at h
  refine EW_iload_n (pc2 := 3) rfl dX8_actions_2 1 rfl ?_
  refine EW_sipush (pc2 := 6) (v := 200) rfl dX8_actions_3 (by decide) ?_
  refine EW_icmp_ge (tgt := 95) (pc2 := 9) rfl dX8_actions_6 (by decide) (fun q => ?_) (fun q => ?_)
  · replace h := h.1 q
    refine EW_iconst (pc2 := 96) (v := 0) rfl dX8_actions_95 (by decide) ?_
    exact AW_zret rfl isB0 dX8_actions_96 ⟨_, _, rfl, rfl, h⟩
  · replace h := h.2 q
    refine EW_aload_n (pc2 := 10) rfl dX8_actions_9 0 rfl ?_
    refine AW_str_T70 rfl (pc2 := 12) rfl dX8_actions_10 ?_
    refine AW_invV (M' := MX8_indexIn) [.ref 1000003] (rest := []) mlRX8_72 okX8_indexIn (pc2 := 15) rfl dX8_actions_12 rfl rfl (Nat.le_of_ble_eq_true rfl) (Nat.le_of_ble_eq_true rfl) (d' := 4) (by omega) q158 ⟨by decide, rfl⟩ (EW_mono (fun _ _ hr => ?_) (sX8_indexIn 1000003 (⟨3, by decide, rfl⟩ : isS 1000003) x _ _ 0 0 (Nat.le_refl _) h))
    obtain ⟨r1, x2, rfl, rfl, h⟩ := hr
    refine EW_istore_n (pc2 := 16) rfl dX8_actions_15 (by decide) [1, 2, 0] [(0, .ref 158), (1, .int v1), (2, .int r1)] rfl ?_
    refine EW_iload_n (pc2 := 17) rfl dX8_actions_16 2 rfl ?_
    refine EW_iconst (pc2 := 18) (v := (-1)) rfl dX8_actions_17 (by decide) ?_
    refine EW_icmp_ne (tgt := 31) (pc2 := 21) rfl dX8_actions_18 (by decide) (fun q => ?_) (fun q => ?_)
    · replace h := h.1 q
      refine EW_aload_n (pc2 := 32) rfl dX8_actions_31 0 rfl ?_
      refine EW_dup (pc2 := 33) rfl dX8_actions_32 rfl ?_
      refine AW_geti ⟨gfRX8_36, rfl⟩ (pc2 := 36) rfl dX8_actions_33 q158 ?_
      refine EW_iconst (pc2 := 37) (v := 1) rfl dX8_actions_36 (by decide) ?_
      refine EW_iadd (pc2 := 38) rfl dX8_actions_37 ?_
      refine AW_puti ⟨gfRX8_36, rfl, rfl⟩ (pc2 := 41) rfl dX8_actions_38 q158 ?_
      refine EW_aload_n (pc2 := 42) rfl dX8_actions_41 0 rfl ?_
      refine AW_invV (M' := MX8_peek) [] (rest := []) mlRX8_46 okX8_peek (pc2 := 45) rfl dX8_actions_42 rfl rfl (Nat.le_of_ble_eq_true rfl) (Nat.le_of_ble_eq_true rfl) (d' := 0) (by omega) q158 ⟨by decide, rfl⟩ (EW_mono (fun _ _ hr => ?_) (sX8_peek   (wr x2 158 2 ((x2.1 158 2) + 1)) _ _ 0 0 (Nat.le_refl _) h))
      obtain ⟨r3, x4, rfl, rfl, h⟩ := hr
      refine AW_invS (M' := MX8_isDigit) [.int r3] (rest := []) mlRX8_76 okX8_isDigit (pc2 := 48) rfl dX8_actions_45 rfl rfl (Nat.le_of_ble_eq_true rfl) (Nat.le_of_ble_eq_true rfl) (d' := 0) (by omega) (EW_mono (fun _ _ hr => ?_) (sX8_isDigit r3  x4 _ _ 0 0 (Nat.le_refl _) h))
      obtain ⟨r5, rfl, rfl, h⟩ := hr
      refine EW_if_ne (tgt := 53) (pc2 := 51) rfl dX8_actions_48 (by decide) (fun q => ?_) (fun q => ?_)
      · replace h := h.1 q
        refine EW_aload_n (pc2 := 54) rfl dX8_actions_53 0 rfl ?_
        refine AW_getr (r := 160) ⟨gfRX8_24, rfl⟩ (pc2 := 57) rfl dX8_actions_54 q158 rfl ?_
        refine EW_bipush (pc2 := 59) (v := 12) rfl dX8_actions_57 (by decide) ?_
        refine EW_iload_n (pc2 := 60) rfl dX8_actions_59 2 rfl ?_
        refine EW_bipush (pc2 := 62) (v := 10) rfl dX8_actions_60 (by decide) ?_
        refine EW_imul (pc2 := 63) rfl dX8_actions_62 ?_
        refine EW_aload_n (pc2 := 64) rfl dX8_actions_63 0 rfl ?_
        refine AW_getr (r := 159) ⟨gfRX8_9, rfl⟩ (pc2 := 67) rfl dX8_actions_64 q158 rfl ?_
        refine EW_aload_n (pc2 := 68) rfl dX8_actions_67 0 rfl ?_
        refine AW_geti ⟨gfRX8_36, rfl⟩ (pc2 := 71) rfl dX8_actions_68 q158 ?_
        obtain ⟨b6, h⟩ := h
        refine AW_iald (pc2 := 72) rfl dX8_actions_71 q159 b6 ?_
        refine EW_iadd (pc2 := 73) rfl dX8_actions_72 ?_
        refine EW_bipush (pc2 := 75) (v := 48) rfl dX8_actions_73 (by decide) ?_
        refine EW_isub (pc2 := 76) rfl dX8_actions_75 ?_
        refine AW_invV (M' := MX9_add) [.int 12, .int (((r1 * 10) + (x4.1 159 (Int32.toNatClampNeg (x4.1 158 2)))) - 48)] (rest := []) mlRX8_58 okX9_add (pc2 := 79) rfl dX8_actions_76 rfl rfl (Nat.le_of_ble_eq_true rfl) (Nat.le_of_ble_eq_true rfl) (d' := 0) (by omega) q160 ⟨by decide, rfl⟩ (EW_mono (fun _ _ hr => ?_) (sX9_add 160 12 (((r1 * 10) + (x4.1 159 (Int32.toNatClampNeg (x4.1 158 2)))) - 48) (Or.inr (Or.inr (Or.inl rfl)) : isT 160) x4 _ _ 0 0 (Nat.le_refl _) h))
        obtain ⟨x7, rfl, rfl, h⟩ := hr
        refine EW_aload_n (pc2 := 80) rfl dX8_actions_79 0 rfl ?_
        refine EW_dup (pc2 := 81) rfl dX8_actions_80 rfl ?_
        refine AW_geti ⟨gfRX8_36, rfl⟩ (pc2 := 84) rfl dX8_actions_81 q158 ?_
        refine EW_iconst (pc2 := 85) (v := 1) rfl dX8_actions_84 (by decide) ?_
        refine EW_iadd (pc2 := 86) rfl dX8_actions_85 ?_
        refine AW_puti ⟨gfRX8_36, rfl, rfl⟩ (pc2 := 89) rfl dX8_actions_86 q158 ?_
        refine EW_iinc (v1 + 1) (pc2 := 92) rfl dX8_actions_89 1 rfl rfl (by decide) [1, 0, 2] [(0, .ref 158), (1, .int (v1 + 1)), (2, .int r1)] rfl ?_
        refine EW_goto (tgt := 2) dX8_actions_92 (by decide) ?_
        refine EW_ls [0, 1] rfl ?_
        exact hL2 (v1 + 1) (wr x7 158 2 ((x7.1 158 2) + 1)) h
      · replace h := h.2 q
        refine EW_iconst (pc2 := 52) (v := 0) rfl dX8_actions_51 (by decide) ?_
        exact AW_zret rfl isB0 dX8_actions_52 ⟨_, _, rfl, rfl, h⟩
    · replace h := h.2 q
      refine EW_iload_n (pc2 := 22) rfl dX8_actions_21 1 rfl ?_
      refine EW_if_le (tgt := 29) (pc2 := 25) rfl dX8_actions_22 (by decide) (fun q => ?_) (fun q => ?_)
      · replace h := h.1 q
        refine EW_iconst (pc2 := 30) (v := 0) rfl dX8_actions_29 (by decide) ?_
        exact AW_zret rfl isB0 dX8_actions_30 ⟨_, _, rfl, rfl, h⟩
      · replace h := h.2 q
        refine EW_iconst (pc2 := 26) (v := 1) rfl dX8_actions_25 (by decide) ?_
        refine EW_goto (tgt := 30) dX8_actions_26 (by decide) ?_
        exact AW_zret rfl isB1 dX8_actions_30 ⟨_, _, rfl, rfl, h⟩
set_option maxHeartbeats 4000000 in
set_option maxRecDepth 100000 in
theorem sX8_actions   (x : ab_X) (K : Int32 → ab_X → Prop) (d bc bs : Nat) (hdp : 5 ≤ d) (h : wX8_actions  x K) : EW MX8_actions 0 [(0, .ref 158)] [] (aS x) d bc bs (liI K) := by
  unfold wX8_actions at h
  refine EW_iconst (pc2 := 1) (v := 0) rfl dX8_actions_0 (by decide) ?_
  refine EW_istore_n (pc2 := 2) rfl dX8_actions_1 (by decide) [1, 0] [(0, .ref 158), (1, .int 0)] rfl ?_
  exact sX8_actions_2 0 x K d bc bs hdp h
abbrev MX8_passes : ab_M := (yX8_passes, cX8_passes, 2, (some .boolean))
theorem dX8_passes_0 : decode cX8_passes 0 = .ok (.aload_n 0, 1) := by decide +kernel
theorem dX8_passes_1 : decode cX8_passes 1 = .ok (.invokevirtual 46, 3) := by decide +kernel
theorem dX8_passes_4 : decode cX8_passes 4 = .ok (.iload_n 1, 1) := by decide +kernel
theorem dX8_passes_5 : decode cX8_passes 5 = .ok (.if_icmp .eq 5, 3) := by decide +kernel
theorem dX8_passes_8 : decode cX8_passes 8 = .ok (.iconst 0, 1) := by decide +kernel
theorem dX8_passes_9 : decode cX8_passes 9 = .ok (.ireturn, 1) := by decide +kernel
theorem dX8_passes_10 : decode cX8_passes 10 = .ok (.aload_n 0, 1) := by decide +kernel
theorem dX8_passes_11 : decode cX8_passes 11 = .ok (.dup, 1) := by decide +kernel
theorem dX8_passes_12 : decode cX8_passes 12 = .ok (.getfield 36, 3) := by decide +kernel
theorem dX8_passes_15 : decode cX8_passes 15 = .ok (.iconst 1, 1) := by decide +kernel
theorem dX8_passes_16 : decode cX8_passes 16 = .ok (.iadd, 1) := by decide +kernel
theorem dX8_passes_17 : decode cX8_passes 17 = .ok (.putfield 36, 3) := by decide +kernel
theorem dX8_passes_20 : decode cX8_passes 20 = .ok (.iconst 1, 1) := by decide +kernel
theorem dX8_passes_21 : decode cX8_passes 21 = .ok (.ireturn, 1) := by decide +kernel
theorem okX8_passes : ab_okM MX8_passes 1 := ⟨by decide, ⟨by decide, by decide⟩, ab_in 1203 (by decide +kernel) (by decide +kernel), ab_in 96 (by decide +kernel) (by decide +kernel), by decide +kernel, by decide⟩
set_option maxHeartbeats 4000000 in
set_option maxRecDepth 100000 in
theorem sX8_passes (v1 : Int32)  (x : ab_X) (K : Int32 → ab_X → Prop) (d bc bs : Nat) (hdp : 1 ≤ d) (h : wX8_passes v1 x K) : EW MX8_passes 0 [(0, .ref 158), (1, .int v1)] [] (aS x) d bc bs (liI K) := by
  unfold wX8_passes at h
  refine EW_aload_n (pc2 := 1) rfl dX8_passes_0 0 rfl ?_
  refine AW_invV (M' := MX8_peek) [] (rest := []) mlRX8_46 okX8_peek (pc2 := 4) rfl dX8_passes_1 rfl rfl (Nat.le_of_ble_eq_true rfl) (Nat.le_of_ble_eq_true rfl) (d' := 0) (by omega) q158 ⟨by decide, rfl⟩ (EW_mono (fun _ _ hr => ?_) (sX8_peek   x _ _ 0 0 (Nat.le_refl _) h))
  obtain ⟨r1, x2, rfl, rfl, h⟩ := hr
  refine EW_iload_n (pc2 := 5) rfl dX8_passes_4 1 rfl ?_
  refine EW_icmp_eq (tgt := 10) (pc2 := 8) rfl dX8_passes_5 (by decide) (fun q => ?_) (fun q => ?_)
  · replace h := h.1 q
    refine EW_aload_n (pc2 := 11) rfl dX8_passes_10 0 rfl ?_
    refine EW_dup (pc2 := 12) rfl dX8_passes_11 rfl ?_
    refine AW_geti ⟨gfRX8_36, rfl⟩ (pc2 := 15) rfl dX8_passes_12 q158 ?_
    refine EW_iconst (pc2 := 16) (v := 1) rfl dX8_passes_15 (by decide) ?_
    refine EW_iadd (pc2 := 17) rfl dX8_passes_16 ?_
    refine AW_puti ⟨gfRX8_36, rfl, rfl⟩ (pc2 := 20) rfl dX8_passes_17 q158 ?_
    refine EW_iconst (pc2 := 21) (v := 1) rfl dX8_passes_20 (by decide) ?_
    exact AW_zret rfl isB1 dX8_passes_21 ⟨_, _, rfl, rfl, h⟩
  · replace h := h.2 q
    refine EW_iconst (pc2 := 9) (v := 0) rfl dX8_passes_8 (by decide) ?_
    exact AW_zret rfl isB0 dX8_passes_9 ⟨_, _, rfl, rfl, h⟩
abbrev MX8_number : ab_M := (yX8_number, cX8_number, 5, (some .boolean))
theorem dX8_number_0 : decode cX8_number 0 = .ok (.aload_n 0, 1) := by decide +kernel
theorem dX8_number_1 : decode cX8_number 1 = .ok (.invokevirtual 46, 3) := by decide +kernel
theorem dX8_number_4 : decode cX8_number 4 = .ok (.invokestatic 76, 3) := by decide +kernel
theorem dX8_number_7 : decode cX8_number 7 = .ok (.ifCond .ne 5, 3) := by decide +kernel
theorem dX8_number_10 : decode cX8_number 10 = .ok (.iconst 0, 1) := by decide +kernel
theorem dX8_number_11 : decode cX8_number 11 = .ok (.ireturn, 1) := by decide +kernel
theorem dX8_number_12 : decode cX8_number 12 = .ok (.iconst 0, 1) := by decide +kernel
theorem dX8_number_13 : decode cX8_number 13 = .ok (.istore_n 3, 1) := by decide +kernel
theorem dX8_number_14 : decode cX8_number 14 = .ok (.iconst 0, 1) := by decide +kernel
theorem dX8_number_15 : decode cX8_number 15 = .ok (.istore 4, 2) := by decide +kernel
theorem dX8_number_17 : decode cX8_number 17 = .ok (.iload 4, 2) := by decide +kernel
theorem dX8_number_19 : decode cX8_number 19 = .ok (.iload_n 1, 1) := by decide +kernel
theorem dX8_number_20 : decode cX8_number 20 = .ok (.if_icmp .gt 80, 3) := by decide +kernel
theorem dX8_number_23 : decode cX8_number 23 = .ok (.aload_n 0, 1) := by decide +kernel
theorem dX8_number_24 : decode cX8_number 24 = .ok (.getfield 36, 3) := by decide +kernel
theorem dX8_number_27 : decode cX8_number 27 = .ok (.aload_n 0, 1) := by decide +kernel
theorem dX8_number_28 : decode cX8_number 28 = .ok (.getfield 28, 3) := by decide +kernel
theorem dX8_number_31 : decode cX8_number 31 = .ok (.if_icmp .ge 18, 3) := by decide +kernel
theorem dX8_number_34 : decode cX8_number 34 = .ok (.aload_n 0, 1) := by decide +kernel
theorem dX8_number_35 : decode cX8_number 35 = .ok (.getfield 9, 3) := by decide +kernel
theorem dX8_number_38 : decode cX8_number 38 = .ok (.aload_n 0, 1) := by decide +kernel
theorem dX8_number_39 : decode cX8_number 39 = .ok (.getfield 36, 3) := by decide +kernel
theorem dX8_number_42 : decode cX8_number 42 = .ok (.iaload, 1) := by decide +kernel
theorem dX8_number_43 : decode cX8_number 43 = .ok (.invokestatic 76, 3) := by decide +kernel
theorem dX8_number_46 : decode cX8_number 46 = .ok (.ifCond .ne 14, 3) := by decide +kernel
theorem dX8_number_49 : decode cX8_number 49 = .ok (.aload_n 0, 1) := by decide +kernel
theorem dX8_number_50 : decode cX8_number 50 = .ok (.getfield 24, 3) := by decide +kernel
theorem dX8_number_53 : decode cX8_number 53 = .ok (.iload_n 2, 1) := by decide +kernel
theorem dX8_number_54 : decode cX8_number 54 = .ok (.iload_n 3, 1) := by decide +kernel
theorem dX8_number_55 : decode cX8_number 55 = .ok (.invokevirtual 58, 3) := by decide +kernel
theorem dX8_number_58 : decode cX8_number 58 = .ok (.iconst 1, 1) := by decide +kernel
theorem dX8_number_59 : decode cX8_number 59 = .ok (.ireturn, 1) := by decide +kernel
theorem dX8_number_60 : decode cX8_number 60 = .ok (.iload 4, 2) := by decide +kernel
theorem dX8_number_62 : decode cX8_number 62 = .ok (.iload_n 1, 1) := by decide +kernel
theorem dX8_number_63 : decode cX8_number 63 = .ok (.if_icmp .ge 31, 3) := by decide +kernel
theorem dX8_number_66 : decode cX8_number 66 = .ok (.iload_n 3, 1) := by decide +kernel
theorem dX8_number_67 : decode cX8_number 67 = .ok (.bipush 10, 2) := by decide +kernel
theorem dX8_number_69 : decode cX8_number 69 = .ok (.imul, 1) := by decide +kernel
theorem dX8_number_70 : decode cX8_number 70 = .ok (.aload_n 0, 1) := by decide +kernel
theorem dX8_number_71 : decode cX8_number 71 = .ok (.getfield 9, 3) := by decide +kernel
theorem dX8_number_74 : decode cX8_number 74 = .ok (.aload_n 0, 1) := by decide +kernel
theorem dX8_number_75 : decode cX8_number 75 = .ok (.getfield 36, 3) := by decide +kernel
theorem dX8_number_78 : decode cX8_number 78 = .ok (.iaload, 1) := by decide +kernel
theorem dX8_number_79 : decode cX8_number 79 = .ok (.iadd, 1) := by decide +kernel
theorem dX8_number_80 : decode cX8_number 80 = .ok (.bipush 48, 2) := by decide +kernel
theorem dX8_number_82 : decode cX8_number 82 = .ok (.isub, 1) := by decide +kernel
theorem dX8_number_83 : decode cX8_number 83 = .ok (.istore_n 3, 1) := by decide +kernel
theorem dX8_number_84 : decode cX8_number 84 = .ok (.aload_n 0, 1) := by decide +kernel
theorem dX8_number_85 : decode cX8_number 85 = .ok (.dup, 1) := by decide +kernel
theorem dX8_number_86 : decode cX8_number 86 = .ok (.getfield 36, 3) := by decide +kernel
theorem dX8_number_89 : decode cX8_number 89 = .ok (.iconst 1, 1) := by decide +kernel
theorem dX8_number_90 : decode cX8_number 90 = .ok (.iadd, 1) := by decide +kernel
theorem dX8_number_91 : decode cX8_number 91 = .ok (.putfield 36, 3) := by decide +kernel
theorem dX8_number_94 : decode cX8_number 94 = .ok (.iinc 4 1, 3) := by decide +kernel
theorem dX8_number_97 : decode cX8_number 97 = .ok (.goto (-80), 3) := by decide +kernel
theorem dX8_number_100 : decode cX8_number 100 = .ok (.iconst 0, 1) := by decide +kernel
theorem dX8_number_101 : decode cX8_number 101 = .ok (.ireturn, 1) := by decide +kernel
theorem okX8_number : ab_okM MX8_number 2 := ⟨by decide, ⟨by decide, by decide⟩, ab_in 1226 (by decide +kernel) (by decide +kernel), ab_in 96 (by decide +kernel) (by decide +kernel), by decide +kernel, by decide⟩
set_option maxHeartbeats 4000000 in
set_option maxRecDepth 100000 in
theorem sX8_number_49 (v2 : Int32) (v3 : Int32)  (x : ab_X) (K : Int32 → ab_X → Prop)  (d bc bs : Nat) (hdp : 1 ≤ d)  (h : wX8_number_49 v2 v3 x K ) : EW MX8_number 49 [(0, .ref 158), (2, .int v2), (3, .int v3)] [] (aS x) d bc bs (liI K) := by
  unfold wX8_number_49 at h
  refine EW_aload_n (pc2 := 50) rfl dX8_number_49 0 rfl ?_
  refine AW_getr (r := 160) ⟨gfRX8_24, rfl⟩ (pc2 := 53) rfl dX8_number_50 q158 rfl ?_
  refine EW_iload_n (pc2 := 54) rfl dX8_number_53 1 rfl ?_
  refine EW_iload_n (pc2 := 55) rfl dX8_number_54 2 rfl ?_
  refine AW_invV (M' := MX9_add) [.int v2, .int v3] (rest := []) mlRX8_58 okX9_add (pc2 := 58) rfl dX8_number_55 rfl rfl (Nat.le_of_ble_eq_true rfl) (Nat.le_of_ble_eq_true rfl) (d' := 0) (by omega) q160 ⟨by decide, rfl⟩ (EW_mono (fun _ _ hr => ?_) (sX9_add 160 v2 v3 (Or.inr (Or.inr (Or.inl rfl)) : isT 160) x _ _ 0 0 (Nat.le_refl _) h))
  obtain ⟨x7, rfl, rfl, h⟩ := hr
  refine EW_iconst (pc2 := 59) (v := 1) rfl dX8_number_58 (by decide) ?_
  exact AW_zret rfl isB1 dX8_number_59 ⟨_, _, rfl, rfl, h⟩
set_option maxHeartbeats 4000000 in
set_option maxRecDepth 100000 in
theorem sX8_number_17 (v1 : Int32) (v2 : Int32) (v3 : Int32) (v4 : Int32)  (x : ab_X) (K : Int32 → ab_X → Prop)  (d bc bs : Nat) (hdp : 1 ≤ d)  (h : Lp3 (lX8_number_17 v1 v2 K ) v3 v4 x) : EW MX8_number 17 [(0, .ref 158), (1, .int v1), (2, .int v2), (3, .int v3), (4, .int v4)] [] (aS x) d bc bs (liI K) := by
  refine Lp3.use (P := fun v3 v4 x => EW MX8_number 17 [(0, .ref 158), (1, .int v1), (2, .int v2), (3, .int v3), (4, .int v4)] [] (aS x) d bc bs (liI K)) (fun L17 v3 v4 x hL17 h => ?_) v3 v4 x h
  unfold lX8_number_17 at h
  refine EW_iload (pc2 := 19) rfl dX8_number_17 4 rfl ?_
  refine EW_iload_n (pc2 := 20) rfl dX8_number_19 1 rfl ?_
  refine EW_icmp_gt (tgt := 100) (pc2 := 23) rfl dX8_number_20 (by decide) (fun q => ?_) (fun q => ?_)
  · replace h := h.1 q
    refine EW_iconst (pc2 := 101) (v := 0) rfl dX8_number_100 (by decide) ?_
    exact AW_zret rfl isB0 dX8_number_101 ⟨_, _, rfl, rfl, h⟩
  · replace h := h.2 q
    refine EW_aload_n (pc2 := 24) rfl dX8_number_23 0 rfl ?_
    refine AW_geti ⟨gfRX8_36, rfl⟩ (pc2 := 27) rfl dX8_number_24 q158 ?_
    refine EW_aload_n (pc2 := 28) rfl dX8_number_27 0 rfl ?_
    refine AW_geti ⟨gfRX8_28, rfl⟩ (pc2 := 31) rfl dX8_number_28 q158 ?_
    refine EW_icmp_ge (tgt := 49) (pc2 := 34) rfl dX8_number_31 (by decide) (fun q => ?_) (fun q => ?_)
    · replace h := h.1 q
      refine EW_ls [0, 2, 3] rfl ?_
      exact sX8_number_49 v2 v3 x K d bc bs hdp h
    · replace h := h.2 q
      refine EW_aload_n (pc2 := 35) rfl dX8_number_34 0 rfl ?_
      refine AW_getr (r := 159) ⟨gfRX8_9, rfl⟩ (pc2 := 38) rfl dX8_number_35 q158 rfl ?_
      refine EW_aload_n (pc2 := 39) rfl dX8_number_38 0 rfl ?_
      refine AW_geti ⟨gfRX8_36, rfl⟩ (pc2 := 42) rfl dX8_number_39 q158 ?_
      obtain ⟨b4, h⟩ := h
      refine AW_iald (pc2 := 43) rfl dX8_number_42 q159 b4 ?_
      refine AW_invS (M' := MX8_isDigit) [.int (x.1 159 (Int32.toNatClampNeg (x.1 158 2)))] (rest := []) mlRX8_76 okX8_isDigit (pc2 := 46) rfl dX8_number_43 rfl rfl (Nat.le_of_ble_eq_true rfl) (Nat.le_of_ble_eq_true rfl) (d' := 0) (by omega) (EW_mono (fun _ _ hr => ?_) (sX8_isDigit (x.1 159 (Int32.toNatClampNeg (x.1 158 2)))  x _ _ 0 0 (Nat.le_refl _) h))
      obtain ⟨r5, rfl, rfl, h⟩ := hr
      refine EW_if_ne (tgt := 60) (pc2 := 49) rfl dX8_number_46 (by decide) (fun q => ?_) (fun q => ?_)
      · replace h := h.1 q
        refine EW_iload (pc2 := 62) rfl dX8_number_60 4 rfl ?_
        refine EW_iload_n (pc2 := 63) rfl dX8_number_62 1 rfl ?_
        refine EW_icmp_ge (tgt := 94) (pc2 := 66) rfl dX8_number_63 (by decide) (fun q => ?_) (fun q => ?_)
        · replace h := h.1 q
          refine EW_iinc (v4 + 1) (pc2 := 97) rfl dX8_number_94 4 rfl rfl (by decide) [1, 2, 3, 4, 0] [(0, .ref 158), (1, .int v1), (2, .int v2), (3, .int v3), (4, .int (v4 + 1))] rfl ?_
          refine EW_goto (tgt := 17) dX8_number_97 (by decide) ?_
          exact hL17 v3 (v4 + 1) x h
        · replace h := h.2 q
          refine EW_iload_n (pc2 := 67) rfl dX8_number_66 3 rfl ?_
          refine EW_bipush (pc2 := 69) (v := 10) rfl dX8_number_67 (by decide) ?_
          refine EW_imul (pc2 := 70) rfl dX8_number_69 ?_
          refine EW_aload_n (pc2 := 71) rfl dX8_number_70 0 rfl ?_
          refine AW_getr (r := 159) ⟨gfRX8_9, rfl⟩ (pc2 := 74) rfl dX8_number_71 q158 rfl ?_
          refine EW_aload_n (pc2 := 75) rfl dX8_number_74 0 rfl ?_
          refine AW_geti ⟨gfRX8_36, rfl⟩ (pc2 := 78) rfl dX8_number_75 q158 ?_
          obtain ⟨b6, h⟩ := h
          refine AW_iald (pc2 := 79) rfl dX8_number_78 q159 b6 ?_
          refine EW_iadd (pc2 := 80) rfl dX8_number_79 ?_
          refine EW_bipush (pc2 := 82) (v := 48) rfl dX8_number_80 (by decide) ?_
          refine EW_isub (pc2 := 83) rfl dX8_number_82 ?_
          refine EW_istore_n (pc2 := 84) rfl dX8_number_83 (by decide) [1, 2, 3, 0, 4] [(0, .ref 158), (1, .int v1), (2, .int v2), (3, .int (((v3 * 10) + (x.1 159 (Int32.toNatClampNeg (x.1 158 2)))) - 48)), (4, .int v4)] rfl ?_
          refine EW_aload_n (pc2 := 85) rfl dX8_number_84 0 rfl ?_
          refine EW_dup (pc2 := 86) rfl dX8_number_85 rfl ?_
          refine AW_geti ⟨gfRX8_36, rfl⟩ (pc2 := 89) rfl dX8_number_86 q158 ?_
          refine EW_iconst (pc2 := 90) (v := 1) rfl dX8_number_89 (by decide) ?_
          refine EW_iadd (pc2 := 91) rfl dX8_number_90 ?_
          refine AW_puti ⟨gfRX8_36, rfl, rfl⟩ (pc2 := 94) rfl dX8_number_91 q158 ?_
          refine EW_iinc (v4 + 1) (pc2 := 97) rfl dX8_number_94 4 rfl rfl (by decide) [1, 2, 3, 4, 0] [(0, .ref 158), (1, .int v1), (2, .int v2), (3, .int (((v3 * 10) + (x.1 159 (Int32.toNatClampNeg (x.1 158 2)))) - 48)), (4, .int (v4 + 1))] rfl ?_
          refine EW_goto (tgt := 17) dX8_number_97 (by decide) ?_
          exact hL17 (((v3 * 10) + (x.1 159 (Int32.toNatClampNeg (x.1 158 2)))) - 48) (v4 + 1) (wr x 158 2 ((x.1 158 2) + 1)) h
      · replace h := h.2 q
        refine EW_ls [0, 2, 3] rfl ?_
        exact sX8_number_49 v2 v3 x K d bc bs hdp h
set_option maxHeartbeats 4000000 in
set_option maxRecDepth 100000 in
theorem sX8_number (v1 : Int32) (v2 : Int32)  (x : ab_X) (K : Int32 → ab_X → Prop) (d bc bs : Nat) (hdp : 1 ≤ d) (h : wX8_number v1 v2 x K) : EW MX8_number 0 [(0, .ref 158), (1, .int v1), (2, .int v2)] [] (aS x) d bc bs (liI K) := by
  unfold wX8_number at h
  refine EW_aload_n (pc2 := 1) rfl dX8_number_0 0 rfl ?_
  refine AW_invV (M' := MX8_peek) [] (rest := []) mlRX8_46 okX8_peek (pc2 := 4) rfl dX8_number_1 rfl rfl (Nat.le_of_ble_eq_true rfl) (Nat.le_of_ble_eq_true rfl) (d' := 0) (by omega) q158 ⟨by decide, rfl⟩ (EW_mono (fun _ _ hr => ?_) (sX8_peek   x _ _ 0 0 (Nat.le_refl _) h))
  obtain ⟨r1, x2, rfl, rfl, h⟩ := hr
  refine AW_invS (M' := MX8_isDigit) [.int r1] (rest := []) mlRX8_76 okX8_isDigit (pc2 := 7) rfl dX8_number_4 rfl rfl (Nat.le_of_ble_eq_true rfl) (Nat.le_of_ble_eq_true rfl) (d' := 0) (by omega) (EW_mono (fun _ _ hr => ?_) (sX8_isDigit r1  x2 _ _ 0 0 (Nat.le_refl _) h))
  obtain ⟨r3, rfl, rfl, h⟩ := hr
  refine EW_if_ne (tgt := 12) (pc2 := 10) rfl dX8_number_7 (by decide) (fun q => ?_) (fun q => ?_)
  · replace h := h.1 q
    refine EW_iconst (pc2 := 13) (v := 0) rfl dX8_number_12 (by decide) ?_
    refine EW_istore_n (pc2 := 14) rfl dX8_number_13 (by decide) [1, 2, 3, 0] [(0, .ref 158), (1, .int v1), (2, .int v2), (3, .int 0)] rfl ?_
    refine EW_iconst (pc2 := 15) (v := 0) rfl dX8_number_14 (by decide) ?_
    refine EW_istore (pc2 := 17) rfl dX8_number_15 (by decide) [1, 2, 3, 4, 0] [(0, .ref 158), (1, .int v1), (2, .int v2), (3, .int 0), (4, .int 0)] rfl ?_
    exact sX8_number_17 v1 v2 0 0 x2 K d bc bs hdp h
  · replace h := h.2 q
    refine EW_iconst (pc2 := 11) (v := 0) rfl dX8_number_10 (by decide) ?_
    exact AW_zret rfl isB0 dX8_number_11 ⟨_, _, rfl, rfl, h⟩
abbrev MX8_opens : ab_M := (yX8_opens, cX8_opens, 2, (some .boolean))
theorem dX8_opens_0 : decode cX8_opens 0 = .ok (.iload_n 1, 1) := by decide +kernel
theorem dX8_opens_1 : decode cX8_opens 1 = .ok (.bipush 8, 2) := by decide +kernel
theorem dX8_opens_3 : decode cX8_opens 3 = .ok (.if_icmp .lt 5, 3) := by decide +kernel
theorem dX8_opens_6 : decode cX8_opens 6 = .ok (.iconst 0, 1) := by decide +kernel
theorem dX8_opens_7 : decode cX8_opens 7 = .ok (.ireturn, 1) := by decide +kernel
theorem dX8_opens_8 : decode cX8_opens 8 = .ok (.aload_n 0, 1) := by decide +kernel
theorem dX8_opens_9 : decode cX8_opens 9 = .ok (.dup, 1) := by decide +kernel
theorem dX8_opens_10 : decode cX8_opens 10 = .ok (.getfield 36, 3) := by decide +kernel
theorem dX8_opens_13 : decode cX8_opens 13 = .ok (.iconst 1, 1) := by decide +kernel
theorem dX8_opens_14 : decode cX8_opens 14 = .ok (.iadd, 1) := by decide +kernel
theorem dX8_opens_15 : decode cX8_opens 15 = .ok (.putfield 36, 3) := by decide +kernel
theorem dX8_opens_18 : decode cX8_opens 18 = .ok (.iconst 1, 1) := by decide +kernel
theorem dX8_opens_19 : decode cX8_opens 19 = .ok (.ireturn, 1) := by decide +kernel
theorem okX8_opens : ab_okM MX8_opens 1 := ⟨by decide, ⟨by decide, by decide⟩, ab_in 1195 (by decide +kernel) (by decide +kernel), ab_in 96 (by decide +kernel) (by decide +kernel), by decide +kernel, by decide⟩
set_option maxHeartbeats 4000000 in
set_option maxRecDepth 100000 in
theorem sX8_opens (v1 : Int32)  (x : ab_X) (K : Int32 → ab_X → Prop) (d bc bs : Nat) (hdp : 0 ≤ d) (h : wX8_opens v1 x K) : EW MX8_opens 0 [(0, .ref 158), (1, .int v1)] [] (aS x) d bc bs (liI K) := by
  unfold wX8_opens at h
  refine EW_iload_n (pc2 := 1) rfl dX8_opens_0 1 rfl ?_
  refine EW_bipush (pc2 := 3) (v := 8) rfl dX8_opens_1 (by decide) ?_
  refine EW_icmp_lt (tgt := 8) (pc2 := 6) rfl dX8_opens_3 (by decide) (fun q => ?_) (fun q => ?_)
  · replace h := h.1 q
    refine EW_aload_n (pc2 := 9) rfl dX8_opens_8 0 rfl ?_
    refine EW_dup (pc2 := 10) rfl dX8_opens_9 rfl ?_
    refine AW_geti ⟨gfRX8_36, rfl⟩ (pc2 := 13) rfl dX8_opens_10 q158 ?_
    refine EW_iconst (pc2 := 14) (v := 1) rfl dX8_opens_13 (by decide) ?_
    refine EW_iadd (pc2 := 15) rfl dX8_opens_14 ?_
    refine AW_puti ⟨gfRX8_36, rfl, rfl⟩ (pc2 := 18) rfl dX8_opens_15 q158 ?_
    refine EW_iconst (pc2 := 19) (v := 1) rfl dX8_opens_18 (by decide) ?_
    exact AW_zret rfl isB1 dX8_opens_19 ⟨_, _, rfl, rfl, h⟩
  · replace h := h.2 q
    refine EW_iconst (pc2 := 7) (v := 0) rfl dX8_opens_6 (by decide) ?_
    exact AW_zret rfl isB0 dX8_opens_7 ⟨_, _, rfl, rfl, h⟩
