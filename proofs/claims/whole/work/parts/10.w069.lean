theorem gfRX12_201 : ab_L RX12 201 12 73 := ⟨by decide, by decide, ab_in 1922 (by decide +kernel) (by decide +kernel)⟩
theorem gfRX12_177 : ab_L RX12 177 12 62 := ⟨by decide, by decide, ab_in 1911 (by decide +kernel) (by decide +kernel)⟩
abbrev MX12_leaves : ab_M := (yX12_leaves, cX12_leaves, 5, (some .boolean))
theorem dX12_leaves_0 : decode cX12_leaves 0 = .ok (.aload_n 0, 1) := by decide +kernel
theorem dX12_leaves_1 : decode cX12_leaves 1 = .ok (.getfield 201, 3) := by decide +kernel
theorem dX12_leaves_4 : decode cX12_leaves 4 = .ok (.iconst (-1), 1) := by decide +kernel
theorem dX12_leaves_5 : decode cX12_leaves 5 = .ok (.if_icmp .ne 5, 3) := by decide +kernel
theorem dX12_leaves_8 : decode cX12_leaves 8 = .ok (.iconst 0, 1) := by decide +kernel
theorem dX12_leaves_9 : decode cX12_leaves 9 = .ok (.ireturn, 1) := by decide +kernel
theorem dX12_leaves_10 : decode cX12_leaves 10 = .ok (.aload_n 0, 1) := by decide +kernel
theorem dX12_leaves_11 : decode cX12_leaves 11 = .ok (.iload_n 2, 1) := by decide +kernel
theorem dX12_leaves_12 : decode cX12_leaves 12 = .ok (.iload_n 3, 1) := by decide +kernel
theorem dX12_leaves_13 : decode cX12_leaves 13 = .ok (.invokevirtual 345, 3) := by decide +kernel
theorem dX12_leaves_16 : decode cX12_leaves 16 = .ok (.istore 4, 2) := by decide +kernel
theorem dX12_leaves_18 : decode cX12_leaves 18 = .ok (.aload_n 0, 1) := by decide +kernel
theorem dX12_leaves_19 : decode cX12_leaves 19 = .ok (.getfield 192, 3) := by decide +kernel
theorem dX12_leaves_22 : decode cX12_leaves 22 = .ok (.bipush 118, 2) := by decide +kernel
theorem dX12_leaves_24 : decode cX12_leaves 24 = .ok (.iload 4, 2) := by decide +kernel
theorem dX12_leaves_26 : decode cX12_leaves 26 = .ok (.iastore, 1) := by decide +kernel
theorem dX12_leaves_27 : decode cX12_leaves 27 = .ok (.aload_n 0, 1) := by decide +kernel
theorem dX12_leaves_28 : decode cX12_leaves 28 = .ok (.getfield 192, 3) := by decide +kernel
theorem dX12_leaves_31 : decode cX12_leaves 31 = .ok (.bipush 98, 2) := by decide +kernel
theorem dX12_leaves_33 : decode cX12_leaves 33 = .ok (.bipush 100, 2) := by decide +kernel
theorem dX12_leaves_35 : decode cX12_leaves 35 = .ok (.aload_n 0, 1) := by decide +kernel
theorem dX12_leaves_36 : decode cX12_leaves 36 = .ok (.iload_n 2, 1) := by decide +kernel
theorem dX12_leaves_37 : decode cX12_leaves 37 = .ok (.iload 4, 2) := by decide +kernel
theorem dX12_leaves_39 : decode cX12_leaves 39 = .ok (.invokevirtual 360, 3) := by decide +kernel
theorem dX12_leaves_42 : decode cX12_leaves 42 = .ok (.imul, 1) := by decide +kernel
theorem dX12_leaves_43 : decode cX12_leaves 43 = .ok (.aload_n 0, 1) := by decide +kernel
theorem dX12_leaves_44 : decode cX12_leaves 44 = .ok (.iload_n 2, 1) := by decide +kernel
theorem dX12_leaves_45 : decode cX12_leaves 45 = .ok (.invokevirtual 379, 3) := by decide +kernel
theorem dX12_leaves_48 : decode cX12_leaves 48 = .ok (.idiv, 1) := by decide +kernel
theorem dX12_leaves_49 : decode cX12_leaves 49 = .ok (.iastore, 1) := by decide +kernel
theorem dX12_leaves_50 : decode cX12_leaves 50 = .ok (.aload_n 0, 1) := by decide +kernel
theorem dX12_leaves_51 : decode cX12_leaves 51 = .ok (.getfield 192, 3) := by decide +kernel
theorem dX12_leaves_54 : decode cX12_leaves 54 = .ok (.bipush 101, 2) := by decide +kernel
theorem dX12_leaves_56 : decode cX12_leaves 56 = .ok (.aload_n 0, 1) := by decide +kernel
theorem dX12_leaves_57 : decode cX12_leaves 57 = .ok (.getfield 395, 3) := by decide +kernel
theorem dX12_leaves_60 : decode cX12_leaves 60 = .ok (.aload_n 0, 1) := by decide +kernel
theorem dX12_leaves_61 : decode cX12_leaves 61 = .ok (.getfield 149, 3) := by decide +kernel
theorem dX12_leaves_64 : decode cX12_leaves 64 = .ok (.iload_n 1, 1) := by decide +kernel
theorem dX12_leaves_65 : decode cX12_leaves 65 = .ok (.iaload, 1) := by decide +kernel
theorem dX12_leaves_66 : decode cX12_leaves 66 = .ok (.isub, 1) := by decide +kernel
theorem dX12_leaves_67 : decode cX12_leaves 67 = .ok (.iastore, 1) := by decide +kernel
theorem dX12_leaves_68 : decode cX12_leaves 68 = .ok (.aload_n 0, 1) := by decide +kernel
theorem dX12_leaves_69 : decode cX12_leaves 69 = .ok (.getfield 192, 3) := by decide +kernel
theorem dX12_leaves_72 : decode cX12_leaves 72 = .ok (.bipush 116, 2) := by decide +kernel
theorem dX12_leaves_74 : decode cX12_leaves 74 = .ok (.aload_n 0, 1) := by decide +kernel
theorem dX12_leaves_75 : decode cX12_leaves 75 = .ok (.getfield 68, 3) := by decide +kernel
theorem dX12_leaves_78 : decode cX12_leaves 78 = .ok (.bipush 24, 2) := by decide +kernel
theorem dX12_leaves_80 : decode cX12_leaves 80 = .ok (.iload_n 2, 1) := by decide +kernel
theorem dX12_leaves_81 : decode cX12_leaves 81 = .ok (.imul, 1) := by decide +kernel
theorem dX12_leaves_82 : decode cX12_leaves 82 = .ok (.iload_n 3, 1) := by decide +kernel
theorem dX12_leaves_83 : decode cX12_leaves 83 = .ok (.iadd, 1) := by decide +kernel
theorem dX12_leaves_84 : decode cX12_leaves 84 = .ok (.iaload, 1) := by decide +kernel
theorem dX12_leaves_85 : decode cX12_leaves 85 = .ok (.iastore, 1) := by decide +kernel
theorem dX12_leaves_86 : decode cX12_leaves 86 = .ok (.aload_n 0, 1) := by decide +kernel
theorem dX12_leaves_87 : decode cX12_leaves 87 = .ok (.getfield 192, 3) := by decide +kernel
theorem dX12_leaves_90 : decode cX12_leaves 90 = .ok (.bipush 109, 2) := by decide +kernel
theorem dX12_leaves_92 : decode cX12_leaves 92 = .ok (.aload_n 0, 1) := by decide +kernel
theorem dX12_leaves_93 : decode cX12_leaves 93 = .ok (.getfield 116, 3) := by decide +kernel
theorem dX12_leaves_96 : decode cX12_leaves 96 = .ok (.iload_n 1, 1) := by decide +kernel
theorem dX12_leaves_97 : decode cX12_leaves 97 = .ok (.iaload, 1) := by decide +kernel
theorem dX12_leaves_98 : decode cX12_leaves 98 = .ok (.iastore, 1) := by decide +kernel
theorem dX12_leaves_99 : decode cX12_leaves 99 = .ok (.aload_n 0, 1) := by decide +kernel
theorem dX12_leaves_100 : decode cX12_leaves 100 = .ok (.getfield 192, 3) := by decide +kernel
theorem dX12_leaves_103 : decode cX12_leaves 103 = .ok (.bipush 103, 2) := by decide +kernel
theorem dX12_leaves_105 : decode cX12_leaves 105 = .ok (.aload_n 0, 1) := by decide +kernel
theorem dX12_leaves_106 : decode cX12_leaves 106 = .ok (.iload_n 2, 1) := by decide +kernel
theorem dX12_leaves_107 : decode cX12_leaves 107 = .ok (.invokevirtual 351, 3) := by decide +kernel
theorem dX12_leaves_110 : decode cX12_leaves 110 = .ok (.iastore, 1) := by decide +kernel
theorem dX12_leaves_111 : decode cX12_leaves 111 = .ok (.aload_n 0, 1) := by decide +kernel
theorem dX12_leaves_112 : decode cX12_leaves 112 = .ok (.iconst 1, 1) := by decide +kernel
theorem dX12_leaves_113 : decode cX12_leaves 113 = .ok (.aload_n 0, 1) := by decide +kernel
theorem dX12_leaves_114 : decode cX12_leaves 114 = .ok (.getfield 177, 3) := by decide +kernel
theorem dX12_leaves_117 : decode cX12_leaves 117 = .ok (.iconst 0, 1) := by decide +kernel
theorem dX12_leaves_118 : decode cX12_leaves 118 = .ok (.aload_n 0, 1) := by decide +kernel
theorem dX12_leaves_119 : decode cX12_leaves 119 = .ok (.getfield 201, 3) := by decide +kernel
theorem dX12_leaves_122 : decode cX12_leaves 122 = .ok (.invokevirtual 513, 3) := by decide +kernel
theorem dX12_leaves_125 : decode cX12_leaves 125 = .ok (.ireturn, 1) := by decide +kernel
theorem okX12_leaves : ab_okM MX12_leaves 3 := ⟨by decide, ⟨by decide, by decide⟩, ab_in 2582 (by decide +kernel) (by decide +kernel), ab_in 99 (by decide +kernel) (by decide +kernel), by decide +kernel, by decide⟩
set_option maxHeartbeats 4000000 in
set_option maxRecDepth 100000 in
def wX12_leaves (v1 : Int32) (v2 : Int32) (v3 : Int32) (x : ab_X) (K : Int32 → ab_X → Prop) : Prop := ((¬ (x.1 246 73) = (-1) → wX12_floorOf v2 v3 x (fun r1 => (vp_in 118 128 ∧ wX12_loadOf v2 r1 (wr x 307 (Int32.toNatClampNeg 118) r1) (fun r3 => wX12_bears v2 (wr x 307 (Int32.toNatClampNeg 118) r1) (fun r4 => (¬ r4 = 0 ∧ vp_in 98 128 ∧ vp_in v1 16 ∧ vp_in 101 128 ∧ vp_in ((24 * v2) + v3) 288 ∧ vp_in 116 128 ∧ vp_in v1 16 ∧ vp_in 109 128 ∧ wX12_burning v2 (wr (wr (wr (wr (wr x 307 (Int32.toNatClampNeg 118) r1) 307 (Int32.toNatClampNeg 98) ((100 * r3) / r4)) 307 (Int32.toNatClampNeg 101) (((wr (wr x 307 (Int32.toNatClampNeg 118) r1) 307 (Int32.toNatClampNeg 98) ((100 * r3) / r4)).1 246 1) - ((wr (wr x 307 (Int32.toNatClampNeg 118) r1) 307 (Int32.toNatClampNeg 98) ((100 * r3) / r4)).1 293 (Int32.toNatClampNeg v1)))) 307 (Int32.toNatClampNeg 116) ((wr (wr (wr x 307 (Int32.toNatClampNeg 118) r1) 307 (Int32.toNatClampNeg 98) ((100 * r3) / r4)) 307 (Int32.toNatClampNeg 101) (((wr (wr x 307 (Int32.toNatClampNeg 118) r1) 307 (Int32.toNatClampNeg 98) ((100 * r3) / r4)).1 246 1) - ((wr (wr x 307 (Int32.toNatClampNeg 118) r1) 307 (Int32.toNatClampNeg 98) ((100 * r3) / r4)).1 293 (Int32.toNatClampNeg v1)))).1 266 (Int32.toNatClampNeg ((24 * v2) + v3)))) 307 (Int32.toNatClampNeg 109) ((wr (wr (wr (wr x 307 (Int32.toNatClampNeg 118) r1) 307 (Int32.toNatClampNeg 98) ((100 * r3) / r4)) 307 (Int32.toNatClampNeg 101) (((wr (wr x 307 (Int32.toNatClampNeg 118) r1) 307 (Int32.toNatClampNeg 98) ((100 * r3) / r4)).1 246 1) - ((wr (wr x 307 (Int32.toNatClampNeg 118) r1) 307 (Int32.toNatClampNeg 98) ((100 * r3) / r4)).1 293 (Int32.toNatClampNeg v1)))) 307 (Int32.toNatClampNeg 116) ((wr (wr (wr x 307 (Int32.toNatClampNeg 118) r1) 307 (Int32.toNatClampNeg 98) ((100 * r3) / r4)) 307 (Int32.toNatClampNeg 101) (((wr (wr x 307 (Int32.toNatClampNeg 118) r1) 307 (Int32.toNatClampNeg 98) ((100 * r3) / r4)).1 246 1) - ((wr (wr x 307 (Int32.toNatClampNeg 118) r1) 307 (Int32.toNatClampNeg 98) ((100 * r3) / r4)).1 293 (Int32.toNatClampNeg v1)))).1 266 (Int32.toNatClampNeg ((24 * v2) + v3)))).1 282 (Int32.toNatClampNeg v1))) (fun r12 => (vp_in 103 128 ∧ wX12_goThrough 1 302 0 ((wr (wr (wr (wr (wr (wr x 307 (Int32.toNatClampNeg 118) r1) 307 (Int32.toNatClampNeg 98) ((100 * r3) / r4)) 307 (Int32.toNatClampNeg 101) (((wr (wr x 307 (Int32.toNatClampNeg 118) r1) 307 (Int32.toNatClampNeg 98) ((100 * r3) / r4)).1 246 1) - ((wr (wr x 307 (Int32.toNatClampNeg 118) r1) 307 (Int32.toNatClampNeg 98) ((100 * r3) / r4)).1 293 (Int32.toNatClampNeg v1)))) 307 (Int32.toNatClampNeg 116) ((wr (wr (wr x 307 (Int32.toNatClampNeg 118) r1) 307 (Int32.toNatClampNeg 98) ((100 * r3) / r4)) 307 (Int32.toNatClampNeg 101) (((wr (wr x 307 (Int32.toNatClampNeg 118) r1) 307 (Int32.toNatClampNeg 98) ((100 * r3) / r4)).1 246 1) - ((wr (wr x 307 (Int32.toNatClampNeg 118) r1) 307 (Int32.toNatClampNeg 98) ((100 * r3) / r4)).1 293 (Int32.toNatClampNeg v1)))).1 266 (Int32.toNatClampNeg ((24 * v2) + v3)))) 307 (Int32.toNatClampNeg 109) ((wr (wr (wr (wr x 307 (Int32.toNatClampNeg 118) r1) 307 (Int32.toNatClampNeg 98) ((100 * r3) / r4)) 307 (Int32.toNatClampNeg 101) (((wr (wr x 307 (Int32.toNatClampNeg 118) r1) 307 (Int32.toNatClampNeg 98) ((100 * r3) / r4)).1 246 1) - ((wr (wr x 307 (Int32.toNatClampNeg 118) r1) 307 (Int32.toNatClampNeg 98) ((100 * r3) / r4)).1 293 (Int32.toNatClampNeg v1)))) 307 (Int32.toNatClampNeg 116) ((wr (wr (wr x 307 (Int32.toNatClampNeg 118) r1) 307 (Int32.toNatClampNeg 98) ((100 * r3) / r4)) 307 (Int32.toNatClampNeg 101) (((wr (wr x 307 (Int32.toNatClampNeg 118) r1) 307 (Int32.toNatClampNeg 98) ((100 * r3) / r4)).1 246 1) - ((wr (wr x 307 (Int32.toNatClampNeg 118) r1) 307 (Int32.toNatClampNeg 98) ((100 * r3) / r4)).1 293 (Int32.toNatClampNeg v1)))).1 266 (Int32.toNatClampNeg ((24 * v2) + v3)))).1 282 (Int32.toNatClampNeg v1))) 307 (Int32.toNatClampNeg 103) r12).1 246 73) (wr (wr (wr (wr (wr (wr x 307 (Int32.toNatClampNeg 118) r1) 307 (Int32.toNatClampNeg 98) ((100 * r3) / r4)) 307 (Int32.toNatClampNeg 101) (((wr (wr x 307 (Int32.toNatClampNeg 118) r1) 307 (Int32.toNatClampNeg 98) ((100 * r3) / r4)).1 246 1) - ((wr (wr x 307 (Int32.toNatClampNeg 118) r1) 307 (Int32.toNatClampNeg 98) ((100 * r3) / r4)).1 293 (Int32.toNatClampNeg v1)))) 307 (Int32.toNatClampNeg 116) ((wr (wr (wr x 307 (Int32.toNatClampNeg 118) r1) 307 (Int32.toNatClampNeg 98) ((100 * r3) / r4)) 307 (Int32.toNatClampNeg 101) (((wr (wr x 307 (Int32.toNatClampNeg 118) r1) 307 (Int32.toNatClampNeg 98) ((100 * r3) / r4)).1 246 1) - ((wr (wr x 307 (Int32.toNatClampNeg 118) r1) 307 (Int32.toNatClampNeg 98) ((100 * r3) / r4)).1 293 (Int32.toNatClampNeg v1)))).1 266 (Int32.toNatClampNeg ((24 * v2) + v3)))) 307 (Int32.toNatClampNeg 109) ((wr (wr (wr (wr x 307 (Int32.toNatClampNeg 118) r1) 307 (Int32.toNatClampNeg 98) ((100 * r3) / r4)) 307 (Int32.toNatClampNeg 101) (((wr (wr x 307 (Int32.toNatClampNeg 118) r1) 307 (Int32.toNatClampNeg 98) ((100 * r3) / r4)).1 246 1) - ((wr (wr x 307 (Int32.toNatClampNeg 118) r1) 307 (Int32.toNatClampNeg 98) ((100 * r3) / r4)).1 293 (Int32.toNatClampNeg v1)))) 307 (Int32.toNatClampNeg 116) ((wr (wr (wr x 307 (Int32.toNatClampNeg 118) r1) 307 (Int32.toNatClampNeg 98) ((100 * r3) / r4)) 307 (Int32.toNatClampNeg 101) (((wr (wr x 307 (Int32.toNatClampNeg 118) r1) 307 (Int32.toNatClampNeg 98) ((100 * r3) / r4)).1 246 1) - ((wr (wr x 307 (Int32.toNatClampNeg 118) r1) 307 (Int32.toNatClampNeg 98) ((100 * r3) / r4)).1 293 (Int32.toNatClampNeg v1)))).1 266 (Int32.toNatClampNeg ((24 * v2) + v3)))).1 282 (Int32.toNatClampNeg v1))) 307 (Int32.toNatClampNeg 103) r12) (fun r14 x15 => (isB r14 ∧ K r14 x15)))))))))) ∧ ((x.1 246 73) = (-1) → K 0 x))
set_option maxHeartbeats 4000000 in
set_option maxRecDepth 100000 in
theorem sX12_leaves (v1 : Int32) (v2 : Int32) (v3 : Int32)  (x : ab_X) (K : Int32 → ab_X → Prop) (d bc bs : Nat) (hdp : 210 ≤ d) (h : wX12_leaves v1 v2 v3 x K) : EW MX12_leaves 0 [(0, .ref 246), (1, .int v1), (2, .int v2), (3, .int v3)] [] (aS x) d bc bs (liI K) := by
  unfold wX12_leaves at h
  refine EW_aload_n (pc2 := 1) rfl dX12_leaves_0 0 rfl ?_
  refine AW_geti ⟨gfRX12_201, rfl⟩ (pc2 := 4) rfl dX12_leaves_1 q246 ?_
  refine EW_iconst (pc2 := 5) (v := (-1)) rfl dX12_leaves_4 (by decide) ?_
  refine EW_icmp_ne (tgt := 10) (pc2 := 8) rfl dX12_leaves_5 (by decide) (fun q => ?_) (fun q => ?_)
  · replace h := h.1 q
    refine EW_aload_n (pc2 := 11) rfl dX12_leaves_10 0 rfl ?_
    refine EW_iload_n (pc2 := 12) rfl dX12_leaves_11 2 rfl ?_
    refine EW_iload_n (pc2 := 13) rfl dX12_leaves_12 3 rfl ?_
    refine AW_invV (M' := MX12_floorOf) [.int v2, .int v3] (rest := []) mlRX12_345 okX12_floorOf (pc2 := 16) rfl dX12_leaves_13 rfl rfl (Nat.le_of_ble_eq_true rfl) (Nat.le_of_ble_eq_true rfl) (d' := 0) (by omega) q246 ⟨by decide, rfl⟩ (EW_mono (fun _ _ hr => ?_) (sX12_floorOf v2 v3  x _ _ 0 0 (Nat.le_refl _) h))
    obtain ⟨r1, rfl, rfl, h⟩ := hr
    refine EW_istore (pc2 := 18) rfl dX12_leaves_16 (by decide) [1, 2, 3, 4, 0] [(0, .ref 246), (1, .int v1), (2, .int v2), (3, .int v3), (4, .int r1)] rfl ?_
    refine EW_aload_n (pc2 := 19) rfl dX12_leaves_18 0 rfl ?_
    refine AW_getr (r := 307) ⟨gfRX12_192, rfl⟩ (pc2 := 22) rfl dX12_leaves_19 q246 rfl ?_
    refine EW_bipush (pc2 := 24) (v := 118) rfl dX12_leaves_22 (by decide) ?_
    refine EW_iload (pc2 := 26) rfl dX12_leaves_24 4 rfl ?_
    obtain ⟨b2, h⟩ := h
    refine AW_iast (pc2 := 27) rfl dX12_leaves_26 q307 b2 ?_
    refine EW_aload_n (pc2 := 28) rfl dX12_leaves_27 0 rfl ?_
    refine AW_getr (r := 307) ⟨gfRX12_192, rfl⟩ (pc2 := 31) rfl dX12_leaves_28 q246 rfl ?_
    refine EW_bipush (pc2 := 33) (v := 98) rfl dX12_leaves_31 (by decide) ?_
    refine EW_bipush (pc2 := 35) (v := 100) rfl dX12_leaves_33 (by decide) ?_
    refine EW_aload_n (pc2 := 36) rfl dX12_leaves_35 0 rfl ?_
    refine EW_iload_n (pc2 := 37) rfl dX12_leaves_36 2 rfl ?_
    refine EW_iload (pc2 := 39) rfl dX12_leaves_37 4 rfl ?_
    refine AW_invV (M' := MX12_loadOf) [.int v2, .int r1] (rest := [.int 100, .int 98, .ref 307]) mlRX12_360 okX12_loadOf (pc2 := 42) rfl dX12_leaves_39 rfl rfl (Nat.le_of_ble_eq_true rfl) (Nat.le_of_ble_eq_true rfl) (d' := 0) (by omega) q246 ⟨by decide, rfl⟩ (EW_mono (fun _ _ hr => ?_) (sX12_loadOf v2 r1  (wr x 307 (Int32.toNatClampNeg 118) r1) _ _ 0 0 (Nat.le_refl _) h))
    obtain ⟨r3, rfl, rfl, h⟩ := hr
    refine EW_imul (pc2 := 43) rfl dX12_leaves_42 ?_
    refine EW_aload_n (pc2 := 44) rfl dX12_leaves_43 0 rfl ?_
    refine EW_iload_n (pc2 := 45) rfl dX12_leaves_44 2 rfl ?_
    refine AW_invV (M' := MX12_bears) [.int v2] (rest := [.int (100 * r3), .int 98, .ref 307]) mlRX12_379 okX12_bears (pc2 := 48) rfl dX12_leaves_45 rfl rfl (Nat.le_of_ble_eq_true rfl) (Nat.le_of_ble_eq_true rfl) (d' := 0) (by omega) q246 ⟨by decide, rfl⟩ (EW_mono (fun _ _ hr => ?_) (sX12_bears v2  (wr x 307 (Int32.toNatClampNeg 118) r1) _ _ 0 0 (Nat.le_refl _) h))
    obtain ⟨r4, rfl, rfl, h⟩ := hr
    obtain ⟨hz, h⟩ := h
    refine EW_idiv (pc2 := 49) rfl dX12_leaves_48 hz ?_
    obtain ⟨b5, h⟩ := h
    refine AW_iast (pc2 := 50) rfl dX12_leaves_49 q307 b5 ?_
    refine EW_aload_n (pc2 := 51) rfl dX12_leaves_50 0 rfl ?_
    refine AW_getr (r := 307) ⟨gfRX12_192, rfl⟩ (pc2 := 54) rfl dX12_leaves_51 q246 rfl ?_
    refine EW_bipush (pc2 := 56) (v := 101) rfl dX12_leaves_54 (by decide) ?_
    refine EW_aload_n (pc2 := 57) rfl dX12_leaves_56 0 rfl ?_
    refine AW_geti ⟨gfRX12_395, rfl⟩ (pc2 := 60) rfl dX12_leaves_57 q246 ?_
    refine EW_aload_n (pc2 := 61) rfl dX12_leaves_60 0 rfl ?_
    refine AW_getr (r := 293) ⟨gfRX12_149, rfl⟩ (pc2 := 64) rfl dX12_leaves_61 q246 rfl ?_
    refine EW_iload_n (pc2 := 65) rfl dX12_leaves_64 1 rfl ?_
    obtain ⟨b6, h⟩ := h
    refine AW_iald (pc2 := 66) rfl dX12_leaves_65 q293 b6 ?_
    refine EW_isub (pc2 := 67) rfl dX12_leaves_66 ?_
    obtain ⟨b7, h⟩ := h
    refine AW_iast (pc2 := 68) rfl dX12_leaves_67 q307 b7 ?_
    refine EW_aload_n (pc2 := 69) rfl dX12_leaves_68 0 rfl ?_
    refine AW_getr (r := 307) ⟨gfRX12_192, rfl⟩ (pc2 := 72) rfl dX12_leaves_69 q246 rfl ?_
    refine EW_bipush (pc2 := 74) (v := 116) rfl dX12_leaves_72 (by decide) ?_
    refine EW_aload_n (pc2 := 75) rfl dX12_leaves_74 0 rfl ?_
    refine AW_getr (r := 266) ⟨gfRX12_68, rfl⟩ (pc2 := 78) rfl dX12_leaves_75 q246 rfl ?_
    refine EW_bipush (pc2 := 80) (v := 24) rfl dX12_leaves_78 (by decide) ?_
    refine EW_iload_n (pc2 := 81) rfl dX12_leaves_80 2 rfl ?_
    refine EW_imul (pc2 := 82) rfl dX12_leaves_81 ?_
    refine EW_iload_n (pc2 := 83) rfl dX12_leaves_82 3 rfl ?_
    refine EW_iadd (pc2 := 84) rfl dX12_leaves_83 ?_
    obtain ⟨b8, h⟩ := h
    refine AW_iald (pc2 := 85) rfl dX12_leaves_84 q266 b8 ?_
    obtain ⟨b9, h⟩ := h
    refine AW_iast (pc2 := 86) rfl dX12_leaves_85 q307 b9 ?_
    refine EW_aload_n (pc2 := 87) rfl dX12_leaves_86 0 rfl ?_
    refine AW_getr (r := 307) ⟨gfRX12_192, rfl⟩ (pc2 := 90) rfl dX12_leaves_87 q246 rfl ?_
    refine EW_bipush (pc2 := 92) (v := 109) rfl dX12_leaves_90 (by decide) ?_
    refine EW_aload_n (pc2 := 93) rfl dX12_leaves_92 0 rfl ?_
    refine AW_getr (r := 282) ⟨gfRX12_116, rfl⟩ (pc2 := 96) rfl dX12_leaves_93 q246 rfl ?_
    refine EW_iload_n (pc2 := 97) rfl dX12_leaves_96 1 rfl ?_
    obtain ⟨b10, h⟩ := h
    refine AW_iald (pc2 := 98) rfl dX12_leaves_97 q282 b10 ?_
    obtain ⟨b11, h⟩ := h
    refine AW_iast (pc2 := 99) rfl dX12_leaves_98 q307 b11 ?_
    refine EW_aload_n (pc2 := 100) rfl dX12_leaves_99 0 rfl ?_
    refine AW_getr (r := 307) ⟨gfRX12_192, rfl⟩ (pc2 := 103) rfl dX12_leaves_100 q246 rfl ?_
    refine EW_bipush (pc2 := 105) (v := 103) rfl dX12_leaves_103 (by decide) ?_
    refine EW_aload_n (pc2 := 106) rfl dX12_leaves_105 0 rfl ?_
    refine EW_iload_n (pc2 := 107) rfl dX12_leaves_106 2 rfl ?_
    refine AW_invV (M' := MX12_burning) [.int v2] (rest := [.int 103, .ref 307]) mlRX12_351 okX12_burning (pc2 := 110) rfl dX12_leaves_107 rfl rfl (Nat.le_of_ble_eq_true rfl) (Nat.le_of_ble_eq_true rfl) (d' := 2) (by omega) q246 ⟨by decide, rfl⟩ (EW_mono (fun _ _ hr => ?_) (sX12_burning v2  (wr (wr (wr (wr (wr x 307 (Int32.toNatClampNeg 118) r1) 307 (Int32.toNatClampNeg 98) ((100 * r3) / r4)) 307 (Int32.toNatClampNeg 101) (((wr (wr x 307 (Int32.toNatClampNeg 118) r1) 307 (Int32.toNatClampNeg 98) ((100 * r3) / r4)).1 246 1) - ((wr (wr x 307 (Int32.toNatClampNeg 118) r1) 307 (Int32.toNatClampNeg 98) ((100 * r3) / r4)).1 293 (Int32.toNatClampNeg v1)))) 307 (Int32.toNatClampNeg 116) ((wr (wr (wr x 307 (Int32.toNatClampNeg 118) r1) 307 (Int32.toNatClampNeg 98) ((100 * r3) / r4)) 307 (Int32.toNatClampNeg 101) (((wr (wr x 307 (Int32.toNatClampNeg 118) r1) 307 (Int32.toNatClampNeg 98) ((100 * r3) / r4)).1 246 1) - ((wr (wr x 307 (Int32.toNatClampNeg 118) r1) 307 (Int32.toNatClampNeg 98) ((100 * r3) / r4)).1 293 (Int32.toNatClampNeg v1)))).1 266 (Int32.toNatClampNeg ((24 * v2) + v3)))) 307 (Int32.toNatClampNeg 109) ((wr (wr (wr (wr x 307 (Int32.toNatClampNeg 118) r1) 307 (Int32.toNatClampNeg 98) ((100 * r3) / r4)) 307 (Int32.toNatClampNeg 101) (((wr (wr x 307 (Int32.toNatClampNeg 118) r1) 307 (Int32.toNatClampNeg 98) ((100 * r3) / r4)).1 246 1) - ((wr (wr x 307 (Int32.toNatClampNeg 118) r1) 307 (Int32.toNatClampNeg 98) ((100 * r3) / r4)).1 293 (Int32.toNatClampNeg v1)))) 307 (Int32.toNatClampNeg 116) ((wr (wr (wr x 307 (Int32.toNatClampNeg 118) r1) 307 (Int32.toNatClampNeg 98) ((100 * r3) / r4)) 307 (Int32.toNatClampNeg 101) (((wr (wr x 307 (Int32.toNatClampNeg 118) r1) 307 (Int32.toNatClampNeg 98) ((100 * r3) / r4)).1 246 1) - ((wr (wr x 307 (Int32.toNatClampNeg 118) r1) 307 (Int32.toNatClampNeg 98) ((100 * r3) / r4)).1 293 (Int32.toNatClampNeg v1)))).1 266 (Int32.toNatClampNeg ((24 * v2) + v3)))).1 282 (Int32.toNatClampNeg v1))) _ _ 0 0 (Nat.le_refl _) h))
    obtain ⟨r12, rfl, rfl, h⟩ := hr
    obtain ⟨b13, h⟩ := h
    refine AW_iast (pc2 := 111) rfl dX12_leaves_110 q307 b13 ?_
    refine EW_aload_n (pc2 := 112) rfl dX12_leaves_111 0 rfl ?_
    refine EW_iconst (pc2 := 113) (v := 1) rfl dX12_leaves_112 (by decide) ?_
    refine EW_aload_n (pc2 := 114) rfl dX12_leaves_113 0 rfl ?_
    refine AW_getr (r := 302) ⟨gfRX12_177, rfl⟩ (pc2 := 117) rfl dX12_leaves_114 q246 rfl ?_
    refine EW_iconst (pc2 := 118) (v := 0) rfl dX12_leaves_117 (by decide) ?_
    refine EW_aload_n (pc2 := 119) rfl dX12_leaves_118 0 rfl ?_
    refine AW_geti ⟨gfRX12_201, rfl⟩ (pc2 := 122) rfl dX12_leaves_119 q246 ?_
    refine AW_invV (M' := MX12_goThrough) [.int 1, .ref 302, .int 0, .int ((wr (wr (wr (wr (wr (wr x 307 (Int32.toNatClampNeg 118) r1) 307 (Int32.toNatClampNeg 98) ((100 * r3) / r4)) 307 (Int32.toNatClampNeg 101) (((wr (wr x 307 (Int32.toNatClampNeg 118) r1) 307 (Int32.toNatClampNeg 98) ((100 * r3) / r4)).1 246 1) - ((wr (wr x 307 (Int32.toNatClampNeg 118) r1) 307 (Int32.toNatClampNeg 98) ((100 * r3) / r4)).1 293 (Int32.toNatClampNeg v1)))) 307 (Int32.toNatClampNeg 116) ((wr (wr (wr x 307 (Int32.toNatClampNeg 118) r1) 307 (Int32.toNatClampNeg 98) ((100 * r3) / r4)) 307 (Int32.toNatClampNeg 101) (((wr (wr x 307 (Int32.toNatClampNeg 118) r1) 307 (Int32.toNatClampNeg 98) ((100 * r3) / r4)).1 246 1) - ((wr (wr x 307 (Int32.toNatClampNeg 118) r1) 307 (Int32.toNatClampNeg 98) ((100 * r3) / r4)).1 293 (Int32.toNatClampNeg v1)))).1 266 (Int32.toNatClampNeg ((24 * v2) + v3)))) 307 (Int32.toNatClampNeg 109) ((wr (wr (wr (wr x 307 (Int32.toNatClampNeg 118) r1) 307 (Int32.toNatClampNeg 98) ((100 * r3) / r4)) 307 (Int32.toNatClampNeg 101) (((wr (wr x 307 (Int32.toNatClampNeg 118) r1) 307 (Int32.toNatClampNeg 98) ((100 * r3) / r4)).1 246 1) - ((wr (wr x 307 (Int32.toNatClampNeg 118) r1) 307 (Int32.toNatClampNeg 98) ((100 * r3) / r4)).1 293 (Int32.toNatClampNeg v1)))) 307 (Int32.toNatClampNeg 116) ((wr (wr (wr x 307 (Int32.toNatClampNeg 118) r1) 307 (Int32.toNatClampNeg 98) ((100 * r3) / r4)) 307 (Int32.toNatClampNeg 101) (((wr (wr x 307 (Int32.toNatClampNeg 118) r1) 307 (Int32.toNatClampNeg 98) ((100 * r3) / r4)).1 246 1) - ((wr (wr x 307 (Int32.toNatClampNeg 118) r1) 307 (Int32.toNatClampNeg 98) ((100 * r3) / r4)).1 293 (Int32.toNatClampNeg v1)))).1 266 (Int32.toNatClampNeg ((24 * v2) + v3)))).1 282 (Int32.toNatClampNeg v1))) 307 (Int32.toNatClampNeg 103) r12).1 246 73)] (rest := []) mlRX12_513 okX12_goThrough (pc2 := 125) rfl dX12_leaves_122 rfl rfl (Nat.le_of_ble_eq_true rfl) (Nat.le_of_ble_eq_true rfl) (d' := 209) (by omega) q246 ⟨by decide, rfl⟩ (EW_mono (fun _ _ hr => ?_) (sX12_goThrough 1 302 0 ((wr (wr (wr (wr (wr (wr x 307 (Int32.toNatClampNeg 118) r1) 307 (Int32.toNatClampNeg 98) ((100 * r3) / r4)) 307 (Int32.toNatClampNeg 101) (((wr (wr x 307 (Int32.toNatClampNeg 118) r1) 307 (Int32.toNatClampNeg 98) ((100 * r3) / r4)).1 246 1) - ((wr (wr x 307 (Int32.toNatClampNeg 118) r1) 307 (Int32.toNatClampNeg 98) ((100 * r3) / r4)).1 293 (Int32.toNatClampNeg v1)))) 307 (Int32.toNatClampNeg 116) ((wr (wr (wr x 307 (Int32.toNatClampNeg 118) r1) 307 (Int32.toNatClampNeg 98) ((100 * r3) / r4)) 307 (Int32.toNatClampNeg 101) (((wr (wr x 307 (Int32.toNatClampNeg 118) r1) 307 (Int32.toNatClampNeg 98) ((100 * r3) / r4)).1 246 1) - ((wr (wr x 307 (Int32.toNatClampNeg 118) r1) 307 (Int32.toNatClampNeg 98) ((100 * r3) / r4)).1 293 (Int32.toNatClampNeg v1)))).1 266 (Int32.toNatClampNeg ((24 * v2) + v3)))) 307 (Int32.toNatClampNeg 109) ((wr (wr (wr (wr x 307 (Int32.toNatClampNeg 118) r1) 307 (Int32.toNatClampNeg 98) ((100 * r3) / r4)) 307 (Int32.toNatClampNeg 101) (((wr (wr x 307 (Int32.toNatClampNeg 118) r1) 307 (Int32.toNatClampNeg 98) ((100 * r3) / r4)).1 246 1) - ((wr (wr x 307 (Int32.toNatClampNeg 118) r1) 307 (Int32.toNatClampNeg 98) ((100 * r3) / r4)).1 293 (Int32.toNatClampNeg v1)))) 307 (Int32.toNatClampNeg 116) ((wr (wr (wr x 307 (Int32.toNatClampNeg 118) r1) 307 (Int32.toNatClampNeg 98) ((100 * r3) / r4)) 307 (Int32.toNatClampNeg 101) (((wr (wr x 307 (Int32.toNatClampNeg 118) r1) 307 (Int32.toNatClampNeg 98) ((100 * r3) / r4)).1 246 1) - ((wr (wr x 307 (Int32.toNatClampNeg 118) r1) 307 (Int32.toNatClampNeg 98) ((100 * r3) / r4)).1 293 (Int32.toNatClampNeg v1)))).1 266 (Int32.toNatClampNeg ((24 * v2) + v3)))).1 282 (Int32.toNatClampNeg v1))) 307 (Int32.toNatClampNeg 103) r12).1 246 73)  (wr (wr (wr (wr (wr (wr x 307 (Int32.toNatClampNeg 118) r1) 307 (Int32.toNatClampNeg 98) ((100 * r3) / r4)) 307 (Int32.toNatClampNeg 101) (((wr (wr x 307 (Int32.toNatClampNeg 118) r1) 307 (Int32.toNatClampNeg 98) ((100 * r3) / r4)).1 246 1) - ((wr (wr x 307 (Int32.toNatClampNeg 118) r1) 307 (Int32.toNatClampNeg 98) ((100 * r3) / r4)).1 293 (Int32.toNatClampNeg v1)))) 307 (Int32.toNatClampNeg 116) ((wr (wr (wr x 307 (Int32.toNatClampNeg 118) r1) 307 (Int32.toNatClampNeg 98) ((100 * r3) / r4)) 307 (Int32.toNatClampNeg 101) (((wr (wr x 307 (Int32.toNatClampNeg 118) r1) 307 (Int32.toNatClampNeg 98) ((100 * r3) / r4)).1 246 1) - ((wr (wr x 307 (Int32.toNatClampNeg 118) r1) 307 (Int32.toNatClampNeg 98) ((100 * r3) / r4)).1 293 (Int32.toNatClampNeg v1)))).1 266 (Int32.toNatClampNeg ((24 * v2) + v3)))) 307 (Int32.toNatClampNeg 109) ((wr (wr (wr (wr x 307 (Int32.toNatClampNeg 118) r1) 307 (Int32.toNatClampNeg 98) ((100 * r3) / r4)) 307 (Int32.toNatClampNeg 101) (((wr (wr x 307 (Int32.toNatClampNeg 118) r1) 307 (Int32.toNatClampNeg 98) ((100 * r3) / r4)).1 246 1) - ((wr (wr x 307 (Int32.toNatClampNeg 118) r1) 307 (Int32.toNatClampNeg 98) ((100 * r3) / r4)).1 293 (Int32.toNatClampNeg v1)))) 307 (Int32.toNatClampNeg 116) ((wr (wr (wr x 307 (Int32.toNatClampNeg 118) r1) 307 (Int32.toNatClampNeg 98) ((100 * r3) / r4)) 307 (Int32.toNatClampNeg 101) (((wr (wr x 307 (Int32.toNatClampNeg 118) r1) 307 (Int32.toNatClampNeg 98) ((100 * r3) / r4)).1 246 1) - ((wr (wr x 307 (Int32.toNatClampNeg 118) r1) 307 (Int32.toNatClampNeg 98) ((100 * r3) / r4)).1 293 (Int32.toNatClampNeg v1)))).1 266 (Int32.toNatClampNeg ((24 * v2) + v3)))).1 282 (Int32.toNatClampNeg v1))) 307 (Int32.toNatClampNeg 103) r12) _ _ 0 0 (Nat.le_refl _) h))
    obtain ⟨r14, x15, rfl, rfl, h⟩ := hr
    obtain ⟨z16, h⟩ := h
    exact AW_zret rfl z16 dX12_leaves_125 ⟨_, _, rfl, rfl, h⟩
  · replace h := h.2 q
    refine EW_iconst (pc2 := 9) (v := 0) rfl dX12_leaves_8 (by decide) ?_
    exact AW_zret rfl isB0 dX12_leaves_9 ⟨_, _, rfl, rfl, h⟩
abbrev MX12_leaving : ab_M := (yX12_leaving, cX12_leaving, 2, (some .boolean))
theorem dX12_leaving_0 : decode cX12_leaving 0 = .ok (.aload_n 0, 1) := by decide +kernel
theorem dX12_leaving_1 : decode cX12_leaving 1 = .ok (.iconst 1, 1) := by decide +kernel
theorem dX12_leaving_2 : decode cX12_leaving 2 = .ok (.invokevirtual 517, 3) := by decide +kernel
theorem dX12_leaving_5 : decode cX12_leaving 5 = .ok (.iconst (-1), 1) := by decide +kernel
theorem dX12_leaving_6 : decode cX12_leaving 6 = .ok (.if_icmp .eq 5, 3) := by decide +kernel
theorem dX12_leaving_9 : decode cX12_leaving 9 = .ok (.iconst 0, 1) := by decide +kernel
theorem dX12_leaving_10 : decode cX12_leaving 10 = .ok (.ireturn, 1) := by decide +kernel
theorem dX12_leaving_11 : decode cX12_leaving 11 = .ok (.iconst 0, 1) := by decide +kernel
theorem dX12_leaving_12 : decode cX12_leaving 12 = .ok (.istore_n 1, 1) := by decide +kernel
theorem dX12_leaving_13 : decode cX12_leaving 13 = .ok (.iload_n 1, 1) := by decide +kernel
theorem dX12_leaving_14 : decode cX12_leaving 14 = .ok (.aload_n 0, 1) := by decide +kernel
theorem dX12_leaving_15 : decode cX12_leaving 15 = .ok (.getfield 414, 3) := by decide +kernel
theorem dX12_leaving_18 : decode cX12_leaving 18 = .ok (.if_icmp .ge 21, 3) := by decide +kernel
theorem dX12_leaving_21 : decode cX12_leaving 21 = .ok (.aload_n 0, 1) := by decide +kernel
theorem dX12_leaving_22 : decode cX12_leaving 22 = .ok (.getfield 177, 3) := by decide +kernel
theorem dX12_leaving_25 : decode cX12_leaving 25 = .ok (.iload_n 1, 1) := by decide +kernel
theorem dX12_leaving_26 : decode cX12_leaving 26 = .ok (.aload_n 0, 1) := by decide +kernel
theorem dX12_leaving_27 : decode cX12_leaving 27 = .ok (.getfield 167, 3) := by decide +kernel
theorem dX12_leaving_30 : decode cX12_leaving 30 = .ok (.iload_n 1, 1) := by decide +kernel
theorem dX12_leaving_31 : decode cX12_leaving 31 = .ok (.baload, 1) := by decide +kernel
theorem dX12_leaving_32 : decode cX12_leaving 32 = .ok (.bastore, 1) := by decide +kernel
theorem dX12_leaving_33 : decode cX12_leaving 33 = .ok (.iinc 1 1, 3) := by decide +kernel
theorem dX12_leaving_36 : decode cX12_leaving 36 = .ok (.goto (-23), 3) := by decide +kernel
theorem dX12_leaving_39 : decode cX12_leaving 39 = .ok (.aload_n 0, 1) := by decide +kernel
theorem dX12_leaving_40 : decode cX12_leaving 40 = .ok (.aload_n 0, 1) := by decide +kernel
theorem dX12_leaving_41 : decode cX12_leaving 41 = .ok (.getfield 414, 3) := by decide +kernel
theorem dX12_leaving_44 : decode cX12_leaving 44 = .ok (.putfield 201, 3) := by decide +kernel
theorem dX12_leaving_47 : decode cX12_leaving 47 = .ok (.aload_n 0, 1) := by decide +kernel
theorem dX12_leaving_48 : decode cX12_leaving 48 = .ok (.iconst 0, 1) := by decide +kernel
theorem dX12_leaving_49 : decode cX12_leaving 49 = .ok (.putfield 414, 3) := by decide +kernel
theorem dX12_leaving_52 : decode cX12_leaving 52 = .ok (.iconst 1, 1) := by decide +kernel
theorem dX12_leaving_53 : decode cX12_leaving 53 = .ok (.ireturn, 1) := by decide +kernel
theorem okX12_leaving : ab_okM MX12_leaving 0 := ⟨by decide, ⟨by decide, by decide⟩, ab_in 2486 (by decide +kernel) (by decide +kernel), ab_in 99 (by decide +kernel) (by decide +kernel), by decide +kernel, by decide⟩
set_option maxHeartbeats 4000000 in
set_option maxRecDepth 100000 in
def lX12_leaving_13  (K : Int32 → ab_X → Prop)  (L13 : Int32 → ab_X → Prop) (v1 : Int32) (x : ab_X) : Prop := (((x.1 246 70) ≤ v1 → K 1 (wr (wr x 246 73 (x.1 246 70)) 246 70 0)) ∧ (¬ (x.1 246 70) ≤ v1 → (vp_in v1 200 ∧ vp_in v1 200 ∧ L13 (v1 + 1) (wr x 302 (Int32.toNatClampNeg v1) (vp_nar .byte (x.1 299 (Int32.toNatClampNeg v1)))))))
set_option maxHeartbeats 4000000 in
set_option maxRecDepth 100000 in
theorem sX12_leaving_13 (v1 : Int32)  (x : ab_X) (K : Int32 → ab_X → Prop)  (d bc bs : Nat) (hdp : 211 ≤ d)  (h : Lp2 (lX12_leaving_13  K ) v1 x) : EW MX12_leaving 13 [(0, .ref 246), (1, .int v1)] [] (aS x) d bc bs (liI K) := by
  refine Lp2.use (P := fun v1 x => EW MX12_leaving 13 [(0, .ref 246), (1, .int v1)] [] (aS x) d bc bs (liI K)) (fun L13 v1 x hL13 h => ?_) v1 x h
  unfold lX12_leaving_13 at h
  refine EW_iload_n (pc2 := 14) rfl dX12_leaving_13 1 rfl ?_
  refine EW_aload_n (pc2 := 15) rfl dX12_leaving_14 0 rfl ?_
  refine AW_geti ⟨gfRX12_414, rfl⟩ (pc2 := 18) rfl dX12_leaving_15 q246 ?_
  refine EW_icmp_ge (tgt := 39) (pc2 := 21) rfl dX12_leaving_18 (by decide) (fun q => ?_) (fun q => ?_)
  · replace h := h.1 q
    refine EW_aload_n (pc2 := 40) rfl dX12_leaving_39 0 rfl ?_
    refine EW_aload_n (pc2 := 41) rfl dX12_leaving_40 0 rfl ?_
    refine AW_geti ⟨gfRX12_414, rfl⟩ (pc2 := 44) rfl dX12_leaving_41 q246 ?_
    refine AW_puti ⟨gfRX12_201, rfl, rfl⟩ (pc2 := 47) rfl dX12_leaving_44 q246 ?_
    refine EW_aload_n (pc2 := 48) rfl dX12_leaving_47 0 rfl ?_
    refine EW_iconst (pc2 := 49) (v := 0) rfl dX12_leaving_48 (by decide) ?_
    refine AW_puti ⟨gfRX12_414, rfl, rfl⟩ (pc2 := 52) rfl dX12_leaving_49 q246 ?_
    refine EW_iconst (pc2 := 53) (v := 1) rfl dX12_leaving_52 (by decide) ?_
    exact AW_zret rfl isB1 dX12_leaving_53 ⟨_, _, rfl, rfl, h⟩
  · replace h := h.2 q
    refine EW_aload_n (pc2 := 22) rfl dX12_leaving_21 0 rfl ?_
    refine AW_getr (r := 302) ⟨gfRX12_177, rfl⟩ (pc2 := 25) rfl dX12_leaving_22 q246 rfl ?_
    refine EW_iload_n (pc2 := 26) rfl dX12_leaving_25 1 rfl ?_
    refine EW_aload_n (pc2 := 27) rfl dX12_leaving_26 0 rfl ?_
    refine AW_getr (r := 299) ⟨gfRX12_167, rfl⟩ (pc2 := 30) rfl dX12_leaving_27 q246 rfl ?_
    refine EW_iload_n (pc2 := 31) rfl dX12_leaving_30 1 rfl ?_
    obtain ⟨b3, h⟩ := h
    refine AW_bald (pc2 := 32) rfl dX12_leaving_31 q299 b3 ?_
    obtain ⟨b4, h⟩ := h
    refine AW_bast (pc2 := 33) rfl dX12_leaving_32 q302 b4 ?_
    refine EW_iinc (v1 + 1) (pc2 := 36) rfl dX12_leaving_33 1 rfl rfl (by decide) [1, 0] [(0, .ref 246), (1, .int (v1 + 1))] rfl ?_
    refine EW_goto (tgt := 13) dX12_leaving_36 (by decide) ?_
    exact hL13 (v1 + 1) (wr x 302 (Int32.toNatClampNeg v1) (vp_nar .byte (x.1 299 (Int32.toNatClampNeg v1)))) h
set_option maxHeartbeats 4000000 in
set_option maxRecDepth 100000 in
def wX12_leaving  (x : ab_X) (K : Int32 → ab_X → Prop) : Prop := wX12_fault 1 x (fun r1 x2 => ((r1 = (-1) → Lp2 (lX12_leaving_13 K ) 0 x2) ∧ (¬ r1 = (-1) → K 0 x2)))
set_option maxHeartbeats 4000000 in
set_option maxRecDepth 100000 in
theorem sX12_leaving   (x : ab_X) (K : Int32 → ab_X → Prop) (d bc bs : Nat) (hdp : 211 ≤ d) (h : wX12_leaving  x K) : EW MX12_leaving 0 [(0, .ref 246)] [] (aS x) d bc bs (liI K) := by
  unfold wX12_leaving at h
  refine EW_aload_n (pc2 := 1) rfl dX12_leaving_0 0 rfl ?_
  refine EW_iconst (pc2 := 2) (v := 1) rfl dX12_leaving_1 (by decide) ?_
  refine AW_invV (M' := MX12_fault) [.int 1] (rest := []) mlRX12_517 okX12_fault (pc2 := 5) rfl dX12_leaving_2 rfl rfl (Nat.le_of_ble_eq_true rfl) (Nat.le_of_ble_eq_true rfl) (d' := 210) (by omega) q246 ⟨by decide, rfl⟩ (EW_mono (fun _ _ hr => ?_) (sX12_fault 1  x _ _ 0 0 (Nat.le_refl _) h))
  obtain ⟨r1, x2, rfl, rfl, h⟩ := hr
  refine EW_iconst (pc2 := 6) (v := (-1)) rfl dX12_leaving_5 (by decide) ?_
  refine EW_icmp_eq (tgt := 11) (pc2 := 9) rfl dX12_leaving_6 (by decide) (fun q => ?_) (fun q => ?_)
  · replace h := h.1 q
    refine EW_iconst (pc2 := 12) (v := 0) rfl dX12_leaving_11 (by decide) ?_
    refine EW_istore_n (pc2 := 13) rfl dX12_leaving_12 (by decide) [1, 0] [(0, .ref 246), (1, .int 0)] rfl ?_
    exact sX12_leaving_13 0 x2 K d bc bs hdp h
  · replace h := h.2 q
    refine EW_iconst (pc2 := 10) (v := 0) rfl dX12_leaving_9 (by decide) ?_
    exact AW_zret rfl isB0 dX12_leaving_10 ⟨_, _, rfl, rfl, h⟩
theorem mlRX12_354 : Cond.methodLink RX12 354 yX12_isRoom ∈ ab_G ∧ Cond.instanceMethod yX12_isRoom ∈ ab_G ∧ Cond.selects RX12 yX12_isRoom yX12_isRoom ∈ ab_G := ⟨ab_in 2308 (by decide +kernel) (by decide +kernel), ab_in 2310 (by decide +kernel) (by decide +kernel), ab_in 25 (by decide +kernel) (by decide +kernel)⟩
abbrev MX12_light : ab_M := (yX12_light, cX12_light, 3, (some .boolean))
theorem dX12_light_0 : decode cX12_light 0 = .ok (.aload_n 0, 1) := by decide +kernel
theorem dX12_light_1 : decode cX12_light 1 = .ok (.iconst 0, 1) := by decide +kernel
theorem dX12_light_2 : decode cX12_light 2 = .ok (.putfield 297, 3) := by decide +kernel
theorem dX12_light_5 : decode cX12_light 5 = .ok (.aload_n 0, 1) := by decide +kernel
theorem dX12_light_6 : decode cX12_light 6 = .ok (.iload_n 1, 1) := by decide +kernel
theorem dX12_light_7 : decode cX12_light 7 = .ok (.iload_n 2, 1) := by decide +kernel
theorem dX12_light_8 : decode cX12_light 8 = .ok (.invokevirtual 354, 3) := by decide +kernel
theorem dX12_light_11 : decode cX12_light 11 = .ok (.ifCond .eq 22, 3) := by decide +kernel
theorem dX12_light_14 : decode cX12_light 14 = .ok (.aload_n 0, 1) := by decide +kernel
theorem dX12_light_15 : decode cX12_light 15 = .ok (.getfield 92, 3) := by decide +kernel
theorem dX12_light_18 : decode cX12_light 18 = .ok (.bipush 6, 2) := by decide +kernel
theorem dX12_light_20 : decode cX12_light 20 = .ok (.iload_n 1, 1) := by decide +kernel
theorem dX12_light_21 : decode cX12_light 21 = .ok (.imul, 1) := by decide +kernel
theorem dX12_light_22 : decode cX12_light 22 = .ok (.aload_n 0, 1) := by decide +kernel
theorem dX12_light_23 : decode cX12_light 23 = .ok (.iload_n 1, 1) := by decide +kernel
theorem dX12_light_24 : decode cX12_light 24 = .ok (.iload_n 2, 1) := by decide +kernel
theorem dX12_light_25 : decode cX12_light 25 = .ok (.invokevirtual 345, 3) := by decide +kernel
theorem dX12_light_28 : decode cX12_light 28 = .ok (.iadd, 1) := by decide +kernel
theorem dX12_light_29 : decode cX12_light 29 = .ok (.baload, 1) := by decide +kernel
theorem dX12_light_30 : decode cX12_light 30 = .ok (.ifCond .eq 5, 3) := by decide +kernel
theorem dX12_light_33 : decode cX12_light 33 = .ok (.iconst 0, 1) := by decide +kernel
theorem dX12_light_34 : decode cX12_light 34 = .ok (.ireturn, 1) := by decide +kernel
theorem dX12_light_35 : decode cX12_light 35 = .ok (.aload_n 0, 1) := by decide +kernel
theorem dX12_light_36 : decode cX12_light 36 = .ok (.getfield 68, 3) := by decide +kernel
theorem dX12_light_39 : decode cX12_light 39 = .ok (.bipush 24, 2) := by decide +kernel
theorem dX12_light_41 : decode cX12_light 41 = .ok (.iload_n 1, 1) := by decide +kernel
theorem dX12_light_42 : decode cX12_light 42 = .ok (.imul, 1) := by decide +kernel
theorem dX12_light_43 : decode cX12_light 43 = .ok (.iload_n 2, 1) := by decide +kernel
theorem dX12_light_44 : decode cX12_light 44 = .ok (.iadd, 1) := by decide +kernel
theorem dX12_light_45 : decode cX12_light 45 = .ok (.sipush 400, 3) := by decide +kernel
theorem dX12_light_48 : decode cX12_light 48 = .ok (.aload_n 0, 1) := by decide +kernel
theorem dX12_light_49 : decode cX12_light 49 = .ok (.getfield 68, 3) := by decide +kernel
theorem dX12_light_52 : decode cX12_light 52 = .ok (.bipush 24, 2) := by decide +kernel
theorem dX12_light_54 : decode cX12_light 54 = .ok (.iload_n 1, 1) := by decide +kernel
theorem dX12_light_55 : decode cX12_light 55 = .ok (.imul, 1) := by decide +kernel
theorem dX12_light_56 : decode cX12_light 56 = .ok (.iload_n 2, 1) := by decide +kernel
theorem dX12_light_57 : decode cX12_light 57 = .ok (.iadd, 1) := by decide +kernel
theorem dX12_light_58 : decode cX12_light 58 = .ok (.iaload, 1) := by decide +kernel
theorem dX12_light_59 : decode cX12_light 59 = .ok (.invokestatic 357, 3) := by decide +kernel
theorem dX12_light_62 : decode cX12_light 62 = .ok (.iastore, 1) := by decide +kernel
theorem dX12_light_63 : decode cX12_light 63 = .ok (.aload_n 0, 1) := by decide +kernel
theorem dX12_light_64 : decode cX12_light 64 = .ok (.aload_n 0, 1) := by decide +kernel
theorem dX12_light_65 : decode cX12_light 65 = .ok (.getfield 32, 3) := by decide +kernel
theorem dX12_light_68 : decode cX12_light 68 = .ok (.iload_n 1, 1) := by decide +kernel
theorem dX12_light_69 : decode cX12_light 69 = .ok (.iaload, 1) := by decide +kernel
theorem dX12_light_70 : decode cX12_light 70 = .ok (.invokevirtual 341, 3) := by decide +kernel
theorem dX12_light_73 : decode cX12_light 73 = .ok (.iconst 1, 1) := by decide +kernel
theorem dX12_light_74 : decode cX12_light 74 = .ok (.ireturn, 1) := by decide +kernel
theorem okX12_light : ab_okM MX12_light 2 := ⟨by decide, ⟨by decide, by decide⟩, ab_in 2307 (by decide +kernel) (by decide +kernel), ab_in 99 (by decide +kernel) (by decide +kernel), by decide +kernel, by decide⟩
set_option maxHeartbeats 4000000 in
set_option maxRecDepth 100000 in
def wX12_light (v1 : Int32) (v2 : Int32) (x : ab_X) (K : Int32 → ab_X → Prop) : Prop := wX12_isRoom v1 v2 (wr x 246 0 0) (fun r1 => ((r1 = 0 → K 0 (wr x 246 0 0)) ∧ (¬ r1 = 0 → wX12_floorOf v1 v2 (wr x 246 0 0) (fun r2 => (vp_in ((6 * v1) + r2) 72 ∧ ((((wr x 246 0 0).1 274 (Int32.toNatClampNeg ((6 * v1) + r2))) = 0 → (vp_in ((24 * v1) + v2) 288 ∧ vp_in ((24 * v1) + v2) 288 ∧ vp_in v1 12 ∧ wX12_mark ((wr (wr x 246 0 0) 266 (Int32.toNatClampNeg ((24 * v1) + v2)) (imax 400 ((wr x 246 0 0).1 266 (Int32.toNatClampNeg ((24 * v1) + v2))))).1 254 (Int32.toNatClampNeg v1)) (wr (wr x 246 0 0) 266 (Int32.toNatClampNeg ((24 * v1) + v2)) (imax 400 ((wr x 246 0 0).1 266 (Int32.toNatClampNeg ((24 * v1) + v2))))) (fun x7 => K 1 x7))) ∧ (¬ ((wr x 246 0 0).1 274 (Int32.toNatClampNeg ((6 * v1) + r2))) = 0 → K 0 (wr x 246 0 0))))))))
set_option maxHeartbeats 4000000 in
set_option maxRecDepth 100000 in
theorem sX12_light (v1 : Int32) (v2 : Int32)  (x : ab_X) (K : Int32 → ab_X → Prop) (d bc bs : Nat) (hdp : 5 ≤ d) (h : wX12_light v1 v2 x K) : EW MX12_light 0 [(0, .ref 246), (1, .int v1), (2, .int v2)] [] (aS x) d bc bs (liI K) := by
  unfold wX12_light at h
  refine EW_aload_n (pc2 := 1) rfl dX12_light_0 0 rfl ?_
  refine EW_iconst (pc2 := 2) (v := 0) rfl dX12_light_1 (by decide) ?_
  refine AW_puti ⟨gfRX12_297, rfl, rfl⟩ (pc2 := 5) rfl dX12_light_2 q246 ?_
  refine EW_aload_n (pc2 := 6) rfl dX12_light_5 0 rfl ?_
  refine EW_iload_n (pc2 := 7) rfl dX12_light_6 1 rfl ?_
  refine EW_iload_n (pc2 := 8) rfl dX12_light_7 2 rfl ?_
  refine AW_invV (M' := MX12_isRoom) [.int v1, .int v2] (rest := []) mlRX12_354 okX12_isRoom (pc2 := 11) rfl dX12_light_8 rfl rfl (Nat.le_of_ble_eq_true rfl) (Nat.le_of_ble_eq_true rfl) (d' := 1) (by omega) q246 ⟨by decide, rfl⟩ (EW_mono (fun _ _ hr => ?_) (sX12_isRoom v1 v2  (wr x 246 0 0) _ _ 0 0 (Nat.le_refl _) h))
  obtain ⟨r1, rfl, rfl, h⟩ := hr
  refine EW_if_eq (tgt := 33) (pc2 := 14) rfl dX12_light_11 (by decide) (fun q => ?_) (fun q => ?_)
  · replace h := h.1 q
    refine EW_iconst (pc2 := 34) (v := 0) rfl dX12_light_33 (by decide) ?_
    exact AW_zret rfl isB0 dX12_light_34 ⟨_, _, rfl, rfl, h⟩
  · replace h := h.2 q
    refine EW_aload_n (pc2 := 15) rfl dX12_light_14 0 rfl ?_
    refine AW_getr (r := 274) ⟨gfRX12_92, rfl⟩ (pc2 := 18) rfl dX12_light_15 q246 rfl ?_
    refine EW_bipush (pc2 := 20) (v := 6) rfl dX12_light_18 (by decide) ?_
    refine EW_iload_n (pc2 := 21) rfl dX12_light_20 1 rfl ?_
    refine EW_imul (pc2 := 22) rfl dX12_light_21 ?_
    refine EW_aload_n (pc2 := 23) rfl dX12_light_22 0 rfl ?_
    refine EW_iload_n (pc2 := 24) rfl dX12_light_23 1 rfl ?_
    refine EW_iload_n (pc2 := 25) rfl dX12_light_24 2 rfl ?_
    refine AW_invV (M' := MX12_floorOf) [.int v1, .int v2] (rest := [.int (6 * v1), .ref 274]) mlRX12_345 okX12_floorOf (pc2 := 28) rfl dX12_light_25 rfl rfl (Nat.le_of_ble_eq_true rfl) (Nat.le_of_ble_eq_true rfl) (d' := 0) (by omega) q246 ⟨by decide, rfl⟩ (EW_mono (fun _ _ hr => ?_) (sX12_floorOf v1 v2  (wr x 246 0 0) _ _ 0 0 (Nat.le_refl _) h))
    obtain ⟨r2, rfl, rfl, h⟩ := hr
    refine EW_iadd (pc2 := 29) rfl dX12_light_28 ?_
    obtain ⟨b3, h⟩ := h
    refine AW_zald (pc2 := 30) rfl dX12_light_29 q274 b3 ?_
    refine EW_if_eq (tgt := 35) (pc2 := 33) rfl dX12_light_30 (by decide) (fun q => ?_) (fun q => ?_)
    · replace h := h.1 q
      refine EW_aload_n (pc2 := 36) rfl dX12_light_35 0 rfl ?_
      refine AW_getr (r := 266) ⟨gfRX12_68, rfl⟩ (pc2 := 39) rfl dX12_light_36 q246 rfl ?_
      refine EW_bipush (pc2 := 41) (v := 24) rfl dX12_light_39 (by decide) ?_
      refine EW_iload_n (pc2 := 42) rfl dX12_light_41 1 rfl ?_
      refine EW_imul (pc2 := 43) rfl dX12_light_42 ?_
      refine EW_iload_n (pc2 := 44) rfl dX12_light_43 2 rfl ?_
      refine EW_iadd (pc2 := 45) rfl dX12_light_44 ?_
      refine EW_sipush (pc2 := 48) (v := 400) rfl dX12_light_45 (by decide) ?_
      refine EW_aload_n (pc2 := 49) rfl dX12_light_48 0 rfl ?_
      refine AW_getr (r := 266) ⟨gfRX12_68, rfl⟩ (pc2 := 52) rfl dX12_light_49 q246 rfl ?_
      refine EW_bipush (pc2 := 54) (v := 24) rfl dX12_light_52 (by decide) ?_
      refine EW_iload_n (pc2 := 55) rfl dX12_light_54 1 rfl ?_
      refine EW_imul (pc2 := 56) rfl dX12_light_55 ?_
      refine EW_iload_n (pc2 := 57) rfl dX12_light_56 2 rfl ?_
      refine EW_iadd (pc2 := 58) rfl dX12_light_57 ?_
      obtain ⟨b4, h⟩ := h
      refine AW_iald (pc2 := 59) rfl dX12_light_58 q266 b4 ?_
      refine AW_mmax mmRX12_357 (pc2 := 62) rfl dX12_light_59 (Nat.le_of_ble_eq_true rfl) (by omega) ?_
      obtain ⟨b5, h⟩ := h
      refine AW_iast (pc2 := 63) rfl dX12_light_62 q266 b5 ?_
      refine EW_aload_n (pc2 := 64) rfl dX12_light_63 0 rfl ?_
      refine EW_aload_n (pc2 := 65) rfl dX12_light_64 0 rfl ?_
      refine AW_getr (r := 254) ⟨gfRX12_32, rfl⟩ (pc2 := 68) rfl dX12_light_65 q246 rfl ?_
      refine EW_iload_n (pc2 := 69) rfl dX12_light_68 1 rfl ?_
      obtain ⟨b6, h⟩ := h
      refine AW_iald (pc2 := 70) rfl dX12_light_69 q254 b6 ?_
      refine AW_invV (M' := MX12_mark) [.int ((wr (wr x 246 0 0) 266 (Int32.toNatClampNeg ((24 * v1) + v2)) (imax 400 ((wr x 246 0 0).1 266 (Int32.toNatClampNeg ((24 * v1) + v2))))).1 254 (Int32.toNatClampNeg v1))] (rest := []) mlRX12_341 okX12_mark (pc2 := 73) rfl dX12_light_70 rfl rfl (Nat.le_of_ble_eq_true rfl) (Nat.le_of_ble_eq_true rfl) (d' := 4) (by omega) q246 ⟨by decide, rfl⟩ (EW_mono (fun _ _ hr => ?_) (sX12_mark ((wr (wr x 246 0 0) 266 (Int32.toNatClampNeg ((24 * v1) + v2)) (imax 400 ((wr x 246 0 0).1 266 (Int32.toNatClampNeg ((24 * v1) + v2))))).1 254 (Int32.toNatClampNeg v1))  (wr (wr x 246 0 0) 266 (Int32.toNatClampNeg ((24 * v1) + v2)) (imax 400 ((wr x 246 0 0).1 266 (Int32.toNatClampNeg ((24 * v1) + v2))))) _ _ 0 0 (Nat.le_refl _) h))
      obtain ⟨x7, rfl, rfl, h⟩ := hr
      refine EW_iconst (pc2 := 74) (v := 1) rfl dX12_light_73 (by decide) ?_
      exact AW_zret rfl isB1 dX12_light_74 ⟨_, _, rfl, rfl, h⟩
    · replace h := h.2 q
      refine EW_iconst (pc2 := 34) (v := 0) rfl dX12_light_33 (by decide) ?_
      exact AW_zret rfl isB0 dX12_light_34 ⟨_, _, rfl, rfl, h⟩
abbrev MX12_look_ : ab_M := (yX12_look_, cX12_look_, 2, (some .boolean))
theorem dX12_look__0 : decode cX12_look_ 0 = .ok (.aload_n 0, 1) := by decide +kernel
theorem dX12_look__1 : decode cX12_look_ 1 = .ok (.iconst 0, 1) := by decide +kernel
theorem dX12_look__2 : decode cX12_look_ 2 = .ok (.putfield 297, 3) := by decide +kernel
theorem dX12_look__5 : decode cX12_look_ 5 = .ok (.aload_n 0, 1) := by decide +kernel
theorem dX12_look__6 : decode cX12_look_ 6 = .ok (.iload_n 1, 1) := by decide +kernel
theorem dX12_look__7 : decode cX12_look_ 7 = .ok (.iconst (-1), 1) := by decide +kernel
theorem dX12_look__8 : decode cX12_look_ 8 = .ok (.aload_n 0, 1) := by decide +kernel
theorem dX12_look__9 : decode cX12_look_ 9 = .ok (.getfield 395, 3) := by decide +kernel
theorem dX12_look__12 : decode cX12_look_ 12 = .ok (.invokevirtual 599, 3) := by decide +kernel
theorem dX12_look__15 : decode cX12_look_ 15 = .ok (.ireturn, 1) := by decide +kernel
theorem okX12_look_ : ab_okM MX12_look_ 1 := ⟨by decide, ⟨by decide, by decide⟩, ab_in 2630 (by decide +kernel) (by decide +kernel), ab_in 99 (by decide +kernel) (by decide +kernel), by decide +kernel, by decide⟩
set_option maxHeartbeats 4000000 in
set_option maxRecDepth 100000 in
def wX12_look_ (v1 : Int32) (x : ab_X) (K : Int32 → ab_X → Prop) : Prop := wX12_tell v1 (-1) ((wr x 246 0 0).1 246 1) (wr x 246 0 0) (fun r1 x2 => (isB r1 ∧ K r1 x2))
set_option maxHeartbeats 4000000 in
set_option maxRecDepth 100000 in
theorem sX12_look_ (v1 : Int32)  (x : ab_X) (K : Int32 → ab_X → Prop) (d bc bs : Nat) (hdp : 2 ≤ d) (h : wX12_look_ v1 x K) : EW MX12_look_ 0 [(0, .ref 246), (1, .int v1)] [] (aS x) d bc bs (liI K) := by
  unfold wX12_look_ at h
  refine EW_aload_n (pc2 := 1) rfl dX12_look__0 0 rfl ?_
  refine EW_iconst (pc2 := 2) (v := 0) rfl dX12_look__1 (by decide) ?_
  refine AW_puti ⟨gfRX12_297, rfl, rfl⟩ (pc2 := 5) rfl dX12_look__2 q246 ?_
  refine EW_aload_n (pc2 := 6) rfl dX12_look__5 0 rfl ?_
  refine EW_iload_n (pc2 := 7) rfl dX12_look__6 1 rfl ?_
  refine EW_iconst (pc2 := 8) (v := (-1)) rfl dX12_look__7 (by decide) ?_
  refine EW_aload_n (pc2 := 9) rfl dX12_look__8 0 rfl ?_
  refine AW_geti ⟨gfRX12_395, rfl⟩ (pc2 := 12) rfl dX12_look__9 q246 ?_
  refine AW_invV (M' := MX12_tell) [.int v1, .int (-1), .int ((wr x 246 0 0).1 246 1)] (rest := []) mlRX12_599 okX12_tell (pc2 := 15) rfl dX12_look__12 rfl rfl (Nat.le_of_ble_eq_true rfl) (Nat.le_of_ble_eq_true rfl) (d' := 1) (by omega) q246 ⟨by decide, rfl⟩ (EW_mono (fun _ _ hr => ?_) (sX12_tell v1 (-1) ((wr x 246 0 0).1 246 1)  (wr x 246 0 0) _ _ 0 0 (Nat.le_refl _) h))
  obtain ⟨r1, x2, rfl, rfl, h⟩ := hr
  obtain ⟨z3, h⟩ := h
  exact AW_zret rfl z3 dX12_look__15 ⟨_, _, rfl, rfl, h⟩
abbrev MX12_lose : ab_M := (yX12_lose, cX12_lose, 2, (some .boolean))
theorem dX12_lose_0 : decode cX12_lose 0 = .ok (.aload_n 0, 1) := by decide +kernel
theorem dX12_lose_1 : decode cX12_lose 1 = .ok (.iconst 0, 1) := by decide +kernel
theorem dX12_lose_2 : decode cX12_lose 2 = .ok (.putfield 297, 3) := by decide +kernel
theorem dX12_lose_5 : decode cX12_lose 5 = .ok (.aload_n 0, 1) := by decide +kernel
theorem dX12_lose_6 : decode cX12_lose 6 = .ok (.iload_n 1, 1) := by decide +kernel
theorem dX12_lose_7 : decode cX12_lose 7 = .ok (.invokevirtual 651, 3) := by decide +kernel
theorem dX12_lose_10 : decode cX12_lose 10 = .ok (.ifCond .eq 12, 3) := by decide +kernel
theorem dX12_lose_13 : decode cX12_lose 13 = .ok (.aload_n 0, 1) := by decide +kernel
theorem dX12_lose_14 : decode cX12_lose 14 = .ok (.getfield 281, 3) := by decide +kernel
theorem dX12_lose_17 : decode cX12_lose 17 = .ok (.iload_n 1, 1) := by decide +kernel
theorem dX12_lose_18 : decode cX12_lose 18 = .ok (.baload, 1) := by decide +kernel
theorem dX12_lose_19 : decode cX12_lose 19 = .ok (.ifCond .eq 5, 3) := by decide +kernel
theorem dX12_lose_22 : decode cX12_lose 22 = .ok (.iconst 0, 1) := by decide +kernel
theorem dX12_lose_23 : decode cX12_lose 23 = .ok (.ireturn, 1) := by decide +kernel
theorem dX12_lose_24 : decode cX12_lose 24 = .ok (.aload_n 0, 1) := by decide +kernel
theorem dX12_lose_25 : decode cX12_lose 25 = .ok (.getfield 281, 3) := by decide +kernel
theorem dX12_lose_28 : decode cX12_lose 28 = .ok (.iload_n 1, 1) := by decide +kernel
theorem dX12_lose_29 : decode cX12_lose 29 = .ok (.iconst 1, 1) := by decide +kernel
theorem dX12_lose_30 : decode cX12_lose 30 = .ok (.bastore, 1) := by decide +kernel
theorem dX12_lose_31 : decode cX12_lose 31 = .ok (.iconst 1, 1) := by decide +kernel
theorem dX12_lose_32 : decode cX12_lose 32 = .ok (.ireturn, 1) := by decide +kernel
theorem okX12_lose : ab_okM MX12_lose 1 := ⟨by decide, ⟨by decide, by decide⟩, ab_in 2713 (by decide +kernel) (by decide +kernel), ab_in 99 (by decide +kernel) (by decide +kernel), by decide +kernel, by decide⟩
set_option maxHeartbeats 4000000 in
set_option maxRecDepth 100000 in
def wX12_lose (v1 : Int32) (x : ab_X) (K : Int32 → ab_X → Prop) : Prop := wX12_isRow v1 (wr x 246 0 0) (fun r1 => ((r1 = 0 → K 0 (wr x 246 0 0)) ∧ (¬ r1 = 0 → (vp_in v1 6 ∧ ((((wr x 246 0 0).1 332 (Int32.toNatClampNeg v1)) = 0 → (vp_in v1 6 ∧ K 1 (wr (wr x 246 0 0) 332 (Int32.toNatClampNeg v1) 1))) ∧ (¬ ((wr x 246 0 0).1 332 (Int32.toNatClampNeg v1)) = 0 → K 0 (wr x 246 0 0)))))))
set_option maxHeartbeats 4000000 in
set_option maxRecDepth 100000 in
theorem sX12_lose (v1 : Int32)  (x : ab_X) (K : Int32 → ab_X → Prop) (d bc bs : Nat) (hdp : 1 ≤ d) (h : wX12_lose v1 x K) : EW MX12_lose 0 [(0, .ref 246), (1, .int v1)] [] (aS x) d bc bs (liI K) := by
  unfold wX12_lose at h
  refine EW_aload_n (pc2 := 1) rfl dX12_lose_0 0 rfl ?_
  refine EW_iconst (pc2 := 2) (v := 0) rfl dX12_lose_1 (by decide) ?_
  refine AW_puti ⟨gfRX12_297, rfl, rfl⟩ (pc2 := 5) rfl dX12_lose_2 q246 ?_
  refine EW_aload_n (pc2 := 6) rfl dX12_lose_5 0 rfl ?_
  refine EW_iload_n (pc2 := 7) rfl dX12_lose_6 1 rfl ?_
  refine AW_invV (M' := MX12_isRow) [.int v1] (rest := []) mlRX12_651 okX12_isRow (pc2 := 10) rfl dX12_lose_7 rfl rfl (Nat.le_of_ble_eq_true rfl) (Nat.le_of_ble_eq_true rfl) (d' := 0) (by omega) q246 ⟨by decide, rfl⟩ (EW_mono (fun _ _ hr => ?_) (sX12_isRow v1  (wr x 246 0 0) _ _ 0 0 (Nat.le_refl _) h))
  obtain ⟨r1, rfl, rfl, h⟩ := hr
  refine EW_if_eq (tgt := 22) (pc2 := 13) rfl dX12_lose_10 (by decide) (fun q => ?_) (fun q => ?_)
  · replace h := h.1 q
    refine EW_iconst (pc2 := 23) (v := 0) rfl dX12_lose_22 (by decide) ?_
    exact AW_zret rfl isB0 dX12_lose_23 ⟨_, _, rfl, rfl, h⟩
  · replace h := h.2 q
    refine EW_aload_n (pc2 := 14) rfl dX12_lose_13 0 rfl ?_
    refine AW_getr (r := 332) ⟨gfRX12_281, rfl⟩ (pc2 := 17) rfl dX12_lose_14 q246 rfl ?_
    refine EW_iload_n (pc2 := 18) rfl dX12_lose_17 1 rfl ?_
    obtain ⟨b2, h⟩ := h
    refine AW_zald (pc2 := 19) rfl dX12_lose_18 q332 b2 ?_
    refine EW_if_eq (tgt := 24) (pc2 := 22) rfl dX12_lose_19 (by decide) (fun q => ?_) (fun q => ?_)
    · replace h := h.1 q
      refine EW_aload_n (pc2 := 25) rfl dX12_lose_24 0 rfl ?_
      refine AW_getr (r := 332) ⟨gfRX12_281, rfl⟩ (pc2 := 28) rfl dX12_lose_25 q246 rfl ?_
      refine EW_iload_n (pc2 := 29) rfl dX12_lose_28 1 rfl ?_
      refine EW_iconst (pc2 := 30) (v := 1) rfl dX12_lose_29 (by decide) ?_
      obtain ⟨b3, h⟩ := h
      refine AW_zast (pc2 := 31) rfl dX12_lose_30 q332 b3 isB1 ?_
      refine EW_iconst (pc2 := 32) (v := 1) rfl dX12_lose_31 (by decide) ?_
      exact AW_zret rfl isB1 dX12_lose_32 ⟨_, _, rfl, rfl, h⟩
    · replace h := h.2 q
      refine EW_iconst (pc2 := 23) (v := 0) rfl dX12_lose_22 (by decide) ?_
      exact AW_zret rfl isB0 dX12_lose_23 ⟨_, _, rfl, rfl, h⟩
