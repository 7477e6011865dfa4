theorem mlRX12_341 : Cond.methodLink RX12 341 yX12_mark ∈ ab_G ∧ Cond.instanceMethod yX12_mark ∈ ab_G ∧ Cond.selects RX12 yX12_mark yX12_mark ∈ ab_G := ⟨ab_in 2280 (by decide +kernel) (by decide +kernel), ab_in 2282 (by decide +kernel) (by decide +kernel), ab_in 19 (by decide +kernel) (by decide +kernel)⟩
theorem mlRX12_337 : Cond.methodLink RX12 337 yX12_isFloor ∈ ab_G ∧ Cond.instanceMethod yX12_isFloor ∈ ab_G ∧ Cond.selects RX12 yX12_isFloor yX12_isFloor ∈ ab_G := ⟨ab_in 2276 (by decide +kernel) (by decide +kernel), ab_in 2278 (by decide +kernel) (by decide +kernel), ab_in 18 (by decide +kernel) (by decide +kernel)⟩
abbrev MX12_floor : ab_M := (yX12_floor, cX12_floor, 6, (some .boolean))
theorem dX12_floor_0 : decode cX12_floor 0 = .ok (.aload_n 0, 1) := by decide +kernel
theorem dX12_floor_1 : decode cX12_floor 1 = .ok (.iconst 0, 1) := by decide +kernel
theorem dX12_floor_2 : decode cX12_floor 2 = .ok (.putfield 297, 3) := by decide +kernel
theorem dX12_floor_5 : decode cX12_floor 5 = .ok (.aload_n 0, 1) := by decide +kernel
theorem dX12_floor_6 : decode cX12_floor 6 = .ok (.iload_n 1, 1) := by decide +kernel
theorem dX12_floor_7 : decode cX12_floor 7 = .ok (.iload_n 2, 1) := by decide +kernel
theorem dX12_floor_8 : decode cX12_floor 8 = .ok (.invokevirtual 337, 3) := by decide +kernel
theorem dX12_floor_11 : decode cX12_floor 11 = .ok (.ifCond .eq 39, 3) := by decide +kernel
theorem dX12_floor_14 : decode cX12_floor 14 = .ok (.iload_n 3, 1) := by decide +kernel
theorem dX12_floor_15 : decode cX12_floor 15 = .ok (.iconst 0, 1) := by decide +kernel
theorem dX12_floor_16 : decode cX12_floor 16 = .ok (.sipush 500, 3) := by decide +kernel
theorem dX12_floor_19 : decode cX12_floor 19 = .ok (.invokestatic 307, 3) := by decide +kernel
theorem dX12_floor_22 : decode cX12_floor 22 = .ok (.ifCond .eq 28, 3) := by decide +kernel
theorem dX12_floor_25 : decode cX12_floor 25 = .ok (.iload 4, 2) := by decide +kernel
theorem dX12_floor_27 : decode cX12_floor 27 = .ok (.iconst 0, 1) := by decide +kernel
theorem dX12_floor_28 : decode cX12_floor 28 = .ok (.bipush 20, 2) := by decide +kernel
theorem dX12_floor_30 : decode cX12_floor 30 = .ok (.invokestatic 307, 3) := by decide +kernel
theorem dX12_floor_33 : decode cX12_floor 33 = .ok (.ifCond .eq 17, 3) := by decide +kernel
theorem dX12_floor_36 : decode cX12_floor 36 = .ok (.aload_n 0, 1) := by decide +kernel
theorem dX12_floor_37 : decode cX12_floor 37 = .ok (.getfield 92, 3) := by decide +kernel
theorem dX12_floor_40 : decode cX12_floor 40 = .ok (.bipush 6, 2) := by decide +kernel
theorem dX12_floor_42 : decode cX12_floor 42 = .ok (.iload_n 1, 1) := by decide +kernel
theorem dX12_floor_43 : decode cX12_floor 43 = .ok (.imul, 1) := by decide +kernel
theorem dX12_floor_44 : decode cX12_floor 44 = .ok (.iload_n 2, 1) := by decide +kernel
theorem dX12_floor_45 : decode cX12_floor 45 = .ok (.iadd, 1) := by decide +kernel
theorem dX12_floor_46 : decode cX12_floor 46 = .ok (.baload, 1) := by decide +kernel
theorem dX12_floor_47 : decode cX12_floor 47 = .ok (.ifCond .eq 5, 3) := by decide +kernel
theorem dX12_floor_50 : decode cX12_floor 50 = .ok (.iconst 0, 1) := by decide +kernel
theorem dX12_floor_51 : decode cX12_floor 51 = .ok (.ireturn, 1) := by decide +kernel
theorem dX12_floor_52 : decode cX12_floor 52 = .ok (.iconst 0, 1) := by decide +kernel
theorem dX12_floor_53 : decode cX12_floor 53 = .ok (.istore 5, 2) := by decide +kernel
theorem dX12_floor_55 : decode cX12_floor 55 = .ok (.iload 5, 2) := by decide +kernel
theorem dX12_floor_57 : decode cX12_floor 57 = .ok (.aload_n 0, 1) := by decide +kernel
theorem dX12_floor_58 : decode cX12_floor 58 = .ok (.getfield 41, 3) := by decide +kernel
theorem dX12_floor_61 : decode cX12_floor 61 = .ok (.iload_n 1, 1) := by decide +kernel
theorem dX12_floor_62 : decode cX12_floor 62 = .ok (.iaload, 1) := by decide +kernel
theorem dX12_floor_63 : decode cX12_floor 63 = .ok (.if_icmp .ge 31, 3) := by decide +kernel
theorem dX12_floor_66 : decode cX12_floor 66 = .ok (.aload_n 0, 1) := by decide +kernel
theorem dX12_floor_67 : decode cX12_floor 67 = .ok (.getfield 71, 3) := by decide +kernel
theorem dX12_floor_70 : decode cX12_floor 70 = .ok (.bipush 24, 2) := by decide +kernel
theorem dX12_floor_72 : decode cX12_floor 72 = .ok (.iload_n 1, 1) := by decide +kernel
theorem dX12_floor_73 : decode cX12_floor 73 = .ok (.imul, 1) := by decide +kernel
theorem dX12_floor_74 : decode cX12_floor 74 = .ok (.iload_n 2, 1) := by decide +kernel
theorem dX12_floor_75 : decode cX12_floor 75 = .ok (.aload_n 0, 1) := by decide +kernel
theorem dX12_floor_76 : decode cX12_floor 76 = .ok (.getfield 41, 3) := by decide +kernel
theorem dX12_floor_79 : decode cX12_floor 79 = .ok (.iload_n 1, 1) := by decide +kernel
theorem dX12_floor_80 : decode cX12_floor 80 = .ok (.iaload, 1) := by decide +kernel
theorem dX12_floor_81 : decode cX12_floor 81 = .ok (.imul, 1) := by decide +kernel
theorem dX12_floor_82 : decode cX12_floor 82 = .ok (.iadd, 1) := by decide +kernel
theorem dX12_floor_83 : decode cX12_floor 83 = .ok (.iload 5, 2) := by decide +kernel
theorem dX12_floor_85 : decode cX12_floor 85 = .ok (.iadd, 1) := by decide +kernel
theorem dX12_floor_86 : decode cX12_floor 86 = .ok (.iload_n 3, 1) := by decide +kernel
theorem dX12_floor_87 : decode cX12_floor 87 = .ok (.iastore, 1) := by decide +kernel
theorem dX12_floor_88 : decode cX12_floor 88 = .ok (.iinc 5 1, 3) := by decide +kernel
theorem dX12_floor_91 : decode cX12_floor 91 = .ok (.goto (-36), 3) := by decide +kernel
theorem dX12_floor_94 : decode cX12_floor 94 = .ok (.aload_n 0, 1) := by decide +kernel
theorem dX12_floor_95 : decode cX12_floor 95 = .ok (.getfield 89, 3) := by decide +kernel
theorem dX12_floor_98 : decode cX12_floor 98 = .ok (.bipush 6, 2) := by decide +kernel
theorem dX12_floor_100 : decode cX12_floor 100 = .ok (.iload_n 1, 1) := by decide +kernel
theorem dX12_floor_101 : decode cX12_floor 101 = .ok (.imul, 1) := by decide +kernel
theorem dX12_floor_102 : decode cX12_floor 102 = .ok (.iload_n 2, 1) := by decide +kernel
theorem dX12_floor_103 : decode cX12_floor 103 = .ok (.iadd, 1) := by decide +kernel
theorem dX12_floor_104 : decode cX12_floor 104 = .ok (.iload_n 3, 1) := by decide +kernel
theorem dX12_floor_105 : decode cX12_floor 105 = .ok (.iastore, 1) := by decide +kernel
theorem dX12_floor_106 : decode cX12_floor 106 = .ok (.aload_n 0, 1) := by decide +kernel
theorem dX12_floor_107 : decode cX12_floor 107 = .ok (.getfield 86, 3) := by decide +kernel
theorem dX12_floor_110 : decode cX12_floor 110 = .ok (.bipush 6, 2) := by decide +kernel
theorem dX12_floor_112 : decode cX12_floor 112 = .ok (.iload_n 1, 1) := by decide +kernel
theorem dX12_floor_113 : decode cX12_floor 113 = .ok (.imul, 1) := by decide +kernel
theorem dX12_floor_114 : decode cX12_floor 114 = .ok (.iload_n 2, 1) := by decide +kernel
theorem dX12_floor_115 : decode cX12_floor 115 = .ok (.iadd, 1) := by decide +kernel
theorem dX12_floor_116 : decode cX12_floor 116 = .ok (.iload 4, 2) := by decide +kernel
theorem dX12_floor_118 : decode cX12_floor 118 = .ok (.iastore, 1) := by decide +kernel
theorem dX12_floor_119 : decode cX12_floor 119 = .ok (.aload_n 0, 1) := by decide +kernel
theorem dX12_floor_120 : decode cX12_floor 120 = .ok (.aload_n 0, 1) := by decide +kernel
theorem dX12_floor_121 : decode cX12_floor 121 = .ok (.getfield 32, 3) := by decide +kernel
theorem dX12_floor_124 : decode cX12_floor 124 = .ok (.iload_n 1, 1) := by decide +kernel
theorem dX12_floor_125 : decode cX12_floor 125 = .ok (.iaload, 1) := by decide +kernel
theorem dX12_floor_126 : decode cX12_floor 126 = .ok (.invokevirtual 341, 3) := by decide +kernel
theorem dX12_floor_129 : decode cX12_floor 129 = .ok (.iconst 1, 1) := by decide +kernel
theorem dX12_floor_130 : decode cX12_floor 130 = .ok (.ireturn, 1) := by decide +kernel
theorem okX12_floor : ab_okM MX12_floor 4 := ⟨by decide, ⟨by decide, by decide⟩, ab_in 2275 (by decide +kernel) (by decide +kernel), ab_in 99 (by decide +kernel) (by decide +kernel), by decide +kernel, by decide⟩
set_option maxHeartbeats 4000000 in
set_option maxRecDepth 100000 in
theorem sX12_floor_55 (v1 : Int32) (v2 : Int32) (v3 : Int32) (v4 : Int32) (v5 : Int32)  (x : ab_X) (K : Int32 → ab_X → Prop)  (d bc bs : Nat) (hdp : 5 ≤ d)  (h : Lp2 (lX12_floor_55 v1 v2 v3 v4 K ) v5 x) : EW MX12_floor 55 [(0, .ref 246), (1, .int v1), (2, .int v2), (3, .int v3), (4, .int v4), (5, .int v5)] [] (aS x) d bc bs (liI K) := by
  refine Lp2.use (P := fun v5 x => EW MX12_floor 55 [(0, .ref 246), (1, .int v1), (2, .int v2), (3, .int v3), (4, .int v4), (5, .int v5)] [] (aS x) d bc bs (liI K)) (fun L55 v5 x hL55 h => ?_) v5 x h
  unfold lX12_floor_55 at h
  refine EW_iload (pc2 := 57) rfl dX12_floor_55 5 rfl ?_
  refine EW_aload_n (pc2 := 58) rfl dX12_floor_57 0 rfl ?_
  refine AW_getr (r := 257) ⟨gfRX12_41, rfl⟩ (pc2 := 61) rfl dX12_floor_58 q246 rfl ?_
  refine EW_iload_n (pc2 := 62) rfl dX12_floor_61 1 rfl ?_
  obtain ⟨b5, h⟩ := h
  refine AW_iald (pc2 := 63) rfl dX12_floor_62 q257 b5 ?_
  refine EW_icmp_ge (tgt := 94) (pc2 := 66) rfl dX12_floor_63 (by decide) (fun q => ?_) (fun q => ?_)
  · replace h := h.1 q
    refine EW_aload_n (pc2 := 95) rfl dX12_floor_94 0 rfl ?_
    refine AW_getr (r := 273) ⟨gfRX12_89, rfl⟩ (pc2 := 98) rfl dX12_floor_95 q246 rfl ?_
    refine EW_bipush (pc2 := 100) (v := 6) rfl dX12_floor_98 (by decide) ?_
    refine EW_iload_n (pc2 := 101) rfl dX12_floor_100 1 rfl ?_
    refine EW_imul (pc2 := 102) rfl dX12_floor_101 ?_
    refine EW_iload_n (pc2 := 103) rfl dX12_floor_102 2 rfl ?_
    refine EW_iadd (pc2 := 104) rfl dX12_floor_103 ?_
    refine EW_iload_n (pc2 := 105) rfl dX12_floor_104 3 rfl ?_
    obtain ⟨b6, h⟩ := h
    refine AW_iast (pc2 := 106) rfl dX12_floor_105 q273 b6 ?_
    refine EW_aload_n (pc2 := 107) rfl dX12_floor_106 0 rfl ?_
    refine AW_getr (r := 272) ⟨gfRX12_86, rfl⟩ (pc2 := 110) rfl dX12_floor_107 q246 rfl ?_
    refine EW_bipush (pc2 := 112) (v := 6) rfl dX12_floor_110 (by decide) ?_
    refine EW_iload_n (pc2 := 113) rfl dX12_floor_112 1 rfl ?_
    refine EW_imul (pc2 := 114) rfl dX12_floor_113 ?_
    refine EW_iload_n (pc2 := 115) rfl dX12_floor_114 2 rfl ?_
    refine EW_iadd (pc2 := 116) rfl dX12_floor_115 ?_
    refine EW_iload (pc2 := 118) rfl dX12_floor_116 4 rfl ?_
    obtain ⟨b7, h⟩ := h
    refine AW_iast (pc2 := 119) rfl dX12_floor_118 q272 b7 ?_
    refine EW_aload_n (pc2 := 120) rfl dX12_floor_119 0 rfl ?_
    refine EW_aload_n (pc2 := 121) rfl dX12_floor_120 0 rfl ?_
    refine AW_getr (r := 254) ⟨gfRX12_32, rfl⟩ (pc2 := 124) rfl dX12_floor_121 q246 rfl ?_
    refine EW_iload_n (pc2 := 125) rfl dX12_floor_124 1 rfl ?_
    obtain ⟨b8, h⟩ := h
    refine AW_iald (pc2 := 126) rfl dX12_floor_125 q254 b8 ?_
    refine AW_invV (M' := MX12_mark) [.int ((wr (wr x 273 (Int32.toNatClampNeg ((6 * v1) + v2)) v3) 272 (Int32.toNatClampNeg ((6 * v1) + v2)) v4).1 254 (Int32.toNatClampNeg v1))] (rest := []) mlRX12_341 okX12_mark (pc2 := 129) rfl dX12_floor_126 rfl rfl (Nat.le_of_ble_eq_true rfl) (Nat.le_of_ble_eq_true rfl) (d' := 4) (by omega) q246 ⟨by decide, rfl⟩ (EW_mono (fun _ _ hr => ?_) (sX12_mark ((wr (wr x 273 (Int32.toNatClampNeg ((6 * v1) + v2)) v3) 272 (Int32.toNatClampNeg ((6 * v1) + v2)) v4).1 254 (Int32.toNatClampNeg v1))  (wr (wr x 273 (Int32.toNatClampNeg ((6 * v1) + v2)) v3) 272 (Int32.toNatClampNeg ((6 * v1) + v2)) v4) _ _ 0 0 (Nat.le_refl _) h))
    obtain ⟨x9, rfl, rfl, h⟩ := hr
    refine EW_iconst (pc2 := 130) (v := 1) rfl dX12_floor_129 (by decide) ?_
    exact AW_zret rfl isB1 dX12_floor_130 ⟨_, _, rfl, rfl, h⟩
  · replace h := h.2 q
    refine EW_aload_n (pc2 := 67) rfl dX12_floor_66 0 rfl ?_
    refine AW_getr (r := 267) ⟨gfRX12_71, rfl⟩ (pc2 := 70) rfl dX12_floor_67 q246 rfl ?_
    refine EW_bipush (pc2 := 72) (v := 24) rfl dX12_floor_70 (by decide) ?_
    refine EW_iload_n (pc2 := 73) rfl dX12_floor_72 1 rfl ?_
    refine EW_imul (pc2 := 74) rfl dX12_floor_73 ?_
    refine EW_iload_n (pc2 := 75) rfl dX12_floor_74 2 rfl ?_
    refine EW_aload_n (pc2 := 76) rfl dX12_floor_75 0 rfl ?_
    refine AW_getr (r := 257) ⟨gfRX12_41, rfl⟩ (pc2 := 79) rfl dX12_floor_76 q246 rfl ?_
    refine EW_iload_n (pc2 := 80) rfl dX12_floor_79 1 rfl ?_
    obtain ⟨b10, h⟩ := h
    refine AW_iald (pc2 := 81) rfl dX12_floor_80 q257 b10 ?_
    refine EW_imul (pc2 := 82) rfl dX12_floor_81 ?_
    refine EW_iadd (pc2 := 83) rfl dX12_floor_82 ?_
    refine EW_iload (pc2 := 85) rfl dX12_floor_83 5 rfl ?_
    refine EW_iadd (pc2 := 86) rfl dX12_floor_85 ?_
    refine EW_iload_n (pc2 := 87) rfl dX12_floor_86 3 rfl ?_
    obtain ⟨b11, h⟩ := h
    refine AW_iast (pc2 := 88) rfl dX12_floor_87 q267 b11 ?_
    refine EW_iinc (v5 + 1) (pc2 := 91) rfl dX12_floor_88 5 rfl rfl (by decide) [1, 2, 3, 4, 5, 0] [(0, .ref 246), (1, .int v1), (2, .int v2), (3, .int v3), (4, .int v4), (5, .int (v5 + 1))] rfl ?_
    refine EW_goto (tgt := 55) dX12_floor_91 (by decide) ?_
    exact hL55 (v5 + 1) (wr x 267 (Int32.toNatClampNeg (((24 * v1) + (v2 * (x.1 257 (Int32.toNatClampNeg v1)))) + v5)) v3) h
set_option maxHeartbeats 4000000 in
set_option maxRecDepth 100000 in
theorem sX12_floor (v1 : Int32) (v2 : Int32) (v3 : Int32) (v4 : Int32)  (x : ab_X) (K : Int32 → ab_X → Prop) (d bc bs : Nat) (hdp : 5 ≤ d) (h : wX12_floor v1 v2 v3 v4 x K) : EW MX12_floor 0 [(0, .ref 246), (1, .int v1), (2, .int v2), (3, .int v3), (4, .int v4)] [] (aS x) d bc bs (liI K) := by
  unfold wX12_floor at h
  refine EW_aload_n (pc2 := 1) rfl dX12_floor_0 0 rfl ?_
  refine EW_iconst (pc2 := 2) (v := 0) rfl dX12_floor_1 (by decide) ?_
  refine AW_puti ⟨gfRX12_297, rfl, rfl⟩ (pc2 := 5) rfl dX12_floor_2 q246 ?_
  refine EW_aload_n (pc2 := 6) rfl dX12_floor_5 0 rfl ?_
  refine EW_iload_n (pc2 := 7) rfl dX12_floor_6 1 rfl ?_
  refine EW_iload_n (pc2 := 8) rfl dX12_floor_7 2 rfl ?_
  refine AW_invV (M' := MX12_isFloor) [.int v1, .int v2] (rest := []) mlRX12_337 okX12_isFloor (pc2 := 11) rfl dX12_floor_8 rfl rfl (Nat.le_of_ble_eq_true rfl) (Nat.le_of_ble_eq_true rfl) (d' := 1) (by omega) q246 ⟨by decide, rfl⟩ (EW_mono (fun _ _ hr => ?_) (sX12_isFloor v1 v2  (wr x 246 0 0) _ _ 0 0 (Nat.le_refl _) h))
  obtain ⟨r1, rfl, rfl, h⟩ := hr
  refine EW_if_eq (tgt := 50) (pc2 := 14) rfl dX12_floor_11 (by decide) (fun q => ?_) (fun q => ?_)
  · replace h := h.1 q
    refine EW_iconst (pc2 := 51) (v := 0) rfl dX12_floor_50 (by decide) ?_
    exact AW_zret rfl isB0 dX12_floor_51 ⟨_, _, rfl, rfl, h⟩
  · replace h := h.2 q
    refine EW_iload_n (pc2 := 15) rfl dX12_floor_14 3 rfl ?_
    refine EW_iconst (pc2 := 16) (v := 0) rfl dX12_floor_15 (by decide) ?_
    refine EW_sipush (pc2 := 19) (v := 500) rfl dX12_floor_16 (by decide) ?_
    refine AW_invS (M' := MX12_isIn) [.int v3, .int 0, .int 500] (rest := []) mlRX12_307 okX12_isIn (pc2 := 22) rfl dX12_floor_19 rfl rfl (Nat.le_of_ble_eq_true rfl) (Nat.le_of_ble_eq_true rfl) (d' := 0) (by omega) (EW_mono (fun _ _ hr => ?_) (sX12_isIn v3 0 500  (wr x 246 0 0) _ _ 0 0 (Nat.le_refl _) h))
    obtain ⟨r2, rfl, rfl, h⟩ := hr
    refine EW_if_eq (tgt := 50) (pc2 := 25) rfl dX12_floor_22 (by decide) (fun q => ?_) (fun q => ?_)
    · replace h := h.1 q
      refine EW_iconst (pc2 := 51) (v := 0) rfl dX12_floor_50 (by decide) ?_
      exact AW_zret rfl isB0 dX12_floor_51 ⟨_, _, rfl, rfl, h⟩
    · replace h := h.2 q
      refine EW_iload (pc2 := 27) rfl dX12_floor_25 4 rfl ?_
      refine EW_iconst (pc2 := 28) (v := 0) rfl dX12_floor_27 (by decide) ?_
      refine EW_bipush (pc2 := 30) (v := 20) rfl dX12_floor_28 (by decide) ?_
      refine AW_invS (M' := MX12_isIn) [.int v4, .int 0, .int 20] (rest := []) mlRX12_307 okX12_isIn (pc2 := 33) rfl dX12_floor_30 rfl rfl (Nat.le_of_ble_eq_true rfl) (Nat.le_of_ble_eq_true rfl) (d' := 0) (by omega) (EW_mono (fun _ _ hr => ?_) (sX12_isIn v4 0 20  (wr x 246 0 0) _ _ 0 0 (Nat.le_refl _) h))
      obtain ⟨r3, rfl, rfl, h⟩ := hr
      refine EW_if_eq (tgt := 50) (pc2 := 36) rfl dX12_floor_33 (by decide) (fun q => ?_) (fun q => ?_)
      · replace h := h.1 q
        refine EW_iconst (pc2 := 51) (v := 0) rfl dX12_floor_50 (by decide) ?_
        exact AW_zret rfl isB0 dX12_floor_51 ⟨_, _, rfl, rfl, h⟩
      · replace h := h.2 q
        refine EW_aload_n (pc2 := 37) rfl dX12_floor_36 0 rfl ?_
        refine AW_getr (r := 274) ⟨gfRX12_92, rfl⟩ (pc2 := 40) rfl dX12_floor_37 q246 rfl ?_
        refine EW_bipush (pc2 := 42) (v := 6) rfl dX12_floor_40 (by decide) ?_
        refine EW_iload_n (pc2 := 43) rfl dX12_floor_42 1 rfl ?_
        refine EW_imul (pc2 := 44) rfl dX12_floor_43 ?_
        refine EW_iload_n (pc2 := 45) rfl dX12_floor_44 2 rfl ?_
        refine EW_iadd (pc2 := 46) rfl dX12_floor_45 ?_
        obtain ⟨b4, h⟩ := h
        refine AW_zald (pc2 := 47) rfl dX12_floor_46 q274 b4 ?_
        refine EW_if_eq (tgt := 52) (pc2 := 50) rfl dX12_floor_47 (by decide) (fun q => ?_) (fun q => ?_)
        · replace h := h.1 q
          refine EW_iconst (pc2 := 53) (v := 0) rfl dX12_floor_52 (by decide) ?_
          refine EW_istore (pc2 := 55) rfl dX12_floor_53 (by decide) [1, 2, 3, 4, 5, 0] [(0, .ref 246), (1, .int v1), (2, .int v2), (3, .int v3), (4, .int v4), (5, .int 0)] rfl ?_
          exact sX12_floor_55 v1 v2 v3 v4 0 (wr x 246 0 0) K d bc bs hdp h
        · replace h := h.2 q
          refine EW_iconst (pc2 := 51) (v := 0) rfl dX12_floor_50 (by decide) ?_
          exact AW_zret rfl isB0 dX12_floor_51 ⟨_, _, rfl, rfl, h⟩
abbrev MX12_floored : ab_M := (yX12_floored, cX12_floored, 5, (some .int))
theorem dX12_floored_0 : decode cX12_floored 0 = .ok (.aload_n 0, 1) := by decide +kernel
theorem dX12_floored_1 : decode cX12_floored 1 = .ok (.iconst 0, 1) := by decide +kernel
theorem dX12_floored_2 : decode cX12_floored 2 = .ok (.putfield 297, 3) := by decide +kernel
theorem dX12_floored_5 : decode cX12_floored 5 = .ok (.aload_n 0, 1) := by decide +kernel
theorem dX12_floored_6 : decode cX12_floored 6 = .ok (.iload_n 1, 1) := by decide +kernel
theorem dX12_floored_7 : decode cX12_floored 7 = .ok (.iload_n 2, 1) := by decide +kernel
theorem dX12_floored_8 : decode cX12_floored 8 = .ok (.invokevirtual 337, 3) := by decide +kernel
theorem dX12_floored_11 : decode cX12_floored 11 = .ok (.ifCond .ne 5, 3) := by decide +kernel
theorem dX12_floored_14 : decode cX12_floored 14 = .ok (.iconst (-1), 1) := by decide +kernel
theorem dX12_floored_15 : decode cX12_floored 15 = .ok (.ireturn, 1) := by decide +kernel
theorem dX12_floored_16 : decode cX12_floored 16 = .ok (.bipush 6, 2) := by decide +kernel
theorem dX12_floored_18 : decode cX12_floored 18 = .ok (.iload_n 1, 1) := by decide +kernel
theorem dX12_floored_19 : decode cX12_floored 19 = .ok (.imul, 1) := by decide +kernel
theorem dX12_floored_20 : decode cX12_floored 20 = .ok (.iload_n 2, 1) := by decide +kernel
theorem dX12_floored_21 : decode cX12_floored 21 = .ok (.iadd, 1) := by decide +kernel
theorem dX12_floored_22 : decode cX12_floored 22 = .ok (.istore 4, 2) := by decide +kernel
theorem dX12_floored_24 : decode cX12_floored 24 = .ok (.iload_n 3, 1) := by decide +kernel
theorem dX12_floored_25 : decode cX12_floored 25 = .ok (.tableswitch 70 0 3 #[31, 39, 55, 63], 31) := by decide +kernel
theorem dX12_floored_56 : decode cX12_floored 56 = .ok (.aload_n 0, 1) := by decide +kernel
theorem dX12_floored_57 : decode cX12_floored 57 = .ok (.getfield 83, 3) := by decide +kernel
theorem dX12_floored_60 : decode cX12_floored 60 = .ok (.iload 4, 2) := by decide +kernel
theorem dX12_floored_62 : decode cX12_floored 62 = .ok (.iaload, 1) := by decide +kernel
theorem dX12_floored_63 : decode cX12_floored 63 = .ok (.ireturn, 1) := by decide +kernel
theorem dX12_floored_64 : decode cX12_floored 64 = .ok (.aload_n 0, 1) := by decide +kernel
theorem dX12_floored_65 : decode cX12_floored 65 = .ok (.getfield 92, 3) := by decide +kernel
theorem dX12_floored_68 : decode cX12_floored 68 = .ok (.iload 4, 2) := by decide +kernel
theorem dX12_floored_70 : decode cX12_floored 70 = .ok (.baload, 1) := by decide +kernel
theorem dX12_floored_71 : decode cX12_floored 71 = .ok (.ifCond .eq 7, 3) := by decide +kernel
theorem dX12_floored_74 : decode cX12_floored 74 = .ok (.iconst 1, 1) := by decide +kernel
theorem dX12_floored_75 : decode cX12_floored 75 = .ok (.goto 4, 3) := by decide +kernel
theorem dX12_floored_78 : decode cX12_floored 78 = .ok (.iconst 0, 1) := by decide +kernel
theorem dX12_floored_79 : decode cX12_floored 79 = .ok (.ireturn, 1) := by decide +kernel
theorem dX12_floored_80 : decode cX12_floored 80 = .ok (.aload_n 0, 1) := by decide +kernel
theorem dX12_floored_81 : decode cX12_floored 81 = .ok (.getfield 86, 3) := by decide +kernel
theorem dX12_floored_84 : decode cX12_floored 84 = .ok (.iload 4, 2) := by decide +kernel
theorem dX12_floored_86 : decode cX12_floored 86 = .ok (.iaload, 1) := by decide +kernel
theorem dX12_floored_87 : decode cX12_floored 87 = .ok (.ireturn, 1) := by decide +kernel
theorem dX12_floored_88 : decode cX12_floored 88 = .ok (.aload_n 0, 1) := by decide +kernel
theorem dX12_floored_89 : decode cX12_floored 89 = .ok (.iload_n 1, 1) := by decide +kernel
theorem dX12_floored_90 : decode cX12_floored 90 = .ok (.iload_n 2, 1) := by decide +kernel
theorem dX12_floored_91 : decode cX12_floored 91 = .ok (.invokevirtual 360, 3) := by decide +kernel
theorem dX12_floored_94 : decode cX12_floored 94 = .ok (.ireturn, 1) := by decide +kernel
theorem dX12_floored_95 : decode cX12_floored 95 = .ok (.iconst (-1), 1) := by decide +kernel
theorem dX12_floored_96 : decode cX12_floored 96 = .ok (.ireturn, 1) := by decide +kernel
theorem okX12_floored : ab_okM MX12_floored 3 := ⟨by decide, ⟨by decide, by decide⟩, ab_in 2320 (by decide +kernel) (by decide +kernel), ab_in 99 (by decide +kernel) (by decide +kernel), by decide +kernel, by decide⟩
set_option maxHeartbeats 4000000 in
set_option maxRecDepth 100000 in
theorem sX12_floored (v1 : Int32) (v2 : Int32) (v3 : Int32)  (x : ab_X) (K : Int32 → ab_X → Prop) (d bc bs : Nat) (hdp : 2 ≤ d) (h : wX12_floored v1 v2 v3 x K) : EW MX12_floored 0 [(0, .ref 246), (1, .int v1), (2, .int v2), (3, .int v3)] [] (aS x) d bc bs (liI K) := by
  unfold wX12_floored at h
  refine EW_aload_n (pc2 := 1) rfl dX12_floored_0 0 rfl ?_
  refine EW_iconst (pc2 := 2) (v := 0) rfl dX12_floored_1 (by decide) ?_
  refine AW_puti ⟨gfRX12_297, rfl, rfl⟩ (pc2 := 5) rfl dX12_floored_2 q246 ?_
  refine EW_aload_n (pc2 := 6) rfl dX12_floored_5 0 rfl ?_
  refine EW_iload_n (pc2 := 7) rfl dX12_floored_6 1 rfl ?_
  refine EW_iload_n (pc2 := 8) rfl dX12_floored_7 2 rfl ?_
  refine AW_invV (M' := MX12_isFloor) [.int v1, .int v2] (rest := []) mlRX12_337 okX12_isFloor (pc2 := 11) rfl dX12_floored_8 rfl rfl (Nat.le_of_ble_eq_true rfl) (Nat.le_of_ble_eq_true rfl) (d' := 1) (by omega) q246 ⟨by decide, rfl⟩ (EW_mono (fun _ _ hr => ?_) (sX12_isFloor v1 v2  (wr x 246 0 0) _ _ 0 0 (Nat.le_refl _) h))
  obtain ⟨r1, rfl, rfl, h⟩ := hr
  refine EW_if_ne (tgt := 16) (pc2 := 14) rfl dX12_floored_11 (by decide) (fun q => ?_) (fun q => ?_)
  · replace h := h.1 q
    refine EW_bipush (pc2 := 18) (v := 6) rfl dX12_floored_16 (by decide) ?_
    refine EW_iload_n (pc2 := 19) rfl dX12_floored_18 1 rfl ?_
    refine EW_imul (pc2 := 20) rfl dX12_floored_19 ?_
    refine EW_iload_n (pc2 := 21) rfl dX12_floored_20 2 rfl ?_
    refine EW_iadd (pc2 := 22) rfl dX12_floored_21 ?_
    refine EW_istore (pc2 := 24) rfl dX12_floored_22 (by decide) [1, 2, 3, 4, 0] [(0, .ref 246), (1, .int v1), (2, .int v2), (3, .int v3), (4, .int ((6 * v1) + v2))] rfl ?_
    refine EW_iload_n (pc2 := 25) rfl dX12_floored_24 3 rfl ?_
    by_cases qo : Int32.toInt v3 < 0 ∨ 3 < Int32.toInt v3
    · replace h := h.1 qo
      refine EW_tabOut (tgt := 95) dX12_floored_25 qo (by decide) ?_
      refine EW_iconst (pc2 := 96) (v := (-1)) rfl dX12_floored_95 (by decide) ?_
      exact AW_iret rfl dX12_floored_96 ⟨_, _, rfl, rfl, h⟩
    · obtain ⟨kk, hkk, qk⟩ := sw_in 0 3 (by decide) qo
      match kk, hkk, qk with
      | 0, _, qk =>
        replace h := h.2.1 qk
        refine EW_tabIn (off := 31) (tgt := 56) dX12_floored_25 (by rw [qk]; decide) (by rw [qk]; decide) (by rw [qk]; decide) (by decide) ?_
        refine EW_aload_n (pc2 := 57) rfl dX12_floored_56 0 rfl ?_
        refine AW_getr (r := 271) ⟨gfRX12_83, rfl⟩ (pc2 := 60) rfl dX12_floored_57 q246 rfl ?_
        refine EW_iload (pc2 := 62) rfl dX12_floored_60 4 rfl ?_
        obtain ⟨b2, h⟩ := h
        refine AW_iald (pc2 := 63) rfl dX12_floored_62 q271 b2 ?_
        exact AW_iret rfl dX12_floored_63 ⟨_, _, rfl, rfl, h⟩
      | 1, _, qk =>
        replace h := h.2.2.1 qk
        refine EW_tabIn (off := 39) (tgt := 64) dX12_floored_25 (by rw [qk]; decide) (by rw [qk]; decide) (by rw [qk]; decide) (by decide) ?_
        refine EW_aload_n (pc2 := 65) rfl dX12_floored_64 0 rfl ?_
        refine AW_getr (r := 274) ⟨gfRX12_92, rfl⟩ (pc2 := 68) rfl dX12_floored_65 q246 rfl ?_
        refine EW_iload (pc2 := 70) rfl dX12_floored_68 4 rfl ?_
        obtain ⟨b3, h⟩ := h
        refine AW_zald (pc2 := 71) rfl dX12_floored_70 q274 b3 ?_
        refine EW_if_eq (tgt := 78) (pc2 := 74) rfl dX12_floored_71 (by decide) (fun q => ?_) (fun q => ?_)
        · replace h := h.1 q
          refine EW_iconst (pc2 := 79) (v := 0) rfl dX12_floored_78 (by decide) ?_
          exact AW_iret rfl dX12_floored_79 ⟨_, _, rfl, rfl, h⟩
        · replace h := h.2 q
          refine EW_iconst (pc2 := 75) (v := 1) rfl dX12_floored_74 (by decide) ?_
          refine EW_goto (tgt := 79) dX12_floored_75 (by decide) ?_
          exact AW_iret rfl dX12_floored_79 ⟨_, _, rfl, rfl, h⟩
      | 2, _, qk =>
        replace h := h.2.2.2.1 qk
        refine EW_tabIn (off := 55) (tgt := 80) dX12_floored_25 (by rw [qk]; decide) (by rw [qk]; decide) (by rw [qk]; decide) (by decide) ?_
        refine EW_aload_n (pc2 := 81) rfl dX12_floored_80 0 rfl ?_
        refine AW_getr (r := 272) ⟨gfRX12_86, rfl⟩ (pc2 := 84) rfl dX12_floored_81 q246 rfl ?_
        refine EW_iload (pc2 := 86) rfl dX12_floored_84 4 rfl ?_
        obtain ⟨b4, h⟩ := h
        refine AW_iald (pc2 := 87) rfl dX12_floored_86 q272 b4 ?_
        exact AW_iret rfl dX12_floored_87 ⟨_, _, rfl, rfl, h⟩
      | 3, _, qk =>
        replace h := h.2.2.2.2 qk
        refine EW_tabIn (off := 63) (tgt := 88) dX12_floored_25 (by rw [qk]; decide) (by rw [qk]; decide) (by rw [qk]; decide) (by decide) ?_
        refine EW_aload_n (pc2 := 89) rfl dX12_floored_88 0 rfl ?_
        refine EW_iload_n (pc2 := 90) rfl dX12_floored_89 1 rfl ?_
        refine EW_iload_n (pc2 := 91) rfl dX12_floored_90 2 rfl ?_
        refine AW_invV (M' := MX12_loadOf) [.int v1, .int v2] (rest := []) mlRX12_360 okX12_loadOf (pc2 := 94) rfl dX12_floored_91 rfl rfl (Nat.le_of_ble_eq_true rfl) (Nat.le_of_ble_eq_true rfl) (d' := 0) (by omega) q246 ⟨by decide, rfl⟩ (EW_mono (fun _ _ hr => ?_) (sX12_loadOf v1 v2  (wr x 246 0 0) _ _ 0 0 (Nat.le_refl _) h))
        obtain ⟨r5, rfl, rfl, h⟩ := hr
        exact AW_iret rfl dX12_floored_94 ⟨_, _, rfl, rfl, h⟩
      | n9 + 4, hkk, _ => exact absurd hkk (by omega)
  · replace h := h.2 q
    refine EW_iconst (pc2 := 15) (v := (-1)) rfl dX12_floored_14 (by decide) ?_
    exact AW_iret rfl dX12_floored_15 ⟨_, _, rfl, rfl, h⟩
abbrev MX12_force : ab_M := (yX12_force, cX12_force, 3, (some .int))
theorem dX12_force_0 : decode cX12_force 0 = .ok (.aload_n 0, 1) := by decide +kernel
theorem dX12_force_1 : decode cX12_force 1 = .ok (.iconst 0, 1) := by decide +kernel
theorem dX12_force_2 : decode cX12_force 2 = .ok (.putfield 297, 3) := by decide +kernel
theorem dX12_force_5 : decode cX12_force 5 = .ok (.aload_n 0, 1) := by decide +kernel
theorem dX12_force_6 : decode cX12_force 6 = .ok (.iload_n 1, 1) := by decide +kernel
theorem dX12_force_7 : decode cX12_force 7 = .ok (.invokevirtual 334, 3) := by decide +kernel
theorem dX12_force_10 : decode cX12_force 10 = .ok (.ifCond .eq 24, 3) := by decide +kernel
theorem dX12_force_13 : decode cX12_force 13 = .ok (.iload_n 2, 1) := by decide +kernel
theorem dX12_force_14 : decode cX12_force 14 = .ok (.iconst 0, 1) := by decide +kernel
theorem dX12_force_15 : decode cX12_force 15 = .ok (.aload_n 0, 1) := by decide +kernel
theorem dX12_force_16 : decode cX12_force 16 = .ok (.getfield 395, 3) := by decide +kernel
theorem dX12_force_19 : decode cX12_force 19 = .ok (.invokestatic 307, 3) := by decide +kernel
theorem dX12_force_22 : decode cX12_force 22 = .ok (.ifCond .eq 12, 3) := by decide +kernel
theorem dX12_force_25 : decode cX12_force 25 = .ok (.aload_n 0, 1) := by decide +kernel
theorem dX12_force_26 : decode cX12_force 26 = .ok (.iload_n 1, 1) := by decide +kernel
theorem dX12_force_27 : decode cX12_force 27 = .ok (.iload_n 2, 1) := by decide +kernel
theorem dX12_force_28 : decode cX12_force 28 = .ok (.invokevirtual 593, 3) := by decide +kernel
theorem dX12_force_31 : decode cX12_force 31 = .ok (.goto 4, 3) := by decide +kernel
theorem dX12_force_34 : decode cX12_force 34 = .ok (.iconst (-1), 1) := by decide +kernel
theorem dX12_force_35 : decode cX12_force 35 = .ok (.ireturn, 1) := by decide +kernel
theorem okX12_force : ab_okM MX12_force 2 := ⟨by decide, ⟨by decide, by decide⟩, ab_in 2610 (by decide +kernel) (by decide +kernel), ab_in 99 (by decide +kernel) (by decide +kernel), by decide +kernel, by decide⟩
set_option maxHeartbeats 4000000 in
set_option maxRecDepth 100000 in
theorem sX12_force (v1 : Int32) (v2 : Int32)  (x : ab_X) (K : Int32 → ab_X → Prop) (d bc bs : Nat) (hdp : 1 ≤ d) (h : wX12_force v1 v2 x K) : EW MX12_force 0 [(0, .ref 246), (1, .int v1), (2, .int v2)] [] (aS x) d bc bs (liI K) := by
  unfold wX12_force at h
  refine EW_aload_n (pc2 := 1) rfl dX12_force_0 0 rfl ?_
  refine EW_iconst (pc2 := 2) (v := 0) rfl dX12_force_1 (by decide) ?_
  refine AW_puti ⟨gfRX12_297, rfl, rfl⟩ (pc2 := 5) rfl dX12_force_2 q246 ?_
  refine EW_aload_n (pc2 := 6) rfl dX12_force_5 0 rfl ?_
  refine EW_iload_n (pc2 := 7) rfl dX12_force_6 1 rfl ?_
  refine AW_invV (M' := MX12_isHouse) [.int v1] (rest := []) mlRX12_334 okX12_isHouse (pc2 := 10) rfl dX12_force_7 rfl rfl (Nat.le_of_ble_eq_true rfl) (Nat.le_of_ble_eq_true rfl) (d' := 0) (by omega) q246 ⟨by decide, rfl⟩ (EW_mono (fun _ _ hr => ?_) (sX12_isHouse v1  (wr x 246 0 0) _ _ 0 0 (Nat.le_refl _) h))
  obtain ⟨r1, rfl, rfl, h⟩ := hr
  refine EW_if_eq (tgt := 34) (pc2 := 13) rfl dX12_force_10 (by decide) (fun q => ?_) (fun q => ?_)
  · replace h := h.1 q
    refine EW_iconst (pc2 := 35) (v := (-1)) rfl dX12_force_34 (by decide) ?_
    exact AW_iret rfl dX12_force_35 ⟨_, _, rfl, rfl, h⟩
  · replace h := h.2 q
    refine EW_iload_n (pc2 := 14) rfl dX12_force_13 2 rfl ?_
    refine EW_iconst (pc2 := 15) (v := 0) rfl dX12_force_14 (by decide) ?_
    refine EW_aload_n (pc2 := 16) rfl dX12_force_15 0 rfl ?_
    refine AW_geti ⟨gfRX12_395, rfl⟩ (pc2 := 19) rfl dX12_force_16 q246 ?_
    refine AW_invS (M' := MX12_isIn) [.int v2, .int 0, .int ((wr x 246 0 0).1 246 1)] (rest := []) mlRX12_307 okX12_isIn (pc2 := 22) rfl dX12_force_19 rfl rfl (Nat.le_of_ble_eq_true rfl) (Nat.le_of_ble_eq_true rfl) (d' := 0) (by omega) (EW_mono (fun _ _ hr => ?_) (sX12_isIn v2 0 ((wr x 246 0 0).1 246 1)  (wr x 246 0 0) _ _ 0 0 (Nat.le_refl _) h))
    obtain ⟨r2, rfl, rfl, h⟩ := hr
    refine EW_if_eq (tgt := 34) (pc2 := 25) rfl dX12_force_22 (by decide) (fun q => ?_) (fun q => ?_)
    · replace h := h.1 q
      refine EW_iconst (pc2 := 35) (v := (-1)) rfl dX12_force_34 (by decide) ?_
      exact AW_iret rfl dX12_force_35 ⟨_, _, rfl, rfl, h⟩
    · replace h := h.2 q
      refine EW_aload_n (pc2 := 26) rfl dX12_force_25 0 rfl ?_
      refine EW_iload_n (pc2 := 27) rfl dX12_force_26 1 rfl ?_
      refine EW_iload_n (pc2 := 28) rfl dX12_force_27 2 rfl ?_
      refine AW_invV (M' := MX12_actFor) [.int v1, .int v2] (rest := []) mlRX12_593 okX12_actFor (pc2 := 31) rfl dX12_force_28 rfl rfl (Nat.le_of_ble_eq_true rfl) (Nat.le_of_ble_eq_true rfl) (d' := 0) (by omega) q246 ⟨by decide, rfl⟩ (EW_mono (fun _ _ hr => ?_) (sX12_actFor v1 v2  (wr x 246 0 0) _ _ 0 0 (Nat.le_refl _) h))
      obtain ⟨r3, rfl, rfl, h⟩ := hr
      refine EW_goto (tgt := 35) dX12_force_31 (by decide) ?_
      exact AW_iret rfl dX12_force_35 ⟨_, _, rfl, rfl, h⟩
abbrev MX12_gear : ab_M := (yX12_gear, cX12_gear, 6, (some .boolean))
theorem dX12_gear_0 : decode cX12_gear 0 = .ok (.aload_n 0, 1) := by decide +kernel
theorem dX12_gear_1 : decode cX12_gear 1 = .ok (.iconst 0, 1) := by decide +kernel
theorem dX12_gear_2 : decode cX12_gear 2 = .ok (.putfield 297, 3) := by decide +kernel
theorem dX12_gear_5 : decode cX12_gear 5 = .ok (.aload_n 0, 1) := by decide +kernel
theorem dX12_gear_6 : decode cX12_gear 6 = .ok (.iload_n 1, 1) := by decide +kernel
theorem dX12_gear_7 : decode cX12_gear 7 = .ok (.invokevirtual 392, 3) := by decide +kernel
theorem dX12_gear_10 : decode cX12_gear 10 = .ok (.ifCond .eq 13, 3) := by decide +kernel
theorem dX12_gear_13 : decode cX12_gear 13 = .ok (.aload_n 0, 1) := by decide +kernel
theorem dX12_gear_14 : decode cX12_gear 14 = .ok (.getfield 128, 3) := by decide +kernel
theorem dX12_gear_17 : decode cX12_gear 17 = .ok (.iload_n 1, 1) := by decide +kernel
theorem dX12_gear_18 : decode cX12_gear 18 = .ok (.iaload, 1) := by decide +kernel
theorem dX12_gear_19 : decode cX12_gear 19 = .ok (.iconst 2, 1) := by decide +kernel
theorem dX12_gear_20 : decode cX12_gear 20 = .ok (.if_icmp .ne 5, 3) := by decide +kernel
theorem dX12_gear_23 : decode cX12_gear 23 = .ok (.iconst 0, 1) := by decide +kernel
theorem dX12_gear_24 : decode cX12_gear 24 = .ok (.ireturn, 1) := by decide +kernel
theorem dX12_gear_25 : decode cX12_gear 25 = .ok (.iload_n 2, 1) := by decide +kernel
theorem dX12_gear_26 : decode cX12_gear 26 = .ok (.ifCond .ne 16, 3) := by decide +kernel
theorem dX12_gear_29 : decode cX12_gear 29 = .ok (.iload_n 3, 1) := by decide +kernel
theorem dX12_gear_30 : decode cX12_gear 30 = .ok (.ifCond .ne 12, 3) := by decide +kernel
theorem dX12_gear_33 : decode cX12_gear 33 = .ok (.iload 4, 2) := by decide +kernel
theorem dX12_gear_35 : decode cX12_gear 35 = .ok (.ifCond .ne 7, 3) := by decide +kernel
theorem dX12_gear_38 : decode cX12_gear 38 = .ok (.iconst 1, 1) := by decide +kernel
theorem dX12_gear_39 : decode cX12_gear 39 = .ok (.goto 4, 3) := by decide +kernel
theorem dX12_gear_42 : decode cX12_gear 42 = .ok (.iconst 0, 1) := by decide +kernel
theorem dX12_gear_43 : decode cX12_gear 43 = .ok (.istore 5, 2) := by decide +kernel
theorem dX12_gear_45 : decode cX12_gear 45 = .ok (.aload_n 0, 1) := by decide +kernel
theorem dX12_gear_46 : decode cX12_gear 46 = .ok (.getfield 107, 3) := by decide +kernel
theorem dX12_gear_49 : decode cX12_gear 49 = .ok (.iload_n 1, 1) := by decide +kernel
theorem dX12_gear_50 : decode cX12_gear 50 = .ok (.iaload, 1) := by decide +kernel
theorem dX12_gear_51 : decode cX12_gear 51 = .ok (.iconst 2, 1) := by decide +kernel
theorem dX12_gear_52 : decode cX12_gear 52 = .ok (.if_icmp .ne 29, 3) := by decide +kernel
theorem dX12_gear_55 : decode cX12_gear 55 = .ok (.iload_n 2, 1) := by decide +kernel
theorem dX12_gear_56 : decode cX12_gear 56 = .ok (.iconst 1, 1) := by decide +kernel
theorem dX12_gear_57 : decode cX12_gear 57 = .ok (.bipush 6, 2) := by decide +kernel
theorem dX12_gear_59 : decode cX12_gear 59 = .ok (.invokestatic 307, 3) := by decide +kernel
theorem dX12_gear_62 : decode cX12_gear 62 = .ok (.ifCond .eq 16, 3) := by decide +kernel
theorem dX12_gear_65 : decode cX12_gear 65 = .ok (.iload_n 3, 1) := by decide +kernel
theorem dX12_gear_66 : decode cX12_gear 66 = .ok (.ifCond .ne 12, 3) := by decide +kernel
theorem dX12_gear_69 : decode cX12_gear 69 = .ok (.iload 4, 2) := by decide +kernel
theorem dX12_gear_71 : decode cX12_gear 71 = .ok (.ifCond .ne 7, 3) := by decide +kernel
theorem dX12_gear_74 : decode cX12_gear 74 = .ok (.iconst 1, 1) := by decide +kernel
theorem dX12_gear_75 : decode cX12_gear 75 = .ok (.goto 4, 3) := by decide +kernel
theorem dX12_gear_78 : decode cX12_gear 78 = .ok (.iconst 0, 1) := by decide +kernel
theorem dX12_gear_79 : decode cX12_gear 79 = .ok (.istore 5, 2) := by decide +kernel
theorem dX12_gear_81 : decode cX12_gear 81 = .ok (.aload_n 0, 1) := by decide +kernel
theorem dX12_gear_82 : decode cX12_gear 82 = .ok (.getfield 107, 3) := by decide +kernel
theorem dX12_gear_85 : decode cX12_gear 85 = .ok (.iload_n 1, 1) := by decide +kernel
theorem dX12_gear_86 : decode cX12_gear 86 = .ok (.iaload, 1) := by decide +kernel
theorem dX12_gear_87 : decode cX12_gear 87 = .ok (.iconst 2, 1) := by decide +kernel
theorem dX12_gear_88 : decode cX12_gear 88 = .ok (.if_icmp .ge 62, 3) := by decide +kernel
theorem dX12_gear_91 : decode cX12_gear 91 = .ok (.iload_n 2, 1) := by decide +kernel
theorem dX12_gear_92 : decode cX12_gear 92 = .ok (.bipush 100, 2) := by decide +kernel
theorem dX12_gear_94 : decode cX12_gear 94 = .ok (.sipush 3000, 3) := by decide +kernel
theorem dX12_gear_97 : decode cX12_gear 97 = .ok (.invokestatic 307, 3) := by decide +kernel
theorem dX12_gear_100 : decode cX12_gear 100 = .ok (.ifCond .eq 47, 3) := by decide +kernel
theorem dX12_gear_103 : decode cX12_gear 103 = .ok (.iload_n 3, 1) := by decide +kernel
theorem dX12_gear_104 : decode cX12_gear 104 = .ok (.bipush 10, 2) := by decide +kernel
theorem dX12_gear_106 : decode cX12_gear 106 = .ok (.sipush 500, 3) := by decide +kernel
theorem dX12_gear_109 : decode cX12_gear 109 = .ok (.invokestatic 307, 3) := by decide +kernel
theorem dX12_gear_112 : decode cX12_gear 112 = .ok (.ifCond .eq 35, 3) := by decide +kernel
theorem dX12_gear_115 : decode cX12_gear 115 = .ok (.aload_n 0, 1) := by decide +kernel
theorem dX12_gear_116 : decode cX12_gear 116 = .ok (.getfield 107, 3) := by decide +kernel
theorem dX12_gear_119 : decode cX12_gear 119 = .ok (.iload_n 1, 1) := by decide +kernel
theorem dX12_gear_120 : decode cX12_gear 120 = .ok (.iaload, 1) := by decide +kernel
theorem dX12_gear_121 : decode cX12_gear 121 = .ok (.ifCond .ne 11, 3) := by decide +kernel
theorem dX12_gear_124 : decode cX12_gear 124 = .ok (.iload 4, 2) := by decide +kernel
theorem dX12_gear_126 : decode cX12_gear 126 = .ok (.ifCond .ne 21, 3) := by decide +kernel
theorem dX12_gear_129 : decode cX12_gear 129 = .ok (.goto 14, 3) := by decide +kernel
theorem dX12_gear_132 : decode cX12_gear 132 = .ok (.iload 4, 2) := by decide +kernel
theorem dX12_gear_134 : decode cX12_gear 134 = .ok (.iconst 1, 1) := by decide +kernel
theorem dX12_gear_135 : decode cX12_gear 135 = .ok (.bipush 30, 2) := by decide +kernel
theorem dX12_gear_137 : decode cX12_gear 137 = .ok (.invokestatic 307, 3) := by decide +kernel
theorem dX12_gear_140 : decode cX12_gear 140 = .ok (.ifCond .eq 7, 3) := by decide +kernel
theorem dX12_gear_143 : decode cX12_gear 143 = .ok (.iconst 1, 1) := by decide +kernel
theorem dX12_gear_144 : decode cX12_gear 144 = .ok (.goto 4, 3) := by decide +kernel
theorem dX12_gear_147 : decode cX12_gear 147 = .ok (.iconst 0, 1) := by decide +kernel
theorem dX12_gear_148 : decode cX12_gear 148 = .ok (.istore 5, 2) := by decide +kernel
theorem dX12_gear_150 : decode cX12_gear 150 = .ok (.iload 5, 2) := by decide +kernel
theorem dX12_gear_152 : decode cX12_gear 152 = .ok (.ifCond .ne 5, 3) := by decide +kernel
theorem dX12_gear_155 : decode cX12_gear 155 = .ok (.iconst 0, 1) := by decide +kernel
theorem dX12_gear_156 : decode cX12_gear 156 = .ok (.ireturn, 1) := by decide +kernel
theorem dX12_gear_157 : decode cX12_gear 157 = .ok (.aload_n 0, 1) := by decide +kernel
theorem dX12_gear_158 : decode cX12_gear 158 = .ok (.getfield 119, 3) := by decide +kernel
theorem dX12_gear_161 : decode cX12_gear 161 = .ok (.iload_n 1, 1) := by decide +kernel
theorem dX12_gear_162 : decode cX12_gear 162 = .ok (.iload_n 2, 1) := by decide +kernel
theorem dX12_gear_163 : decode cX12_gear 163 = .ok (.iastore, 1) := by decide +kernel
theorem dX12_gear_164 : decode cX12_gear 164 = .ok (.aload_n 0, 1) := by decide +kernel
theorem dX12_gear_165 : decode cX12_gear 165 = .ok (.getfield 122, 3) := by decide +kernel
theorem dX12_gear_168 : decode cX12_gear 168 = .ok (.iload_n 1, 1) := by decide +kernel
theorem dX12_gear_169 : decode cX12_gear 169 = .ok (.iload_n 3, 1) := by decide +kernel
theorem dX12_gear_170 : decode cX12_gear 170 = .ok (.iastore, 1) := by decide +kernel
theorem dX12_gear_171 : decode cX12_gear 171 = .ok (.aload_n 0, 1) := by decide +kernel
theorem dX12_gear_172 : decode cX12_gear 172 = .ok (.getfield 125, 3) := by decide +kernel
theorem dX12_gear_175 : decode cX12_gear 175 = .ok (.iload_n 1, 1) := by decide +kernel
theorem dX12_gear_176 : decode cX12_gear 176 = .ok (.iload 4, 2) := by decide +kernel
theorem dX12_gear_178 : decode cX12_gear 178 = .ok (.iastore, 1) := by decide +kernel
theorem dX12_gear_179 : decode cX12_gear 179 = .ok (.iconst 1, 1) := by decide +kernel
theorem dX12_gear_180 : decode cX12_gear 180 = .ok (.ireturn, 1) := by decide +kernel
theorem okX12_gear : ab_okM MX12_gear 4 := ⟨by decide, ⟨by decide, by decide⟩, ab_in 2348 (by decide +kernel) (by decide +kernel), ab_in 99 (by decide +kernel) (by decide +kernel), by decide +kernel, by decide⟩
set_option maxHeartbeats 4000000 in
set_option maxRecDepth 100000 in
theorem sX12_gear_150 (v1 : Int32) (v2 : Int32) (v3 : Int32) (v4 : Int32) (v5 : Int32)  (x : ab_X) (K : Int32 → ab_X → Prop)  (d bc bs : Nat) (hdp : 1 ≤ d)  (h : wX12_gear_150 v1 v2 v3 v4 v5 x K ) : EW MX12_gear 150 [(0, .ref 246), (1, .int v1), (2, .int v2), (3, .int v3), (4, .int v4), (5, .int v5)] [] (aS x) d bc bs (liI K) := by
  unfold wX12_gear_150 at h
  refine EW_iload (pc2 := 152) rfl dX12_gear_150 5 rfl ?_
  refine EW_if_ne (tgt := 157) (pc2 := 155) rfl dX12_gear_152 (by decide) (fun q => ?_) (fun q => ?_)
  · replace h := h.1 q
    refine EW_aload_n (pc2 := 158) rfl dX12_gear_157 0 rfl ?_
    refine AW_getr (r := 283) ⟨gfRX12_119, rfl⟩ (pc2 := 161) rfl dX12_gear_158 q246 rfl ?_
    refine EW_iload_n (pc2 := 162) rfl dX12_gear_161 1 rfl ?_
    refine EW_iload_n (pc2 := 163) rfl dX12_gear_162 2 rfl ?_
    obtain ⟨b10, h⟩ := h
    refine AW_iast (pc2 := 164) rfl dX12_gear_163 q283 b10 ?_
    refine EW_aload_n (pc2 := 165) rfl dX12_gear_164 0 rfl ?_
    refine AW_getr (r := 284) ⟨gfRX12_122, rfl⟩ (pc2 := 168) rfl dX12_gear_165 q246 rfl ?_
    refine EW_iload_n (pc2 := 169) rfl dX12_gear_168 1 rfl ?_
    refine EW_iload_n (pc2 := 170) rfl dX12_gear_169 3 rfl ?_
    obtain ⟨b11, h⟩ := h
    refine AW_iast (pc2 := 171) rfl dX12_gear_170 q284 b11 ?_
    refine EW_aload_n (pc2 := 172) rfl dX12_gear_171 0 rfl ?_
    refine AW_getr (r := 285) ⟨gfRX12_125, rfl⟩ (pc2 := 175) rfl dX12_gear_172 q246 rfl ?_
    refine EW_iload_n (pc2 := 176) rfl dX12_gear_175 1 rfl ?_
    refine EW_iload (pc2 := 178) rfl dX12_gear_176 4 rfl ?_
    obtain ⟨b12, h⟩ := h
    refine AW_iast (pc2 := 179) rfl dX12_gear_178 q285 b12 ?_
    refine EW_iconst (pc2 := 180) (v := 1) rfl dX12_gear_179 (by decide) ?_
    exact AW_zret rfl isB1 dX12_gear_180 ⟨_, _, rfl, rfl, h⟩
  · replace h := h.2 q
    refine EW_iconst (pc2 := 156) (v := 0) rfl dX12_gear_155 (by decide) ?_
    exact AW_zret rfl isB0 dX12_gear_156 ⟨_, _, rfl, rfl, h⟩
set_option maxHeartbeats 4000000 in
set_option maxRecDepth 100000 in
theorem sX12_gear_148 (v1 : Int32) (v2 : Int32) (v3 : Int32) (v4 : Int32) (s0 : Int32)  (x : ab_X) (K : Int32 → ab_X → Prop)  (d bc bs : Nat) (hdp : 1 ≤ d)  (h : wX12_gear_148 v1 v2 v3 v4 s0 x K ) : EW MX12_gear 148 [(0, .ref 246), (1, .int v1), (2, .int v2), (3, .int v3), (4, .int v4)] [.int s0] (aS x) d bc bs (liI K) := by
  unfold wX12_gear_148 at h
  refine EW_istore (pc2 := 150) rfl dX12_gear_148 (by decide) [1, 2, 3, 4, 5, 0] [(0, .ref 246), (1, .int v1), (2, .int v2), (3, .int v3), (4, .int v4), (5, .int s0)] rfl ?_
  exact sX12_gear_150 v1 v2 v3 v4 s0 x K d bc bs hdp h
set_option maxHeartbeats 4000000 in
set_option maxRecDepth 100000 in
theorem sX12_gear_147 (v1 : Int32) (v2 : Int32) (v3 : Int32) (v4 : Int32)  (x : ab_X) (K : Int32 → ab_X → Prop)  (d bc bs : Nat) (hdp : 1 ≤ d)  (h : wX12_gear_147 v1 v2 v3 v4 x K ) : EW MX12_gear 147 [(0, .ref 246), (1, .int v1), (2, .int v2), (3, .int v3), (4, .int v4)] [] (aS x) d bc bs (liI K) := by
  unfold wX12_gear_147 at h
  refine EW_iconst (pc2 := 148) (v := 0) rfl dX12_gear_147 (by decide) ?_
  exact sX12_gear_148 v1 v2 v3 v4 0 x K d bc bs hdp h
set_option maxHeartbeats 4000000 in
set_option maxRecDepth 100000 in
theorem sX12_gear_143 (v1 : Int32) (v2 : Int32) (v3 : Int32) (v4 : Int32)  (x : ab_X) (K : Int32 → ab_X → Prop)  (d bc bs : Nat) (hdp : 1 ≤ d)  (h : wX12_gear_143 v1 v2 v3 v4 x K ) : EW MX12_gear 143 [(0, .ref 246), (1, .int v1), (2, .int v2), (3, .int v3), (4, .int v4)] [] (aS x) d bc bs (liI K) := by
  unfold wX12_gear_143 at h
  refine EW_iconst (pc2 := 144) (v := 1) rfl dX12_gear_143 (by decide) ?_
  refine EW_goto (tgt := 148) dX12_gear_144 (by decide) ?_
  exact sX12_gear_148 v1 v2 v3 v4 1 x K d bc bs hdp h
set_option maxHeartbeats 4000000 in
set_option maxRecDepth 100000 in
theorem sX12_gear_81 (v1 : Int32) (v2 : Int32) (v3 : Int32) (v4 : Int32) (v5 : Int32)  (x : ab_X) (K : Int32 → ab_X → Prop)  (d bc bs : Nat) (hdp : 1 ≤ d)  (h : wX12_gear_81 v1 v2 v3 v4 v5 x K ) : EW MX12_gear 81 [(0, .ref 246), (1, .int v1), (2, .int v2), (3, .int v3), (4, .int v4), (5, .int v5)] [] (aS x) d bc bs (liI K) := by
  unfold wX12_gear_81 at h
  refine EW_aload_n (pc2 := 82) rfl dX12_gear_81 0 rfl ?_
  refine AW_getr (r := 279) ⟨gfRX12_107, rfl⟩ (pc2 := 85) rfl dX12_gear_82 q246 rfl ?_
  refine EW_iload_n (pc2 := 86) rfl dX12_gear_85 1 rfl ?_
  obtain ⟨b5, h⟩ := h
  refine AW_iald (pc2 := 87) rfl dX12_gear_86 q279 b5 ?_
  refine EW_iconst (pc2 := 88) (v := 2) rfl dX12_gear_87 (by decide) ?_
  refine EW_icmp_ge (tgt := 150) (pc2 := 91) rfl dX12_gear_88 (by decide) (fun q => ?_) (fun q => ?_)
  · replace h := h.1 q
    exact sX12_gear_150 v1 v2 v3 v4 v5 x K d bc bs hdp h
  · replace h := h.2 q
    refine EW_iload_n (pc2 := 92) rfl dX12_gear_91 2 rfl ?_
    refine EW_bipush (pc2 := 94) (v := 100) rfl dX12_gear_92 (by decide) ?_
    refine EW_sipush (pc2 := 97) (v := 3000) rfl dX12_gear_94 (by decide) ?_
    refine AW_invS (M' := MX12_isIn) [.int v2, .int 100, .int 3000] (rest := []) mlRX12_307 okX12_isIn (pc2 := 100) rfl dX12_gear_97 rfl rfl (Nat.le_of_ble_eq_true rfl) (Nat.le_of_ble_eq_true rfl) (d' := 0) (by omega) (EW_mono (fun _ _ hr => ?_) (sX12_isIn v2 100 3000  x _ _ 0 0 (Nat.le_refl _) h))
    obtain ⟨r6, rfl, rfl, h⟩ := hr
    refine EW_if_eq (tgt := 147) (pc2 := 103) rfl dX12_gear_100 (by decide) (fun q => ?_) (fun q => ?_)
    · replace h := h.1 q
      refine EW_ls [0, 1, 2, 3, 4] rfl ?_
      exact sX12_gear_147 v1 v2 v3 v4 x K d bc bs hdp h
    · replace h := h.2 q
      refine EW_iload_n (pc2 := 104) rfl dX12_gear_103 3 rfl ?_
      refine EW_bipush (pc2 := 106) (v := 10) rfl dX12_gear_104 (by decide) ?_
      refine EW_sipush (pc2 := 109) (v := 500) rfl dX12_gear_106 (by decide) ?_
      refine AW_invS (M' := MX12_isIn) [.int v3, .int 10, .int 500] (rest := []) mlRX12_307 okX12_isIn (pc2 := 112) rfl dX12_gear_109 rfl rfl (Nat.le_of_ble_eq_true rfl) (Nat.le_of_ble_eq_true rfl) (d' := 0) (by omega) (EW_mono (fun _ _ hr => ?_) (sX12_isIn v3 10 500  x _ _ 0 0 (Nat.le_refl _) h))
      obtain ⟨r7, rfl, rfl, h⟩ := hr
      refine EW_if_eq (tgt := 147) (pc2 := 115) rfl dX12_gear_112 (by decide) (fun q => ?_) (fun q => ?_)
      · replace h := h.1 q
        refine EW_ls [0, 1, 2, 3, 4] rfl ?_
        exact sX12_gear_147 v1 v2 v3 v4 x K d bc bs hdp h
      · replace h := h.2 q
        refine EW_aload_n (pc2 := 116) rfl dX12_gear_115 0 rfl ?_
        refine AW_getr (r := 279) ⟨gfRX12_107, rfl⟩ (pc2 := 119) rfl dX12_gear_116 q246 rfl ?_
        refine EW_iload_n (pc2 := 120) rfl dX12_gear_119 1 rfl ?_
        obtain ⟨b8, h⟩ := h
        refine AW_iald (pc2 := 121) rfl dX12_gear_120 q279 b8 ?_
        refine EW_if_ne (tgt := 132) (pc2 := 124) rfl dX12_gear_121 (by decide) (fun q => ?_) (fun q => ?_)
        · replace h := h.1 q
          refine EW_iload (pc2 := 134) rfl dX12_gear_132 4 rfl ?_
          refine EW_iconst (pc2 := 135) (v := 1) rfl dX12_gear_134 (by decide) ?_
          refine EW_bipush (pc2 := 137) (v := 30) rfl dX12_gear_135 (by decide) ?_
          refine AW_invS (M' := MX12_isIn) [.int v4, .int 1, .int 30] (rest := []) mlRX12_307 okX12_isIn (pc2 := 140) rfl dX12_gear_137 rfl rfl (Nat.le_of_ble_eq_true rfl) (Nat.le_of_ble_eq_true rfl) (d' := 0) (by omega) (EW_mono (fun _ _ hr => ?_) (sX12_isIn v4 1 30  x _ _ 0 0 (Nat.le_refl _) h))
          obtain ⟨r9, rfl, rfl, h⟩ := hr
          refine EW_if_eq (tgt := 147) (pc2 := 143) rfl dX12_gear_140 (by decide) (fun q => ?_) (fun q => ?_)
          · replace h := h.1 q
            refine EW_ls [0, 1, 2, 3, 4] rfl ?_
            exact sX12_gear_147 v1 v2 v3 v4 x K d bc bs hdp h
          · replace h := h.2 q
            refine EW_ls [0, 1, 2, 3, 4] rfl ?_
            exact sX12_gear_143 v1 v2 v3 v4 x K d bc bs hdp h
        · replace h := h.2 q
          refine EW_iload (pc2 := 126) rfl dX12_gear_124 4 rfl ?_
          refine EW_if_ne (tgt := 147) (pc2 := 129) rfl dX12_gear_126 (by decide) (fun q => ?_) (fun q => ?_)
          · replace h := h.1 q
            refine EW_ls [0, 1, 2, 3, 4] rfl ?_
            exact sX12_gear_147 v1 v2 v3 v4 x K d bc bs hdp h
          · replace h := h.2 q
            refine EW_goto (tgt := 143) dX12_gear_129 (by decide) ?_
            refine EW_ls [0, 1, 2, 3, 4] rfl ?_
            exact sX12_gear_143 v1 v2 v3 v4 x K d bc bs hdp h
set_option maxHeartbeats 4000000 in
set_option maxRecDepth 100000 in
theorem sX12_gear_79 (v1 : Int32) (v2 : Int32) (v3 : Int32) (v4 : Int32) (s0 : Int32)  (x : ab_X) (K : Int32 → ab_X → Prop)  (d bc bs : Nat) (hdp : 1 ≤ d)  (h : wX12_gear_79 v1 v2 v3 v4 s0 x K ) : EW MX12_gear 79 [(0, .ref 246), (1, .int v1), (2, .int v2), (3, .int v3), (4, .int v4)] [.int s0] (aS x) d bc bs (liI K) := by
  unfold wX12_gear_79 at h
  refine EW_istore (pc2 := 81) rfl dX12_gear_79 (by decide) [1, 2, 3, 4, 5, 0] [(0, .ref 246), (1, .int v1), (2, .int v2), (3, .int v3), (4, .int v4), (5, .int s0)] rfl ?_
  exact sX12_gear_81 v1 v2 v3 v4 s0 x K d bc bs hdp h
set_option maxHeartbeats 4000000 in
set_option maxRecDepth 100000 in
theorem sX12_gear_78 (v1 : Int32) (v2 : Int32) (v3 : Int32) (v4 : Int32)  (x : ab_X) (K : Int32 → ab_X → Prop)  (d bc bs : Nat) (hdp : 1 ≤ d)  (h : wX12_gear_78 v1 v2 v3 v4 x K ) : EW MX12_gear 78 [(0, .ref 246), (1, .int v1), (2, .int v2), (3, .int v3), (4, .int v4)] [] (aS x) d bc bs (liI K) := by
  unfold wX12_gear_78 at h
  refine EW_iconst (pc2 := 79) (v := 0) rfl dX12_gear_78 (by decide) ?_
  exact sX12_gear_79 v1 v2 v3 v4 0 x K d bc bs hdp h
set_option maxHeartbeats 4000000 in
set_option maxRecDepth 100000 in
theorem sX12_gear_43 (v1 : Int32) (v2 : Int32) (v3 : Int32) (v4 : Int32) (s0 : Int32)  (x : ab_X) (K : Int32 → ab_X → Prop)  (d bc bs : Nat) (hdp : 1 ≤ d)  (h : wX12_gear_43 v1 v2 v3 v4 s0 x K ) : EW MX12_gear 43 [(0, .ref 246), (1, .int v1), (2, .int v2), (3, .int v3), (4, .int v4)] [.int s0] (aS x) d bc bs (liI K) := by
  unfold wX12_gear_43 at h
  refine EW_istore (pc2 := 45) rfl dX12_gear_43 (by decide) [1, 2, 3, 4, 5, 0] [(0, .ref 246), (1, .int v1), (2, .int v2), (3, .int v3), (4, .int v4), (5, .int s0)] rfl ?_
  refine EW_aload_n (pc2 := 46) rfl dX12_gear_45 0 rfl ?_
  refine AW_getr (r := 279) ⟨gfRX12_107, rfl⟩ (pc2 := 49) rfl dX12_gear_46 q246 rfl ?_
  refine EW_iload_n (pc2 := 50) rfl dX12_gear_49 1 rfl ?_
  obtain ⟨b3, h⟩ := h
  refine AW_iald (pc2 := 51) rfl dX12_gear_50 q279 b3 ?_
  refine EW_iconst (pc2 := 52) (v := 2) rfl dX12_gear_51 (by decide) ?_
  refine EW_icmp_ne (tgt := 81) (pc2 := 55) rfl dX12_gear_52 (by decide) (fun q => ?_) (fun q => ?_)
  · replace h := h.1 q
    exact sX12_gear_81 v1 v2 v3 v4 s0 x K d bc bs hdp h
  · replace h := h.2 q
    refine EW_iload_n (pc2 := 56) rfl dX12_gear_55 2 rfl ?_
    refine EW_iconst (pc2 := 57) (v := 1) rfl dX12_gear_56 (by decide) ?_
    refine EW_bipush (pc2 := 59) (v := 6) rfl dX12_gear_57 (by decide) ?_
    refine AW_invS (M' := MX12_isIn) [.int v2, .int 1, .int 6] (rest := []) mlRX12_307 okX12_isIn (pc2 := 62) rfl dX12_gear_59 rfl rfl (Nat.le_of_ble_eq_true rfl) (Nat.le_of_ble_eq_true rfl) (d' := 0) (by omega) (EW_mono (fun _ _ hr => ?_) (sX12_isIn v2 1 6  x _ _ 0 0 (Nat.le_refl _) h))
    obtain ⟨r4, rfl, rfl, h⟩ := hr
    refine EW_if_eq (tgt := 78) (pc2 := 65) rfl dX12_gear_62 (by decide) (fun q => ?_) (fun q => ?_)
    · replace h := h.1 q
      refine EW_ls [0, 1, 2, 3, 4] rfl ?_
      exact sX12_gear_78 v1 v2 v3 v4 x K d bc bs hdp h
    · replace h := h.2 q
      refine EW_iload_n (pc2 := 66) rfl dX12_gear_65 3 rfl ?_
      refine EW_if_ne (tgt := 78) (pc2 := 69) rfl dX12_gear_66 (by decide) (fun q => ?_) (fun q => ?_)
      · replace h := h.1 q
        refine EW_ls [0, 1, 2, 3, 4] rfl ?_
        exact sX12_gear_78 v1 v2 v3 v4 x K d bc bs hdp h
      · replace h := h.2 q
        refine EW_iload (pc2 := 71) rfl dX12_gear_69 4 rfl ?_
        refine EW_if_ne (tgt := 78) (pc2 := 74) rfl dX12_gear_71 (by decide) (fun q => ?_) (fun q => ?_)
        · replace h := h.1 q
          refine EW_ls [0, 1, 2, 3, 4] rfl ?_
          exact sX12_gear_78 v1 v2 v3 v4 x K d bc bs hdp h
        · replace h := h.2 q
          refine EW_iconst (pc2 := 75) (v := 1) rfl dX12_gear_74 (by decide) ?_
          refine EW_goto (tgt := 79) dX12_gear_75 (by decide) ?_
          refine EW_ls [0, 1, 2, 3, 4] rfl ?_
          exact sX12_gear_79 v1 v2 v3 v4 1 x K d bc bs hdp h
set_option maxHeartbeats 4000000 in
set_option maxRecDepth 100000 in
theorem sX12_gear_42 (v1 : Int32) (v2 : Int32) (v3 : Int32) (v4 : Int32)  (x : ab_X) (K : Int32 → ab_X → Prop)  (d bc bs : Nat) (hdp : 1 ≤ d)  (h : wX12_gear_42 v1 v2 v3 v4 x K ) : EW MX12_gear 42 [(0, .ref 246), (1, .int v1), (2, .int v2), (3, .int v3), (4, .int v4)] [] (aS x) d bc bs (liI K) := by
  unfold wX12_gear_42 at h
  refine EW_iconst (pc2 := 43) (v := 0) rfl dX12_gear_42 (by decide) ?_
  exact sX12_gear_43 v1 v2 v3 v4 0 x K d bc bs hdp h
set_option maxHeartbeats 4000000 in
set_option maxRecDepth 100000 in
theorem sX12_gear (v1 : Int32) (v2 : Int32) (v3 : Int32) (v4 : Int32)  (x : ab_X) (K : Int32 → ab_X → Prop) (d bc bs : Nat) (hdp : 1 ≤ d) (h : wX12_gear v1 v2 v3 v4 x K) : EW MX12_gear 0 [(0, .ref 246), (1, .int v1), (2, .int v2), (3, .int v3), (4, .int v4)] [] (aS x) d bc bs (liI K) := by
  unfold wX12_gear at h
  refine EW_aload_n (pc2 := 1) rfl dX12_gear_0 0 rfl ?_
  refine EW_iconst (pc2 := 2) (v := 0) rfl dX12_gear_1 (by decide) ?_
  refine AW_puti ⟨gfRX12_297, rfl, rfl⟩ (pc2 := 5) rfl dX12_gear_2 q246 ?_
  refine EW_aload_n (pc2 := 6) rfl dX12_gear_5 0 rfl ?_
  refine EW_iload_n (pc2 := 7) rfl dX12_gear_6 1 rfl ?_
  refine AW_invV (M' := MX12_isCrew) [.int v1] (rest := []) mlRX12_392 okX12_isCrew (pc2 := 10) rfl dX12_gear_7 rfl rfl (Nat.le_of_ble_eq_true rfl) (Nat.le_of_ble_eq_true rfl) (d' := 0) (by omega) q246 ⟨by decide, rfl⟩ (EW_mono (fun _ _ hr => ?_) (sX12_isCrew v1  (wr x 246 0 0) _ _ 0 0 (Nat.le_refl _) h))
  obtain ⟨r1, rfl, rfl, h⟩ := hr
  refine EW_if_eq (tgt := 23) (pc2 := 13) rfl dX12_gear_10 (by decide) (fun q => ?_) (fun q => ?_)
  · replace h := h.1 q
    refine EW_iconst (pc2 := 24) (v := 0) rfl dX12_gear_23 (by decide) ?_
    exact AW_zret rfl isB0 dX12_gear_24 ⟨_, _, rfl, rfl, h⟩
  · replace h := h.2 q
    refine EW_aload_n (pc2 := 14) rfl dX12_gear_13 0 rfl ?_
    refine AW_getr (r := 286) ⟨gfRX12_128, rfl⟩ (pc2 := 17) rfl dX12_gear_14 q246 rfl ?_
    refine EW_iload_n (pc2 := 18) rfl dX12_gear_17 1 rfl ?_
    obtain ⟨b2, h⟩ := h
    refine AW_iald (pc2 := 19) rfl dX12_gear_18 q286 b2 ?_
    refine EW_iconst (pc2 := 20) (v := 2) rfl dX12_gear_19 (by decide) ?_
    refine EW_icmp_ne (tgt := 25) (pc2 := 23) rfl dX12_gear_20 (by decide) (fun q => ?_) (fun q => ?_)
    · replace h := h.1 q
      refine EW_iload_n (pc2 := 26) rfl dX12_gear_25 2 rfl ?_
      refine EW_if_ne (tgt := 42) (pc2 := 29) rfl dX12_gear_26 (by decide) (fun q => ?_) (fun q => ?_)
      · replace h := h.1 q
        exact sX12_gear_42 v1 v2 v3 v4 (wr x 246 0 0) K d bc bs hdp h
      · replace h := h.2 q
        refine EW_iload_n (pc2 := 30) rfl dX12_gear_29 3 rfl ?_
        refine EW_if_ne (tgt := 42) (pc2 := 33) rfl dX12_gear_30 (by decide) (fun q => ?_) (fun q => ?_)
        · replace h := h.1 q
          exact sX12_gear_42 v1 v2 v3 v4 (wr x 246 0 0) K d bc bs hdp h
        · replace h := h.2 q
          refine EW_iload (pc2 := 35) rfl dX12_gear_33 4 rfl ?_
          refine EW_if_ne (tgt := 42) (pc2 := 38) rfl dX12_gear_35 (by decide) (fun q => ?_) (fun q => ?_)
          · replace h := h.1 q
            exact sX12_gear_42 v1 v2 v3 v4 (wr x 246 0 0) K d bc bs hdp h
          · replace h := h.2 q
            refine EW_iconst (pc2 := 39) (v := 1) rfl dX12_gear_38 (by decide) ?_
            refine EW_goto (tgt := 43) dX12_gear_39 (by decide) ?_
            exact sX12_gear_43 v1 v2 v3 v4 1 (wr x 246 0 0) K d bc bs hdp h
    · replace h := h.2 q
      refine EW_iconst (pc2 := 24) (v := 0) rfl dX12_gear_23 (by decide) ?_
      exact AW_zret rfl isB0 dX12_gear_24 ⟨_, _, rfl, rfl, h⟩
abbrev MX12_hasChief : ab_M := (yX12_hasChief, cX12_hasChief, 3, (some .boolean))
theorem dX12_hasChief_0 : decode cX12_hasChief 0 = .ok (.iconst 0, 1) := by decide +kernel
theorem dX12_hasChief_1 : decode cX12_hasChief 1 = .ok (.istore_n 2, 1) := by decide +kernel
theorem dX12_hasChief_2 : decode cX12_hasChief 2 = .ok (.iload_n 2, 1) := by decide +kernel
theorem dX12_hasChief_3 : decode cX12_hasChief 3 = .ok (.aload_n 0, 1) := by decide +kernel
theorem dX12_hasChief_4 : decode cX12_hasChief 4 = .ok (.getfield 366, 3) := by decide +kernel
theorem dX12_hasChief_7 : decode cX12_hasChief 7 = .ok (.if_icmp .ge 41, 3) := by decide +kernel
theorem dX12_hasChief_10 : decode cX12_hasChief 10 = .ok (.aload_n 0, 1) := by decide +kernel
theorem dX12_hasChief_11 : decode cX12_hasChief 11 = .ok (.getfield 107, 3) := by decide +kernel
theorem dX12_hasChief_14 : decode cX12_hasChief 14 = .ok (.iload_n 2, 1) := by decide +kernel
theorem dX12_hasChief_15 : decode cX12_hasChief 15 = .ok (.iaload, 1) := by decide +kernel
theorem dX12_hasChief_16 : decode cX12_hasChief 16 = .ok (.iconst 3, 1) := by decide +kernel
theorem dX12_hasChief_17 : decode cX12_hasChief 17 = .ok (.if_icmp .ne 25, 3) := by decide +kernel
theorem dX12_hasChief_20 : decode cX12_hasChief 20 = .ok (.aload_n 0, 1) := by decide +kernel
theorem dX12_hasChief_21 : decode cX12_hasChief 21 = .ok (.getfield 128, 3) := by decide +kernel
theorem dX12_hasChief_24 : decode cX12_hasChief 24 = .ok (.iload_n 2, 1) := by decide +kernel
theorem dX12_hasChief_25 : decode cX12_hasChief 25 = .ok (.iaload, 1) := by decide +kernel
theorem dX12_hasChief_26 : decode cX12_hasChief 26 = .ok (.iconst 2, 1) := by decide +kernel
theorem dX12_hasChief_27 : decode cX12_hasChief 27 = .ok (.if_icmp .ne 15, 3) := by decide +kernel
theorem dX12_hasChief_30 : decode cX12_hasChief 30 = .ok (.aload_n 0, 1) := by decide +kernel
theorem dX12_hasChief_31 : decode cX12_hasChief 31 = .ok (.getfield 140, 3) := by decide +kernel
theorem dX12_hasChief_34 : decode cX12_hasChief 34 = .ok (.iload_n 2, 1) := by decide +kernel
theorem dX12_hasChief_35 : decode cX12_hasChief 35 = .ok (.iaload, 1) := by decide +kernel
theorem dX12_hasChief_36 : decode cX12_hasChief 36 = .ok (.iload_n 1, 1) := by decide +kernel
theorem dX12_hasChief_37 : decode cX12_hasChief 37 = .ok (.if_icmp .ne 5, 3) := by decide +kernel
theorem dX12_hasChief_40 : decode cX12_hasChief 40 = .ok (.iconst 1, 1) := by decide +kernel
theorem dX12_hasChief_41 : decode cX12_hasChief 41 = .ok (.ireturn, 1) := by decide +kernel
theorem dX12_hasChief_42 : decode cX12_hasChief 42 = .ok (.iinc 2 1, 3) := by decide +kernel
theorem dX12_hasChief_45 : decode cX12_hasChief 45 = .ok (.goto (-43), 3) := by decide +kernel
theorem dX12_hasChief_48 : decode cX12_hasChief 48 = .ok (.iconst 0, 1) := by decide +kernel
theorem dX12_hasChief_49 : decode cX12_hasChief 49 = .ok (.ireturn, 1) := by decide +kernel
theorem okX12_hasChief : ab_okM MX12_hasChief 1 := ⟨by decide, ⟨by decide, by decide⟩, ab_in 2574 (by decide +kernel) (by decide +kernel), ab_in 99 (by decide +kernel) (by decide +kernel), by decide +kernel, by decide⟩
set_option maxHeartbeats 4000000 in
set_option maxRecDepth 100000 in
theorem sX12_hasChief_2 (v1 : Int32) (v2 : Int32)  (x : ab_X) (K : Int32 → Prop)  (d bc bs : Nat) (hdp : 0 ≤ d)  (h : Lp1 (lX12_hasChief_2 v1 x K ) v2) : EW MX12_hasChief 2 [(0, .ref 246), (1, .int v1), (2, .int v2)] [] (aS x) d bc bs (liP x K) := by
  refine Lp1.use (P := fun v2 => EW MX12_hasChief 2 [(0, .ref 246), (1, .int v1), (2, .int v2)] [] (aS x) d bc bs (liP x K)) (fun L2 v2 hL2 h => ?_) v2 h
  unfold lX12_hasChief_2 at h
  refine EW_iload_n (pc2 := 3) rfl dX12_hasChief_2 2 rfl ?_
  refine EW_aload_n (pc2 := 4) rfl dX12_hasChief_3 0 rfl ?_
  refine AW_geti ⟨gfRX12_366, rfl⟩ (pc2 := 7) rfl dX12_hasChief_4 q246 ?_
  refine EW_icmp_ge (tgt := 48) (pc2 := 10) rfl dX12_hasChief_7 (by decide) (fun q => ?_) (fun q => ?_)
  · replace h := h.1 q
    refine EW_iconst (pc2 := 49) (v := 0) rfl dX12_hasChief_48 (by decide) ?_
    exact AW_zret rfl isB0 dX12_hasChief_49 ⟨_, rfl, rfl, h⟩
  · replace h := h.2 q
    refine EW_aload_n (pc2 := 11) rfl dX12_hasChief_10 0 rfl ?_
    refine AW_getr (r := 279) ⟨gfRX12_107, rfl⟩ (pc2 := 14) rfl dX12_hasChief_11 q246 rfl ?_
    refine EW_iload_n (pc2 := 15) rfl dX12_hasChief_14 2 rfl ?_
    obtain ⟨b1, h⟩ := h
    refine AW_iald (pc2 := 16) rfl dX12_hasChief_15 q279 b1 ?_
    refine EW_iconst (pc2 := 17) (v := 3) rfl dX12_hasChief_16 (by decide) ?_
    refine EW_icmp_ne (tgt := 42) (pc2 := 20) rfl dX12_hasChief_17 (by decide) (fun q => ?_) (fun q => ?_)
    · replace h := h.1 q
      refine EW_iinc (v2 + 1) (pc2 := 45) rfl dX12_hasChief_42 2 rfl rfl (by decide) [1, 2, 0] [(0, .ref 246), (1, .int v1), (2, .int (v2 + 1))] rfl ?_
      refine EW_goto (tgt := 2) dX12_hasChief_45 (by decide) ?_
      exact hL2 (v2 + 1) h
    · replace h := h.2 q
      refine EW_aload_n (pc2 := 21) rfl dX12_hasChief_20 0 rfl ?_
      refine AW_getr (r := 286) ⟨gfRX12_128, rfl⟩ (pc2 := 24) rfl dX12_hasChief_21 q246 rfl ?_
      refine EW_iload_n (pc2 := 25) rfl dX12_hasChief_24 2 rfl ?_
      obtain ⟨b2, h⟩ := h
      refine AW_iald (pc2 := 26) rfl dX12_hasChief_25 q286 b2 ?_
      refine EW_iconst (pc2 := 27) (v := 2) rfl dX12_hasChief_26 (by decide) ?_
      refine EW_icmp_ne (tgt := 42) (pc2 := 30) rfl dX12_hasChief_27 (by decide) (fun q => ?_) (fun q => ?_)
      · replace h := h.1 q
        refine EW_iinc (v2 + 1) (pc2 := 45) rfl dX12_hasChief_42 2 rfl rfl (by decide) [1, 2, 0] [(0, .ref 246), (1, .int v1), (2, .int (v2 + 1))] rfl ?_
        refine EW_goto (tgt := 2) dX12_hasChief_45 (by decide) ?_
        exact hL2 (v2 + 1) h
      · replace h := h.2 q
        refine EW_aload_n (pc2 := 31) rfl dX12_hasChief_30 0 rfl ?_
        refine AW_getr (r := 290) ⟨gfRX12_140, rfl⟩ (pc2 := 34) rfl dX12_hasChief_31 q246 rfl ?_
        refine EW_iload_n (pc2 := 35) rfl dX12_hasChief_34 2 rfl ?_
        obtain ⟨b3, h⟩ := h
        refine AW_iald (pc2 := 36) rfl dX12_hasChief_35 q290 b3 ?_
        refine EW_iload_n (pc2 := 37) rfl dX12_hasChief_36 1 rfl ?_
        refine EW_icmp_ne (tgt := 42) (pc2 := 40) rfl dX12_hasChief_37 (by decide) (fun q => ?_) (fun q => ?_)
        · replace h := h.1 q
          refine EW_iinc (v2 + 1) (pc2 := 45) rfl dX12_hasChief_42 2 rfl rfl (by decide) [1, 2, 0] [(0, .ref 246), (1, .int v1), (2, .int (v2 + 1))] rfl ?_
          refine EW_goto (tgt := 2) dX12_hasChief_45 (by decide) ?_
          exact hL2 (v2 + 1) h
        · replace h := h.2 q
          refine EW_iconst (pc2 := 41) (v := 1) rfl dX12_hasChief_40 (by decide) ?_
          exact AW_zret rfl isB1 dX12_hasChief_41 ⟨_, rfl, rfl, h⟩
set_option maxHeartbeats 4000000 in
set_option maxRecDepth 100000 in
theorem sX12_hasChief (v1 : Int32)  (x : ab_X) (K : Int32 → Prop) (d bc bs : Nat) (hdp : 0 ≤ d) (h : wX12_hasChief v1 x K) : EW MX12_hasChief 0 [(0, .ref 246), (1, .int v1)] [] (aS x) d bc bs (liP x K) := by
  unfold wX12_hasChief at h
  refine EW_iconst (pc2 := 1) (v := 0) rfl dX12_hasChief_0 (by decide) ?_
  refine EW_istore_n (pc2 := 2) rfl dX12_hasChief_1 (by decide) [1, 2, 0] [(0, .ref 246), (1, .int v1), (2, .int 0)] rfl ?_
  exact sX12_hasChief_2 v1 0 x K d bc bs hdp h
theorem gfRX12_98 : ab_L RX12 98 12 33 := ⟨by decide, by decide, ab_in 1882 (by decide +kernel) (by decide +kernel)⟩
theorem gfRX12_101 : ab_L RX12 101 12 34 := ⟨by decide, by decide, ab_in 1883 (by decide +kernel) (by decide +kernel)⟩
abbrev MX12_head : ab_M := (yX12_head, cX12_head, 3, (some .int))
theorem dX12_head_0 : decode cX12_head 0 = .ok (.aload_n 0, 1) := by decide +kernel
theorem dX12_head_1 : decode cX12_head 1 = .ok (.iconst 0, 1) := by decide +kernel
theorem dX12_head_2 : decode cX12_head 2 = .ok (.putfield 297, 3) := by decide +kernel
theorem dX12_head_5 : decode cX12_head 5 = .ok (.aload_n 0, 1) := by decide +kernel
theorem dX12_head_6 : decode cX12_head 6 = .ok (.getfield 389, 3) := by decide +kernel
theorem dX12_head_9 : decode cX12_head 9 = .ok (.bipush 20, 2) := by decide +kernel
theorem dX12_head_11 : decode cX12_head 11 = .ok (.if_icmp .eq 24, 3) := by decide +kernel
theorem dX12_head_14 : decode cX12_head 14 = .ok (.iload_n 1, 1) := by decide +kernel
theorem dX12_head_15 : decode cX12_head 15 = .ok (.invokestatic 303, 3) := by decide +kernel
theorem dX12_head_18 : decode cX12_head 18 = .ok (.ifCond .eq 17, 3) := by decide +kernel
theorem dX12_head_21 : decode cX12_head 21 = .ok (.iload_n 2, 1) := by decide +kernel
theorem dX12_head_22 : decode cX12_head 22 = .ok (.iconst 0, 1) := by decide +kernel
theorem dX12_head_23 : decode cX12_head 23 = .ok (.aload_n 0, 1) := by decide +kernel
theorem dX12_head_24 : decode cX12_head 24 = .ok (.getfield 386, 3) := by decide +kernel
theorem dX12_head_27 : decode cX12_head 27 = .ok (.iconst 1, 1) := by decide +kernel
theorem dX12_head_28 : decode cX12_head 28 = .ok (.isub, 1) := by decide +kernel
theorem dX12_head_29 : decode cX12_head 29 = .ok (.invokestatic 307, 3) := by decide +kernel
theorem dX12_head_32 : decode cX12_head 32 = .ok (.ifCond .ne 5, 3) := by decide +kernel
theorem dX12_head_35 : decode cX12_head 35 = .ok (.iconst (-1), 1) := by decide +kernel
theorem dX12_head_36 : decode cX12_head 36 = .ok (.ireturn, 1) := by decide +kernel
theorem dX12_head_37 : decode cX12_head 37 = .ok (.aload_n 0, 1) := by decide +kernel
theorem dX12_head_38 : decode cX12_head 38 = .ok (.getfield 98, 3) := by decide +kernel
theorem dX12_head_41 : decode cX12_head 41 = .ok (.aload_n 0, 1) := by decide +kernel
theorem dX12_head_42 : decode cX12_head 42 = .ok (.getfield 389, 3) := by decide +kernel
theorem dX12_head_45 : decode cX12_head 45 = .ok (.iload_n 1, 1) := by decide +kernel
theorem dX12_head_46 : decode cX12_head 46 = .ok (.iastore, 1) := by decide +kernel
theorem dX12_head_47 : decode cX12_head 47 = .ok (.aload_n 0, 1) := by decide +kernel
theorem dX12_head_48 : decode cX12_head 48 = .ok (.getfield 101, 3) := by decide +kernel
theorem dX12_head_51 : decode cX12_head 51 = .ok (.aload_n 0, 1) := by decide +kernel
theorem dX12_head_52 : decode cX12_head 52 = .ok (.getfield 389, 3) := by decide +kernel
theorem dX12_head_55 : decode cX12_head 55 = .ok (.iload_n 2, 1) := by decide +kernel
theorem dX12_head_56 : decode cX12_head 56 = .ok (.iastore, 1) := by decide +kernel
theorem dX12_head_57 : decode cX12_head 57 = .ok (.aload_n 0, 1) := by decide +kernel
theorem dX12_head_58 : decode cX12_head 58 = .ok (.dup, 1) := by decide +kernel
theorem dX12_head_59 : decode cX12_head 59 = .ok (.getfield 389, 3) := by decide +kernel
theorem dX12_head_62 : decode cX12_head 62 = .ok (.iconst 1, 1) := by decide +kernel
theorem dX12_head_63 : decode cX12_head 63 = .ok (.iadd, 1) := by decide +kernel
theorem dX12_head_64 : decode cX12_head 64 = .ok (.putfield 389, 3) := by decide +kernel
theorem dX12_head_67 : decode cX12_head 67 = .ok (.aload_n 0, 1) := by decide +kernel
theorem dX12_head_68 : decode cX12_head 68 = .ok (.getfield 389, 3) := by decide +kernel
theorem dX12_head_71 : decode cX12_head 71 = .ok (.iconst 1, 1) := by decide +kernel
theorem dX12_head_72 : decode cX12_head 72 = .ok (.isub, 1) := by decide +kernel
theorem dX12_head_73 : decode cX12_head 73 = .ok (.ireturn, 1) := by decide +kernel
theorem okX12_head : ab_okM MX12_head 2 := ⟨by decide, ⟨by decide, by decide⟩, ab_in 2340 (by decide +kernel) (by decide +kernel), ab_in 99 (by decide +kernel) (by decide +kernel), by decide +kernel, by decide⟩
set_option maxHeartbeats 4000000 in
set_option maxRecDepth 100000 in
theorem sX12_head (v1 : Int32) (v2 : Int32)  (x : ab_X) (K : Int32 → ab_X → Prop) (d bc bs : Nat) (hdp : 1 ≤ d) (h : wX12_head v1 v2 x K) : EW MX12_head 0 [(0, .ref 246), (1, .int v1), (2, .int v2)] [] (aS x) d bc bs (liI K) := by
  unfold wX12_head at h
  refine EW_aload_n (pc2 := 1) rfl dX12_head_0 0 rfl ?_
  refine EW_iconst (pc2 := 2) (v := 0) rfl dX12_head_1 (by decide) ?_
  refine AW_puti ⟨gfRX12_297, rfl, rfl⟩ (pc2 := 5) rfl dX12_head_2 q246 ?_
  refine EW_aload_n (pc2 := 6) rfl dX12_head_5 0 rfl ?_
  refine AW_geti ⟨gfRX12_389, rfl⟩ (pc2 := 9) rfl dX12_head_6 q246 ?_
  refine EW_bipush (pc2 := 11) (v := 20) rfl dX12_head_9 (by decide) ?_
  refine EW_icmp_eq (tgt := 35) (pc2 := 14) rfl dX12_head_11 (by decide) (fun q => ?_) (fun q => ?_)
  · replace h := h.1 q
    refine EW_iconst (pc2 := 36) (v := (-1)) rfl dX12_head_35 (by decide) ?_
    exact AW_iret rfl dX12_head_36 ⟨_, _, rfl, rfl, h⟩
  · replace h := h.2 q
    refine EW_iload_n (pc2 := 15) rfl dX12_head_14 1 rfl ?_
    refine AW_invS (M' := MX12_isCorner) [.int v1] (rest := []) mlRX12_303 okX12_isCorner (pc2 := 18) rfl dX12_head_15 rfl rfl (Nat.le_of_ble_eq_true rfl) (Nat.le_of_ble_eq_true rfl) (d' := 0) (by omega) (EW_mono (fun _ _ hr => ?_) (sX12_isCorner v1  (wr x 246 0 0) _ _ 0 0 (Nat.le_refl _) h))
    obtain ⟨r1, rfl, rfl, h⟩ := hr
    refine EW_if_eq (tgt := 35) (pc2 := 21) rfl dX12_head_18 (by decide) (fun q => ?_) (fun q => ?_)
    · replace h := h.1 q
      refine EW_iconst (pc2 := 36) (v := (-1)) rfl dX12_head_35 (by decide) ?_
      exact AW_iret rfl dX12_head_36 ⟨_, _, rfl, rfl, h⟩
    · replace h := h.2 q
      refine EW_iload_n (pc2 := 22) rfl dX12_head_21 2 rfl ?_
      refine EW_iconst (pc2 := 23) (v := 0) rfl dX12_head_22 (by decide) ?_
      refine EW_aload_n (pc2 := 24) rfl dX12_head_23 0 rfl ?_
      refine AW_geti ⟨gfRX12_386, rfl⟩ (pc2 := 27) rfl dX12_head_24 q246 ?_
      refine EW_iconst (pc2 := 28) (v := 1) rfl dX12_head_27 (by decide) ?_
      refine EW_isub (pc2 := 29) rfl dX12_head_28 ?_
      refine AW_invS (M' := MX12_isIn) [.int v2, .int 0, .int (((wr x 246 0 0).1 246 56) - 1)] (rest := []) mlRX12_307 okX12_isIn (pc2 := 32) rfl dX12_head_29 rfl rfl (Nat.le_of_ble_eq_true rfl) (Nat.le_of_ble_eq_true rfl) (d' := 0) (by omega) (EW_mono (fun _ _ hr => ?_) (sX12_isIn v2 0 (((wr x 246 0 0).1 246 56) - 1)  (wr x 246 0 0) _ _ 0 0 (Nat.le_refl _) h))
      obtain ⟨r2, rfl, rfl, h⟩ := hr
      refine EW_if_ne (tgt := 37) (pc2 := 35) rfl dX12_head_32 (by decide) (fun q => ?_) (fun q => ?_)
      · replace h := h.1 q
        refine EW_aload_n (pc2 := 38) rfl dX12_head_37 0 rfl ?_
        refine AW_getr (r := 276) ⟨gfRX12_98, rfl⟩ (pc2 := 41) rfl dX12_head_38 q246 rfl ?_
        refine EW_aload_n (pc2 := 42) rfl dX12_head_41 0 rfl ?_
        refine AW_geti ⟨gfRX12_389, rfl⟩ (pc2 := 45) rfl dX12_head_42 q246 ?_
        refine EW_iload_n (pc2 := 46) rfl dX12_head_45 1 rfl ?_
        obtain ⟨b3, h⟩ := h
        refine AW_iast (pc2 := 47) rfl dX12_head_46 q276 b3 ?_
        refine EW_aload_n (pc2 := 48) rfl dX12_head_47 0 rfl ?_
        refine AW_getr (r := 277) ⟨gfRX12_101, rfl⟩ (pc2 := 51) rfl dX12_head_48 q246 rfl ?_
        refine EW_aload_n (pc2 := 52) rfl dX12_head_51 0 rfl ?_
        refine AW_geti ⟨gfRX12_389, rfl⟩ (pc2 := 55) rfl dX12_head_52 q246 ?_
        refine EW_iload_n (pc2 := 56) rfl dX12_head_55 2 rfl ?_
        obtain ⟨b4, h⟩ := h
        refine AW_iast (pc2 := 57) rfl dX12_head_56 q277 b4 ?_
        refine EW_aload_n (pc2 := 58) rfl dX12_head_57 0 rfl ?_
        refine EW_dup (pc2 := 59) rfl dX12_head_58 rfl ?_
        refine AW_geti ⟨gfRX12_389, rfl⟩ (pc2 := 62) rfl dX12_head_59 q246 ?_
        refine EW_iconst (pc2 := 63) (v := 1) rfl dX12_head_62 (by decide) ?_
        refine EW_iadd (pc2 := 64) rfl dX12_head_63 ?_
        refine AW_puti ⟨gfRX12_389, rfl, rfl⟩ (pc2 := 67) rfl dX12_head_64 q246 ?_
        refine EW_aload_n (pc2 := 68) rfl dX12_head_67 0 rfl ?_
        refine AW_geti ⟨gfRX12_389, rfl⟩ (pc2 := 71) rfl dX12_head_68 q246 ?_
        refine EW_iconst (pc2 := 72) (v := 1) rfl dX12_head_71 (by decide) ?_
        refine EW_isub (pc2 := 73) rfl dX12_head_72 ?_
        exact AW_iret rfl dX12_head_73 ⟨_, _, rfl, rfl, h⟩
      · replace h := h.2 q
        refine EW_iconst (pc2 := 36) (v := (-1)) rfl dX12_head_35 (by decide) ?_
        exact AW_iret rfl dX12_head_36 ⟨_, _, rfl, rfl, h⟩
abbrev MX12_headFor : ab_M := (yX12_headFor, cX12_headFor, 4, (some .int))
theorem dX12_headFor_0 : decode cX12_headFor 0 = .ok (.iconst (-1), 1) := by decide +kernel
theorem dX12_headFor_1 : decode cX12_headFor 1 = .ok (.istore_n 2, 1) := by decide +kernel
theorem dX12_headFor_2 : decode cX12_headFor 2 = .ok (.iconst 0, 1) := by decide +kernel
theorem dX12_headFor_3 : decode cX12_headFor 3 = .ok (.istore_n 3, 1) := by decide +kernel
theorem dX12_headFor_4 : decode cX12_headFor 4 = .ok (.iload_n 3, 1) := by decide +kernel
theorem dX12_headFor_5 : decode cX12_headFor 5 = .ok (.aload_n 0, 1) := by decide +kernel
theorem dX12_headFor_6 : decode cX12_headFor 6 = .ok (.getfield 389, 3) := by decide +kernel
theorem dX12_headFor_9 : decode cX12_headFor 9 = .ok (.if_icmp .ge 57, 3) := by decide +kernel
theorem dX12_headFor_12 : decode cX12_headFor 12 = .ok (.aload_n 0, 1) := by decide +kernel
theorem dX12_headFor_13 : decode cX12_headFor 13 = .ok (.aload_n 0, 1) := by decide +kernel
theorem dX12_headFor_14 : decode cX12_headFor 14 = .ok (.getfield 98, 3) := by decide +kernel
theorem dX12_headFor_17 : decode cX12_headFor 17 = .ok (.iload_n 3, 1) := by decide +kernel
theorem dX12_headFor_18 : decode cX12_headFor 18 = .ok (.iaload, 1) := by decide +kernel
theorem dX12_headFor_19 : decode cX12_headFor 19 = .ok (.aload_n 0, 1) := by decide +kernel
theorem dX12_headFor_20 : decode cX12_headFor 20 = .ok (.getfield 32, 3) := by decide +kernel
theorem dX12_headFor_23 : decode cX12_headFor 23 = .ok (.iload_n 1, 1) := by decide +kernel
theorem dX12_headFor_24 : decode cX12_headFor 24 = .ok (.iaload, 1) := by decide +kernel
theorem dX12_headFor_25 : decode cX12_headFor 25 = .ok (.invokevirtual 328, 3) := by decide +kernel
theorem dX12_headFor_28 : decode cX12_headFor 28 = .ok (.iload_n 2, 1) := by decide +kernel
theorem dX12_headFor_29 : decode cX12_headFor 29 = .ok (.iconst (-1), 1) := by decide +kernel
theorem dX12_headFor_30 : decode cX12_headFor 30 = .ok (.if_icmp .ne 9, 3) := by decide +kernel
theorem dX12_headFor_33 : decode cX12_headFor 33 = .ok (.ldc_w 296, 3) := by decide +kernel
theorem dX12_headFor_36 : decode cX12_headFor 36 = .ok (.goto 19, 3) := by decide +kernel
theorem dX12_headFor_39 : decode cX12_headFor 39 = .ok (.aload_n 0, 1) := by decide +kernel
theorem dX12_headFor_40 : decode cX12_headFor 40 = .ok (.aload_n 0, 1) := by decide +kernel
theorem dX12_headFor_41 : decode cX12_headFor 41 = .ok (.getfield 98, 3) := by decide +kernel
theorem dX12_headFor_44 : decode cX12_headFor 44 = .ok (.iload_n 2, 1) := by decide +kernel
theorem dX12_headFor_45 : decode cX12_headFor 45 = .ok (.iaload, 1) := by decide +kernel
theorem dX12_headFor_46 : decode cX12_headFor 46 = .ok (.aload_n 0, 1) := by decide +kernel
theorem dX12_headFor_47 : decode cX12_headFor 47 = .ok (.getfield 32, 3) := by decide +kernel
theorem dX12_headFor_50 : decode cX12_headFor 50 = .ok (.iload_n 1, 1) := by decide +kernel
theorem dX12_headFor_51 : decode cX12_headFor 51 = .ok (.iaload, 1) := by decide +kernel
theorem dX12_headFor_52 : decode cX12_headFor 52 = .ok (.invokevirtual 328, 3) := by decide +kernel
theorem dX12_headFor_55 : decode cX12_headFor 55 = .ok (.if_icmp .ge 5, 3) := by decide +kernel
theorem dX12_headFor_58 : decode cX12_headFor 58 = .ok (.iload_n 3, 1) := by decide +kernel
theorem dX12_headFor_59 : decode cX12_headFor 59 = .ok (.istore_n 2, 1) := by decide +kernel
theorem dX12_headFor_60 : decode cX12_headFor 60 = .ok (.iinc 3 1, 3) := by decide +kernel
theorem dX12_headFor_63 : decode cX12_headFor 63 = .ok (.goto (-59), 3) := by decide +kernel
theorem dX12_headFor_66 : decode cX12_headFor 66 = .ok (.iload_n 2, 1) := by decide +kernel
theorem dX12_headFor_67 : decode cX12_headFor 67 = .ok (.ireturn, 1) := by decide +kernel
theorem okX12_headFor : ab_okM MX12_headFor 1 := ⟨by decide, ⟨by decide, by decide⟩, ab_in 2388 (by decide +kernel) (by decide +kernel), ab_in 99 (by decide +kernel) (by decide +kernel), by decide +kernel, by decide⟩
set_option maxHeartbeats 4000000 in
set_option maxRecDepth 100000 in
theorem sX12_headFor_55 (v1 : Int32) (v2 : Int32) (v3 : Int32) (s0 : Int32) (s1 : Int32)  (x : ab_X) (K : Int32 → Prop) (L4 : Int32 → Int32 → Prop) (d bc bs : Nat) (hdp : 1 ≤ d) (hL4 : ∀ (v2 : Int32) (v3 : Int32), L4 v2 v3 → EW MX12_headFor 4 [(0, .ref 246), (1, .int v1), (2, .int v2), (3, .int v3)] [] (aS x) d bc bs (liP x K)) (h : wX12_headFor_55 v1 v2 v3 s0 s1 x K L4) : EW MX12_headFor 55 [(0, .ref 246), (1, .int v1), (2, .int v2), (3, .int v3)] [.int s1, .int s0] (aS x) d bc bs (liP x K) := by
  unfold wX12_headFor_55 at h
  refine EW_icmp_ge (tgt := 60) (pc2 := 58) rfl dX12_headFor_55 (by decide) (fun q => ?_) (fun q => ?_)
  · replace h := h.1 q
    refine EW_iinc (v3 + 1) (pc2 := 63) rfl dX12_headFor_60 3 rfl rfl (by decide) [1, 2, 3, 0] [(0, .ref 246), (1, .int v1), (2, .int v2), (3, .int (v3 + 1))] rfl ?_
    refine EW_goto (tgt := 4) dX12_headFor_63 (by decide) ?_
    exact hL4 v2 (v3 + 1) h
  · replace h := h.2 q
    refine EW_iload_n (pc2 := 59) rfl dX12_headFor_58 3 rfl ?_
    refine EW_istore_n (pc2 := 60) rfl dX12_headFor_59 (by decide) [1, 2, 0, 3] [(0, .ref 246), (1, .int v1), (2, .int v3), (3, .int v3)] rfl ?_
    refine EW_iinc (v3 + 1) (pc2 := 63) rfl dX12_headFor_60 3 rfl rfl (by decide) [1, 2, 3, 0] [(0, .ref 246), (1, .int v1), (2, .int v3), (3, .int (v3 + 1))] rfl ?_
    refine EW_goto (tgt := 4) dX12_headFor_63 (by decide) ?_
    exact hL4 v3 (v3 + 1) h
set_option maxHeartbeats 4000000 in
set_option maxRecDepth 100000 in
theorem sX12_headFor_4 (v1 : Int32) (v2 : Int32) (v3 : Int32)  (x : ab_X) (K : Int32 → Prop)  (d bc bs : Nat) (hdp : 1 ≤ d)  (h : Lp2 (lX12_headFor_4 v1 x K ) v2 v3) : EW MX12_headFor 4 [(0, .ref 246), (1, .int v1), (2, .int v2), (3, .int v3)] [] (aS x) d bc bs (liP x K) := by
  refine Lp2.use (P := fun v2 v3 => EW MX12_headFor 4 [(0, .ref 246), (1, .int v1), (2, .int v2), (3, .int v3)] [] (aS x) d bc bs (liP x K)) (fun L4 v2 v3 hL4 h => ?_) v2 v3 h
  unfold lX12_headFor_4 at h
  refine EW_iload_n (pc2 := 5) rfl dX12_headFor_4 3 rfl ?_
  refine EW_aload_n (pc2 := 6) rfl dX12_headFor_5 0 rfl ?_
  refine AW_geti ⟨gfRX12_389, rfl⟩ (pc2 := 9) rfl dX12_headFor_6 q246 ?_
  refine EW_icmp_ge (tgt := 66) (pc2 := 12) rfl dX12_headFor_9 (by decide) (fun q => ?_) (fun q => ?_)
  · replace h := h.1 q
    refine EW_iload_n (pc2 := 67) rfl dX12_headFor_66 2 rfl ?_
    exact AW_iret rfl dX12_headFor_67 ⟨_, rfl, rfl, h⟩
  · replace h := h.2 q
    refine EW_aload_n (pc2 := 13) rfl dX12_headFor_12 0 rfl ?_
    refine EW_aload_n (pc2 := 14) rfl dX12_headFor_13 0 rfl ?_
    refine AW_getr (r := 276) ⟨gfRX12_98, rfl⟩ (pc2 := 17) rfl dX12_headFor_14 q246 rfl ?_
    refine EW_iload_n (pc2 := 18) rfl dX12_headFor_17 3 rfl ?_
    obtain ⟨b1, h⟩ := h
    refine AW_iald (pc2 := 19) rfl dX12_headFor_18 q276 b1 ?_
    refine EW_aload_n (pc2 := 20) rfl dX12_headFor_19 0 rfl ?_
    refine AW_getr (r := 254) ⟨gfRX12_32, rfl⟩ (pc2 := 23) rfl dX12_headFor_20 q246 rfl ?_
    refine EW_iload_n (pc2 := 24) rfl dX12_headFor_23 1 rfl ?_
    obtain ⟨b2, h⟩ := h
    refine AW_iald (pc2 := 25) rfl dX12_headFor_24 q254 b2 ?_
    refine AW_invV (M' := MX12_walkOf) [.int (x.1 276 (Int32.toNatClampNeg v3)), .int (x.1 254 (Int32.toNatClampNeg v1))] (rest := []) mlRX12_328 okX12_walkOf (pc2 := 28) rfl dX12_headFor_25 rfl rfl (Nat.le_of_ble_eq_true rfl) (Nat.le_of_ble_eq_true rfl) (d' := 0) (by omega) q246 ⟨by decide, rfl⟩ (EW_mono (fun _ _ hr => ?_) (sX12_walkOf (x.1 276 (Int32.toNatClampNeg v3)) (x.1 254 (Int32.toNatClampNeg v1))  x _ _ 0 0 (Nat.le_refl _) h))
    obtain ⟨r3, rfl, rfl, h⟩ := hr
    refine EW_iload_n (pc2 := 29) rfl dX12_headFor_28 2 rfl ?_
    refine EW_iconst (pc2 := 30) (v := (-1)) rfl dX12_headFor_29 (by decide) ?_
    refine EW_icmp_ne (tgt := 39) (pc2 := 33) rfl dX12_headFor_30 (by decide) (fun q => ?_) (fun q => ?_)
    · replace h := h.1 q
      refine EW_aload_n (pc2 := 40) rfl dX12_headFor_39 0 rfl ?_
      refine EW_aload_n (pc2 := 41) rfl dX12_headFor_40 0 rfl ?_
      refine AW_getr (r := 276) ⟨gfRX12_98, rfl⟩ (pc2 := 44) rfl dX12_headFor_41 q246 rfl ?_
      refine EW_iload_n (pc2 := 45) rfl dX12_headFor_44 2 rfl ?_
      obtain ⟨b4, h⟩ := h
      refine AW_iald (pc2 := 46) rfl dX12_headFor_45 q276 b4 ?_
      refine EW_aload_n (pc2 := 47) rfl dX12_headFor_46 0 rfl ?_
      refine AW_getr (r := 254) ⟨gfRX12_32, rfl⟩ (pc2 := 50) rfl dX12_headFor_47 q246 rfl ?_
      refine EW_iload_n (pc2 := 51) rfl dX12_headFor_50 1 rfl ?_
      obtain ⟨b5, h⟩ := h
      refine AW_iald (pc2 := 52) rfl dX12_headFor_51 q254 b5 ?_
      refine AW_invV (M' := MX12_walkOf) [.int (x.1 276 (Int32.toNatClampNeg v2)), .int (x.1 254 (Int32.toNatClampNeg v1))] (rest := [.int r3]) mlRX12_328 okX12_walkOf (pc2 := 55) rfl dX12_headFor_52 rfl rfl (Nat.le_of_ble_eq_true rfl) (Nat.le_of_ble_eq_true rfl) (d' := 0) (by omega) q246 ⟨by decide, rfl⟩ (EW_mono (fun _ _ hr => ?_) (sX12_walkOf (x.1 276 (Int32.toNatClampNeg v2)) (x.1 254 (Int32.toNatClampNeg v1))  x _ _ 0 0 (Nat.le_refl _) h))
      obtain ⟨r6, rfl, rfl, h⟩ := hr
      exact sX12_headFor_55 v1 v2 v3 r3 r6 x K L4 d bc bs hdp hL4 h
    · replace h := h.2 q
      refine EW_ldcw cnRX12_296 (pc2 := 36) rfl dX12_headFor_33 ?_
      refine EW_goto (tgt := 55) dX12_headFor_36 (by decide) ?_
      exact sX12_headFor_55 v1 v2 v3 r3 1000000 x K L4 d bc bs hdp hL4 h
set_option maxHeartbeats 4000000 in
set_option maxRecDepth 100000 in
theorem sX12_headFor (v1 : Int32)  (x : ab_X) (K : Int32 → Prop) (d bc bs : Nat) (hdp : 1 ≤ d) (h : wX12_headFor v1 x K) : EW MX12_headFor 0 [(0, .ref 246), (1, .int v1)] [] (aS x) d bc bs (liP x K) := by
  unfold wX12_headFor at h
  refine EW_iconst (pc2 := 1) (v := (-1)) rfl dX12_headFor_0 (by decide) ?_
  refine EW_istore_n (pc2 := 2) rfl dX12_headFor_1 (by decide) [1, 2, 0] [(0, .ref 246), (1, .int v1), (2, .int (-1))] rfl ?_
  refine EW_iconst (pc2 := 3) (v := 0) rfl dX12_headFor_2 (by decide) ?_
  refine EW_istore_n (pc2 := 4) rfl dX12_headFor_3 (by decide) [1, 2, 3, 0] [(0, .ref 246), (1, .int v1), (2, .int (-1)), (3, .int 0)] rfl ?_
  exact sX12_headFor_4 v1 (-1) 0 x K d bc bs hdp h
abbrev MX12_heal : ab_M := (yX12_heal, cX12_heal, 2, (some .boolean))
theorem dX12_heal_0 : decode cX12_heal 0 = .ok (.aload_n 0, 1) := by decide +kernel
theorem dX12_heal_1 : decode cX12_heal 1 = .ok (.iconst 0, 1) := by decide +kernel
theorem dX12_heal_2 : decode cX12_heal 2 = .ok (.putfield 297, 3) := by decide +kernel
theorem dX12_heal_5 : decode cX12_heal 5 = .ok (.aload_n 0, 1) := by decide +kernel
theorem dX12_heal_6 : decode cX12_heal 6 = .ok (.iload_n 1, 1) := by decide +kernel
theorem dX12_heal_7 : decode cX12_heal 7 = .ok (.invokevirtual 392, 3) := by decide +kernel
theorem dX12_heal_10 : decode cX12_heal 10 = .ok (.ifCond .eq 13, 3) := by decide +kernel
theorem dX12_heal_13 : decode cX12_heal 13 = .ok (.aload_n 0, 1) := by decide +kernel
theorem dX12_heal_14 : decode cX12_heal 14 = .ok (.getfield 128, 3) := by decide +kernel
theorem dX12_heal_17 : decode cX12_heal 17 = .ok (.iload_n 1, 1) := by decide +kernel
theorem dX12_heal_18 : decode cX12_heal 18 = .ok (.iaload, 1) := by decide +kernel
theorem dX12_heal_19 : decode cX12_heal 19 = .ok (.iconst 4, 1) := by decide +kernel
theorem dX12_heal_20 : decode cX12_heal 20 = .ok (.if_icmp .eq 5, 3) := by decide +kernel
theorem dX12_heal_23 : decode cX12_heal 23 = .ok (.iconst 0, 1) := by decide +kernel
theorem dX12_heal_24 : decode cX12_heal 24 = .ok (.ireturn, 1) := by decide +kernel
theorem dX12_heal_25 : decode cX12_heal 25 = .ok (.aload_n 0, 1) := by decide +kernel
theorem dX12_heal_26 : decode cX12_heal 26 = .ok (.iload_n 1, 1) := by decide +kernel
theorem dX12_heal_27 : decode cX12_heal 27 = .ok (.aload_n 0, 1) := by decide +kernel
theorem dX12_heal_28 : decode cX12_heal 28 = .ok (.getfield 110, 3) := by decide +kernel
theorem dX12_heal_31 : decode cX12_heal 31 = .ok (.iload_n 1, 1) := by decide +kernel
theorem dX12_heal_32 : decode cX12_heal 32 = .ok (.iaload, 1) := by decide +kernel
theorem dX12_heal_33 : decode cX12_heal 33 = .ok (.invokevirtual 401, 3) := by decide +kernel
theorem dX12_heal_36 : decode cX12_heal 36 = .ok (.iconst 1, 1) := by decide +kernel
theorem dX12_heal_37 : decode cX12_heal 37 = .ok (.ireturn, 1) := by decide +kernel
theorem okX12_heal : ab_okM MX12_heal 1 := ⟨by decide, ⟨by decide, by decide⟩, ab_in 2356 (by decide +kernel) (by decide +kernel), ab_in 99 (by decide +kernel) (by decide +kernel), by decide +kernel, by decide⟩
set_option maxHeartbeats 4000000 in
set_option maxRecDepth 100000 in
theorem sX12_heal (v1 : Int32)  (x : ab_X) (K : Int32 → ab_X → Prop) (d bc bs : Nat) (hdp : 1 ≤ d) (h : wX12_heal v1 x K) : EW MX12_heal 0 [(0, .ref 246), (1, .int v1)] [] (aS x) d bc bs (liI K) := by
  unfold wX12_heal at h
  refine EW_aload_n (pc2 := 1) rfl dX12_heal_0 0 rfl ?_
  refine EW_iconst (pc2 := 2) (v := 0) rfl dX12_heal_1 (by decide) ?_
  refine AW_puti ⟨gfRX12_297, rfl, rfl⟩ (pc2 := 5) rfl dX12_heal_2 q246 ?_
  refine EW_aload_n (pc2 := 6) rfl dX12_heal_5 0 rfl ?_
  refine EW_iload_n (pc2 := 7) rfl dX12_heal_6 1 rfl ?_
  refine AW_invV (M' := MX12_isCrew) [.int v1] (rest := []) mlRX12_392 okX12_isCrew (pc2 := 10) rfl dX12_heal_7 rfl rfl (Nat.le_of_ble_eq_true rfl) (Nat.le_of_ble_eq_true rfl) (d' := 0) (by omega) q246 ⟨by decide, rfl⟩ (EW_mono (fun _ _ hr => ?_) (sX12_isCrew v1  (wr x 246 0 0) _ _ 0 0 (Nat.le_refl _) h))
  obtain ⟨r1, rfl, rfl, h⟩ := hr
  refine EW_if_eq (tgt := 23) (pc2 := 13) rfl dX12_heal_10 (by decide) (fun q => ?_) (fun q => ?_)
  · replace h := h.1 q
    refine EW_iconst (pc2 := 24) (v := 0) rfl dX12_heal_23 (by decide) ?_
    exact AW_zret rfl isB0 dX12_heal_24 ⟨_, _, rfl, rfl, h⟩
  · replace h := h.2 q
    refine EW_aload_n (pc2 := 14) rfl dX12_heal_13 0 rfl ?_
    refine AW_getr (r := 286) ⟨gfRX12_128, rfl⟩ (pc2 := 17) rfl dX12_heal_14 q246 rfl ?_
    refine EW_iload_n (pc2 := 18) rfl dX12_heal_17 1 rfl ?_
    obtain ⟨b2, h⟩ := h
    refine AW_iald (pc2 := 19) rfl dX12_heal_18 q286 b2 ?_
    refine EW_iconst (pc2 := 20) (v := 4) rfl dX12_heal_19 (by decide) ?_
    refine EW_icmp_eq (tgt := 25) (pc2 := 23) rfl dX12_heal_20 (by decide) (fun q => ?_) (fun q => ?_)
    · replace h := h.1 q
      refine EW_aload_n (pc2 := 26) rfl dX12_heal_25 0 rfl ?_
      refine EW_iload_n (pc2 := 27) rfl dX12_heal_26 1 rfl ?_
      refine EW_aload_n (pc2 := 28) rfl dX12_heal_27 0 rfl ?_
      refine AW_getr (r := 280) ⟨gfRX12_110, rfl⟩ (pc2 := 31) rfl dX12_heal_28 q246 rfl ?_
      refine EW_iload_n (pc2 := 32) rfl dX12_heal_31 1 rfl ?_
      obtain ⟨b3, h⟩ := h
      refine AW_iald (pc2 := 33) rfl dX12_heal_32 q280 b3 ?_
      refine AW_invV (M' := MX12_rests) [.int v1, .int ((wr x 246 0 0).1 280 (Int32.toNatClampNeg v1))] (rest := []) mlRX12_401 okX12_rests (pc2 := 36) rfl dX12_heal_33 rfl rfl (Nat.le_of_ble_eq_true rfl) (Nat.le_of_ble_eq_true rfl) (d' := 0) (by omega) q246 ⟨by decide, rfl⟩ (EW_mono (fun _ _ hr => ?_) (sX12_rests v1 ((wr x 246 0 0).1 280 (Int32.toNatClampNeg v1))  (wr x 246 0 0) _ _ 0 0 (Nat.le_refl _) h))
      obtain ⟨x4, rfl, rfl, h⟩ := hr
      refine EW_iconst (pc2 := 37) (v := 1) rfl dX12_heal_36 (by decide) ?_
      exact AW_zret rfl isB1 dX12_heal_37 ⟨_, _, rfl, rfl, h⟩
    · replace h := h.2 q
      refine EW_iconst (pc2 := 24) (v := 0) rfl dX12_heal_23 (by decide) ?_
      exact AW_zret rfl isB0 dX12_heal_24 ⟨_, _, rfl, rfl, h⟩
abbrev MX12_house : ab_M := (yX12_house, cX12_house, 6, (some .int))
theorem dX12_house_0 : decode cX12_house 0 = .ok (.aload_n 0, 1) := by decide +kernel
theorem dX12_house_1 : decode cX12_house 1 = .ok (.iconst 0, 1) := by decide +kernel
theorem dX12_house_2 : decode cX12_house 2 = .ok (.putfield 297, 3) := by decide +kernel
theorem dX12_house_5 : decode cX12_house 5 = .ok (.aload_n 0, 1) := by decide +kernel
theorem dX12_house_6 : decode cX12_house 6 = .ok (.getfield 331, 3) := by decide +kernel
theorem dX12_house_9 : decode cX12_house 9 = .ok (.bipush 12, 2) := by decide +kernel
theorem dX12_house_11 : decode cX12_house 11 = .ok (.if_icmp .eq 52, 3) := by decide +kernel
theorem dX12_house_14 : decode cX12_house 14 = .ok (.iload_n 1, 1) := by decide +kernel
theorem dX12_house_15 : decode cX12_house 15 = .ok (.invokestatic 303, 3) := by decide +kernel
theorem dX12_house_18 : decode cX12_house 18 = .ok (.ifCond .eq 45, 3) := by decide +kernel
theorem dX12_house_21 : decode cX12_house 21 = .ok (.iload_n 2, 1) := by decide +kernel
theorem dX12_house_22 : decode cX12_house 22 = .ok (.iconst 0, 1) := by decide +kernel
theorem dX12_house_23 : decode cX12_house 23 = .ok (.iconst 2, 1) := by decide +kernel
theorem dX12_house_24 : decode cX12_house 24 = .ok (.invokestatic 307, 3) := by decide +kernel
theorem dX12_house_27 : decode cX12_house 27 = .ok (.ifCond .eq 36, 3) := by decide +kernel
theorem dX12_house_30 : decode cX12_house 30 = .ok (.iload_n 3, 1) := by decide +kernel
theorem dX12_house_31 : decode cX12_house 31 = .ok (.iconst 1, 1) := by decide +kernel
theorem dX12_house_32 : decode cX12_house 32 = .ok (.bipush 6, 2) := by decide +kernel
theorem dX12_house_34 : decode cX12_house 34 = .ok (.invokestatic 307, 3) := by decide +kernel
theorem dX12_house_37 : decode cX12_house 37 = .ok (.ifCond .eq 26, 3) := by decide +kernel
theorem dX12_house_40 : decode cX12_house 40 = .ok (.iload 4, 2) := by decide +kernel
theorem dX12_house_42 : decode cX12_house 42 = .ok (.iconst 1, 1) := by decide +kernel
theorem dX12_house_43 : decode cX12_house 43 = .ok (.iconst 4, 1) := by decide +kernel
theorem dX12_house_44 : decode cX12_house 44 = .ok (.invokestatic 307, 3) := by decide +kernel
theorem dX12_house_47 : decode cX12_house 47 = .ok (.ifCond .eq 16, 3) := by decide +kernel
theorem dX12_house_50 : decode cX12_house 50 = .ok (.iload 5, 2) := by decide +kernel
theorem dX12_house_52 : decode cX12_house 52 = .ok (.iconst (-1), 1) := by decide +kernel
theorem dX12_house_53 : decode cX12_house 53 = .ok (.iload 4, 2) := by decide +kernel
theorem dX12_house_55 : decode cX12_house 55 = .ok (.iconst 1, 1) := by decide +kernel
theorem dX12_house_56 : decode cX12_house 56 = .ok (.isub, 1) := by decide +kernel
theorem dX12_house_57 : decode cX12_house 57 = .ok (.invokestatic 307, 3) := by decide +kernel
theorem dX12_house_60 : decode cX12_house 60 = .ok (.ifCond .ne 5, 3) := by decide +kernel
theorem dX12_house_63 : decode cX12_house 63 = .ok (.iconst (-1), 1) := by decide +kernel
theorem dX12_house_64 : decode cX12_house 64 = .ok (.ireturn, 1) := by decide +kernel
theorem dX12_house_65 : decode cX12_house 65 = .ok (.aload_n 0, 1) := by decide +kernel
theorem dX12_house_66 : decode cX12_house 66 = .ok (.getfield 32, 3) := by decide +kernel
theorem dX12_house_69 : decode cX12_house 69 = .ok (.aload_n 0, 1) := by decide +kernel
theorem dX12_house_70 : decode cX12_house 70 = .ok (.getfield 331, 3) := by decide +kernel
theorem dX12_house_73 : decode cX12_house 73 = .ok (.iload_n 1, 1) := by decide +kernel
theorem dX12_house_74 : decode cX12_house 74 = .ok (.iastore, 1) := by decide +kernel
theorem dX12_house_75 : decode cX12_house 75 = .ok (.aload_n 0, 1) := by decide +kernel
theorem dX12_house_76 : decode cX12_house 76 = .ok (.getfield 35, 3) := by decide +kernel
theorem dX12_house_79 : decode cX12_house 79 = .ok (.aload_n 0, 1) := by decide +kernel
theorem dX12_house_80 : decode cX12_house 80 = .ok (.getfield 331, 3) := by decide +kernel
theorem dX12_house_83 : decode cX12_house 83 = .ok (.iload_n 2, 1) := by decide +kernel
theorem dX12_house_84 : decode cX12_house 84 = .ok (.iastore, 1) := by decide +kernel
theorem dX12_house_85 : decode cX12_house 85 = .ok (.aload_n 0, 1) := by decide +kernel
theorem dX12_house_86 : decode cX12_house 86 = .ok (.getfield 38, 3) := by decide +kernel
theorem dX12_house_89 : decode cX12_house 89 = .ok (.aload_n 0, 1) := by decide +kernel
theorem dX12_house_90 : decode cX12_house 90 = .ok (.getfield 331, 3) := by decide +kernel
theorem dX12_house_93 : decode cX12_house 93 = .ok (.iload_n 3, 1) := by decide +kernel
theorem dX12_house_94 : decode cX12_house 94 = .ok (.iastore, 1) := by decide +kernel
theorem dX12_house_95 : decode cX12_house 95 = .ok (.aload_n 0, 1) := by decide +kernel
theorem dX12_house_96 : decode cX12_house 96 = .ok (.getfield 41, 3) := by decide +kernel
theorem dX12_house_99 : decode cX12_house 99 = .ok (.aload_n 0, 1) := by decide +kernel
theorem dX12_house_100 : decode cX12_house 100 = .ok (.getfield 331, 3) := by decide +kernel
theorem dX12_house_103 : decode cX12_house 103 = .ok (.iload 4, 2) := by decide +kernel
theorem dX12_house_105 : decode cX12_house 105 = .ok (.iastore, 1) := by decide +kernel
theorem dX12_house_106 : decode cX12_house 106 = .ok (.aload_n 0, 1) := by decide +kernel
theorem dX12_house_107 : decode cX12_house 107 = .ok (.getfield 44, 3) := by decide +kernel
theorem dX12_house_110 : decode cX12_house 110 = .ok (.aload_n 0, 1) := by decide +kernel
theorem dX12_house_111 : decode cX12_house 111 = .ok (.getfield 331, 3) := by decide +kernel
theorem dX12_house_114 : decode cX12_house 114 = .ok (.iload 5, 2) := by decide +kernel
theorem dX12_house_116 : decode cX12_house 116 = .ok (.iastore, 1) := by decide +kernel
theorem dX12_house_117 : decode cX12_house 117 = .ok (.aload_n 0, 1) := by decide +kernel
theorem dX12_house_118 : decode cX12_house 118 = .ok (.getfield 50, 3) := by decide +kernel
theorem dX12_house_121 : decode cX12_house 121 = .ok (.aload_n 0, 1) := by decide +kernel
theorem dX12_house_122 : decode cX12_house 122 = .ok (.getfield 331, 3) := by decide +kernel
theorem dX12_house_125 : decode cX12_house 125 = .ok (.iconst 1, 1) := by decide +kernel
theorem dX12_house_126 : decode cX12_house 126 = .ok (.iastore, 1) := by decide +kernel
theorem dX12_house_127 : decode cX12_house 127 = .ok (.aload_n 0, 1) := by decide +kernel
theorem dX12_house_128 : decode cX12_house 128 = .ok (.dup, 1) := by decide +kernel
theorem dX12_house_129 : decode cX12_house 129 = .ok (.getfield 331, 3) := by decide +kernel
theorem dX12_house_132 : decode cX12_house 132 = .ok (.iconst 1, 1) := by decide +kernel
theorem dX12_house_133 : decode cX12_house 133 = .ok (.iadd, 1) := by decide +kernel
theorem dX12_house_134 : decode cX12_house 134 = .ok (.putfield 331, 3) := by decide +kernel
theorem dX12_house_137 : decode cX12_house 137 = .ok (.aload_n 0, 1) := by decide +kernel
theorem dX12_house_138 : decode cX12_house 138 = .ok (.getfield 331, 3) := by decide +kernel
theorem dX12_house_141 : decode cX12_house 141 = .ok (.iconst 1, 1) := by decide +kernel
theorem dX12_house_142 : decode cX12_house 142 = .ok (.isub, 1) := by decide +kernel
theorem dX12_house_143 : decode cX12_house 143 = .ok (.ireturn, 1) := by decide +kernel
theorem okX12_house : ab_okM MX12_house 5 := ⟨by decide, ⟨by decide, by decide⟩, ab_in 2263 (by decide +kernel) (by decide +kernel), ab_in 99 (by decide +kernel) (by decide +kernel), by decide +kernel, by decide⟩
set_option maxHeartbeats 4000000 in
set_option maxRecDepth 100000 in
theorem sX12_house (v1 : Int32) (v2 : Int32) (v3 : Int32) (v4 : Int32) (v5 : Int32)  (x : ab_X) (K : Int32 → ab_X → Prop) (d bc bs : Nat) (hdp : 1 ≤ d) (h : wX12_house v1 v2 v3 v4 v5 x K) : EW MX12_house 0 [(0, .ref 246), (1, .int v1), (2, .int v2), (3, .int v3), (4, .int v4), (5, .int v5)] [] (aS x) d bc bs (liI K) := by
  unfold wX12_house at h
  refine EW_aload_n (pc2 := 1) rfl dX12_house_0 0 rfl ?_
  refine EW_iconst (pc2 := 2) (v := 0) rfl dX12_house_1 (by decide) ?_
  refine AW_puti ⟨gfRX12_297, rfl, rfl⟩ (pc2 := 5) rfl dX12_house_2 q246 ?_
  refine EW_aload_n (pc2 := 6) rfl dX12_house_5 0 rfl ?_
  refine AW_geti ⟨gfRX12_331, rfl⟩ (pc2 := 9) rfl dX12_house_6 q246 ?_
  refine EW_bipush (pc2 := 11) (v := 12) rfl dX12_house_9 (by decide) ?_
  refine EW_icmp_eq (tgt := 63) (pc2 := 14) rfl dX12_house_11 (by decide) (fun q => ?_) (fun q => ?_)
  · replace h := h.1 q
    refine EW_iconst (pc2 := 64) (v := (-1)) rfl dX12_house_63 (by decide) ?_
    exact AW_iret rfl dX12_house_64 ⟨_, _, rfl, rfl, h⟩
  · replace h := h.2 q
    refine EW_iload_n (pc2 := 15) rfl dX12_house_14 1 rfl ?_
    refine AW_invS (M' := MX12_isCorner) [.int v1] (rest := []) mlRX12_303 okX12_isCorner (pc2 := 18) rfl dX12_house_15 rfl rfl (Nat.le_of_ble_eq_true rfl) (Nat.le_of_ble_eq_true rfl) (d' := 0) (by omega) (EW_mono (fun _ _ hr => ?_) (sX12_isCorner v1  (wr x 246 0 0) _ _ 0 0 (Nat.le_refl _) h))
    obtain ⟨r1, rfl, rfl, h⟩ := hr
    refine EW_if_eq (tgt := 63) (pc2 := 21) rfl dX12_house_18 (by decide) (fun q => ?_) (fun q => ?_)
    · replace h := h.1 q
      refine EW_iconst (pc2 := 64) (v := (-1)) rfl dX12_house_63 (by decide) ?_
      exact AW_iret rfl dX12_house_64 ⟨_, _, rfl, rfl, h⟩
    · replace h := h.2 q
      refine EW_iload_n (pc2 := 22) rfl dX12_house_21 2 rfl ?_
      refine EW_iconst (pc2 := 23) (v := 0) rfl dX12_house_22 (by decide) ?_
      refine EW_iconst (pc2 := 24) (v := 2) rfl dX12_house_23 (by decide) ?_
      refine AW_invS (M' := MX12_isIn) [.int v2, .int 0, .int 2] (rest := []) mlRX12_307 okX12_isIn (pc2 := 27) rfl dX12_house_24 rfl rfl (Nat.le_of_ble_eq_true rfl) (Nat.le_of_ble_eq_true rfl) (d' := 0) (by omega) (EW_mono (fun _ _ hr => ?_) (sX12_isIn v2 0 2  (wr x 246 0 0) _ _ 0 0 (Nat.le_refl _) h))
      obtain ⟨r2, rfl, rfl, h⟩ := hr
      refine EW_if_eq (tgt := 63) (pc2 := 30) rfl dX12_house_27 (by decide) (fun q => ?_) (fun q => ?_)
      · replace h := h.1 q
        refine EW_iconst (pc2 := 64) (v := (-1)) rfl dX12_house_63 (by decide) ?_
        exact AW_iret rfl dX12_house_64 ⟨_, _, rfl, rfl, h⟩
      · replace h := h.2 q
        refine EW_iload_n (pc2 := 31) rfl dX12_house_30 3 rfl ?_
        refine EW_iconst (pc2 := 32) (v := 1) rfl dX12_house_31 (by decide) ?_
        refine EW_bipush (pc2 := 34) (v := 6) rfl dX12_house_32 (by decide) ?_
        refine AW_invS (M' := MX12_isIn) [.int v3, .int 1, .int 6] (rest := []) mlRX12_307 okX12_isIn (pc2 := 37) rfl dX12_house_34 rfl rfl (Nat.le_of_ble_eq_true rfl) (Nat.le_of_ble_eq_true rfl) (d' := 0) (by omega) (EW_mono (fun _ _ hr => ?_) (sX12_isIn v3 1 6  (wr x 246 0 0) _ _ 0 0 (Nat.le_refl _) h))
        obtain ⟨r3, rfl, rfl, h⟩ := hr
        refine EW_if_eq (tgt := 63) (pc2 := 40) rfl dX12_house_37 (by decide) (fun q => ?_) (fun q => ?_)
        · replace h := h.1 q
          refine EW_iconst (pc2 := 64) (v := (-1)) rfl dX12_house_63 (by decide) ?_
          exact AW_iret rfl dX12_house_64 ⟨_, _, rfl, rfl, h⟩
        · replace h := h.2 q
          refine EW_iload (pc2 := 42) rfl dX12_house_40 4 rfl ?_
          refine EW_iconst (pc2 := 43) (v := 1) rfl dX12_house_42 (by decide) ?_
          refine EW_iconst (pc2 := 44) (v := 4) rfl dX12_house_43 (by decide) ?_
          refine AW_invS (M' := MX12_isIn) [.int v4, .int 1, .int 4] (rest := []) mlRX12_307 okX12_isIn (pc2 := 47) rfl dX12_house_44 rfl rfl (Nat.le_of_ble_eq_true rfl) (Nat.le_of_ble_eq_true rfl) (d' := 0) (by omega) (EW_mono (fun _ _ hr => ?_) (sX12_isIn v4 1 4  (wr x 246 0 0) _ _ 0 0 (Nat.le_refl _) h))
          obtain ⟨r4, rfl, rfl, h⟩ := hr
          refine EW_if_eq (tgt := 63) (pc2 := 50) rfl dX12_house_47 (by decide) (fun q => ?_) (fun q => ?_)
          · replace h := h.1 q
            refine EW_iconst (pc2 := 64) (v := (-1)) rfl dX12_house_63 (by decide) ?_
            exact AW_iret rfl dX12_house_64 ⟨_, _, rfl, rfl, h⟩
          · replace h := h.2 q
            refine EW_iload (pc2 := 52) rfl dX12_house_50 5 rfl ?_
            refine EW_iconst (pc2 := 53) (v := (-1)) rfl dX12_house_52 (by decide) ?_
            refine EW_iload (pc2 := 55) rfl dX12_house_53 4 rfl ?_
            refine EW_iconst (pc2 := 56) (v := 1) rfl dX12_house_55 (by decide) ?_
            refine EW_isub (pc2 := 57) rfl dX12_house_56 ?_
            refine AW_invS (M' := MX12_isIn) [.int v5, .int (-1), .int (v4 - 1)] (rest := []) mlRX12_307 okX12_isIn (pc2 := 60) rfl dX12_house_57 rfl rfl (Nat.le_of_ble_eq_true rfl) (Nat.le_of_ble_eq_true rfl) (d' := 0) (by omega) (EW_mono (fun _ _ hr => ?_) (sX12_isIn v5 (-1) (v4 - 1)  (wr x 246 0 0) _ _ 0 0 (Nat.le_refl _) h))
            obtain ⟨r5, rfl, rfl, h⟩ := hr
            refine EW_if_ne (tgt := 65) (pc2 := 63) rfl dX12_house_60 (by decide) (fun q => ?_) (fun q => ?_)
            · replace h := h.1 q
              refine EW_aload_n (pc2 := 66) rfl dX12_house_65 0 rfl ?_
              refine AW_getr (r := 254) ⟨gfRX12_32, rfl⟩ (pc2 := 69) rfl dX12_house_66 q246 rfl ?_
              refine EW_aload_n (pc2 := 70) rfl dX12_house_69 0 rfl ?_
              refine AW_geti ⟨gfRX12_331, rfl⟩ (pc2 := 73) rfl dX12_house_70 q246 ?_
              refine EW_iload_n (pc2 := 74) rfl dX12_house_73 1 rfl ?_
              obtain ⟨b6, h⟩ := h
              refine AW_iast (pc2 := 75) rfl dX12_house_74 q254 b6 ?_
              refine EW_aload_n (pc2 := 76) rfl dX12_house_75 0 rfl ?_
              refine AW_getr (r := 255) ⟨gfRX12_35, rfl⟩ (pc2 := 79) rfl dX12_house_76 q246 rfl ?_
              refine EW_aload_n (pc2 := 80) rfl dX12_house_79 0 rfl ?_
              refine AW_geti ⟨gfRX12_331, rfl⟩ (pc2 := 83) rfl dX12_house_80 q246 ?_
              refine EW_iload_n (pc2 := 84) rfl dX12_house_83 2 rfl ?_
              obtain ⟨b7, h⟩ := h
              refine AW_iast (pc2 := 85) rfl dX12_house_84 q255 b7 ?_
              refine EW_aload_n (pc2 := 86) rfl dX12_house_85 0 rfl ?_
              refine AW_getr (r := 256) ⟨gfRX12_38, rfl⟩ (pc2 := 89) rfl dX12_house_86 q246 rfl ?_
              refine EW_aload_n (pc2 := 90) rfl dX12_house_89 0 rfl ?_
              refine AW_geti ⟨gfRX12_331, rfl⟩ (pc2 := 93) rfl dX12_house_90 q246 ?_
              refine EW_iload_n (pc2 := 94) rfl dX12_house_93 3 rfl ?_
              obtain ⟨b8, h⟩ := h
              refine AW_iast (pc2 := 95) rfl dX12_house_94 q256 b8 ?_
              refine EW_aload_n (pc2 := 96) rfl dX12_house_95 0 rfl ?_
              refine AW_getr (r := 257) ⟨gfRX12_41, rfl⟩ (pc2 := 99) rfl dX12_house_96 q246 rfl ?_
              refine EW_aload_n (pc2 := 100) rfl dX12_house_99 0 rfl ?_
              refine AW_geti ⟨gfRX12_331, rfl⟩ (pc2 := 103) rfl dX12_house_100 q246 ?_
              refine EW_iload (pc2 := 105) rfl dX12_house_103 4 rfl ?_
              obtain ⟨b9, h⟩ := h
              refine AW_iast (pc2 := 106) rfl dX12_house_105 q257 b9 ?_
              refine EW_aload_n (pc2 := 107) rfl dX12_house_106 0 rfl ?_
              refine AW_getr (r := 258) ⟨gfRX12_44, rfl⟩ (pc2 := 110) rfl dX12_house_107 q246 rfl ?_
              refine EW_aload_n (pc2 := 111) rfl dX12_house_110 0 rfl ?_
              refine AW_geti ⟨gfRX12_331, rfl⟩ (pc2 := 114) rfl dX12_house_111 q246 ?_
              refine EW_iload (pc2 := 116) rfl dX12_house_114 5 rfl ?_
              obtain ⟨b10, h⟩ := h
              refine AW_iast (pc2 := 117) rfl dX12_house_116 q258 b10 ?_
              refine EW_aload_n (pc2 := 118) rfl dX12_house_117 0 rfl ?_
              refine AW_getr (r := 260) ⟨gfRX12_50, rfl⟩ (pc2 := 121) rfl dX12_house_118 q246 rfl ?_
              refine EW_aload_n (pc2 := 122) rfl dX12_house_121 0 rfl ?_
              refine AW_geti ⟨gfRX12_331, rfl⟩ (pc2 := 125) rfl dX12_house_122 q246 ?_
              refine EW_iconst (pc2 := 126) (v := 1) rfl dX12_house_125 (by decide) ?_
              obtain ⟨b11, h⟩ := h
              refine AW_iast (pc2 := 127) rfl dX12_house_126 q260 b11 ?_
              refine EW_aload_n (pc2 := 128) rfl dX12_house_127 0 rfl ?_
              refine EW_dup (pc2 := 129) rfl dX12_house_128 rfl ?_
              refine AW_geti ⟨gfRX12_331, rfl⟩ (pc2 := 132) rfl dX12_house_129 q246 ?_
              refine EW_iconst (pc2 := 133) (v := 1) rfl dX12_house_132 (by decide) ?_
              refine EW_iadd (pc2 := 134) rfl dX12_house_133 ?_
              refine AW_puti ⟨gfRX12_331, rfl, rfl⟩ (pc2 := 137) rfl dX12_house_134 q246 ?_
              refine EW_aload_n (pc2 := 138) rfl dX12_house_137 0 rfl ?_
              refine AW_geti ⟨gfRX12_331, rfl⟩ (pc2 := 141) rfl dX12_house_138 q246 ?_
              refine EW_iconst (pc2 := 142) (v := 1) rfl dX12_house_141 (by decide) ?_
              refine EW_isub (pc2 := 143) rfl dX12_house_142 ?_
              exact AW_iret rfl dX12_house_143 ⟨_, _, rfl, rfl, h⟩
            · replace h := h.2 q
              refine EW_iconst (pc2 := 64) (v := (-1)) rfl dX12_house_63 (by decide) ?_
              exact AW_iret rfl dX12_house_64 ⟨_, _, rfl, rfl, h⟩
