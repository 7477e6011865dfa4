theorem gfRX0_35 : ab_L RX0 35 0 9 := ⟨by decide, by decide, ab_in 560 (by decide +kernel) (by decide +kernel)⟩
theorem gfRX0_144 : ab_L RX0 144 0 12 := ⟨by decide, by decide, ab_in 563 (by decide +kernel) (by decide +kernel)⟩
theorem gfRX0_318 : ab_L RX0 318 2 14 := ⟨by decide, by decide, ab_in 447 (by decide +kernel) (by decide +kernel)⟩
theorem gfRX0_49 : ab_L RX0 49 0 1 := ⟨by decide, by decide, ab_in 544 (by decide +kernel) (by decide +kernel)⟩
theorem gfRX0_100 : ab_L RX0 100 10 3 := ⟨by decide, by decide, ab_in 318 (by decide +kernel) (by decide +kernel)⟩
theorem gfRX0_359 : ab_L RX0 359 3 0 := ⟨by decide, by decide, ab_in 177 (by decide +kernel) (by decide +kernel)⟩
theorem mlRX0_350 : Cond.methodLink RX0 350 yX4_place ∈ ab_G ∧ Cond.instanceMethod yX4_place ∈ ab_G ∧ Cond.selects RX4 yX4_place yX4_place ∈ ab_G := ⟨ab_in 1412 (by decide +kernel) (by decide +kernel), ab_in 872 (by decide +kernel) (by decide +kernel), ab_in 873 (by decide +kernel) (by decide +kernel)⟩
theorem gfRX0_369 : ab_L RX0 369 2 4 := ⟨by decide, by decide, ab_in 418 (by decide +kernel) (by decide +kernel)⟩
theorem mlRX0_266 : Cond.methodLink RX0 266 yX3_burningRooms ∈ ab_G ∧ Cond.instanceMethod yX3_burningRooms ∈ ab_G ∧ Cond.selects RX3 yX3_burningRooms yX3_burningRooms ∈ ab_G := ⟨ab_in 1377 (by decide +kernel) (by decide +kernel), ab_in 884 (by decide +kernel) (by decide +kernel), ab_in 885 (by decide +kernel) (by decide +kernel)⟩
theorem gfRX0_30 : ab_L RX0 30 0 8 := ⟨by decide, by decide, ab_in 558 (by decide +kernel) (by decide +kernel)⟩
theorem mlRX0_173 : Cond.methodLink RX0 173 yX9_run ∈ ab_G ∧ Cond.instanceMethod yX9_run ∈ ab_G ∧ Cond.selects RX9 yX9_run yX9_run ∈ ab_G := ⟨ab_in 1073 (by decide +kernel) (by decide +kernel), ab_in 1074 (by decide +kernel) (by decide +kernel), ab_in 1075 (by decide +kernel) (by decide +kernel)⟩
theorem mlRX0_372 : Cond.methodLink RX0 372 yX9_holds ∈ ab_G ∧ Cond.instanceMethod yX9_holds ∈ ab_G ∧ Cond.selects RX9 yX9_holds yX9_holds ∈ ab_G := ⟨ab_in 1424 (by decide +kernel) (by decide +kernel), ab_in 1425 (by decide +kernel) (by decide +kernel), ab_in 1426 (by decide +kernel) (by decide +kernel)⟩
theorem mlRX0_341 : Cond.methodLink RX0 341 yX4_floorOf ∈ ab_G ∧ Cond.instanceMethod yX4_floorOf ∈ ab_G ∧ Cond.selects RX4 yX4_floorOf yX4_floorOf ∈ ab_G := ⟨ab_in 1418 (by decide +kernel) (by decide +kernel), ab_in 900 (by decide +kernel) (by decide +kernel), ab_in 901 (by decide +kernel) (by decide +kernel)⟩
theorem mlRX0_362 : Cond.methodLink RX0 362 yX4_limit ∈ ab_G ∧ Cond.instanceMethod yX4_limit ∈ ab_G ∧ Cond.selects RX4 yX4_limit yX4_limit ∈ ab_G := ⟨ab_in 1419 (by decide +kernel) (by decide +kernel), ab_in 1420 (by decide +kernel) (by decide +kernel), ab_in 1421 (by decide +kernel) (by decide +kernel)⟩
theorem mlRX0_365 : Cond.methodLink RX0 365 yX3_load ∈ ab_G ∧ Cond.instanceMethod yX3_load ∈ ab_G ∧ Cond.selects RX3 yX3_load yX3_load ∈ ab_G := ⟨ab_in 1423 (by decide +kernel) (by decide +kernel), ab_in 922 (by decide +kernel) (by decide +kernel), ab_in 923 (by decide +kernel) (by decide +kernel)⟩
abbrev MX0_isLeaving : ab_M := (yX0_isLeaving, cX0_isLeaving, 6, (some .boolean))
theorem dX0_isLeaving_0 : decode cX0_isLeaving 0 = .ok (.aload_n 2, 1) := by decide +kernel
theorem dX0_isLeaving_1 : decode cX0_isLeaving 1 = .ok (.iload_n 3, 1) := by decide +kernel
theorem dX0_isLeaving_2 : decode cX0_isLeaving 2 = .ok (.invokevirtual 341, 3) := by decide +kernel
theorem dX0_isLeaving_5 : decode cX0_isLeaving 5 = .ok (.istore 4, 2) := by decide +kernel
theorem dX0_isLeaving_7 : decode cX0_isLeaving 7 = .ok (.aload_n 2, 1) := by decide +kernel
theorem dX0_isLeaving_8 : decode cX0_isLeaving 8 = .ok (.invokevirtual 362, 3) := by decide +kernel
theorem dX0_isLeaving_11 : decode cX0_isLeaving 11 = .ok (.istore 5, 2) := by decide +kernel
theorem dX0_isLeaving_13 : decode cX0_isLeaving 13 = .ok (.aload_n 0, 1) := by decide +kernel
theorem dX0_isLeaving_14 : decode cX0_isLeaving 14 = .ok (.getfield 35, 3) := by decide +kernel
theorem dX0_isLeaving_17 : decode cX0_isLeaving 17 = .ok (.iconst 0, 1) := by decide +kernel
theorem dX0_isLeaving_18 : decode cX0_isLeaving 18 = .ok (.iload 4, 2) := by decide +kernel
theorem dX0_isLeaving_20 : decode cX0_isLeaving 20 = .ok (.iastore, 1) := by decide +kernel
theorem dX0_isLeaving_21 : decode cX0_isLeaving 21 = .ok (.aload_n 0, 1) := by decide +kernel
theorem dX0_isLeaving_22 : decode cX0_isLeaving 22 = .ok (.getfield 35, 3) := by decide +kernel
theorem dX0_isLeaving_25 : decode cX0_isLeaving 25 = .ok (.iconst 1, 1) := by decide +kernel
theorem dX0_isLeaving_26 : decode cX0_isLeaving 26 = .ok (.iload 5, 2) := by decide +kernel
theorem dX0_isLeaving_28 : decode cX0_isLeaving 28 = .ok (.iconst 1, 1) := by decide +kernel
theorem dX0_isLeaving_29 : decode cX0_isLeaving 29 = .ok (.if_icmp .ge 7, 3) := by decide +kernel
theorem dX0_isLeaving_32 : decode cX0_isLeaving 32 = .ok (.iconst 0, 1) := by decide +kernel
theorem dX0_isLeaving_33 : decode cX0_isLeaving 33 = .ok (.goto 22, 3) := by decide +kernel
theorem dX0_isLeaving_36 : decode cX0_isLeaving 36 = .ok (.aload_n 0, 1) := by decide +kernel
theorem dX0_isLeaving_37 : decode cX0_isLeaving 37 = .ok (.getfield 49, 3) := by decide +kernel
theorem dX0_isLeaving_40 : decode cX0_isLeaving 40 = .ok (.getfield 100, 3) := by decide +kernel
theorem dX0_isLeaving_43 : decode cX0_isLeaving 43 = .ok (.aload_n 2, 1) := by decide +kernel
theorem dX0_isLeaving_44 : decode cX0_isLeaving 44 = .ok (.iload 4, 2) := by decide +kernel
theorem dX0_isLeaving_46 : decode cX0_isLeaving 46 = .ok (.invokevirtual 365, 3) := by decide +kernel
theorem dX0_isLeaving_49 : decode cX0_isLeaving 49 = .ok (.bipush 100, 2) := by decide +kernel
theorem dX0_isLeaving_51 : decode cX0_isLeaving 51 = .ok (.imul, 1) := by decide +kernel
theorem dX0_isLeaving_52 : decode cX0_isLeaving 52 = .ok (.iload 5, 2) := by decide +kernel
theorem dX0_isLeaving_54 : decode cX0_isLeaving 54 = .ok (.idiv, 1) := by decide +kernel
theorem dX0_isLeaving_55 : decode cX0_isLeaving 55 = .ok (.iastore, 1) := by decide +kernel
theorem dX0_isLeaving_56 : decode cX0_isLeaving 56 = .ok (.aload_n 0, 1) := by decide +kernel
theorem dX0_isLeaving_57 : decode cX0_isLeaving 57 = .ok (.getfield 35, 3) := by decide +kernel
theorem dX0_isLeaving_60 : decode cX0_isLeaving 60 = .ok (.iconst 2, 1) := by decide +kernel
theorem dX0_isLeaving_61 : decode cX0_isLeaving 61 = .ok (.aload_n 0, 1) := by decide +kernel
theorem dX0_isLeaving_62 : decode cX0_isLeaving 62 = .ok (.getfield 144, 3) := by decide +kernel
theorem dX0_isLeaving_65 : decode cX0_isLeaving 65 = .ok (.aload_n 1, 1) := by decide +kernel
theorem dX0_isLeaving_66 : decode cX0_isLeaving 66 = .ok (.getfield 318, 3) := by decide +kernel
theorem dX0_isLeaving_69 : decode cX0_isLeaving 69 = .ok (.isub, 1) := by decide +kernel
theorem dX0_isLeaving_70 : decode cX0_isLeaving 70 = .ok (.iastore, 1) := by decide +kernel
theorem dX0_isLeaving_71 : decode cX0_isLeaving 71 = .ok (.aload_n 0, 1) := by decide +kernel
theorem dX0_isLeaving_72 : decode cX0_isLeaving 72 = .ok (.getfield 35, 3) := by decide +kernel
theorem dX0_isLeaving_75 : decode cX0_isLeaving 75 = .ok (.iconst 3, 1) := by decide +kernel
theorem dX0_isLeaving_76 : decode cX0_isLeaving 76 = .ok (.aload_n 0, 1) := by decide +kernel
theorem dX0_isLeaving_77 : decode cX0_isLeaving 77 = .ok (.getfield 49, 3) := by decide +kernel
theorem dX0_isLeaving_80 : decode cX0_isLeaving 80 = .ok (.getfield 100, 3) := by decide +kernel
theorem dX0_isLeaving_83 : decode cX0_isLeaving 83 = .ok (.getfield 359, 3) := by decide +kernel
theorem dX0_isLeaving_86 : decode cX0_isLeaving 86 = .ok (.aload_n 2, 1) := by decide +kernel
theorem dX0_isLeaving_87 : decode cX0_isLeaving 87 = .ok (.iload_n 3, 1) := by decide +kernel
theorem dX0_isLeaving_88 : decode cX0_isLeaving 88 = .ok (.invokevirtual 350, 3) := by decide +kernel
theorem dX0_isLeaving_91 : decode cX0_isLeaving 91 = .ok (.iaload, 1) := by decide +kernel
theorem dX0_isLeaving_92 : decode cX0_isLeaving 92 = .ok (.iastore, 1) := by decide +kernel
theorem dX0_isLeaving_93 : decode cX0_isLeaving 93 = .ok (.aload_n 0, 1) := by decide +kernel
theorem dX0_isLeaving_94 : decode cX0_isLeaving 94 = .ok (.getfield 35, 3) := by decide +kernel
theorem dX0_isLeaving_97 : decode cX0_isLeaving 97 = .ok (.iconst 4, 1) := by decide +kernel
theorem dX0_isLeaving_98 : decode cX0_isLeaving 98 = .ok (.aload_n 1, 1) := by decide +kernel
theorem dX0_isLeaving_99 : decode cX0_isLeaving 99 = .ok (.getfield 369, 3) := by decide +kernel
theorem dX0_isLeaving_102 : decode cX0_isLeaving 102 = .ok (.iastore, 1) := by decide +kernel
theorem dX0_isLeaving_103 : decode cX0_isLeaving 103 = .ok (.aload_n 0, 1) := by decide +kernel
theorem dX0_isLeaving_104 : decode cX0_isLeaving 104 = .ok (.getfield 35, 3) := by decide +kernel
theorem dX0_isLeaving_107 : decode cX0_isLeaving 107 = .ok (.iconst 5, 1) := by decide +kernel
theorem dX0_isLeaving_108 : decode cX0_isLeaving 108 = .ok (.aload_n 0, 1) := by decide +kernel
theorem dX0_isLeaving_109 : decode cX0_isLeaving 109 = .ok (.getfield 49, 3) := by decide +kernel
theorem dX0_isLeaving_112 : decode cX0_isLeaving 112 = .ok (.getfield 100, 3) := by decide +kernel
theorem dX0_isLeaving_115 : decode cX0_isLeaving 115 = .ok (.aload_n 2, 1) := by decide +kernel
theorem dX0_isLeaving_116 : decode cX0_isLeaving 116 = .ok (.invokevirtual 266, 3) := by decide +kernel
theorem dX0_isLeaving_119 : decode cX0_isLeaving 119 = .ok (.iastore, 1) := by decide +kernel
theorem dX0_isLeaving_120 : decode cX0_isLeaving 120 = .ok (.aload_n 0, 1) := by decide +kernel
theorem dX0_isLeaving_121 : decode cX0_isLeaving 121 = .ok (.getfield 30, 3) := by decide +kernel
theorem dX0_isLeaving_124 : decode cX0_isLeaving 124 = .ok (.aload_n 0, 1) := by decide +kernel
theorem dX0_isLeaving_125 : decode cX0_isLeaving 125 = .ok (.getfield 35, 3) := by decide +kernel
theorem dX0_isLeaving_128 : decode cX0_isLeaving 128 = .ok (.invokevirtual 173, 3) := by decide +kernel
theorem dX0_isLeaving_131 : decode cX0_isLeaving 131 = .ok (.aload_n 0, 1) := by decide +kernel
theorem dX0_isLeaving_132 : decode cX0_isLeaving 132 = .ok (.getfield 30, 3) := by decide +kernel
theorem dX0_isLeaving_135 : decode cX0_isLeaving 135 = .ok (.invokevirtual 372, 3) := by decide +kernel
theorem dX0_isLeaving_138 : decode cX0_isLeaving 138 = .ok (.ireturn, 1) := by decide +kernel
theorem okX0_isLeaving : ab_okM MX0_isLeaving 3 := ⟨by decide, ⟨by decide, by decide⟩, ab_in 1417 (by decide +kernel) (by decide +kernel), ab_in 92 (by decide +kernel) (by decide +kernel), by decide +kernel, by decide⟩
set_option maxHeartbeats 4000000 in
set_option maxRecDepth 100000 in
def wX0_isLeaving_55 (v1 : Nat) (v2 : Nat) (v3 : Int32) (s1 : Int32) (s2 : Int32) (x : ab_X) (K : Int32 → ab_X → Prop)  : Prop := (vp_in s1 11 ∧ vp_in 2 11 ∧ wX4_place v2 v3 (wr (wr x 79 (Int32.toNatClampNeg s1) s2) 79 (Int32.toNatClampNeg 2) (((wr x 79 (Int32.toNatClampNeg s1) s2).1 66 12) - ((wr x 79 (Int32.toNatClampNeg s1) s2).1 v1 14))) (fun r7 => (vp_in r7 288 ∧ vp_in 3 11 ∧ vp_in 4 11 ∧ wX3_burningRooms 11 v2 (wr (wr (wr (wr x 79 (Int32.toNatClampNeg s1) s2) 79 (Int32.toNatClampNeg 2) (((wr x 79 (Int32.toNatClampNeg s1) s2).1 66 12) - ((wr x 79 (Int32.toNatClampNeg s1) s2).1 v1 14))) 79 (Int32.toNatClampNeg 3) ((wr (wr x 79 (Int32.toNatClampNeg s1) s2) 79 (Int32.toNatClampNeg 2) (((wr x 79 (Int32.toNatClampNeg s1) s2).1 66 12) - ((wr x 79 (Int32.toNatClampNeg s1) s2).1 v1 14))).1 12 (Int32.toNatClampNeg r7))) 79 (Int32.toNatClampNeg 4) ((wr (wr (wr x 79 (Int32.toNatClampNeg s1) s2) 79 (Int32.toNatClampNeg 2) (((wr x 79 (Int32.toNatClampNeg s1) s2).1 66 12) - ((wr x 79 (Int32.toNatClampNeg s1) s2).1 v1 14))) 79 (Int32.toNatClampNeg 3) ((wr (wr x 79 (Int32.toNatClampNeg s1) s2) 79 (Int32.toNatClampNeg 2) (((wr x 79 (Int32.toNatClampNeg s1) s2).1 66 12) - ((wr x 79 (Int32.toNatClampNeg s1) s2).1 v1 14))).1 12 (Int32.toNatClampNeg r7))).1 v1 4)) (fun r11 => (vp_in 5 11 ∧ wX9_run 74 79 (wr (wr (wr (wr (wr x 79 (Int32.toNatClampNeg s1) s2) 79 (Int32.toNatClampNeg 2) (((wr x 79 (Int32.toNatClampNeg s1) s2).1 66 12) - ((wr x 79 (Int32.toNatClampNeg s1) s2).1 v1 14))) 79 (Int32.toNatClampNeg 3) ((wr (wr x 79 (Int32.toNatClampNeg s1) s2) 79 (Int32.toNatClampNeg 2) (((wr x 79 (Int32.toNatClampNeg s1) s2).1 66 12) - ((wr x 79 (Int32.toNatClampNeg s1) s2).1 v1 14))).1 12 (Int32.toNatClampNeg r7))) 79 (Int32.toNatClampNeg 4) ((wr (wr (wr x 79 (Int32.toNatClampNeg s1) s2) 79 (Int32.toNatClampNeg 2) (((wr x 79 (Int32.toNatClampNeg s1) s2).1 66 12) - ((wr x 79 (Int32.toNatClampNeg s1) s2).1 v1 14))) 79 (Int32.toNatClampNeg 3) ((wr (wr x 79 (Int32.toNatClampNeg s1) s2) 79 (Int32.toNatClampNeg 2) (((wr x 79 (Int32.toNatClampNeg s1) s2).1 66 12) - ((wr x 79 (Int32.toNatClampNeg s1) s2).1 v1 14))).1 12 (Int32.toNatClampNeg r7))).1 v1 4)) 79 (Int32.toNatClampNeg 5) r11) (fun x13 => wX9_holds 74 x13 (fun r14 => (isB r14 ∧ K r14 x13))))))))
set_option maxHeartbeats 4000000 in
set_option maxRecDepth 100000 in
theorem sX0_isLeaving_55 (v1 : Nat) (v2 : Nat) (v3 : Int32) (s1 : Int32) (s2 : Int32) (hv1 : isW v1) (hv2 : isH v2) (x : ab_X) (K : Int32 → ab_X → Prop)  (d bc bs : Nat) (hdp : 3 ≤ d)  (h : wX0_isLeaving_55 v1 v2 v3 s1 s2 x K ) : EW MX0_isLeaving 55 [(0, .ref 66), (1, .ref v1), (2, .ref v2), (3, .int v3)] [.int s2, .int s1, .ref 79] (aS x) d bc bs (liI K) := by
  unfold wX0_isLeaving_55 at h
  obtain ⟨b5, h⟩ := h
  refine AW_iast (pc2 := 56) rfl dX0_isLeaving_55 q79 b5 ?_
  refine EW_aload_n (pc2 := 57) rfl dX0_isLeaving_56 0 rfl ?_
  refine AW_getr (r := 79) ⟨gfRX0_35, rfl⟩ (pc2 := 60) rfl dX0_isLeaving_57 q66 rfl ?_
  refine EW_iconst (pc2 := 61) (v := 2) rfl dX0_isLeaving_60 (by decide) ?_
  refine EW_aload_n (pc2 := 62) rfl dX0_isLeaving_61 0 rfl ?_
  refine AW_geti ⟨gfRX0_144, rfl⟩ (pc2 := 65) rfl dX0_isLeaving_62 q66 ?_
  refine EW_aload_n (pc2 := 66) rfl dX0_isLeaving_65 1 rfl ?_
  refine AW_geti ⟨gfRX0_318, rfl⟩ (pc2 := 69) rfl dX0_isLeaving_66 (isW.o hv1) ?_
  refine EW_isub (pc2 := 70) rfl dX0_isLeaving_69 ?_
  obtain ⟨b6, h⟩ := h
  refine AW_iast (pc2 := 71) rfl dX0_isLeaving_70 q79 b6 ?_
  refine EW_aload_n (pc2 := 72) rfl dX0_isLeaving_71 0 rfl ?_
  refine AW_getr (r := 79) ⟨gfRX0_35, rfl⟩ (pc2 := 75) rfl dX0_isLeaving_72 q66 rfl ?_
  refine EW_iconst (pc2 := 76) (v := 3) rfl dX0_isLeaving_75 (by decide) ?_
  refine EW_aload_n (pc2 := 77) rfl dX0_isLeaving_76 0 rfl ?_
  refine AW_getr (r := 9) ⟨gfRX0_49, rfl⟩ (pc2 := 80) rfl dX0_isLeaving_77 q66 rfl ?_
  refine AW_getr (r := 11) ⟨gfRX0_100, rfl⟩ (pc2 := 83) rfl dX0_isLeaving_80 q9 rfl ?_
  refine AW_getr (r := 12) ⟨gfRX0_359, rfl⟩ (pc2 := 86) rfl dX0_isLeaving_83 q11 rfl ?_
  refine EW_aload_n (pc2 := 87) rfl dX0_isLeaving_86 2 rfl ?_
  refine EW_iload_n (pc2 := 88) rfl dX0_isLeaving_87 3 rfl ?_
  refine AW_invV (M' := MX4_place) [.int v3] (rest := [.ref 12, .int 3, .ref 79]) mlRX0_350 okX4_place (pc2 := 91) rfl dX0_isLeaving_88 rfl rfl (Nat.le_of_ble_eq_true rfl) (Nat.le_of_ble_eq_true rfl) (d' := 0) (by omega) (isH.o hv2) ⟨by decide, rfl⟩ (EW_mono (fun _ _ hr => ?_) (sX4_place v2 v3 hv2 (wr (wr x 79 (Int32.toNatClampNeg s1) s2) 79 (Int32.toNatClampNeg 2) (((wr x 79 (Int32.toNatClampNeg s1) s2).1 66 12) - ((wr x 79 (Int32.toNatClampNeg s1) s2).1 v1 14))) _ _ 0 0 (Nat.le_refl _) h))
  obtain ⟨r7, rfl, rfl, h⟩ := hr
  obtain ⟨b8, h⟩ := h
  refine AW_iald (pc2 := 92) rfl dX0_isLeaving_91 q12 b8 ?_
  obtain ⟨b9, h⟩ := h
  refine AW_iast (pc2 := 93) rfl dX0_isLeaving_92 q79 b9 ?_
  refine EW_aload_n (pc2 := 94) rfl dX0_isLeaving_93 0 rfl ?_
  refine AW_getr (r := 79) ⟨gfRX0_35, rfl⟩ (pc2 := 97) rfl dX0_isLeaving_94 q66 rfl ?_
  refine EW_iconst (pc2 := 98) (v := 4) rfl dX0_isLeaving_97 (by decide) ?_
  refine EW_aload_n (pc2 := 99) rfl dX0_isLeaving_98 1 rfl ?_
  refine AW_geti ⟨gfRX0_369, rfl⟩ (pc2 := 102) rfl dX0_isLeaving_99 (isW.o hv1) ?_
  obtain ⟨b10, h⟩ := h
  refine AW_iast (pc2 := 103) rfl dX0_isLeaving_102 q79 b10 ?_
  refine EW_aload_n (pc2 := 104) rfl dX0_isLeaving_103 0 rfl ?_
  refine AW_getr (r := 79) ⟨gfRX0_35, rfl⟩ (pc2 := 107) rfl dX0_isLeaving_104 q66 rfl ?_
  refine EW_iconst (pc2 := 108) (v := 5) rfl dX0_isLeaving_107 (by decide) ?_
  refine EW_aload_n (pc2 := 109) rfl dX0_isLeaving_108 0 rfl ?_
  refine AW_getr (r := 9) ⟨gfRX0_49, rfl⟩ (pc2 := 112) rfl dX0_isLeaving_109 q66 rfl ?_
  refine AW_getr (r := 11) ⟨gfRX0_100, rfl⟩ (pc2 := 115) rfl dX0_isLeaving_112 q9 rfl ?_
  refine EW_aload_n (pc2 := 116) rfl dX0_isLeaving_115 2 rfl ?_
  refine AW_invV (M' := MX3_burningRooms) [.ref v2] (rest := [.int 5, .ref 79]) mlRX0_266 okX3_burningRooms (pc2 := 119) rfl dX0_isLeaving_116 rfl rfl (Nat.le_of_ble_eq_true rfl) (Nat.le_of_ble_eq_true rfl) (d' := 1) (by omega) q11 ⟨by decide, rfl⟩ (EW_mono (fun _ _ hr => ?_) (sX3_burningRooms 11 v2 (Or.inl rfl : isF 11) hv2 (wr (wr (wr (wr x 79 (Int32.toNatClampNeg s1) s2) 79 (Int32.toNatClampNeg 2) (((wr x 79 (Int32.toNatClampNeg s1) s2).1 66 12) - ((wr x 79 (Int32.toNatClampNeg s1) s2).1 v1 14))) 79 (Int32.toNatClampNeg 3) ((wr (wr x 79 (Int32.toNatClampNeg s1) s2) 79 (Int32.toNatClampNeg 2) (((wr x 79 (Int32.toNatClampNeg s1) s2).1 66 12) - ((wr x 79 (Int32.toNatClampNeg s1) s2).1 v1 14))).1 12 (Int32.toNatClampNeg r7))) 79 (Int32.toNatClampNeg 4) ((wr (wr (wr x 79 (Int32.toNatClampNeg s1) s2) 79 (Int32.toNatClampNeg 2) (((wr x 79 (Int32.toNatClampNeg s1) s2).1 66 12) - ((wr x 79 (Int32.toNatClampNeg s1) s2).1 v1 14))) 79 (Int32.toNatClampNeg 3) ((wr (wr x 79 (Int32.toNatClampNeg s1) s2) 79 (Int32.toNatClampNeg 2) (((wr x 79 (Int32.toNatClampNeg s1) s2).1 66 12) - ((wr x 79 (Int32.toNatClampNeg s1) s2).1 v1 14))).1 12 (Int32.toNatClampNeg r7))).1 v1 4)) _ _ 0 0 (Nat.le_refl _) h))
  obtain ⟨r11, rfl, rfl, h⟩ := hr
  obtain ⟨b12, h⟩ := h
  refine AW_iast (pc2 := 120) rfl dX0_isLeaving_119 q79 b12 ?_
  refine EW_aload_n (pc2 := 121) rfl dX0_isLeaving_120 0 rfl ?_
  refine AW_getr (r := 74) ⟨gfRX0_30, rfl⟩ (pc2 := 124) rfl dX0_isLeaving_121 q66 rfl ?_
  refine EW_aload_n (pc2 := 125) rfl dX0_isLeaving_124 0 rfl ?_
  refine AW_getr (r := 79) ⟨gfRX0_35, rfl⟩ (pc2 := 128) rfl dX0_isLeaving_125 q66 rfl ?_
  refine AW_invV (M' := MX9_run) [.ref 79] (rest := []) mlRX0_173 okX9_run (pc2 := 131) rfl dX0_isLeaving_128 rfl rfl (Nat.le_of_ble_eq_true rfl) (Nat.le_of_ble_eq_true rfl) (d' := 2) (by omega) q74 ⟨by decide, rfl⟩ (EW_mono (fun _ _ hr => ?_) (sX9_run 74 79 (Or.inr (Or.inl rfl) : isT 74) (Or.inl rfl : isLA 79) (wr (wr (wr (wr (wr x 79 (Int32.toNatClampNeg s1) s2) 79 (Int32.toNatClampNeg 2) (((wr x 79 (Int32.toNatClampNeg s1) s2).1 66 12) - ((wr x 79 (Int32.toNatClampNeg s1) s2).1 v1 14))) 79 (Int32.toNatClampNeg 3) ((wr (wr x 79 (Int32.toNatClampNeg s1) s2) 79 (Int32.toNatClampNeg 2) (((wr x 79 (Int32.toNatClampNeg s1) s2).1 66 12) - ((wr x 79 (Int32.toNatClampNeg s1) s2).1 v1 14))).1 12 (Int32.toNatClampNeg r7))) 79 (Int32.toNatClampNeg 4) ((wr (wr (wr x 79 (Int32.toNatClampNeg s1) s2) 79 (Int32.toNatClampNeg 2) (((wr x 79 (Int32.toNatClampNeg s1) s2).1 66 12) - ((wr x 79 (Int32.toNatClampNeg s1) s2).1 v1 14))) 79 (Int32.toNatClampNeg 3) ((wr (wr x 79 (Int32.toNatClampNeg s1) s2) 79 (Int32.toNatClampNeg 2) (((wr x 79 (Int32.toNatClampNeg s1) s2).1 66 12) - ((wr x 79 (Int32.toNatClampNeg s1) s2).1 v1 14))).1 12 (Int32.toNatClampNeg r7))).1 v1 4)) 79 (Int32.toNatClampNeg 5) r11) _ _ 0 0 (Nat.le_refl _) h))
  obtain ⟨x13, rfl, rfl, h⟩ := hr
  refine EW_aload_n (pc2 := 132) rfl dX0_isLeaving_131 0 rfl ?_
  refine AW_getr (r := 74) ⟨gfRX0_30, rfl⟩ (pc2 := 135) rfl dX0_isLeaving_132 q66 rfl ?_
  refine AW_invV (M' := MX9_holds) [] (rest := []) mlRX0_372 okX9_holds (pc2 := 138) rfl dX0_isLeaving_135 rfl rfl (Nat.le_of_ble_eq_true rfl) (Nat.le_of_ble_eq_true rfl) (d' := 0) (by omega) q74 ⟨by decide, rfl⟩ (EW_mono (fun _ _ hr => ?_) (sX9_holds 74 (Or.inr (Or.inl rfl) : isT 74) x13 _ _ 0 0 (Nat.le_refl _) h))
  obtain ⟨r14, rfl, rfl, h⟩ := hr
  obtain ⟨z15, h⟩ := h
  exact AW_zret rfl z15 dX0_isLeaving_138 ⟨_, _, rfl, rfl, h⟩
set_option maxHeartbeats 4000000 in
set_option maxRecDepth 100000 in
def wX0_isLeaving (v1 : Nat) (v2 : Nat) (v3 : Int32) (x : ab_X) (K : Int32 → ab_X → Prop) : Prop := wX4_floorOf v2 v3 x (fun r1 => wX4_limit v2 x (fun r2 => (vp_in 0 11 ∧ ((1 ≤ r2 → wX3_load 11 v2 r1 (wr x 79 (Int32.toNatClampNeg 0) r1) (fun r4 => (¬ r2 = 0 ∧ wX0_isLeaving_55 v1 v2 v3 1 ((r4 * 100) / r2) (wr x 79 (Int32.toNatClampNeg 0) r1) K))) ∧ (¬ 1 ≤ r2 → wX0_isLeaving_55 v1 v2 v3 1 0 (wr x 79 (Int32.toNatClampNeg 0) r1) K)))))
set_option maxHeartbeats 4000000 in
set_option maxRecDepth 100000 in
theorem sX0_isLeaving (v1 : Nat) (v2 : Nat) (v3 : Int32) (hv1 : isW v1) (hv2 : isH v2) (x : ab_X) (K : Int32 → ab_X → Prop) (d bc bs : Nat) (hdp : 3 ≤ d) (h : wX0_isLeaving v1 v2 v3 x K) : EW MX0_isLeaving 0 [(0, .ref 66), (1, .ref v1), (2, .ref v2), (3, .int v3)] [] (aS x) d bc bs (liI K) := by
  unfold wX0_isLeaving at h
  refine EW_aload_n (pc2 := 1) rfl dX0_isLeaving_0 2 rfl ?_
  refine EW_iload_n (pc2 := 2) rfl dX0_isLeaving_1 3 rfl ?_
  refine AW_invV (M' := MX4_floorOf) [.int v3] (rest := []) mlRX0_341 okX4_floorOf (pc2 := 5) rfl dX0_isLeaving_2 rfl rfl (Nat.le_of_ble_eq_true rfl) (Nat.le_of_ble_eq_true rfl) (d' := 0) (by omega) (isH.o hv2) ⟨by decide, rfl⟩ (EW_mono (fun _ _ hr => ?_) (sX4_floorOf v2 v3 hv2 x _ _ 0 0 (Nat.le_refl _) h))
  obtain ⟨r1, rfl, rfl, h⟩ := hr
  refine EW_istore (pc2 := 7) rfl dX0_isLeaving_5 (by decide) [1, 2, 3, 4, 0] [(0, .ref 66), (1, .ref v1), (2, .ref v2), (3, .int v3), (4, .int r1)] rfl ?_
  refine EW_aload_n (pc2 := 8) rfl dX0_isLeaving_7 2 rfl ?_
  refine AW_invV (M' := MX4_limit) [] (rest := []) mlRX0_362 okX4_limit (pc2 := 11) rfl dX0_isLeaving_8 rfl rfl (Nat.le_of_ble_eq_true rfl) (Nat.le_of_ble_eq_true rfl) (d' := 0) (by omega) (isH.o hv2) ⟨by decide, rfl⟩ (EW_mono (fun _ _ hr => ?_) (sX4_limit v2 hv2 x _ _ 0 0 (Nat.le_refl _) h))
  obtain ⟨r2, rfl, rfl, h⟩ := hr
  refine EW_istore (pc2 := 13) rfl dX0_isLeaving_11 (by decide) [1, 2, 3, 4, 5, 0] [(0, .ref 66), (1, .ref v1), (2, .ref v2), (3, .int v3), (4, .int r1), (5, .int r2)] rfl ?_
  refine EW_aload_n (pc2 := 14) rfl dX0_isLeaving_13 0 rfl ?_
  refine AW_getr (r := 79) ⟨gfRX0_35, rfl⟩ (pc2 := 17) rfl dX0_isLeaving_14 q66 rfl ?_
  refine EW_iconst (pc2 := 18) (v := 0) rfl dX0_isLeaving_17 (by decide) ?_
  refine EW_iload (pc2 := 20) rfl dX0_isLeaving_18 4 rfl ?_
  obtain ⟨b3, h⟩ := h
  refine AW_iast (pc2 := 21) rfl dX0_isLeaving_20 q79 b3 ?_
  refine EW_aload_n (pc2 := 22) rfl dX0_isLeaving_21 0 rfl ?_
  refine AW_getr (r := 79) ⟨gfRX0_35, rfl⟩ (pc2 := 25) rfl dX0_isLeaving_22 q66 rfl ?_
  refine EW_iconst (pc2 := 26) (v := 1) rfl dX0_isLeaving_25 (by decide) ?_
  refine EW_iload (pc2 := 28) rfl dX0_isLeaving_26 5 rfl ?_
  refine EW_iconst (pc2 := 29) (v := 1) rfl dX0_isLeaving_28 (by decide) ?_
  refine EW_icmp_ge (tgt := 36) (pc2 := 32) rfl dX0_isLeaving_29 (by decide) (fun q => ?_) (fun q => ?_)
  · replace h := h.1 q
    refine EW_aload_n (pc2 := 37) rfl dX0_isLeaving_36 0 rfl ?_
    refine AW_getr (r := 9) ⟨gfRX0_49, rfl⟩ (pc2 := 40) rfl dX0_isLeaving_37 q66 rfl ?_
    refine AW_getr (r := 11) ⟨gfRX0_100, rfl⟩ (pc2 := 43) rfl dX0_isLeaving_40 q9 rfl ?_
    refine EW_aload_n (pc2 := 44) rfl dX0_isLeaving_43 2 rfl ?_
    refine EW_iload (pc2 := 46) rfl dX0_isLeaving_44 4 rfl ?_
    refine AW_invV (M' := MX3_load) [.ref v2, .int r1] (rest := [.int 1, .ref 79]) mlRX0_365 okX3_load (pc2 := 49) rfl dX0_isLeaving_46 rfl rfl (Nat.le_of_ble_eq_true rfl) (Nat.le_of_ble_eq_true rfl) (d' := 1) (by omega) q11 ⟨by decide, rfl⟩ (EW_mono (fun _ _ hr => ?_) (sX3_load 11 v2 r1 (Or.inl rfl : isF 11) hv2 (wr x 79 (Int32.toNatClampNeg 0) r1) _ _ 0 0 (Nat.le_refl _) h))
    obtain ⟨r4, rfl, rfl, h⟩ := hr
    refine EW_bipush (pc2 := 51) (v := 100) rfl dX0_isLeaving_49 (by decide) ?_
    refine EW_imul (pc2 := 52) rfl dX0_isLeaving_51 ?_
    refine EW_iload (pc2 := 54) rfl dX0_isLeaving_52 5 rfl ?_
    obtain ⟨hz, h⟩ := h
    refine EW_idiv (pc2 := 55) rfl dX0_isLeaving_54 hz ?_
    refine EW_ls [0, 1, 2, 3] rfl ?_
    exact sX0_isLeaving_55 v1 v2 v3 1 ((r4 * 100) / r2) hv1 hv2 (wr x 79 (Int32.toNatClampNeg 0) r1) K d bc bs hdp h
  · replace h := h.2 q
    refine EW_iconst (pc2 := 33) (v := 0) rfl dX0_isLeaving_32 (by decide) ?_
    refine EW_goto (tgt := 55) dX0_isLeaving_33 (by decide) ?_
    refine EW_ls [0, 1, 2, 3] rfl ?_
    exact sX0_isLeaving_55 v1 v2 v3 1 0 hv1 hv2 (wr x 79 (Int32.toNatClampNeg 0) r1) K d bc bs hdp h
theorem gfRX0_75 : ab_L RX0 75 2 8 := ⟨by decide, by decide, ab_in 428 (by decide +kernel) (by decide +kernel)⟩
theorem gfRX0_78 : ab_L RX0 78 2 12 := ⟨by decide, by decide, ab_in 441 (by decide +kernel) (by decide +kernel)⟩
abbrev MX0_isLed : ab_M := (yX0_isLed, cX0_isLed, 3, (some .boolean))
theorem dX0_isLed_0 : decode cX0_isLed 0 = .ok (.iconst 0, 1) := by decide +kernel
theorem dX0_isLed_1 : decode cX0_isLed 1 = .ok (.istore_n 2, 1) := by decide +kernel
theorem dX0_isLed_2 : decode cX0_isLed 2 = .ok (.iload_n 2, 1) := by decide +kernel
theorem dX0_isLed_3 : decode cX0_isLed 3 = .ok (.aload_n 0, 1) := by decide +kernel
theorem dX0_isLed_4 : decode cX0_isLed 4 = .ok (.getfield 55, 3) := by decide +kernel
theorem dX0_isLed_7 : decode cX0_isLed 7 = .ok (.if_icmp .ge 50, 3) := by decide +kernel
theorem dX0_isLed_10 : decode cX0_isLed 10 = .ok (.aload_n 0, 1) := by decide +kernel
theorem dX0_isLed_11 : decode cX0_isLed 11 = .ok (.getfield 11, 3) := by decide +kernel
theorem dX0_isLed_14 : decode cX0_isLed 14 = .ok (.iload_n 2, 1) := by decide +kernel
theorem dX0_isLed_15 : decode cX0_isLed 15 = .ok (.aaload, 1) := by decide +kernel
theorem dX0_isLed_16 : decode cX0_isLed 16 = .ok (.getfield 63, 3) := by decide +kernel
theorem dX0_isLed_19 : decode cX0_isLed 19 = .ok (.iconst 3, 1) := by decide +kernel
theorem dX0_isLed_20 : decode cX0_isLed 20 = .ok (.if_icmp .ne 31, 3) := by decide +kernel
theorem dX0_isLed_23 : decode cX0_isLed 23 = .ok (.aload_n 0, 1) := by decide +kernel
theorem dX0_isLed_24 : decode cX0_isLed 24 = .ok (.getfield 11, 3) := by decide +kernel
theorem dX0_isLed_27 : decode cX0_isLed 27 = .ok (.iload_n 2, 1) := by decide +kernel
theorem dX0_isLed_28 : decode cX0_isLed 28 = .ok (.aaload, 1) := by decide +kernel
theorem dX0_isLed_29 : decode cX0_isLed 29 = .ok (.getfield 75, 3) := by decide +kernel
theorem dX0_isLed_32 : decode cX0_isLed 32 = .ok (.iconst 2, 1) := by decide +kernel
theorem dX0_isLed_33 : decode cX0_isLed 33 = .ok (.if_icmp .ne 18, 3) := by decide +kernel
theorem dX0_isLed_36 : decode cX0_isLed 36 = .ok (.aload_n 0, 1) := by decide +kernel
theorem dX0_isLed_37 : decode cX0_isLed 37 = .ok (.getfield 11, 3) := by decide +kernel
theorem dX0_isLed_40 : decode cX0_isLed 40 = .ok (.iload_n 2, 1) := by decide +kernel
theorem dX0_isLed_41 : decode cX0_isLed 41 = .ok (.aaload, 1) := by decide +kernel
theorem dX0_isLed_42 : decode cX0_isLed 42 = .ok (.getfield 78, 3) := by decide +kernel
theorem dX0_isLed_45 : decode cX0_isLed 45 = .ok (.iload_n 1, 1) := by decide +kernel
theorem dX0_isLed_46 : decode cX0_isLed 46 = .ok (.if_icmp .ne 5, 3) := by decide +kernel
theorem dX0_isLed_49 : decode cX0_isLed 49 = .ok (.iconst 1, 1) := by decide +kernel
theorem dX0_isLed_50 : decode cX0_isLed 50 = .ok (.ireturn, 1) := by decide +kernel
theorem dX0_isLed_51 : decode cX0_isLed 51 = .ok (.iinc 2 1, 3) := by decide +kernel
theorem dX0_isLed_54 : decode cX0_isLed 54 = .ok (.goto (-52), 3) := by decide +kernel
theorem dX0_isLed_57 : decode cX0_isLed 57 = .ok (.iconst 0, 1) := by decide +kernel
theorem dX0_isLed_58 : decode cX0_isLed 58 = .ok (.ireturn, 1) := by decide +kernel
theorem okX0_isLed : ab_okM MX0_isLed 1 := ⟨by decide, ⟨by decide, by decide⟩, ab_in 1407 (by decide +kernel) (by decide +kernel), ab_in 92 (by decide +kernel) (by decide +kernel), by decide +kernel, by decide⟩
set_option maxHeartbeats 4000000 in
set_option maxRecDepth 100000 in
def lX0_isLed_2 (v1 : Int32) (x : ab_X) (K : Int32 → Prop)  (L2 : Int32 → Prop) (v2 : Int32) : Prop := (((x.1 66 3) ≤ v2 → K 0) ∧ (¬ (x.1 66 3) ≤ v2 → (vp_in v2 16 ∧ ((¬ (x.1 (82 + Int32.toNatClampNeg v2) 0) = 3 → L2 (v2 + 1)) ∧ ((x.1 (82 + Int32.toNatClampNeg v2) 0) = 3 → (vp_in v2 16 ∧ ((¬ (x.1 (82 + Int32.toNatClampNeg v2) 8) = 2 → L2 (v2 + 1)) ∧ ((x.1 (82 + Int32.toNatClampNeg v2) 8) = 2 → (vp_in v2 16 ∧ ((¬ (x.1 (82 + Int32.toNatClampNeg v2) 12) = v1 → L2 (v2 + 1)) ∧ ((x.1 (82 + Int32.toNatClampNeg v2) 12) = v1 → K 1)))))))))))
set_option maxHeartbeats 4000000 in
set_option maxRecDepth 100000 in
theorem sX0_isLed_2 (v1 : Int32) (v2 : Int32)  (x : ab_X) (K : Int32 → Prop)  (d bc bs : Nat) (hdp : 0 ≤ d)  (h : Lp1 (lX0_isLed_2 v1 x K ) v2) : EW MX0_isLed 2 [(0, .ref 66), (1, .int v1), (2, .int v2)] [] (aS x) d bc bs (liP x K) := by
  refine Lp1.use (P := fun v2 => EW MX0_isLed 2 [(0, .ref 66), (1, .int v1), (2, .int v2)] [] (aS x) d bc bs (liP x K)) (fun L2 v2 hL2 h => ?_) v2 h
  unfold lX0_isLed_2 at h
  refine EW_iload_n (pc2 := 3) rfl dX0_isLed_2 2 rfl ?_
  refine EW_aload_n (pc2 := 4) rfl dX0_isLed_3 0 rfl ?_
  refine AW_geti ⟨gfRX0_55, rfl⟩ (pc2 := 7) rfl dX0_isLed_4 q66 ?_
  refine EW_icmp_ge (tgt := 57) (pc2 := 10) rfl dX0_isLed_7 (by decide) (fun q => ?_) (fun q => ?_)
  · replace h := h.1 q
    refine EW_iconst (pc2 := 58) (v := 0) rfl dX0_isLed_57 (by decide) ?_
    exact AW_zret rfl isB0 dX0_isLed_58 ⟨_, rfl, rfl, h⟩
  · replace h := h.2 q
    refine EW_aload_n (pc2 := 11) rfl dX0_isLed_10 0 rfl ?_
    refine AW_getr (r := 67) ⟨gfRX0_11, rfl⟩ (pc2 := 14) rfl dX0_isLed_11 q66 rfl ?_
    refine EW_iload_n (pc2 := 15) rfl dX0_isLed_14 2 rfl ?_
    obtain ⟨b1, h⟩ := h
    refine AW_aald6 (pc2 := 16) rfl dX0_isLed_15 b1 ?_
    refine AW_geti ⟨gfRX0_63, rfl⟩ (pc2 := 19) rfl dX0_isLed_16 (isW.o (isW_of b1)) ?_
    refine EW_iconst (pc2 := 20) (v := 3) rfl dX0_isLed_19 (by decide) ?_
    refine EW_icmp_ne (tgt := 51) (pc2 := 23) rfl dX0_isLed_20 (by decide) (fun q => ?_) (fun q => ?_)
    · replace h := h.1 q
      refine EW_iinc (v2 + 1) (pc2 := 54) rfl dX0_isLed_51 2 rfl rfl (by decide) [1, 2, 0] [(0, .ref 66), (1, .int v1), (2, .int (v2 + 1))] rfl ?_
      refine EW_goto (tgt := 2) dX0_isLed_54 (by decide) ?_
      exact hL2 (v2 + 1) h
    · replace h := h.2 q
      refine EW_aload_n (pc2 := 24) rfl dX0_isLed_23 0 rfl ?_
      refine AW_getr (r := 67) ⟨gfRX0_11, rfl⟩ (pc2 := 27) rfl dX0_isLed_24 q66 rfl ?_
      refine EW_iload_n (pc2 := 28) rfl dX0_isLed_27 2 rfl ?_
      obtain ⟨b2, h⟩ := h
      refine AW_aald6 (pc2 := 29) rfl dX0_isLed_28 b2 ?_
      refine AW_geti ⟨gfRX0_75, rfl⟩ (pc2 := 32) rfl dX0_isLed_29 (isW.o (isW_of b2)) ?_
      refine EW_iconst (pc2 := 33) (v := 2) rfl dX0_isLed_32 (by decide) ?_
      refine EW_icmp_ne (tgt := 51) (pc2 := 36) rfl dX0_isLed_33 (by decide) (fun q => ?_) (fun q => ?_)
      · replace h := h.1 q
        refine EW_iinc (v2 + 1) (pc2 := 54) rfl dX0_isLed_51 2 rfl rfl (by decide) [1, 2, 0] [(0, .ref 66), (1, .int v1), (2, .int (v2 + 1))] rfl ?_
        refine EW_goto (tgt := 2) dX0_isLed_54 (by decide) ?_
        exact hL2 (v2 + 1) h
      · replace h := h.2 q
        refine EW_aload_n (pc2 := 37) rfl dX0_isLed_36 0 rfl ?_
        refine AW_getr (r := 67) ⟨gfRX0_11, rfl⟩ (pc2 := 40) rfl dX0_isLed_37 q66 rfl ?_
        refine EW_iload_n (pc2 := 41) rfl dX0_isLed_40 2 rfl ?_
        obtain ⟨b3, h⟩ := h
        refine AW_aald6 (pc2 := 42) rfl dX0_isLed_41 b3 ?_
        refine AW_geti ⟨gfRX0_78, rfl⟩ (pc2 := 45) rfl dX0_isLed_42 (isW.o (isW_of b3)) ?_
        refine EW_iload_n (pc2 := 46) rfl dX0_isLed_45 1 rfl ?_
        refine EW_icmp_ne (tgt := 51) (pc2 := 49) rfl dX0_isLed_46 (by decide) (fun q => ?_) (fun q => ?_)
        · replace h := h.1 q
          refine EW_iinc (v2 + 1) (pc2 := 54) rfl dX0_isLed_51 2 rfl rfl (by decide) [1, 2, 0] [(0, .ref 66), (1, .int v1), (2, .int (v2 + 1))] rfl ?_
          refine EW_goto (tgt := 2) dX0_isLed_54 (by decide) ?_
          exact hL2 (v2 + 1) h
        · replace h := h.2 q
          refine EW_iconst (pc2 := 50) (v := 1) rfl dX0_isLed_49 (by decide) ?_
          exact AW_zret rfl isB1 dX0_isLed_50 ⟨_, rfl, rfl, h⟩
set_option maxHeartbeats 4000000 in
set_option maxRecDepth 100000 in
def wX0_isLed (v1 : Int32) (x : ab_X) (K : Int32 → Prop) : Prop := Lp1 (lX0_isLed_2 v1 x K ) 0
set_option maxHeartbeats 4000000 in
set_option maxRecDepth 100000 in
theorem sX0_isLed (v1 : Int32)  (x : ab_X) (K : Int32 → Prop) (d bc bs : Nat) (hdp : 0 ≤ d) (h : wX0_isLed v1 x K) : EW MX0_isLed 0 [(0, .ref 66), (1, .int v1)] [] (aS x) d bc bs (liP x K) := by
  unfold wX0_isLed at h
  refine EW_iconst (pc2 := 1) (v := 0) rfl dX0_isLed_0 (by decide) ?_
  refine EW_istore_n (pc2 := 2) rfl dX0_isLed_1 (by decide) [1, 2, 0] [(0, .ref 66), (1, .int v1), (2, .int 0)] rfl ?_
  exact sX0_isLed_2 v1 0 x K d bc bs hdp h
theorem gfRX0_353 : ab_L RX0 353 4 4 := ⟨by decide, by decide, ab_in 235 (by decide +kernel) (by decide +kernel)⟩
theorem mlRX0_356 : Cond.methodLink RX0 356 yX3_burns ∈ ab_G ∧ Cond.instanceMethod yX3_burns ∈ ab_G ∧ Cond.selects RX3 yX3_burns yX3_burns ∈ ab_G := ⟨ab_in 1413 (by decide +kernel) (by decide +kernel), ab_in 888 (by decide +kernel) (by decide +kernel), ab_in 889 (by decide +kernel) (by decide +kernel)⟩
theorem gfRX0_347 : ab_L RX0 347 3 2 := ⟨by decide, by decide, ab_in 182 (by decide +kernel) (by decide +kernel)⟩
abbrev MX0_roomFor : ab_M := (yX0_roomFor, cX0_roomFor, 9, (some .int))
theorem dX0_roomFor_0 : decode cX0_roomFor 0 = .ok (.iconst (-1), 1) := by decide +kernel
theorem dX0_roomFor_1 : decode cX0_roomFor 1 = .ok (.istore 4, 2) := by decide +kernel
theorem dX0_roomFor_3 : decode cX0_roomFor 3 = .ok (.iconst 0, 1) := by decide +kernel
theorem dX0_roomFor_4 : decode cX0_roomFor 4 = .ok (.istore 5, 2) := by decide +kernel
theorem dX0_roomFor_6 : decode cX0_roomFor 6 = .ok (.iconst 0, 1) := by decide +kernel
theorem dX0_roomFor_7 : decode cX0_roomFor 7 = .ok (.istore 6, 2) := by decide +kernel
theorem dX0_roomFor_9 : decode cX0_roomFor 9 = .ok (.iload 6, 2) := by decide +kernel
theorem dX0_roomFor_11 : decode cX0_roomFor 11 = .ok (.iload_n 2, 1) := by decide +kernel
theorem dX0_roomFor_12 : decode cX0_roomFor 12 = .ok (.iconst 1, 1) := by decide +kernel
theorem dX0_roomFor_13 : decode cX0_roomFor 13 = .ok (.iadd, 1) := by decide +kernel
theorem dX0_roomFor_14 : decode cX0_roomFor 14 = .ok (.aload_n 1, 1) := by decide +kernel
theorem dX0_roomFor_15 : decode cX0_roomFor 15 = .ok (.getfield 353, 3) := by decide +kernel
theorem dX0_roomFor_18 : decode cX0_roomFor 18 = .ok (.imul, 1) := by decide +kernel
theorem dX0_roomFor_19 : decode cX0_roomFor 19 = .ok (.if_icmp .ge 88, 3) := by decide +kernel
theorem dX0_roomFor_22 : decode cX0_roomFor 22 = .ok (.aload_n 1, 1) := by decide +kernel
theorem dX0_roomFor_23 : decode cX0_roomFor 23 = .ok (.iload 6, 2) := by decide +kernel
theorem dX0_roomFor_25 : decode cX0_roomFor 25 = .ok (.invokevirtual 350, 3) := by decide +kernel
theorem dX0_roomFor_28 : decode cX0_roomFor 28 = .ok (.istore 7, 2) := by decide +kernel
theorem dX0_roomFor_30 : decode cX0_roomFor 30 = .ok (.aload_n 0, 1) := by decide +kernel
theorem dX0_roomFor_31 : decode cX0_roomFor 31 = .ok (.getfield 49, 3) := by decide +kernel
theorem dX0_roomFor_34 : decode cX0_roomFor 34 = .ok (.getfield 100, 3) := by decide +kernel
theorem dX0_roomFor_37 : decode cX0_roomFor 37 = .ok (.iload 7, 2) := by decide +kernel
theorem dX0_roomFor_39 : decode cX0_roomFor 39 = .ok (.invokevirtual 356, 3) := by decide +kernel
theorem dX0_roomFor_42 : decode cX0_roomFor 42 = .ok (.ifCond .eq 59, 3) := by decide +kernel
theorem dX0_roomFor_45 : decode cX0_roomFor 45 = .ok (.aload_n 0, 1) := by decide +kernel
theorem dX0_roomFor_46 : decode cX0_roomFor 46 = .ok (.getfield 49, 3) := by decide +kernel
theorem dX0_roomFor_49 : decode cX0_roomFor 49 = .ok (.getfield 100, 3) := by decide +kernel
theorem dX0_roomFor_52 : decode cX0_roomFor 52 = .ok (.getfield 359, 3) := by decide +kernel
theorem dX0_roomFor_55 : decode cX0_roomFor 55 = .ok (.iload 7, 2) := by decide +kernel
theorem dX0_roomFor_57 : decode cX0_roomFor 57 = .ok (.iaload, 1) := by decide +kernel
theorem dX0_roomFor_58 : decode cX0_roomFor 58 = .ok (.aload_n 0, 1) := by decide +kernel
theorem dX0_roomFor_59 : decode cX0_roomFor 59 = .ok (.getfield 49, 3) := by decide +kernel
theorem dX0_roomFor_62 : decode cX0_roomFor 62 = .ok (.getfield 100, 3) := by decide +kernel
theorem dX0_roomFor_65 : decode cX0_roomFor 65 = .ok (.getfield 347, 3) := by decide +kernel
theorem dX0_roomFor_68 : decode cX0_roomFor 68 = .ok (.iload 7, 2) := by decide +kernel
theorem dX0_roomFor_70 : decode cX0_roomFor 70 = .ok (.iaload, 1) := by decide +kernel
theorem dX0_roomFor_71 : decode cX0_roomFor 71 = .ok (.iconst 4, 1) := by decide +kernel
theorem dX0_roomFor_72 : decode cX0_roomFor 72 = .ok (.idiv, 1) := by decide +kernel
theorem dX0_roomFor_73 : decode cX0_roomFor 73 = .ok (.isub, 1) := by decide +kernel
theorem dX0_roomFor_74 : decode cX0_roomFor 74 = .ok (.istore 8, 2) := by decide +kernel
theorem dX0_roomFor_76 : decode cX0_roomFor 76 = .ok (.iload 4, 2) := by decide +kernel
theorem dX0_roomFor_78 : decode cX0_roomFor 78 = .ok (.iconst (-1), 1) := by decide +kernel
theorem dX0_roomFor_79 : decode cX0_roomFor 79 = .ok (.if_icmp .eq 14, 3) := by decide +kernel
theorem dX0_roomFor_82 : decode cX0_roomFor 82 = .ok (.iload_n 3, 1) := by decide +kernel
theorem dX0_roomFor_83 : decode cX0_roomFor 83 = .ok (.ifCond .eq 18, 3) := by decide +kernel
theorem dX0_roomFor_86 : decode cX0_roomFor 86 = .ok (.iload 8, 2) := by decide +kernel
theorem dX0_roomFor_88 : decode cX0_roomFor 88 = .ok (.iload 5, 2) := by decide +kernel
theorem dX0_roomFor_90 : decode cX0_roomFor 90 = .ok (.if_icmp .le 11, 3) := by decide +kernel
theorem dX0_roomFor_93 : decode cX0_roomFor 93 = .ok (.iload 6, 2) := by decide +kernel
theorem dX0_roomFor_95 : decode cX0_roomFor 95 = .ok (.istore 4, 2) := by decide +kernel
theorem dX0_roomFor_97 : decode cX0_roomFor 97 = .ok (.iload 8, 2) := by decide +kernel
theorem dX0_roomFor_99 : decode cX0_roomFor 99 = .ok (.istore 5, 2) := by decide +kernel
theorem dX0_roomFor_101 : decode cX0_roomFor 101 = .ok (.iinc 6 1, 3) := by decide +kernel
theorem dX0_roomFor_104 : decode cX0_roomFor 104 = .ok (.goto (-95), 3) := by decide +kernel
theorem dX0_roomFor_107 : decode cX0_roomFor 107 = .ok (.iload 4, 2) := by decide +kernel
theorem dX0_roomFor_109 : decode cX0_roomFor 109 = .ok (.ireturn, 1) := by decide +kernel
theorem okX0_roomFor : ab_okM MX0_roomFor 3 := ⟨by decide, ⟨by decide, by decide⟩, ab_in 1411 (by decide +kernel) (by decide +kernel), ab_in 92 (by decide +kernel) (by decide +kernel), by decide +kernel, by decide⟩
set_option maxHeartbeats 4000000 in
set_option maxRecDepth 100000 in
def wX0_roomFor_93 (v1 : Nat) (v2 : Int32) (v3 : Int32) (v6 : Int32) (v8 : Int32) (x : ab_X) (K : Int32 → Prop) (L9 : Int32 → Int32 → Int32 → Prop) : Prop := L9 v6 v8 (v6 + 1)
set_option maxHeartbeats 4000000 in
set_option maxRecDepth 100000 in
theorem sX0_roomFor_93 (v1 : Nat) (v2 : Int32) (v3 : Int32) (v6 : Int32) (v8 : Int32) (hv1 : isH v1) (x : ab_X) (K : Int32 → Prop) (L9 : Int32 → Int32 → Int32 → Prop) (d bc bs : Nat) (hdp : 1 ≤ d) (hL9 : ∀ (v4 : Int32) (v5 : Int32) (v6 : Int32), L9 v4 v5 v6 → EW MX0_roomFor 9 [(0, .ref 66), (1, .ref v1), (2, .int v2), (3, .int v3), (4, .int v4), (5, .int v5), (6, .int v6)] [] (aS x) d bc bs (liP x K)) (h : wX0_roomFor_93 v1 v2 v3 v6 v8 x K L9) : EW MX0_roomFor 93 [(0, .ref 66), (1, .ref v1), (2, .int v2), (3, .int v3), (6, .int v6), (8, .int v8)] [] (aS x) d bc bs (liP x K) := by
  unfold wX0_roomFor_93 at h
  refine EW_iload (pc2 := 95) rfl dX0_roomFor_93 4 rfl ?_
  refine EW_istore (pc2 := 97) rfl dX0_roomFor_95 (by decide) [1, 2, 3, 4, 0, 5, 6] [(0, .ref 66), (1, .ref v1), (2, .int v2), (3, .int v3), (4, .int v6), (6, .int v6), (8, .int v8)] rfl ?_
  refine EW_iload (pc2 := 99) rfl dX0_roomFor_97 6 rfl ?_
  refine EW_istore (pc2 := 101) rfl dX0_roomFor_99 (by decide) [1, 2, 3, 4, 5, 0, 6, 7] [(0, .ref 66), (1, .ref v1), (2, .int v2), (3, .int v3), (4, .int v6), (5, .int v8), (6, .int v6), (8, .int v8)] rfl ?_
  refine EW_iinc (v6 + 1) (pc2 := 104) rfl dX0_roomFor_101 6 rfl rfl (by decide) [1, 2, 3, 4, 5, 6, 0, 7] [(0, .ref 66), (1, .ref v1), (2, .int v2), (3, .int v3), (4, .int v6), (5, .int v8), (6, .int (v6 + 1)), (8, .int v8)] rfl ?_
  refine EW_goto (tgt := 9) dX0_roomFor_104 (by decide) ?_
  refine EW_ls [0, 1, 2, 3, 4, 5, 6] rfl ?_
  exact hL9 v6 v8 (v6 + 1) h
set_option maxHeartbeats 4000000 in
set_option maxRecDepth 100000 in
def lX0_roomFor_9 (v1 : Nat) (v2 : Int32) (v3 : Int32) (x : ab_X) (K : Int32 → Prop)  (L9 : Int32 → Int32 → Int32 → Prop) (v4 : Int32) (v5 : Int32) (v6 : Int32) : Prop := ((((v2 + 1) * (x.1 v1 4)) ≤ v6 → K v4) ∧ (¬ ((v2 + 1) * (x.1 v1 4)) ≤ v6 → wX4_place v1 v6 x (fun r1 => wX3_burns 11 r1 x (fun r2 => ((r2 = 0 → L9 v4 v5 (v6 + 1)) ∧ (¬ r2 = 0 → (vp_in r1 288 ∧ vp_in r1 288 ∧ ((v4 = (-1) → wX0_roomFor_93 v1 v2 v3 v6 ((x.1 12 (Int32.toNatClampNeg r1)) - ((x.1 14 (Int32.toNatClampNeg r1)) / 4)) x K L9) ∧ (¬ v4 = (-1) → ((v3 = 0 → L9 v4 v5 (v6 + 1)) ∧ (¬ v3 = 0 → ((((x.1 12 (Int32.toNatClampNeg r1)) - ((x.1 14 (Int32.toNatClampNeg r1)) / 4)) ≤ v5 → L9 v4 v5 (v6 + 1)) ∧ (¬ ((x.1 12 (Int32.toNatClampNeg r1)) - ((x.1 14 (Int32.toNatClampNeg r1)) / 4)) ≤ v5 → wX0_roomFor_93 v1 v2 v3 v6 ((x.1 12 (Int32.toNatClampNeg r1)) - ((x.1 14 (Int32.toNatClampNeg r1)) / 4)) x K L9)))))))))))))
set_option maxHeartbeats 4000000 in
set_option maxRecDepth 100000 in
theorem sX0_roomFor_9 (v1 : Nat) (v2 : Int32) (v3 : Int32) (v4 : Int32) (v5 : Int32) (v6 : Int32) (hv1 : isH v1) (x : ab_X) (K : Int32 → Prop)  (d bc bs : Nat) (hdp : 1 ≤ d)  (h : Lp3 (lX0_roomFor_9 v1 v2 v3 x K ) v4 v5 v6) : EW MX0_roomFor 9 [(0, .ref 66), (1, .ref v1), (2, .int v2), (3, .int v3), (4, .int v4), (5, .int v5), (6, .int v6)] [] (aS x) d bc bs (liP x K) := by
  refine Lp3.use (P := fun v4 v5 v6 => EW MX0_roomFor 9 [(0, .ref 66), (1, .ref v1), (2, .int v2), (3, .int v3), (4, .int v4), (5, .int v5), (6, .int v6)] [] (aS x) d bc bs (liP x K)) (fun L9 v4 v5 v6 hL9 h => ?_) v4 v5 v6 h
  unfold lX0_roomFor_9 at h
  refine EW_iload (pc2 := 11) rfl dX0_roomFor_9 6 rfl ?_
  refine EW_iload_n (pc2 := 12) rfl dX0_roomFor_11 2 rfl ?_
  refine EW_iconst (pc2 := 13) (v := 1) rfl dX0_roomFor_12 (by decide) ?_
  refine EW_iadd (pc2 := 14) rfl dX0_roomFor_13 ?_
  refine EW_aload_n (pc2 := 15) rfl dX0_roomFor_14 1 rfl ?_
  refine AW_geti ⟨gfRX0_353, rfl⟩ (pc2 := 18) rfl dX0_roomFor_15 (isH.o hv1) ?_
  refine EW_imul (pc2 := 19) rfl dX0_roomFor_18 ?_
  refine EW_icmp_ge (tgt := 107) (pc2 := 22) rfl dX0_roomFor_19 (by decide) (fun q => ?_) (fun q => ?_)
  · replace h := h.1 q
    refine EW_iload (pc2 := 109) rfl dX0_roomFor_107 4 rfl ?_
    exact AW_iret rfl dX0_roomFor_109 ⟨_, rfl, rfl, h⟩
  · replace h := h.2 q
    refine EW_aload_n (pc2 := 23) rfl dX0_roomFor_22 1 rfl ?_
    refine EW_iload (pc2 := 25) rfl dX0_roomFor_23 6 rfl ?_
    refine AW_invV (M' := MX4_place) [.int v6] (rest := []) mlRX0_350 okX4_place (pc2 := 28) rfl dX0_roomFor_25 rfl rfl (Nat.le_of_ble_eq_true rfl) (Nat.le_of_ble_eq_true rfl) (d' := 0) (by omega) (isH.o hv1) ⟨by decide, rfl⟩ (EW_mono (fun _ _ hr => ?_) (sX4_place v1 v6 hv1 x _ _ 0 0 (Nat.le_refl _) h))
    obtain ⟨r1, rfl, rfl, h⟩ := hr
    refine EW_istore (pc2 := 30) rfl dX0_roomFor_28 (by decide) [1, 2, 3, 4, 5, 6, 7, 0] [(0, .ref 66), (1, .ref v1), (2, .int v2), (3, .int v3), (4, .int v4), (5, .int v5), (6, .int v6), (7, .int r1)] rfl ?_
    refine EW_aload_n (pc2 := 31) rfl dX0_roomFor_30 0 rfl ?_
    refine AW_getr (r := 9) ⟨gfRX0_49, rfl⟩ (pc2 := 34) rfl dX0_roomFor_31 q66 rfl ?_
    refine AW_getr (r := 11) ⟨gfRX0_100, rfl⟩ (pc2 := 37) rfl dX0_roomFor_34 q9 rfl ?_
    refine EW_iload (pc2 := 39) rfl dX0_roomFor_37 7 rfl ?_
    refine AW_invV (M' := MX3_burns) [.int r1] (rest := []) mlRX0_356 okX3_burns (pc2 := 42) rfl dX0_roomFor_39 rfl rfl (Nat.le_of_ble_eq_true rfl) (Nat.le_of_ble_eq_true rfl) (d' := 0) (by omega) q11 ⟨by decide, rfl⟩ (EW_mono (fun _ _ hr => ?_) (sX3_burns 11 r1 (Or.inl rfl : isF 11) x _ _ 0 0 (Nat.le_refl _) h))
    obtain ⟨r2, rfl, rfl, h⟩ := hr
    refine EW_if_eq (tgt := 101) (pc2 := 45) rfl dX0_roomFor_42 (by decide) (fun q => ?_) (fun q => ?_)
    · replace h := h.1 q
      refine EW_iinc (v6 + 1) (pc2 := 104) rfl dX0_roomFor_101 6 rfl rfl (by decide) [1, 2, 3, 4, 5, 6, 0, 7] [(0, .ref 66), (1, .ref v1), (2, .int v2), (3, .int v3), (4, .int v4), (5, .int v5), (6, .int (v6 + 1)), (7, .int r1)] rfl ?_
      refine EW_goto (tgt := 9) dX0_roomFor_104 (by decide) ?_
      refine EW_ls [0, 1, 2, 3, 4, 5, 6] rfl ?_
      exact hL9 v4 v5 (v6 + 1) h
    · replace h := h.2 q
      refine EW_aload_n (pc2 := 46) rfl dX0_roomFor_45 0 rfl ?_
      refine AW_getr (r := 9) ⟨gfRX0_49, rfl⟩ (pc2 := 49) rfl dX0_roomFor_46 q66 rfl ?_
      refine AW_getr (r := 11) ⟨gfRX0_100, rfl⟩ (pc2 := 52) rfl dX0_roomFor_49 q9 rfl ?_
      refine AW_getr (r := 12) ⟨gfRX0_359, rfl⟩ (pc2 := 55) rfl dX0_roomFor_52 q11 rfl ?_
      refine EW_iload (pc2 := 57) rfl dX0_roomFor_55 7 rfl ?_
      obtain ⟨b3, h⟩ := h
      refine AW_iald (pc2 := 58) rfl dX0_roomFor_57 q12 b3 ?_
      refine EW_aload_n (pc2 := 59) rfl dX0_roomFor_58 0 rfl ?_
      refine AW_getr (r := 9) ⟨gfRX0_49, rfl⟩ (pc2 := 62) rfl dX0_roomFor_59 q66 rfl ?_
      refine AW_getr (r := 11) ⟨gfRX0_100, rfl⟩ (pc2 := 65) rfl dX0_roomFor_62 q9 rfl ?_
      refine AW_getr (r := 14) ⟨gfRX0_347, rfl⟩ (pc2 := 68) rfl dX0_roomFor_65 q11 rfl ?_
      refine EW_iload (pc2 := 70) rfl dX0_roomFor_68 7 rfl ?_
      obtain ⟨b4, h⟩ := h
      refine AW_iald (pc2 := 71) rfl dX0_roomFor_70 q14 b4 ?_
      refine EW_iconst (pc2 := 72) (v := 4) rfl dX0_roomFor_71 (by decide) ?_
      refine EW_idiv (pc2 := 73) rfl dX0_roomFor_72 (by decide) ?_
      refine EW_isub (pc2 := 74) rfl dX0_roomFor_73 ?_
      refine EW_istore (pc2 := 76) rfl dX0_roomFor_74 (by decide) [1, 2, 3, 4, 5, 6, 7, 8, 0] [(0, .ref 66), (1, .ref v1), (2, .int v2), (3, .int v3), (4, .int v4), (5, .int v5), (6, .int v6), (7, .int r1), (8, .int ((x.1 12 (Int32.toNatClampNeg r1)) - ((x.1 14 (Int32.toNatClampNeg r1)) / 4)))] rfl ?_
      refine EW_iload (pc2 := 78) rfl dX0_roomFor_76 4 rfl ?_
      refine EW_iconst (pc2 := 79) (v := (-1)) rfl dX0_roomFor_78 (by decide) ?_
      refine EW_icmp_eq (tgt := 93) (pc2 := 82) rfl dX0_roomFor_79 (by decide) (fun q => ?_) (fun q => ?_)
      · replace h := h.1 q
        refine EW_ls [0, 1, 2, 3, 6, 8] rfl ?_
        exact sX0_roomFor_93 v1 v2 v3 v6 ((x.1 12 (Int32.toNatClampNeg r1)) - ((x.1 14 (Int32.toNatClampNeg r1)) / 4)) hv1 x K L9 d bc bs hdp hL9 h
      · replace h := h.2 q
        refine EW_iload_n (pc2 := 83) rfl dX0_roomFor_82 3 rfl ?_
        refine EW_if_eq (tgt := 101) (pc2 := 86) rfl dX0_roomFor_83 (by decide) (fun q => ?_) (fun q => ?_)
        · replace h := h.1 q
          refine EW_iinc (v6 + 1) (pc2 := 104) rfl dX0_roomFor_101 6 rfl rfl (by decide) [1, 2, 3, 4, 5, 6, 0, 7, 8] [(0, .ref 66), (1, .ref v1), (2, .int v2), (3, .int v3), (4, .int v4), (5, .int v5), (6, .int (v6 + 1)), (7, .int r1), (8, .int ((x.1 12 (Int32.toNatClampNeg r1)) - ((x.1 14 (Int32.toNatClampNeg r1)) / 4)))] rfl ?_
          refine EW_goto (tgt := 9) dX0_roomFor_104 (by decide) ?_
          refine EW_ls [0, 1, 2, 3, 4, 5, 6] rfl ?_
          exact hL9 v4 v5 (v6 + 1) h
        · replace h := h.2 q
          refine EW_iload (pc2 := 88) rfl dX0_roomFor_86 8 rfl ?_
          refine EW_iload (pc2 := 90) rfl dX0_roomFor_88 5 rfl ?_
          refine EW_icmp_le (tgt := 101) (pc2 := 93) rfl dX0_roomFor_90 (by decide) (fun q => ?_) (fun q => ?_)
          · replace h := h.1 q
            refine EW_iinc (v6 + 1) (pc2 := 104) rfl dX0_roomFor_101 6 rfl rfl (by decide) [1, 2, 3, 4, 5, 6, 0, 7, 8] [(0, .ref 66), (1, .ref v1), (2, .int v2), (3, .int v3), (4, .int v4), (5, .int v5), (6, .int (v6 + 1)), (7, .int r1), (8, .int ((x.1 12 (Int32.toNatClampNeg r1)) - ((x.1 14 (Int32.toNatClampNeg r1)) / 4)))] rfl ?_
            refine EW_goto (tgt := 9) dX0_roomFor_104 (by decide) ?_
            refine EW_ls [0, 1, 2, 3, 4, 5, 6] rfl ?_
            exact hL9 v4 v5 (v6 + 1) h
          · replace h := h.2 q
            refine EW_ls [0, 1, 2, 3, 6, 8] rfl ?_
            exact sX0_roomFor_93 v1 v2 v3 v6 ((x.1 12 (Int32.toNatClampNeg r1)) - ((x.1 14 (Int32.toNatClampNeg r1)) / 4)) hv1 x K L9 d bc bs hdp hL9 h
set_option maxHeartbeats 4000000 in
set_option maxRecDepth 100000 in
def wX0_roomFor (v1 : Nat) (v2 : Int32) (v3 : Int32) (x : ab_X) (K : Int32 → Prop) : Prop := Lp3 (lX0_roomFor_9 v1 v2 v3 x K ) (-1) 0 0
set_option maxHeartbeats 4000000 in
set_option maxRecDepth 100000 in
theorem sX0_roomFor (v1 : Nat) (v2 : Int32) (v3 : Int32) (hv1 : isH v1) (x : ab_X) (K : Int32 → Prop) (d bc bs : Nat) (hdp : 1 ≤ d) (h : wX0_roomFor v1 v2 v3 x K) : EW MX0_roomFor 0 [(0, .ref 66), (1, .ref v1), (2, .int v2), (3, .int v3)] [] (aS x) d bc bs (liP x K) := by
  unfold wX0_roomFor at h
  refine EW_iconst (pc2 := 1) (v := (-1)) rfl dX0_roomFor_0 (by decide) ?_
  refine EW_istore (pc2 := 3) rfl dX0_roomFor_1 (by decide) [1, 2, 3, 4, 0] [(0, .ref 66), (1, .ref v1), (2, .int v2), (3, .int v3), (4, .int (-1))] rfl ?_
  refine EW_iconst (pc2 := 4) (v := 0) rfl dX0_roomFor_3 (by decide) ?_
  refine EW_istore (pc2 := 6) rfl dX0_roomFor_4 (by decide) [1, 2, 3, 4, 5, 0] [(0, .ref 66), (1, .ref v1), (2, .int v2), (3, .int v3), (4, .int (-1)), (5, .int 0)] rfl ?_
  refine EW_iconst (pc2 := 7) (v := 0) rfl dX0_roomFor_6 (by decide) ?_
  refine EW_istore (pc2 := 9) rfl dX0_roomFor_7 (by decide) [1, 2, 3, 4, 5, 6, 0] [(0, .ref 66), (1, .ref v1), (2, .int v2), (3, .int v3), (4, .int (-1)), (5, .int 0), (6, .int 0)] rfl ?_
  exact sX0_roomFor_9 v1 v2 v3 (-1) 0 0 hv1 x K d bc bs hdp h
abbrev MX11_isCorner : ab_M := (yX11_isCorner, cX11_isCorner, 1, (some .boolean))
theorem dX11_isCorner_0 : decode cX11_isCorner 0 = .ok (.iload_n 0, 1) := by decide +kernel
theorem dX11_isCorner_1 : decode cX11_isCorner 1 = .ok (.ifCond .lt 13, 3) := by decide +kernel
theorem dX11_isCorner_4 : decode cX11_isCorner 4 = .ok (.iload_n 0, 1) := by decide +kernel
theorem dX11_isCorner_5 : decode cX11_isCorner 5 = .ok (.bipush 20, 2) := by decide +kernel
theorem dX11_isCorner_7 : decode cX11_isCorner 7 = .ok (.if_icmp .ge 7, 3) := by decide +kernel
theorem dX11_isCorner_10 : decode cX11_isCorner 10 = .ok (.iconst 1, 1) := by decide +kernel
theorem dX11_isCorner_11 : decode cX11_isCorner 11 = .ok (.goto 4, 3) := by decide +kernel
theorem dX11_isCorner_14 : decode cX11_isCorner 14 = .ok (.iconst 0, 1) := by decide +kernel
theorem dX11_isCorner_15 : decode cX11_isCorner 15 = .ok (.ireturn, 1) := by decide +kernel
theorem okX11_isCorner : ab_okM MX11_isCorner 1 := ⟨by decide, ⟨by decide, by decide⟩, ab_in 769 (by decide +kernel) (by decide +kernel), ab_in 86 (by decide +kernel) (by decide +kernel), by decide +kernel, by decide⟩
set_option maxHeartbeats 4000000 in
set_option maxRecDepth 100000 in
def wX11_isCorner (v0 : Int32) (x : ab_X) (K : Int32 → Prop) : Prop := ((v0 < 0 → K 0) ∧ (¬ v0 < 0 → ((20 ≤ v0 → K 0) ∧ (¬ 20 ≤ v0 → K 1))))
set_option maxHeartbeats 4000000 in
set_option maxRecDepth 100000 in
theorem sX11_isCorner (v0 : Int32)  (x : ab_X) (K : Int32 → Prop) (d bc bs : Nat) (hdp : 0 ≤ d) (h : wX11_isCorner v0 x K) : EW MX11_isCorner 0 [(0, .int v0)] [] (aS x) d bc bs (liP x K) := by
  unfold wX11_isCorner at h
  refine EW_iload_n (pc2 := 1) rfl dX11_isCorner_0 0 rfl ?_
  refine EW_if_lt (tgt := 14) (pc2 := 4) rfl dX11_isCorner_1 (by decide) (fun q => ?_) (fun q => ?_)
  · replace h := h.1 q
    refine EW_iconst (pc2 := 15) (v := 0) rfl dX11_isCorner_14 (by decide) ?_
    exact AW_zret rfl isB0 dX11_isCorner_15 ⟨_, rfl, rfl, h⟩
  · replace h := h.2 q
    refine EW_iload_n (pc2 := 5) rfl dX11_isCorner_4 0 rfl ?_
    refine EW_bipush (pc2 := 7) (v := 20) rfl dX11_isCorner_5 (by decide) ?_
    refine EW_icmp_ge (tgt := 14) (pc2 := 10) rfl dX11_isCorner_7 (by decide) (fun q => ?_) (fun q => ?_)
    · replace h := h.1 q
      refine EW_iconst (pc2 := 15) (v := 0) rfl dX11_isCorner_14 (by decide) ?_
      exact AW_zret rfl isB0 dX11_isCorner_15 ⟨_, rfl, rfl, h⟩
    · replace h := h.2 q
      refine EW_iconst (pc2 := 11) (v := 1) rfl dX11_isCorner_10 (by decide) ?_
      refine EW_goto (tgt := 15) dX11_isCorner_11 (by decide) ?_
      exact AW_zret rfl isB1 dX11_isCorner_15 ⟨_, rfl, rfl, h⟩
theorem mlRX6_58 : Cond.methodLinkNest RX6 58 yX11_isCorner "CityBrigade" ∈ tables_1.filter ab_isN ∧ Cond.static yX11_isCorner ∈ ab_G := ⟨List.mem_filter.mpr ⟨List.mem_of_getElem? (i := 700) (by decide +kernel), rfl⟩, ab_in 768 (by decide +kernel) (by decide +kernel)⟩
theorem cnRX6_40 : Cond.constant RX6 40 1000000 ∈ ab_G := ab_in 130 (by decide +kernel) (by decide +kernel)
theorem gfRX6_28 : ab_L RX6 28 6 5 := ⟨by decide, by decide, ab_in 138 (by decide +kernel) (by decide +kernel)⟩
abbrev MX6_walk : ab_M := (yX6_walk, cX6_walk, 3, (some .int))
theorem dX6_walk_0 : decode cX6_walk 0 = .ok (.iload_n 1, 1) := by decide +kernel
theorem dX6_walk_1 : decode cX6_walk 1 = .ok (.invokestatic 58, 3) := by decide +kernel
theorem dX6_walk_4 : decode cX6_walk 4 = .ok (.ifCond .eq 24, 3) := by decide +kernel
theorem dX6_walk_7 : decode cX6_walk 7 = .ok (.iload_n 2, 1) := by decide +kernel
theorem dX6_walk_8 : decode cX6_walk 8 = .ok (.invokestatic 58, 3) := by decide +kernel
theorem dX6_walk_11 : decode cX6_walk 11 = .ok (.ifCond .eq 17, 3) := by decide +kernel
theorem dX6_walk_14 : decode cX6_walk 14 = .ok (.aload_n 0, 1) := by decide +kernel
theorem dX6_walk_15 : decode cX6_walk 15 = .ok (.getfield 28, 3) := by decide +kernel
theorem dX6_walk_18 : decode cX6_walk 18 = .ok (.iload_n 1, 1) := by decide +kernel
theorem dX6_walk_19 : decode cX6_walk 19 = .ok (.bipush 20, 2) := by decide +kernel
theorem dX6_walk_21 : decode cX6_walk 21 = .ok (.imul, 1) := by decide +kernel
theorem dX6_walk_22 : decode cX6_walk 22 = .ok (.iload_n 2, 1) := by decide +kernel
theorem dX6_walk_23 : decode cX6_walk 23 = .ok (.iadd, 1) := by decide +kernel
theorem dX6_walk_24 : decode cX6_walk 24 = .ok (.iaload, 1) := by decide +kernel
theorem dX6_walk_25 : decode cX6_walk 25 = .ok (.goto 5, 3) := by decide +kernel
theorem dX6_walk_28 : decode cX6_walk 28 = .ok (.ldc 40, 2) := by decide +kernel
theorem dX6_walk_30 : decode cX6_walk 30 = .ok (.ireturn, 1) := by decide +kernel
theorem okX6_walk : ab_okM MX6_walk 2 := ⟨by decide, ⟨by decide, by decide⟩, ab_in 784 (by decide +kernel) (by decide +kernel), ab_in 87 (by decide +kernel) (by decide +kernel), by decide +kernel, by decide⟩
set_option maxHeartbeats 4000000 in
set_option maxRecDepth 100000 in
def wX6_walk (v1 : Int32) (v2 : Int32) (x : ab_X) (K : Int32 → Prop) : Prop := wX11_isCorner v1 x (fun r1 => ((r1 = 0 → K 1000000) ∧ (¬ r1 = 0 → wX11_isCorner v2 x (fun r2 => ((r2 = 0 → K 1000000) ∧ (¬ r2 = 0 → (vp_in ((v1 * 20) + v2) 400 ∧ K (x.1 7 (Int32.toNatClampNeg ((v1 * 20) + v2))))))))))
set_option maxHeartbeats 4000000 in
set_option maxRecDepth 100000 in
theorem sX6_walk (v1 : Int32) (v2 : Int32)  (x : ab_X) (K : Int32 → Prop) (d bc bs : Nat) (hdp : 1 ≤ d) (h : wX6_walk v1 v2 x K) : EW MX6_walk 0 [(0, .ref 1), (1, .int v1), (2, .int v2)] [] (aS x) d bc bs (liP x K) := by
  unfold wX6_walk at h
  refine EW_iload_n (pc2 := 1) rfl dX6_walk_0 1 rfl ?_
  refine AW_invSN (M' := MX11_isCorner) [.int v1] (rest := []) mlRX6_58 okX11_isCorner (pc2 := 4) rfl dX6_walk_1 rfl rfl (Nat.le_of_ble_eq_true rfl) (Nat.le_of_ble_eq_true rfl) (d' := 0) (by omega) (EW_mono (fun _ _ hr => ?_) (sX11_isCorner v1  x _ _ 0 0 (Nat.le_refl _) h))
  obtain ⟨r1, rfl, rfl, h⟩ := hr
  refine EW_if_eq (tgt := 28) (pc2 := 7) rfl dX6_walk_4 (by decide) (fun q => ?_) (fun q => ?_)
  · replace h := h.1 q
    refine EW_ldc cnRX6_40 (pc2 := 30) rfl dX6_walk_28 ?_
    exact AW_iret rfl dX6_walk_30 ⟨_, rfl, rfl, h⟩
  · replace h := h.2 q
    refine EW_iload_n (pc2 := 8) rfl dX6_walk_7 2 rfl ?_
    refine AW_invSN (M' := MX11_isCorner) [.int v2] (rest := []) mlRX6_58 okX11_isCorner (pc2 := 11) rfl dX6_walk_8 rfl rfl (Nat.le_of_ble_eq_true rfl) (Nat.le_of_ble_eq_true rfl) (d' := 0) (by omega) (EW_mono (fun _ _ hr => ?_) (sX11_isCorner v2  x _ _ 0 0 (Nat.le_refl _) h))
    obtain ⟨r2, rfl, rfl, h⟩ := hr
    refine EW_if_eq (tgt := 28) (pc2 := 14) rfl dX6_walk_11 (by decide) (fun q => ?_) (fun q => ?_)
    · replace h := h.1 q
      refine EW_ldc cnRX6_40 (pc2 := 30) rfl dX6_walk_28 ?_
      exact AW_iret rfl dX6_walk_30 ⟨_, rfl, rfl, h⟩
    · replace h := h.2 q
      refine EW_aload_n (pc2 := 15) rfl dX6_walk_14 0 rfl ?_
      refine AW_getr (r := 7) ⟨gfRX6_28, rfl⟩ (pc2 := 18) rfl dX6_walk_15 q1 rfl ?_
      refine EW_iload_n (pc2 := 19) rfl dX6_walk_18 1 rfl ?_
      refine EW_bipush (pc2 := 21) (v := 20) rfl dX6_walk_19 (by decide) ?_
      refine EW_imul (pc2 := 22) rfl dX6_walk_21 ?_
      refine EW_iload_n (pc2 := 23) rfl dX6_walk_22 2 rfl ?_
      refine EW_iadd (pc2 := 24) rfl dX6_walk_23 ?_
      obtain ⟨b3, h⟩ := h
      refine AW_iald (pc2 := 25) rfl dX6_walk_24 q7 b3 ?_
      refine EW_goto (tgt := 30) dX6_walk_25 (by decide) ?_
      exact AW_iret rfl dX6_walk_30 ⟨_, rfl, rfl, h⟩
