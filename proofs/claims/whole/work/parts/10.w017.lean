abbrev MX3_waste : ab_M := (yX3_waste, cX3_waste, 6, none)
theorem dX3_waste_0 : decode cX3_waste 0 = .ok (.iconst 0, 1) := by decide +kernel
theorem dX3_waste_1 : decode cX3_waste 1 = .ok (.istore_n 2, 1) := by decide +kernel
theorem dX3_waste_2 : decode cX3_waste 2 = .ok (.iload_n 2, 1) := by decide +kernel
theorem dX3_waste_3 : decode cX3_waste 3 = .ok (.aload_n 1, 1) := by decide +kernel
theorem dX3_waste_4 : decode cX3_waste 4 = .ok (.getfield 56, 3) := by decide +kernel
theorem dX3_waste_7 : decode cX3_waste 7 = .ok (.if_icmp .ge 101, 3) := by decide +kernel
theorem dX3_waste_10 : decode cX3_waste 10 = .ok (.iconst 0, 1) := by decide +kernel
theorem dX3_waste_11 : decode cX3_waste 11 = .ok (.istore_n 3, 1) := by decide +kernel
theorem dX3_waste_12 : decode cX3_waste 12 = .ok (.iload_n 3, 1) := by decide +kernel
theorem dX3_waste_13 : decode cX3_waste 13 = .ok (.aload_n 1, 1) := by decide +kernel
theorem dX3_waste_14 : decode cX3_waste 14 = .ok (.getfield 60, 3) := by decide +kernel
theorem dX3_waste_17 : decode cX3_waste 17 = .ok (.if_icmp .ge 85, 3) := by decide +kernel
theorem dX3_waste_20 : decode cX3_waste 20 = .ok (.aload_n 1, 1) := by decide +kernel
theorem dX3_waste_21 : decode cX3_waste 21 = .ok (.iload_n 2, 1) := by decide +kernel
theorem dX3_waste_22 : decode cX3_waste 22 = .ok (.aload_n 1, 1) := by decide +kernel
theorem dX3_waste_23 : decode cX3_waste 23 = .ok (.getfield 60, 3) := by decide +kernel
theorem dX3_waste_26 : decode cX3_waste 26 = .ok (.imul, 1) := by decide +kernel
theorem dX3_waste_27 : decode cX3_waste 27 = .ok (.iload_n 3, 1) := by decide +kernel
theorem dX3_waste_28 : decode cX3_waste 28 = .ok (.iadd, 1) := by decide +kernel
theorem dX3_waste_29 : decode cX3_waste 29 = .ok (.invokevirtual 63, 3) := by decide +kernel
theorem dX3_waste_32 : decode cX3_waste 32 = .ok (.istore 4, 2) := by decide +kernel
theorem dX3_waste_34 : decode cX3_waste 34 = .ok (.aload_n 0, 1) := by decide +kernel
theorem dX3_waste_35 : decode cX3_waste 35 = .ok (.getfield 28, 3) := by decide +kernel
theorem dX3_waste_38 : decode cX3_waste 38 = .ok (.iload 4, 2) := by decide +kernel
theorem dX3_waste_40 : decode cX3_waste 40 = .ok (.baload, 1) := by decide +kernel
theorem dX3_waste_41 : decode cX3_waste 41 = .ok (.ifCond .eq 55, 3) := by decide +kernel
theorem dX3_waste_44 : decode cX3_waste 44 = .ok (.aload_n 0, 1) := by decide +kernel
theorem dX3_waste_45 : decode cX3_waste 45 = .ok (.getfield 15, 3) := by decide +kernel
theorem dX3_waste_48 : decode cX3_waste 48 = .ok (.iload 4, 2) := by decide +kernel
theorem dX3_waste_50 : decode cX3_waste 50 = .ok (.iaload, 1) := by decide +kernel
theorem dX3_waste_51 : decode cX3_waste 51 = .ok (.iconst 1, 1) := by decide +kernel
theorem dX3_waste_52 : decode cX3_waste 52 = .ok (.aload_n 0, 1) := by decide +kernel
theorem dX3_waste_53 : decode cX3_waste 53 = .ok (.getfield 9, 3) := by decide +kernel
theorem dX3_waste_56 : decode cX3_waste 56 = .ok (.iload 4, 2) := by decide +kernel
theorem dX3_waste_58 : decode cX3_waste 58 = .ok (.iaload, 1) := by decide +kernel
theorem dX3_waste_59 : decode cX3_waste 59 = .ok (.sipush 250, 3) := by decide +kernel
theorem dX3_waste_62 : decode cX3_waste 62 = .ok (.idiv, 1) := by decide +kernel
theorem dX3_waste_63 : decode cX3_waste 63 = .ok (.iadd, 1) := by decide +kernel
theorem dX3_waste_64 : decode cX3_waste 64 = .ok (.invokestatic 103, 3) := by decide +kernel
theorem dX3_waste_67 : decode cX3_waste 67 = .ok (.istore 5, 2) := by decide +kernel
theorem dX3_waste_69 : decode cX3_waste 69 = .ok (.aload_n 0, 1) := by decide +kernel
theorem dX3_waste_70 : decode cX3_waste 70 = .ok (.getfield 15, 3) := by decide +kernel
theorem dX3_waste_73 : decode cX3_waste 73 = .ok (.iload 4, 2) := by decide +kernel
theorem dX3_waste_75 : decode cX3_waste 75 = .ok (.dup2, 1) := by decide +kernel
theorem dX3_waste_76 : decode cX3_waste 76 = .ok (.iaload, 1) := by decide +kernel
theorem dX3_waste_77 : decode cX3_waste 77 = .ok (.iload 5, 2) := by decide +kernel
theorem dX3_waste_79 : decode cX3_waste 79 = .ok (.isub, 1) := by decide +kernel
theorem dX3_waste_80 : decode cX3_waste 80 = .ok (.iastore, 1) := by decide +kernel
theorem dX3_waste_81 : decode cX3_waste 81 = .ok (.aload_n 0, 1) := by decide +kernel
theorem dX3_waste_82 : decode cX3_waste 82 = .ok (.getfield 21, 3) := by decide +kernel
theorem dX3_waste_85 : decode cX3_waste 85 = .ok (.aload_n 1, 1) := by decide +kernel
theorem dX3_waste_86 : decode cX3_waste 86 = .ok (.iload_n 2, 1) := by decide +kernel
theorem dX3_waste_87 : decode cX3_waste 87 = .ok (.invokevirtual 50, 3) := by decide +kernel
theorem dX3_waste_90 : decode cX3_waste 90 = .ok (.dup2, 1) := by decide +kernel
theorem dX3_waste_91 : decode cX3_waste 91 = .ok (.iaload, 1) := by decide +kernel
theorem dX3_waste_92 : decode cX3_waste 92 = .ok (.iload 5, 2) := by decide +kernel
theorem dX3_waste_94 : decode cX3_waste 94 = .ok (.iadd, 1) := by decide +kernel
theorem dX3_waste_95 : decode cX3_waste 95 = .ok (.iastore, 1) := by decide +kernel
theorem dX3_waste_96 : decode cX3_waste 96 = .ok (.iinc 3 1, 3) := by decide +kernel
theorem dX3_waste_99 : decode cX3_waste 99 = .ok (.goto (-87), 3) := by decide +kernel
theorem dX3_waste_102 : decode cX3_waste 102 = .ok (.iinc 2 1, 3) := by decide +kernel
theorem dX3_waste_105 : decode cX3_waste 105 = .ok (.goto (-103), 3) := by decide +kernel
theorem dX3_waste_108 : decode cX3_waste 108 = .ok (.return_, 1) := by decide +kernel
theorem okX3_waste : ab_okM MX3_waste 1 := ⟨by decide, ⟨by decide, by decide⟩, ab_in 1452 (by decide +kernel) (by decide +kernel), ab_in 90 (by decide +kernel) (by decide +kernel), by decide +kernel, by decide⟩
set_option maxHeartbeats 4000000 in
set_option maxRecDepth 100000 in
def lX3_waste_12 (v0 : Nat) (v1 : Nat) (v2 : Int32) (K : ab_X → Prop) (L2 : Int32 → ab_X → Prop) (L12 : Int32 → ab_X → Prop) (v3 : Int32) (x : ab_X) : Prop := (((x.1 v1 4) ≤ v3 → L2 (v2 + 1) x) ∧ (¬ (x.1 v1 4) ≤ v3 → wX4_place v1 ((v2 * (x.1 v1 4)) + v3) x (fun r1 => (vp_in r1 288 ∧ (((x.1 (v0 + 6) (Int32.toNatClampNeg r1)) = 0 → L12 (v3 + 1) x) ∧ (¬ (x.1 (v0 + 6) (Int32.toNatClampNeg r1)) = 0 → (vp_in r1 288 ∧ vp_in r1 288 ∧ vp_in r1 288 ∧ vp_in r1 288 ∧ wX4_storey v1 v2 (wr x (v0 + 2) (Int32.toNatClampNeg r1) ((x.1 (v0 + 2) (Int32.toNatClampNeg r1)) - (imin (x.1 (v0 + 2) (Int32.toNatClampNeg r1)) (1 + ((x.1 (v0 + 1) (Int32.toNatClampNeg r1)) / 250))))) (fun r7 => (vp_in r7 72 ∧ vp_in r7 72 ∧ L12 (v3 + 1) (wr (wr x (v0 + 2) (Int32.toNatClampNeg r1) ((x.1 (v0 + 2) (Int32.toNatClampNeg r1)) - (imin (x.1 (v0 + 2) (Int32.toNatClampNeg r1)) (1 + ((x.1 (v0 + 1) (Int32.toNatClampNeg r1)) / 250))))) (v0 + 4) (Int32.toNatClampNeg r7) (((wr x (v0 + 2) (Int32.toNatClampNeg r1) ((x.1 (v0 + 2) (Int32.toNatClampNeg r1)) - (imin (x.1 (v0 + 2) (Int32.toNatClampNeg r1)) (1 + ((x.1 (v0 + 1) (Int32.toNatClampNeg r1)) / 250))))).1 (v0 + 4) (Int32.toNatClampNeg r7)) + (imin (x.1 (v0 + 2) (Int32.toNatClampNeg r1)) (1 + ((x.1 (v0 + 1) (Int32.toNatClampNeg r1)) / 250))))))))))))))
set_option maxHeartbeats 4000000 in
set_option maxRecDepth 100000 in
theorem sX3_waste_12 (v0 : Nat) (v1 : Nat) (v2 : Int32) (v3 : Int32) (hv0 : isF v0) (hv1 : isH v1) (x : ab_X) (K : ab_X → Prop) (L2 : Int32 → ab_X → Prop) (d bc bs : Nat) (hdp : 1 ≤ d) (hL2 : ∀ (v2 : Int32) (x : ab_X), L2 v2 x → EW MX3_waste 2 [(0, .ref v0), (1, .ref v1), (2, .int v2)] [] (aS x) d bc bs (liV K)) (h : Lp2 (lX3_waste_12 v0 v1 v2 K L2) v3 x) : EW MX3_waste 12 [(0, .ref v0), (1, .ref v1), (2, .int v2), (3, .int v3)] [] (aS x) d bc bs (liV K) := by
  refine Lp2.use (P := fun v3 x => EW MX3_waste 12 [(0, .ref v0), (1, .ref v1), (2, .int v2), (3, .int v3)] [] (aS x) d bc bs (liV K)) (fun L12 v3 x hL12 h => ?_) v3 x h
  unfold lX3_waste_12 at h
  refine EW_iload_n (pc2 := 13) rfl dX3_waste_12 3 rfl ?_
  refine EW_aload_n (pc2 := 14) rfl dX3_waste_13 1 rfl ?_
  refine AW_geti ⟨gfRX3_60, rfl⟩ (pc2 := 17) rfl dX3_waste_14 (isH.o hv1) ?_
  refine EW_icmp_ge (tgt := 102) (pc2 := 20) rfl dX3_waste_17 (by decide) (fun q => ?_) (fun q => ?_)
  · replace h := h.1 q
    refine EW_iinc (v2 + 1) (pc2 := 105) rfl dX3_waste_102 2 rfl rfl (by decide) [1, 2, 0, 3] [(0, .ref v0), (1, .ref v1), (2, .int (v2 + 1)), (3, .int v3)] rfl ?_
    refine EW_goto (tgt := 2) dX3_waste_105 (by decide) ?_
    refine EW_ls [0, 1, 2] rfl ?_
    exact hL2 (v2 + 1) x h
  · replace h := h.2 q
    refine EW_aload_n (pc2 := 21) rfl dX3_waste_20 1 rfl ?_
    refine EW_iload_n (pc2 := 22) rfl dX3_waste_21 2 rfl ?_
    refine EW_aload_n (pc2 := 23) rfl dX3_waste_22 1 rfl ?_
    refine AW_geti ⟨gfRX3_60, rfl⟩ (pc2 := 26) rfl dX3_waste_23 (isH.o hv1) ?_
    refine EW_imul (pc2 := 27) rfl dX3_waste_26 ?_
    refine EW_iload_n (pc2 := 28) rfl dX3_waste_27 3 rfl ?_
    refine EW_iadd (pc2 := 29) rfl dX3_waste_28 ?_
    refine AW_invV (M' := MX4_place) [.int ((v2 * (x.1 v1 4)) + v3)] (rest := []) mlRX3_63 okX4_place (pc2 := 32) rfl dX3_waste_29 rfl rfl (Nat.le_of_ble_eq_true rfl) (Nat.le_of_ble_eq_true rfl) (d' := 0) (by omega) (isH.o hv1) ⟨by decide, rfl⟩ (EW_mono (fun _ _ hr => ?_) (sX4_place v1 ((v2 * (x.1 v1 4)) + v3) hv1 x _ _ 0 0 (Nat.le_refl _) h))
    obtain ⟨r1, rfl, rfl, h⟩ := hr
    refine EW_istore (pc2 := 34) rfl dX3_waste_32 (by decide) [1, 2, 3, 4, 0] [(0, .ref v0), (1, .ref v1), (2, .int v2), (3, .int v3), (4, .int r1)] rfl ?_
    refine EW_aload_n (pc2 := 35) rfl dX3_waste_34 0 rfl ?_
    refine AW_getr (r := (v0 + 6)) ⟨gfRX3_28, rfl⟩ (pc2 := 38) rfl dX3_waste_35 (isF.o hv0) (isF.r5 hv0) ?_
    refine EW_iload (pc2 := 40) rfl dX3_waste_38 4 rfl ?_
    obtain ⟨b2, h⟩ := h
    refine AW_zald (pc2 := 41) rfl dX3_waste_40 (isF.a5 hv0) b2 ?_
    refine EW_if_eq (tgt := 96) (pc2 := 44) rfl dX3_waste_41 (by decide) (fun q => ?_) (fun q => ?_)
    · replace h := h.1 q
      refine EW_iinc (v3 + 1) (pc2 := 99) rfl dX3_waste_96 3 rfl rfl (by decide) [1, 2, 3, 0, 4] [(0, .ref v0), (1, .ref v1), (2, .int v2), (3, .int (v3 + 1)), (4, .int r1)] rfl ?_
      refine EW_goto (tgt := 12) dX3_waste_99 (by decide) ?_
      refine EW_ls [0, 1, 2, 3] rfl ?_
      exact hL12 (v3 + 1) x h
    · replace h := h.2 q
      refine EW_aload_n (pc2 := 45) rfl dX3_waste_44 0 rfl ?_
      refine AW_getr (r := (v0 + 2)) ⟨gfRX3_15, rfl⟩ (pc2 := 48) rfl dX3_waste_45 (isF.o hv0) (isF.r1 hv0) ?_
      refine EW_iload (pc2 := 50) rfl dX3_waste_48 4 rfl ?_
      obtain ⟨b3, h⟩ := h
      refine AW_iald (pc2 := 51) rfl dX3_waste_50 (isF.a1 hv0) b3 ?_
      refine EW_iconst (pc2 := 52) (v := 1) rfl dX3_waste_51 (by decide) ?_
      refine EW_aload_n (pc2 := 53) rfl dX3_waste_52 0 rfl ?_
      refine AW_getr (r := (v0 + 1)) ⟨gfRX3_9, rfl⟩ (pc2 := 56) rfl dX3_waste_53 (isF.o hv0) (isF.r0 hv0) ?_
      refine EW_iload (pc2 := 58) rfl dX3_waste_56 4 rfl ?_
      obtain ⟨b4, h⟩ := h
      refine AW_iald (pc2 := 59) rfl dX3_waste_58 (isF.a0 hv0) b4 ?_
      refine EW_sipush (pc2 := 62) (v := 250) rfl dX3_waste_59 (by decide) ?_
      refine EW_idiv (pc2 := 63) rfl dX3_waste_62 (by decide) ?_
      refine EW_iadd (pc2 := 64) rfl dX3_waste_63 ?_
      refine AW_mmin mmRX3_103 (pc2 := 67) rfl dX3_waste_64 (Nat.le_of_ble_eq_true rfl) (by omega) ?_
      refine EW_istore (pc2 := 69) rfl dX3_waste_67 (by decide) [1, 2, 3, 4, 5, 0] [(0, .ref v0), (1, .ref v1), (2, .int v2), (3, .int v3), (4, .int r1), (5, .int (imin (x.1 (v0 + 2) (Int32.toNatClampNeg r1)) (1 + ((x.1 (v0 + 1) (Int32.toNatClampNeg r1)) / 250))))] rfl ?_
      refine EW_aload_n (pc2 := 70) rfl dX3_waste_69 0 rfl ?_
      refine AW_getr (r := (v0 + 2)) ⟨gfRX3_15, rfl⟩ (pc2 := 73) rfl dX3_waste_70 (isF.o hv0) (isF.r1 hv0) ?_
      refine EW_iload (pc2 := 75) rfl dX3_waste_73 4 rfl ?_
      refine EW_dup2 (pc2 := 76) rfl dX3_waste_75 rfl rfl ?_
      obtain ⟨b5, h⟩ := h
      refine AW_iald (pc2 := 77) rfl dX3_waste_76 (isF.a1 hv0) b5 ?_
      refine EW_iload (pc2 := 79) rfl dX3_waste_77 5 rfl ?_
      refine EW_isub (pc2 := 80) rfl dX3_waste_79 ?_
      obtain ⟨b6, h⟩ := h
      refine AW_iast (pc2 := 81) rfl dX3_waste_80 (isF.a1 hv0) b6 ?_
      refine EW_aload_n (pc2 := 82) rfl dX3_waste_81 0 rfl ?_
      refine AW_getr (r := (v0 + 4)) ⟨gfRX3_21, rfl⟩ (pc2 := 85) rfl dX3_waste_82 (isF.o hv0) (isF.r3 hv0) ?_
      refine EW_aload_n (pc2 := 86) rfl dX3_waste_85 1 rfl ?_
      refine EW_iload_n (pc2 := 87) rfl dX3_waste_86 2 rfl ?_
      refine AW_invV (M' := MX4_storey) [.int v2] (rest := [.ref (v0 + 4)]) mlRX3_50 okX4_storey (pc2 := 90) rfl dX3_waste_87 rfl rfl (Nat.le_of_ble_eq_true rfl) (Nat.le_of_ble_eq_true rfl) (d' := 0) (by omega) (isH.o hv1) ⟨by decide, rfl⟩ (EW_mono (fun _ _ hr => ?_) (sX4_storey v1 v2 hv1 (wr x (v0 + 2) (Int32.toNatClampNeg r1) ((x.1 (v0 + 2) (Int32.toNatClampNeg r1)) - (imin (x.1 (v0 + 2) (Int32.toNatClampNeg r1)) (1 + ((x.1 (v0 + 1) (Int32.toNatClampNeg r1)) / 250))))) _ _ 0 0 (Nat.le_refl _) h))
      obtain ⟨r7, rfl, rfl, h⟩ := hr
      refine EW_dup2 (pc2 := 91) rfl dX3_waste_90 rfl rfl ?_
      obtain ⟨b8, h⟩ := h
      refine AW_iald (pc2 := 92) rfl dX3_waste_91 (isF.a3 hv0) b8 ?_
      refine EW_iload (pc2 := 94) rfl dX3_waste_92 5 rfl ?_
      refine EW_iadd (pc2 := 95) rfl dX3_waste_94 ?_
      obtain ⟨b9, h⟩ := h
      refine AW_iast (pc2 := 96) rfl dX3_waste_95 (isF.a3 hv0) b9 ?_
      refine EW_iinc (v3 + 1) (pc2 := 99) rfl dX3_waste_96 3 rfl rfl (by decide) [1, 2, 3, 0, 4, 5] [(0, .ref v0), (1, .ref v1), (2, .int v2), (3, .int (v3 + 1)), (4, .int r1), (5, .int (imin (x.1 (v0 + 2) (Int32.toNatClampNeg r1)) (1 + ((x.1 (v0 + 1) (Int32.toNatClampNeg r1)) / 250))))] rfl ?_
      refine EW_goto (tgt := 12) dX3_waste_99 (by decide) ?_
      refine EW_ls [0, 1, 2, 3] rfl ?_
      exact hL12 (v3 + 1) (wr (wr x (v0 + 2) (Int32.toNatClampNeg r1) ((x.1 (v0 + 2) (Int32.toNatClampNeg r1)) - (imin (x.1 (v0 + 2) (Int32.toNatClampNeg r1)) (1 + ((x.1 (v0 + 1) (Int32.toNatClampNeg r1)) / 250))))) (v0 + 4) (Int32.toNatClampNeg r7) (((wr x (v0 + 2) (Int32.toNatClampNeg r1) ((x.1 (v0 + 2) (Int32.toNatClampNeg r1)) - (imin (x.1 (v0 + 2) (Int32.toNatClampNeg r1)) (1 + ((x.1 (v0 + 1) (Int32.toNatClampNeg r1)) / 250))))).1 (v0 + 4) (Int32.toNatClampNeg r7)) + (imin (x.1 (v0 + 2) (Int32.toNatClampNeg r1)) (1 + ((x.1 (v0 + 1) (Int32.toNatClampNeg r1)) / 250))))) h
set_option maxHeartbeats 4000000 in
set_option maxRecDepth 100000 in
def lX3_waste_2 (v0 : Nat) (v1 : Nat) (K : ab_X → Prop)  (L2 : Int32 → ab_X → Prop) (v2 : Int32) (x : ab_X) : Prop := (((x.1 v1 3) ≤ v2 → K x) ∧ (¬ (x.1 v1 3) ≤ v2 → Lp2 (lX3_waste_12 v0 v1 v2 K L2) 0 x))
set_option maxHeartbeats 4000000 in
set_option maxRecDepth 100000 in
theorem sX3_waste_2 (v0 : Nat) (v1 : Nat) (v2 : Int32) (hv0 : isF v0) (hv1 : isH v1) (x : ab_X) (K : ab_X → Prop)  (d bc bs : Nat) (hdp : 1 ≤ d)  (h : Lp2 (lX3_waste_2 v0 v1 K ) v2 x) : EW MX3_waste 2 [(0, .ref v0), (1, .ref v1), (2, .int v2)] [] (aS x) d bc bs (liV K) := by
  refine Lp2.use (P := fun v2 x => EW MX3_waste 2 [(0, .ref v0), (1, .ref v1), (2, .int v2)] [] (aS x) d bc bs (liV K)) (fun L2 v2 x hL2 h => ?_) v2 x h
  unfold lX3_waste_2 at h
  refine EW_iload_n (pc2 := 3) rfl dX3_waste_2 2 rfl ?_
  refine EW_aload_n (pc2 := 4) rfl dX3_waste_3 1 rfl ?_
  refine AW_geti ⟨gfRX3_56, rfl⟩ (pc2 := 7) rfl dX3_waste_4 (isH.o hv1) ?_
  refine EW_icmp_ge (tgt := 108) (pc2 := 10) rfl dX3_waste_7 (by decide) (fun q => ?_) (fun q => ?_)
  · replace h := h.1 q
    exact EW_vret rfl dX3_waste_108 ⟨_, rfl, rfl, h⟩
  · replace h := h.2 q
    refine EW_iconst (pc2 := 11) (v := 0) rfl dX3_waste_10 (by decide) ?_
    refine EW_istore_n (pc2 := 12) rfl dX3_waste_11 (by decide) [1, 2, 3, 0] [(0, .ref v0), (1, .ref v1), (2, .int v2), (3, .int 0)] rfl ?_
    exact sX3_waste_12 v0 v1 v2 0 hv0 hv1 x K L2 d bc bs hdp hL2 h
set_option maxHeartbeats 4000000 in
set_option maxRecDepth 100000 in
def wX3_waste (v0 : Nat) (v1 : Nat) (x : ab_X) (K : ab_X → Prop) : Prop := Lp2 (lX3_waste_2 v0 v1 K ) 0 x
set_option maxHeartbeats 4000000 in
set_option maxRecDepth 100000 in
theorem sX3_waste (v0 : Nat) (v1 : Nat) (hv0 : isF v0) (hv1 : isH v1) (x : ab_X) (K : ab_X → Prop) (d bc bs : Nat) (hdp : 1 ≤ d) (h : wX3_waste v0 v1 x K) : EW MX3_waste 0 [(0, .ref v0), (1, .ref v1)] [] (aS x) d bc bs (liV K) := by
  unfold wX3_waste at h
  refine EW_iconst (pc2 := 1) (v := 0) rfl dX3_waste_0 (by decide) ?_
  refine EW_istore_n (pc2 := 2) rfl dX3_waste_1 (by decide) [1, 2, 0] [(0, .ref v0), (1, .ref v1), (2, .int 0)] rfl ?_
  exact sX3_waste_2 v0 v1 0 hv0 hv1 x K d bc bs hdp h
theorem mlRX3_91 : Cond.methodLink RX3 91 yX3_load ∈ ab_G ∧ Cond.instanceMethod yX3_load ∈ ab_G ∧ Cond.selects RX3 yX3_load yX3_load ∈ ab_G := ⟨ab_in 1467 (by decide +kernel) (by decide +kernel), ab_in 922 (by decide +kernel) (by decide +kernel), ab_in 923 (by decide +kernel) (by decide +kernel)⟩
theorem mlRX3_95 : Cond.methodLink RX3 95 yX4_limit ∈ ab_G ∧ Cond.instanceMethod yX4_limit ∈ ab_G ∧ Cond.selects RX4 yX4_limit yX4_limit ∈ ab_G := ⟨ab_in 1468 (by decide +kernel) (by decide +kernel), ab_in 1420 (by decide +kernel) (by decide +kernel), ab_in 1421 (by decide +kernel) (by decide +kernel)⟩
theorem mlRX3_99 : Cond.methodLink RX3 99 yX3_drop ∈ ab_G ∧ Cond.instanceMethod yX3_drop ∈ ab_G ∧ Cond.selects RX3 yX3_drop yX3_drop ∈ ab_G := ⟨ab_in 1469 (by decide +kernel) (by decide +kernel), ab_in 1470 (by decide +kernel) (by decide +kernel), ab_in 1471 (by decide +kernel) (by decide +kernel)⟩
theorem mlRX3_84 : Cond.methodLink RX3 84 yX3_waste ∈ ab_G ∧ Cond.instanceMethod yX3_waste ∈ ab_G ∧ Cond.selects RX3 yX3_waste yX3_waste ∈ ab_G := ⟨ab_in 1449 (by decide +kernel) (by decide +kernel), ab_in 1450 (by decide +kernel) (by decide +kernel), ab_in 1451 (by decide +kernel) (by decide +kernel)⟩
theorem mlRX3_87 : Cond.methodLink RX3 87 yX3_warm ∈ ab_G ∧ Cond.instanceMethod yX3_warm ∈ ab_G ∧ Cond.selects RX3 yX3_warm yX3_warm ∈ ab_G := ⟨ab_in 1454 (by decide +kernel) (by decide +kernel), ab_in 1455 (by decide +kernel) (by decide +kernel), ab_in 1456 (by decide +kernel) (by decide +kernel)⟩
theorem mlRX3_80 : Cond.methodLink RX3 80 yX3_noteBurning ∈ ab_G ∧ Cond.instanceMethod yX3_noteBurning ∈ ab_G ∧ Cond.selects RX3 yX3_noteBurning yX3_noteBurning ∈ ab_G := ⟨ab_in 1445 (by decide +kernel) (by decide +kernel), ab_in 1446 (by decide +kernel) (by decide +kernel), ab_in 1447 (by decide +kernel) (by decide +kernel)⟩
abbrev MX3_step : ab_M := (yX3_step, cX3_step, 5, none)
theorem dX3_step_0 : decode cX3_step 0 = .ok (.aload_n 0, 1) := by decide +kernel
theorem dX3_step_1 : decode cX3_step 1 = .ok (.getfield 34, 3) := by decide +kernel
theorem dX3_step_4 : decode cX3_step 4 = .ok (.ifCond .eq 4, 3) := by decide +kernel
theorem dX3_step_7 : decode cX3_step 7 = .ok (.return_, 1) := by decide +kernel
theorem dX3_step_8 : decode cX3_step 8 = .ok (.iconst 0, 1) := by decide +kernel
theorem dX3_step_9 : decode cX3_step 9 = .ok (.istore_n 3, 1) := by decide +kernel
theorem dX3_step_10 : decode cX3_step 10 = .ok (.iload_n 3, 1) := by decide +kernel
theorem dX3_step_11 : decode cX3_step 11 = .ok (.iload_n 2, 1) := by decide +kernel
theorem dX3_step_12 : decode cX3_step 12 = .ok (.if_icmp .ge 16, 3) := by decide +kernel
theorem dX3_step_15 : decode cX3_step 15 = .ok (.aload_n 0, 1) := by decide +kernel
theorem dX3_step_16 : decode cX3_step 16 = .ok (.aload_n 1, 1) := by decide +kernel
theorem dX3_step_17 : decode cX3_step 17 = .ok (.iload_n 3, 1) := by decide +kernel
theorem dX3_step_18 : decode cX3_step 18 = .ok (.aaload, 1) := by decide +kernel
theorem dX3_step_19 : decode cX3_step 19 = .ok (.invokevirtual 80, 3) := by decide +kernel
theorem dX3_step_22 : decode cX3_step 22 = .ok (.iinc 3 1, 3) := by decide +kernel
theorem dX3_step_25 : decode cX3_step 25 = .ok (.goto (-15), 3) := by decide +kernel
theorem dX3_step_28 : decode cX3_step 28 = .ok (.aload_n 0, 1) := by decide +kernel
theorem dX3_step_29 : decode cX3_step 29 = .ok (.iconst 1, 1) := by decide +kernel
theorem dX3_step_30 : decode cX3_step 30 = .ok (.putfield 34, 3) := by decide +kernel
theorem dX3_step_33 : decode cX3_step 33 = .ok (.iconst 0, 1) := by decide +kernel
theorem dX3_step_34 : decode cX3_step 34 = .ok (.istore_n 3, 1) := by decide +kernel
theorem dX3_step_35 : decode cX3_step 35 = .ok (.iload_n 3, 1) := by decide +kernel
theorem dX3_step_36 : decode cX3_step 36 = .ok (.iload_n 2, 1) := by decide +kernel
theorem dX3_step_37 : decode cX3_step 37 = .ok (.if_icmp .ge 27, 3) := by decide +kernel
theorem dX3_step_40 : decode cX3_step 40 = .ok (.aload_n 1, 1) := by decide +kernel
theorem dX3_step_41 : decode cX3_step 41 = .ok (.iload_n 3, 1) := by decide +kernel
theorem dX3_step_42 : decode cX3_step 42 = .ok (.aaload, 1) := by decide +kernel
theorem dX3_step_43 : decode cX3_step 43 = .ok (.astore 4, 2) := by decide +kernel
theorem dX3_step_45 : decode cX3_step 45 = .ok (.aload_n 0, 1) := by decide +kernel
theorem dX3_step_46 : decode cX3_step 46 = .ok (.aload 4, 2) := by decide +kernel
theorem dX3_step_48 : decode cX3_step 48 = .ok (.invokevirtual 84, 3) := by decide +kernel
theorem dX3_step_51 : decode cX3_step 51 = .ok (.aload_n 0, 1) := by decide +kernel
theorem dX3_step_52 : decode cX3_step 52 = .ok (.aload 4, 2) := by decide +kernel
theorem dX3_step_54 : decode cX3_step 54 = .ok (.aload_n 1, 1) := by decide +kernel
theorem dX3_step_55 : decode cX3_step 55 = .ok (.invokevirtual 87, 3) := by decide +kernel
theorem dX3_step_58 : decode cX3_step 58 = .ok (.iinc 3 1, 3) := by decide +kernel
theorem dX3_step_61 : decode cX3_step 61 = .ok (.goto (-26), 3) := by decide +kernel
theorem dX3_step_64 : decode cX3_step 64 = .ok (.iconst 0, 1) := by decide +kernel
theorem dX3_step_65 : decode cX3_step 65 = .ok (.istore_n 3, 1) := by decide +kernel
theorem dX3_step_66 : decode cX3_step 66 = .ok (.iload_n 3, 1) := by decide +kernel
theorem dX3_step_67 : decode cX3_step 67 = .ok (.iload_n 2, 1) := by decide +kernel
theorem dX3_step_68 : decode cX3_step 68 = .ok (.if_icmp .ge 70, 3) := by decide +kernel
theorem dX3_step_71 : decode cX3_step 71 = .ok (.aload_n 1, 1) := by decide +kernel
theorem dX3_step_72 : decode cX3_step 72 = .ok (.iload_n 3, 1) := by decide +kernel
theorem dX3_step_73 : decode cX3_step 73 = .ok (.aaload, 1) := by decide +kernel
theorem dX3_step_74 : decode cX3_step 74 = .ok (.getfield 56, 3) := by decide +kernel
theorem dX3_step_77 : decode cX3_step 77 = .ok (.iconst 1, 1) := by decide +kernel
theorem dX3_step_78 : decode cX3_step 78 = .ok (.isub, 1) := by decide +kernel
theorem dX3_step_79 : decode cX3_step 79 = .ok (.istore 4, 2) := by decide +kernel
theorem dX3_step_81 : decode cX3_step 81 = .ok (.iload 4, 2) := by decide +kernel
theorem dX3_step_83 : decode cX3_step 83 = .ok (.iconst 1, 1) := by decide +kernel
theorem dX3_step_84 : decode cX3_step 84 = .ok (.if_icmp .lt 48, 3) := by decide +kernel
theorem dX3_step_87 : decode cX3_step 87 = .ok (.aload_n 0, 1) := by decide +kernel
theorem dX3_step_88 : decode cX3_step 88 = .ok (.aload_n 1, 1) := by decide +kernel
theorem dX3_step_89 : decode cX3_step 89 = .ok (.iload_n 3, 1) := by decide +kernel
theorem dX3_step_90 : decode cX3_step 90 = .ok (.aaload, 1) := by decide +kernel
theorem dX3_step_91 : decode cX3_step 91 = .ok (.iload 4, 2) := by decide +kernel
theorem dX3_step_93 : decode cX3_step 93 = .ok (.invokevirtual 70, 3) := by decide +kernel
theorem dX3_step_96 : decode cX3_step 96 = .ok (.ifCond .ne 30, 3) := by decide +kernel
theorem dX3_step_99 : decode cX3_step 99 = .ok (.aload_n 0, 1) := by decide +kernel
theorem dX3_step_100 : decode cX3_step 100 = .ok (.aload_n 1, 1) := by decide +kernel
theorem dX3_step_101 : decode cX3_step 101 = .ok (.iload_n 3, 1) := by decide +kernel
theorem dX3_step_102 : decode cX3_step 102 = .ok (.aaload, 1) := by decide +kernel
theorem dX3_step_103 : decode cX3_step 103 = .ok (.iload 4, 2) := by decide +kernel
theorem dX3_step_105 : decode cX3_step 105 = .ok (.invokevirtual 91, 3) := by decide +kernel
theorem dX3_step_108 : decode cX3_step 108 = .ok (.aload_n 1, 1) := by decide +kernel
theorem dX3_step_109 : decode cX3_step 109 = .ok (.iload_n 3, 1) := by decide +kernel
theorem dX3_step_110 : decode cX3_step 110 = .ok (.aaload, 1) := by decide +kernel
theorem dX3_step_111 : decode cX3_step 111 = .ok (.invokevirtual 95, 3) := by decide +kernel
theorem dX3_step_114 : decode cX3_step 114 = .ok (.if_icmp .lt 12, 3) := by decide +kernel
theorem dX3_step_117 : decode cX3_step 117 = .ok (.aload_n 0, 1) := by decide +kernel
theorem dX3_step_118 : decode cX3_step 118 = .ok (.aload_n 1, 1) := by decide +kernel
theorem dX3_step_119 : decode cX3_step 119 = .ok (.iload_n 3, 1) := by decide +kernel
theorem dX3_step_120 : decode cX3_step 120 = .ok (.aaload, 1) := by decide +kernel
theorem dX3_step_121 : decode cX3_step 121 = .ok (.iload 4, 2) := by decide +kernel
theorem dX3_step_123 : decode cX3_step 123 = .ok (.invokevirtual 99, 3) := by decide +kernel
theorem dX3_step_126 : decode cX3_step 126 = .ok (.iinc 4 (-1), 3) := by decide +kernel
theorem dX3_step_129 : decode cX3_step 129 = .ok (.goto (-48), 3) := by decide +kernel
theorem dX3_step_132 : decode cX3_step 132 = .ok (.iinc 3 1, 3) := by decide +kernel
theorem dX3_step_135 : decode cX3_step 135 = .ok (.goto (-69), 3) := by decide +kernel
theorem dX3_step_138 : decode cX3_step 138 = .ok (.return_, 1) := by decide +kernel
theorem okX3_step : ab_okM MX3_step 2 := ⟨by decide, ⟨by decide, by decide⟩, ab_in 1444 (by decide +kernel) (by decide +kernel), ab_in 90 (by decide +kernel) (by decide +kernel), by decide +kernel, by decide⟩
set_option maxHeartbeats 4000000 in
set_option maxRecDepth 100000 in
def lX3_step_81 (v0 : Nat) (v2 : Int32) (v3 : Int32) (K : ab_X → Prop) (L66 : Int32 → ab_X → Prop) (L81 : Int32 → ab_X → Prop) (v4 : Int32) (x : ab_X) : Prop := ((v4 < 1 → L66 (v3 + 1) x) ∧ (¬ v4 < 1 → (vp_in v3 12 ∧ wX3_hasFallen v0 (30 + 3 * Int32.toNatClampNeg v3) v4 x (fun r8 => ((¬ r8 = 0 → L81 (v4 + (-1)) x) ∧ (r8 = 0 → (vp_in v3 12 ∧ wX3_load v0 (30 + 3 * Int32.toNatClampNeg v3) v4 x (fun r10 => (vp_in v3 12 ∧ wX4_limit (30 + 3 * Int32.toNatClampNeg v3) x (fun r12 => ((r10 < r12 → L81 (v4 + (-1)) x) ∧ (¬ r10 < r12 → (vp_in v3 12 ∧ wX3_drop v0 (30 + 3 * Int32.toNatClampNeg v3) v4 x (fun x14 => L81 (v4 + (-1)) x14))))))))))))))
set_option maxHeartbeats 4000000 in
set_option maxRecDepth 100000 in
theorem sX3_step_81 (v0 : Nat) (v2 : Int32) (v3 : Int32) (v4 : Int32) (hv0 : isF v0) (x : ab_X) (K : ab_X → Prop) (L66 : Int32 → ab_X → Prop) (d bc bs : Nat) (hdp : 3 ≤ d) (hL66 : ∀ (v3 : Int32) (x : ab_X), L66 v3 x → EW MX3_step 66 [(0, .ref v0), (1, .ref 10), (2, .int v2), (3, .int v3)] [] (aS x) d bc bs (liV K)) (h : Lp2 (lX3_step_81 v0 v2 v3 K L66) v4 x) : EW MX3_step 81 [(0, .ref v0), (1, .ref 10), (2, .int v2), (3, .int v3), (4, .int v4)] [] (aS x) d bc bs (liV K) := by
  refine Lp2.use (P := fun v4 x => EW MX3_step 81 [(0, .ref v0), (1, .ref 10), (2, .int v2), (3, .int v3), (4, .int v4)] [] (aS x) d bc bs (liV K)) (fun L81 v4 x hL81 h => ?_) v4 x h
  unfold lX3_step_81 at h
  refine EW_iload (pc2 := 83) rfl dX3_step_81 4 rfl ?_
  refine EW_iconst (pc2 := 84) (v := 1) rfl dX3_step_83 (by decide) ?_
  refine EW_icmp_lt (tgt := 132) (pc2 := 87) rfl dX3_step_84 (by decide) (fun q => ?_) (fun q => ?_)
  · replace h := h.1 q
    refine EW_iinc (v3 + 1) (pc2 := 135) rfl dX3_step_132 3 rfl rfl (by decide) [1, 2, 3, 0, 4] [(0, .ref v0), (1, .ref 10), (2, .int v2), (3, .int (v3 + 1)), (4, .int v4)] rfl ?_
    refine EW_goto (tgt := 66) dX3_step_135 (by decide) ?_
    refine EW_ls [0, 1, 2, 3] rfl ?_
    exact hL66 (v3 + 1) x h
  · replace h := h.2 q
    refine EW_aload_n (pc2 := 88) rfl dX3_step_87 0 rfl ?_
    refine EW_aload_n (pc2 := 89) rfl dX3_step_88 1 rfl ?_
    refine EW_iload_n (pc2 := 90) rfl dX3_step_89 3 rfl ?_
    obtain ⟨b7, h⟩ := h
    refine AW_aald5 (pc2 := 91) rfl dX3_step_90 b7 ?_
    refine EW_iload (pc2 := 93) rfl dX3_step_91 4 rfl ?_
    refine AW_invV (M' := MX3_hasFallen) [.ref (30 + 3 * Int32.toNatClampNeg v3), .int v4] (rest := []) mlRX3_70 okX3_hasFallen (pc2 := 96) rfl dX3_step_93 rfl rfl (Nat.le_of_ble_eq_true rfl) (Nat.le_of_ble_eq_true rfl) (d' := 1) (by omega) (isF.o hv0) ⟨by decide, rfl⟩ (EW_mono (fun _ _ hr => ?_) (sX3_hasFallen v0 (30 + 3 * Int32.toNatClampNeg v3) v4 hv0 (isH_of b7) x _ _ 0 0 (Nat.le_refl _) h))
    obtain ⟨r8, rfl, rfl, h⟩ := hr
    refine EW_if_ne (tgt := 126) (pc2 := 99) rfl dX3_step_96 (by decide) (fun q => ?_) (fun q => ?_)
    · replace h := h.1 q
      refine EW_iinc (v4 + (-1)) (pc2 := 129) rfl dX3_step_126 4 rfl rfl (by decide) [1, 2, 3, 4, 0] [(0, .ref v0), (1, .ref 10), (2, .int v2), (3, .int v3), (4, .int (v4 + (-1)))] rfl ?_
      refine EW_goto (tgt := 81) dX3_step_129 (by decide) ?_
      exact hL81 (v4 + (-1)) x h
    · replace h := h.2 q
      refine EW_aload_n (pc2 := 100) rfl dX3_step_99 0 rfl ?_
      refine EW_aload_n (pc2 := 101) rfl dX3_step_100 1 rfl ?_
      refine EW_iload_n (pc2 := 102) rfl dX3_step_101 3 rfl ?_
      obtain ⟨b9, h⟩ := h
      refine AW_aald5 (pc2 := 103) rfl dX3_step_102 b9 ?_
      refine EW_iload (pc2 := 105) rfl dX3_step_103 4 rfl ?_
      refine AW_invV (M' := MX3_load) [.ref (30 + 3 * Int32.toNatClampNeg v3), .int v4] (rest := []) mlRX3_91 okX3_load (pc2 := 108) rfl dX3_step_105 rfl rfl (Nat.le_of_ble_eq_true rfl) (Nat.le_of_ble_eq_true rfl) (d' := 1) (by omega) (isF.o hv0) ⟨by decide, rfl⟩ (EW_mono (fun _ _ hr => ?_) (sX3_load v0 (30 + 3 * Int32.toNatClampNeg v3) v4 hv0 (isH_of b9) x _ _ 0 0 (Nat.le_refl _) h))
      obtain ⟨r10, rfl, rfl, h⟩ := hr
      refine EW_aload_n (pc2 := 109) rfl dX3_step_108 1 rfl ?_
      refine EW_iload_n (pc2 := 110) rfl dX3_step_109 3 rfl ?_
      obtain ⟨b11, h⟩ := h
      refine AW_aald5 (pc2 := 111) rfl dX3_step_110 b11 ?_
      refine AW_invV (M' := MX4_limit) [] (rest := [.int r10]) mlRX3_95 okX4_limit (pc2 := 114) rfl dX3_step_111 rfl rfl (Nat.le_of_ble_eq_true rfl) (Nat.le_of_ble_eq_true rfl) (d' := 0) (by omega) (isH.o (isH_of b11)) ⟨by decide, rfl⟩ (EW_mono (fun _ _ hr => ?_) (sX4_limit (30 + 3 * Int32.toNatClampNeg v3) (isH_of b11) x _ _ 0 0 (Nat.le_refl _) h))
      obtain ⟨r12, rfl, rfl, h⟩ := hr
      refine EW_icmp_lt (tgt := 126) (pc2 := 117) rfl dX3_step_114 (by decide) (fun q => ?_) (fun q => ?_)
      · replace h := h.1 q
        refine EW_iinc (v4 + (-1)) (pc2 := 129) rfl dX3_step_126 4 rfl rfl (by decide) [1, 2, 3, 4, 0] [(0, .ref v0), (1, .ref 10), (2, .int v2), (3, .int v3), (4, .int (v4 + (-1)))] rfl ?_
        refine EW_goto (tgt := 81) dX3_step_129 (by decide) ?_
        exact hL81 (v4 + (-1)) x h
      · replace h := h.2 q
        refine EW_aload_n (pc2 := 118) rfl dX3_step_117 0 rfl ?_
        refine EW_aload_n (pc2 := 119) rfl dX3_step_118 1 rfl ?_
        refine EW_iload_n (pc2 := 120) rfl dX3_step_119 3 rfl ?_
        obtain ⟨b13, h⟩ := h
        refine AW_aald5 (pc2 := 121) rfl dX3_step_120 b13 ?_
        refine EW_iload (pc2 := 123) rfl dX3_step_121 4 rfl ?_
        refine AW_invV (M' := MX3_drop) [.ref (30 + 3 * Int32.toNatClampNeg v3), .int v4] (rest := []) mlRX3_99 okX3_drop (pc2 := 126) rfl dX3_step_123 rfl rfl (Nat.le_of_ble_eq_true rfl) (Nat.le_of_ble_eq_true rfl) (d' := 2) (by omega) (isF.o hv0) ⟨by decide, rfl⟩ (EW_mono (fun _ _ hr => ?_) (sX3_drop v0 (30 + 3 * Int32.toNatClampNeg v3) v4 hv0 (isH_of b13) x _ _ 0 0 (Nat.le_refl _) h))
        obtain ⟨x14, rfl, rfl, h⟩ := hr
        refine EW_iinc (v4 + (-1)) (pc2 := 129) rfl dX3_step_126 4 rfl rfl (by decide) [1, 2, 3, 4, 0] [(0, .ref v0), (1, .ref 10), (2, .int v2), (3, .int v3), (4, .int (v4 + (-1)))] rfl ?_
        refine EW_goto (tgt := 81) dX3_step_129 (by decide) ?_
        exact hL81 (v4 + (-1)) x14 h
set_option maxHeartbeats 4000000 in
set_option maxRecDepth 100000 in
def lX3_step_66 (v0 : Nat) (v2 : Int32) (K : ab_X → Prop)  (L66 : Int32 → ab_X → Prop) (v3 : Int32) (x : ab_X) : Prop := ((v2 ≤ v3 → K x) ∧ (¬ v2 ≤ v3 → (vp_in v3 12 ∧ Lp2 (lX3_step_81 v0 v2 v3 K L66) ((x.1 (30 + 3 * Int32.toNatClampNeg v3) 3) - 1) x)))
set_option maxHeartbeats 4000000 in
set_option maxRecDepth 100000 in
theorem sX3_step_66 (v0 : Nat) (v2 : Int32) (v3 : Int32) (hv0 : isF v0) (x : ab_X) (K : ab_X → Prop)  (d bc bs : Nat) (hdp : 3 ≤ d)  (h : Lp2 (lX3_step_66 v0 v2 K ) v3 x) : EW MX3_step 66 [(0, .ref v0), (1, .ref 10), (2, .int v2), (3, .int v3)] [] (aS x) d bc bs (liV K) := by
  refine Lp2.use (P := fun v3 x => EW MX3_step 66 [(0, .ref v0), (1, .ref 10), (2, .int v2), (3, .int v3)] [] (aS x) d bc bs (liV K)) (fun L66 v3 x hL66 h => ?_) v3 x h
  unfold lX3_step_66 at h
  refine EW_iload_n (pc2 := 67) rfl dX3_step_66 3 rfl ?_
  refine EW_iload_n (pc2 := 68) rfl dX3_step_67 2 rfl ?_
  refine EW_icmp_ge (tgt := 138) (pc2 := 71) rfl dX3_step_68 (by decide) (fun q => ?_) (fun q => ?_)
  · replace h := h.1 q
    exact EW_vret rfl dX3_step_138 ⟨_, rfl, rfl, h⟩
  · replace h := h.2 q
    refine EW_aload_n (pc2 := 72) rfl dX3_step_71 1 rfl ?_
    refine EW_iload_n (pc2 := 73) rfl dX3_step_72 3 rfl ?_
    obtain ⟨b6, h⟩ := h
    refine AW_aald5 (pc2 := 74) rfl dX3_step_73 b6 ?_
    refine AW_geti ⟨gfRX3_56, rfl⟩ (pc2 := 77) rfl dX3_step_74 (isH.o (isH_of b6)) ?_
    refine EW_iconst (pc2 := 78) (v := 1) rfl dX3_step_77 (by decide) ?_
    refine EW_isub (pc2 := 79) rfl dX3_step_78 ?_
    refine EW_istore (pc2 := 81) rfl dX3_step_79 (by decide) [1, 2, 3, 4, 0] [(0, .ref v0), (1, .ref 10), (2, .int v2), (3, .int v3), (4, .int ((x.1 (30 + 3 * Int32.toNatClampNeg v3) 3) - 1))] rfl ?_
    exact sX3_step_81 v0 v2 v3 ((x.1 (30 + 3 * Int32.toNatClampNeg v3) 3) - 1) hv0 x K L66 d bc bs hdp hL66 h
set_option maxHeartbeats 4000000 in
set_option maxRecDepth 100000 in
def lX3_step_35 (v0 : Nat) (v2 : Int32) (K : ab_X → Prop)  (L35 : Int32 → ab_X → Prop) (v3 : Int32) (x : ab_X) : Prop := ((v2 ≤ v3 → Lp2 (lX3_step_66 v0 v2 K ) 0 x) ∧ (¬ v2 ≤ v3 → (vp_in v3 12 ∧ wX3_waste v0 (30 + 3 * Int32.toNatClampNeg v3) x (fun x4 => wX3_warm v0 (30 + 3 * Int32.toNatClampNeg v3) x4 (fun x5 => L35 (v3 + 1) x5)))))
set_option maxHeartbeats 4000000 in
set_option maxRecDepth 100000 in
theorem sX3_step_35 (v0 : Nat) (v2 : Int32) (v3 : Int32) (hv0 : isF v0) (x : ab_X) (K : ab_X → Prop)  (d bc bs : Nat) (hdp : 3 ≤ d)  (h : Lp2 (lX3_step_35 v0 v2 K ) v3 x) : EW MX3_step 35 [(0, .ref v0), (1, .ref 10), (2, .int v2), (3, .int v3)] [] (aS x) d bc bs (liV K) := by
  refine Lp2.use (P := fun v3 x => EW MX3_step 35 [(0, .ref v0), (1, .ref 10), (2, .int v2), (3, .int v3)] [] (aS x) d bc bs (liV K)) (fun L35 v3 x hL35 h => ?_) v3 x h
  unfold lX3_step_35 at h
  refine EW_iload_n (pc2 := 36) rfl dX3_step_35 3 rfl ?_
  refine EW_iload_n (pc2 := 37) rfl dX3_step_36 2 rfl ?_
  refine EW_icmp_ge (tgt := 64) (pc2 := 40) rfl dX3_step_37 (by decide) (fun q => ?_) (fun q => ?_)
  · replace h := h.1 q
    refine EW_iconst (pc2 := 65) (v := 0) rfl dX3_step_64 (by decide) ?_
    refine EW_istore_n (pc2 := 66) rfl dX3_step_65 (by decide) [1, 2, 3, 0] [(0, .ref v0), (1, .ref 10), (2, .int v2), (3, .int 0)] rfl ?_
    exact sX3_step_66 v0 v2 0 hv0 x K d bc bs hdp h
  · replace h := h.2 q
    refine EW_aload_n (pc2 := 41) rfl dX3_step_40 1 rfl ?_
    refine EW_iload_n (pc2 := 42) rfl dX3_step_41 3 rfl ?_
    obtain ⟨b3, h⟩ := h
    refine AW_aald5 (pc2 := 43) rfl dX3_step_42 b3 ?_
    refine EW_astore (pc2 := 45) rfl dX3_step_43 (by decide) [1, 2, 3, 4, 0] [(0, .ref v0), (1, .ref 10), (2, .int v2), (3, .int v3), (4, .ref (30 + 3 * Int32.toNatClampNeg v3))] rfl ?_
    refine EW_aload_n (pc2 := 46) rfl dX3_step_45 0 rfl ?_
    refine EW_aload (pc2 := 48) rfl dX3_step_46 4 rfl ?_
    refine AW_invV (M' := MX3_waste) [.ref (30 + 3 * Int32.toNatClampNeg v3)] (rest := []) mlRX3_84 okX3_waste (pc2 := 51) rfl dX3_step_48 rfl rfl (Nat.le_of_ble_eq_true rfl) (Nat.le_of_ble_eq_true rfl) (d' := 1) (by omega) (isF.o hv0) ⟨by decide, rfl⟩ (EW_mono (fun _ _ hr => ?_) (sX3_waste v0 (30 + 3 * Int32.toNatClampNeg v3) hv0 (isH_of b3) x _ _ 0 0 (Nat.le_refl _) h))
    obtain ⟨x4, rfl, rfl, h⟩ := hr
    refine EW_aload_n (pc2 := 52) rfl dX3_step_51 0 rfl ?_
    refine EW_aload (pc2 := 54) rfl dX3_step_52 4 rfl ?_
    refine EW_aload_n (pc2 := 55) rfl dX3_step_54 1 rfl ?_
    refine AW_invV (M' := MX3_warm) [.ref (30 + 3 * Int32.toNatClampNeg v3), .ref 10] (rest := []) mlRX3_87 okX3_warm (pc2 := 58) rfl dX3_step_55 rfl rfl (Nat.le_of_ble_eq_true rfl) (Nat.le_of_ble_eq_true rfl) (d' := 2) (by omega) (isF.o hv0) ⟨by decide, rfl⟩ (EW_mono (fun _ _ hr => ?_) (sX3_warm v0 (30 + 3 * Int32.toNatClampNeg v3) hv0 (isH_of b3) x4 _ _ 0 0 (Nat.le_refl _) h))
    obtain ⟨x5, rfl, rfl, h⟩ := hr
    refine EW_iinc (v3 + 1) (pc2 := 61) rfl dX3_step_58 3 rfl rfl (by decide) [1, 2, 3, 0, 4] [(0, .ref v0), (1, .ref 10), (2, .int v2), (3, .int (v3 + 1)), (4, .ref (30 + 3 * Int32.toNatClampNeg v3))] rfl ?_
    refine EW_goto (tgt := 35) dX3_step_61 (by decide) ?_
    refine EW_ls [0, 1, 2, 3] rfl ?_
    exact hL35 (v3 + 1) x5 h
set_option maxHeartbeats 4000000 in
set_option maxRecDepth 100000 in
def lX3_step_10 (v0 : Nat) (v2 : Int32) (K : ab_X → Prop)  (L10 : Int32 → ab_X → Prop) (v3 : Int32) (x : ab_X) : Prop := ((v2 ≤ v3 → Lp2 (lX3_step_35 v0 v2 K ) 0 (wr x v0 7 1)) ∧ (¬ v2 ≤ v3 → (vp_in v3 12 ∧ wX3_noteBurning v0 (30 + 3 * Int32.toNatClampNeg v3) x (fun x2 => L10 (v3 + 1) x2))))
set_option maxHeartbeats 4000000 in
set_option maxRecDepth 100000 in
theorem sX3_step_10 (v0 : Nat) (v2 : Int32) (v3 : Int32) (hv0 : isF v0) (x : ab_X) (K : ab_X → Prop)  (d bc bs : Nat) (hdp : 3 ≤ d)  (h : Lp2 (lX3_step_10 v0 v2 K ) v3 x) : EW MX3_step 10 [(0, .ref v0), (1, .ref 10), (2, .int v2), (3, .int v3)] [] (aS x) d bc bs (liV K) := by
  refine Lp2.use (P := fun v3 x => EW MX3_step 10 [(0, .ref v0), (1, .ref 10), (2, .int v2), (3, .int v3)] [] (aS x) d bc bs (liV K)) (fun L10 v3 x hL10 h => ?_) v3 x h
  unfold lX3_step_10 at h
  refine EW_iload_n (pc2 := 11) rfl dX3_step_10 3 rfl ?_
  refine EW_iload_n (pc2 := 12) rfl dX3_step_11 2 rfl ?_
  refine EW_icmp_ge (tgt := 28) (pc2 := 15) rfl dX3_step_12 (by decide) (fun q => ?_) (fun q => ?_)
  · replace h := h.1 q
    refine EW_aload_n (pc2 := 29) rfl dX3_step_28 0 rfl ?_
    refine EW_iconst (pc2 := 30) (v := 1) rfl dX3_step_29 (by decide) ?_
    refine AW_putz ⟨gfRX3_34, rfl, rfl⟩ isB1 (pc2 := 33) rfl dX3_step_30 (isF.o hv0) ?_
    refine EW_iconst (pc2 := 34) (v := 0) rfl dX3_step_33 (by decide) ?_
    refine EW_istore_n (pc2 := 35) rfl dX3_step_34 (by decide) [1, 2, 3, 0] [(0, .ref v0), (1, .ref 10), (2, .int v2), (3, .int 0)] rfl ?_
    exact sX3_step_35 v0 v2 0 hv0 (wr x v0 7 1) K d bc bs hdp h
  · replace h := h.2 q
    refine EW_aload_n (pc2 := 16) rfl dX3_step_15 0 rfl ?_
    refine EW_aload_n (pc2 := 17) rfl dX3_step_16 1 rfl ?_
    refine EW_iload_n (pc2 := 18) rfl dX3_step_17 3 rfl ?_
    obtain ⟨b1, h⟩ := h
    refine AW_aald5 (pc2 := 19) rfl dX3_step_18 b1 ?_
    refine AW_invV (M' := MX3_noteBurning) [.ref (30 + 3 * Int32.toNatClampNeg v3)] (rest := []) mlRX3_80 okX3_noteBurning (pc2 := 22) rfl dX3_step_19 rfl rfl (Nat.le_of_ble_eq_true rfl) (Nat.le_of_ble_eq_true rfl) (d' := 1) (by omega) (isF.o hv0) ⟨by decide, rfl⟩ (EW_mono (fun _ _ hr => ?_) (sX3_noteBurning v0 (30 + 3 * Int32.toNatClampNeg v3) hv0 (isH_of b1) x _ _ 0 0 (Nat.le_refl _) h))
    obtain ⟨x2, rfl, rfl, h⟩ := hr
    refine EW_iinc (v3 + 1) (pc2 := 25) rfl dX3_step_22 3 rfl rfl (by decide) [1, 2, 3, 0] [(0, .ref v0), (1, .ref 10), (2, .int v2), (3, .int (v3 + 1))] rfl ?_
    refine EW_goto (tgt := 10) dX3_step_25 (by decide) ?_
    exact hL10 (v3 + 1) x2 h
set_option maxHeartbeats 4000000 in
set_option maxRecDepth 100000 in
def wX3_step (v0 : Nat) (v2 : Int32) (x : ab_X) (K : ab_X → Prop) : Prop := (((x.1 v0 7) = 0 → Lp2 (lX3_step_10 v0 v2 K ) 0 x) ∧ (¬ (x.1 v0 7) = 0 → K x))
set_option maxHeartbeats 4000000 in
set_option maxRecDepth 100000 in
theorem sX3_step (v0 : Nat) (v2 : Int32) (hv0 : isF v0) (x : ab_X) (K : ab_X → Prop) (d bc bs : Nat) (hdp : 3 ≤ d) (h : wX3_step v0 v2 x K) : EW MX3_step 0 [(0, .ref v0), (1, .ref 10), (2, .int v2)] [] (aS x) d bc bs (liV K) := by
  unfold wX3_step at h
  refine EW_aload_n (pc2 := 1) rfl dX3_step_0 0 rfl ?_
  refine AW_geti ⟨gfRX3_34, rfl⟩ (pc2 := 4) rfl dX3_step_1 (isF.o hv0) ?_
  refine EW_if_eq (tgt := 8) (pc2 := 7) rfl dX3_step_4 (by decide) (fun q => ?_) (fun q => ?_)
  · replace h := h.1 q
    refine EW_iconst (pc2 := 9) (v := 0) rfl dX3_step_8 (by decide) ?_
    refine EW_istore_n (pc2 := 10) rfl dX3_step_9 (by decide) [1, 2, 3, 0] [(0, .ref v0), (1, .ref 10), (2, .int v2), (3, .int 0)] rfl ?_
    exact sX3_step_10 v0 v2 0 hv0 x K d bc bs hdp h
  · replace h := h.2 q
    exact EW_vret rfl dX3_step_7 ⟨_, rfl, rfl, h⟩
theorem mlRX10_101 : Cond.methodLink RX10 101 yX10_loseIn ∈ ab_G ∧ Cond.instanceMethod yX10_loseIn ∈ ab_G ∧ Cond.selects RX10 yX10_loseIn yX10_loseIn ∈ ab_G := ⟨ab_in 1473 (by decide +kernel) (by decide +kernel), ab_in 1474 (by decide +kernel) (by decide +kernel), ab_in 1475 (by decide +kernel) (by decide +kernel)⟩
theorem mlRX10_97 : Cond.methodLink RX10 97 yX3_step ∈ ab_G ∧ Cond.instanceMethod yX3_step ∈ ab_G ∧ Cond.selects RX3 yX3_step yX3_step ∈ ab_G := ⟨ab_in 1441 (by decide +kernel) (by decide +kernel), ab_in 1442 (by decide +kernel) (by decide +kernel), ab_in 1443 (by decide +kernel) (by decide +kernel)⟩
abbrev MX10_passMinute : ab_M := (yX10_passMinute, cX10_passMinute, 2, none)
theorem dX10_passMinute_0 : decode cX10_passMinute 0 = .ok (.aload_n 0, 1) := by decide +kernel
theorem dX10_passMinute_1 : decode cX10_passMinute 1 = .ok (.getfield 20, 3) := by decide +kernel
theorem dX10_passMinute_4 : decode cX10_passMinute 4 = .ok (.aload_n 0, 1) := by decide +kernel
theorem dX10_passMinute_5 : decode cX10_passMinute 5 = .ok (.getfield 11, 3) := by decide +kernel
theorem dX10_passMinute_8 : decode cX10_passMinute 8 = .ok (.aload_n 0, 1) := by decide +kernel
theorem dX10_passMinute_9 : decode cX10_passMinute 9 = .ok (.getfield 44, 3) := by decide +kernel
theorem dX10_passMinute_12 : decode cX10_passMinute 12 = .ok (.invokevirtual 97, 3) := by decide +kernel
theorem dX10_passMinute_15 : decode cX10_passMinute 15 = .ok (.iconst 0, 1) := by decide +kernel
theorem dX10_passMinute_16 : decode cX10_passMinute 16 = .ok (.istore_n 1, 1) := by decide +kernel
theorem dX10_passMinute_17 : decode cX10_passMinute 17 = .ok (.iload_n 1, 1) := by decide +kernel
theorem dX10_passMinute_18 : decode cX10_passMinute 18 = .ok (.aload_n 0, 1) := by decide +kernel
theorem dX10_passMinute_19 : decode cX10_passMinute 19 = .ok (.getfield 44, 3) := by decide +kernel
theorem dX10_passMinute_22 : decode cX10_passMinute 22 = .ok (.if_icmp .ge 19, 3) := by decide +kernel
theorem dX10_passMinute_25 : decode cX10_passMinute 25 = .ok (.aload_n 0, 1) := by decide +kernel
theorem dX10_passMinute_26 : decode cX10_passMinute 26 = .ok (.aload_n 0, 1) := by decide +kernel
theorem dX10_passMinute_27 : decode cX10_passMinute 27 = .ok (.getfield 11, 3) := by decide +kernel
theorem dX10_passMinute_30 : decode cX10_passMinute 30 = .ok (.iload_n 1, 1) := by decide +kernel
theorem dX10_passMinute_31 : decode cX10_passMinute 31 = .ok (.aaload, 1) := by decide +kernel
theorem dX10_passMinute_32 : decode cX10_passMinute 32 = .ok (.invokevirtual 101, 3) := by decide +kernel
theorem dX10_passMinute_35 : decode cX10_passMinute 35 = .ok (.iinc 1 1, 3) := by decide +kernel
theorem dX10_passMinute_38 : decode cX10_passMinute 38 = .ok (.goto (-21), 3) := by decide +kernel
theorem dX10_passMinute_41 : decode cX10_passMinute 41 = .ok (.return_, 1) := by decide +kernel
theorem okX10_passMinute : ab_okM MX10_passMinute 0 := ⟨by decide, ⟨by decide, by decide⟩, ab_in 1440 (by decide +kernel) (by decide +kernel), ab_in 89 (by decide +kernel) (by decide +kernel), by decide +kernel, by decide⟩
set_option maxHeartbeats 4000000 in
set_option maxRecDepth 100000 in
def lX10_passMinute_17  (K : ab_X → Prop)  (L17 : Int32 → ab_X → Prop) (v1 : Int32) (x : ab_X) : Prop := (((x.1 9 2) ≤ v1 → K x) ∧ (¬ (x.1 9 2) ≤ v1 → (vp_in v1 12 ∧ wX10_loseIn (30 + 3 * Int32.toNatClampNeg v1) x (fun x3 => L17 (v1 + 1) x3))))
set_option maxHeartbeats 4000000 in
set_option maxRecDepth 100000 in
theorem sX10_passMinute_17 (v1 : Int32)  (x : ab_X) (K : ab_X → Prop)  (d bc bs : Nat) (hdp : 4 ≤ d)  (h : Lp2 (lX10_passMinute_17  K ) v1 x) : EW MX10_passMinute 17 [(0, .ref 9), (1, .int v1)] [] (aS x) d bc bs (liV K) := by
  refine Lp2.use (P := fun v1 x => EW MX10_passMinute 17 [(0, .ref 9), (1, .int v1)] [] (aS x) d bc bs (liV K)) (fun L17 v1 x hL17 h => ?_) v1 x h
  unfold lX10_passMinute_17 at h
  refine EW_iload_n (pc2 := 18) rfl dX10_passMinute_17 1 rfl ?_
  refine EW_aload_n (pc2 := 19) rfl dX10_passMinute_18 0 rfl ?_
  refine AW_geti ⟨gfRX10_44, rfl⟩ (pc2 := 22) rfl dX10_passMinute_19 q9 ?_
  refine EW_icmp_ge (tgt := 41) (pc2 := 25) rfl dX10_passMinute_22 (by decide) (fun q => ?_) (fun q => ?_)
  · replace h := h.1 q
    exact EW_vret rfl dX10_passMinute_41 ⟨_, rfl, rfl, h⟩
  · replace h := h.2 q
    refine EW_aload_n (pc2 := 26) rfl dX10_passMinute_25 0 rfl ?_
    refine EW_aload_n (pc2 := 27) rfl dX10_passMinute_26 0 rfl ?_
    refine AW_getr (r := 10) ⟨gfRX10_11, rfl⟩ (pc2 := 30) rfl dX10_passMinute_27 q9 rfl ?_
    refine EW_iload_n (pc2 := 31) rfl dX10_passMinute_30 1 rfl ?_
    obtain ⟨b2, h⟩ := h
    refine AW_aald5 (pc2 := 32) rfl dX10_passMinute_31 b2 ?_
    refine AW_invV (M' := MX10_loseIn) [.ref (30 + 3 * Int32.toNatClampNeg v1)] (rest := []) mlRX10_101 okX10_loseIn (pc2 := 35) rfl dX10_passMinute_32 rfl rfl (Nat.le_of_ble_eq_true rfl) (Nat.le_of_ble_eq_true rfl) (d' := 2) (by omega) q9 ⟨by decide, rfl⟩ (EW_mono (fun _ _ hr => ?_) (sX10_loseIn (30 + 3 * Int32.toNatClampNeg v1) (isH_of b2) x _ _ 0 0 (Nat.le_refl _) h))
    obtain ⟨x3, rfl, rfl, h⟩ := hr
    refine EW_iinc (v1 + 1) (pc2 := 38) rfl dX10_passMinute_35 1 rfl rfl (by decide) [1, 0] [(0, .ref 9), (1, .int (v1 + 1))] rfl ?_
    refine EW_goto (tgt := 17) dX10_passMinute_38 (by decide) ?_
    exact hL17 (v1 + 1) x3 h
set_option maxHeartbeats 4000000 in
set_option maxRecDepth 100000 in
def wX10_passMinute  (x : ab_X) (K : ab_X → Prop) : Prop := wX3_step 11 (x.1 9 2) x (fun x1 => Lp2 (lX10_passMinute_17 K ) 0 x1)
set_option maxHeartbeats 4000000 in
set_option maxRecDepth 100000 in
theorem sX10_passMinute   (x : ab_X) (K : ab_X → Prop) (d bc bs : Nat) (hdp : 4 ≤ d) (h : wX10_passMinute  x K) : EW MX10_passMinute 0 [(0, .ref 9)] [] (aS x) d bc bs (liV K) := by
  unfold wX10_passMinute at h
  refine EW_aload_n (pc2 := 1) rfl dX10_passMinute_0 0 rfl ?_
  refine AW_getr (r := 11) ⟨gfRX10_20, rfl⟩ (pc2 := 4) rfl dX10_passMinute_1 q9 rfl ?_
  refine EW_aload_n (pc2 := 5) rfl dX10_passMinute_4 0 rfl ?_
  refine AW_getr (r := 10) ⟨gfRX10_11, rfl⟩ (pc2 := 8) rfl dX10_passMinute_5 q9 rfl ?_
  refine EW_aload_n (pc2 := 9) rfl dX10_passMinute_8 0 rfl ?_
  refine AW_geti ⟨gfRX10_44, rfl⟩ (pc2 := 12) rfl dX10_passMinute_9 q9 ?_
  refine AW_invV (M' := MX3_step) [.ref 10, .int (x.1 9 2)] (rest := []) mlRX10_97 okX3_step (pc2 := 15) rfl dX10_passMinute_12 rfl rfl (Nat.le_of_ble_eq_true rfl) (Nat.le_of_ble_eq_true rfl) (d' := 3) (by omega) q11 ⟨by decide, rfl⟩ (EW_mono (fun _ _ hr => ?_) (sX3_step 11 (x.1 9 2) (Or.inl rfl : isF 11) x _ _ 0 0 (Nat.le_refl _) h))
  obtain ⟨x1, rfl, rfl, h⟩ := hr
  refine EW_iconst (pc2 := 16) (v := 0) rfl dX10_passMinute_15 (by decide) ?_
  refine EW_istore_n (pc2 := 17) rfl dX10_passMinute_16 (by decide) [1, 0] [(0, .ref 9), (1, .int 0)] rfl ?_
  exact sX10_passMinute_17 0 x1 K d bc bs hdp h
theorem mmRX2_78 : Cond.methodLink RX2 78 Lib.Math.min.name ∈ ab_G ∧ Cond.static Lib.Math.min.name ∈ ab_G ∧ Cond.initialized "java/lang/Math" ∈ ab_G ∧ Cond.code Lib.Math.min.name Lib.Math.min.code 2 (some .int) ∈ ab_G := ⟨ab_in 1508 (by decide +kernel) (by decide +kernel), ab_in 787 (by decide +kernel) (by decide +kernel), ab_in 100 (by decide +kernel) (by decide +kernel), ab_in 788 (by decide +kernel) (by decide +kernel)⟩
theorem mmRX2_84 : Cond.methodLink RX2 84 Lib.Math.max.name ∈ ab_G ∧ Cond.static Lib.Math.max.name ∈ ab_G ∧ Cond.initialized "java/lang/Math" ∈ ab_G ∧ Cond.code Lib.Math.max.name Lib.Math.max.code 2 (some .int) ∈ ab_G := ⟨ab_in 1509 (by decide +kernel) (by decide +kernel), ab_in 909 (by decide +kernel) (by decide +kernel), ab_in 100 (by decide +kernel) (by decide +kernel), ab_in 910 (by decide +kernel) (by decide +kernel)⟩
abbrev MX2_tire : ab_M := (yX2_tire, cX2_tire, 2, none)
theorem dX2_tire_0 : decode cX2_tire 0 = .ok (.aload_n 0, 1) := by decide +kernel
theorem dX2_tire_1 : decode cX2_tire 1 = .ok (.getfield 63, 3) := by decide +kernel
theorem dX2_tire_4 : decode cX2_tire 4 = .ok (.iconst 4, 1) := by decide +kernel
theorem dX2_tire_5 : decode cX2_tire 5 = .ok (.if_icmp .ne 9, 3) := by decide +kernel
theorem dX2_tire_8 : decode cX2_tire 8 = .ok (.aload_n 0, 1) := by decide +kernel
theorem dX2_tire_9 : decode cX2_tire 9 = .ok (.iconst 0, 1) := by decide +kernel
theorem dX2_tire_10 : decode cX2_tire 10 = .ok (.putfield 40, 3) := by decide +kernel
theorem dX2_tire_13 : decode cX2_tire 13 = .ok (.return_, 1) := by decide +kernel
theorem dX2_tire_14 : decode cX2_tire 14 = .ok (.aload_n 0, 1) := by decide +kernel
theorem dX2_tire_15 : decode cX2_tire 15 = .ok (.getfield 63, 3) := by decide +kernel
theorem dX2_tire_18 : decode cX2_tire 18 = .ok (.ifCond .ne 7, 3) := by decide +kernel
theorem dX2_tire_21 : decode cX2_tire 21 = .ok (.iconst (-1), 1) := by decide +kernel
theorem dX2_tire_22 : decode cX2_tire 22 = .ok (.goto 16, 3) := by decide +kernel
theorem dX2_tire_25 : decode cX2_tire 25 = .ok (.aload_n 0, 1) := by decide +kernel
theorem dX2_tire_26 : decode cX2_tire 26 = .ok (.getfield 63, 3) := by decide +kernel
theorem dX2_tire_29 : decode cX2_tire 29 = .ok (.iconst 2, 1) := by decide +kernel
theorem dX2_tire_30 : decode cX2_tire 30 = .ok (.if_icmp .ne 7, 3) := by decide +kernel
theorem dX2_tire_33 : decode cX2_tire 33 = .ok (.iconst 2, 1) := by decide +kernel
theorem dX2_tire_34 : decode cX2_tire 34 = .ok (.goto 4, 3) := by decide +kernel
theorem dX2_tire_37 : decode cX2_tire 37 = .ok (.iconst 1, 1) := by decide +kernel
theorem dX2_tire_38 : decode cX2_tire 38 = .ok (.istore_n 1, 1) := by decide +kernel
theorem dX2_tire_39 : decode cX2_tire 39 = .ok (.aload_n 0, 1) := by decide +kernel
theorem dX2_tire_40 : decode cX2_tire 40 = .ok (.iconst 0, 1) := by decide +kernel
theorem dX2_tire_41 : decode cX2_tire 41 = .ok (.sipush 300, 3) := by decide +kernel
theorem dX2_tire_44 : decode cX2_tire 44 = .ok (.aload_n 0, 1) := by decide +kernel
theorem dX2_tire_45 : decode cX2_tire 45 = .ok (.getfield 40, 3) := by decide +kernel
theorem dX2_tire_48 : decode cX2_tire 48 = .ok (.iload_n 1, 1) := by decide +kernel
theorem dX2_tire_49 : decode cX2_tire 49 = .ok (.iadd, 1) := by decide +kernel
theorem dX2_tire_50 : decode cX2_tire 50 = .ok (.invokestatic 78, 3) := by decide +kernel
theorem dX2_tire_53 : decode cX2_tire 53 = .ok (.invokestatic 84, 3) := by decide +kernel
theorem dX2_tire_56 : decode cX2_tire 56 = .ok (.putfield 40, 3) := by decide +kernel
theorem dX2_tire_59 : decode cX2_tire 59 = .ok (.return_, 1) := by decide +kernel
theorem okX2_tire : ab_okM MX2_tire 0 := ⟨by decide, ⟨by decide, by decide⟩, ab_in 1507 (by decide +kernel) (by decide +kernel), ab_in 94 (by decide +kernel) (by decide +kernel), by decide +kernel, by decide⟩
set_option maxHeartbeats 4000000 in
set_option maxRecDepth 100000 in
def wX2_tire_38 (v0 : Nat) (s0 : Int32) (x : ab_X) (K : ab_X → Prop)  : Prop := K (wr x v0 15 (imax 0 (imin 300 ((x.1 v0 15) + s0))))
set_option maxHeartbeats 4000000 in
set_option maxRecDepth 100000 in
theorem sX2_tire_38 (v0 : Nat) (s0 : Int32) (hv0 : isW v0) (x : ab_X) (K : ab_X → Prop)  (d bc bs : Nat) (hdp : 1 ≤ d)  (h : wX2_tire_38 v0 s0 x K ) : EW MX2_tire 38 [(0, .ref v0)] [.int s0] (aS x) d bc bs (liV K) := by
  unfold wX2_tire_38 at h
  refine EW_istore_n (pc2 := 39) rfl dX2_tire_38 (by decide) [1, 0] [(0, .ref v0), (1, .int s0)] rfl ?_
  refine EW_aload_n (pc2 := 40) rfl dX2_tire_39 0 rfl ?_
  refine EW_iconst (pc2 := 41) (v := 0) rfl dX2_tire_40 (by decide) ?_
  refine EW_sipush (pc2 := 44) (v := 300) rfl dX2_tire_41 (by decide) ?_
  refine EW_aload_n (pc2 := 45) rfl dX2_tire_44 0 rfl ?_
  refine AW_geti ⟨gfRX2_40, rfl⟩ (pc2 := 48) rfl dX2_tire_45 (isW.o hv0) ?_
  refine EW_iload_n (pc2 := 49) rfl dX2_tire_48 1 rfl ?_
  refine EW_iadd (pc2 := 50) rfl dX2_tire_49 ?_
  refine AW_mmin mmRX2_78 (pc2 := 53) rfl dX2_tire_50 (Nat.le_of_ble_eq_true rfl) (by omega) ?_
  refine AW_mmax mmRX2_84 (pc2 := 56) rfl dX2_tire_53 (Nat.le_of_ble_eq_true rfl) (by omega) ?_
  refine AW_puti ⟨gfRX2_40, rfl, rfl⟩ (pc2 := 59) rfl dX2_tire_56 (isW.o hv0) ?_
  exact EW_vret rfl dX2_tire_59 ⟨_, rfl, rfl, h⟩
set_option maxHeartbeats 4000000 in
set_option maxRecDepth 100000 in
def wX2_tire (v0 : Nat) (x : ab_X) (K : ab_X → Prop) : Prop := ((¬ (x.1 v0 8) = 4 → ((¬ (x.1 v0 8) = 0 → ((¬ (x.1 v0 8) = 2 → wX2_tire_38 v0 1 x K) ∧ ((x.1 v0 8) = 2 → wX2_tire_38 v0 2 x K))) ∧ ((x.1 v0 8) = 0 → wX2_tire_38 v0 (-1) x K))) ∧ ((x.1 v0 8) = 4 → K (wr x v0 15 0)))
set_option maxHeartbeats 4000000 in
set_option maxRecDepth 100000 in
theorem sX2_tire (v0 : Nat) (hv0 : isW v0) (x : ab_X) (K : ab_X → Prop) (d bc bs : Nat) (hdp : 1 ≤ d) (h : wX2_tire v0 x K) : EW MX2_tire 0 [(0, .ref v0)] [] (aS x) d bc bs (liV K) := by
  unfold wX2_tire at h
  refine EW_aload_n (pc2 := 1) rfl dX2_tire_0 0 rfl ?_
  refine AW_geti ⟨gfRX2_63, rfl⟩ (pc2 := 4) rfl dX2_tire_1 (isW.o hv0) ?_
  refine EW_iconst (pc2 := 5) (v := 4) rfl dX2_tire_4 (by decide) ?_
  refine EW_icmp_ne (tgt := 14) (pc2 := 8) rfl dX2_tire_5 (by decide) (fun q => ?_) (fun q => ?_)
  · replace h := h.1 q
    refine EW_aload_n (pc2 := 15) rfl dX2_tire_14 0 rfl ?_
    refine AW_geti ⟨gfRX2_63, rfl⟩ (pc2 := 18) rfl dX2_tire_15 (isW.o hv0) ?_
    refine EW_if_ne (tgt := 25) (pc2 := 21) rfl dX2_tire_18 (by decide) (fun q => ?_) (fun q => ?_)
    · replace h := h.1 q
      refine EW_aload_n (pc2 := 26) rfl dX2_tire_25 0 rfl ?_
      refine AW_geti ⟨gfRX2_63, rfl⟩ (pc2 := 29) rfl dX2_tire_26 (isW.o hv0) ?_
      refine EW_iconst (pc2 := 30) (v := 2) rfl dX2_tire_29 (by decide) ?_
      refine EW_icmp_ne (tgt := 37) (pc2 := 33) rfl dX2_tire_30 (by decide) (fun q => ?_) (fun q => ?_)
      · replace h := h.1 q
        refine EW_iconst (pc2 := 38) (v := 1) rfl dX2_tire_37 (by decide) ?_
        exact sX2_tire_38 v0 1 hv0 x K d bc bs hdp h
      · replace h := h.2 q
        refine EW_iconst (pc2 := 34) (v := 2) rfl dX2_tire_33 (by decide) ?_
        refine EW_goto (tgt := 38) dX2_tire_34 (by decide) ?_
        exact sX2_tire_38 v0 2 hv0 x K d bc bs hdp h
    · replace h := h.2 q
      refine EW_iconst (pc2 := 22) (v := (-1)) rfl dX2_tire_21 (by decide) ?_
      refine EW_goto (tgt := 38) dX2_tire_22 (by decide) ?_
      exact sX2_tire_38 v0 (-1) hv0 x K d bc bs hdp h
  · replace h := h.2 q
    refine EW_aload_n (pc2 := 9) rfl dX2_tire_8 0 rfl ?_
    refine EW_iconst (pc2 := 10) (v := 0) rfl dX2_tire_9 (by decide) ?_
    refine AW_puti ⟨gfRX2_40, rfl, rfl⟩ (pc2 := 13) rfl dX2_tire_10 (isW.o hv0) ?_
    exact EW_vret rfl dX2_tire_13 ⟨_, rfl, rfl, h⟩
