theorem mlRX6_66 : Cond.methodLink RX6 66 yX6_partOf ∈ ab_G ∧ Cond.static yX6_partOf ∈ ab_G := ⟨ab_in 812 (by decide +kernel) (by decide +kernel), ab_in 813 (by decide +kernel) (by decide +kernel)⟩
theorem mlRX6_69 : Cond.methodLink RX6 69 yX6_spread ∈ ab_G ∧ Cond.instanceMethod yX6_spread ∈ ab_G ∧ Cond.selects RX6 yX6_spread yX6_spread ∈ ab_G := ⟨ab_in 815 (by decide +kernel) (by decide +kernel), ab_in 816 (by decide +kernel) (by decide +kernel), ab_in 817 (by decide +kernel) (by decide +kernel)⟩
theorem mlRX6_62 : Cond.methodLink RX6 62 yX6_openTo ∈ ab_G ∧ Cond.instanceMethod yX6_openTo ∈ ab_G ∧ Cond.selects RX6 yX6_openTo yX6_openTo ∈ ab_G := ⟨ab_in 808 (by decide +kernel) (by decide +kernel), ab_in 809 (by decide +kernel) (by decide +kernel), ab_in 810 (by decide +kernel) (by decide +kernel)⟩
theorem mlRX6_34 : Cond.methodLink RX6 34 yJ7_fill_53178 ∈ ab_G ∧ Cond.static yJ7_fill_53178 ∈ ab_G := ⟨ab_in 127 (by decide +kernel) (by decide +kernel), ab_in 128 (by decide +kernel) (by decide +kernel)⟩
abbrev MX6_arrival : ab_M := (yX6_arrival, cX6_arrival, 6, (some .int))
theorem dX6_arrival_0 : decode cX6_arrival 0 = .ok (.iload_n 1, 1) := by decide +kernel
theorem dX6_arrival_1 : decode cX6_arrival 1 = .ok (.invokestatic 58, 3) := by decide +kernel
theorem dX6_arrival_4 : decode cX6_arrival 4 = .ok (.ifCond .eq 22, 3) := by decide +kernel
theorem dX6_arrival_7 : decode cX6_arrival 7 = .ok (.iload_n 2, 1) := by decide +kernel
theorem dX6_arrival_8 : decode cX6_arrival 8 = .ok (.invokestatic 58, 3) := by decide +kernel
theorem dX6_arrival_11 : decode cX6_arrival 11 = .ok (.ifCond .eq 15, 3) := by decide +kernel
theorem dX6_arrival_14 : decode cX6_arrival 14 = .ok (.aload_n 0, 1) := by decide +kernel
theorem dX6_arrival_15 : decode cX6_arrival 15 = .ok (.iload_n 1, 1) := by decide +kernel
theorem dX6_arrival_16 : decode cX6_arrival 16 = .ok (.invokevirtual 62, 3) := by decide +kernel
theorem dX6_arrival_19 : decode cX6_arrival 19 = .ok (.iload_n 2, 1) := by decide +kernel
theorem dX6_arrival_20 : decode cX6_arrival 20 = .ok (.ishr, 1) := by decide +kernel
theorem dX6_arrival_21 : decode cX6_arrival 21 = .ok (.iconst 1, 1) := by decide +kernel
theorem dX6_arrival_22 : decode cX6_arrival 22 = .ok (.iand, 1) := by decide +kernel
theorem dX6_arrival_23 : decode cX6_arrival 23 = .ok (.ifCond .ne 5, 3) := by decide +kernel
theorem dX6_arrival_26 : decode cX6_arrival 26 = .ok (.iconst (-1), 1) := by decide +kernel
theorem dX6_arrival_27 : decode cX6_arrival 27 = .ok (.ireturn, 1) := by decide +kernel
theorem dX6_arrival_28 : decode cX6_arrival 28 = .ok (.aload_n 0, 1) := by decide +kernel
theorem dX6_arrival_29 : decode cX6_arrival 29 = .ok (.getfield 31, 3) := by decide +kernel
theorem dX6_arrival_32 : decode cX6_arrival 32 = .ok (.iconst 0, 1) := by decide +kernel
theorem dX6_arrival_33 : decode cX6_arrival 33 = .ok (.invokestatic 34, 3) := by decide +kernel
theorem dX6_arrival_36 : decode cX6_arrival 36 = .ok (.aload_n 0, 1) := by decide +kernel
theorem dX6_arrival_37 : decode cX6_arrival 37 = .ok (.getfield 31, 3) := by decide +kernel
theorem dX6_arrival_40 : decode cX6_arrival 40 = .ok (.iconst 0, 1) := by decide +kernel
theorem dX6_arrival_41 : decode cX6_arrival 41 = .ok (.iconst 1, 1) := by decide +kernel
theorem dX6_arrival_42 : decode cX6_arrival 42 = .ok (.iload_n 1, 1) := by decide +kernel
theorem dX6_arrival_43 : decode cX6_arrival 43 = .ok (.ishl, 1) := by decide +kernel
theorem dX6_arrival_44 : decode cX6_arrival 44 = .ok (.iastore, 1) := by decide +kernel
theorem dX6_arrival_45 : decode cX6_arrival 45 = .ok (.iconst 0, 1) := by decide +kernel
theorem dX6_arrival_46 : decode cX6_arrival 46 = .ok (.istore 5, 2) := by decide +kernel
theorem dX6_arrival_48 : decode cX6_arrival 48 = .ok (.iload 5, 2) := by decide +kernel
theorem dX6_arrival_50 : decode cX6_arrival 50 = .ok (.sipush 600, 3) := by decide +kernel
theorem dX6_arrival_53 : decode cX6_arrival 53 = .ok (.if_icmp .gt 54, 3) := by decide +kernel
theorem dX6_arrival_56 : decode cX6_arrival 56 = .ok (.aload_n 0, 1) := by decide +kernel
theorem dX6_arrival_57 : decode cX6_arrival 57 = .ok (.getfield 31, 3) := by decide +kernel
theorem dX6_arrival_60 : decode cX6_arrival 60 = .ok (.iload 5, 2) := by decide +kernel
theorem dX6_arrival_62 : decode cX6_arrival 62 = .ok (.iaload, 1) := by decide +kernel
theorem dX6_arrival_63 : decode cX6_arrival 63 = .ok (.iload_n 2, 1) := by decide +kernel
theorem dX6_arrival_64 : decode cX6_arrival 64 = .ok (.ishr, 1) := by decide +kernel
theorem dX6_arrival_65 : decode cX6_arrival 65 = .ok (.iconst 1, 1) := by decide +kernel
theorem dX6_arrival_66 : decode cX6_arrival 66 = .ok (.iand, 1) := by decide +kernel
theorem dX6_arrival_67 : decode cX6_arrival 67 = .ok (.iconst 1, 1) := by decide +kernel
theorem dX6_arrival_68 : decode cX6_arrival 68 = .ok (.if_icmp .ne 8, 3) := by decide +kernel
theorem dX6_arrival_71 : decode cX6_arrival 71 = .ok (.iload_n 3, 1) := by decide +kernel
theorem dX6_arrival_72 : decode cX6_arrival 72 = .ok (.iload 5, 2) := by decide +kernel
theorem dX6_arrival_74 : decode cX6_arrival 74 = .ok (.iadd, 1) := by decide +kernel
theorem dX6_arrival_75 : decode cX6_arrival 75 = .ok (.ireturn, 1) := by decide +kernel
theorem dX6_arrival_76 : decode cX6_arrival 76 = .ok (.aload_n 0, 1) := by decide +kernel
theorem dX6_arrival_77 : decode cX6_arrival 77 = .ok (.getfield 31, 3) := by decide +kernel
theorem dX6_arrival_80 : decode cX6_arrival 80 = .ok (.iload 5, 2) := by decide +kernel
theorem dX6_arrival_82 : decode cX6_arrival 82 = .ok (.iaload, 1) := by decide +kernel
theorem dX6_arrival_83 : decode cX6_arrival 83 = .ok (.ifCond .eq 18, 3) := by decide +kernel
theorem dX6_arrival_86 : decode cX6_arrival 86 = .ok (.aload_n 0, 1) := by decide +kernel
theorem dX6_arrival_87 : decode cX6_arrival 87 = .ok (.iload 5, 2) := by decide +kernel
theorem dX6_arrival_89 : decode cX6_arrival 89 = .ok (.iload_n 3, 1) := by decide +kernel
theorem dX6_arrival_90 : decode cX6_arrival 90 = .ok (.iload 5, 2) := by decide +kernel
theorem dX6_arrival_92 : decode cX6_arrival 92 = .ok (.iadd, 1) := by decide +kernel
theorem dX6_arrival_93 : decode cX6_arrival 93 = .ok (.invokestatic 66, 3) := by decide +kernel
theorem dX6_arrival_96 : decode cX6_arrival 96 = .ok (.iload 4, 2) := by decide +kernel
theorem dX6_arrival_98 : decode cX6_arrival 98 = .ok (.invokevirtual 69, 3) := by decide +kernel
theorem dX6_arrival_101 : decode cX6_arrival 101 = .ok (.iinc 5 1, 3) := by decide +kernel
theorem dX6_arrival_104 : decode cX6_arrival 104 = .ok (.goto (-56), 3) := by decide +kernel
theorem dX6_arrival_107 : decode cX6_arrival 107 = .ok (.iconst (-1), 1) := by decide +kernel
theorem dX6_arrival_108 : decode cX6_arrival 108 = .ok (.ireturn, 1) := by decide +kernel
theorem okX6_arrival : ab_okM MX6_arrival 4 := ⟨by decide, ⟨by decide, by decide⟩, ab_in 807 (by decide +kernel) (by decide +kernel), ab_in 87 (by decide +kernel) (by decide +kernel), by decide +kernel, by decide⟩
set_option maxHeartbeats 4000000 in
set_option maxRecDepth 100000 in
def lX6_arrival_48 (v2 : Int32) (v3 : Int32) (v4 : Int32) (K : Int32 → ab_X → Prop)  (L48 : Int32 → ab_X → Prop) (v5 : Int32) (x : ab_X) : Prop := ((600 < v5 → K (-1) x) ∧ (¬ 600 < v5 → (vp_in v5 601 ∧ ((¬ (((x.1 8 (Int32.toNatClampNeg v5)) >>> (v2 &&& 31)) &&& 1) = 1 → (vp_in v5 601 ∧ (((x.1 8 (Int32.toNatClampNeg v5)) = 0 → L48 (v5 + 1) x) ∧ (¬ (x.1 8 (Int32.toNatClampNeg v5)) = 0 → wX6_partOf (v3 + v5) x (fun r8 => wX6_spread v5 r8 v4 x (fun x9 => L48 (v5 + 1) x9)))))) ∧ ((((x.1 8 (Int32.toNatClampNeg v5)) >>> (v2 &&& 31)) &&& 1) = 1 → K (v3 + v5) x)))))
set_option maxHeartbeats 4000000 in
set_option maxRecDepth 100000 in
theorem sX6_arrival_48 (v2 : Int32) (v3 : Int32) (v4 : Int32) (v5 : Int32)  (x : ab_X) (K : Int32 → ab_X → Prop)  (d bc bs : Nat) (hdp : 1 ≤ d)  (h : Lp2 (lX6_arrival_48 v2 v3 v4 K ) v5 x) : EW MX6_arrival 48 [(0, .ref 1), (2, .int v2), (3, .int v3), (4, .int v4), (5, .int v5)] [] (aS x) d bc bs (liI K) := by
  refine Lp2.use (P := fun v5 x => EW MX6_arrival 48 [(0, .ref 1), (2, .int v2), (3, .int v3), (4, .int v4), (5, .int v5)] [] (aS x) d bc bs (liI K)) (fun L48 v5 x hL48 h => ?_) v5 x h
  unfold lX6_arrival_48 at h
  refine EW_iload (pc2 := 50) rfl dX6_arrival_48 4 rfl ?_
  refine EW_sipush (pc2 := 53) (v := 600) rfl dX6_arrival_50 (by decide) ?_
  refine EW_icmp_gt (tgt := 107) (pc2 := 56) rfl dX6_arrival_53 (by decide) (fun q => ?_) (fun q => ?_)
  · replace h := h.1 q
    refine EW_iconst (pc2 := 108) (v := (-1)) rfl dX6_arrival_107 (by decide) ?_
    exact AW_iret rfl dX6_arrival_108 ⟨_, _, rfl, rfl, h⟩
  · replace h := h.2 q
    refine EW_aload_n (pc2 := 57) rfl dX6_arrival_56 0 rfl ?_
    refine AW_getr (r := 8) ⟨gfRX6_31, rfl⟩ (pc2 := 60) rfl dX6_arrival_57 q1 rfl ?_
    refine EW_iload (pc2 := 62) rfl dX6_arrival_60 4 rfl ?_
    obtain ⟨b6, h⟩ := h
    refine AW_iald (pc2 := 63) rfl dX6_arrival_62 q8 b6 ?_
    refine EW_iload_n (pc2 := 64) rfl dX6_arrival_63 1 rfl ?_
    refine EW_ishr (pc2 := 65) rfl dX6_arrival_64 ?_
    refine EW_iconst (pc2 := 66) (v := 1) rfl dX6_arrival_65 (by decide) ?_
    refine EW_iand (pc2 := 67) rfl dX6_arrival_66 ?_
    refine EW_iconst (pc2 := 68) (v := 1) rfl dX6_arrival_67 (by decide) ?_
    refine EW_icmp_ne (tgt := 76) (pc2 := 71) rfl dX6_arrival_68 (by decide) (fun q => ?_) (fun q => ?_)
    · replace h := h.1 q
      refine EW_aload_n (pc2 := 77) rfl dX6_arrival_76 0 rfl ?_
      refine AW_getr (r := 8) ⟨gfRX6_31, rfl⟩ (pc2 := 80) rfl dX6_arrival_77 q1 rfl ?_
      refine EW_iload (pc2 := 82) rfl dX6_arrival_80 4 rfl ?_
      obtain ⟨b7, h⟩ := h
      refine AW_iald (pc2 := 83) rfl dX6_arrival_82 q8 b7 ?_
      refine EW_if_eq (tgt := 101) (pc2 := 86) rfl dX6_arrival_83 (by decide) (fun q => ?_) (fun q => ?_)
      · replace h := h.1 q
        refine EW_iinc (v5 + 1) (pc2 := 104) rfl dX6_arrival_101 4 rfl rfl (by decide) [1, 2, 3, 4, 0] [(0, .ref 1), (2, .int v2), (3, .int v3), (4, .int v4), (5, .int (v5 + 1))] rfl ?_
        refine EW_goto (tgt := 48) dX6_arrival_104 (by decide) ?_
        exact hL48 (v5 + 1) x h
      · replace h := h.2 q
        refine EW_aload_n (pc2 := 87) rfl dX6_arrival_86 0 rfl ?_
        refine EW_iload (pc2 := 89) rfl dX6_arrival_87 4 rfl ?_
        refine EW_iload_n (pc2 := 90) rfl dX6_arrival_89 2 rfl ?_
        refine EW_iload (pc2 := 92) rfl dX6_arrival_90 4 rfl ?_
        refine EW_iadd (pc2 := 93) rfl dX6_arrival_92 ?_
        refine AW_invS (M' := MX6_partOf) [.int (v3 + v5)] (rest := [.int v5, .ref 1]) mlRX6_66 okX6_partOf (pc2 := 96) rfl dX6_arrival_93 rfl rfl (Nat.le_of_ble_eq_true rfl) (Nat.le_of_ble_eq_true rfl) (d' := 0) (by omega) (EW_mono (fun _ _ hr => ?_) (sX6_partOf (v3 + v5)  x _ _ 0 0 (Nat.le_refl _) h))
        obtain ⟨r8, rfl, rfl, h⟩ := hr
        refine EW_iload (pc2 := 98) rfl dX6_arrival_96 3 rfl ?_
        refine AW_invV (M' := MX6_spread) [.int v5, .int r8, .int v4] (rest := []) mlRX6_69 okX6_spread (pc2 := 101) rfl dX6_arrival_98 rfl rfl (Nat.le_of_ble_eq_true rfl) (Nat.le_of_ble_eq_true rfl) (d' := 0) (by omega) q1 ⟨by decide, rfl⟩ (EW_mono (fun _ _ hr => ?_) (sX6_spread v5 r8 v4  x _ _ 0 0 (Nat.le_refl _) h))
        obtain ⟨x9, rfl, rfl, h⟩ := hr
        refine EW_iinc (v5 + 1) (pc2 := 104) rfl dX6_arrival_101 4 rfl rfl (by decide) [1, 2, 3, 4, 0] [(0, .ref 1), (2, .int v2), (3, .int v3), (4, .int v4), (5, .int (v5 + 1))] rfl ?_
        refine EW_goto (tgt := 48) dX6_arrival_104 (by decide) ?_
        exact hL48 (v5 + 1) x9 h
    · replace h := h.2 q
      refine EW_iload_n (pc2 := 72) rfl dX6_arrival_71 2 rfl ?_
      refine EW_iload (pc2 := 74) rfl dX6_arrival_72 4 rfl ?_
      refine EW_iadd (pc2 := 75) rfl dX6_arrival_74 ?_
      exact AW_iret rfl dX6_arrival_75 ⟨_, _, rfl, rfl, h⟩
set_option maxHeartbeats 4000000 in
set_option maxRecDepth 100000 in
def wX6_arrival (v1 : Int32) (v2 : Int32) (v3 : Int32) (v4 : Int32) (x : ab_X) (K : Int32 → ab_X → Prop) : Prop := wX11_isCorner v1 x (fun r1 => ((r1 = 0 → K (-1) x) ∧ (¬ r1 = 0 → wX11_isCorner v2 x (fun r2 => ((r2 = 0 → K (-1) x) ∧ (¬ r2 = 0 → wX6_openTo v1 x (fun r3 => ((¬ ((r3 >>> (v2 &&& 31)) &&& 1) = 0 → wJ7_fill_53178 8 601 0 x (fun x4 => (vp_in 0 601 ∧ Lp2 (lX6_arrival_48 v2 v3 v4 K ) 0 (wr x4 8 (Int32.toNatClampNeg 0) (1 <<< (v1 &&& 31)))))) ∧ (((r3 >>> (v2 &&& 31)) &&& 1) = 0 → K (-1) x)))))))))
set_option maxHeartbeats 4000000 in
set_option maxRecDepth 100000 in
theorem sX6_arrival (v1 : Int32) (v2 : Int32) (v3 : Int32) (v4 : Int32)  (x : ab_X) (K : Int32 → ab_X → Prop) (d bc bs : Nat) (hdp : 1 ≤ d) (h : wX6_arrival v1 v2 v3 v4 x K) : EW MX6_arrival 0 [(0, .ref 1), (1, .int v1), (2, .int v2), (3, .int v3), (4, .int v4)] [] (aS x) d bc bs (liI K) := by
  unfold wX6_arrival at h
  refine EW_iload_n (pc2 := 1) rfl dX6_arrival_0 1 rfl ?_
  refine AW_invSN (M' := MX11_isCorner) [.int v1] (rest := []) mlRX6_58 okX11_isCorner (pc2 := 4) rfl dX6_arrival_1 rfl rfl (Nat.le_of_ble_eq_true rfl) (Nat.le_of_ble_eq_true rfl) (d' := 0) (by omega) (EW_mono (fun _ _ hr => ?_) (sX11_isCorner v1  x _ _ 0 0 (Nat.le_refl _) h))
  obtain ⟨r1, rfl, rfl, h⟩ := hr
  refine EW_if_eq (tgt := 26) (pc2 := 7) rfl dX6_arrival_4 (by decide) (fun q => ?_) (fun q => ?_)
  · replace h := h.1 q
    refine EW_iconst (pc2 := 27) (v := (-1)) rfl dX6_arrival_26 (by decide) ?_
    exact AW_iret rfl dX6_arrival_27 ⟨_, _, rfl, rfl, h⟩
  · replace h := h.2 q
    refine EW_iload_n (pc2 := 8) rfl dX6_arrival_7 2 rfl ?_
    refine AW_invSN (M' := MX11_isCorner) [.int v2] (rest := []) mlRX6_58 okX11_isCorner (pc2 := 11) rfl dX6_arrival_8 rfl rfl (Nat.le_of_ble_eq_true rfl) (Nat.le_of_ble_eq_true rfl) (d' := 0) (by omega) (EW_mono (fun _ _ hr => ?_) (sX11_isCorner v2  x _ _ 0 0 (Nat.le_refl _) h))
    obtain ⟨r2, rfl, rfl, h⟩ := hr
    refine EW_if_eq (tgt := 26) (pc2 := 14) rfl dX6_arrival_11 (by decide) (fun q => ?_) (fun q => ?_)
    · replace h := h.1 q
      refine EW_iconst (pc2 := 27) (v := (-1)) rfl dX6_arrival_26 (by decide) ?_
      exact AW_iret rfl dX6_arrival_27 ⟨_, _, rfl, rfl, h⟩
    · replace h := h.2 q
      refine EW_aload_n (pc2 := 15) rfl dX6_arrival_14 0 rfl ?_
      refine EW_iload_n (pc2 := 16) rfl dX6_arrival_15 1 rfl ?_
      refine AW_invV (M' := MX6_openTo) [.int v1] (rest := []) mlRX6_62 okX6_openTo (pc2 := 19) rfl dX6_arrival_16 rfl rfl (Nat.le_of_ble_eq_true rfl) (Nat.le_of_ble_eq_true rfl) (d' := 0) (by omega) q1 ⟨by decide, rfl⟩ (EW_mono (fun _ _ hr => ?_) (sX6_openTo v1  x _ _ 0 0 (Nat.le_refl _) h))
      obtain ⟨r3, rfl, rfl, h⟩ := hr
      refine EW_iload_n (pc2 := 20) rfl dX6_arrival_19 2 rfl ?_
      refine EW_ishr (pc2 := 21) rfl dX6_arrival_20 ?_
      refine EW_iconst (pc2 := 22) (v := 1) rfl dX6_arrival_21 (by decide) ?_
      refine EW_iand (pc2 := 23) rfl dX6_arrival_22 ?_
      refine EW_if_ne (tgt := 28) (pc2 := 26) rfl dX6_arrival_23 (by decide) (fun q => ?_) (fun q => ?_)
      · replace h := h.1 q
        refine EW_aload_n (pc2 := 29) rfl dX6_arrival_28 0 rfl ?_
        refine AW_getr (r := 8) ⟨gfRX6_31, rfl⟩ (pc2 := 32) rfl dX6_arrival_29 q1 rfl ?_
        refine EW_iconst (pc2 := 33) (v := 0) rfl dX6_arrival_32 (by decide) ?_
        refine AW_invS (M' := MJ7_fill_53178) [.ref 8, .int 0] (rest := []) mlRX6_34 okJ7_fill_53178 (pc2 := 36) rfl dX6_arrival_33 rfl rfl (Nat.le_of_ble_eq_true rfl) (Nat.le_of_ble_eq_true rfl) (d' := 0) (by omega) (EW_mono (fun _ _ hr => ?_) (sJ7_fill_53178 8 601 0 q8 x _ _ 0 0 (Nat.le_refl _) h))
        obtain ⟨x4, rfl, rfl, h⟩ := hr
        refine EW_aload_n (pc2 := 37) rfl dX6_arrival_36 0 rfl ?_
        refine AW_getr (r := 8) ⟨gfRX6_31, rfl⟩ (pc2 := 40) rfl dX6_arrival_37 q1 rfl ?_
        refine EW_iconst (pc2 := 41) (v := 0) rfl dX6_arrival_40 (by decide) ?_
        refine EW_iconst (pc2 := 42) (v := 1) rfl dX6_arrival_41 (by decide) ?_
        refine EW_iload_n (pc2 := 43) rfl dX6_arrival_42 1 rfl ?_
        refine EW_ishl (pc2 := 44) rfl dX6_arrival_43 ?_
        obtain ⟨b5, h⟩ := h
        refine AW_iast (pc2 := 45) rfl dX6_arrival_44 q8 b5 ?_
        refine EW_iconst (pc2 := 46) (v := 0) rfl dX6_arrival_45 (by decide) ?_
        refine EW_istore (pc2 := 48) rfl dX6_arrival_46 (by decide) [1, 2, 3, 4, 5, 0] [(0, .ref 1), (1, .int v1), (2, .int v2), (3, .int v3), (4, .int v4), (5, .int 0)] rfl ?_
        refine EW_ls [0, 2, 3, 4, 5] rfl ?_
        exact sX6_arrival_48 v2 v3 v4 0 (wr x4 8 (Int32.toNatClampNeg 0) (1 <<< (v1 &&& 31))) K d bc bs hdp h
      · replace h := h.2 q
        refine EW_iconst (pc2 := 27) (v := (-1)) rfl dX6_arrival_26 (by decide) ?_
        exact AW_iret rfl dX6_arrival_27 ⟨_, _, rfl, rfl, h⟩
theorem gfRX0_45 : ab_L RX0 45 0 0 := ⟨by decide, by decide, ab_in 543 (by decide +kernel) (by decide +kernel)⟩
theorem mlRX0_198 : Cond.methodLink RX0 198 yX2_slow ∈ ab_G ∧ Cond.instanceMethod yX2_slow ∈ ab_G ∧ Cond.selects RX2 yX2_slow yX2_slow ∈ ab_G := ⟨ab_in 1013 (by decide +kernel) (by decide +kernel), ab_in 1014 (by decide +kernel) (by decide +kernel), ab_in 1015 (by decide +kernel) (by decide +kernel)⟩
theorem mlRX0_201 : Cond.methodLink RX0 201 yX6_arrival ∈ ab_G ∧ Cond.instanceMethod yX6_arrival ∈ ab_G ∧ Cond.selects RX6 yX6_arrival yX6_arrival ∈ ab_G := ⟨ab_in 1017 (by decide +kernel) (by decide +kernel), ab_in 805 (by decide +kernel) (by decide +kernel), ab_in 806 (by decide +kernel) (by decide +kernel)⟩
abbrev MX0_arrivalOf : ab_M := (yX0_arrivalOf, cX0_arrivalOf, 3, (some .int))
theorem dX0_arrivalOf_0 : decode cX0_arrivalOf 0 = .ok (.aload_n 0, 1) := by decide +kernel
theorem dX0_arrivalOf_1 : decode cX0_arrivalOf 1 = .ok (.getfield 45, 3) := by decide +kernel
theorem dX0_arrivalOf_4 : decode cX0_arrivalOf 4 = .ok (.aload_n 1, 1) := by decide +kernel
theorem dX0_arrivalOf_5 : decode cX0_arrivalOf 5 = .ok (.getfield 69, 3) := by decide +kernel
theorem dX0_arrivalOf_8 : decode cX0_arrivalOf 8 = .ok (.iload_n 2, 1) := by decide +kernel
theorem dX0_arrivalOf_9 : decode cX0_arrivalOf 9 = .ok (.aload_n 0, 1) := by decide +kernel
theorem dX0_arrivalOf_10 : decode cX0_arrivalOf 10 = .ok (.getfield 144, 3) := by decide +kernel
theorem dX0_arrivalOf_13 : decode cX0_arrivalOf 13 = .ok (.aload_n 1, 1) := by decide +kernel
theorem dX0_arrivalOf_14 : decode cX0_arrivalOf 14 = .ok (.invokevirtual 198, 3) := by decide +kernel
theorem dX0_arrivalOf_17 : decode cX0_arrivalOf 17 = .ok (.invokevirtual 201, 3) := by decide +kernel
theorem dX0_arrivalOf_20 : decode cX0_arrivalOf 20 = .ok (.ireturn, 1) := by decide +kernel
theorem okX0_arrivalOf : ab_okM MX0_arrivalOf 2 := ⟨by decide, ⟨by decide, by decide⟩, ab_in 1012 (by decide +kernel) (by decide +kernel), ab_in 92 (by decide +kernel) (by decide +kernel), by decide +kernel, by decide⟩
set_option maxHeartbeats 4000000 in
set_option maxRecDepth 100000 in
def wX0_arrivalOf (v1 : Nat) (v2 : Int32) (x : ab_X) (K : Int32 → ab_X → Prop) : Prop := wX2_slow v1 x (fun r1 => wX6_arrival (x.1 v1 9) v2 (x.1 66 12) r1 x (fun r2 x3 => K r2 x3))
set_option maxHeartbeats 4000000 in
set_option maxRecDepth 100000 in
theorem sX0_arrivalOf (v1 : Nat) (v2 : Int32) (hv1 : isW v1) (x : ab_X) (K : Int32 → ab_X → Prop) (d bc bs : Nat) (hdp : 2 ≤ d) (h : wX0_arrivalOf v1 v2 x K) : EW MX0_arrivalOf 0 [(0, .ref 66), (1, .ref v1), (2, .int v2)] [] (aS x) d bc bs (liI K) := by
  unfold wX0_arrivalOf at h
  refine EW_aload_n (pc2 := 1) rfl dX0_arrivalOf_0 0 rfl ?_
  refine AW_getr (r := 1) ⟨gfRX0_45, rfl⟩ (pc2 := 4) rfl dX0_arrivalOf_1 q66 rfl ?_
  refine EW_aload_n (pc2 := 5) rfl dX0_arrivalOf_4 1 rfl ?_
  refine AW_geti ⟨gfRX0_69, rfl⟩ (pc2 := 8) rfl dX0_arrivalOf_5 (isW.o hv1) ?_
  refine EW_iload_n (pc2 := 9) rfl dX0_arrivalOf_8 2 rfl ?_
  refine EW_aload_n (pc2 := 10) rfl dX0_arrivalOf_9 0 rfl ?_
  refine AW_geti ⟨gfRX0_144, rfl⟩ (pc2 := 13) rfl dX0_arrivalOf_10 q66 ?_
  refine EW_aload_n (pc2 := 14) rfl dX0_arrivalOf_13 1 rfl ?_
  refine AW_invV (M' := MX2_slow) [] (rest := [.int (x.1 66 12), .int v2, .int (x.1 v1 9), .ref 1]) mlRX0_198 okX2_slow (pc2 := 17) rfl dX0_arrivalOf_14 rfl rfl (Nat.le_of_ble_eq_true rfl) (Nat.le_of_ble_eq_true rfl) (d' := 0) (by omega) (isW.o hv1) ⟨by decide, rfl⟩ (EW_mono (fun _ _ hr => ?_) (sX2_slow v1 hv1 x _ _ 0 0 (Nat.le_refl _) h))
  obtain ⟨r1, rfl, rfl, h⟩ := hr
  refine AW_invV (M' := MX6_arrival) [.int (x.1 v1 9), .int v2, .int (x.1 66 12), .int r1] (rest := []) mlRX0_201 okX6_arrival (pc2 := 20) rfl dX0_arrivalOf_17 rfl rfl (Nat.le_of_ble_eq_true rfl) (Nat.le_of_ble_eq_true rfl) (d' := 1) (by omega) q1 ⟨by decide, rfl⟩ (EW_mono (fun _ _ hr => ?_) (sX6_arrival (x.1 v1 9) v2 (x.1 66 12) r1  x _ _ 0 0 (Nat.le_refl _) h))
  obtain ⟨r2, x3, rfl, rfl, h⟩ := hr
  exact AW_iret rfl dX0_arrivalOf_20 ⟨_, _, rfl, rfl, h⟩
theorem mlRX0_212 : Cond.methodLink RX0 212 yJ6_numberOfTrailingZeros_0f7a4 ∈ ab_G ∧ Cond.static yJ6_numberOfTrailingZeros_0f7a4 ∈ ab_G := ⟨ab_in 1135 (by decide +kernel) (by decide +kernel), ab_in 1136 (by decide +kernel) (by decide +kernel)⟩
abbrev MX0_barePost : ab_M := (yX0_barePost, cX0_barePost, 4, (some .int))
theorem dX0_barePost_0 : decode cX0_barePost 0 = .ok (.iconst 0, 1) := by decide +kernel
theorem dX0_barePost_1 : decode cX0_barePost 1 = .ok (.istore_n 1, 1) := by decide +kernel
theorem dX0_barePost_2 : decode cX0_barePost 2 = .ok (.iconst 0, 1) := by decide +kernel
theorem dX0_barePost_3 : decode cX0_barePost 3 = .ok (.istore_n 2, 1) := by decide +kernel
theorem dX0_barePost_4 : decode cX0_barePost 4 = .ok (.iconst 0, 1) := by decide +kernel
theorem dX0_barePost_5 : decode cX0_barePost 5 = .ok (.istore_n 3, 1) := by decide +kernel
theorem dX0_barePost_6 : decode cX0_barePost 6 = .ok (.iload_n 3, 1) := by decide +kernel
theorem dX0_barePost_7 : decode cX0_barePost 7 = .ok (.aload_n 0, 1) := by decide +kernel
theorem dX0_barePost_8 : decode cX0_barePost 8 = .ok (.getfield 55, 3) := by decide +kernel
theorem dX0_barePost_11 : decode cX0_barePost 11 = .ok (.if_icmp .ge 62, 3) := by decide +kernel
theorem dX0_barePost_14 : decode cX0_barePost 14 = .ok (.iload_n 1, 1) := by decide +kernel
theorem dX0_barePost_15 : decode cX0_barePost 15 = .ok (.iconst 1, 1) := by decide +kernel
theorem dX0_barePost_16 : decode cX0_barePost 16 = .ok (.aload_n 0, 1) := by decide +kernel
theorem dX0_barePost_17 : decode cX0_barePost 17 = .ok (.getfield 11, 3) := by decide +kernel
theorem dX0_barePost_20 : decode cX0_barePost 20 = .ok (.iload_n 3, 1) := by decide +kernel
theorem dX0_barePost_21 : decode cX0_barePost 21 = .ok (.aaload, 1) := by decide +kernel
theorem dX0_barePost_22 : decode cX0_barePost 22 = .ok (.getfield 66, 3) := by decide +kernel
theorem dX0_barePost_25 : decode cX0_barePost 25 = .ok (.ishl, 1) := by decide +kernel
theorem dX0_barePost_26 : decode cX0_barePost 26 = .ok (.ior, 1) := by decide +kernel
theorem dX0_barePost_27 : decode cX0_barePost 27 = .ok (.istore_n 1, 1) := by decide +kernel
theorem dX0_barePost_28 : decode cX0_barePost 28 = .ok (.aload_n 0, 1) := by decide +kernel
theorem dX0_barePost_29 : decode cX0_barePost 29 = .ok (.getfield 11, 3) := by decide +kernel
theorem dX0_barePost_32 : decode cX0_barePost 32 = .ok (.iload_n 3, 1) := by decide +kernel
theorem dX0_barePost_33 : decode cX0_barePost 33 = .ok (.aaload, 1) := by decide +kernel
theorem dX0_barePost_34 : decode cX0_barePost 34 = .ok (.getfield 75, 3) := by decide +kernel
theorem dX0_barePost_37 : decode cX0_barePost 37 = .ok (.ifCond .eq 16, 3) := by decide +kernel
theorem dX0_barePost_40 : decode cX0_barePost 40 = .ok (.aload_n 0, 1) := by decide +kernel
theorem dX0_barePost_41 : decode cX0_barePost 41 = .ok (.getfield 11, 3) := by decide +kernel
theorem dX0_barePost_44 : decode cX0_barePost 44 = .ok (.iload_n 3, 1) := by decide +kernel
theorem dX0_barePost_45 : decode cX0_barePost 45 = .ok (.aaload, 1) := by decide +kernel
theorem dX0_barePost_46 : decode cX0_barePost 46 = .ok (.getfield 75, 3) := by decide +kernel
theorem dX0_barePost_49 : decode cX0_barePost 49 = .ok (.iconst 3, 1) := by decide +kernel
theorem dX0_barePost_50 : decode cX0_barePost 50 = .ok (.if_icmp .ne 17, 3) := by decide +kernel
theorem dX0_barePost_53 : decode cX0_barePost 53 = .ok (.iload_n 2, 1) := by decide +kernel
theorem dX0_barePost_54 : decode cX0_barePost 54 = .ok (.iconst 1, 1) := by decide +kernel
theorem dX0_barePost_55 : decode cX0_barePost 55 = .ok (.aload_n 0, 1) := by decide +kernel
theorem dX0_barePost_56 : decode cX0_barePost 56 = .ok (.getfield 11, 3) := by decide +kernel
theorem dX0_barePost_59 : decode cX0_barePost 59 = .ok (.iload_n 3, 1) := by decide +kernel
theorem dX0_barePost_60 : decode cX0_barePost 60 = .ok (.aaload, 1) := by decide +kernel
theorem dX0_barePost_61 : decode cX0_barePost 61 = .ok (.getfield 69, 3) := by decide +kernel
theorem dX0_barePost_64 : decode cX0_barePost 64 = .ok (.ishl, 1) := by decide +kernel
theorem dX0_barePost_65 : decode cX0_barePost 65 = .ok (.ior, 1) := by decide +kernel
theorem dX0_barePost_66 : decode cX0_barePost 66 = .ok (.istore_n 2, 1) := by decide +kernel
theorem dX0_barePost_67 : decode cX0_barePost 67 = .ok (.iinc 3 1, 3) := by decide +kernel
theorem dX0_barePost_70 : decode cX0_barePost 70 = .ok (.goto (-64), 3) := by decide +kernel
theorem dX0_barePost_73 : decode cX0_barePost 73 = .ok (.iload_n 1, 1) := by decide +kernel
theorem dX0_barePost_74 : decode cX0_barePost 74 = .ok (.iload_n 2, 1) := by decide +kernel
theorem dX0_barePost_75 : decode cX0_barePost 75 = .ok (.iconst (-1), 1) := by decide +kernel
theorem dX0_barePost_76 : decode cX0_barePost 76 = .ok (.ixor, 1) := by decide +kernel
theorem dX0_barePost_77 : decode cX0_barePost 77 = .ok (.iand, 1) := by decide +kernel
theorem dX0_barePost_78 : decode cX0_barePost 78 = .ok (.istore_n 3, 1) := by decide +kernel
theorem dX0_barePost_79 : decode cX0_barePost 79 = .ok (.iload_n 3, 1) := by decide +kernel
theorem dX0_barePost_80 : decode cX0_barePost 80 = .ok (.ifCond .ne 7, 3) := by decide +kernel
theorem dX0_barePost_83 : decode cX0_barePost 83 = .ok (.iconst (-1), 1) := by decide +kernel
theorem dX0_barePost_84 : decode cX0_barePost 84 = .ok (.goto 7, 3) := by decide +kernel
theorem dX0_barePost_87 : decode cX0_barePost 87 = .ok (.iload_n 3, 1) := by decide +kernel
theorem dX0_barePost_88 : decode cX0_barePost 88 = .ok (.invokestatic 212, 3) := by decide +kernel
theorem dX0_barePost_91 : decode cX0_barePost 91 = .ok (.ireturn, 1) := by decide +kernel
theorem okX0_barePost : ab_okM MX0_barePost 0 := ⟨by decide, ⟨by decide, by decide⟩, ab_in 1134 (by decide +kernel) (by decide +kernel), ab_in 92 (by decide +kernel) (by decide +kernel), by decide +kernel, by decide⟩
set_option maxHeartbeats 4000000 in
set_option maxRecDepth 100000 in
def wX0_barePost_53 (v1 : Int32) (v2 : Int32) (v3 : Int32) (x : ab_X) (K : Int32 → Prop) (L6 : Int32 → Int32 → Int32 → Prop) : Prop := (vp_in v3 16 ∧ L6 v1 (v2 ||| (1 <<< ((x.1 (82 + Int32.toNatClampNeg v3) 9) &&& 31))) (v3 + 1))
set_option maxHeartbeats 4000000 in
set_option maxRecDepth 100000 in
theorem sX0_barePost_53 (v1 : Int32) (v2 : Int32) (v3 : Int32)  (x : ab_X) (K : Int32 → Prop) (L6 : Int32 → Int32 → Int32 → Prop) (d bc bs : Nat) (hdp : 1 ≤ d) (hL6 : ∀ (v1 : Int32) (v2 : Int32) (v3 : Int32), L6 v1 v2 v3 → EW MX0_barePost 6 [(0, .ref 66), (1, .int v1), (2, .int v2), (3, .int v3)] [] (aS x) d bc bs (liP x K)) (h : wX0_barePost_53 v1 v2 v3 x K L6) : EW MX0_barePost 53 [(0, .ref 66), (1, .int v1), (2, .int v2), (3, .int v3)] [] (aS x) d bc bs (liP x K) := by
  unfold wX0_barePost_53 at h
  refine EW_iload_n (pc2 := 54) rfl dX0_barePost_53 2 rfl ?_
  refine EW_iconst (pc2 := 55) (v := 1) rfl dX0_barePost_54 (by decide) ?_
  refine EW_aload_n (pc2 := 56) rfl dX0_barePost_55 0 rfl ?_
  refine AW_getr (r := 67) ⟨gfRX0_11, rfl⟩ (pc2 := 59) rfl dX0_barePost_56 q66 rfl ?_
  refine EW_iload_n (pc2 := 60) rfl dX0_barePost_59 3 rfl ?_
  obtain ⟨b5, h⟩ := h
  refine AW_aald6 (pc2 := 61) rfl dX0_barePost_60 b5 ?_
  refine AW_geti ⟨gfRX0_69, rfl⟩ (pc2 := 64) rfl dX0_barePost_61 (isW.o (isW_of b5)) ?_
  refine EW_ishl (pc2 := 65) rfl dX0_barePost_64 ?_
  refine EW_ior (pc2 := 66) rfl dX0_barePost_65 ?_
  refine EW_istore_n (pc2 := 67) rfl dX0_barePost_66 (by decide) [1, 2, 0, 3] [(0, .ref 66), (1, .int v1), (2, .int (v2 ||| (1 <<< ((x.1 (82 + Int32.toNatClampNeg v3) 9) &&& 31)))), (3, .int v3)] rfl ?_
  refine EW_iinc (v3 + 1) (pc2 := 70) rfl dX0_barePost_67 3 rfl rfl (by decide) [1, 2, 3, 0] [(0, .ref 66), (1, .int v1), (2, .int (v2 ||| (1 <<< ((x.1 (82 + Int32.toNatClampNeg v3) 9) &&& 31)))), (3, .int (v3 + 1))] rfl ?_
  refine EW_goto (tgt := 6) dX0_barePost_70 (by decide) ?_
  exact hL6 v1 (v2 ||| (1 <<< ((x.1 (82 + Int32.toNatClampNeg v3) 9) &&& 31))) (v3 + 1) h
set_option maxHeartbeats 4000000 in
set_option maxRecDepth 100000 in
def lX0_barePost_6  (x : ab_X) (K : Int32 → Prop)  (L6 : Int32 → Int32 → Int32 → Prop) (v1 : Int32) (v2 : Int32) (v3 : Int32) : Prop := (((x.1 66 3) ≤ v3 → ((¬ (v1 &&& (v2 ^^^ (-1))) = 0 → wJ6_numberOfTrailingZeros_0f7a4 (v1 &&& (v2 ^^^ (-1))) x (fun r1 => K r1)) ∧ ((v1 &&& (v2 ^^^ (-1))) = 0 → K (-1)))) ∧ (¬ (x.1 66 3) ≤ v3 → (vp_in v3 16 ∧ vp_in v3 16 ∧ (((x.1 (82 + Int32.toNatClampNeg v3) 8) = 0 → wX0_barePost_53 (v1 ||| (1 <<< ((x.1 (82 + Int32.toNatClampNeg v3) 1) &&& 31))) v2 v3 x K L6) ∧ (¬ (x.1 (82 + Int32.toNatClampNeg v3) 8) = 0 → (vp_in v3 16 ∧ ((¬ (x.1 (82 + Int32.toNatClampNeg v3) 8) = 3 → L6 (v1 ||| (1 <<< ((x.1 (82 + Int32.toNatClampNeg v3) 1) &&& 31))) v2 (v3 + 1)) ∧ ((x.1 (82 + Int32.toNatClampNeg v3) 8) = 3 → wX0_barePost_53 (v1 ||| (1 <<< ((x.1 (82 + Int32.toNatClampNeg v3) 1) &&& 31))) v2 v3 x K L6))))))))
set_option maxHeartbeats 4000000 in
set_option maxRecDepth 100000 in
theorem sX0_barePost_6 (v1 : Int32) (v2 : Int32) (v3 : Int32)  (x : ab_X) (K : Int32 → Prop)  (d bc bs : Nat) (hdp : 1 ≤ d)  (h : Lp3 (lX0_barePost_6  x K ) v1 v2 v3) : EW MX0_barePost 6 [(0, .ref 66), (1, .int v1), (2, .int v2), (3, .int v3)] [] (aS x) d bc bs (liP x K) := by
  refine Lp3.use (P := fun v1 v2 v3 => EW MX0_barePost 6 [(0, .ref 66), (1, .int v1), (2, .int v2), (3, .int v3)] [] (aS x) d bc bs (liP x K)) (fun L6 v1 v2 v3 hL6 h => ?_) v1 v2 v3 h
  unfold lX0_barePost_6 at h
  refine EW_iload_n (pc2 := 7) rfl dX0_barePost_6 3 rfl ?_
  refine EW_aload_n (pc2 := 8) rfl dX0_barePost_7 0 rfl ?_
  refine AW_geti ⟨gfRX0_55, rfl⟩ (pc2 := 11) rfl dX0_barePost_8 q66 ?_
  refine EW_icmp_ge (tgt := 73) (pc2 := 14) rfl dX0_barePost_11 (by decide) (fun q => ?_) (fun q => ?_)
  · replace h := h.1 q
    refine EW_iload_n (pc2 := 74) rfl dX0_barePost_73 1 rfl ?_
    refine EW_iload_n (pc2 := 75) rfl dX0_barePost_74 2 rfl ?_
    refine EW_iconst (pc2 := 76) (v := (-1)) rfl dX0_barePost_75 (by decide) ?_
    refine EW_ixor (pc2 := 77) rfl dX0_barePost_76 ?_
    refine EW_iand (pc2 := 78) rfl dX0_barePost_77 ?_
    refine EW_istore_n (pc2 := 79) rfl dX0_barePost_78 (by decide) [1, 2, 3, 0] [(0, .ref 66), (1, .int v1), (2, .int v2), (3, .int (v1 &&& (v2 ^^^ (-1))))] rfl ?_
    refine EW_iload_n (pc2 := 80) rfl dX0_barePost_79 3 rfl ?_
    refine EW_if_ne (tgt := 87) (pc2 := 83) rfl dX0_barePost_80 (by decide) (fun q => ?_) (fun q => ?_)
    · replace h := h.1 q
      refine EW_iload_n (pc2 := 88) rfl dX0_barePost_87 3 rfl ?_
      refine AW_invS (M' := MJ6_numberOfTrailingZeros_0f7a4) [.int (v1 &&& (v2 ^^^ (-1)))] (rest := []) mlRX0_212 okJ6_numberOfTrailingZeros_0f7a4 (pc2 := 91) rfl dX0_barePost_88 rfl rfl (Nat.le_of_ble_eq_true rfl) (Nat.le_of_ble_eq_true rfl) (d' := 0) (by omega) (EW_mono (fun _ _ hr => ?_) (sJ6_numberOfTrailingZeros_0f7a4 (v1 &&& (v2 ^^^ (-1)))  x _ _ 0 0 (Nat.le_refl _) h))
      obtain ⟨r1, rfl, rfl, h⟩ := hr
      exact AW_iret rfl dX0_barePost_91 ⟨_, rfl, rfl, h⟩
    · replace h := h.2 q
      refine EW_iconst (pc2 := 84) (v := (-1)) rfl dX0_barePost_83 (by decide) ?_
      refine EW_goto (tgt := 91) dX0_barePost_84 (by decide) ?_
      exact AW_iret rfl dX0_barePost_91 ⟨_, rfl, rfl, h⟩
  · replace h := h.2 q
    refine EW_iload_n (pc2 := 15) rfl dX0_barePost_14 1 rfl ?_
    refine EW_iconst (pc2 := 16) (v := 1) rfl dX0_barePost_15 (by decide) ?_
    refine EW_aload_n (pc2 := 17) rfl dX0_barePost_16 0 rfl ?_
    refine AW_getr (r := 67) ⟨gfRX0_11, rfl⟩ (pc2 := 20) rfl dX0_barePost_17 q66 rfl ?_
    refine EW_iload_n (pc2 := 21) rfl dX0_barePost_20 3 rfl ?_
    obtain ⟨b2, h⟩ := h
    refine AW_aald6 (pc2 := 22) rfl dX0_barePost_21 b2 ?_
    refine AW_geti ⟨gfRX0_66, rfl⟩ (pc2 := 25) rfl dX0_barePost_22 (isW.o (isW_of b2)) ?_
    refine EW_ishl (pc2 := 26) rfl dX0_barePost_25 ?_
    refine EW_ior (pc2 := 27) rfl dX0_barePost_26 ?_
    refine EW_istore_n (pc2 := 28) rfl dX0_barePost_27 (by decide) [1, 0, 2, 3] [(0, .ref 66), (1, .int (v1 ||| (1 <<< ((x.1 (82 + Int32.toNatClampNeg v3) 1) &&& 31)))), (2, .int v2), (3, .int v3)] rfl ?_
    refine EW_aload_n (pc2 := 29) rfl dX0_barePost_28 0 rfl ?_
    refine AW_getr (r := 67) ⟨gfRX0_11, rfl⟩ (pc2 := 32) rfl dX0_barePost_29 q66 rfl ?_
    refine EW_iload_n (pc2 := 33) rfl dX0_barePost_32 3 rfl ?_
    obtain ⟨b3, h⟩ := h
    refine AW_aald6 (pc2 := 34) rfl dX0_barePost_33 b3 ?_
    refine AW_geti ⟨gfRX0_75, rfl⟩ (pc2 := 37) rfl dX0_barePost_34 (isW.o (isW_of b3)) ?_
    refine EW_if_eq (tgt := 53) (pc2 := 40) rfl dX0_barePost_37 (by decide) (fun q => ?_) (fun q => ?_)
    · replace h := h.1 q
      exact sX0_barePost_53 (v1 ||| (1 <<< ((x.1 (82 + Int32.toNatClampNeg v3) 1) &&& 31))) v2 v3 x K L6 d bc bs hdp hL6 h
    · replace h := h.2 q
      refine EW_aload_n (pc2 := 41) rfl dX0_barePost_40 0 rfl ?_
      refine AW_getr (r := 67) ⟨gfRX0_11, rfl⟩ (pc2 := 44) rfl dX0_barePost_41 q66 rfl ?_
      refine EW_iload_n (pc2 := 45) rfl dX0_barePost_44 3 rfl ?_
      obtain ⟨b4, h⟩ := h
      refine AW_aald6 (pc2 := 46) rfl dX0_barePost_45 b4 ?_
      refine AW_geti ⟨gfRX0_75, rfl⟩ (pc2 := 49) rfl dX0_barePost_46 (isW.o (isW_of b4)) ?_
      refine EW_iconst (pc2 := 50) (v := 3) rfl dX0_barePost_49 (by decide) ?_
      refine EW_icmp_ne (tgt := 67) (pc2 := 53) rfl dX0_barePost_50 (by decide) (fun q => ?_) (fun q => ?_)
      · replace h := h.1 q
        refine EW_iinc (v3 + 1) (pc2 := 70) rfl dX0_barePost_67 3 rfl rfl (by decide) [1, 2, 3, 0] [(0, .ref 66), (1, .int (v1 ||| (1 <<< ((x.1 (82 + Int32.toNatClampNeg v3) 1) &&& 31)))), (2, .int v2), (3, .int (v3 + 1))] rfl ?_
        refine EW_goto (tgt := 6) dX0_barePost_70 (by decide) ?_
        exact hL6 (v1 ||| (1 <<< ((x.1 (82 + Int32.toNatClampNeg v3) 1) &&& 31))) v2 (v3 + 1) h
      · replace h := h.2 q
        exact sX0_barePost_53 (v1 ||| (1 <<< ((x.1 (82 + Int32.toNatClampNeg v3) 1) &&& 31))) v2 v3 x K L6 d bc bs hdp hL6 h
set_option maxHeartbeats 4000000 in
set_option maxRecDepth 100000 in
def wX0_barePost  (x : ab_X) (K : Int32 → Prop) : Prop := Lp3 (lX0_barePost_6 x K ) 0 0 0
set_option maxHeartbeats 4000000 in
set_option maxRecDepth 100000 in
theorem sX0_barePost   (x : ab_X) (K : Int32 → Prop) (d bc bs : Nat) (hdp : 1 ≤ d) (h : wX0_barePost  x K) : EW MX0_barePost 0 [(0, .ref 66)] [] (aS x) d bc bs (liP x K) := by
  unfold wX0_barePost at h
  refine EW_iconst (pc2 := 1) (v := 0) rfl dX0_barePost_0 (by decide) ?_
  refine EW_istore_n (pc2 := 2) rfl dX0_barePost_1 (by decide) [1, 0] [(0, .ref 66), (1, .int 0)] rfl ?_
  refine EW_iconst (pc2 := 3) (v := 0) rfl dX0_barePost_2 (by decide) ?_
  refine EW_istore_n (pc2 := 4) rfl dX0_barePost_3 (by decide) [1, 2, 0] [(0, .ref 66), (1, .int 0), (2, .int 0)] rfl ?_
  refine EW_iconst (pc2 := 5) (v := 0) rfl dX0_barePost_4 (by decide) ?_
  refine EW_istore_n (pc2 := 6) rfl dX0_barePost_5 (by decide) [1, 2, 3, 0] [(0, .ref 66), (1, .int 0), (2, .int 0), (3, .int 0)] rfl ?_
  exact sX0_barePost_6 0 0 0 x K d bc bs hdp h
abbrev MX0_isSpare : ab_M := (yX0_isSpare, cX0_isSpare, 3, (some .boolean))
theorem dX0_isSpare_0 : decode cX0_isSpare 0 = .ok (.aload_n 0, 1) := by decide +kernel
theorem dX0_isSpare_1 : decode cX0_isSpare 1 = .ok (.getfield 11, 3) := by decide +kernel
theorem dX0_isSpare_4 : decode cX0_isSpare 4 = .ok (.iload_n 1, 1) := by decide +kernel
theorem dX0_isSpare_5 : decode cX0_isSpare 5 = .ok (.aaload, 1) := by decide +kernel
theorem dX0_isSpare_6 : decode cX0_isSpare 6 = .ok (.getfield 75, 3) := by decide +kernel
theorem dX0_isSpare_9 : decode cX0_isSpare 9 = .ok (.ifCond .eq 5, 3) := by decide +kernel
theorem dX0_isSpare_12 : decode cX0_isSpare 12 = .ok (.iconst 0, 1) := by decide +kernel
theorem dX0_isSpare_13 : decode cX0_isSpare 13 = .ok (.ireturn, 1) := by decide +kernel
theorem dX0_isSpare_14 : decode cX0_isSpare 14 = .ok (.iconst 0, 1) := by decide +kernel
theorem dX0_isSpare_15 : decode cX0_isSpare 15 = .ok (.istore_n 2, 1) := by decide +kernel
theorem dX0_isSpare_16 : decode cX0_isSpare 16 = .ok (.iload_n 2, 1) := by decide +kernel
theorem dX0_isSpare_17 : decode cX0_isSpare 17 = .ok (.aload_n 0, 1) := by decide +kernel
theorem dX0_isSpare_18 : decode cX0_isSpare 18 = .ok (.getfield 55, 3) := by decide +kernel
theorem dX0_isSpare_21 : decode cX0_isSpare 21 = .ok (.if_icmp .ge 49, 3) := by decide +kernel
theorem dX0_isSpare_24 : decode cX0_isSpare 24 = .ok (.iload_n 2, 1) := by decide +kernel
theorem dX0_isSpare_25 : decode cX0_isSpare 25 = .ok (.iload_n 1, 1) := by decide +kernel
theorem dX0_isSpare_26 : decode cX0_isSpare 26 = .ok (.if_icmp .eq 38, 3) := by decide +kernel
theorem dX0_isSpare_29 : decode cX0_isSpare 29 = .ok (.aload_n 0, 1) := by decide +kernel
theorem dX0_isSpare_30 : decode cX0_isSpare 30 = .ok (.getfield 11, 3) := by decide +kernel
theorem dX0_isSpare_33 : decode cX0_isSpare 33 = .ok (.iload_n 2, 1) := by decide +kernel
theorem dX0_isSpare_34 : decode cX0_isSpare 34 = .ok (.aaload, 1) := by decide +kernel
theorem dX0_isSpare_35 : decode cX0_isSpare 35 = .ok (.getfield 75, 3) := by decide +kernel
theorem dX0_isSpare_38 : decode cX0_isSpare 38 = .ok (.ifCond .ne 26, 3) := by decide +kernel
theorem dX0_isSpare_41 : decode cX0_isSpare 41 = .ok (.aload_n 0, 1) := by decide +kernel
theorem dX0_isSpare_42 : decode cX0_isSpare 42 = .ok (.getfield 11, 3) := by decide +kernel
theorem dX0_isSpare_45 : decode cX0_isSpare 45 = .ok (.iload_n 2, 1) := by decide +kernel
theorem dX0_isSpare_46 : decode cX0_isSpare 46 = .ok (.aaload, 1) := by decide +kernel
theorem dX0_isSpare_47 : decode cX0_isSpare 47 = .ok (.getfield 69, 3) := by decide +kernel
theorem dX0_isSpare_50 : decode cX0_isSpare 50 = .ok (.aload_n 0, 1) := by decide +kernel
theorem dX0_isSpare_51 : decode cX0_isSpare 51 = .ok (.getfield 11, 3) := by decide +kernel
theorem dX0_isSpare_54 : decode cX0_isSpare 54 = .ok (.iload_n 1, 1) := by decide +kernel
theorem dX0_isSpare_55 : decode cX0_isSpare 55 = .ok (.aaload, 1) := by decide +kernel
theorem dX0_isSpare_56 : decode cX0_isSpare 56 = .ok (.getfield 69, 3) := by decide +kernel
theorem dX0_isSpare_59 : decode cX0_isSpare 59 = .ok (.if_icmp .ne 5, 3) := by decide +kernel
theorem dX0_isSpare_62 : decode cX0_isSpare 62 = .ok (.iconst 1, 1) := by decide +kernel
theorem dX0_isSpare_63 : decode cX0_isSpare 63 = .ok (.ireturn, 1) := by decide +kernel
theorem dX0_isSpare_64 : decode cX0_isSpare 64 = .ok (.iinc 2 1, 3) := by decide +kernel
theorem dX0_isSpare_67 : decode cX0_isSpare 67 = .ok (.goto (-51), 3) := by decide +kernel
theorem dX0_isSpare_70 : decode cX0_isSpare 70 = .ok (.iconst 0, 1) := by decide +kernel
theorem dX0_isSpare_71 : decode cX0_isSpare 71 = .ok (.ireturn, 1) := by decide +kernel
theorem okX0_isSpare : ab_okM MX0_isSpare 1 := ⟨by decide, ⟨by decide, by decide⟩, ab_in 1142 (by decide +kernel) (by decide +kernel), ab_in 92 (by decide +kernel) (by decide +kernel), by decide +kernel, by decide⟩
set_option maxHeartbeats 4000000 in
set_option maxRecDepth 100000 in
def lX0_isSpare_16 (v1 : Int32) (x : ab_X) (K : Int32 → Prop)  (L16 : Int32 → Prop) (v2 : Int32) : Prop := (((x.1 66 3) ≤ v2 → K 0) ∧ (¬ (x.1 66 3) ≤ v2 → ((v2 = v1 → L16 (v2 + 1)) ∧ (¬ v2 = v1 → (vp_in v2 16 ∧ ((¬ (x.1 (82 + Int32.toNatClampNeg v2) 8) = 0 → L16 (v2 + 1)) ∧ ((x.1 (82 + Int32.toNatClampNeg v2) 8) = 0 → (vp_in v2 16 ∧ vp_in v1 16 ∧ ((¬ (x.1 (82 + Int32.toNatClampNeg v2) 9) = (x.1 (82 + Int32.toNatClampNeg v1) 9) → L16 (v2 + 1)) ∧ ((x.1 (82 + Int32.toNatClampNeg v2) 9) = (x.1 (82 + Int32.toNatClampNeg v1) 9) → K 1))))))))))
set_option maxHeartbeats 4000000 in
set_option maxRecDepth 100000 in
theorem sX0_isSpare_16 (v1 : Int32) (v2 : Int32)  (x : ab_X) (K : Int32 → Prop)  (d bc bs : Nat) (hdp : 0 ≤ d)  (h : Lp1 (lX0_isSpare_16 v1 x K ) v2) : EW MX0_isSpare 16 [(0, .ref 66), (1, .int v1), (2, .int v2)] [] (aS x) d bc bs (liP x K) := by
  refine Lp1.use (P := fun v2 => EW MX0_isSpare 16 [(0, .ref 66), (1, .int v1), (2, .int v2)] [] (aS x) d bc bs (liP x K)) (fun L16 v2 hL16 h => ?_) v2 h
  unfold lX0_isSpare_16 at h
  refine EW_iload_n (pc2 := 17) rfl dX0_isSpare_16 2 rfl ?_
  refine EW_aload_n (pc2 := 18) rfl dX0_isSpare_17 0 rfl ?_
  refine AW_geti ⟨gfRX0_55, rfl⟩ (pc2 := 21) rfl dX0_isSpare_18 q66 ?_
  refine EW_icmp_ge (tgt := 70) (pc2 := 24) rfl dX0_isSpare_21 (by decide) (fun q => ?_) (fun q => ?_)
  · replace h := h.1 q
    refine EW_iconst (pc2 := 71) (v := 0) rfl dX0_isSpare_70 (by decide) ?_
    exact AW_zret rfl isB0 dX0_isSpare_71 ⟨_, rfl, rfl, h⟩
  · replace h := h.2 q
    refine EW_iload_n (pc2 := 25) rfl dX0_isSpare_24 2 rfl ?_
    refine EW_iload_n (pc2 := 26) rfl dX0_isSpare_25 1 rfl ?_
    refine EW_icmp_eq (tgt := 64) (pc2 := 29) rfl dX0_isSpare_26 (by decide) (fun q => ?_) (fun q => ?_)
    · replace h := h.1 q
      refine EW_iinc (v2 + 1) (pc2 := 67) rfl dX0_isSpare_64 2 rfl rfl (by decide) [1, 2, 0] [(0, .ref 66), (1, .int v1), (2, .int (v2 + 1))] rfl ?_
      refine EW_goto (tgt := 16) dX0_isSpare_67 (by decide) ?_
      exact hL16 (v2 + 1) h
    · replace h := h.2 q
      refine EW_aload_n (pc2 := 30) rfl dX0_isSpare_29 0 rfl ?_
      refine AW_getr (r := 67) ⟨gfRX0_11, rfl⟩ (pc2 := 33) rfl dX0_isSpare_30 q66 rfl ?_
      refine EW_iload_n (pc2 := 34) rfl dX0_isSpare_33 2 rfl ?_
      obtain ⟨b2, h⟩ := h
      refine AW_aald6 (pc2 := 35) rfl dX0_isSpare_34 b2 ?_
      refine AW_geti ⟨gfRX0_75, rfl⟩ (pc2 := 38) rfl dX0_isSpare_35 (isW.o (isW_of b2)) ?_
      refine EW_if_ne (tgt := 64) (pc2 := 41) rfl dX0_isSpare_38 (by decide) (fun q => ?_) (fun q => ?_)
      · replace h := h.1 q
        refine EW_iinc (v2 + 1) (pc2 := 67) rfl dX0_isSpare_64 2 rfl rfl (by decide) [1, 2, 0] [(0, .ref 66), (1, .int v1), (2, .int (v2 + 1))] rfl ?_
        refine EW_goto (tgt := 16) dX0_isSpare_67 (by decide) ?_
        exact hL16 (v2 + 1) h
      · replace h := h.2 q
        refine EW_aload_n (pc2 := 42) rfl dX0_isSpare_41 0 rfl ?_
        refine AW_getr (r := 67) ⟨gfRX0_11, rfl⟩ (pc2 := 45) rfl dX0_isSpare_42 q66 rfl ?_
        refine EW_iload_n (pc2 := 46) rfl dX0_isSpare_45 2 rfl ?_
        obtain ⟨b3, h⟩ := h
        refine AW_aald6 (pc2 := 47) rfl dX0_isSpare_46 b3 ?_
        refine AW_geti ⟨gfRX0_69, rfl⟩ (pc2 := 50) rfl dX0_isSpare_47 (isW.o (isW_of b3)) ?_
        refine EW_aload_n (pc2 := 51) rfl dX0_isSpare_50 0 rfl ?_
        refine AW_getr (r := 67) ⟨gfRX0_11, rfl⟩ (pc2 := 54) rfl dX0_isSpare_51 q66 rfl ?_
        refine EW_iload_n (pc2 := 55) rfl dX0_isSpare_54 1 rfl ?_
        obtain ⟨b4, h⟩ := h
        refine AW_aald6 (pc2 := 56) rfl dX0_isSpare_55 b4 ?_
        refine AW_geti ⟨gfRX0_69, rfl⟩ (pc2 := 59) rfl dX0_isSpare_56 (isW.o (isW_of b4)) ?_
        refine EW_icmp_ne (tgt := 64) (pc2 := 62) rfl dX0_isSpare_59 (by decide) (fun q => ?_) (fun q => ?_)
        · replace h := h.1 q
          refine EW_iinc (v2 + 1) (pc2 := 67) rfl dX0_isSpare_64 2 rfl rfl (by decide) [1, 2, 0] [(0, .ref 66), (1, .int v1), (2, .int (v2 + 1))] rfl ?_
          refine EW_goto (tgt := 16) dX0_isSpare_67 (by decide) ?_
          exact hL16 (v2 + 1) h
        · replace h := h.2 q
          refine EW_iconst (pc2 := 63) (v := 1) rfl dX0_isSpare_62 (by decide) ?_
          exact AW_zret rfl isB1 dX0_isSpare_63 ⟨_, rfl, rfl, h⟩
set_option maxHeartbeats 4000000 in
set_option maxRecDepth 100000 in
def wX0_isSpare (v1 : Int32) (x : ab_X) (K : Int32 → Prop) : Prop := (vp_in v1 16 ∧ (((x.1 (82 + Int32.toNatClampNeg v1) 8) = 0 → Lp1 (lX0_isSpare_16 v1 x K ) 0) ∧ (¬ (x.1 (82 + Int32.toNatClampNeg v1) 8) = 0 → K 0)))
set_option maxHeartbeats 4000000 in
set_option maxRecDepth 100000 in
theorem sX0_isSpare (v1 : Int32)  (x : ab_X) (K : Int32 → Prop) (d bc bs : Nat) (hdp : 0 ≤ d) (h : wX0_isSpare v1 x K) : EW MX0_isSpare 0 [(0, .ref 66), (1, .int v1)] [] (aS x) d bc bs (liP x K) := by
  unfold wX0_isSpare at h
  refine EW_aload_n (pc2 := 1) rfl dX0_isSpare_0 0 rfl ?_
  refine AW_getr (r := 67) ⟨gfRX0_11, rfl⟩ (pc2 := 4) rfl dX0_isSpare_1 q66 rfl ?_
  refine EW_iload_n (pc2 := 5) rfl dX0_isSpare_4 1 rfl ?_
  obtain ⟨b1, h⟩ := h
  refine AW_aald6 (pc2 := 6) rfl dX0_isSpare_5 b1 ?_
  refine AW_geti ⟨gfRX0_75, rfl⟩ (pc2 := 9) rfl dX0_isSpare_6 (isW.o (isW_of b1)) ?_
  refine EW_if_eq (tgt := 14) (pc2 := 12) rfl dX0_isSpare_9 (by decide) (fun q => ?_) (fun q => ?_)
  · replace h := h.1 q
    refine EW_iconst (pc2 := 15) (v := 0) rfl dX0_isSpare_14 (by decide) ?_
    refine EW_istore_n (pc2 := 16) rfl dX0_isSpare_15 (by decide) [1, 2, 0] [(0, .ref 66), (1, .int v1), (2, .int 0)] rfl ?_
    exact sX0_isSpare_16 v1 0 x K d bc bs hdp h
  · replace h := h.2 q
    refine EW_iconst (pc2 := 13) (v := 0) rfl dX0_isSpare_12 (by decide) ?_
    exact AW_zret rfl isB0 dX0_isSpare_13 ⟨_, rfl, rfl, h⟩
theorem gfRX0_39 : ab_L RX0 39 0 10 := ⟨by decide, by decide, ab_in 561 (by decide +kernel) (by decide +kernel)⟩
abbrev MX0_soonest : ab_M := (yX0_soonest, cX0_soonest, 3, (some .int))
theorem dX0_soonest_0 : decode cX0_soonest 0 = .ok (.iconst (-1), 1) := by decide +kernel
theorem dX0_soonest_1 : decode cX0_soonest 1 = .ok (.istore_n 1, 1) := by decide +kernel
theorem dX0_soonest_2 : decode cX0_soonest 2 = .ok (.iconst 0, 1) := by decide +kernel
theorem dX0_soonest_3 : decode cX0_soonest 3 = .ok (.istore_n 2, 1) := by decide +kernel
theorem dX0_soonest_4 : decode cX0_soonest 4 = .ok (.iload_n 2, 1) := by decide +kernel
theorem dX0_soonest_5 : decode cX0_soonest 5 = .ok (.aload_n 0, 1) := by decide +kernel
theorem dX0_soonest_6 : decode cX0_soonest 6 = .ok (.getfield 55, 3) := by decide +kernel
theorem dX0_soonest_9 : decode cX0_soonest 9 = .ok (.if_icmp .ge 41, 3) := by decide +kernel
theorem dX0_soonest_12 : decode cX0_soonest 12 = .ok (.aload_n 0, 1) := by decide +kernel
theorem dX0_soonest_13 : decode cX0_soonest 13 = .ok (.getfield 39, 3) := by decide +kernel
theorem dX0_soonest_16 : decode cX0_soonest 16 = .ok (.iload_n 2, 1) := by decide +kernel
theorem dX0_soonest_17 : decode cX0_soonest 17 = .ok (.iaload, 1) := by decide +kernel
theorem dX0_soonest_18 : decode cX0_soonest 18 = .ok (.iconst (-1), 1) := by decide +kernel
theorem dX0_soonest_19 : decode cX0_soonest 19 = .ok (.if_icmp .eq 25, 3) := by decide +kernel
theorem dX0_soonest_22 : decode cX0_soonest 22 = .ok (.iload_n 1, 1) := by decide +kernel
theorem dX0_soonest_23 : decode cX0_soonest 23 = .ok (.iconst (-1), 1) := by decide +kernel
theorem dX0_soonest_24 : decode cX0_soonest 24 = .ok (.if_icmp .eq 18, 3) := by decide +kernel
theorem dX0_soonest_27 : decode cX0_soonest 27 = .ok (.aload_n 0, 1) := by decide +kernel
theorem dX0_soonest_28 : decode cX0_soonest 28 = .ok (.getfield 39, 3) := by decide +kernel
theorem dX0_soonest_31 : decode cX0_soonest 31 = .ok (.iload_n 2, 1) := by decide +kernel
theorem dX0_soonest_32 : decode cX0_soonest 32 = .ok (.iaload, 1) := by decide +kernel
theorem dX0_soonest_33 : decode cX0_soonest 33 = .ok (.aload_n 0, 1) := by decide +kernel
theorem dX0_soonest_34 : decode cX0_soonest 34 = .ok (.getfield 39, 3) := by decide +kernel
theorem dX0_soonest_37 : decode cX0_soonest 37 = .ok (.iload_n 1, 1) := by decide +kernel
theorem dX0_soonest_38 : decode cX0_soonest 38 = .ok (.iaload, 1) := by decide +kernel
theorem dX0_soonest_39 : decode cX0_soonest 39 = .ok (.if_icmp .ge 5, 3) := by decide +kernel
theorem dX0_soonest_42 : decode cX0_soonest 42 = .ok (.iload_n 2, 1) := by decide +kernel
theorem dX0_soonest_43 : decode cX0_soonest 43 = .ok (.istore_n 1, 1) := by decide +kernel
theorem dX0_soonest_44 : decode cX0_soonest 44 = .ok (.iinc 2 1, 3) := by decide +kernel
theorem dX0_soonest_47 : decode cX0_soonest 47 = .ok (.goto (-43), 3) := by decide +kernel
theorem dX0_soonest_50 : decode cX0_soonest 50 = .ok (.iload_n 1, 1) := by decide +kernel
theorem dX0_soonest_51 : decode cX0_soonest 51 = .ok (.ireturn, 1) := by decide +kernel
theorem okX0_soonest : ab_okM MX0_soonest 0 := ⟨by decide, ⟨by decide, by decide⟩, ab_in 1126 (by decide +kernel) (by decide +kernel), ab_in 92 (by decide +kernel) (by decide +kernel), by decide +kernel, by decide⟩
set_option maxHeartbeats 4000000 in
set_option maxRecDepth 100000 in
def wX0_soonest_42 (v2 : Int32) (x : ab_X) (K : Int32 → Prop) (L4 : Int32 → Int32 → Prop) : Prop := L4 v2 (v2 + 1)
set_option maxHeartbeats 4000000 in
set_option maxRecDepth 100000 in
theorem sX0_soonest_42 (v2 : Int32)  (x : ab_X) (K : Int32 → Prop) (L4 : Int32 → Int32 → Prop) (d bc bs : Nat) (hdp : 0 ≤ d) (hL4 : ∀ (v1 : Int32) (v2 : Int32), L4 v1 v2 → EW MX0_soonest 4 [(0, .ref 66), (1, .int v1), (2, .int v2)] [] (aS x) d bc bs (liP x K)) (h : wX0_soonest_42 v2 x K L4) : EW MX0_soonest 42 [(0, .ref 66), (2, .int v2)] [] (aS x) d bc bs (liP x K) := by
  unfold wX0_soonest_42 at h
  refine EW_iload_n (pc2 := 43) rfl dX0_soonest_42 1 rfl ?_
  refine EW_istore_n (pc2 := 44) rfl dX0_soonest_43 (by decide) [1, 0, 2] [(0, .ref 66), (1, .int v2), (2, .int v2)] rfl ?_
  refine EW_iinc (v2 + 1) (pc2 := 47) rfl dX0_soonest_44 2 rfl rfl (by decide) [1, 2, 0] [(0, .ref 66), (1, .int v2), (2, .int (v2 + 1))] rfl ?_
  refine EW_goto (tgt := 4) dX0_soonest_47 (by decide) ?_
  exact hL4 v2 (v2 + 1) h
set_option maxHeartbeats 4000000 in
set_option maxRecDepth 100000 in
def lX0_soonest_4  (x : ab_X) (K : Int32 → Prop)  (L4 : Int32 → Int32 → Prop) (v1 : Int32) (v2 : Int32) : Prop := (((x.1 66 3) ≤ v2 → K v1) ∧ (¬ (x.1 66 3) ≤ v2 → (vp_in v2 16 ∧ (((x.1 80 (Int32.toNatClampNeg v2)) = (-1) → L4 v1 (v2 + 1)) ∧ (¬ (x.1 80 (Int32.toNatClampNeg v2)) = (-1) → ((v1 = (-1) → wX0_soonest_42 v2 x K L4) ∧ (¬ v1 = (-1) → (vp_in v2 16 ∧ vp_in v1 16 ∧ (((x.1 80 (Int32.toNatClampNeg v1)) ≤ (x.1 80 (Int32.toNatClampNeg v2)) → L4 v1 (v2 + 1)) ∧ (¬ (x.1 80 (Int32.toNatClampNeg v1)) ≤ (x.1 80 (Int32.toNatClampNeg v2)) → wX0_soonest_42 v2 x K L4))))))))))
set_option maxHeartbeats 4000000 in
set_option maxRecDepth 100000 in
theorem sX0_soonest_4 (v1 : Int32) (v2 : Int32)  (x : ab_X) (K : Int32 → Prop)  (d bc bs : Nat) (hdp : 0 ≤ d)  (h : Lp2 (lX0_soonest_4  x K ) v1 v2) : EW MX0_soonest 4 [(0, .ref 66), (1, .int v1), (2, .int v2)] [] (aS x) d bc bs (liP x K) := by
  refine Lp2.use (P := fun v1 v2 => EW MX0_soonest 4 [(0, .ref 66), (1, .int v1), (2, .int v2)] [] (aS x) d bc bs (liP x K)) (fun L4 v1 v2 hL4 h => ?_) v1 v2 h
  unfold lX0_soonest_4 at h
  refine EW_iload_n (pc2 := 5) rfl dX0_soonest_4 2 rfl ?_
  refine EW_aload_n (pc2 := 6) rfl dX0_soonest_5 0 rfl ?_
  refine AW_geti ⟨gfRX0_55, rfl⟩ (pc2 := 9) rfl dX0_soonest_6 q66 ?_
  refine EW_icmp_ge (tgt := 50) (pc2 := 12) rfl dX0_soonest_9 (by decide) (fun q => ?_) (fun q => ?_)
  · replace h := h.1 q
    refine EW_iload_n (pc2 := 51) rfl dX0_soonest_50 1 rfl ?_
    exact AW_iret rfl dX0_soonest_51 ⟨_, rfl, rfl, h⟩
  · replace h := h.2 q
    refine EW_aload_n (pc2 := 13) rfl dX0_soonest_12 0 rfl ?_
    refine AW_getr (r := 80) ⟨gfRX0_39, rfl⟩ (pc2 := 16) rfl dX0_soonest_13 q66 rfl ?_
    refine EW_iload_n (pc2 := 17) rfl dX0_soonest_16 2 rfl ?_
    obtain ⟨b1, h⟩ := h
    refine AW_iald (pc2 := 18) rfl dX0_soonest_17 q80 b1 ?_
    refine EW_iconst (pc2 := 19) (v := (-1)) rfl dX0_soonest_18 (by decide) ?_
    refine EW_icmp_eq (tgt := 44) (pc2 := 22) rfl dX0_soonest_19 (by decide) (fun q => ?_) (fun q => ?_)
    · replace h := h.1 q
      refine EW_iinc (v2 + 1) (pc2 := 47) rfl dX0_soonest_44 2 rfl rfl (by decide) [1, 2, 0] [(0, .ref 66), (1, .int v1), (2, .int (v2 + 1))] rfl ?_
      refine EW_goto (tgt := 4) dX0_soonest_47 (by decide) ?_
      exact hL4 v1 (v2 + 1) h
    · replace h := h.2 q
      refine EW_iload_n (pc2 := 23) rfl dX0_soonest_22 1 rfl ?_
      refine EW_iconst (pc2 := 24) (v := (-1)) rfl dX0_soonest_23 (by decide) ?_
      refine EW_icmp_eq (tgt := 42) (pc2 := 27) rfl dX0_soonest_24 (by decide) (fun q => ?_) (fun q => ?_)
      · replace h := h.1 q
        refine EW_ls [0, 2] rfl ?_
        exact sX0_soonest_42 v2 x K L4 d bc bs hdp hL4 h
      · replace h := h.2 q
        refine EW_aload_n (pc2 := 28) rfl dX0_soonest_27 0 rfl ?_
        refine AW_getr (r := 80) ⟨gfRX0_39, rfl⟩ (pc2 := 31) rfl dX0_soonest_28 q66 rfl ?_
        refine EW_iload_n (pc2 := 32) rfl dX0_soonest_31 2 rfl ?_
        obtain ⟨b2, h⟩ := h
        refine AW_iald (pc2 := 33) rfl dX0_soonest_32 q80 b2 ?_
        refine EW_aload_n (pc2 := 34) rfl dX0_soonest_33 0 rfl ?_
        refine AW_getr (r := 80) ⟨gfRX0_39, rfl⟩ (pc2 := 37) rfl dX0_soonest_34 q66 rfl ?_
        refine EW_iload_n (pc2 := 38) rfl dX0_soonest_37 1 rfl ?_
        obtain ⟨b3, h⟩ := h
        refine AW_iald (pc2 := 39) rfl dX0_soonest_38 q80 b3 ?_
        refine EW_icmp_ge (tgt := 44) (pc2 := 42) rfl dX0_soonest_39 (by decide) (fun q => ?_) (fun q => ?_)
        · replace h := h.1 q
          refine EW_iinc (v2 + 1) (pc2 := 47) rfl dX0_soonest_44 2 rfl rfl (by decide) [1, 2, 0] [(0, .ref 66), (1, .int v1), (2, .int (v2 + 1))] rfl ?_
          refine EW_goto (tgt := 4) dX0_soonest_47 (by decide) ?_
          exact hL4 v1 (v2 + 1) h
        · replace h := h.2 q
          refine EW_ls [0, 2] rfl ?_
          exact sX0_soonest_42 v2 x K L4 d bc bs hdp hL4 h
set_option maxHeartbeats 4000000 in
set_option maxRecDepth 100000 in
def wX0_soonest  (x : ab_X) (K : Int32 → Prop) : Prop := Lp2 (lX0_soonest_4 x K ) (-1) 0
set_option maxHeartbeats 4000000 in
set_option maxRecDepth 100000 in
theorem sX0_soonest   (x : ab_X) (K : Int32 → Prop) (d bc bs : Nat) (hdp : 0 ≤ d) (h : wX0_soonest  x K) : EW MX0_soonest 0 [(0, .ref 66)] [] (aS x) d bc bs (liP x K) := by
  unfold wX0_soonest at h
  refine EW_iconst (pc2 := 1) (v := (-1)) rfl dX0_soonest_0 (by decide) ?_
  refine EW_istore_n (pc2 := 2) rfl dX0_soonest_1 (by decide) [1, 0] [(0, .ref 66), (1, .int (-1))] rfl ?_
  refine EW_iconst (pc2 := 3) (v := 0) rfl dX0_soonest_2 (by decide) ?_
  refine EW_istore_n (pc2 := 4) rfl dX0_soonest_3 (by decide) [1, 2, 0] [(0, .ref 66), (1, .int (-1)), (2, .int 0)] rfl ?_
  exact sX0_soonest_4 (-1) 0 x K d bc bs hdp h
theorem gfRX2_18 : ab_L RX2 18 2 12 := ⟨by decide, by decide, ab_in 440 (by decide +kernel) (by decide +kernel)⟩
theorem gfRX2_21 : ab_L RX2 21 2 13 := ⟨by decide, by decide, ab_in 443 (by decide +kernel) (by decide +kernel)⟩
abbrev MX2_leaveWork : ab_M := (yX2_leaveWork, cX2_leaveWork, 1, none)
theorem dX2_leaveWork_0 : decode cX2_leaveWork 0 = .ok (.aload_n 0, 1) := by decide +kernel
theorem dX2_leaveWork_1 : decode cX2_leaveWork 1 = .ok (.iconst (-1), 1) := by decide +kernel
theorem dX2_leaveWork_2 : decode cX2_leaveWork 2 = .ok (.putfield 18, 3) := by decide +kernel
theorem dX2_leaveWork_5 : decode cX2_leaveWork 5 = .ok (.aload_n 0, 1) := by decide +kernel
theorem dX2_leaveWork_6 : decode cX2_leaveWork 6 = .ok (.iconst (-1), 1) := by decide +kernel
theorem dX2_leaveWork_7 : decode cX2_leaveWork 7 = .ok (.putfield 21, 3) := by decide +kernel
theorem dX2_leaveWork_10 : decode cX2_leaveWork 10 = .ok (.return_, 1) := by decide +kernel
theorem okX2_leaveWork : ab_okM MX2_leaveWork 0 := ⟨by decide, ⟨by decide, by decide⟩, ab_in 1000 (by decide +kernel) (by decide +kernel), ab_in 94 (by decide +kernel) (by decide +kernel), by decide +kernel, by decide⟩
set_option maxHeartbeats 4000000 in
set_option maxRecDepth 100000 in
def wX2_leaveWork (v0 : Nat) (x : ab_X) (K : ab_X → Prop) : Prop := K (wr (wr x v0 12 (-1)) v0 13 (-1))
set_option maxHeartbeats 4000000 in
set_option maxRecDepth 100000 in
theorem sX2_leaveWork (v0 : Nat) (hv0 : isW v0) (x : ab_X) (K : ab_X → Prop) (d bc bs : Nat) (hdp : 0 ≤ d) (h : wX2_leaveWork v0 x K) : EW MX2_leaveWork 0 [(0, .ref v0)] [] (aS x) d bc bs (liV K) := by
  unfold wX2_leaveWork at h
  refine EW_aload_n (pc2 := 1) rfl dX2_leaveWork_0 0 rfl ?_
  refine EW_iconst (pc2 := 2) (v := (-1)) rfl dX2_leaveWork_1 (by decide) ?_
  refine AW_puti ⟨gfRX2_18, rfl, rfl⟩ (pc2 := 5) rfl dX2_leaveWork_2 (isW.o hv0) ?_
  refine EW_aload_n (pc2 := 6) rfl dX2_leaveWork_5 0 rfl ?_
  refine EW_iconst (pc2 := 7) (v := (-1)) rfl dX2_leaveWork_6 (by decide) ?_
  refine AW_puti ⟨gfRX2_21, rfl, rfl⟩ (pc2 := 10) rfl dX2_leaveWork_7 (isW.o hv0) ?_
  exact EW_vret rfl dX2_leaveWork_10 ⟨_, rfl, rfl, h⟩
theorem mlRX2_60 : Cond.methodLink RX2 60 yX2_leaveWork ∈ ab_G ∧ Cond.instanceMethod yX2_leaveWork ∈ ab_G ∧ Cond.selects RX2 yX2_leaveWork yX2_leaveWork ∈ ab_G := ⟨ab_in 997 (by decide +kernel) (by decide +kernel), ab_in 998 (by decide +kernel) (by decide +kernel), ab_in 999 (by decide +kernel) (by decide +kernel)⟩
theorem gfRX2_63 : ab_L RX2 63 2 8 := ⟨by decide, by decide, ab_in 429 (by decide +kernel) (by decide +kernel)⟩
theorem gfRX2_66 : ab_L RX2 66 2 9 := ⟨by decide, by decide, ab_in 432 (by decide +kernel) (by decide +kernel)⟩
theorem gfRX2_9 : ab_L RX2 9 2 10 := ⟨by decide, by decide, ab_in 434 (by decide +kernel) (by decide +kernel)⟩
abbrev MX2_set : ab_M := (yX2_set, cX2_set, 4, none)
theorem dX2_set_0 : decode cX2_set 0 = .ok (.aload_n 0, 1) := by decide +kernel
theorem dX2_set_1 : decode cX2_set 1 = .ok (.invokevirtual 60, 3) := by decide +kernel
theorem dX2_set_4 : decode cX2_set 4 = .ok (.aload_n 0, 1) := by decide +kernel
theorem dX2_set_5 : decode cX2_set 5 = .ok (.iload_n 1, 1) := by decide +kernel
theorem dX2_set_6 : decode cX2_set 6 = .ok (.putfield 63, 3) := by decide +kernel
theorem dX2_set_9 : decode cX2_set 9 = .ok (.aload_n 0, 1) := by decide +kernel
theorem dX2_set_10 : decode cX2_set 10 = .ok (.iload_n 2, 1) := by decide +kernel
theorem dX2_set_11 : decode cX2_set 11 = .ok (.putfield 66, 3) := by decide +kernel
theorem dX2_set_14 : decode cX2_set 14 = .ok (.aload_n 0, 1) := by decide +kernel
theorem dX2_set_15 : decode cX2_set 15 = .ok (.iload_n 3, 1) := by decide +kernel
theorem dX2_set_16 : decode cX2_set 16 = .ok (.putfield 9, 3) := by decide +kernel
theorem dX2_set_19 : decode cX2_set 19 = .ok (.return_, 1) := by decide +kernel
theorem okX2_set : ab_okM MX2_set 3 := ⟨by decide, ⟨by decide, by decide⟩, ab_in 1022 (by decide +kernel) (by decide +kernel), ab_in 94 (by decide +kernel) (by decide +kernel), by decide +kernel, by decide⟩
set_option maxHeartbeats 4000000 in
set_option maxRecDepth 100000 in
def wX2_set (v0 : Nat) (v1 : Int32) (v2 : Int32) (v3 : Int32) (x : ab_X) (K : ab_X → Prop) : Prop := wX2_leaveWork v0 x (fun x1 => K (wr (wr (wr x1 v0 8 v1) v0 9 v2) v0 10 v3))
set_option maxHeartbeats 4000000 in
set_option maxRecDepth 100000 in
theorem sX2_set (v0 : Nat) (v1 : Int32) (v2 : Int32) (v3 : Int32) (hv0 : isW v0) (x : ab_X) (K : ab_X → Prop) (d bc bs : Nat) (hdp : 1 ≤ d) (h : wX2_set v0 v1 v2 v3 x K) : EW MX2_set 0 [(0, .ref v0), (1, .int v1), (2, .int v2), (3, .int v3)] [] (aS x) d bc bs (liV K) := by
  unfold wX2_set at h
  refine EW_aload_n (pc2 := 1) rfl dX2_set_0 0 rfl ?_
  refine AW_invV (M' := MX2_leaveWork) [] (rest := []) mlRX2_60 okX2_leaveWork (pc2 := 4) rfl dX2_set_1 rfl rfl (Nat.le_of_ble_eq_true rfl) (Nat.le_of_ble_eq_true rfl) (d' := 0) (by omega) (isW.o hv0) ⟨by decide, rfl⟩ (EW_mono (fun _ _ hr => ?_) (sX2_leaveWork v0 hv0 x _ _ 0 0 (Nat.le_refl _) h))
  obtain ⟨x1, rfl, rfl, h⟩ := hr
  refine EW_aload_n (pc2 := 5) rfl dX2_set_4 0 rfl ?_
  refine EW_iload_n (pc2 := 6) rfl dX2_set_5 1 rfl ?_
  refine AW_puti ⟨gfRX2_63, rfl, rfl⟩ (pc2 := 9) rfl dX2_set_6 (isW.o hv0) ?_
  refine EW_aload_n (pc2 := 10) rfl dX2_set_9 0 rfl ?_
  refine EW_iload_n (pc2 := 11) rfl dX2_set_10 2 rfl ?_
  refine AW_puti ⟨gfRX2_66, rfl, rfl⟩ (pc2 := 14) rfl dX2_set_11 (isW.o hv0) ?_
  refine EW_aload_n (pc2 := 15) rfl dX2_set_14 0 rfl ?_
  refine EW_iload_n (pc2 := 16) rfl dX2_set_15 3 rfl ?_
  refine AW_puti ⟨gfRX2_9, rfl, rfl⟩ (pc2 := 19) rfl dX2_set_16 (isW.o hv0) ?_
  exact EW_vret rfl dX2_set_19 ⟨_, rfl, rfl, h⟩
