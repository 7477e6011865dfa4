theorem mlRX12_324 : Cond.methodLink RX12 324 yX12_comeBy ∈ ab_G ∧ Cond.instanceMethod yX12_comeBy ∈ ab_G ∧ Cond.selects RX12 yX12_comeBy yX12_comeBy ∈ ab_G := ⟨ab_in 2245 (by decide +kernel) (by decide +kernel), ab_in 2247 (by decide +kernel) (by decide +kernel), ab_in 15 (by decide +kernel) (by decide +kernel)⟩
theorem mlRX12_543 : Cond.methodLink RX12 543 yX12_isShared ∈ ab_G ∧ Cond.instanceMethod yX12_isShared ∈ ab_G ∧ Cond.selects RX12 yX12_isShared yX12_isShared ∈ ab_G := ⟨ab_in 2527 (by decide +kernel) (by decide +kernel), ab_in 2529 (by decide +kernel) (by decide +kernel), ab_in 54 (by decide +kernel) (by decide +kernel)⟩
theorem gfRX12_546 : ab_L RX12 546 12 93 := ⟨by decide, by decide, ab_in 1942 (by decide +kernel) (by decide +kernel)⟩
abbrev MX12_soonest : ab_M := (yX12_soonest, cX12_soonest, 7, (some .int))
theorem dX12_soonest_0 : decode cX12_soonest 0 = .ok (.iconst (-1), 1) := by decide +kernel
theorem dX12_soonest_1 : decode cX12_soonest 1 = .ok (.istore_n 3, 1) := by decide +kernel
theorem dX12_soonest_2 : decode cX12_soonest 2 = .ok (.iconst 0, 1) := by decide +kernel
theorem dX12_soonest_3 : decode cX12_soonest 3 = .ok (.istore 4, 2) := by decide +kernel
theorem dX12_soonest_5 : decode cX12_soonest 5 = .ok (.iconst 0, 1) := by decide +kernel
theorem dX12_soonest_6 : decode cX12_soonest 6 = .ok (.istore 5, 2) := by decide +kernel
theorem dX12_soonest_8 : decode cX12_soonest 8 = .ok (.iload 5, 2) := by decide +kernel
theorem dX12_soonest_10 : decode cX12_soonest 10 = .ok (.aload_n 0, 1) := by decide +kernel
theorem dX12_soonest_11 : decode cX12_soonest 11 = .ok (.getfield 366, 3) := by decide +kernel
theorem dX12_soonest_14 : decode cX12_soonest 14 = .ok (.if_icmp .ge 104, 3) := by decide +kernel
theorem dX12_soonest_17 : decode cX12_soonest 17 = .ok (.aload_n 0, 1) := by decide +kernel
theorem dX12_soonest_18 : decode cX12_soonest 18 = .ok (.getfield 128, 3) := by decide +kernel
theorem dX12_soonest_21 : decode cX12_soonest 21 = .ok (.iload 5, 2) := by decide +kernel
theorem dX12_soonest_23 : decode cX12_soonest 23 = .ok (.iaload, 1) := by decide +kernel
theorem dX12_soonest_24 : decode cX12_soonest 24 = .ok (.ifCond .ne 88, 3) := by decide +kernel
theorem dX12_soonest_27 : decode cX12_soonest 27 = .ok (.iload_n 1, 1) := by decide +kernel
theorem dX12_soonest_28 : decode cX12_soonest 28 = .ok (.iconst (-1), 1) := by decide +kernel
theorem dX12_soonest_29 : decode cX12_soonest 29 = .ok (.if_icmp .eq 14, 3) := by decide +kernel
theorem dX12_soonest_32 : decode cX12_soonest 32 = .ok (.aload_n 0, 1) := by decide +kernel
theorem dX12_soonest_33 : decode cX12_soonest 33 = .ok (.getfield 107, 3) := by decide +kernel
theorem dX12_soonest_36 : decode cX12_soonest 36 = .ok (.iload 5, 2) := by decide +kernel
theorem dX12_soonest_38 : decode cX12_soonest 38 = .ok (.iaload, 1) := by decide +kernel
theorem dX12_soonest_39 : decode cX12_soonest 39 = .ok (.iload_n 1, 1) := by decide +kernel
theorem dX12_soonest_40 : decode cX12_soonest 40 = .ok (.if_icmp .ne 72, 3) := by decide +kernel
theorem dX12_soonest_43 : decode cX12_soonest 43 = .ok (.iload_n 1, 1) := by decide +kernel
theorem dX12_soonest_44 : decode cX12_soonest 44 = .ok (.iconst (-1), 1) := by decide +kernel
theorem dX12_soonest_45 : decode cX12_soonest 45 = .ok (.if_icmp .ne 15, 3) := by decide +kernel
theorem dX12_soonest_48 : decode cX12_soonest 48 = .ok (.aload_n 0, 1) := by decide +kernel
theorem dX12_soonest_49 : decode cX12_soonest 49 = .ok (.iload 5, 2) := by decide +kernel
theorem dX12_soonest_51 : decode cX12_soonest 51 = .ok (.invokevirtual 543, 3) := by decide +kernel
theorem dX12_soonest_54 : decode cX12_soonest 54 = .ok (.ifCond .ne 6, 3) := by decide +kernel
theorem dX12_soonest_57 : decode cX12_soonest 57 = .ok (.goto 55, 3) := by decide +kernel
theorem dX12_soonest_60 : decode cX12_soonest 60 = .ok (.aload_n 0, 1) := by decide +kernel
theorem dX12_soonest_61 : decode cX12_soonest 61 = .ok (.aload_n 0, 1) := by decide +kernel
theorem dX12_soonest_62 : decode cX12_soonest 62 = .ok (.getfield 131, 3) := by decide +kernel
theorem dX12_soonest_65 : decode cX12_soonest 65 = .ok (.iload 5, 2) := by decide +kernel
theorem dX12_soonest_67 : decode cX12_soonest 67 = .ok (.iaload, 1) := by decide +kernel
theorem dX12_soonest_68 : decode cX12_soonest 68 = .ok (.iload_n 2, 1) := by decide +kernel
theorem dX12_soonest_69 : decode cX12_soonest 69 = .ok (.aload_n 0, 1) := by decide +kernel
theorem dX12_soonest_70 : decode cX12_soonest 70 = .ok (.getfield 395, 3) := by decide +kernel
theorem dX12_soonest_73 : decode cX12_soonest 73 = .ok (.aload_n 0, 1) := by decide +kernel
theorem dX12_soonest_74 : decode cX12_soonest 74 = .ok (.iload 5, 2) := by decide +kernel
theorem dX12_soonest_76 : decode cX12_soonest 76 = .ok (.invokevirtual 398, 3) := by decide +kernel
theorem dX12_soonest_79 : decode cX12_soonest 79 = .ok (.invokevirtual 324, 3) := by decide +kernel
theorem dX12_soonest_82 : decode cX12_soonest 82 = .ok (.istore 6, 2) := by decide +kernel
theorem dX12_soonest_84 : decode cX12_soonest 84 = .ok (.iload 6, 2) := by decide +kernel
theorem dX12_soonest_86 : decode cX12_soonest 86 = .ok (.iconst (-1), 1) := by decide +kernel
theorem dX12_soonest_87 : decode cX12_soonest 87 = .ok (.if_icmp .eq 25, 3) := by decide +kernel
theorem dX12_soonest_90 : decode cX12_soonest 90 = .ok (.iload_n 3, 1) := by decide +kernel
theorem dX12_soonest_91 : decode cX12_soonest 91 = .ok (.iconst (-1), 1) := by decide +kernel
theorem dX12_soonest_92 : decode cX12_soonest 92 = .ok (.if_icmp .eq 13, 3) := by decide +kernel
theorem dX12_soonest_95 : decode cX12_soonest 95 = .ok (.iload 6, 2) := by decide +kernel
theorem dX12_soonest_97 : decode cX12_soonest 97 = .ok (.iload 4, 2) := by decide +kernel
theorem dX12_soonest_99 : decode cX12_soonest 99 = .ok (.if_icmp .lt 6, 3) := by decide +kernel
theorem dX12_soonest_102 : decode cX12_soonest 102 = .ok (.goto 10, 3) := by decide +kernel
theorem dX12_soonest_105 : decode cX12_soonest 105 = .ok (.iload 5, 2) := by decide +kernel
theorem dX12_soonest_107 : decode cX12_soonest 107 = .ok (.istore_n 3, 1) := by decide +kernel
theorem dX12_soonest_108 : decode cX12_soonest 108 = .ok (.iload 6, 2) := by decide +kernel
theorem dX12_soonest_110 : decode cX12_soonest 110 = .ok (.istore 4, 2) := by decide +kernel
theorem dX12_soonest_112 : decode cX12_soonest 112 = .ok (.iinc 5 1, 3) := by decide +kernel
theorem dX12_soonest_115 : decode cX12_soonest 115 = .ok (.goto (-107), 3) := by decide +kernel
theorem dX12_soonest_118 : decode cX12_soonest 118 = .ok (.aload_n 0, 1) := by decide +kernel
theorem dX12_soonest_119 : decode cX12_soonest 119 = .ok (.iload 4, 2) := by decide +kernel
theorem dX12_soonest_121 : decode cX12_soonest 121 = .ok (.putfield 546, 3) := by decide +kernel
theorem dX12_soonest_124 : decode cX12_soonest 124 = .ok (.iload_n 3, 1) := by decide +kernel
theorem dX12_soonest_125 : decode cX12_soonest 125 = .ok (.ireturn, 1) := by decide +kernel
theorem okX12_soonest : ab_okM MX12_soonest 2 := ⟨by decide, ⟨by decide, by decide⟩, ab_in 2526 (by decide +kernel) (by decide +kernel), ab_in 99 (by decide +kernel) (by decide +kernel), by decide +kernel, by decide⟩
set_option maxHeartbeats 4000000 in
set_option maxRecDepth 100000 in
def wX12_soonest_105 (v1 : Int32) (v2 : Int32) (v5 : Int32) (v6 : Int32) (x : ab_X) (K : Int32 → ab_X → Prop) (L8 : Int32 → Int32 → Int32 → ab_X → Prop) : Prop := L8 v5 v6 (v5 + 1) x
set_option maxHeartbeats 4000000 in
set_option maxRecDepth 100000 in
theorem sX12_soonest_105 (v1 : Int32) (v2 : Int32) (v5 : Int32) (v6 : Int32)  (x : ab_X) (K : Int32 → ab_X → Prop) (L8 : Int32 → Int32 → Int32 → ab_X → Prop) (d bc bs : Nat) (hdp : 2 ≤ d) (hL8 : ∀ (v3 : Int32) (v4 : Int32) (v5 : Int32) (x : ab_X), L8 v3 v4 v5 x → EW MX12_soonest 8 [(0, .ref 246), (1, .int v1), (2, .int v2), (3, .int v3), (4, .int v4), (5, .int v5)] [] (aS x) d bc bs (liI K)) (h : wX12_soonest_105 v1 v2 v5 v6 x K L8) : EW MX12_soonest 105 [(0, .ref 246), (1, .int v1), (2, .int v2), (5, .int v5), (6, .int v6)] [] (aS x) d bc bs (liI K) := by
  unfold wX12_soonest_105 at h
  refine EW_iload (pc2 := 107) rfl dX12_soonest_105 3 rfl ?_
  refine EW_istore_n (pc2 := 108) rfl dX12_soonest_107 (by decide) [1, 2, 3, 0, 4, 5] [(0, .ref 246), (1, .int v1), (2, .int v2), (3, .int v5), (5, .int v5), (6, .int v6)] rfl ?_
  refine EW_iload (pc2 := 110) rfl dX12_soonest_108 5 rfl ?_
  refine EW_istore (pc2 := 112) rfl dX12_soonest_110 (by decide) [1, 2, 3, 4, 0, 5, 6] [(0, .ref 246), (1, .int v1), (2, .int v2), (3, .int v5), (4, .int v6), (5, .int v5), (6, .int v6)] rfl ?_
  refine EW_iinc (v5 + 1) (pc2 := 115) rfl dX12_soonest_112 5 rfl rfl (by decide) [1, 2, 3, 4, 5, 0, 6] [(0, .ref 246), (1, .int v1), (2, .int v2), (3, .int v5), (4, .int v6), (5, .int (v5 + 1)), (6, .int v6)] rfl ?_
  refine EW_goto (tgt := 8) dX12_soonest_115 (by decide) ?_
  refine EW_ls [0, 1, 2, 3, 4, 5] rfl ?_
  exact hL8 v5 v6 (v5 + 1) x h
set_option maxHeartbeats 4000000 in
set_option maxRecDepth 100000 in
def wX12_soonest_60 (v1 : Int32) (v2 : Int32) (v3 : Int32) (v4 : Int32) (v5 : Int32) (x : ab_X) (K : Int32 → ab_X → Prop) (L8 : Int32 → Int32 → Int32 → ab_X → Prop) : Prop := (vp_in v5 16 ∧ wX12_slowOf v5 x (fun r5 => wX12_comeBy (x.1 287 (Int32.toNatClampNeg v5)) v2 (x.1 246 1) r5 x (fun r6 x7 => ((r6 = (-1) → L8 v3 v4 (v5 + 1) x7) ∧ (¬ r6 = (-1) → ((v3 = (-1) → wX12_soonest_105 v1 v2 v5 r6 x7 K L8) ∧ (¬ v3 = (-1) → ((r6 < v4 → wX12_soonest_105 v1 v2 v5 r6 x7 K L8) ∧ (¬ r6 < v4 → L8 v3 v4 (v5 + 1) x7)))))))))
set_option maxHeartbeats 4000000 in
set_option maxRecDepth 100000 in
theorem sX12_soonest_60 (v1 : Int32) (v2 : Int32) (v3 : Int32) (v4 : Int32) (v5 : Int32)  (x : ab_X) (K : Int32 → ab_X → Prop) (L8 : Int32 → Int32 → Int32 → ab_X → Prop) (d bc bs : Nat) (hdp : 2 ≤ d) (hL8 : ∀ (v3 : Int32) (v4 : Int32) (v5 : Int32) (x : ab_X), L8 v3 v4 v5 x → EW MX12_soonest 8 [(0, .ref 246), (1, .int v1), (2, .int v2), (3, .int v3), (4, .int v4), (5, .int v5)] [] (aS x) d bc bs (liI K)) (h : wX12_soonest_60 v1 v2 v3 v4 v5 x K L8) : EW MX12_soonest 60 [(0, .ref 246), (1, .int v1), (2, .int v2), (3, .int v3), (4, .int v4), (5, .int v5)] [] (aS x) d bc bs (liI K) := by
  unfold wX12_soonest_60 at h
  refine EW_aload_n (pc2 := 61) rfl dX12_soonest_60 0 rfl ?_
  refine EW_aload_n (pc2 := 62) rfl dX12_soonest_61 0 rfl ?_
  refine AW_getr (r := 287) ⟨gfRX12_131, rfl⟩ (pc2 := 65) rfl dX12_soonest_62 q246 rfl ?_
  refine EW_iload (pc2 := 67) rfl dX12_soonest_65 5 rfl ?_
  obtain ⟨b4, h⟩ := h
  refine AW_iald (pc2 := 68) rfl dX12_soonest_67 q287 b4 ?_
  refine EW_iload_n (pc2 := 69) rfl dX12_soonest_68 2 rfl ?_
  refine EW_aload_n (pc2 := 70) rfl dX12_soonest_69 0 rfl ?_
  refine AW_geti ⟨gfRX12_395, rfl⟩ (pc2 := 73) rfl dX12_soonest_70 q246 ?_
  refine EW_aload_n (pc2 := 74) rfl dX12_soonest_73 0 rfl ?_
  refine EW_iload (pc2 := 76) rfl dX12_soonest_74 5 rfl ?_
  refine AW_invV (M' := MX12_slowOf) [.int v5] (rest := [.int (x.1 246 1), .int v2, .int (x.1 287 (Int32.toNatClampNeg v5)), .ref 246]) mlRX12_398 okX12_slowOf (pc2 := 79) rfl dX12_soonest_76 rfl rfl (Nat.le_of_ble_eq_true rfl) (Nat.le_of_ble_eq_true rfl) (d' := 0) (by omega) q246 ⟨by decide, rfl⟩ (EW_mono (fun _ _ hr => ?_) (sX12_slowOf v5  x _ _ 0 0 (Nat.le_refl _) h))
  obtain ⟨r5, rfl, rfl, h⟩ := hr
  refine AW_invV (M' := MX12_comeBy) [.int (x.1 287 (Int32.toNatClampNeg v5)), .int v2, .int (x.1 246 1), .int r5] (rest := []) mlRX12_324 okX12_comeBy (pc2 := 82) rfl dX12_soonest_79 rfl rfl (Nat.le_of_ble_eq_true rfl) (Nat.le_of_ble_eq_true rfl) (d' := 1) (by omega) q246 ⟨by decide, rfl⟩ (EW_mono (fun _ _ hr => ?_) (sX12_comeBy (x.1 287 (Int32.toNatClampNeg v5)) v2 (x.1 246 1) r5  x _ _ 0 0 (Nat.le_refl _) h))
  obtain ⟨r6, x7, rfl, rfl, h⟩ := hr
  refine EW_istore (pc2 := 84) rfl dX12_soonest_82 (by decide) [1, 2, 3, 4, 5, 6, 0] [(0, .ref 246), (1, .int v1), (2, .int v2), (3, .int v3), (4, .int v4), (5, .int v5), (6, .int r6)] rfl ?_
  refine EW_iload (pc2 := 86) rfl dX12_soonest_84 6 rfl ?_
  refine EW_iconst (pc2 := 87) (v := (-1)) rfl dX12_soonest_86 (by decide) ?_
  refine EW_icmp_eq (tgt := 112) (pc2 := 90) rfl dX12_soonest_87 (by decide) (fun q => ?_) (fun q => ?_)
  · replace h := h.1 q
    refine EW_iinc (v5 + 1) (pc2 := 115) rfl dX12_soonest_112 5 rfl rfl (by decide) [1, 2, 3, 4, 5, 0, 6] [(0, .ref 246), (1, .int v1), (2, .int v2), (3, .int v3), (4, .int v4), (5, .int (v5 + 1)), (6, .int r6)] rfl ?_
    refine EW_goto (tgt := 8) dX12_soonest_115 (by decide) ?_
    refine EW_ls [0, 1, 2, 3, 4, 5] rfl ?_
    exact hL8 v3 v4 (v5 + 1) x7 h
  · replace h := h.2 q
    refine EW_iload_n (pc2 := 91) rfl dX12_soonest_90 3 rfl ?_
    refine EW_iconst (pc2 := 92) (v := (-1)) rfl dX12_soonest_91 (by decide) ?_
    refine EW_icmp_eq (tgt := 105) (pc2 := 95) rfl dX12_soonest_92 (by decide) (fun q => ?_) (fun q => ?_)
    · replace h := h.1 q
      refine EW_ls [0, 1, 2, 5, 6] rfl ?_
      exact sX12_soonest_105 v1 v2 v5 r6 x7 K L8 d bc bs hdp hL8 h
    · replace h := h.2 q
      refine EW_iload (pc2 := 97) rfl dX12_soonest_95 6 rfl ?_
      refine EW_iload (pc2 := 99) rfl dX12_soonest_97 4 rfl ?_
      refine EW_icmp_lt (tgt := 105) (pc2 := 102) rfl dX12_soonest_99 (by decide) (fun q => ?_) (fun q => ?_)
      · replace h := h.1 q
        refine EW_ls [0, 1, 2, 5, 6] rfl ?_
        exact sX12_soonest_105 v1 v2 v5 r6 x7 K L8 d bc bs hdp hL8 h
      · replace h := h.2 q
        refine EW_goto (tgt := 112) dX12_soonest_102 (by decide) ?_
        refine EW_iinc (v5 + 1) (pc2 := 115) rfl dX12_soonest_112 5 rfl rfl (by decide) [1, 2, 3, 4, 5, 0, 6] [(0, .ref 246), (1, .int v1), (2, .int v2), (3, .int v3), (4, .int v4), (5, .int (v5 + 1)), (6, .int r6)] rfl ?_
        refine EW_goto (tgt := 8) dX12_soonest_115 (by decide) ?_
        refine EW_ls [0, 1, 2, 3, 4, 5] rfl ?_
        exact hL8 v3 v4 (v5 + 1) x7 h
set_option maxHeartbeats 4000000 in
set_option maxRecDepth 100000 in
def wX12_soonest_43 (v1 : Int32) (v2 : Int32) (v3 : Int32) (v4 : Int32) (v5 : Int32) (x : ab_X) (K : Int32 → ab_X → Prop) (L8 : Int32 → Int32 → Int32 → ab_X → Prop) : Prop := ((¬ v1 = (-1) → wX12_soonest_60 v1 v2 v3 v4 v5 x K L8) ∧ (v1 = (-1) → wX12_isShared v5 x (fun r3 => ((¬ r3 = 0 → wX12_soonest_60 v1 v2 v3 v4 v5 x K L8) ∧ (r3 = 0 → L8 v3 v4 (v5 + 1) x)))))
set_option maxHeartbeats 4000000 in
set_option maxRecDepth 100000 in
theorem sX12_soonest_43 (v1 : Int32) (v2 : Int32) (v3 : Int32) (v4 : Int32) (v5 : Int32)  (x : ab_X) (K : Int32 → ab_X → Prop) (L8 : Int32 → Int32 → Int32 → ab_X → Prop) (d bc bs : Nat) (hdp : 2 ≤ d) (hL8 : ∀ (v3 : Int32) (v4 : Int32) (v5 : Int32) (x : ab_X), L8 v3 v4 v5 x → EW MX12_soonest 8 [(0, .ref 246), (1, .int v1), (2, .int v2), (3, .int v3), (4, .int v4), (5, .int v5)] [] (aS x) d bc bs (liI K)) (h : wX12_soonest_43 v1 v2 v3 v4 v5 x K L8) : EW MX12_soonest 43 [(0, .ref 246), (1, .int v1), (2, .int v2), (3, .int v3), (4, .int v4), (5, .int v5)] [] (aS x) d bc bs (liI K) := by
  unfold wX12_soonest_43 at h
  refine EW_iload_n (pc2 := 44) rfl dX12_soonest_43 1 rfl ?_
  refine EW_iconst (pc2 := 45) (v := (-1)) rfl dX12_soonest_44 (by decide) ?_
  refine EW_icmp_ne (tgt := 60) (pc2 := 48) rfl dX12_soonest_45 (by decide) (fun q => ?_) (fun q => ?_)
  · replace h := h.1 q
    exact sX12_soonest_60 v1 v2 v3 v4 v5 x K L8 d bc bs hdp hL8 h
  · replace h := h.2 q
    refine EW_aload_n (pc2 := 49) rfl dX12_soonest_48 0 rfl ?_
    refine EW_iload (pc2 := 51) rfl dX12_soonest_49 5 rfl ?_
    refine AW_invV (M' := MX12_isShared) [.int v5] (rest := []) mlRX12_543 okX12_isShared (pc2 := 54) rfl dX12_soonest_51 rfl rfl (Nat.le_of_ble_eq_true rfl) (Nat.le_of_ble_eq_true rfl) (d' := 0) (by omega) q246 ⟨by decide, rfl⟩ (EW_mono (fun _ _ hr => ?_) (sX12_isShared v5  x _ _ 0 0 (Nat.le_refl _) h))
    obtain ⟨r3, rfl, rfl, h⟩ := hr
    refine EW_if_ne (tgt := 60) (pc2 := 57) rfl dX12_soonest_54 (by decide) (fun q => ?_) (fun q => ?_)
    · replace h := h.1 q
      exact sX12_soonest_60 v1 v2 v3 v4 v5 x K L8 d bc bs hdp hL8 h
    · replace h := h.2 q
      refine EW_goto (tgt := 112) dX12_soonest_57 (by decide) ?_
      refine EW_iinc (v5 + 1) (pc2 := 115) rfl dX12_soonest_112 5 rfl rfl (by decide) [1, 2, 3, 4, 5, 0] [(0, .ref 246), (1, .int v1), (2, .int v2), (3, .int v3), (4, .int v4), (5, .int (v5 + 1))] rfl ?_
      refine EW_goto (tgt := 8) dX12_soonest_115 (by decide) ?_
      exact hL8 v3 v4 (v5 + 1) x h
set_option maxHeartbeats 4000000 in
set_option maxRecDepth 100000 in
def lX12_soonest_8 (v1 : Int32) (v2 : Int32) (K : Int32 → ab_X → Prop)  (L8 : Int32 → Int32 → Int32 → ab_X → Prop) (v3 : Int32) (v4 : Int32) (v5 : Int32) (x : ab_X) : Prop := (((x.1 246 58) ≤ v5 → K v3 (wr x 246 93 v4)) ∧ (¬ (x.1 246 58) ≤ v5 → (vp_in v5 16 ∧ ((¬ (x.1 286 (Int32.toNatClampNeg v5)) = 0 → L8 v3 v4 (v5 + 1) x) ∧ ((x.1 286 (Int32.toNatClampNeg v5)) = 0 → ((v1 = (-1) → wX12_soonest_43 v1 v2 v3 v4 v5 x K L8) ∧ (¬ v1 = (-1) → (vp_in v5 16 ∧ ((¬ (x.1 279 (Int32.toNatClampNeg v5)) = v1 → L8 v3 v4 (v5 + 1) x) ∧ ((x.1 279 (Int32.toNatClampNeg v5)) = v1 → wX12_soonest_43 v1 v2 v3 v4 v5 x K L8))))))))))
set_option maxHeartbeats 4000000 in
set_option maxRecDepth 100000 in
theorem sX12_soonest_8 (v1 : Int32) (v2 : Int32) (v3 : Int32) (v4 : Int32) (v5 : Int32)  (x : ab_X) (K : Int32 → ab_X → Prop)  (d bc bs : Nat) (hdp : 2 ≤ d)  (h : Lp4 (lX12_soonest_8 v1 v2 K ) v3 v4 v5 x) : EW MX12_soonest 8 [(0, .ref 246), (1, .int v1), (2, .int v2), (3, .int v3), (4, .int v4), (5, .int v5)] [] (aS x) d bc bs (liI K) := by
  refine Lp4.use (P := fun v3 v4 v5 x => EW MX12_soonest 8 [(0, .ref 246), (1, .int v1), (2, .int v2), (3, .int v3), (4, .int v4), (5, .int v5)] [] (aS x) d bc bs (liI K)) (fun L8 v3 v4 v5 x hL8 h => ?_) v3 v4 v5 x h
  unfold lX12_soonest_8 at h
  refine EW_iload (pc2 := 10) rfl dX12_soonest_8 5 rfl ?_
  refine EW_aload_n (pc2 := 11) rfl dX12_soonest_10 0 rfl ?_
  refine AW_geti ⟨gfRX12_366, rfl⟩ (pc2 := 14) rfl dX12_soonest_11 q246 ?_
  refine EW_icmp_ge (tgt := 118) (pc2 := 17) rfl dX12_soonest_14 (by decide) (fun q => ?_) (fun q => ?_)
  · replace h := h.1 q
    refine EW_aload_n (pc2 := 119) rfl dX12_soonest_118 0 rfl ?_
    refine EW_iload (pc2 := 121) rfl dX12_soonest_119 4 rfl ?_
    refine AW_puti ⟨gfRX12_546, rfl, rfl⟩ (pc2 := 124) rfl dX12_soonest_121 q246 ?_
    refine EW_iload_n (pc2 := 125) rfl dX12_soonest_124 3 rfl ?_
    exact AW_iret rfl dX12_soonest_125 ⟨_, _, rfl, rfl, h⟩
  · replace h := h.2 q
    refine EW_aload_n (pc2 := 18) rfl dX12_soonest_17 0 rfl ?_
    refine AW_getr (r := 286) ⟨gfRX12_128, rfl⟩ (pc2 := 21) rfl dX12_soonest_18 q246 rfl ?_
    refine EW_iload (pc2 := 23) rfl dX12_soonest_21 5 rfl ?_
    obtain ⟨b1, h⟩ := h
    refine AW_iald (pc2 := 24) rfl dX12_soonest_23 q286 b1 ?_
    refine EW_if_ne (tgt := 112) (pc2 := 27) rfl dX12_soonest_24 (by decide) (fun q => ?_) (fun q => ?_)
    · replace h := h.1 q
      refine EW_iinc (v5 + 1) (pc2 := 115) rfl dX12_soonest_112 5 rfl rfl (by decide) [1, 2, 3, 4, 5, 0] [(0, .ref 246), (1, .int v1), (2, .int v2), (3, .int v3), (4, .int v4), (5, .int (v5 + 1))] rfl ?_
      refine EW_goto (tgt := 8) dX12_soonest_115 (by decide) ?_
      exact hL8 v3 v4 (v5 + 1) x h
    · replace h := h.2 q
      refine EW_iload_n (pc2 := 28) rfl dX12_soonest_27 1 rfl ?_
      refine EW_iconst (pc2 := 29) (v := (-1)) rfl dX12_soonest_28 (by decide) ?_
      refine EW_icmp_eq (tgt := 43) (pc2 := 32) rfl dX12_soonest_29 (by decide) (fun q => ?_) (fun q => ?_)
      · replace h := h.1 q
        exact sX12_soonest_43 v1 v2 v3 v4 v5 x K L8 d bc bs hdp hL8 h
      · replace h := h.2 q
        refine EW_aload_n (pc2 := 33) rfl dX12_soonest_32 0 rfl ?_
        refine AW_getr (r := 279) ⟨gfRX12_107, rfl⟩ (pc2 := 36) rfl dX12_soonest_33 q246 rfl ?_
        refine EW_iload (pc2 := 38) rfl dX12_soonest_36 5 rfl ?_
        obtain ⟨b2, h⟩ := h
        refine AW_iald (pc2 := 39) rfl dX12_soonest_38 q279 b2 ?_
        refine EW_iload_n (pc2 := 40) rfl dX12_soonest_39 1 rfl ?_
        refine EW_icmp_ne (tgt := 112) (pc2 := 43) rfl dX12_soonest_40 (by decide) (fun q => ?_) (fun q => ?_)
        · replace h := h.1 q
          refine EW_iinc (v5 + 1) (pc2 := 115) rfl dX12_soonest_112 5 rfl rfl (by decide) [1, 2, 3, 4, 5, 0] [(0, .ref 246), (1, .int v1), (2, .int v2), (3, .int v3), (4, .int v4), (5, .int (v5 + 1))] rfl ?_
          refine EW_goto (tgt := 8) dX12_soonest_115 (by decide) ?_
          exact hL8 v3 v4 (v5 + 1) x h
        · replace h := h.2 q
          exact sX12_soonest_43 v1 v2 v3 v4 v5 x K L8 d bc bs hdp hL8 h
set_option maxHeartbeats 4000000 in
set_option maxRecDepth 100000 in
def wX12_soonest (v1 : Int32) (v2 : Int32) (x : ab_X) (K : Int32 → ab_X → Prop) : Prop := Lp4 (lX12_soonest_8 v1 v2 K ) (-1) 0 0 x
set_option maxHeartbeats 4000000 in
set_option maxRecDepth 100000 in
theorem sX12_soonest (v1 : Int32) (v2 : Int32)  (x : ab_X) (K : Int32 → ab_X → Prop) (d bc bs : Nat) (hdp : 2 ≤ d) (h : wX12_soonest v1 v2 x K) : EW MX12_soonest 0 [(0, .ref 246), (1, .int v1), (2, .int v2)] [] (aS x) d bc bs (liI K) := by
  unfold wX12_soonest at h
  refine EW_iconst (pc2 := 1) (v := (-1)) rfl dX12_soonest_0 (by decide) ?_
  refine EW_istore_n (pc2 := 2) rfl dX12_soonest_1 (by decide) [1, 2, 3, 0] [(0, .ref 246), (1, .int v1), (2, .int v2), (3, .int (-1))] rfl ?_
  refine EW_iconst (pc2 := 3) (v := 0) rfl dX12_soonest_2 (by decide) ?_
  refine EW_istore (pc2 := 5) rfl dX12_soonest_3 (by decide) [1, 2, 3, 4, 0] [(0, .ref 246), (1, .int v1), (2, .int v2), (3, .int (-1)), (4, .int 0)] rfl ?_
  refine EW_iconst (pc2 := 6) (v := 0) rfl dX12_soonest_5 (by decide) ?_
  refine EW_istore (pc2 := 8) rfl dX12_soonest_6 (by decide) [1, 2, 3, 4, 5, 0] [(0, .ref 246), (1, .int v1), (2, .int v2), (3, .int (-1)), (4, .int 0), (5, .int 0)] rfl ?_
  exact sX12_soonest_8 v1 v2 (-1) 0 0 x K d bc bs hdp h
