abbrev MX12_save : ab_M := (yX12_save, cX12_save, 5, none)
theorem dX12_save_0 : decode cX12_save 0 = .ok (.aload_n 0, 1) := by decide +kernel
theorem dX12_save_1 : decode cX12_save 1 = .ok (.getfield 119, 3) := by decide +kernel
theorem dX12_save_4 : decode cX12_save 4 = .ok (.iload_n 1, 1) := by decide +kernel
theorem dX12_save_5 : decode cX12_save 5 = .ok (.iaload, 1) := by decide +kernel
theorem dX12_save_6 : decode cX12_save 6 = .ok (.aload_n 0, 1) := by decide +kernel
theorem dX12_save_7 : decode cX12_save 7 = .ok (.getfield 38, 3) := by decide +kernel
theorem dX12_save_10 : decode cX12_save 10 = .ok (.iload_n 2, 1) := by decide +kernel
theorem dX12_save_11 : decode cX12_save 11 = .ok (.iaload, 1) := by decide +kernel
theorem dX12_save_12 : decode cX12_save 12 = .ok (.invokestatic 311, 3) := by decide +kernel
theorem dX12_save_15 : decode cX12_save 15 = .ok (.iconst 1, 1) := by decide +kernel
theorem dX12_save_16 : decode cX12_save 16 = .ok (.isub, 1) := by decide +kernel
theorem dX12_save_17 : decode cX12_save 17 = .ok (.istore_n 3, 1) := by decide +kernel
theorem dX12_save_18 : decode cX12_save 18 = .ok (.iload_n 3, 1) := by decide +kernel
theorem dX12_save_19 : decode cX12_save 19 = .ok (.ifCond .lt 37, 3) := by decide +kernel
theorem dX12_save_22 : decode cX12_save 22 = .ok (.aload_n 0, 1) := by decide +kernel
theorem dX12_save_23 : decode cX12_save 23 = .ok (.getfield 92, 3) := by decide +kernel
theorem dX12_save_26 : decode cX12_save 26 = .ok (.bipush 6, 2) := by decide +kernel
theorem dX12_save_28 : decode cX12_save 28 = .ok (.iload_n 2, 1) := by decide +kernel
theorem dX12_save_29 : decode cX12_save 29 = .ok (.imul, 1) := by decide +kernel
theorem dX12_save_30 : decode cX12_save 30 = .ok (.iload_n 3, 1) := by decide +kernel
theorem dX12_save_31 : decode cX12_save 31 = .ok (.iadd, 1) := by decide +kernel
theorem dX12_save_32 : decode cX12_save 32 = .ok (.baload, 1) := by decide +kernel
theorem dX12_save_33 : decode cX12_save 33 = .ok (.ifCond .ne 17, 3) := by decide +kernel
theorem dX12_save_36 : decode cX12_save 36 = .ok (.aload_n 0, 1) := by decide +kernel
theorem dX12_save_37 : decode cX12_save 37 = .ok (.getfield 86, 3) := by decide +kernel
theorem dX12_save_40 : decode cX12_save 40 = .ok (.bipush 6, 2) := by decide +kernel
theorem dX12_save_42 : decode cX12_save 42 = .ok (.iload_n 2, 1) := by decide +kernel
theorem dX12_save_43 : decode cX12_save 43 = .ok (.imul, 1) := by decide +kernel
theorem dX12_save_44 : decode cX12_save 44 = .ok (.iload_n 3, 1) := by decide +kernel
theorem dX12_save_45 : decode cX12_save 45 = .ok (.iadd, 1) := by decide +kernel
theorem dX12_save_46 : decode cX12_save 46 = .ok (.iaload, 1) := by decide +kernel
theorem dX12_save_47 : decode cX12_save 47 = .ok (.ifCond .ne 9, 3) := by decide +kernel
theorem dX12_save_50 : decode cX12_save 50 = .ok (.iinc 3 (-1), 3) := by decide +kernel
theorem dX12_save_53 : decode cX12_save 53 = .ok (.goto (-35), 3) := by decide +kernel
theorem dX12_save_56 : decode cX12_save 56 = .ok (.iload_n 3, 1) := by decide +kernel
theorem dX12_save_57 : decode cX12_save 57 = .ok (.ifCond .ge 4, 3) := by decide +kernel
theorem dX12_save_60 : decode cX12_save 60 = .ok (.return_, 1) := by decide +kernel
theorem dX12_save_61 : decode cX12_save 61 = .ok (.iconst 2, 1) := by decide +kernel
theorem dX12_save_62 : decode cX12_save 62 = .ok (.aload_n 0, 1) := by decide +kernel
theorem dX12_save_63 : decode cX12_save 63 = .ok (.getfield 86, 3) := by decide +kernel
theorem dX12_save_66 : decode cX12_save 66 = .ok (.bipush 6, 2) := by decide +kernel
theorem dX12_save_68 : decode cX12_save 68 = .ok (.iload_n 2, 1) := by decide +kernel
theorem dX12_save_69 : decode cX12_save 69 = .ok (.imul, 1) := by decide +kernel
theorem dX12_save_70 : decode cX12_save 70 = .ok (.iload_n 3, 1) := by decide +kernel
theorem dX12_save_71 : decode cX12_save 71 = .ok (.iadd, 1) := by decide +kernel
theorem dX12_save_72 : decode cX12_save 72 = .ok (.iaload, 1) := by decide +kernel
theorem dX12_save_73 : decode cX12_save 73 = .ok (.invokestatic 311, 3) := by decide +kernel
theorem dX12_save_76 : decode cX12_save 76 = .ok (.istore 4, 2) := by decide +kernel
theorem dX12_save_78 : decode cX12_save 78 = .ok (.aload_n 0, 1) := by decide +kernel
theorem dX12_save_79 : decode cX12_save 79 = .ok (.getfield 86, 3) := by decide +kernel
theorem dX12_save_82 : decode cX12_save 82 = .ok (.bipush 6, 2) := by decide +kernel
theorem dX12_save_84 : decode cX12_save 84 = .ok (.iload_n 2, 1) := by decide +kernel
theorem dX12_save_85 : decode cX12_save 85 = .ok (.imul, 1) := by decide +kernel
theorem dX12_save_86 : decode cX12_save 86 = .ok (.iload_n 3, 1) := by decide +kernel
theorem dX12_save_87 : decode cX12_save 87 = .ok (.iadd, 1) := by decide +kernel
theorem dX12_save_88 : decode cX12_save 88 = .ok (.dup2, 1) := by decide +kernel
theorem dX12_save_89 : decode cX12_save 89 = .ok (.iaload, 1) := by decide +kernel
theorem dX12_save_90 : decode cX12_save 90 = .ok (.iload 4, 2) := by decide +kernel
theorem dX12_save_92 : decode cX12_save 92 = .ok (.isub, 1) := by decide +kernel
theorem dX12_save_93 : decode cX12_save 93 = .ok (.iastore, 1) := by decide +kernel
theorem dX12_save_94 : decode cX12_save 94 = .ok (.aload_n 0, 1) := by decide +kernel
theorem dX12_save_95 : decode cX12_save 95 = .ok (.getfield 56, 3) := by decide +kernel
theorem dX12_save_98 : decode cX12_save 98 = .ok (.iload_n 2, 1) := by decide +kernel
theorem dX12_save_99 : decode cX12_save 99 = .ok (.dup2, 1) := by decide +kernel
theorem dX12_save_100 : decode cX12_save 100 = .ok (.iaload, 1) := by decide +kernel
theorem dX12_save_101 : decode cX12_save 101 = .ok (.iload 4, 2) := by decide +kernel
theorem dX12_save_103 : decode cX12_save 103 = .ok (.iadd, 1) := by decide +kernel
theorem dX12_save_104 : decode cX12_save 104 = .ok (.iastore, 1) := by decide +kernel
theorem dX12_save_105 : decode cX12_save 105 = .ok (.return_, 1) := by decide +kernel
theorem okX12_save : ab_okM MX12_save 2 := ⟨by decide, ⟨by decide, by decide⟩, ab_in 2566 (by decide +kernel) (by decide +kernel), ab_in 99 (by decide +kernel) (by decide +kernel), by decide +kernel, by decide⟩
set_option maxHeartbeats 4000000 in
set_option maxRecDepth 100000 in
def wX12_save_56 (v2 : Int32) (v3 : Int32) (x : ab_X) (K : ab_X → Prop)  : Prop := ((0 ≤ v3 → (vp_in ((6 * v2) + v3) 72 ∧ vp_in ((6 * v2) + v3) 72 ∧ vp_in ((6 * v2) + v3) 72 ∧ vp_in v2 12 ∧ vp_in v2 12 ∧ K (wr (wr x 272 (Int32.toNatClampNeg ((6 * v2) + v3)) ((x.1 272 (Int32.toNatClampNeg ((6 * v2) + v3))) - (imin 2 (x.1 272 (Int32.toNatClampNeg ((6 * v2) + v3)))))) 262 (Int32.toNatClampNeg v2) (((wr x 272 (Int32.toNatClampNeg ((6 * v2) + v3)) ((x.1 272 (Int32.toNatClampNeg ((6 * v2) + v3))) - (imin 2 (x.1 272 (Int32.toNatClampNeg ((6 * v2) + v3)))))).1 262 (Int32.toNatClampNeg v2)) + (imin 2 (x.1 272 (Int32.toNatClampNeg ((6 * v2) + v3)))))))) ∧ (¬ 0 ≤ v3 → K x))
set_option maxHeartbeats 4000000 in
set_option maxRecDepth 100000 in
theorem sX12_save_56 (v2 : Int32) (v3 : Int32)  (x : ab_X) (K : ab_X → Prop)  (d bc bs : Nat) (hdp : 1 ≤ d)  (h : wX12_save_56 v2 v3 x K ) : EW MX12_save 56 [(0, .ref 246), (2, .int v2), (3, .int v3)] [] (aS x) d bc bs (liV K) := by
  unfold wX12_save_56 at h
  refine EW_iload_n (pc2 := 57) rfl dX12_save_56 2 rfl ?_
  refine EW_if_ge (tgt := 61) (pc2 := 60) rfl dX12_save_57 (by decide) (fun q => ?_) (fun q => ?_)
  · replace h := h.1 q
    refine EW_iconst (pc2 := 62) (v := 2) rfl dX12_save_61 (by decide) ?_
    refine EW_aload_n (pc2 := 63) rfl dX12_save_62 0 rfl ?_
    refine AW_getr (r := 272) ⟨gfRX12_86, rfl⟩ (pc2 := 66) rfl dX12_save_63 q246 rfl ?_
    refine EW_bipush (pc2 := 68) (v := 6) rfl dX12_save_66 (by decide) ?_
    refine EW_iload_n (pc2 := 69) rfl dX12_save_68 1 rfl ?_
    refine EW_imul (pc2 := 70) rfl dX12_save_69 ?_
    refine EW_iload_n (pc2 := 71) rfl dX12_save_70 2 rfl ?_
    refine EW_iadd (pc2 := 72) rfl dX12_save_71 ?_
    obtain ⟨b5, h⟩ := h
    refine AW_iald (pc2 := 73) rfl dX12_save_72 q272 b5 ?_
    refine AW_mmin mmRX12_311 (pc2 := 76) rfl dX12_save_73 (Nat.le_of_ble_eq_true rfl) (by omega) ?_
    refine EW_istore (pc2 := 78) rfl dX12_save_76 (by decide) [1, 2, 3, 0] [(0, .ref 246), (2, .int v2), (3, .int v3), (4, .int (imin 2 (x.1 272 (Int32.toNatClampNeg ((6 * v2) + v3)))))] rfl ?_
    refine EW_aload_n (pc2 := 79) rfl dX12_save_78 0 rfl ?_
    refine AW_getr (r := 272) ⟨gfRX12_86, rfl⟩ (pc2 := 82) rfl dX12_save_79 q246 rfl ?_
    refine EW_bipush (pc2 := 84) (v := 6) rfl dX12_save_82 (by decide) ?_
    refine EW_iload_n (pc2 := 85) rfl dX12_save_84 1 rfl ?_
    refine EW_imul (pc2 := 86) rfl dX12_save_85 ?_
    refine EW_iload_n (pc2 := 87) rfl dX12_save_86 2 rfl ?_
    refine EW_iadd (pc2 := 88) rfl dX12_save_87 ?_
    refine EW_dup2 (pc2 := 89) rfl dX12_save_88 rfl rfl ?_
    obtain ⟨b6, h⟩ := h
    refine AW_iald (pc2 := 90) rfl dX12_save_89 q272 b6 ?_
    refine EW_iload (pc2 := 92) rfl dX12_save_90 3 rfl ?_
    refine EW_isub (pc2 := 93) rfl dX12_save_92 ?_
    obtain ⟨b7, h⟩ := h
    refine AW_iast (pc2 := 94) rfl dX12_save_93 q272 b7 ?_
    refine EW_aload_n (pc2 := 95) rfl dX12_save_94 0 rfl ?_
    refine AW_getr (r := 262) ⟨gfRX12_56, rfl⟩ (pc2 := 98) rfl dX12_save_95 q246 rfl ?_
    refine EW_iload_n (pc2 := 99) rfl dX12_save_98 1 rfl ?_
    refine EW_dup2 (pc2 := 100) rfl dX12_save_99 rfl rfl ?_
    obtain ⟨b8, h⟩ := h
    refine AW_iald (pc2 := 101) rfl dX12_save_100 q262 b8 ?_
    refine EW_iload (pc2 := 103) rfl dX12_save_101 3 rfl ?_
    refine EW_iadd (pc2 := 104) rfl dX12_save_103 ?_
    obtain ⟨b9, h⟩ := h
    refine AW_iast (pc2 := 105) rfl dX12_save_104 q262 b9 ?_
    exact EW_vret rfl dX12_save_105 ⟨_, rfl, rfl, h⟩
  · replace h := h.2 q
    exact EW_vret rfl dX12_save_60 ⟨_, rfl, rfl, h⟩
set_option maxHeartbeats 4000000 in
set_option maxRecDepth 100000 in
def lX12_save_18 (v2 : Int32) (x : ab_X) (K : ab_X → Prop)  (L18 : Int32 → Prop) (v3 : Int32) : Prop := ((v3 < 0 → wX12_save_56 v2 v3 x K) ∧ (¬ v3 < 0 → (vp_in ((6 * v2) + v3) 72 ∧ ((¬ (x.1 274 (Int32.toNatClampNeg ((6 * v2) + v3))) = 0 → L18 (v3 + (-1))) ∧ ((x.1 274 (Int32.toNatClampNeg ((6 * v2) + v3))) = 0 → (vp_in ((6 * v2) + v3) 72 ∧ ((¬ (x.1 272 (Int32.toNatClampNeg ((6 * v2) + v3))) = 0 → wX12_save_56 v2 v3 x K) ∧ ((x.1 272 (Int32.toNatClampNeg ((6 * v2) + v3))) = 0 → L18 (v3 + (-1))))))))))
set_option maxHeartbeats 4000000 in
set_option maxRecDepth 100000 in
theorem sX12_save_18 (v2 : Int32) (v3 : Int32)  (x : ab_X) (K : ab_X → Prop)  (d bc bs : Nat) (hdp : 1 ≤ d)  (h : Lp1 (lX12_save_18 v2 x K ) v3) : EW MX12_save 18 [(0, .ref 246), (2, .int v2), (3, .int v3)] [] (aS x) d bc bs (liV K) := by
  refine Lp1.use (P := fun v3 => EW MX12_save 18 [(0, .ref 246), (2, .int v2), (3, .int v3)] [] (aS x) d bc bs (liV K)) (fun L18 v3 hL18 h => ?_) v3 h
  unfold lX12_save_18 at h
  refine EW_iload_n (pc2 := 19) rfl dX12_save_18 2 rfl ?_
  refine EW_if_lt (tgt := 56) (pc2 := 22) rfl dX12_save_19 (by decide) (fun q => ?_) (fun q => ?_)
  · replace h := h.1 q
    exact sX12_save_56 v2 v3 x K d bc bs hdp h
  · replace h := h.2 q
    refine EW_aload_n (pc2 := 23) rfl dX12_save_22 0 rfl ?_
    refine AW_getr (r := 274) ⟨gfRX12_92, rfl⟩ (pc2 := 26) rfl dX12_save_23 q246 rfl ?_
    refine EW_bipush (pc2 := 28) (v := 6) rfl dX12_save_26 (by decide) ?_
    refine EW_iload_n (pc2 := 29) rfl dX12_save_28 1 rfl ?_
    refine EW_imul (pc2 := 30) rfl dX12_save_29 ?_
    refine EW_iload_n (pc2 := 31) rfl dX12_save_30 2 rfl ?_
    refine EW_iadd (pc2 := 32) rfl dX12_save_31 ?_
    obtain ⟨b3, h⟩ := h
    refine AW_zald (pc2 := 33) rfl dX12_save_32 q274 b3 ?_
    refine EW_if_ne (tgt := 50) (pc2 := 36) rfl dX12_save_33 (by decide) (fun q => ?_) (fun q => ?_)
    · replace h := h.1 q
      refine EW_iinc (v3 + (-1)) (pc2 := 53) rfl dX12_save_50 2 rfl rfl (by decide) [1, 2, 0] [(0, .ref 246), (2, .int v2), (3, .int (v3 + (-1)))] rfl ?_
      refine EW_goto (tgt := 18) dX12_save_53 (by decide) ?_
      exact hL18 (v3 + (-1)) h
    · replace h := h.2 q
      refine EW_aload_n (pc2 := 37) rfl dX12_save_36 0 rfl ?_
      refine AW_getr (r := 272) ⟨gfRX12_86, rfl⟩ (pc2 := 40) rfl dX12_save_37 q246 rfl ?_
      refine EW_bipush (pc2 := 42) (v := 6) rfl dX12_save_40 (by decide) ?_
      refine EW_iload_n (pc2 := 43) rfl dX12_save_42 1 rfl ?_
      refine EW_imul (pc2 := 44) rfl dX12_save_43 ?_
      refine EW_iload_n (pc2 := 45) rfl dX12_save_44 2 rfl ?_
      refine EW_iadd (pc2 := 46) rfl dX12_save_45 ?_
      obtain ⟨b4, h⟩ := h
      refine AW_iald (pc2 := 47) rfl dX12_save_46 q272 b4 ?_
      refine EW_if_ne (tgt := 56) (pc2 := 50) rfl dX12_save_47 (by decide) (fun q => ?_) (fun q => ?_)
      · replace h := h.1 q
        exact sX12_save_56 v2 v3 x K d bc bs hdp h
      · replace h := h.2 q
        refine EW_iinc (v3 + (-1)) (pc2 := 53) rfl dX12_save_50 2 rfl rfl (by decide) [1, 2, 0] [(0, .ref 246), (2, .int v2), (3, .int (v3 + (-1)))] rfl ?_
        refine EW_goto (tgt := 18) dX12_save_53 (by decide) ?_
        exact hL18 (v3 + (-1)) h
set_option maxHeartbeats 4000000 in
set_option maxRecDepth 100000 in
def wX12_save (v1 : Int32) (v2 : Int32) (x : ab_X) (K : ab_X → Prop) : Prop := (vp_in v1 16 ∧ vp_in v2 12 ∧ Lp1 (lX12_save_18 v2 x K ) ((imin (x.1 283 (Int32.toNatClampNeg v1)) (x.1 256 (Int32.toNatClampNeg v2))) - 1))
set_option maxHeartbeats 4000000 in
set_option maxRecDepth 100000 in
theorem sX12_save (v1 : Int32) (v2 : Int32)  (x : ab_X) (K : ab_X → Prop) (d bc bs : Nat) (hdp : 1 ≤ d) (h : wX12_save v1 v2 x K) : EW MX12_save 0 [(0, .ref 246), (1, .int v1), (2, .int v2)] [] (aS x) d bc bs (liV K) := by
  unfold wX12_save at h
  refine EW_aload_n (pc2 := 1) rfl dX12_save_0 0 rfl ?_
  refine AW_getr (r := 283) ⟨gfRX12_119, rfl⟩ (pc2 := 4) rfl dX12_save_1 q246 rfl ?_
  refine EW_iload_n (pc2 := 5) rfl dX12_save_4 1 rfl ?_
  obtain ⟨b1, h⟩ := h
  refine AW_iald (pc2 := 6) rfl dX12_save_5 q283 b1 ?_
  refine EW_aload_n (pc2 := 7) rfl dX12_save_6 0 rfl ?_
  refine AW_getr (r := 256) ⟨gfRX12_38, rfl⟩ (pc2 := 10) rfl dX12_save_7 q246 rfl ?_
  refine EW_iload_n (pc2 := 11) rfl dX12_save_10 2 rfl ?_
  obtain ⟨b2, h⟩ := h
  refine AW_iald (pc2 := 12) rfl dX12_save_11 q256 b2 ?_
  refine AW_mmin mmRX12_311 (pc2 := 15) rfl dX12_save_12 (Nat.le_of_ble_eq_true rfl) (by omega) ?_
  refine EW_iconst (pc2 := 16) (v := 1) rfl dX12_save_15 (by decide) ?_
  refine EW_isub (pc2 := 17) rfl dX12_save_16 ?_
  refine EW_istore_n (pc2 := 18) rfl dX12_save_17 (by decide) [1, 2, 3, 0] [(0, .ref 246), (1, .int v1), (2, .int v2), (3, .int ((imin (x.1 283 (Int32.toNatClampNeg v1)) (x.1 256 (Int32.toNatClampNeg v2))) - 1))] rfl ?_
  refine EW_ls [0, 2, 3] rfl ?_
  exact sX12_save_18 v2 ((imin (x.1 283 (Int32.toNatClampNeg v1)) (x.1 256 (Int32.toNatClampNeg v2))) - 1) x K d bc bs hdp h
