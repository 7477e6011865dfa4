theorem mlRX7_125 : Cond.methodLink RX7 125 yX7_nextStop ∈ ab_G ∧ Cond.instanceMethod yX7_nextStop ∈ ab_G ∧ Cond.selects RX7 yX7_nextStop yX7_nextStop ∈ ab_G := ⟨ab_in 1634 (by decide +kernel) (by decide +kernel), ab_in 1635 (by decide +kernel) (by decide +kernel), ab_in 1636 (by decide +kernel) (by decide +kernel)⟩
theorem gfRX7_27 : ab_L RX7 27 7 13 := ⟨by decide, by decide, ab_in 687 (by decide +kernel) (by decide +kernel)⟩
theorem gfRX7_122 : ab_L RX7 122 7 12 := ⟨by decide, by decide, ab_in 685 (by decide +kernel) (by decide +kernel)⟩
abbrev MX7_findOrder : ab_M := (yX7_findOrder, cX7_findOrder, 6, none)
theorem dX7_findOrder_0 : decode cX7_findOrder 0 = .ok (.aload_n 0, 1) := by decide +kernel
theorem dX7_findOrder_1 : decode cX7_findOrder 1 = .ok (.iconst 0, 1) := by decide +kernel
theorem dX7_findOrder_2 : decode cX7_findOrder 2 = .ok (.putfield 122, 3) := by decide +kernel
theorem dX7_findOrder_5 : decode cX7_findOrder 5 = .ok (.iconst 0, 1) := by decide +kernel
theorem dX7_findOrder_6 : decode cX7_findOrder 6 = .ok (.istore_n 1, 1) := by decide +kernel
theorem dX7_findOrder_7 : decode cX7_findOrder 7 = .ok (.bipush 8, 2) := by decide +kernel
theorem dX7_findOrder_9 : decode cX7_findOrder 9 = .ok (.istore_n 2, 1) := by decide +kernel
theorem dX7_findOrder_10 : decode cX7_findOrder 10 = .ok (.iconst 0, 1) := by decide +kernel
theorem dX7_findOrder_11 : decode cX7_findOrder 11 = .ok (.istore_n 3, 1) := by decide +kernel
theorem dX7_findOrder_12 : decode cX7_findOrder 12 = .ok (.iconst 0, 1) := by decide +kernel
theorem dX7_findOrder_13 : decode cX7_findOrder 13 = .ok (.istore 4, 2) := by decide +kernel
theorem dX7_findOrder_15 : decode cX7_findOrder 15 = .ok (.iload 4, 2) := by decide +kernel
theorem dX7_findOrder_17 : decode cX7_findOrder 17 = .ok (.aload_n 0, 1) := by decide +kernel
theorem dX7_findOrder_18 : decode cX7_findOrder 18 = .ok (.getfield 71, 3) := by decide +kernel
theorem dX7_findOrder_21 : decode cX7_findOrder 21 = .ok (.if_icmp .ge 84, 3) := by decide +kernel
theorem dX7_findOrder_24 : decode cX7_findOrder 24 = .ok (.iload_n 3, 1) := by decide +kernel
theorem dX7_findOrder_25 : decode cX7_findOrder 25 = .ok (.aload_n 0, 1) := by decide +kernel
theorem dX7_findOrder_26 : decode cX7_findOrder 26 = .ok (.getfield 119, 3) := by decide +kernel
theorem dX7_findOrder_29 : decode cX7_findOrder 29 = .ok (.if_icmp .ge 76, 3) := by decide +kernel
theorem dX7_findOrder_32 : decode cX7_findOrder 32 = .ok (.aload_n 0, 1) := by decide +kernel
theorem dX7_findOrder_33 : decode cX7_findOrder 33 = .ok (.iload_n 1, 1) := by decide +kernel
theorem dX7_findOrder_34 : decode cX7_findOrder 34 = .ok (.iload_n 2, 1) := by decide +kernel
theorem dX7_findOrder_35 : decode cX7_findOrder 35 = .ok (.iload_n 3, 1) := by decide +kernel
theorem dX7_findOrder_36 : decode cX7_findOrder 36 = .ok (.invokevirtual 125, 3) := by decide +kernel
theorem dX7_findOrder_39 : decode cX7_findOrder 39 = .ok (.istore 5, 2) := by decide +kernel
theorem dX7_findOrder_41 : decode cX7_findOrder 41 = .ok (.iload 5, 2) := by decide +kernel
theorem dX7_findOrder_43 : decode cX7_findOrder 43 = .ok (.iconst (-1), 1) := by decide +kernel
theorem dX7_findOrder_44 : decode cX7_findOrder 44 = .ok (.if_icmp .ne 4, 3) := by decide +kernel
theorem dX7_findOrder_47 : decode cX7_findOrder 47 = .ok (.return_, 1) := by decide +kernel
theorem dX7_findOrder_48 : decode cX7_findOrder 48 = .ok (.aload_n 0, 1) := by decide +kernel
theorem dX7_findOrder_49 : decode cX7_findOrder 49 = .ok (.getfield 27, 3) := by decide +kernel
theorem dX7_findOrder_52 : decode cX7_findOrder 52 = .ok (.aload_n 0, 1) := by decide +kernel
theorem dX7_findOrder_53 : decode cX7_findOrder 53 = .ok (.getfield 122, 3) := by decide +kernel
theorem dX7_findOrder_56 : decode cX7_findOrder 56 = .ok (.aload_n 0, 1) := by decide +kernel
theorem dX7_findOrder_57 : decode cX7_findOrder 57 = .ok (.getfield 9, 3) := by decide +kernel
theorem dX7_findOrder_60 : decode cX7_findOrder 60 = .ok (.iload 5, 2) := by decide +kernel
theorem dX7_findOrder_62 : decode cX7_findOrder 62 = .ok (.iaload, 1) := by decide +kernel
theorem dX7_findOrder_63 : decode cX7_findOrder 63 = .ok (.iastore, 1) := by decide +kernel
theorem dX7_findOrder_64 : decode cX7_findOrder 64 = .ok (.aload_n 0, 1) := by decide +kernel
theorem dX7_findOrder_65 : decode cX7_findOrder 65 = .ok (.dup, 1) := by decide +kernel
theorem dX7_findOrder_66 : decode cX7_findOrder 66 = .ok (.getfield 122, 3) := by decide +kernel
theorem dX7_findOrder_69 : decode cX7_findOrder 69 = .ok (.iconst 1, 1) := by decide +kernel
theorem dX7_findOrder_70 : decode cX7_findOrder 70 = .ok (.iadd, 1) := by decide +kernel
theorem dX7_findOrder_71 : decode cX7_findOrder 71 = .ok (.putfield 122, 3) := by decide +kernel
theorem dX7_findOrder_74 : decode cX7_findOrder 74 = .ok (.iload_n 3, 1) := by decide +kernel
theorem dX7_findOrder_75 : decode cX7_findOrder 75 = .ok (.aload_n 0, 1) := by decide +kernel
theorem dX7_findOrder_76 : decode cX7_findOrder 76 = .ok (.getfield 24, 3) := by decide +kernel
theorem dX7_findOrder_79 : decode cX7_findOrder 79 = .ok (.iload_n 2, 1) := by decide +kernel
theorem dX7_findOrder_80 : decode cX7_findOrder 80 = .ok (.bipush 8, 2) := by decide +kernel
theorem dX7_findOrder_82 : decode cX7_findOrder 82 = .ok (.imul, 1) := by decide +kernel
theorem dX7_findOrder_83 : decode cX7_findOrder 83 = .ok (.iload 5, 2) := by decide +kernel
theorem dX7_findOrder_85 : decode cX7_findOrder 85 = .ok (.iadd, 1) := by decide +kernel
theorem dX7_findOrder_86 : decode cX7_findOrder 86 = .ok (.iaload, 1) := by decide +kernel
theorem dX7_findOrder_87 : decode cX7_findOrder 87 = .ok (.iadd, 1) := by decide +kernel
theorem dX7_findOrder_88 : decode cX7_findOrder 88 = .ok (.istore_n 3, 1) := by decide +kernel
theorem dX7_findOrder_89 : decode cX7_findOrder 89 = .ok (.iload_n 1, 1) := by decide +kernel
theorem dX7_findOrder_90 : decode cX7_findOrder 90 = .ok (.iconst 1, 1) := by decide +kernel
theorem dX7_findOrder_91 : decode cX7_findOrder 91 = .ok (.iload 5, 2) := by decide +kernel
theorem dX7_findOrder_93 : decode cX7_findOrder 93 = .ok (.ishl, 1) := by decide +kernel
theorem dX7_findOrder_94 : decode cX7_findOrder 94 = .ok (.ior, 1) := by decide +kernel
theorem dX7_findOrder_95 : decode cX7_findOrder 95 = .ok (.istore_n 1, 1) := by decide +kernel
theorem dX7_findOrder_96 : decode cX7_findOrder 96 = .ok (.iload 5, 2) := by decide +kernel
theorem dX7_findOrder_98 : decode cX7_findOrder 98 = .ok (.istore_n 2, 1) := by decide +kernel
theorem dX7_findOrder_99 : decode cX7_findOrder 99 = .ok (.iinc 4 1, 3) := by decide +kernel
theorem dX7_findOrder_102 : decode cX7_findOrder 102 = .ok (.goto (-87), 3) := by decide +kernel
theorem dX7_findOrder_105 : decode cX7_findOrder 105 = .ok (.return_, 1) := by decide +kernel
theorem okX7_findOrder : ab_okM MX7_findOrder 0 := ⟨by decide, ⟨by decide, by decide⟩, ab_in 1633 (by decide +kernel) (by decide +kernel), ab_in 98 (by decide +kernel) (by decide +kernel), by decide +kernel, by decide⟩
set_option maxHeartbeats 4000000 in
set_option maxRecDepth 100000 in
def lX7_findOrder_15  (K : ab_X → Prop)  (L15 : Int32 → Int32 → Int32 → Int32 → ab_X → Prop) (v1 : Int32) (v2 : Int32) (v3 : Int32) (v4 : Int32) (x : ab_X) : Prop := (((x.1 234 5) ≤ v4 → K x) ∧ (¬ (x.1 234 5) ≤ v4 → (((x.1 234 11) ≤ v3 → K x) ∧ (¬ (x.1 234 11) ≤ v3 → wX7_nextStop v1 v2 v3 x (fun r1 => ((¬ r1 = (-1) → (vp_in r1 8 ∧ vp_in (x.1 234 12) 8 ∧ vp_in ((v2 * 8) + r1) 72 ∧ L15 (v1 ||| (1 <<< (r1 &&& 31))) r1 (v3 + ((wr (wr x 240 (Int32.toNatClampNeg (x.1 234 12)) (x.1 235 (Int32.toNatClampNeg r1))) 234 12 (((wr x 240 (Int32.toNatClampNeg (x.1 234 12)) (x.1 235 (Int32.toNatClampNeg r1))).1 234 12) + 1)).1 239 (Int32.toNatClampNeg ((v2 * 8) + r1)))) (v4 + 1) (wr (wr x 240 (Int32.toNatClampNeg (x.1 234 12)) (x.1 235 (Int32.toNatClampNeg r1))) 234 12 (((wr x 240 (Int32.toNatClampNeg (x.1 234 12)) (x.1 235 (Int32.toNatClampNeg r1))).1 234 12) + 1)))) ∧ (r1 = (-1) → K x)))))))
set_option maxHeartbeats 4000000 in
set_option maxRecDepth 100000 in
theorem sX7_findOrder_15 (v1 : Int32) (v2 : Int32) (v3 : Int32) (v4 : Int32)  (x : ab_X) (K : ab_X → Prop)  (d bc bs : Nat) (hdp : 3 ≤ d)  (h : Lp5 (lX7_findOrder_15  K ) v1 v2 v3 v4 x) : EW MX7_findOrder 15 [(0, .ref 234), (1, .int v1), (2, .int v2), (3, .int v3), (4, .int v4)] [] (aS x) d bc bs (liV K) := by
  refine Lp5.use (P := fun v1 v2 v3 v4 x => EW MX7_findOrder 15 [(0, .ref 234), (1, .int v1), (2, .int v2), (3, .int v3), (4, .int v4)] [] (aS x) d bc bs (liV K)) (fun L15 v1 v2 v3 v4 x hL15 h => ?_) v1 v2 v3 v4 x h
  unfold lX7_findOrder_15 at h
  refine EW_iload (pc2 := 17) rfl dX7_findOrder_15 4 rfl ?_
  refine EW_aload_n (pc2 := 18) rfl dX7_findOrder_17 0 rfl ?_
  refine AW_geti ⟨gfRX7_71, rfl⟩ (pc2 := 21) rfl dX7_findOrder_18 q234 ?_
  refine EW_icmp_ge (tgt := 105) (pc2 := 24) rfl dX7_findOrder_21 (by decide) (fun q => ?_) (fun q => ?_)
  · replace h := h.1 q
    exact EW_vret rfl dX7_findOrder_105 ⟨_, rfl, rfl, h⟩
  · replace h := h.2 q
    refine EW_iload_n (pc2 := 25) rfl dX7_findOrder_24 3 rfl ?_
    refine EW_aload_n (pc2 := 26) rfl dX7_findOrder_25 0 rfl ?_
    refine AW_geti ⟨gfRX7_119, rfl⟩ (pc2 := 29) rfl dX7_findOrder_26 q234 ?_
    refine EW_icmp_ge (tgt := 105) (pc2 := 32) rfl dX7_findOrder_29 (by decide) (fun q => ?_) (fun q => ?_)
    · replace h := h.1 q
      exact EW_vret rfl dX7_findOrder_105 ⟨_, rfl, rfl, h⟩
    · replace h := h.2 q
      refine EW_aload_n (pc2 := 33) rfl dX7_findOrder_32 0 rfl ?_
      refine EW_iload_n (pc2 := 34) rfl dX7_findOrder_33 1 rfl ?_
      refine EW_iload_n (pc2 := 35) rfl dX7_findOrder_34 2 rfl ?_
      refine EW_iload_n (pc2 := 36) rfl dX7_findOrder_35 3 rfl ?_
      refine AW_invV (M' := MX7_nextStop) [.int v1, .int v2, .int v3] (rest := []) mlRX7_125 okX7_nextStop (pc2 := 39) rfl dX7_findOrder_36 rfl rfl (Nat.le_of_ble_eq_true rfl) (Nat.le_of_ble_eq_true rfl) (d' := 2) (by omega) q234 ⟨by decide, rfl⟩ (EW_mono (fun _ _ hr => ?_) (sX7_nextStop v1 v2 v3  x _ _ 0 0 (Nat.le_refl _) h))
      obtain ⟨r1, rfl, rfl, h⟩ := hr
      refine EW_istore (pc2 := 41) rfl dX7_findOrder_39 (by decide) [1, 2, 3, 4, 5, 0] [(0, .ref 234), (1, .int v1), (2, .int v2), (3, .int v3), (4, .int v4), (5, .int r1)] rfl ?_
      refine EW_iload (pc2 := 43) rfl dX7_findOrder_41 5 rfl ?_
      refine EW_iconst (pc2 := 44) (v := (-1)) rfl dX7_findOrder_43 (by decide) ?_
      refine EW_icmp_ne (tgt := 48) (pc2 := 47) rfl dX7_findOrder_44 (by decide) (fun q => ?_) (fun q => ?_)
      · replace h := h.1 q
        refine EW_aload_n (pc2 := 49) rfl dX7_findOrder_48 0 rfl ?_
        refine AW_getr (r := 240) ⟨gfRX7_27, rfl⟩ (pc2 := 52) rfl dX7_findOrder_49 q234 rfl ?_
        refine EW_aload_n (pc2 := 53) rfl dX7_findOrder_52 0 rfl ?_
        refine AW_geti ⟨gfRX7_122, rfl⟩ (pc2 := 56) rfl dX7_findOrder_53 q234 ?_
        refine EW_aload_n (pc2 := 57) rfl dX7_findOrder_56 0 rfl ?_
        refine AW_getr (r := 235) ⟨gfRX7_9, rfl⟩ (pc2 := 60) rfl dX7_findOrder_57 q234 rfl ?_
        refine EW_iload (pc2 := 62) rfl dX7_findOrder_60 5 rfl ?_
        obtain ⟨b2, h⟩ := h
        refine AW_iald (pc2 := 63) rfl dX7_findOrder_62 q235 b2 ?_
        obtain ⟨b3, h⟩ := h
        refine AW_iast (pc2 := 64) rfl dX7_findOrder_63 q240 b3 ?_
        refine EW_aload_n (pc2 := 65) rfl dX7_findOrder_64 0 rfl ?_
        refine EW_dup (pc2 := 66) rfl dX7_findOrder_65 rfl ?_
        refine AW_geti ⟨gfRX7_122, rfl⟩ (pc2 := 69) rfl dX7_findOrder_66 q234 ?_
        refine EW_iconst (pc2 := 70) (v := 1) rfl dX7_findOrder_69 (by decide) ?_
        refine EW_iadd (pc2 := 71) rfl dX7_findOrder_70 ?_
        refine AW_puti ⟨gfRX7_122, rfl, rfl⟩ (pc2 := 74) rfl dX7_findOrder_71 q234 ?_
        refine EW_iload_n (pc2 := 75) rfl dX7_findOrder_74 3 rfl ?_
        refine EW_aload_n (pc2 := 76) rfl dX7_findOrder_75 0 rfl ?_
        refine AW_getr (r := 239) ⟨gfRX7_24, rfl⟩ (pc2 := 79) rfl dX7_findOrder_76 q234 rfl ?_
        refine EW_iload_n (pc2 := 80) rfl dX7_findOrder_79 2 rfl ?_
        refine EW_bipush (pc2 := 82) (v := 8) rfl dX7_findOrder_80 (by decide) ?_
        refine EW_imul (pc2 := 83) rfl dX7_findOrder_82 ?_
        refine EW_iload (pc2 := 85) rfl dX7_findOrder_83 5 rfl ?_
        refine EW_iadd (pc2 := 86) rfl dX7_findOrder_85 ?_
        obtain ⟨b4, h⟩ := h
        refine AW_iald (pc2 := 87) rfl dX7_findOrder_86 q239 b4 ?_
        refine EW_iadd (pc2 := 88) rfl dX7_findOrder_87 ?_
        refine EW_istore_n (pc2 := 89) rfl dX7_findOrder_88 (by decide) [1, 2, 3, 0, 4, 5] [(0, .ref 234), (1, .int v1), (2, .int v2), (3, .int (v3 + ((wr (wr x 240 (Int32.toNatClampNeg (x.1 234 12)) (x.1 235 (Int32.toNatClampNeg r1))) 234 12 (((wr x 240 (Int32.toNatClampNeg (x.1 234 12)) (x.1 235 (Int32.toNatClampNeg r1))).1 234 12) + 1)).1 239 (Int32.toNatClampNeg ((v2 * 8) + r1))))), (4, .int v4), (5, .int r1)] rfl ?_
        refine EW_iload_n (pc2 := 90) rfl dX7_findOrder_89 1 rfl ?_
        refine EW_iconst (pc2 := 91) (v := 1) rfl dX7_findOrder_90 (by decide) ?_
        refine EW_iload (pc2 := 93) rfl dX7_findOrder_91 5 rfl ?_
        refine EW_ishl (pc2 := 94) rfl dX7_findOrder_93 ?_
        refine EW_ior (pc2 := 95) rfl dX7_findOrder_94 ?_
        refine EW_istore_n (pc2 := 96) rfl dX7_findOrder_95 (by decide) [1, 0, 2, 3, 4, 5] [(0, .ref 234), (1, .int (v1 ||| (1 <<< (r1 &&& 31)))), (2, .int v2), (3, .int (v3 + ((wr (wr x 240 (Int32.toNatClampNeg (x.1 234 12)) (x.1 235 (Int32.toNatClampNeg r1))) 234 12 (((wr x 240 (Int32.toNatClampNeg (x.1 234 12)) (x.1 235 (Int32.toNatClampNeg r1))).1 234 12) + 1)).1 239 (Int32.toNatClampNeg ((v2 * 8) + r1))))), (4, .int v4), (5, .int r1)] rfl ?_
        refine EW_iload (pc2 := 98) rfl dX7_findOrder_96 5 rfl ?_
        refine EW_istore_n (pc2 := 99) rfl dX7_findOrder_98 (by decide) [1, 2, 0, 3, 4, 5] [(0, .ref 234), (1, .int (v1 ||| (1 <<< (r1 &&& 31)))), (2, .int r1), (3, .int (v3 + ((wr (wr x 240 (Int32.toNatClampNeg (x.1 234 12)) (x.1 235 (Int32.toNatClampNeg r1))) 234 12 (((wr x 240 (Int32.toNatClampNeg (x.1 234 12)) (x.1 235 (Int32.toNatClampNeg r1))).1 234 12) + 1)).1 239 (Int32.toNatClampNeg ((v2 * 8) + r1))))), (4, .int v4), (5, .int r1)] rfl ?_
        refine EW_iinc (v4 + 1) (pc2 := 102) rfl dX7_findOrder_99 4 rfl rfl (by decide) [1, 2, 3, 4, 0, 5] [(0, .ref 234), (1, .int (v1 ||| (1 <<< (r1 &&& 31)))), (2, .int r1), (3, .int (v3 + ((wr (wr x 240 (Int32.toNatClampNeg (x.1 234 12)) (x.1 235 (Int32.toNatClampNeg r1))) 234 12 (((wr x 240 (Int32.toNatClampNeg (x.1 234 12)) (x.1 235 (Int32.toNatClampNeg r1))).1 234 12) + 1)).1 239 (Int32.toNatClampNeg ((v2 * 8) + r1))))), (4, .int (v4 + 1)), (5, .int r1)] rfl ?_
        refine EW_goto (tgt := 15) dX7_findOrder_102 (by decide) ?_
        refine EW_ls [0, 1, 2, 3, 4] rfl ?_
        exact hL15 (v1 ||| (1 <<< (r1 &&& 31))) r1 (v3 + ((wr (wr x 240 (Int32.toNatClampNeg (x.1 234 12)) (x.1 235 (Int32.toNatClampNeg r1))) 234 12 (((wr x 240 (Int32.toNatClampNeg (x.1 234 12)) (x.1 235 (Int32.toNatClampNeg r1))).1 234 12) + 1)).1 239 (Int32.toNatClampNeg ((v2 * 8) + r1)))) (v4 + 1) (wr (wr x 240 (Int32.toNatClampNeg (x.1 234 12)) (x.1 235 (Int32.toNatClampNeg r1))) 234 12 (((wr x 240 (Int32.toNatClampNeg (x.1 234 12)) (x.1 235 (Int32.toNatClampNeg r1))).1 234 12) + 1)) h
      · replace h := h.2 q
        exact EW_vret rfl dX7_findOrder_47 ⟨_, rfl, rfl, h⟩
set_option maxHeartbeats 4000000 in
set_option maxRecDepth 100000 in
def wX7_findOrder  (x : ab_X) (K : ab_X → Prop) : Prop := Lp5 (lX7_findOrder_15 K ) 0 8 0 0 (wr x 234 12 0)
set_option maxHeartbeats 4000000 in
set_option maxRecDepth 100000 in
theorem sX7_findOrder   (x : ab_X) (K : ab_X → Prop) (d bc bs : Nat) (hdp : 3 ≤ d) (h : wX7_findOrder  x K) : EW MX7_findOrder 0 [(0, .ref 234)] [] (aS x) d bc bs (liV K) := by
  unfold wX7_findOrder at h
  refine EW_aload_n (pc2 := 1) rfl dX7_findOrder_0 0 rfl ?_
  refine EW_iconst (pc2 := 2) (v := 0) rfl dX7_findOrder_1 (by decide) ?_
  refine AW_puti ⟨gfRX7_122, rfl, rfl⟩ (pc2 := 5) rfl dX7_findOrder_2 q234 ?_
  refine EW_iconst (pc2 := 6) (v := 0) rfl dX7_findOrder_5 (by decide) ?_
  refine EW_istore_n (pc2 := 7) rfl dX7_findOrder_6 (by decide) [1, 0] [(0, .ref 234), (1, .int 0)] rfl ?_
  refine EW_bipush (pc2 := 9) (v := 8) rfl dX7_findOrder_7 (by decide) ?_
  refine EW_istore_n (pc2 := 10) rfl dX7_findOrder_9 (by decide) [1, 2, 0] [(0, .ref 234), (1, .int 0), (2, .int 8)] rfl ?_
  refine EW_iconst (pc2 := 11) (v := 0) rfl dX7_findOrder_10 (by decide) ?_
  refine EW_istore_n (pc2 := 12) rfl dX7_findOrder_11 (by decide) [1, 2, 3, 0] [(0, .ref 234), (1, .int 0), (2, .int 8), (3, .int 0)] rfl ?_
  refine EW_iconst (pc2 := 13) (v := 0) rfl dX7_findOrder_12 (by decide) ?_
  refine EW_istore (pc2 := 15) rfl dX7_findOrder_13 (by decide) [1, 2, 3, 4, 0] [(0, .ref 234), (1, .int 0), (2, .int 8), (3, .int 0), (4, .int 0)] rfl ?_
  exact sX7_findOrder_15 0 8 0 0 (wr x 234 12 0) K d bc bs hdp h
theorem gfRX7_74 : ab_L RX7 74 10 2 := ⟨by decide, by decide, ab_in 314 (by decide +kernel) (by decide +kernel)⟩
theorem gfRX7_44 : ab_L RX7 44 7 2 := ⟨by decide, by decide, ab_in 673 (by decide +kernel) (by decide +kernel)⟩
theorem mlRX7_95 : Cond.methodLink RX7 95 yX5_failures ∈ ab_G ∧ Cond.instanceMethod yX5_failures ∈ ab_G ∧ Cond.selects RX5 yX5_failures yX5_failures ∈ ab_G := ⟨ab_in 1603 (by decide +kernel) (by decide +kernel), ab_in 1556 (by decide +kernel) (by decide +kernel), ab_in 1557 (by decide +kernel) (by decide +kernel)⟩
theorem mlRX7_100 : Cond.methodLink RX7 100 yX5_daysSinceLook ∈ ab_G ∧ Cond.instanceMethod yX5_daysSinceLook ∈ ab_G ∧ Cond.selects RX5 yX5_daysSinceLook yX5_daysSinceLook ∈ ab_G := ⟨ab_in 1604 (by decide +kernel) (by decide +kernel), ab_in 1572 (by decide +kernel) (by decide +kernel), ab_in 1573 (by decide +kernel) (by decide +kernel)⟩
abbrev MX7_findStops : ab_M := (yX7_findStops, cX7_findStops, 3, none)
theorem dX7_findStops_0 : decode cX7_findStops 0 = .ok (.aload_n 0, 1) := by decide +kernel
theorem dX7_findStops_1 : decode cX7_findStops 1 = .ok (.iconst 0, 1) := by decide +kernel
theorem dX7_findStops_2 : decode cX7_findStops 2 = .ok (.putfield 71, 3) := by decide +kernel
theorem dX7_findStops_5 : decode cX7_findStops 5 = .ok (.iconst 0, 1) := by decide +kernel
theorem dX7_findStops_6 : decode cX7_findStops 6 = .ok (.istore_n 2, 1) := by decide +kernel
theorem dX7_findStops_7 : decode cX7_findStops 7 = .ok (.iload_n 2, 1) := by decide +kernel
theorem dX7_findStops_8 : decode cX7_findStops 8 = .ok (.aload_n 0, 1) := by decide +kernel
theorem dX7_findStops_9 : decode cX7_findStops 9 = .ok (.getfield 40, 3) := by decide +kernel
theorem dX7_findStops_12 : decode cX7_findStops 12 = .ok (.getfield 74, 3) := by decide +kernel
theorem dX7_findStops_15 : decode cX7_findStops 15 = .ok (.if_icmp .ge 102, 3) := by decide +kernel
theorem dX7_findStops_18 : decode cX7_findStops 18 = .ok (.aload_n 0, 1) := by decide +kernel
theorem dX7_findStops_19 : decode cX7_findStops 19 = .ok (.getfield 71, 3) := by decide +kernel
theorem dX7_findStops_22 : decode cX7_findStops 22 = .ok (.bipush 8, 2) := by decide +kernel
theorem dX7_findStops_24 : decode cX7_findStops 24 = .ok (.if_icmp .ge 93, 3) := by decide +kernel
theorem dX7_findStops_27 : decode cX7_findStops 27 = .ok (.aload_n 0, 1) := by decide +kernel
theorem dX7_findStops_28 : decode cX7_findStops 28 = .ok (.getfield 36, 3) := by decide +kernel
theorem dX7_findStops_31 : decode cX7_findStops 31 = .ok (.aload_n 0, 1) := by decide +kernel
theorem dX7_findStops_32 : decode cX7_findStops 32 = .ok (.getfield 48, 3) := by decide +kernel
theorem dX7_findStops_35 : decode cX7_findStops 35 = .ok (.aload_n 0, 1) := by decide +kernel
theorem dX7_findStops_36 : decode cX7_findStops 36 = .ok (.getfield 40, 3) := by decide +kernel
theorem dX7_findStops_39 : decode cX7_findStops 39 = .ok (.getfield 79, 3) := by decide +kernel
theorem dX7_findStops_42 : decode cX7_findStops 42 = .ok (.iload_n 2, 1) := by decide +kernel
theorem dX7_findStops_43 : decode cX7_findStops 43 = .ok (.aaload, 1) := by decide +kernel
theorem dX7_findStops_44 : decode cX7_findStops 44 = .ok (.getfield 83, 3) := by decide +kernel
theorem dX7_findStops_47 : decode cX7_findStops 47 = .ok (.invokevirtual 88, 3) := by decide +kernel
theorem dX7_findStops_50 : decode cX7_findStops 50 = .ok (.ldc 94, 2) := by decide +kernel
theorem dX7_findStops_52 : decode cX7_findStops 52 = .ok (.if_icmp .ge 59, 3) := by decide +kernel
theorem dX7_findStops_55 : decode cX7_findStops 55 = .ok (.aload_n 0, 1) := by decide +kernel
theorem dX7_findStops_56 : decode cX7_findStops 56 = .ok (.getfield 9, 3) := by decide +kernel
theorem dX7_findStops_59 : decode cX7_findStops 59 = .ok (.aload_n 0, 1) := by decide +kernel
theorem dX7_findStops_60 : decode cX7_findStops 60 = .ok (.getfield 71, 3) := by decide +kernel
theorem dX7_findStops_63 : decode cX7_findStops 63 = .ok (.iload_n 2, 1) := by decide +kernel
theorem dX7_findStops_64 : decode cX7_findStops 64 = .ok (.iastore, 1) := by decide +kernel
theorem dX7_findStops_65 : decode cX7_findStops 65 = .ok (.aload_n 0, 1) := by decide +kernel
theorem dX7_findStops_66 : decode cX7_findStops 66 = .ok (.getfield 15, 3) := by decide +kernel
theorem dX7_findStops_69 : decode cX7_findStops 69 = .ok (.aload_n 0, 1) := by decide +kernel
theorem dX7_findStops_70 : decode cX7_findStops 70 = .ok (.getfield 71, 3) := by decide +kernel
theorem dX7_findStops_73 : decode cX7_findStops 73 = .ok (.bipush 10, 2) := by decide +kernel
theorem dX7_findStops_75 : decode cX7_findStops 75 = .ok (.aload_n 0, 1) := by decide +kernel
theorem dX7_findStops_76 : decode cX7_findStops 76 = .ok (.getfield 44, 3) := by decide +kernel
theorem dX7_findStops_79 : decode cX7_findStops 79 = .ok (.iload_n 2, 1) := by decide +kernel
theorem dX7_findStops_80 : decode cX7_findStops 80 = .ok (.iload_n 1, 1) := by decide +kernel
theorem dX7_findStops_81 : decode cX7_findStops 81 = .ok (.invokevirtual 95, 3) := by decide +kernel
theorem dX7_findStops_84 : decode cX7_findStops 84 = .ok (.imul, 1) := by decide +kernel
theorem dX7_findStops_85 : decode cX7_findStops 85 = .ok (.bipush 30, 2) := by decide +kernel
theorem dX7_findStops_87 : decode cX7_findStops 87 = .ok (.aload_n 0, 1) := by decide +kernel
theorem dX7_findStops_88 : decode cX7_findStops 88 = .ok (.getfield 44, 3) := by decide +kernel
theorem dX7_findStops_91 : decode cX7_findStops 91 = .ok (.iload_n 2, 1) := by decide +kernel
theorem dX7_findStops_92 : decode cX7_findStops 92 = .ok (.iload_n 1, 1) := by decide +kernel
theorem dX7_findStops_93 : decode cX7_findStops 93 = .ok (.invokevirtual 100, 3) := by decide +kernel
theorem dX7_findStops_96 : decode cX7_findStops 96 = .ok (.invokestatic 103, 3) := by decide +kernel
theorem dX7_findStops_99 : decode cX7_findStops 99 = .ok (.iadd, 1) := by decide +kernel
theorem dX7_findStops_100 : decode cX7_findStops 100 = .ok (.iastore, 1) := by decide +kernel
theorem dX7_findStops_101 : decode cX7_findStops 101 = .ok (.aload_n 0, 1) := by decide +kernel
theorem dX7_findStops_102 : decode cX7_findStops 102 = .ok (.dup, 1) := by decide +kernel
theorem dX7_findStops_103 : decode cX7_findStops 103 = .ok (.getfield 71, 3) := by decide +kernel
theorem dX7_findStops_106 : decode cX7_findStops 106 = .ok (.iconst 1, 1) := by decide +kernel
theorem dX7_findStops_107 : decode cX7_findStops 107 = .ok (.iadd, 1) := by decide +kernel
theorem dX7_findStops_108 : decode cX7_findStops 108 = .ok (.putfield 71, 3) := by decide +kernel
theorem dX7_findStops_111 : decode cX7_findStops 111 = .ok (.iinc 2 1, 3) := by decide +kernel
theorem dX7_findStops_114 : decode cX7_findStops 114 = .ok (.goto (-107), 3) := by decide +kernel
theorem dX7_findStops_117 : decode cX7_findStops 117 = .ok (.return_, 1) := by decide +kernel
theorem okX7_findStops : ab_okM MX7_findStops 1 := ⟨by decide, ⟨by decide, by decide⟩, ab_in 1600 (by decide +kernel) (by decide +kernel), ab_in 98 (by decide +kernel) (by decide +kernel), by decide +kernel, by decide⟩
set_option maxHeartbeats 4000000 in
set_option maxRecDepth 100000 in
def lX7_findStops_7 (v1 : Int32) (K : ab_X → Prop)  (L7 : Int32 → ab_X → Prop) (v2 : Int32) (x : ab_X) : Prop := (((x.1 9 2) ≤ v2 → K x) ∧ (¬ (x.1 9 2) ≤ v2 → ((8 ≤ (x.1 234 5) → K x) ∧ (¬ 8 ≤ (x.1 234 5) → (vp_in v2 12 ∧ wX6_walk (x.1 234 8) (x.1 (30 + 3 * Int32.toNatClampNeg v2) 1) x (fun r2 => ((1000000 ≤ r2 → L7 (v2 + 1) x) ∧ (¬ 1000000 ≤ r2 → (vp_in (x.1 234 5) 8 ∧ wX5_failures v2 v1 (wr x 235 (Int32.toNatClampNeg (x.1 234 5)) v2) (fun r4 x5 => wX5_daysSinceLook v2 v1 x5 (fun r6 => (vp_in ((wr x 235 (Int32.toNatClampNeg (x.1 234 5)) v2).1 234 5) 8 ∧ L7 (v2 + 1) (wr (wr x5 236 (Int32.toNatClampNeg ((wr x 235 (Int32.toNatClampNeg (x.1 234 5)) v2).1 234 5)) ((10 * r4) + (imin 30 r6))) 234 5 (((wr x5 236 (Int32.toNatClampNeg ((wr x 235 (Int32.toNatClampNeg (x.1 234 5)) v2).1 234 5)) ((10 * r4) + (imin 30 r6))).1 234 5) + 1))))))))))))))
set_option maxHeartbeats 4000000 in
set_option maxRecDepth 100000 in
theorem sX7_findStops_7 (v1 : Int32) (v2 : Int32)  (x : ab_X) (K : ab_X → Prop)  (d bc bs : Nat) (hdp : 4 ≤ d)  (h : Lp2 (lX7_findStops_7 v1 K ) v2 x) : EW MX7_findStops 7 [(0, .ref 234), (1, .int v1), (2, .int v2)] [] (aS x) d bc bs (liV K) := by
  refine Lp2.use (P := fun v2 x => EW MX7_findStops 7 [(0, .ref 234), (1, .int v1), (2, .int v2)] [] (aS x) d bc bs (liV K)) (fun L7 v2 x hL7 h => ?_) v2 x h
  unfold lX7_findStops_7 at h
  refine EW_iload_n (pc2 := 8) rfl dX7_findStops_7 2 rfl ?_
  refine EW_aload_n (pc2 := 9) rfl dX7_findStops_8 0 rfl ?_
  refine AW_getr (r := 9) ⟨gfRX7_40, rfl⟩ (pc2 := 12) rfl dX7_findStops_9 q234 rfl ?_
  refine AW_geti ⟨gfRX7_74, rfl⟩ (pc2 := 15) rfl dX7_findStops_12 q9 ?_
  refine EW_icmp_ge (tgt := 117) (pc2 := 18) rfl dX7_findStops_15 (by decide) (fun q => ?_) (fun q => ?_)
  · replace h := h.1 q
    exact EW_vret rfl dX7_findStops_117 ⟨_, rfl, rfl, h⟩
  · replace h := h.2 q
    refine EW_aload_n (pc2 := 19) rfl dX7_findStops_18 0 rfl ?_
    refine AW_geti ⟨gfRX7_71, rfl⟩ (pc2 := 22) rfl dX7_findStops_19 q234 ?_
    refine EW_bipush (pc2 := 24) (v := 8) rfl dX7_findStops_22 (by decide) ?_
    refine EW_icmp_ge (tgt := 117) (pc2 := 27) rfl dX7_findStops_24 (by decide) (fun q => ?_) (fun q => ?_)
    · replace h := h.1 q
      exact EW_vret rfl dX7_findStops_117 ⟨_, rfl, rfl, h⟩
    · replace h := h.2 q
      refine EW_aload_n (pc2 := 28) rfl dX7_findStops_27 0 rfl ?_
      refine AW_getr (r := 1) ⟨gfRX7_36, rfl⟩ (pc2 := 31) rfl dX7_findStops_28 q234 rfl ?_
      refine EW_aload_n (pc2 := 32) rfl dX7_findStops_31 0 rfl ?_
      refine AW_geti ⟨gfRX7_48, rfl⟩ (pc2 := 35) rfl dX7_findStops_32 q234 ?_
      refine EW_aload_n (pc2 := 36) rfl dX7_findStops_35 0 rfl ?_
      refine AW_getr (r := 9) ⟨gfRX7_40, rfl⟩ (pc2 := 39) rfl dX7_findStops_36 q234 rfl ?_
      refine AW_getr (r := 10) ⟨gfRX7_79, rfl⟩ (pc2 := 42) rfl dX7_findStops_39 q9 rfl ?_
      refine EW_iload_n (pc2 := 43) rfl dX7_findStops_42 2 rfl ?_
      obtain ⟨b1, h⟩ := h
      refine AW_aald5 (pc2 := 44) rfl dX7_findStops_43 b1 ?_
      refine AW_geti ⟨gfRX7_83, rfl⟩ (pc2 := 47) rfl dX7_findStops_44 (isH.o (isH_of b1)) ?_
      refine AW_invV (M' := MX6_walk) [.int (x.1 234 8), .int (x.1 (30 + 3 * Int32.toNatClampNeg v2) 1)] (rest := []) mlRX7_88 okX6_walk (pc2 := 50) rfl dX7_findStops_47 rfl rfl (Nat.le_of_ble_eq_true rfl) (Nat.le_of_ble_eq_true rfl) (d' := 1) (by omega) q1 ⟨by decide, rfl⟩ (EW_mono (fun _ _ hr => ?_) (sX6_walk (x.1 234 8) (x.1 (30 + 3 * Int32.toNatClampNeg v2) 1)  x _ _ 0 0 (Nat.le_refl _) h))
      obtain ⟨r2, rfl, rfl, h⟩ := hr
      refine EW_ldc cnRX7_94 (pc2 := 52) rfl dX7_findStops_50 ?_
      refine EW_icmp_ge (tgt := 111) (pc2 := 55) rfl dX7_findStops_52 (by decide) (fun q => ?_) (fun q => ?_)
      · replace h := h.1 q
        refine EW_iinc (v2 + 1) (pc2 := 114) rfl dX7_findStops_111 2 rfl rfl (by decide) [1, 2, 0] [(0, .ref 234), (1, .int v1), (2, .int (v2 + 1))] rfl ?_
        refine EW_goto (tgt := 7) dX7_findStops_114 (by decide) ?_
        exact hL7 (v2 + 1) x h
      · replace h := h.2 q
        refine EW_aload_n (pc2 := 56) rfl dX7_findStops_55 0 rfl ?_
        refine AW_getr (r := 235) ⟨gfRX7_9, rfl⟩ (pc2 := 59) rfl dX7_findStops_56 q234 rfl ?_
        refine EW_aload_n (pc2 := 60) rfl dX7_findStops_59 0 rfl ?_
        refine AW_geti ⟨gfRX7_71, rfl⟩ (pc2 := 63) rfl dX7_findStops_60 q234 ?_
        refine EW_iload_n (pc2 := 64) rfl dX7_findStops_63 2 rfl ?_
        obtain ⟨b3, h⟩ := h
        refine AW_iast (pc2 := 65) rfl dX7_findStops_64 q235 b3 ?_
        refine EW_aload_n (pc2 := 66) rfl dX7_findStops_65 0 rfl ?_
        refine AW_getr (r := 236) ⟨gfRX7_15, rfl⟩ (pc2 := 69) rfl dX7_findStops_66 q234 rfl ?_
        refine EW_aload_n (pc2 := 70) rfl dX7_findStops_69 0 rfl ?_
        refine AW_geti ⟨gfRX7_71, rfl⟩ (pc2 := 73) rfl dX7_findStops_70 q234 ?_
        refine EW_bipush (pc2 := 75) (v := 10) rfl dX7_findStops_73 (by decide) ?_
        refine EW_aload_n (pc2 := 76) rfl dX7_findStops_75 0 rfl ?_
        refine AW_getr (r := 165) ⟨gfRX7_44, rfl⟩ (pc2 := 79) rfl dX7_findStops_76 q234 rfl ?_
        refine EW_iload_n (pc2 := 80) rfl dX7_findStops_79 2 rfl ?_
        refine EW_iload_n (pc2 := 81) rfl dX7_findStops_80 1 rfl ?_
        refine AW_invV (M' := MX5_failures) [.int v2, .int v1] (rest := [.int 10, .int ((wr x 235 (Int32.toNatClampNeg (x.1 234 5)) v2).1 234 5), .ref 236]) mlRX7_95 okX5_failures (pc2 := 84) rfl dX7_findStops_81 rfl rfl (Nat.le_of_ble_eq_true rfl) (Nat.le_of_ble_eq_true rfl) (d' := 3) (by omega) q165 ⟨by decide, rfl⟩ (EW_mono (fun _ _ hr => ?_) (sX5_failures v2 v1  (wr x 235 (Int32.toNatClampNeg (x.1 234 5)) v2) _ _ 0 0 (Nat.le_refl _) h))
        obtain ⟨r4, x5, rfl, rfl, h⟩ := hr
        refine EW_imul (pc2 := 85) rfl dX7_findStops_84 ?_
        refine EW_bipush (pc2 := 87) (v := 30) rfl dX7_findStops_85 (by decide) ?_
        refine EW_aload_n (pc2 := 88) rfl dX7_findStops_87 0 rfl ?_
        refine AW_getr (r := 165) ⟨gfRX7_44, rfl⟩ (pc2 := 91) rfl dX7_findStops_88 q234 rfl ?_
        refine EW_iload_n (pc2 := 92) rfl dX7_findStops_91 2 rfl ?_
        refine EW_iload_n (pc2 := 93) rfl dX7_findStops_92 1 rfl ?_
        refine AW_invV (M' := MX5_daysSinceLook) [.int v2, .int v1] (rest := [.int 30, .int (10 * r4), .int ((wr x 235 (Int32.toNatClampNeg (x.1 234 5)) v2).1 234 5), .ref 236]) mlRX7_100 okX5_daysSinceLook (pc2 := 96) rfl dX7_findStops_93 rfl rfl (Nat.le_of_ble_eq_true rfl) (Nat.le_of_ble_eq_true rfl) (d' := 0) (by omega) q165 ⟨by decide, rfl⟩ (EW_mono (fun _ _ hr => ?_) (sX5_daysSinceLook v2 v1  x5 _ _ 0 0 (Nat.le_refl _) h))
        obtain ⟨r6, rfl, rfl, h⟩ := hr
        refine AW_mmin mmRX7_103 (pc2 := 99) rfl dX7_findStops_96 (Nat.le_of_ble_eq_true rfl) (by omega) ?_
        refine EW_iadd (pc2 := 100) rfl dX7_findStops_99 ?_
        obtain ⟨b7, h⟩ := h
        refine AW_iast (pc2 := 101) rfl dX7_findStops_100 q236 b7 ?_
        refine EW_aload_n (pc2 := 102) rfl dX7_findStops_101 0 rfl ?_
        refine EW_dup (pc2 := 103) rfl dX7_findStops_102 rfl ?_
        refine AW_geti ⟨gfRX7_71, rfl⟩ (pc2 := 106) rfl dX7_findStops_103 q234 ?_
        refine EW_iconst (pc2 := 107) (v := 1) rfl dX7_findStops_106 (by decide) ?_
        refine EW_iadd (pc2 := 108) rfl dX7_findStops_107 ?_
        refine AW_puti ⟨gfRX7_71, rfl, rfl⟩ (pc2 := 111) rfl dX7_findStops_108 q234 ?_
        refine EW_iinc (v2 + 1) (pc2 := 114) rfl dX7_findStops_111 2 rfl rfl (by decide) [1, 2, 0] [(0, .ref 234), (1, .int v1), (2, .int (v2 + 1))] rfl ?_
        refine EW_goto (tgt := 7) dX7_findStops_114 (by decide) ?_
        exact hL7 (v2 + 1) (wr (wr x5 236 (Int32.toNatClampNeg ((wr x 235 (Int32.toNatClampNeg (x.1 234 5)) v2).1 234 5)) ((10 * r4) + (imin 30 r6))) 234 5 (((wr x5 236 (Int32.toNatClampNeg ((wr x 235 (Int32.toNatClampNeg (x.1 234 5)) v2).1 234 5)) ((10 * r4) + (imin 30 r6))).1 234 5) + 1)) h
set_option maxHeartbeats 4000000 in
set_option maxRecDepth 100000 in
def wX7_findStops (v1 : Int32) (x : ab_X) (K : ab_X → Prop) : Prop := Lp2 (lX7_findStops_7 v1 K ) 0 (wr x 234 5 0)
set_option maxHeartbeats 4000000 in
set_option maxRecDepth 100000 in
theorem sX7_findStops (v1 : Int32)  (x : ab_X) (K : ab_X → Prop) (d bc bs : Nat) (hdp : 4 ≤ d) (h : wX7_findStops v1 x K) : EW MX7_findStops 0 [(0, .ref 234), (1, .int v1)] [] (aS x) d bc bs (liV K) := by
  unfold wX7_findStops at h
  refine EW_aload_n (pc2 := 1) rfl dX7_findStops_0 0 rfl ?_
  refine EW_iconst (pc2 := 2) (v := 0) rfl dX7_findStops_1 (by decide) ?_
  refine AW_puti ⟨gfRX7_71, rfl, rfl⟩ (pc2 := 5) rfl dX7_findStops_2 q234 ?_
  refine EW_iconst (pc2 := 6) (v := 0) rfl dX7_findStops_5 (by decide) ?_
  refine EW_istore_n (pc2 := 7) rfl dX7_findStops_6 (by decide) [1, 2, 0] [(0, .ref 234), (1, .int v1), (2, .int 0)] rfl ?_
  exact sX7_findStops_7 v1 0 (wr x 234 5 0) K d bc bs hdp h
theorem mlRX7_52 : Cond.methodLink RX7 52 yX7_findStops ∈ ab_G ∧ Cond.instanceMethod yX7_findStops ∈ ab_G ∧ Cond.selects RX7 yX7_findStops yX7_findStops ∈ ab_G := ⟨ab_in 1597 (by decide +kernel) (by decide +kernel), ab_in 1598 (by decide +kernel) (by decide +kernel), ab_in 1599 (by decide +kernel) (by decide +kernel)⟩
theorem mlRX7_56 : Cond.methodLink RX7 56 yX7_fillWorths ∈ ab_G ∧ Cond.instanceMethod yX7_fillWorths ∈ ab_G ∧ Cond.selects RX7 yX7_fillWorths yX7_fillWorths ∈ ab_G := ⟨ab_in 1606 (by decide +kernel) (by decide +kernel), ab_in 1607 (by decide +kernel) (by decide +kernel), ab_in 1608 (by decide +kernel) (by decide +kernel)⟩
theorem mlRX7_59 : Cond.methodLink RX7 59 yX7_fillSteps ∈ ab_G ∧ Cond.instanceMethod yX7_fillSteps ∈ ab_G ∧ Cond.selects RX7 yX7_fillSteps yX7_fillSteps ∈ ab_G := ⟨ab_in 1610 (by decide +kernel) (by decide +kernel), ab_in 1611 (by decide +kernel) (by decide +kernel), ab_in 1612 (by decide +kernel) (by decide +kernel)⟩
theorem mlRX7_62 : Cond.methodLink RX7 62 yX7_fillRest ∈ ab_G ∧ Cond.instanceMethod yX7_fillRest ∈ ab_G ∧ Cond.selects RX7 yX7_fillRest yX7_fillRest ∈ ab_G := ⟨ab_in 1618 (by decide +kernel) (by decide +kernel), ab_in 1619 (by decide +kernel) (by decide +kernel), ab_in 1620 (by decide +kernel) (by decide +kernel)⟩
theorem mlRX7_65 : Cond.methodLink RX7 65 yX7_findBest ∈ ab_G ∧ Cond.instanceMethod yX7_findBest ∈ ab_G ∧ Cond.selects RX7 yX7_findBest yX7_findBest ∈ ab_G := ⟨ab_in 1626 (by decide +kernel) (by decide +kernel), ab_in 1627 (by decide +kernel) (by decide +kernel), ab_in 1628 (by decide +kernel) (by decide +kernel)⟩
theorem mlRX7_68 : Cond.methodLink RX7 68 yX7_findOrder ∈ ab_G ∧ Cond.instanceMethod yX7_findOrder ∈ ab_G ∧ Cond.selects RX7 yX7_findOrder yX7_findOrder ∈ ab_G := ⟨ab_in 1630 (by decide +kernel) (by decide +kernel), ab_in 1631 (by decide +kernel) (by decide +kernel), ab_in 1632 (by decide +kernel) (by decide +kernel)⟩
abbrev MX7_goRound : ab_M := (yX7_goRound, cX7_goRound, 4, none)
theorem dX7_goRound_0 : decode cX7_goRound 0 = .ok (.aload_n 0, 1) := by decide +kernel
theorem dX7_goRound_1 : decode cX7_goRound 1 = .ok (.iload_n 1, 1) := by decide +kernel
theorem dX7_goRound_2 : decode cX7_goRound 2 = .ok (.putfield 48, 3) := by decide +kernel
theorem dX7_goRound_5 : decode cX7_goRound 5 = .ok (.aload_n 0, 1) := by decide +kernel
theorem dX7_goRound_6 : decode cX7_goRound 6 = .ok (.iload_n 3, 1) := by decide +kernel
theorem dX7_goRound_7 : decode cX7_goRound 7 = .ok (.invokevirtual 52, 3) := by decide +kernel
theorem dX7_goRound_10 : decode cX7_goRound 10 = .ok (.aload_n 0, 1) := by decide +kernel
theorem dX7_goRound_11 : decode cX7_goRound 11 = .ok (.invokevirtual 56, 3) := by decide +kernel
theorem dX7_goRound_14 : decode cX7_goRound 14 = .ok (.aload_n 0, 1) := by decide +kernel
theorem dX7_goRound_15 : decode cX7_goRound 15 = .ok (.invokevirtual 59, 3) := by decide +kernel
theorem dX7_goRound_18 : decode cX7_goRound 18 = .ok (.aload_n 0, 1) := by decide +kernel
theorem dX7_goRound_19 : decode cX7_goRound 19 = .ok (.invokevirtual 62, 3) := by decide +kernel
theorem dX7_goRound_22 : decode cX7_goRound 22 = .ok (.aload_n 0, 1) := by decide +kernel
theorem dX7_goRound_23 : decode cX7_goRound 23 = .ok (.iload_n 2, 1) := by decide +kernel
theorem dX7_goRound_24 : decode cX7_goRound 24 = .ok (.invokevirtual 65, 3) := by decide +kernel
theorem dX7_goRound_27 : decode cX7_goRound 27 = .ok (.aload_n 0, 1) := by decide +kernel
theorem dX7_goRound_28 : decode cX7_goRound 28 = .ok (.invokevirtual 68, 3) := by decide +kernel
theorem dX7_goRound_31 : decode cX7_goRound 31 = .ok (.return_, 1) := by decide +kernel
theorem okX7_goRound : ab_okM MX7_goRound 3 := ⟨by decide, ⟨by decide, by decide⟩, ab_in 1596 (by decide +kernel) (by decide +kernel), ab_in 98 (by decide +kernel) (by decide +kernel), by decide +kernel, by decide⟩
set_option maxHeartbeats 4000000 in
set_option maxRecDepth 100000 in
def wX7_goRound (v1 : Int32) (v2 : Int32) (v3 : Int32) (x : ab_X) (K : ab_X → Prop) : Prop := wX7_findStops v3 (wr x 234 8 v1) (fun x1 => wX7_fillWorths x1 (fun x2 => wX7_fillSteps x2 (fun x3 => wX7_fillRest x3 (fun x4 => wX7_findBest v2 x4 (fun x5 => wX7_findOrder x5 (fun x6 => K x6))))))
set_option maxHeartbeats 4000000 in
set_option maxRecDepth 100000 in
theorem sX7_goRound (v1 : Int32) (v2 : Int32) (v3 : Int32)  (x : ab_X) (K : ab_X → Prop) (d bc bs : Nat) (hdp : 5 ≤ d) (h : wX7_goRound v1 v2 v3 x K) : EW MX7_goRound 0 [(0, .ref 234), (1, .int v1), (2, .int v2), (3, .int v3)] [] (aS x) d bc bs (liV K) := by
  unfold wX7_goRound at h
  refine EW_aload_n (pc2 := 1) rfl dX7_goRound_0 0 rfl ?_
  refine EW_iload_n (pc2 := 2) rfl dX7_goRound_1 1 rfl ?_
  refine AW_puti ⟨gfRX7_48, rfl, rfl⟩ (pc2 := 5) rfl dX7_goRound_2 q234 ?_
  refine EW_aload_n (pc2 := 6) rfl dX7_goRound_5 0 rfl ?_
  refine EW_iload_n (pc2 := 7) rfl dX7_goRound_6 3 rfl ?_
  refine AW_invV (M' := MX7_findStops) [.int v3] (rest := []) mlRX7_52 okX7_findStops (pc2 := 10) rfl dX7_goRound_7 rfl rfl (Nat.le_of_ble_eq_true rfl) (Nat.le_of_ble_eq_true rfl) (d' := 4) (by omega) q234 ⟨by decide, rfl⟩ (EW_mono (fun _ _ hr => ?_) (sX7_findStops v3  (wr x 234 8 v1) _ _ 0 0 (Nat.le_refl _) h))
  obtain ⟨x1, rfl, rfl, h⟩ := hr
  refine EW_aload_n (pc2 := 11) rfl dX7_goRound_10 0 rfl ?_
  refine AW_invV (M' := MX7_fillWorths) [] (rest := []) mlRX7_56 okX7_fillWorths (pc2 := 14) rfl dX7_goRound_11 rfl rfl (Nat.le_of_ble_eq_true rfl) (Nat.le_of_ble_eq_true rfl) (d' := 0) (by omega) q234 ⟨by decide, rfl⟩ (EW_mono (fun _ _ hr => ?_) (sX7_fillWorths   x1 _ _ 0 0 (Nat.le_refl _) h))
  obtain ⟨x2, rfl, rfl, h⟩ := hr
  refine EW_aload_n (pc2 := 15) rfl dX7_goRound_14 0 rfl ?_
  refine AW_invV (M' := MX7_fillSteps) [] (rest := []) mlRX7_59 okX7_fillSteps (pc2 := 18) rfl dX7_goRound_15 rfl rfl (Nat.le_of_ble_eq_true rfl) (Nat.le_of_ble_eq_true rfl) (d' := 2) (by omega) q234 ⟨by decide, rfl⟩ (EW_mono (fun _ _ hr => ?_) (sX7_fillSteps   x2 _ _ 0 0 (Nat.le_refl _) h))
  obtain ⟨x3, rfl, rfl, h⟩ := hr
  refine EW_aload_n (pc2 := 19) rfl dX7_goRound_18 0 rfl ?_
  refine AW_invV (M' := MX7_fillRest) [] (rest := []) mlRX7_62 okX7_fillRest (pc2 := 22) rfl dX7_goRound_19 rfl rfl (Nat.le_of_ble_eq_true rfl) (Nat.le_of_ble_eq_true rfl) (d' := 2) (by omega) q234 ⟨by decide, rfl⟩ (EW_mono (fun _ _ hr => ?_) (sX7_fillRest   x3 _ _ 0 0 (Nat.le_refl _) h))
  obtain ⟨x4, rfl, rfl, h⟩ := hr
  refine EW_aload_n (pc2 := 23) rfl dX7_goRound_22 0 rfl ?_
  refine EW_iload_n (pc2 := 24) rfl dX7_goRound_23 2 rfl ?_
  refine AW_invV (M' := MX7_findBest) [.int v2] (rest := []) mlRX7_65 okX7_findBest (pc2 := 27) rfl dX7_goRound_24 rfl rfl (Nat.le_of_ble_eq_true rfl) (Nat.le_of_ble_eq_true rfl) (d' := 1) (by omega) q234 ⟨by decide, rfl⟩ (EW_mono (fun _ _ hr => ?_) (sX7_findBest v2  x4 _ _ 0 0 (Nat.le_refl _) h))
  obtain ⟨x5, rfl, rfl, h⟩ := hr
  refine EW_aload_n (pc2 := 28) rfl dX7_goRound_27 0 rfl ?_
  refine AW_invV (M' := MX7_findOrder) [] (rest := []) mlRX7_68 okX7_findOrder (pc2 := 31) rfl dX7_goRound_28 rfl rfl (Nat.le_of_ble_eq_true rfl) (Nat.le_of_ble_eq_true rfl) (d' := 3) (by omega) q234 ⟨by decide, rfl⟩ (EW_mono (fun _ _ hr => ?_) (sX7_findOrder   x5 _ _ 0 0 (Nat.le_refl _) h))
  obtain ⟨x6, rfl, rfl, h⟩ := hr
  exact EW_vret rfl dX7_goRound_31 ⟨_, rfl, rfl, h⟩
theorem mlRX11_435 : Cond.methodLink RX11 435 yX7_goRound ∈ ab_G ∧ Cond.instanceMethod yX7_goRound ∈ ab_G ∧ Cond.selects RX7 yX7_goRound yX7_goRound ∈ ab_G := ⟨ab_in 1593 (by decide +kernel) (by decide +kernel), ab_in 1594 (by decide +kernel) (by decide +kernel), ab_in 1595 (by decide +kernel) (by decide +kernel)⟩
theorem gfRX11_445 : ab_L RX11 445 7 12 := ⟨by decide, by decide, ab_in 686 (by decide +kernel) (by decide +kernel)⟩
theorem gfRX11_442 : ab_L RX11 442 7 11 := ⟨by decide, by decide, ab_in 684 (by decide +kernel) (by decide +kernel)⟩
theorem gfRX11_439 : ab_L RX11 439 7 10 := ⟨by decide, by decide, ab_in 682 (by decide +kernel) (by decide +kernel)⟩
abbrev MX11_round : ab_M := (yX11_round, cX11_round, 4, (some .int))
theorem dX11_round_0 : decode cX11_round 0 = .ok (.iload_n 1, 1) := by decide +kernel
theorem dX11_round_1 : decode cX11_round 1 = .ok (.invokestatic 70, 3) := by decide +kernel
theorem dX11_round_4 : decode cX11_round 4 = .ok (.ifCond .eq 23, 3) := by decide +kernel
theorem dX11_round_7 : decode cX11_round 7 = .ok (.iload_n 2, 1) := by decide +kernel
theorem dX11_round_8 : decode cX11_round 8 = .ok (.iconst 0, 1) := by decide +kernel
theorem dX11_round_9 : decode cX11_round 9 = .ok (.sipush 500, 3) := by decide +kernel
theorem dX11_round_12 : decode cX11_round 12 = .ok (.invokestatic 74, 3) := by decide +kernel
theorem dX11_round_15 : decode cX11_round 15 = .ok (.ifCond .eq 12, 3) := by decide +kernel
theorem dX11_round_18 : decode cX11_round 18 = .ok (.iload_n 3, 1) := by decide +kernel
theorem dX11_round_19 : decode cX11_round 19 = .ok (.iconst 0, 1) := by decide +kernel
theorem dX11_round_20 : decode cX11_round 20 = .ok (.iconst 2, 1) := by decide +kernel
theorem dX11_round_21 : decode cX11_round 21 = .ok (.invokestatic 74, 3) := by decide +kernel
theorem dX11_round_24 : decode cX11_round 24 = .ok (.ifCond .ne 5, 3) := by decide +kernel
theorem dX11_round_27 : decode cX11_round 27 = .ok (.iconst (-1), 1) := by decide +kernel
theorem dX11_round_28 : decode cX11_round 28 = .ok (.ireturn, 1) := by decide +kernel
theorem dX11_round_29 : decode cX11_round 29 = .ok (.aload_n 0, 1) := by decide +kernel
theorem dX11_round_30 : decode cX11_round 30 = .ok (.getfield 55, 3) := by decide +kernel
theorem dX11_round_33 : decode cX11_round 33 = .ok (.iload_n 1, 1) := by decide +kernel
theorem dX11_round_34 : decode cX11_round 34 = .ok (.iload_n 2, 1) := by decide +kernel
theorem dX11_round_35 : decode cX11_round 35 = .ok (.aload_n 0, 1) := by decide +kernel
theorem dX11_round_36 : decode cX11_round 36 = .ok (.getfield 30, 3) := by decide +kernel
theorem dX11_round_39 : decode cX11_round 39 = .ok (.getfield 400, 3) := by decide +kernel
theorem dX11_round_42 : decode cX11_round 42 = .ok (.invokevirtual 435, 3) := by decide +kernel
theorem dX11_round_45 : decode cX11_round 45 = .ok (.iload_n 3, 1) := by decide +kernel
theorem dX11_round_46 : decode cX11_round 46 = .ok (.ifCond .ne 11, 3) := by decide +kernel
theorem dX11_round_49 : decode cX11_round 49 = .ok (.aload_n 0, 1) := by decide +kernel
theorem dX11_round_50 : decode cX11_round 50 = .ok (.getfield 55, 3) := by decide +kernel
theorem dX11_round_53 : decode cX11_round 53 = .ok (.getfield 439, 3) := by decide +kernel
theorem dX11_round_56 : decode cX11_round 56 = .ok (.ireturn, 1) := by decide +kernel
theorem dX11_round_57 : decode cX11_round 57 = .ok (.iload_n 3, 1) := by decide +kernel
theorem dX11_round_58 : decode cX11_round 58 = .ok (.iconst 1, 1) := by decide +kernel
theorem dX11_round_59 : decode cX11_round 59 = .ok (.if_icmp .ne 13, 3) := by decide +kernel
theorem dX11_round_62 : decode cX11_round 62 = .ok (.aload_n 0, 1) := by decide +kernel
theorem dX11_round_63 : decode cX11_round 63 = .ok (.getfield 55, 3) := by decide +kernel
theorem dX11_round_66 : decode cX11_round 66 = .ok (.getfield 442, 3) := by decide +kernel
theorem dX11_round_69 : decode cX11_round 69 = .ok (.goto 10, 3) := by decide +kernel
theorem dX11_round_72 : decode cX11_round 72 = .ok (.aload_n 0, 1) := by decide +kernel
theorem dX11_round_73 : decode cX11_round 73 = .ok (.getfield 55, 3) := by decide +kernel
theorem dX11_round_76 : decode cX11_round 76 = .ok (.getfield 445, 3) := by decide +kernel
theorem dX11_round_79 : decode cX11_round 79 = .ok (.ireturn, 1) := by decide +kernel
theorem okX11_round : ab_okM MX11_round 3 := ⟨by decide, ⟨by decide, by decide⟩, ab_in 1592 (by decide +kernel) (by decide +kernel), ab_in 86 (by decide +kernel) (by decide +kernel), by decide +kernel, by decide⟩
set_option maxHeartbeats 4000000 in
set_option maxRecDepth 100000 in
def wX11_round (v1 : Int32) (v2 : Int32) (v3 : Int32) (x : ab_X) (K : Int32 → ab_X → Prop) : Prop := wX11_isCorner v1 x (fun r1 => ((r1 = 0 → K (-1) x) ∧ (¬ r1 = 0 → wX11_within v2 0 500 x (fun r2 => ((r2 = 0 → K (-1) x) ∧ (¬ r2 = 0 → wX11_within v3 0 2 x (fun r3 => ((¬ r3 = 0 → wX7_goRound v1 v2 (x.1 66 12) x (fun x4 => ((¬ v3 = 0 → ((¬ v3 = 1 → K (x4.1 234 12) x4) ∧ (v3 = 1 → K (x4.1 234 11) x4))) ∧ (v3 = 0 → K (x4.1 234 10) x4)))) ∧ (r3 = 0 → K (-1) x)))))))))
set_option maxHeartbeats 4000000 in
set_option maxRecDepth 100000 in
theorem sX11_round (v1 : Int32) (v2 : Int32) (v3 : Int32)  (x : ab_X) (K : Int32 → ab_X → Prop) (d bc bs : Nat) (hdp : 6 ≤ d) (h : wX11_round v1 v2 v3 x K) : EW MX11_round 0 [(0, .ref 0), (1, .int v1), (2, .int v2), (3, .int v3)] [] (aS x) d bc bs (liI K) := by
  unfold wX11_round at h
  refine EW_iload_n (pc2 := 1) rfl dX11_round_0 1 rfl ?_
  refine AW_invS (M' := MX11_isCorner) [.int v1] (rest := []) mlRX11_70 okX11_isCorner (pc2 := 4) rfl dX11_round_1 rfl rfl (Nat.le_of_ble_eq_true rfl) (Nat.le_of_ble_eq_true rfl) (d' := 0) (by omega) (EW_mono (fun _ _ hr => ?_) (sX11_isCorner v1  x _ _ 0 0 (Nat.le_refl _) h))
  obtain ⟨r1, rfl, rfl, h⟩ := hr
  refine EW_if_eq (tgt := 27) (pc2 := 7) rfl dX11_round_4 (by decide) (fun q => ?_) (fun q => ?_)
  · replace h := h.1 q
    refine EW_iconst (pc2 := 28) (v := (-1)) rfl dX11_round_27 (by decide) ?_
    exact AW_iret rfl dX11_round_28 ⟨_, _, rfl, rfl, h⟩
  · replace h := h.2 q
    refine EW_iload_n (pc2 := 8) rfl dX11_round_7 2 rfl ?_
    refine EW_iconst (pc2 := 9) (v := 0) rfl dX11_round_8 (by decide) ?_
    refine EW_sipush (pc2 := 12) (v := 500) rfl dX11_round_9 (by decide) ?_
    refine AW_invS (M' := MX11_within) [.int v2, .int 0, .int 500] (rest := []) mlRX11_74 okX11_within (pc2 := 15) rfl dX11_round_12 rfl rfl (Nat.le_of_ble_eq_true rfl) (Nat.le_of_ble_eq_true rfl) (d' := 0) (by omega) (EW_mono (fun _ _ hr => ?_) (sX11_within v2 0 500  x _ _ 0 0 (Nat.le_refl _) h))
    obtain ⟨r2, rfl, rfl, h⟩ := hr
    refine EW_if_eq (tgt := 27) (pc2 := 18) rfl dX11_round_15 (by decide) (fun q => ?_) (fun q => ?_)
    · replace h := h.1 q
      refine EW_iconst (pc2 := 28) (v := (-1)) rfl dX11_round_27 (by decide) ?_
      exact AW_iret rfl dX11_round_28 ⟨_, _, rfl, rfl, h⟩
    · replace h := h.2 q
      refine EW_iload_n (pc2 := 19) rfl dX11_round_18 3 rfl ?_
      refine EW_iconst (pc2 := 20) (v := 0) rfl dX11_round_19 (by decide) ?_
      refine EW_iconst (pc2 := 21) (v := 2) rfl dX11_round_20 (by decide) ?_
      refine AW_invS (M' := MX11_within) [.int v3, .int 0, .int 2] (rest := []) mlRX11_74 okX11_within (pc2 := 24) rfl dX11_round_21 rfl rfl (Nat.le_of_ble_eq_true rfl) (Nat.le_of_ble_eq_true rfl) (d' := 0) (by omega) (EW_mono (fun _ _ hr => ?_) (sX11_within v3 0 2  x _ _ 0 0 (Nat.le_refl _) h))
      obtain ⟨r3, rfl, rfl, h⟩ := hr
      refine EW_if_ne (tgt := 29) (pc2 := 27) rfl dX11_round_24 (by decide) (fun q => ?_) (fun q => ?_)
      · replace h := h.1 q
        refine EW_aload_n (pc2 := 30) rfl dX11_round_29 0 rfl ?_
        refine AW_getr (r := 234) ⟨gfRX11_55, rfl⟩ (pc2 := 33) rfl dX11_round_30 q0 rfl ?_
        refine EW_iload_n (pc2 := 34) rfl dX11_round_33 1 rfl ?_
        refine EW_iload_n (pc2 := 35) rfl dX11_round_34 2 rfl ?_
        refine EW_aload_n (pc2 := 36) rfl dX11_round_35 0 rfl ?_
        refine AW_getr (r := 66) ⟨gfRX11_30, rfl⟩ (pc2 := 39) rfl dX11_round_36 q0 rfl ?_
        refine AW_geti ⟨gfRX11_400, rfl⟩ (pc2 := 42) rfl dX11_round_39 q66 ?_
        refine AW_invV (M' := MX7_goRound) [.int v1, .int v2, .int (x.1 66 12)] (rest := []) mlRX11_435 okX7_goRound (pc2 := 45) rfl dX11_round_42 rfl rfl (Nat.le_of_ble_eq_true rfl) (Nat.le_of_ble_eq_true rfl) (d' := 5) (by omega) q234 ⟨by decide, rfl⟩ (EW_mono (fun _ _ hr => ?_) (sX7_goRound v1 v2 (x.1 66 12)  x _ _ 0 0 (Nat.le_refl _) h))
        obtain ⟨x4, rfl, rfl, h⟩ := hr
        refine EW_iload_n (pc2 := 46) rfl dX11_round_45 3 rfl ?_
        refine EW_if_ne (tgt := 57) (pc2 := 49) rfl dX11_round_46 (by decide) (fun q => ?_) (fun q => ?_)
        · replace h := h.1 q
          refine EW_iload_n (pc2 := 58) rfl dX11_round_57 3 rfl ?_
          refine EW_iconst (pc2 := 59) (v := 1) rfl dX11_round_58 (by decide) ?_
          refine EW_icmp_ne (tgt := 72) (pc2 := 62) rfl dX11_round_59 (by decide) (fun q => ?_) (fun q => ?_)
          · replace h := h.1 q
            refine EW_aload_n (pc2 := 73) rfl dX11_round_72 0 rfl ?_
            refine AW_getr (r := 234) ⟨gfRX11_55, rfl⟩ (pc2 := 76) rfl dX11_round_73 q0 rfl ?_
            refine AW_geti ⟨gfRX11_445, rfl⟩ (pc2 := 79) rfl dX11_round_76 q234 ?_
            exact AW_iret rfl dX11_round_79 ⟨_, _, rfl, rfl, h⟩
          · replace h := h.2 q
            refine EW_aload_n (pc2 := 63) rfl dX11_round_62 0 rfl ?_
            refine AW_getr (r := 234) ⟨gfRX11_55, rfl⟩ (pc2 := 66) rfl dX11_round_63 q0 rfl ?_
            refine AW_geti ⟨gfRX11_442, rfl⟩ (pc2 := 69) rfl dX11_round_66 q234 ?_
            refine EW_goto (tgt := 79) dX11_round_69 (by decide) ?_
            exact AW_iret rfl dX11_round_79 ⟨_, _, rfl, rfl, h⟩
        · replace h := h.2 q
          refine EW_aload_n (pc2 := 50) rfl dX11_round_49 0 rfl ?_
          refine AW_getr (r := 234) ⟨gfRX11_55, rfl⟩ (pc2 := 53) rfl dX11_round_50 q0 rfl ?_
          refine AW_geti ⟨gfRX11_439, rfl⟩ (pc2 := 56) rfl dX11_round_53 q234 ?_
          exact AW_iret rfl dX11_round_56 ⟨_, _, rfl, rfl, h⟩
      · replace h := h.2 q
        refine EW_iconst (pc2 := 28) (v := (-1)) rfl dX11_round_27 (by decide) ?_
        exact AW_iret rfl dX11_round_28 ⟨_, _, rfl, rfl, h⟩
theorem gfRX11_448 : ab_L RX11 448 7 13 := ⟨by decide, by decide, ab_in 688 (by decide +kernel) (by decide +kernel)⟩
abbrev MX11_rounded : ab_M := (yX11_rounded, cX11_rounded, 4, (some .int))
theorem dX11_rounded_0 : decode cX11_rounded 0 = .ok (.iload_n 1, 1) := by decide +kernel
theorem dX11_rounded_1 : decode cX11_rounded 1 = .ok (.invokestatic 70, 3) := by decide +kernel
theorem dX11_rounded_4 : decode cX11_rounded 4 = .ok (.ifCond .eq 14, 3) := by decide +kernel
theorem dX11_rounded_7 : decode cX11_rounded 7 = .ok (.iload_n 2, 1) := by decide +kernel
theorem dX11_rounded_8 : decode cX11_rounded 8 = .ok (.iconst 0, 1) := by decide +kernel
theorem dX11_rounded_9 : decode cX11_rounded 9 = .ok (.sipush 500, 3) := by decide +kernel
theorem dX11_rounded_12 : decode cX11_rounded 12 = .ok (.invokestatic 74, 3) := by decide +kernel
theorem dX11_rounded_15 : decode cX11_rounded 15 = .ok (.ifCond .ne 5, 3) := by decide +kernel
theorem dX11_rounded_18 : decode cX11_rounded 18 = .ok (.iconst (-1), 1) := by decide +kernel
theorem dX11_rounded_19 : decode cX11_rounded 19 = .ok (.ireturn, 1) := by decide +kernel
theorem dX11_rounded_20 : decode cX11_rounded 20 = .ok (.aload_n 0, 1) := by decide +kernel
theorem dX11_rounded_21 : decode cX11_rounded 21 = .ok (.getfield 55, 3) := by decide +kernel
theorem dX11_rounded_24 : decode cX11_rounded 24 = .ok (.iload_n 1, 1) := by decide +kernel
theorem dX11_rounded_25 : decode cX11_rounded 25 = .ok (.iload_n 2, 1) := by decide +kernel
theorem dX11_rounded_26 : decode cX11_rounded 26 = .ok (.aload_n 0, 1) := by decide +kernel
theorem dX11_rounded_27 : decode cX11_rounded 27 = .ok (.getfield 30, 3) := by decide +kernel
theorem dX11_rounded_30 : decode cX11_rounded 30 = .ok (.getfield 400, 3) := by decide +kernel
theorem dX11_rounded_33 : decode cX11_rounded 33 = .ok (.invokevirtual 435, 3) := by decide +kernel
theorem dX11_rounded_36 : decode cX11_rounded 36 = .ok (.iload_n 3, 1) := by decide +kernel
theorem dX11_rounded_37 : decode cX11_rounded 37 = .ok (.aload_n 0, 1) := by decide +kernel
theorem dX11_rounded_38 : decode cX11_rounded 38 = .ok (.getfield 55, 3) := by decide +kernel
theorem dX11_rounded_41 : decode cX11_rounded 41 = .ok (.getfield 445, 3) := by decide +kernel
theorem dX11_rounded_44 : decode cX11_rounded 44 = .ok (.invokestatic 86, 3) := by decide +kernel
theorem dX11_rounded_47 : decode cX11_rounded 47 = .ok (.ifCond .eq 15, 3) := by decide +kernel
theorem dX11_rounded_50 : decode cX11_rounded 50 = .ok (.aload_n 0, 1) := by decide +kernel
theorem dX11_rounded_51 : decode cX11_rounded 51 = .ok (.getfield 55, 3) := by decide +kernel
theorem dX11_rounded_54 : decode cX11_rounded 54 = .ok (.getfield 448, 3) := by decide +kernel
theorem dX11_rounded_57 : decode cX11_rounded 57 = .ok (.iload_n 3, 1) := by decide +kernel
theorem dX11_rounded_58 : decode cX11_rounded 58 = .ok (.iaload, 1) := by decide +kernel
theorem dX11_rounded_59 : decode cX11_rounded 59 = .ok (.goto 4, 3) := by decide +kernel
theorem dX11_rounded_62 : decode cX11_rounded 62 = .ok (.iconst (-1), 1) := by decide +kernel
theorem dX11_rounded_63 : decode cX11_rounded 63 = .ok (.ireturn, 1) := by decide +kernel
theorem okX11_rounded : ab_okM MX11_rounded 3 := ⟨by decide, ⟨by decide, by decide⟩, ab_in 1645 (by decide +kernel) (by decide +kernel), ab_in 86 (by decide +kernel) (by decide +kernel), by decide +kernel, by decide⟩
set_option maxHeartbeats 4000000 in
set_option maxRecDepth 100000 in
def wX11_rounded (v1 : Int32) (v2 : Int32) (v3 : Int32) (x : ab_X) (K : Int32 → ab_X → Prop) : Prop := wX11_isCorner v1 x (fun r1 => ((r1 = 0 → K (-1) x) ∧ (¬ r1 = 0 → wX11_within v2 0 500 x (fun r2 => ((¬ r2 = 0 → wX7_goRound v1 v2 (x.1 66 12) x (fun x3 => wX11_below v3 (x3.1 234 12) x3 (fun r4 => ((r4 = 0 → K (-1) x3) ∧ (¬ r4 = 0 → (vp_in v3 8 ∧ K (x3.1 240 (Int32.toNatClampNeg v3)) x3)))))) ∧ (r2 = 0 → K (-1) x))))))
set_option maxHeartbeats 4000000 in
set_option maxRecDepth 100000 in
theorem sX11_rounded (v1 : Int32) (v2 : Int32) (v3 : Int32)  (x : ab_X) (K : Int32 → ab_X → Prop) (d bc bs : Nat) (hdp : 6 ≤ d) (h : wX11_rounded v1 v2 v3 x K) : EW MX11_rounded 0 [(0, .ref 0), (1, .int v1), (2, .int v2), (3, .int v3)] [] (aS x) d bc bs (liI K) := by
  unfold wX11_rounded at h
  refine EW_iload_n (pc2 := 1) rfl dX11_rounded_0 1 rfl ?_
  refine AW_invS (M' := MX11_isCorner) [.int v1] (rest := []) mlRX11_70 okX11_isCorner (pc2 := 4) rfl dX11_rounded_1 rfl rfl (Nat.le_of_ble_eq_true rfl) (Nat.le_of_ble_eq_true rfl) (d' := 0) (by omega) (EW_mono (fun _ _ hr => ?_) (sX11_isCorner v1  x _ _ 0 0 (Nat.le_refl _) h))
  obtain ⟨r1, rfl, rfl, h⟩ := hr
  refine EW_if_eq (tgt := 18) (pc2 := 7) rfl dX11_rounded_4 (by decide) (fun q => ?_) (fun q => ?_)
  · replace h := h.1 q
    refine EW_iconst (pc2 := 19) (v := (-1)) rfl dX11_rounded_18 (by decide) ?_
    exact AW_iret rfl dX11_rounded_19 ⟨_, _, rfl, rfl, h⟩
  · replace h := h.2 q
    refine EW_iload_n (pc2 := 8) rfl dX11_rounded_7 2 rfl ?_
    refine EW_iconst (pc2 := 9) (v := 0) rfl dX11_rounded_8 (by decide) ?_
    refine EW_sipush (pc2 := 12) (v := 500) rfl dX11_rounded_9 (by decide) ?_
    refine AW_invS (M' := MX11_within) [.int v2, .int 0, .int 500] (rest := []) mlRX11_74 okX11_within (pc2 := 15) rfl dX11_rounded_12 rfl rfl (Nat.le_of_ble_eq_true rfl) (Nat.le_of_ble_eq_true rfl) (d' := 0) (by omega) (EW_mono (fun _ _ hr => ?_) (sX11_within v2 0 500  x _ _ 0 0 (Nat.le_refl _) h))
    obtain ⟨r2, rfl, rfl, h⟩ := hr
    refine EW_if_ne (tgt := 20) (pc2 := 18) rfl dX11_rounded_15 (by decide) (fun q => ?_) (fun q => ?_)
    · replace h := h.1 q
      refine EW_aload_n (pc2 := 21) rfl dX11_rounded_20 0 rfl ?_
      refine AW_getr (r := 234) ⟨gfRX11_55, rfl⟩ (pc2 := 24) rfl dX11_rounded_21 q0 rfl ?_
      refine EW_iload_n (pc2 := 25) rfl dX11_rounded_24 1 rfl ?_
      refine EW_iload_n (pc2 := 26) rfl dX11_rounded_25 2 rfl ?_
      refine EW_aload_n (pc2 := 27) rfl dX11_rounded_26 0 rfl ?_
      refine AW_getr (r := 66) ⟨gfRX11_30, rfl⟩ (pc2 := 30) rfl dX11_rounded_27 q0 rfl ?_
      refine AW_geti ⟨gfRX11_400, rfl⟩ (pc2 := 33) rfl dX11_rounded_30 q66 ?_
      refine AW_invV (M' := MX7_goRound) [.int v1, .int v2, .int (x.1 66 12)] (rest := []) mlRX11_435 okX7_goRound (pc2 := 36) rfl dX11_rounded_33 rfl rfl (Nat.le_of_ble_eq_true rfl) (Nat.le_of_ble_eq_true rfl) (d' := 5) (by omega) q234 ⟨by decide, rfl⟩ (EW_mono (fun _ _ hr => ?_) (sX7_goRound v1 v2 (x.1 66 12)  x _ _ 0 0 (Nat.le_refl _) h))
      obtain ⟨x3, rfl, rfl, h⟩ := hr
      refine EW_iload_n (pc2 := 37) rfl dX11_rounded_36 3 rfl ?_
      refine EW_aload_n (pc2 := 38) rfl dX11_rounded_37 0 rfl ?_
      refine AW_getr (r := 234) ⟨gfRX11_55, rfl⟩ (pc2 := 41) rfl dX11_rounded_38 q0 rfl ?_
      refine AW_geti ⟨gfRX11_445, rfl⟩ (pc2 := 44) rfl dX11_rounded_41 q234 ?_
      refine AW_invS (M' := MX11_below) [.int v3, .int (x3.1 234 12)] (rest := []) mlRX11_86 okX11_below (pc2 := 47) rfl dX11_rounded_44 rfl rfl (Nat.le_of_ble_eq_true rfl) (Nat.le_of_ble_eq_true rfl) (d' := 0) (by omega) (EW_mono (fun _ _ hr => ?_) (sX11_below v3 (x3.1 234 12)  x3 _ _ 0 0 (Nat.le_refl _) h))
      obtain ⟨r4, rfl, rfl, h⟩ := hr
      refine EW_if_eq (tgt := 62) (pc2 := 50) rfl dX11_rounded_47 (by decide) (fun q => ?_) (fun q => ?_)
      · replace h := h.1 q
        refine EW_iconst (pc2 := 63) (v := (-1)) rfl dX11_rounded_62 (by decide) ?_
        exact AW_iret rfl dX11_rounded_63 ⟨_, _, rfl, rfl, h⟩
      · replace h := h.2 q
        refine EW_aload_n (pc2 := 51) rfl dX11_rounded_50 0 rfl ?_
        refine AW_getr (r := 234) ⟨gfRX11_55, rfl⟩ (pc2 := 54) rfl dX11_rounded_51 q0 rfl ?_
        refine AW_getr (r := 240) ⟨gfRX11_448, rfl⟩ (pc2 := 57) rfl dX11_rounded_54 q234 rfl ?_
        refine EW_iload_n (pc2 := 58) rfl dX11_rounded_57 3 rfl ?_
        obtain ⟨b5, h⟩ := h
        refine AW_iald (pc2 := 59) rfl dX11_rounded_58 q240 b5 ?_
        refine EW_goto (tgt := 63) dX11_rounded_59 (by decide) ?_
        exact AW_iret rfl dX11_rounded_63 ⟨_, _, rfl, rfl, h⟩
    · replace h := h.2 q
      refine EW_iconst (pc2 := 19) (v := (-1)) rfl dX11_rounded_18 (by decide) ?_
      exact AW_iret rfl dX11_rounded_19 ⟨_, _, rfl, rfl, h⟩
