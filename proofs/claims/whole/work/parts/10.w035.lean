theorem gfRX7_18 : ab_L RX7 18 7 6 := ⟨by decide, by decide, ab_in 677 (by decide +kernel) (by decide +kernel)⟩
theorem gfRX7_15 : ab_L RX7 15 7 4 := ⟨by decide, by decide, ab_in 675 (by decide +kernel) (by decide +kernel)⟩
abbrev MX7_fillWorths : ab_M := (yX7_fillWorths, cX7_fillWorths, 3, none)
theorem dX7_fillWorths_0 : decode cX7_fillWorths 0 = .ok (.iconst 0, 1) := by decide +kernel
theorem dX7_fillWorths_1 : decode cX7_fillWorths 1 = .ok (.istore_n 1, 1) := by decide +kernel
theorem dX7_fillWorths_2 : decode cX7_fillWorths 2 = .ok (.iload_n 1, 1) := by decide +kernel
theorem dX7_fillWorths_3 : decode cX7_fillWorths 3 = .ok (.iconst 1, 1) := by decide +kernel
theorem dX7_fillWorths_4 : decode cX7_fillWorths 4 = .ok (.aload_n 0, 1) := by decide +kernel
theorem dX7_fillWorths_5 : decode cX7_fillWorths 5 = .ok (.getfield 71, 3) := by decide +kernel
theorem dX7_fillWorths_8 : decode cX7_fillWorths 8 = .ok (.ishl, 1) := by decide +kernel
theorem dX7_fillWorths_9 : decode cX7_fillWorths 9 = .ok (.if_icmp .ge 53, 3) := by decide +kernel
theorem dX7_fillWorths_12 : decode cX7_fillWorths 12 = .ok (.aload_n 0, 1) := by decide +kernel
theorem dX7_fillWorths_13 : decode cX7_fillWorths 13 = .ok (.getfield 18, 3) := by decide +kernel
theorem dX7_fillWorths_16 : decode cX7_fillWorths 16 = .ok (.iload_n 1, 1) := by decide +kernel
theorem dX7_fillWorths_17 : decode cX7_fillWorths 17 = .ok (.iconst 0, 1) := by decide +kernel
theorem dX7_fillWorths_18 : decode cX7_fillWorths 18 = .ok (.iastore, 1) := by decide +kernel
theorem dX7_fillWorths_19 : decode cX7_fillWorths 19 = .ok (.iconst 0, 1) := by decide +kernel
theorem dX7_fillWorths_20 : decode cX7_fillWorths 20 = .ok (.istore_n 2, 1) := by decide +kernel
theorem dX7_fillWorths_21 : decode cX7_fillWorths 21 = .ok (.iload_n 2, 1) := by decide +kernel
theorem dX7_fillWorths_22 : decode cX7_fillWorths 22 = .ok (.aload_n 0, 1) := by decide +kernel
theorem dX7_fillWorths_23 : decode cX7_fillWorths 23 = .ok (.getfield 71, 3) := by decide +kernel
theorem dX7_fillWorths_26 : decode cX7_fillWorths 26 = .ok (.if_icmp .ge 30, 3) := by decide +kernel
theorem dX7_fillWorths_29 : decode cX7_fillWorths 29 = .ok (.aload_n 0, 1) := by decide +kernel
theorem dX7_fillWorths_30 : decode cX7_fillWorths 30 = .ok (.getfield 18, 3) := by decide +kernel
theorem dX7_fillWorths_33 : decode cX7_fillWorths 33 = .ok (.iload_n 1, 1) := by decide +kernel
theorem dX7_fillWorths_34 : decode cX7_fillWorths 34 = .ok (.dup2, 1) := by decide +kernel
theorem dX7_fillWorths_35 : decode cX7_fillWorths 35 = .ok (.iaload, 1) := by decide +kernel
theorem dX7_fillWorths_36 : decode cX7_fillWorths 36 = .ok (.iload_n 1, 1) := by decide +kernel
theorem dX7_fillWorths_37 : decode cX7_fillWorths 37 = .ok (.iload_n 2, 1) := by decide +kernel
theorem dX7_fillWorths_38 : decode cX7_fillWorths 38 = .ok (.ishr, 1) := by decide +kernel
theorem dX7_fillWorths_39 : decode cX7_fillWorths 39 = .ok (.iconst 1, 1) := by decide +kernel
theorem dX7_fillWorths_40 : decode cX7_fillWorths 40 = .ok (.iand, 1) := by decide +kernel
theorem dX7_fillWorths_41 : decode cX7_fillWorths 41 = .ok (.aload_n 0, 1) := by decide +kernel
theorem dX7_fillWorths_42 : decode cX7_fillWorths 42 = .ok (.getfield 15, 3) := by decide +kernel
theorem dX7_fillWorths_45 : decode cX7_fillWorths 45 = .ok (.iload_n 2, 1) := by decide +kernel
theorem dX7_fillWorths_46 : decode cX7_fillWorths 46 = .ok (.iaload, 1) := by decide +kernel
theorem dX7_fillWorths_47 : decode cX7_fillWorths 47 = .ok (.imul, 1) := by decide +kernel
theorem dX7_fillWorths_48 : decode cX7_fillWorths 48 = .ok (.iadd, 1) := by decide +kernel
theorem dX7_fillWorths_49 : decode cX7_fillWorths 49 = .ok (.iastore, 1) := by decide +kernel
theorem dX7_fillWorths_50 : decode cX7_fillWorths 50 = .ok (.iinc 2 1, 3) := by decide +kernel
theorem dX7_fillWorths_53 : decode cX7_fillWorths 53 = .ok (.goto (-32), 3) := by decide +kernel
theorem dX7_fillWorths_56 : decode cX7_fillWorths 56 = .ok (.iinc 1 1, 3) := by decide +kernel
theorem dX7_fillWorths_59 : decode cX7_fillWorths 59 = .ok (.goto (-57), 3) := by decide +kernel
theorem dX7_fillWorths_62 : decode cX7_fillWorths 62 = .ok (.return_, 1) := by decide +kernel
theorem okX7_fillWorths : ab_okM MX7_fillWorths 0 := ⟨by decide, ⟨by decide, by decide⟩, ab_in 1609 (by decide +kernel) (by decide +kernel), ab_in 98 (by decide +kernel) (by decide +kernel), by decide +kernel, by decide⟩
set_option maxHeartbeats 4000000 in
set_option maxRecDepth 100000 in
def lX7_fillWorths_21 (v1 : Int32) (K : ab_X → Prop) (L2 : Int32 → ab_X → Prop) (L21 : Int32 → ab_X → Prop) (v2 : Int32) (x : ab_X) : Prop := (((x.1 234 5) ≤ v2 → L2 (v1 + 1) x) ∧ (¬ (x.1 234 5) ≤ v2 → (vp_in v1 256 ∧ vp_in v2 8 ∧ vp_in v1 256 ∧ L21 (v2 + 1) (wr x 237 (Int32.toNatClampNeg v1) ((x.1 237 (Int32.toNatClampNeg v1)) + (((v1 >>> (v2 &&& 31)) &&& 1) * (x.1 236 (Int32.toNatClampNeg v2))))))))
set_option maxHeartbeats 4000000 in
set_option maxRecDepth 100000 in
theorem sX7_fillWorths_21 (v1 : Int32) (v2 : Int32)  (x : ab_X) (K : ab_X → Prop) (L2 : Int32 → ab_X → Prop) (d bc bs : Nat) (hdp : 0 ≤ d) (hL2 : ∀ (v1 : Int32) (x : ab_X), L2 v1 x → EW MX7_fillWorths 2 [(0, .ref 234), (1, .int v1)] [] (aS x) d bc bs (liV K)) (h : Lp2 (lX7_fillWorths_21 v1 K L2) v2 x) : EW MX7_fillWorths 21 [(0, .ref 234), (1, .int v1), (2, .int v2)] [] (aS x) d bc bs (liV K) := by
  refine Lp2.use (P := fun v2 x => EW MX7_fillWorths 21 [(0, .ref 234), (1, .int v1), (2, .int v2)] [] (aS x) d bc bs (liV K)) (fun L21 v2 x hL21 h => ?_) v2 x h
  unfold lX7_fillWorths_21 at h
  refine EW_iload_n (pc2 := 22) rfl dX7_fillWorths_21 2 rfl ?_
  refine EW_aload_n (pc2 := 23) rfl dX7_fillWorths_22 0 rfl ?_
  refine AW_geti ⟨gfRX7_71, rfl⟩ (pc2 := 26) rfl dX7_fillWorths_23 q234 ?_
  refine EW_icmp_ge (tgt := 56) (pc2 := 29) rfl dX7_fillWorths_26 (by decide) (fun q => ?_) (fun q => ?_)
  · replace h := h.1 q
    refine EW_iinc (v1 + 1) (pc2 := 59) rfl dX7_fillWorths_56 1 rfl rfl (by decide) [1, 0, 2] [(0, .ref 234), (1, .int (v1 + 1)), (2, .int v2)] rfl ?_
    refine EW_goto (tgt := 2) dX7_fillWorths_59 (by decide) ?_
    refine EW_ls [0, 1] rfl ?_
    exact hL2 (v1 + 1) x h
  · replace h := h.2 q
    refine EW_aload_n (pc2 := 30) rfl dX7_fillWorths_29 0 rfl ?_
    refine AW_getr (r := 237) ⟨gfRX7_18, rfl⟩ (pc2 := 33) rfl dX7_fillWorths_30 q234 rfl ?_
    refine EW_iload_n (pc2 := 34) rfl dX7_fillWorths_33 1 rfl ?_
    refine EW_dup2 (pc2 := 35) rfl dX7_fillWorths_34 rfl rfl ?_
    obtain ⟨b2, h⟩ := h
    refine AW_iald (pc2 := 36) rfl dX7_fillWorths_35 q237 b2 ?_
    refine EW_iload_n (pc2 := 37) rfl dX7_fillWorths_36 1 rfl ?_
    refine EW_iload_n (pc2 := 38) rfl dX7_fillWorths_37 2 rfl ?_
    refine EW_ishr (pc2 := 39) rfl dX7_fillWorths_38 ?_
    refine EW_iconst (pc2 := 40) (v := 1) rfl dX7_fillWorths_39 (by decide) ?_
    refine EW_iand (pc2 := 41) rfl dX7_fillWorths_40 ?_
    refine EW_aload_n (pc2 := 42) rfl dX7_fillWorths_41 0 rfl ?_
    refine AW_getr (r := 236) ⟨gfRX7_15, rfl⟩ (pc2 := 45) rfl dX7_fillWorths_42 q234 rfl ?_
    refine EW_iload_n (pc2 := 46) rfl dX7_fillWorths_45 2 rfl ?_
    obtain ⟨b3, h⟩ := h
    refine AW_iald (pc2 := 47) rfl dX7_fillWorths_46 q236 b3 ?_
    refine EW_imul (pc2 := 48) rfl dX7_fillWorths_47 ?_
    refine EW_iadd (pc2 := 49) rfl dX7_fillWorths_48 ?_
    obtain ⟨b4, h⟩ := h
    refine AW_iast (pc2 := 50) rfl dX7_fillWorths_49 q237 b4 ?_
    refine EW_iinc (v2 + 1) (pc2 := 53) rfl dX7_fillWorths_50 2 rfl rfl (by decide) [1, 2, 0] [(0, .ref 234), (1, .int v1), (2, .int (v2 + 1))] rfl ?_
    refine EW_goto (tgt := 21) dX7_fillWorths_53 (by decide) ?_
    exact hL21 (v2 + 1) (wr x 237 (Int32.toNatClampNeg v1) ((x.1 237 (Int32.toNatClampNeg v1)) + (((v1 >>> (v2 &&& 31)) &&& 1) * (x.1 236 (Int32.toNatClampNeg v2))))) h
set_option maxHeartbeats 4000000 in
set_option maxRecDepth 100000 in
def lX7_fillWorths_2  (K : ab_X → Prop)  (L2 : Int32 → ab_X → Prop) (v1 : Int32) (x : ab_X) : Prop := (((1 <<< ((x.1 234 5) &&& 31)) ≤ v1 → K x) ∧ (¬ (1 <<< ((x.1 234 5) &&& 31)) ≤ v1 → (vp_in v1 256 ∧ Lp2 (lX7_fillWorths_21 v1 K L2) 0 (wr x 237 (Int32.toNatClampNeg v1) 0))))
set_option maxHeartbeats 4000000 in
set_option maxRecDepth 100000 in
theorem sX7_fillWorths_2 (v1 : Int32)  (x : ab_X) (K : ab_X → Prop)  (d bc bs : Nat) (hdp : 0 ≤ d)  (h : Lp2 (lX7_fillWorths_2  K ) v1 x) : EW MX7_fillWorths 2 [(0, .ref 234), (1, .int v1)] [] (aS x) d bc bs (liV K) := by
  refine Lp2.use (P := fun v1 x => EW MX7_fillWorths 2 [(0, .ref 234), (1, .int v1)] [] (aS x) d bc bs (liV K)) (fun L2 v1 x hL2 h => ?_) v1 x h
  unfold lX7_fillWorths_2 at h
  refine EW_iload_n (pc2 := 3) rfl dX7_fillWorths_2 1 rfl ?_
  refine EW_iconst (pc2 := 4) (v := 1) rfl dX7_fillWorths_3 (by decide) ?_
  refine EW_aload_n (pc2 := 5) rfl dX7_fillWorths_4 0 rfl ?_
  refine AW_geti ⟨gfRX7_71, rfl⟩ (pc2 := 8) rfl dX7_fillWorths_5 q234 ?_
  refine EW_ishl (pc2 := 9) rfl dX7_fillWorths_8 ?_
  refine EW_icmp_ge (tgt := 62) (pc2 := 12) rfl dX7_fillWorths_9 (by decide) (fun q => ?_) (fun q => ?_)
  · replace h := h.1 q
    exact EW_vret rfl dX7_fillWorths_62 ⟨_, rfl, rfl, h⟩
  · replace h := h.2 q
    refine EW_aload_n (pc2 := 13) rfl dX7_fillWorths_12 0 rfl ?_
    refine AW_getr (r := 237) ⟨gfRX7_18, rfl⟩ (pc2 := 16) rfl dX7_fillWorths_13 q234 rfl ?_
    refine EW_iload_n (pc2 := 17) rfl dX7_fillWorths_16 1 rfl ?_
    refine EW_iconst (pc2 := 18) (v := 0) rfl dX7_fillWorths_17 (by decide) ?_
    obtain ⟨b1, h⟩ := h
    refine AW_iast (pc2 := 19) rfl dX7_fillWorths_18 q237 b1 ?_
    refine EW_iconst (pc2 := 20) (v := 0) rfl dX7_fillWorths_19 (by decide) ?_
    refine EW_istore_n (pc2 := 21) rfl dX7_fillWorths_20 (by decide) [1, 2, 0] [(0, .ref 234), (1, .int v1), (2, .int 0)] rfl ?_
    exact sX7_fillWorths_21 v1 0 (wr x 237 (Int32.toNatClampNeg v1) 0) K L2 d bc bs hdp hL2 h
set_option maxHeartbeats 4000000 in
set_option maxRecDepth 100000 in
def wX7_fillWorths  (x : ab_X) (K : ab_X → Prop) : Prop := Lp2 (lX7_fillWorths_2 K ) 0 x
set_option maxHeartbeats 4000000 in
set_option maxRecDepth 100000 in
theorem sX7_fillWorths   (x : ab_X) (K : ab_X → Prop) (d bc bs : Nat) (hdp : 0 ≤ d) (h : wX7_fillWorths  x K) : EW MX7_fillWorths 0 [(0, .ref 234)] [] (aS x) d bc bs (liV K) := by
  unfold wX7_fillWorths at h
  refine EW_iconst (pc2 := 1) (v := 0) rfl dX7_fillWorths_0 (by decide) ?_
  refine EW_istore_n (pc2 := 2) rfl dX7_fillWorths_1 (by decide) [1, 0] [(0, .ref 234), (1, .int 0)] rfl ?_
  exact sX7_fillWorths_2 0 x K d bc bs hdp h
theorem gfRX7_116 : ab_L RX7 116 7 10 := ⟨by decide, by decide, ab_in 681 (by decide +kernel) (by decide +kernel)⟩
theorem gfRX7_119 : ab_L RX7 119 7 11 := ⟨by decide, by decide, ab_in 683 (by decide +kernel) (by decide +kernel)⟩
abbrev MX7_findBest : ab_M := (yX7_findBest, cX7_findBest, 6, none)
theorem dX7_findBest_0 : decode cX7_findBest 0 = .ok (.aload_n 0, 1) := by decide +kernel
theorem dX7_findBest_1 : decode cX7_findBest 1 = .ok (.iconst 0, 1) := by decide +kernel
theorem dX7_findBest_2 : decode cX7_findBest 2 = .ok (.putfield 116, 3) := by decide +kernel
theorem dX7_findBest_5 : decode cX7_findBest 5 = .ok (.aload_n 0, 1) := by decide +kernel
theorem dX7_findBest_6 : decode cX7_findBest 6 = .ok (.iconst 0, 1) := by decide +kernel
theorem dX7_findBest_7 : decode cX7_findBest 7 = .ok (.putfield 119, 3) := by decide +kernel
theorem dX7_findBest_10 : decode cX7_findBest 10 = .ok (.iconst 1, 1) := by decide +kernel
theorem dX7_findBest_11 : decode cX7_findBest 11 = .ok (.istore_n 2, 1) := by decide +kernel
theorem dX7_findBest_12 : decode cX7_findBest 12 = .ok (.iload_n 2, 1) := by decide +kernel
theorem dX7_findBest_13 : decode cX7_findBest 13 = .ok (.iconst 1, 1) := by decide +kernel
theorem dX7_findBest_14 : decode cX7_findBest 14 = .ok (.aload_n 0, 1) := by decide +kernel
theorem dX7_findBest_15 : decode cX7_findBest 15 = .ok (.getfield 71, 3) := by decide +kernel
theorem dX7_findBest_18 : decode cX7_findBest 18 = .ok (.ishl, 1) := by decide +kernel
theorem dX7_findBest_19 : decode cX7_findBest 19 = .ok (.if_icmp .ge 99, 3) := by decide +kernel
theorem dX7_findBest_22 : decode cX7_findBest 22 = .ok (.aload_n 0, 1) := by decide +kernel
theorem dX7_findBest_23 : decode cX7_findBest 23 = .ok (.getfield 18, 3) := by decide +kernel
theorem dX7_findBest_26 : decode cX7_findBest 26 = .ok (.iload_n 2, 1) := by decide +kernel
theorem dX7_findBest_27 : decode cX7_findBest 27 = .ok (.iaload, 1) := by decide +kernel
theorem dX7_findBest_28 : decode cX7_findBest 28 = .ok (.istore_n 3, 1) := by decide +kernel
theorem dX7_findBest_29 : decode cX7_findBest 29 = .ok (.iconst 0, 1) := by decide +kernel
theorem dX7_findBest_30 : decode cX7_findBest 30 = .ok (.istore 4, 2) := by decide +kernel
theorem dX7_findBest_32 : decode cX7_findBest 32 = .ok (.iload 4, 2) := by decide +kernel
theorem dX7_findBest_34 : decode cX7_findBest 34 = .ok (.aload_n 0, 1) := by decide +kernel
theorem dX7_findBest_35 : decode cX7_findBest 35 = .ok (.getfield 71, 3) := by decide +kernel
theorem dX7_findBest_38 : decode cX7_findBest 38 = .ok (.if_icmp .ge 74, 3) := by decide +kernel
theorem dX7_findBest_41 : decode cX7_findBest 41 = .ok (.iload_n 2, 1) := by decide +kernel
theorem dX7_findBest_42 : decode cX7_findBest 42 = .ok (.iload 4, 2) := by decide +kernel
theorem dX7_findBest_44 : decode cX7_findBest 44 = .ok (.ishr, 1) := by decide +kernel
theorem dX7_findBest_45 : decode cX7_findBest 45 = .ok (.iconst 1, 1) := by decide +kernel
theorem dX7_findBest_46 : decode cX7_findBest 46 = .ok (.iand, 1) := by decide +kernel
theorem dX7_findBest_47 : decode cX7_findBest 47 = .ok (.ifCond .ne 6, 3) := by decide +kernel
theorem dX7_findBest_50 : decode cX7_findBest 50 = .ok (.goto 56, 3) := by decide +kernel
theorem dX7_findBest_53 : decode cX7_findBest 53 = .ok (.aload_n 0, 1) := by decide +kernel
theorem dX7_findBest_54 : decode cX7_findBest 54 = .ok (.iload_n 2, 1) := by decide +kernel
theorem dX7_findBest_55 : decode cX7_findBest 55 = .ok (.bipush 8, 2) := by decide +kernel
theorem dX7_findBest_57 : decode cX7_findBest 57 = .ok (.iload 4, 2) := by decide +kernel
theorem dX7_findBest_59 : decode cX7_findBest 59 = .ok (.invokevirtual 112, 3) := by decide +kernel
theorem dX7_findBest_62 : decode cX7_findBest 62 = .ok (.istore 5, 2) := by decide +kernel
theorem dX7_findBest_64 : decode cX7_findBest 64 = .ok (.iload 5, 2) := by decide +kernel
theorem dX7_findBest_66 : decode cX7_findBest 66 = .ok (.iload_n 1, 1) := by decide +kernel
theorem dX7_findBest_67 : decode cX7_findBest 67 = .ok (.if_icmp .gt 39, 3) := by decide +kernel
theorem dX7_findBest_70 : decode cX7_findBest 70 = .ok (.iload_n 3, 1) := by decide +kernel
theorem dX7_findBest_71 : decode cX7_findBest 71 = .ok (.aload_n 0, 1) := by decide +kernel
theorem dX7_findBest_72 : decode cX7_findBest 72 = .ok (.getfield 116, 3) := by decide +kernel
theorem dX7_findBest_75 : decode cX7_findBest 75 = .ok (.if_icmp .gt 20, 3) := by decide +kernel
theorem dX7_findBest_78 : decode cX7_findBest 78 = .ok (.iload_n 3, 1) := by decide +kernel
theorem dX7_findBest_79 : decode cX7_findBest 79 = .ok (.aload_n 0, 1) := by decide +kernel
theorem dX7_findBest_80 : decode cX7_findBest 80 = .ok (.getfield 116, 3) := by decide +kernel
theorem dX7_findBest_83 : decode cX7_findBest 83 = .ok (.if_icmp .ne 23, 3) := by decide +kernel
theorem dX7_findBest_86 : decode cX7_findBest 86 = .ok (.iload 5, 2) := by decide +kernel
theorem dX7_findBest_88 : decode cX7_findBest 88 = .ok (.aload_n 0, 1) := by decide +kernel
theorem dX7_findBest_89 : decode cX7_findBest 89 = .ok (.getfield 119, 3) := by decide +kernel
theorem dX7_findBest_92 : decode cX7_findBest 92 = .ok (.if_icmp .ge 14, 3) := by decide +kernel
theorem dX7_findBest_95 : decode cX7_findBest 95 = .ok (.aload_n 0, 1) := by decide +kernel
theorem dX7_findBest_96 : decode cX7_findBest 96 = .ok (.iload_n 3, 1) := by decide +kernel
theorem dX7_findBest_97 : decode cX7_findBest 97 = .ok (.putfield 116, 3) := by decide +kernel
theorem dX7_findBest_100 : decode cX7_findBest 100 = .ok (.aload_n 0, 1) := by decide +kernel
theorem dX7_findBest_101 : decode cX7_findBest 101 = .ok (.iload 5, 2) := by decide +kernel
theorem dX7_findBest_103 : decode cX7_findBest 103 = .ok (.putfield 119, 3) := by decide +kernel
theorem dX7_findBest_106 : decode cX7_findBest 106 = .ok (.iinc 4 1, 3) := by decide +kernel
theorem dX7_findBest_109 : decode cX7_findBest 109 = .ok (.goto (-77), 3) := by decide +kernel
theorem dX7_findBest_112 : decode cX7_findBest 112 = .ok (.iinc 2 1, 3) := by decide +kernel
theorem dX7_findBest_115 : decode cX7_findBest 115 = .ok (.goto (-103), 3) := by decide +kernel
theorem dX7_findBest_118 : decode cX7_findBest 118 = .ok (.return_, 1) := by decide +kernel
theorem okX7_findBest : ab_okM MX7_findBest 1 := ⟨by decide, ⟨by decide, by decide⟩, ab_in 1629 (by decide +kernel) (by decide +kernel), ab_in 98 (by decide +kernel) (by decide +kernel), by decide +kernel, by decide⟩
set_option maxHeartbeats 4000000 in
set_option maxRecDepth 100000 in
def wX7_findBest_95 (v1 : Int32) (v2 : Int32) (v3 : Int32) (v4 : Int32) (v5 : Int32) (x : ab_X) (K : ab_X → Prop) (L12 : Int32 → ab_X → Prop) (L32 : Int32 → ab_X → Prop) : Prop := L32 (v4 + 1) (wr (wr x 234 10 v3) 234 11 v5)
set_option maxHeartbeats 4000000 in
set_option maxRecDepth 100000 in
theorem sX7_findBest_95 (v1 : Int32) (v2 : Int32) (v3 : Int32) (v4 : Int32) (v5 : Int32)  (x : ab_X) (K : ab_X → Prop) (L12 : Int32 → ab_X → Prop) (L32 : Int32 → ab_X → Prop) (d bc bs : Nat) (hdp : 1 ≤ d) (hL12 : ∀ (v2 : Int32) (x : ab_X), L12 v2 x → EW MX7_findBest 12 [(0, .ref 234), (1, .int v1), (2, .int v2)] [] (aS x) d bc bs (liV K)) (hL32 : ∀ (v4 : Int32) (x : ab_X), L32 v4 x → EW MX7_findBest 32 [(0, .ref 234), (1, .int v1), (2, .int v2), (3, .int v3), (4, .int v4)] [] (aS x) d bc bs (liV K)) (h : wX7_findBest_95 v1 v2 v3 v4 v5 x K L12 L32) : EW MX7_findBest 95 [(0, .ref 234), (1, .int v1), (2, .int v2), (3, .int v3), (4, .int v4), (5, .int v5)] [] (aS x) d bc bs (liV K) := by
  unfold wX7_findBest_95 at h
  refine EW_aload_n (pc2 := 96) rfl dX7_findBest_95 0 rfl ?_
  refine EW_iload_n (pc2 := 97) rfl dX7_findBest_96 3 rfl ?_
  refine AW_puti ⟨gfRX7_116, rfl, rfl⟩ (pc2 := 100) rfl dX7_findBest_97 q234 ?_
  refine EW_aload_n (pc2 := 101) rfl dX7_findBest_100 0 rfl ?_
  refine EW_iload (pc2 := 103) rfl dX7_findBest_101 5 rfl ?_
  refine AW_puti ⟨gfRX7_119, rfl, rfl⟩ (pc2 := 106) rfl dX7_findBest_103 q234 ?_
  refine EW_iinc (v4 + 1) (pc2 := 109) rfl dX7_findBest_106 4 rfl rfl (by decide) [1, 2, 3, 4, 0, 5] [(0, .ref 234), (1, .int v1), (2, .int v2), (3, .int v3), (4, .int (v4 + 1)), (5, .int v5)] rfl ?_
  refine EW_goto (tgt := 32) dX7_findBest_109 (by decide) ?_
  refine EW_ls [0, 1, 2, 3, 4] rfl ?_
  exact hL32 (v4 + 1) (wr (wr x 234 10 v3) 234 11 v5) h
set_option maxHeartbeats 4000000 in
set_option maxRecDepth 100000 in
def lX7_findBest_32 (v1 : Int32) (v2 : Int32) (v3 : Int32) (K : ab_X → Prop) (L12 : Int32 → ab_X → Prop) (L32 : Int32 → ab_X → Prop) (v4 : Int32) (x : ab_X) : Prop := (((x.1 234 5) ≤ v4 → L12 (v2 + 1) x) ∧ (¬ (x.1 234 5) ≤ v4 → ((¬ ((v2 >>> (v4 &&& 31)) &&& 1) = 0 → wX7_through v2 8 v4 x (fun r2 => ((v1 < r2 → L32 (v4 + 1) x) ∧ (¬ v1 < r2 → (((x.1 234 10) < v3 → wX7_findBest_95 v1 v2 v3 v4 r2 x K L12 L32) ∧ (¬ (x.1 234 10) < v3 → ((¬ v3 = (x.1 234 10) → L32 (v4 + 1) x) ∧ (v3 = (x.1 234 10) → (((x.1 234 11) ≤ r2 → L32 (v4 + 1) x) ∧ (¬ (x.1 234 11) ≤ r2 → wX7_findBest_95 v1 v2 v3 v4 r2 x K L12 L32)))))))))) ∧ (((v2 >>> (v4 &&& 31)) &&& 1) = 0 → L32 (v4 + 1) x))))
set_option maxHeartbeats 4000000 in
set_option maxRecDepth 100000 in
theorem sX7_findBest_32 (v1 : Int32) (v2 : Int32) (v3 : Int32) (v4 : Int32)  (x : ab_X) (K : ab_X → Prop) (L12 : Int32 → ab_X → Prop) (d bc bs : Nat) (hdp : 1 ≤ d) (hL12 : ∀ (v2 : Int32) (x : ab_X), L12 v2 x → EW MX7_findBest 12 [(0, .ref 234), (1, .int v1), (2, .int v2)] [] (aS x) d bc bs (liV K)) (h : Lp2 (lX7_findBest_32 v1 v2 v3 K L12) v4 x) : EW MX7_findBest 32 [(0, .ref 234), (1, .int v1), (2, .int v2), (3, .int v3), (4, .int v4)] [] (aS x) d bc bs (liV K) := by
  refine Lp2.use (P := fun v4 x => EW MX7_findBest 32 [(0, .ref 234), (1, .int v1), (2, .int v2), (3, .int v3), (4, .int v4)] [] (aS x) d bc bs (liV K)) (fun L32 v4 x hL32 h => ?_) v4 x h
  unfold lX7_findBest_32 at h
  refine EW_iload (pc2 := 34) rfl dX7_findBest_32 4 rfl ?_
  refine EW_aload_n (pc2 := 35) rfl dX7_findBest_34 0 rfl ?_
  refine AW_geti ⟨gfRX7_71, rfl⟩ (pc2 := 38) rfl dX7_findBest_35 q234 ?_
  refine EW_icmp_ge (tgt := 112) (pc2 := 41) rfl dX7_findBest_38 (by decide) (fun q => ?_) (fun q => ?_)
  · replace h := h.1 q
    refine EW_iinc (v2 + 1) (pc2 := 115) rfl dX7_findBest_112 2 rfl rfl (by decide) [1, 2, 0, 3, 4] [(0, .ref 234), (1, .int v1), (2, .int (v2 + 1)), (3, .int v3), (4, .int v4)] rfl ?_
    refine EW_goto (tgt := 12) dX7_findBest_115 (by decide) ?_
    refine EW_ls [0, 1, 2] rfl ?_
    exact hL12 (v2 + 1) x h
  · replace h := h.2 q
    refine EW_iload_n (pc2 := 42) rfl dX7_findBest_41 2 rfl ?_
    refine EW_iload (pc2 := 44) rfl dX7_findBest_42 4 rfl ?_
    refine EW_ishr (pc2 := 45) rfl dX7_findBest_44 ?_
    refine EW_iconst (pc2 := 46) (v := 1) rfl dX7_findBest_45 (by decide) ?_
    refine EW_iand (pc2 := 47) rfl dX7_findBest_46 ?_
    refine EW_if_ne (tgt := 53) (pc2 := 50) rfl dX7_findBest_47 (by decide) (fun q => ?_) (fun q => ?_)
    · replace h := h.1 q
      refine EW_aload_n (pc2 := 54) rfl dX7_findBest_53 0 rfl ?_
      refine EW_iload_n (pc2 := 55) rfl dX7_findBest_54 2 rfl ?_
      refine EW_bipush (pc2 := 57) (v := 8) rfl dX7_findBest_55 (by decide) ?_
      refine EW_iload (pc2 := 59) rfl dX7_findBest_57 4 rfl ?_
      refine AW_invV (M' := MX7_through) [.int v2, .int 8, .int v4] (rest := []) mlRX7_112 okX7_through (pc2 := 62) rfl dX7_findBest_59 rfl rfl (Nat.le_of_ble_eq_true rfl) (Nat.le_of_ble_eq_true rfl) (d' := 0) (by omega) q234 ⟨by decide, rfl⟩ (EW_mono (fun _ _ hr => ?_) (sX7_through v2 8 v4  x _ _ 0 0 (Nat.le_refl _) h))
      obtain ⟨r2, rfl, rfl, h⟩ := hr
      refine EW_istore (pc2 := 64) rfl dX7_findBest_62 (by decide) [1, 2, 3, 4, 5, 0] [(0, .ref 234), (1, .int v1), (2, .int v2), (3, .int v3), (4, .int v4), (5, .int r2)] rfl ?_
      refine EW_iload (pc2 := 66) rfl dX7_findBest_64 5 rfl ?_
      refine EW_iload_n (pc2 := 67) rfl dX7_findBest_66 1 rfl ?_
      refine EW_icmp_gt (tgt := 106) (pc2 := 70) rfl dX7_findBest_67 (by decide) (fun q => ?_) (fun q => ?_)
      · replace h := h.1 q
        refine EW_iinc (v4 + 1) (pc2 := 109) rfl dX7_findBest_106 4 rfl rfl (by decide) [1, 2, 3, 4, 0, 5] [(0, .ref 234), (1, .int v1), (2, .int v2), (3, .int v3), (4, .int (v4 + 1)), (5, .int r2)] rfl ?_
        refine EW_goto (tgt := 32) dX7_findBest_109 (by decide) ?_
        refine EW_ls [0, 1, 2, 3, 4] rfl ?_
        exact hL32 (v4 + 1) x h
      · replace h := h.2 q
        refine EW_iload_n (pc2 := 71) rfl dX7_findBest_70 3 rfl ?_
        refine EW_aload_n (pc2 := 72) rfl dX7_findBest_71 0 rfl ?_
        refine AW_geti ⟨gfRX7_116, rfl⟩ (pc2 := 75) rfl dX7_findBest_72 q234 ?_
        refine EW_icmp_gt (tgt := 95) (pc2 := 78) rfl dX7_findBest_75 (by decide) (fun q => ?_) (fun q => ?_)
        · replace h := h.1 q
          exact sX7_findBest_95 v1 v2 v3 v4 r2 x K L12 L32 d bc bs hdp hL12 hL32 h
        · replace h := h.2 q
          refine EW_iload_n (pc2 := 79) rfl dX7_findBest_78 3 rfl ?_
          refine EW_aload_n (pc2 := 80) rfl dX7_findBest_79 0 rfl ?_
          refine AW_geti ⟨gfRX7_116, rfl⟩ (pc2 := 83) rfl dX7_findBest_80 q234 ?_
          refine EW_icmp_ne (tgt := 106) (pc2 := 86) rfl dX7_findBest_83 (by decide) (fun q => ?_) (fun q => ?_)
          · replace h := h.1 q
            refine EW_iinc (v4 + 1) (pc2 := 109) rfl dX7_findBest_106 4 rfl rfl (by decide) [1, 2, 3, 4, 0, 5] [(0, .ref 234), (1, .int v1), (2, .int v2), (3, .int v3), (4, .int (v4 + 1)), (5, .int r2)] rfl ?_
            refine EW_goto (tgt := 32) dX7_findBest_109 (by decide) ?_
            refine EW_ls [0, 1, 2, 3, 4] rfl ?_
            exact hL32 (v4 + 1) x h
          · replace h := h.2 q
            refine EW_iload (pc2 := 88) rfl dX7_findBest_86 5 rfl ?_
            refine EW_aload_n (pc2 := 89) rfl dX7_findBest_88 0 rfl ?_
            refine AW_geti ⟨gfRX7_119, rfl⟩ (pc2 := 92) rfl dX7_findBest_89 q234 ?_
            refine EW_icmp_ge (tgt := 106) (pc2 := 95) rfl dX7_findBest_92 (by decide) (fun q => ?_) (fun q => ?_)
            · replace h := h.1 q
              refine EW_iinc (v4 + 1) (pc2 := 109) rfl dX7_findBest_106 4 rfl rfl (by decide) [1, 2, 3, 4, 0, 5] [(0, .ref 234), (1, .int v1), (2, .int v2), (3, .int v3), (4, .int (v4 + 1)), (5, .int r2)] rfl ?_
              refine EW_goto (tgt := 32) dX7_findBest_109 (by decide) ?_
              refine EW_ls [0, 1, 2, 3, 4] rfl ?_
              exact hL32 (v4 + 1) x h
            · replace h := h.2 q
              exact sX7_findBest_95 v1 v2 v3 v4 r2 x K L12 L32 d bc bs hdp hL12 hL32 h
    · replace h := h.2 q
      refine EW_goto (tgt := 106) dX7_findBest_50 (by decide) ?_
      refine EW_iinc (v4 + 1) (pc2 := 109) rfl dX7_findBest_106 4 rfl rfl (by decide) [1, 2, 3, 4, 0] [(0, .ref 234), (1, .int v1), (2, .int v2), (3, .int v3), (4, .int (v4 + 1))] rfl ?_
      refine EW_goto (tgt := 32) dX7_findBest_109 (by decide) ?_
      exact hL32 (v4 + 1) x h
set_option maxHeartbeats 4000000 in
set_option maxRecDepth 100000 in
def lX7_findBest_12 (v1 : Int32) (K : ab_X → Prop)  (L12 : Int32 → ab_X → Prop) (v2 : Int32) (x : ab_X) : Prop := (((1 <<< ((x.1 234 5) &&& 31)) ≤ v2 → K x) ∧ (¬ (1 <<< ((x.1 234 5) &&& 31)) ≤ v2 → (vp_in v2 256 ∧ Lp2 (lX7_findBest_32 v1 v2 (x.1 237 (Int32.toNatClampNeg v2)) K L12) 0 x)))
set_option maxHeartbeats 4000000 in
set_option maxRecDepth 100000 in
theorem sX7_findBest_12 (v1 : Int32) (v2 : Int32)  (x : ab_X) (K : ab_X → Prop)  (d bc bs : Nat) (hdp : 1 ≤ d)  (h : Lp2 (lX7_findBest_12 v1 K ) v2 x) : EW MX7_findBest 12 [(0, .ref 234), (1, .int v1), (2, .int v2)] [] (aS x) d bc bs (liV K) := by
  refine Lp2.use (P := fun v2 x => EW MX7_findBest 12 [(0, .ref 234), (1, .int v1), (2, .int v2)] [] (aS x) d bc bs (liV K)) (fun L12 v2 x hL12 h => ?_) v2 x h
  unfold lX7_findBest_12 at h
  refine EW_iload_n (pc2 := 13) rfl dX7_findBest_12 2 rfl ?_
  refine EW_iconst (pc2 := 14) (v := 1) rfl dX7_findBest_13 (by decide) ?_
  refine EW_aload_n (pc2 := 15) rfl dX7_findBest_14 0 rfl ?_
  refine AW_geti ⟨gfRX7_71, rfl⟩ (pc2 := 18) rfl dX7_findBest_15 q234 ?_
  refine EW_ishl (pc2 := 19) rfl dX7_findBest_18 ?_
  refine EW_icmp_ge (tgt := 118) (pc2 := 22) rfl dX7_findBest_19 (by decide) (fun q => ?_) (fun q => ?_)
  · replace h := h.1 q
    exact EW_vret rfl dX7_findBest_118 ⟨_, rfl, rfl, h⟩
  · replace h := h.2 q
    refine EW_aload_n (pc2 := 23) rfl dX7_findBest_22 0 rfl ?_
    refine AW_getr (r := 237) ⟨gfRX7_18, rfl⟩ (pc2 := 26) rfl dX7_findBest_23 q234 rfl ?_
    refine EW_iload_n (pc2 := 27) rfl dX7_findBest_26 2 rfl ?_
    obtain ⟨b1, h⟩ := h
    refine AW_iald (pc2 := 28) rfl dX7_findBest_27 q237 b1 ?_
    refine EW_istore_n (pc2 := 29) rfl dX7_findBest_28 (by decide) [1, 2, 3, 0] [(0, .ref 234), (1, .int v1), (2, .int v2), (3, .int (x.1 237 (Int32.toNatClampNeg v2)))] rfl ?_
    refine EW_iconst (pc2 := 30) (v := 0) rfl dX7_findBest_29 (by decide) ?_
    refine EW_istore (pc2 := 32) rfl dX7_findBest_30 (by decide) [1, 2, 3, 4, 0] [(0, .ref 234), (1, .int v1), (2, .int v2), (3, .int (x.1 237 (Int32.toNatClampNeg v2))), (4, .int 0)] rfl ?_
    exact sX7_findBest_32 v1 v2 (x.1 237 (Int32.toNatClampNeg v2)) 0 x K L12 d bc bs hdp hL12 h
set_option maxHeartbeats 4000000 in
set_option maxRecDepth 100000 in
def wX7_findBest (v1 : Int32) (x : ab_X) (K : ab_X → Prop) : Prop := Lp2 (lX7_findBest_12 v1 K ) 1 (wr (wr x 234 10 0) 234 11 0)
set_option maxHeartbeats 4000000 in
set_option maxRecDepth 100000 in
theorem sX7_findBest (v1 : Int32)  (x : ab_X) (K : ab_X → Prop) (d bc bs : Nat) (hdp : 1 ≤ d) (h : wX7_findBest v1 x K) : EW MX7_findBest 0 [(0, .ref 234), (1, .int v1)] [] (aS x) d bc bs (liV K) := by
  unfold wX7_findBest at h
  refine EW_aload_n (pc2 := 1) rfl dX7_findBest_0 0 rfl ?_
  refine EW_iconst (pc2 := 2) (v := 0) rfl dX7_findBest_1 (by decide) ?_
  refine AW_puti ⟨gfRX7_116, rfl, rfl⟩ (pc2 := 5) rfl dX7_findBest_2 q234 ?_
  refine EW_aload_n (pc2 := 6) rfl dX7_findBest_5 0 rfl ?_
  refine EW_iconst (pc2 := 7) (v := 0) rfl dX7_findBest_6 (by decide) ?_
  refine AW_puti ⟨gfRX7_119, rfl, rfl⟩ (pc2 := 10) rfl dX7_findBest_7 q234 ?_
  refine EW_iconst (pc2 := 11) (v := 1) rfl dX7_findBest_10 (by decide) ?_
  refine EW_istore_n (pc2 := 12) rfl dX7_findBest_11 (by decide) [1, 2, 0] [(0, .ref 234), (1, .int v1), (2, .int 1)] rfl ?_
  exact sX7_findBest_12 v1 1 (wr (wr x 234 10 0) 234 11 0) K d bc bs hdp h
abbrev MX7_isBestWith : ab_M := (yX7_isBestWith, cX7_isBestWith, 7, (some .boolean))
theorem dX7_isBestWith_0 : decode cX7_isBestWith 0 = .ok (.iconst 0, 1) := by decide +kernel
theorem dX7_isBestWith_1 : decode cX7_isBestWith 1 = .ok (.istore 5, 2) := by decide +kernel
theorem dX7_isBestWith_3 : decode cX7_isBestWith 3 = .ok (.iload 5, 2) := by decide +kernel
theorem dX7_isBestWith_5 : decode cX7_isBestWith 5 = .ok (.iconst 1, 1) := by decide +kernel
theorem dX7_isBestWith_6 : decode cX7_isBestWith 6 = .ok (.aload_n 0, 1) := by decide +kernel
theorem dX7_isBestWith_7 : decode cX7_isBestWith 7 = .ok (.getfield 71, 3) := by decide +kernel
theorem dX7_isBestWith_10 : decode cX7_isBestWith 10 = .ok (.ishl, 1) := by decide +kernel
theorem dX7_isBestWith_11 : decode cX7_isBestWith 11 = .ok (.if_icmp .ge 75, 3) := by decide +kernel
theorem dX7_isBestWith_14 : decode cX7_isBestWith 14 = .ok (.iload 5, 2) := by decide +kernel
theorem dX7_isBestWith_16 : decode cX7_isBestWith 16 = .ok (.iload_n 1, 1) := by decide +kernel
theorem dX7_isBestWith_17 : decode cX7_isBestWith 17 = .ok (.iand, 1) := by decide +kernel
theorem dX7_isBestWith_18 : decode cX7_isBestWith 18 = .ok (.ifCond .ne 18, 3) := by decide +kernel
theorem dX7_isBestWith_21 : decode cX7_isBestWith 21 = .ok (.iload 5, 2) := by decide +kernel
theorem dX7_isBestWith_23 : decode cX7_isBestWith 23 = .ok (.iload 4, 2) := by decide +kernel
theorem dX7_isBestWith_25 : decode cX7_isBestWith 25 = .ok (.ishr, 1) := by decide +kernel
theorem dX7_isBestWith_26 : decode cX7_isBestWith 26 = .ok (.iconst 1, 1) := by decide +kernel
theorem dX7_isBestWith_27 : decode cX7_isBestWith 27 = .ok (.iand, 1) := by decide +kernel
theorem dX7_isBestWith_28 : decode cX7_isBestWith 28 = .ok (.iconst 1, 1) := by decide +kernel
theorem dX7_isBestWith_29 : decode cX7_isBestWith 29 = .ok (.if_icmp .ne 7, 3) := by decide +kernel
theorem dX7_isBestWith_32 : decode cX7_isBestWith 32 = .ok (.iconst 1, 1) := by decide +kernel
theorem dX7_isBestWith_33 : decode cX7_isBestWith 33 = .ok (.goto 4, 3) := by decide +kernel
theorem dX7_isBestWith_36 : decode cX7_isBestWith 36 = .ok (.iconst 0, 1) := by decide +kernel
theorem dX7_isBestWith_37 : decode cX7_isBestWith 37 = .ok (.istore 6, 2) := by decide +kernel
theorem dX7_isBestWith_39 : decode cX7_isBestWith 39 = .ok (.iload 6, 2) := by decide +kernel
theorem dX7_isBestWith_41 : decode cX7_isBestWith 41 = .ok (.ifCond .eq 39, 3) := by decide +kernel
theorem dX7_isBestWith_44 : decode cX7_isBestWith 44 = .ok (.aload_n 0, 1) := by decide +kernel
theorem dX7_isBestWith_45 : decode cX7_isBestWith 45 = .ok (.getfield 18, 3) := by decide +kernel
theorem dX7_isBestWith_48 : decode cX7_isBestWith 48 = .ok (.iload 5, 2) := by decide +kernel
theorem dX7_isBestWith_50 : decode cX7_isBestWith 50 = .ok (.iload_n 1, 1) := by decide +kernel
theorem dX7_isBestWith_51 : decode cX7_isBestWith 51 = .ok (.ior, 1) := by decide +kernel
theorem dX7_isBestWith_52 : decode cX7_isBestWith 52 = .ok (.iaload, 1) := by decide +kernel
theorem dX7_isBestWith_53 : decode cX7_isBestWith 53 = .ok (.aload_n 0, 1) := by decide +kernel
theorem dX7_isBestWith_54 : decode cX7_isBestWith 54 = .ok (.getfield 116, 3) := by decide +kernel
theorem dX7_isBestWith_57 : decode cX7_isBestWith 57 = .ok (.if_icmp .ne 23, 3) := by decide +kernel
theorem dX7_isBestWith_60 : decode cX7_isBestWith 60 = .ok (.iload_n 3, 1) := by decide +kernel
theorem dX7_isBestWith_61 : decode cX7_isBestWith 61 = .ok (.aload_n 0, 1) := by decide +kernel
theorem dX7_isBestWith_62 : decode cX7_isBestWith 62 = .ok (.iload 5, 2) := by decide +kernel
theorem dX7_isBestWith_64 : decode cX7_isBestWith 64 = .ok (.iload_n 2, 1) := by decide +kernel
theorem dX7_isBestWith_65 : decode cX7_isBestWith 65 = .ok (.iload 4, 2) := by decide +kernel
theorem dX7_isBestWith_67 : decode cX7_isBestWith 67 = .ok (.invokevirtual 112, 3) := by decide +kernel
theorem dX7_isBestWith_70 : decode cX7_isBestWith 70 = .ok (.iadd, 1) := by decide +kernel
theorem dX7_isBestWith_71 : decode cX7_isBestWith 71 = .ok (.aload_n 0, 1) := by decide +kernel
theorem dX7_isBestWith_72 : decode cX7_isBestWith 72 = .ok (.getfield 119, 3) := by decide +kernel
theorem dX7_isBestWith_75 : decode cX7_isBestWith 75 = .ok (.if_icmp .ne 5, 3) := by decide +kernel
theorem dX7_isBestWith_78 : decode cX7_isBestWith 78 = .ok (.iconst 1, 1) := by decide +kernel
theorem dX7_isBestWith_79 : decode cX7_isBestWith 79 = .ok (.ireturn, 1) := by decide +kernel
theorem dX7_isBestWith_80 : decode cX7_isBestWith 80 = .ok (.iinc 5 1, 3) := by decide +kernel
theorem dX7_isBestWith_83 : decode cX7_isBestWith 83 = .ok (.goto (-80), 3) := by decide +kernel
theorem dX7_isBestWith_86 : decode cX7_isBestWith 86 = .ok (.iconst 0, 1) := by decide +kernel
theorem dX7_isBestWith_87 : decode cX7_isBestWith 87 = .ok (.ireturn, 1) := by decide +kernel
theorem okX7_isBestWith : ab_okM MX7_isBestWith 4 := ⟨by decide, ⟨by decide, by decide⟩, ab_in 1641 (by decide +kernel) (by decide +kernel), ab_in 98 (by decide +kernel) (by decide +kernel), by decide +kernel, by decide⟩
set_option maxHeartbeats 4000000 in
set_option maxRecDepth 100000 in
def wX7_isBestWith_37 (v1 : Int32) (v2 : Int32) (v3 : Int32) (v4 : Int32) (v5 : Int32) (s0 : Int32) (x : ab_X) (K : Int32 → Prop) (L3 : Int32 → Prop) : Prop := ((s0 = 0 → L3 (v5 + 1)) ∧ (¬ s0 = 0 → (vp_in (v5 ||| v1) 256 ∧ ((¬ (x.1 237 (Int32.toNatClampNeg (v5 ||| v1))) = (x.1 234 10) → L3 (v5 + 1)) ∧ ((x.1 237 (Int32.toNatClampNeg (v5 ||| v1))) = (x.1 234 10) → wX7_through v5 v2 v4 x (fun r2 => ((¬ (v3 + r2) = (x.1 234 11) → L3 (v5 + 1)) ∧ ((v3 + r2) = (x.1 234 11) → K 1))))))))
set_option maxHeartbeats 4000000 in
set_option maxRecDepth 100000 in
theorem sX7_isBestWith_37 (v1 : Int32) (v2 : Int32) (v3 : Int32) (v4 : Int32) (v5 : Int32) (s0 : Int32)  (x : ab_X) (K : Int32 → Prop) (L3 : Int32 → Prop) (d bc bs : Nat) (hdp : 1 ≤ d) (hL3 : ∀ (v5 : Int32), L3 v5 → EW MX7_isBestWith 3 [(0, .ref 234), (1, .int v1), (2, .int v2), (3, .int v3), (4, .int v4), (5, .int v5)] [] (aS x) d bc bs (liP x K)) (h : wX7_isBestWith_37 v1 v2 v3 v4 v5 s0 x K L3) : EW MX7_isBestWith 37 [(0, .ref 234), (1, .int v1), (2, .int v2), (3, .int v3), (4, .int v4), (5, .int v5)] [.int s0] (aS x) d bc bs (liP x K) := by
  unfold wX7_isBestWith_37 at h
  refine EW_istore (pc2 := 39) rfl dX7_isBestWith_37 (by decide) [1, 2, 3, 4, 5, 6, 0] [(0, .ref 234), (1, .int v1), (2, .int v2), (3, .int v3), (4, .int v4), (5, .int v5), (6, .int s0)] rfl ?_
  refine EW_iload (pc2 := 41) rfl dX7_isBestWith_39 6 rfl ?_
  refine EW_if_eq (tgt := 80) (pc2 := 44) rfl dX7_isBestWith_41 (by decide) (fun q => ?_) (fun q => ?_)
  · replace h := h.1 q
    refine EW_iinc (v5 + 1) (pc2 := 83) rfl dX7_isBestWith_80 5 rfl rfl (by decide) [1, 2, 3, 4, 5, 0, 6] [(0, .ref 234), (1, .int v1), (2, .int v2), (3, .int v3), (4, .int v4), (5, .int (v5 + 1)), (6, .int s0)] rfl ?_
    refine EW_goto (tgt := 3) dX7_isBestWith_83 (by decide) ?_
    refine EW_ls [0, 1, 2, 3, 4, 5] rfl ?_
    exact hL3 (v5 + 1) h
  · replace h := h.2 q
    refine EW_aload_n (pc2 := 45) rfl dX7_isBestWith_44 0 rfl ?_
    refine AW_getr (r := 237) ⟨gfRX7_18, rfl⟩ (pc2 := 48) rfl dX7_isBestWith_45 q234 rfl ?_
    refine EW_iload (pc2 := 50) rfl dX7_isBestWith_48 5 rfl ?_
    refine EW_iload_n (pc2 := 51) rfl dX7_isBestWith_50 1 rfl ?_
    refine EW_ior (pc2 := 52) rfl dX7_isBestWith_51 ?_
    obtain ⟨b1, h⟩ := h
    refine AW_iald (pc2 := 53) rfl dX7_isBestWith_52 q237 b1 ?_
    refine EW_aload_n (pc2 := 54) rfl dX7_isBestWith_53 0 rfl ?_
    refine AW_geti ⟨gfRX7_116, rfl⟩ (pc2 := 57) rfl dX7_isBestWith_54 q234 ?_
    refine EW_icmp_ne (tgt := 80) (pc2 := 60) rfl dX7_isBestWith_57 (by decide) (fun q => ?_) (fun q => ?_)
    · replace h := h.1 q
      refine EW_iinc (v5 + 1) (pc2 := 83) rfl dX7_isBestWith_80 5 rfl rfl (by decide) [1, 2, 3, 4, 5, 0, 6] [(0, .ref 234), (1, .int v1), (2, .int v2), (3, .int v3), (4, .int v4), (5, .int (v5 + 1)), (6, .int s0)] rfl ?_
      refine EW_goto (tgt := 3) dX7_isBestWith_83 (by decide) ?_
      refine EW_ls [0, 1, 2, 3, 4, 5] rfl ?_
      exact hL3 (v5 + 1) h
    · replace h := h.2 q
      refine EW_iload_n (pc2 := 61) rfl dX7_isBestWith_60 3 rfl ?_
      refine EW_aload_n (pc2 := 62) rfl dX7_isBestWith_61 0 rfl ?_
      refine EW_iload (pc2 := 64) rfl dX7_isBestWith_62 5 rfl ?_
      refine EW_iload_n (pc2 := 65) rfl dX7_isBestWith_64 2 rfl ?_
      refine EW_iload (pc2 := 67) rfl dX7_isBestWith_65 4 rfl ?_
      refine AW_invV (M' := MX7_through) [.int v5, .int v2, .int v4] (rest := [.int v3]) mlRX7_112 okX7_through (pc2 := 70) rfl dX7_isBestWith_67 rfl rfl (Nat.le_of_ble_eq_true rfl) (Nat.le_of_ble_eq_true rfl) (d' := 0) (by omega) q234 ⟨by decide, rfl⟩ (EW_mono (fun _ _ hr => ?_) (sX7_through v5 v2 v4  x _ _ 0 0 (Nat.le_refl _) h))
      obtain ⟨r2, rfl, rfl, h⟩ := hr
      refine EW_iadd (pc2 := 71) rfl dX7_isBestWith_70 ?_
      refine EW_aload_n (pc2 := 72) rfl dX7_isBestWith_71 0 rfl ?_
      refine AW_geti ⟨gfRX7_119, rfl⟩ (pc2 := 75) rfl dX7_isBestWith_72 q234 ?_
      refine EW_icmp_ne (tgt := 80) (pc2 := 78) rfl dX7_isBestWith_75 (by decide) (fun q => ?_) (fun q => ?_)
      · replace h := h.1 q
        refine EW_iinc (v5 + 1) (pc2 := 83) rfl dX7_isBestWith_80 5 rfl rfl (by decide) [1, 2, 3, 4, 5, 0, 6] [(0, .ref 234), (1, .int v1), (2, .int v2), (3, .int v3), (4, .int v4), (5, .int (v5 + 1)), (6, .int s0)] rfl ?_
        refine EW_goto (tgt := 3) dX7_isBestWith_83 (by decide) ?_
        refine EW_ls [0, 1, 2, 3, 4, 5] rfl ?_
        exact hL3 (v5 + 1) h
      · replace h := h.2 q
        refine EW_iconst (pc2 := 79) (v := 1) rfl dX7_isBestWith_78 (by decide) ?_
        exact AW_zret rfl isB1 dX7_isBestWith_79 ⟨_, rfl, rfl, h⟩
set_option maxHeartbeats 4000000 in
set_option maxRecDepth 100000 in
def wX7_isBestWith_36 (v1 : Int32) (v2 : Int32) (v3 : Int32) (v4 : Int32) (v5 : Int32) (x : ab_X) (K : Int32 → Prop) (L3 : Int32 → Prop) : Prop := wX7_isBestWith_37 v1 v2 v3 v4 v5 0 x K L3
set_option maxHeartbeats 4000000 in
set_option maxRecDepth 100000 in
theorem sX7_isBestWith_36 (v1 : Int32) (v2 : Int32) (v3 : Int32) (v4 : Int32) (v5 : Int32)  (x : ab_X) (K : Int32 → Prop) (L3 : Int32 → Prop) (d bc bs : Nat) (hdp : 1 ≤ d) (hL3 : ∀ (v5 : Int32), L3 v5 → EW MX7_isBestWith 3 [(0, .ref 234), (1, .int v1), (2, .int v2), (3, .int v3), (4, .int v4), (5, .int v5)] [] (aS x) d bc bs (liP x K)) (h : wX7_isBestWith_36 v1 v2 v3 v4 v5 x K L3) : EW MX7_isBestWith 36 [(0, .ref 234), (1, .int v1), (2, .int v2), (3, .int v3), (4, .int v4), (5, .int v5)] [] (aS x) d bc bs (liP x K) := by
  unfold wX7_isBestWith_36 at h
  refine EW_iconst (pc2 := 37) (v := 0) rfl dX7_isBestWith_36 (by decide) ?_
  exact sX7_isBestWith_37 v1 v2 v3 v4 v5 0 x K L3 d bc bs hdp hL3 h
set_option maxHeartbeats 4000000 in
set_option maxRecDepth 100000 in
def lX7_isBestWith_3 (v1 : Int32) (v2 : Int32) (v3 : Int32) (v4 : Int32) (x : ab_X) (K : Int32 → Prop)  (L3 : Int32 → Prop) (v5 : Int32) : Prop := (((1 <<< ((x.1 234 5) &&& 31)) ≤ v5 → K 0) ∧ (¬ (1 <<< ((x.1 234 5) &&& 31)) ≤ v5 → ((¬ (v5 &&& v1) = 0 → wX7_isBestWith_36 v1 v2 v3 v4 v5 x K L3) ∧ ((v5 &&& v1) = 0 → ((¬ ((v5 >>> (v4 &&& 31)) &&& 1) = 1 → wX7_isBestWith_36 v1 v2 v3 v4 v5 x K L3) ∧ (((v5 >>> (v4 &&& 31)) &&& 1) = 1 → wX7_isBestWith_37 v1 v2 v3 v4 v5 1 x K L3))))))
set_option maxHeartbeats 4000000 in
set_option maxRecDepth 100000 in
theorem sX7_isBestWith_3 (v1 : Int32) (v2 : Int32) (v3 : Int32) (v4 : Int32) (v5 : Int32)  (x : ab_X) (K : Int32 → Prop)  (d bc bs : Nat) (hdp : 1 ≤ d)  (h : Lp1 (lX7_isBestWith_3 v1 v2 v3 v4 x K ) v5) : EW MX7_isBestWith 3 [(0, .ref 234), (1, .int v1), (2, .int v2), (3, .int v3), (4, .int v4), (5, .int v5)] [] (aS x) d bc bs (liP x K) := by
  refine Lp1.use (P := fun v5 => EW MX7_isBestWith 3 [(0, .ref 234), (1, .int v1), (2, .int v2), (3, .int v3), (4, .int v4), (5, .int v5)] [] (aS x) d bc bs (liP x K)) (fun L3 v5 hL3 h => ?_) v5 h
  unfold lX7_isBestWith_3 at h
  refine EW_iload (pc2 := 5) rfl dX7_isBestWith_3 5 rfl ?_
  refine EW_iconst (pc2 := 6) (v := 1) rfl dX7_isBestWith_5 (by decide) ?_
  refine EW_aload_n (pc2 := 7) rfl dX7_isBestWith_6 0 rfl ?_
  refine AW_geti ⟨gfRX7_71, rfl⟩ (pc2 := 10) rfl dX7_isBestWith_7 q234 ?_
  refine EW_ishl (pc2 := 11) rfl dX7_isBestWith_10 ?_
  refine EW_icmp_ge (tgt := 86) (pc2 := 14) rfl dX7_isBestWith_11 (by decide) (fun q => ?_) (fun q => ?_)
  · replace h := h.1 q
    refine EW_iconst (pc2 := 87) (v := 0) rfl dX7_isBestWith_86 (by decide) ?_
    exact AW_zret rfl isB0 dX7_isBestWith_87 ⟨_, rfl, rfl, h⟩
  · replace h := h.2 q
    refine EW_iload (pc2 := 16) rfl dX7_isBestWith_14 5 rfl ?_
    refine EW_iload_n (pc2 := 17) rfl dX7_isBestWith_16 1 rfl ?_
    refine EW_iand (pc2 := 18) rfl dX7_isBestWith_17 ?_
    refine EW_if_ne (tgt := 36) (pc2 := 21) rfl dX7_isBestWith_18 (by decide) (fun q => ?_) (fun q => ?_)
    · replace h := h.1 q
      exact sX7_isBestWith_36 v1 v2 v3 v4 v5 x K L3 d bc bs hdp hL3 h
    · replace h := h.2 q
      refine EW_iload (pc2 := 23) rfl dX7_isBestWith_21 5 rfl ?_
      refine EW_iload (pc2 := 25) rfl dX7_isBestWith_23 4 rfl ?_
      refine EW_ishr (pc2 := 26) rfl dX7_isBestWith_25 ?_
      refine EW_iconst (pc2 := 27) (v := 1) rfl dX7_isBestWith_26 (by decide) ?_
      refine EW_iand (pc2 := 28) rfl dX7_isBestWith_27 ?_
      refine EW_iconst (pc2 := 29) (v := 1) rfl dX7_isBestWith_28 (by decide) ?_
      refine EW_icmp_ne (tgt := 36) (pc2 := 32) rfl dX7_isBestWith_29 (by decide) (fun q => ?_) (fun q => ?_)
      · replace h := h.1 q
        exact sX7_isBestWith_36 v1 v2 v3 v4 v5 x K L3 d bc bs hdp hL3 h
      · replace h := h.2 q
        refine EW_iconst (pc2 := 33) (v := 1) rfl dX7_isBestWith_32 (by decide) ?_
        refine EW_goto (tgt := 37) dX7_isBestWith_33 (by decide) ?_
        exact sX7_isBestWith_37 v1 v2 v3 v4 v5 1 x K L3 d bc bs hdp hL3 h
set_option maxHeartbeats 4000000 in
set_option maxRecDepth 100000 in
def wX7_isBestWith (v1 : Int32) (v2 : Int32) (v3 : Int32) (v4 : Int32) (x : ab_X) (K : Int32 → Prop) : Prop := Lp1 (lX7_isBestWith_3 v1 v2 v3 v4 x K ) 0
set_option maxHeartbeats 4000000 in
set_option maxRecDepth 100000 in
theorem sX7_isBestWith (v1 : Int32) (v2 : Int32) (v3 : Int32) (v4 : Int32)  (x : ab_X) (K : Int32 → Prop) (d bc bs : Nat) (hdp : 1 ≤ d) (h : wX7_isBestWith v1 v2 v3 v4 x K) : EW MX7_isBestWith 0 [(0, .ref 234), (1, .int v1), (2, .int v2), (3, .int v3), (4, .int v4)] [] (aS x) d bc bs (liP x K) := by
  unfold wX7_isBestWith at h
  refine EW_iconst (pc2 := 1) (v := 0) rfl dX7_isBestWith_0 (by decide) ?_
  refine EW_istore (pc2 := 3) rfl dX7_isBestWith_1 (by decide) [1, 2, 3, 4, 5, 0] [(0, .ref 234), (1, .int v1), (2, .int v2), (3, .int v3), (4, .int v4), (5, .int 0)] rfl ?_
  exact sX7_isBestWith_3 v1 v2 v3 v4 0 x K d bc bs hdp h
theorem mlRX7_128 : Cond.methodLink RX7 128 yX7_isBestWith ∈ ab_G ∧ Cond.instanceMethod yX7_isBestWith ∈ ab_G ∧ Cond.selects RX7 yX7_isBestWith yX7_isBestWith ∈ ab_G := ⟨ab_in 1638 (by decide +kernel) (by decide +kernel), ab_in 1639 (by decide +kernel) (by decide +kernel), ab_in 1640 (by decide +kernel) (by decide +kernel)⟩
abbrev MX7_nextStop : ab_M := (yX7_nextStop, cX7_nextStop, 5, (some .int))
theorem dX7_nextStop_0 : decode cX7_nextStop 0 = .ok (.iconst 0, 1) := by decide +kernel
theorem dX7_nextStop_1 : decode cX7_nextStop 1 = .ok (.istore 4, 2) := by decide +kernel
theorem dX7_nextStop_3 : decode cX7_nextStop 3 = .ok (.iload 4, 2) := by decide +kernel
theorem dX7_nextStop_5 : decode cX7_nextStop 5 = .ok (.aload_n 0, 1) := by decide +kernel
theorem dX7_nextStop_6 : decode cX7_nextStop 6 = .ok (.getfield 71, 3) := by decide +kernel
theorem dX7_nextStop_9 : decode cX7_nextStop 9 = .ok (.if_icmp .ge 33, 3) := by decide +kernel
theorem dX7_nextStop_12 : decode cX7_nextStop 12 = .ok (.iload_n 1, 1) := by decide +kernel
theorem dX7_nextStop_13 : decode cX7_nextStop 13 = .ok (.iload 4, 2) := by decide +kernel
theorem dX7_nextStop_15 : decode cX7_nextStop 15 = .ok (.ishr, 1) := by decide +kernel
theorem dX7_nextStop_16 : decode cX7_nextStop 16 = .ok (.iconst 1, 1) := by decide +kernel
theorem dX7_nextStop_17 : decode cX7_nextStop 17 = .ok (.iand, 1) := by decide +kernel
theorem dX7_nextStop_18 : decode cX7_nextStop 18 = .ok (.ifCond .ne 18, 3) := by decide +kernel
theorem dX7_nextStop_21 : decode cX7_nextStop 21 = .ok (.aload_n 0, 1) := by decide +kernel
theorem dX7_nextStop_22 : decode cX7_nextStop 22 = .ok (.iload_n 1, 1) := by decide +kernel
theorem dX7_nextStop_23 : decode cX7_nextStop 23 = .ok (.iload_n 2, 1) := by decide +kernel
theorem dX7_nextStop_24 : decode cX7_nextStop 24 = .ok (.iload_n 3, 1) := by decide +kernel
theorem dX7_nextStop_25 : decode cX7_nextStop 25 = .ok (.iload 4, 2) := by decide +kernel
theorem dX7_nextStop_27 : decode cX7_nextStop 27 = .ok (.invokevirtual 128, 3) := by decide +kernel
theorem dX7_nextStop_30 : decode cX7_nextStop 30 = .ok (.ifCond .eq 6, 3) := by decide +kernel
theorem dX7_nextStop_33 : decode cX7_nextStop 33 = .ok (.iload 4, 2) := by decide +kernel
theorem dX7_nextStop_35 : decode cX7_nextStop 35 = .ok (.ireturn, 1) := by decide +kernel
theorem dX7_nextStop_36 : decode cX7_nextStop 36 = .ok (.iinc 4 1, 3) := by decide +kernel
theorem dX7_nextStop_39 : decode cX7_nextStop 39 = .ok (.goto (-36), 3) := by decide +kernel
theorem dX7_nextStop_42 : decode cX7_nextStop 42 = .ok (.iconst (-1), 1) := by decide +kernel
theorem dX7_nextStop_43 : decode cX7_nextStop 43 = .ok (.ireturn, 1) := by decide +kernel
theorem okX7_nextStop : ab_okM MX7_nextStop 3 := ⟨by decide, ⟨by decide, by decide⟩, ab_in 1637 (by decide +kernel) (by decide +kernel), ab_in 98 (by decide +kernel) (by decide +kernel), by decide +kernel, by decide⟩
set_option maxHeartbeats 4000000 in
set_option maxRecDepth 100000 in
def lX7_nextStop_3 (v1 : Int32) (v2 : Int32) (v3 : Int32) (x : ab_X) (K : Int32 → Prop)  (L3 : Int32 → Prop) (v4 : Int32) : Prop := (((x.1 234 5) ≤ v4 → K (-1)) ∧ (¬ (x.1 234 5) ≤ v4 → ((¬ ((v1 >>> (v4 &&& 31)) &&& 1) = 0 → L3 (v4 + 1)) ∧ (((v1 >>> (v4 &&& 31)) &&& 1) = 0 → wX7_isBestWith v1 v2 v3 v4 x (fun r1 => ((r1 = 0 → L3 (v4 + 1)) ∧ (¬ r1 = 0 → K v4)))))))
set_option maxHeartbeats 4000000 in
set_option maxRecDepth 100000 in
theorem sX7_nextStop_3 (v1 : Int32) (v2 : Int32) (v3 : Int32) (v4 : Int32)  (x : ab_X) (K : Int32 → Prop)  (d bc bs : Nat) (hdp : 2 ≤ d)  (h : Lp1 (lX7_nextStop_3 v1 v2 v3 x K ) v4) : EW MX7_nextStop 3 [(0, .ref 234), (1, .int v1), (2, .int v2), (3, .int v3), (4, .int v4)] [] (aS x) d bc bs (liP x K) := by
  refine Lp1.use (P := fun v4 => EW MX7_nextStop 3 [(0, .ref 234), (1, .int v1), (2, .int v2), (3, .int v3), (4, .int v4)] [] (aS x) d bc bs (liP x K)) (fun L3 v4 hL3 h => ?_) v4 h
  unfold lX7_nextStop_3 at h
  refine EW_iload (pc2 := 5) rfl dX7_nextStop_3 4 rfl ?_
  refine EW_aload_n (pc2 := 6) rfl dX7_nextStop_5 0 rfl ?_
  refine AW_geti ⟨gfRX7_71, rfl⟩ (pc2 := 9) rfl dX7_nextStop_6 q234 ?_
  refine EW_icmp_ge (tgt := 42) (pc2 := 12) rfl dX7_nextStop_9 (by decide) (fun q => ?_) (fun q => ?_)
  · replace h := h.1 q
    refine EW_iconst (pc2 := 43) (v := (-1)) rfl dX7_nextStop_42 (by decide) ?_
    exact AW_iret rfl dX7_nextStop_43 ⟨_, rfl, rfl, h⟩
  · replace h := h.2 q
    refine EW_iload_n (pc2 := 13) rfl dX7_nextStop_12 1 rfl ?_
    refine EW_iload (pc2 := 15) rfl dX7_nextStop_13 4 rfl ?_
    refine EW_ishr (pc2 := 16) rfl dX7_nextStop_15 ?_
    refine EW_iconst (pc2 := 17) (v := 1) rfl dX7_nextStop_16 (by decide) ?_
    refine EW_iand (pc2 := 18) rfl dX7_nextStop_17 ?_
    refine EW_if_ne (tgt := 36) (pc2 := 21) rfl dX7_nextStop_18 (by decide) (fun q => ?_) (fun q => ?_)
    · replace h := h.1 q
      refine EW_iinc (v4 + 1) (pc2 := 39) rfl dX7_nextStop_36 4 rfl rfl (by decide) [1, 2, 3, 4, 0] [(0, .ref 234), (1, .int v1), (2, .int v2), (3, .int v3), (4, .int (v4 + 1))] rfl ?_
      refine EW_goto (tgt := 3) dX7_nextStop_39 (by decide) ?_
      exact hL3 (v4 + 1) h
    · replace h := h.2 q
      refine EW_aload_n (pc2 := 22) rfl dX7_nextStop_21 0 rfl ?_
      refine EW_iload_n (pc2 := 23) rfl dX7_nextStop_22 1 rfl ?_
      refine EW_iload_n (pc2 := 24) rfl dX7_nextStop_23 2 rfl ?_
      refine EW_iload_n (pc2 := 25) rfl dX7_nextStop_24 3 rfl ?_
      refine EW_iload (pc2 := 27) rfl dX7_nextStop_25 4 rfl ?_
      refine AW_invV (M' := MX7_isBestWith) [.int v1, .int v2, .int v3, .int v4] (rest := []) mlRX7_128 okX7_isBestWith (pc2 := 30) rfl dX7_nextStop_27 rfl rfl (Nat.le_of_ble_eq_true rfl) (Nat.le_of_ble_eq_true rfl) (d' := 1) (by omega) q234 ⟨by decide, rfl⟩ (EW_mono (fun _ _ hr => ?_) (sX7_isBestWith v1 v2 v3 v4  x _ _ 0 0 (Nat.le_refl _) h))
      obtain ⟨r1, rfl, rfl, h⟩ := hr
      refine EW_if_eq (tgt := 36) (pc2 := 33) rfl dX7_nextStop_30 (by decide) (fun q => ?_) (fun q => ?_)
      · replace h := h.1 q
        refine EW_iinc (v4 + 1) (pc2 := 39) rfl dX7_nextStop_36 4 rfl rfl (by decide) [1, 2, 3, 4, 0] [(0, .ref 234), (1, .int v1), (2, .int v2), (3, .int v3), (4, .int (v4 + 1))] rfl ?_
        refine EW_goto (tgt := 3) dX7_nextStop_39 (by decide) ?_
        exact hL3 (v4 + 1) h
      · replace h := h.2 q
        refine EW_iload (pc2 := 35) rfl dX7_nextStop_33 4 rfl ?_
        exact AW_iret rfl dX7_nextStop_35 ⟨_, rfl, rfl, h⟩
set_option maxHeartbeats 4000000 in
set_option maxRecDepth 100000 in
def wX7_nextStop (v1 : Int32) (v2 : Int32) (v3 : Int32) (x : ab_X) (K : Int32 → Prop) : Prop := Lp1 (lX7_nextStop_3 v1 v2 v3 x K ) 0
set_option maxHeartbeats 4000000 in
set_option maxRecDepth 100000 in
theorem sX7_nextStop (v1 : Int32) (v2 : Int32) (v3 : Int32)  (x : ab_X) (K : Int32 → Prop) (d bc bs : Nat) (hdp : 2 ≤ d) (h : wX7_nextStop v1 v2 v3 x K) : EW MX7_nextStop 0 [(0, .ref 234), (1, .int v1), (2, .int v2), (3, .int v3)] [] (aS x) d bc bs (liP x K) := by
  unfold wX7_nextStop at h
  refine EW_iconst (pc2 := 1) (v := 0) rfl dX7_nextStop_0 (by decide) ?_
  refine EW_istore (pc2 := 3) rfl dX7_nextStop_1 (by decide) [1, 2, 3, 4, 0] [(0, .ref 234), (1, .int v1), (2, .int v2), (3, .int v3), (4, .int 0)] rfl ?_
  exact sX7_nextStop_3 v1 v2 v3 0 x K d bc bs hdp h
