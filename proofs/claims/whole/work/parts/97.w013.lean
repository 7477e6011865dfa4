theorem gfRX7_18 : ab_L RX7 18 7 6 := ⟨by decide, by decide, ab_in 677 (by decide +kernel) (by decide +kernel)⟩
theorem gfRX7_15 : ab_L RX7 15 7 4 := ⟨by decide, by decide, ab_in 675 (by decide +kernel) (by decide +kernel)⟩
abbrev MX7_fillWorths : ab_M := (yX7_fillWorths, cX7_fillWorths, 3, none)
theorem dX7_fillWorths_0 : decode cX7_fillWorths 0 = .ok (.iconst 0, 1) := by decide +kernel
theorem dX7_fillWorths_1 : decode cX7_fillWorths 1 = .ok (.istore_n 1, 1) := by decide +kernel
theorem dX7_fillWorths_2 : decode cX7_fillWorths 2 = .ok (.iload_n 1, 1) := by decide +kernel
theorem dX7_fillWorths_3 : decode cX7_fillWorths 3 = .ok (.iconst 1, 1) := by decide +kernel
theorem dX7_fillWorths_4 : decode cX7_fillWorths 4 = .ok (.aload_n 0, 1) := by decide +kernel
theorem dX7_fillWorths_5 : decode cX7_fillWorths 5 = .ok (.getfield 71, 3) := by decide +kernel
theorem dX7_fillWorths_8 : decode cX7_fillWorths 8 = .ok (.ishl, 1) := by decide +kernel
theorem dX7_fillWorths_9 : decode cX7_fillWorths 9 = .ok (.if_icmp .ge 53, 3) := by decide +kernel
theorem dX7_fillWorths_12 : decode cX7_fillWorths 12 = .ok (.aload_n 0, 1) := by decide +kernel
theorem dX7_fillWorths_13 : decode cX7_fillWorths 13 = .ok (.getfield 18, 3) := by decide +kernel
theorem dX7_fillWorths_16 : decode cX7_fillWorths 16 = .ok (.iload_n 1, 1) := by decide +kernel
theorem dX7_fillWorths_17 : decode cX7_fillWorths 17 = .ok (.iconst 0, 1) := by decide +kernel
theorem dX7_fillWorths_18 : decode cX7_fillWorths 18 = .ok (.iastore, 1) := by decide +kernel
theorem dX7_fillWorths_19 : decode cX7_fillWorths 19 = .ok (.iconst 0, 1) := by decide +kernel
theorem dX7_fillWorths_20 : decode cX7_fillWorths 20 = .ok (.istore_n 2, 1) := by decide +kernel
theorem dX7_fillWorths_21 : decode cX7_fillWorths 21 = .ok (.iload_n 2, 1) := by decide +kernel
theorem dX7_fillWorths_22 : decode cX7_fillWorths 22 = .ok (.aload_n 0, 1) := by decide +kernel
theorem dX7_fillWorths_23 : decode cX7_fillWorths 23 = .ok (.getfield 71, 3) := by decide +kernel
theorem dX7_fillWorths_26 : decode cX7_fillWorths 26 = .ok (.if_icmp .ge 30, 3) := by decide +kernel
theorem dX7_fillWorths_29 : decode cX7_fillWorths 29 = .ok (.aload_n 0, 1) := by decide +kernel
theorem dX7_fillWorths_30 : decode cX7_fillWorths 30 = .ok (.getfield 18, 3) := by decide +kernel
theorem dX7_fillWorths_33 : decode cX7_fillWorths 33 = .ok (.iload_n 1, 1) := by decide +kernel
theorem dX7_fillWorths_34 : decode cX7_fillWorths 34 = .ok (.dup2, 1) := by decide +kernel
theorem dX7_fillWorths_35 : decode cX7_fillWorths 35 = .ok (.iaload, 1) := by decide +kernel
theorem dX7_fillWorths_36 : decode cX7_fillWorths 36 = .ok (.iload_n 1, 1) := by decide +kernel
theorem dX7_fillWorths_37 : decode cX7_fillWorths 37 = .ok (.iload_n 2, 1) := by decide +kernel
theorem dX7_fillWorths_38 : decode cX7_fillWorths 38 = .ok (.ishr, 1) := by decide +kernel
theorem dX7_fillWorths_39 : decode cX7_fillWorths 39 = .ok (.iconst 1, 1) := by decide +kernel
theorem dX7_fillWorths_40 : decode cX7_fillWorths 40 = .ok (.iand, 1) := by decide +kernel
theorem dX7_fillWorths_41 : decode cX7_fillWorths 41 = .ok (.aload_n 0, 1) := by decide +kernel
theorem dX7_fillWorths_42 : decode cX7_fillWorths 42 = .ok (.getfield 15, 3) := by decide +kernel
theorem dX7_fillWorths_45 : decode cX7_fillWorths 45 = .ok (.iload_n 2, 1) := by decide +kernel
theorem dX7_fillWorths_46 : decode cX7_fillWorths 46 = .ok (.iaload, 1) := by decide +kernel
theorem dX7_fillWorths_47 : decode cX7_fillWorths 47 = .ok (.imul, 1) := by decide +kernel
theorem dX7_fillWorths_48 : decode cX7_fillWorths 48 = .ok (.iadd, 1) := by decide +kernel
theorem dX7_fillWorths_49 : decode cX7_fillWorths 49 = .ok (.iastore, 1) := by decide +kernel
theorem dX7_fillWorths_50 : decode cX7_fillWorths 50 = .ok (.iinc 2 1, 3) := by decide +kernel
theorem dX7_fillWorths_53 : decode cX7_fillWorths 53 = .ok (.goto (-32), 3) := by decide +kernel
theorem dX7_fillWorths_56 : decode cX7_fillWorths 56 = .ok (.iinc 1 1, 3) := by decide +kernel
theorem dX7_fillWorths_59 : decode cX7_fillWorths 59 = .ok (.goto (-57), 3) := by decide +kernel
theorem dX7_fillWorths_62 : decode cX7_fillWorths 62 = .ok (.return_, 1) := by decide +kernel
theorem okX7_fillWorths : ab_okM MX7_fillWorths 0 := ⟨by decide, ⟨by decide, by decide⟩, ab_in 1609 (by decide +kernel) (by decide +kernel), ab_in 98 (by decide +kernel) (by decide +kernel), by decide +kernel, by decide⟩
set_option maxHeartbeats 4000000 in
set_option maxRecDepth 100000 in
theorem sX7_fillWorths_21 (v1 : Int32) (v2 : Int32)  (x : ab_X) (K : ab_X → Prop) (L2 : Int32 → ab_X → Prop) (d bc bs : Nat) (hdp : 0 ≤ d) (hL2 : ∀ (v1 : Int32) (x : ab_X), L2 v1 x → EW MX7_fillWorths 2 [(0, .ref 234), (1, .int v1)] [] (aS x) d bc bs (liV K)) (h : Lp2 (lX7_fillWorths_21 v1 K L2) v2 x) : EW MX7_fillWorths 21 [(0, .ref 234), (1, .int v1), (2, .int v2)] [] (aS x) d bc bs (liV K) := by
  refine Lp2.use (P := fun v2 x => EW MX7_fillWorths 21 [(0, .ref 234), (1, .int v1), (2, .int v2)] [] (aS x) d bc bs (liV K)) (fun L21 v2 x hL21 h => ?_) v2 x h
  unfold lX7_fillWorths_21 at h
  refine EW_iload_n (pc2 := 22) rfl dX7_fillWorths_21 2 rfl ?_
  refine EW_aload_n (pc2 := 23) rfl dX7_fillWorths_22 0 rfl ?_
  refine AW_geti ⟨gfRX7_71, rfl⟩ (pc2 := 26) rfl dX7_fillWorths_23 q234 ?_
  refine EW_icmp_ge (tgt := 56) (pc2 := 29) rfl dX7_fillWorths_26 (by decide) (fun q => ?_) (fun q => ?_)
  · replace h := h.1 q
    refine EW_iinc (v1 + 1) (pc2 := 59) rfl dX7_fillWorths_56 1 rfl rfl (by decide) [1, 0, 2] [(0, .ref 234), (1, .int (v1 + 1)), (2, .int v2)] rfl ?_
    refine EW_goto (tgt := 2) dX7_fillWorths_59 (by decide) ?_
    refine EW_ls [0, 1] rfl ?_
    exact hL2 (v1 + 1) x h
  · replace h := h.2 q
    refine EW_aload_n (pc2 := 30) rfl dX7_fillWorths_29 0 rfl ?_
    refine AW_getr (r := 237) ⟨gfRX7_18, rfl⟩ (pc2 := 33) rfl dX7_fillWorths_30 q234 rfl ?_
    refine EW_iload_n (pc2 := 34) rfl dX7_fillWorths_33 1 rfl ?_
    refine EW_dup2 (pc2 := 35) rfl dX7_fillWorths_34 rfl rfl ?_
    obtain ⟨b2, h⟩ := h
    refine AW_iald (pc2 := 36) rfl dX7_fillWorths_35 q237 b2 ?_
    refine EW_iload_n (pc2 := 37) rfl dX7_fillWorths_36 1 rfl ?_
    refine EW_iload_n (pc2 := 38) rfl dX7_fillWorths_37 2 rfl ?_
    refine EW_ishr (pc2 := 39) rfl dX7_fillWorths_38 ?_
    refine EW_iconst (pc2 := 40) (v := 1) rfl dX7_fillWorths_39 (by decide) ?_
    refine EW_iand (pc2 := 41) rfl dX7_fillWorths_40 ?_
    refine EW_aload_n (pc2 := 42) rfl dX7_fillWorths_41 0 rfl ?_
    refine AW_getr (r := 236) ⟨gfRX7_15, rfl⟩ (pc2 := 45) rfl dX7_fillWorths_42 q234 rfl ?_
    refine EW_iload_n (pc2 := 46) rfl dX7_fillWorths_45 2 rfl ?_
    obtain ⟨b3, h⟩ := h
    refine AW_iald (pc2 := 47) rfl dX7_fillWorths_46 q236 b3 ?_
    refine EW_imul (pc2 := 48) rfl dX7_fillWorths_47 ?_
    refine EW_iadd (pc2 := 49) rfl dX7_fillWorths_48 ?_
    obtain ⟨b4, h⟩ := h
    refine AW_iast (pc2 := 50) rfl dX7_fillWorths_49 q237 b4 ?_
    refine EW_iinc (v2 + 1) (pc2 := 53) rfl dX7_fillWorths_50 2 rfl rfl (by decide) [1, 2, 0] [(0, .ref 234), (1, .int v1), (2, .int (v2 + 1))] rfl ?_
    refine EW_goto (tgt := 21) dX7_fillWorths_53 (by decide) ?_
    exact hL21 (v2 + 1) (wr x 237 (Int32.toNatClampNeg v1) ((x.1 237 (Int32.toNatClampNeg v1)) + (((v1 >>> (v2 &&& 31)) &&& 1) * (x.1 236 (Int32.toNatClampNeg v2))))) h
set_option maxHeartbeats 4000000 in
set_option maxRecDepth 100000 in
theorem sX7_fillWorths_2 (v1 : Int32)  (x : ab_X) (K : ab_X → Prop)  (d bc bs : Nat) (hdp : 0 ≤ d)  (h : Lp2 (lX7_fillWorths_2  K ) v1 x) : EW MX7_fillWorths 2 [(0, .ref 234), (1, .int v1)] [] (aS x) d bc bs (liV K) := by
  refine Lp2.use (P := fun v1 x => EW MX7_fillWorths 2 [(0, .ref 234), (1, .int v1)] [] (aS x) d bc bs (liV K)) (fun L2 v1 x hL2 h => ?_) v1 x h
  unfold lX7_fillWorths_2 at h
  refine EW_iload_n (pc2 := 3) rfl dX7_fillWorths_2 1 rfl ?_
  refine EW_iconst (pc2 := 4) (v := 1) rfl dX7_fillWorths_3 (by decide) ?_
  refine EW_aload_n (pc2 := 5) rfl dX7_fillWorths_4 0 rfl ?_
  refine AW_geti ⟨gfRX7_71, rfl⟩ (pc2 := 8) rfl dX7_fillWorths_5 q234 ?_
  refine EW_ishl (pc2 := 9) rfl dX7_fillWorths_8 ?_
  refine EW_icmp_ge (tgt := 62) (pc2 := 12) rfl dX7_fillWorths_9 (by decide) (fun q => ?_) (fun q => ?_)
  · replace h := h.1 q
    exact EW_vret rfl dX7_fillWorths_62 ⟨_, rfl, rfl, h⟩
  · replace h := h.2 q
    refine EW_aload_n (pc2 := 13) rfl dX7_fillWorths_12 0 rfl ?_
    refine AW_getr (r := 237) ⟨gfRX7_18, rfl⟩ (pc2 := 16) rfl dX7_fillWorths_13 q234 rfl ?_
    refine EW_iload_n (pc2 := 17) rfl dX7_fillWorths_16 1 rfl ?_
    refine EW_iconst (pc2 := 18) (v := 0) rfl dX7_fillWorths_17 (by decide) ?_
    obtain ⟨b1, h⟩ := h
    refine AW_iast (pc2 := 19) rfl dX7_fillWorths_18 q237 b1 ?_
    refine EW_iconst (pc2 := 20) (v := 0) rfl dX7_fillWorths_19 (by decide) ?_
    refine EW_istore_n (pc2 := 21) rfl dX7_fillWorths_20 (by decide) [1, 2, 0] [(0, .ref 234), (1, .int v1), (2, .int 0)] rfl ?_
    exact sX7_fillWorths_21 v1 0 (wr x 237 (Int32.toNatClampNeg v1) 0) K L2 d bc bs hdp hL2 h
set_option maxHeartbeats 4000000 in
set_option maxRecDepth 100000 in
theorem sX7_fillWorths   (x : ab_X) (K : ab_X → Prop) (d bc bs : Nat) (hdp : 0 ≤ d) (h : wX7_fillWorths  x K) : EW MX7_fillWorths 0 [(0, .ref 234)] [] (aS x) d bc bs (liV K) := by
  unfold wX7_fillWorths at h
  refine EW_iconst (pc2 := 1) (v := 0) rfl dX7_fillWorths_0 (by decide) ?_
  refine EW_istore_n (pc2 := 2) rfl dX7_fillWorths_1 (by decide) [1, 0] [(0, .ref 234), (1, .int 0)] rfl ?_
  exact sX7_fillWorths_2 0 x K d bc bs hdp h
theorem gfRX7_116 : ab_L RX7 116 7 10 := ⟨by decide, by decide, ab_in 681 (by decide +kernel) (by decide +kernel)⟩
theorem gfRX7_119 : ab_L RX7 119 7 11 := ⟨by decide, by decide, ab_in 683 (by decide +kernel) (by decide +kernel)⟩
abbrev MX7_findBest : ab_M := (yX7_findBest, cX7_findBest, 6, none)
theorem dX7_findBest_0 : decode cX7_findBest 0 = .ok (.aload_n 0, 1) := by decide +kernel
theorem dX7_findBest_1 : decode cX7_findBest 1 = .ok (.iconst 0, 1) := by decide +kernel
theorem dX7_findBest_2 : decode cX7_findBest 2 = .ok (.putfield 116, 3) := by decide +kernel
theorem dX7_findBest_5 : decode cX7_findBest 5 = .ok (.aload_n 0, 1) := by decide +kernel
theorem dX7_findBest_6 : decode cX7_findBest 6 = .ok (.iconst 0, 1) := by decide +kernel
theorem dX7_findBest_7 : decode cX7_findBest 7 = .ok (.putfield 119, 3) := by decide +kernel
theorem dX7_findBest_10 : decode cX7_findBest 10 = .ok (.iconst 1, 1) := by decide +kernel
theorem dX7_findBest_11 : decode cX7_findBest 11 = .ok (.istore_n 2, 1) := by decide +kernel
theorem dX7_findBest_12 : decode cX7_findBest 12 = .ok (.iload_n 2, 1) := by decide +kernel
theorem dX7_findBest_13 : decode cX7_findBest 13 = .ok (.iconst 1, 1) := by decide +kernel
theorem dX7_findBest_14 : decode cX7_findBest 14 = .ok (.aload_n 0, 1) := by decide +kernel
theorem dX7_findBest_15 : decode cX7_findBest 15 = .ok (.getfield 71, 3) := by decide +kernel
theorem dX7_findBest_18 : decode cX7_findBest 18 = .ok (.ishl, 1) := by decide +kernel
theorem dX7_findBest_19 : decode cX7_findBest 19 = .ok (.if_icmp .ge 99, 3) := by decide +kernel
theorem dX7_findBest_22 : decode cX7_findBest 22 = .ok (.aload_n 0, 1) := by decide +kernel
theorem dX7_findBest_23 : decode cX7_findBest 23 = .ok (.getfield 18, 3) := by decide +kernel
theorem dX7_findBest_26 : decode cX7_findBest 26 = .ok (.iload_n 2, 1) := by decide +kernel
theorem dX7_findBest_27 : decode cX7_findBest 27 = .ok (.iaload, 1) := by decide +kernel
theorem dX7_findBest_28 : decode cX7_findBest 28 = .ok (.istore_n 3, 1) := by decide +kernel
theorem dX7_findBest_29 : decode cX7_findBest 29 = .ok (.iconst 0, 1) := by decide +kernel
theorem dX7_findBest_30 : decode cX7_findBest 30 = .ok (.istore 4, 2) := by decide +kernel
theorem dX7_findBest_32 : decode cX7_findBest 32 = .ok (.iload 4, 2) := by decide +kernel
theorem dX7_findBest_34 : decode cX7_findBest 34 = .ok (.aload_n 0, 1) := by decide +kernel
theorem dX7_findBest_35 : decode cX7_findBest 35 = .ok (.getfield 71, 3) := by decide +kernel
theorem dX7_findBest_38 : decode cX7_findBest 38 = .ok (.if_icmp .ge 74, 3) := by decide +kernel
theorem dX7_findBest_41 : decode cX7_findBest 41 = .ok (.iload_n 2, 1) := by decide +kernel
theorem dX7_findBest_42 : decode cX7_findBest 42 = .ok (.iload 4, 2) := by decide +kernel
theorem dX7_findBest_44 : decode cX7_findBest 44 = .ok (.ishr, 1) := by decide +kernel
theorem dX7_findBest_45 : decode cX7_findBest 45 = .ok (.iconst 1, 1) := by decide +kernel
theorem dX7_findBest_46 : decode cX7_findBest 46 = .ok (.iand, 1) := by decide +kernel
theorem dX7_findBest_47 : decode cX7_findBest 47 = .ok (.ifCond .ne 6, 3) := by decide +kernel
theorem dX7_findBest_50 : decode cX7_findBest 50 = .ok (.goto 56, 3) := by decide +kernel
theorem dX7_findBest_53 : decode cX7_findBest 53 = .ok (.aload_n 0, 1) := by decide +kernel
theorem dX7_findBest_54 : decode cX7_findBest 54 = .ok (.iload_n 2, 1) := by decide +kernel
theorem dX7_findBest_55 : decode cX7_findBest 55 = .ok (.bipush 8, 2) := by decide +kernel
theorem dX7_findBest_57 : decode cX7_findBest 57 = .ok (.iload 4, 2) := by decide +kernel
theorem dX7_findBest_59 : decode cX7_findBest 59 = .ok (.invokevirtual 112, 3) := by decide +kernel
theorem dX7_findBest_62 : decode cX7_findBest 62 = .ok (.istore 5, 2) := by decide +kernel
theorem dX7_findBest_64 : decode cX7_findBest 64 = .ok (.iload 5, 2) := by decide +kernel
theorem dX7_findBest_66 : decode cX7_findBest 66 = .ok (.iload_n 1, 1) := by decide +kernel
theorem dX7_findBest_67 : decode cX7_findBest 67 = .ok (.if_icmp .gt 39, 3) := by decide +kernel
theorem dX7_findBest_70 : decode cX7_findBest 70 = .ok (.iload_n 3, 1) := by decide +kernel
theorem dX7_findBest_71 : decode cX7_findBest 71 = .ok (.aload_n 0, 1) := by decide +kernel
theorem dX7_findBest_72 : decode cX7_findBest 72 = .ok (.getfield 116, 3) := by decide +kernel
theorem dX7_findBest_75 : decode cX7_findBest 75 = .ok (.if_icmp .gt 20, 3) := by decide +kernel
theorem dX7_findBest_78 : decode cX7_findBest 78 = .ok (.iload_n 3, 1) := by decide +kernel
theorem dX7_findBest_79 : decode cX7_findBest 79 = .ok (.aload_n 0, 1) := by decide +kernel
theorem dX7_findBest_80 : decode cX7_findBest 80 = .ok (.getfield 116, 3) := by decide +kernel
theorem dX7_findBest_83 : decode cX7_findBest 83 = .ok (.if_icmp .ne 23, 3) := by decide +kernel
theorem dX7_findBest_86 : decode cX7_findBest 86 = .ok (.iload 5, 2) := by decide +kernel
theorem dX7_findBest_88 : decode cX7_findBest 88 = .ok (.aload_n 0, 1) := by decide +kernel
theorem dX7_findBest_89 : decode cX7_findBest 89 = .ok (.getfield 119, 3) := by decide +kernel
theorem dX7_findBest_92 : decode cX7_findBest 92 = .ok (.if_icmp .ge 14, 3) := by decide +kernel
theorem dX7_findBest_95 : decode cX7_findBest 95 = .ok (.aload_n 0, 1) := by decide +kernel
theorem dX7_findBest_96 : decode cX7_findBest 96 = .ok (.iload_n 3, 1) := by decide +kernel
theorem dX7_findBest_97 : decode cX7_findBest 97 = .ok (.putfield 116, 3) := by decide +kernel
theorem dX7_findBest_100 : decode cX7_findBest 100 = .ok (.aload_n 0, 1) := by decide +kernel
theorem dX7_findBest_101 : decode cX7_findBest 101 = .ok (.iload 5, 2) := by decide +kernel
theorem dX7_findBest_103 : decode cX7_findBest 103 = .ok (.putfield 119, 3) := by decide +kernel
theorem dX7_findBest_106 : decode cX7_findBest 106 = .ok (.iinc 4 1, 3) := by decide +kernel
theorem dX7_findBest_109 : decode cX7_findBest 109 = .ok (.goto (-77), 3) := by decide +kernel
theorem dX7_findBest_112 : decode cX7_findBest 112 = .ok (.iinc 2 1, 3) := by decide +kernel
theorem dX7_findBest_115 : decode cX7_findBest 115 = .ok (.goto (-103), 3) := by decide +kernel
theorem dX7_findBest_118 : decode cX7_findBest 118 = .ok (.return_, 1) := by decide +kernel
theorem okX7_findBest : ab_okM MX7_findBest 1 := ⟨by decide, ⟨by decide, by decide⟩, ab_in 1629 (by decide +kernel) (by decide +kernel), ab_in 98 (by decide +kernel) (by decide +kernel), by decide +kernel, by decide⟩
set_option maxHeartbeats 4000000 in
set_option maxRecDepth 100000 in
theorem sX7_findBest_95 (v1 : Int32) (v2 : Int32) (v3 : Int32) (v4 : Int32) (v5 : Int32)  (x : ab_X) (K : ab_X → Prop) (L12 : Int32 → ab_X → Prop) (L32 : Int32 → ab_X → Prop) (d bc bs : Nat) (hdp : 1 ≤ d) (hL12 : ∀ (v2 : Int32) (x : ab_X), L12 v2 x → EW MX7_findBest 12 [(0, .ref 234), (1, .int v1), (2, .int v2)] [] (aS x) d bc bs (liV K)) (hL32 : ∀ (v4 : Int32) (x : ab_X), L32 v4 x → EW MX7_findBest 32 [(0, .ref 234), (1, .int v1), (2, .int v2), (3, .int v3), (4, .int v4)] [] (aS x) d bc bs (liV K)) (h : wX7_findBest_95 v1 v2 v3 v4 v5 x K L12 L32) : EW MX7_findBest 95 [(0, .ref 234), (1, .int v1), (2, .int v2), (3, .int v3), (4, .int v4), (5, .int v5)] [] (aS x) d bc bs (liV K) := by
  unfold wX7_findBest_95 at h
  refine EW_aload_n (pc2 := 96) rfl dX7_findBest_95 0 rfl ?_
  refine EW_iload_n (pc2 := 97) rfl dX7_findBest_96 3 rfl ?_
  refine AW_puti ⟨gfRX7_116, rfl, rfl⟩ (pc2 := 100) rfl dX7_findBest_97 q234 ?_
  refine EW_aload_n (pc2 := 101) rfl dX7_findBest_100 0 rfl ?_
  refine EW_iload (pc2 := 103) rfl dX7_findBest_101 5 rfl ?_
  refine AW_puti ⟨gfRX7_119, rfl, rfl⟩ (pc2 := 106) rfl dX7_findBest_103 q234 ?_
  refine EW_iinc (v4 + 1) (pc2 := 109) rfl dX7_findBest_106 4 rfl rfl (by decide) [1, 2, 3, 4, 0, 5] [(0, .ref 234), (1, .int v1), (2, .int v2), (3, .int v3), (4, .int (v4 + 1)), (5, .int v5)] rfl ?_
  refine EW_goto (tgt := 32) dX7_findBest_109 (by decide) ?_
  refine EW_ls [0, 1, 2, 3, 4] rfl ?_
  exact hL32 (v4 + 1) (wr (wr x 234 10 v3) 234 11 v5) h
set_option maxHeartbeats 4000000 in
set_option maxRecDepth 100000 in
theorem sX7_findBest_32 (v1 : Int32) (v2 : Int32) (v3 : Int32) (v4 : Int32)  (x : ab_X) (K : ab_X → Prop) (L12 : Int32 → ab_X → Prop) (d bc bs : Nat) (hdp : 1 ≤ d) (hL12 : ∀ (v2 : Int32) (x : ab_X), L12 v2 x → EW MX7_findBest 12 [(0, .ref 234), (1, .int v1), (2, .int v2)] [] (aS x) d bc bs (liV K)) (h : Lp2 (lX7_findBest_32 v1 v2 v3 K L12) v4 x) : EW MX7_findBest 32 [(0, .ref 234), (1, .int v1), (2, .int v2), (3, .int v3), (4, .int v4)] [] (aS x) d bc bs (liV K) := by
  refine Lp2.use (P := fun v4 x => EW MX7_findBest 32 [(0, .ref 234), (1, .int v1), (2, .int v2), (3, .int v3), (4, .int v4)] [] (aS x) d bc bs (liV K)) (fun L32 v4 x hL32 h => ?_) v4 x h
  unfold lX7_findBest_32 at h
  refine EW_iload (pc2 := 34) rfl dX7_findBest_32 4 rfl ?_
  refine EW_aload_n (pc2 := 35) rfl dX7_findBest_34 0 rfl ?_
  refine AW_geti ⟨gfRX7_71, rfl⟩ (pc2 := 38) rfl dX7_findBest_35 q234 ?_
  refine EW_icmp_ge (tgt := 112) (pc2 := 41) rfl dX7_findBest_38 (by decide) (fun q => ?_) (fun q => ?_)
  · replace h := h.1 q
    refine EW_iinc (v2 + 1) (pc2 := 115) rfl dX7_findBest_112 2 rfl rfl (by decide) [1, 2, 0, 3, 4] [(0, .ref 234), (1, .int v1), (2, .int (v2 + 1)), (3, .int v3), (4, .int v4)] rfl ?_
    refine EW_goto (tgt := 12) dX7_findBest_115 (by decide) ?_
    refine EW_ls [0, 1, 2] rfl ?_
    exact hL12 (v2 + 1) x h
  · replace h := h.2 q
    refine EW_iload_n (pc2 := 42) rfl dX7_findBest_41 2 rfl ?_
    refine EW_iload (pc2 := 44) rfl dX7_findBest_42 4 rfl ?_
    refine EW_ishr (pc2 := 45) rfl dX7_findBest_44 ?_
    refine EW_iconst (pc2 := 46) (v := 1) rfl dX7_findBest_45 (by decide) ?_
    refine EW_iand (pc2 := 47) rfl dX7_findBest_46 ?_
    refine EW_if_ne (tgt := 53) (pc2 := 50) rfl dX7_findBest_47 (by decide) (fun q => ?_) (fun q => ?_)
    · replace h := h.1 q
      refine EW_aload_n (pc2 := 54) rfl dX7_findBest_53 0 rfl ?_
      refine EW_iload_n (pc2 := 55) rfl dX7_findBest_54 2 rfl ?_
      refine EW_bipush (pc2 := 57) (v := 8) rfl dX7_findBest_55 (by decide) ?_
      refine EW_iload (pc2 := 59) rfl dX7_findBest_57 4 rfl ?_
      refine AW_invV (M' := MX7_through) [.int v2, .int 8, .int v4] (rest := []) mlRX7_112 okX7_through (pc2 := 62) rfl dX7_findBest_59 rfl rfl (Nat.le_of_ble_eq_true rfl) (Nat.le_of_ble_eq_true rfl) (d' := 0) (by omega) q234 ⟨by decide, rfl⟩ (EW_mono (fun _ _ hr => ?_) (sX7_through v2 8 v4  x _ _ 0 0 (Nat.le_refl _) h))
      obtain ⟨r2, rfl, rfl, h⟩ := hr
      refine EW_istore (pc2 := 64) rfl dX7_findBest_62 (by decide) [1, 2, 3, 4, 5, 0] [(0, .ref 234), (1, .int v1), (2, .int v2), (3, .int v3), (4, .int v4), (5, .int r2)] rfl ?_
      refine EW_iload (pc2 := 66) rfl dX7_findBest_64 5 rfl ?_
      refine EW_iload_n (pc2 := 67) rfl dX7_findBest_66 1 rfl ?_
      refine EW_icmp_gt (tgt := 106) (pc2 := 70) rfl dX7_findBest_67 (by decide) (fun q => ?_) (fun q => ?_)
      · replace h := h.1 q
        refine EW_iinc (v4 + 1) (pc2 := 109) rfl dX7_findBest_106 4 rfl rfl (by decide) [1, 2, 3, 4, 0, 5] [(0, .ref 234), (1, .int v1), (2, .int v2), (3, .int v3), (4, .int (v4 + 1)), (5, .int r2)] rfl ?_
        refine EW_goto (tgt := 32) dX7_findBest_109 (by decide) ?_
        refine EW_ls [0, 1, 2, 3, 4] rfl ?_
        exact hL32 (v4 + 1) x h
      · replace h := h.2 q
        refine EW_iload_n (pc2 := 71) rfl dX7_findBest_70 3 rfl ?_
        refine EW_aload_n (pc2 := 72) rfl dX7_findBest_71 0 rfl ?_
        refine AW_geti ⟨gfRX7_116, rfl⟩ (pc2 := 75) rfl dX7_findBest_72 q234 ?_
        refine EW_icmp_gt (tgt := 95) (pc2 := 78) rfl dX7_findBest_75 (by decide) (fun q => ?_) (fun q => ?_)
        · replace h := h.1 q
          exact sX7_findBest_95 v1 v2 v3 v4 r2 x K L12 L32 d bc bs hdp hL12 hL32 h
        · replace h := h.2 q
          refine EW_iload_n (pc2 := 79) rfl dX7_findBest_78 3 rfl ?_
          refine EW_aload_n (pc2 := 80) rfl dX7_findBest_79 0 rfl ?_
          refine AW_geti ⟨gfRX7_116, rfl⟩ (pc2 := 83) rfl dX7_findBest_80 q234 ?_
          refine EW_icmp_ne (tgt := 106) (pc2 := 86) rfl dX7_findBest_83 (by decide) (fun q => ?_) (fun q => ?_)
          · replace h := h.1 q
            refine EW_iinc (v4 + 1) (pc2 := 109) rfl dX7_findBest_106 4 rfl rfl (by decide) [1, 2, 3, 4, 0, 5] [(0, .ref 234), (1, .int v1), (2, .int v2), (3, .int v3), (4, .int (v4 + 1)), (5, .int r2)] rfl ?_
            refine EW_goto (tgt := 32) dX7_findBest_109 (by decide) ?_
            refine EW_ls [0, 1, 2, 3, 4] rfl ?_
            exact hL32 (v4 + 1) x h
          · replace h := h.2 q
            refine EW_iload (pc2 := 88) rfl dX7_findBest_86 5 rfl ?_
            refine EW_aload_n (pc2 := 89) rfl dX7_findBest_88 0 rfl ?_
            refine AW_geti ⟨gfRX7_119, rfl⟩ (pc2 := 92) rfl dX7_findBest_89 q234 ?_
            refine EW_icmp_ge (tgt := 106) (pc2 := 95) rfl dX7_findBest_92 (by decide) (fun q => ?_) (fun q => ?_)
            · replace h := h.1 q
              refine EW_iinc (v4 + 1) (pc2 := 109) rfl dX7_findBest_106 4 rfl rfl (by decide) [1, 2, 3, 4, 0, 5] [(0, .ref 234), (1, .int v1), (2, .int v2), (3, .int v3), (4, .int (v4 + 1)), (5, .int r2)] rfl ?_
              refine EW_goto (tgt := 32) dX7_findBest_109 (by decide) ?_
              refine EW_ls [0, 1, 2, 3, 4] rfl ?_
              exact hL32 (v4 + 1) x h
            · replace h := h.2 q
              exact sX7_findBest_95 v1 v2 v3 v4 r2 x K L12 L32 d bc bs hdp hL12 hL32 h
    · replace h := h.2 q
      refine EW_goto (tgt := 106) dX7_findBest_50 (by decide) ?_
      refine EW_iinc (v4 + 1) (pc2 := 109) rfl dX7_findBest_106 4 rfl rfl (by decide) [1, 2, 3, 4, 0] [(0, .ref 234), (1, .int v1), (2, .int v2), (3, .int v3), (4, .int (v4 + 1))] rfl ?_
      refine EW_goto (tgt := 32) dX7_findBest_109 (by decide) ?_
      exact hL32 (v4 + 1) x h
set_option maxHeartbeats 4000000 in
set_option maxRecDepth 100000 in
theorem sX7_findBest_12 (v1 : Int32) (v2 : Int32)  (x : ab_X) (K : ab_X → Prop)  (d bc bs : Nat) (hdp : 1 ≤ d)  (h : Lp2 (lX7_findBest_12 v1 K ) v2 x) : EW MX7_findBest 12 [(0, .ref 234), (1, .int v1), (2, .int v2)] [] (aS x) d bc bs (liV K) := by
  refine Lp2.use (P := fun v2 x => EW MX7_findBest 12 [(0, .ref 234), (1, .int v1), (2, .int v2)] [] (aS x) d bc bs (liV K)) (fun L12 v2 x hL12 h => ?_) v2 x h
  unfold lX7_findBest_12 at h
  refine EW_iload_n (pc2 := 13) rfl dX7_findBest_12 2 rfl ?_
  refine EW_iconst (pc2 := 14) (v := 1) rfl dX7_findBest_13 (by decide) ?_
  refine EW_aload_n (pc2 := 15) rfl dX7_findBest_14 0 rfl ?_
  refine AW_geti ⟨gfRX7_71, rfl⟩ (pc2 := 18) rfl dX7_findBest_15 q234 ?_
  refine EW_ishl (pc2 := 19) rfl dX7_findBest_18 ?_
  refine EW_icmp_ge (tgt := 118) (pc2 := 22) rfl dX7_findBest_19 (by decide) (fun q => ?_) (fun q => ?_)
  · replace h := h.1 q
    exact EW_vret rfl dX7_findBest_118 ⟨_, rfl, rfl, h⟩
  · replace h := h.2 q
    refine EW_aload_n (pc2 := 23) rfl dX7_findBest_22 0 rfl ?_
    refine AW_getr (r := 237) ⟨gfRX7_18, rfl⟩ (pc2 := 26) rfl dX7_findBest_23 q234 rfl ?_
    refine EW_iload_n (pc2 := 27) rfl dX7_findBest_26 2 rfl ?_
    obtain ⟨b1, h⟩ := h
    refine AW_iald (pc2 := 28) rfl dX7_findBest_27 q237 b1 ?_
    refine EW_istore_n (pc2 := 29) rfl dX7_findBest_28 (by decide) [1, 2, 3, 0] [(0, .ref 234), (1, .int v1), (2, .int v2), (3, .int (x.1 237 (Int32.toNatClampNeg v2)))] rfl ?_
    refine EW_iconst (pc2 := 30) (v := 0) rfl dX7_findBest_29 (by decide) ?_
    refine EW_istore (pc2 := 32) rfl dX7_findBest_30 (by decide) [1, 2, 3, 4, 0] [(0, .ref 234), (1, .int v1), (2, .int v2), (3, .int (x.1 237 (Int32.toNatClampNeg v2))), (4, .int 0)] rfl ?_
    exact sX7_findBest_32 v1 v2 (x.1 237 (Int32.toNatClampNeg v2)) 0 x K L12 d bc bs hdp hL12 h
set_option maxHeartbeats 4000000 in
set_option maxRecDepth 100000 in
theorem sX7_findBest (v1 : Int32)  (x : ab_X) (K : ab_X → Prop) (d bc bs : Nat) (hdp : 1 ≤ d) (h : wX7_findBest v1 x K) : EW MX7_findBest 0 [(0, .ref 234), (1, .int v1)] [] (aS x) d bc bs (liV K) := by
  unfold wX7_findBest at h
  refine EW_aload_n (pc2 := 1) rfl dX7_findBest_0 0 rfl ?_
  refine EW_iconst (pc2 := 2) (v := 0) rfl dX7_findBest_1 (by decide) ?_
  refine AW_puti ⟨gfRX7_116, rfl, rfl⟩ (pc2 := 5) rfl dX7_findBest_2 q234 ?_
  refine EW_aload_n (pc2 := 6) rfl dX7_findBest_5 0 rfl ?_
  refine EW_iconst (pc2 := 7) (v := 0) rfl dX7_findBest_6 (by decide) ?_
  refine AW_puti ⟨gfRX7_119, rfl, rfl⟩ (pc2 := 10) rfl dX7_findBest_7 q234 ?_
  refine EW_iconst (pc2 := 11) (v := 1) rfl dX7_findBest_10 (by decide) ?_
  refine EW_istore_n (pc2 := 12) rfl dX7_findBest_11 (by decide) [1, 2, 0] [(0, .ref 234), (1, .int v1), (2, .int 1)] rfl ?_
  exact sX7_findBest_12 v1 1 (wr (wr x 234 10 0) 234 11 0) K d bc bs hdp h
abbrev MX7_isBestWith : ab_M := (yX7_isBestWith, cX7_isBestWith, 7, (some .boolean))
theorem dX7_isBestWith_0 : decode cX7_isBestWith 0 = .ok (.iconst 0, 1) := by decide +kernel
theorem dX7_isBestWith_1 : decode cX7_isBestWith 1 = .ok (.istore 5, 2) := by decide +kernel
theorem dX7_isBestWith_3 : decode cX7_isBestWith 3 = .ok (.iload 5, 2) := by decide +kernel
theorem dX7_isBestWith_5 : decode cX7_isBestWith 5 = .ok (.iconst 1, 1) := by decide +kernel
theorem dX7_isBestWith_6 : decode cX7_isBestWith 6 = .ok (.aload_n 0, 1) := by decide +kernel
theorem dX7_isBestWith_7 : decode cX7_isBestWith 7 = .ok (.getfield 71, 3) := by decide +kernel
theorem dX7_isBestWith_10 : decode cX7_isBestWith 10 = .ok (.ishl, 1) := by decide +kernel
theorem dX7_isBestWith_11 : decode cX7_isBestWith 11 = .ok (.if_icmp .ge 75, 3) := by decide +kernel
theorem dX7_isBestWith_14 : decode cX7_isBestWith 14 = .ok (.iload 5, 2) := by decide +kernel
theorem dX7_isBestWith_16 : decode cX7_isBestWith 16 = .ok (.iload_n 1, 1) := by decide +kernel
theorem dX7_isBestWith_17 : decode cX7_isBestWith 17 = .ok (.iand, 1) := by decide +kernel
theorem dX7_isBestWith_18 : decode cX7_isBestWith 18 = .ok (.ifCond .ne 18, 3) := by decide +kernel
theorem dX7_isBestWith_21 : decode cX7_isBestWith 21 = .ok (.iload 5, 2) := by decide +kernel
theorem dX7_isBestWith_23 : decode cX7_isBestWith 23 = .ok (.iload 4, 2) := by decide +kernel
theorem dX7_isBestWith_25 : decode cX7_isBestWith 25 = .ok (.ishr, 1) := by decide +kernel
theorem dX7_isBestWith_26 : decode cX7_isBestWith 26 = .ok (.iconst 1, 1) := by decide +kernel
theorem dX7_isBestWith_27 : decode cX7_isBestWith 27 = .ok (.iand, 1) := by decide +kernel
theorem dX7_isBestWith_28 : decode cX7_isBestWith 28 = .ok (.iconst 1, 1) := by decide +kernel
theorem dX7_isBestWith_29 : decode cX7_isBestWith 29 = .ok (.if_icmp .ne 7, 3) := by decide +kernel
theorem dX7_isBestWith_32 : decode cX7_isBestWith 32 = .ok (.iconst 1, 1) := by decide +kernel
theorem dX7_isBestWith_33 : decode cX7_isBestWith 33 = .ok (.goto 4, 3) := by decide +kernel
theorem dX7_isBestWith_36 : decode cX7_isBestWith 36 = .ok (.iconst 0, 1) := by decide +kernel
theorem dX7_isBestWith_37 : decode cX7_isBestWith 37 = .ok (.istore 6, 2) := by decide +kernel
theorem dX7_isBestWith_39 : decode cX7_isBestWith 39 = .ok (.iload 6, 2) := by decide +kernel
theorem dX7_isBestWith_41 : decode cX7_isBestWith 41 = .ok (.ifCond .eq 39, 3) := by decide +kernel
theorem dX7_isBestWith_44 : decode cX7_isBestWith 44 = .ok (.aload_n 0, 1) := by decide +kernel
theorem dX7_isBestWith_45 : decode cX7_isBestWith 45 = .ok (.getfield 18, 3) := by decide +kernel
theorem dX7_isBestWith_48 : decode cX7_isBestWith 48 = .ok (.iload 5, 2) := by decide +kernel
theorem dX7_isBestWith_50 : decode cX7_isBestWith 50 = .ok (.iload_n 1, 1) := by decide +kernel
theorem dX7_isBestWith_51 : decode cX7_isBestWith 51 = .ok (.ior, 1) := by decide +kernel
theorem dX7_isBestWith_52 : decode cX7_isBestWith 52 = .ok (.iaload, 1) := by decide +kernel
theorem dX7_isBestWith_53 : decode cX7_isBestWith 53 = .ok (.aload_n 0, 1) := by decide +kernel
theorem dX7_isBestWith_54 : decode cX7_isBestWith 54 = .ok (.getfield 116, 3) := by decide +kernel
theorem dX7_isBestWith_57 : decode cX7_isBestWith 57 = .ok (.if_icmp .ne 23, 3) := by decide +kernel
theorem dX7_isBestWith_60 : decode cX7_isBestWith 60 = .ok (.iload_n 3, 1) := by decide +kernel
theorem dX7_isBestWith_61 : decode cX7_isBestWith 61 = .ok (.aload_n 0, 1) := by decide +kernel
theorem dX7_isBestWith_62 : decode cX7_isBestWith 62 = .ok (.iload 5, 2) := by decide +kernel
theorem dX7_isBestWith_64 : decode cX7_isBestWith 64 = .ok (.iload_n 2, 1) := by decide +kernel
theorem dX7_isBestWith_65 : decode cX7_isBestWith 65 = .ok (.iload 4, 2) := by decide +kernel
theorem dX7_isBestWith_67 : decode cX7_isBestWith 67 = .ok (.invokevirtual 112, 3) := by decide +kernel
theorem dX7_isBestWith_70 : decode cX7_isBestWith 70 = .ok (.iadd, 1) := by decide +kernel
theorem dX7_isBestWith_71 : decode cX7_isBestWith 71 = .ok (.aload_n 0, 1) := by decide +kernel
theorem dX7_isBestWith_72 : decode cX7_isBestWith 72 = .ok (.getfield 119, 3) := by decide +kernel
theorem dX7_isBestWith_75 : decode cX7_isBestWith 75 = .ok (.if_icmp .ne 5, 3) := by decide +kernel
theorem dX7_isBestWith_78 : decode cX7_isBestWith 78 = .ok (.iconst 1, 1) := by decide +kernel
theorem dX7_isBestWith_79 : decode cX7_isBestWith 79 = .ok (.ireturn, 1) := by decide +kernel
theorem dX7_isBestWith_80 : decode cX7_isBestWith 80 = .ok (.iinc 5 1, 3) := by decide +kernel
theorem dX7_isBestWith_83 : decode cX7_isBestWith 83 = .ok (.goto (-80), 3) := by decide +kernel
theorem dX7_isBestWith_86 : decode cX7_isBestWith 86 = .ok (.iconst 0, 1) := by decide +kernel
theorem dX7_isBestWith_87 : decode cX7_isBestWith 87 = .ok (.ireturn, 1) := by decide +kernel
theorem okX7_isBestWith : ab_okM MX7_isBestWith 4 := ⟨by decide, ⟨by decide, by decide⟩, ab_in 1641 (by decide +kernel) (by decide +kernel), ab_in 98 (by decide +kernel) (by decide +kernel), by decide +kernel, by decide⟩
set_option maxHeartbeats 4000000 in
set_option maxRecDepth 100000 in
theorem sX7_isBestWith_37 (v1 : Int32) (v2 : Int32) (v3 : Int32) (v4 : Int32) (v5 : Int32) (s0 : Int32)  (x : ab_X) (K : Int32 → Prop) (L3 : Int32 → Prop) (d bc bs : Nat) (hdp : 1 ≤ d) (hL3 : ∀ (v5 : Int32), L3 v5 → EW MX7_isBestWith 3 [(0, .ref 234), (1, .int v1), (2, .int v2), (3, .int v3), (4, .int v4), (5, .int v5)] [] (aS x) d bc bs (liP x K)) (h : wX7_isBestWith_37 v1 v2 v3 v4 v5 s0 x K L3) : EW MX7_isBestWith 37 [(0, .ref 234), (1, .int v1), (2, .int v2), (3, .int v3), (4, .int v4), (5, .int v5)] [.int s0] (aS x) d bc bs (liP x K) := by
  unfold wX7_isBestWith_37 at h
  refine EW_istore (pc2 := 39) rfl dX7_isBestWith_37 (by decide) [1, 2, 3, 4, 5, 6, 0] [(0, .ref 234), (1, .int v1), (2, .int v2), (3, .int v3), (4, .int v4), (5, .int v5), (6, .int s0)] rfl ?_
  refine EW_iload (pc2 := 41) rfl dX7_isBestWith_39 6 rfl ?_
  refine EW_if_eq (tgt := 80) (pc2 := 44) rfl dX7_isBestWith_41 (by decide) (fun q => ?_) (fun q => ?_)
  · replace h := h.1 q
    refine EW_iinc (v5 + 1) (pc2 := 83) rfl dX7_isBestWith_80 5 rfl rfl (by decide) [1, 2, 3, 4, 5, 0, 6] [(0, .ref 234), (1, .int v1), (2, .int v2), (3, .int v3), (4, .int v4), (5, .int (v5 + 1)), (6, .int s0)] rfl ?_
    refine EW_goto (tgt := 3) dX7_isBestWith_83 (by decide) ?_
    refine EW_ls [0, 1, 2, 3, 4, 5] rfl ?_
    exact hL3 (v5 + 1) h
  · replace h := h.2 q
    refine EW_aload_n (pc2 := 45) rfl dX7_isBestWith_44 0 rfl ?_
    refine AW_getr (r := 237) ⟨gfRX7_18, rfl⟩ (pc2 := 48) rfl dX7_isBestWith_45 q234 rfl ?_
    refine EW_iload (pc2 := 50) rfl dX7_isBestWith_48 5 rfl ?_
    refine EW_iload_n (pc2 := 51) rfl dX7_isBestWith_50 1 rfl ?_
    refine EW_ior (pc2 := 52) rfl dX7_isBestWith_51 ?_
    obtain ⟨b1, h⟩ := h
    refine AW_iald (pc2 := 53) rfl dX7_isBestWith_52 q237 b1 ?_
    refine EW_aload_n (pc2 := 54) rfl dX7_isBestWith_53 0 rfl ?_
    refine AW_geti ⟨gfRX7_116, rfl⟩ (pc2 := 57) rfl dX7_isBestWith_54 q234 ?_
    refine EW_icmp_ne (tgt := 80) (pc2 := 60) rfl dX7_isBestWith_57 (by decide) (fun q => ?_) (fun q => ?_)
    · replace h := h.1 q
      refine EW_iinc (v5 + 1) (pc2 := 83) rfl dX7_isBestWith_80 5 rfl rfl (by decide) [1, 2, 3, 4, 5, 0, 6] [(0, .ref 234), (1, .int v1), (2, .int v2), (3, .int v3), (4, .int v4), (5, .int (v5 + 1)), (6, .int s0)] rfl ?_
      refine EW_goto (tgt := 3) dX7_isBestWith_83 (by decide) ?_
      refine EW_ls [0, 1, 2, 3, 4, 5] rfl ?_
      exact hL3 (v5 + 1) h
    · replace h := h.2 q
      refine EW_iload_n (pc2 := 61) rfl dX7_isBestWith_60 3 rfl ?_
      refine EW_aload_n (pc2 := 62) rfl dX7_isBestWith_61 0 rfl ?_
      refine EW_iload (pc2 := 64) rfl dX7_isBestWith_62 5 rfl ?_
      refine EW_iload_n (pc2 := 65) rfl dX7_isBestWith_64 2 rfl ?_
      refine EW_iload (pc2 := 67) rfl dX7_isBestWith_65 4 rfl ?_
      refine AW_invV (M' := MX7_through) [.int v5, .int v2, .int v4] (rest := [.int v3]) mlRX7_112 okX7_through (pc2 := 70) rfl dX7_isBestWith_67 rfl rfl (Nat.le_of_ble_eq_true rfl) (Nat.le_of_ble_eq_true rfl) (d' := 0) (by omega) q234 ⟨by decide, rfl⟩ (EW_mono (fun _ _ hr => ?_) (sX7_through v5 v2 v4  x _ _ 0 0 (Nat.le_refl _) h))
      obtain ⟨r2, rfl, rfl, h⟩ := hr
      refine EW_iadd (pc2 := 71) rfl dX7_isBestWith_70 ?_
      refine EW_aload_n (pc2 := 72) rfl dX7_isBestWith_71 0 rfl ?_
      refine AW_geti ⟨gfRX7_119, rfl⟩ (pc2 := 75) rfl dX7_isBestWith_72 q234 ?_
      refine EW_icmp_ne (tgt := 80) (pc2 := 78) rfl dX7_isBestWith_75 (by decide) (fun q => ?_) (fun q => ?_)
      · replace h := h.1 q
        refine EW_iinc (v5 + 1) (pc2 := 83) rfl dX7_isBestWith_80 5 rfl rfl (by decide) [1, 2, 3, 4, 5, 0, 6] [(0, .ref 234), (1, .int v1), (2, .int v2), (3, .int v3), (4, .int v4), (5, .int (v5 + 1)), (6, .int s0)] rfl ?_
        refine EW_goto (tgt := 3) dX7_isBestWith_83 (by decide) ?_
        refine EW_ls [0, 1, 2, 3, 4, 5] rfl ?_
        exact hL3 (v5 + 1) h
      · replace h := h.2 q
        refine EW_iconst (pc2 := 79) (v := 1) rfl dX7_isBestWith_78 (by decide) ?_
        exact AW_zret rfl isB1 dX7_isBestWith_79 ⟨_, rfl, rfl, h⟩
set_option maxHeartbeats 4000000 in
set_option maxRecDepth 100000 in
theorem sX7_isBestWith_36 (v1 : Int32) (v2 : Int32) (v3 : Int32) (v4 : Int32) (v5 : Int32)  (x : ab_X) (K : Int32 → Prop) (L3 : Int32 → Prop) (d bc bs : Nat) (hdp : 1 ≤ d) (hL3 : ∀ (v5 : Int32), L3 v5 → EW MX7_isBestWith 3 [(0, .ref 234), (1, .int v1), (2, .int v2), (3, .int v3), (4, .int v4), (5, .int v5)] [] (aS x) d bc bs (liP x K)) (h : wX7_isBestWith_36 v1 v2 v3 v4 v5 x K L3) : EW MX7_isBestWith 36 [(0, .ref 234), (1, .int v1), (2, .int v2), (3, .int v3), (4, .int v4), (5, .int v5)] [] (aS x) d bc bs (liP x K) := by
  unfold wX7_isBestWith_36 at h
  refine EW_iconst (pc2 := 37) (v := 0) rfl dX7_isBestWith_36 (by decide) ?_
  exact sX7_isBestWith_37 v1 v2 v3 v4 v5 0 x K L3 d bc bs hdp hL3 h
set_option maxHeartbeats 4000000 in
set_option maxRecDepth 100000 in
theorem sX7_isBestWith_3 (v1 : Int32) (v2 : Int32) (v3 : Int32) (v4 : Int32) (v5 : Int32)  (x : ab_X) (K : Int32 → Prop)  (d bc bs : Nat) (hdp : 1 ≤ d)  (h : Lp1 (lX7_isBestWith_3 v1 v2 v3 v4 x K ) v5) : EW MX7_isBestWith 3 [(0, .ref 234), (1, .int v1), (2, .int v2), (3, .int v3), (4, .int v4), (5, .int v5)] [] (aS x) d bc bs (liP x K) := by
  refine Lp1.use (P := fun v5 => EW MX7_isBestWith 3 [(0, .ref 234), (1, .int v1), (2, .int v2), (3, .int v3), (4, .int v4), (5, .int v5)] [] (aS x) d bc bs (liP x K)) (fun L3 v5 hL3 h => ?_) v5 h
  unfold lX7_isBestWith_3 at h
  refine EW_iload (pc2 := 5) rfl dX7_isBestWith_3 5 rfl ?_
  refine EW_iconst (pc2 := 6) (v := 1) rfl dX7_isBestWith_5 (by decide) ?_
  refine EW_aload_n (pc2 := 7) rfl dX7_isBestWith_6 0 rfl ?_
  refine AW_geti ⟨gfRX7_71, rfl⟩ (pc2 := 10) rfl dX7_isBestWith_7 q234 ?_
  refine EW_ishl (pc2 := 11) rfl dX7_isBestWith_10 ?_
  refine EW_icmp_ge (tgt := 86) (pc2 := 14) rfl dX7_isBestWith_11 (by decide) (fun q => ?_) (fun q => ?_)
  · replace h := h.1 q
    refine EW_iconst (pc2 := 87) (v := 0) rfl dX7_isBestWith_86 (by decide) ?_
    exact AW_zret rfl isB0 dX7_isBestWith_87 ⟨_, rfl, rfl, h⟩
  · replace h := h.2 q
    refine EW_iload (pc2 := 16) rfl dX7_isBestWith_14 5 rfl ?_
    refine EW_iload_n (pc2 := 17) rfl dX7_isBestWith_16 1 rfl ?_
    refine EW_iand (pc2 := 18) rfl dX7_isBestWith_17 ?_
    refine EW_if_ne (tgt := 36) (pc2 := 21) rfl dX7_isBestWith_18 (by decide) (fun q => ?_) (fun q => ?_)
    · replace h := h.1 q
      exact sX7_isBestWith_36 v1 v2 v3 v4 v5 x K L3 d bc bs hdp hL3 h
    · replace h := h.2 q
      refine EW_iload (pc2 := 23) rfl dX7_isBestWith_21 5 rfl ?_
      refine EW_iload (pc2 := 25) rfl dX7_isBestWith_23 4 rfl ?_
      refine EW_ishr (pc2 := 26) rfl dX7_isBestWith_25 ?_
      refine EW_iconst (pc2 := 27) (v := 1) rfl dX7_isBestWith_26 (by decide) ?_
      refine EW_iand (pc2 := 28) rfl dX7_isBestWith_27 ?_
      refine EW_iconst (pc2 := 29) (v := 1) rfl dX7_isBestWith_28 (by decide) ?_
      refine EW_icmp_ne (tgt := 36) (pc2 := 32) rfl dX7_isBestWith_29 (by decide) (fun q => ?_) (fun q => ?_)
      · replace h := h.1 q
        exact sX7_isBestWith_36 v1 v2 v3 v4 v5 x K L3 d bc bs hdp hL3 h
      · replace h := h.2 q
        refine EW_iconst (pc2 := 33) (v := 1) rfl dX7_isBestWith_32 (by decide) ?_
        refine EW_goto (tgt := 37) dX7_isBestWith_33 (by decide) ?_
        exact sX7_isBestWith_37 v1 v2 v3 v4 v5 1 x K L3 d bc bs hdp hL3 h
set_option maxHeartbeats 4000000 in
set_option maxRecDepth 100000 in
theorem sX7_isBestWith (v1 : Int32) (v2 : Int32) (v3 : Int32) (v4 : Int32)  (x : ab_X) (K : Int32 → Prop) (d bc bs : Nat) (hdp : 1 ≤ d) (h : wX7_isBestWith v1 v2 v3 v4 x K) : EW MX7_isBestWith 0 [(0, .ref 234), (1, .int v1), (2, .int v2), (3, .int v3), (4, .int v4)] [] (aS x) d bc bs (liP x K) := by
  unfold wX7_isBestWith at h
  refine EW_iconst (pc2 := 1) (v := 0) rfl dX7_isBestWith_0 (by decide) ?_
  refine EW_istore (pc2 := 3) rfl dX7_isBestWith_1 (by decide) [1, 2, 3, 4, 5, 0] [(0, .ref 234), (1, .int v1), (2, .int v2), (3, .int v3), (4, .int v4), (5, .int 0)] rfl ?_
  exact sX7_isBestWith_3 v1 v2 v3 v4 0 x K d bc bs hdp h
theorem mlRX7_128 : Cond.methodLink RX7 128 yX7_isBestWith ∈ ab_G ∧ Cond.instanceMethod yX7_isBestWith ∈ ab_G ∧ Cond.selects RX7 yX7_isBestWith yX7_isBestWith ∈ ab_G := ⟨ab_in 1638 (by decide +kernel) (by decide +kernel), ab_in 1639 (by decide +kernel) (by decide +kernel), ab_in 1640 (by decide +kernel) (by decide +kernel)⟩
abbrev MX7_nextStop : ab_M := (yX7_nextStop, cX7_nextStop, 5, (some .int))
theorem dX7_nextStop_0 : decode cX7_nextStop 0 = .ok (.iconst 0, 1) := by decide +kernel
theorem dX7_nextStop_1 : decode cX7_nextStop 1 = .ok (.istore 4, 2) := by decide +kernel
theorem dX7_nextStop_3 : decode cX7_nextStop 3 = .ok (.iload 4, 2) := by decide +kernel
theorem dX7_nextStop_5 : decode cX7_nextStop 5 = .ok (.aload_n 0, 1) := by decide +kernel
theorem dX7_nextStop_6 : decode cX7_nextStop 6 = .ok (.getfield 71, 3) := by decide +kernel
theorem dX7_nextStop_9 : decode cX7_nextStop 9 = .ok (.if_icmp .ge 33, 3) := by decide +kernel
theorem dX7_nextStop_12 : decode cX7_nextStop 12 = .ok (.iload_n 1, 1) := by decide +kernel
theorem dX7_nextStop_13 : decode cX7_nextStop 13 = .ok (.iload 4, 2) := by decide +kernel
theorem dX7_nextStop_15 : decode cX7_nextStop 15 = .ok (.ishr, 1) := by decide +kernel
theorem dX7_nextStop_16 : decode cX7_nextStop 16 = .ok (.iconst 1, 1) := by decide +kernel
theorem dX7_nextStop_17 : decode cX7_nextStop 17 = .ok (.iand, 1) := by decide +kernel
theorem dX7_nextStop_18 : decode cX7_nextStop 18 = .ok (.ifCond .ne 18, 3) := by decide +kernel
theorem dX7_nextStop_21 : decode cX7_nextStop 21 = .ok (.aload_n 0, 1) := by decide +kernel
theorem dX7_nextStop_22 : decode cX7_nextStop 22 = .ok (.iload_n 1, 1) := by decide +kernel
theorem dX7_nextStop_23 : decode cX7_nextStop 23 = .ok (.iload_n 2, 1) := by decide +kernel
theorem dX7_nextStop_24 : decode cX7_nextStop 24 = .ok (.iload_n 3, 1) := by decide +kernel
theorem dX7_nextStop_25 : decode cX7_nextStop 25 = .ok (.iload 4, 2) := by decide +kernel
theorem dX7_nextStop_27 : decode cX7_nextStop 27 = .ok (.invokevirtual 128, 3) := by decide +kernel
theorem dX7_nextStop_30 : decode cX7_nextStop 30 = .ok (.ifCond .eq 6, 3) := by decide +kernel
theorem dX7_nextStop_33 : decode cX7_nextStop 33 = .ok (.iload 4, 2) := by decide +kernel
theorem dX7_nextStop_35 : decode cX7_nextStop 35 = .ok (.ireturn, 1) := by decide +kernel
theorem dX7_nextStop_36 : decode cX7_nextStop 36 = .ok (.iinc 4 1, 3) := by decide +kernel
theorem dX7_nextStop_39 : decode cX7_nextStop 39 = .ok (.goto (-36), 3) := by decide +kernel
theorem dX7_nextStop_42 : decode cX7_nextStop 42 = .ok (.iconst (-1), 1) := by decide +kernel
theorem dX7_nextStop_43 : decode cX7_nextStop 43 = .ok (.ireturn, 1) := by decide +kernel
theorem okX7_nextStop : ab_okM MX7_nextStop 3 := ⟨by decide, ⟨by decide, by decide⟩, ab_in 1637 (by decide +kernel) (by decide +kernel), ab_in 98 (by decide +kernel) (by decide +kernel), by decide +kernel, by decide⟩
set_option maxHeartbeats 4000000 in
set_option maxRecDepth 100000 in
theorem sX7_nextStop_3 (v1 : Int32) (v2 : Int32) (v3 : Int32) (v4 : Int32)  (x : ab_X) (K : Int32 → Prop)  (d bc bs : Nat) (hdp : 2 ≤ d)  (h : Lp1 (lX7_nextStop_3 v1 v2 v3 x K ) v4) : EW MX7_nextStop 3 [(0, .ref 234), (1, .int v1), (2, .int v2), (3, .int v3), (4, .int v4)] [] (aS x) d bc bs (liP x K) := by
  refine Lp1.use (P := fun v4 => EW MX7_nextStop 3 [(0, .ref 234), (1, .int v1), (2, .int v2), (3, .int v3), (4, .int v4)] [] (aS x) d bc bs (liP x K)) (fun L3 v4 hL3 h => ?_) v4 h
  unfold lX7_nextStop_3 at h
  refine EW_iload (pc2 := 5) rfl dX7_nextStop_3 4 rfl ?_
  refine EW_aload_n (pc2 := 6) rfl dX7_nextStop_5 0 rfl ?_
  refine AW_geti ⟨gfRX7_71, rfl⟩ (pc2 := 9) rfl dX7_nextStop_6 q234 ?_
  refine EW_icmp_ge (tgt := 42) (pc2 := 12) rfl dX7_nextStop_9 (by decide) (fun q => ?_) (fun q => ?_)
  · replace h := h.1 q
    refine EW_iconst (pc2 := 43) (v := (-1)) rfl dX7_nextStop_42 (by decide) ?_
    exact AW_iret rfl dX7_nextStop_43 ⟨_, rfl, rfl, h⟩
  · replace h := h.2 q
    refine EW_iload_n (pc2 := 13) rfl dX7_nextStop_12 1 rfl ?_
    refine EW_iload (pc2 := 15) rfl dX7_nextStop_13 4 rfl ?_
    refine EW_ishr (pc2 := 16) rfl dX7_nextStop_15 ?_
    refine EW_iconst (pc2 := 17) (v := 1) rfl dX7_nextStop_16 (by decide) ?_
    refine EW_iand (pc2 := 18) rfl dX7_nextStop_17 ?_
    refine EW_if_ne (tgt := 36) (pc2 := 21) rfl dX7_nextStop_18 (by decide) (fun q => ?_) (fun q => ?_)
    · replace h := h.1 q
      refine EW_iinc (v4 + 1) (pc2 := 39) rfl dX7_nextStop_36 4 rfl rfl (by decide) [1, 2, 3, 4, 0] [(0, .ref 234), (1, .int v1), (2, .int v2), (3, .int v3), (4, .int (v4 + 1))] rfl ?_
      refine EW_goto (tgt := 3) dX7_nextStop_39 (by decide) ?_
      exact hL3 (v4 + 1) h
    · replace h := h.2 q
      refine EW_aload_n (pc2 := 22) rfl dX7_nextStop_21 0 rfl ?_
      refine EW_iload_n (pc2 := 23) rfl dX7_nextStop_22 1 rfl ?_
      refine EW_iload_n (pc2 := 24) rfl dX7_nextStop_23 2 rfl ?_
      refine EW_iload_n (pc2 := 25) rfl dX7_nextStop_24 3 rfl ?_
      refine EW_iload (pc2 := 27) rfl dX7_nextStop_25 4 rfl ?_
      refine AW_invV (M' := MX7_isBestWith) [.int v1, .int v2, .int v3, .int v4] (rest := []) mlRX7_128 okX7_isBestWith (pc2 := 30) rfl dX7_nextStop_27 rfl rfl (Nat.le_of_ble_eq_true rfl) (Nat.le_of_ble_eq_true rfl) (d' := 1) (by omega) q234 ⟨by decide, rfl⟩ (EW_mono (fun _ _ hr => ?_) (sX7_isBestWith v1 v2 v3 v4  x _ _ 0 0 (Nat.le_refl _) h))
      obtain ⟨r1, rfl, rfl, h⟩ := hr
      refine EW_if_eq (tgt := 36) (pc2 := 33) rfl dX7_nextStop_30 (by decide) (fun q => ?_) (fun q => ?_)
      · replace h := h.1 q
        refine EW_iinc (v4 + 1) (pc2 := 39) rfl dX7_nextStop_36 4 rfl rfl (by decide) [1, 2, 3, 4, 0] [(0, .ref 234), (1, .int v1), (2, .int v2), (3, .int v3), (4, .int (v4 + 1))] rfl ?_
        refine EW_goto (tgt := 3) dX7_nextStop_39 (by decide) ?_
        exact hL3 (v4 + 1) h
      · replace h := h.2 q
        refine EW_iload (pc2 := 35) rfl dX7_nextStop_33 4 rfl ?_
        exact AW_iret rfl dX7_nextStop_35 ⟨_, rfl, rfl, h⟩
set_option maxHeartbeats 4000000 in
set_option maxRecDepth 100000 in
theorem sX7_nextStop (v1 : Int32) (v2 : Int32) (v3 : Int32)  (x : ab_X) (K : Int32 → Prop) (d bc bs : Nat) (hdp : 2 ≤ d) (h : wX7_nextStop v1 v2 v3 x K) : EW MX7_nextStop 0 [(0, .ref 234), (1, .int v1), (2, .int v2), (3, .int v3)] [] (aS x) d bc bs (liP x K) := by
  unfold wX7_nextStop at h
  refine EW_iconst (pc2 := 1) (v := 0) rfl dX7_nextStop_0 (by decide) ?_
  refine EW_istore (pc2 := 3) rfl dX7_nextStop_1 (by decide) [1, 2, 3, 4, 0] [(0, .ref 234), (1, .int v1), (2, .int v2), (3, .int v3), (4, .int 0)] rfl ?_
  exact sX7_nextStop_3 v1 v2 v3 0 x K d bc bs hdp h
theorem mlRX7_125 : Cond.methodLink RX7 125 yX7_nextStop ∈ ab_G ∧ Cond.instanceMethod yX7_nextStop ∈ ab_G ∧ Cond.selects RX7 yX7_nextStop yX7_nextStop ∈ ab_G := ⟨ab_in 1634 (by decide +kernel) (by decide +kernel), ab_in 1635 (by decide +kernel) (by decide +kernel), ab_in 1636 (by decide +kernel) (by decide +kernel)⟩
theorem gfRX7_27 : ab_L RX7 27 7 13 := ⟨by decide, by decide, ab_in 687 (by decide +kernel) (by decide +kernel)⟩
theorem gfRX7_122 : ab_L RX7 122 7 12 := ⟨by decide, by decide, ab_in 685 (by decide +kernel) (by decide +kernel)⟩
abbrev MX7_findOrder : ab_M := (yX7_findOrder, cX7_findOrder, 6, none)
theorem dX7_findOrder_0 : decode cX7_findOrder 0 = .ok (.aload_n 0, 1) := by decide +kernel
theorem dX7_findOrder_1 : decode cX7_findOrder 1 = .ok (.iconst 0, 1) := by decide +kernel
theorem dX7_findOrder_2 : decode cX7_findOrder 2 = .ok (.putfield 122, 3) := by decide +kernel
theorem dX7_findOrder_5 : decode cX7_findOrder 5 = .ok (.iconst 0, 1) := by decide +kernel
theorem dX7_findOrder_6 : decode cX7_findOrder 6 = .ok (.istore_n 1, 1) := by decide +kernel
theorem dX7_findOrder_7 : decode cX7_findOrder 7 = .ok (.bipush 8, 2) := by decide +kernel
theorem dX7_findOrder_9 : decode cX7_findOrder 9 = .ok (.istore_n 2, 1) := by decide +kernel
theorem dX7_findOrder_10 : decode cX7_findOrder 10 = .ok (.iconst 0, 1) := by decide +kernel
theorem dX7_findOrder_11 : decode cX7_findOrder 11 = .ok (.istore_n 3, 1) := by decide +kernel
theorem dX7_findOrder_12 : decode cX7_findOrder 12 = .ok (.iconst 0, 1) := by decide +kernel
theorem dX7_findOrder_13 : decode cX7_findOrder 13 = .ok (.istore 4, 2) := by decide +kernel
theorem dX7_findOrder_15 : decode cX7_findOrder 15 = .ok (.iload 4, 2) := by decide +kernel
theorem dX7_findOrder_17 : decode cX7_findOrder 17 = .ok (.aload_n 0, 1) := by decide +kernel
theorem dX7_findOrder_18 : decode cX7_findOrder 18 = .ok (.getfield 71, 3) := by decide +kernel
theorem dX7_findOrder_21 : decode cX7_findOrder 21 = .ok (.if_icmp .ge 84, 3) := by decide +kernel
theorem dX7_findOrder_24 : decode cX7_findOrder 24 = .ok (.iload_n 3, 1) := by decide +kernel
theorem dX7_findOrder_25 : decode cX7_findOrder 25 = .ok (.aload_n 0, 1) := by decide +kernel
theorem dX7_findOrder_26 : decode cX7_findOrder 26 = .ok (.getfield 119, 3) := by decide +kernel
theorem dX7_findOrder_29 : decode cX7_findOrder 29 = .ok (.if_icmp .ge 76, 3) := by decide +kernel
theorem dX7_findOrder_32 : decode cX7_findOrder 32 = .ok (.aload_n 0, 1) := by decide +kernel
theorem dX7_findOrder_33 : decode cX7_findOrder 33 = .ok (.iload_n 1, 1) := by decide +kernel
theorem dX7_findOrder_34 : decode cX7_findOrder 34 = .ok (.iload_n 2, 1) := by decide +kernel
theorem dX7_findOrder_35 : decode cX7_findOrder 35 = .ok (.iload_n 3, 1) := by decide +kernel
theorem dX7_findOrder_36 : decode cX7_findOrder 36 = .ok (.invokevirtual 125, 3) := by decide +kernel
theorem dX7_findOrder_39 : decode cX7_findOrder 39 = .ok (.istore 5, 2) := by decide +kernel
theorem dX7_findOrder_41 : decode cX7_findOrder 41 = .ok (.iload 5, 2) := by decide +kernel
theorem dX7_findOrder_43 : decode cX7_findOrder 43 = .ok (.iconst (-1), 1) := by decide +kernel
theorem dX7_findOrder_44 : decode cX7_findOrder 44 = .ok (.if_icmp .ne 4, 3) := by decide +kernel
theorem dX7_findOrder_47 : decode cX7_findOrder 47 = .ok (.return_, 1) := by decide +kernel
theorem dX7_findOrder_48 : decode cX7_findOrder 48 = .ok (.aload_n 0, 1) := by decide +kernel
theorem dX7_findOrder_49 : decode cX7_findOrder 49 = .ok (.getfield 27, 3) := by decide +kernel
theorem dX7_findOrder_52 : decode cX7_findOrder 52 = .ok (.aload_n 0, 1) := by decide +kernel
theorem dX7_findOrder_53 : decode cX7_findOrder 53 = .ok (.getfield 122, 3) := by decide +kernel
theorem dX7_findOrder_56 : decode cX7_findOrder 56 = .ok (.aload_n 0, 1) := by decide +kernel
theorem dX7_findOrder_57 : decode cX7_findOrder 57 = .ok (.getfield 9, 3) := by decide +kernel
theorem dX7_findOrder_60 : decode cX7_findOrder 60 = .ok (.iload 5, 2) := by decide +kernel
theorem dX7_findOrder_62 : decode cX7_findOrder 62 = .ok (.iaload, 1) := by decide +kernel
theorem dX7_findOrder_63 : decode cX7_findOrder 63 = .ok (.iastore, 1) := by decide +kernel
theorem dX7_findOrder_64 : decode cX7_findOrder 64 = .ok (.aload_n 0, 1) := by decide +kernel
theorem dX7_findOrder_65 : decode cX7_findOrder 65 = .ok (.dup, 1) := by decide +kernel
theorem dX7_findOrder_66 : decode cX7_findOrder 66 = .ok (.getfield 122, 3) := by decide +kernel
theorem dX7_findOrder_69 : decode cX7_findOrder 69 = .ok (.iconst 1, 1) := by decide +kernel
theorem dX7_findOrder_70 : decode cX7_findOrder 70 = .ok (.iadd, 1) := by decide +kernel
theorem dX7_findOrder_71 : decode cX7_findOrder 71 = .ok (.putfield 122, 3) := by decide +kernel
theorem dX7_findOrder_74 : decode cX7_findOrder 74 = .ok (.iload_n 3, 1) := by decide +kernel
theorem dX7_findOrder_75 : decode cX7_findOrder 75 = .ok (.aload_n 0, 1) := by decide +kernel
theorem dX7_findOrder_76 : decode cX7_findOrder 76 = .ok (.getfield 24, 3) := by decide +kernel
theorem dX7_findOrder_79 : decode cX7_findOrder 79 = .ok (.iload_n 2, 1) := by decide +kernel
theorem dX7_findOrder_80 : decode cX7_findOrder 80 = .ok (.bipush 8, 2) := by decide +kernel
theorem dX7_findOrder_82 : decode cX7_findOrder 82 = .ok (.imul, 1) := by decide +kernel
theorem dX7_findOrder_83 : decode cX7_findOrder 83 = .ok (.iload 5, 2) := by decide +kernel
theorem dX7_findOrder_85 : decode cX7_findOrder 85 = .ok (.iadd, 1) := by decide +kernel
theorem dX7_findOrder_86 : decode cX7_findOrder 86 = .ok (.iaload, 1) := by decide +kernel
theorem dX7_findOrder_87 : decode cX7_findOrder 87 = .ok (.iadd, 1) := by decide +kernel
theorem dX7_findOrder_88 : decode cX7_findOrder 88 = .ok (.istore_n 3, 1) := by decide +kernel
theorem dX7_findOrder_89 : decode cX7_findOrder 89 = .ok (.iload_n 1, 1) := by decide +kernel
theorem dX7_findOrder_90 : decode cX7_findOrder 90 = .ok (.iconst 1, 1) := by decide +kernel
theorem dX7_findOrder_91 : decode cX7_findOrder 91 = .ok (.iload 5, 2) := by decide +kernel
theorem dX7_findOrder_93 : decode cX7_findOrder 93 = .ok (.ishl, 1) := by decide +kernel
theorem dX7_findOrder_94 : decode cX7_findOrder 94 = .ok (.ior, 1) := by decide +kernel
theorem dX7_findOrder_95 : decode cX7_findOrder 95 = .ok (.istore_n 1, 1) := by decide +kernel
theorem dX7_findOrder_96 : decode cX7_findOrder 96 = .ok (.iload 5, 2) := by decide +kernel
theorem dX7_findOrder_98 : decode cX7_findOrder 98 = .ok (.istore_n 2, 1) := by decide +kernel
theorem dX7_findOrder_99 : decode cX7_findOrder 99 = .ok (.iinc 4 1, 3) := by decide +kernel
theorem dX7_findOrder_102 : decode cX7_findOrder 102 = .ok (.goto (-87), 3) := by decide +kernel
theorem dX7_findOrder_105 : decode cX7_findOrder 105 = .ok (.return_, 1) := by decide +kernel
theorem okX7_findOrder : ab_okM MX7_findOrder 0 := ⟨by decide, ⟨by decide, by decide⟩, ab_in 1633 (by decide +kernel) (by decide +kernel), ab_in 98 (by decide +kernel) (by decide +kernel), by decide +kernel, by decide⟩
set_option maxHeartbeats 4000000 in
set_option maxRecDepth 100000 in
theorem sX7_findOrder_15 (v1 : Int32) (v2 : Int32) (v3 : Int32) (v4 : Int32)  (x : ab_X) (K : ab_X → Prop)  (d bc bs : Nat) (hdp : 3 ≤ d)  (h : Lp5 (lX7_findOrder_15  K ) v1 v2 v3 v4 x) : EW MX7_findOrder 15 [(0, .ref 234), (1, .int v1), (2, .int v2), (3, .int v3), (4, .int v4)] [] (aS x) d bc bs (liV K) := by
  refine Lp5.use (P := fun v1 v2 v3 v4 x => EW MX7_findOrder 15 [(0, .ref 234), (1, .int v1), (2, .int v2), (3, .int v3), (4, .int v4)] [] (aS x) d bc bs (liV K)) (fun L15 v1 v2 v3 v4 x hL15 h => ?_) v1 v2 v3 v4 x h
  unfold lX7_findOrder_15 at h
  refine EW_iload (pc2 := 17) rfl dX7_findOrder_15 4 rfl ?_
  refine EW_aload_n (pc2 := 18) rfl dX7_findOrder_17 0 rfl ?_
  refine AW_geti ⟨gfRX7_71, rfl⟩ (pc2 := 21) rfl dX7_findOrder_18 q234 ?_
  refine EW_icmp_ge (tgt := 105) (pc2 := 24) rfl dX7_findOrder_21 (by decide) (fun q => ?_) (fun q => ?_)
  · replace h := h.1 q
    exact EW_vret rfl dX7_findOrder_105 ⟨_, rfl, rfl, h⟩
  · replace h := h.2 q
    refine EW_iload_n (pc2 := 25) rfl dX7_findOrder_24 3 rfl ?_
    refine EW_aload_n (pc2 := 26) rfl dX7_findOrder_25 0 rfl ?_
    refine AW_geti ⟨gfRX7_119, rfl⟩ (pc2 := 29) rfl dX7_findOrder_26 q234 ?_
    refine EW_icmp_ge (tgt := 105) (pc2 := 32) rfl dX7_findOrder_29 (by decide) (fun q => ?_) (fun q => ?_)
    · replace h := h.1 q
      exact EW_vret rfl dX7_findOrder_105 ⟨_, rfl, rfl, h⟩
    · replace h := h.2 q
      refine EW_aload_n (pc2 := 33) rfl dX7_findOrder_32 0 rfl ?_
      refine EW_iload_n (pc2 := 34) rfl dX7_findOrder_33 1 rfl ?_
      refine EW_iload_n (pc2 := 35) rfl dX7_findOrder_34 2 rfl ?_
      refine EW_iload_n (pc2 := 36) rfl dX7_findOrder_35 3 rfl ?_
      refine AW_invV (M' := MX7_nextStop) [.int v1, .int v2, .int v3] (rest := []) mlRX7_125 okX7_nextStop (pc2 := 39) rfl dX7_findOrder_36 rfl rfl (Nat.le_of_ble_eq_true rfl) (Nat.le_of_ble_eq_true rfl) (d' := 2) (by omega) q234 ⟨by decide, rfl⟩ (EW_mono (fun _ _ hr => ?_) (sX7_nextStop v1 v2 v3  x _ _ 0 0 (Nat.le_refl _) h))
      obtain ⟨r1, rfl, rfl, h⟩ := hr
      refine EW_istore (pc2 := 41) rfl dX7_findOrder_39 (by decide) [1, 2, 3, 4, 5, 0] [(0, .ref 234), (1, .int v1), (2, .int v2), (3, .int v3), (4, .int v4), (5, .int r1)] rfl ?_
      refine EW_iload (pc2 := 43) rfl dX7_findOrder_41 5 rfl ?_
      refine EW_iconst (pc2 := 44) (v := (-1)) rfl dX7_findOrder_43 (by decide) ?_
      refine EW_icmp_ne (tgt := 48) (pc2 := 47) rfl dX7_findOrder_44 (by decide) (fun q => ?_) (fun q => ?_)
      · replace h := h.1 q
        refine EW_aload_n (pc2 := 49) rfl dX7_findOrder_48 0 rfl ?_
        refine AW_getr (r := 240) ⟨gfRX7_27, rfl⟩ (pc2 := 52) rfl dX7_findOrder_49 q234 rfl ?_
        refine EW_aload_n (pc2 := 53) rfl dX7_findOrder_52 0 rfl ?_
        refine AW_geti ⟨gfRX7_122, rfl⟩ (pc2 := 56) rfl dX7_findOrder_53 q234 ?_
        refine EW_aload_n (pc2 := 57) rfl dX7_findOrder_56 0 rfl ?_
        refine AW_getr (r := 235) ⟨gfRX7_9, rfl⟩ (pc2 := 60) rfl dX7_findOrder_57 q234 rfl ?_
        refine EW_iload (pc2 := 62) rfl dX7_findOrder_60 5 rfl ?_
        obtain ⟨b2, h⟩ := h
        refine AW_iald (pc2 := 63) rfl dX7_findOrder_62 q235 b2 ?_
        obtain ⟨b3, h⟩ := h
        refine AW_iast (pc2 := 64) rfl dX7_findOrder_63 q240 b3 ?_
        refine EW_aload_n (pc2 := 65) rfl dX7_findOrder_64 0 rfl ?_
        refine EW_dup (pc2 := 66) rfl dX7_findOrder_65 rfl ?_
        refine AW_geti ⟨gfRX7_122, rfl⟩ (pc2 := 69) rfl dX7_findOrder_66 q234 ?_
        refine EW_iconst (pc2 := 70) (v := 1) rfl dX7_findOrder_69 (by decide) ?_
        refine EW_iadd (pc2 := 71) rfl dX7_findOrder_70 ?_
        refine AW_puti ⟨gfRX7_122, rfl, rfl⟩ (pc2 := 74) rfl dX7_findOrder_71 q234 ?_
        refine EW_iload_n (pc2 := 75) rfl dX7_findOrder_74 3 rfl ?_
        refine EW_aload_n (pc2 := 76) rfl dX7_findOrder_75 0 rfl ?_
        refine AW_getr (r := 239) ⟨gfRX7_24, rfl⟩ (pc2 := 79) rfl dX7_findOrder_76 q234 rfl ?_
        refine EW_iload_n (pc2 := 80) rfl dX7_findOrder_79 2 rfl ?_
        refine EW_bipush (pc2 := 82) (v := 8) rfl dX7_findOrder_80 (by decide) ?_
        refine EW_imul (pc2 := 83) rfl dX7_findOrder_82 ?_
        refine EW_iload (pc2 := 85) rfl dX7_findOrder_83 5 rfl ?_
        refine EW_iadd (pc2 := 86) rfl dX7_findOrder_85 ?_
        obtain ⟨b4, h⟩ := h
        refine AW_iald (pc2 := 87) rfl dX7_findOrder_86 q239 b4 ?_
        refine EW_iadd (pc2 := 88) rfl dX7_findOrder_87 ?_
        refine EW_istore_n (pc2 := 89) rfl dX7_findOrder_88 (by decide) [1, 2, 3, 0, 4, 5] [(0, .ref 234), (1, .int v1), (2, .int v2), (3, .int (v3 + ((wr (wr x 240 (Int32.toNatClampNeg (x.1 234 12)) (x.1 235 (Int32.toNatClampNeg r1))) 234 12 (((wr x 240 (Int32.toNatClampNeg (x.1 234 12)) (x.1 235 (Int32.toNatClampNeg r1))).1 234 12) + 1)).1 239 (Int32.toNatClampNeg ((v2 * 8) + r1))))), (4, .int v4), (5, .int r1)] rfl ?_
        refine EW_iload_n (pc2 := 90) rfl dX7_findOrder_89 1 rfl ?_
        refine EW_iconst (pc2 := 91) (v := 1) rfl dX7_findOrder_90 (by decide) ?_
        refine EW_iload (pc2 := 93) rfl dX7_findOrder_91 5 rfl ?_
        refine EW_ishl (pc2 := 94) rfl dX7_findOrder_93 ?_
        refine EW_ior (pc2 := 95) rfl dX7_findOrder_94 ?_
        refine EW_istore_n (pc2 := 96) rfl dX7_findOrder_95 (by decide) [1, 0, 2, 3, 4, 5] [(0, .ref 234), (1, .int (v1 ||| (1 <<< (r1 &&& 31)))), (2, .int v2), (3, .int (v3 + ((wr (wr x 240 (Int32.toNatClampNeg (x.1 234 12)) (x.1 235 (Int32.toNatClampNeg r1))) 234 12 (((wr x 240 (Int32.toNatClampNeg (x.1 234 12)) (x.1 235 (Int32.toNatClampNeg r1))).1 234 12) + 1)).1 239 (Int32.toNatClampNeg ((v2 * 8) + r1))))), (4, .int v4), (5, .int r1)] rfl ?_
        refine EW_iload (pc2 := 98) rfl dX7_findOrder_96 5 rfl ?_
        refine EW_istore_n (pc2 := 99) rfl dX7_findOrder_98 (by decide) [1, 2, 0, 3, 4, 5] [(0, .ref 234), (1, .int (v1 ||| (1 <<< (r1 &&& 31)))), (2, .int r1), (3, .int (v3 + ((wr (wr x 240 (Int32.toNatClampNeg (x.1 234 12)) (x.1 235 (Int32.toNatClampNeg r1))) 234 12 (((wr x 240 (Int32.toNatClampNeg (x.1 234 12)) (x.1 235 (Int32.toNatClampNeg r1))).1 234 12) + 1)).1 239 (Int32.toNatClampNeg ((v2 * 8) + r1))))), (4, .int v4), (5, .int r1)] rfl ?_
        refine EW_iinc (v4 + 1) (pc2 := 102) rfl dX7_findOrder_99 4 rfl rfl (by decide) [1, 2, 3, 4, 0, 5] [(0, .ref 234), (1, .int (v1 ||| (1 <<< (r1 &&& 31)))), (2, .int r1), (3, .int (v3 + ((wr (wr x 240 (Int32.toNatClampNeg (x.1 234 12)) (x.1 235 (Int32.toNatClampNeg r1))) 234 12 (((wr x 240 (Int32.toNatClampNeg (x.1 234 12)) (x.1 235 (Int32.toNatClampNeg r1))).1 234 12) + 1)).1 239 (Int32.toNatClampNeg ((v2 * 8) + r1))))), (4, .int (v4 + 1)), (5, .int r1)] rfl ?_
        refine EW_goto (tgt := 15) dX7_findOrder_102 (by decide) ?_
        refine EW_ls [0, 1, 2, 3, 4] rfl ?_
        exact hL15 (v1 ||| (1 <<< (r1 &&& 31))) r1 (v3 + ((wr (wr x 240 (Int32.toNatClampNeg (x.1 234 12)) (x.1 235 (Int32.toNatClampNeg r1))) 234 12 (((wr x 240 (Int32.toNatClampNeg (x.1 234 12)) (x.1 235 (Int32.toNatClampNeg r1))).1 234 12) + 1)).1 239 (Int32.toNatClampNeg ((v2 * 8) + r1)))) (v4 + 1) (wr (wr x 240 (Int32.toNatClampNeg (x.1 234 12)) (x.1 235 (Int32.toNatClampNeg r1))) 234 12 (((wr x 240 (Int32.toNatClampNeg (x.1 234 12)) (x.1 235 (Int32.toNatClampNeg r1))).1 234 12) + 1)) h
      · replace h := h.2 q
        exact EW_vret rfl dX7_findOrder_47 ⟨_, rfl, rfl, h⟩
set_option maxHeartbeats 4000000 in
set_option maxRecDepth 100000 in
theorem sX7_findOrder   (x : ab_X) (K : ab_X → Prop) (d bc bs : Nat) (hdp : 3 ≤ d) (h : wX7_findOrder  x K) : EW MX7_findOrder 0 [(0, .ref 234)] [] (aS x) d bc bs (liV K) := by
  unfold wX7_findOrder at h
  refine EW_aload_n (pc2 := 1) rfl dX7_findOrder_0 0 rfl ?_
  refine EW_iconst (pc2 := 2) (v := 0) rfl dX7_findOrder_1 (by decide) ?_
  refine AW_puti ⟨gfRX7_122, rfl, rfl⟩ (pc2 := 5) rfl dX7_findOrder_2 q234 ?_
  refine EW_iconst (pc2 := 6) (v := 0) rfl dX7_findOrder_5 (by decide) ?_
  refine EW_istore_n (pc2 := 7) rfl dX7_findOrder_6 (by decide) [1, 0] [(0, .ref 234), (1, .int 0)] rfl ?_
  refine EW_bipush (pc2 := 9) (v := 8) rfl dX7_findOrder_7 (by decide) ?_
  refine EW_istore_n (pc2 := 10) rfl dX7_findOrder_9 (by decide) [1, 2, 0] [(0, .ref 234), (1, .int 0), (2, .int 8)] rfl ?_
  refine EW_iconst (pc2 := 11) (v := 0) rfl dX7_findOrder_10 (by decide) ?_
  refine EW_istore_n (pc2 := 12) rfl dX7_findOrder_11 (by decide) [1, 2, 3, 0] [(0, .ref 234), (1, .int 0), (2, .int 8), (3, .int 0)] rfl ?_
  refine EW_iconst (pc2 := 13) (v := 0) rfl dX7_findOrder_12 (by decide) ?_
  refine EW_istore (pc2 := 15) rfl dX7_findOrder_13 (by decide) [1, 2, 3, 4, 0] [(0, .ref 234), (1, .int 0), (2, .int 8), (3, .int 0), (4, .int 0)] rfl ?_
  exact sX7_findOrder_15 0 8 0 0 (wr x 234 12 0) K d bc bs hdp h
theorem gfRX7_74 : ab_L RX7 74 10 2 := ⟨by decide, by decide, ab_in 314 (by decide +kernel) (by decide +kernel)⟩
theorem gfRX7_44 : ab_L RX7 44 7 2 := ⟨by decide, by decide, ab_in 673 (by decide +kernel) (by decide +kernel)⟩
theorem mlRX7_95 : Cond.methodLink RX7 95 yX5_failures ∈ ab_G ∧ Cond.instanceMethod yX5_failures ∈ ab_G ∧ Cond.selects RX5 yX5_failures yX5_failures ∈ ab_G := ⟨ab_in 1603 (by decide +kernel) (by decide +kernel), ab_in 1556 (by decide +kernel) (by decide +kernel), ab_in 1557 (by decide +kernel) (by decide +kernel)⟩
theorem mlRX7_100 : Cond.methodLink RX7 100 yX5_daysSinceLook ∈ ab_G ∧ Cond.instanceMethod yX5_daysSinceLook ∈ ab_G ∧ Cond.selects RX5 yX5_daysSinceLook yX5_daysSinceLook ∈ ab_G := ⟨ab_in 1604 (by decide +kernel) (by decide +kernel), ab_in 1572 (by decide +kernel) (by decide +kernel), ab_in 1573 (by decide +kernel) (by decide +kernel)⟩
abbrev MX7_findStops : ab_M := (yX7_findStops, cX7_findStops, 3, none)
theorem dX7_findStops_0 : decode cX7_findStops 0 = .ok (.aload_n 0, 1) := by decide +kernel
theorem dX7_findStops_1 : decode cX7_findStops 1 = .ok (.iconst 0, 1) := by decide +kernel
theorem dX7_findStops_2 : decode cX7_findStops 2 = .ok (.putfield 71, 3) := by decide +kernel
theorem dX7_findStops_5 : decode cX7_findStops 5 = .ok (.iconst 0, 1) := by decide +kernel
theorem dX7_findStops_6 : decode cX7_findStops 6 = .ok (.istore_n 2, 1) := by decide +kernel
theorem dX7_findStops_7 : decode cX7_findStops 7 = .ok (.iload_n 2, 1) := by decide +kernel
theorem dX7_findStops_8 : decode cX7_findStops 8 = .ok (.aload_n 0, 1) := by decide +kernel
theorem dX7_findStops_9 : decode cX7_findStops 9 = .ok (.getfield 40, 3) := by decide +kernel
theorem dX7_findStops_12 : decode cX7_findStops 12 = .ok (.getfield 74, 3) := by decide +kernel
theorem dX7_findStops_15 : decode cX7_findStops 15 = .ok (.if_icmp .ge 102, 3) := by decide +kernel
theorem dX7_findStops_18 : decode cX7_findStops 18 = .ok (.aload_n 0, 1) := by decide +kernel
theorem dX7_findStops_19 : decode cX7_findStops 19 = .ok (.getfield 71, 3) := by decide +kernel
theorem dX7_findStops_22 : decode cX7_findStops 22 = .ok (.bipush 8, 2) := by decide +kernel
theorem dX7_findStops_24 : decode cX7_findStops 24 = .ok (.if_icmp .ge 93, 3) := by decide +kernel
theorem dX7_findStops_27 : decode cX7_findStops 27 = .ok (.aload_n 0, 1) := by decide +kernel
theorem dX7_findStops_28 : decode cX7_findStops 28 = .ok (.getfield 36, 3) := by decide +kernel
theorem dX7_findStops_31 : decode cX7_findStops 31 = .ok (.aload_n 0, 1) := by decide +kernel
theorem dX7_findStops_32 : decode cX7_findStops 32 = .ok (.getfield 48, 3) := by decide +kernel
theorem dX7_findStops_35 : decode cX7_findStops 35 = .ok (.aload_n 0, 1) := by decide +kernel
theorem dX7_findStops_36 : decode cX7_findStops 36 = .ok (.getfield 40, 3) := by decide +kernel
theorem dX7_findStops_39 : decode cX7_findStops 39 = .ok (.getfield 79, 3) := by decide +kernel
theorem dX7_findStops_42 : decode cX7_findStops 42 = .ok (.iload_n 2, 1) := by decide +kernel
theorem dX7_findStops_43 : decode cX7_findStops 43 = .ok (.aaload, 1) := by decide +kernel
theorem dX7_findStops_44 : decode cX7_findStops 44 = .ok (.getfield 83, 3) := by decide +kernel
theorem dX7_findStops_47 : decode cX7_findStops 47 = .ok (.invokevirtual 88, 3) := by decide +kernel
theorem dX7_findStops_50 : decode cX7_findStops 50 = .ok (.ldc 94, 2) := by decide +kernel
theorem dX7_findStops_52 : decode cX7_findStops 52 = .ok (.if_icmp .ge 59, 3) := by decide +kernel
theorem dX7_findStops_55 : decode cX7_findStops 55 = .ok (.aload_n 0, 1) := by decide +kernel
theorem dX7_findStops_56 : decode cX7_findStops 56 = .ok (.getfield 9, 3) := by decide +kernel
theorem dX7_findStops_59 : decode cX7_findStops 59 = .ok (.aload_n 0, 1) := by decide +kernel
theorem dX7_findStops_60 : decode cX7_findStops 60 = .ok (.getfield 71, 3) := by decide +kernel
theorem dX7_findStops_63 : decode cX7_findStops 63 = .ok (.iload_n 2, 1) := by decide +kernel
theorem dX7_findStops_64 : decode cX7_findStops 64 = .ok (.iastore, 1) := by decide +kernel
theorem dX7_findStops_65 : decode cX7_findStops 65 = .ok (.aload_n 0, 1) := by decide +kernel
theorem dX7_findStops_66 : decode cX7_findStops 66 = .ok (.getfield 15, 3) := by decide +kernel
theorem dX7_findStops_69 : decode cX7_findStops 69 = .ok (.aload_n 0, 1) := by decide +kernel
theorem dX7_findStops_70 : decode cX7_findStops 70 = .ok (.getfield 71, 3) := by decide +kernel
theorem dX7_findStops_73 : decode cX7_findStops 73 = .ok (.bipush 10, 2) := by decide +kernel
theorem dX7_findStops_75 : decode cX7_findStops 75 = .ok (.aload_n 0, 1) := by decide +kernel
theorem dX7_findStops_76 : decode cX7_findStops 76 = .ok (.getfield 44, 3) := by decide +kernel
theorem dX7_findStops_79 : decode cX7_findStops 79 = .ok (.iload_n 2, 1) := by decide +kernel
theorem dX7_findStops_80 : decode cX7_findStops 80 = .ok (.iload_n 1, 1) := by decide +kernel
theorem dX7_findStops_81 : decode cX7_findStops 81 = .ok (.invokevirtual 95, 3) := by decide +kernel
theorem dX7_findStops_84 : decode cX7_findStops 84 = .ok (.imul, 1) := by decide +kernel
theorem dX7_findStops_85 : decode cX7_findStops 85 = .ok (.bipush 30, 2) := by decide +kernel
theorem dX7_findStops_87 : decode cX7_findStops 87 = .ok (.aload_n 0, 1) := by decide +kernel
theorem dX7_findStops_88 : decode cX7_findStops 88 = .ok (.getfield 44, 3) := by decide +kernel
theorem dX7_findStops_91 : decode cX7_findStops 91 = .ok (.iload_n 2, 1) := by decide +kernel
theorem dX7_findStops_92 : decode cX7_findStops 92 = .ok (.iload_n 1, 1) := by decide +kernel
theorem dX7_findStops_93 : decode cX7_findStops 93 = .ok (.invokevirtual 100, 3) := by decide +kernel
theorem dX7_findStops_96 : decode cX7_findStops 96 = .ok (.invokestatic 103, 3) := by decide +kernel
theorem dX7_findStops_99 : decode cX7_findStops 99 = .ok (.iadd, 1) := by decide +kernel
theorem dX7_findStops_100 : decode cX7_findStops 100 = .ok (.iastore, 1) := by decide +kernel
theorem dX7_findStops_101 : decode cX7_findStops 101 = .ok (.aload_n 0, 1) := by decide +kernel
theorem dX7_findStops_102 : decode cX7_findStops 102 = .ok (.dup, 1) := by decide +kernel
theorem dX7_findStops_103 : decode cX7_findStops 103 = .ok (.getfield 71, 3) := by decide +kernel
theorem dX7_findStops_106 : decode cX7_findStops 106 = .ok (.iconst 1, 1) := by decide +kernel
theorem dX7_findStops_107 : decode cX7_findStops 107 = .ok (.iadd, 1) := by decide +kernel
theorem dX7_findStops_108 : decode cX7_findStops 108 = .ok (.putfield 71, 3) := by decide +kernel
theorem dX7_findStops_111 : decode cX7_findStops 111 = .ok (.iinc 2 1, 3) := by decide +kernel
theorem dX7_findStops_114 : decode cX7_findStops 114 = .ok (.goto (-107), 3) := by decide +kernel
theorem dX7_findStops_117 : decode cX7_findStops 117 = .ok (.return_, 1) := by decide +kernel
theorem okX7_findStops : ab_okM MX7_findStops 1 := ⟨by decide, ⟨by decide, by decide⟩, ab_in 1600 (by decide +kernel) (by decide +kernel), ab_in 98 (by decide +kernel) (by decide +kernel), by decide +kernel, by decide⟩
set_option maxHeartbeats 4000000 in
set_option maxRecDepth 100000 in
theorem sX7_findStops_7 (v1 : Int32) (v2 : Int32)  (x : ab_X) (K : ab_X → Prop)  (d bc bs : Nat) (hdp : 4 ≤ d)  (h : Lp2 (lX7_findStops_7 v1 K ) v2 x) : EW MX7_findStops 7 [(0, .ref 234), (1, .int v1), (2, .int v2)] [] (aS x) d bc bs (liV K) := by
  refine Lp2.use (P := fun v2 x => EW MX7_findStops 7 [(0, .ref 234), (1, .int v1), (2, .int v2)] [] (aS x) d bc bs (liV K)) (fun L7 v2 x hL7 h => ?_) v2 x h
  unfold lX7_findStops_7 at h
  refine EW_iload_n (pc2 := 8) rfl dX7_findStops_7 2 rfl ?_
  refine EW_aload_n (pc2 := 9) rfl dX7_findStops_8 0 rfl ?_
  refine AW_getr (r := 9) ⟨gfRX7_40, rfl⟩ (pc2 := 12) rfl dX7_findStops_9 q234 rfl ?_
  refine AW_geti ⟨gfRX7_74, rfl⟩ (pc2 := 15) rfl dX7_findStops_12 q9 ?_
  refine EW_icmp_ge (tgt := 117) (pc2 := 18) rfl dX7_findStops_15 (by decide) (fun q => ?_) (fun q => ?_)
  · replace h := h.1 q
    exact EW_vret rfl dX7_findStops_117 ⟨_, rfl, rfl, h⟩
  · replace h := h.2 q
    refine EW_aload_n (pc2 := 19) rfl dX7_findStops_18 0 rfl ?_
    refine AW_geti ⟨gfRX7_71, rfl⟩ (pc2 := 22) rfl dX7_findStops_19 q234 ?_
    refine EW_bipush (pc2 := 24) (v := 8) rfl dX7_findStops_22 (by decide) ?_
    refine EW_icmp_ge (tgt := 117) (pc2 := 27) rfl dX7_findStops_24 (by decide) (fun q => ?_) (fun q => ?_)
    · replace h := h.1 q
      exact EW_vret rfl dX7_findStops_117 ⟨_, rfl, rfl, h⟩
    · replace h := h.2 q
      refine EW_aload_n (pc2 := 28) rfl dX7_findStops_27 0 rfl ?_
      refine AW_getr (r := 1) ⟨gfRX7_36, rfl⟩ (pc2 := 31) rfl dX7_findStops_28 q234 rfl ?_
      refine EW_aload_n (pc2 := 32) rfl dX7_findStops_31 0 rfl ?_
      refine AW_geti ⟨gfRX7_48, rfl⟩ (pc2 := 35) rfl dX7_findStops_32 q234 ?_
      refine EW_aload_n (pc2 := 36) rfl dX7_findStops_35 0 rfl ?_
      refine AW_getr (r := 9) ⟨gfRX7_40, rfl⟩ (pc2 := 39) rfl dX7_findStops_36 q234 rfl ?_
      refine AW_getr (r := 10) ⟨gfRX7_79, rfl⟩ (pc2 := 42) rfl dX7_findStops_39 q9 rfl ?_
      refine EW_iload_n (pc2 := 43) rfl dX7_findStops_42 2 rfl ?_
      obtain ⟨b1, h⟩ := h
      refine AW_aald5 (pc2 := 44) rfl dX7_findStops_43 b1 ?_
      refine AW_geti ⟨gfRX7_83, rfl⟩ (pc2 := 47) rfl dX7_findStops_44 (isH.o (isH_of b1)) ?_
      refine AW_invV (M' := MX6_walk) [.int (x.1 234 8), .int (x.1 (30 + 3 * Int32.toNatClampNeg v2) 1)] (rest := []) mlRX7_88 okX6_walk (pc2 := 50) rfl dX7_findStops_47 rfl rfl (Nat.le_of_ble_eq_true rfl) (Nat.le_of_ble_eq_true rfl) (d' := 1) (by omega) q1 ⟨by decide, rfl⟩ (EW_mono (fun _ _ hr => ?_) (sX6_walk (x.1 234 8) (x.1 (30 + 3 * Int32.toNatClampNeg v2) 1)  x _ _ 0 0 (Nat.le_refl _) h))
      obtain ⟨r2, rfl, rfl, h⟩ := hr
      refine EW_ldc cnRX7_94 (pc2 := 52) rfl dX7_findStops_50 ?_
      refine EW_icmp_ge (tgt := 111) (pc2 := 55) rfl dX7_findStops_52 (by decide) (fun q => ?_) (fun q => ?_)
      · replace h := h.1 q
        refine EW_iinc (v2 + 1) (pc2 := 114) rfl dX7_findStops_111 2 rfl rfl (by decide) [1, 2, 0] [(0, .ref 234), (1, .int v1), (2, .int (v2 + 1))] rfl ?_
        refine EW_goto (tgt := 7) dX7_findStops_114 (by decide) ?_
        exact hL7 (v2 + 1) x h
      · replace h := h.2 q
        refine EW_aload_n (pc2 := 56) rfl dX7_findStops_55 0 rfl ?_
        refine AW_getr (r := 235) ⟨gfRX7_9, rfl⟩ (pc2 := 59) rfl dX7_findStops_56 q234 rfl ?_
        refine EW_aload_n (pc2 := 60) rfl dX7_findStops_59 0 rfl ?_
        refine AW_geti ⟨gfRX7_71, rfl⟩ (pc2 := 63) rfl dX7_findStops_60 q234 ?_
        refine EW_iload_n (pc2 := 64) rfl dX7_findStops_63 2 rfl ?_
        obtain ⟨b3, h⟩ := h
        refine AW_iast (pc2 := 65) rfl dX7_findStops_64 q235 b3 ?_
        refine EW_aload_n (pc2 := 66) rfl dX7_findStops_65 0 rfl ?_
        refine AW_getr (r := 236) ⟨gfRX7_15, rfl⟩ (pc2 := 69) rfl dX7_findStops_66 q234 rfl ?_
        refine EW_aload_n (pc2 := 70) rfl dX7_findStops_69 0 rfl ?_
        refine AW_geti ⟨gfRX7_71, rfl⟩ (pc2 := 73) rfl dX7_findStops_70 q234 ?_
        refine EW_bipush (pc2 := 75) (v := 10) rfl dX7_findStops_73 (by decide) ?_
        refine EW_aload_n (pc2 := 76) rfl dX7_findStops_75 0 rfl ?_
        refine AW_getr (r := 165) ⟨gfRX7_44, rfl⟩ (pc2 := 79) rfl dX7_findStops_76 q234 rfl ?_
        refine EW_iload_n (pc2 := 80) rfl dX7_findStops_79 2 rfl ?_
        refine EW_iload_n (pc2 := 81) rfl dX7_findStops_80 1 rfl ?_
        refine AW_invV (M' := MX5_failures) [.int v2, .int v1] (rest := [.int 10, .int ((wr x 235 (Int32.toNatClampNeg (x.1 234 5)) v2).1 234 5), .ref 236]) mlRX7_95 okX5_failures (pc2 := 84) rfl dX7_findStops_81 rfl rfl (Nat.le_of_ble_eq_true rfl) (Nat.le_of_ble_eq_true rfl) (d' := 3) (by omega) q165 ⟨by decide, rfl⟩ (EW_mono (fun _ _ hr => ?_) (sX5_failures v2 v1  (wr x 235 (Int32.toNatClampNeg (x.1 234 5)) v2) _ _ 0 0 (Nat.le_refl _) h))
        obtain ⟨r4, x5, rfl, rfl, h⟩ := hr
        refine EW_imul (pc2 := 85) rfl dX7_findStops_84 ?_
        refine EW_bipush (pc2 := 87) (v := 30) rfl dX7_findStops_85 (by decide) ?_
        refine EW_aload_n (pc2 := 88) rfl dX7_findStops_87 0 rfl ?_
        refine AW_getr (r := 165) ⟨gfRX7_44, rfl⟩ (pc2 := 91) rfl dX7_findStops_88 q234 rfl ?_
        refine EW_iload_n (pc2 := 92) rfl dX7_findStops_91 2 rfl ?_
        refine EW_iload_n (pc2 := 93) rfl dX7_findStops_92 1 rfl ?_
        refine AW_invV (M' := MX5_daysSinceLook) [.int v2, .int v1] (rest := [.int 30, .int (10 * r4), .int ((wr x 235 (Int32.toNatClampNeg (x.1 234 5)) v2).1 234 5), .ref 236]) mlRX7_100 okX5_daysSinceLook (pc2 := 96) rfl dX7_findStops_93 rfl rfl (Nat.le_of_ble_eq_true rfl) (Nat.le_of_ble_eq_true rfl) (d' := 0) (by omega) q165 ⟨by decide, rfl⟩ (EW_mono (fun _ _ hr => ?_) (sX5_daysSinceLook v2 v1  x5 _ _ 0 0 (Nat.le_refl _) h))
        obtain ⟨r6, rfl, rfl, h⟩ := hr
        refine AW_mmin mmRX7_103 (pc2 := 99) rfl dX7_findStops_96 (Nat.le_of_ble_eq_true rfl) (by omega) ?_
        refine EW_iadd (pc2 := 100) rfl dX7_findStops_99 ?_
        obtain ⟨b7, h⟩ := h
        refine AW_iast (pc2 := 101) rfl dX7_findStops_100 q236 b7 ?_
        refine EW_aload_n (pc2 := 102) rfl dX7_findStops_101 0 rfl ?_
        refine EW_dup (pc2 := 103) rfl dX7_findStops_102 rfl ?_
        refine AW_geti ⟨gfRX7_71, rfl⟩ (pc2 := 106) rfl dX7_findStops_103 q234 ?_
        refine EW_iconst (pc2 := 107) (v := 1) rfl dX7_findStops_106 (by decide) ?_
        refine EW_iadd (pc2 := 108) rfl dX7_findStops_107 ?_
        refine AW_puti ⟨gfRX7_71, rfl, rfl⟩ (pc2 := 111) rfl dX7_findStops_108 q234 ?_
        refine EW_iinc (v2 + 1) (pc2 := 114) rfl dX7_findStops_111 2 rfl rfl (by decide) [1, 2, 0] [(0, .ref 234), (1, .int v1), (2, .int (v2 + 1))] rfl ?_
        refine EW_goto (tgt := 7) dX7_findStops_114 (by decide) ?_
        exact hL7 (v2 + 1) (wr (wr x5 236 (Int32.toNatClampNeg ((wr x 235 (Int32.toNatClampNeg (x.1 234 5)) v2).1 234 5)) ((10 * r4) + (imin 30 r6))) 234 5 (((wr x5 236 (Int32.toNatClampNeg ((wr x 235 (Int32.toNatClampNeg (x.1 234 5)) v2).1 234 5)) ((10 * r4) + (imin 30 r6))).1 234 5) + 1)) h
set_option maxHeartbeats 4000000 in
set_option maxRecDepth 100000 in
theorem sX7_findStops (v1 : Int32)  (x : ab_X) (K : ab_X → Prop) (d bc bs : Nat) (hdp : 4 ≤ d) (h : wX7_findStops v1 x K) : EW MX7_findStops 0 [(0, .ref 234), (1, .int v1)] [] (aS x) d bc bs (liV K) := by
  unfold wX7_findStops at h
  refine EW_aload_n (pc2 := 1) rfl dX7_findStops_0 0 rfl ?_
  refine EW_iconst (pc2 := 2) (v := 0) rfl dX7_findStops_1 (by decide) ?_
  refine AW_puti ⟨gfRX7_71, rfl, rfl⟩ (pc2 := 5) rfl dX7_findStops_2 q234 ?_
  refine EW_iconst (pc2 := 6) (v := 0) rfl dX7_findStops_5 (by decide) ?_
  refine EW_istore_n (pc2 := 7) rfl dX7_findStops_6 (by decide) [1, 2, 0] [(0, .ref 234), (1, .int v1), (2, .int 0)] rfl ?_
  exact sX7_findStops_7 v1 0 (wr x 234 5 0) K d bc bs hdp h
theorem mlRX7_52 : Cond.methodLink RX7 52 yX7_findStops ∈ ab_G ∧ Cond.instanceMethod yX7_findStops ∈ ab_G ∧ Cond.selects RX7 yX7_findStops yX7_findStops ∈ ab_G := ⟨ab_in 1597 (by decide +kernel) (by decide +kernel), ab_in 1598 (by decide +kernel) (by decide +kernel), ab_in 1599 (by decide +kernel) (by decide +kernel)⟩
theorem mlRX7_56 : Cond.methodLink RX7 56 yX7_fillWorths ∈ ab_G ∧ Cond.instanceMethod yX7_fillWorths ∈ ab_G ∧ Cond.selects RX7 yX7_fillWorths yX7_fillWorths ∈ ab_G := ⟨ab_in 1606 (by decide +kernel) (by decide +kernel), ab_in 1607 (by decide +kernel) (by decide +kernel), ab_in 1608 (by decide +kernel) (by decide +kernel)⟩
theorem mlRX7_59 : Cond.methodLink RX7 59 yX7_fillSteps ∈ ab_G ∧ Cond.instanceMethod yX7_fillSteps ∈ ab_G ∧ Cond.selects RX7 yX7_fillSteps yX7_fillSteps ∈ ab_G := ⟨ab_in 1610 (by decide +kernel) (by decide +kernel), ab_in 1611 (by decide +kernel) (by decide +kernel), ab_in 1612 (by decide +kernel) (by decide +kernel)⟩
theorem mlRX7_62 : Cond.methodLink RX7 62 yX7_fillRest ∈ ab_G ∧ Cond.instanceMethod yX7_fillRest ∈ ab_G ∧ Cond.selects RX7 yX7_fillRest yX7_fillRest ∈ ab_G := ⟨ab_in 1618 (by decide +kernel) (by decide +kernel), ab_in 1619 (by decide +kernel) (by decide +kernel), ab_in 1620 (by decide +kernel) (by decide +kernel)⟩
theorem mlRX7_65 : Cond.methodLink RX7 65 yX7_findBest ∈ ab_G ∧ Cond.instanceMethod yX7_findBest ∈ ab_G ∧ Cond.selects RX7 yX7_findBest yX7_findBest ∈ ab_G := ⟨ab_in 1626 (by decide +kernel) (by decide +kernel), ab_in 1627 (by decide +kernel) (by decide +kernel), ab_in 1628 (by decide +kernel) (by decide +kernel)⟩
theorem mlRX7_68 : Cond.methodLink RX7 68 yX7_findOrder ∈ ab_G ∧ Cond.instanceMethod yX7_findOrder ∈ ab_G ∧ Cond.selects RX7 yX7_findOrder yX7_findOrder ∈ ab_G := ⟨ab_in 1630 (by decide +kernel) (by decide +kernel), ab_in 1631 (by decide +kernel) (by decide +kernel), ab_in 1632 (by decide +kernel) (by decide +kernel)⟩
abbrev MX7_goRound : ab_M := (yX7_goRound, cX7_goRound, 4, none)
theorem dX7_goRound_0 : decode cX7_goRound 0 = .ok (.aload_n 0, 1) := by decide +kernel
theorem dX7_goRound_1 : decode cX7_goRound 1 = .ok (.iload_n 1, 1) := by decide +kernel
theorem dX7_goRound_2 : decode cX7_goRound 2 = .ok (.putfield 48, 3) := by decide +kernel
theorem dX7_goRound_5 : decode cX7_goRound 5 = .ok (.aload_n 0, 1) := by decide +kernel
theorem dX7_goRound_6 : decode cX7_goRound 6 = .ok (.iload_n 3, 1) := by decide +kernel
theorem dX7_goRound_7 : decode cX7_goRound 7 = .ok (.invokevirtual 52, 3) := by decide +kernel
theorem dX7_goRound_10 : decode cX7_goRound 10 = .ok (.aload_n 0, 1) := by decide +kernel
theorem dX7_goRound_11 : decode cX7_goRound 11 = .ok (.invokevirtual 56, 3) := by decide +kernel
theorem dX7_goRound_14 : decode cX7_goRound 14 = .ok (.aload_n 0, 1) := by decide +kernel
theorem dX7_goRound_15 : decode cX7_goRound 15 = .ok (.invokevirtual 59, 3) := by decide +kernel
theorem dX7_goRound_18 : decode cX7_goRound 18 = .ok (.aload_n 0, 1) := by decide +kernel
theorem dX7_goRound_19 : decode cX7_goRound 19 = .ok (.invokevirtual 62, 3) := by decide +kernel
theorem dX7_goRound_22 : decode cX7_goRound 22 = .ok (.aload_n 0, 1) := by decide +kernel
theorem dX7_goRound_23 : decode cX7_goRound 23 = .ok (.iload_n 2, 1) := by decide +kernel
theorem dX7_goRound_24 : decode cX7_goRound 24 = .ok (.invokevirtual 65, 3) := by decide +kernel
theorem dX7_goRound_27 : decode cX7_goRound 27 = .ok (.aload_n 0, 1) := by decide +kernel
theorem dX7_goRound_28 : decode cX7_goRound 28 = .ok (.invokevirtual 68, 3) := by decide +kernel
theorem dX7_goRound_31 : decode cX7_goRound 31 = .ok (.return_, 1) := by decide +kernel
theorem okX7_goRound : ab_okM MX7_goRound 3 := ⟨by decide, ⟨by decide, by decide⟩, ab_in 1596 (by decide +kernel) (by decide +kernel), ab_in 98 (by decide +kernel) (by decide +kernel), by decide +kernel, by decide⟩
set_option maxHeartbeats 4000000 in
set_option maxRecDepth 100000 in
theorem sX7_goRound (v1 : Int32) (v2 : Int32) (v3 : Int32)  (x : ab_X) (K : ab_X → Prop) (d bc bs : Nat) (hdp : 5 ≤ d) (h : wX7_goRound v1 v2 v3 x K) : EW MX7_goRound 0 [(0, .ref 234), (1, .int v1), (2, .int v2), (3, .int v3)] [] (aS x) d bc bs (liV K) := by
  unfold wX7_goRound at h
  refine EW_aload_n (pc2 := 1) rfl dX7_goRound_0 0 rfl ?_
  refine EW_iload_n (pc2 := 2) rfl dX7_goRound_1 1 rfl ?_
  refine AW_puti ⟨gfRX7_48, rfl, rfl⟩ (pc2 := 5) rfl dX7_goRound_2 q234 ?_
  refine EW_aload_n (pc2 := 6) rfl dX7_goRound_5 0 rfl ?_
  refine EW_iload_n (pc2 := 7) rfl dX7_goRound_6 3 rfl ?_
  refine AW_invV (M' := MX7_findStops) [.int v3] (rest := []) mlRX7_52 okX7_findStops (pc2 := 10) rfl dX7_goRound_7 rfl rfl (Nat.le_of_ble_eq_true rfl) (Nat.le_of_ble_eq_true rfl) (d' := 4) (by omega) q234 ⟨by decide, rfl⟩ (EW_mono (fun _ _ hr => ?_) (sX7_findStops v3  (wr x 234 8 v1) _ _ 0 0 (Nat.le_refl _) h))
  obtain ⟨x1, rfl, rfl, h⟩ := hr
  refine EW_aload_n (pc2 := 11) rfl dX7_goRound_10 0 rfl ?_
  refine AW_invV (M' := MX7_fillWorths) [] (rest := []) mlRX7_56 okX7_fillWorths (pc2 := 14) rfl dX7_goRound_11 rfl rfl (Nat.le_of_ble_eq_true rfl) (Nat.le_of_ble_eq_true rfl) (d' := 0) (by omega) q234 ⟨by decide, rfl⟩ (EW_mono (fun _ _ hr => ?_) (sX7_fillWorths   x1 _ _ 0 0 (Nat.le_refl _) h))
  obtain ⟨x2, rfl, rfl, h⟩ := hr
  refine EW_aload_n (pc2 := 15) rfl dX7_goRound_14 0 rfl ?_
  refine AW_invV (M' := MX7_fillSteps) [] (rest := []) mlRX7_59 okX7_fillSteps (pc2 := 18) rfl dX7_goRound_15 rfl rfl (Nat.le_of_ble_eq_true rfl) (Nat.le_of_ble_eq_true rfl) (d' := 2) (by omega) q234 ⟨by decide, rfl⟩ (EW_mono (fun _ _ hr => ?_) (sX7_fillSteps   x2 _ _ 0 0 (Nat.le_refl _) h))
  obtain ⟨x3, rfl, rfl, h⟩ := hr
  refine EW_aload_n (pc2 := 19) rfl dX7_goRound_18 0 rfl ?_
  refine AW_invV (M' := MX7_fillRest) [] (rest := []) mlRX7_62 okX7_fillRest (pc2 := 22) rfl dX7_goRound_19 rfl rfl (Nat.le_of_ble_eq_true rfl) (Nat.le_of_ble_eq_true rfl) (d' := 2) (by omega) q234 ⟨by decide, rfl⟩ (EW_mono (fun _ _ hr => ?_) (sX7_fillRest   x3 _ _ 0 0 (Nat.le_refl _) h))
  obtain ⟨x4, rfl, rfl, h⟩ := hr
  refine EW_aload_n (pc2 := 23) rfl dX7_goRound_22 0 rfl ?_
  refine EW_iload_n (pc2 := 24) rfl dX7_goRound_23 2 rfl ?_
  refine AW_invV (M' := MX7_findBest) [.int v2] (rest := []) mlRX7_65 okX7_findBest (pc2 := 27) rfl dX7_goRound_24 rfl rfl (Nat.le_of_ble_eq_true rfl) (Nat.le_of_ble_eq_true rfl) (d' := 1) (by omega) q234 ⟨by decide, rfl⟩ (EW_mono (fun _ _ hr => ?_) (sX7_findBest v2  x4 _ _ 0 0 (Nat.le_refl _) h))
  obtain ⟨x5, rfl, rfl, h⟩ := hr
  refine EW_aload_n (pc2 := 28) rfl dX7_goRound_27 0 rfl ?_
  refine AW_invV (M' := MX7_findOrder) [] (rest := []) mlRX7_68 okX7_findOrder (pc2 := 31) rfl dX7_goRound_28 rfl rfl (Nat.le_of_ble_eq_true rfl) (Nat.le_of_ble_eq_true rfl) (d' := 3) (by omega) q234 ⟨by decide, rfl⟩ (EW_mono (fun _ _ hr => ?_) (sX7_findOrder   x5 _ _ 0 0 (Nat.le_refl _) h))
  obtain ⟨x6, rfl, rfl, h⟩ := hr
  exact EW_vret rfl dX7_goRound_31 ⟨_, rfl, rfl, h⟩
theorem mlRX11_435 : Cond.methodLink RX11 435 yX7_goRound ∈ ab_G ∧ Cond.instanceMethod yX7_goRound ∈ ab_G ∧ Cond.selects RX7 yX7_goRound yX7_goRound ∈ ab_G := ⟨ab_in 1593 (by decide +kernel) (by decide +kernel), ab_in 1594 (by decide +kernel) (by decide +kernel), ab_in 1595 (by decide +kernel) (by decide +kernel)⟩
theorem gfRX11_445 : ab_L RX11 445 7 12 := ⟨by decide, by decide, ab_in 686 (by decide +kernel) (by decide +kernel)⟩
theorem gfRX11_442 : ab_L RX11 442 7 11 := ⟨by decide, by decide, ab_in 684 (by decide +kernel) (by decide +kernel)⟩
theorem gfRX11_439 : ab_L RX11 439 7 10 := ⟨by decide, by decide, ab_in 682 (by decide +kernel) (by decide +kernel)⟩
abbrev MX11_round : ab_M := (yX11_round, cX11_round, 4, (some .int))
theorem dX11_round_0 : decode cX11_round 0 = .ok (.iload_n 1, 1) := by decide +kernel
theorem dX11_round_1 : decode cX11_round 1 = .ok (.invokestatic 70, 3) := by decide +kernel
theorem dX11_round_4 : decode cX11_round 4 = .ok (.ifCond .eq 23, 3) := by decide +kernel
theorem dX11_round_7 : decode cX11_round 7 = .ok (.iload_n 2, 1) := by decide +kernel
theorem dX11_round_8 : decode cX11_round 8 = .ok (.iconst 0, 1) := by decide +kernel
theorem dX11_round_9 : decode cX11_round 9 = .ok (.sipush 500, 3) := by decide +kernel
theorem dX11_round_12 : decode cX11_round 12 = .ok (.invokestatic 74, 3) := by decide +kernel
theorem dX11_round_15 : decode cX11_round 15 = .ok (.ifCond .eq 12, 3) := by decide +kernel
theorem dX11_round_18 : decode cX11_round 18 = .ok (.iload_n 3, 1) := by decide +kernel
theorem dX11_round_19 : decode cX11_round 19 = .ok (.iconst 0, 1) := by decide +kernel
theorem dX11_round_20 : decode cX11_round 20 = .ok (.iconst 2, 1) := by decide +kernel
theorem dX11_round_21 : decode cX11_round 21 = .ok (.invokestatic 74, 3) := by decide +kernel
theorem dX11_round_24 : decode cX11_round 24 = .ok (.ifCond .ne 5, 3) := by decide +kernel
theorem dX11_round_27 : decode cX11_round 27 = .ok (.iconst (-1), 1) := by decide +kernel
theorem dX11_round_28 : decode cX11_round 28 = .ok (.ireturn, 1) := by decide +kernel
theorem dX11_round_29 : decode cX11_round 29 = .ok (.aload_n 0, 1) := by decide +kernel
theorem dX11_round_30 : decode cX11_round 30 = .ok (.getfield 55, 3) := by decide +kernel
theorem dX11_round_33 : decode cX11_round 33 = .ok (.iload_n 1, 1) := by decide +kernel
theorem dX11_round_34 : decode cX11_round 34 = .ok (.iload_n 2, 1) := by decide +kernel
theorem dX11_round_35 : decode cX11_round 35 = .ok (.aload_n 0, 1) := by decide +kernel
theorem dX11_round_36 : decode cX11_round 36 = .ok (.getfield 30, 3) := by decide +kernel
theorem dX11_round_39 : decode cX11_round 39 = .ok (.getfield 400, 3) := by decide +kernel
theorem dX11_round_42 : decode cX11_round 42 = .ok (.invokevirtual 435, 3) := by decide +kernel
theorem dX11_round_45 : decode cX11_round 45 = .ok (.iload_n 3, 1) := by decide +kernel
theorem dX11_round_46 : decode cX11_round 46 = .ok (.ifCond .ne 11, 3) := by decide +kernel
theorem dX11_round_49 : decode cX11_round 49 = .ok (.aload_n 0, 1) := by decide +kernel
theorem dX11_round_50 : decode cX11_round 50 = .ok (.getfield 55, 3) := by decide +kernel
theorem dX11_round_53 : decode cX11_round 53 = .ok (.getfield 439, 3) := by decide +kernel
theorem dX11_round_56 : decode cX11_round 56 = .ok (.ireturn, 1) := by decide +kernel
theorem dX11_round_57 : decode cX11_round 57 = .ok (.iload_n 3, 1) := by decide +kernel
theorem dX11_round_58 : decode cX11_round 58 = .ok (.iconst 1, 1) := by decide +kernel
theorem dX11_round_59 : decode cX11_round 59 = .ok (.if_icmp .ne 13, 3) := by decide +kernel
theorem dX11_round_62 : decode cX11_round 62 = .ok (.aload_n 0, 1) := by decide +kernel
theorem dX11_round_63 : decode cX11_round 63 = .ok (.getfield 55, 3) := by decide +kernel
theorem dX11_round_66 : decode cX11_round 66 = .ok (.getfield 442, 3) := by decide +kernel
theorem dX11_round_69 : decode cX11_round 69 = .ok (.goto 10, 3) := by decide +kernel
theorem dX11_round_72 : decode cX11_round 72 = .ok (.aload_n 0, 1) := by decide +kernel
theorem dX11_round_73 : decode cX11_round 73 = .ok (.getfield 55, 3) := by decide +kernel
theorem dX11_round_76 : decode cX11_round 76 = .ok (.getfield 445, 3) := by decide +kernel
theorem dX11_round_79 : decode cX11_round 79 = .ok (.ireturn, 1) := by decide +kernel
theorem okX11_round : ab_okM MX11_round 3 := ⟨by decide, ⟨by decide, by decide⟩, ab_in 1592 (by decide +kernel) (by decide +kernel), ab_in 86 (by decide +kernel) (by decide +kernel), by decide +kernel, by decide⟩
set_option maxHeartbeats 4000000 in
set_option maxRecDepth 100000 in
theorem sX11_round (v1 : Int32) (v2 : Int32) (v3 : Int32)  (x : ab_X) (K : Int32 → ab_X → Prop) (d bc bs : Nat) (hdp : 6 ≤ d) (h : wX11_round v1 v2 v3 x K) : EW MX11_round 0 [(0, .ref 0), (1, .int v1), (2, .int v2), (3, .int v3)] [] (aS x) d bc bs (liI K) := by
  unfold wX11_round at h
  refine EW_iload_n (pc2 := 1) rfl dX11_round_0 1 rfl ?_
  refine AW_invS (M' := MX11_isCorner) [.int v1] (rest := []) mlRX11_70 okX11_isCorner (pc2 := 4) rfl dX11_round_1 rfl rfl (Nat.le_of_ble_eq_true rfl) (Nat.le_of_ble_eq_true rfl) (d' := 0) (by omega) (EW_mono (fun _ _ hr => ?_) (sX11_isCorner v1  x _ _ 0 0 (Nat.le_refl _) h))
  obtain ⟨r1, rfl, rfl, h⟩ := hr
  refine EW_if_eq (tgt := 27) (pc2 := 7) rfl dX11_round_4 (by decide) (fun q => ?_) (fun q => ?_)
  · replace h := h.1 q
    refine EW_iconst (pc2 := 28) (v := (-1)) rfl dX11_round_27 (by decide) ?_
    exact AW_iret rfl dX11_round_28 ⟨_, _, rfl, rfl, h⟩
  · replace h := h.2 q
    refine EW_iload_n (pc2 := 8) rfl dX11_round_7 2 rfl ?_
    refine EW_iconst (pc2 := 9) (v := 0) rfl dX11_round_8 (by decide) ?_
    refine EW_sipush (pc2 := 12) (v := 500) rfl dX11_round_9 (by decide) ?_
    refine AW_invS (M' := MX11_within) [.int v2, .int 0, .int 500] (rest := []) mlRX11_74 okX11_within (pc2 := 15) rfl dX11_round_12 rfl rfl (Nat.le_of_ble_eq_true rfl) (Nat.le_of_ble_eq_true rfl) (d' := 0) (by omega) (EW_mono (fun _ _ hr => ?_) (sX11_within v2 0 500  x _ _ 0 0 (Nat.le_refl _) h))
    obtain ⟨r2, rfl, rfl, h⟩ := hr
    refine EW_if_eq (tgt := 27) (pc2 := 18) rfl dX11_round_15 (by decide) (fun q => ?_) (fun q => ?_)
    · replace h := h.1 q
      refine EW_iconst (pc2 := 28) (v := (-1)) rfl dX11_round_27 (by decide) ?_
      exact AW_iret rfl dX11_round_28 ⟨_, _, rfl, rfl, h⟩
    · replace h := h.2 q
      refine EW_iload_n (pc2 := 19) rfl dX11_round_18 3 rfl ?_
      refine EW_iconst (pc2 := 20) (v := 0) rfl dX11_round_19 (by decide) ?_
      refine EW_iconst (pc2 := 21) (v := 2) rfl dX11_round_20 (by decide) ?_
      refine AW_invS (M' := MX11_within) [.int v3, .int 0, .int 2] (rest := []) mlRX11_74 okX11_within (pc2 := 24) rfl dX11_round_21 rfl rfl (Nat.le_of_ble_eq_true rfl) (Nat.le_of_ble_eq_true rfl) (d' := 0) (by omega) (EW_mono (fun _ _ hr => ?_) (sX11_within v3 0 2  x _ _ 0 0 (Nat.le_refl _) h))
      obtain ⟨r3, rfl, rfl, h⟩ := hr
      refine EW_if_ne (tgt := 29) (pc2 := 27) rfl dX11_round_24 (by decide) (fun q => ?_) (fun q => ?_)
      · replace h := h.1 q
        refine EW_aload_n (pc2 := 30) rfl dX11_round_29 0 rfl ?_
        refine AW_getr (r := 234) ⟨gfRX11_55, rfl⟩ (pc2 := 33) rfl dX11_round_30 q0 rfl ?_
        refine EW_iload_n (pc2 := 34) rfl dX11_round_33 1 rfl ?_
        refine EW_iload_n (pc2 := 35) rfl dX11_round_34 2 rfl ?_
        refine EW_aload_n (pc2 := 36) rfl dX11_round_35 0 rfl ?_
        refine AW_getr (r := 66) ⟨gfRX11_30, rfl⟩ (pc2 := 39) rfl dX11_round_36 q0 rfl ?_
        refine AW_geti ⟨gfRX11_400, rfl⟩ (pc2 := 42) rfl dX11_round_39 q66 ?_
        refine AW_invV (M' := MX7_goRound) [.int v1, .int v2, .int (x.1 66 12)] (rest := []) mlRX11_435 okX7_goRound (pc2 := 45) rfl dX11_round_42 rfl rfl (Nat.le_of_ble_eq_true rfl) (Nat.le_of_ble_eq_true rfl) (d' := 5) (by omega) q234 ⟨by decide, rfl⟩ (EW_mono (fun _ _ hr => ?_) (sX7_goRound v1 v2 (x.1 66 12)  x _ _ 0 0 (Nat.le_refl _) h))
        obtain ⟨x4, rfl, rfl, h⟩ := hr
        refine EW_iload_n (pc2 := 46) rfl dX11_round_45 3 rfl ?_
        refine EW_if_ne (tgt := 57) (pc2 := 49) rfl dX11_round_46 (by decide) (fun q => ?_) (fun q => ?_)
        · replace h := h.1 q
          refine EW_iload_n (pc2 := 58) rfl dX11_round_57 3 rfl ?_
          refine EW_iconst (pc2 := 59) (v := 1) rfl dX11_round_58 (by decide) ?_
          refine EW_icmp_ne (tgt := 72) (pc2 := 62) rfl dX11_round_59 (by decide) (fun q => ?_) (fun q => ?_)
          · replace h := h.1 q
            refine EW_aload_n (pc2 := 73) rfl dX11_round_72 0 rfl ?_
            refine AW_getr (r := 234) ⟨gfRX11_55, rfl⟩ (pc2 := 76) rfl dX11_round_73 q0 rfl ?_
            refine AW_geti ⟨gfRX11_445, rfl⟩ (pc2 := 79) rfl dX11_round_76 q234 ?_
            exact AW_iret rfl dX11_round_79 ⟨_, _, rfl, rfl, h⟩
          · replace h := h.2 q
            refine EW_aload_n (pc2 := 63) rfl dX11_round_62 0 rfl ?_
            refine AW_getr (r := 234) ⟨gfRX11_55, rfl⟩ (pc2 := 66) rfl dX11_round_63 q0 rfl ?_
            refine AW_geti ⟨gfRX11_442, rfl⟩ (pc2 := 69) rfl dX11_round_66 q234 ?_
            refine EW_goto (tgt := 79) dX11_round_69 (by decide) ?_
            exact AW_iret rfl dX11_round_79 ⟨_, _, rfl, rfl, h⟩
        · replace h := h.2 q
          refine EW_aload_n (pc2 := 50) rfl dX11_round_49 0 rfl ?_
          refine AW_getr (r := 234) ⟨gfRX11_55, rfl⟩ (pc2 := 53) rfl dX11_round_50 q0 rfl ?_
          refine AW_geti ⟨gfRX11_439, rfl⟩ (pc2 := 56) rfl dX11_round_53 q234 ?_
          exact AW_iret rfl dX11_round_56 ⟨_, _, rfl, rfl, h⟩
      · replace h := h.2 q
        refine EW_iconst (pc2 := 28) (v := (-1)) rfl dX11_round_27 (by decide) ?_
        exact AW_iret rfl dX11_round_28 ⟨_, _, rfl, rfl, h⟩
theorem gfRX11_448 : ab_L RX11 448 7 13 := ⟨by decide, by decide, ab_in 688 (by decide +kernel) (by decide +kernel)⟩
abbrev MX11_rounded : ab_M := (yX11_rounded, cX11_rounded, 4, (some .int))
theorem dX11_rounded_0 : decode cX11_rounded 0 = .ok (.iload_n 1, 1) := by decide +kernel
theorem dX11_rounded_1 : decode cX11_rounded 1 = .ok (.invokestatic 70, 3) := by decide +kernel
theorem dX11_rounded_4 : decode cX11_rounded 4 = .ok (.ifCond .eq 14, 3) := by decide +kernel
theorem dX11_rounded_7 : decode cX11_rounded 7 = .ok (.iload_n 2, 1) := by decide +kernel
theorem dX11_rounded_8 : decode cX11_rounded 8 = .ok (.iconst 0, 1) := by decide +kernel
theorem dX11_rounded_9 : decode cX11_rounded 9 = .ok (.sipush 500, 3) := by decide +kernel
theorem dX11_rounded_12 : decode cX11_rounded 12 = .ok (.invokestatic 74, 3) := by decide +kernel
theorem dX11_rounded_15 : decode cX11_rounded 15 = .ok (.ifCond .ne 5, 3) := by decide +kernel
theorem dX11_rounded_18 : decode cX11_rounded 18 = .ok (.iconst (-1), 1) := by decide +kernel
theorem dX11_rounded_19 : decode cX11_rounded 19 = .ok (.ireturn, 1) := by decide +kernel
theorem dX11_rounded_20 : decode cX11_rounded 20 = .ok (.aload_n 0, 1) := by decide +kernel
theorem dX11_rounded_21 : decode cX11_rounded 21 = .ok (.getfield 55, 3) := by decide +kernel
theorem dX11_rounded_24 : decode cX11_rounded 24 = .ok (.iload_n 1, 1) := by decide +kernel
theorem dX11_rounded_25 : decode cX11_rounded 25 = .ok (.iload_n 2, 1) := by decide +kernel
theorem dX11_rounded_26 : decode cX11_rounded 26 = .ok (.aload_n 0, 1) := by decide +kernel
theorem dX11_rounded_27 : decode cX11_rounded 27 = .ok (.getfield 30, 3) := by decide +kernel
theorem dX11_rounded_30 : decode cX11_rounded 30 = .ok (.getfield 400, 3) := by decide +kernel
theorem dX11_rounded_33 : decode cX11_rounded 33 = .ok (.invokevirtual 435, 3) := by decide +kernel
theorem dX11_rounded_36 : decode cX11_rounded 36 = .ok (.iload_n 3, 1) := by decide +kernel
theorem dX11_rounded_37 : decode cX11_rounded 37 = .ok (.aload_n 0, 1) := by decide +kernel
theorem dX11_rounded_38 : decode cX11_rounded 38 = .ok (.getfield 55, 3) := by decide +kernel
theorem dX11_rounded_41 : decode cX11_rounded 41 = .ok (.getfield 445, 3) := by decide +kernel
theorem dX11_rounded_44 : decode cX11_rounded 44 = .ok (.invokestatic 86, 3) := by decide +kernel
theorem dX11_rounded_47 : decode cX11_rounded 47 = .ok (.ifCond .eq 15, 3) := by decide +kernel
theorem dX11_rounded_50 : decode cX11_rounded 50 = .ok (.aload_n 0, 1) := by decide +kernel
theorem dX11_rounded_51 : decode cX11_rounded 51 = .ok (.getfield 55, 3) := by decide +kernel
theorem dX11_rounded_54 : decode cX11_rounded 54 = .ok (.getfield 448, 3) := by decide +kernel
theorem dX11_rounded_57 : decode cX11_rounded 57 = .ok (.iload_n 3, 1) := by decide +kernel
theorem dX11_rounded_58 : decode cX11_rounded 58 = .ok (.iaload, 1) := by decide +kernel
theorem dX11_rounded_59 : decode cX11_rounded 59 = .ok (.goto 4, 3) := by decide +kernel
theorem dX11_rounded_62 : decode cX11_rounded 62 = .ok (.iconst (-1), 1) := by decide +kernel
theorem dX11_rounded_63 : decode cX11_rounded 63 = .ok (.ireturn, 1) := by decide +kernel
theorem okX11_rounded : ab_okM MX11_rounded 3 := ⟨by decide, ⟨by decide, by decide⟩, ab_in 1645 (by decide +kernel) (by decide +kernel), ab_in 86 (by decide +kernel) (by decide +kernel), by decide +kernel, by decide⟩
set_option maxHeartbeats 4000000 in
set_option maxRecDepth 100000 in
theorem sX11_rounded (v1 : Int32) (v2 : Int32) (v3 : Int32)  (x : ab_X) (K : Int32 → ab_X → Prop) (d bc bs : Nat) (hdp : 6 ≤ d) (h : wX11_rounded v1 v2 v3 x K) : EW MX11_rounded 0 [(0, .ref 0), (1, .int v1), (2, .int v2), (3, .int v3)] [] (aS x) d bc bs (liI K) := by
  unfold wX11_rounded at h
  refine EW_iload_n (pc2 := 1) rfl dX11_rounded_0 1 rfl ?_
  refine AW_invS (M' := MX11_isCorner) [.int v1] (rest := []) mlRX11_70 okX11_isCorner (pc2 := 4) rfl dX11_rounded_1 rfl rfl (Nat.le_of_ble_eq_true rfl) (Nat.le_of_ble_eq_true rfl) (d' := 0) (by omega) (EW_mono (fun _ _ hr => ?_) (sX11_isCorner v1  x _ _ 0 0 (Nat.le_refl _) h))
  obtain ⟨r1, rfl, rfl, h⟩ := hr
  refine EW_if_eq (tgt := 18) (pc2 := 7) rfl dX11_rounded_4 (by decide) (fun q => ?_) (fun q => ?_)
  · replace h := h.1 q
    refine EW_iconst (pc2 := 19) (v := (-1)) rfl dX11_rounded_18 (by decide) ?_
    exact AW_iret rfl dX11_rounded_19 ⟨_, _, rfl, rfl, h⟩
  · replace h := h.2 q
    refine EW_iload_n (pc2 := 8) rfl dX11_rounded_7 2 rfl ?_
    refine EW_iconst (pc2 := 9) (v := 0) rfl dX11_rounded_8 (by decide) ?_
    refine EW_sipush (pc2 := 12) (v := 500) rfl dX11_rounded_9 (by decide) ?_
    refine AW_invS (M' := MX11_within) [.int v2, .int 0, .int 500] (rest := []) mlRX11_74 okX11_within (pc2 := 15) rfl dX11_rounded_12 rfl rfl (Nat.le_of_ble_eq_true rfl) (Nat.le_of_ble_eq_true rfl) (d' := 0) (by omega) (EW_mono (fun _ _ hr => ?_) (sX11_within v2 0 500  x _ _ 0 0 (Nat.le_refl _) h))
    obtain ⟨r2, rfl, rfl, h⟩ := hr
    refine EW_if_ne (tgt := 20) (pc2 := 18) rfl dX11_rounded_15 (by decide) (fun q => ?_) (fun q => ?_)
    · replace h := h.1 q
      refine EW_aload_n (pc2 := 21) rfl dX11_rounded_20 0 rfl ?_
      refine AW_getr (r := 234) ⟨gfRX11_55, rfl⟩ (pc2 := 24) rfl dX11_rounded_21 q0 rfl ?_
      refine EW_iload_n (pc2 := 25) rfl dX11_rounded_24 1 rfl ?_
      refine EW_iload_n (pc2 := 26) rfl dX11_rounded_25 2 rfl ?_
      refine EW_aload_n (pc2 := 27) rfl dX11_rounded_26 0 rfl ?_
      refine AW_getr (r := 66) ⟨gfRX11_30, rfl⟩ (pc2 := 30) rfl dX11_rounded_27 q0 rfl ?_
      refine AW_geti ⟨gfRX11_400, rfl⟩ (pc2 := 33) rfl dX11_rounded_30 q66 ?_
      refine AW_invV (M' := MX7_goRound) [.int v1, .int v2, .int (x.1 66 12)] (rest := []) mlRX11_435 okX7_goRound (pc2 := 36) rfl dX11_rounded_33 rfl rfl (Nat.le_of_ble_eq_true rfl) (Nat.le_of_ble_eq_true rfl) (d' := 5) (by omega) q234 ⟨by decide, rfl⟩ (EW_mono (fun _ _ hr => ?_) (sX7_goRound v1 v2 (x.1 66 12)  x _ _ 0 0 (Nat.le_refl _) h))
      obtain ⟨x3, rfl, rfl, h⟩ := hr
      refine EW_iload_n (pc2 := 37) rfl dX11_rounded_36 3 rfl ?_
      refine EW_aload_n (pc2 := 38) rfl dX11_rounded_37 0 rfl ?_
      refine AW_getr (r := 234) ⟨gfRX11_55, rfl⟩ (pc2 := 41) rfl dX11_rounded_38 q0 rfl ?_
      refine AW_geti ⟨gfRX11_445, rfl⟩ (pc2 := 44) rfl dX11_rounded_41 q234 ?_
      refine AW_invS (M' := MX11_below) [.int v3, .int (x3.1 234 12)] (rest := []) mlRX11_86 okX11_below (pc2 := 47) rfl dX11_rounded_44 rfl rfl (Nat.le_of_ble_eq_true rfl) (Nat.le_of_ble_eq_true rfl) (d' := 0) (by omega) (EW_mono (fun _ _ hr => ?_) (sX11_below v3 (x3.1 234 12)  x3 _ _ 0 0 (Nat.le_refl _) h))
      obtain ⟨r4, rfl, rfl, h⟩ := hr
      refine EW_if_eq (tgt := 62) (pc2 := 50) rfl dX11_rounded_47 (by decide) (fun q => ?_) (fun q => ?_)
      · replace h := h.1 q
        refine EW_iconst (pc2 := 63) (v := (-1)) rfl dX11_rounded_62 (by decide) ?_
        exact AW_iret rfl dX11_rounded_63 ⟨_, _, rfl, rfl, h⟩
      · replace h := h.2 q
        refine EW_aload_n (pc2 := 51) rfl dX11_rounded_50 0 rfl ?_
        refine AW_getr (r := 234) ⟨gfRX11_55, rfl⟩ (pc2 := 54) rfl dX11_rounded_51 q0 rfl ?_
        refine AW_getr (r := 240) ⟨gfRX11_448, rfl⟩ (pc2 := 57) rfl dX11_rounded_54 q234 rfl ?_
        refine EW_iload_n (pc2 := 58) rfl dX11_rounded_57 3 rfl ?_
        obtain ⟨b5, h⟩ := h
        refine AW_iald (pc2 := 59) rfl dX11_rounded_58 q240 b5 ?_
        refine EW_goto (tgt := 63) dX11_rounded_59 (by decide) ?_
        exact AW_iret rfl dX11_rounded_63 ⟨_, _, rfl, rfl, h⟩
    · replace h := h.2 q
      refine EW_iconst (pc2 := 19) (v := (-1)) rfl dX11_rounded_18 (by decide) ?_
      exact AW_iret rfl dX11_rounded_19 ⟨_, _, rfl, rfl, h⟩
abbrev MX11_row : ab_M := (yX11_row, cX11_row, 2, (some .int))
theorem dX11_row_0 : decode cX11_row 0 = .ok (.iload_n 1, 1) := by decide +kernel
theorem dX11_row_1 : decode cX11_row 1 = .ok (.iconst 0, 1) := by decide +kernel
theorem dX11_row_2 : decode cX11_row 2 = .ok (.iconst 3, 1) := by decide +kernel
theorem dX11_row_3 : decode cX11_row 3 = .ok (.invokestatic 74, 3) := by decide +kernel
theorem dX11_row_6 : decode cX11_row 6 = .ok (.ifCond .eq 12, 3) := by decide +kernel
theorem dX11_row_9 : decode cX11_row 9 = .ok (.aload_n 0, 1) := by decide +kernel
theorem dX11_row_10 : decode cX11_row 10 = .ok (.getfield 464, 3) := by decide +kernel
theorem dX11_row_13 : decode cX11_row 13 = .ok (.bipush 6, 2) := by decide +kernel
theorem dX11_row_15 : decode cX11_row 15 = .ok (.if_icmp .lt 5, 3) := by decide +kernel
theorem dX11_row_18 : decode cX11_row 18 = .ok (.iconst (-1), 1) := by decide +kernel
theorem dX11_row_19 : decode cX11_row 19 = .ok (.ireturn, 1) := by decide +kernel
theorem dX11_row_20 : decode cX11_row 20 = .ok (.aload_n 0, 1) := by decide +kernel
theorem dX11_row_21 : decode cX11_row 21 = .ok (.getfield 59, 3) := by decide +kernel
theorem dX11_row_24 : decode cX11_row 24 = .ok (.aload_n 0, 1) := by decide +kernel
theorem dX11_row_25 : decode cX11_row 25 = .ok (.getfield 464, 3) := by decide +kernel
theorem dX11_row_28 : decode cX11_row 28 = .ok (.iload_n 1, 1) := by decide +kernel
theorem dX11_row_29 : decode cX11_row 29 = .ok (.iastore, 1) := by decide +kernel
theorem dX11_row_30 : decode cX11_row 30 = .ok (.aload_n 0, 1) := by decide +kernel
theorem dX11_row_31 : decode cX11_row 31 = .ok (.dup, 1) := by decide +kernel
theorem dX11_row_32 : decode cX11_row 32 = .ok (.getfield 464, 3) := by decide +kernel
theorem dX11_row_35 : decode cX11_row 35 = .ok (.iconst 1, 1) := by decide +kernel
theorem dX11_row_36 : decode cX11_row 36 = .ok (.iadd, 1) := by decide +kernel
theorem dX11_row_37 : decode cX11_row 37 = .ok (.putfield 464, 3) := by decide +kernel
theorem dX11_row_40 : decode cX11_row 40 = .ok (.aload_n 0, 1) := by decide +kernel
theorem dX11_row_41 : decode cX11_row 41 = .ok (.getfield 464, 3) := by decide +kernel
theorem dX11_row_44 : decode cX11_row 44 = .ok (.iconst 1, 1) := by decide +kernel
theorem dX11_row_45 : decode cX11_row 45 = .ok (.isub, 1) := by decide +kernel
theorem dX11_row_46 : decode cX11_row 46 = .ok (.ireturn, 1) := by decide +kernel
theorem okX11_row : ab_okM MX11_row 1 := ⟨by decide, ⟨by decide, by decide⟩, ab_in 1687 (by decide +kernel) (by decide +kernel), ab_in 86 (by decide +kernel) (by decide +kernel), by decide +kernel, by decide⟩
set_option maxHeartbeats 4000000 in
set_option maxRecDepth 100000 in
theorem sX11_row (v1 : Int32)  (x : ab_X) (K : Int32 → ab_X → Prop) (d bc bs : Nat) (hdp : 1 ≤ d) (h : wX11_row v1 x K) : EW MX11_row 0 [(0, .ref 0), (1, .int v1)] [] (aS x) d bc bs (liI K) := by
  unfold wX11_row at h
  refine EW_iload_n (pc2 := 1) rfl dX11_row_0 1 rfl ?_
  refine EW_iconst (pc2 := 2) (v := 0) rfl dX11_row_1 (by decide) ?_
  refine EW_iconst (pc2 := 3) (v := 3) rfl dX11_row_2 (by decide) ?_
  refine AW_invS (M' := MX11_within) [.int v1, .int 0, .int 3] (rest := []) mlRX11_74 okX11_within (pc2 := 6) rfl dX11_row_3 rfl rfl (Nat.le_of_ble_eq_true rfl) (Nat.le_of_ble_eq_true rfl) (d' := 0) (by omega) (EW_mono (fun _ _ hr => ?_) (sX11_within v1 0 3  x _ _ 0 0 (Nat.le_refl _) h))
  obtain ⟨r1, rfl, rfl, h⟩ := hr
  refine EW_if_eq (tgt := 18) (pc2 := 9) rfl dX11_row_6 (by decide) (fun q => ?_) (fun q => ?_)
  · replace h := h.1 q
    refine EW_iconst (pc2 := 19) (v := (-1)) rfl dX11_row_18 (by decide) ?_
    exact AW_iret rfl dX11_row_19 ⟨_, _, rfl, rfl, h⟩
  · replace h := h.2 q
    refine EW_aload_n (pc2 := 10) rfl dX11_row_9 0 rfl ?_
    refine AW_geti ⟨gfRX11_464, rfl⟩ (pc2 := 13) rfl dX11_row_10 q0 ?_
    refine EW_bipush (pc2 := 15) (v := 6) rfl dX11_row_13 (by decide) ?_
    refine EW_icmp_lt (tgt := 20) (pc2 := 18) rfl dX11_row_15 (by decide) (fun q => ?_) (fun q => ?_)
    · replace h := h.1 q
      refine EW_aload_n (pc2 := 21) rfl dX11_row_20 0 rfl ?_
      refine AW_getr (r := 243) ⟨gfRX11_59, rfl⟩ (pc2 := 24) rfl dX11_row_21 q0 rfl ?_
      refine EW_aload_n (pc2 := 25) rfl dX11_row_24 0 rfl ?_
      refine AW_geti ⟨gfRX11_464, rfl⟩ (pc2 := 28) rfl dX11_row_25 q0 ?_
      refine EW_iload_n (pc2 := 29) rfl dX11_row_28 1 rfl ?_
      obtain ⟨b2, h⟩ := h
      refine AW_iast (pc2 := 30) rfl dX11_row_29 q243 b2 ?_
      refine EW_aload_n (pc2 := 31) rfl dX11_row_30 0 rfl ?_
      refine EW_dup (pc2 := 32) rfl dX11_row_31 rfl ?_
      refine AW_geti ⟨gfRX11_464, rfl⟩ (pc2 := 35) rfl dX11_row_32 q0 ?_
      refine EW_iconst (pc2 := 36) (v := 1) rfl dX11_row_35 (by decide) ?_
      refine EW_iadd (pc2 := 37) rfl dX11_row_36 ?_
      refine AW_puti ⟨gfRX11_464, rfl, rfl⟩ (pc2 := 40) rfl dX11_row_37 q0 ?_
      refine EW_aload_n (pc2 := 41) rfl dX11_row_40 0 rfl ?_
      refine AW_geti ⟨gfRX11_464, rfl⟩ (pc2 := 44) rfl dX11_row_41 q0 ?_
      refine EW_iconst (pc2 := 45) (v := 1) rfl dX11_row_44 (by decide) ?_
      refine EW_isub (pc2 := 46) rfl dX11_row_45 ?_
      exact AW_iret rfl dX11_row_46 ⟨_, _, rfl, rfl, h⟩
    · replace h := h.2 q
      refine EW_iconst (pc2 := 19) (v := (-1)) rfl dX11_row_18 (by decide) ?_
      exact AW_iret rfl dX11_row_19 ⟨_, _, rfl, rfl, h⟩
theorem mlRX6_49 : Cond.methodLink RX6 49 yX6_walk ∈ ab_G ∧ Cond.instanceMethod yX6_walk ∈ ab_G ∧ Cond.selects RX6 yX6_walk yX6_walk ∈ ab_G := ⟨ab_in 781 (by decide +kernel) (by decide +kernel), ab_in 782 (by decide +kernel) (by decide +kernel), ab_in 783 (by decide +kernel) (by decide +kernel)⟩
theorem mmRX6_53 : Cond.methodLink RX6 53 Lib.Math.min.name ∈ ab_G ∧ Cond.static Lib.Math.min.name ∈ ab_G ∧ Cond.initialized "java/lang/Math" ∈ ab_G ∧ Cond.code Lib.Math.min.name Lib.Math.min.code 2 (some .int) ∈ ab_G := ⟨ab_in 786 (by decide +kernel) (by decide +kernel), ab_in 787 (by decide +kernel) (by decide +kernel), ab_in 100 (by decide +kernel) (by decide +kernel), ab_in 788 (by decide +kernel) (by decide +kernel)⟩
abbrev MX6_shorten : ab_M := (yX6_shorten, cX6_shorten, 8, none)
theorem dX6_shorten_0 : decode cX6_shorten 0 = .ok (.iconst 0, 1) := by decide +kernel
theorem dX6_shorten_1 : decode cX6_shorten 1 = .ok (.istore 4, 2) := by decide +kernel
theorem dX6_shorten_3 : decode cX6_shorten 3 = .ok (.iload 4, 2) := by decide +kernel
theorem dX6_shorten_5 : decode cX6_shorten 5 = .ok (.bipush 20, 2) := by decide +kernel
theorem dX6_shorten_7 : decode cX6_shorten 7 = .ok (.if_icmp .ge 94, 3) := by decide +kernel
theorem dX6_shorten_10 : decode cX6_shorten 10 = .ok (.iconst 0, 1) := by decide +kernel
theorem dX6_shorten_11 : decode cX6_shorten 11 = .ok (.istore 5, 2) := by decide +kernel
theorem dX6_shorten_13 : decode cX6_shorten 13 = .ok (.iload 5, 2) := by decide +kernel
theorem dX6_shorten_15 : decode cX6_shorten 15 = .ok (.bipush 20, 2) := by decide +kernel
theorem dX6_shorten_17 : decode cX6_shorten 17 = .ok (.if_icmp .ge 78, 3) := by decide +kernel
theorem dX6_shorten_20 : decode cX6_shorten 20 = .ok (.aload_n 0, 1) := by decide +kernel
theorem dX6_shorten_21 : decode cX6_shorten 21 = .ok (.iload 4, 2) := by decide +kernel
theorem dX6_shorten_23 : decode cX6_shorten 23 = .ok (.iload_n 1, 1) := by decide +kernel
theorem dX6_shorten_24 : decode cX6_shorten 24 = .ok (.invokevirtual 49, 3) := by decide +kernel
theorem dX6_shorten_27 : decode cX6_shorten 27 = .ok (.iload_n 3, 1) := by decide +kernel
theorem dX6_shorten_28 : decode cX6_shorten 28 = .ok (.iadd, 1) := by decide +kernel
theorem dX6_shorten_29 : decode cX6_shorten 29 = .ok (.aload_n 0, 1) := by decide +kernel
theorem dX6_shorten_30 : decode cX6_shorten 30 = .ok (.iload_n 2, 1) := by decide +kernel
theorem dX6_shorten_31 : decode cX6_shorten 31 = .ok (.iload 5, 2) := by decide +kernel
theorem dX6_shorten_33 : decode cX6_shorten 33 = .ok (.invokevirtual 49, 3) := by decide +kernel
theorem dX6_shorten_36 : decode cX6_shorten 36 = .ok (.iadd, 1) := by decide +kernel
theorem dX6_shorten_37 : decode cX6_shorten 37 = .ok (.istore 6, 2) := by decide +kernel
theorem dX6_shorten_39 : decode cX6_shorten 39 = .ok (.aload_n 0, 1) := by decide +kernel
theorem dX6_shorten_40 : decode cX6_shorten 40 = .ok (.iload 4, 2) := by decide +kernel
theorem dX6_shorten_42 : decode cX6_shorten 42 = .ok (.iload_n 2, 1) := by decide +kernel
theorem dX6_shorten_43 : decode cX6_shorten 43 = .ok (.invokevirtual 49, 3) := by decide +kernel
theorem dX6_shorten_46 : decode cX6_shorten 46 = .ok (.iload_n 3, 1) := by decide +kernel
theorem dX6_shorten_47 : decode cX6_shorten 47 = .ok (.iadd, 1) := by decide +kernel
theorem dX6_shorten_48 : decode cX6_shorten 48 = .ok (.aload_n 0, 1) := by decide +kernel
theorem dX6_shorten_49 : decode cX6_shorten 49 = .ok (.iload_n 1, 1) := by decide +kernel
theorem dX6_shorten_50 : decode cX6_shorten 50 = .ok (.iload 5, 2) := by decide +kernel
theorem dX6_shorten_52 : decode cX6_shorten 52 = .ok (.invokevirtual 49, 3) := by decide +kernel
theorem dX6_shorten_55 : decode cX6_shorten 55 = .ok (.iadd, 1) := by decide +kernel
theorem dX6_shorten_56 : decode cX6_shorten 56 = .ok (.istore 7, 2) := by decide +kernel
theorem dX6_shorten_58 : decode cX6_shorten 58 = .ok (.aload_n 0, 1) := by decide +kernel
theorem dX6_shorten_59 : decode cX6_shorten 59 = .ok (.getfield 28, 3) := by decide +kernel
theorem dX6_shorten_62 : decode cX6_shorten 62 = .ok (.iload 4, 2) := by decide +kernel
theorem dX6_shorten_64 : decode cX6_shorten 64 = .ok (.bipush 20, 2) := by decide +kernel
theorem dX6_shorten_66 : decode cX6_shorten 66 = .ok (.imul, 1) := by decide +kernel
theorem dX6_shorten_67 : decode cX6_shorten 67 = .ok (.iload 5, 2) := by decide +kernel
theorem dX6_shorten_69 : decode cX6_shorten 69 = .ok (.iadd, 1) := by decide +kernel
theorem dX6_shorten_70 : decode cX6_shorten 70 = .ok (.aload_n 0, 1) := by decide +kernel
theorem dX6_shorten_71 : decode cX6_shorten 71 = .ok (.iload 4, 2) := by decide +kernel
theorem dX6_shorten_73 : decode cX6_shorten 73 = .ok (.iload 5, 2) := by decide +kernel
theorem dX6_shorten_75 : decode cX6_shorten 75 = .ok (.invokevirtual 49, 3) := by decide +kernel
theorem dX6_shorten_78 : decode cX6_shorten 78 = .ok (.iload 6, 2) := by decide +kernel
theorem dX6_shorten_80 : decode cX6_shorten 80 = .ok (.iload 7, 2) := by decide +kernel
theorem dX6_shorten_82 : decode cX6_shorten 82 = .ok (.invokestatic 53, 3) := by decide +kernel
theorem dX6_shorten_85 : decode cX6_shorten 85 = .ok (.invokestatic 53, 3) := by decide +kernel
theorem dX6_shorten_88 : decode cX6_shorten 88 = .ok (.iastore, 1) := by decide +kernel
theorem dX6_shorten_89 : decode cX6_shorten 89 = .ok (.iinc 5 1, 3) := by decide +kernel
theorem dX6_shorten_92 : decode cX6_shorten 92 = .ok (.goto (-79), 3) := by decide +kernel
theorem dX6_shorten_95 : decode cX6_shorten 95 = .ok (.iinc 4 1, 3) := by decide +kernel
theorem dX6_shorten_98 : decode cX6_shorten 98 = .ok (.goto (-95), 3) := by decide +kernel
theorem dX6_shorten_101 : decode cX6_shorten 101 = .ok (.return_, 1) := by decide +kernel
theorem okX6_shorten : ab_okM MX6_shorten 3 := ⟨by decide, ⟨by decide, by decide⟩, ab_in 780 (by decide +kernel) (by decide +kernel), ab_in 87 (by decide +kernel) (by decide +kernel), by decide +kernel, by decide⟩
set_option maxHeartbeats 4000000 in
set_option maxRecDepth 100000 in
theorem sX6_shorten_13 (v1 : Int32) (v2 : Int32) (v3 : Int32) (v4 : Int32) (v5 : Int32)  (x : ab_X) (K : ab_X → Prop) (L3 : Int32 → ab_X → Prop) (d bc bs : Nat) (hdp : 2 ≤ d) (hL3 : ∀ (v4 : Int32) (x : ab_X), L3 v4 x → EW MX6_shorten 3 [(0, .ref 1), (1, .int v1), (2, .int v2), (3, .int v3), (4, .int v4)] [] (aS x) d bc bs (liV K)) (h : Lp2 (lX6_shorten_13 v1 v2 v3 v4 K L3) v5 x) : EW MX6_shorten 13 [(0, .ref 1), (1, .int v1), (2, .int v2), (3, .int v3), (4, .int v4), (5, .int v5)] [] (aS x) d bc bs (liV K) := by
  refine Lp2.use (P := fun v5 x => EW MX6_shorten 13 [(0, .ref 1), (1, .int v1), (2, .int v2), (3, .int v3), (4, .int v4), (5, .int v5)] [] (aS x) d bc bs (liV K)) (fun L13 v5 x hL13 h => ?_) v5 x h
  unfold lX6_shorten_13 at h
  refine EW_iload (pc2 := 15) rfl dX6_shorten_13 5 rfl ?_
  refine EW_bipush (pc2 := 17) (v := 20) rfl dX6_shorten_15 (by decide) ?_
  refine EW_icmp_ge (tgt := 95) (pc2 := 20) rfl dX6_shorten_17 (by decide) (fun q => ?_) (fun q => ?_)
  · replace h := h.1 q
    refine EW_iinc (v4 + 1) (pc2 := 98) rfl dX6_shorten_95 4 rfl rfl (by decide) [1, 2, 3, 4, 0, 5] [(0, .ref 1), (1, .int v1), (2, .int v2), (3, .int v3), (4, .int (v4 + 1)), (5, .int v5)] rfl ?_
    refine EW_goto (tgt := 3) dX6_shorten_98 (by decide) ?_
    refine EW_ls [0, 1, 2, 3, 4] rfl ?_
    exact hL3 (v4 + 1) x h
  · replace h := h.2 q
    refine EW_aload_n (pc2 := 21) rfl dX6_shorten_20 0 rfl ?_
    refine EW_iload (pc2 := 23) rfl dX6_shorten_21 4 rfl ?_
    refine EW_iload_n (pc2 := 24) rfl dX6_shorten_23 1 rfl ?_
    refine AW_invV (M' := MX6_walk) [.int v4, .int v1] (rest := []) mlRX6_49 okX6_walk (pc2 := 27) rfl dX6_shorten_24 rfl rfl (Nat.le_of_ble_eq_true rfl) (Nat.le_of_ble_eq_true rfl) (d' := 1) (by omega) q1 ⟨by decide, rfl⟩ (EW_mono (fun _ _ hr => ?_) (sX6_walk v4 v1  x _ _ 0 0 (Nat.le_refl _) h))
    obtain ⟨r1, rfl, rfl, h⟩ := hr
    refine EW_iload_n (pc2 := 28) rfl dX6_shorten_27 3 rfl ?_
    refine EW_iadd (pc2 := 29) rfl dX6_shorten_28 ?_
    refine EW_aload_n (pc2 := 30) rfl dX6_shorten_29 0 rfl ?_
    refine EW_iload_n (pc2 := 31) rfl dX6_shorten_30 2 rfl ?_
    refine EW_iload (pc2 := 33) rfl dX6_shorten_31 5 rfl ?_
    refine AW_invV (M' := MX6_walk) [.int v2, .int v5] (rest := [.int (r1 + v3)]) mlRX6_49 okX6_walk (pc2 := 36) rfl dX6_shorten_33 rfl rfl (Nat.le_of_ble_eq_true rfl) (Nat.le_of_ble_eq_true rfl) (d' := 1) (by omega) q1 ⟨by decide, rfl⟩ (EW_mono (fun _ _ hr => ?_) (sX6_walk v2 v5  x _ _ 0 0 (Nat.le_refl _) h))
    obtain ⟨r2, rfl, rfl, h⟩ := hr
    refine EW_iadd (pc2 := 37) rfl dX6_shorten_36 ?_
    refine EW_istore (pc2 := 39) rfl dX6_shorten_37 (by decide) [1, 2, 3, 4, 5, 6, 0] [(0, .ref 1), (1, .int v1), (2, .int v2), (3, .int v3), (4, .int v4), (5, .int v5), (6, .int ((r1 + v3) + r2))] rfl ?_
    refine EW_aload_n (pc2 := 40) rfl dX6_shorten_39 0 rfl ?_
    refine EW_iload (pc2 := 42) rfl dX6_shorten_40 4 rfl ?_
    refine EW_iload_n (pc2 := 43) rfl dX6_shorten_42 2 rfl ?_
    refine AW_invV (M' := MX6_walk) [.int v4, .int v2] (rest := []) mlRX6_49 okX6_walk (pc2 := 46) rfl dX6_shorten_43 rfl rfl (Nat.le_of_ble_eq_true rfl) (Nat.le_of_ble_eq_true rfl) (d' := 1) (by omega) q1 ⟨by decide, rfl⟩ (EW_mono (fun _ _ hr => ?_) (sX6_walk v4 v2  x _ _ 0 0 (Nat.le_refl _) h))
    obtain ⟨r3, rfl, rfl, h⟩ := hr
    refine EW_iload_n (pc2 := 47) rfl dX6_shorten_46 3 rfl ?_
    refine EW_iadd (pc2 := 48) rfl dX6_shorten_47 ?_
    refine EW_aload_n (pc2 := 49) rfl dX6_shorten_48 0 rfl ?_
    refine EW_iload_n (pc2 := 50) rfl dX6_shorten_49 1 rfl ?_
    refine EW_iload (pc2 := 52) rfl dX6_shorten_50 5 rfl ?_
    refine AW_invV (M' := MX6_walk) [.int v1, .int v5] (rest := [.int (r3 + v3)]) mlRX6_49 okX6_walk (pc2 := 55) rfl dX6_shorten_52 rfl rfl (Nat.le_of_ble_eq_true rfl) (Nat.le_of_ble_eq_true rfl) (d' := 1) (by omega) q1 ⟨by decide, rfl⟩ (EW_mono (fun _ _ hr => ?_) (sX6_walk v1 v5  x _ _ 0 0 (Nat.le_refl _) h))
    obtain ⟨r4, rfl, rfl, h⟩ := hr
    refine EW_iadd (pc2 := 56) rfl dX6_shorten_55 ?_
    refine EW_istore (pc2 := 58) rfl dX6_shorten_56 (by decide) [1, 2, 3, 4, 5, 6, 7, 0] [(0, .ref 1), (1, .int v1), (2, .int v2), (3, .int v3), (4, .int v4), (5, .int v5), (6, .int ((r1 + v3) + r2)), (7, .int ((r3 + v3) + r4))] rfl ?_
    refine EW_aload_n (pc2 := 59) rfl dX6_shorten_58 0 rfl ?_
    refine AW_getr (r := 7) ⟨gfRX6_28, rfl⟩ (pc2 := 62) rfl dX6_shorten_59 q1 rfl ?_
    refine EW_iload (pc2 := 64) rfl dX6_shorten_62 4 rfl ?_
    refine EW_bipush (pc2 := 66) (v := 20) rfl dX6_shorten_64 (by decide) ?_
    refine EW_imul (pc2 := 67) rfl dX6_shorten_66 ?_
    refine EW_iload (pc2 := 69) rfl dX6_shorten_67 5 rfl ?_
    refine EW_iadd (pc2 := 70) rfl dX6_shorten_69 ?_
    refine EW_aload_n (pc2 := 71) rfl dX6_shorten_70 0 rfl ?_
    refine EW_iload (pc2 := 73) rfl dX6_shorten_71 4 rfl ?_
    refine EW_iload (pc2 := 75) rfl dX6_shorten_73 5 rfl ?_
    refine AW_invV (M' := MX6_walk) [.int v4, .int v5] (rest := [.int ((v4 * 20) + v5), .ref 7]) mlRX6_49 okX6_walk (pc2 := 78) rfl dX6_shorten_75 rfl rfl (Nat.le_of_ble_eq_true rfl) (Nat.le_of_ble_eq_true rfl) (d' := 1) (by omega) q1 ⟨by decide, rfl⟩ (EW_mono (fun _ _ hr => ?_) (sX6_walk v4 v5  x _ _ 0 0 (Nat.le_refl _) h))
    obtain ⟨r5, rfl, rfl, h⟩ := hr
    refine EW_iload (pc2 := 80) rfl dX6_shorten_78 6 rfl ?_
    refine EW_iload (pc2 := 82) rfl dX6_shorten_80 7 rfl ?_
    refine AW_mmin mmRX6_53 (pc2 := 85) rfl dX6_shorten_82 (Nat.le_of_ble_eq_true rfl) (by omega) ?_
    refine AW_mmin mmRX6_53 (pc2 := 88) rfl dX6_shorten_85 (Nat.le_of_ble_eq_true rfl) (by omega) ?_
    obtain ⟨b6, h⟩ := h
    refine AW_iast (pc2 := 89) rfl dX6_shorten_88 q7 b6 ?_
    refine EW_iinc (v5 + 1) (pc2 := 92) rfl dX6_shorten_89 5 rfl rfl (by decide) [1, 2, 3, 4, 5, 0, 6, 7] [(0, .ref 1), (1, .int v1), (2, .int v2), (3, .int v3), (4, .int v4), (5, .int (v5 + 1)), (6, .int ((r1 + v3) + r2)), (7, .int ((r3 + v3) + r4))] rfl ?_
    refine EW_goto (tgt := 13) dX6_shorten_92 (by decide) ?_
    refine EW_ls [0, 1, 2, 3, 4, 5] rfl ?_
    exact hL13 (v5 + 1) (wr x 7 (Int32.toNatClampNeg ((v4 * 20) + v5)) (imin r5 (imin ((r1 + v3) + r2) ((r3 + v3) + r4)))) h
set_option maxHeartbeats 4000000 in
set_option maxRecDepth 100000 in
theorem sX6_shorten_3 (v1 : Int32) (v2 : Int32) (v3 : Int32) (v4 : Int32)  (x : ab_X) (K : ab_X → Prop)  (d bc bs : Nat) (hdp : 2 ≤ d)  (h : Lp2 (lX6_shorten_3 v1 v2 v3 K ) v4 x) : EW MX6_shorten 3 [(0, .ref 1), (1, .int v1), (2, .int v2), (3, .int v3), (4, .int v4)] [] (aS x) d bc bs (liV K) := by
  refine Lp2.use (P := fun v4 x => EW MX6_shorten 3 [(0, .ref 1), (1, .int v1), (2, .int v2), (3, .int v3), (4, .int v4)] [] (aS x) d bc bs (liV K)) (fun L3 v4 x hL3 h => ?_) v4 x h
  unfold lX6_shorten_3 at h
  refine EW_iload (pc2 := 5) rfl dX6_shorten_3 4 rfl ?_
  refine EW_bipush (pc2 := 7) (v := 20) rfl dX6_shorten_5 (by decide) ?_
  refine EW_icmp_ge (tgt := 101) (pc2 := 10) rfl dX6_shorten_7 (by decide) (fun q => ?_) (fun q => ?_)
  · replace h := h.1 q
    exact EW_vret rfl dX6_shorten_101 ⟨_, rfl, rfl, h⟩
  · replace h := h.2 q
    refine EW_iconst (pc2 := 11) (v := 0) rfl dX6_shorten_10 (by decide) ?_
    refine EW_istore (pc2 := 13) rfl dX6_shorten_11 (by decide) [1, 2, 3, 4, 5, 0] [(0, .ref 1), (1, .int v1), (2, .int v2), (3, .int v3), (4, .int v4), (5, .int 0)] rfl ?_
    exact sX6_shorten_13 v1 v2 v3 v4 0 x K L3 d bc bs hdp hL3 h
set_option maxHeartbeats 4000000 in
set_option maxRecDepth 100000 in
theorem sX6_shorten (v1 : Int32) (v2 : Int32) (v3 : Int32)  (x : ab_X) (K : ab_X → Prop) (d bc bs : Nat) (hdp : 2 ≤ d) (h : wX6_shorten v1 v2 v3 x K) : EW MX6_shorten 0 [(0, .ref 1), (1, .int v1), (2, .int v2), (3, .int v3)] [] (aS x) d bc bs (liV K) := by
  unfold wX6_shorten at h
  refine EW_iconst (pc2 := 1) (v := 0) rfl dX6_shorten_0 (by decide) ?_
  refine EW_istore (pc2 := 3) rfl dX6_shorten_1 (by decide) [1, 2, 3, 4, 0] [(0, .ref 1), (1, .int v1), (2, .int v2), (3, .int v3), (4, .int 0)] rfl ?_
  exact sX6_shorten_3 v1 v2 v3 0 x K d bc bs hdp h
theorem mlRX6_45 : Cond.methodLink RX6 45 yX6_shorten ∈ ab_G ∧ Cond.instanceMethod yX6_shorten ∈ ab_G ∧ Cond.selects RX6 yX6_shorten yX6_shorten ∈ ab_G := ⟨ab_in 777 (by decide +kernel) (by decide +kernel), ab_in 778 (by decide +kernel) (by decide +kernel), ab_in 779 (by decide +kernel) (by decide +kernel)⟩
abbrev MX6_add : ab_M := (yX6_add, cX6_add, 4, (some .int))
theorem dX6_add_0 : decode cX6_add 0 = .ok (.aload_n 0, 1) := by decide +kernel
theorem dX6_add_1 : decode cX6_add 1 = .ok (.getfield 41, 3) := by decide +kernel
theorem dX6_add_4 : decode cX6_add 4 = .ok (.bipush 40, 2) := by decide +kernel
theorem dX6_add_6 : decode cX6_add 6 = .ok (.if_icmp .lt 5, 3) := by decide +kernel
theorem dX6_add_9 : decode cX6_add 9 = .ok (.iconst (-1), 1) := by decide +kernel
theorem dX6_add_10 : decode cX6_add 10 = .ok (.ireturn, 1) := by decide +kernel
theorem dX6_add_11 : decode cX6_add 11 = .ok (.aload_n 0, 1) := by decide +kernel
theorem dX6_add_12 : decode cX6_add 12 = .ok (.getfield 9, 3) := by decide +kernel
theorem dX6_add_15 : decode cX6_add 15 = .ok (.aload_n 0, 1) := by decide +kernel
theorem dX6_add_16 : decode cX6_add 16 = .ok (.getfield 41, 3) := by decide +kernel
theorem dX6_add_19 : decode cX6_add 19 = .ok (.iload_n 1, 1) := by decide +kernel
theorem dX6_add_20 : decode cX6_add 20 = .ok (.iastore, 1) := by decide +kernel
theorem dX6_add_21 : decode cX6_add 21 = .ok (.aload_n 0, 1) := by decide +kernel
theorem dX6_add_22 : decode cX6_add 22 = .ok (.getfield 15, 3) := by decide +kernel
theorem dX6_add_25 : decode cX6_add 25 = .ok (.aload_n 0, 1) := by decide +kernel
theorem dX6_add_26 : decode cX6_add 26 = .ok (.getfield 41, 3) := by decide +kernel
theorem dX6_add_29 : decode cX6_add 29 = .ok (.iload_n 2, 1) := by decide +kernel
theorem dX6_add_30 : decode cX6_add 30 = .ok (.iastore, 1) := by decide +kernel
theorem dX6_add_31 : decode cX6_add 31 = .ok (.aload_n 0, 1) := by decide +kernel
theorem dX6_add_32 : decode cX6_add 32 = .ok (.getfield 18, 3) := by decide +kernel
theorem dX6_add_35 : decode cX6_add 35 = .ok (.aload_n 0, 1) := by decide +kernel
theorem dX6_add_36 : decode cX6_add 36 = .ok (.getfield 41, 3) := by decide +kernel
theorem dX6_add_39 : decode cX6_add 39 = .ok (.iload_n 3, 1) := by decide +kernel
theorem dX6_add_40 : decode cX6_add 40 = .ok (.iastore, 1) := by decide +kernel
theorem dX6_add_41 : decode cX6_add 41 = .ok (.aload_n 0, 1) := by decide +kernel
theorem dX6_add_42 : decode cX6_add 42 = .ok (.dup, 1) := by decide +kernel
theorem dX6_add_43 : decode cX6_add 43 = .ok (.getfield 41, 3) := by decide +kernel
theorem dX6_add_46 : decode cX6_add 46 = .ok (.iconst 1, 1) := by decide +kernel
theorem dX6_add_47 : decode cX6_add 47 = .ok (.iadd, 1) := by decide +kernel
theorem dX6_add_48 : decode cX6_add 48 = .ok (.putfield 41, 3) := by decide +kernel
theorem dX6_add_51 : decode cX6_add 51 = .ok (.aload_n 0, 1) := by decide +kernel
theorem dX6_add_52 : decode cX6_add 52 = .ok (.iload_n 1, 1) := by decide +kernel
theorem dX6_add_53 : decode cX6_add 53 = .ok (.iload_n 2, 1) := by decide +kernel
theorem dX6_add_54 : decode cX6_add 54 = .ok (.iload_n 3, 1) := by decide +kernel
theorem dX6_add_55 : decode cX6_add 55 = .ok (.invokevirtual 45, 3) := by decide +kernel
theorem dX6_add_58 : decode cX6_add 58 = .ok (.aload_n 0, 1) := by decide +kernel
theorem dX6_add_59 : decode cX6_add 59 = .ok (.getfield 41, 3) := by decide +kernel
theorem dX6_add_62 : decode cX6_add 62 = .ok (.iconst 1, 1) := by decide +kernel
theorem dX6_add_63 : decode cX6_add 63 = .ok (.isub, 1) := by decide +kernel
theorem dX6_add_64 : decode cX6_add 64 = .ok (.ireturn, 1) := by decide +kernel
theorem okX6_add : ab_okM MX6_add 3 := ⟨by decide, ⟨by decide, by decide⟩, ab_in 776 (by decide +kernel) (by decide +kernel), ab_in 87 (by decide +kernel) (by decide +kernel), by decide +kernel, by decide⟩
set_option maxHeartbeats 4000000 in
set_option maxRecDepth 100000 in
theorem sX6_add (v1 : Int32) (v2 : Int32) (v3 : Int32)  (x : ab_X) (K : Int32 → ab_X → Prop) (d bc bs : Nat) (hdp : 3 ≤ d) (h : wX6_add v1 v2 v3 x K) : EW MX6_add 0 [(0, .ref 1), (1, .int v1), (2, .int v2), (3, .int v3)] [] (aS x) d bc bs (liI K) := by
  unfold wX6_add at h
  refine EW_aload_n (pc2 := 1) rfl dX6_add_0 0 rfl ?_
  refine AW_geti ⟨gfRX6_41, rfl⟩ (pc2 := 4) rfl dX6_add_1 q1 ?_
  refine EW_bipush (pc2 := 6) (v := 40) rfl dX6_add_4 (by decide) ?_
  refine EW_icmp_lt (tgt := 11) (pc2 := 9) rfl dX6_add_6 (by decide) (fun q => ?_) (fun q => ?_)
  · replace h := h.1 q
    refine EW_aload_n (pc2 := 12) rfl dX6_add_11 0 rfl ?_
    refine AW_getr (r := 2) ⟨gfRX6_9, rfl⟩ (pc2 := 15) rfl dX6_add_12 q1 rfl ?_
    refine EW_aload_n (pc2 := 16) rfl dX6_add_15 0 rfl ?_
    refine AW_geti ⟨gfRX6_41, rfl⟩ (pc2 := 19) rfl dX6_add_16 q1 ?_
    refine EW_iload_n (pc2 := 20) rfl dX6_add_19 1 rfl ?_
    obtain ⟨b1, h⟩ := h
    refine AW_iast (pc2 := 21) rfl dX6_add_20 q2 b1 ?_
    refine EW_aload_n (pc2 := 22) rfl dX6_add_21 0 rfl ?_
    refine AW_getr (r := 3) ⟨gfRX6_15, rfl⟩ (pc2 := 25) rfl dX6_add_22 q1 rfl ?_
    refine EW_aload_n (pc2 := 26) rfl dX6_add_25 0 rfl ?_
    refine AW_geti ⟨gfRX6_41, rfl⟩ (pc2 := 29) rfl dX6_add_26 q1 ?_
    refine EW_iload_n (pc2 := 30) rfl dX6_add_29 2 rfl ?_
    obtain ⟨b2, h⟩ := h
    refine AW_iast (pc2 := 31) rfl dX6_add_30 q3 b2 ?_
    refine EW_aload_n (pc2 := 32) rfl dX6_add_31 0 rfl ?_
    refine AW_getr (r := 4) ⟨gfRX6_18, rfl⟩ (pc2 := 35) rfl dX6_add_32 q1 rfl ?_
    refine EW_aload_n (pc2 := 36) rfl dX6_add_35 0 rfl ?_
    refine AW_geti ⟨gfRX6_41, rfl⟩ (pc2 := 39) rfl dX6_add_36 q1 ?_
    refine EW_iload_n (pc2 := 40) rfl dX6_add_39 3 rfl ?_
    obtain ⟨b3, h⟩ := h
    refine AW_iast (pc2 := 41) rfl dX6_add_40 q4 b3 ?_
    refine EW_aload_n (pc2 := 42) rfl dX6_add_41 0 rfl ?_
    refine EW_dup (pc2 := 43) rfl dX6_add_42 rfl ?_
    refine AW_geti ⟨gfRX6_41, rfl⟩ (pc2 := 46) rfl dX6_add_43 q1 ?_
    refine EW_iconst (pc2 := 47) (v := 1) rfl dX6_add_46 (by decide) ?_
    refine EW_iadd (pc2 := 48) rfl dX6_add_47 ?_
    refine AW_puti ⟨gfRX6_41, rfl, rfl⟩ (pc2 := 51) rfl dX6_add_48 q1 ?_
    refine EW_aload_n (pc2 := 52) rfl dX6_add_51 0 rfl ?_
    refine EW_iload_n (pc2 := 53) rfl dX6_add_52 1 rfl ?_
    refine EW_iload_n (pc2 := 54) rfl dX6_add_53 2 rfl ?_
    refine EW_iload_n (pc2 := 55) rfl dX6_add_54 3 rfl ?_
    refine AW_invV (M' := MX6_shorten) [.int v1, .int v2, .int v3] (rest := []) mlRX6_45 okX6_shorten (pc2 := 58) rfl dX6_add_55 rfl rfl (Nat.le_of_ble_eq_true rfl) (Nat.le_of_ble_eq_true rfl) (d' := 2) (by omega) q1 ⟨by decide, rfl⟩ (EW_mono (fun _ _ hr => ?_) (sX6_shorten v1 v2 v3  (wr (wr (wr (wr x 2 (Int32.toNatClampNeg (x.1 1 7)) v1) 3 (Int32.toNatClampNeg ((wr x 2 (Int32.toNatClampNeg (x.1 1 7)) v1).1 1 7)) v2) 4 (Int32.toNatClampNeg ((wr (wr x 2 (Int32.toNatClampNeg (x.1 1 7)) v1) 3 (Int32.toNatClampNeg ((wr x 2 (Int32.toNatClampNeg (x.1 1 7)) v1).1 1 7)) v2).1 1 7)) v3) 1 7 (((wr (wr (wr x 2 (Int32.toNatClampNeg (x.1 1 7)) v1) 3 (Int32.toNatClampNeg ((wr x 2 (Int32.toNatClampNeg (x.1 1 7)) v1).1 1 7)) v2) 4 (Int32.toNatClampNeg ((wr (wr x 2 (Int32.toNatClampNeg (x.1 1 7)) v1) 3 (Int32.toNatClampNeg ((wr x 2 (Int32.toNatClampNeg (x.1 1 7)) v1).1 1 7)) v2).1 1 7)) v3).1 1 7) + 1)) _ _ 0 0 (Nat.le_refl _) h))
    obtain ⟨x4, rfl, rfl, h⟩ := hr
    refine EW_aload_n (pc2 := 59) rfl dX6_add_58 0 rfl ?_
    refine AW_geti ⟨gfRX6_41, rfl⟩ (pc2 := 62) rfl dX6_add_59 q1 ?_
    refine EW_iconst (pc2 := 63) (v := 1) rfl dX6_add_62 (by decide) ?_
    refine EW_isub (pc2 := 64) rfl dX6_add_63 ?_
    exact AW_iret rfl dX6_add_64 ⟨_, _, rfl, rfl, h⟩
  · replace h := h.2 q
    refine EW_iconst (pc2 := 10) (v := (-1)) rfl dX6_add_9 (by decide) ?_
    exact AW_iret rfl dX6_add_10 ⟨_, _, rfl, rfl, h⟩
theorem mlRX11_78 : Cond.methodLink RX11 78 yX6_add ∈ ab_G ∧ Cond.instanceMethod yX6_add ∈ ab_G ∧ Cond.selects RX6 yX6_add yX6_add ∈ ab_G := ⟨ab_in 773 (by decide +kernel) (by decide +kernel), ab_in 774 (by decide +kernel) (by decide +kernel), ab_in 775 (by decide +kernel) (by decide +kernel)⟩
abbrev MX11_street : ab_M := (yX11_street, cX11_street, 4, (some .int))
theorem dX11_street_0 : decode cX11_street 0 = .ok (.iload_n 1, 1) := by decide +kernel
theorem dX11_street_1 : decode cX11_street 1 = .ok (.invokestatic 70, 3) := by decide +kernel
theorem dX11_street_4 : decode cX11_street 4 = .ok (.ifCond .eq 25, 3) := by decide +kernel
theorem dX11_street_7 : decode cX11_street 7 = .ok (.iload_n 2, 1) := by decide +kernel
theorem dX11_street_8 : decode cX11_street 8 = .ok (.invokestatic 70, 3) := by decide +kernel
theorem dX11_street_11 : decode cX11_street 11 = .ok (.ifCond .eq 18, 3) := by decide +kernel
theorem dX11_street_14 : decode cX11_street 14 = .ok (.iload_n 1, 1) := by decide +kernel
theorem dX11_street_15 : decode cX11_street 15 = .ok (.iload_n 2, 1) := by decide +kernel
theorem dX11_street_16 : decode cX11_street 16 = .ok (.if_icmp .eq 13, 3) := by decide +kernel
theorem dX11_street_19 : decode cX11_street 19 = .ok (.iload_n 3, 1) := by decide +kernel
theorem dX11_street_20 : decode cX11_street 20 = .ok (.iconst 1, 1) := by decide +kernel
theorem dX11_street_21 : decode cX11_street 21 = .ok (.bipush 20, 2) := by decide +kernel
theorem dX11_street_23 : decode cX11_street 23 = .ok (.invokestatic 74, 3) := by decide +kernel
theorem dX11_street_26 : decode cX11_street 26 = .ok (.ifCond .ne 5, 3) := by decide +kernel
theorem dX11_street_29 : decode cX11_street 29 = .ok (.iconst (-1), 1) := by decide +kernel
theorem dX11_street_30 : decode cX11_street 30 = .ok (.ireturn, 1) := by decide +kernel
theorem dX11_street_31 : decode cX11_street 31 = .ok (.aload_n 0, 1) := by decide +kernel
theorem dX11_street_32 : decode cX11_street 32 = .ok (.getfield 12, 3) := by decide +kernel
theorem dX11_street_35 : decode cX11_street 35 = .ok (.iload_n 1, 1) := by decide +kernel
theorem dX11_street_36 : decode cX11_street 36 = .ok (.iload_n 2, 1) := by decide +kernel
theorem dX11_street_37 : decode cX11_street 37 = .ok (.iload_n 3, 1) := by decide +kernel
theorem dX11_street_38 : decode cX11_street 38 = .ok (.invokevirtual 78, 3) := by decide +kernel
theorem dX11_street_41 : decode cX11_street 41 = .ok (.ireturn, 1) := by decide +kernel
theorem okX11_street : ab_okM MX11_street 3 := ⟨by decide, ⟨by decide, by decide⟩, ab_in 766 (by decide +kernel) (by decide +kernel), ab_in 86 (by decide +kernel) (by decide +kernel), by decide +kernel, by decide⟩
set_option maxHeartbeats 4000000 in
set_option maxRecDepth 100000 in
theorem sX11_street (v1 : Int32) (v2 : Int32) (v3 : Int32)  (x : ab_X) (K : Int32 → ab_X → Prop) (d bc bs : Nat) (hdp : 4 ≤ d) (h : wX11_street v1 v2 v3 x K) : EW MX11_street 0 [(0, .ref 0), (1, .int v1), (2, .int v2), (3, .int v3)] [] (aS x) d bc bs (liI K) := by
  unfold wX11_street at h
  refine EW_iload_n (pc2 := 1) rfl dX11_street_0 1 rfl ?_
  refine AW_invS (M' := MX11_isCorner) [.int v1] (rest := []) mlRX11_70 okX11_isCorner (pc2 := 4) rfl dX11_street_1 rfl rfl (Nat.le_of_ble_eq_true rfl) (Nat.le_of_ble_eq_true rfl) (d' := 0) (by omega) (EW_mono (fun _ _ hr => ?_) (sX11_isCorner v1  x _ _ 0 0 (Nat.le_refl _) h))
  obtain ⟨r1, rfl, rfl, h⟩ := hr
  refine EW_if_eq (tgt := 29) (pc2 := 7) rfl dX11_street_4 (by decide) (fun q => ?_) (fun q => ?_)
  · replace h := h.1 q
    refine EW_iconst (pc2 := 30) (v := (-1)) rfl dX11_street_29 (by decide) ?_
    exact AW_iret rfl dX11_street_30 ⟨_, _, rfl, rfl, h⟩
  · replace h := h.2 q
    refine EW_iload_n (pc2 := 8) rfl dX11_street_7 2 rfl ?_
    refine AW_invS (M' := MX11_isCorner) [.int v2] (rest := []) mlRX11_70 okX11_isCorner (pc2 := 11) rfl dX11_street_8 rfl rfl (Nat.le_of_ble_eq_true rfl) (Nat.le_of_ble_eq_true rfl) (d' := 0) (by omega) (EW_mono (fun _ _ hr => ?_) (sX11_isCorner v2  x _ _ 0 0 (Nat.le_refl _) h))
    obtain ⟨r2, rfl, rfl, h⟩ := hr
    refine EW_if_eq (tgt := 29) (pc2 := 14) rfl dX11_street_11 (by decide) (fun q => ?_) (fun q => ?_)
    · replace h := h.1 q
      refine EW_iconst (pc2 := 30) (v := (-1)) rfl dX11_street_29 (by decide) ?_
      exact AW_iret rfl dX11_street_30 ⟨_, _, rfl, rfl, h⟩
    · replace h := h.2 q
      refine EW_iload_n (pc2 := 15) rfl dX11_street_14 1 rfl ?_
      refine EW_iload_n (pc2 := 16) rfl dX11_street_15 2 rfl ?_
      refine EW_icmp_eq (tgt := 29) (pc2 := 19) rfl dX11_street_16 (by decide) (fun q => ?_) (fun q => ?_)
      · replace h := h.1 q
        refine EW_iconst (pc2 := 30) (v := (-1)) rfl dX11_street_29 (by decide) ?_
        exact AW_iret rfl dX11_street_30 ⟨_, _, rfl, rfl, h⟩
      · replace h := h.2 q
        refine EW_iload_n (pc2 := 20) rfl dX11_street_19 3 rfl ?_
        refine EW_iconst (pc2 := 21) (v := 1) rfl dX11_street_20 (by decide) ?_
        refine EW_bipush (pc2 := 23) (v := 20) rfl dX11_street_21 (by decide) ?_
        refine AW_invS (M' := MX11_within) [.int v3, .int 1, .int 20] (rest := []) mlRX11_74 okX11_within (pc2 := 26) rfl dX11_street_23 rfl rfl (Nat.le_of_ble_eq_true rfl) (Nat.le_of_ble_eq_true rfl) (d' := 0) (by omega) (EW_mono (fun _ _ hr => ?_) (sX11_within v3 1 20  x _ _ 0 0 (Nat.le_refl _) h))
        obtain ⟨r3, rfl, rfl, h⟩ := hr
        refine EW_if_ne (tgt := 31) (pc2 := 29) rfl dX11_street_26 (by decide) (fun q => ?_) (fun q => ?_)
        · replace h := h.1 q
          refine EW_aload_n (pc2 := 32) rfl dX11_street_31 0 rfl ?_
          refine AW_getr (r := 1) ⟨gfRX11_12, rfl⟩ (pc2 := 35) rfl dX11_street_32 q0 rfl ?_
          refine EW_iload_n (pc2 := 36) rfl dX11_street_35 1 rfl ?_
          refine EW_iload_n (pc2 := 37) rfl dX11_street_36 2 rfl ?_
          refine EW_iload_n (pc2 := 38) rfl dX11_street_37 3 rfl ?_
          refine AW_invV (M' := MX6_add) [.int v1, .int v2, .int v3] (rest := []) mlRX11_78 okX6_add (pc2 := 41) rfl dX11_street_38 rfl rfl (Nat.le_of_ble_eq_true rfl) (Nat.le_of_ble_eq_true rfl) (d' := 3) (by omega) q1 ⟨by decide, rfl⟩ (EW_mono (fun _ _ hr => ?_) (sX6_add v1 v2 v3  x _ _ 0 0 (Nat.le_refl _) h))
          obtain ⟨r4, x5, rfl, rfl, h⟩ := hr
          exact AW_iret rfl dX11_street_41 ⟨_, _, rfl, rfl, h⟩
        · replace h := h.2 q
          refine EW_iconst (pc2 := 30) (v := (-1)) rfl dX11_street_29 (by decide) ?_
          exact AW_iret rfl dX11_street_30 ⟨_, _, rfl, rfl, h⟩
