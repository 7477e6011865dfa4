theorem gfRX12_110 : ab_L RX12 110 12 37 := ⟨by decide, by decide, ab_in 1886 (by decide +kernel) (by decide +kernel)⟩
abbrev MX12_emptyHome : ab_M := (yX12_emptyHome, cX12_emptyHome, 5, (some .int))
theorem dX12_emptyHome_0 : decode cX12_emptyHome 0 = .ok (.iconst 0, 1) := by decide +kernel
theorem dX12_emptyHome_1 : decode cX12_emptyHome 1 = .ok (.istore_n 1, 1) := by decide +kernel
theorem dX12_emptyHome_2 : decode cX12_emptyHome 2 = .ok (.iload_n 1, 1) := by decide +kernel
theorem dX12_emptyHome_3 : decode cX12_emptyHome 3 = .ok (.bipush 20, 2) := by decide +kernel
theorem dX12_emptyHome_5 : decode cX12_emptyHome 5 = .ok (.if_icmp .ge 104, 3) := by decide +kernel
theorem dX12_emptyHome_8 : decode cX12_emptyHome 8 = .ok (.iconst 0, 1) := by decide +kernel
theorem dX12_emptyHome_9 : decode cX12_emptyHome 9 = .ok (.istore_n 2, 1) := by decide +kernel
theorem dX12_emptyHome_10 : decode cX12_emptyHome 10 = .ok (.iconst 0, 1) := by decide +kernel
theorem dX12_emptyHome_11 : decode cX12_emptyHome 11 = .ok (.istore_n 3, 1) := by decide +kernel
theorem dX12_emptyHome_12 : decode cX12_emptyHome 12 = .ok (.iconst 0, 1) := by decide +kernel
theorem dX12_emptyHome_13 : decode cX12_emptyHome 13 = .ok (.istore 4, 2) := by decide +kernel
theorem dX12_emptyHome_15 : decode cX12_emptyHome 15 = .ok (.iload 4, 2) := by decide +kernel
theorem dX12_emptyHome_17 : decode cX12_emptyHome 17 = .ok (.aload_n 0, 1) := by decide +kernel
theorem dX12_emptyHome_18 : decode cX12_emptyHome 18 = .ok (.getfield 366, 3) := by decide +kernel
theorem dX12_emptyHome_21 : decode cX12_emptyHome 21 = .ok (.if_icmp .ge 72, 3) := by decide +kernel
theorem dX12_emptyHome_24 : decode cX12_emptyHome 24 = .ok (.iload_n 2, 1) := by decide +kernel
theorem dX12_emptyHome_25 : decode cX12_emptyHome 25 = .ok (.ifCond .ne 14, 3) := by decide +kernel
theorem dX12_emptyHome_28 : decode cX12_emptyHome 28 = .ok (.aload_n 0, 1) := by decide +kernel
theorem dX12_emptyHome_29 : decode cX12_emptyHome 29 = .ok (.getfield 110, 3) := by decide +kernel
theorem dX12_emptyHome_32 : decode cX12_emptyHome 32 = .ok (.iload 4, 2) := by decide +kernel
theorem dX12_emptyHome_34 : decode cX12_emptyHome 34 = .ok (.iaload, 1) := by decide +kernel
theorem dX12_emptyHome_35 : decode cX12_emptyHome 35 = .ok (.iload_n 1, 1) := by decide +kernel
theorem dX12_emptyHome_36 : decode cX12_emptyHome 36 = .ok (.if_icmp .ne 7, 3) := by decide +kernel
theorem dX12_emptyHome_39 : decode cX12_emptyHome 39 = .ok (.iconst 1, 1) := by decide +kernel
theorem dX12_emptyHome_40 : decode cX12_emptyHome 40 = .ok (.goto 4, 3) := by decide +kernel
theorem dX12_emptyHome_43 : decode cX12_emptyHome 43 = .ok (.iconst 0, 1) := by decide +kernel
theorem dX12_emptyHome_44 : decode cX12_emptyHome 44 = .ok (.istore_n 2, 1) := by decide +kernel
theorem dX12_emptyHome_45 : decode cX12_emptyHome 45 = .ok (.iload_n 3, 1) := by decide +kernel
theorem dX12_emptyHome_46 : decode cX12_emptyHome 46 = .ok (.ifCond .ne 35, 3) := by decide +kernel
theorem dX12_emptyHome_49 : decode cX12_emptyHome 49 = .ok (.aload_n 0, 1) := by decide +kernel
theorem dX12_emptyHome_50 : decode cX12_emptyHome 50 = .ok (.getfield 128, 3) := by decide +kernel
theorem dX12_emptyHome_53 : decode cX12_emptyHome 53 = .ok (.iload 4, 2) := by decide +kernel
theorem dX12_emptyHome_55 : decode cX12_emptyHome 55 = .ok (.iaload, 1) := by decide +kernel
theorem dX12_emptyHome_56 : decode cX12_emptyHome 56 = .ok (.ifCond .eq 14, 3) := by decide +kernel
theorem dX12_emptyHome_59 : decode cX12_emptyHome 59 = .ok (.aload_n 0, 1) := by decide +kernel
theorem dX12_emptyHome_60 : decode cX12_emptyHome 60 = .ok (.getfield 128, 3) := by decide +kernel
theorem dX12_emptyHome_63 : decode cX12_emptyHome 63 = .ok (.iload 4, 2) := by decide +kernel
theorem dX12_emptyHome_65 : decode cX12_emptyHome 65 = .ok (.iaload, 1) := by decide +kernel
theorem dX12_emptyHome_66 : decode cX12_emptyHome 66 = .ok (.iconst 3, 1) := by decide +kernel
theorem dX12_emptyHome_67 : decode cX12_emptyHome 67 = .ok (.if_icmp .ne 18, 3) := by decide +kernel
theorem dX12_emptyHome_70 : decode cX12_emptyHome 70 = .ok (.aload_n 0, 1) := by decide +kernel
theorem dX12_emptyHome_71 : decode cX12_emptyHome 71 = .ok (.getfield 131, 3) := by decide +kernel
theorem dX12_emptyHome_74 : decode cX12_emptyHome 74 = .ok (.iload 4, 2) := by decide +kernel
theorem dX12_emptyHome_76 : decode cX12_emptyHome 76 = .ok (.iaload, 1) := by decide +kernel
theorem dX12_emptyHome_77 : decode cX12_emptyHome 77 = .ok (.iload_n 1, 1) := by decide +kernel
theorem dX12_emptyHome_78 : decode cX12_emptyHome 78 = .ok (.if_icmp .ne 7, 3) := by decide +kernel
theorem dX12_emptyHome_81 : decode cX12_emptyHome 81 = .ok (.iconst 1, 1) := by decide +kernel
theorem dX12_emptyHome_82 : decode cX12_emptyHome 82 = .ok (.goto 4, 3) := by decide +kernel
theorem dX12_emptyHome_85 : decode cX12_emptyHome 85 = .ok (.iconst 0, 1) := by decide +kernel
theorem dX12_emptyHome_86 : decode cX12_emptyHome 86 = .ok (.istore_n 3, 1) := by decide +kernel
theorem dX12_emptyHome_87 : decode cX12_emptyHome 87 = .ok (.iinc 4 1, 3) := by decide +kernel
theorem dX12_emptyHome_90 : decode cX12_emptyHome 90 = .ok (.goto (-75), 3) := by decide +kernel
theorem dX12_emptyHome_93 : decode cX12_emptyHome 93 = .ok (.iload_n 2, 1) := by decide +kernel
theorem dX12_emptyHome_94 : decode cX12_emptyHome 94 = .ok (.ifCond .eq 9, 3) := by decide +kernel
theorem dX12_emptyHome_97 : decode cX12_emptyHome 97 = .ok (.iload_n 3, 1) := by decide +kernel
theorem dX12_emptyHome_98 : decode cX12_emptyHome 98 = .ok (.ifCond .ne 5, 3) := by decide +kernel
theorem dX12_emptyHome_101 : decode cX12_emptyHome 101 = .ok (.iload_n 1, 1) := by decide +kernel
theorem dX12_emptyHome_102 : decode cX12_emptyHome 102 = .ok (.ireturn, 1) := by decide +kernel
theorem dX12_emptyHome_103 : decode cX12_emptyHome 103 = .ok (.iinc 1 1, 3) := by decide +kernel
theorem dX12_emptyHome_106 : decode cX12_emptyHome 106 = .ok (.goto (-104), 3) := by decide +kernel
theorem dX12_emptyHome_109 : decode cX12_emptyHome 109 = .ok (.iconst (-1), 1) := by decide +kernel
theorem dX12_emptyHome_110 : decode cX12_emptyHome 110 = .ok (.ireturn, 1) := by decide +kernel
theorem okX12_emptyHome : ab_okM MX12_emptyHome 0 := ⟨by decide, ⟨by decide, by decide⟩, ab_in 2534 (by decide +kernel) (by decide +kernel), ab_in 99 (by decide +kernel) (by decide +kernel), by decide +kernel, by decide⟩
set_option maxHeartbeats 4000000 in
set_option maxRecDepth 100000 in
theorem sX12_emptyHome_81 (v1 : Int32) (v2 : Int32) (v4 : Int32)  (x : ab_X) (K : Int32 → Prop) (L2 : Int32 → Prop) (L15 : Int32 → Int32 → Int32 → Prop) (d bc bs : Nat) (hdp : 0 ≤ d) (hL2 : ∀ (v1 : Int32), L2 v1 → EW MX12_emptyHome 2 [(0, .ref 246), (1, .int v1)] [] (aS x) d bc bs (liP x K)) (hL15 : ∀ (v2 : Int32) (v3 : Int32) (v4 : Int32), L15 v2 v3 v4 → EW MX12_emptyHome 15 [(0, .ref 246), (1, .int v1), (2, .int v2), (3, .int v3), (4, .int v4)] [] (aS x) d bc bs (liP x K)) (h : wX12_emptyHome_81 v1 v2 v4 x K L2 L15) : EW MX12_emptyHome 81 [(0, .ref 246), (1, .int v1), (2, .int v2), (4, .int v4)] [] (aS x) d bc bs (liP x K) := by
  unfold wX12_emptyHome_81 at h
  refine EW_iconst (pc2 := 82) (v := 1) rfl dX12_emptyHome_81 (by decide) ?_
  refine EW_goto (tgt := 86) dX12_emptyHome_82 (by decide) ?_
  refine EW_istore_n (pc2 := 87) rfl dX12_emptyHome_86 (by decide) [1, 2, 3, 0, 4] [(0, .ref 246), (1, .int v1), (2, .int v2), (3, .int 1), (4, .int v4)] rfl ?_
  refine EW_iinc (v4 + 1) (pc2 := 90) rfl dX12_emptyHome_87 4 rfl rfl (by decide) [1, 2, 3, 4, 0] [(0, .ref 246), (1, .int v1), (2, .int v2), (3, .int 1), (4, .int (v4 + 1))] rfl ?_
  refine EW_goto (tgt := 15) dX12_emptyHome_90 (by decide) ?_
  exact hL15 v2 1 (v4 + 1) h
set_option maxHeartbeats 4000000 in
set_option maxRecDepth 100000 in
theorem sX12_emptyHome_85 (v1 : Int32) (v2 : Int32) (v4 : Int32)  (x : ab_X) (K : Int32 → Prop) (L2 : Int32 → Prop) (L15 : Int32 → Int32 → Int32 → Prop) (d bc bs : Nat) (hdp : 0 ≤ d) (hL2 : ∀ (v1 : Int32), L2 v1 → EW MX12_emptyHome 2 [(0, .ref 246), (1, .int v1)] [] (aS x) d bc bs (liP x K)) (hL15 : ∀ (v2 : Int32) (v3 : Int32) (v4 : Int32), L15 v2 v3 v4 → EW MX12_emptyHome 15 [(0, .ref 246), (1, .int v1), (2, .int v2), (3, .int v3), (4, .int v4)] [] (aS x) d bc bs (liP x K)) (h : wX12_emptyHome_85 v1 v2 v4 x K L2 L15) : EW MX12_emptyHome 85 [(0, .ref 246), (1, .int v1), (2, .int v2), (4, .int v4)] [] (aS x) d bc bs (liP x K) := by
  unfold wX12_emptyHome_85 at h
  refine EW_iconst (pc2 := 86) (v := 0) rfl dX12_emptyHome_85 (by decide) ?_
  refine EW_istore_n (pc2 := 87) rfl dX12_emptyHome_86 (by decide) [1, 2, 3, 0, 4] [(0, .ref 246), (1, .int v1), (2, .int v2), (3, .int 0), (4, .int v4)] rfl ?_
  refine EW_iinc (v4 + 1) (pc2 := 90) rfl dX12_emptyHome_87 4 rfl rfl (by decide) [1, 2, 3, 4, 0] [(0, .ref 246), (1, .int v1), (2, .int v2), (3, .int 0), (4, .int (v4 + 1))] rfl ?_
  refine EW_goto (tgt := 15) dX12_emptyHome_90 (by decide) ?_
  exact hL15 v2 0 (v4 + 1) h
set_option maxHeartbeats 4000000 in
set_option maxRecDepth 100000 in
theorem sX12_emptyHome_70 (v1 : Int32) (v2 : Int32) (v4 : Int32)  (x : ab_X) (K : Int32 → Prop) (L2 : Int32 → Prop) (L15 : Int32 → Int32 → Int32 → Prop) (d bc bs : Nat) (hdp : 0 ≤ d) (hL2 : ∀ (v1 : Int32), L2 v1 → EW MX12_emptyHome 2 [(0, .ref 246), (1, .int v1)] [] (aS x) d bc bs (liP x K)) (hL15 : ∀ (v2 : Int32) (v3 : Int32) (v4 : Int32), L15 v2 v3 v4 → EW MX12_emptyHome 15 [(0, .ref 246), (1, .int v1), (2, .int v2), (3, .int v3), (4, .int v4)] [] (aS x) d bc bs (liP x K)) (h : wX12_emptyHome_70 v1 v2 v4 x K L2 L15) : EW MX12_emptyHome 70 [(0, .ref 246), (1, .int v1), (2, .int v2), (4, .int v4)] [] (aS x) d bc bs (liP x K) := by
  unfold wX12_emptyHome_70 at h
  refine EW_aload_n (pc2 := 71) rfl dX12_emptyHome_70 0 rfl ?_
  refine AW_getr (r := 287) ⟨gfRX12_131, rfl⟩ (pc2 := 74) rfl dX12_emptyHome_71 q246 rfl ?_
  refine EW_iload (pc2 := 76) rfl dX12_emptyHome_74 3 rfl ?_
  obtain ⟨b4, h⟩ := h
  refine AW_iald (pc2 := 77) rfl dX12_emptyHome_76 q287 b4 ?_
  refine EW_iload_n (pc2 := 78) rfl dX12_emptyHome_77 1 rfl ?_
  refine EW_icmp_ne (tgt := 85) (pc2 := 81) rfl dX12_emptyHome_78 (by decide) (fun q => ?_) (fun q => ?_)
  · replace h := h.1 q
    exact sX12_emptyHome_85 v1 v2 v4 x K L2 L15 d bc bs hdp hL2 hL15 h
  · replace h := h.2 q
    exact sX12_emptyHome_81 v1 v2 v4 x K L2 L15 d bc bs hdp hL2 hL15 h
set_option maxHeartbeats 4000000 in
set_option maxRecDepth 100000 in
theorem sX12_emptyHome_44 (v1 : Int32) (v3 : Int32) (v4 : Int32) (s0 : Int32)  (x : ab_X) (K : Int32 → Prop) (L2 : Int32 → Prop) (L15 : Int32 → Int32 → Int32 → Prop) (d bc bs : Nat) (hdp : 0 ≤ d) (hL2 : ∀ (v1 : Int32), L2 v1 → EW MX12_emptyHome 2 [(0, .ref 246), (1, .int v1)] [] (aS x) d bc bs (liP x K)) (hL15 : ∀ (v2 : Int32) (v3 : Int32) (v4 : Int32), L15 v2 v3 v4 → EW MX12_emptyHome 15 [(0, .ref 246), (1, .int v1), (2, .int v2), (3, .int v3), (4, .int v4)] [] (aS x) d bc bs (liP x K)) (h : wX12_emptyHome_44 v1 v3 v4 s0 x K L2 L15) : EW MX12_emptyHome 44 [(0, .ref 246), (1, .int v1), (3, .int v3), (4, .int v4)] [.int s0] (aS x) d bc bs (liP x K) := by
  unfold wX12_emptyHome_44 at h
  refine EW_istore_n (pc2 := 45) rfl dX12_emptyHome_44 (by decide) [1, 2, 0, 3, 4] [(0, .ref 246), (1, .int v1), (2, .int s0), (3, .int v3), (4, .int v4)] rfl ?_
  refine EW_iload_n (pc2 := 46) rfl dX12_emptyHome_45 3 rfl ?_
  refine EW_if_ne (tgt := 81) (pc2 := 49) rfl dX12_emptyHome_46 (by decide) (fun q => ?_) (fun q => ?_)
  · replace h := h.1 q
    refine EW_ls [0, 1, 2, 4] rfl ?_
    exact sX12_emptyHome_81 v1 s0 v4 x K L2 L15 d bc bs hdp hL2 hL15 h
  · replace h := h.2 q
    refine EW_aload_n (pc2 := 50) rfl dX12_emptyHome_49 0 rfl ?_
    refine AW_getr (r := 286) ⟨gfRX12_128, rfl⟩ (pc2 := 53) rfl dX12_emptyHome_50 q246 rfl ?_
    refine EW_iload (pc2 := 55) rfl dX12_emptyHome_53 4 rfl ?_
    obtain ⟨b2, h⟩ := h
    refine AW_iald (pc2 := 56) rfl dX12_emptyHome_55 q286 b2 ?_
    refine EW_if_eq (tgt := 70) (pc2 := 59) rfl dX12_emptyHome_56 (by decide) (fun q => ?_) (fun q => ?_)
    · replace h := h.1 q
      refine EW_ls [0, 1, 2, 4] rfl ?_
      exact sX12_emptyHome_70 v1 s0 v4 x K L2 L15 d bc bs hdp hL2 hL15 h
    · replace h := h.2 q
      refine EW_aload_n (pc2 := 60) rfl dX12_emptyHome_59 0 rfl ?_
      refine AW_getr (r := 286) ⟨gfRX12_128, rfl⟩ (pc2 := 63) rfl dX12_emptyHome_60 q246 rfl ?_
      refine EW_iload (pc2 := 65) rfl dX12_emptyHome_63 4 rfl ?_
      obtain ⟨b3, h⟩ := h
      refine AW_iald (pc2 := 66) rfl dX12_emptyHome_65 q286 b3 ?_
      refine EW_iconst (pc2 := 67) (v := 3) rfl dX12_emptyHome_66 (by decide) ?_
      refine EW_icmp_ne (tgt := 85) (pc2 := 70) rfl dX12_emptyHome_67 (by decide) (fun q => ?_) (fun q => ?_)
      · replace h := h.1 q
        refine EW_ls [0, 1, 2, 4] rfl ?_
        exact sX12_emptyHome_85 v1 s0 v4 x K L2 L15 d bc bs hdp hL2 hL15 h
      · replace h := h.2 q
        refine EW_ls [0, 1, 2, 4] rfl ?_
        exact sX12_emptyHome_70 v1 s0 v4 x K L2 L15 d bc bs hdp hL2 hL15 h
set_option maxHeartbeats 4000000 in
set_option maxRecDepth 100000 in
theorem sX12_emptyHome_39 (v1 : Int32) (v3 : Int32) (v4 : Int32)  (x : ab_X) (K : Int32 → Prop) (L2 : Int32 → Prop) (L15 : Int32 → Int32 → Int32 → Prop) (d bc bs : Nat) (hdp : 0 ≤ d) (hL2 : ∀ (v1 : Int32), L2 v1 → EW MX12_emptyHome 2 [(0, .ref 246), (1, .int v1)] [] (aS x) d bc bs (liP x K)) (hL15 : ∀ (v2 : Int32) (v3 : Int32) (v4 : Int32), L15 v2 v3 v4 → EW MX12_emptyHome 15 [(0, .ref 246), (1, .int v1), (2, .int v2), (3, .int v3), (4, .int v4)] [] (aS x) d bc bs (liP x K)) (h : wX12_emptyHome_39 v1 v3 v4 x K L2 L15) : EW MX12_emptyHome 39 [(0, .ref 246), (1, .int v1), (3, .int v3), (4, .int v4)] [] (aS x) d bc bs (liP x K) := by
  unfold wX12_emptyHome_39 at h
  refine EW_iconst (pc2 := 40) (v := 1) rfl dX12_emptyHome_39 (by decide) ?_
  refine EW_goto (tgt := 44) dX12_emptyHome_40 (by decide) ?_
  exact sX12_emptyHome_44 v1 v3 v4 1 x K L2 L15 d bc bs hdp hL2 hL15 h
set_option maxHeartbeats 4000000 in
set_option maxRecDepth 100000 in
theorem sX12_emptyHome_15 (v1 : Int32) (v2 : Int32) (v3 : Int32) (v4 : Int32)  (x : ab_X) (K : Int32 → Prop) (L2 : Int32 → Prop) (d bc bs : Nat) (hdp : 0 ≤ d) (hL2 : ∀ (v1 : Int32), L2 v1 → EW MX12_emptyHome 2 [(0, .ref 246), (1, .int v1)] [] (aS x) d bc bs (liP x K)) (h : Lp3 (lX12_emptyHome_15 v1 x K L2) v2 v3 v4) : EW MX12_emptyHome 15 [(0, .ref 246), (1, .int v1), (2, .int v2), (3, .int v3), (4, .int v4)] [] (aS x) d bc bs (liP x K) := by
  refine Lp3.use (P := fun v2 v3 v4 => EW MX12_emptyHome 15 [(0, .ref 246), (1, .int v1), (2, .int v2), (3, .int v3), (4, .int v4)] [] (aS x) d bc bs (liP x K)) (fun L15 v2 v3 v4 hL15 h => ?_) v2 v3 v4 h
  unfold lX12_emptyHome_15 at h
  refine EW_iload (pc2 := 17) rfl dX12_emptyHome_15 4 rfl ?_
  refine EW_aload_n (pc2 := 18) rfl dX12_emptyHome_17 0 rfl ?_
  refine AW_geti ⟨gfRX12_366, rfl⟩ (pc2 := 21) rfl dX12_emptyHome_18 q246 ?_
  refine EW_icmp_ge (tgt := 93) (pc2 := 24) rfl dX12_emptyHome_21 (by decide) (fun q => ?_) (fun q => ?_)
  · replace h := h.1 q
    refine EW_iload_n (pc2 := 94) rfl dX12_emptyHome_93 2 rfl ?_
    refine EW_if_eq (tgt := 103) (pc2 := 97) rfl dX12_emptyHome_94 (by decide) (fun q => ?_) (fun q => ?_)
    · replace h := h.1 q
      refine EW_iinc (v1 + 1) (pc2 := 106) rfl dX12_emptyHome_103 1 rfl rfl (by decide) [1, 0, 2, 3, 4] [(0, .ref 246), (1, .int (v1 + 1)), (2, .int v2), (3, .int v3), (4, .int v4)] rfl ?_
      refine EW_goto (tgt := 2) dX12_emptyHome_106 (by decide) ?_
      refine EW_ls [0, 1] rfl ?_
      exact hL2 (v1 + 1) h
    · replace h := h.2 q
      refine EW_iload_n (pc2 := 98) rfl dX12_emptyHome_97 3 rfl ?_
      refine EW_if_ne (tgt := 103) (pc2 := 101) rfl dX12_emptyHome_98 (by decide) (fun q => ?_) (fun q => ?_)
      · replace h := h.1 q
        refine EW_iinc (v1 + 1) (pc2 := 106) rfl dX12_emptyHome_103 1 rfl rfl (by decide) [1, 0, 2, 3, 4] [(0, .ref 246), (1, .int (v1 + 1)), (2, .int v2), (3, .int v3), (4, .int v4)] rfl ?_
        refine EW_goto (tgt := 2) dX12_emptyHome_106 (by decide) ?_
        refine EW_ls [0, 1] rfl ?_
        exact hL2 (v1 + 1) h
      · replace h := h.2 q
        refine EW_iload_n (pc2 := 102) rfl dX12_emptyHome_101 1 rfl ?_
        exact AW_iret rfl dX12_emptyHome_102 ⟨_, rfl, rfl, h⟩
  · replace h := h.2 q
    refine EW_iload_n (pc2 := 25) rfl dX12_emptyHome_24 2 rfl ?_
    refine EW_if_ne (tgt := 39) (pc2 := 28) rfl dX12_emptyHome_25 (by decide) (fun q => ?_) (fun q => ?_)
    · replace h := h.1 q
      refine EW_ls [0, 1, 3, 4] rfl ?_
      exact sX12_emptyHome_39 v1 v3 v4 x K L2 L15 d bc bs hdp hL2 hL15 h
    · replace h := h.2 q
      refine EW_aload_n (pc2 := 29) rfl dX12_emptyHome_28 0 rfl ?_
      refine AW_getr (r := 280) ⟨gfRX12_110, rfl⟩ (pc2 := 32) rfl dX12_emptyHome_29 q246 rfl ?_
      refine EW_iload (pc2 := 34) rfl dX12_emptyHome_32 4 rfl ?_
      obtain ⟨b1, h⟩ := h
      refine AW_iald (pc2 := 35) rfl dX12_emptyHome_34 q280 b1 ?_
      refine EW_iload_n (pc2 := 36) rfl dX12_emptyHome_35 1 rfl ?_
      refine EW_icmp_ne (tgt := 43) (pc2 := 39) rfl dX12_emptyHome_36 (by decide) (fun q => ?_) (fun q => ?_)
      · replace h := h.1 q
        refine EW_iconst (pc2 := 44) (v := 0) rfl dX12_emptyHome_43 (by decide) ?_
        refine EW_ls [0, 1, 3, 4] rfl ?_
        exact sX12_emptyHome_44 v1 v3 v4 0 x K L2 L15 d bc bs hdp hL2 hL15 h
      · replace h := h.2 q
        refine EW_ls [0, 1, 3, 4] rfl ?_
        exact sX12_emptyHome_39 v1 v3 v4 x K L2 L15 d bc bs hdp hL2 hL15 h
set_option maxHeartbeats 4000000 in
set_option maxRecDepth 100000 in
theorem sX12_emptyHome_2 (v1 : Int32)  (x : ab_X) (K : Int32 → Prop)  (d bc bs : Nat) (hdp : 0 ≤ d)  (h : Lp1 (lX12_emptyHome_2  x K ) v1) : EW MX12_emptyHome 2 [(0, .ref 246), (1, .int v1)] [] (aS x) d bc bs (liP x K) := by
  refine Lp1.use (P := fun v1 => EW MX12_emptyHome 2 [(0, .ref 246), (1, .int v1)] [] (aS x) d bc bs (liP x K)) (fun L2 v1 hL2 h => ?_) v1 h
  unfold lX12_emptyHome_2 at h
  refine EW_iload_n (pc2 := 3) rfl dX12_emptyHome_2 1 rfl ?_
  refine EW_bipush (pc2 := 5) (v := 20) rfl dX12_emptyHome_3 (by decide) ?_
  refine EW_icmp_ge (tgt := 109) (pc2 := 8) rfl dX12_emptyHome_5 (by decide) (fun q => ?_) (fun q => ?_)
  · replace h := h.1 q
    refine EW_iconst (pc2 := 110) (v := (-1)) rfl dX12_emptyHome_109 (by decide) ?_
    exact AW_iret rfl dX12_emptyHome_110 ⟨_, rfl, rfl, h⟩
  · replace h := h.2 q
    refine EW_iconst (pc2 := 9) (v := 0) rfl dX12_emptyHome_8 (by decide) ?_
    refine EW_istore_n (pc2 := 10) rfl dX12_emptyHome_9 (by decide) [1, 2, 0] [(0, .ref 246), (1, .int v1), (2, .int 0)] rfl ?_
    refine EW_iconst (pc2 := 11) (v := 0) rfl dX12_emptyHome_10 (by decide) ?_
    refine EW_istore_n (pc2 := 12) rfl dX12_emptyHome_11 (by decide) [1, 2, 3, 0] [(0, .ref 246), (1, .int v1), (2, .int 0), (3, .int 0)] rfl ?_
    refine EW_iconst (pc2 := 13) (v := 0) rfl dX12_emptyHome_12 (by decide) ?_
    refine EW_istore (pc2 := 15) rfl dX12_emptyHome_13 (by decide) [1, 2, 3, 4, 0] [(0, .ref 246), (1, .int v1), (2, .int 0), (3, .int 0), (4, .int 0)] rfl ?_
    exact sX12_emptyHome_15 v1 0 0 0 x K L2 d bc bs hdp hL2 h
set_option maxHeartbeats 4000000 in
set_option maxRecDepth 100000 in
theorem sX12_emptyHome   (x : ab_X) (K : Int32 → Prop) (d bc bs : Nat) (hdp : 0 ≤ d) (h : wX12_emptyHome  x K) : EW MX12_emptyHome 0 [(0, .ref 246)] [] (aS x) d bc bs (liP x K) := by
  unfold wX12_emptyHome at h
  refine EW_iconst (pc2 := 1) (v := 0) rfl dX12_emptyHome_0 (by decide) ?_
  refine EW_istore_n (pc2 := 2) rfl dX12_emptyHome_1 (by decide) [1, 0] [(0, .ref 246), (1, .int 0)] rfl ?_
  exact sX12_emptyHome_2 0 x K d bc bs hdp h
theorem gfRX12_29 : ab_L RX12 29 12 8 := ⟨by decide, by decide, ab_in 1857 (by decide +kernel) (by decide +kernel)⟩
theorem gfRX12_9 : ab_L RX12 9 12 2 := ⟨by decide, by decide, ab_in 1851 (by decide +kernel) (by decide +kernel)⟩
theorem gfRX12_16 : ab_L RX12 16 12 4 := ⟨by decide, by decide, ab_in 1853 (by decide +kernel) (by decide +kernel)⟩
theorem gfRX12_19 : ab_L RX12 19 12 5 := ⟨by decide, by decide, ab_in 1854 (by decide +kernel) (by decide +kernel)⟩
theorem gfRX12_13 : ab_L RX12 13 12 3 := ⟨by decide, by decide, ab_in 1852 (by decide +kernel) (by decide +kernel)⟩
theorem gfRX12_300 : ab_L RX12 300 12 9 := ⟨by decide, by decide, ab_in 1858 (by decide +kernel) (by decide +kernel)⟩
theorem gfRX12_25 : ab_L RX12 25 12 7 := ⟨by decide, by decide, ab_in 1856 (by decide +kernel) (by decide +kernel)⟩
abbrev MX12_comeBy : ab_M := (yX12_comeBy, cX12_comeBy, 11, (some .int))
theorem dX12_comeBy_0 : decode cX12_comeBy 0 = .ok (.iconst 0, 1) := by decide +kernel
theorem dX12_comeBy_1 : decode cX12_comeBy 1 = .ok (.istore 5, 2) := by decide +kernel
theorem dX12_comeBy_3 : decode cX12_comeBy 3 = .ok (.iload 5, 2) := by decide +kernel
theorem dX12_comeBy_5 : decode cX12_comeBy 5 = .ok (.sipush 12020, 3) := by decide +kernel
theorem dX12_comeBy_8 : decode cX12_comeBy 8 = .ok (.if_icmp .ge 17, 3) := by decide +kernel
theorem dX12_comeBy_11 : decode cX12_comeBy 11 = .ok (.aload_n 0, 1) := by decide +kernel
theorem dX12_comeBy_12 : decode cX12_comeBy 12 = .ok (.getfield 29, 3) := by decide +kernel
theorem dX12_comeBy_15 : decode cX12_comeBy 15 = .ok (.iload 5, 2) := by decide +kernel
theorem dX12_comeBy_17 : decode cX12_comeBy 17 = .ok (.iconst 0, 1) := by decide +kernel
theorem dX12_comeBy_18 : decode cX12_comeBy 18 = .ok (.bastore, 1) := by decide +kernel
theorem dX12_comeBy_19 : decode cX12_comeBy 19 = .ok (.iinc 5 1, 3) := by decide +kernel
theorem dX12_comeBy_22 : decode cX12_comeBy 22 = .ok (.goto (-19), 3) := by decide +kernel
theorem dX12_comeBy_25 : decode cX12_comeBy 25 = .ok (.aload_n 0, 1) := by decide +kernel
theorem dX12_comeBy_26 : decode cX12_comeBy 26 = .ok (.getfield 29, 3) := by decide +kernel
theorem dX12_comeBy_29 : decode cX12_comeBy 29 = .ok (.iload_n 1, 1) := by decide +kernel
theorem dX12_comeBy_30 : decode cX12_comeBy 30 = .ok (.iconst 1, 1) := by decide +kernel
theorem dX12_comeBy_31 : decode cX12_comeBy 31 = .ok (.bastore, 1) := by decide +kernel
theorem dX12_comeBy_32 : decode cX12_comeBy 32 = .ok (.iconst 0, 1) := by decide +kernel
theorem dX12_comeBy_33 : decode cX12_comeBy 33 = .ok (.istore 5, 2) := by decide +kernel
theorem dX12_comeBy_35 : decode cX12_comeBy 35 = .ok (.iload 5, 2) := by decide +kernel
theorem dX12_comeBy_37 : decode cX12_comeBy 37 = .ok (.sipush 600, 3) := by decide +kernel
theorem dX12_comeBy_40 : decode cX12_comeBy 40 = .ok (.if_icmp .gt 214, 3) := by decide +kernel
theorem dX12_comeBy_43 : decode cX12_comeBy 43 = .ok (.aload_n 0, 1) := by decide +kernel
theorem dX12_comeBy_44 : decode cX12_comeBy 44 = .ok (.getfield 29, 3) := by decide +kernel
theorem dX12_comeBy_47 : decode cX12_comeBy 47 = .ok (.bipush 20, 2) := by decide +kernel
theorem dX12_comeBy_49 : decode cX12_comeBy 49 = .ok (.iload 5, 2) := by decide +kernel
theorem dX12_comeBy_51 : decode cX12_comeBy 51 = .ok (.imul, 1) := by decide +kernel
theorem dX12_comeBy_52 : decode cX12_comeBy 52 = .ok (.iload_n 2, 1) := by decide +kernel
theorem dX12_comeBy_53 : decode cX12_comeBy 53 = .ok (.iadd, 1) := by decide +kernel
theorem dX12_comeBy_54 : decode cX12_comeBy 54 = .ok (.baload, 1) := by decide +kernel
theorem dX12_comeBy_55 : decode cX12_comeBy 55 = .ok (.ifCond .eq 8, 3) := by decide +kernel
theorem dX12_comeBy_58 : decode cX12_comeBy 58 = .ok (.iload_n 3, 1) := by decide +kernel
theorem dX12_comeBy_59 : decode cX12_comeBy 59 = .ok (.iload 5, 2) := by decide +kernel
theorem dX12_comeBy_61 : decode cX12_comeBy 61 = .ok (.iadd, 1) := by decide +kernel
theorem dX12_comeBy_62 : decode cX12_comeBy 62 = .ok (.ireturn, 1) := by decide +kernel
theorem dX12_comeBy_63 : decode cX12_comeBy 63 = .ok (.iload_n 3, 1) := by decide +kernel
theorem dX12_comeBy_64 : decode cX12_comeBy 64 = .ok (.iload 5, 2) := by decide +kernel
theorem dX12_comeBy_66 : decode cX12_comeBy 66 = .ok (.iadd, 1) := by decide +kernel
theorem dX12_comeBy_67 : decode cX12_comeBy 67 = .ok (.invokestatic 320, 3) := by decide +kernel
theorem dX12_comeBy_70 : decode cX12_comeBy 70 = .ok (.istore 6, 2) := by decide +kernel
theorem dX12_comeBy_72 : decode cX12_comeBy 72 = .ok (.iconst 0, 1) := by decide +kernel
theorem dX12_comeBy_73 : decode cX12_comeBy 73 = .ok (.istore 7, 2) := by decide +kernel
theorem dX12_comeBy_75 : decode cX12_comeBy 75 = .ok (.iload 7, 2) := by decide +kernel
theorem dX12_comeBy_77 : decode cX12_comeBy 77 = .ok (.aload_n 0, 1) := by decide +kernel
theorem dX12_comeBy_78 : decode cX12_comeBy 78 = .ok (.getfield 300, 3) := by decide +kernel
theorem dX12_comeBy_81 : decode cX12_comeBy 81 = .ok (.if_icmp .ge 167, 3) := by decide +kernel
theorem dX12_comeBy_84 : decode cX12_comeBy 84 = .ok (.aload_n 0, 1) := by decide +kernel
theorem dX12_comeBy_85 : decode cX12_comeBy 85 = .ok (.getfield 29, 3) := by decide +kernel
theorem dX12_comeBy_88 : decode cX12_comeBy 88 = .ok (.bipush 20, 2) := by decide +kernel
theorem dX12_comeBy_90 : decode cX12_comeBy 90 = .ok (.iload 5, 2) := by decide +kernel
theorem dX12_comeBy_92 : decode cX12_comeBy 92 = .ok (.imul, 1) := by decide +kernel
theorem dX12_comeBy_93 : decode cX12_comeBy 93 = .ok (.aload_n 0, 1) := by decide +kernel
theorem dX12_comeBy_94 : decode cX12_comeBy 94 = .ok (.getfield 9, 3) := by decide +kernel
theorem dX12_comeBy_97 : decode cX12_comeBy 97 = .ok (.iload 7, 2) := by decide +kernel
theorem dX12_comeBy_99 : decode cX12_comeBy 99 = .ok (.iaload, 1) := by decide +kernel
theorem dX12_comeBy_100 : decode cX12_comeBy 100 = .ok (.iadd, 1) := by decide +kernel
theorem dX12_comeBy_101 : decode cX12_comeBy 101 = .ok (.baload, 1) := by decide +kernel
theorem dX12_comeBy_102 : decode cX12_comeBy 102 = .ok (.istore 8, 2) := by decide +kernel
theorem dX12_comeBy_104 : decode cX12_comeBy 104 = .ok (.aload_n 0, 1) := by decide +kernel
theorem dX12_comeBy_105 : decode cX12_comeBy 105 = .ok (.getfield 29, 3) := by decide +kernel
theorem dX12_comeBy_108 : decode cX12_comeBy 108 = .ok (.bipush 20, 2) := by decide +kernel
theorem dX12_comeBy_110 : decode cX12_comeBy 110 = .ok (.iload 5, 2) := by decide +kernel
theorem dX12_comeBy_112 : decode cX12_comeBy 112 = .ok (.imul, 1) := by decide +kernel
theorem dX12_comeBy_113 : decode cX12_comeBy 113 = .ok (.aload_n 0, 1) := by decide +kernel
theorem dX12_comeBy_114 : decode cX12_comeBy 114 = .ok (.getfield 13, 3) := by decide +kernel
theorem dX12_comeBy_117 : decode cX12_comeBy 117 = .ok (.iload 7, 2) := by decide +kernel
theorem dX12_comeBy_119 : decode cX12_comeBy 119 = .ok (.iaload, 1) := by decide +kernel
theorem dX12_comeBy_120 : decode cX12_comeBy 120 = .ok (.iadd, 1) := by decide +kernel
theorem dX12_comeBy_121 : decode cX12_comeBy 121 = .ok (.baload, 1) := by decide +kernel
theorem dX12_comeBy_122 : decode cX12_comeBy 122 = .ok (.istore 9, 2) := by decide +kernel
theorem dX12_comeBy_124 : decode cX12_comeBy 124 = .ok (.aload_n 0, 1) := by decide +kernel
theorem dX12_comeBy_125 : decode cX12_comeBy 125 = .ok (.getfield 25, 3) := by decide +kernel
theorem dX12_comeBy_128 : decode cX12_comeBy 128 = .ok (.iload 7, 2) := by decide +kernel
theorem dX12_comeBy_130 : decode cX12_comeBy 130 = .ok (.baload, 1) := by decide +kernel
theorem dX12_comeBy_131 : decode cX12_comeBy 131 = .ok (.ifCond .ne 111, 3) := by decide +kernel
theorem dX12_comeBy_134 : decode cX12_comeBy 134 = .ok (.iload 8, 2) := by decide +kernel
theorem dX12_comeBy_136 : decode cX12_comeBy 136 = .ok (.ifCond .ne 11, 3) := by decide +kernel
theorem dX12_comeBy_139 : decode cX12_comeBy 139 = .ok (.iload 9, 2) := by decide +kernel
theorem dX12_comeBy_141 : decode cX12_comeBy 141 = .ok (.ifCond .ne 6, 3) := by decide +kernel
theorem dX12_comeBy_144 : decode cX12_comeBy 144 = .ok (.goto 98, 3) := by decide +kernel
theorem dX12_comeBy_147 : decode cX12_comeBy 147 = .ok (.iload 5, 2) := by decide +kernel
theorem dX12_comeBy_149 : decode cX12_comeBy 149 = .ok (.aload_n 0, 1) := by decide +kernel
theorem dX12_comeBy_150 : decode cX12_comeBy 150 = .ok (.getfield 16, 3) := by decide +kernel
theorem dX12_comeBy_153 : decode cX12_comeBy 153 = .ok (.iload 7, 2) := by decide +kernel
theorem dX12_comeBy_155 : decode cX12_comeBy 155 = .ok (.iaload, 1) := by decide +kernel
theorem dX12_comeBy_156 : decode cX12_comeBy 156 = .ok (.aload_n 0, 1) := by decide +kernel
theorem dX12_comeBy_157 : decode cX12_comeBy 157 = .ok (.getfield 19, 3) := by decide +kernel
theorem dX12_comeBy_160 : decode cX12_comeBy 160 = .ok (.iconst 4, 1) := by decide +kernel
theorem dX12_comeBy_161 : decode cX12_comeBy 161 = .ok (.iload 7, 2) := by decide +kernel
theorem dX12_comeBy_163 : decode cX12_comeBy 163 = .ok (.imul, 1) := by decide +kernel
theorem dX12_comeBy_164 : decode cX12_comeBy 164 = .ok (.iload 6, 2) := by decide +kernel
theorem dX12_comeBy_166 : decode cX12_comeBy 166 = .ok (.iadd, 1) := by decide +kernel
theorem dX12_comeBy_167 : decode cX12_comeBy 167 = .ok (.iaload, 1) := by decide +kernel
theorem dX12_comeBy_168 : decode cX12_comeBy 168 = .ok (.imul, 1) := by decide +kernel
theorem dX12_comeBy_169 : decode cX12_comeBy 169 = .ok (.iload 4, 2) := by decide +kernel
theorem dX12_comeBy_171 : decode cX12_comeBy 171 = .ok (.imul, 1) := by decide +kernel
theorem dX12_comeBy_172 : decode cX12_comeBy 172 = .ok (.sipush 9999, 3) := by decide +kernel
theorem dX12_comeBy_175 : decode cX12_comeBy 175 = .ok (.iadd, 1) := by decide +kernel
theorem dX12_comeBy_176 : decode cX12_comeBy 176 = .ok (.sipush 10000, 3) := by decide +kernel
theorem dX12_comeBy_179 : decode cX12_comeBy 179 = .ok (.idiv, 1) := by decide +kernel
theorem dX12_comeBy_180 : decode cX12_comeBy 180 = .ok (.iadd, 1) := by decide +kernel
theorem dX12_comeBy_181 : decode cX12_comeBy 181 = .ok (.istore 10, 2) := by decide +kernel
theorem dX12_comeBy_183 : decode cX12_comeBy 183 = .ok (.iload 10, 2) := by decide +kernel
theorem dX12_comeBy_185 : decode cX12_comeBy 185 = .ok (.sipush 600, 3) := by decide +kernel
theorem dX12_comeBy_188 : decode cX12_comeBy 188 = .ok (.if_icmp .le 6, 3) := by decide +kernel
theorem dX12_comeBy_191 : decode cX12_comeBy 191 = .ok (.goto 51, 3) := by decide +kernel
theorem dX12_comeBy_194 : decode cX12_comeBy 194 = .ok (.iload 8, 2) := by decide +kernel
theorem dX12_comeBy_196 : decode cX12_comeBy 196 = .ok (.ifCond .eq 22, 3) := by decide +kernel
theorem dX12_comeBy_199 : decode cX12_comeBy 199 = .ok (.aload_n 0, 1) := by decide +kernel
theorem dX12_comeBy_200 : decode cX12_comeBy 200 = .ok (.getfield 29, 3) := by decide +kernel
theorem dX12_comeBy_203 : decode cX12_comeBy 203 = .ok (.bipush 20, 2) := by decide +kernel
theorem dX12_comeBy_205 : decode cX12_comeBy 205 = .ok (.iload 10, 2) := by decide +kernel
theorem dX12_comeBy_207 : decode cX12_comeBy 207 = .ok (.imul, 1) := by decide +kernel
theorem dX12_comeBy_208 : decode cX12_comeBy 208 = .ok (.aload_n 0, 1) := by decide +kernel
theorem dX12_comeBy_209 : decode cX12_comeBy 209 = .ok (.getfield 13, 3) := by decide +kernel
theorem dX12_comeBy_212 : decode cX12_comeBy 212 = .ok (.iload 7, 2) := by decide +kernel
theorem dX12_comeBy_214 : decode cX12_comeBy 214 = .ok (.iaload, 1) := by decide +kernel
theorem dX12_comeBy_215 : decode cX12_comeBy 215 = .ok (.iadd, 1) := by decide +kernel
theorem dX12_comeBy_216 : decode cX12_comeBy 216 = .ok (.iconst 1, 1) := by decide +kernel
theorem dX12_comeBy_217 : decode cX12_comeBy 217 = .ok (.bastore, 1) := by decide +kernel
theorem dX12_comeBy_218 : decode cX12_comeBy 218 = .ok (.iload 9, 2) := by decide +kernel
theorem dX12_comeBy_220 : decode cX12_comeBy 220 = .ok (.ifCond .eq 22, 3) := by decide +kernel
theorem dX12_comeBy_223 : decode cX12_comeBy 223 = .ok (.aload_n 0, 1) := by decide +kernel
theorem dX12_comeBy_224 : decode cX12_comeBy 224 = .ok (.getfield 29, 3) := by decide +kernel
theorem dX12_comeBy_227 : decode cX12_comeBy 227 = .ok (.bipush 20, 2) := by decide +kernel
theorem dX12_comeBy_229 : decode cX12_comeBy 229 = .ok (.iload 10, 2) := by decide +kernel
theorem dX12_comeBy_231 : decode cX12_comeBy 231 = .ok (.imul, 1) := by decide +kernel
theorem dX12_comeBy_232 : decode cX12_comeBy 232 = .ok (.aload_n 0, 1) := by decide +kernel
theorem dX12_comeBy_233 : decode cX12_comeBy 233 = .ok (.getfield 9, 3) := by decide +kernel
theorem dX12_comeBy_236 : decode cX12_comeBy 236 = .ok (.iload 7, 2) := by decide +kernel
theorem dX12_comeBy_238 : decode cX12_comeBy 238 = .ok (.iaload, 1) := by decide +kernel
theorem dX12_comeBy_239 : decode cX12_comeBy 239 = .ok (.iadd, 1) := by decide +kernel
theorem dX12_comeBy_240 : decode cX12_comeBy 240 = .ok (.iconst 1, 1) := by decide +kernel
theorem dX12_comeBy_241 : decode cX12_comeBy 241 = .ok (.bastore, 1) := by decide +kernel
theorem dX12_comeBy_242 : decode cX12_comeBy 242 = .ok (.iinc 7 1, 3) := by decide +kernel
theorem dX12_comeBy_245 : decode cX12_comeBy 245 = .ok (.goto (-170), 3) := by decide +kernel
theorem dX12_comeBy_248 : decode cX12_comeBy 248 = .ok (.iinc 5 1, 3) := by decide +kernel
theorem dX12_comeBy_251 : decode cX12_comeBy 251 = .ok (.goto (-216), 3) := by decide +kernel
theorem dX12_comeBy_254 : decode cX12_comeBy 254 = .ok (.iconst (-1), 1) := by decide +kernel
theorem dX12_comeBy_255 : decode cX12_comeBy 255 = .ok (.ireturn, 1) := by decide +kernel
theorem okX12_comeBy : ab_okM MX12_comeBy 4 := ⟨by decide, ⟨by decide, by decide⟩, ab_in 2248 (by decide +kernel) (by decide +kernel), ab_in 99 (by decide +kernel) (by decide +kernel), by decide +kernel, by decide⟩
set_option maxHeartbeats 4000000 in
set_option maxRecDepth 100000 in
theorem sX12_comeBy_218 (v2 : Int32) (v3 : Int32) (v4 : Int32) (v5 : Int32) (v6 : Int32) (v7 : Int32) (v9 : Int32) (v10 : Int32)  (x : ab_X) (K : Int32 → ab_X → Prop) (L35 : Int32 → ab_X → Prop) (L75 : Int32 → ab_X → Prop) (d bc bs : Nat) (hdp : 1 ≤ d) (hL35 : ∀ (v5 : Int32) (x : ab_X), L35 v5 x → EW MX12_comeBy 35 [(0, .ref 246), (2, .int v2), (3, .int v3), (4, .int v4), (5, .int v5)] [] (aS x) d bc bs (liI K)) (hL75 : ∀ (v7 : Int32) (x : ab_X), L75 v7 x → EW MX12_comeBy 75 [(0, .ref 246), (2, .int v2), (3, .int v3), (4, .int v4), (5, .int v5), (6, .int v6), (7, .int v7)] [] (aS x) d bc bs (liI K)) (h : wX12_comeBy_218 v2 v3 v4 v5 v6 v7 v9 v10 x K L35 L75) : EW MX12_comeBy 218 [(0, .ref 246), (2, .int v2), (3, .int v3), (4, .int v4), (5, .int v5), (6, .int v6), (7, .int v7), (9, .int v9), (10, .int v10)] [] (aS x) d bc bs (liI K) := by
  unfold wX12_comeBy_218 at h
  refine EW_iload (pc2 := 220) rfl dX12_comeBy_218 7 rfl ?_
  refine EW_if_eq (tgt := 242) (pc2 := 223) rfl dX12_comeBy_220 (by decide) (fun q => ?_) (fun q => ?_)
  · replace h := h.1 q
    refine EW_iinc (v7 + 1) (pc2 := 245) rfl dX12_comeBy_242 6 rfl rfl (by decide) [1, 2, 3, 4, 5, 6, 0, 7, 8] [(0, .ref 246), (2, .int v2), (3, .int v3), (4, .int v4), (5, .int v5), (6, .int v6), (7, .int (v7 + 1)), (9, .int v9), (10, .int v10)] rfl ?_
    refine EW_goto (tgt := 75) dX12_comeBy_245 (by decide) ?_
    refine EW_ls [0, 1, 2, 3, 4, 5, 6] rfl ?_
    exact hL75 (v7 + 1) x h
  · replace h := h.2 q
    refine EW_aload_n (pc2 := 224) rfl dX12_comeBy_223 0 rfl ?_
    refine AW_getr (r := 253) ⟨gfRX12_29, rfl⟩ (pc2 := 227) rfl dX12_comeBy_224 q246 rfl ?_
    refine EW_bipush (pc2 := 229) (v := 20) rfl dX12_comeBy_227 (by decide) ?_
    refine EW_iload (pc2 := 231) rfl dX12_comeBy_229 8 rfl ?_
    refine EW_imul (pc2 := 232) rfl dX12_comeBy_231 ?_
    refine EW_aload_n (pc2 := 233) rfl dX12_comeBy_232 0 rfl ?_
    refine AW_getr (r := 247) ⟨gfRX12_9, rfl⟩ (pc2 := 236) rfl dX12_comeBy_233 q246 rfl ?_
    refine EW_iload (pc2 := 238) rfl dX12_comeBy_236 6 rfl ?_
    obtain ⟨b14, h⟩ := h
    refine AW_iald (pc2 := 239) rfl dX12_comeBy_238 q247 b14 ?_
    refine EW_iadd (pc2 := 240) rfl dX12_comeBy_239 ?_
    refine EW_iconst (pc2 := 241) (v := 1) rfl dX12_comeBy_240 (by decide) ?_
    obtain ⟨b15, h⟩ := h
    refine AW_zast (pc2 := 242) rfl dX12_comeBy_241 q253 b15 isB1 ?_
    refine EW_iinc (v7 + 1) (pc2 := 245) rfl dX12_comeBy_242 6 rfl rfl (by decide) [1, 2, 3, 4, 5, 6, 0, 7, 8] [(0, .ref 246), (2, .int v2), (3, .int v3), (4, .int v4), (5, .int v5), (6, .int v6), (7, .int (v7 + 1)), (9, .int v9), (10, .int v10)] rfl ?_
    refine EW_goto (tgt := 75) dX12_comeBy_245 (by decide) ?_
    refine EW_ls [0, 1, 2, 3, 4, 5, 6] rfl ?_
    exact hL75 (v7 + 1) (wr x 253 (Int32.toNatClampNeg ((20 * v10) + (x.1 247 (Int32.toNatClampNeg v7)))) 1) h
set_option maxHeartbeats 4000000 in
set_option maxRecDepth 100000 in
theorem sX12_comeBy_147 (v2 : Int32) (v3 : Int32) (v4 : Int32) (v5 : Int32) (v6 : Int32) (v7 : Int32) (v8 : Int32) (v9 : Int32)  (x : ab_X) (K : Int32 → ab_X → Prop) (L35 : Int32 → ab_X → Prop) (L75 : Int32 → ab_X → Prop) (d bc bs : Nat) (hdp : 1 ≤ d) (hL35 : ∀ (v5 : Int32) (x : ab_X), L35 v5 x → EW MX12_comeBy 35 [(0, .ref 246), (2, .int v2), (3, .int v3), (4, .int v4), (5, .int v5)] [] (aS x) d bc bs (liI K)) (hL75 : ∀ (v7 : Int32) (x : ab_X), L75 v7 x → EW MX12_comeBy 75 [(0, .ref 246), (2, .int v2), (3, .int v3), (4, .int v4), (5, .int v5), (6, .int v6), (7, .int v7)] [] (aS x) d bc bs (liI K)) (h : wX12_comeBy_147 v2 v3 v4 v5 v6 v7 v8 v9 x K L35 L75) : EW MX12_comeBy 147 [(0, .ref 246), (2, .int v2), (3, .int v3), (4, .int v4), (5, .int v5), (6, .int v6), (7, .int v7), (8, .int v8), (9, .int v9)] [] (aS x) d bc bs (liI K) := by
  unfold wX12_comeBy_147 at h
  refine EW_iload (pc2 := 149) rfl dX12_comeBy_147 4 rfl ?_
  refine EW_aload_n (pc2 := 150) rfl dX12_comeBy_149 0 rfl ?_
  refine AW_getr (r := 249) ⟨gfRX12_16, rfl⟩ (pc2 := 153) rfl dX12_comeBy_150 q246 rfl ?_
  refine EW_iload (pc2 := 155) rfl dX12_comeBy_153 6 rfl ?_
  obtain ⟨b10, h⟩ := h
  refine AW_iald (pc2 := 156) rfl dX12_comeBy_155 q249 b10 ?_
  refine EW_aload_n (pc2 := 157) rfl dX12_comeBy_156 0 rfl ?_
  refine AW_getr (r := 250) ⟨gfRX12_19, rfl⟩ (pc2 := 160) rfl dX12_comeBy_157 q246 rfl ?_
  refine EW_iconst (pc2 := 161) (v := 4) rfl dX12_comeBy_160 (by decide) ?_
  refine EW_iload (pc2 := 163) rfl dX12_comeBy_161 6 rfl ?_
  refine EW_imul (pc2 := 164) rfl dX12_comeBy_163 ?_
  refine EW_iload (pc2 := 166) rfl dX12_comeBy_164 5 rfl ?_
  refine EW_iadd (pc2 := 167) rfl dX12_comeBy_166 ?_
  obtain ⟨b11, h⟩ := h
  refine AW_iald (pc2 := 168) rfl dX12_comeBy_167 q250 b11 ?_
  refine EW_imul (pc2 := 169) rfl dX12_comeBy_168 ?_
  refine EW_iload (pc2 := 171) rfl dX12_comeBy_169 3 rfl ?_
  refine EW_imul (pc2 := 172) rfl dX12_comeBy_171 ?_
  refine EW_sipush (pc2 := 175) (v := 9999) rfl dX12_comeBy_172 (by decide) ?_
  refine EW_iadd (pc2 := 176) rfl dX12_comeBy_175 ?_
  refine EW_sipush (pc2 := 179) (v := 10000) rfl dX12_comeBy_176 (by decide) ?_
  refine EW_idiv (pc2 := 180) rfl dX12_comeBy_179 (by decide) ?_
  refine EW_iadd (pc2 := 181) rfl dX12_comeBy_180 ?_
  refine EW_istore (pc2 := 183) rfl dX12_comeBy_181 (by decide) [1, 2, 3, 4, 5, 6, 7, 8, 9, 0] [(0, .ref 246), (2, .int v2), (3, .int v3), (4, .int v4), (5, .int v5), (6, .int v6), (7, .int v7), (8, .int v8), (9, .int v9), (10, .int (v5 + (((((x.1 249 (Int32.toNatClampNeg v7)) * (x.1 250 (Int32.toNatClampNeg ((4 * v7) + v6)))) * v4) + 9999) / 10000)))] rfl ?_
  refine EW_iload (pc2 := 185) rfl dX12_comeBy_183 9 rfl ?_
  refine EW_sipush (pc2 := 188) (v := 600) rfl dX12_comeBy_185 (by decide) ?_
  refine EW_icmp_le (tgt := 194) (pc2 := 191) rfl dX12_comeBy_188 (by decide) (fun q => ?_) (fun q => ?_)
  · replace h := h.1 q
    refine EW_iload (pc2 := 196) rfl dX12_comeBy_194 7 rfl ?_
    refine EW_if_eq (tgt := 218) (pc2 := 199) rfl dX12_comeBy_196 (by decide) (fun q => ?_) (fun q => ?_)
    · replace h := h.1 q
      refine EW_ls [0, 1, 2, 3, 4, 5, 6, 8, 9] rfl ?_
      exact sX12_comeBy_218 v2 v3 v4 v5 v6 v7 v9 (v5 + (((((x.1 249 (Int32.toNatClampNeg v7)) * (x.1 250 (Int32.toNatClampNeg ((4 * v7) + v6)))) * v4) + 9999) / 10000)) x K L35 L75 d bc bs hdp hL35 hL75 h
    · replace h := h.2 q
      refine EW_aload_n (pc2 := 200) rfl dX12_comeBy_199 0 rfl ?_
      refine AW_getr (r := 253) ⟨gfRX12_29, rfl⟩ (pc2 := 203) rfl dX12_comeBy_200 q246 rfl ?_
      refine EW_bipush (pc2 := 205) (v := 20) rfl dX12_comeBy_203 (by decide) ?_
      refine EW_iload (pc2 := 207) rfl dX12_comeBy_205 9 rfl ?_
      refine EW_imul (pc2 := 208) rfl dX12_comeBy_207 ?_
      refine EW_aload_n (pc2 := 209) rfl dX12_comeBy_208 0 rfl ?_
      refine AW_getr (r := 248) ⟨gfRX12_13, rfl⟩ (pc2 := 212) rfl dX12_comeBy_209 q246 rfl ?_
      refine EW_iload (pc2 := 214) rfl dX12_comeBy_212 6 rfl ?_
      obtain ⟨b12, h⟩ := h
      refine AW_iald (pc2 := 215) rfl dX12_comeBy_214 q248 b12 ?_
      refine EW_iadd (pc2 := 216) rfl dX12_comeBy_215 ?_
      refine EW_iconst (pc2 := 217) (v := 1) rfl dX12_comeBy_216 (by decide) ?_
      obtain ⟨b13, h⟩ := h
      refine AW_zast (pc2 := 218) rfl dX12_comeBy_217 q253 b13 isB1 ?_
      refine EW_ls [0, 1, 2, 3, 4, 5, 6, 8, 9] rfl ?_
      exact sX12_comeBy_218 v2 v3 v4 v5 v6 v7 v9 (v5 + (((((x.1 249 (Int32.toNatClampNeg v7)) * (x.1 250 (Int32.toNatClampNeg ((4 * v7) + v6)))) * v4) + 9999) / 10000)) (wr x 253 (Int32.toNatClampNeg ((20 * (v5 + (((((x.1 249 (Int32.toNatClampNeg v7)) * (x.1 250 (Int32.toNatClampNeg ((4 * v7) + v6)))) * v4) + 9999) / 10000))) + (x.1 248 (Int32.toNatClampNeg v7)))) 1) K L35 L75 d bc bs hdp hL35 hL75 h
  · replace h := h.2 q
    refine EW_goto (tgt := 242) dX12_comeBy_191 (by decide) ?_
    refine EW_iinc (v7 + 1) (pc2 := 245) rfl dX12_comeBy_242 6 rfl rfl (by decide) [1, 2, 3, 4, 5, 6, 0, 7, 8, 9] [(0, .ref 246), (2, .int v2), (3, .int v3), (4, .int v4), (5, .int v5), (6, .int v6), (7, .int (v7 + 1)), (8, .int v8), (9, .int v9), (10, .int (v5 + (((((x.1 249 (Int32.toNatClampNeg v7)) * (x.1 250 (Int32.toNatClampNeg ((4 * v7) + v6)))) * v4) + 9999) / 10000)))] rfl ?_
    refine EW_goto (tgt := 75) dX12_comeBy_245 (by decide) ?_
    refine EW_ls [0, 1, 2, 3, 4, 5, 6] rfl ?_
    exact hL75 (v7 + 1) x h
set_option maxHeartbeats 4000000 in
set_option maxRecDepth 100000 in
theorem sX12_comeBy_75 (v2 : Int32) (v3 : Int32) (v4 : Int32) (v5 : Int32) (v6 : Int32) (v7 : Int32)  (x : ab_X) (K : Int32 → ab_X → Prop) (L35 : Int32 → ab_X → Prop) (d bc bs : Nat) (hdp : 1 ≤ d) (hL35 : ∀ (v5 : Int32) (x : ab_X), L35 v5 x → EW MX12_comeBy 35 [(0, .ref 246), (2, .int v2), (3, .int v3), (4, .int v4), (5, .int v5)] [] (aS x) d bc bs (liI K)) (h : Lp2 (lX12_comeBy_75 v2 v3 v4 v5 v6 K L35) v7 x) : EW MX12_comeBy 75 [(0, .ref 246), (2, .int v2), (3, .int v3), (4, .int v4), (5, .int v5), (6, .int v6), (7, .int v7)] [] (aS x) d bc bs (liI K) := by
  refine Lp2.use (P := fun v7 x => EW MX12_comeBy 75 [(0, .ref 246), (2, .int v2), (3, .int v3), (4, .int v4), (5, .int v5), (6, .int v6), (7, .int v7)] [] (aS x) d bc bs (liI K)) (fun L75 v7 x hL75 h => ?_) v7 x h
  unfold lX12_comeBy_75 at h
  refine EW_iload (pc2 := 77) rfl dX12_comeBy_75 6 rfl ?_
  refine EW_aload_n (pc2 := 78) rfl dX12_comeBy_77 0 rfl ?_
  refine AW_geti ⟨gfRX12_300, rfl⟩ (pc2 := 81) rfl dX12_comeBy_78 q246 ?_
  refine EW_icmp_ge (tgt := 248) (pc2 := 84) rfl dX12_comeBy_81 (by decide) (fun q => ?_) (fun q => ?_)
  · replace h := h.1 q
    refine EW_iinc (v5 + 1) (pc2 := 251) rfl dX12_comeBy_248 4 rfl rfl (by decide) [1, 2, 3, 4, 0, 5, 6] [(0, .ref 246), (2, .int v2), (3, .int v3), (4, .int v4), (5, .int (v5 + 1)), (6, .int v6), (7, .int v7)] rfl ?_
    refine EW_goto (tgt := 35) dX12_comeBy_251 (by decide) ?_
    refine EW_ls [0, 1, 2, 3, 4] rfl ?_
    exact hL35 (v5 + 1) x h
  · replace h := h.2 q
    refine EW_aload_n (pc2 := 85) rfl dX12_comeBy_84 0 rfl ?_
    refine AW_getr (r := 253) ⟨gfRX12_29, rfl⟩ (pc2 := 88) rfl dX12_comeBy_85 q246 rfl ?_
    refine EW_bipush (pc2 := 90) (v := 20) rfl dX12_comeBy_88 (by decide) ?_
    refine EW_iload (pc2 := 92) rfl dX12_comeBy_90 4 rfl ?_
    refine EW_imul (pc2 := 93) rfl dX12_comeBy_92 ?_
    refine EW_aload_n (pc2 := 94) rfl dX12_comeBy_93 0 rfl ?_
    refine AW_getr (r := 247) ⟨gfRX12_9, rfl⟩ (pc2 := 97) rfl dX12_comeBy_94 q246 rfl ?_
    refine EW_iload (pc2 := 99) rfl dX12_comeBy_97 6 rfl ?_
    obtain ⟨b5, h⟩ := h
    refine AW_iald (pc2 := 100) rfl dX12_comeBy_99 q247 b5 ?_
    refine EW_iadd (pc2 := 101) rfl dX12_comeBy_100 ?_
    obtain ⟨b6, h⟩ := h
    refine AW_zald (pc2 := 102) rfl dX12_comeBy_101 q253 b6 ?_
    refine EW_istore (pc2 := 104) rfl dX12_comeBy_102 (by decide) [1, 2, 3, 4, 5, 6, 7, 0] [(0, .ref 246), (2, .int v2), (3, .int v3), (4, .int v4), (5, .int v5), (6, .int v6), (7, .int v7), (8, .int (x.1 253 (Int32.toNatClampNeg ((20 * v5) + (x.1 247 (Int32.toNatClampNeg v7))))))] rfl ?_
    refine EW_aload_n (pc2 := 105) rfl dX12_comeBy_104 0 rfl ?_
    refine AW_getr (r := 253) ⟨gfRX12_29, rfl⟩ (pc2 := 108) rfl dX12_comeBy_105 q246 rfl ?_
    refine EW_bipush (pc2 := 110) (v := 20) rfl dX12_comeBy_108 (by decide) ?_
    refine EW_iload (pc2 := 112) rfl dX12_comeBy_110 4 rfl ?_
    refine EW_imul (pc2 := 113) rfl dX12_comeBy_112 ?_
    refine EW_aload_n (pc2 := 114) rfl dX12_comeBy_113 0 rfl ?_
    refine AW_getr (r := 248) ⟨gfRX12_13, rfl⟩ (pc2 := 117) rfl dX12_comeBy_114 q246 rfl ?_
    refine EW_iload (pc2 := 119) rfl dX12_comeBy_117 6 rfl ?_
    obtain ⟨b7, h⟩ := h
    refine AW_iald (pc2 := 120) rfl dX12_comeBy_119 q248 b7 ?_
    refine EW_iadd (pc2 := 121) rfl dX12_comeBy_120 ?_
    obtain ⟨b8, h⟩ := h
    refine AW_zald (pc2 := 122) rfl dX12_comeBy_121 q253 b8 ?_
    refine EW_istore (pc2 := 124) rfl dX12_comeBy_122 (by decide) [1, 2, 3, 4, 5, 6, 7, 8, 0] [(0, .ref 246), (2, .int v2), (3, .int v3), (4, .int v4), (5, .int v5), (6, .int v6), (7, .int v7), (8, .int (x.1 253 (Int32.toNatClampNeg ((20 * v5) + (x.1 247 (Int32.toNatClampNeg v7)))))), (9, .int (x.1 253 (Int32.toNatClampNeg ((20 * v5) + (x.1 248 (Int32.toNatClampNeg v7))))))] rfl ?_
    refine EW_aload_n (pc2 := 125) rfl dX12_comeBy_124 0 rfl ?_
    refine AW_getr (r := 252) ⟨gfRX12_25, rfl⟩ (pc2 := 128) rfl dX12_comeBy_125 q246 rfl ?_
    refine EW_iload (pc2 := 130) rfl dX12_comeBy_128 6 rfl ?_
    obtain ⟨b9, h⟩ := h
    refine AW_zald (pc2 := 131) rfl dX12_comeBy_130 q252 b9 ?_
    refine EW_if_ne (tgt := 242) (pc2 := 134) rfl dX12_comeBy_131 (by decide) (fun q => ?_) (fun q => ?_)
    · replace h := h.1 q
      refine EW_iinc (v7 + 1) (pc2 := 245) rfl dX12_comeBy_242 6 rfl rfl (by decide) [1, 2, 3, 4, 5, 6, 0, 7, 8] [(0, .ref 246), (2, .int v2), (3, .int v3), (4, .int v4), (5, .int v5), (6, .int v6), (7, .int (v7 + 1)), (8, .int (x.1 253 (Int32.toNatClampNeg ((20 * v5) + (x.1 247 (Int32.toNatClampNeg v7)))))), (9, .int (x.1 253 (Int32.toNatClampNeg ((20 * v5) + (x.1 248 (Int32.toNatClampNeg v7))))))] rfl ?_
      refine EW_goto (tgt := 75) dX12_comeBy_245 (by decide) ?_
      refine EW_ls [0, 1, 2, 3, 4, 5, 6] rfl ?_
      exact hL75 (v7 + 1) x h
    · replace h := h.2 q
      refine EW_iload (pc2 := 136) rfl dX12_comeBy_134 7 rfl ?_
      refine EW_if_ne (tgt := 147) (pc2 := 139) rfl dX12_comeBy_136 (by decide) (fun q => ?_) (fun q => ?_)
      · replace h := h.1 q
        exact sX12_comeBy_147 v2 v3 v4 v5 v6 v7 (x.1 253 (Int32.toNatClampNeg ((20 * v5) + (x.1 247 (Int32.toNatClampNeg v7))))) (x.1 253 (Int32.toNatClampNeg ((20 * v5) + (x.1 248 (Int32.toNatClampNeg v7))))) x K L35 L75 d bc bs hdp hL35 hL75 h
      · replace h := h.2 q
        refine EW_iload (pc2 := 141) rfl dX12_comeBy_139 8 rfl ?_
        refine EW_if_ne (tgt := 147) (pc2 := 144) rfl dX12_comeBy_141 (by decide) (fun q => ?_) (fun q => ?_)
        · replace h := h.1 q
          exact sX12_comeBy_147 v2 v3 v4 v5 v6 v7 (x.1 253 (Int32.toNatClampNeg ((20 * v5) + (x.1 247 (Int32.toNatClampNeg v7))))) (x.1 253 (Int32.toNatClampNeg ((20 * v5) + (x.1 248 (Int32.toNatClampNeg v7))))) x K L35 L75 d bc bs hdp hL35 hL75 h
        · replace h := h.2 q
          refine EW_goto (tgt := 242) dX12_comeBy_144 (by decide) ?_
          refine EW_iinc (v7 + 1) (pc2 := 245) rfl dX12_comeBy_242 6 rfl rfl (by decide) [1, 2, 3, 4, 5, 6, 0, 7, 8] [(0, .ref 246), (2, .int v2), (3, .int v3), (4, .int v4), (5, .int v5), (6, .int v6), (7, .int (v7 + 1)), (8, .int (x.1 253 (Int32.toNatClampNeg ((20 * v5) + (x.1 247 (Int32.toNatClampNeg v7)))))), (9, .int (x.1 253 (Int32.toNatClampNeg ((20 * v5) + (x.1 248 (Int32.toNatClampNeg v7))))))] rfl ?_
          refine EW_goto (tgt := 75) dX12_comeBy_245 (by decide) ?_
          refine EW_ls [0, 1, 2, 3, 4, 5, 6] rfl ?_
          exact hL75 (v7 + 1) x h
set_option maxHeartbeats 4000000 in
set_option maxRecDepth 100000 in
theorem sX12_comeBy_35 (v2 : Int32) (v3 : Int32) (v4 : Int32) (v5 : Int32)  (x : ab_X) (K : Int32 → ab_X → Prop)  (d bc bs : Nat) (hdp : 1 ≤ d)  (h : Lp2 (lX12_comeBy_35 v2 v3 v4 K ) v5 x) : EW MX12_comeBy 35 [(0, .ref 246), (2, .int v2), (3, .int v3), (4, .int v4), (5, .int v5)] [] (aS x) d bc bs (liI K) := by
  refine Lp2.use (P := fun v5 x => EW MX12_comeBy 35 [(0, .ref 246), (2, .int v2), (3, .int v3), (4, .int v4), (5, .int v5)] [] (aS x) d bc bs (liI K)) (fun L35 v5 x hL35 h => ?_) v5 x h
  unfold lX12_comeBy_35 at h
  refine EW_iload (pc2 := 37) rfl dX12_comeBy_35 4 rfl ?_
  refine EW_sipush (pc2 := 40) (v := 600) rfl dX12_comeBy_37 (by decide) ?_
  refine EW_icmp_gt (tgt := 254) (pc2 := 43) rfl dX12_comeBy_40 (by decide) (fun q => ?_) (fun q => ?_)
  · replace h := h.1 q
    refine EW_iconst (pc2 := 255) (v := (-1)) rfl dX12_comeBy_254 (by decide) ?_
    exact AW_iret rfl dX12_comeBy_255 ⟨_, _, rfl, rfl, h⟩
  · replace h := h.2 q
    refine EW_aload_n (pc2 := 44) rfl dX12_comeBy_43 0 rfl ?_
    refine AW_getr (r := 253) ⟨gfRX12_29, rfl⟩ (pc2 := 47) rfl dX12_comeBy_44 q246 rfl ?_
    refine EW_bipush (pc2 := 49) (v := 20) rfl dX12_comeBy_47 (by decide) ?_
    refine EW_iload (pc2 := 51) rfl dX12_comeBy_49 4 rfl ?_
    refine EW_imul (pc2 := 52) rfl dX12_comeBy_51 ?_
    refine EW_iload_n (pc2 := 53) rfl dX12_comeBy_52 1 rfl ?_
    refine EW_iadd (pc2 := 54) rfl dX12_comeBy_53 ?_
    obtain ⟨b3, h⟩ := h
    refine AW_zald (pc2 := 55) rfl dX12_comeBy_54 q253 b3 ?_
    refine EW_if_eq (tgt := 63) (pc2 := 58) rfl dX12_comeBy_55 (by decide) (fun q => ?_) (fun q => ?_)
    · replace h := h.1 q
      refine EW_iload_n (pc2 := 64) rfl dX12_comeBy_63 2 rfl ?_
      refine EW_iload (pc2 := 66) rfl dX12_comeBy_64 4 rfl ?_
      refine EW_iadd (pc2 := 67) rfl dX12_comeBy_66 ?_
      refine AW_invS (M' := MX12_partOf) [.int (v3 + v5)] (rest := []) mlRX12_320 okX12_partOf (pc2 := 70) rfl dX12_comeBy_67 rfl rfl (Nat.le_of_ble_eq_true rfl) (Nat.le_of_ble_eq_true rfl) (d' := 0) (by omega) (EW_mono (fun _ _ hr => ?_) (sX12_partOf (v3 + v5)  x _ _ 0 0 (Nat.le_refl _) h))
      obtain ⟨r4, rfl, rfl, h⟩ := hr
      refine EW_istore (pc2 := 72) rfl dX12_comeBy_70 (by decide) [1, 2, 3, 4, 5, 0] [(0, .ref 246), (2, .int v2), (3, .int v3), (4, .int v4), (5, .int v5), (6, .int r4)] rfl ?_
      refine EW_iconst (pc2 := 73) (v := 0) rfl dX12_comeBy_72 (by decide) ?_
      refine EW_istore (pc2 := 75) rfl dX12_comeBy_73 (by decide) [1, 2, 3, 4, 5, 6, 0] [(0, .ref 246), (2, .int v2), (3, .int v3), (4, .int v4), (5, .int v5), (6, .int r4), (7, .int 0)] rfl ?_
      exact sX12_comeBy_75 v2 v3 v4 v5 r4 0 x K L35 d bc bs hdp hL35 h
    · replace h := h.2 q
      refine EW_iload_n (pc2 := 59) rfl dX12_comeBy_58 2 rfl ?_
      refine EW_iload (pc2 := 61) rfl dX12_comeBy_59 4 rfl ?_
      refine EW_iadd (pc2 := 62) rfl dX12_comeBy_61 ?_
      exact AW_iret rfl dX12_comeBy_62 ⟨_, _, rfl, rfl, h⟩
set_option maxHeartbeats 4000000 in
set_option maxRecDepth 100000 in
theorem sX12_comeBy_3 (v1 : Int32) (v2 : Int32) (v3 : Int32) (v4 : Int32) (v5 : Int32)  (x : ab_X) (K : Int32 → ab_X → Prop)  (d bc bs : Nat) (hdp : 1 ≤ d)  (h : Lp2 (lX12_comeBy_3 v1 v2 v3 v4 K ) v5 x) : EW MX12_comeBy 3 [(0, .ref 246), (1, .int v1), (2, .int v2), (3, .int v3), (4, .int v4), (5, .int v5)] [] (aS x) d bc bs (liI K) := by
  refine Lp2.use (P := fun v5 x => EW MX12_comeBy 3 [(0, .ref 246), (1, .int v1), (2, .int v2), (3, .int v3), (4, .int v4), (5, .int v5)] [] (aS x) d bc bs (liI K)) (fun L3 v5 x hL3 h => ?_) v5 x h
  unfold lX12_comeBy_3 at h
  refine EW_iload (pc2 := 5) rfl dX12_comeBy_3 5 rfl ?_
  refine EW_sipush (pc2 := 8) (v := 12020) rfl dX12_comeBy_5 (by decide) ?_
  refine EW_icmp_ge (tgt := 25) (pc2 := 11) rfl dX12_comeBy_8 (by decide) (fun q => ?_) (fun q => ?_)
  · replace h := h.1 q
    refine EW_aload_n (pc2 := 26) rfl dX12_comeBy_25 0 rfl ?_
    refine AW_getr (r := 253) ⟨gfRX12_29, rfl⟩ (pc2 := 29) rfl dX12_comeBy_26 q246 rfl ?_
    refine EW_iload_n (pc2 := 30) rfl dX12_comeBy_29 1 rfl ?_
    refine EW_iconst (pc2 := 31) (v := 1) rfl dX12_comeBy_30 (by decide) ?_
    obtain ⟨b1, h⟩ := h
    refine AW_zast (pc2 := 32) rfl dX12_comeBy_31 q253 b1 isB1 ?_
    refine EW_iconst (pc2 := 33) (v := 0) rfl dX12_comeBy_32 (by decide) ?_
    refine EW_istore (pc2 := 35) rfl dX12_comeBy_33 (by decide) [1, 2, 3, 4, 5, 0] [(0, .ref 246), (1, .int v1), (2, .int v2), (3, .int v3), (4, .int v4), (5, .int 0)] rfl ?_
    refine EW_ls [0, 2, 3, 4, 5] rfl ?_
    exact sX12_comeBy_35 v2 v3 v4 0 (wr x 253 (Int32.toNatClampNeg v1) 1) K d bc bs hdp h
  · replace h := h.2 q
    refine EW_aload_n (pc2 := 12) rfl dX12_comeBy_11 0 rfl ?_
    refine AW_getr (r := 253) ⟨gfRX12_29, rfl⟩ (pc2 := 15) rfl dX12_comeBy_12 q246 rfl ?_
    refine EW_iload (pc2 := 17) rfl dX12_comeBy_15 5 rfl ?_
    refine EW_iconst (pc2 := 18) (v := 0) rfl dX12_comeBy_17 (by decide) ?_
    obtain ⟨b2, h⟩ := h
    refine AW_zast (pc2 := 19) rfl dX12_comeBy_18 q253 b2 isB0 ?_
    refine EW_iinc (v5 + 1) (pc2 := 22) rfl dX12_comeBy_19 5 rfl rfl (by decide) [1, 2, 3, 4, 5, 0] [(0, .ref 246), (1, .int v1), (2, .int v2), (3, .int v3), (4, .int v4), (5, .int (v5 + 1))] rfl ?_
    refine EW_goto (tgt := 3) dX12_comeBy_22 (by decide) ?_
    exact hL3 (v5 + 1) (wr x 253 (Int32.toNatClampNeg v5) 0) h
set_option maxHeartbeats 4000000 in
set_option maxRecDepth 100000 in
theorem sX12_comeBy (v1 : Int32) (v2 : Int32) (v3 : Int32) (v4 : Int32)  (x : ab_X) (K : Int32 → ab_X → Prop) (d bc bs : Nat) (hdp : 1 ≤ d) (h : wX12_comeBy v1 v2 v3 v4 x K) : EW MX12_comeBy 0 [(0, .ref 246), (1, .int v1), (2, .int v2), (3, .int v3), (4, .int v4)] [] (aS x) d bc bs (liI K) := by
  unfold wX12_comeBy at h
  refine EW_iconst (pc2 := 1) (v := 0) rfl dX12_comeBy_0 (by decide) ?_
  refine EW_istore (pc2 := 3) rfl dX12_comeBy_1 (by decide) [1, 2, 3, 4, 5, 0] [(0, .ref 246), (1, .int v1), (2, .int v2), (3, .int v3), (4, .int v4), (5, .int 0)] rfl ?_
  exact sX12_comeBy_3 v1 v2 v3 v4 0 x K d bc bs hdp h
abbrev MX12_isShared : ab_M := (yX12_isShared, cX12_isShared, 3, (some .boolean))
theorem dX12_isShared_0 : decode cX12_isShared 0 = .ok (.iconst 0, 1) := by decide +kernel
theorem dX12_isShared_1 : decode cX12_isShared 1 = .ok (.istore_n 2, 1) := by decide +kernel
theorem dX12_isShared_2 : decode cX12_isShared 2 = .ok (.iload_n 2, 1) := by decide +kernel
theorem dX12_isShared_3 : decode cX12_isShared 3 = .ok (.aload_n 0, 1) := by decide +kernel
theorem dX12_isShared_4 : decode cX12_isShared 4 = .ok (.getfield 366, 3) := by decide +kernel
theorem dX12_isShared_7 : decode cX12_isShared 7 = .ok (.if_icmp .ge 40, 3) := by decide +kernel
theorem dX12_isShared_10 : decode cX12_isShared 10 = .ok (.iload_n 2, 1) := by decide +kernel
theorem dX12_isShared_11 : decode cX12_isShared 11 = .ok (.iload_n 1, 1) := by decide +kernel
theorem dX12_isShared_12 : decode cX12_isShared 12 = .ok (.if_icmp .eq 29, 3) := by decide +kernel
theorem dX12_isShared_15 : decode cX12_isShared 15 = .ok (.aload_n 0, 1) := by decide +kernel
theorem dX12_isShared_16 : decode cX12_isShared 16 = .ok (.getfield 128, 3) := by decide +kernel
theorem dX12_isShared_19 : decode cX12_isShared 19 = .ok (.iload_n 2, 1) := by decide +kernel
theorem dX12_isShared_20 : decode cX12_isShared 20 = .ok (.iaload, 1) := by decide +kernel
theorem dX12_isShared_21 : decode cX12_isShared 21 = .ok (.ifCond .ne 20, 3) := by decide +kernel
theorem dX12_isShared_24 : decode cX12_isShared 24 = .ok (.aload_n 0, 1) := by decide +kernel
theorem dX12_isShared_25 : decode cX12_isShared 25 = .ok (.getfield 131, 3) := by decide +kernel
theorem dX12_isShared_28 : decode cX12_isShared 28 = .ok (.iload_n 2, 1) := by decide +kernel
theorem dX12_isShared_29 : decode cX12_isShared 29 = .ok (.iaload, 1) := by decide +kernel
theorem dX12_isShared_30 : decode cX12_isShared 30 = .ok (.aload_n 0, 1) := by decide +kernel
theorem dX12_isShared_31 : decode cX12_isShared 31 = .ok (.getfield 131, 3) := by decide +kernel
theorem dX12_isShared_34 : decode cX12_isShared 34 = .ok (.iload_n 1, 1) := by decide +kernel
theorem dX12_isShared_35 : decode cX12_isShared 35 = .ok (.iaload, 1) := by decide +kernel
theorem dX12_isShared_36 : decode cX12_isShared 36 = .ok (.if_icmp .ne 5, 3) := by decide +kernel
theorem dX12_isShared_39 : decode cX12_isShared 39 = .ok (.iconst 1, 1) := by decide +kernel
theorem dX12_isShared_40 : decode cX12_isShared 40 = .ok (.ireturn, 1) := by decide +kernel
theorem dX12_isShared_41 : decode cX12_isShared 41 = .ok (.iinc 2 1, 3) := by decide +kernel
theorem dX12_isShared_44 : decode cX12_isShared 44 = .ok (.goto (-42), 3) := by decide +kernel
theorem dX12_isShared_47 : decode cX12_isShared 47 = .ok (.iconst 0, 1) := by decide +kernel
theorem dX12_isShared_48 : decode cX12_isShared 48 = .ok (.ireturn, 1) := by decide +kernel
theorem okX12_isShared : ab_okM MX12_isShared 1 := ⟨by decide, ⟨by decide, by decide⟩, ab_in 2530 (by decide +kernel) (by decide +kernel), ab_in 99 (by decide +kernel) (by decide +kernel), by decide +kernel, by decide⟩
set_option maxHeartbeats 4000000 in
set_option maxRecDepth 100000 in
theorem sX12_isShared_2 (v1 : Int32) (v2 : Int32)  (x : ab_X) (K : Int32 → Prop)  (d bc bs : Nat) (hdp : 0 ≤ d)  (h : Lp1 (lX12_isShared_2 v1 x K ) v2) : EW MX12_isShared 2 [(0, .ref 246), (1, .int v1), (2, .int v2)] [] (aS x) d bc bs (liP x K) := by
  refine Lp1.use (P := fun v2 => EW MX12_isShared 2 [(0, .ref 246), (1, .int v1), (2, .int v2)] [] (aS x) d bc bs (liP x K)) (fun L2 v2 hL2 h => ?_) v2 h
  unfold lX12_isShared_2 at h
  refine EW_iload_n (pc2 := 3) rfl dX12_isShared_2 2 rfl ?_
  refine EW_aload_n (pc2 := 4) rfl dX12_isShared_3 0 rfl ?_
  refine AW_geti ⟨gfRX12_366, rfl⟩ (pc2 := 7) rfl dX12_isShared_4 q246 ?_
  refine EW_icmp_ge (tgt := 47) (pc2 := 10) rfl dX12_isShared_7 (by decide) (fun q => ?_) (fun q => ?_)
  · replace h := h.1 q
    refine EW_iconst (pc2 := 48) (v := 0) rfl dX12_isShared_47 (by decide) ?_
    exact AW_zret rfl isB0 dX12_isShared_48 ⟨_, rfl, rfl, h⟩
  · replace h := h.2 q
    refine EW_iload_n (pc2 := 11) rfl dX12_isShared_10 2 rfl ?_
    refine EW_iload_n (pc2 := 12) rfl dX12_isShared_11 1 rfl ?_
    refine EW_icmp_eq (tgt := 41) (pc2 := 15) rfl dX12_isShared_12 (by decide) (fun q => ?_) (fun q => ?_)
    · replace h := h.1 q
      refine EW_iinc (v2 + 1) (pc2 := 44) rfl dX12_isShared_41 2 rfl rfl (by decide) [1, 2, 0] [(0, .ref 246), (1, .int v1), (2, .int (v2 + 1))] rfl ?_
      refine EW_goto (tgt := 2) dX12_isShared_44 (by decide) ?_
      exact hL2 (v2 + 1) h
    · replace h := h.2 q
      refine EW_aload_n (pc2 := 16) rfl dX12_isShared_15 0 rfl ?_
      refine AW_getr (r := 286) ⟨gfRX12_128, rfl⟩ (pc2 := 19) rfl dX12_isShared_16 q246 rfl ?_
      refine EW_iload_n (pc2 := 20) rfl dX12_isShared_19 2 rfl ?_
      obtain ⟨b1, h⟩ := h
      refine AW_iald (pc2 := 21) rfl dX12_isShared_20 q286 b1 ?_
      refine EW_if_ne (tgt := 41) (pc2 := 24) rfl dX12_isShared_21 (by decide) (fun q => ?_) (fun q => ?_)
      · replace h := h.1 q
        refine EW_iinc (v2 + 1) (pc2 := 44) rfl dX12_isShared_41 2 rfl rfl (by decide) [1, 2, 0] [(0, .ref 246), (1, .int v1), (2, .int (v2 + 1))] rfl ?_
        refine EW_goto (tgt := 2) dX12_isShared_44 (by decide) ?_
        exact hL2 (v2 + 1) h
      · replace h := h.2 q
        refine EW_aload_n (pc2 := 25) rfl dX12_isShared_24 0 rfl ?_
        refine AW_getr (r := 287) ⟨gfRX12_131, rfl⟩ (pc2 := 28) rfl dX12_isShared_25 q246 rfl ?_
        refine EW_iload_n (pc2 := 29) rfl dX12_isShared_28 2 rfl ?_
        obtain ⟨b2, h⟩ := h
        refine AW_iald (pc2 := 30) rfl dX12_isShared_29 q287 b2 ?_
        refine EW_aload_n (pc2 := 31) rfl dX12_isShared_30 0 rfl ?_
        refine AW_getr (r := 287) ⟨gfRX12_131, rfl⟩ (pc2 := 34) rfl dX12_isShared_31 q246 rfl ?_
        refine EW_iload_n (pc2 := 35) rfl dX12_isShared_34 1 rfl ?_
        obtain ⟨b3, h⟩ := h
        refine AW_iald (pc2 := 36) rfl dX12_isShared_35 q287 b3 ?_
        refine EW_icmp_ne (tgt := 41) (pc2 := 39) rfl dX12_isShared_36 (by decide) (fun q => ?_) (fun q => ?_)
        · replace h := h.1 q
          refine EW_iinc (v2 + 1) (pc2 := 44) rfl dX12_isShared_41 2 rfl rfl (by decide) [1, 2, 0] [(0, .ref 246), (1, .int v1), (2, .int (v2 + 1))] rfl ?_
          refine EW_goto (tgt := 2) dX12_isShared_44 (by decide) ?_
          exact hL2 (v2 + 1) h
        · replace h := h.2 q
          refine EW_iconst (pc2 := 40) (v := 1) rfl dX12_isShared_39 (by decide) ?_
          exact AW_zret rfl isB1 dX12_isShared_40 ⟨_, rfl, rfl, h⟩
set_option maxHeartbeats 4000000 in
set_option maxRecDepth 100000 in
theorem sX12_isShared (v1 : Int32)  (x : ab_X) (K : Int32 → Prop) (d bc bs : Nat) (hdp : 0 ≤ d) (h : wX12_isShared v1 x K) : EW MX12_isShared 0 [(0, .ref 246), (1, .int v1)] [] (aS x) d bc bs (liP x K) := by
  unfold wX12_isShared at h
  refine EW_iconst (pc2 := 1) (v := 0) rfl dX12_isShared_0 (by decide) ?_
  refine EW_istore_n (pc2 := 2) rfl dX12_isShared_1 (by decide) [1, 2, 0] [(0, .ref 246), (1, .int v1), (2, .int 0)] rfl ?_
  exact sX12_isShared_2 v1 0 x K d bc bs hdp h
theorem mlRX12_324 : Cond.methodLink RX12 324 yX12_comeBy ∈ ab_G ∧ Cond.instanceMethod yX12_comeBy ∈ ab_G ∧ Cond.selects RX12 yX12_comeBy yX12_comeBy ∈ ab_G := ⟨ab_in 2245 (by decide +kernel) (by decide +kernel), ab_in 2247 (by decide +kernel) (by decide +kernel), ab_in 15 (by decide +kernel) (by decide +kernel)⟩
theorem mlRX12_543 : Cond.methodLink RX12 543 yX12_isShared ∈ ab_G ∧ Cond.instanceMethod yX12_isShared ∈ ab_G ∧ Cond.selects RX12 yX12_isShared yX12_isShared ∈ ab_G := ⟨ab_in 2527 (by decide +kernel) (by decide +kernel), ab_in 2529 (by decide +kernel) (by decide +kernel), ab_in 54 (by decide +kernel) (by decide +kernel)⟩
theorem gfRX12_546 : ab_L RX12 546 12 93 := ⟨by decide, by decide, ab_in 1942 (by decide +kernel) (by decide +kernel)⟩
abbrev MX12_soonest : ab_M := (yX12_soonest, cX12_soonest, 7, (some .int))
theorem dX12_soonest_0 : decode cX12_soonest 0 = .ok (.iconst (-1), 1) := by decide +kernel
theorem dX12_soonest_1 : decode cX12_soonest 1 = .ok (.istore_n 3, 1) := by decide +kernel
theorem dX12_soonest_2 : decode cX12_soonest 2 = .ok (.iconst 0, 1) := by decide +kernel
theorem dX12_soonest_3 : decode cX12_soonest 3 = .ok (.istore 4, 2) := by decide +kernel
theorem dX12_soonest_5 : decode cX12_soonest 5 = .ok (.iconst 0, 1) := by decide +kernel
theorem dX12_soonest_6 : decode cX12_soonest 6 = .ok (.istore 5, 2) := by decide +kernel
theorem dX12_soonest_8 : decode cX12_soonest 8 = .ok (.iload 5, 2) := by decide +kernel
theorem dX12_soonest_10 : decode cX12_soonest 10 = .ok (.aload_n 0, 1) := by decide +kernel
theorem dX12_soonest_11 : decode cX12_soonest 11 = .ok (.getfield 366, 3) := by decide +kernel
theorem dX12_soonest_14 : decode cX12_soonest 14 = .ok (.if_icmp .ge 104, 3) := by decide +kernel
theorem dX12_soonest_17 : decode cX12_soonest 17 = .ok (.aload_n 0, 1) := by decide +kernel
theorem dX12_soonest_18 : decode cX12_soonest 18 = .ok (.getfield 128, 3) := by decide +kernel
theorem dX12_soonest_21 : decode cX12_soonest 21 = .ok (.iload 5, 2) := by decide +kernel
theorem dX12_soonest_23 : decode cX12_soonest 23 = .ok (.iaload, 1) := by decide +kernel
theorem dX12_soonest_24 : decode cX12_soonest 24 = .ok (.ifCond .ne 88, 3) := by decide +kernel
theorem dX12_soonest_27 : decode cX12_soonest 27 = .ok (.iload_n 1, 1) := by decide +kernel
theorem dX12_soonest_28 : decode cX12_soonest 28 = .ok (.iconst (-1), 1) := by decide +kernel
theorem dX12_soonest_29 : decode cX12_soonest 29 = .ok (.if_icmp .eq 14, 3) := by decide +kernel
theorem dX12_soonest_32 : decode cX12_soonest 32 = .ok (.aload_n 0, 1) := by decide +kernel
theorem dX12_soonest_33 : decode cX12_soonest 33 = .ok (.getfield 107, 3) := by decide +kernel
theorem dX12_soonest_36 : decode cX12_soonest 36 = .ok (.iload 5, 2) := by decide +kernel
theorem dX12_soonest_38 : decode cX12_soonest 38 = .ok (.iaload, 1) := by decide +kernel
theorem dX12_soonest_39 : decode cX12_soonest 39 = .ok (.iload_n 1, 1) := by decide +kernel
theorem dX12_soonest_40 : decode cX12_soonest 40 = .ok (.if_icmp .ne 72, 3) := by decide +kernel
theorem dX12_soonest_43 : decode cX12_soonest 43 = .ok (.iload_n 1, 1) := by decide +kernel
theorem dX12_soonest_44 : decode cX12_soonest 44 = .ok (.iconst (-1), 1) := by decide +kernel
theorem dX12_soonest_45 : decode cX12_soonest 45 = .ok (.if_icmp .ne 15, 3) := by decide +kernel
theorem dX12_soonest_48 : decode cX12_soonest 48 = .ok (.aload_n 0, 1) := by decide +kernel
theorem dX12_soonest_49 : decode cX12_soonest 49 = .ok (.iload 5, 2) := by decide +kernel
theorem dX12_soonest_51 : decode cX12_soonest 51 = .ok (.invokevirtual 543, 3) := by decide +kernel
theorem dX12_soonest_54 : decode cX12_soonest 54 = .ok (.ifCond .ne 6, 3) := by decide +kernel
theorem dX12_soonest_57 : decode cX12_soonest 57 = .ok (.goto 55, 3) := by decide +kernel
theorem dX12_soonest_60 : decode cX12_soonest 60 = .ok (.aload_n 0, 1) := by decide +kernel
theorem dX12_soonest_61 : decode cX12_soonest 61 = .ok (.aload_n 0, 1) := by decide +kernel
theorem dX12_soonest_62 : decode cX12_soonest 62 = .ok (.getfield 131, 3) := by decide +kernel
theorem dX12_soonest_65 : decode cX12_soonest 65 = .ok (.iload 5, 2) := by decide +kernel
theorem dX12_soonest_67 : decode cX12_soonest 67 = .ok (.iaload, 1) := by decide +kernel
theorem dX12_soonest_68 : decode cX12_soonest 68 = .ok (.iload_n 2, 1) := by decide +kernel
theorem dX12_soonest_69 : decode cX12_soonest 69 = .ok (.aload_n 0, 1) := by decide +kernel
theorem dX12_soonest_70 : decode cX12_soonest 70 = .ok (.getfield 395, 3) := by decide +kernel
theorem dX12_soonest_73 : decode cX12_soonest 73 = .ok (.aload_n 0, 1) := by decide +kernel
theorem dX12_soonest_74 : decode cX12_soonest 74 = .ok (.iload 5, 2) := by decide +kernel
theorem dX12_soonest_76 : decode cX12_soonest 76 = .ok (.invokevirtual 398, 3) := by decide +kernel
theorem dX12_soonest_79 : decode cX12_soonest 79 = .ok (.invokevirtual 324, 3) := by decide +kernel
theorem dX12_soonest_82 : decode cX12_soonest 82 = .ok (.istore 6, 2) := by decide +kernel
theorem dX12_soonest_84 : decode cX12_soonest 84 = .ok (.iload 6, 2) := by decide +kernel
theorem dX12_soonest_86 : decode cX12_soonest 86 = .ok (.iconst (-1), 1) := by decide +kernel
theorem dX12_soonest_87 : decode cX12_soonest 87 = .ok (.if_icmp .eq 25, 3) := by decide +kernel
theorem dX12_soonest_90 : decode cX12_soonest 90 = .ok (.iload_n 3, 1) := by decide +kernel
theorem dX12_soonest_91 : decode cX12_soonest 91 = .ok (.iconst (-1), 1) := by decide +kernel
theorem dX12_soonest_92 : decode cX12_soonest 92 = .ok (.if_icmp .eq 13, 3) := by decide +kernel
theorem dX12_soonest_95 : decode cX12_soonest 95 = .ok (.iload 6, 2) := by decide +kernel
theorem dX12_soonest_97 : decode cX12_soonest 97 = .ok (.iload 4, 2) := by decide +kernel
theorem dX12_soonest_99 : decode cX12_soonest 99 = .ok (.if_icmp .lt 6, 3) := by decide +kernel
theorem dX12_soonest_102 : decode cX12_soonest 102 = .ok (.goto 10, 3) := by decide +kernel
theorem dX12_soonest_105 : decode cX12_soonest 105 = .ok (.iload 5, 2) := by decide +kernel
theorem dX12_soonest_107 : decode cX12_soonest 107 = .ok (.istore_n 3, 1) := by decide +kernel
theorem dX12_soonest_108 : decode cX12_soonest 108 = .ok (.iload 6, 2) := by decide +kernel
theorem dX12_soonest_110 : decode cX12_soonest 110 = .ok (.istore 4, 2) := by decide +kernel
theorem dX12_soonest_112 : decode cX12_soonest 112 = .ok (.iinc 5 1, 3) := by decide +kernel
theorem dX12_soonest_115 : decode cX12_soonest 115 = .ok (.goto (-107), 3) := by decide +kernel
theorem dX12_soonest_118 : decode cX12_soonest 118 = .ok (.aload_n 0, 1) := by decide +kernel
theorem dX12_soonest_119 : decode cX12_soonest 119 = .ok (.iload 4, 2) := by decide +kernel
theorem dX12_soonest_121 : decode cX12_soonest 121 = .ok (.putfield 546, 3) := by decide +kernel
theorem dX12_soonest_124 : decode cX12_soonest 124 = .ok (.iload_n 3, 1) := by decide +kernel
theorem dX12_soonest_125 : decode cX12_soonest 125 = .ok (.ireturn, 1) := by decide +kernel
theorem okX12_soonest : ab_okM MX12_soonest 2 := ⟨by decide, ⟨by decide, by decide⟩, ab_in 2526 (by decide +kernel) (by decide +kernel), ab_in 99 (by decide +kernel) (by decide +kernel), by decide +kernel, by decide⟩
set_option maxHeartbeats 4000000 in
set_option maxRecDepth 100000 in
theorem sX12_soonest_105 (v1 : Int32) (v2 : Int32) (v5 : Int32) (v6 : Int32)  (x : ab_X) (K : Int32 → ab_X → Prop) (L8 : Int32 → Int32 → Int32 → ab_X → Prop) (d bc bs : Nat) (hdp : 2 ≤ d) (hL8 : ∀ (v3 : Int32) (v4 : Int32) (v5 : Int32) (x : ab_X), L8 v3 v4 v5 x → EW MX12_soonest 8 [(0, .ref 246), (1, .int v1), (2, .int v2), (3, .int v3), (4, .int v4), (5, .int v5)] [] (aS x) d bc bs (liI K)) (h : wX12_soonest_105 v1 v2 v5 v6 x K L8) : EW MX12_soonest 105 [(0, .ref 246), (1, .int v1), (2, .int v2), (5, .int v5), (6, .int v6)] [] (aS x) d bc bs (liI K) := by
  unfold wX12_soonest_105 at h
  refine EW_iload (pc2 := 107) rfl dX12_soonest_105 3 rfl ?_
  refine EW_istore_n (pc2 := 108) rfl dX12_soonest_107 (by decide) [1, 2, 3, 0, 4, 5] [(0, .ref 246), (1, .int v1), (2, .int v2), (3, .int v5), (5, .int v5), (6, .int v6)] rfl ?_
  refine EW_iload (pc2 := 110) rfl dX12_soonest_108 5 rfl ?_
  refine EW_istore (pc2 := 112) rfl dX12_soonest_110 (by decide) [1, 2, 3, 4, 0, 5, 6] [(0, .ref 246), (1, .int v1), (2, .int v2), (3, .int v5), (4, .int v6), (5, .int v5), (6, .int v6)] rfl ?_
  refine EW_iinc (v5 + 1) (pc2 := 115) rfl dX12_soonest_112 5 rfl rfl (by decide) [1, 2, 3, 4, 5, 0, 6] [(0, .ref 246), (1, .int v1), (2, .int v2), (3, .int v5), (4, .int v6), (5, .int (v5 + 1)), (6, .int v6)] rfl ?_
  refine EW_goto (tgt := 8) dX12_soonest_115 (by decide) ?_
  refine EW_ls [0, 1, 2, 3, 4, 5] rfl ?_
  exact hL8 v5 v6 (v5 + 1) x h
set_option maxHeartbeats 4000000 in
set_option maxRecDepth 100000 in
theorem sX12_soonest_60 (v1 : Int32) (v2 : Int32) (v3 : Int32) (v4 : Int32) (v5 : Int32)  (x : ab_X) (K : Int32 → ab_X → Prop) (L8 : Int32 → Int32 → Int32 → ab_X → Prop) (d bc bs : Nat) (hdp : 2 ≤ d) (hL8 : ∀ (v3 : Int32) (v4 : Int32) (v5 : Int32) (x : ab_X), L8 v3 v4 v5 x → EW MX12_soonest 8 [(0, .ref 246), (1, .int v1), (2, .int v2), (3, .int v3), (4, .int v4), (5, .int v5)] [] (aS x) d bc bs (liI K)) (h : wX12_soonest_60 v1 v2 v3 v4 v5 x K L8) : EW MX12_soonest 60 [(0, .ref 246), (1, .int v1), (2, .int v2), (3, .int v3), (4, .int v4), (5, .int v5)] [] (aS x) d bc bs (liI K) := by
  unfold wX12_soonest_60 at h
  refine EW_aload_n (pc2 := 61) rfl dX12_soonest_60 0 rfl ?_
  refine EW_aload_n (pc2 := 62) rfl dX12_soonest_61 0 rfl ?_
  refine AW_getr (r := 287) ⟨gfRX12_131, rfl⟩ (pc2 := 65) rfl dX12_soonest_62 q246 rfl ?_
  refine EW_iload (pc2 := 67) rfl dX12_soonest_65 5 rfl ?_
  obtain ⟨b4, h⟩ := h
  refine AW_iald (pc2 := 68) rfl dX12_soonest_67 q287 b4 ?_
  refine EW_iload_n (pc2 := 69) rfl dX12_soonest_68 2 rfl ?_
  refine EW_aload_n (pc2 := 70) rfl dX12_soonest_69 0 rfl ?_
  refine AW_geti ⟨gfRX12_395, rfl⟩ (pc2 := 73) rfl dX12_soonest_70 q246 ?_
  refine EW_aload_n (pc2 := 74) rfl dX12_soonest_73 0 rfl ?_
  refine EW_iload (pc2 := 76) rfl dX12_soonest_74 5 rfl ?_
  refine AW_invV (M' := MX12_slowOf) [.int v5] (rest := [.int (x.1 246 1), .int v2, .int (x.1 287 (Int32.toNatClampNeg v5)), .ref 246]) mlRX12_398 okX12_slowOf (pc2 := 79) rfl dX12_soonest_76 rfl rfl (Nat.le_of_ble_eq_true rfl) (Nat.le_of_ble_eq_true rfl) (d' := 0) (by omega) q246 ⟨by decide, rfl⟩ (EW_mono (fun _ _ hr => ?_) (sX12_slowOf v5  x _ _ 0 0 (Nat.le_refl _) h))
  obtain ⟨r5, rfl, rfl, h⟩ := hr
  refine AW_invV (M' := MX12_comeBy) [.int (x.1 287 (Int32.toNatClampNeg v5)), .int v2, .int (x.1 246 1), .int r5] (rest := []) mlRX12_324 okX12_comeBy (pc2 := 82) rfl dX12_soonest_79 rfl rfl (Nat.le_of_ble_eq_true rfl) (Nat.le_of_ble_eq_true rfl) (d' := 1) (by omega) q246 ⟨by decide, rfl⟩ (EW_mono (fun _ _ hr => ?_) (sX12_comeBy (x.1 287 (Int32.toNatClampNeg v5)) v2 (x.1 246 1) r5  x _ _ 0 0 (Nat.le_refl _) h))
  obtain ⟨r6, x7, rfl, rfl, h⟩ := hr
  refine EW_istore (pc2 := 84) rfl dX12_soonest_82 (by decide) [1, 2, 3, 4, 5, 6, 0] [(0, .ref 246), (1, .int v1), (2, .int v2), (3, .int v3), (4, .int v4), (5, .int v5), (6, .int r6)] rfl ?_
  refine EW_iload (pc2 := 86) rfl dX12_soonest_84 6 rfl ?_
  refine EW_iconst (pc2 := 87) (v := (-1)) rfl dX12_soonest_86 (by decide) ?_
  refine EW_icmp_eq (tgt := 112) (pc2 := 90) rfl dX12_soonest_87 (by decide) (fun q => ?_) (fun q => ?_)
  · replace h := h.1 q
    refine EW_iinc (v5 + 1) (pc2 := 115) rfl dX12_soonest_112 5 rfl rfl (by decide) [1, 2, 3, 4, 5, 0, 6] [(0, .ref 246), (1, .int v1), (2, .int v2), (3, .int v3), (4, .int v4), (5, .int (v5 + 1)), (6, .int r6)] rfl ?_
    refine EW_goto (tgt := 8) dX12_soonest_115 (by decide) ?_
    refine EW_ls [0, 1, 2, 3, 4, 5] rfl ?_
    exact hL8 v3 v4 (v5 + 1) x7 h
  · replace h := h.2 q
    refine EW_iload_n (pc2 := 91) rfl dX12_soonest_90 3 rfl ?_
    refine EW_iconst (pc2 := 92) (v := (-1)) rfl dX12_soonest_91 (by decide) ?_
    refine EW_icmp_eq (tgt := 105) (pc2 := 95) rfl dX12_soonest_92 (by decide) (fun q => ?_) (fun q => ?_)
    · replace h := h.1 q
      refine EW_ls [0, 1, 2, 5, 6] rfl ?_
      exact sX12_soonest_105 v1 v2 v5 r6 x7 K L8 d bc bs hdp hL8 h
    · replace h := h.2 q
      refine EW_iload (pc2 := 97) rfl dX12_soonest_95 6 rfl ?_
      refine EW_iload (pc2 := 99) rfl dX12_soonest_97 4 rfl ?_
      refine EW_icmp_lt (tgt := 105) (pc2 := 102) rfl dX12_soonest_99 (by decide) (fun q => ?_) (fun q => ?_)
      · replace h := h.1 q
        refine EW_ls [0, 1, 2, 5, 6] rfl ?_
        exact sX12_soonest_105 v1 v2 v5 r6 x7 K L8 d bc bs hdp hL8 h
      · replace h := h.2 q
        refine EW_goto (tgt := 112) dX12_soonest_102 (by decide) ?_
        refine EW_iinc (v5 + 1) (pc2 := 115) rfl dX12_soonest_112 5 rfl rfl (by decide) [1, 2, 3, 4, 5, 0, 6] [(0, .ref 246), (1, .int v1), (2, .int v2), (3, .int v3), (4, .int v4), (5, .int (v5 + 1)), (6, .int r6)] rfl ?_
        refine EW_goto (tgt := 8) dX12_soonest_115 (by decide) ?_
        refine EW_ls [0, 1, 2, 3, 4, 5] rfl ?_
        exact hL8 v3 v4 (v5 + 1) x7 h
set_option maxHeartbeats 4000000 in
set_option maxRecDepth 100000 in
theorem sX12_soonest_43 (v1 : Int32) (v2 : Int32) (v3 : Int32) (v4 : Int32) (v5 : Int32)  (x : ab_X) (K : Int32 → ab_X → Prop) (L8 : Int32 → Int32 → Int32 → ab_X → Prop) (d bc bs : Nat) (hdp : 2 ≤ d) (hL8 : ∀ (v3 : Int32) (v4 : Int32) (v5 : Int32) (x : ab_X), L8 v3 v4 v5 x → EW MX12_soonest 8 [(0, .ref 246), (1, .int v1), (2, .int v2), (3, .int v3), (4, .int v4), (5, .int v5)] [] (aS x) d bc bs (liI K)) (h : wX12_soonest_43 v1 v2 v3 v4 v5 x K L8) : EW MX12_soonest 43 [(0, .ref 246), (1, .int v1), (2, .int v2), (3, .int v3), (4, .int v4), (5, .int v5)] [] (aS x) d bc bs (liI K) := by
  unfold wX12_soonest_43 at h
  refine EW_iload_n (pc2 := 44) rfl dX12_soonest_43 1 rfl ?_
  refine EW_iconst (pc2 := 45) (v := (-1)) rfl dX12_soonest_44 (by decide) ?_
  refine EW_icmp_ne (tgt := 60) (pc2 := 48) rfl dX12_soonest_45 (by decide) (fun q => ?_) (fun q => ?_)
  · replace h := h.1 q
    exact sX12_soonest_60 v1 v2 v3 v4 v5 x K L8 d bc bs hdp hL8 h
  · replace h := h.2 q
    refine EW_aload_n (pc2 := 49) rfl dX12_soonest_48 0 rfl ?_
    refine EW_iload (pc2 := 51) rfl dX12_soonest_49 5 rfl ?_
    refine AW_invV (M' := MX12_isShared) [.int v5] (rest := []) mlRX12_543 okX12_isShared (pc2 := 54) rfl dX12_soonest_51 rfl rfl (Nat.le_of_ble_eq_true rfl) (Nat.le_of_ble_eq_true rfl) (d' := 0) (by omega) q246 ⟨by decide, rfl⟩ (EW_mono (fun _ _ hr => ?_) (sX12_isShared v5  x _ _ 0 0 (Nat.le_refl _) h))
    obtain ⟨r3, rfl, rfl, h⟩ := hr
    refine EW_if_ne (tgt := 60) (pc2 := 57) rfl dX12_soonest_54 (by decide) (fun q => ?_) (fun q => ?_)
    · replace h := h.1 q
      exact sX12_soonest_60 v1 v2 v3 v4 v5 x K L8 d bc bs hdp hL8 h
    · replace h := h.2 q
      refine EW_goto (tgt := 112) dX12_soonest_57 (by decide) ?_
      refine EW_iinc (v5 + 1) (pc2 := 115) rfl dX12_soonest_112 5 rfl rfl (by decide) [1, 2, 3, 4, 5, 0] [(0, .ref 246), (1, .int v1), (2, .int v2), (3, .int v3), (4, .int v4), (5, .int (v5 + 1))] rfl ?_
      refine EW_goto (tgt := 8) dX12_soonest_115 (by decide) ?_
      exact hL8 v3 v4 (v5 + 1) x h
set_option maxHeartbeats 4000000 in
set_option maxRecDepth 100000 in
theorem sX12_soonest_8 (v1 : Int32) (v2 : Int32) (v3 : Int32) (v4 : Int32) (v5 : Int32)  (x : ab_X) (K : Int32 → ab_X → Prop)  (d bc bs : Nat) (hdp : 2 ≤ d)  (h : Lp4 (lX12_soonest_8 v1 v2 K ) v3 v4 v5 x) : EW MX12_soonest 8 [(0, .ref 246), (1, .int v1), (2, .int v2), (3, .int v3), (4, .int v4), (5, .int v5)] [] (aS x) d bc bs (liI K) := by
  refine Lp4.use (P := fun v3 v4 v5 x => EW MX12_soonest 8 [(0, .ref 246), (1, .int v1), (2, .int v2), (3, .int v3), (4, .int v4), (5, .int v5)] [] (aS x) d bc bs (liI K)) (fun L8 v3 v4 v5 x hL8 h => ?_) v3 v4 v5 x h
  unfold lX12_soonest_8 at h
  refine EW_iload (pc2 := 10) rfl dX12_soonest_8 5 rfl ?_
  refine EW_aload_n (pc2 := 11) rfl dX12_soonest_10 0 rfl ?_
  refine AW_geti ⟨gfRX12_366, rfl⟩ (pc2 := 14) rfl dX12_soonest_11 q246 ?_
  refine EW_icmp_ge (tgt := 118) (pc2 := 17) rfl dX12_soonest_14 (by decide) (fun q => ?_) (fun q => ?_)
  · replace h := h.1 q
    refine EW_aload_n (pc2 := 119) rfl dX12_soonest_118 0 rfl ?_
    refine EW_iload (pc2 := 121) rfl dX12_soonest_119 4 rfl ?_
    refine AW_puti ⟨gfRX12_546, rfl, rfl⟩ (pc2 := 124) rfl dX12_soonest_121 q246 ?_
    refine EW_iload_n (pc2 := 125) rfl dX12_soonest_124 3 rfl ?_
    exact AW_iret rfl dX12_soonest_125 ⟨_, _, rfl, rfl, h⟩
  · replace h := h.2 q
    refine EW_aload_n (pc2 := 18) rfl dX12_soonest_17 0 rfl ?_
    refine AW_getr (r := 286) ⟨gfRX12_128, rfl⟩ (pc2 := 21) rfl dX12_soonest_18 q246 rfl ?_
    refine EW_iload (pc2 := 23) rfl dX12_soonest_21 5 rfl ?_
    obtain ⟨b1, h⟩ := h
    refine AW_iald (pc2 := 24) rfl dX12_soonest_23 q286 b1 ?_
    refine EW_if_ne (tgt := 112) (pc2 := 27) rfl dX12_soonest_24 (by decide) (fun q => ?_) (fun q => ?_)
    · replace h := h.1 q
      refine EW_iinc (v5 + 1) (pc2 := 115) rfl dX12_soonest_112 5 rfl rfl (by decide) [1, 2, 3, 4, 5, 0] [(0, .ref 246), (1, .int v1), (2, .int v2), (3, .int v3), (4, .int v4), (5, .int (v5 + 1))] rfl ?_
      refine EW_goto (tgt := 8) dX12_soonest_115 (by decide) ?_
      exact hL8 v3 v4 (v5 + 1) x h
    · replace h := h.2 q
      refine EW_iload_n (pc2 := 28) rfl dX12_soonest_27 1 rfl ?_
      refine EW_iconst (pc2 := 29) (v := (-1)) rfl dX12_soonest_28 (by decide) ?_
      refine EW_icmp_eq (tgt := 43) (pc2 := 32) rfl dX12_soonest_29 (by decide) (fun q => ?_) (fun q => ?_)
      · replace h := h.1 q
        exact sX12_soonest_43 v1 v2 v3 v4 v5 x K L8 d bc bs hdp hL8 h
      · replace h := h.2 q
        refine EW_aload_n (pc2 := 33) rfl dX12_soonest_32 0 rfl ?_
        refine AW_getr (r := 279) ⟨gfRX12_107, rfl⟩ (pc2 := 36) rfl dX12_soonest_33 q246 rfl ?_
        refine EW_iload (pc2 := 38) rfl dX12_soonest_36 5 rfl ?_
        obtain ⟨b2, h⟩ := h
        refine AW_iald (pc2 := 39) rfl dX12_soonest_38 q279 b2 ?_
        refine EW_iload_n (pc2 := 40) rfl dX12_soonest_39 1 rfl ?_
        refine EW_icmp_ne (tgt := 112) (pc2 := 43) rfl dX12_soonest_40 (by decide) (fun q => ?_) (fun q => ?_)
        · replace h := h.1 q
          refine EW_iinc (v5 + 1) (pc2 := 115) rfl dX12_soonest_112 5 rfl rfl (by decide) [1, 2, 3, 4, 5, 0] [(0, .ref 246), (1, .int v1), (2, .int v2), (3, .int v3), (4, .int v4), (5, .int (v5 + 1))] rfl ?_
          refine EW_goto (tgt := 8) dX12_soonest_115 (by decide) ?_
          exact hL8 v3 v4 (v5 + 1) x h
        · replace h := h.2 q
          exact sX12_soonest_43 v1 v2 v3 v4 v5 x K L8 d bc bs hdp hL8 h
set_option maxHeartbeats 4000000 in
set_option maxRecDepth 100000 in
theorem sX12_soonest (v1 : Int32) (v2 : Int32)  (x : ab_X) (K : Int32 → ab_X → Prop) (d bc bs : Nat) (hdp : 2 ≤ d) (h : wX12_soonest v1 v2 x K) : EW MX12_soonest 0 [(0, .ref 246), (1, .int v1), (2, .int v2)] [] (aS x) d bc bs (liI K) := by
  unfold wX12_soonest at h
  refine EW_iconst (pc2 := 1) (v := (-1)) rfl dX12_soonest_0 (by decide) ?_
  refine EW_istore_n (pc2 := 2) rfl dX12_soonest_1 (by decide) [1, 2, 3, 0] [(0, .ref 246), (1, .int v1), (2, .int v2), (3, .int (-1))] rfl ?_
  refine EW_iconst (pc2 := 3) (v := 0) rfl dX12_soonest_2 (by decide) ?_
  refine EW_istore (pc2 := 5) rfl dX12_soonest_3 (by decide) [1, 2, 3, 4, 0] [(0, .ref 246), (1, .int v1), (2, .int v2), (3, .int (-1)), (4, .int 0)] rfl ?_
  refine EW_iconst (pc2 := 6) (v := 0) rfl dX12_soonest_5 (by decide) ?_
  refine EW_istore (pc2 := 8) rfl dX12_soonest_6 (by decide) [1, 2, 3, 4, 5, 0] [(0, .ref 246), (1, .int v1), (2, .int v2), (3, .int (-1)), (4, .int 0), (5, .int 0)] rfl ?_
  exact sX12_soonest_8 v1 v2 (-1) 0 0 x K d bc bs hdp h
theorem gfRX12_241 : ab_L RX12 241 12 94 := ⟨by decide, by decide, ab_in 1943 (by decide +kernel) (by decide +kernel)⟩
theorem mlRX12_552 : Cond.methodLink RX12 552 yX12_emptyHome ∈ ab_G ∧ Cond.instanceMethod yX12_emptyHome ∈ ab_G ∧ Cond.selects RX12 yX12_emptyHome yX12_emptyHome ∈ ab_G := ⟨ab_in 2531 (by decide +kernel) (by decide +kernel), ab_in 2533 (by decide +kernel) (by decide +kernel), ab_in 55 (by decide +kernel) (by decide +kernel)⟩
theorem mlRX12_549 : Cond.methodLink RX12 549 yX12_soonest ∈ ab_G ∧ Cond.instanceMethod yX12_soonest ∈ ab_G ∧ Cond.selects RX12 yX12_soonest yX12_soonest ∈ ab_G := ⟨ab_in 2523 (by decide +kernel) (by decide +kernel), ab_in 2525 (by decide +kernel) (by decide +kernel), ab_in 53 (by decide +kernel) (by decide +kernel)⟩
theorem gfRX12_229 : ab_L RX12 229 12 88 := ⟨by decide, by decide, ab_in 1937 (by decide +kernel) (by decide +kernel)⟩
theorem gfRX12_232 : ab_L RX12 232 12 89 := ⟨by decide, by decide, ab_in 1938 (by decide +kernel) (by decide +kernel)⟩
theorem gfRX12_217 : ab_L RX12 217 12 84 := ⟨by decide, by decide, ab_in 1933 (by decide +kernel) (by decide +kernel)⟩
theorem mlRX12_540 : Cond.methodLink RX12 540 yX12_askFor ∈ ab_G ∧ Cond.instanceMethod yX12_askFor ∈ ab_G ∧ Cond.selects RX12 yX12_askFor yX12_askFor ∈ ab_G := ⟨ab_in 2503 (by decide +kernel) (by decide +kernel), ab_in 2505 (by decide +kernel) (by decide +kernel), ab_in 50 (by decide +kernel) (by decide +kernel)⟩
abbrev MX12_answer : ab_M := (yX12_answer, cX12_answer, 6, none)
theorem dX12_answer_0 : decode cX12_answer 0 = .ok (.aload_n 0, 1) := by decide +kernel
theorem dX12_answer_1 : decode cX12_answer 1 = .ok (.aload_n 0, 1) := by decide +kernel
theorem dX12_answer_2 : decode cX12_answer 2 = .ok (.getfield 214, 3) := by decide +kernel
theorem dX12_answer_5 : decode cX12_answer 5 = .ok (.iload_n 1, 1) := by decide +kernel
theorem dX12_answer_6 : decode cX12_answer 6 = .ok (.iaload, 1) := by decide +kernel
theorem dX12_answer_7 : decode cX12_answer 7 = .ok (.aload_n 0, 1) := by decide +kernel
theorem dX12_answer_8 : decode cX12_answer 8 = .ok (.getfield 217, 3) := by decide +kernel
theorem dX12_answer_11 : decode cX12_answer 11 = .ok (.iload_n 1, 1) := by decide +kernel
theorem dX12_answer_12 : decode cX12_answer 12 = .ok (.iaload, 1) := by decide +kernel
theorem dX12_answer_13 : decode cX12_answer 13 = .ok (.invokevirtual 540, 3) := by decide +kernel
theorem dX12_answer_16 : decode cX12_answer 16 = .ok (.iconst 0, 1) := by decide +kernel
theorem dX12_answer_17 : decode cX12_answer 17 = .ok (.istore_n 2, 1) := by decide +kernel
theorem dX12_answer_18 : decode cX12_answer 18 = .ok (.iload_n 2, 1) := by decide +kernel
theorem dX12_answer_19 : decode cX12_answer 19 = .ok (.iconst 5, 1) := by decide +kernel
theorem dX12_answer_20 : decode cX12_answer 20 = .ok (.if_icmp .ge 21, 3) := by decide +kernel
theorem dX12_answer_23 : decode cX12_answer 23 = .ok (.aload_n 0, 1) := by decide +kernel
theorem dX12_answer_24 : decode cX12_answer 24 = .ok (.getfield 241, 3) := by decide +kernel
theorem dX12_answer_27 : decode cX12_answer 27 = .ok (.iload_n 2, 1) := by decide +kernel
theorem dX12_answer_28 : decode cX12_answer 28 = .ok (.aload_n 0, 1) := by decide +kernel
theorem dX12_answer_29 : decode cX12_answer 29 = .ok (.getfield 195, 3) := by decide +kernel
theorem dX12_answer_32 : decode cX12_answer 32 = .ok (.iload_n 2, 1) := by decide +kernel
theorem dX12_answer_33 : decode cX12_answer 33 = .ok (.iaload, 1) := by decide +kernel
theorem dX12_answer_34 : decode cX12_answer 34 = .ok (.iastore, 1) := by decide +kernel
theorem dX12_answer_35 : decode cX12_answer 35 = .ok (.iinc 2 1, 3) := by decide +kernel
theorem dX12_answer_38 : decode cX12_answer 38 = .ok (.goto (-20), 3) := by decide +kernel
theorem dX12_answer_41 : decode cX12_answer 41 = .ok (.iconst 0, 1) := by decide +kernel
theorem dX12_answer_42 : decode cX12_answer 42 = .ok (.istore_n 2, 1) := by decide +kernel
theorem dX12_answer_43 : decode cX12_answer 43 = .ok (.iload_n 2, 1) := by decide +kernel
theorem dX12_answer_44 : decode cX12_answer 44 = .ok (.iconst 3, 1) := by decide +kernel
theorem dX12_answer_45 : decode cX12_answer 45 = .ok (.if_icmp .gt 109, 3) := by decide +kernel
theorem dX12_answer_48 : decode cX12_answer 48 = .ok (.iconst 0, 1) := by decide +kernel
theorem dX12_answer_49 : decode cX12_answer 49 = .ok (.istore_n 3, 1) := by decide +kernel
theorem dX12_answer_50 : decode cX12_answer 50 = .ok (.iload_n 3, 1) := by decide +kernel
theorem dX12_answer_51 : decode cX12_answer 51 = .ok (.aload_n 0, 1) := by decide +kernel
theorem dX12_answer_52 : decode cX12_answer 52 = .ok (.getfield 241, 3) := by decide +kernel
theorem dX12_answer_55 : decode cX12_answer 55 = .ok (.iload_n 2, 1) := by decide +kernel
theorem dX12_answer_56 : decode cX12_answer 56 = .ok (.iaload, 1) := by decide +kernel
theorem dX12_answer_57 : decode cX12_answer 57 = .ok (.if_icmp .ge 91, 3) := by decide +kernel
theorem dX12_answer_60 : decode cX12_answer 60 = .ok (.aload_n 0, 1) := by decide +kernel
theorem dX12_answer_61 : decode cX12_answer 61 = .ok (.iload_n 2, 1) := by decide +kernel
theorem dX12_answer_62 : decode cX12_answer 62 = .ok (.aload_n 0, 1) := by decide +kernel
theorem dX12_answer_63 : decode cX12_answer 63 = .ok (.getfield 214, 3) := by decide +kernel
theorem dX12_answer_66 : decode cX12_answer 66 = .ok (.iload_n 1, 1) := by decide +kernel
theorem dX12_answer_67 : decode cX12_answer 67 = .ok (.iaload, 1) := by decide +kernel
theorem dX12_answer_68 : decode cX12_answer 68 = .ok (.invokevirtual 549, 3) := by decide +kernel
theorem dX12_answer_71 : decode cX12_answer 71 = .ok (.istore 4, 2) := by decide +kernel
theorem dX12_answer_73 : decode cX12_answer 73 = .ok (.iload 4, 2) := by decide +kernel
theorem dX12_answer_75 : decode cX12_answer 75 = .ok (.iconst (-1), 1) := by decide +kernel
theorem dX12_answer_76 : decode cX12_answer 76 = .ok (.if_icmp .ne 16, 3) := by decide +kernel
theorem dX12_answer_79 : decode cX12_answer 79 = .ok (.aload_n 0, 1) := by decide +kernel
theorem dX12_answer_80 : decode cX12_answer 80 = .ok (.getfield 232, 3) := by decide +kernel
theorem dX12_answer_83 : decode cX12_answer 83 = .ok (.iload_n 1, 1) := by decide +kernel
theorem dX12_answer_84 : decode cX12_answer 84 = .ok (.dup2, 1) := by decide +kernel
theorem dX12_answer_85 : decode cX12_answer 85 = .ok (.iaload, 1) := by decide +kernel
theorem dX12_answer_86 : decode cX12_answer 86 = .ok (.iconst 1, 1) := by decide +kernel
theorem dX12_answer_87 : decode cX12_answer 87 = .ok (.iadd, 1) := by decide +kernel
theorem dX12_answer_88 : decode cX12_answer 88 = .ok (.iastore, 1) := by decide +kernel
theorem dX12_answer_89 : decode cX12_answer 89 = .ok (.goto 53, 3) := by decide +kernel
theorem dX12_answer_92 : decode cX12_answer 92 = .ok (.aload_n 0, 1) := by decide +kernel
theorem dX12_answer_93 : decode cX12_answer 93 = .ok (.getfield 128, 3) := by decide +kernel
theorem dX12_answer_96 : decode cX12_answer 96 = .ok (.iload 4, 2) := by decide +kernel
theorem dX12_answer_98 : decode cX12_answer 98 = .ok (.iconst 1, 1) := by decide +kernel
theorem dX12_answer_99 : decode cX12_answer 99 = .ok (.iastore, 1) := by decide +kernel
theorem dX12_answer_100 : decode cX12_answer 100 = .ok (.aload_n 0, 1) := by decide +kernel
theorem dX12_answer_101 : decode cX12_answer 101 = .ok (.getfield 131, 3) := by decide +kernel
theorem dX12_answer_104 : decode cX12_answer 104 = .ok (.iload 4, 2) := by decide +kernel
theorem dX12_answer_106 : decode cX12_answer 106 = .ok (.aload_n 0, 1) := by decide +kernel
theorem dX12_answer_107 : decode cX12_answer 107 = .ok (.getfield 214, 3) := by decide +kernel
theorem dX12_answer_110 : decode cX12_answer 110 = .ok (.iload_n 1, 1) := by decide +kernel
theorem dX12_answer_111 : decode cX12_answer 111 = .ok (.iaload, 1) := by decide +kernel
theorem dX12_answer_112 : decode cX12_answer 112 = .ok (.iastore, 1) := by decide +kernel
theorem dX12_answer_113 : decode cX12_answer 113 = .ok (.aload_n 0, 1) := by decide +kernel
theorem dX12_answer_114 : decode cX12_answer 114 = .ok (.getfield 134, 3) := by decide +kernel
theorem dX12_answer_117 : decode cX12_answer 117 = .ok (.iload 4, 2) := by decide +kernel
theorem dX12_answer_119 : decode cX12_answer 119 = .ok (.aload_n 0, 1) := by decide +kernel
theorem dX12_answer_120 : decode cX12_answer 120 = .ok (.getfield 546, 3) := by decide +kernel
theorem dX12_answer_123 : decode cX12_answer 123 = .ok (.iastore, 1) := by decide +kernel
theorem dX12_answer_124 : decode cX12_answer 124 = .ok (.aload_n 0, 1) := by decide +kernel
theorem dX12_answer_125 : decode cX12_answer 125 = .ok (.getfield 137, 3) := by decide +kernel
theorem dX12_answer_128 : decode cX12_answer 128 = .ok (.iload 4, 2) := by decide +kernel
theorem dX12_answer_130 : decode cX12_answer 130 = .ok (.iload_n 1, 1) := by decide +kernel
theorem dX12_answer_131 : decode cX12_answer 131 = .ok (.iastore, 1) := by decide +kernel
theorem dX12_answer_132 : decode cX12_answer 132 = .ok (.aload_n 0, 1) := by decide +kernel
theorem dX12_answer_133 : decode cX12_answer 133 = .ok (.getfield 229, 3) := by decide +kernel
theorem dX12_answer_136 : decode cX12_answer 136 = .ok (.iload_n 1, 1) := by decide +kernel
theorem dX12_answer_137 : decode cX12_answer 137 = .ok (.dup2, 1) := by decide +kernel
theorem dX12_answer_138 : decode cX12_answer 138 = .ok (.iaload, 1) := by decide +kernel
theorem dX12_answer_139 : decode cX12_answer 139 = .ok (.iconst 1, 1) := by decide +kernel
theorem dX12_answer_140 : decode cX12_answer 140 = .ok (.iadd, 1) := by decide +kernel
theorem dX12_answer_141 : decode cX12_answer 141 = .ok (.iastore, 1) := by decide +kernel
theorem dX12_answer_142 : decode cX12_answer 142 = .ok (.iinc 3 1, 3) := by decide +kernel
theorem dX12_answer_145 : decode cX12_answer 145 = .ok (.goto (-95), 3) := by decide +kernel
theorem dX12_answer_148 : decode cX12_answer 148 = .ok (.iinc 2 1, 3) := by decide +kernel
theorem dX12_answer_151 : decode cX12_answer 151 = .ok (.goto (-108), 3) := by decide +kernel
theorem dX12_answer_154 : decode cX12_answer 154 = .ok (.iconst 1, 1) := by decide +kernel
theorem dX12_answer_155 : decode cX12_answer 155 = .ok (.istore_n 2, 1) := by decide +kernel
theorem dX12_answer_156 : decode cX12_answer 156 = .ok (.iconst 0, 1) := by decide +kernel
theorem dX12_answer_157 : decode cX12_answer 157 = .ok (.istore_n 3, 1) := by decide +kernel
theorem dX12_answer_158 : decode cX12_answer 158 = .ok (.iload_n 3, 1) := by decide +kernel
theorem dX12_answer_159 : decode cX12_answer 159 = .ok (.aload_n 0, 1) := by decide +kernel
theorem dX12_answer_160 : decode cX12_answer 160 = .ok (.getfield 241, 3) := by decide +kernel
theorem dX12_answer_163 : decode cX12_answer 163 = .ok (.iconst 4, 1) := by decide +kernel
theorem dX12_answer_164 : decode cX12_answer 164 = .ok (.iaload, 1) := by decide +kernel
theorem dX12_answer_165 : decode cX12_answer 165 = .ok (.if_icmp .ge 85, 3) := by decide +kernel
theorem dX12_answer_168 : decode cX12_answer 168 = .ok (.iload_n 2, 1) := by decide +kernel
theorem dX12_answer_169 : decode cX12_answer 169 = .ok (.ifCond .eq 81, 3) := by decide +kernel
theorem dX12_answer_172 : decode cX12_answer 172 = .ok (.aload_n 0, 1) := by decide +kernel
theorem dX12_answer_173 : decode cX12_answer 173 = .ok (.invokevirtual 552, 3) := by decide +kernel
theorem dX12_answer_176 : decode cX12_answer 176 = .ok (.istore 4, 2) := by decide +kernel
theorem dX12_answer_178 : decode cX12_answer 178 = .ok (.iload 4, 2) := by decide +kernel
theorem dX12_answer_180 : decode cX12_answer 180 = .ok (.iconst (-1), 1) := by decide +kernel
theorem dX12_answer_181 : decode cX12_answer 181 = .ok (.if_icmp .ne 7, 3) := by decide +kernel
theorem dX12_answer_184 : decode cX12_answer 184 = .ok (.iconst (-1), 1) := by decide +kernel
theorem dX12_answer_185 : decode cX12_answer 185 = .ok (.goto 10, 3) := by decide +kernel
theorem dX12_answer_188 : decode cX12_answer 188 = .ok (.aload_n 0, 1) := by decide +kernel
theorem dX12_answer_189 : decode cX12_answer 189 = .ok (.iconst (-1), 1) := by decide +kernel
theorem dX12_answer_190 : decode cX12_answer 190 = .ok (.iload 4, 2) := by decide +kernel
theorem dX12_answer_192 : decode cX12_answer 192 = .ok (.invokevirtual 549, 3) := by decide +kernel
theorem dX12_answer_195 : decode cX12_answer 195 = .ok (.istore 5, 2) := by decide +kernel
theorem dX12_answer_197 : decode cX12_answer 197 = .ok (.iload 5, 2) := by decide +kernel
theorem dX12_answer_199 : decode cX12_answer 199 = .ok (.iconst (-1), 1) := by decide +kernel
theorem dX12_answer_200 : decode cX12_answer 200 = .ok (.if_icmp .eq 7, 3) := by decide +kernel
theorem dX12_answer_203 : decode cX12_answer 203 = .ok (.iconst 1, 1) := by decide +kernel
theorem dX12_answer_204 : decode cX12_answer 204 = .ok (.goto 4, 3) := by decide +kernel
theorem dX12_answer_207 : decode cX12_answer 207 = .ok (.iconst 0, 1) := by decide +kernel
theorem dX12_answer_208 : decode cX12_answer 208 = .ok (.istore_n 2, 1) := by decide +kernel
theorem dX12_answer_209 : decode cX12_answer 209 = .ok (.iload_n 2, 1) := by decide +kernel
theorem dX12_answer_210 : decode cX12_answer 210 = .ok (.ifCond .ne 6, 3) := by decide +kernel
theorem dX12_answer_213 : decode cX12_answer 213 = .ok (.goto 31, 3) := by decide +kernel
theorem dX12_answer_216 : decode cX12_answer 216 = .ok (.aload_n 0, 1) := by decide +kernel
theorem dX12_answer_217 : decode cX12_answer 217 = .ok (.getfield 128, 3) := by decide +kernel
theorem dX12_answer_220 : decode cX12_answer 220 = .ok (.iload 5, 2) := by decide +kernel
theorem dX12_answer_222 : decode cX12_answer 222 = .ok (.iconst 3, 1) := by decide +kernel
theorem dX12_answer_223 : decode cX12_answer 223 = .ok (.iastore, 1) := by decide +kernel
theorem dX12_answer_224 : decode cX12_answer 224 = .ok (.aload_n 0, 1) := by decide +kernel
theorem dX12_answer_225 : decode cX12_answer 225 = .ok (.getfield 131, 3) := by decide +kernel
theorem dX12_answer_228 : decode cX12_answer 228 = .ok (.iload 5, 2) := by decide +kernel
theorem dX12_answer_230 : decode cX12_answer 230 = .ok (.iload 4, 2) := by decide +kernel
theorem dX12_answer_232 : decode cX12_answer 232 = .ok (.iastore, 1) := by decide +kernel
theorem dX12_answer_233 : decode cX12_answer 233 = .ok (.aload_n 0, 1) := by decide +kernel
theorem dX12_answer_234 : decode cX12_answer 234 = .ok (.getfield 134, 3) := by decide +kernel
theorem dX12_answer_237 : decode cX12_answer 237 = .ok (.iload 5, 2) := by decide +kernel
theorem dX12_answer_239 : decode cX12_answer 239 = .ok (.aload_n 0, 1) := by decide +kernel
theorem dX12_answer_240 : decode cX12_answer 240 = .ok (.getfield 546, 3) := by decide +kernel
theorem dX12_answer_243 : decode cX12_answer 243 = .ok (.iastore, 1) := by decide +kernel
theorem dX12_answer_244 : decode cX12_answer 244 = .ok (.iinc 3 1, 3) := by decide +kernel
theorem dX12_answer_247 : decode cX12_answer 247 = .ok (.goto (-89), 3) := by decide +kernel
theorem dX12_answer_250 : decode cX12_answer 250 = .ok (.return_, 1) := by decide +kernel
theorem okX12_answer : ab_okM MX12_answer 1 := ⟨by decide, ⟨by decide, by decide⟩, ab_in 2522 (by decide +kernel) (by decide +kernel), ab_in 99 (by decide +kernel) (by decide +kernel), by decide +kernel, by decide⟩
set_option maxHeartbeats 4000000 in
set_option maxRecDepth 100000 in
theorem sX12_answer_208 (v3 : Int32) (v4 : Int32) (v5 : Int32) (s0 : Int32)  (x : ab_X) (K : ab_X → Prop) (L158 : Int32 → Int32 → ab_X → Prop) (d bc bs : Nat) (hdp : 211 ≤ d) (hL158 : ∀ (v2 : Int32) (v3 : Int32) (x : ab_X), L158 v2 v3 x → EW MX12_answer 158 [(0, .ref 246), (2, .int v2), (3, .int v3)] [] (aS x) d bc bs (liV K)) (h : wX12_answer_208 v3 v4 v5 s0 x K L158) : EW MX12_answer 208 [(0, .ref 246), (3, .int v3), (4, .int v4), (5, .int v5)] [.int s0] (aS x) d bc bs (liV K) := by
  unfold wX12_answer_208 at h
  refine EW_istore_n (pc2 := 209) rfl dX12_answer_208 (by decide) [1, 0, 2, 3, 4] [(0, .ref 246), (2, .int s0), (3, .int v3), (4, .int v4), (5, .int v5)] rfl ?_
  refine EW_iload_n (pc2 := 210) rfl dX12_answer_209 1 rfl ?_
  refine EW_if_ne (tgt := 216) (pc2 := 213) rfl dX12_answer_210 (by decide) (fun q => ?_) (fun q => ?_)
  · replace h := h.1 q
    refine EW_aload_n (pc2 := 217) rfl dX12_answer_216 0 rfl ?_
    refine AW_getr (r := 286) ⟨gfRX12_128, rfl⟩ (pc2 := 220) rfl dX12_answer_217 q246 rfl ?_
    refine EW_iload (pc2 := 222) rfl dX12_answer_220 4 rfl ?_
    refine EW_iconst (pc2 := 223) (v := 3) rfl dX12_answer_222 (by decide) ?_
    obtain ⟨b10, h⟩ := h
    refine AW_iast (pc2 := 224) rfl dX12_answer_223 q286 b10 ?_
    refine EW_aload_n (pc2 := 225) rfl dX12_answer_224 0 rfl ?_
    refine AW_getr (r := 287) ⟨gfRX12_131, rfl⟩ (pc2 := 228) rfl dX12_answer_225 q246 rfl ?_
    refine EW_iload (pc2 := 230) rfl dX12_answer_228 4 rfl ?_
    refine EW_iload (pc2 := 232) rfl dX12_answer_230 3 rfl ?_
    obtain ⟨b11, h⟩ := h
    refine AW_iast (pc2 := 233) rfl dX12_answer_232 q287 b11 ?_
    refine EW_aload_n (pc2 := 234) rfl dX12_answer_233 0 rfl ?_
    refine AW_getr (r := 288) ⟨gfRX12_134, rfl⟩ (pc2 := 237) rfl dX12_answer_234 q246 rfl ?_
    refine EW_iload (pc2 := 239) rfl dX12_answer_237 4 rfl ?_
    refine EW_aload_n (pc2 := 240) rfl dX12_answer_239 0 rfl ?_
    refine AW_geti ⟨gfRX12_546, rfl⟩ (pc2 := 243) rfl dX12_answer_240 q246 ?_
    obtain ⟨b12, h⟩ := h
    refine AW_iast (pc2 := 244) rfl dX12_answer_243 q288 b12 ?_
    refine EW_iinc (v3 + 1) (pc2 := 247) rfl dX12_answer_244 2 rfl rfl (by decide) [1, 2, 0, 3, 4] [(0, .ref 246), (2, .int s0), (3, .int (v3 + 1)), (4, .int v4), (5, .int v5)] rfl ?_
    refine EW_goto (tgt := 158) dX12_answer_247 (by decide) ?_
    refine EW_ls [0, 1, 2] rfl ?_
    exact hL158 s0 (v3 + 1) (wr (wr (wr x 286 (Int32.toNatClampNeg v5) 3) 287 (Int32.toNatClampNeg v5) v4) 288 (Int32.toNatClampNeg v5) ((wr (wr x 286 (Int32.toNatClampNeg v5) 3) 287 (Int32.toNatClampNeg v5) v4).1 246 93)) h
  · replace h := h.2 q
    refine EW_goto (tgt := 244) dX12_answer_213 (by decide) ?_
    refine EW_iinc (v3 + 1) (pc2 := 247) rfl dX12_answer_244 2 rfl rfl (by decide) [1, 2, 0, 3, 4] [(0, .ref 246), (2, .int s0), (3, .int (v3 + 1)), (4, .int v4), (5, .int v5)] rfl ?_
    refine EW_goto (tgt := 158) dX12_answer_247 (by decide) ?_
    refine EW_ls [0, 1, 2] rfl ?_
    exact hL158 s0 (v3 + 1) x h
set_option maxHeartbeats 4000000 in
set_option maxRecDepth 100000 in
theorem sX12_answer_195 (v3 : Int32) (v4 : Int32) (s0 : Int32)  (x : ab_X) (K : ab_X → Prop) (L158 : Int32 → Int32 → ab_X → Prop) (d bc bs : Nat) (hdp : 211 ≤ d) (hL158 : ∀ (v2 : Int32) (v3 : Int32) (x : ab_X), L158 v2 v3 x → EW MX12_answer 158 [(0, .ref 246), (2, .int v2), (3, .int v3)] [] (aS x) d bc bs (liV K)) (h : wX12_answer_195 v3 v4 s0 x K L158) : EW MX12_answer 195 [(0, .ref 246), (3, .int v3), (4, .int v4)] [.int s0] (aS x) d bc bs (liV K) := by
  unfold wX12_answer_195 at h
  refine EW_istore (pc2 := 197) rfl dX12_answer_195 (by decide) [1, 2, 3, 0] [(0, .ref 246), (3, .int v3), (4, .int v4), (5, .int s0)] rfl ?_
  refine EW_iload (pc2 := 199) rfl dX12_answer_197 3 rfl ?_
  refine EW_iconst (pc2 := 200) (v := (-1)) rfl dX12_answer_199 (by decide) ?_
  refine EW_icmp_eq (tgt := 207) (pc2 := 203) rfl dX12_answer_200 (by decide) (fun q => ?_) (fun q => ?_)
  · replace h := h.1 q
    refine EW_iconst (pc2 := 208) (v := 0) rfl dX12_answer_207 (by decide) ?_
    exact sX12_answer_208 v3 v4 s0 0 x K L158 d bc bs hdp hL158 h
  · replace h := h.2 q
    refine EW_iconst (pc2 := 204) (v := 1) rfl dX12_answer_203 (by decide) ?_
    refine EW_goto (tgt := 208) dX12_answer_204 (by decide) ?_
    exact sX12_answer_208 v3 v4 s0 1 x K L158 d bc bs hdp hL158 h
set_option maxHeartbeats 4000000 in
set_option maxRecDepth 100000 in
theorem sX12_answer_158 (v2 : Int32) (v3 : Int32)  (x : ab_X) (K : ab_X → Prop)  (d bc bs : Nat) (hdp : 211 ≤ d)  (h : Lp3 (lX12_answer_158  K ) v2 v3 x) : EW MX12_answer 158 [(0, .ref 246), (2, .int v2), (3, .int v3)] [] (aS x) d bc bs (liV K) := by
  refine Lp3.use (P := fun v2 v3 x => EW MX12_answer 158 [(0, .ref 246), (2, .int v2), (3, .int v3)] [] (aS x) d bc bs (liV K)) (fun L158 v2 v3 x hL158 h => ?_) v2 v3 x h
  unfold lX12_answer_158 at h
  refine EW_iload_n (pc2 := 159) rfl dX12_answer_158 2 rfl ?_
  refine EW_aload_n (pc2 := 160) rfl dX12_answer_159 0 rfl ?_
  refine AW_getr (r := 319) ⟨gfRX12_241, rfl⟩ (pc2 := 163) rfl dX12_answer_160 q246 rfl ?_
  refine EW_iconst (pc2 := 164) (v := 4) rfl dX12_answer_163 (by decide) ?_
  obtain ⟨b6, h⟩ := h
  refine AW_iald (pc2 := 165) rfl dX12_answer_164 q319 b6 ?_
  refine EW_icmp_ge (tgt := 250) (pc2 := 168) rfl dX12_answer_165 (by decide) (fun q => ?_) (fun q => ?_)
  · replace h := h.1 q
    exact EW_vret rfl dX12_answer_250 ⟨_, rfl, rfl, h⟩
  · replace h := h.2 q
    refine EW_iload_n (pc2 := 169) rfl dX12_answer_168 1 rfl ?_
    refine EW_if_eq (tgt := 250) (pc2 := 172) rfl dX12_answer_169 (by decide) (fun q => ?_) (fun q => ?_)
    · replace h := h.1 q
      exact EW_vret rfl dX12_answer_250 ⟨_, rfl, rfl, h⟩
    · replace h := h.2 q
      refine EW_aload_n (pc2 := 173) rfl dX12_answer_172 0 rfl ?_
      refine AW_invV (M' := MX12_emptyHome) [] (rest := []) mlRX12_552 okX12_emptyHome (pc2 := 176) rfl dX12_answer_173 rfl rfl (Nat.le_of_ble_eq_true rfl) (Nat.le_of_ble_eq_true rfl) (d' := 0) (by omega) q246 ⟨by decide, rfl⟩ (EW_mono (fun _ _ hr => ?_) (sX12_emptyHome   x _ _ 0 0 (Nat.le_refl _) h))
      obtain ⟨r7, rfl, rfl, h⟩ := hr
      refine EW_istore (pc2 := 178) rfl dX12_answer_176 (by decide) [1, 2, 3, 0] [(0, .ref 246), (2, .int v2), (3, .int v3), (4, .int r7)] rfl ?_
      refine EW_iload (pc2 := 180) rfl dX12_answer_178 3 rfl ?_
      refine EW_iconst (pc2 := 181) (v := (-1)) rfl dX12_answer_180 (by decide) ?_
      refine EW_icmp_ne (tgt := 188) (pc2 := 184) rfl dX12_answer_181 (by decide) (fun q => ?_) (fun q => ?_)
      · replace h := h.1 q
        refine EW_aload_n (pc2 := 189) rfl dX12_answer_188 0 rfl ?_
        refine EW_iconst (pc2 := 190) (v := (-1)) rfl dX12_answer_189 (by decide) ?_
        refine EW_iload (pc2 := 192) rfl dX12_answer_190 3 rfl ?_
        refine AW_invV (M' := MX12_soonest) [.int (-1), .int r7] (rest := []) mlRX12_549 okX12_soonest (pc2 := 195) rfl dX12_answer_192 rfl rfl (Nat.le_of_ble_eq_true rfl) (Nat.le_of_ble_eq_true rfl) (d' := 2) (by omega) q246 ⟨by decide, rfl⟩ (EW_mono (fun _ _ hr => ?_) (sX12_soonest (-1) r7  x _ _ 0 0 (Nat.le_refl _) h))
        obtain ⟨r8, x9, rfl, rfl, h⟩ := hr
        refine EW_ls [0, 2, 3] rfl ?_
        exact sX12_answer_195 v3 r7 r8 x9 K L158 d bc bs hdp hL158 h
      · replace h := h.2 q
        refine EW_iconst (pc2 := 185) (v := (-1)) rfl dX12_answer_184 (by decide) ?_
        refine EW_goto (tgt := 195) dX12_answer_185 (by decide) ?_
        refine EW_ls [0, 2, 3] rfl ?_
        exact sX12_answer_195 v3 r7 (-1) x K L158 d bc bs hdp hL158 h
set_option maxHeartbeats 4000000 in
set_option maxRecDepth 100000 in
theorem sX12_answer_50 (v1 : Int32) (v2 : Int32) (v3 : Int32)  (x : ab_X) (K : ab_X → Prop) (L43 : Int32 → ab_X → Prop) (d bc bs : Nat) (hdp : 211 ≤ d) (hL43 : ∀ (v2 : Int32) (x : ab_X), L43 v2 x → EW MX12_answer 43 [(0, .ref 246), (1, .int v1), (2, .int v2)] [] (aS x) d bc bs (liV K)) (h : Lp2 (lX12_answer_50 v1 v2 K L43) v3 x) : EW MX12_answer 50 [(0, .ref 246), (1, .int v1), (2, .int v2), (3, .int v3)] [] (aS x) d bc bs (liV K) := by
  refine Lp2.use (P := fun v3 x => EW MX12_answer 50 [(0, .ref 246), (1, .int v1), (2, .int v2), (3, .int v3)] [] (aS x) d bc bs (liV K)) (fun L50 v3 x hL50 h => ?_) v3 x h
  unfold lX12_answer_50 at h
  refine EW_iload_n (pc2 := 51) rfl dX12_answer_50 3 rfl ?_
  refine EW_aload_n (pc2 := 52) rfl dX12_answer_51 0 rfl ?_
  refine AW_getr (r := 319) ⟨gfRX12_241, rfl⟩ (pc2 := 55) rfl dX12_answer_52 q246 rfl ?_
  refine EW_iload_n (pc2 := 56) rfl dX12_answer_55 2 rfl ?_
  obtain ⟨b13, h⟩ := h
  refine AW_iald (pc2 := 57) rfl dX12_answer_56 q319 b13 ?_
  refine EW_icmp_ge (tgt := 148) (pc2 := 60) rfl dX12_answer_57 (by decide) (fun q => ?_) (fun q => ?_)
  · replace h := h.1 q
    refine EW_iinc (v2 + 1) (pc2 := 151) rfl dX12_answer_148 2 rfl rfl (by decide) [1, 2, 0, 3] [(0, .ref 246), (1, .int v1), (2, .int (v2 + 1)), (3, .int v3)] rfl ?_
    refine EW_goto (tgt := 43) dX12_answer_151 (by decide) ?_
    refine EW_ls [0, 1, 2] rfl ?_
    exact hL43 (v2 + 1) x h
  · replace h := h.2 q
    refine EW_aload_n (pc2 := 61) rfl dX12_answer_60 0 rfl ?_
    refine EW_iload_n (pc2 := 62) rfl dX12_answer_61 2 rfl ?_
    refine EW_aload_n (pc2 := 63) rfl dX12_answer_62 0 rfl ?_
    refine AW_getr (r := 310) ⟨gfRX12_214, rfl⟩ (pc2 := 66) rfl dX12_answer_63 q246 rfl ?_
    refine EW_iload_n (pc2 := 67) rfl dX12_answer_66 1 rfl ?_
    obtain ⟨b14, h⟩ := h
    refine AW_iald (pc2 := 68) rfl dX12_answer_67 q310 b14 ?_
    refine AW_invV (M' := MX12_soonest) [.int v2, .int (x.1 310 (Int32.toNatClampNeg v1))] (rest := []) mlRX12_549 okX12_soonest (pc2 := 71) rfl dX12_answer_68 rfl rfl (Nat.le_of_ble_eq_true rfl) (Nat.le_of_ble_eq_true rfl) (d' := 2) (by omega) q246 ⟨by decide, rfl⟩ (EW_mono (fun _ _ hr => ?_) (sX12_soonest v2 (x.1 310 (Int32.toNatClampNeg v1))  x _ _ 0 0 (Nat.le_refl _) h))
    obtain ⟨r15, x16, rfl, rfl, h⟩ := hr
    refine EW_istore (pc2 := 73) rfl dX12_answer_71 (by decide) [1, 2, 3, 4, 0] [(0, .ref 246), (1, .int v1), (2, .int v2), (3, .int v3), (4, .int r15)] rfl ?_
    refine EW_iload (pc2 := 75) rfl dX12_answer_73 4 rfl ?_
    refine EW_iconst (pc2 := 76) (v := (-1)) rfl dX12_answer_75 (by decide) ?_
    refine EW_icmp_ne (tgt := 92) (pc2 := 79) rfl dX12_answer_76 (by decide) (fun q => ?_) (fun q => ?_)
    · replace h := h.1 q
      refine EW_aload_n (pc2 := 93) rfl dX12_answer_92 0 rfl ?_
      refine AW_getr (r := 286) ⟨gfRX12_128, rfl⟩ (pc2 := 96) rfl dX12_answer_93 q246 rfl ?_
      refine EW_iload (pc2 := 98) rfl dX12_answer_96 4 rfl ?_
      refine EW_iconst (pc2 := 99) (v := 1) rfl dX12_answer_98 (by decide) ?_
      obtain ⟨b17, h⟩ := h
      refine AW_iast (pc2 := 100) rfl dX12_answer_99 q286 b17 ?_
      refine EW_aload_n (pc2 := 101) rfl dX12_answer_100 0 rfl ?_
      refine AW_getr (r := 287) ⟨gfRX12_131, rfl⟩ (pc2 := 104) rfl dX12_answer_101 q246 rfl ?_
      refine EW_iload (pc2 := 106) rfl dX12_answer_104 4 rfl ?_
      refine EW_aload_n (pc2 := 107) rfl dX12_answer_106 0 rfl ?_
      refine AW_getr (r := 310) ⟨gfRX12_214, rfl⟩ (pc2 := 110) rfl dX12_answer_107 q246 rfl ?_
      refine EW_iload_n (pc2 := 111) rfl dX12_answer_110 1 rfl ?_
      obtain ⟨b18, h⟩ := h
      refine AW_iald (pc2 := 112) rfl dX12_answer_111 q310 b18 ?_
      obtain ⟨b19, h⟩ := h
      refine AW_iast (pc2 := 113) rfl dX12_answer_112 q287 b19 ?_
      refine EW_aload_n (pc2 := 114) rfl dX12_answer_113 0 rfl ?_
      refine AW_getr (r := 288) ⟨gfRX12_134, rfl⟩ (pc2 := 117) rfl dX12_answer_114 q246 rfl ?_
      refine EW_iload (pc2 := 119) rfl dX12_answer_117 4 rfl ?_
      refine EW_aload_n (pc2 := 120) rfl dX12_answer_119 0 rfl ?_
      refine AW_geti ⟨gfRX12_546, rfl⟩ (pc2 := 123) rfl dX12_answer_120 q246 ?_
      obtain ⟨b20, h⟩ := h
      refine AW_iast (pc2 := 124) rfl dX12_answer_123 q288 b20 ?_
      refine EW_aload_n (pc2 := 125) rfl dX12_answer_124 0 rfl ?_
      refine AW_getr (r := 289) ⟨gfRX12_137, rfl⟩ (pc2 := 128) rfl dX12_answer_125 q246 rfl ?_
      refine EW_iload (pc2 := 130) rfl dX12_answer_128 4 rfl ?_
      refine EW_iload_n (pc2 := 131) rfl dX12_answer_130 1 rfl ?_
      obtain ⟨b21, h⟩ := h
      refine AW_iast (pc2 := 132) rfl dX12_answer_131 q289 b21 ?_
      refine EW_aload_n (pc2 := 133) rfl dX12_answer_132 0 rfl ?_
      refine AW_getr (r := 315) ⟨gfRX12_229, rfl⟩ (pc2 := 136) rfl dX12_answer_133 q246 rfl ?_
      refine EW_iload_n (pc2 := 137) rfl dX12_answer_136 1 rfl ?_
      refine EW_dup2 (pc2 := 138) rfl dX12_answer_137 rfl rfl ?_
      obtain ⟨b22, h⟩ := h
      refine AW_iald (pc2 := 139) rfl dX12_answer_138 q315 b22 ?_
      refine EW_iconst (pc2 := 140) (v := 1) rfl dX12_answer_139 (by decide) ?_
      refine EW_iadd (pc2 := 141) rfl dX12_answer_140 ?_
      obtain ⟨b23, h⟩ := h
      refine AW_iast (pc2 := 142) rfl dX12_answer_141 q315 b23 ?_
      refine EW_iinc (v3 + 1) (pc2 := 145) rfl dX12_answer_142 3 rfl rfl (by decide) [1, 2, 3, 0, 4] [(0, .ref 246), (1, .int v1), (2, .int v2), (3, .int (v3 + 1)), (4, .int r15)] rfl ?_
      refine EW_goto (tgt := 50) dX12_answer_145 (by decide) ?_
      refine EW_ls [0, 1, 2, 3] rfl ?_
      exact hL50 (v3 + 1) (wr (wr (wr (wr (wr x16 286 (Int32.toNatClampNeg r15) 1) 287 (Int32.toNatClampNeg r15) ((wr x16 286 (Int32.toNatClampNeg r15) 1).1 310 (Int32.toNatClampNeg v1))) 288 (Int32.toNatClampNeg r15) ((wr (wr x16 286 (Int32.toNatClampNeg r15) 1) 287 (Int32.toNatClampNeg r15) ((wr x16 286 (Int32.toNatClampNeg r15) 1).1 310 (Int32.toNatClampNeg v1))).1 246 93)) 289 (Int32.toNatClampNeg r15) v1) 315 (Int32.toNatClampNeg v1) (((wr (wr (wr (wr x16 286 (Int32.toNatClampNeg r15) 1) 287 (Int32.toNatClampNeg r15) ((wr x16 286 (Int32.toNatClampNeg r15) 1).1 310 (Int32.toNatClampNeg v1))) 288 (Int32.toNatClampNeg r15) ((wr (wr x16 286 (Int32.toNatClampNeg r15) 1) 287 (Int32.toNatClampNeg r15) ((wr x16 286 (Int32.toNatClampNeg r15) 1).1 310 (Int32.toNatClampNeg v1))).1 246 93)) 289 (Int32.toNatClampNeg r15) v1).1 315 (Int32.toNatClampNeg v1)) + 1)) h
    · replace h := h.2 q
      refine EW_aload_n (pc2 := 80) rfl dX12_answer_79 0 rfl ?_
      refine AW_getr (r := 316) ⟨gfRX12_232, rfl⟩ (pc2 := 83) rfl dX12_answer_80 q246 rfl ?_
      refine EW_iload_n (pc2 := 84) rfl dX12_answer_83 1 rfl ?_
      refine EW_dup2 (pc2 := 85) rfl dX12_answer_84 rfl rfl ?_
      obtain ⟨b24, h⟩ := h
      refine AW_iald (pc2 := 86) rfl dX12_answer_85 q316 b24 ?_
      refine EW_iconst (pc2 := 87) (v := 1) rfl dX12_answer_86 (by decide) ?_
      refine EW_iadd (pc2 := 88) rfl dX12_answer_87 ?_
      obtain ⟨b25, h⟩ := h
      refine AW_iast (pc2 := 89) rfl dX12_answer_88 q316 b25 ?_
      refine EW_goto (tgt := 142) dX12_answer_89 (by decide) ?_
      refine EW_iinc (v3 + 1) (pc2 := 145) rfl dX12_answer_142 3 rfl rfl (by decide) [1, 2, 3, 0, 4] [(0, .ref 246), (1, .int v1), (2, .int v2), (3, .int (v3 + 1)), (4, .int r15)] rfl ?_
      refine EW_goto (tgt := 50) dX12_answer_145 (by decide) ?_
      refine EW_ls [0, 1, 2, 3] rfl ?_
      exact hL50 (v3 + 1) (wr x16 316 (Int32.toNatClampNeg v1) ((x16.1 316 (Int32.toNatClampNeg v1)) + 1)) h
set_option maxHeartbeats 4000000 in
set_option maxRecDepth 100000 in
theorem sX12_answer_43 (v1 : Int32) (v2 : Int32)  (x : ab_X) (K : ab_X → Prop)  (d bc bs : Nat) (hdp : 211 ≤ d)  (h : Lp2 (lX12_answer_43 v1 K ) v2 x) : EW MX12_answer 43 [(0, .ref 246), (1, .int v1), (2, .int v2)] [] (aS x) d bc bs (liV K) := by
  refine Lp2.use (P := fun v2 x => EW MX12_answer 43 [(0, .ref 246), (1, .int v1), (2, .int v2)] [] (aS x) d bc bs (liV K)) (fun L43 v2 x hL43 h => ?_) v2 x h
  unfold lX12_answer_43 at h
  refine EW_iload_n (pc2 := 44) rfl dX12_answer_43 2 rfl ?_
  refine EW_iconst (pc2 := 45) (v := 3) rfl dX12_answer_44 (by decide) ?_
  refine EW_icmp_gt (tgt := 154) (pc2 := 48) rfl dX12_answer_45 (by decide) (fun q => ?_) (fun q => ?_)
  · replace h := h.1 q
    refine EW_iconst (pc2 := 155) (v := 1) rfl dX12_answer_154 (by decide) ?_
    refine EW_istore_n (pc2 := 156) rfl dX12_answer_155 (by decide) [1, 2, 0] [(0, .ref 246), (1, .int v1), (2, .int 1)] rfl ?_
    refine EW_iconst (pc2 := 157) (v := 0) rfl dX12_answer_156 (by decide) ?_
    refine EW_istore_n (pc2 := 158) rfl dX12_answer_157 (by decide) [1, 2, 3, 0] [(0, .ref 246), (1, .int v1), (2, .int 1), (3, .int 0)] rfl ?_
    refine EW_ls [0, 2, 3] rfl ?_
    exact sX12_answer_158 1 0 x K d bc bs hdp h
  · replace h := h.2 q
    refine EW_iconst (pc2 := 49) (v := 0) rfl dX12_answer_48 (by decide) ?_
    refine EW_istore_n (pc2 := 50) rfl dX12_answer_49 (by decide) [1, 2, 3, 0] [(0, .ref 246), (1, .int v1), (2, .int v2), (3, .int 0)] rfl ?_
    exact sX12_answer_50 v1 v2 0 x K L43 d bc bs hdp hL43 h
set_option maxHeartbeats 4000000 in
set_option maxRecDepth 100000 in
theorem sX12_answer_18 (v1 : Int32) (v2 : Int32)  (x : ab_X) (K : ab_X → Prop)  (d bc bs : Nat) (hdp : 211 ≤ d)  (h : Lp2 (lX12_answer_18 v1 K ) v2 x) : EW MX12_answer 18 [(0, .ref 246), (1, .int v1), (2, .int v2)] [] (aS x) d bc bs (liV K) := by
  refine Lp2.use (P := fun v2 x => EW MX12_answer 18 [(0, .ref 246), (1, .int v1), (2, .int v2)] [] (aS x) d bc bs (liV K)) (fun L18 v2 x hL18 h => ?_) v2 x h
  unfold lX12_answer_18 at h
  refine EW_iload_n (pc2 := 19) rfl dX12_answer_18 2 rfl ?_
  refine EW_iconst (pc2 := 20) (v := 5) rfl dX12_answer_19 (by decide) ?_
  refine EW_icmp_ge (tgt := 41) (pc2 := 23) rfl dX12_answer_20 (by decide) (fun q => ?_) (fun q => ?_)
  · replace h := h.1 q
    refine EW_iconst (pc2 := 42) (v := 0) rfl dX12_answer_41 (by decide) ?_
    refine EW_istore_n (pc2 := 43) rfl dX12_answer_42 (by decide) [1, 2, 0] [(0, .ref 246), (1, .int v1), (2, .int 0)] rfl ?_
    exact sX12_answer_43 v1 0 x K d bc bs hdp h
  · replace h := h.2 q
    refine EW_aload_n (pc2 := 24) rfl dX12_answer_23 0 rfl ?_
    refine AW_getr (r := 319) ⟨gfRX12_241, rfl⟩ (pc2 := 27) rfl dX12_answer_24 q246 rfl ?_
    refine EW_iload_n (pc2 := 28) rfl dX12_answer_27 2 rfl ?_
    refine EW_aload_n (pc2 := 29) rfl dX12_answer_28 0 rfl ?_
    refine AW_getr (r := 308) ⟨gfRX12_195, rfl⟩ (pc2 := 32) rfl dX12_answer_29 q246 rfl ?_
    refine EW_iload_n (pc2 := 33) rfl dX12_answer_32 2 rfl ?_
    obtain ⟨b4, h⟩ := h
    refine AW_iald (pc2 := 34) rfl dX12_answer_33 q308 b4 ?_
    obtain ⟨b5, h⟩ := h
    refine AW_iast (pc2 := 35) rfl dX12_answer_34 q319 b5 ?_
    refine EW_iinc (v2 + 1) (pc2 := 38) rfl dX12_answer_35 2 rfl rfl (by decide) [1, 2, 0] [(0, .ref 246), (1, .int v1), (2, .int (v2 + 1))] rfl ?_
    refine EW_goto (tgt := 18) dX12_answer_38 (by decide) ?_
    exact hL18 (v2 + 1) (wr x 319 (Int32.toNatClampNeg v2) (x.1 308 (Int32.toNatClampNeg v2))) h
set_option maxHeartbeats 4000000 in
set_option maxRecDepth 100000 in
theorem sX12_answer (v1 : Int32)  (x : ab_X) (K : ab_X → Prop) (d bc bs : Nat) (hdp : 211 ≤ d) (h : wX12_answer v1 x K) : EW MX12_answer 0 [(0, .ref 246), (1, .int v1)] [] (aS x) d bc bs (liV K) := by
  unfold wX12_answer at h
  refine EW_aload_n (pc2 := 1) rfl dX12_answer_0 0 rfl ?_
  refine EW_aload_n (pc2 := 2) rfl dX12_answer_1 0 rfl ?_
  refine AW_getr (r := 310) ⟨gfRX12_214, rfl⟩ (pc2 := 5) rfl dX12_answer_2 q246 rfl ?_
  refine EW_iload_n (pc2 := 6) rfl dX12_answer_5 1 rfl ?_
  obtain ⟨b1, h⟩ := h
  refine AW_iald (pc2 := 7) rfl dX12_answer_6 q310 b1 ?_
  refine EW_aload_n (pc2 := 8) rfl dX12_answer_7 0 rfl ?_
  refine AW_getr (r := 311) ⟨gfRX12_217, rfl⟩ (pc2 := 11) rfl dX12_answer_8 q246 rfl ?_
  refine EW_iload_n (pc2 := 12) rfl dX12_answer_11 1 rfl ?_
  obtain ⟨b2, h⟩ := h
  refine AW_iald (pc2 := 13) rfl dX12_answer_12 q311 b2 ?_
  refine AW_invV (M' := MX12_askFor) [.int (x.1 310 (Int32.toNatClampNeg v1)), .int (x.1 311 (Int32.toNatClampNeg v1))] (rest := []) mlRX12_540 okX12_askFor (pc2 := 16) rfl dX12_answer_13 rfl rfl (Nat.le_of_ble_eq_true rfl) (Nat.le_of_ble_eq_true rfl) (d' := 210) (by omega) q246 ⟨by decide, rfl⟩ (EW_mono (fun _ _ hr => ?_) (sX12_askFor (x.1 310 (Int32.toNatClampNeg v1)) (x.1 311 (Int32.toNatClampNeg v1))  x _ _ 0 0 (Nat.le_refl _) h))
  obtain ⟨x3, rfl, rfl, h⟩ := hr
  refine EW_iconst (pc2 := 17) (v := 0) rfl dX12_answer_16 (by decide) ?_
  refine EW_istore_n (pc2 := 18) rfl dX12_answer_17 (by decide) [1, 2, 0] [(0, .ref 246), (1, .int v1), (2, .int 0)] rfl ?_
  exact sX12_answer_18 v1 0 x3 K d bc bs hdp h
theorem gfRX12_226 : ab_L RX12 226 12 87 := ⟨by decide, by decide, ab_in 1936 (by decide +kernel) (by decide +kernel)⟩
abbrev MX12_close : ab_M := (yX12_close, cX12_close, 3, none)
theorem dX12_close_0 : decode cX12_close 0 = .ok (.aload_n 0, 1) := by decide +kernel
theorem dX12_close_1 : decode cX12_close 1 = .ok (.getfield 220, 3) := by decide +kernel
theorem dX12_close_4 : decode cX12_close 4 = .ok (.iload_n 1, 1) := by decide +kernel
theorem dX12_close_5 : decode cX12_close 5 = .ok (.iload_n 2, 1) := by decide +kernel
theorem dX12_close_6 : decode cX12_close 6 = .ok (.ifCond .eq 7, 3) := by decide +kernel
theorem dX12_close_9 : decode cX12_close 9 = .ok (.iconst 2, 1) := by decide +kernel
theorem dX12_close_10 : decode cX12_close 10 = .ok (.goto 4, 3) := by decide +kernel
theorem dX12_close_13 : decode cX12_close 13 = .ok (.iconst 1, 1) := by decide +kernel
theorem dX12_close_14 : decode cX12_close 14 = .ok (.iastore, 1) := by decide +kernel
theorem dX12_close_15 : decode cX12_close 15 = .ok (.aload_n 0, 1) := by decide +kernel
theorem dX12_close_16 : decode cX12_close 16 = .ok (.getfield 226, 3) := by decide +kernel
theorem dX12_close_19 : decode cX12_close 19 = .ok (.iload_n 1, 1) := by decide +kernel
theorem dX12_close_20 : decode cX12_close 20 = .ok (.aload_n 0, 1) := by decide +kernel
theorem dX12_close_21 : decode cX12_close 21 = .ok (.getfield 395, 3) := by decide +kernel
theorem dX12_close_24 : decode cX12_close 24 = .ok (.iastore, 1) := by decide +kernel
theorem dX12_close_25 : decode cX12_close 25 = .ok (.return_, 1) := by decide +kernel
theorem okX12_close : ab_okM MX12_close 2 := ⟨by decide, ⟨by decide, by decide⟩, ab_in 2558 (by decide +kernel) (by decide +kernel), ab_in 99 (by decide +kernel) (by decide +kernel), by decide +kernel, by decide⟩
set_option maxHeartbeats 4000000 in
set_option maxRecDepth 100000 in
theorem sX12_close_14 (v1 : Int32) (s1 : Int32) (s2 : Int32)  (x : ab_X) (K : ab_X → Prop)  (d bc bs : Nat) (hdp : 0 ≤ d)  (h : wX12_close_14 v1 s1 s2 x K ) : EW MX12_close 14 [(0, .ref 246), (1, .int v1)] [.int s2, .int s1, .ref 312] (aS x) d bc bs (liV K) := by
  unfold wX12_close_14 at h
  obtain ⟨b1, h⟩ := h
  refine AW_iast (pc2 := 15) rfl dX12_close_14 q312 b1 ?_
  refine EW_aload_n (pc2 := 16) rfl dX12_close_15 0 rfl ?_
  refine AW_getr (r := 314) ⟨gfRX12_226, rfl⟩ (pc2 := 19) rfl dX12_close_16 q246 rfl ?_
  refine EW_iload_n (pc2 := 20) rfl dX12_close_19 1 rfl ?_
  refine EW_aload_n (pc2 := 21) rfl dX12_close_20 0 rfl ?_
  refine AW_geti ⟨gfRX12_395, rfl⟩ (pc2 := 24) rfl dX12_close_21 q246 ?_
  obtain ⟨b2, h⟩ := h
  refine AW_iast (pc2 := 25) rfl dX12_close_24 q314 b2 ?_
  exact EW_vret rfl dX12_close_25 ⟨_, rfl, rfl, h⟩
set_option maxHeartbeats 4000000 in
set_option maxRecDepth 100000 in
theorem sX12_close (v1 : Int32) (v2 : Int32)  (x : ab_X) (K : ab_X → Prop) (d bc bs : Nat) (hdp : 0 ≤ d) (h : wX12_close v1 v2 x K) : EW MX12_close 0 [(0, .ref 246), (1, .int v1), (2, .int v2)] [] (aS x) d bc bs (liV K) := by
  unfold wX12_close at h
  refine EW_aload_n (pc2 := 1) rfl dX12_close_0 0 rfl ?_
  refine AW_getr (r := 312) ⟨gfRX12_220, rfl⟩ (pc2 := 4) rfl dX12_close_1 q246 rfl ?_
  refine EW_iload_n (pc2 := 5) rfl dX12_close_4 1 rfl ?_
  refine EW_iload_n (pc2 := 6) rfl dX12_close_5 2 rfl ?_
  refine EW_if_eq (tgt := 13) (pc2 := 9) rfl dX12_close_6 (by decide) (fun q => ?_) (fun q => ?_)
  · replace h := h.1 q
    refine EW_iconst (pc2 := 14) (v := 1) rfl dX12_close_13 (by decide) ?_
    refine EW_ls [0, 1] rfl ?_
    exact sX12_close_14 v1 v1 1 x K d bc bs hdp h
  · replace h := h.2 q
    refine EW_iconst (pc2 := 10) (v := 2) rfl dX12_close_9 (by decide) ?_
    refine EW_goto (tgt := 14) dX12_close_10 (by decide) ?_
    refine EW_ls [0, 1] rfl ?_
    exact sX12_close_14 v1 v1 2 x K d bc bs hdp h
abbrev MX12_rests : ab_M := (yX12_rests, cX12_rests, 3, none)
theorem dX12_rests_0 : decode cX12_rests 0 = .ok (.aload_n 0, 1) := by decide +kernel
theorem dX12_rests_1 : decode cX12_rests 1 = .ok (.getfield 128, 3) := by decide +kernel
theorem dX12_rests_4 : decode cX12_rests 4 = .ok (.iload_n 1, 1) := by decide +kernel
theorem dX12_rests_5 : decode cX12_rests 5 = .ok (.iconst 0, 1) := by decide +kernel
theorem dX12_rests_6 : decode cX12_rests 6 = .ok (.iastore, 1) := by decide +kernel
theorem dX12_rests_7 : decode cX12_rests 7 = .ok (.aload_n 0, 1) := by decide +kernel
theorem dX12_rests_8 : decode cX12_rests 8 = .ok (.getfield 131, 3) := by decide +kernel
theorem dX12_rests_11 : decode cX12_rests 11 = .ok (.iload_n 1, 1) := by decide +kernel
theorem dX12_rests_12 : decode cX12_rests 12 = .ok (.iload_n 2, 1) := by decide +kernel
theorem dX12_rests_13 : decode cX12_rests 13 = .ok (.iastore, 1) := by decide +kernel
theorem dX12_rests_14 : decode cX12_rests 14 = .ok (.aload_n 0, 1) := by decide +kernel
theorem dX12_rests_15 : decode cX12_rests 15 = .ok (.getfield 134, 3) := by decide +kernel
theorem dX12_rests_18 : decode cX12_rests 18 = .ok (.iload_n 1, 1) := by decide +kernel
theorem dX12_rests_19 : decode cX12_rests 19 = .ok (.iconst (-1), 1) := by decide +kernel
theorem dX12_rests_20 : decode cX12_rests 20 = .ok (.iastore, 1) := by decide +kernel
theorem dX12_rests_21 : decode cX12_rests 21 = .ok (.aload_n 0, 1) := by decide +kernel
theorem dX12_rests_22 : decode cX12_rests 22 = .ok (.getfield 140, 3) := by decide +kernel
theorem dX12_rests_25 : decode cX12_rests 25 = .ok (.iload_n 1, 1) := by decide +kernel
theorem dX12_rests_26 : decode cX12_rests 26 = .ok (.iconst (-1), 1) := by decide +kernel
theorem dX12_rests_27 : decode cX12_rests 27 = .ok (.iastore, 1) := by decide +kernel
theorem dX12_rests_28 : decode cX12_rests 28 = .ok (.aload_n 0, 1) := by decide +kernel
theorem dX12_rests_29 : decode cX12_rests 29 = .ok (.getfield 143, 3) := by decide +kernel
theorem dX12_rests_32 : decode cX12_rests 32 = .ok (.iload_n 1, 1) := by decide +kernel
theorem dX12_rests_33 : decode cX12_rests 33 = .ok (.iconst (-1), 1) := by decide +kernel
theorem dX12_rests_34 : decode cX12_rests 34 = .ok (.iastore, 1) := by decide +kernel
theorem dX12_rests_35 : decode cX12_rests 35 = .ok (.return_, 1) := by decide +kernel
theorem okX12_rests : ab_okM MX12_rests 2 := ⟨by decide, ⟨by decide, by decide⟩, ab_in 2360 (by decide +kernel) (by decide +kernel), ab_in 99 (by decide +kernel) (by decide +kernel), by decide +kernel, by decide⟩
set_option maxHeartbeats 4000000 in
set_option maxRecDepth 100000 in
theorem sX12_rests (v1 : Int32) (v2 : Int32)  (x : ab_X) (K : ab_X → Prop) (d bc bs : Nat) (hdp : 0 ≤ d) (h : wX12_rests v1 v2 x K) : EW MX12_rests 0 [(0, .ref 246), (1, .int v1), (2, .int v2)] [] (aS x) d bc bs (liV K) := by
  unfold wX12_rests at h
  refine EW_aload_n (pc2 := 1) rfl dX12_rests_0 0 rfl ?_
  refine AW_getr (r := 286) ⟨gfRX12_128, rfl⟩ (pc2 := 4) rfl dX12_rests_1 q246 rfl ?_
  refine EW_iload_n (pc2 := 5) rfl dX12_rests_4 1 rfl ?_
  refine EW_iconst (pc2 := 6) (v := 0) rfl dX12_rests_5 (by decide) ?_
  obtain ⟨b1, h⟩ := h
  refine AW_iast (pc2 := 7) rfl dX12_rests_6 q286 b1 ?_
  refine EW_aload_n (pc2 := 8) rfl dX12_rests_7 0 rfl ?_
  refine AW_getr (r := 287) ⟨gfRX12_131, rfl⟩ (pc2 := 11) rfl dX12_rests_8 q246 rfl ?_
  refine EW_iload_n (pc2 := 12) rfl dX12_rests_11 1 rfl ?_
  refine EW_iload_n (pc2 := 13) rfl dX12_rests_12 2 rfl ?_
  obtain ⟨b2, h⟩ := h
  refine AW_iast (pc2 := 14) rfl dX12_rests_13 q287 b2 ?_
  refine EW_aload_n (pc2 := 15) rfl dX12_rests_14 0 rfl ?_
  refine AW_getr (r := 288) ⟨gfRX12_134, rfl⟩ (pc2 := 18) rfl dX12_rests_15 q246 rfl ?_
  refine EW_iload_n (pc2 := 19) rfl dX12_rests_18 1 rfl ?_
  refine EW_iconst (pc2 := 20) (v := (-1)) rfl dX12_rests_19 (by decide) ?_
  obtain ⟨b3, h⟩ := h
  refine AW_iast (pc2 := 21) rfl dX12_rests_20 q288 b3 ?_
  refine EW_aload_n (pc2 := 22) rfl dX12_rests_21 0 rfl ?_
  refine AW_getr (r := 290) ⟨gfRX12_140, rfl⟩ (pc2 := 25) rfl dX12_rests_22 q246 rfl ?_
  refine EW_iload_n (pc2 := 26) rfl dX12_rests_25 1 rfl ?_
  refine EW_iconst (pc2 := 27) (v := (-1)) rfl dX12_rests_26 (by decide) ?_
  obtain ⟨b4, h⟩ := h
  refine AW_iast (pc2 := 28) rfl dX12_rests_27 q290 b4 ?_
  refine EW_aload_n (pc2 := 29) rfl dX12_rests_28 0 rfl ?_
  refine AW_getr (r := 291) ⟨gfRX12_143, rfl⟩ (pc2 := 32) rfl dX12_rests_29 q246 rfl ?_
  refine EW_iload_n (pc2 := 33) rfl dX12_rests_32 1 rfl ?_
  refine EW_iconst (pc2 := 34) (v := (-1)) rfl dX12_rests_33 (by decide) ?_
  obtain ⟨b5, h⟩ := h
  refine AW_iast (pc2 := 35) rfl dX12_rests_34 q291 b5 ?_
  exact EW_vret rfl dX12_rests_35 ⟨_, rfl, rfl, h⟩
theorem mlRX12_401 : Cond.methodLink RX12 401 yX12_rests ∈ ab_G ∧ Cond.instanceMethod yX12_rests ∈ ab_G ∧ Cond.selects RX12 yX12_rests yX12_rests ∈ ab_G := ⟨ab_in 2357 (by decide +kernel) (by decide +kernel), ab_in 2359 (by decide +kernel) (by decide +kernel), ab_in 29 (by decide +kernel) (by decide +kernel)⟩
abbrev MX12_turns : ab_M := (yX12_turns, cX12_turns, 4, none)
theorem dX12_turns_0 : decode cX12_turns 0 = .ok (.aload_n 0, 1) := by decide +kernel
theorem dX12_turns_1 : decode cX12_turns 1 = .ok (.iload_n 2, 1) := by decide +kernel
theorem dX12_turns_2 : decode cX12_turns 2 = .ok (.aload_n 0, 1) := by decide +kernel
theorem dX12_turns_3 : decode cX12_turns 3 = .ok (.getfield 110, 3) := by decide +kernel
theorem dX12_turns_6 : decode cX12_turns 6 = .ok (.iload_n 1, 1) := by decide +kernel
theorem dX12_turns_7 : decode cX12_turns 7 = .ok (.iaload, 1) := by decide +kernel
theorem dX12_turns_8 : decode cX12_turns 8 = .ok (.aload_n 0, 1) := by decide +kernel
theorem dX12_turns_9 : decode cX12_turns 9 = .ok (.getfield 395, 3) := by decide +kernel
theorem dX12_turns_12 : decode cX12_turns 12 = .ok (.aload_n 0, 1) := by decide +kernel
theorem dX12_turns_13 : decode cX12_turns 13 = .ok (.iload_n 1, 1) := by decide +kernel
theorem dX12_turns_14 : decode cX12_turns 14 = .ok (.invokevirtual 398, 3) := by decide +kernel
theorem dX12_turns_17 : decode cX12_turns 17 = .ok (.invokevirtual 324, 3) := by decide +kernel
theorem dX12_turns_20 : decode cX12_turns 20 = .ok (.istore_n 3, 1) := by decide +kernel
theorem dX12_turns_21 : decode cX12_turns 21 = .ok (.aload_n 0, 1) := by decide +kernel
theorem dX12_turns_22 : decode cX12_turns 22 = .ok (.iload_n 1, 1) := by decide +kernel
theorem dX12_turns_23 : decode cX12_turns 23 = .ok (.aload_n 0, 1) := by decide +kernel
theorem dX12_turns_24 : decode cX12_turns 24 = .ok (.getfield 110, 3) := by decide +kernel
theorem dX12_turns_27 : decode cX12_turns 27 = .ok (.iload_n 1, 1) := by decide +kernel
theorem dX12_turns_28 : decode cX12_turns 28 = .ok (.iaload, 1) := by decide +kernel
theorem dX12_turns_29 : decode cX12_turns 29 = .ok (.invokevirtual 401, 3) := by decide +kernel
theorem dX12_turns_32 : decode cX12_turns 32 = .ok (.iload_n 3, 1) := by decide +kernel
theorem dX12_turns_33 : decode cX12_turns 33 = .ok (.iconst (-1), 1) := by decide +kernel
theorem dX12_turns_34 : decode cX12_turns 34 = .ok (.if_icmp .eq 11, 3) := by decide +kernel
theorem dX12_turns_37 : decode cX12_turns 37 = .ok (.iload_n 3, 1) := by decide +kernel
theorem dX12_turns_38 : decode cX12_turns 38 = .ok (.aload_n 0, 1) := by decide +kernel
theorem dX12_turns_39 : decode cX12_turns 39 = .ok (.getfield 395, 3) := by decide +kernel
theorem dX12_turns_42 : decode cX12_turns 42 = .ok (.if_icmp .ne 4, 3) := by decide +kernel
theorem dX12_turns_45 : decode cX12_turns 45 = .ok (.return_, 1) := by decide +kernel
theorem dX12_turns_46 : decode cX12_turns 46 = .ok (.aload_n 0, 1) := by decide +kernel
theorem dX12_turns_47 : decode cX12_turns 47 = .ok (.getfield 128, 3) := by decide +kernel
theorem dX12_turns_50 : decode cX12_turns 50 = .ok (.iload_n 1, 1) := by decide +kernel
theorem dX12_turns_51 : decode cX12_turns 51 = .ok (.iconst 3, 1) := by decide +kernel
theorem dX12_turns_52 : decode cX12_turns 52 = .ok (.iastore, 1) := by decide +kernel
theorem dX12_turns_53 : decode cX12_turns 53 = .ok (.aload_n 0, 1) := by decide +kernel
theorem dX12_turns_54 : decode cX12_turns 54 = .ok (.getfield 134, 3) := by decide +kernel
theorem dX12_turns_57 : decode cX12_turns 57 = .ok (.iload_n 1, 1) := by decide +kernel
theorem dX12_turns_58 : decode cX12_turns 58 = .ok (.iload_n 3, 1) := by decide +kernel
theorem dX12_turns_59 : decode cX12_turns 59 = .ok (.iastore, 1) := by decide +kernel
theorem dX12_turns_60 : decode cX12_turns 60 = .ok (.return_, 1) := by decide +kernel
theorem okX12_turns : ab_okM MX12_turns 2 := ⟨by decide, ⟨by decide, by decide⟩, ab_in 2368 (by decide +kernel) (by decide +kernel), ab_in 99 (by decide +kernel) (by decide +kernel), by decide +kernel, by decide⟩
set_option maxHeartbeats 4000000 in
set_option maxRecDepth 100000 in
theorem sX12_turns (v1 : Int32) (v2 : Int32)  (x : ab_X) (K : ab_X → Prop) (d bc bs : Nat) (hdp : 2 ≤ d) (h : wX12_turns v1 v2 x K) : EW MX12_turns 0 [(0, .ref 246), (1, .int v1), (2, .int v2)] [] (aS x) d bc bs (liV K) := by
  unfold wX12_turns at h
  refine EW_aload_n (pc2 := 1) rfl dX12_turns_0 0 rfl ?_
  refine EW_iload_n (pc2 := 2) rfl dX12_turns_1 2 rfl ?_
  refine EW_aload_n (pc2 := 3) rfl dX12_turns_2 0 rfl ?_
  refine AW_getr (r := 280) ⟨gfRX12_110, rfl⟩ (pc2 := 6) rfl dX12_turns_3 q246 rfl ?_
  refine EW_iload_n (pc2 := 7) rfl dX12_turns_6 1 rfl ?_
  obtain ⟨b1, h⟩ := h
  refine AW_iald (pc2 := 8) rfl dX12_turns_7 q280 b1 ?_
  refine EW_aload_n (pc2 := 9) rfl dX12_turns_8 0 rfl ?_
  refine AW_geti ⟨gfRX12_395, rfl⟩ (pc2 := 12) rfl dX12_turns_9 q246 ?_
  refine EW_aload_n (pc2 := 13) rfl dX12_turns_12 0 rfl ?_
  refine EW_iload_n (pc2 := 14) rfl dX12_turns_13 1 rfl ?_
  refine AW_invV (M' := MX12_slowOf) [.int v1] (rest := [.int (x.1 246 1), .int (x.1 280 (Int32.toNatClampNeg v1)), .int v2, .ref 246]) mlRX12_398 okX12_slowOf (pc2 := 17) rfl dX12_turns_14 rfl rfl (Nat.le_of_ble_eq_true rfl) (Nat.le_of_ble_eq_true rfl) (d' := 0) (by omega) q246 ⟨by decide, rfl⟩ (EW_mono (fun _ _ hr => ?_) (sX12_slowOf v1  x _ _ 0 0 (Nat.le_refl _) h))
  obtain ⟨r2, rfl, rfl, h⟩ := hr
  refine AW_invV (M' := MX12_comeBy) [.int v2, .int (x.1 280 (Int32.toNatClampNeg v1)), .int (x.1 246 1), .int r2] (rest := []) mlRX12_324 okX12_comeBy (pc2 := 20) rfl dX12_turns_17 rfl rfl (Nat.le_of_ble_eq_true rfl) (Nat.le_of_ble_eq_true rfl) (d' := 1) (by omega) q246 ⟨by decide, rfl⟩ (EW_mono (fun _ _ hr => ?_) (sX12_comeBy v2 (x.1 280 (Int32.toNatClampNeg v1)) (x.1 246 1) r2  x _ _ 0 0 (Nat.le_refl _) h))
  obtain ⟨r3, x4, rfl, rfl, h⟩ := hr
  refine EW_istore_n (pc2 := 21) rfl dX12_turns_20 (by decide) [1, 2, 3, 0] [(0, .ref 246), (1, .int v1), (2, .int v2), (3, .int r3)] rfl ?_
  refine EW_aload_n (pc2 := 22) rfl dX12_turns_21 0 rfl ?_
  refine EW_iload_n (pc2 := 23) rfl dX12_turns_22 1 rfl ?_
  refine EW_aload_n (pc2 := 24) rfl dX12_turns_23 0 rfl ?_
  refine AW_getr (r := 280) ⟨gfRX12_110, rfl⟩ (pc2 := 27) rfl dX12_turns_24 q246 rfl ?_
  refine EW_iload_n (pc2 := 28) rfl dX12_turns_27 1 rfl ?_
  obtain ⟨b5, h⟩ := h
  refine AW_iald (pc2 := 29) rfl dX12_turns_28 q280 b5 ?_
  refine AW_invV (M' := MX12_rests) [.int v1, .int (x4.1 280 (Int32.toNatClampNeg v1))] (rest := []) mlRX12_401 okX12_rests (pc2 := 32) rfl dX12_turns_29 rfl rfl (Nat.le_of_ble_eq_true rfl) (Nat.le_of_ble_eq_true rfl) (d' := 0) (by omega) q246 ⟨by decide, rfl⟩ (EW_mono (fun _ _ hr => ?_) (sX12_rests v1 (x4.1 280 (Int32.toNatClampNeg v1))  x4 _ _ 0 0 (Nat.le_refl _) h))
  obtain ⟨x6, rfl, rfl, h⟩ := hr
  refine EW_iload_n (pc2 := 33) rfl dX12_turns_32 3 rfl ?_
  refine EW_iconst (pc2 := 34) (v := (-1)) rfl dX12_turns_33 (by decide) ?_
  refine EW_icmp_eq (tgt := 45) (pc2 := 37) rfl dX12_turns_34 (by decide) (fun q => ?_) (fun q => ?_)
  · replace h := h.1 q
    exact EW_vret rfl dX12_turns_45 ⟨_, rfl, rfl, h⟩
  · replace h := h.2 q
    refine EW_iload_n (pc2 := 38) rfl dX12_turns_37 3 rfl ?_
    refine EW_aload_n (pc2 := 39) rfl dX12_turns_38 0 rfl ?_
    refine AW_geti ⟨gfRX12_395, rfl⟩ (pc2 := 42) rfl dX12_turns_39 q246 ?_
    refine EW_icmp_ne (tgt := 46) (pc2 := 45) rfl dX12_turns_42 (by decide) (fun q => ?_) (fun q => ?_)
    · replace h := h.1 q
      refine EW_aload_n (pc2 := 47) rfl dX12_turns_46 0 rfl ?_
      refine AW_getr (r := 286) ⟨gfRX12_128, rfl⟩ (pc2 := 50) rfl dX12_turns_47 q246 rfl ?_
      refine EW_iload_n (pc2 := 51) rfl dX12_turns_50 1 rfl ?_
      refine EW_iconst (pc2 := 52) (v := 3) rfl dX12_turns_51 (by decide) ?_
      obtain ⟨b7, h⟩ := h
      refine AW_iast (pc2 := 53) rfl dX12_turns_52 q286 b7 ?_
      refine EW_aload_n (pc2 := 54) rfl dX12_turns_53 0 rfl ?_
      refine AW_getr (r := 288) ⟨gfRX12_134, rfl⟩ (pc2 := 57) rfl dX12_turns_54 q246 rfl ?_
      refine EW_iload_n (pc2 := 58) rfl dX12_turns_57 1 rfl ?_
      refine EW_iload_n (pc2 := 59) rfl dX12_turns_58 3 rfl ?_
      obtain ⟨b8, h⟩ := h
      refine AW_iast (pc2 := 60) rfl dX12_turns_59 q288 b8 ?_
      exact EW_vret rfl dX12_turns_60 ⟨_, rfl, rfl, h⟩
    · replace h := h.2 q
      exact EW_vret rfl dX12_turns_45 ⟨_, rfl, rfl, h⟩
