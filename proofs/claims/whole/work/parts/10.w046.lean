theorem gfRX12_110 : ab_L RX12 110 12 37 := ⟨by decide, by decide, ab_in 1886 (by decide +kernel) (by decide +kernel)⟩
abbrev MX12_emptyHome : ab_M := (yX12_emptyHome, cX12_emptyHome, 5, (some .int))
theorem dX12_emptyHome_0 : decode cX12_emptyHome 0 = .ok (.iconst 0, 1) := by decide +kernel
theorem dX12_emptyHome_1 : decode cX12_emptyHome 1 = .ok (.istore_n 1, 1) := by decide +kernel
theorem dX12_emptyHome_2 : decode cX12_emptyHome 2 = .ok (.iload_n 1, 1) := by decide +kernel
theorem dX12_emptyHome_3 : decode cX12_emptyHome 3 = .ok (.bipush 20, 2) := by decide +kernel
theorem dX12_emptyHome_5 : decode cX12_emptyHome 5 = .ok (.if_icmp .ge 104, 3) := by decide +kernel
theorem dX12_emptyHome_8 : decode cX12_emptyHome 8 = .ok (.iconst 0, 1) := by decide +kernel
theorem dX12_emptyHome_9 : decode cX12_emptyHome 9 = .ok (.istore_n 2, 1) := by decide +kernel
theorem dX12_emptyHome_10 : decode cX12_emptyHome 10 = .ok (.iconst 0, 1) := by decide +kernel
theorem dX12_emptyHome_11 : decode cX12_emptyHome 11 = .ok (.istore_n 3, 1) := by decide +kernel
theorem dX12_emptyHome_12 : decode cX12_emptyHome 12 = .ok (.iconst 0, 1) := by decide +kernel
theorem dX12_emptyHome_13 : decode cX12_emptyHome 13 = .ok (.istore 4, 2) := by decide +kernel
theorem dX12_emptyHome_15 : decode cX12_emptyHome 15 = .ok (.iload 4, 2) := by decide +kernel
theorem dX12_emptyHome_17 : decode cX12_emptyHome 17 = .ok (.aload_n 0, 1) := by decide +kernel
theorem dX12_emptyHome_18 : decode cX12_emptyHome 18 = .ok (.getfield 366, 3) := by decide +kernel
theorem dX12_emptyHome_21 : decode cX12_emptyHome 21 = .ok (.if_icmp .ge 72, 3) := by decide +kernel
theorem dX12_emptyHome_24 : decode cX12_emptyHome 24 = .ok (.iload_n 2, 1) := by decide +kernel
theorem dX12_emptyHome_25 : decode cX12_emptyHome 25 = .ok (.ifCond .ne 14, 3) := by decide +kernel
theorem dX12_emptyHome_28 : decode cX12_emptyHome 28 = .ok (.aload_n 0, 1) := by decide +kernel
theorem dX12_emptyHome_29 : decode cX12_emptyHome 29 = .ok (.getfield 110, 3) := by decide +kernel
theorem dX12_emptyHome_32 : decode cX12_emptyHome 32 = .ok (.iload 4, 2) := by decide +kernel
theorem dX12_emptyHome_34 : decode cX12_emptyHome 34 = .ok (.iaload, 1) := by decide +kernel
theorem dX12_emptyHome_35 : decode cX12_emptyHome 35 = .ok (.iload_n 1, 1) := by decide +kernel
theorem dX12_emptyHome_36 : decode cX12_emptyHome 36 = .ok (.if_icmp .ne 7, 3) := by decide +kernel
theorem dX12_emptyHome_39 : decode cX12_emptyHome 39 = .ok (.iconst 1, 1) := by decide +kernel
theorem dX12_emptyHome_40 : decode cX12_emptyHome 40 = .ok (.goto 4, 3) := by decide +kernel
theorem dX12_emptyHome_43 : decode cX12_emptyHome 43 = .ok (.iconst 0, 1) := by decide +kernel
theorem dX12_emptyHome_44 : decode cX12_emptyHome 44 = .ok (.istore_n 2, 1) := by decide +kernel
theorem dX12_emptyHome_45 : decode cX12_emptyHome 45 = .ok (.iload_n 3, 1) := by decide +kernel
theorem dX12_emptyHome_46 : decode cX12_emptyHome 46 = .ok (.ifCond .ne 35, 3) := by decide +kernel
theorem dX12_emptyHome_49 : decode cX12_emptyHome 49 = .ok (.aload_n 0, 1) := by decide +kernel
theorem dX12_emptyHome_50 : decode cX12_emptyHome 50 = .ok (.getfield 128, 3) := by decide +kernel
theorem dX12_emptyHome_53 : decode cX12_emptyHome 53 = .ok (.iload 4, 2) := by decide +kernel
theorem dX12_emptyHome_55 : decode cX12_emptyHome 55 = .ok (.iaload, 1) := by decide +kernel
theorem dX12_emptyHome_56 : decode cX12_emptyHome 56 = .ok (.ifCond .eq 14, 3) := by decide +kernel
theorem dX12_emptyHome_59 : decode cX12_emptyHome 59 = .ok (.aload_n 0, 1) := by decide +kernel
theorem dX12_emptyHome_60 : decode cX12_emptyHome 60 = .ok (.getfield 128, 3) := by decide +kernel
theorem dX12_emptyHome_63 : decode cX12_emptyHome 63 = .ok (.iload 4, 2) := by decide +kernel
theorem dX12_emptyHome_65 : decode cX12_emptyHome 65 = .ok (.iaload, 1) := by decide +kernel
theorem dX12_emptyHome_66 : decode cX12_emptyHome 66 = .ok (.iconst 3, 1) := by decide +kernel
theorem dX12_emptyHome_67 : decode cX12_emptyHome 67 = .ok (.if_icmp .ne 18, 3) := by decide +kernel
theorem dX12_emptyHome_70 : decode cX12_emptyHome 70 = .ok (.aload_n 0, 1) := by decide +kernel
theorem dX12_emptyHome_71 : decode cX12_emptyHome 71 = .ok (.getfield 131, 3) := by decide +kernel
theorem dX12_emptyHome_74 : decode cX12_emptyHome 74 = .ok (.iload 4, 2) := by decide +kernel
theorem dX12_emptyHome_76 : decode cX12_emptyHome 76 = .ok (.iaload, 1) := by decide +kernel
theorem dX12_emptyHome_77 : decode cX12_emptyHome 77 = .ok (.iload_n 1, 1) := by decide +kernel
theorem dX12_emptyHome_78 : decode cX12_emptyHome 78 = .ok (.if_icmp .ne 7, 3) := by decide +kernel
theorem dX12_emptyHome_81 : decode cX12_emptyHome 81 = .ok (.iconst 1, 1) := by decide +kernel
theorem dX12_emptyHome_82 : decode cX12_emptyHome 82 = .ok (.goto 4, 3) := by decide +kernel
theorem dX12_emptyHome_85 : decode cX12_emptyHome 85 = .ok (.iconst 0, 1) := by decide +kernel
theorem dX12_emptyHome_86 : decode cX12_emptyHome 86 = .ok (.istore_n 3, 1) := by decide +kernel
theorem dX12_emptyHome_87 : decode cX12_emptyHome 87 = .ok (.iinc 4 1, 3) := by decide +kernel
theorem dX12_emptyHome_90 : decode cX12_emptyHome 90 = .ok (.goto (-75), 3) := by decide +kernel
theorem dX12_emptyHome_93 : decode cX12_emptyHome 93 = .ok (.iload_n 2, 1) := by decide +kernel
theorem dX12_emptyHome_94 : decode cX12_emptyHome 94 = .ok (.ifCond .eq 9, 3) := by decide +kernel
theorem dX12_emptyHome_97 : decode cX12_emptyHome 97 = .ok (.iload_n 3, 1) := by decide +kernel
theorem dX12_emptyHome_98 : decode cX12_emptyHome 98 = .ok (.ifCond .ne 5, 3) := by decide +kernel
theorem dX12_emptyHome_101 : decode cX12_emptyHome 101 = .ok (.iload_n 1, 1) := by decide +kernel
theorem dX12_emptyHome_102 : decode cX12_emptyHome 102 = .ok (.ireturn, 1) := by decide +kernel
theorem dX12_emptyHome_103 : decode cX12_emptyHome 103 = .ok (.iinc 1 1, 3) := by decide +kernel
theorem dX12_emptyHome_106 : decode cX12_emptyHome 106 = .ok (.goto (-104), 3) := by decide +kernel
theorem dX12_emptyHome_109 : decode cX12_emptyHome 109 = .ok (.iconst (-1), 1) := by decide +kernel
theorem dX12_emptyHome_110 : decode cX12_emptyHome 110 = .ok (.ireturn, 1) := by decide +kernel
theorem okX12_emptyHome : ab_okM MX12_emptyHome 0 := ⟨by decide, ⟨by decide, by decide⟩, ab_in 2534 (by decide +kernel) (by decide +kernel), ab_in 99 (by decide +kernel) (by decide +kernel), by decide +kernel, by decide⟩
set_option maxHeartbeats 4000000 in
set_option maxRecDepth 100000 in
def wX12_emptyHome_81 (v1 : Int32) (v2 : Int32) (v4 : Int32) (x : ab_X) (K : Int32 → Prop) (L2 : Int32 → Prop) (L15 : Int32 → Int32 → Int32 → Prop) : Prop := L15 v2 1 (v4 + 1)
set_option maxHeartbeats 4000000 in
set_option maxRecDepth 100000 in
theorem sX12_emptyHome_81 (v1 : Int32) (v2 : Int32) (v4 : Int32)  (x : ab_X) (K : Int32 → Prop) (L2 : Int32 → Prop) (L15 : Int32 → Int32 → Int32 → Prop) (d bc bs : Nat) (hdp : 0 ≤ d) (hL2 : ∀ (v1 : Int32), L2 v1 → EW MX12_emptyHome 2 [(0, .ref 246), (1, .int v1)] [] (aS x) d bc bs (liP x K)) (hL15 : ∀ (v2 : Int32) (v3 : Int32) (v4 : Int32), L15 v2 v3 v4 → EW MX12_emptyHome 15 [(0, .ref 246), (1, .int v1), (2, .int v2), (3, .int v3), (4, .int v4)] [] (aS x) d bc bs (liP x K)) (h : wX12_emptyHome_81 v1 v2 v4 x K L2 L15) : EW MX12_emptyHome 81 [(0, .ref 246), (1, .int v1), (2, .int v2), (4, .int v4)] [] (aS x) d bc bs (liP x K) := by
  unfold wX12_emptyHome_81 at h
  refine EW_iconst (pc2 := 82) (v := 1) rfl dX12_emptyHome_81 (by decide) ?_
  refine EW_goto (tgt := 86) dX12_emptyHome_82 (by decide) ?_
  refine EW_istore_n (pc2 := 87) rfl dX12_emptyHome_86 (by decide) [1, 2, 3, 0, 4] [(0, .ref 246), (1, .int v1), (2, .int v2), (3, .int 1), (4, .int v4)] rfl ?_
  refine EW_iinc (v4 + 1) (pc2 := 90) rfl dX12_emptyHome_87 4 rfl rfl (by decide) [1, 2, 3, 4, 0] [(0, .ref 246), (1, .int v1), (2, .int v2), (3, .int 1), (4, .int (v4 + 1))] rfl ?_
  refine EW_goto (tgt := 15) dX12_emptyHome_90 (by decide) ?_
  exact hL15 v2 1 (v4 + 1) h
set_option maxHeartbeats 4000000 in
set_option maxRecDepth 100000 in
def wX12_emptyHome_85 (v1 : Int32) (v2 : Int32) (v4 : Int32) (x : ab_X) (K : Int32 → Prop) (L2 : Int32 → Prop) (L15 : Int32 → Int32 → Int32 → Prop) : Prop := L15 v2 0 (v4 + 1)
set_option maxHeartbeats 4000000 in
set_option maxRecDepth 100000 in
theorem sX12_emptyHome_85 (v1 : Int32) (v2 : Int32) (v4 : Int32)  (x : ab_X) (K : Int32 → Prop) (L2 : Int32 → Prop) (L15 : Int32 → Int32 → Int32 → Prop) (d bc bs : Nat) (hdp : 0 ≤ d) (hL2 : ∀ (v1 : Int32), L2 v1 → EW MX12_emptyHome 2 [(0, .ref 246), (1, .int v1)] [] (aS x) d bc bs (liP x K)) (hL15 : ∀ (v2 : Int32) (v3 : Int32) (v4 : Int32), L15 v2 v3 v4 → EW MX12_emptyHome 15 [(0, .ref 246), (1, .int v1), (2, .int v2), (3, .int v3), (4, .int v4)] [] (aS x) d bc bs (liP x K)) (h : wX12_emptyHome_85 v1 v2 v4 x K L2 L15) : EW MX12_emptyHome 85 [(0, .ref 246), (1, .int v1), (2, .int v2), (4, .int v4)] [] (aS x) d bc bs (liP x K) := by
  unfold wX12_emptyHome_85 at h
  refine EW_iconst (pc2 := 86) (v := 0) rfl dX12_emptyHome_85 (by decide) ?_
  refine EW_istore_n (pc2 := 87) rfl dX12_emptyHome_86 (by decide) [1, 2, 3, 0, 4] [(0, .ref 246), (1, .int v1), (2, .int v2), (3, .int 0), (4, .int v4)] rfl ?_
  refine EW_iinc (v4 + 1) (pc2 := 90) rfl dX12_emptyHome_87 4 rfl rfl (by decide) [1, 2, 3, 4, 0] [(0, .ref 246), (1, .int v1), (2, .int v2), (3, .int 0), (4, .int (v4 + 1))] rfl ?_
  refine EW_goto (tgt := 15) dX12_emptyHome_90 (by decide) ?_
  exact hL15 v2 0 (v4 + 1) h
set_option maxHeartbeats 4000000 in
set_option maxRecDepth 100000 in
def wX12_emptyHome_70 (v1 : Int32) (v2 : Int32) (v4 : Int32) (x : ab_X) (K : Int32 → Prop) (L2 : Int32 → Prop) (L15 : Int32 → Int32 → Int32 → Prop) : Prop := (vp_in v4 16 ∧ ((¬ (x.1 287 (Int32.toNatClampNeg v4)) = v1 → wX12_emptyHome_85 v1 v2 v4 x K L2 L15) ∧ ((x.1 287 (Int32.toNatClampNeg v4)) = v1 → wX12_emptyHome_81 v1 v2 v4 x K L2 L15)))
set_option maxHeartbeats 4000000 in
set_option maxRecDepth 100000 in
theorem sX12_emptyHome_70 (v1 : Int32) (v2 : Int32) (v4 : Int32)  (x : ab_X) (K : Int32 → Prop) (L2 : Int32 → Prop) (L15 : Int32 → Int32 → Int32 → Prop) (d bc bs : Nat) (hdp : 0 ≤ d) (hL2 : ∀ (v1 : Int32), L2 v1 → EW MX12_emptyHome 2 [(0, .ref 246), (1, .int v1)] [] (aS x) d bc bs (liP x K)) (hL15 : ∀ (v2 : Int32) (v3 : Int32) (v4 : Int32), L15 v2 v3 v4 → EW MX12_emptyHome 15 [(0, .ref 246), (1, .int v1), (2, .int v2), (3, .int v3), (4, .int v4)] [] (aS x) d bc bs (liP x K)) (h : wX12_emptyHome_70 v1 v2 v4 x K L2 L15) : EW MX12_emptyHome 70 [(0, .ref 246), (1, .int v1), (2, .int v2), (4, .int v4)] [] (aS x) d bc bs (liP x K) := by
  unfold wX12_emptyHome_70 at h
  refine EW_aload_n (pc2 := 71) rfl dX12_emptyHome_70 0 rfl ?_
  refine AW_getr (r := 287) ⟨gfRX12_131, rfl⟩ (pc2 := 74) rfl dX12_emptyHome_71 q246 rfl ?_
  refine EW_iload (pc2 := 76) rfl dX12_emptyHome_74 3 rfl ?_
  obtain ⟨b4, h⟩ := h
  refine AW_iald (pc2 := 77) rfl dX12_emptyHome_76 q287 b4 ?_
  refine EW_iload_n (pc2 := 78) rfl dX12_emptyHome_77 1 rfl ?_
  refine EW_icmp_ne (tgt := 85) (pc2 := 81) rfl dX12_emptyHome_78 (by decide) (fun q => ?_) (fun q => ?_)
  · replace h := h.1 q
    exact sX12_emptyHome_85 v1 v2 v4 x K L2 L15 d bc bs hdp hL2 hL15 h
  · replace h := h.2 q
    exact sX12_emptyHome_81 v1 v2 v4 x K L2 L15 d bc bs hdp hL2 hL15 h
set_option maxHeartbeats 4000000 in
set_option maxRecDepth 100000 in
def wX12_emptyHome_44 (v1 : Int32) (v3 : Int32) (v4 : Int32) (s0 : Int32) (x : ab_X) (K : Int32 → Prop) (L2 : Int32 → Prop) (L15 : Int32 → Int32 → Int32 → Prop) : Prop := ((¬ v3 = 0 → wX12_emptyHome_81 v1 s0 v4 x K L2 L15) ∧ (v3 = 0 → (vp_in v4 16 ∧ (((x.1 286 (Int32.toNatClampNeg v4)) = 0 → wX12_emptyHome_70 v1 s0 v4 x K L2 L15) ∧ (¬ (x.1 286 (Int32.toNatClampNeg v4)) = 0 → (vp_in v4 16 ∧ ((¬ (x.1 286 (Int32.toNatClampNeg v4)) = 3 → wX12_emptyHome_85 v1 s0 v4 x K L2 L15) ∧ ((x.1 286 (Int32.toNatClampNeg v4)) = 3 → wX12_emptyHome_70 v1 s0 v4 x K L2 L15))))))))
set_option maxHeartbeats 4000000 in
set_option maxRecDepth 100000 in
theorem sX12_emptyHome_44 (v1 : Int32) (v3 : Int32) (v4 : Int32) (s0 : Int32)  (x : ab_X) (K : Int32 → Prop) (L2 : Int32 → Prop) (L15 : Int32 → Int32 → Int32 → Prop) (d bc bs : Nat) (hdp : 0 ≤ d) (hL2 : ∀ (v1 : Int32), L2 v1 → EW MX12_emptyHome 2 [(0, .ref 246), (1, .int v1)] [] (aS x) d bc bs (liP x K)) (hL15 : ∀ (v2 : Int32) (v3 : Int32) (v4 : Int32), L15 v2 v3 v4 → EW MX12_emptyHome 15 [(0, .ref 246), (1, .int v1), (2, .int v2), (3, .int v3), (4, .int v4)] [] (aS x) d bc bs (liP x K)) (h : wX12_emptyHome_44 v1 v3 v4 s0 x K L2 L15) : EW MX12_emptyHome 44 [(0, .ref 246), (1, .int v1), (3, .int v3), (4, .int v4)] [.int s0] (aS x) d bc bs (liP x K) := by
  unfold wX12_emptyHome_44 at h
  refine EW_istore_n (pc2 := 45) rfl dX12_emptyHome_44 (by decide) [1, 2, 0, 3, 4] [(0, .ref 246), (1, .int v1), (2, .int s0), (3, .int v3), (4, .int v4)] rfl ?_
  refine EW_iload_n (pc2 := 46) rfl dX12_emptyHome_45 3 rfl ?_
  refine EW_if_ne (tgt := 81) (pc2 := 49) rfl dX12_emptyHome_46 (by decide) (fun q => ?_) (fun q => ?_)
  · replace h := h.1 q
    refine EW_ls [0, 1, 2, 4] rfl ?_
    exact sX12_emptyHome_81 v1 s0 v4 x K L2 L15 d bc bs hdp hL2 hL15 h
  · replace h := h.2 q
    refine EW_aload_n (pc2 := 50) rfl dX12_emptyHome_49 0 rfl ?_
    refine AW_getr (r := 286) ⟨gfRX12_128, rfl⟩ (pc2 := 53) rfl dX12_emptyHome_50 q246 rfl ?_
    refine EW_iload (pc2 := 55) rfl dX12_emptyHome_53 4 rfl ?_
    obtain ⟨b2, h⟩ := h
    refine AW_iald (pc2 := 56) rfl dX12_emptyHome_55 q286 b2 ?_
    refine EW_if_eq (tgt := 70) (pc2 := 59) rfl dX12_emptyHome_56 (by decide) (fun q => ?_) (fun q => ?_)
    · replace h := h.1 q
      refine EW_ls [0, 1, 2, 4] rfl ?_
      exact sX12_emptyHome_70 v1 s0 v4 x K L2 L15 d bc bs hdp hL2 hL15 h
    · replace h := h.2 q
      refine EW_aload_n (pc2 := 60) rfl dX12_emptyHome_59 0 rfl ?_
      refine AW_getr (r := 286) ⟨gfRX12_128, rfl⟩ (pc2 := 63) rfl dX12_emptyHome_60 q246 rfl ?_
      refine EW_iload (pc2 := 65) rfl dX12_emptyHome_63 4 rfl ?_
      obtain ⟨b3, h⟩ := h
      refine AW_iald (pc2 := 66) rfl dX12_emptyHome_65 q286 b3 ?_
      refine EW_iconst (pc2 := 67) (v := 3) rfl dX12_emptyHome_66 (by decide) ?_
      refine EW_icmp_ne (tgt := 85) (pc2 := 70) rfl dX12_emptyHome_67 (by decide) (fun q => ?_) (fun q => ?_)
      · replace h := h.1 q
        refine EW_ls [0, 1, 2, 4] rfl ?_
        exact sX12_emptyHome_85 v1 s0 v4 x K L2 L15 d bc bs hdp hL2 hL15 h
      · replace h := h.2 q
        refine EW_ls [0, 1, 2, 4] rfl ?_
        exact sX12_emptyHome_70 v1 s0 v4 x K L2 L15 d bc bs hdp hL2 hL15 h
set_option maxHeartbeats 4000000 in
set_option maxRecDepth 100000 in
def wX12_emptyHome_39 (v1 : Int32) (v3 : Int32) (v4 : Int32) (x : ab_X) (K : Int32 → Prop) (L2 : Int32 → Prop) (L15 : Int32 → Int32 → Int32 → Prop) : Prop := wX12_emptyHome_44 v1 v3 v4 1 x K L2 L15
set_option maxHeartbeats 4000000 in
set_option maxRecDepth 100000 in
theorem sX12_emptyHome_39 (v1 : Int32) (v3 : Int32) (v4 : Int32)  (x : ab_X) (K : Int32 → Prop) (L2 : Int32 → Prop) (L15 : Int32 → Int32 → Int32 → Prop) (d bc bs : Nat) (hdp : 0 ≤ d) (hL2 : ∀ (v1 : Int32), L2 v1 → EW MX12_emptyHome 2 [(0, .ref 246), (1, .int v1)] [] (aS x) d bc bs (liP x K)) (hL15 : ∀ (v2 : Int32) (v3 : Int32) (v4 : Int32), L15 v2 v3 v4 → EW MX12_emptyHome 15 [(0, .ref 246), (1, .int v1), (2, .int v2), (3, .int v3), (4, .int v4)] [] (aS x) d bc bs (liP x K)) (h : wX12_emptyHome_39 v1 v3 v4 x K L2 L15) : EW MX12_emptyHome 39 [(0, .ref 246), (1, .int v1), (3, .int v3), (4, .int v4)] [] (aS x) d bc bs (liP x K) := by
  unfold wX12_emptyHome_39 at h
  refine EW_iconst (pc2 := 40) (v := 1) rfl dX12_emptyHome_39 (by decide) ?_
  refine EW_goto (tgt := 44) dX12_emptyHome_40 (by decide) ?_
  exact sX12_emptyHome_44 v1 v3 v4 1 x K L2 L15 d bc bs hdp hL2 hL15 h
set_option maxHeartbeats 4000000 in
set_option maxRecDepth 100000 in
def lX12_emptyHome_15 (v1 : Int32) (x : ab_X) (K : Int32 → Prop) (L2 : Int32 → Prop) (L15 : Int32 → Int32 → Int32 → Prop) (v2 : Int32) (v3 : Int32) (v4 : Int32) : Prop := (((x.1 246 58) ≤ v4 → ((v2 = 0 → L2 (v1 + 1)) ∧ (¬ v2 = 0 → ((¬ v3 = 0 → L2 (v1 + 1)) ∧ (v3 = 0 → K v1))))) ∧ (¬ (x.1 246 58) ≤ v4 → ((¬ v2 = 0 → wX12_emptyHome_39 v1 v3 v4 x K L2 L15) ∧ (v2 = 0 → (vp_in v4 16 ∧ ((¬ (x.1 280 (Int32.toNatClampNeg v4)) = v1 → wX12_emptyHome_44 v1 v3 v4 0 x K L2 L15) ∧ ((x.1 280 (Int32.toNatClampNeg v4)) = v1 → wX12_emptyHome_39 v1 v3 v4 x K L2 L15)))))))
set_option maxHeartbeats 4000000 in
set_option maxRecDepth 100000 in
theorem sX12_emptyHome_15 (v1 : Int32) (v2 : Int32) (v3 : Int32) (v4 : Int32)  (x : ab_X) (K : Int32 → Prop) (L2 : Int32 → Prop) (d bc bs : Nat) (hdp : 0 ≤ d) (hL2 : ∀ (v1 : Int32), L2 v1 → EW MX12_emptyHome 2 [(0, .ref 246), (1, .int v1)] [] (aS x) d bc bs (liP x K)) (h : Lp3 (lX12_emptyHome_15 v1 x K L2) v2 v3 v4) : EW MX12_emptyHome 15 [(0, .ref 246), (1, .int v1), (2, .int v2), (3, .int v3), (4, .int v4)] [] (aS x) d bc bs (liP x K) := by
  refine Lp3.use (P := fun v2 v3 v4 => EW MX12_emptyHome 15 [(0, .ref 246), (1, .int v1), (2, .int v2), (3, .int v3), (4, .int v4)] [] (aS x) d bc bs (liP x K)) (fun L15 v2 v3 v4 hL15 h => ?_) v2 v3 v4 h
  unfold lX12_emptyHome_15 at h
  refine EW_iload (pc2 := 17) rfl dX12_emptyHome_15 4 rfl ?_
  refine EW_aload_n (pc2 := 18) rfl dX12_emptyHome_17 0 rfl ?_
  refine AW_geti ⟨gfRX12_366, rfl⟩ (pc2 := 21) rfl dX12_emptyHome_18 q246 ?_
  refine EW_icmp_ge (tgt := 93) (pc2 := 24) rfl dX12_emptyHome_21 (by decide) (fun q => ?_) (fun q => ?_)
  · replace h := h.1 q
    refine EW_iload_n (pc2 := 94) rfl dX12_emptyHome_93 2 rfl ?_
    refine EW_if_eq (tgt := 103) (pc2 := 97) rfl dX12_emptyHome_94 (by decide) (fun q => ?_) (fun q => ?_)
    · replace h := h.1 q
      refine EW_iinc (v1 + 1) (pc2 := 106) rfl dX12_emptyHome_103 1 rfl rfl (by decide) [1, 0, 2, 3, 4] [(0, .ref 246), (1, .int (v1 + 1)), (2, .int v2), (3, .int v3), (4, .int v4)] rfl ?_
      refine EW_goto (tgt := 2) dX12_emptyHome_106 (by decide) ?_
      refine EW_ls [0, 1] rfl ?_
      exact hL2 (v1 + 1) h
    · replace h := h.2 q
      refine EW_iload_n (pc2 := 98) rfl dX12_emptyHome_97 3 rfl ?_
      refine EW_if_ne (tgt := 103) (pc2 := 101) rfl dX12_emptyHome_98 (by decide) (fun q => ?_) (fun q => ?_)
      · replace h := h.1 q
        refine EW_iinc (v1 + 1) (pc2 := 106) rfl dX12_emptyHome_103 1 rfl rfl (by decide) [1, 0, 2, 3, 4] [(0, .ref 246), (1, .int (v1 + 1)), (2, .int v2), (3, .int v3), (4, .int v4)] rfl ?_
        refine EW_goto (tgt := 2) dX12_emptyHome_106 (by decide) ?_
        refine EW_ls [0, 1] rfl ?_
        exact hL2 (v1 + 1) h
      · replace h := h.2 q
        refine EW_iload_n (pc2 := 102) rfl dX12_emptyHome_101 1 rfl ?_
        exact AW_iret rfl dX12_emptyHome_102 ⟨_, rfl, rfl, h⟩
  · replace h := h.2 q
    refine EW_iload_n (pc2 := 25) rfl dX12_emptyHome_24 2 rfl ?_
    refine EW_if_ne (tgt := 39) (pc2 := 28) rfl dX12_emptyHome_25 (by decide) (fun q => ?_) (fun q => ?_)
    · replace h := h.1 q
      refine EW_ls [0, 1, 3, 4] rfl ?_
      exact sX12_emptyHome_39 v1 v3 v4 x K L2 L15 d bc bs hdp hL2 hL15 h
    · replace h := h.2 q
      refine EW_aload_n (pc2 := 29) rfl dX12_emptyHome_28 0 rfl ?_
      refine AW_getr (r := 280) ⟨gfRX12_110, rfl⟩ (pc2 := 32) rfl dX12_emptyHome_29 q246 rfl ?_
      refine EW_iload (pc2 := 34) rfl dX12_emptyHome_32 4 rfl ?_
      obtain ⟨b1, h⟩ := h
      refine AW_iald (pc2 := 35) rfl dX12_emptyHome_34 q280 b1 ?_
      refine EW_iload_n (pc2 := 36) rfl dX12_emptyHome_35 1 rfl ?_
      refine EW_icmp_ne (tgt := 43) (pc2 := 39) rfl dX12_emptyHome_36 (by decide) (fun q => ?_) (fun q => ?_)
      · replace h := h.1 q
        refine EW_iconst (pc2 := 44) (v := 0) rfl dX12_emptyHome_43 (by decide) ?_
        refine EW_ls [0, 1, 3, 4] rfl ?_
        exact sX12_emptyHome_44 v1 v3 v4 0 x K L2 L15 d bc bs hdp hL2 hL15 h
      · replace h := h.2 q
        refine EW_ls [0, 1, 3, 4] rfl ?_
        exact sX12_emptyHome_39 v1 v3 v4 x K L2 L15 d bc bs hdp hL2 hL15 h
set_option maxHeartbeats 4000000 in
set_option maxRecDepth 100000 in
def lX12_emptyHome_2  (x : ab_X) (K : Int32 → Prop)  (L2 : Int32 → Prop) (v1 : Int32) : Prop := ((20 ≤ v1 → K (-1)) ∧ (¬ 20 ≤ v1 → Lp3 (lX12_emptyHome_15 v1 x K L2) 0 0 0))
set_option maxHeartbeats 4000000 in
set_option maxRecDepth 100000 in
theorem sX12_emptyHome_2 (v1 : Int32)  (x : ab_X) (K : Int32 → Prop)  (d bc bs : Nat) (hdp : 0 ≤ d)  (h : Lp1 (lX12_emptyHome_2  x K ) v1) : EW MX12_emptyHome 2 [(0, .ref 246), (1, .int v1)] [] (aS x) d bc bs (liP x K) := by
  refine Lp1.use (P := fun v1 => EW MX12_emptyHome 2 [(0, .ref 246), (1, .int v1)] [] (aS x) d bc bs (liP x K)) (fun L2 v1 hL2 h => ?_) v1 h
  unfold lX12_emptyHome_2 at h
  refine EW_iload_n (pc2 := 3) rfl dX12_emptyHome_2 1 rfl ?_
  refine EW_bipush (pc2 := 5) (v := 20) rfl dX12_emptyHome_3 (by decide) ?_
  refine EW_icmp_ge (tgt := 109) (pc2 := 8) rfl dX12_emptyHome_5 (by decide) (fun q => ?_) (fun q => ?_)
  · replace h := h.1 q
    refine EW_iconst (pc2 := 110) (v := (-1)) rfl dX12_emptyHome_109 (by decide) ?_
    exact AW_iret rfl dX12_emptyHome_110 ⟨_, rfl, rfl, h⟩
  · replace h := h.2 q
    refine EW_iconst (pc2 := 9) (v := 0) rfl dX12_emptyHome_8 (by decide) ?_
    refine EW_istore_n (pc2 := 10) rfl dX12_emptyHome_9 (by decide) [1, 2, 0] [(0, .ref 246), (1, .int v1), (2, .int 0)] rfl ?_
    refine EW_iconst (pc2 := 11) (v := 0) rfl dX12_emptyHome_10 (by decide) ?_
    refine EW_istore_n (pc2 := 12) rfl dX12_emptyHome_11 (by decide) [1, 2, 3, 0] [(0, .ref 246), (1, .int v1), (2, .int 0), (3, .int 0)] rfl ?_
    refine EW_iconst (pc2 := 13) (v := 0) rfl dX12_emptyHome_12 (by decide) ?_
    refine EW_istore (pc2 := 15) rfl dX12_emptyHome_13 (by decide) [1, 2, 3, 4, 0] [(0, .ref 246), (1, .int v1), (2, .int 0), (3, .int 0), (4, .int 0)] rfl ?_
    exact sX12_emptyHome_15 v1 0 0 0 x K L2 d bc bs hdp hL2 h
set_option maxHeartbeats 4000000 in
set_option maxRecDepth 100000 in
def wX12_emptyHome  (x : ab_X) (K : Int32 → Prop) : Prop := Lp1 (lX12_emptyHome_2 x K ) 0
set_option maxHeartbeats 4000000 in
set_option maxRecDepth 100000 in
theorem sX12_emptyHome   (x : ab_X) (K : Int32 → Prop) (d bc bs : Nat) (hdp : 0 ≤ d) (h : wX12_emptyHome  x K) : EW MX12_emptyHome 0 [(0, .ref 246)] [] (aS x) d bc bs (liP x K) := by
  unfold wX12_emptyHome at h
  refine EW_iconst (pc2 := 1) (v := 0) rfl dX12_emptyHome_0 (by decide) ?_
  refine EW_istore_n (pc2 := 2) rfl dX12_emptyHome_1 (by decide) [1, 0] [(0, .ref 246), (1, .int 0)] rfl ?_
  exact sX12_emptyHome_2 0 x K d bc bs hdp h
