theorem gfRX5_64 : ab_L RX5 64 4 9 := ⟨by decide, by decide, ab_in 249 (by decide +kernel) (by decide +kernel)⟩
abbrev MX5_useAt : ab_M := (yX5_useAt, cX5_useAt, 6, (some .int))
theorem dX5_useAt_0 : decode cX5_useAt 0 = .ok (.iconst (-1), 1) := by decide +kernel
theorem dX5_useAt_1 : decode cX5_useAt 1 = .ok (.istore_n 3, 1) := by decide +kernel
theorem dX5_useAt_2 : decode cX5_useAt 2 = .ok (.iconst 0, 1) := by decide +kernel
theorem dX5_useAt_3 : decode cX5_useAt 3 = .ok (.istore 4, 2) := by decide +kernel
theorem dX5_useAt_5 : decode cX5_useAt 5 = .ok (.iload 4, 2) := by decide +kernel
theorem dX5_useAt_7 : decode cX5_useAt 7 = .ok (.aload_n 0, 1) := by decide +kernel
theorem dX5_useAt_8 : decode cX5_useAt 8 = .ok (.getfield 50, 3) := by decide +kernel
theorem dX5_useAt_11 : decode cX5_useAt 11 = .ok (.if_icmp .ge 78, 3) := by decide +kernel
theorem dX5_useAt_14 : decode cX5_useAt 14 = .ok (.aload_n 0, 1) := by decide +kernel
theorem dX5_useAt_15 : decode cX5_useAt 15 = .ok (.getfield 24, 3) := by decide +kernel
theorem dX5_useAt_18 : decode cX5_useAt 18 = .ok (.iload 4, 2) := by decide +kernel
theorem dX5_useAt_20 : decode cX5_useAt 20 = .ok (.iaload, 1) := by decide +kernel
theorem dX5_useAt_21 : decode cX5_useAt 21 = .ok (.iload_n 1, 1) := by decide +kernel
theorem dX5_useAt_22 : decode cX5_useAt 22 = .ok (.if_icmp .ne 29, 3) := by decide +kernel
theorem dX5_useAt_25 : decode cX5_useAt 25 = .ok (.aload_n 0, 1) := by decide +kernel
theorem dX5_useAt_26 : decode cX5_useAt 26 = .ok (.getfield 30, 3) := by decide +kernel
theorem dX5_useAt_29 : decode cX5_useAt 29 = .ok (.iload 4, 2) := by decide +kernel
theorem dX5_useAt_31 : decode cX5_useAt 31 = .ok (.iaload, 1) := by decide +kernel
theorem dX5_useAt_32 : decode cX5_useAt 32 = .ok (.iconst (-1), 1) := by decide +kernel
theorem dX5_useAt_33 : decode cX5_useAt 33 = .ok (.if_icmp .eq 18, 3) := by decide +kernel
theorem dX5_useAt_36 : decode cX5_useAt 36 = .ok (.aload_n 0, 1) := by decide +kernel
theorem dX5_useAt_37 : decode cX5_useAt 37 = .ok (.getfield 27, 3) := by decide +kernel
theorem dX5_useAt_40 : decode cX5_useAt 40 = .ok (.iload 4, 2) := by decide +kernel
theorem dX5_useAt_42 : decode cX5_useAt 42 = .ok (.iaload, 1) := by decide +kernel
theorem dX5_useAt_43 : decode cX5_useAt 43 = .ok (.iload_n 2, 1) := by decide +kernel
theorem dX5_useAt_44 : decode cX5_useAt 44 = .ok (.if_icmp .gt 7, 3) := by decide +kernel
theorem dX5_useAt_47 : decode cX5_useAt 47 = .ok (.iconst 1, 1) := by decide +kernel
theorem dX5_useAt_48 : decode cX5_useAt 48 = .ok (.goto 4, 3) := by decide +kernel
theorem dX5_useAt_51 : decode cX5_useAt 51 = .ok (.iconst 0, 1) := by decide +kernel
theorem dX5_useAt_52 : decode cX5_useAt 52 = .ok (.istore 5, 2) := by decide +kernel
theorem dX5_useAt_54 : decode cX5_useAt 54 = .ok (.iload 5, 2) := by decide +kernel
theorem dX5_useAt_56 : decode cX5_useAt 56 = .ok (.ifCond .eq 27, 3) := by decide +kernel
theorem dX5_useAt_59 : decode cX5_useAt 59 = .ok (.iload_n 3, 1) := by decide +kernel
theorem dX5_useAt_60 : decode cX5_useAt 60 = .ok (.iconst (-1), 1) := by decide +kernel
theorem dX5_useAt_61 : decode cX5_useAt 61 = .ok (.if_icmp .eq 19, 3) := by decide +kernel
theorem dX5_useAt_64 : decode cX5_useAt 64 = .ok (.aload_n 0, 1) := by decide +kernel
theorem dX5_useAt_65 : decode cX5_useAt 65 = .ok (.getfield 33, 3) := by decide +kernel
theorem dX5_useAt_68 : decode cX5_useAt 68 = .ok (.iload 4, 2) := by decide +kernel
theorem dX5_useAt_70 : decode cX5_useAt 70 = .ok (.iaload, 1) := by decide +kernel
theorem dX5_useAt_71 : decode cX5_useAt 71 = .ok (.aload_n 0, 1) := by decide +kernel
theorem dX5_useAt_72 : decode cX5_useAt 72 = .ok (.getfield 33, 3) := by decide +kernel
theorem dX5_useAt_75 : decode cX5_useAt 75 = .ok (.iload_n 3, 1) := by decide +kernel
theorem dX5_useAt_76 : decode cX5_useAt 76 = .ok (.iaload, 1) := by decide +kernel
theorem dX5_useAt_77 : decode cX5_useAt 77 = .ok (.if_icmp .lt 6, 3) := by decide +kernel
theorem dX5_useAt_80 : decode cX5_useAt 80 = .ok (.iload 4, 2) := by decide +kernel
theorem dX5_useAt_82 : decode cX5_useAt 82 = .ok (.istore_n 3, 1) := by decide +kernel
theorem dX5_useAt_83 : decode cX5_useAt 83 = .ok (.iinc 4 1, 3) := by decide +kernel
theorem dX5_useAt_86 : decode cX5_useAt 86 = .ok (.goto (-81), 3) := by decide +kernel
theorem dX5_useAt_89 : decode cX5_useAt 89 = .ok (.iload_n 3, 1) := by decide +kernel
theorem dX5_useAt_90 : decode cX5_useAt 90 = .ok (.iconst (-1), 1) := by decide +kernel
theorem dX5_useAt_91 : decode cX5_useAt 91 = .ok (.if_icmp .ne 18, 3) := by decide +kernel
theorem dX5_useAt_94 : decode cX5_useAt 94 = .ok (.aload_n 0, 1) := by decide +kernel
theorem dX5_useAt_95 : decode cX5_useAt 95 = .ok (.getfield 41, 3) := by decide +kernel
theorem dX5_useAt_98 : decode cX5_useAt 98 = .ok (.getfield 53, 3) := by decide +kernel
theorem dX5_useAt_101 : decode cX5_useAt 101 = .ok (.iload_n 1, 1) := by decide +kernel
theorem dX5_useAt_102 : decode cX5_useAt 102 = .ok (.aaload, 1) := by decide +kernel
theorem dX5_useAt_103 : decode cX5_useAt 103 = .ok (.getfield 64, 3) := by decide +kernel
theorem dX5_useAt_106 : decode cX5_useAt 106 = .ok (.goto 9, 3) := by decide +kernel
theorem dX5_useAt_109 : decode cX5_useAt 109 = .ok (.aload_n 0, 1) := by decide +kernel
theorem dX5_useAt_110 : decode cX5_useAt 110 = .ok (.getfield 30, 3) := by decide +kernel
theorem dX5_useAt_113 : decode cX5_useAt 113 = .ok (.iload_n 3, 1) := by decide +kernel
theorem dX5_useAt_114 : decode cX5_useAt 114 = .ok (.iaload, 1) := by decide +kernel
theorem dX5_useAt_115 : decode cX5_useAt 115 = .ok (.ireturn, 1) := by decide +kernel
theorem okX5_useAt : ab_okM MX5_useAt 2 := ⟨by decide, ⟨by decide, by decide⟩, ab_in 1546 (by decide +kernel) (by decide +kernel), ab_in 97 (by decide +kernel) (by decide +kernel), by decide +kernel, by decide⟩
set_option maxHeartbeats 4000000 in
set_option maxRecDepth 100000 in
def wX5_useAt_80 (v1 : Int32) (v2 : Int32) (v4 : Int32) (x : ab_X) (K : Int32 → Prop) (L5 : Int32 → Int32 → Prop) : Prop := L5 v4 (v4 + 1)
set_option maxHeartbeats 4000000 in
set_option maxRecDepth 100000 in
theorem sX5_useAt_80 (v1 : Int32) (v2 : Int32) (v4 : Int32)  (x : ab_X) (K : Int32 → Prop) (L5 : Int32 → Int32 → Prop) (d bc bs : Nat) (hdp : 0 ≤ d) (hL5 : ∀ (v3 : Int32) (v4 : Int32), L5 v3 v4 → EW MX5_useAt 5 [(0, .ref 165), (1, .int v1), (2, .int v2), (3, .int v3), (4, .int v4)] [] (aS x) d bc bs (liP x K)) (h : wX5_useAt_80 v1 v2 v4 x K L5) : EW MX5_useAt 80 [(0, .ref 165), (1, .int v1), (2, .int v2), (4, .int v4)] [] (aS x) d bc bs (liP x K) := by
  unfold wX5_useAt_80 at h
  refine EW_iload (pc2 := 82) rfl dX5_useAt_80 3 rfl ?_
  refine EW_istore_n (pc2 := 83) rfl dX5_useAt_82 (by decide) [1, 2, 3, 0, 4] [(0, .ref 165), (1, .int v1), (2, .int v2), (3, .int v4), (4, .int v4)] rfl ?_
  refine EW_iinc (v4 + 1) (pc2 := 86) rfl dX5_useAt_83 4 rfl rfl (by decide) [1, 2, 3, 4, 0] [(0, .ref 165), (1, .int v1), (2, .int v2), (3, .int v4), (4, .int (v4 + 1))] rfl ?_
  refine EW_goto (tgt := 5) dX5_useAt_86 (by decide) ?_
  exact hL5 v4 (v4 + 1) h
set_option maxHeartbeats 4000000 in
set_option maxRecDepth 100000 in
def wX5_useAt_52 (v1 : Int32) (v2 : Int32) (v3 : Int32) (v4 : Int32) (s0 : Int32) (x : ab_X) (K : Int32 → Prop) (L5 : Int32 → Int32 → Prop) : Prop := ((s0 = 0 → L5 v3 (v4 + 1)) ∧ (¬ s0 = 0 → ((v3 = (-1) → wX5_useAt_80 v1 v2 v4 x K L5) ∧ (¬ v3 = (-1) → (vp_in v4 100 ∧ vp_in v3 100 ∧ (((x.1 172 (Int32.toNatClampNeg v4)) < (x.1 172 (Int32.toNatClampNeg v3)) → L5 v3 (v4 + 1)) ∧ (¬ (x.1 172 (Int32.toNatClampNeg v4)) < (x.1 172 (Int32.toNatClampNeg v3)) → wX5_useAt_80 v1 v2 v4 x K L5)))))))
set_option maxHeartbeats 4000000 in
set_option maxRecDepth 100000 in
theorem sX5_useAt_52 (v1 : Int32) (v2 : Int32) (v3 : Int32) (v4 : Int32) (s0 : Int32)  (x : ab_X) (K : Int32 → Prop) (L5 : Int32 → Int32 → Prop) (d bc bs : Nat) (hdp : 0 ≤ d) (hL5 : ∀ (v3 : Int32) (v4 : Int32), L5 v3 v4 → EW MX5_useAt 5 [(0, .ref 165), (1, .int v1), (2, .int v2), (3, .int v3), (4, .int v4)] [] (aS x) d bc bs (liP x K)) (h : wX5_useAt_52 v1 v2 v3 v4 s0 x K L5) : EW MX5_useAt 52 [(0, .ref 165), (1, .int v1), (2, .int v2), (3, .int v3), (4, .int v4)] [.int s0] (aS x) d bc bs (liP x K) := by
  unfold wX5_useAt_52 at h
  refine EW_istore (pc2 := 54) rfl dX5_useAt_52 (by decide) [1, 2, 3, 4, 5, 0] [(0, .ref 165), (1, .int v1), (2, .int v2), (3, .int v3), (4, .int v4), (5, .int s0)] rfl ?_
  refine EW_iload (pc2 := 56) rfl dX5_useAt_54 5 rfl ?_
  refine EW_if_eq (tgt := 83) (pc2 := 59) rfl dX5_useAt_56 (by decide) (fun q => ?_) (fun q => ?_)
  · replace h := h.1 q
    refine EW_iinc (v4 + 1) (pc2 := 86) rfl dX5_useAt_83 4 rfl rfl (by decide) [1, 2, 3, 4, 0, 5] [(0, .ref 165), (1, .int v1), (2, .int v2), (3, .int v3), (4, .int (v4 + 1)), (5, .int s0)] rfl ?_
    refine EW_goto (tgt := 5) dX5_useAt_86 (by decide) ?_
    refine EW_ls [0, 1, 2, 3, 4] rfl ?_
    exact hL5 v3 (v4 + 1) h
  · replace h := h.2 q
    refine EW_iload_n (pc2 := 60) rfl dX5_useAt_59 3 rfl ?_
    refine EW_iconst (pc2 := 61) (v := (-1)) rfl dX5_useAt_60 (by decide) ?_
    refine EW_icmp_eq (tgt := 80) (pc2 := 64) rfl dX5_useAt_61 (by decide) (fun q => ?_) (fun q => ?_)
    · replace h := h.1 q
      refine EW_ls [0, 1, 2, 4] rfl ?_
      exact sX5_useAt_80 v1 v2 v4 x K L5 d bc bs hdp hL5 h
    · replace h := h.2 q
      refine EW_aload_n (pc2 := 65) rfl dX5_useAt_64 0 rfl ?_
      refine AW_getr (r := 172) ⟨gfRX5_33, rfl⟩ (pc2 := 68) rfl dX5_useAt_65 q165 rfl ?_
      refine EW_iload (pc2 := 70) rfl dX5_useAt_68 4 rfl ?_
      obtain ⟨b6, h⟩ := h
      refine AW_iald (pc2 := 71) rfl dX5_useAt_70 q172 b6 ?_
      refine EW_aload_n (pc2 := 72) rfl dX5_useAt_71 0 rfl ?_
      refine AW_getr (r := 172) ⟨gfRX5_33, rfl⟩ (pc2 := 75) rfl dX5_useAt_72 q165 rfl ?_
      refine EW_iload_n (pc2 := 76) rfl dX5_useAt_75 3 rfl ?_
      obtain ⟨b7, h⟩ := h
      refine AW_iald (pc2 := 77) rfl dX5_useAt_76 q172 b7 ?_
      refine EW_icmp_lt (tgt := 83) (pc2 := 80) rfl dX5_useAt_77 (by decide) (fun q => ?_) (fun q => ?_)
      · replace h := h.1 q
        refine EW_iinc (v4 + 1) (pc2 := 86) rfl dX5_useAt_83 4 rfl rfl (by decide) [1, 2, 3, 4, 0, 5] [(0, .ref 165), (1, .int v1), (2, .int v2), (3, .int v3), (4, .int (v4 + 1)), (5, .int s0)] rfl ?_
        refine EW_goto (tgt := 5) dX5_useAt_86 (by decide) ?_
        refine EW_ls [0, 1, 2, 3, 4] rfl ?_
        exact hL5 v3 (v4 + 1) h
      · replace h := h.2 q
        refine EW_ls [0, 1, 2, 4] rfl ?_
        exact sX5_useAt_80 v1 v2 v4 x K L5 d bc bs hdp hL5 h
set_option maxHeartbeats 4000000 in
set_option maxRecDepth 100000 in
def wX5_useAt_51 (v1 : Int32) (v2 : Int32) (v3 : Int32) (v4 : Int32) (x : ab_X) (K : Int32 → Prop) (L5 : Int32 → Int32 → Prop) : Prop := wX5_useAt_52 v1 v2 v3 v4 0 x K L5
set_option maxHeartbeats 4000000 in
set_option maxRecDepth 100000 in
theorem sX5_useAt_51 (v1 : Int32) (v2 : Int32) (v3 : Int32) (v4 : Int32)  (x : ab_X) (K : Int32 → Prop) (L5 : Int32 → Int32 → Prop) (d bc bs : Nat) (hdp : 0 ≤ d) (hL5 : ∀ (v3 : Int32) (v4 : Int32), L5 v3 v4 → EW MX5_useAt 5 [(0, .ref 165), (1, .int v1), (2, .int v2), (3, .int v3), (4, .int v4)] [] (aS x) d bc bs (liP x K)) (h : wX5_useAt_51 v1 v2 v3 v4 x K L5) : EW MX5_useAt 51 [(0, .ref 165), (1, .int v1), (2, .int v2), (3, .int v3), (4, .int v4)] [] (aS x) d bc bs (liP x K) := by
  unfold wX5_useAt_51 at h
  refine EW_iconst (pc2 := 52) (v := 0) rfl dX5_useAt_51 (by decide) ?_
  exact sX5_useAt_52 v1 v2 v3 v4 0 x K L5 d bc bs hdp hL5 h
set_option maxHeartbeats 4000000 in
set_option maxRecDepth 100000 in
def lX5_useAt_5 (v1 : Int32) (v2 : Int32) (x : ab_X) (K : Int32 → Prop)  (L5 : Int32 → Int32 → Prop) (v3 : Int32) (v4 : Int32) : Prop := (((x.1 165 9) ≤ v4 → ((¬ v3 = (-1) → (vp_in v3 100 ∧ K (x.1 171 (Int32.toNatClampNeg v3)))) ∧ (v3 = (-1) → (vp_in v1 12 ∧ K (x.1 (30 + 3 * Int32.toNatClampNeg v1) 9))))) ∧ (¬ (x.1 165 9) ≤ v4 → (vp_in v4 100 ∧ ((¬ (x.1 169 (Int32.toNatClampNeg v4)) = v1 → wX5_useAt_51 v1 v2 v3 v4 x K L5) ∧ ((x.1 169 (Int32.toNatClampNeg v4)) = v1 → (vp_in v4 100 ∧ (((x.1 171 (Int32.toNatClampNeg v4)) = (-1) → wX5_useAt_51 v1 v2 v3 v4 x K L5) ∧ (¬ (x.1 171 (Int32.toNatClampNeg v4)) = (-1) → (vp_in v4 100 ∧ ((v2 < (x.1 170 (Int32.toNatClampNeg v4)) → wX5_useAt_51 v1 v2 v3 v4 x K L5) ∧ (¬ v2 < (x.1 170 (Int32.toNatClampNeg v4)) → wX5_useAt_52 v1 v2 v3 v4 1 x K L5)))))))))))
set_option maxHeartbeats 4000000 in
set_option maxRecDepth 100000 in
theorem sX5_useAt_5 (v1 : Int32) (v2 : Int32) (v3 : Int32) (v4 : Int32)  (x : ab_X) (K : Int32 → Prop)  (d bc bs : Nat) (hdp : 0 ≤ d)  (h : Lp2 (lX5_useAt_5 v1 v2 x K ) v3 v4) : EW MX5_useAt 5 [(0, .ref 165), (1, .int v1), (2, .int v2), (3, .int v3), (4, .int v4)] [] (aS x) d bc bs (liP x K) := by
  refine Lp2.use (P := fun v3 v4 => EW MX5_useAt 5 [(0, .ref 165), (1, .int v1), (2, .int v2), (3, .int v3), (4, .int v4)] [] (aS x) d bc bs (liP x K)) (fun L5 v3 v4 hL5 h => ?_) v3 v4 h
  unfold lX5_useAt_5 at h
  refine EW_iload (pc2 := 7) rfl dX5_useAt_5 4 rfl ?_
  refine EW_aload_n (pc2 := 8) rfl dX5_useAt_7 0 rfl ?_
  refine AW_geti ⟨gfRX5_50, rfl⟩ (pc2 := 11) rfl dX5_useAt_8 q165 ?_
  refine EW_icmp_ge (tgt := 89) (pc2 := 14) rfl dX5_useAt_11 (by decide) (fun q => ?_) (fun q => ?_)
  · replace h := h.1 q
    refine EW_iload_n (pc2 := 90) rfl dX5_useAt_89 3 rfl ?_
    refine EW_iconst (pc2 := 91) (v := (-1)) rfl dX5_useAt_90 (by decide) ?_
    refine EW_icmp_ne (tgt := 109) (pc2 := 94) rfl dX5_useAt_91 (by decide) (fun q => ?_) (fun q => ?_)
    · replace h := h.1 q
      refine EW_aload_n (pc2 := 110) rfl dX5_useAt_109 0 rfl ?_
      refine AW_getr (r := 171) ⟨gfRX5_30, rfl⟩ (pc2 := 113) rfl dX5_useAt_110 q165 rfl ?_
      refine EW_iload_n (pc2 := 114) rfl dX5_useAt_113 3 rfl ?_
      obtain ⟨b1, h⟩ := h
      refine AW_iald (pc2 := 115) rfl dX5_useAt_114 q171 b1 ?_
      exact AW_iret rfl dX5_useAt_115 ⟨_, rfl, rfl, h⟩
    · replace h := h.2 q
      refine EW_aload_n (pc2 := 95) rfl dX5_useAt_94 0 rfl ?_
      refine AW_getr (r := 9) ⟨gfRX5_41, rfl⟩ (pc2 := 98) rfl dX5_useAt_95 q165 rfl ?_
      refine AW_getr (r := 10) ⟨gfRX5_53, rfl⟩ (pc2 := 101) rfl dX5_useAt_98 q9 rfl ?_
      refine EW_iload_n (pc2 := 102) rfl dX5_useAt_101 1 rfl ?_
      obtain ⟨b2, h⟩ := h
      refine AW_aald5 (pc2 := 103) rfl dX5_useAt_102 b2 ?_
      refine AW_geti ⟨gfRX5_64, rfl⟩ (pc2 := 106) rfl dX5_useAt_103 (isH.o (isH_of b2)) ?_
      refine EW_goto (tgt := 115) dX5_useAt_106 (by decide) ?_
      exact AW_iret rfl dX5_useAt_115 ⟨_, rfl, rfl, h⟩
  · replace h := h.2 q
    refine EW_aload_n (pc2 := 15) rfl dX5_useAt_14 0 rfl ?_
    refine AW_getr (r := 169) ⟨gfRX5_24, rfl⟩ (pc2 := 18) rfl dX5_useAt_15 q165 rfl ?_
    refine EW_iload (pc2 := 20) rfl dX5_useAt_18 4 rfl ?_
    obtain ⟨b3, h⟩ := h
    refine AW_iald (pc2 := 21) rfl dX5_useAt_20 q169 b3 ?_
    refine EW_iload_n (pc2 := 22) rfl dX5_useAt_21 1 rfl ?_
    refine EW_icmp_ne (tgt := 51) (pc2 := 25) rfl dX5_useAt_22 (by decide) (fun q => ?_) (fun q => ?_)
    · replace h := h.1 q
      exact sX5_useAt_51 v1 v2 v3 v4 x K L5 d bc bs hdp hL5 h
    · replace h := h.2 q
      refine EW_aload_n (pc2 := 26) rfl dX5_useAt_25 0 rfl ?_
      refine AW_getr (r := 171) ⟨gfRX5_30, rfl⟩ (pc2 := 29) rfl dX5_useAt_26 q165 rfl ?_
      refine EW_iload (pc2 := 31) rfl dX5_useAt_29 4 rfl ?_
      obtain ⟨b4, h⟩ := h
      refine AW_iald (pc2 := 32) rfl dX5_useAt_31 q171 b4 ?_
      refine EW_iconst (pc2 := 33) (v := (-1)) rfl dX5_useAt_32 (by decide) ?_
      refine EW_icmp_eq (tgt := 51) (pc2 := 36) rfl dX5_useAt_33 (by decide) (fun q => ?_) (fun q => ?_)
      · replace h := h.1 q
        exact sX5_useAt_51 v1 v2 v3 v4 x K L5 d bc bs hdp hL5 h
      · replace h := h.2 q
        refine EW_aload_n (pc2 := 37) rfl dX5_useAt_36 0 rfl ?_
        refine AW_getr (r := 170) ⟨gfRX5_27, rfl⟩ (pc2 := 40) rfl dX5_useAt_37 q165 rfl ?_
        refine EW_iload (pc2 := 42) rfl dX5_useAt_40 4 rfl ?_
        obtain ⟨b5, h⟩ := h
        refine AW_iald (pc2 := 43) rfl dX5_useAt_42 q170 b5 ?_
        refine EW_iload_n (pc2 := 44) rfl dX5_useAt_43 2 rfl ?_
        refine EW_icmp_gt (tgt := 51) (pc2 := 47) rfl dX5_useAt_44 (by decide) (fun q => ?_) (fun q => ?_)
        · replace h := h.1 q
          exact sX5_useAt_51 v1 v2 v3 v4 x K L5 d bc bs hdp hL5 h
        · replace h := h.2 q
          refine EW_iconst (pc2 := 48) (v := 1) rfl dX5_useAt_47 (by decide) ?_
          refine EW_goto (tgt := 52) dX5_useAt_48 (by decide) ?_
          exact sX5_useAt_52 v1 v2 v3 v4 1 x K L5 d bc bs hdp hL5 h
set_option maxHeartbeats 4000000 in
set_option maxRecDepth 100000 in
def wX5_useAt (v1 : Int32) (v2 : Int32) (x : ab_X) (K : Int32 → Prop) : Prop := Lp2 (lX5_useAt_5 v1 v2 x K ) (-1) 0
set_option maxHeartbeats 4000000 in
set_option maxRecDepth 100000 in
theorem sX5_useAt (v1 : Int32) (v2 : Int32)  (x : ab_X) (K : Int32 → Prop) (d bc bs : Nat) (hdp : 0 ≤ d) (h : wX5_useAt v1 v2 x K) : EW MX5_useAt 0 [(0, .ref 165), (1, .int v1), (2, .int v2)] [] (aS x) d bc bs (liP x K) := by
  unfold wX5_useAt at h
  refine EW_iconst (pc2 := 1) (v := (-1)) rfl dX5_useAt_0 (by decide) ?_
  refine EW_istore_n (pc2 := 2) rfl dX5_useAt_1 (by decide) [1, 2, 3, 0] [(0, .ref 165), (1, .int v1), (2, .int v2), (3, .int (-1))] rfl ?_
  refine EW_iconst (pc2 := 3) (v := 0) rfl dX5_useAt_2 (by decide) ?_
  refine EW_istore (pc2 := 5) rfl dX5_useAt_3 (by decide) [1, 2, 3, 4, 0] [(0, .ref 165), (1, .int v1), (2, .int v2), (3, .int (-1)), (4, .int 0)] rfl ?_
  exact sX5_useAt_5 v1 v2 (-1) 0 x K d bc bs hdp h
theorem gfRX5_38 : ab_L RX5 38 5 10 := ⟨by decide, by decide, ab_in 641 (by decide +kernel) (by decide +kernel)⟩
theorem mlRX5_125 : Cond.methodLink RX5 125 yX4_beside ∈ ab_G ∧ Cond.instanceMethod yX4_beside ∈ ab_G ∧ Cond.selects RX4 yX4_beside yX4_beside ∈ ab_G := ⟨ab_in 1567 (by decide +kernel) (by decide +kernel), ab_in 1568 (by decide +kernel) (by decide +kernel), ab_in 1569 (by decide +kernel) (by decide +kernel)⟩
theorem gfRX5_106 : ab_L RX5 106 4 0 := ⟨by decide, by decide, ab_in 215 (by decide +kernel) (by decide +kernel)⟩
theorem mlRX5_129 : Cond.methodLink RX5 129 yX5_daysSinceLook ∈ ab_G ∧ Cond.instanceMethod yX5_daysSinceLook ∈ ab_G ∧ Cond.selects RX5 yX5_daysSinceLook yX5_daysSinceLook ∈ ab_G := ⟨ab_in 1571 (by decide +kernel) (by decide +kernel), ab_in 1572 (by decide +kernel) (by decide +kernel), ab_in 1573 (by decide +kernel) (by decide +kernel)⟩
theorem gfRX5_118 : ab_L RX5 118 4 7 := ⟨by decide, by decide, ab_in 244 (by decide +kernel) (by decide +kernel)⟩
theorem gfRX5_121 : ab_L RX5 121 4 6 := ⟨by decide, by decide, ab_in 241 (by decide +kernel) (by decide +kernel)⟩
theorem gfRX5_92 : ab_L RX5 92 4 3 := ⟨by decide, by decide, ab_in 228 (by decide +kernel) (by decide +kernel)⟩
theorem gfRX5_103 : ab_L RX5 103 4 4 := ⟨by decide, by decide, ab_in 234 (by decide +kernel) (by decide +kernel)⟩
theorem mlRX5_109 : Cond.methodLink RX5 109 yX5_useAt ∈ ab_G ∧ Cond.instanceMethod yX5_useAt ∈ ab_G ∧ Cond.selects RX5 yX5_useAt yX5_useAt ∈ ab_G := ⟨ab_in 1566 (by decide +kernel) (by decide +kernel), ab_in 1544 (by decide +kernel) (by decide +kernel), ab_in 1545 (by decide +kernel) (by decide +kernel)⟩
theorem gfRX5_112 : ab_L RX5 112 4 2 := ⟨by decide, by decide, ab_in 223 (by decide +kernel) (by decide +kernel)⟩
theorem gfRX5_115 : ab_L RX5 115 4 5 := ⟨by decide, by decide, ab_in 238 (by decide +kernel) (by decide +kernel)⟩
theorem gfRX5_95 : ab_L RX5 95 4 12 := ⟨by decide, by decide, ab_in 258 (by decide +kernel) (by decide +kernel)⟩
theorem mmRX5_98 : Cond.methodLink RX5 98 Lib.Math.max.name ∈ ab_G ∧ Cond.static Lib.Math.max.name ∈ ab_G ∧ Cond.initialized "java/lang/Math" ∈ ab_G ∧ Cond.code Lib.Math.max.name Lib.Math.max.code 2 (some .int) ∈ ab_G := ⟨ab_in 1565 (by decide +kernel) (by decide +kernel), ab_in 909 (by decide +kernel) (by decide +kernel), ab_in 100 (by decide +kernel) (by decide +kernel), ab_in 910 (by decide +kernel) (by decide +kernel)⟩
abbrev MX5_spell : ab_M := (yX5_spell, cX5_spell, 5, none)
theorem dX5_spell_0 : decode cX5_spell 0 = .ok (.iconst 0, 1) := by decide +kernel
theorem dX5_spell_1 : decode cX5_spell 1 = .ok (.istore_n 3, 1) := by decide +kernel
theorem dX5_spell_2 : decode cX5_spell 2 = .ok (.iconst 0, 1) := by decide +kernel
theorem dX5_spell_3 : decode cX5_spell 3 = .ok (.istore 4, 2) := by decide +kernel
theorem dX5_spell_5 : decode cX5_spell 5 = .ok (.iload 4, 2) := by decide +kernel
theorem dX5_spell_7 : decode cX5_spell 7 = .ok (.aload_n 1, 1) := by decide +kernel
theorem dX5_spell_8 : decode cX5_spell 8 = .ok (.getfield 92, 3) := by decide +kernel
theorem dX5_spell_11 : decode cX5_spell 11 = .ok (.if_icmp .ge 21, 3) := by decide +kernel
theorem dX5_spell_14 : decode cX5_spell 14 = .ok (.iload_n 3, 1) := by decide +kernel
theorem dX5_spell_15 : decode cX5_spell 15 = .ok (.aload_n 1, 1) := by decide +kernel
theorem dX5_spell_16 : decode cX5_spell 16 = .ok (.getfield 95, 3) := by decide +kernel
theorem dX5_spell_19 : decode cX5_spell 19 = .ok (.iload 4, 2) := by decide +kernel
theorem dX5_spell_21 : decode cX5_spell 21 = .ok (.iaload, 1) := by decide +kernel
theorem dX5_spell_22 : decode cX5_spell 22 = .ok (.invokestatic 98, 3) := by decide +kernel
theorem dX5_spell_25 : decode cX5_spell 25 = .ok (.istore_n 3, 1) := by decide +kernel
theorem dX5_spell_26 : decode cX5_spell 26 = .ok (.iinc 4 1, 3) := by decide +kernel
theorem dX5_spell_29 : decode cX5_spell 29 = .ok (.goto (-24), 3) := by decide +kernel
theorem dX5_spell_32 : decode cX5_spell 32 = .ok (.aload_n 0, 1) := by decide +kernel
theorem dX5_spell_33 : decode cX5_spell 33 = .ok (.getfield 38, 3) := by decide +kernel
theorem dX5_spell_36 : decode cX5_spell 36 = .ok (.iconst 0, 1) := by decide +kernel
theorem dX5_spell_37 : decode cX5_spell 37 = .ok (.aload_n 1, 1) := by decide +kernel
theorem dX5_spell_38 : decode cX5_spell 38 = .ok (.getfield 92, 3) := by decide +kernel
theorem dX5_spell_41 : decode cX5_spell 41 = .ok (.iastore, 1) := by decide +kernel
theorem dX5_spell_42 : decode cX5_spell 42 = .ok (.aload_n 0, 1) := by decide +kernel
theorem dX5_spell_43 : decode cX5_spell 43 = .ok (.getfield 38, 3) := by decide +kernel
theorem dX5_spell_46 : decode cX5_spell 46 = .ok (.iconst 1, 1) := by decide +kernel
theorem dX5_spell_47 : decode cX5_spell 47 = .ok (.aload_n 1, 1) := by decide +kernel
theorem dX5_spell_48 : decode cX5_spell 48 = .ok (.getfield 103, 3) := by decide +kernel
theorem dX5_spell_51 : decode cX5_spell 51 = .ok (.iastore, 1) := by decide +kernel
theorem dX5_spell_52 : decode cX5_spell 52 = .ok (.aload_n 0, 1) := by decide +kernel
theorem dX5_spell_53 : decode cX5_spell 53 = .ok (.getfield 38, 3) := by decide +kernel
theorem dX5_spell_56 : decode cX5_spell 56 = .ok (.iconst 2, 1) := by decide +kernel
theorem dX5_spell_57 : decode cX5_spell 57 = .ok (.aload_n 0, 1) := by decide +kernel
theorem dX5_spell_58 : decode cX5_spell 58 = .ok (.aload_n 1, 1) := by decide +kernel
theorem dX5_spell_59 : decode cX5_spell 59 = .ok (.getfield 106, 3) := by decide +kernel
theorem dX5_spell_62 : decode cX5_spell 62 = .ok (.iload_n 2, 1) := by decide +kernel
theorem dX5_spell_63 : decode cX5_spell 63 = .ok (.invokevirtual 109, 3) := by decide +kernel
theorem dX5_spell_66 : decode cX5_spell 66 = .ok (.iastore, 1) := by decide +kernel
theorem dX5_spell_67 : decode cX5_spell 67 = .ok (.aload_n 0, 1) := by decide +kernel
theorem dX5_spell_68 : decode cX5_spell 68 = .ok (.getfield 38, 3) := by decide +kernel
theorem dX5_spell_71 : decode cX5_spell 71 = .ok (.iconst 3, 1) := by decide +kernel
theorem dX5_spell_72 : decode cX5_spell 72 = .ok (.aload_n 1, 1) := by decide +kernel
theorem dX5_spell_73 : decode cX5_spell 73 = .ok (.getfield 112, 3) := by decide +kernel
theorem dX5_spell_76 : decode cX5_spell 76 = .ok (.iastore, 1) := by decide +kernel
theorem dX5_spell_77 : decode cX5_spell 77 = .ok (.aload_n 0, 1) := by decide +kernel
theorem dX5_spell_78 : decode cX5_spell 78 = .ok (.getfield 38, 3) := by decide +kernel
theorem dX5_spell_81 : decode cX5_spell 81 = .ok (.iconst 4, 1) := by decide +kernel
theorem dX5_spell_82 : decode cX5_spell 82 = .ok (.iload_n 3, 1) := by decide +kernel
theorem dX5_spell_83 : decode cX5_spell 83 = .ok (.iastore, 1) := by decide +kernel
theorem dX5_spell_84 : decode cX5_spell 84 = .ok (.aload_n 0, 1) := by decide +kernel
theorem dX5_spell_85 : decode cX5_spell 85 = .ok (.getfield 38, 3) := by decide +kernel
theorem dX5_spell_88 : decode cX5_spell 88 = .ok (.iconst 5, 1) := by decide +kernel
theorem dX5_spell_89 : decode cX5_spell 89 = .ok (.aload_n 1, 1) := by decide +kernel
theorem dX5_spell_90 : decode cX5_spell 90 = .ok (.getfield 115, 3) := by decide +kernel
theorem dX5_spell_93 : decode cX5_spell 93 = .ok (.iconst (-1), 1) := by decide +kernel
theorem dX5_spell_94 : decode cX5_spell 94 = .ok (.if_icmp .ne 7, 3) := by decide +kernel
theorem dX5_spell_97 : decode cX5_spell 97 = .ok (.iconst 0, 1) := by decide +kernel
theorem dX5_spell_98 : decode cX5_spell 98 = .ok (.goto 4, 3) := by decide +kernel
theorem dX5_spell_101 : decode cX5_spell 101 = .ok (.iconst 1, 1) := by decide +kernel
theorem dX5_spell_102 : decode cX5_spell 102 = .ok (.iastore, 1) := by decide +kernel
theorem dX5_spell_103 : decode cX5_spell 103 = .ok (.aload_n 0, 1) := by decide +kernel
theorem dX5_spell_104 : decode cX5_spell 104 = .ok (.getfield 38, 3) := by decide +kernel
theorem dX5_spell_107 : decode cX5_spell 107 = .ok (.bipush 6, 2) := by decide +kernel
theorem dX5_spell_109 : decode cX5_spell 109 = .ok (.aload_n 1, 1) := by decide +kernel
theorem dX5_spell_110 : decode cX5_spell 110 = .ok (.getfield 118, 3) := by decide +kernel
theorem dX5_spell_113 : decode cX5_spell 113 = .ok (.iastore, 1) := by decide +kernel
theorem dX5_spell_114 : decode cX5_spell 114 = .ok (.aload_n 0, 1) := by decide +kernel
theorem dX5_spell_115 : decode cX5_spell 115 = .ok (.getfield 38, 3) := by decide +kernel
theorem dX5_spell_118 : decode cX5_spell 118 = .ok (.bipush 7, 2) := by decide +kernel
theorem dX5_spell_120 : decode cX5_spell 120 = .ok (.aload_n 1, 1) := by decide +kernel
theorem dX5_spell_121 : decode cX5_spell 121 = .ok (.getfield 59, 3) := by decide +kernel
theorem dX5_spell_124 : decode cX5_spell 124 = .ok (.iastore, 1) := by decide +kernel
theorem dX5_spell_125 : decode cX5_spell 125 = .ok (.aload_n 0, 1) := by decide +kernel
theorem dX5_spell_126 : decode cX5_spell 126 = .ok (.getfield 38, 3) := by decide +kernel
theorem dX5_spell_129 : decode cX5_spell 129 = .ok (.bipush 8, 2) := by decide +kernel
theorem dX5_spell_131 : decode cX5_spell 131 = .ok (.aload_n 1, 1) := by decide +kernel
theorem dX5_spell_132 : decode cX5_spell 132 = .ok (.getfield 121, 3) := by decide +kernel
theorem dX5_spell_135 : decode cX5_spell 135 = .ok (.ifCond .eq 7, 3) := by decide +kernel
theorem dX5_spell_138 : decode cX5_spell 138 = .ok (.iconst 1, 1) := by decide +kernel
theorem dX5_spell_139 : decode cX5_spell 139 = .ok (.goto 4, 3) := by decide +kernel
theorem dX5_spell_142 : decode cX5_spell 142 = .ok (.iconst 0, 1) := by decide +kernel
theorem dX5_spell_143 : decode cX5_spell 143 = .ok (.iastore, 1) := by decide +kernel
theorem dX5_spell_144 : decode cX5_spell 144 = .ok (.aload_n 0, 1) := by decide +kernel
theorem dX5_spell_145 : decode cX5_spell 145 = .ok (.getfield 38, 3) := by decide +kernel
theorem dX5_spell_148 : decode cX5_spell 148 = .ok (.bipush 9, 2) := by decide +kernel
theorem dX5_spell_150 : decode cX5_spell 150 = .ok (.aload_n 1, 1) := by decide +kernel
theorem dX5_spell_151 : decode cX5_spell 151 = .ok (.invokevirtual 125, 3) := by decide +kernel
theorem dX5_spell_154 : decode cX5_spell 154 = .ok (.iastore, 1) := by decide +kernel
theorem dX5_spell_155 : decode cX5_spell 155 = .ok (.aload_n 0, 1) := by decide +kernel
theorem dX5_spell_156 : decode cX5_spell 156 = .ok (.getfield 38, 3) := by decide +kernel
theorem dX5_spell_159 : decode cX5_spell 159 = .ok (.bipush 10, 2) := by decide +kernel
theorem dX5_spell_161 : decode cX5_spell 161 = .ok (.aload_n 0, 1) := by decide +kernel
theorem dX5_spell_162 : decode cX5_spell 162 = .ok (.aload_n 1, 1) := by decide +kernel
theorem dX5_spell_163 : decode cX5_spell 163 = .ok (.getfield 106, 3) := by decide +kernel
theorem dX5_spell_166 : decode cX5_spell 166 = .ok (.iload_n 2, 1) := by decide +kernel
theorem dX5_spell_167 : decode cX5_spell 167 = .ok (.invokevirtual 129, 3) := by decide +kernel
theorem dX5_spell_170 : decode cX5_spell 170 = .ok (.iastore, 1) := by decide +kernel
theorem dX5_spell_171 : decode cX5_spell 171 = .ok (.return_, 1) := by decide +kernel
theorem okX5_spell : ab_okM MX5_spell 2 := ⟨by decide, ⟨by decide, by decide⟩, ab_in 1564 (by decide +kernel) (by decide +kernel), ab_in 97 (by decide +kernel) (by decide +kernel), by decide +kernel, by decide⟩
set_option maxHeartbeats 4000000 in
set_option maxRecDepth 100000 in
def wX5_spell_143 (v1 : Nat) (v2 : Int32) (s1 : Int32) (s2 : Int32) (x : ab_X) (K : ab_X → Prop)  : Prop := (vp_in s1 11 ∧ wX4_beside v1 (wr x 173 (Int32.toNatClampNeg s1) s2) (fun r12 => (vp_in 9 11 ∧ wX5_daysSinceLook ((wr (wr x 173 (Int32.toNatClampNeg s1) s2) 173 (Int32.toNatClampNeg 9) r12).1 v1 0) v2 (wr (wr x 173 (Int32.toNatClampNeg s1) s2) 173 (Int32.toNatClampNeg 9) r12) (fun r14 => (vp_in 10 11 ∧ K (wr (wr (wr x 173 (Int32.toNatClampNeg s1) s2) 173 (Int32.toNatClampNeg 9) r12) 173 (Int32.toNatClampNeg 10) r14))))))
set_option maxHeartbeats 4000000 in
set_option maxRecDepth 100000 in
theorem sX5_spell_143 (v1 : Nat) (v2 : Int32) (s1 : Int32) (s2 : Int32) (hv1 : isH v1) (x : ab_X) (K : ab_X → Prop)  (d bc bs : Nat) (hdp : 1 ≤ d)  (h : wX5_spell_143 v1 v2 s1 s2 x K ) : EW MX5_spell 143 [(0, .ref 165), (1, .ref v1), (2, .int v2)] [.int s2, .int s1, .ref 173] (aS x) d bc bs (liV K) := by
  unfold wX5_spell_143 at h
  obtain ⟨b11, h⟩ := h
  refine AW_iast (pc2 := 144) rfl dX5_spell_143 q173 b11 ?_
  refine EW_aload_n (pc2 := 145) rfl dX5_spell_144 0 rfl ?_
  refine AW_getr (r := 173) ⟨gfRX5_38, rfl⟩ (pc2 := 148) rfl dX5_spell_145 q165 rfl ?_
  refine EW_bipush (pc2 := 150) (v := 9) rfl dX5_spell_148 (by decide) ?_
  refine EW_aload_n (pc2 := 151) rfl dX5_spell_150 1 rfl ?_
  refine AW_invV (M' := MX4_beside) [] (rest := [.int 9, .ref 173]) mlRX5_125 okX4_beside (pc2 := 154) rfl dX5_spell_151 rfl rfl (Nat.le_of_ble_eq_true rfl) (Nat.le_of_ble_eq_true rfl) (d' := 0) (by omega) (isH.o hv1) ⟨by decide, rfl⟩ (EW_mono (fun _ _ hr => ?_) (sX4_beside v1 hv1 (wr x 173 (Int32.toNatClampNeg s1) s2) _ _ 0 0 (Nat.le_refl _) h))
  obtain ⟨r12, rfl, rfl, h⟩ := hr
  obtain ⟨b13, h⟩ := h
  refine AW_iast (pc2 := 155) rfl dX5_spell_154 q173 b13 ?_
  refine EW_aload_n (pc2 := 156) rfl dX5_spell_155 0 rfl ?_
  refine AW_getr (r := 173) ⟨gfRX5_38, rfl⟩ (pc2 := 159) rfl dX5_spell_156 q165 rfl ?_
  refine EW_bipush (pc2 := 161) (v := 10) rfl dX5_spell_159 (by decide) ?_
  refine EW_aload_n (pc2 := 162) rfl dX5_spell_161 0 rfl ?_
  refine EW_aload_n (pc2 := 163) rfl dX5_spell_162 1 rfl ?_
  refine AW_geti ⟨gfRX5_106, rfl⟩ (pc2 := 166) rfl dX5_spell_163 (isH.o hv1) ?_
  refine EW_iload_n (pc2 := 167) rfl dX5_spell_166 2 rfl ?_
  refine AW_invV (M' := MX5_daysSinceLook) [.int ((wr (wr x 173 (Int32.toNatClampNeg s1) s2) 173 (Int32.toNatClampNeg 9) r12).1 v1 0), .int v2] (rest := [.int 10, .ref 173]) mlRX5_129 okX5_daysSinceLook (pc2 := 170) rfl dX5_spell_167 rfl rfl (Nat.le_of_ble_eq_true rfl) (Nat.le_of_ble_eq_true rfl) (d' := 0) (by omega) q165 ⟨by decide, rfl⟩ (EW_mono (fun _ _ hr => ?_) (sX5_daysSinceLook ((wr (wr x 173 (Int32.toNatClampNeg s1) s2) 173 (Int32.toNatClampNeg 9) r12).1 v1 0) v2  (wr (wr x 173 (Int32.toNatClampNeg s1) s2) 173 (Int32.toNatClampNeg 9) r12) _ _ 0 0 (Nat.le_refl _) h))
  obtain ⟨r14, rfl, rfl, h⟩ := hr
  obtain ⟨b15, h⟩ := h
  refine AW_iast (pc2 := 171) rfl dX5_spell_170 q173 b15 ?_
  exact EW_vret rfl dX5_spell_171 ⟨_, rfl, rfl, h⟩
set_option maxHeartbeats 4000000 in
set_option maxRecDepth 100000 in
def wX5_spell_102 (v1 : Nat) (v2 : Int32) (s1 : Int32) (s2 : Int32) (x : ab_X) (K : ab_X → Prop)  : Prop := (vp_in s1 11 ∧ vp_in 6 11 ∧ vp_in 7 11 ∧ ((((wr (wr (wr x 173 (Int32.toNatClampNeg s1) s2) 173 (Int32.toNatClampNeg 6) ((wr x 173 (Int32.toNatClampNeg s1) s2).1 v1 7)) 173 (Int32.toNatClampNeg 7) ((wr (wr x 173 (Int32.toNatClampNeg s1) s2) 173 (Int32.toNatClampNeg 6) ((wr x 173 (Int32.toNatClampNeg s1) s2).1 v1 7)).1 v1 8)).1 v1 6) = 0 → wX5_spell_143 v1 v2 8 0 (wr (wr (wr x 173 (Int32.toNatClampNeg s1) s2) 173 (Int32.toNatClampNeg 6) ((wr x 173 (Int32.toNatClampNeg s1) s2).1 v1 7)) 173 (Int32.toNatClampNeg 7) ((wr (wr x 173 (Int32.toNatClampNeg s1) s2) 173 (Int32.toNatClampNeg 6) ((wr x 173 (Int32.toNatClampNeg s1) s2).1 v1 7)).1 v1 8)) K) ∧ (¬ ((wr (wr (wr x 173 (Int32.toNatClampNeg s1) s2) 173 (Int32.toNatClampNeg 6) ((wr x 173 (Int32.toNatClampNeg s1) s2).1 v1 7)) 173 (Int32.toNatClampNeg 7) ((wr (wr x 173 (Int32.toNatClampNeg s1) s2) 173 (Int32.toNatClampNeg 6) ((wr x 173 (Int32.toNatClampNeg s1) s2).1 v1 7)).1 v1 8)).1 v1 6) = 0 → wX5_spell_143 v1 v2 8 1 (wr (wr (wr x 173 (Int32.toNatClampNeg s1) s2) 173 (Int32.toNatClampNeg 6) ((wr x 173 (Int32.toNatClampNeg s1) s2).1 v1 7)) 173 (Int32.toNatClampNeg 7) ((wr (wr x 173 (Int32.toNatClampNeg s1) s2) 173 (Int32.toNatClampNeg 6) ((wr x 173 (Int32.toNatClampNeg s1) s2).1 v1 7)).1 v1 8)) K)))
set_option maxHeartbeats 4000000 in
set_option maxRecDepth 100000 in
theorem sX5_spell_102 (v1 : Nat) (v2 : Int32) (s1 : Int32) (s2 : Int32) (hv1 : isH v1) (x : ab_X) (K : ab_X → Prop)  (d bc bs : Nat) (hdp : 1 ≤ d)  (h : wX5_spell_102 v1 v2 s1 s2 x K ) : EW MX5_spell 102 [(0, .ref 165), (1, .ref v1), (2, .int v2)] [.int s2, .int s1, .ref 173] (aS x) d bc bs (liV K) := by
  unfold wX5_spell_102 at h
  obtain ⟨b8, h⟩ := h
  refine AW_iast (pc2 := 103) rfl dX5_spell_102 q173 b8 ?_
  refine EW_aload_n (pc2 := 104) rfl dX5_spell_103 0 rfl ?_
  refine AW_getr (r := 173) ⟨gfRX5_38, rfl⟩ (pc2 := 107) rfl dX5_spell_104 q165 rfl ?_
  refine EW_bipush (pc2 := 109) (v := 6) rfl dX5_spell_107 (by decide) ?_
  refine EW_aload_n (pc2 := 110) rfl dX5_spell_109 1 rfl ?_
  refine AW_geti ⟨gfRX5_118, rfl⟩ (pc2 := 113) rfl dX5_spell_110 (isH.o hv1) ?_
  obtain ⟨b9, h⟩ := h
  refine AW_iast (pc2 := 114) rfl dX5_spell_113 q173 b9 ?_
  refine EW_aload_n (pc2 := 115) rfl dX5_spell_114 0 rfl ?_
  refine AW_getr (r := 173) ⟨gfRX5_38, rfl⟩ (pc2 := 118) rfl dX5_spell_115 q165 rfl ?_
  refine EW_bipush (pc2 := 120) (v := 7) rfl dX5_spell_118 (by decide) ?_
  refine EW_aload_n (pc2 := 121) rfl dX5_spell_120 1 rfl ?_
  refine AW_geti ⟨gfRX5_59, rfl⟩ (pc2 := 124) rfl dX5_spell_121 (isH.o hv1) ?_
  obtain ⟨b10, h⟩ := h
  refine AW_iast (pc2 := 125) rfl dX5_spell_124 q173 b10 ?_
  refine EW_aload_n (pc2 := 126) rfl dX5_spell_125 0 rfl ?_
  refine AW_getr (r := 173) ⟨gfRX5_38, rfl⟩ (pc2 := 129) rfl dX5_spell_126 q165 rfl ?_
  refine EW_bipush (pc2 := 131) (v := 8) rfl dX5_spell_129 (by decide) ?_
  refine EW_aload_n (pc2 := 132) rfl dX5_spell_131 1 rfl ?_
  refine AW_geti ⟨gfRX5_121, rfl⟩ (pc2 := 135) rfl dX5_spell_132 (isH.o hv1) ?_
  refine EW_if_eq (tgt := 142) (pc2 := 138) rfl dX5_spell_135 (by decide) (fun q => ?_) (fun q => ?_)
  · replace h := h.1 q
    refine EW_iconst (pc2 := 143) (v := 0) rfl dX5_spell_142 (by decide) ?_
    exact sX5_spell_143 v1 v2 8 0 hv1 (wr (wr (wr x 173 (Int32.toNatClampNeg s1) s2) 173 (Int32.toNatClampNeg 6) ((wr x 173 (Int32.toNatClampNeg s1) s2).1 v1 7)) 173 (Int32.toNatClampNeg 7) ((wr (wr x 173 (Int32.toNatClampNeg s1) s2) 173 (Int32.toNatClampNeg 6) ((wr x 173 (Int32.toNatClampNeg s1) s2).1 v1 7)).1 v1 8)) K d bc bs hdp h
  · replace h := h.2 q
    refine EW_iconst (pc2 := 139) (v := 1) rfl dX5_spell_138 (by decide) ?_
    refine EW_goto (tgt := 143) dX5_spell_139 (by decide) ?_
    exact sX5_spell_143 v1 v2 8 1 hv1 (wr (wr (wr x 173 (Int32.toNatClampNeg s1) s2) 173 (Int32.toNatClampNeg 6) ((wr x 173 (Int32.toNatClampNeg s1) s2).1 v1 7)) 173 (Int32.toNatClampNeg 7) ((wr (wr x 173 (Int32.toNatClampNeg s1) s2) 173 (Int32.toNatClampNeg 6) ((wr x 173 (Int32.toNatClampNeg s1) s2).1 v1 7)).1 v1 8)) K d bc bs hdp h
set_option maxHeartbeats 4000000 in
set_option maxRecDepth 100000 in
def lX5_spell_5 (v1 : Nat) (v2 : Int32) (x : ab_X) (K : ab_X → Prop)  (L5 : Int32 → Int32 → Prop) (v3 : Int32) (v4 : Int32) : Prop := (((x.1 v1 3) ≤ v4 → (vp_in 0 11 ∧ vp_in 1 11 ∧ wX5_useAt ((wr (wr x 173 (Int32.toNatClampNeg 0) (x.1 v1 3)) 173 (Int32.toNatClampNeg 1) ((wr x 173 (Int32.toNatClampNeg 0) (x.1 v1 3)).1 v1 4)).1 v1 0) v2 (wr (wr x 173 (Int32.toNatClampNeg 0) (x.1 v1 3)) 173 (Int32.toNatClampNeg 1) ((wr x 173 (Int32.toNatClampNeg 0) (x.1 v1 3)).1 v1 4)) (fun r3 => (vp_in 2 11 ∧ vp_in 3 11 ∧ vp_in 4 11 ∧ ((¬ ((wr (wr (wr (wr (wr x 173 (Int32.toNatClampNeg 0) (x.1 v1 3)) 173 (Int32.toNatClampNeg 1) ((wr x 173 (Int32.toNatClampNeg 0) (x.1 v1 3)).1 v1 4)) 173 (Int32.toNatClampNeg 2) r3) 173 (Int32.toNatClampNeg 3) ((wr (wr (wr x 173 (Int32.toNatClampNeg 0) (x.1 v1 3)) 173 (Int32.toNatClampNeg 1) ((wr x 173 (Int32.toNatClampNeg 0) (x.1 v1 3)).1 v1 4)) 173 (Int32.toNatClampNeg 2) r3).1 v1 2)) 173 (Int32.toNatClampNeg 4) v3).1 v1 5) = (-1) → wX5_spell_102 v1 v2 5 1 (wr (wr (wr (wr (wr x 173 (Int32.toNatClampNeg 0) (x.1 v1 3)) 173 (Int32.toNatClampNeg 1) ((wr x 173 (Int32.toNatClampNeg 0) (x.1 v1 3)).1 v1 4)) 173 (Int32.toNatClampNeg 2) r3) 173 (Int32.toNatClampNeg 3) ((wr (wr (wr x 173 (Int32.toNatClampNeg 0) (x.1 v1 3)) 173 (Int32.toNatClampNeg 1) ((wr x 173 (Int32.toNatClampNeg 0) (x.1 v1 3)).1 v1 4)) 173 (Int32.toNatClampNeg 2) r3).1 v1 2)) 173 (Int32.toNatClampNeg 4) v3) K) ∧ (((wr (wr (wr (wr (wr x 173 (Int32.toNatClampNeg 0) (x.1 v1 3)) 173 (Int32.toNatClampNeg 1) ((wr x 173 (Int32.toNatClampNeg 0) (x.1 v1 3)).1 v1 4)) 173 (Int32.toNatClampNeg 2) r3) 173 (Int32.toNatClampNeg 3) ((wr (wr (wr x 173 (Int32.toNatClampNeg 0) (x.1 v1 3)) 173 (Int32.toNatClampNeg 1) ((wr x 173 (Int32.toNatClampNeg 0) (x.1 v1 3)).1 v1 4)) 173 (Int32.toNatClampNeg 2) r3).1 v1 2)) 173 (Int32.toNatClampNeg 4) v3).1 v1 5) = (-1) → wX5_spell_102 v1 v2 5 0 (wr (wr (wr (wr (wr x 173 (Int32.toNatClampNeg 0) (x.1 v1 3)) 173 (Int32.toNatClampNeg 1) ((wr x 173 (Int32.toNatClampNeg 0) (x.1 v1 3)).1 v1 4)) 173 (Int32.toNatClampNeg 2) r3) 173 (Int32.toNatClampNeg 3) ((wr (wr (wr x 173 (Int32.toNatClampNeg 0) (x.1 v1 3)) 173 (Int32.toNatClampNeg 1) ((wr x 173 (Int32.toNatClampNeg 0) (x.1 v1 3)).1 v1 4)) 173 (Int32.toNatClampNeg 2) r3).1 v1 2)) 173 (Int32.toNatClampNeg 4) v3) K)))))) ∧ (¬ (x.1 v1 3) ≤ v4 → (vp_in v4 6 ∧ L5 (imax v3 (x.1 (v1 + 1) (Int32.toNatClampNeg v4))) (v4 + 1))))
set_option maxHeartbeats 4000000 in
set_option maxRecDepth 100000 in
theorem sX5_spell_5 (v1 : Nat) (v2 : Int32) (v3 : Int32) (v4 : Int32) (hv1 : isH v1) (x : ab_X) (K : ab_X → Prop)  (d bc bs : Nat) (hdp : 1 ≤ d)  (h : Lp2 (lX5_spell_5 v1 v2 x K ) v3 v4) : EW MX5_spell 5 [(0, .ref 165), (1, .ref v1), (2, .int v2), (3, .int v3), (4, .int v4)] [] (aS x) d bc bs (liV K) := by
  refine Lp2.use (P := fun v3 v4 => EW MX5_spell 5 [(0, .ref 165), (1, .ref v1), (2, .int v2), (3, .int v3), (4, .int v4)] [] (aS x) d bc bs (liV K)) (fun L5 v3 v4 hL5 h => ?_) v3 v4 h
  unfold lX5_spell_5 at h
  refine EW_iload (pc2 := 7) rfl dX5_spell_5 4 rfl ?_
  refine EW_aload_n (pc2 := 8) rfl dX5_spell_7 1 rfl ?_
  refine AW_geti ⟨gfRX5_92, rfl⟩ (pc2 := 11) rfl dX5_spell_8 (isH.o hv1) ?_
  refine EW_icmp_ge (tgt := 32) (pc2 := 14) rfl dX5_spell_11 (by decide) (fun q => ?_) (fun q => ?_)
  · replace h := h.1 q
    refine EW_aload_n (pc2 := 33) rfl dX5_spell_32 0 rfl ?_
    refine AW_getr (r := 173) ⟨gfRX5_38, rfl⟩ (pc2 := 36) rfl dX5_spell_33 q165 rfl ?_
    refine EW_iconst (pc2 := 37) (v := 0) rfl dX5_spell_36 (by decide) ?_
    refine EW_aload_n (pc2 := 38) rfl dX5_spell_37 1 rfl ?_
    refine AW_geti ⟨gfRX5_92, rfl⟩ (pc2 := 41) rfl dX5_spell_38 (isH.o hv1) ?_
    obtain ⟨b1, h⟩ := h
    refine AW_iast (pc2 := 42) rfl dX5_spell_41 q173 b1 ?_
    refine EW_aload_n (pc2 := 43) rfl dX5_spell_42 0 rfl ?_
    refine AW_getr (r := 173) ⟨gfRX5_38, rfl⟩ (pc2 := 46) rfl dX5_spell_43 q165 rfl ?_
    refine EW_iconst (pc2 := 47) (v := 1) rfl dX5_spell_46 (by decide) ?_
    refine EW_aload_n (pc2 := 48) rfl dX5_spell_47 1 rfl ?_
    refine AW_geti ⟨gfRX5_103, rfl⟩ (pc2 := 51) rfl dX5_spell_48 (isH.o hv1) ?_
    obtain ⟨b2, h⟩ := h
    refine AW_iast (pc2 := 52) rfl dX5_spell_51 q173 b2 ?_
    refine EW_aload_n (pc2 := 53) rfl dX5_spell_52 0 rfl ?_
    refine AW_getr (r := 173) ⟨gfRX5_38, rfl⟩ (pc2 := 56) rfl dX5_spell_53 q165 rfl ?_
    refine EW_iconst (pc2 := 57) (v := 2) rfl dX5_spell_56 (by decide) ?_
    refine EW_aload_n (pc2 := 58) rfl dX5_spell_57 0 rfl ?_
    refine EW_aload_n (pc2 := 59) rfl dX5_spell_58 1 rfl ?_
    refine AW_geti ⟨gfRX5_106, rfl⟩ (pc2 := 62) rfl dX5_spell_59 (isH.o hv1) ?_
    refine EW_iload_n (pc2 := 63) rfl dX5_spell_62 2 rfl ?_
    refine AW_invV (M' := MX5_useAt) [.int ((wr (wr x 173 (Int32.toNatClampNeg 0) (x.1 v1 3)) 173 (Int32.toNatClampNeg 1) ((wr x 173 (Int32.toNatClampNeg 0) (x.1 v1 3)).1 v1 4)).1 v1 0), .int v2] (rest := [.int 2, .ref 173]) mlRX5_109 okX5_useAt (pc2 := 66) rfl dX5_spell_63 rfl rfl (Nat.le_of_ble_eq_true rfl) (Nat.le_of_ble_eq_true rfl) (d' := 0) (by omega) q165 ⟨by decide, rfl⟩ (EW_mono (fun _ _ hr => ?_) (sX5_useAt ((wr (wr x 173 (Int32.toNatClampNeg 0) (x.1 v1 3)) 173 (Int32.toNatClampNeg 1) ((wr x 173 (Int32.toNatClampNeg 0) (x.1 v1 3)).1 v1 4)).1 v1 0) v2  (wr (wr x 173 (Int32.toNatClampNeg 0) (x.1 v1 3)) 173 (Int32.toNatClampNeg 1) ((wr x 173 (Int32.toNatClampNeg 0) (x.1 v1 3)).1 v1 4)) _ _ 0 0 (Nat.le_refl _) h))
    obtain ⟨r3, rfl, rfl, h⟩ := hr
    obtain ⟨b4, h⟩ := h
    refine AW_iast (pc2 := 67) rfl dX5_spell_66 q173 b4 ?_
    refine EW_aload_n (pc2 := 68) rfl dX5_spell_67 0 rfl ?_
    refine AW_getr (r := 173) ⟨gfRX5_38, rfl⟩ (pc2 := 71) rfl dX5_spell_68 q165 rfl ?_
    refine EW_iconst (pc2 := 72) (v := 3) rfl dX5_spell_71 (by decide) ?_
    refine EW_aload_n (pc2 := 73) rfl dX5_spell_72 1 rfl ?_
    refine AW_geti ⟨gfRX5_112, rfl⟩ (pc2 := 76) rfl dX5_spell_73 (isH.o hv1) ?_
    obtain ⟨b5, h⟩ := h
    refine AW_iast (pc2 := 77) rfl dX5_spell_76 q173 b5 ?_
    refine EW_aload_n (pc2 := 78) rfl dX5_spell_77 0 rfl ?_
    refine AW_getr (r := 173) ⟨gfRX5_38, rfl⟩ (pc2 := 81) rfl dX5_spell_78 q165 rfl ?_
    refine EW_iconst (pc2 := 82) (v := 4) rfl dX5_spell_81 (by decide) ?_
    refine EW_iload_n (pc2 := 83) rfl dX5_spell_82 3 rfl ?_
    obtain ⟨b6, h⟩ := h
    refine AW_iast (pc2 := 84) rfl dX5_spell_83 q173 b6 ?_
    refine EW_aload_n (pc2 := 85) rfl dX5_spell_84 0 rfl ?_
    refine AW_getr (r := 173) ⟨gfRX5_38, rfl⟩ (pc2 := 88) rfl dX5_spell_85 q165 rfl ?_
    refine EW_iconst (pc2 := 89) (v := 5) rfl dX5_spell_88 (by decide) ?_
    refine EW_aload_n (pc2 := 90) rfl dX5_spell_89 1 rfl ?_
    refine AW_geti ⟨gfRX5_115, rfl⟩ (pc2 := 93) rfl dX5_spell_90 (isH.o hv1) ?_
    refine EW_iconst (pc2 := 94) (v := (-1)) rfl dX5_spell_93 (by decide) ?_
    refine EW_icmp_ne (tgt := 101) (pc2 := 97) rfl dX5_spell_94 (by decide) (fun q => ?_) (fun q => ?_)
    · replace h := h.1 q
      refine EW_iconst (pc2 := 102) (v := 1) rfl dX5_spell_101 (by decide) ?_
      refine EW_ls [0, 1, 2] rfl ?_
      exact sX5_spell_102 v1 v2 5 1 hv1 (wr (wr (wr (wr (wr x 173 (Int32.toNatClampNeg 0) (x.1 v1 3)) 173 (Int32.toNatClampNeg 1) ((wr x 173 (Int32.toNatClampNeg 0) (x.1 v1 3)).1 v1 4)) 173 (Int32.toNatClampNeg 2) r3) 173 (Int32.toNatClampNeg 3) ((wr (wr (wr x 173 (Int32.toNatClampNeg 0) (x.1 v1 3)) 173 (Int32.toNatClampNeg 1) ((wr x 173 (Int32.toNatClampNeg 0) (x.1 v1 3)).1 v1 4)) 173 (Int32.toNatClampNeg 2) r3).1 v1 2)) 173 (Int32.toNatClampNeg 4) v3) K d bc bs hdp h
    · replace h := h.2 q
      refine EW_iconst (pc2 := 98) (v := 0) rfl dX5_spell_97 (by decide) ?_
      refine EW_goto (tgt := 102) dX5_spell_98 (by decide) ?_
      refine EW_ls [0, 1, 2] rfl ?_
      exact sX5_spell_102 v1 v2 5 0 hv1 (wr (wr (wr (wr (wr x 173 (Int32.toNatClampNeg 0) (x.1 v1 3)) 173 (Int32.toNatClampNeg 1) ((wr x 173 (Int32.toNatClampNeg 0) (x.1 v1 3)).1 v1 4)) 173 (Int32.toNatClampNeg 2) r3) 173 (Int32.toNatClampNeg 3) ((wr (wr (wr x 173 (Int32.toNatClampNeg 0) (x.1 v1 3)) 173 (Int32.toNatClampNeg 1) ((wr x 173 (Int32.toNatClampNeg 0) (x.1 v1 3)).1 v1 4)) 173 (Int32.toNatClampNeg 2) r3).1 v1 2)) 173 (Int32.toNatClampNeg 4) v3) K d bc bs hdp h
  · replace h := h.2 q
    refine EW_iload_n (pc2 := 15) rfl dX5_spell_14 3 rfl ?_
    refine EW_aload_n (pc2 := 16) rfl dX5_spell_15 1 rfl ?_
    refine AW_getr (r := (v1 + 1)) ⟨gfRX5_95, rfl⟩ (pc2 := 19) rfl dX5_spell_16 (isH.o hv1) (isH.r1 hv1) ?_
    refine EW_iload (pc2 := 21) rfl dX5_spell_19 4 rfl ?_
    obtain ⟨b7, h⟩ := h
    refine AW_iald (pc2 := 22) rfl dX5_spell_21 (isH.a1 hv1) b7 ?_
    refine AW_mmax mmRX5_98 (pc2 := 25) rfl dX5_spell_22 (Nat.le_of_ble_eq_true rfl) (by omega) ?_
    refine EW_istore_n (pc2 := 26) rfl dX5_spell_25 (by decide) [1, 2, 3, 0, 4] [(0, .ref 165), (1, .ref v1), (2, .int v2), (3, .int (imax v3 (x.1 (v1 + 1) (Int32.toNatClampNeg v4)))), (4, .int v4)] rfl ?_
    refine EW_iinc (v4 + 1) (pc2 := 29) rfl dX5_spell_26 4 rfl rfl (by decide) [1, 2, 3, 4, 0] [(0, .ref 165), (1, .ref v1), (2, .int v2), (3, .int (imax v3 (x.1 (v1 + 1) (Int32.toNatClampNeg v4)))), (4, .int (v4 + 1))] rfl ?_
    refine EW_goto (tgt := 5) dX5_spell_29 (by decide) ?_
    exact hL5 (imax v3 (x.1 (v1 + 1) (Int32.toNatClampNeg v4))) (v4 + 1) h
set_option maxHeartbeats 4000000 in
set_option maxRecDepth 100000 in
def wX5_spell (v1 : Nat) (v2 : Int32) (x : ab_X) (K : ab_X → Prop) : Prop := Lp2 (lX5_spell_5 v1 v2 x K ) 0 0
set_option maxHeartbeats 4000000 in
set_option maxRecDepth 100000 in
theorem sX5_spell (v1 : Nat) (v2 : Int32) (hv1 : isH v1) (x : ab_X) (K : ab_X → Prop) (d bc bs : Nat) (hdp : 1 ≤ d) (h : wX5_spell v1 v2 x K) : EW MX5_spell 0 [(0, .ref 165), (1, .ref v1), (2, .int v2)] [] (aS x) d bc bs (liV K) := by
  unfold wX5_spell at h
  refine EW_iconst (pc2 := 1) (v := 0) rfl dX5_spell_0 (by decide) ?_
  refine EW_istore_n (pc2 := 2) rfl dX5_spell_1 (by decide) [1, 2, 3, 0] [(0, .ref 165), (1, .ref v1), (2, .int v2), (3, .int 0)] rfl ?_
  refine EW_iconst (pc2 := 3) (v := 0) rfl dX5_spell_2 (by decide) ?_
  refine EW_istore (pc2 := 5) rfl dX5_spell_3 (by decide) [1, 2, 3, 4, 0] [(0, .ref 165), (1, .ref v1), (2, .int v2), (3, .int 0), (4, .int 0)] rfl ?_
  exact sX5_spell_5 v1 v2 0 0 hv1 x K d bc bs hdp h
theorem mlRX5_67 : Cond.methodLink RX5 67 yX5_actFor ∈ ab_G ∧ Cond.instanceMethod yX5_actFor ∈ ab_G ∧ Cond.selects RX5 yX5_actFor yX5_actFor ∈ ab_G := ⟨ab_in 1559 (by decide +kernel) (by decide +kernel), ab_in 1528 (by decide +kernel) (by decide +kernel), ab_in 1529 (by decide +kernel) (by decide +kernel)⟩
theorem mlRX5_71 : Cond.methodLinkNest RX5 71 yX11_below "CityBrigade" ∈ tables_1.filter ab_isN ∧ Cond.static yX11_below ∈ ab_G := ⟨List.mem_filter.mpr ⟨List.mem_of_getElem? (i := 1475) (by decide +kernel), rfl⟩, ab_in 794 (by decide +kernel) (by decide +kernel)⟩
theorem mlRX5_75 : Cond.methodLink RX5 75 yX5_spell ∈ ab_G ∧ Cond.instanceMethod yX5_spell ∈ ab_G ∧ Cond.selects RX5 yX5_spell yX5_spell ∈ ab_G := ⟨ab_in 1561 (by decide +kernel) (by decide +kernel), ab_in 1562 (by decide +kernel) (by decide +kernel), ab_in 1563 (by decide +kernel) (by decide +kernel)⟩
theorem gfRX5_11 : ab_L RX5 11 5 1 := ⟨by decide, by decide, ab_in 630 (by decide +kernel) (by decide +kernel)⟩
theorem mlRX5_79 : Cond.methodLink RX5 79 yX9_run ∈ ab_G ∧ Cond.instanceMethod yX9_run ∈ ab_G ∧ Cond.selects RX9 yX9_run yX9_run ∈ ab_G := ⟨ab_in 1575 (by decide +kernel) (by decide +kernel), ab_in 1074 (by decide +kernel) (by decide +kernel), ab_in 1075 (by decide +kernel) (by decide +kernel)⟩
theorem gfRX5_83 : ab_L RX5 83 9 9 := ⟨by decide, by decide, ab_in 382 (by decide +kernel) (by decide +kernel)⟩
abbrev MX5_failures : ab_M := (yX5_failures, cX5_failures, 4, (some .int))
theorem dX5_failures_0 : decode cX5_failures 0 = .ok (.aload_n 0, 1) := by decide +kernel
theorem dX5_failures_1 : decode cX5_failures 1 = .ok (.iload_n 1, 1) := by decide +kernel
theorem dX5_failures_2 : decode cX5_failures 2 = .ok (.iload_n 2, 1) := by decide +kernel
theorem dX5_failures_3 : decode cX5_failures 3 = .ok (.invokevirtual 67, 3) := by decide +kernel
theorem dX5_failures_6 : decode cX5_failures 6 = .ok (.istore_n 3, 1) := by decide +kernel
theorem dX5_failures_7 : decode cX5_failures 7 = .ok (.iload_n 3, 1) := by decide +kernel
theorem dX5_failures_8 : decode cX5_failures 8 = .ok (.aload_n 0, 1) := by decide +kernel
theorem dX5_failures_9 : decode cX5_failures 9 = .ok (.getfield 46, 3) := by decide +kernel
theorem dX5_failures_12 : decode cX5_failures 12 = .ok (.invokestatic 71, 3) := by decide +kernel
theorem dX5_failures_15 : decode cX5_failures 15 = .ok (.ifCond .ne 5, 3) := by decide +kernel
theorem dX5_failures_18 : decode cX5_failures 18 = .ok (.iconst 0, 1) := by decide +kernel
theorem dX5_failures_19 : decode cX5_failures 19 = .ok (.ireturn, 1) := by decide +kernel
theorem dX5_failures_20 : decode cX5_failures 20 = .ok (.aload_n 0, 1) := by decide +kernel
theorem dX5_failures_21 : decode cX5_failures 21 = .ok (.aload_n 0, 1) := by decide +kernel
theorem dX5_failures_22 : decode cX5_failures 22 = .ok (.getfield 41, 3) := by decide +kernel
theorem dX5_failures_25 : decode cX5_failures 25 = .ok (.getfield 53, 3) := by decide +kernel
theorem dX5_failures_28 : decode cX5_failures 28 = .ok (.iload_n 1, 1) := by decide +kernel
theorem dX5_failures_29 : decode cX5_failures 29 = .ok (.aaload, 1) := by decide +kernel
theorem dX5_failures_30 : decode cX5_failures 30 = .ok (.iload_n 2, 1) := by decide +kernel
theorem dX5_failures_31 : decode cX5_failures 31 = .ok (.invokevirtual 75, 3) := by decide +kernel
theorem dX5_failures_34 : decode cX5_failures 34 = .ok (.aload_n 0, 1) := by decide +kernel
theorem dX5_failures_35 : decode cX5_failures 35 = .ok (.getfield 11, 3) := by decide +kernel
theorem dX5_failures_38 : decode cX5_failures 38 = .ok (.iload_n 3, 1) := by decide +kernel
theorem dX5_failures_39 : decode cX5_failures 39 = .ok (.aaload, 1) := by decide +kernel
theorem dX5_failures_40 : decode cX5_failures 40 = .ok (.aload_n 0, 1) := by decide +kernel
theorem dX5_failures_41 : decode cX5_failures 41 = .ok (.getfield 38, 3) := by decide +kernel
theorem dX5_failures_44 : decode cX5_failures 44 = .ok (.invokevirtual 79, 3) := by decide +kernel
theorem dX5_failures_47 : decode cX5_failures 47 = .ok (.aload_n 0, 1) := by decide +kernel
theorem dX5_failures_48 : decode cX5_failures 48 = .ok (.getfield 11, 3) := by decide +kernel
theorem dX5_failures_51 : decode cX5_failures 51 = .ok (.iload_n 3, 1) := by decide +kernel
theorem dX5_failures_52 : decode cX5_failures 52 = .ok (.aaload, 1) := by decide +kernel
theorem dX5_failures_53 : decode cX5_failures 53 = .ok (.getfield 83, 3) := by decide +kernel
theorem dX5_failures_56 : decode cX5_failures 56 = .ok (.ireturn, 1) := by decide +kernel
theorem okX5_failures : ab_okM MX5_failures 2 := ⟨by decide, ⟨by decide, by decide⟩, ab_in 1558 (by decide +kernel) (by decide +kernel), ab_in 97 (by decide +kernel) (by decide +kernel), by decide +kernel, by decide⟩
set_option maxHeartbeats 4000000 in
set_option maxRecDepth 100000 in
def wX5_failures (v1 : Int32) (v2 : Int32) (x : ab_X) (K : Int32 → ab_X → Prop) : Prop := wX5_actFor v1 v2 x (fun r1 => wX11_below r1 (x.1 165 4) x (fun r2 => ((¬ r2 = 0 → (vp_in v1 12 ∧ wX5_spell (30 + 3 * Int32.toNatClampNeg v1) v2 x (fun x4 => (vp_in r1 12 ∧ wX9_run (174 + 5 * Int32.toNatClampNeg r1) 173 x4 (fun x6 => (vp_in r1 12 ∧ K (x6.1 (174 + 5 * Int32.toNatClampNeg r1) 9) x6)))))) ∧ (r2 = 0 → K 0 x))))
set_option maxHeartbeats 4000000 in
set_option maxRecDepth 100000 in
theorem sX5_failures (v1 : Int32) (v2 : Int32)  (x : ab_X) (K : Int32 → ab_X → Prop) (d bc bs : Nat) (hdp : 3 ≤ d) (h : wX5_failures v1 v2 x K) : EW MX5_failures 0 [(0, .ref 165), (1, .int v1), (2, .int v2)] [] (aS x) d bc bs (liI K) := by
  unfold wX5_failures at h
  refine EW_aload_n (pc2 := 1) rfl dX5_failures_0 0 rfl ?_
  refine EW_iload_n (pc2 := 2) rfl dX5_failures_1 1 rfl ?_
  refine EW_iload_n (pc2 := 3) rfl dX5_failures_2 2 rfl ?_
  refine AW_invV (M' := MX5_actFor) [.int v1, .int v2] (rest := []) mlRX5_67 okX5_actFor (pc2 := 6) rfl dX5_failures_3 rfl rfl (Nat.le_of_ble_eq_true rfl) (Nat.le_of_ble_eq_true rfl) (d' := 0) (by omega) q165 ⟨by decide, rfl⟩ (EW_mono (fun _ _ hr => ?_) (sX5_actFor v1 v2  x _ _ 0 0 (Nat.le_refl _) h))
  obtain ⟨r1, rfl, rfl, h⟩ := hr
  refine EW_istore_n (pc2 := 7) rfl dX5_failures_6 (by decide) [1, 2, 3, 0] [(0, .ref 165), (1, .int v1), (2, .int v2), (3, .int r1)] rfl ?_
  refine EW_iload_n (pc2 := 8) rfl dX5_failures_7 3 rfl ?_
  refine EW_aload_n (pc2 := 9) rfl dX5_failures_8 0 rfl ?_
  refine AW_geti ⟨gfRX5_46, rfl⟩ (pc2 := 12) rfl dX5_failures_9 q165 ?_
  refine AW_invSN (M' := MX11_below) [.int r1, .int (x.1 165 4)] (rest := []) mlRX5_71 okX11_below (pc2 := 15) rfl dX5_failures_12 rfl rfl (Nat.le_of_ble_eq_true rfl) (Nat.le_of_ble_eq_true rfl) (d' := 0) (by omega) (EW_mono (fun _ _ hr => ?_) (sX11_below r1 (x.1 165 4)  x _ _ 0 0 (Nat.le_refl _) h))
  obtain ⟨r2, rfl, rfl, h⟩ := hr
  refine EW_if_ne (tgt := 20) (pc2 := 18) rfl dX5_failures_15 (by decide) (fun q => ?_) (fun q => ?_)
  · replace h := h.1 q
    refine EW_aload_n (pc2 := 21) rfl dX5_failures_20 0 rfl ?_
    refine EW_aload_n (pc2 := 22) rfl dX5_failures_21 0 rfl ?_
    refine AW_getr (r := 9) ⟨gfRX5_41, rfl⟩ (pc2 := 25) rfl dX5_failures_22 q165 rfl ?_
    refine AW_getr (r := 10) ⟨gfRX5_53, rfl⟩ (pc2 := 28) rfl dX5_failures_25 q9 rfl ?_
    refine EW_iload_n (pc2 := 29) rfl dX5_failures_28 1 rfl ?_
    obtain ⟨b3, h⟩ := h
    refine AW_aald5 (pc2 := 30) rfl dX5_failures_29 b3 ?_
    refine EW_iload_n (pc2 := 31) rfl dX5_failures_30 2 rfl ?_
    refine AW_invV (M' := MX5_spell) [.ref (30 + 3 * Int32.toNatClampNeg v1), .int v2] (rest := []) mlRX5_75 okX5_spell (pc2 := 34) rfl dX5_failures_31 rfl rfl (Nat.le_of_ble_eq_true rfl) (Nat.le_of_ble_eq_true rfl) (d' := 1) (by omega) q165 ⟨by decide, rfl⟩ (EW_mono (fun _ _ hr => ?_) (sX5_spell (30 + 3 * Int32.toNatClampNeg v1) v2 (isH_of b3) x _ _ 0 0 (Nat.le_refl _) h))
    obtain ⟨x4, rfl, rfl, h⟩ := hr
    refine EW_aload_n (pc2 := 35) rfl dX5_failures_34 0 rfl ?_
    refine AW_getr (r := 166) ⟨gfRX5_11, rfl⟩ (pc2 := 38) rfl dX5_failures_35 q165 rfl ?_
    refine EW_iload_n (pc2 := 39) rfl dX5_failures_38 3 rfl ?_
    obtain ⟨b5, h⟩ := h
    refine AW_aald8 (pc2 := 40) rfl dX5_failures_39 b5 ?_
    refine EW_aload_n (pc2 := 41) rfl dX5_failures_40 0 rfl ?_
    refine AW_getr (r := 173) ⟨gfRX5_38, rfl⟩ (pc2 := 44) rfl dX5_failures_41 q165 rfl ?_
    refine AW_invV (M' := MX9_run) [.ref 173] (rest := []) mlRX5_79 okX9_run (pc2 := 47) rfl dX5_failures_44 rfl rfl (Nat.le_of_ble_eq_true rfl) (Nat.le_of_ble_eq_true rfl) (d' := 2) (by omega) (isT.o (isT_of b5)) ⟨by decide, rfl⟩ (EW_mono (fun _ _ hr => ?_) (sX9_run (174 + 5 * Int32.toNatClampNeg r1) 173 (isT_of b5) (Or.inr rfl : isLA 173) x4 _ _ 0 0 (Nat.le_refl _) h))
    obtain ⟨x6, rfl, rfl, h⟩ := hr
    refine EW_aload_n (pc2 := 48) rfl dX5_failures_47 0 rfl ?_
    refine AW_getr (r := 166) ⟨gfRX5_11, rfl⟩ (pc2 := 51) rfl dX5_failures_48 q165 rfl ?_
    refine EW_iload_n (pc2 := 52) rfl dX5_failures_51 3 rfl ?_
    obtain ⟨b7, h⟩ := h
    refine AW_aald8 (pc2 := 53) rfl dX5_failures_52 b7 ?_
    refine AW_geti ⟨gfRX5_83, rfl⟩ (pc2 := 56) rfl dX5_failures_53 (isT.o (isT_of b7)) ?_
    exact AW_iret rfl dX5_failures_56 ⟨_, _, rfl, rfl, h⟩
  · replace h := h.2 q
    refine EW_iconst (pc2 := 19) (v := 0) rfl dX5_failures_18 (by decide) ?_
    exact AW_iret rfl dX5_failures_19 ⟨_, _, rfl, rfl, h⟩
