theorem gfRX12_50 : ab_L RX12 50 12 16 := ⟨by decide, by decide, ab_in 1865 (by decide +kernel) (by decide +kernel)⟩
abbrev MX12_actFor : ab_M := (yX12_actFor, cX12_actFor, 5, (some .int))
theorem dX12_actFor_0 : decode cX12_actFor 0 = .ok (.iconst (-1), 1) := by decide +kernel
theorem dX12_actFor_1 : decode cX12_actFor 1 = .ok (.istore_n 3, 1) := by decide +kernel
theorem dX12_actFor_2 : decode cX12_actFor 2 = .ok (.iconst 0, 1) := by decide +kernel
theorem dX12_actFor_3 : decode cX12_actFor 3 = .ok (.istore 4, 2) := by decide +kernel
theorem dX12_actFor_5 : decode cX12_actFor 5 = .ok (.iload 4, 2) := by decide +kernel
theorem dX12_actFor_7 : decode cX12_actFor 7 = .ok (.aload_n 0, 1) := by decide +kernel
theorem dX12_actFor_8 : decode cX12_actFor 8 = .ok (.getfield 522, 3) := by decide +kernel
theorem dX12_actFor_11 : decode cX12_actFor 11 = .ok (.if_icmp .ge 60, 3) := by decide +kernel
theorem dX12_actFor_14 : decode cX12_actFor 14 = .ok (.aload_n 0, 1) := by decide +kernel
theorem dX12_actFor_15 : decode cX12_actFor 15 = .ok (.getfield 189, 3) := by decide +kernel
theorem dX12_actFor_18 : decode cX12_actFor 18 = .ok (.iload 4, 2) := by decide +kernel
theorem dX12_actFor_20 : decode cX12_actFor 20 = .ok (.iaload, 1) := by decide +kernel
theorem dX12_actFor_21 : decode cX12_actFor 21 = .ok (.iload_n 2, 1) := by decide +kernel
theorem dX12_actFor_22 : decode cX12_actFor 22 = .ok (.if_icmp .gt 43, 3) := by decide +kernel
theorem dX12_actFor_25 : decode cX12_actFor 25 = .ok (.aload_n 0, 1) := by decide +kernel
theorem dX12_actFor_26 : decode cX12_actFor 26 = .ok (.getfield 186, 3) := by decide +kernel
theorem dX12_actFor_29 : decode cX12_actFor 29 = .ok (.iload 4, 2) := by decide +kernel
theorem dX12_actFor_31 : decode cX12_actFor 31 = .ok (.iaload, 1) := by decide +kernel
theorem dX12_actFor_32 : decode cX12_actFor 32 = .ok (.aload_n 0, 1) := by decide +kernel
theorem dX12_actFor_33 : decode cX12_actFor 33 = .ok (.getfield 50, 3) := by decide +kernel
theorem dX12_actFor_36 : decode cX12_actFor 36 = .ok (.iload_n 1, 1) := by decide +kernel
theorem dX12_actFor_37 : decode cX12_actFor 37 = .ok (.iaload, 1) := by decide +kernel
theorem dX12_actFor_38 : decode cX12_actFor 38 = .ok (.if_icmp .gt 27, 3) := by decide +kernel
theorem dX12_actFor_41 : decode cX12_actFor 41 = .ok (.iload_n 3, 1) := by decide +kernel
theorem dX12_actFor_42 : decode cX12_actFor 42 = .ok (.iconst (-1), 1) := by decide +kernel
theorem dX12_actFor_43 : decode cX12_actFor 43 = .ok (.if_icmp .eq 19, 3) := by decide +kernel
theorem dX12_actFor_46 : decode cX12_actFor 46 = .ok (.aload_n 0, 1) := by decide +kernel
theorem dX12_actFor_47 : decode cX12_actFor 47 = .ok (.getfield 186, 3) := by decide +kernel
theorem dX12_actFor_50 : decode cX12_actFor 50 = .ok (.iload 4, 2) := by decide +kernel
theorem dX12_actFor_52 : decode cX12_actFor 52 = .ok (.iaload, 1) := by decide +kernel
theorem dX12_actFor_53 : decode cX12_actFor 53 = .ok (.aload_n 0, 1) := by decide +kernel
theorem dX12_actFor_54 : decode cX12_actFor 54 = .ok (.getfield 186, 3) := by decide +kernel
theorem dX12_actFor_57 : decode cX12_actFor 57 = .ok (.iload_n 3, 1) := by decide +kernel
theorem dX12_actFor_58 : decode cX12_actFor 58 = .ok (.iaload, 1) := by decide +kernel
theorem dX12_actFor_59 : decode cX12_actFor 59 = .ok (.if_icmp .lt 6, 3) := by decide +kernel
theorem dX12_actFor_62 : decode cX12_actFor 62 = .ok (.iload 4, 2) := by decide +kernel
theorem dX12_actFor_64 : decode cX12_actFor 64 = .ok (.istore_n 3, 1) := by decide +kernel
theorem dX12_actFor_65 : decode cX12_actFor 65 = .ok (.iinc 4 1, 3) := by decide +kernel
theorem dX12_actFor_68 : decode cX12_actFor 68 = .ok (.goto (-63), 3) := by decide +kernel
theorem dX12_actFor_71 : decode cX12_actFor 71 = .ok (.iload_n 3, 1) := by decide +kernel
theorem dX12_actFor_72 : decode cX12_actFor 72 = .ok (.ireturn, 1) := by decide +kernel
theorem okX12_actFor : ab_okM MX12_actFor 2 := ⟨by decide, ⟨by decide, by decide⟩, ab_in 2614 (by decide +kernel) (by decide +kernel), ab_in 99 (by decide +kernel) (by decide +kernel), by decide +kernel, by decide⟩
set_option maxHeartbeats 4000000 in
set_option maxRecDepth 100000 in
def wX12_actFor_62 (v1 : Int32) (v2 : Int32) (v4 : Int32) (x : ab_X) (K : Int32 → Prop) (L5 : Int32 → Int32 → Prop) : Prop := L5 v4 (v4 + 1)
set_option maxHeartbeats 4000000 in
set_option maxRecDepth 100000 in
theorem sX12_actFor_62 (v1 : Int32) (v2 : Int32) (v4 : Int32)  (x : ab_X) (K : Int32 → Prop) (L5 : Int32 → Int32 → Prop) (d bc bs : Nat) (hdp : 0 ≤ d) (hL5 : ∀ (v3 : Int32) (v4 : Int32), L5 v3 v4 → EW MX12_actFor 5 [(0, .ref 246), (1, .int v1), (2, .int v2), (3, .int v3), (4, .int v4)] [] (aS x) d bc bs (liP x K)) (h : wX12_actFor_62 v1 v2 v4 x K L5) : EW MX12_actFor 62 [(0, .ref 246), (1, .int v1), (2, .int v2), (4, .int v4)] [] (aS x) d bc bs (liP x K) := by
  unfold wX12_actFor_62 at h
  refine EW_iload (pc2 := 64) rfl dX12_actFor_62 3 rfl ?_
  refine EW_istore_n (pc2 := 65) rfl dX12_actFor_64 (by decide) [1, 2, 3, 0, 4] [(0, .ref 246), (1, .int v1), (2, .int v2), (3, .int v4), (4, .int v4)] rfl ?_
  refine EW_iinc (v4 + 1) (pc2 := 68) rfl dX12_actFor_65 4 rfl rfl (by decide) [1, 2, 3, 4, 0] [(0, .ref 246), (1, .int v1), (2, .int v2), (3, .int v4), (4, .int (v4 + 1))] rfl ?_
  refine EW_goto (tgt := 5) dX12_actFor_68 (by decide) ?_
  exact hL5 v4 (v4 + 1) h
set_option maxHeartbeats 4000000 in
set_option maxRecDepth 100000 in
def lX12_actFor_5 (v1 : Int32) (v2 : Int32) (x : ab_X) (K : Int32 → Prop)  (L5 : Int32 → Int32 → Prop) (v3 : Int32) (v4 : Int32) : Prop := (((x.1 246 72) ≤ v4 → K v3) ∧ (¬ (x.1 246 72) ≤ v4 → (vp_in v4 12 ∧ ((v2 < (x.1 306 (Int32.toNatClampNeg v4)) → L5 v3 (v4 + 1)) ∧ (¬ v2 < (x.1 306 (Int32.toNatClampNeg v4)) → (vp_in v4 12 ∧ vp_in v1 12 ∧ (((x.1 260 (Int32.toNatClampNeg v1)) < (x.1 305 (Int32.toNatClampNeg v4)) → L5 v3 (v4 + 1)) ∧ (¬ (x.1 260 (Int32.toNatClampNeg v1)) < (x.1 305 (Int32.toNatClampNeg v4)) → ((v3 = (-1) → wX12_actFor_62 v1 v2 v4 x K L5) ∧ (¬ v3 = (-1) → (vp_in v4 12 ∧ vp_in v3 12 ∧ (((x.1 305 (Int32.toNatClampNeg v4)) < (x.1 305 (Int32.toNatClampNeg v3)) → L5 v3 (v4 + 1)) ∧ (¬ (x.1 305 (Int32.toNatClampNeg v4)) < (x.1 305 (Int32.toNatClampNeg v3)) → wX12_actFor_62 v1 v2 v4 x K L5)))))))))))))
set_option maxHeartbeats 4000000 in
set_option maxRecDepth 100000 in
theorem sX12_actFor_5 (v1 : Int32) (v2 : Int32) (v3 : Int32) (v4 : Int32)  (x : ab_X) (K : Int32 → Prop)  (d bc bs : Nat) (hdp : 0 ≤ d)  (h : Lp2 (lX12_actFor_5 v1 v2 x K ) v3 v4) : EW MX12_actFor 5 [(0, .ref 246), (1, .int v1), (2, .int v2), (3, .int v3), (4, .int v4)] [] (aS x) d bc bs (liP x K) := by
  refine Lp2.use (P := fun v3 v4 => EW MX12_actFor 5 [(0, .ref 246), (1, .int v1), (2, .int v2), (3, .int v3), (4, .int v4)] [] (aS x) d bc bs (liP x K)) (fun L5 v3 v4 hL5 h => ?_) v3 v4 h
  unfold lX12_actFor_5 at h
  refine EW_iload (pc2 := 7) rfl dX12_actFor_5 4 rfl ?_
  refine EW_aload_n (pc2 := 8) rfl dX12_actFor_7 0 rfl ?_
  refine AW_geti ⟨gfRX12_522, rfl⟩ (pc2 := 11) rfl dX12_actFor_8 q246 ?_
  refine EW_icmp_ge (tgt := 71) (pc2 := 14) rfl dX12_actFor_11 (by decide) (fun q => ?_) (fun q => ?_)
  · replace h := h.1 q
    refine EW_iload_n (pc2 := 72) rfl dX12_actFor_71 3 rfl ?_
    exact AW_iret rfl dX12_actFor_72 ⟨_, rfl, rfl, h⟩
  · replace h := h.2 q
    refine EW_aload_n (pc2 := 15) rfl dX12_actFor_14 0 rfl ?_
    refine AW_getr (r := 306) ⟨gfRX12_189, rfl⟩ (pc2 := 18) rfl dX12_actFor_15 q246 rfl ?_
    refine EW_iload (pc2 := 20) rfl dX12_actFor_18 4 rfl ?_
    obtain ⟨b1, h⟩ := h
    refine AW_iald (pc2 := 21) rfl dX12_actFor_20 q306 b1 ?_
    refine EW_iload_n (pc2 := 22) rfl dX12_actFor_21 2 rfl ?_
    refine EW_icmp_gt (tgt := 65) (pc2 := 25) rfl dX12_actFor_22 (by decide) (fun q => ?_) (fun q => ?_)
    · replace h := h.1 q
      refine EW_iinc (v4 + 1) (pc2 := 68) rfl dX12_actFor_65 4 rfl rfl (by decide) [1, 2, 3, 4, 0] [(0, .ref 246), (1, .int v1), (2, .int v2), (3, .int v3), (4, .int (v4 + 1))] rfl ?_
      refine EW_goto (tgt := 5) dX12_actFor_68 (by decide) ?_
      exact hL5 v3 (v4 + 1) h
    · replace h := h.2 q
      refine EW_aload_n (pc2 := 26) rfl dX12_actFor_25 0 rfl ?_
      refine AW_getr (r := 305) ⟨gfRX12_186, rfl⟩ (pc2 := 29) rfl dX12_actFor_26 q246 rfl ?_
      refine EW_iload (pc2 := 31) rfl dX12_actFor_29 4 rfl ?_
      obtain ⟨b2, h⟩ := h
      refine AW_iald (pc2 := 32) rfl dX12_actFor_31 q305 b2 ?_
      refine EW_aload_n (pc2 := 33) rfl dX12_actFor_32 0 rfl ?_
      refine AW_getr (r := 260) ⟨gfRX12_50, rfl⟩ (pc2 := 36) rfl dX12_actFor_33 q246 rfl ?_
      refine EW_iload_n (pc2 := 37) rfl dX12_actFor_36 1 rfl ?_
      obtain ⟨b3, h⟩ := h
      refine AW_iald (pc2 := 38) rfl dX12_actFor_37 q260 b3 ?_
      refine EW_icmp_gt (tgt := 65) (pc2 := 41) rfl dX12_actFor_38 (by decide) (fun q => ?_) (fun q => ?_)
      · replace h := h.1 q
        refine EW_iinc (v4 + 1) (pc2 := 68) rfl dX12_actFor_65 4 rfl rfl (by decide) [1, 2, 3, 4, 0] [(0, .ref 246), (1, .int v1), (2, .int v2), (3, .int v3), (4, .int (v4 + 1))] rfl ?_
        refine EW_goto (tgt := 5) dX12_actFor_68 (by decide) ?_
        exact hL5 v3 (v4 + 1) h
      · replace h := h.2 q
        refine EW_iload_n (pc2 := 42) rfl dX12_actFor_41 3 rfl ?_
        refine EW_iconst (pc2 := 43) (v := (-1)) rfl dX12_actFor_42 (by decide) ?_
        refine EW_icmp_eq (tgt := 62) (pc2 := 46) rfl dX12_actFor_43 (by decide) (fun q => ?_) (fun q => ?_)
        · replace h := h.1 q
          refine EW_ls [0, 1, 2, 4] rfl ?_
          exact sX12_actFor_62 v1 v2 v4 x K L5 d bc bs hdp hL5 h
        · replace h := h.2 q
          refine EW_aload_n (pc2 := 47) rfl dX12_actFor_46 0 rfl ?_
          refine AW_getr (r := 305) ⟨gfRX12_186, rfl⟩ (pc2 := 50) rfl dX12_actFor_47 q246 rfl ?_
          refine EW_iload (pc2 := 52) rfl dX12_actFor_50 4 rfl ?_
          obtain ⟨b4, h⟩ := h
          refine AW_iald (pc2 := 53) rfl dX12_actFor_52 q305 b4 ?_
          refine EW_aload_n (pc2 := 54) rfl dX12_actFor_53 0 rfl ?_
          refine AW_getr (r := 305) ⟨gfRX12_186, rfl⟩ (pc2 := 57) rfl dX12_actFor_54 q246 rfl ?_
          refine EW_iload_n (pc2 := 58) rfl dX12_actFor_57 3 rfl ?_
          obtain ⟨b5, h⟩ := h
          refine AW_iald (pc2 := 59) rfl dX12_actFor_58 q305 b5 ?_
          refine EW_icmp_lt (tgt := 65) (pc2 := 62) rfl dX12_actFor_59 (by decide) (fun q => ?_) (fun q => ?_)
          · replace h := h.1 q
            refine EW_iinc (v4 + 1) (pc2 := 68) rfl dX12_actFor_65 4 rfl rfl (by decide) [1, 2, 3, 4, 0] [(0, .ref 246), (1, .int v1), (2, .int v2), (3, .int v3), (4, .int (v4 + 1))] rfl ?_
            refine EW_goto (tgt := 5) dX12_actFor_68 (by decide) ?_
            exact hL5 v3 (v4 + 1) h
          · replace h := h.2 q
            refine EW_ls [0, 1, 2, 4] rfl ?_
            exact sX12_actFor_62 v1 v2 v4 x K L5 d bc bs hdp hL5 h
set_option maxHeartbeats 4000000 in
set_option maxRecDepth 100000 in
def wX12_actFor (v1 : Int32) (v2 : Int32) (x : ab_X) (K : Int32 → Prop) : Prop := Lp2 (lX12_actFor_5 v1 v2 x K ) (-1) 0
set_option maxHeartbeats 4000000 in
set_option maxRecDepth 100000 in
theorem sX12_actFor (v1 : Int32) (v2 : Int32)  (x : ab_X) (K : Int32 → Prop) (d bc bs : Nat) (hdp : 0 ≤ d) (h : wX12_actFor v1 v2 x K) : EW MX12_actFor 0 [(0, .ref 246), (1, .int v1), (2, .int v2)] [] (aS x) d bc bs (liP x K) := by
  unfold wX12_actFor at h
  refine EW_iconst (pc2 := 1) (v := (-1)) rfl dX12_actFor_0 (by decide) ?_
  refine EW_istore_n (pc2 := 2) rfl dX12_actFor_1 (by decide) [1, 2, 3, 0] [(0, .ref 246), (1, .int v1), (2, .int v2), (3, .int (-1))] rfl ?_
  refine EW_iconst (pc2 := 3) (v := 0) rfl dX12_actFor_2 (by decide) ?_
  refine EW_istore (pc2 := 5) rfl dX12_actFor_3 (by decide) [1, 2, 3, 4, 0] [(0, .ref 246), (1, .int v1), (2, .int v2), (3, .int (-1)), (4, .int 0)] rfl ?_
  exact sX12_actFor_5 v1 v2 (-1) 0 x K d bc bs hdp h
abbrev MX12_partOf : ab_M := (yX12_partOf, cX12_partOf, 1, (some .int))
theorem dX12_partOf_0 : decode cX12_partOf 0 = .ok (.iload_n 0, 1) := by decide +kernel
theorem dX12_partOf_1 : decode cX12_partOf 1 = .ok (.sipush 360, 3) := by decide +kernel
theorem dX12_partOf_4 : decode cX12_partOf 4 = .ok (.idiv, 1) := by decide +kernel
theorem dX12_partOf_5 : decode cX12_partOf 5 = .ok (.iconst 4, 1) := by decide +kernel
theorem dX12_partOf_6 : decode cX12_partOf 6 = .ok (.irem, 1) := by decide +kernel
theorem dX12_partOf_7 : decode cX12_partOf 7 = .ok (.ireturn, 1) := by decide +kernel
theorem okX12_partOf : ab_okM MX12_partOf 1 := ⟨by decide, ⟨by decide, by decide⟩, ab_in 2251 (by decide +kernel) (by decide +kernel), ab_in 99 (by decide +kernel) (by decide +kernel), by decide +kernel, by decide⟩
set_option maxHeartbeats 4000000 in
set_option maxRecDepth 100000 in
def wX12_partOf (v0 : Int32) (x : ab_X) (K : Int32 → Prop) : Prop := K ((v0 / 360) - (v0 / 360) / 4 * 4)
set_option maxHeartbeats 4000000 in
set_option maxRecDepth 100000 in
theorem sX12_partOf (v0 : Int32)  (x : ab_X) (K : Int32 → Prop) (d bc bs : Nat) (hdp : 0 ≤ d) (h : wX12_partOf v0 x K) : EW MX12_partOf 0 [(0, .int v0)] [] (aS x) d bc bs (liP x K) := by
  unfold wX12_partOf at h
  refine EW_iload_n (pc2 := 1) rfl dX12_partOf_0 0 rfl ?_
  refine EW_sipush (pc2 := 4) (v := 360) rfl dX12_partOf_1 (by decide) ?_
  refine EW_idiv (pc2 := 5) rfl dX12_partOf_4 (by decide) ?_
  refine EW_iconst (pc2 := 6) (v := 4) rfl dX12_partOf_5 (by decide) ?_
  refine EW_irem (pc2 := 7) rfl dX12_partOf_6 (by decide) ?_
  exact AW_iret rfl dX12_partOf_7 ⟨_, rfl, rfl, h⟩
theorem gfRX12_525 : ab_L RX12 525 12 92 := ⟨by decide, by decide, ab_in 1941 (by decide +kernel) (by decide +kernel)⟩
theorem gfRX12_214 : ab_L RX12 214 12 83 := ⟨by decide, by decide, ab_in 1932 (by decide +kernel) (by decide +kernel)⟩
theorem gfRX12_220 : ab_L RX12 220 12 85 := ⟨by decide, by decide, ab_in 1934 (by decide +kernel) (by decide +kernel)⟩
theorem gfRX12_223 : ab_L RX12 223 12 86 := ⟨by decide, by decide, ab_in 1935 (by decide +kernel) (by decide +kernel)⟩
theorem mlRX12_320 : Cond.methodLink RX12 320 yX12_partOf ∈ ab_G ∧ Cond.static yX12_partOf ∈ ab_G := ⟨ab_in 2249 (by decide +kernel) (by decide +kernel), ab_in 2250 (by decide +kernel) (by decide +kernel)⟩
abbrev MX12_falseOf : ab_M := (yX12_falseOf, cX12_falseOf, 6, (some .int))
theorem dX12_falseOf_0 : decode cX12_falseOf 0 = .ok (.iconst 0, 1) := by decide +kernel
theorem dX12_falseOf_1 : decode cX12_falseOf 1 = .ok (.istore_n 3, 1) := by decide +kernel
theorem dX12_falseOf_2 : decode cX12_falseOf 2 = .ok (.iconst 0, 1) := by decide +kernel
theorem dX12_falseOf_3 : decode cX12_falseOf 3 = .ok (.istore 4, 2) := by decide +kernel
theorem dX12_falseOf_5 : decode cX12_falseOf 5 = .ok (.iconst 0, 1) := by decide +kernel
theorem dX12_falseOf_6 : decode cX12_falseOf 6 = .ok (.istore 5, 2) := by decide +kernel
theorem dX12_falseOf_8 : decode cX12_falseOf 8 = .ok (.iload 5, 2) := by decide +kernel
theorem dX12_falseOf_10 : decode cX12_falseOf 10 = .ok (.aload_n 0, 1) := by decide +kernel
theorem dX12_falseOf_11 : decode cX12_falseOf 11 = .ok (.getfield 525, 3) := by decide +kernel
theorem dX12_falseOf_14 : decode cX12_falseOf 14 = .ok (.if_icmp .ge 71, 3) := by decide +kernel
theorem dX12_falseOf_17 : decode cX12_falseOf 17 = .ok (.aload_n 0, 1) := by decide +kernel
theorem dX12_falseOf_18 : decode cX12_falseOf 18 = .ok (.getfield 214, 3) := by decide +kernel
theorem dX12_falseOf_21 : decode cX12_falseOf 21 = .ok (.iload 5, 2) := by decide +kernel
theorem dX12_falseOf_23 : decode cX12_falseOf 23 = .ok (.iaload, 1) := by decide +kernel
theorem dX12_falseOf_24 : decode cX12_falseOf 24 = .ok (.iload_n 1, 1) := by decide +kernel
theorem dX12_falseOf_25 : decode cX12_falseOf 25 = .ok (.if_icmp .ne 54, 3) := by decide +kernel
theorem dX12_falseOf_28 : decode cX12_falseOf 28 = .ok (.aload_n 0, 1) := by decide +kernel
theorem dX12_falseOf_29 : decode cX12_falseOf 29 = .ok (.getfield 220, 3) := by decide +kernel
theorem dX12_falseOf_32 : decode cX12_falseOf 32 = .ok (.iload 5, 2) := by decide +kernel
theorem dX12_falseOf_34 : decode cX12_falseOf 34 = .ok (.iaload, 1) := by decide +kernel
theorem dX12_falseOf_35 : decode cX12_falseOf 35 = .ok (.ifCond .eq 44, 3) := by decide +kernel
theorem dX12_falseOf_38 : decode cX12_falseOf 38 = .ok (.aload_n 0, 1) := by decide +kernel
theorem dX12_falseOf_39 : decode cX12_falseOf 39 = .ok (.getfield 223, 3) := by decide +kernel
theorem dX12_falseOf_42 : decode cX12_falseOf 42 = .ok (.iload 5, 2) := by decide +kernel
theorem dX12_falseOf_44 : decode cX12_falseOf 44 = .ok (.iaload, 1) := by decide +kernel
theorem dX12_falseOf_45 : decode cX12_falseOf 45 = .ok (.invokestatic 320, 3) := by decide +kernel
theorem dX12_falseOf_48 : decode cX12_falseOf 48 = .ok (.iload_n 2, 1) := by decide +kernel
theorem dX12_falseOf_49 : decode cX12_falseOf 49 = .ok (.if_icmp .eq 6, 3) := by decide +kernel
theorem dX12_falseOf_52 : decode cX12_falseOf 52 = .ok (.goto 27, 3) := by decide +kernel
theorem dX12_falseOf_55 : decode cX12_falseOf 55 = .ok (.iinc 3 1, 3) := by decide +kernel
theorem dX12_falseOf_58 : decode cX12_falseOf 58 = .ok (.iload 4, 2) := by decide +kernel
theorem dX12_falseOf_60 : decode cX12_falseOf 60 = .ok (.aload_n 0, 1) := by decide +kernel
theorem dX12_falseOf_61 : decode cX12_falseOf 61 = .ok (.getfield 220, 3) := by decide +kernel
theorem dX12_falseOf_64 : decode cX12_falseOf 64 = .ok (.iload 5, 2) := by decide +kernel
theorem dX12_falseOf_66 : decode cX12_falseOf 66 = .ok (.iaload, 1) := by decide +kernel
theorem dX12_falseOf_67 : decode cX12_falseOf 67 = .ok (.iconst 2, 1) := by decide +kernel
theorem dX12_falseOf_68 : decode cX12_falseOf 68 = .ok (.if_icmp .ne 7, 3) := by decide +kernel
theorem dX12_falseOf_71 : decode cX12_falseOf 71 = .ok (.iconst 1, 1) := by decide +kernel
theorem dX12_falseOf_72 : decode cX12_falseOf 72 = .ok (.goto 4, 3) := by decide +kernel
theorem dX12_falseOf_75 : decode cX12_falseOf 75 = .ok (.iconst 0, 1) := by decide +kernel
theorem dX12_falseOf_76 : decode cX12_falseOf 76 = .ok (.iadd, 1) := by decide +kernel
theorem dX12_falseOf_77 : decode cX12_falseOf 77 = .ok (.istore 4, 2) := by decide +kernel
theorem dX12_falseOf_79 : decode cX12_falseOf 79 = .ok (.iinc 5 1, 3) := by decide +kernel
theorem dX12_falseOf_82 : decode cX12_falseOf 82 = .ok (.goto (-74), 3) := by decide +kernel
theorem dX12_falseOf_85 : decode cX12_falseOf 85 = .ok (.iload_n 3, 1) := by decide +kernel
theorem dX12_falseOf_86 : decode cX12_falseOf 86 = .ok (.ifCond .ne 7, 3) := by decide +kernel
theorem dX12_falseOf_89 : decode cX12_falseOf 89 = .ok (.iconst 0, 1) := by decide +kernel
theorem dX12_falseOf_90 : decode cX12_falseOf 90 = .ok (.goto 10, 3) := by decide +kernel
theorem dX12_falseOf_93 : decode cX12_falseOf 93 = .ok (.bipush 100, 2) := by decide +kernel
theorem dX12_falseOf_95 : decode cX12_falseOf 95 = .ok (.iload 4, 2) := by decide +kernel
theorem dX12_falseOf_97 : decode cX12_falseOf 97 = .ok (.imul, 1) := by decide +kernel
theorem dX12_falseOf_98 : decode cX12_falseOf 98 = .ok (.iload_n 3, 1) := by decide +kernel
theorem dX12_falseOf_99 : decode cX12_falseOf 99 = .ok (.idiv, 1) := by decide +kernel
theorem dX12_falseOf_100 : decode cX12_falseOf 100 = .ok (.ireturn, 1) := by decide +kernel
theorem okX12_falseOf : ab_okM MX12_falseOf 2 := ⟨by decide, ⟨by decide, by decide⟩, ab_in 2498 (by decide +kernel) (by decide +kernel), ab_in 99 (by decide +kernel) (by decide +kernel), by decide +kernel, by decide⟩
set_option maxHeartbeats 4000000 in
set_option maxRecDepth 100000 in
def wX12_falseOf_76 (v1 : Int32) (v2 : Int32) (v3 : Int32) (v5 : Int32) (s0 : Int32) (s1 : Int32) (x : ab_X) (K : Int32 → Prop) (L8 : Int32 → Int32 → Int32 → Prop) : Prop := L8 v3 (s0 + s1) (v5 + 1)
set_option maxHeartbeats 4000000 in
set_option maxRecDepth 100000 in
theorem sX12_falseOf_76 (v1 : Int32) (v2 : Int32) (v3 : Int32) (v5 : Int32) (s0 : Int32) (s1 : Int32)  (x : ab_X) (K : Int32 → Prop) (L8 : Int32 → Int32 → Int32 → Prop) (d bc bs : Nat) (hdp : 1 ≤ d) (hL8 : ∀ (v3 : Int32) (v4 : Int32) (v5 : Int32), L8 v3 v4 v5 → EW MX12_falseOf 8 [(0, .ref 246), (1, .int v1), (2, .int v2), (3, .int v3), (4, .int v4), (5, .int v5)] [] (aS x) d bc bs (liP x K)) (h : wX12_falseOf_76 v1 v2 v3 v5 s0 s1 x K L8) : EW MX12_falseOf 76 [(0, .ref 246), (1, .int v1), (2, .int v2), (3, .int v3), (5, .int v5)] [.int s1, .int s0] (aS x) d bc bs (liP x K) := by
  unfold wX12_falseOf_76 at h
  refine EW_iadd (pc2 := 77) rfl dX12_falseOf_76 ?_
  refine EW_istore (pc2 := 79) rfl dX12_falseOf_77 (by decide) [1, 2, 3, 4, 0, 5] [(0, .ref 246), (1, .int v1), (2, .int v2), (3, .int v3), (4, .int (s0 + s1)), (5, .int v5)] rfl ?_
  refine EW_iinc (v5 + 1) (pc2 := 82) rfl dX12_falseOf_79 5 rfl rfl (by decide) [1, 2, 3, 4, 5, 0] [(0, .ref 246), (1, .int v1), (2, .int v2), (3, .int v3), (4, .int (s0 + s1)), (5, .int (v5 + 1))] rfl ?_
  refine EW_goto (tgt := 8) dX12_falseOf_82 (by decide) ?_
  exact hL8 v3 (s0 + s1) (v5 + 1) h
set_option maxHeartbeats 4000000 in
set_option maxRecDepth 100000 in
def lX12_falseOf_8 (v1 : Int32) (v2 : Int32) (x : ab_X) (K : Int32 → Prop)  (L8 : Int32 → Int32 → Int32 → Prop) (v3 : Int32) (v4 : Int32) (v5 : Int32) : Prop := (((x.1 246 92) ≤ v5 → ((¬ v3 = 0 → (¬ v3 = 0 ∧ K ((100 * v4) / v3))) ∧ (v3 = 0 → K 0))) ∧ (¬ (x.1 246 92) ≤ v5 → (vp_in v5 60 ∧ ((¬ (x.1 310 (Int32.toNatClampNeg v5)) = v1 → L8 v3 v4 (v5 + 1)) ∧ ((x.1 310 (Int32.toNatClampNeg v5)) = v1 → (vp_in v5 60 ∧ (((x.1 312 (Int32.toNatClampNeg v5)) = 0 → L8 v3 v4 (v5 + 1)) ∧ (¬ (x.1 312 (Int32.toNatClampNeg v5)) = 0 → (vp_in v5 60 ∧ wX12_partOf (x.1 313 (Int32.toNatClampNeg v5)) x (fun r4 => ((r4 = v2 → (vp_in v5 60 ∧ ((¬ (x.1 312 (Int32.toNatClampNeg v5)) = 2 → wX12_falseOf_76 v1 v2 (v3 + 1) v5 v4 0 x K L8) ∧ ((x.1 312 (Int32.toNatClampNeg v5)) = 2 → wX12_falseOf_76 v1 v2 (v3 + 1) v5 v4 1 x K L8)))) ∧ (¬ r4 = v2 → L8 v3 v4 (v5 + 1)))))))))))))
set_option maxHeartbeats 4000000 in
set_option maxRecDepth 100000 in
theorem sX12_falseOf_8 (v1 : Int32) (v2 : Int32) (v3 : Int32) (v4 : Int32) (v5 : Int32)  (x : ab_X) (K : Int32 → Prop)  (d bc bs : Nat) (hdp : 1 ≤ d)  (h : Lp3 (lX12_falseOf_8 v1 v2 x K ) v3 v4 v5) : EW MX12_falseOf 8 [(0, .ref 246), (1, .int v1), (2, .int v2), (3, .int v3), (4, .int v4), (5, .int v5)] [] (aS x) d bc bs (liP x K) := by
  refine Lp3.use (P := fun v3 v4 v5 => EW MX12_falseOf 8 [(0, .ref 246), (1, .int v1), (2, .int v2), (3, .int v3), (4, .int v4), (5, .int v5)] [] (aS x) d bc bs (liP x K)) (fun L8 v3 v4 v5 hL8 h => ?_) v3 v4 v5 h
  unfold lX12_falseOf_8 at h
  refine EW_iload (pc2 := 10) rfl dX12_falseOf_8 5 rfl ?_
  refine EW_aload_n (pc2 := 11) rfl dX12_falseOf_10 0 rfl ?_
  refine AW_geti ⟨gfRX12_525, rfl⟩ (pc2 := 14) rfl dX12_falseOf_11 q246 ?_
  refine EW_icmp_ge (tgt := 85) (pc2 := 17) rfl dX12_falseOf_14 (by decide) (fun q => ?_) (fun q => ?_)
  · replace h := h.1 q
    refine EW_iload_n (pc2 := 86) rfl dX12_falseOf_85 3 rfl ?_
    refine EW_if_ne (tgt := 93) (pc2 := 89) rfl dX12_falseOf_86 (by decide) (fun q => ?_) (fun q => ?_)
    · replace h := h.1 q
      refine EW_bipush (pc2 := 95) (v := 100) rfl dX12_falseOf_93 (by decide) ?_
      refine EW_iload (pc2 := 97) rfl dX12_falseOf_95 4 rfl ?_
      refine EW_imul (pc2 := 98) rfl dX12_falseOf_97 ?_
      refine EW_iload_n (pc2 := 99) rfl dX12_falseOf_98 3 rfl ?_
      obtain ⟨hz, h⟩ := h
      refine EW_idiv (pc2 := 100) rfl dX12_falseOf_99 hz ?_
      exact AW_iret rfl dX12_falseOf_100 ⟨_, rfl, rfl, h⟩
    · replace h := h.2 q
      refine EW_iconst (pc2 := 90) (v := 0) rfl dX12_falseOf_89 (by decide) ?_
      refine EW_goto (tgt := 100) dX12_falseOf_90 (by decide) ?_
      exact AW_iret rfl dX12_falseOf_100 ⟨_, rfl, rfl, h⟩
  · replace h := h.2 q
    refine EW_aload_n (pc2 := 18) rfl dX12_falseOf_17 0 rfl ?_
    refine AW_getr (r := 310) ⟨gfRX12_214, rfl⟩ (pc2 := 21) rfl dX12_falseOf_18 q246 rfl ?_
    refine EW_iload (pc2 := 23) rfl dX12_falseOf_21 5 rfl ?_
    obtain ⟨b1, h⟩ := h
    refine AW_iald (pc2 := 24) rfl dX12_falseOf_23 q310 b1 ?_
    refine EW_iload_n (pc2 := 25) rfl dX12_falseOf_24 1 rfl ?_
    refine EW_icmp_ne (tgt := 79) (pc2 := 28) rfl dX12_falseOf_25 (by decide) (fun q => ?_) (fun q => ?_)
    · replace h := h.1 q
      refine EW_iinc (v5 + 1) (pc2 := 82) rfl dX12_falseOf_79 5 rfl rfl (by decide) [1, 2, 3, 4, 5, 0] [(0, .ref 246), (1, .int v1), (2, .int v2), (3, .int v3), (4, .int v4), (5, .int (v5 + 1))] rfl ?_
      refine EW_goto (tgt := 8) dX12_falseOf_82 (by decide) ?_
      exact hL8 v3 v4 (v5 + 1) h
    · replace h := h.2 q
      refine EW_aload_n (pc2 := 29) rfl dX12_falseOf_28 0 rfl ?_
      refine AW_getr (r := 312) ⟨gfRX12_220, rfl⟩ (pc2 := 32) rfl dX12_falseOf_29 q246 rfl ?_
      refine EW_iload (pc2 := 34) rfl dX12_falseOf_32 5 rfl ?_
      obtain ⟨b2, h⟩ := h
      refine AW_iald (pc2 := 35) rfl dX12_falseOf_34 q312 b2 ?_
      refine EW_if_eq (tgt := 79) (pc2 := 38) rfl dX12_falseOf_35 (by decide) (fun q => ?_) (fun q => ?_)
      · replace h := h.1 q
        refine EW_iinc (v5 + 1) (pc2 := 82) rfl dX12_falseOf_79 5 rfl rfl (by decide) [1, 2, 3, 4, 5, 0] [(0, .ref 246), (1, .int v1), (2, .int v2), (3, .int v3), (4, .int v4), (5, .int (v5 + 1))] rfl ?_
        refine EW_goto (tgt := 8) dX12_falseOf_82 (by decide) ?_
        exact hL8 v3 v4 (v5 + 1) h
      · replace h := h.2 q
        refine EW_aload_n (pc2 := 39) rfl dX12_falseOf_38 0 rfl ?_
        refine AW_getr (r := 313) ⟨gfRX12_223, rfl⟩ (pc2 := 42) rfl dX12_falseOf_39 q246 rfl ?_
        refine EW_iload (pc2 := 44) rfl dX12_falseOf_42 5 rfl ?_
        obtain ⟨b3, h⟩ := h
        refine AW_iald (pc2 := 45) rfl dX12_falseOf_44 q313 b3 ?_
        refine AW_invS (M' := MX12_partOf) [.int (x.1 313 (Int32.toNatClampNeg v5))] (rest := []) mlRX12_320 okX12_partOf (pc2 := 48) rfl dX12_falseOf_45 rfl rfl (Nat.le_of_ble_eq_true rfl) (Nat.le_of_ble_eq_true rfl) (d' := 0) (by omega) (EW_mono (fun _ _ hr => ?_) (sX12_partOf (x.1 313 (Int32.toNatClampNeg v5))  x _ _ 0 0 (Nat.le_refl _) h))
        obtain ⟨r4, rfl, rfl, h⟩ := hr
        refine EW_iload_n (pc2 := 49) rfl dX12_falseOf_48 2 rfl ?_
        refine EW_icmp_eq (tgt := 55) (pc2 := 52) rfl dX12_falseOf_49 (by decide) (fun q => ?_) (fun q => ?_)
        · replace h := h.1 q
          refine EW_iinc (v3 + 1) (pc2 := 58) rfl dX12_falseOf_55 3 rfl rfl (by decide) [1, 2, 3, 0, 4, 5] [(0, .ref 246), (1, .int v1), (2, .int v2), (3, .int (v3 + 1)), (4, .int v4), (5, .int v5)] rfl ?_
          refine EW_iload (pc2 := 60) rfl dX12_falseOf_58 4 rfl ?_
          refine EW_aload_n (pc2 := 61) rfl dX12_falseOf_60 0 rfl ?_
          refine AW_getr (r := 312) ⟨gfRX12_220, rfl⟩ (pc2 := 64) rfl dX12_falseOf_61 q246 rfl ?_
          refine EW_iload (pc2 := 66) rfl dX12_falseOf_64 5 rfl ?_
          obtain ⟨b5, h⟩ := h
          refine AW_iald (pc2 := 67) rfl dX12_falseOf_66 q312 b5 ?_
          refine EW_iconst (pc2 := 68) (v := 2) rfl dX12_falseOf_67 (by decide) ?_
          refine EW_icmp_ne (tgt := 75) (pc2 := 71) rfl dX12_falseOf_68 (by decide) (fun q => ?_) (fun q => ?_)
          · replace h := h.1 q
            refine EW_iconst (pc2 := 76) (v := 0) rfl dX12_falseOf_75 (by decide) ?_
            refine EW_ls [0, 1, 2, 3, 5] rfl ?_
            exact sX12_falseOf_76 v1 v2 (v3 + 1) v5 v4 0 x K L8 d bc bs hdp hL8 h
          · replace h := h.2 q
            refine EW_iconst (pc2 := 72) (v := 1) rfl dX12_falseOf_71 (by decide) ?_
            refine EW_goto (tgt := 76) dX12_falseOf_72 (by decide) ?_
            refine EW_ls [0, 1, 2, 3, 5] rfl ?_
            exact sX12_falseOf_76 v1 v2 (v3 + 1) v5 v4 1 x K L8 d bc bs hdp hL8 h
        · replace h := h.2 q
          refine EW_goto (tgt := 79) dX12_falseOf_52 (by decide) ?_
          refine EW_iinc (v5 + 1) (pc2 := 82) rfl dX12_falseOf_79 5 rfl rfl (by decide) [1, 2, 3, 4, 5, 0] [(0, .ref 246), (1, .int v1), (2, .int v2), (3, .int v3), (4, .int v4), (5, .int (v5 + 1))] rfl ?_
          refine EW_goto (tgt := 8) dX12_falseOf_82 (by decide) ?_
          exact hL8 v3 v4 (v5 + 1) h
set_option maxHeartbeats 4000000 in
set_option maxRecDepth 100000 in
def wX12_falseOf (v1 : Int32) (v2 : Int32) (x : ab_X) (K : Int32 → Prop) : Prop := Lp3 (lX12_falseOf_8 v1 v2 x K ) 0 0 0
set_option maxHeartbeats 4000000 in
set_option maxRecDepth 100000 in
theorem sX12_falseOf (v1 : Int32) (v2 : Int32)  (x : ab_X) (K : Int32 → Prop) (d bc bs : Nat) (hdp : 1 ≤ d) (h : wX12_falseOf v1 v2 x K) : EW MX12_falseOf 0 [(0, .ref 246), (1, .int v1), (2, .int v2)] [] (aS x) d bc bs (liP x K) := by
  unfold wX12_falseOf at h
  refine EW_iconst (pc2 := 1) (v := 0) rfl dX12_falseOf_0 (by decide) ?_
  refine EW_istore_n (pc2 := 2) rfl dX12_falseOf_1 (by decide) [1, 2, 3, 0] [(0, .ref 246), (1, .int v1), (2, .int v2), (3, .int 0)] rfl ?_
  refine EW_iconst (pc2 := 3) (v := 0) rfl dX12_falseOf_2 (by decide) ?_
  refine EW_istore (pc2 := 5) rfl dX12_falseOf_3 (by decide) [1, 2, 3, 4, 0] [(0, .ref 246), (1, .int v1), (2, .int v2), (3, .int 0), (4, .int 0)] rfl ?_
  refine EW_iconst (pc2 := 6) (v := 0) rfl dX12_falseOf_5 (by decide) ?_
  refine EW_istore (pc2 := 8) rfl dX12_falseOf_6 (by decide) [1, 2, 3, 4, 5, 0] [(0, .ref 246), (1, .int v1), (2, .int v2), (3, .int 0), (4, .int 0), (5, .int 0)] rfl ?_
  exact sX12_falseOf_8 v1 v2 0 0 0 x K d bc bs hdp h
theorem gfRX12_107 : ab_L RX12 107 12 36 := ⟨by decide, by decide, ab_in 1885 (by decide +kernel) (by decide +kernel)⟩
abbrev MX12_readyOf : ab_M := (yX12_readyOf, cX12_readyOf, 4, (some .int))
theorem dX12_readyOf_0 : decode cX12_readyOf 0 = .ok (.iconst 0, 1) := by decide +kernel
theorem dX12_readyOf_1 : decode cX12_readyOf 1 = .ok (.istore_n 2, 1) := by decide +kernel
theorem dX12_readyOf_2 : decode cX12_readyOf 2 = .ok (.iconst 0, 1) := by decide +kernel
theorem dX12_readyOf_3 : decode cX12_readyOf 3 = .ok (.istore_n 3, 1) := by decide +kernel
theorem dX12_readyOf_4 : decode cX12_readyOf 4 = .ok (.iload_n 3, 1) := by decide +kernel
theorem dX12_readyOf_5 : decode cX12_readyOf 5 = .ok (.aload_n 0, 1) := by decide +kernel
theorem dX12_readyOf_6 : decode cX12_readyOf 6 = .ok (.getfield 366, 3) := by decide +kernel
theorem dX12_readyOf_9 : decode cX12_readyOf 9 = .ok (.if_icmp .ge 36, 3) := by decide +kernel
theorem dX12_readyOf_12 : decode cX12_readyOf 12 = .ok (.iload_n 2, 1) := by decide +kernel
theorem dX12_readyOf_13 : decode cX12_readyOf 13 = .ok (.aload_n 0, 1) := by decide +kernel
theorem dX12_readyOf_14 : decode cX12_readyOf 14 = .ok (.getfield 107, 3) := by decide +kernel
theorem dX12_readyOf_17 : decode cX12_readyOf 17 = .ok (.iload_n 3, 1) := by decide +kernel
theorem dX12_readyOf_18 : decode cX12_readyOf 18 = .ok (.iaload, 1) := by decide +kernel
theorem dX12_readyOf_19 : decode cX12_readyOf 19 = .ok (.iload_n 1, 1) := by decide +kernel
theorem dX12_readyOf_20 : decode cX12_readyOf 20 = .ok (.if_icmp .ne 16, 3) := by decide +kernel
theorem dX12_readyOf_23 : decode cX12_readyOf 23 = .ok (.aload_n 0, 1) := by decide +kernel
theorem dX12_readyOf_24 : decode cX12_readyOf 24 = .ok (.getfield 128, 3) := by decide +kernel
theorem dX12_readyOf_27 : decode cX12_readyOf 27 = .ok (.iload_n 3, 1) := by decide +kernel
theorem dX12_readyOf_28 : decode cX12_readyOf 28 = .ok (.iaload, 1) := by decide +kernel
theorem dX12_readyOf_29 : decode cX12_readyOf 29 = .ok (.ifCond .ne 7, 3) := by decide +kernel
theorem dX12_readyOf_32 : decode cX12_readyOf 32 = .ok (.iconst 1, 1) := by decide +kernel
theorem dX12_readyOf_33 : decode cX12_readyOf 33 = .ok (.goto 4, 3) := by decide +kernel
theorem dX12_readyOf_36 : decode cX12_readyOf 36 = .ok (.iconst 0, 1) := by decide +kernel
theorem dX12_readyOf_37 : decode cX12_readyOf 37 = .ok (.iadd, 1) := by decide +kernel
theorem dX12_readyOf_38 : decode cX12_readyOf 38 = .ok (.istore_n 2, 1) := by decide +kernel
theorem dX12_readyOf_39 : decode cX12_readyOf 39 = .ok (.iinc 3 1, 3) := by decide +kernel
theorem dX12_readyOf_42 : decode cX12_readyOf 42 = .ok (.goto (-38), 3) := by decide +kernel
theorem dX12_readyOf_45 : decode cX12_readyOf 45 = .ok (.iload_n 2, 1) := by decide +kernel
theorem dX12_readyOf_46 : decode cX12_readyOf 46 = .ok (.ireturn, 1) := by decide +kernel
theorem okX12_readyOf : ab_okM MX12_readyOf 1 := ⟨by decide, ⟨by decide, by decide⟩, ab_in 2510 (by decide +kernel) (by decide +kernel), ab_in 99 (by decide +kernel) (by decide +kernel), by decide +kernel, by decide⟩
set_option maxHeartbeats 4000000 in
set_option maxRecDepth 100000 in
def wX12_readyOf_37 (v1 : Int32) (v3 : Int32) (s0 : Int32) (s1 : Int32) (x : ab_X) (K : Int32 → Prop) (L4 : Int32 → Int32 → Prop) : Prop := L4 (s0 + s1) (v3 + 1)
set_option maxHeartbeats 4000000 in
set_option maxRecDepth 100000 in
theorem sX12_readyOf_37 (v1 : Int32) (v3 : Int32) (s0 : Int32) (s1 : Int32)  (x : ab_X) (K : Int32 → Prop) (L4 : Int32 → Int32 → Prop) (d bc bs : Nat) (hdp : 0 ≤ d) (hL4 : ∀ (v2 : Int32) (v3 : Int32), L4 v2 v3 → EW MX12_readyOf 4 [(0, .ref 246), (1, .int v1), (2, .int v2), (3, .int v3)] [] (aS x) d bc bs (liP x K)) (h : wX12_readyOf_37 v1 v3 s0 s1 x K L4) : EW MX12_readyOf 37 [(0, .ref 246), (1, .int v1), (3, .int v3)] [.int s1, .int s0] (aS x) d bc bs (liP x K) := by
  unfold wX12_readyOf_37 at h
  refine EW_iadd (pc2 := 38) rfl dX12_readyOf_37 ?_
  refine EW_istore_n (pc2 := 39) rfl dX12_readyOf_38 (by decide) [1, 2, 0, 3] [(0, .ref 246), (1, .int v1), (2, .int (s0 + s1)), (3, .int v3)] rfl ?_
  refine EW_iinc (v3 + 1) (pc2 := 42) rfl dX12_readyOf_39 3 rfl rfl (by decide) [1, 2, 3, 0] [(0, .ref 246), (1, .int v1), (2, .int (s0 + s1)), (3, .int (v3 + 1))] rfl ?_
  refine EW_goto (tgt := 4) dX12_readyOf_42 (by decide) ?_
  exact hL4 (s0 + s1) (v3 + 1) h
set_option maxHeartbeats 4000000 in
set_option maxRecDepth 100000 in
def wX12_readyOf_36 (v1 : Int32) (v3 : Int32) (s0 : Int32) (x : ab_X) (K : Int32 → Prop) (L4 : Int32 → Int32 → Prop) : Prop := wX12_readyOf_37 v1 v3 s0 0 x K L4
set_option maxHeartbeats 4000000 in
set_option maxRecDepth 100000 in
theorem sX12_readyOf_36 (v1 : Int32) (v3 : Int32) (s0 : Int32)  (x : ab_X) (K : Int32 → Prop) (L4 : Int32 → Int32 → Prop) (d bc bs : Nat) (hdp : 0 ≤ d) (hL4 : ∀ (v2 : Int32) (v3 : Int32), L4 v2 v3 → EW MX12_readyOf 4 [(0, .ref 246), (1, .int v1), (2, .int v2), (3, .int v3)] [] (aS x) d bc bs (liP x K)) (h : wX12_readyOf_36 v1 v3 s0 x K L4) : EW MX12_readyOf 36 [(0, .ref 246), (1, .int v1), (3, .int v3)] [.int s0] (aS x) d bc bs (liP x K) := by
  unfold wX12_readyOf_36 at h
  refine EW_iconst (pc2 := 37) (v := 0) rfl dX12_readyOf_36 (by decide) ?_
  exact sX12_readyOf_37 v1 v3 s0 0 x K L4 d bc bs hdp hL4 h
set_option maxHeartbeats 4000000 in
set_option maxRecDepth 100000 in
def lX12_readyOf_4 (v1 : Int32) (x : ab_X) (K : Int32 → Prop)  (L4 : Int32 → Int32 → Prop) (v2 : Int32) (v3 : Int32) : Prop := (((x.1 246 58) ≤ v3 → K v2) ∧ (¬ (x.1 246 58) ≤ v3 → (vp_in v3 16 ∧ ((¬ (x.1 279 (Int32.toNatClampNeg v3)) = v1 → wX12_readyOf_36 v1 v3 v2 x K L4) ∧ ((x.1 279 (Int32.toNatClampNeg v3)) = v1 → (vp_in v3 16 ∧ ((¬ (x.1 286 (Int32.toNatClampNeg v3)) = 0 → wX12_readyOf_36 v1 v3 v2 x K L4) ∧ ((x.1 286 (Int32.toNatClampNeg v3)) = 0 → wX12_readyOf_37 v1 v3 v2 1 x K L4))))))))
set_option maxHeartbeats 4000000 in
set_option maxRecDepth 100000 in
theorem sX12_readyOf_4 (v1 : Int32) (v2 : Int32) (v3 : Int32)  (x : ab_X) (K : Int32 → Prop)  (d bc bs : Nat) (hdp : 0 ≤ d)  (h : Lp2 (lX12_readyOf_4 v1 x K ) v2 v3) : EW MX12_readyOf 4 [(0, .ref 246), (1, .int v1), (2, .int v2), (3, .int v3)] [] (aS x) d bc bs (liP x K) := by
  refine Lp2.use (P := fun v2 v3 => EW MX12_readyOf 4 [(0, .ref 246), (1, .int v1), (2, .int v2), (3, .int v3)] [] (aS x) d bc bs (liP x K)) (fun L4 v2 v3 hL4 h => ?_) v2 v3 h
  unfold lX12_readyOf_4 at h
  refine EW_iload_n (pc2 := 5) rfl dX12_readyOf_4 3 rfl ?_
  refine EW_aload_n (pc2 := 6) rfl dX12_readyOf_5 0 rfl ?_
  refine AW_geti ⟨gfRX12_366, rfl⟩ (pc2 := 9) rfl dX12_readyOf_6 q246 ?_
  refine EW_icmp_ge (tgt := 45) (pc2 := 12) rfl dX12_readyOf_9 (by decide) (fun q => ?_) (fun q => ?_)
  · replace h := h.1 q
    refine EW_iload_n (pc2 := 46) rfl dX12_readyOf_45 2 rfl ?_
    exact AW_iret rfl dX12_readyOf_46 ⟨_, rfl, rfl, h⟩
  · replace h := h.2 q
    refine EW_iload_n (pc2 := 13) rfl dX12_readyOf_12 2 rfl ?_
    refine EW_aload_n (pc2 := 14) rfl dX12_readyOf_13 0 rfl ?_
    refine AW_getr (r := 279) ⟨gfRX12_107, rfl⟩ (pc2 := 17) rfl dX12_readyOf_14 q246 rfl ?_
    refine EW_iload_n (pc2 := 18) rfl dX12_readyOf_17 3 rfl ?_
    obtain ⟨b1, h⟩ := h
    refine AW_iald (pc2 := 19) rfl dX12_readyOf_18 q279 b1 ?_
    refine EW_iload_n (pc2 := 20) rfl dX12_readyOf_19 1 rfl ?_
    refine EW_icmp_ne (tgt := 36) (pc2 := 23) rfl dX12_readyOf_20 (by decide) (fun q => ?_) (fun q => ?_)
    · replace h := h.1 q
      refine EW_ls [0, 1, 3] rfl ?_
      exact sX12_readyOf_36 v1 v3 v2 x K L4 d bc bs hdp hL4 h
    · replace h := h.2 q
      refine EW_aload_n (pc2 := 24) rfl dX12_readyOf_23 0 rfl ?_
      refine AW_getr (r := 286) ⟨gfRX12_128, rfl⟩ (pc2 := 27) rfl dX12_readyOf_24 q246 rfl ?_
      refine EW_iload_n (pc2 := 28) rfl dX12_readyOf_27 3 rfl ?_
      obtain ⟨b2, h⟩ := h
      refine AW_iald (pc2 := 29) rfl dX12_readyOf_28 q286 b2 ?_
      refine EW_if_ne (tgt := 36) (pc2 := 32) rfl dX12_readyOf_29 (by decide) (fun q => ?_) (fun q => ?_)
      · replace h := h.1 q
        refine EW_ls [0, 1, 3] rfl ?_
        exact sX12_readyOf_36 v1 v3 v2 x K L4 d bc bs hdp hL4 h
      · replace h := h.2 q
        refine EW_iconst (pc2 := 33) (v := 1) rfl dX12_readyOf_32 (by decide) ?_
        refine EW_goto (tgt := 37) dX12_readyOf_33 (by decide) ?_
        refine EW_ls [0, 1, 3] rfl ?_
        exact sX12_readyOf_37 v1 v3 v2 1 x K L4 d bc bs hdp hL4 h
set_option maxHeartbeats 4000000 in
set_option maxRecDepth 100000 in
def wX12_readyOf (v1 : Int32) (x : ab_X) (K : Int32 → Prop) : Prop := Lp2 (lX12_readyOf_4 v1 x K ) 0 0
set_option maxHeartbeats 4000000 in
set_option maxRecDepth 100000 in
theorem sX12_readyOf (v1 : Int32)  (x : ab_X) (K : Int32 → Prop) (d bc bs : Nat) (hdp : 0 ≤ d) (h : wX12_readyOf v1 x K) : EW MX12_readyOf 0 [(0, .ref 246), (1, .int v1)] [] (aS x) d bc bs (liP x K) := by
  unfold wX12_readyOf at h
  refine EW_iconst (pc2 := 1) (v := 0) rfl dX12_readyOf_0 (by decide) ?_
  refine EW_istore_n (pc2 := 2) rfl dX12_readyOf_1 (by decide) [1, 2, 0] [(0, .ref 246), (1, .int v1), (2, .int 0)] rfl ?_
  refine EW_iconst (pc2 := 3) (v := 0) rfl dX12_readyOf_2 (by decide) ?_
  refine EW_istore_n (pc2 := 4) rfl dX12_readyOf_3 (by decide) [1, 2, 3, 0] [(0, .ref 246), (1, .int v1), (2, .int 0), (3, .int 0)] rfl ?_
  exact sX12_readyOf_4 v1 0 0 x K d bc bs hdp h
