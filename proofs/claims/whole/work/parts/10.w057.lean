abbrev MX12_daysFrom : ab_M := (yX12_daysFrom, cX12_daysFrom, 5, (some .int))
theorem dX12_daysFrom_0 : decode cX12_daysFrom 0 = .ok (.iconst (-1), 1) := by decide +kernel
theorem dX12_daysFrom_1 : decode cX12_daysFrom 1 = .ok (.istore_n 3, 1) := by decide +kernel
theorem dX12_daysFrom_2 : decode cX12_daysFrom 2 = .ok (.iconst 0, 1) := by decide +kernel
theorem dX12_daysFrom_3 : decode cX12_daysFrom 3 = .ok (.istore 4, 2) := by decide +kernel
theorem dX12_daysFrom_5 : decode cX12_daysFrom 5 = .ok (.iload 4, 2) := by decide +kernel
theorem dX12_daysFrom_7 : decode cX12_daysFrom 7 = .ok (.aload_n 0, 1) := by decide +kernel
theorem dX12_daysFrom_8 : decode cX12_daysFrom 8 = .ok (.getfield 596, 3) := by decide +kernel
theorem dX12_daysFrom_11 : decode cX12_daysFrom 11 = .ok (.if_icmp .ge 50, 3) := by decide +kernel
theorem dX12_daysFrom_14 : decode cX12_daysFrom 14 = .ok (.aload_n 0, 1) := by decide +kernel
theorem dX12_daysFrom_15 : decode cX12_daysFrom 15 = .ok (.getfield 244, 3) := by decide +kernel
theorem dX12_daysFrom_18 : decode cX12_daysFrom 18 = .ok (.iload 4, 2) := by decide +kernel
theorem dX12_daysFrom_20 : decode cX12_daysFrom 20 = .ok (.iaload, 1) := by decide +kernel
theorem dX12_daysFrom_21 : decode cX12_daysFrom 21 = .ok (.iload_n 1, 1) := by decide +kernel
theorem dX12_daysFrom_22 : decode cX12_daysFrom 22 = .ok (.if_icmp .ne 33, 3) := by decide +kernel
theorem dX12_daysFrom_25 : decode cX12_daysFrom 25 = .ok (.aload_n 0, 1) := by decide +kernel
theorem dX12_daysFrom_26 : decode cX12_daysFrom 26 = .ok (.getfield 247, 3) := by decide +kernel
theorem dX12_daysFrom_29 : decode cX12_daysFrom 29 = .ok (.iload 4, 2) := by decide +kernel
theorem dX12_daysFrom_31 : decode cX12_daysFrom 31 = .ok (.iaload, 1) := by decide +kernel
theorem dX12_daysFrom_32 : decode cX12_daysFrom 32 = .ok (.iconst (-1), 1) := by decide +kernel
theorem dX12_daysFrom_33 : decode cX12_daysFrom 33 = .ok (.if_icmp .ne 22, 3) := by decide +kernel
theorem dX12_daysFrom_36 : decode cX12_daysFrom 36 = .ok (.aload_n 0, 1) := by decide +kernel
theorem dX12_daysFrom_37 : decode cX12_daysFrom 37 = .ok (.getfield 253, 3) := by decide +kernel
theorem dX12_daysFrom_40 : decode cX12_daysFrom 40 = .ok (.iload 4, 2) := by decide +kernel
theorem dX12_daysFrom_42 : decode cX12_daysFrom 42 = .ok (.iaload, 1) := by decide +kernel
theorem dX12_daysFrom_43 : decode cX12_daysFrom 43 = .ok (.iload_n 2, 1) := by decide +kernel
theorem dX12_daysFrom_44 : decode cX12_daysFrom 44 = .ok (.if_icmp .gt 11, 3) := by decide +kernel
theorem dX12_daysFrom_47 : decode cX12_daysFrom 47 = .ok (.aload_n 0, 1) := by decide +kernel
theorem dX12_daysFrom_48 : decode cX12_daysFrom 48 = .ok (.getfield 253, 3) := by decide +kernel
theorem dX12_daysFrom_51 : decode cX12_daysFrom 51 = .ok (.iload 4, 2) := by decide +kernel
theorem dX12_daysFrom_53 : decode cX12_daysFrom 53 = .ok (.iaload, 1) := by decide +kernel
theorem dX12_daysFrom_54 : decode cX12_daysFrom 54 = .ok (.istore_n 3, 1) := by decide +kernel
theorem dX12_daysFrom_55 : decode cX12_daysFrom 55 = .ok (.iinc 4 1, 3) := by decide +kernel
theorem dX12_daysFrom_58 : decode cX12_daysFrom 58 = .ok (.goto (-53), 3) := by decide +kernel
theorem dX12_daysFrom_61 : decode cX12_daysFrom 61 = .ok (.iload_n 3, 1) := by decide +kernel
theorem dX12_daysFrom_62 : decode cX12_daysFrom 62 = .ok (.iconst (-1), 1) := by decide +kernel
theorem dX12_daysFrom_63 : decode cX12_daysFrom 63 = .ok (.if_icmp .ne 9, 3) := by decide +kernel
theorem dX12_daysFrom_66 : decode cX12_daysFrom 66 = .ok (.sipush 999, 3) := by decide +kernel
theorem dX12_daysFrom_69 : decode cX12_daysFrom 69 = .ok (.goto 10, 3) := by decide +kernel
theorem dX12_daysFrom_72 : decode cX12_daysFrom 72 = .ok (.iload_n 2, 1) := by decide +kernel
theorem dX12_daysFrom_73 : decode cX12_daysFrom 73 = .ok (.iload_n 3, 1) := by decide +kernel
theorem dX12_daysFrom_74 : decode cX12_daysFrom 74 = .ok (.isub, 1) := by decide +kernel
theorem dX12_daysFrom_75 : decode cX12_daysFrom 75 = .ok (.sipush 1440, 3) := by decide +kernel
theorem dX12_daysFrom_78 : decode cX12_daysFrom 78 = .ok (.idiv, 1) := by decide +kernel
theorem dX12_daysFrom_79 : decode cX12_daysFrom 79 = .ok (.ireturn, 1) := by decide +kernel
theorem okX12_daysFrom : ab_okM MX12_daysFrom 2 := ⟨by decide, ⟨by decide, by decide⟩, ab_in 2650 (by decide +kernel) (by decide +kernel), ab_in 99 (by decide +kernel) (by decide +kernel), by decide +kernel, by decide⟩
set_option maxHeartbeats 4000000 in
set_option maxRecDepth 100000 in
def lX12_daysFrom_5 (v1 : Int32) (v2 : Int32) (x : ab_X) (K : Int32 → Prop)  (L5 : Int32 → Int32 → Prop) (v3 : Int32) (v4 : Int32) : Prop := (((x.1 246 99) ≤ v4 → ((¬ v3 = (-1) → K ((v2 - v3) / 1440)) ∧ (v3 = (-1) → K 999))) ∧ (¬ (x.1 246 99) ≤ v4 → (vp_in v4 100 ∧ ((¬ (x.1 320 (Int32.toNatClampNeg v4)) = v1 → L5 v3 (v4 + 1)) ∧ ((x.1 320 (Int32.toNatClampNeg v4)) = v1 → (vp_in v4 100 ∧ ((¬ (x.1 321 (Int32.toNatClampNeg v4)) = (-1) → L5 v3 (v4 + 1)) ∧ ((x.1 321 (Int32.toNatClampNeg v4)) = (-1) → (vp_in v4 100 ∧ ((v2 < (x.1 323 (Int32.toNatClampNeg v4)) → L5 v3 (v4 + 1)) ∧ (¬ v2 < (x.1 323 (Int32.toNatClampNeg v4)) → (vp_in v4 100 ∧ L5 (x.1 323 (Int32.toNatClampNeg v4)) (v4 + 1)))))))))))))
set_option maxHeartbeats 4000000 in
set_option maxRecDepth 100000 in
theorem sX12_daysFrom_5 (v1 : Int32) (v2 : Int32) (v3 : Int32) (v4 : Int32)  (x : ab_X) (K : Int32 → Prop)  (d bc bs : Nat) (hdp : 0 ≤ d)  (h : Lp2 (lX12_daysFrom_5 v1 v2 x K ) v3 v4) : EW MX12_daysFrom 5 [(0, .ref 246), (1, .int v1), (2, .int v2), (3, .int v3), (4, .int v4)] [] (aS x) d bc bs (liP x K) := by
  refine Lp2.use (P := fun v3 v4 => EW MX12_daysFrom 5 [(0, .ref 246), (1, .int v1), (2, .int v2), (3, .int v3), (4, .int v4)] [] (aS x) d bc bs (liP x K)) (fun L5 v3 v4 hL5 h => ?_) v3 v4 h
  unfold lX12_daysFrom_5 at h
  refine EW_iload (pc2 := 7) rfl dX12_daysFrom_5 4 rfl ?_
  refine EW_aload_n (pc2 := 8) rfl dX12_daysFrom_7 0 rfl ?_
  refine AW_geti ⟨gfRX12_596, rfl⟩ (pc2 := 11) rfl dX12_daysFrom_8 q246 ?_
  refine EW_icmp_ge (tgt := 61) (pc2 := 14) rfl dX12_daysFrom_11 (by decide) (fun q => ?_) (fun q => ?_)
  · replace h := h.1 q
    refine EW_iload_n (pc2 := 62) rfl dX12_daysFrom_61 3 rfl ?_
    refine EW_iconst (pc2 := 63) (v := (-1)) rfl dX12_daysFrom_62 (by decide) ?_
    refine EW_icmp_ne (tgt := 72) (pc2 := 66) rfl dX12_daysFrom_63 (by decide) (fun q => ?_) (fun q => ?_)
    · replace h := h.1 q
      refine EW_iload_n (pc2 := 73) rfl dX12_daysFrom_72 2 rfl ?_
      refine EW_iload_n (pc2 := 74) rfl dX12_daysFrom_73 3 rfl ?_
      refine EW_isub (pc2 := 75) rfl dX12_daysFrom_74 ?_
      refine EW_sipush (pc2 := 78) (v := 1440) rfl dX12_daysFrom_75 (by decide) ?_
      refine EW_idiv (pc2 := 79) rfl dX12_daysFrom_78 (by decide) ?_
      exact AW_iret rfl dX12_daysFrom_79 ⟨_, rfl, rfl, h⟩
    · replace h := h.2 q
      refine EW_sipush (pc2 := 69) (v := 999) rfl dX12_daysFrom_66 (by decide) ?_
      refine EW_goto (tgt := 79) dX12_daysFrom_69 (by decide) ?_
      exact AW_iret rfl dX12_daysFrom_79 ⟨_, rfl, rfl, h⟩
  · replace h := h.2 q
    refine EW_aload_n (pc2 := 15) rfl dX12_daysFrom_14 0 rfl ?_
    refine AW_getr (r := 320) ⟨gfRX12_244, rfl⟩ (pc2 := 18) rfl dX12_daysFrom_15 q246 rfl ?_
    refine EW_iload (pc2 := 20) rfl dX12_daysFrom_18 4 rfl ?_
    obtain ⟨b1, h⟩ := h
    refine AW_iald (pc2 := 21) rfl dX12_daysFrom_20 q320 b1 ?_
    refine EW_iload_n (pc2 := 22) rfl dX12_daysFrom_21 1 rfl ?_
    refine EW_icmp_ne (tgt := 55) (pc2 := 25) rfl dX12_daysFrom_22 (by decide) (fun q => ?_) (fun q => ?_)
    · replace h := h.1 q
      refine EW_iinc (v4 + 1) (pc2 := 58) rfl dX12_daysFrom_55 4 rfl rfl (by decide) [1, 2, 3, 4, 0] [(0, .ref 246), (1, .int v1), (2, .int v2), (3, .int v3), (4, .int (v4 + 1))] rfl ?_
      refine EW_goto (tgt := 5) dX12_daysFrom_58 (by decide) ?_
      exact hL5 v3 (v4 + 1) h
    · replace h := h.2 q
      refine EW_aload_n (pc2 := 26) rfl dX12_daysFrom_25 0 rfl ?_
      refine AW_getr (r := 321) ⟨gfRX12_247, rfl⟩ (pc2 := 29) rfl dX12_daysFrom_26 q246 rfl ?_
      refine EW_iload (pc2 := 31) rfl dX12_daysFrom_29 4 rfl ?_
      obtain ⟨b2, h⟩ := h
      refine AW_iald (pc2 := 32) rfl dX12_daysFrom_31 q321 b2 ?_
      refine EW_iconst (pc2 := 33) (v := (-1)) rfl dX12_daysFrom_32 (by decide) ?_
      refine EW_icmp_ne (tgt := 55) (pc2 := 36) rfl dX12_daysFrom_33 (by decide) (fun q => ?_) (fun q => ?_)
      · replace h := h.1 q
        refine EW_iinc (v4 + 1) (pc2 := 58) rfl dX12_daysFrom_55 4 rfl rfl (by decide) [1, 2, 3, 4, 0] [(0, .ref 246), (1, .int v1), (2, .int v2), (3, .int v3), (4, .int (v4 + 1))] rfl ?_
        refine EW_goto (tgt := 5) dX12_daysFrom_58 (by decide) ?_
        exact hL5 v3 (v4 + 1) h
      · replace h := h.2 q
        refine EW_aload_n (pc2 := 37) rfl dX12_daysFrom_36 0 rfl ?_
        refine AW_getr (r := 323) ⟨gfRX12_253, rfl⟩ (pc2 := 40) rfl dX12_daysFrom_37 q246 rfl ?_
        refine EW_iload (pc2 := 42) rfl dX12_daysFrom_40 4 rfl ?_
        obtain ⟨b3, h⟩ := h
        refine AW_iald (pc2 := 43) rfl dX12_daysFrom_42 q323 b3 ?_
        refine EW_iload_n (pc2 := 44) rfl dX12_daysFrom_43 2 rfl ?_
        refine EW_icmp_gt (tgt := 55) (pc2 := 47) rfl dX12_daysFrom_44 (by decide) (fun q => ?_) (fun q => ?_)
        · replace h := h.1 q
          refine EW_iinc (v4 + 1) (pc2 := 58) rfl dX12_daysFrom_55 4 rfl rfl (by decide) [1, 2, 3, 4, 0] [(0, .ref 246), (1, .int v1), (2, .int v2), (3, .int v3), (4, .int (v4 + 1))] rfl ?_
          refine EW_goto (tgt := 5) dX12_daysFrom_58 (by decide) ?_
          exact hL5 v3 (v4 + 1) h
        · replace h := h.2 q
          refine EW_aload_n (pc2 := 48) rfl dX12_daysFrom_47 0 rfl ?_
          refine AW_getr (r := 323) ⟨gfRX12_253, rfl⟩ (pc2 := 51) rfl dX12_daysFrom_48 q246 rfl ?_
          refine EW_iload (pc2 := 53) rfl dX12_daysFrom_51 4 rfl ?_
          obtain ⟨b4, h⟩ := h
          refine AW_iald (pc2 := 54) rfl dX12_daysFrom_53 q323 b4 ?_
          refine EW_istore_n (pc2 := 55) rfl dX12_daysFrom_54 (by decide) [1, 2, 3, 0, 4] [(0, .ref 246), (1, .int v1), (2, .int v2), (3, .int (x.1 323 (Int32.toNatClampNeg v4))), (4, .int v4)] rfl ?_
          refine EW_iinc (v4 + 1) (pc2 := 58) rfl dX12_daysFrom_55 4 rfl rfl (by decide) [1, 2, 3, 4, 0] [(0, .ref 246), (1, .int v1), (2, .int v2), (3, .int (x.1 323 (Int32.toNatClampNeg v4))), (4, .int (v4 + 1))] rfl ?_
          refine EW_goto (tgt := 5) dX12_daysFrom_58 (by decide) ?_
          exact hL5 (x.1 323 (Int32.toNatClampNeg v4)) (v4 + 1) h
set_option maxHeartbeats 4000000 in
set_option maxRecDepth 100000 in
def wX12_daysFrom (v1 : Int32) (v2 : Int32) (x : ab_X) (K : Int32 → Prop) : Prop := Lp2 (lX12_daysFrom_5 v1 v2 x K ) (-1) 0
set_option maxHeartbeats 4000000 in
set_option maxRecDepth 100000 in
theorem sX12_daysFrom (v1 : Int32) (v2 : Int32)  (x : ab_X) (K : Int32 → Prop) (d bc bs : Nat) (hdp : 0 ≤ d) (h : wX12_daysFrom v1 v2 x K) : EW MX12_daysFrom 0 [(0, .ref 246), (1, .int v1), (2, .int v2)] [] (aS x) d bc bs (liP x K) := by
  unfold wX12_daysFrom at h
  refine EW_iconst (pc2 := 1) (v := (-1)) rfl dX12_daysFrom_0 (by decide) ?_
  refine EW_istore_n (pc2 := 2) rfl dX12_daysFrom_1 (by decide) [1, 2, 3, 0] [(0, .ref 246), (1, .int v1), (2, .int v2), (3, .int (-1))] rfl ?_
  refine EW_iconst (pc2 := 3) (v := 0) rfl dX12_daysFrom_2 (by decide) ?_
  refine EW_istore (pc2 := 5) rfl dX12_daysFrom_3 (by decide) [1, 2, 3, 4, 0] [(0, .ref 246), (1, .int v1), (2, .int v2), (3, .int (-1)), (4, .int 0)] rfl ?_
  exact sX12_daysFrom_5 v1 v2 (-1) 0 x K d bc bs hdp h
theorem gfRX12_53 : ab_L RX12 53 12 17 := ⟨by decide, by decide, ab_in 1866 (by decide +kernel) (by decide +kernel)⟩
abbrev MX12_useOf : ab_M := (yX12_useOf, cX12_useOf, 5, (some .int))
theorem dX12_useOf_0 : decode cX12_useOf 0 = .ok (.iconst (-1), 1) := by decide +kernel
theorem dX12_useOf_1 : decode cX12_useOf 1 = .ok (.istore_n 3, 1) := by decide +kernel
theorem dX12_useOf_2 : decode cX12_useOf 2 = .ok (.iconst 0, 1) := by decide +kernel
theorem dX12_useOf_3 : decode cX12_useOf 3 = .ok (.istore 4, 2) := by decide +kernel
theorem dX12_useOf_5 : decode cX12_useOf 5 = .ok (.iload 4, 2) := by decide +kernel
theorem dX12_useOf_7 : decode cX12_useOf 7 = .ok (.aload_n 0, 1) := by decide +kernel
theorem dX12_useOf_8 : decode cX12_useOf 8 = .ok (.getfield 596, 3) := by decide +kernel
theorem dX12_useOf_11 : decode cX12_useOf 11 = .ok (.if_icmp .ge 77, 3) := by decide +kernel
theorem dX12_useOf_14 : decode cX12_useOf 14 = .ok (.aload_n 0, 1) := by decide +kernel
theorem dX12_useOf_15 : decode cX12_useOf 15 = .ok (.getfield 244, 3) := by decide +kernel
theorem dX12_useOf_18 : decode cX12_useOf 18 = .ok (.iload 4, 2) := by decide +kernel
theorem dX12_useOf_20 : decode cX12_useOf 20 = .ok (.iaload, 1) := by decide +kernel
theorem dX12_useOf_21 : decode cX12_useOf 21 = .ok (.iload_n 1, 1) := by decide +kernel
theorem dX12_useOf_22 : decode cX12_useOf 22 = .ok (.if_icmp .ne 60, 3) := by decide +kernel
theorem dX12_useOf_25 : decode cX12_useOf 25 = .ok (.aload_n 0, 1) := by decide +kernel
theorem dX12_useOf_26 : decode cX12_useOf 26 = .ok (.getfield 247, 3) := by decide +kernel
theorem dX12_useOf_29 : decode cX12_useOf 29 = .ok (.iload 4, 2) := by decide +kernel
theorem dX12_useOf_31 : decode cX12_useOf 31 = .ok (.iaload, 1) := by decide +kernel
theorem dX12_useOf_32 : decode cX12_useOf 32 = .ok (.iconst (-1), 1) := by decide +kernel
theorem dX12_useOf_33 : decode cX12_useOf 33 = .ok (.if_icmp .eq 49, 3) := by decide +kernel
theorem dX12_useOf_36 : decode cX12_useOf 36 = .ok (.aload_n 0, 1) := by decide +kernel
theorem dX12_useOf_37 : decode cX12_useOf 37 = .ok (.getfield 253, 3) := by decide +kernel
theorem dX12_useOf_40 : decode cX12_useOf 40 = .ok (.iload 4, 2) := by decide +kernel
theorem dX12_useOf_42 : decode cX12_useOf 42 = .ok (.iaload, 1) := by decide +kernel
theorem dX12_useOf_43 : decode cX12_useOf 43 = .ok (.iload_n 2, 1) := by decide +kernel
theorem dX12_useOf_44 : decode cX12_useOf 44 = .ok (.if_icmp .gt 38, 3) := by decide +kernel
theorem dX12_useOf_47 : decode cX12_useOf 47 = .ok (.aload_n 0, 1) := by decide +kernel
theorem dX12_useOf_48 : decode cX12_useOf 48 = .ok (.getfield 250, 3) := by decide +kernel
theorem dX12_useOf_51 : decode cX12_useOf 51 = .ok (.iload 4, 2) := by decide +kernel
theorem dX12_useOf_53 : decode cX12_useOf 53 = .ok (.iaload, 1) := by decide +kernel
theorem dX12_useOf_54 : decode cX12_useOf 54 = .ok (.iload_n 2, 1) := by decide +kernel
theorem dX12_useOf_55 : decode cX12_useOf 55 = .ok (.if_icmp .gt 27, 3) := by decide +kernel
theorem dX12_useOf_58 : decode cX12_useOf 58 = .ok (.iload_n 3, 1) := by decide +kernel
theorem dX12_useOf_59 : decode cX12_useOf 59 = .ok (.iconst (-1), 1) := by decide +kernel
theorem dX12_useOf_60 : decode cX12_useOf 60 = .ok (.if_icmp .eq 19, 3) := by decide +kernel
theorem dX12_useOf_63 : decode cX12_useOf 63 = .ok (.aload_n 0, 1) := by decide +kernel
theorem dX12_useOf_64 : decode cX12_useOf 64 = .ok (.getfield 250, 3) := by decide +kernel
theorem dX12_useOf_67 : decode cX12_useOf 67 = .ok (.iload 4, 2) := by decide +kernel
theorem dX12_useOf_69 : decode cX12_useOf 69 = .ok (.iaload, 1) := by decide +kernel
theorem dX12_useOf_70 : decode cX12_useOf 70 = .ok (.aload_n 0, 1) := by decide +kernel
theorem dX12_useOf_71 : decode cX12_useOf 71 = .ok (.getfield 250, 3) := by decide +kernel
theorem dX12_useOf_74 : decode cX12_useOf 74 = .ok (.iload_n 3, 1) := by decide +kernel
theorem dX12_useOf_75 : decode cX12_useOf 75 = .ok (.iaload, 1) := by decide +kernel
theorem dX12_useOf_76 : decode cX12_useOf 76 = .ok (.if_icmp .lt 6, 3) := by decide +kernel
theorem dX12_useOf_79 : decode cX12_useOf 79 = .ok (.iload 4, 2) := by decide +kernel
theorem dX12_useOf_81 : decode cX12_useOf 81 = .ok (.istore_n 3, 1) := by decide +kernel
theorem dX12_useOf_82 : decode cX12_useOf 82 = .ok (.iinc 4 1, 3) := by decide +kernel
theorem dX12_useOf_85 : decode cX12_useOf 85 = .ok (.goto (-80), 3) := by decide +kernel
theorem dX12_useOf_88 : decode cX12_useOf 88 = .ok (.iload_n 3, 1) := by decide +kernel
theorem dX12_useOf_89 : decode cX12_useOf 89 = .ok (.iconst (-1), 1) := by decide +kernel
theorem dX12_useOf_90 : decode cX12_useOf 90 = .ok (.if_icmp .ne 12, 3) := by decide +kernel
theorem dX12_useOf_93 : decode cX12_useOf 93 = .ok (.aload_n 0, 1) := by decide +kernel
theorem dX12_useOf_94 : decode cX12_useOf 94 = .ok (.getfield 53, 3) := by decide +kernel
theorem dX12_useOf_97 : decode cX12_useOf 97 = .ok (.iload_n 1, 1) := by decide +kernel
theorem dX12_useOf_98 : decode cX12_useOf 98 = .ok (.iaload, 1) := by decide +kernel
theorem dX12_useOf_99 : decode cX12_useOf 99 = .ok (.goto 9, 3) := by decide +kernel
theorem dX12_useOf_102 : decode cX12_useOf 102 = .ok (.aload_n 0, 1) := by decide +kernel
theorem dX12_useOf_103 : decode cX12_useOf 103 = .ok (.getfield 247, 3) := by decide +kernel
theorem dX12_useOf_106 : decode cX12_useOf 106 = .ok (.iload_n 3, 1) := by decide +kernel
theorem dX12_useOf_107 : decode cX12_useOf 107 = .ok (.iaload, 1) := by decide +kernel
theorem dX12_useOf_108 : decode cX12_useOf 108 = .ok (.ireturn, 1) := by decide +kernel
theorem okX12_useOf : ab_okM MX12_useOf 2 := ⟨by decide, ⟨by decide, by decide⟩, ab_in 2638 (by decide +kernel) (by decide +kernel), ab_in 99 (by decide +kernel) (by decide +kernel), by decide +kernel, by decide⟩
set_option maxHeartbeats 4000000 in
set_option maxRecDepth 100000 in
def wX12_useOf_79 (v1 : Int32) (v2 : Int32) (v4 : Int32) (x : ab_X) (K : Int32 → Prop) (L5 : Int32 → Int32 → Prop) : Prop := L5 v4 (v4 + 1)
set_option maxHeartbeats 4000000 in
set_option maxRecDepth 100000 in
theorem sX12_useOf_79 (v1 : Int32) (v2 : Int32) (v4 : Int32)  (x : ab_X) (K : Int32 → Prop) (L5 : Int32 → Int32 → Prop) (d bc bs : Nat) (hdp : 0 ≤ d) (hL5 : ∀ (v3 : Int32) (v4 : Int32), L5 v3 v4 → EW MX12_useOf 5 [(0, .ref 246), (1, .int v1), (2, .int v2), (3, .int v3), (4, .int v4)] [] (aS x) d bc bs (liP x K)) (h : wX12_useOf_79 v1 v2 v4 x K L5) : EW MX12_useOf 79 [(0, .ref 246), (1, .int v1), (2, .int v2), (4, .int v4)] [] (aS x) d bc bs (liP x K) := by
  unfold wX12_useOf_79 at h
  refine EW_iload (pc2 := 81) rfl dX12_useOf_79 3 rfl ?_
  refine EW_istore_n (pc2 := 82) rfl dX12_useOf_81 (by decide) [1, 2, 3, 0, 4] [(0, .ref 246), (1, .int v1), (2, .int v2), (3, .int v4), (4, .int v4)] rfl ?_
  refine EW_iinc (v4 + 1) (pc2 := 85) rfl dX12_useOf_82 4 rfl rfl (by decide) [1, 2, 3, 4, 0] [(0, .ref 246), (1, .int v1), (2, .int v2), (3, .int v4), (4, .int (v4 + 1))] rfl ?_
  refine EW_goto (tgt := 5) dX12_useOf_85 (by decide) ?_
  exact hL5 v4 (v4 + 1) h
set_option maxHeartbeats 4000000 in
set_option maxRecDepth 100000 in
def lX12_useOf_5 (v1 : Int32) (v2 : Int32) (x : ab_X) (K : Int32 → Prop)  (L5 : Int32 → Int32 → Prop) (v3 : Int32) (v4 : Int32) : Prop := (((x.1 246 99) ≤ v4 → ((¬ v3 = (-1) → (vp_in v3 100 ∧ K (x.1 321 (Int32.toNatClampNeg v3)))) ∧ (v3 = (-1) → (vp_in v1 12 ∧ K (x.1 261 (Int32.toNatClampNeg v1)))))) ∧ (¬ (x.1 246 99) ≤ v4 → (vp_in v4 100 ∧ ((¬ (x.1 320 (Int32.toNatClampNeg v4)) = v1 → L5 v3 (v4 + 1)) ∧ ((x.1 320 (Int32.toNatClampNeg v4)) = v1 → (vp_in v4 100 ∧ (((x.1 321 (Int32.toNatClampNeg v4)) = (-1) → L5 v3 (v4 + 1)) ∧ (¬ (x.1 321 (Int32.toNatClampNeg v4)) = (-1) → (vp_in v4 100 ∧ ((v2 < (x.1 323 (Int32.toNatClampNeg v4)) → L5 v3 (v4 + 1)) ∧ (¬ v2 < (x.1 323 (Int32.toNatClampNeg v4)) → (vp_in v4 100 ∧ ((v2 < (x.1 322 (Int32.toNatClampNeg v4)) → L5 v3 (v4 + 1)) ∧ (¬ v2 < (x.1 322 (Int32.toNatClampNeg v4)) → ((v3 = (-1) → wX12_useOf_79 v1 v2 v4 x K L5) ∧ (¬ v3 = (-1) → (vp_in v4 100 ∧ vp_in v3 100 ∧ (((x.1 322 (Int32.toNatClampNeg v4)) < (x.1 322 (Int32.toNatClampNeg v3)) → L5 v3 (v4 + 1)) ∧ (¬ (x.1 322 (Int32.toNatClampNeg v4)) < (x.1 322 (Int32.toNatClampNeg v3)) → wX12_useOf_79 v1 v2 v4 x K L5)))))))))))))))))))
set_option maxHeartbeats 4000000 in
set_option maxRecDepth 100000 in
theorem sX12_useOf_5 (v1 : Int32) (v2 : Int32) (v3 : Int32) (v4 : Int32)  (x : ab_X) (K : Int32 → Prop)  (d bc bs : Nat) (hdp : 0 ≤ d)  (h : Lp2 (lX12_useOf_5 v1 v2 x K ) v3 v4) : EW MX12_useOf 5 [(0, .ref 246), (1, .int v1), (2, .int v2), (3, .int v3), (4, .int v4)] [] (aS x) d bc bs (liP x K) := by
  refine Lp2.use (P := fun v3 v4 => EW MX12_useOf 5 [(0, .ref 246), (1, .int v1), (2, .int v2), (3, .int v3), (4, .int v4)] [] (aS x) d bc bs (liP x K)) (fun L5 v3 v4 hL5 h => ?_) v3 v4 h
  unfold lX12_useOf_5 at h
  refine EW_iload (pc2 := 7) rfl dX12_useOf_5 4 rfl ?_
  refine EW_aload_n (pc2 := 8) rfl dX12_useOf_7 0 rfl ?_
  refine AW_geti ⟨gfRX12_596, rfl⟩ (pc2 := 11) rfl dX12_useOf_8 q246 ?_
  refine EW_icmp_ge (tgt := 88) (pc2 := 14) rfl dX12_useOf_11 (by decide) (fun q => ?_) (fun q => ?_)
  · replace h := h.1 q
    refine EW_iload_n (pc2 := 89) rfl dX12_useOf_88 3 rfl ?_
    refine EW_iconst (pc2 := 90) (v := (-1)) rfl dX12_useOf_89 (by decide) ?_
    refine EW_icmp_ne (tgt := 102) (pc2 := 93) rfl dX12_useOf_90 (by decide) (fun q => ?_) (fun q => ?_)
    · replace h := h.1 q
      refine EW_aload_n (pc2 := 103) rfl dX12_useOf_102 0 rfl ?_
      refine AW_getr (r := 321) ⟨gfRX12_247, rfl⟩ (pc2 := 106) rfl dX12_useOf_103 q246 rfl ?_
      refine EW_iload_n (pc2 := 107) rfl dX12_useOf_106 3 rfl ?_
      obtain ⟨b1, h⟩ := h
      refine AW_iald (pc2 := 108) rfl dX12_useOf_107 q321 b1 ?_
      exact AW_iret rfl dX12_useOf_108 ⟨_, rfl, rfl, h⟩
    · replace h := h.2 q
      refine EW_aload_n (pc2 := 94) rfl dX12_useOf_93 0 rfl ?_
      refine AW_getr (r := 261) ⟨gfRX12_53, rfl⟩ (pc2 := 97) rfl dX12_useOf_94 q246 rfl ?_
      refine EW_iload_n (pc2 := 98) rfl dX12_useOf_97 1 rfl ?_
      obtain ⟨b2, h⟩ := h
      refine AW_iald (pc2 := 99) rfl dX12_useOf_98 q261 b2 ?_
      refine EW_goto (tgt := 108) dX12_useOf_99 (by decide) ?_
      exact AW_iret rfl dX12_useOf_108 ⟨_, rfl, rfl, h⟩
  · replace h := h.2 q
    refine EW_aload_n (pc2 := 15) rfl dX12_useOf_14 0 rfl ?_
    refine AW_getr (r := 320) ⟨gfRX12_244, rfl⟩ (pc2 := 18) rfl dX12_useOf_15 q246 rfl ?_
    refine EW_iload (pc2 := 20) rfl dX12_useOf_18 4 rfl ?_
    obtain ⟨b3, h⟩ := h
    refine AW_iald (pc2 := 21) rfl dX12_useOf_20 q320 b3 ?_
    refine EW_iload_n (pc2 := 22) rfl dX12_useOf_21 1 rfl ?_
    refine EW_icmp_ne (tgt := 82) (pc2 := 25) rfl dX12_useOf_22 (by decide) (fun q => ?_) (fun q => ?_)
    · replace h := h.1 q
      refine EW_iinc (v4 + 1) (pc2 := 85) rfl dX12_useOf_82 4 rfl rfl (by decide) [1, 2, 3, 4, 0] [(0, .ref 246), (1, .int v1), (2, .int v2), (3, .int v3), (4, .int (v4 + 1))] rfl ?_
      refine EW_goto (tgt := 5) dX12_useOf_85 (by decide) ?_
      exact hL5 v3 (v4 + 1) h
    · replace h := h.2 q
      refine EW_aload_n (pc2 := 26) rfl dX12_useOf_25 0 rfl ?_
      refine AW_getr (r := 321) ⟨gfRX12_247, rfl⟩ (pc2 := 29) rfl dX12_useOf_26 q246 rfl ?_
      refine EW_iload (pc2 := 31) rfl dX12_useOf_29 4 rfl ?_
      obtain ⟨b4, h⟩ := h
      refine AW_iald (pc2 := 32) rfl dX12_useOf_31 q321 b4 ?_
      refine EW_iconst (pc2 := 33) (v := (-1)) rfl dX12_useOf_32 (by decide) ?_
      refine EW_icmp_eq (tgt := 82) (pc2 := 36) rfl dX12_useOf_33 (by decide) (fun q => ?_) (fun q => ?_)
      · replace h := h.1 q
        refine EW_iinc (v4 + 1) (pc2 := 85) rfl dX12_useOf_82 4 rfl rfl (by decide) [1, 2, 3, 4, 0] [(0, .ref 246), (1, .int v1), (2, .int v2), (3, .int v3), (4, .int (v4 + 1))] rfl ?_
        refine EW_goto (tgt := 5) dX12_useOf_85 (by decide) ?_
        exact hL5 v3 (v4 + 1) h
      · replace h := h.2 q
        refine EW_aload_n (pc2 := 37) rfl dX12_useOf_36 0 rfl ?_
        refine AW_getr (r := 323) ⟨gfRX12_253, rfl⟩ (pc2 := 40) rfl dX12_useOf_37 q246 rfl ?_
        refine EW_iload (pc2 := 42) rfl dX12_useOf_40 4 rfl ?_
        obtain ⟨b5, h⟩ := h
        refine AW_iald (pc2 := 43) rfl dX12_useOf_42 q323 b5 ?_
        refine EW_iload_n (pc2 := 44) rfl dX12_useOf_43 2 rfl ?_
        refine EW_icmp_gt (tgt := 82) (pc2 := 47) rfl dX12_useOf_44 (by decide) (fun q => ?_) (fun q => ?_)
        · replace h := h.1 q
          refine EW_iinc (v4 + 1) (pc2 := 85) rfl dX12_useOf_82 4 rfl rfl (by decide) [1, 2, 3, 4, 0] [(0, .ref 246), (1, .int v1), (2, .int v2), (3, .int v3), (4, .int (v4 + 1))] rfl ?_
          refine EW_goto (tgt := 5) dX12_useOf_85 (by decide) ?_
          exact hL5 v3 (v4 + 1) h
        · replace h := h.2 q
          refine EW_aload_n (pc2 := 48) rfl dX12_useOf_47 0 rfl ?_
          refine AW_getr (r := 322) ⟨gfRX12_250, rfl⟩ (pc2 := 51) rfl dX12_useOf_48 q246 rfl ?_
          refine EW_iload (pc2 := 53) rfl dX12_useOf_51 4 rfl ?_
          obtain ⟨b6, h⟩ := h
          refine AW_iald (pc2 := 54) rfl dX12_useOf_53 q322 b6 ?_
          refine EW_iload_n (pc2 := 55) rfl dX12_useOf_54 2 rfl ?_
          refine EW_icmp_gt (tgt := 82) (pc2 := 58) rfl dX12_useOf_55 (by decide) (fun q => ?_) (fun q => ?_)
          · replace h := h.1 q
            refine EW_iinc (v4 + 1) (pc2 := 85) rfl dX12_useOf_82 4 rfl rfl (by decide) [1, 2, 3, 4, 0] [(0, .ref 246), (1, .int v1), (2, .int v2), (3, .int v3), (4, .int (v4 + 1))] rfl ?_
            refine EW_goto (tgt := 5) dX12_useOf_85 (by decide) ?_
            exact hL5 v3 (v4 + 1) h
          · replace h := h.2 q
            refine EW_iload_n (pc2 := 59) rfl dX12_useOf_58 3 rfl ?_
            refine EW_iconst (pc2 := 60) (v := (-1)) rfl dX12_useOf_59 (by decide) ?_
            refine EW_icmp_eq (tgt := 79) (pc2 := 63) rfl dX12_useOf_60 (by decide) (fun q => ?_) (fun q => ?_)
            · replace h := h.1 q
              refine EW_ls [0, 1, 2, 4] rfl ?_
              exact sX12_useOf_79 v1 v2 v4 x K L5 d bc bs hdp hL5 h
            · replace h := h.2 q
              refine EW_aload_n (pc2 := 64) rfl dX12_useOf_63 0 rfl ?_
              refine AW_getr (r := 322) ⟨gfRX12_250, rfl⟩ (pc2 := 67) rfl dX12_useOf_64 q246 rfl ?_
              refine EW_iload (pc2 := 69) rfl dX12_useOf_67 4 rfl ?_
              obtain ⟨b7, h⟩ := h
              refine AW_iald (pc2 := 70) rfl dX12_useOf_69 q322 b7 ?_
              refine EW_aload_n (pc2 := 71) rfl dX12_useOf_70 0 rfl ?_
              refine AW_getr (r := 322) ⟨gfRX12_250, rfl⟩ (pc2 := 74) rfl dX12_useOf_71 q246 rfl ?_
              refine EW_iload_n (pc2 := 75) rfl dX12_useOf_74 3 rfl ?_
              obtain ⟨b8, h⟩ := h
              refine AW_iald (pc2 := 76) rfl dX12_useOf_75 q322 b8 ?_
              refine EW_icmp_lt (tgt := 82) (pc2 := 79) rfl dX12_useOf_76 (by decide) (fun q => ?_) (fun q => ?_)
              · replace h := h.1 q
                refine EW_iinc (v4 + 1) (pc2 := 85) rfl dX12_useOf_82 4 rfl rfl (by decide) [1, 2, 3, 4, 0] [(0, .ref 246), (1, .int v1), (2, .int v2), (3, .int v3), (4, .int (v4 + 1))] rfl ?_
                refine EW_goto (tgt := 5) dX12_useOf_85 (by decide) ?_
                exact hL5 v3 (v4 + 1) h
              · replace h := h.2 q
                refine EW_ls [0, 1, 2, 4] rfl ?_
                exact sX12_useOf_79 v1 v2 v4 x K L5 d bc bs hdp hL5 h
set_option maxHeartbeats 4000000 in
set_option maxRecDepth 100000 in
def wX12_useOf (v1 : Int32) (v2 : Int32) (x : ab_X) (K : Int32 → Prop) : Prop := Lp2 (lX12_useOf_5 v1 v2 x K ) (-1) 0
set_option maxHeartbeats 4000000 in
set_option maxRecDepth 100000 in
theorem sX12_useOf (v1 : Int32) (v2 : Int32)  (x : ab_X) (K : Int32 → Prop) (d bc bs : Nat) (hdp : 0 ≤ d) (h : wX12_useOf v1 v2 x K) : EW MX12_useOf 0 [(0, .ref 246), (1, .int v1), (2, .int v2)] [] (aS x) d bc bs (liP x K) := by
  unfold wX12_useOf at h
  refine EW_iconst (pc2 := 1) (v := (-1)) rfl dX12_useOf_0 (by decide) ?_
  refine EW_istore_n (pc2 := 2) rfl dX12_useOf_1 (by decide) [1, 2, 3, 0] [(0, .ref 246), (1, .int v1), (2, .int v2), (3, .int (-1))] rfl ?_
  refine EW_iconst (pc2 := 3) (v := 0) rfl dX12_useOf_2 (by decide) ?_
  refine EW_istore (pc2 := 5) rfl dX12_useOf_3 (by decide) [1, 2, 3, 4, 0] [(0, .ref 246), (1, .int v1), (2, .int v2), (3, .int (-1)), (4, .int 0)] rfl ?_
  exact sX12_useOf_5 v1 v2 (-1) 0 x K d bc bs hdp h
