theorem gfRX0_112 : ab_L RX0 112 1 8 := ⟨by decide, by decide, ab_in 523 (by decide +kernel) (by decide +kernel)⟩
theorem gfRX0_81 : ab_L RX0 81 0 5 := ⟨by decide, by decide, ab_in 552 (by decide +kernel) (by decide +kernel)⟩
theorem gfRX0_19 : ab_L RX0 19 0 4 := ⟨by decide, by decide, ab_in 549 (by decide +kernel) (by decide +kernel)⟩
theorem gfRX0_88 : ab_L RX0 88 1 0 := ⟨by decide, by decide, ab_in 505 (by decide +kernel) (by decide +kernel)⟩
theorem gfRX0_91 : ab_L RX0 91 1 3 := ⟨by decide, by decide, ab_in 513 (by decide +kernel) (by decide +kernel)⟩
theorem mlRX0_115 : Cond.methodLink RX0 115 yX10_worstAt ∈ ab_G ∧ Cond.instanceMethod yX10_worstAt ∈ ab_G ∧ Cond.selects RX10 yX10_worstAt yX10_worstAt ∈ ab_G := ⟨ab_in 879 (by decide +kernel) (by decide +kernel), ab_in 880 (by decide +kernel) (by decide +kernel), ab_in 881 (by decide +kernel) (by decide +kernel)⟩
abbrev MX0_begin : ab_M := (yX0_begin, cX0_begin, 3, (some .int))
theorem dX0_begin_0 : decode cX0_begin 0 = .ok (.aload_n 0, 1) := by decide +kernel
theorem dX0_begin_1 : decode cX0_begin 1 = .ok (.getfield 81, 3) := by decide +kernel
theorem dX0_begin_4 : decode cX0_begin 4 = .ok (.bipush 60, 2) := by decide +kernel
theorem dX0_begin_6 : decode cX0_begin 6 = .ok (.if_icmp .lt 5, 3) := by decide +kernel
theorem dX0_begin_9 : decode cX0_begin 9 = .ok (.iconst (-1), 1) := by decide +kernel
theorem dX0_begin_10 : decode cX0_begin 10 = .ok (.ireturn, 1) := by decide +kernel
theorem dX0_begin_11 : decode cX0_begin 11 = .ok (.aload_n 0, 1) := by decide +kernel
theorem dX0_begin_12 : decode cX0_begin 12 = .ok (.getfield 19, 3) := by decide +kernel
theorem dX0_begin_15 : decode cX0_begin 15 = .ok (.aload_n 0, 1) := by decide +kernel
theorem dX0_begin_16 : decode cX0_begin 16 = .ok (.getfield 81, 3) := by decide +kernel
theorem dX0_begin_19 : decode cX0_begin 19 = .ok (.aaload, 1) := by decide +kernel
theorem dX0_begin_20 : decode cX0_begin 20 = .ok (.astore_n 2, 1) := by decide +kernel
theorem dX0_begin_21 : decode cX0_begin 21 = .ok (.aload_n 2, 1) := by decide +kernel
theorem dX0_begin_22 : decode cX0_begin 22 = .ok (.iload_n 1, 1) := by decide +kernel
theorem dX0_begin_23 : decode cX0_begin 23 = .ok (.putfield 88, 3) := by decide +kernel
theorem dX0_begin_26 : decode cX0_begin 26 = .ok (.aload_n 2, 1) := by decide +kernel
theorem dX0_begin_27 : decode cX0_begin 27 = .ok (.aload_n 0, 1) := by decide +kernel
theorem dX0_begin_28 : decode cX0_begin 28 = .ok (.getfield 144, 3) := by decide +kernel
theorem dX0_begin_31 : decode cX0_begin 31 = .ok (.putfield 91, 3) := by decide +kernel
theorem dX0_begin_34 : decode cX0_begin 34 = .ok (.aload_n 2, 1) := by decide +kernel
theorem dX0_begin_35 : decode cX0_begin 35 = .ok (.aload_n 0, 1) := by decide +kernel
theorem dX0_begin_36 : decode cX0_begin 36 = .ok (.getfield 49, 3) := by decide +kernel
theorem dX0_begin_39 : decode cX0_begin 39 = .ok (.iload_n 1, 1) := by decide +kernel
theorem dX0_begin_40 : decode cX0_begin 40 = .ok (.invokevirtual 115, 3) := by decide +kernel
theorem dX0_begin_43 : decode cX0_begin 43 = .ok (.iconst (-1), 1) := by decide +kernel
theorem dX0_begin_44 : decode cX0_begin 44 = .ok (.if_icmp .eq 7, 3) := by decide +kernel
theorem dX0_begin_47 : decode cX0_begin 47 = .ok (.iconst 1, 1) := by decide +kernel
theorem dX0_begin_48 : decode cX0_begin 48 = .ok (.goto 4, 3) := by decide +kernel
theorem dX0_begin_51 : decode cX0_begin 51 = .ok (.iconst 0, 1) := by decide +kernel
theorem dX0_begin_52 : decode cX0_begin 52 = .ok (.putfield 112, 3) := by decide +kernel
theorem dX0_begin_55 : decode cX0_begin 55 = .ok (.aload_n 0, 1) := by decide +kernel
theorem dX0_begin_56 : decode cX0_begin 56 = .ok (.dup, 1) := by decide +kernel
theorem dX0_begin_57 : decode cX0_begin 57 = .ok (.getfield 81, 3) := by decide +kernel
theorem dX0_begin_60 : decode cX0_begin 60 = .ok (.iconst 1, 1) := by decide +kernel
theorem dX0_begin_61 : decode cX0_begin 61 = .ok (.iadd, 1) := by decide +kernel
theorem dX0_begin_62 : decode cX0_begin 62 = .ok (.putfield 81, 3) := by decide +kernel
theorem dX0_begin_65 : decode cX0_begin 65 = .ok (.aload_n 0, 1) := by decide +kernel
theorem dX0_begin_66 : decode cX0_begin 66 = .ok (.getfield 81, 3) := by decide +kernel
theorem dX0_begin_69 : decode cX0_begin 69 = .ok (.iconst 1, 1) := by decide +kernel
theorem dX0_begin_70 : decode cX0_begin 70 = .ok (.isub, 1) := by decide +kernel
theorem dX0_begin_71 : decode cX0_begin 71 = .ok (.ireturn, 1) := by decide +kernel
theorem okX0_begin : ab_okM MX0_begin 1 := ⟨by decide, ⟨by decide, by decide⟩, ab_in 1054 (by decide +kernel) (by decide +kernel), ab_in 92 (by decide +kernel) (by decide +kernel), by decide +kernel, by decide⟩
set_option maxHeartbeats 4000000 in
set_option maxRecDepth 100000 in
def wX0_begin_52 (s0 : Nat) (s1 : Int32) (x : ab_X) (K : Int32 → ab_X → Prop)  : Prop := (isB s1 ∧ K (((wr (wr x s0 8 s1) 66 5 (((wr x s0 8 s1).1 66 5) + 1)).1 66 5) - 1) (wr (wr x s0 8 s1) 66 5 (((wr x s0 8 s1).1 66 5) + 1)))
set_option maxHeartbeats 4000000 in
set_option maxRecDepth 100000 in
theorem sX0_begin_52 (s0 : Nat) (s1 : Int32) (hs0 : isK s0) (x : ab_X) (K : Int32 → ab_X → Prop)  (d bc bs : Nat) (hdp : 3 ≤ d)  (h : wX0_begin_52 s0 s1 x K ) : EW MX0_begin 52 [(0, .ref 66)] [.int s1, .ref s0] (aS x) d bc bs (liI K) := by
  unfold wX0_begin_52 at h
  obtain ⟨z3, h⟩ := h
  refine AW_putz ⟨gfRX0_112, rfl, rfl⟩ z3 (pc2 := 55) rfl dX0_begin_52 (isK.o hs0) ?_
  refine EW_aload_n (pc2 := 56) rfl dX0_begin_55 0 rfl ?_
  refine EW_dup (pc2 := 57) rfl dX0_begin_56 rfl ?_
  refine AW_geti ⟨gfRX0_81, rfl⟩ (pc2 := 60) rfl dX0_begin_57 q66 ?_
  refine EW_iconst (pc2 := 61) (v := 1) rfl dX0_begin_60 (by decide) ?_
  refine EW_iadd (pc2 := 62) rfl dX0_begin_61 ?_
  refine AW_puti ⟨gfRX0_81, rfl, rfl⟩ (pc2 := 65) rfl dX0_begin_62 q66 ?_
  refine EW_aload_n (pc2 := 66) rfl dX0_begin_65 0 rfl ?_
  refine AW_geti ⟨gfRX0_81, rfl⟩ (pc2 := 69) rfl dX0_begin_66 q66 ?_
  refine EW_iconst (pc2 := 70) (v := 1) rfl dX0_begin_69 (by decide) ?_
  refine EW_isub (pc2 := 71) rfl dX0_begin_70 ?_
  exact AW_iret rfl dX0_begin_71 ⟨_, _, rfl, rfl, h⟩
set_option maxHeartbeats 4000000 in
set_option maxRecDepth 100000 in
def wX0_begin (v1 : Int32) (x : ab_X) (K : Int32 → ab_X → Prop) : Prop := (((x.1 66 5) < 60 → (vp_in (x.1 66 5) 60 ∧ wX10_worstAt v1 (wr (wr x (98 + Int32.toNatClampNeg (x.1 66 5)) 0 v1) (98 + Int32.toNatClampNeg (x.1 66 5)) 3 ((wr x (98 + Int32.toNatClampNeg (x.1 66 5)) 0 v1).1 66 12)) (fun r2 => ((r2 = (-1) → wX0_begin_52 (98 + Int32.toNatClampNeg (x.1 66 5)) 0 (wr (wr x (98 + Int32.toNatClampNeg (x.1 66 5)) 0 v1) (98 + Int32.toNatClampNeg (x.1 66 5)) 3 ((wr x (98 + Int32.toNatClampNeg (x.1 66 5)) 0 v1).1 66 12)) K) ∧ (¬ r2 = (-1) → wX0_begin_52 (98 + Int32.toNatClampNeg (x.1 66 5)) 1 (wr (wr x (98 + Int32.toNatClampNeg (x.1 66 5)) 0 v1) (98 + Int32.toNatClampNeg (x.1 66 5)) 3 ((wr x (98 + Int32.toNatClampNeg (x.1 66 5)) 0 v1).1 66 12)) K))))) ∧ (¬ (x.1 66 5) < 60 → K (-1) x))
set_option maxHeartbeats 4000000 in
set_option maxRecDepth 100000 in
theorem sX0_begin (v1 : Int32)  (x : ab_X) (K : Int32 → ab_X → Prop) (d bc bs : Nat) (hdp : 3 ≤ d) (h : wX0_begin v1 x K) : EW MX0_begin 0 [(0, .ref 66), (1, .int v1)] [] (aS x) d bc bs (liI K) := by
  unfold wX0_begin at h
  refine EW_aload_n (pc2 := 1) rfl dX0_begin_0 0 rfl ?_
  refine AW_geti ⟨gfRX0_81, rfl⟩ (pc2 := 4) rfl dX0_begin_1 q66 ?_
  refine EW_bipush (pc2 := 6) (v := 60) rfl dX0_begin_4 (by decide) ?_
  refine EW_icmp_lt (tgt := 11) (pc2 := 9) rfl dX0_begin_6 (by decide) (fun q => ?_) (fun q => ?_)
  · replace h := h.1 q
    refine EW_aload_n (pc2 := 12) rfl dX0_begin_11 0 rfl ?_
    refine AW_getr (r := 68) ⟨gfRX0_19, rfl⟩ (pc2 := 15) rfl dX0_begin_12 q66 rfl ?_
    refine EW_aload_n (pc2 := 16) rfl dX0_begin_15 0 rfl ?_
    refine AW_geti ⟨gfRX0_81, rfl⟩ (pc2 := 19) rfl dX0_begin_16 q66 ?_
    obtain ⟨b1, h⟩ := h
    refine AW_aald7 (pc2 := 20) rfl dX0_begin_19 b1 ?_
    refine EW_astore_n (pc2 := 21) rfl dX0_begin_20 (by decide) [1, 2, 0] [(0, .ref 66), (1, .int v1), (2, .ref (98 + Int32.toNatClampNeg (x.1 66 5)))] rfl ?_
    refine EW_aload_n (pc2 := 22) rfl dX0_begin_21 2 rfl ?_
    refine EW_iload_n (pc2 := 23) rfl dX0_begin_22 1 rfl ?_
    refine AW_puti ⟨gfRX0_88, rfl, rfl⟩ (pc2 := 26) rfl dX0_begin_23 (isK.o (isK_of b1)) ?_
    refine EW_aload_n (pc2 := 27) rfl dX0_begin_26 2 rfl ?_
    refine EW_aload_n (pc2 := 28) rfl dX0_begin_27 0 rfl ?_
    refine AW_geti ⟨gfRX0_144, rfl⟩ (pc2 := 31) rfl dX0_begin_28 q66 ?_
    refine AW_puti ⟨gfRX0_91, rfl, rfl⟩ (pc2 := 34) rfl dX0_begin_31 (isK.o (isK_of b1)) ?_
    refine EW_aload_n (pc2 := 35) rfl dX0_begin_34 2 rfl ?_
    refine EW_aload_n (pc2 := 36) rfl dX0_begin_35 0 rfl ?_
    refine AW_getr (r := 9) ⟨gfRX0_49, rfl⟩ (pc2 := 39) rfl dX0_begin_36 q66 rfl ?_
    refine EW_iload_n (pc2 := 40) rfl dX0_begin_39 1 rfl ?_
    refine AW_invV (M' := MX10_worstAt) [.int v1] (rest := [.ref (98 + Int32.toNatClampNeg (x.1 66 5))]) mlRX0_115 okX10_worstAt (pc2 := 43) rfl dX0_begin_40 rfl rfl (Nat.le_of_ble_eq_true rfl) (Nat.le_of_ble_eq_true rfl) (d' := 2) (by omega) q9 ⟨by decide, rfl⟩ (EW_mono (fun _ _ hr => ?_) (sX10_worstAt v1  (wr (wr x (98 + Int32.toNatClampNeg (x.1 66 5)) 0 v1) (98 + Int32.toNatClampNeg (x.1 66 5)) 3 ((wr x (98 + Int32.toNatClampNeg (x.1 66 5)) 0 v1).1 66 12)) _ _ 0 0 (Nat.le_refl _) h))
    obtain ⟨r2, rfl, rfl, h⟩ := hr
    refine EW_iconst (pc2 := 44) (v := (-1)) rfl dX0_begin_43 (by decide) ?_
    refine EW_icmp_eq (tgt := 51) (pc2 := 47) rfl dX0_begin_44 (by decide) (fun q => ?_) (fun q => ?_)
    · replace h := h.1 q
      refine EW_iconst (pc2 := 52) (v := 0) rfl dX0_begin_51 (by decide) ?_
      refine EW_ls [0] rfl ?_
      exact sX0_begin_52 (98 + Int32.toNatClampNeg (x.1 66 5)) 0 (isK_of b1) (wr (wr x (98 + Int32.toNatClampNeg (x.1 66 5)) 0 v1) (98 + Int32.toNatClampNeg (x.1 66 5)) 3 ((wr x (98 + Int32.toNatClampNeg (x.1 66 5)) 0 v1).1 66 12)) K d bc bs hdp h
    · replace h := h.2 q
      refine EW_iconst (pc2 := 48) (v := 1) rfl dX0_begin_47 (by decide) ?_
      refine EW_goto (tgt := 52) dX0_begin_48 (by decide) ?_
      refine EW_ls [0] rfl ?_
      exact sX0_begin_52 (98 + Int32.toNatClampNeg (x.1 66 5)) 1 (isK_of b1) (wr (wr x (98 + Int32.toNatClampNeg (x.1 66 5)) 0 v1) (98 + Int32.toNatClampNeg (x.1 66 5)) 3 ((wr x (98 + Int32.toNatClampNeg (x.1 66 5)) 0 v1).1 66 12)) K d bc bs hdp h
  · replace h := h.2 q
    refine EW_iconst (pc2 := 10) (v := (-1)) rfl dX0_begin_9 (by decide) ?_
    exact AW_iret rfl dX0_begin_10 ⟨_, _, rfl, rfl, h⟩
theorem gfRX2_33 : ab_L RX2 33 2 2 := ⟨by decide, by decide, ab_in 413 (by decide +kernel) (by decide +kernel)⟩
theorem gfRX2_37 : ab_L RX2 37 2 3 := ⟨by decide, by decide, ab_in 415 (by decide +kernel) (by decide +kernel)⟩
theorem gfRX2_40 : ab_L RX2 40 2 15 := ⟨by decide, by decide, ab_in 448 (by decide +kernel) (by decide +kernel)⟩
abbrev MX2_slow : ab_M := (yX2_slow, cX2_slow, 1, (some .int))
theorem dX2_slow_0 : decode cX2_slow 0 = .ok (.aload_n 0, 1) := by decide +kernel
theorem dX2_slow_1 : decode cX2_slow 1 = .ok (.getfield 33, 3) := by decide +kernel
theorem dX2_slow_4 : decode cX2_slow 4 = .ok (.ifCond .eq 17, 3) := by decide +kernel
theorem dX2_slow_7 : decode cX2_slow 7 = .ok (.aload_n 0, 1) := by decide +kernel
theorem dX2_slow_8 : decode cX2_slow 8 = .ok (.getfield 37, 3) := by decide +kernel
theorem dX2_slow_11 : decode cX2_slow 11 = .ok (.aload_n 0, 1) := by decide +kernel
theorem dX2_slow_12 : decode cX2_slow 12 = .ok (.getfield 40, 3) := by decide +kernel
theorem dX2_slow_15 : decode cX2_slow 15 = .ok (.iconst 3, 1) := by decide +kernel
theorem dX2_slow_16 : decode cX2_slow 16 = .ok (.idiv, 1) := by decide +kernel
theorem dX2_slow_17 : decode cX2_slow 17 = .ok (.iadd, 1) := by decide +kernel
theorem dX2_slow_18 : decode cX2_slow 18 = .ok (.goto 7, 3) := by decide +kernel
theorem dX2_slow_21 : decode cX2_slow 21 = .ok (.aload_n 0, 1) := by decide +kernel
theorem dX2_slow_22 : decode cX2_slow 22 = .ok (.getfield 37, 3) := by decide +kernel
theorem dX2_slow_25 : decode cX2_slow 25 = .ok (.ireturn, 1) := by decide +kernel
theorem okX2_slow : ab_okM MX2_slow 0 := ⟨by decide, ⟨by decide, by decide⟩, ab_in 1016 (by decide +kernel) (by decide +kernel), ab_in 94 (by decide +kernel) (by decide +kernel), by decide +kernel, by decide⟩
set_option maxHeartbeats 4000000 in
set_option maxRecDepth 100000 in
def wX2_slow (v0 : Nat) (x : ab_X) (K : Int32 → Prop) : Prop := (((x.1 v0 2) = 0 → K (x.1 v0 3)) ∧ (¬ (x.1 v0 2) = 0 → K ((x.1 v0 3) + ((x.1 v0 15) / 3))))
set_option maxHeartbeats 4000000 in
set_option maxRecDepth 100000 in
theorem sX2_slow (v0 : Nat) (hv0 : isW v0) (x : ab_X) (K : Int32 → Prop) (d bc bs : Nat) (hdp : 0 ≤ d) (h : wX2_slow v0 x K) : EW MX2_slow 0 [(0, .ref v0)] [] (aS x) d bc bs (liP x K) := by
  unfold wX2_slow at h
  refine EW_aload_n (pc2 := 1) rfl dX2_slow_0 0 rfl ?_
  refine AW_geti ⟨gfRX2_33, rfl⟩ (pc2 := 4) rfl dX2_slow_1 (isW.o hv0) ?_
  refine EW_if_eq (tgt := 21) (pc2 := 7) rfl dX2_slow_4 (by decide) (fun q => ?_) (fun q => ?_)
  · replace h := h.1 q
    refine EW_aload_n (pc2 := 22) rfl dX2_slow_21 0 rfl ?_
    refine AW_geti ⟨gfRX2_37, rfl⟩ (pc2 := 25) rfl dX2_slow_22 (isW.o hv0) ?_
    exact AW_iret rfl dX2_slow_25 ⟨_, rfl, rfl, h⟩
  · replace h := h.2 q
    refine EW_aload_n (pc2 := 8) rfl dX2_slow_7 0 rfl ?_
    refine AW_geti ⟨gfRX2_37, rfl⟩ (pc2 := 11) rfl dX2_slow_8 (isW.o hv0) ?_
    refine EW_aload_n (pc2 := 12) rfl dX2_slow_11 0 rfl ?_
    refine AW_geti ⟨gfRX2_40, rfl⟩ (pc2 := 15) rfl dX2_slow_12 (isW.o hv0) ?_
    refine EW_iconst (pc2 := 16) (v := 3) rfl dX2_slow_15 (by decide) ?_
    refine EW_idiv (pc2 := 17) rfl dX2_slow_16 (by decide) ?_
    refine EW_iadd (pc2 := 18) rfl dX2_slow_17 ?_
    refine EW_goto (tgt := 25) dX2_slow_18 (by decide) ?_
    exact AW_iret rfl dX2_slow_25 ⟨_, rfl, rfl, h⟩
theorem gfRX6_41 : ab_L RX6 41 6 7 := ⟨by decide, by decide, ab_in 140 (by decide +kernel) (by decide +kernel)⟩
theorem gfRX6_9 : ab_L RX6 9 6 0 := ⟨by decide, by decide, ab_in 131 (by decide +kernel) (by decide +kernel)⟩
theorem gfRX6_15 : ab_L RX6 15 6 1 := ⟨by decide, by decide, ab_in 132 (by decide +kernel) (by decide +kernel)⟩
theorem gfRX6_21 : ab_L RX6 21 6 3 := ⟨by decide, by decide, ab_in 134 (by decide +kernel) (by decide +kernel)⟩
abbrev MX6_openTo : ab_M := (yX6_openTo, cX6_openTo, 7, (some .int))
theorem dX6_openTo_0 : decode cX6_openTo 0 = .ok (.iconst 1, 1) := by decide +kernel
theorem dX6_openTo_1 : decode cX6_openTo 1 = .ok (.iload_n 1, 1) := by decide +kernel
theorem dX6_openTo_2 : decode cX6_openTo 2 = .ok (.ishl, 1) := by decide +kernel
theorem dX6_openTo_3 : decode cX6_openTo 3 = .ok (.istore_n 2, 1) := by decide +kernel
theorem dX6_openTo_4 : decode cX6_openTo 4 = .ok (.iconst 0, 1) := by decide +kernel
theorem dX6_openTo_5 : decode cX6_openTo 5 = .ok (.istore_n 3, 1) := by decide +kernel
theorem dX6_openTo_6 : decode cX6_openTo 6 = .ok (.iload_n 3, 1) := by decide +kernel
theorem dX6_openTo_7 : decode cX6_openTo 7 = .ok (.bipush 20, 2) := by decide +kernel
theorem dX6_openTo_9 : decode cX6_openTo 9 = .ok (.if_icmp .ge 81, 3) := by decide +kernel
theorem dX6_openTo_12 : decode cX6_openTo 12 = .ok (.iload_n 2, 1) := by decide +kernel
theorem dX6_openTo_13 : decode cX6_openTo 13 = .ok (.istore 4, 2) := by decide +kernel
theorem dX6_openTo_15 : decode cX6_openTo 15 = .ok (.iconst 0, 1) := by decide +kernel
theorem dX6_openTo_16 : decode cX6_openTo 16 = .ok (.istore 5, 2) := by decide +kernel
theorem dX6_openTo_18 : decode cX6_openTo 18 = .ok (.iload 5, 2) := by decide +kernel
theorem dX6_openTo_20 : decode cX6_openTo 20 = .ok (.aload_n 0, 1) := by decide +kernel
theorem dX6_openTo_21 : decode cX6_openTo 21 = .ok (.getfield 41, 3) := by decide +kernel
theorem dX6_openTo_24 : decode cX6_openTo 24 = .ok (.if_icmp .ge 52, 3) := by decide +kernel
theorem dX6_openTo_27 : decode cX6_openTo 27 = .ok (.iconst 1, 1) := by decide +kernel
theorem dX6_openTo_28 : decode cX6_openTo 28 = .ok (.aload_n 0, 1) := by decide +kernel
theorem dX6_openTo_29 : decode cX6_openTo 29 = .ok (.getfield 9, 3) := by decide +kernel
theorem dX6_openTo_32 : decode cX6_openTo 32 = .ok (.iload 5, 2) := by decide +kernel
theorem dX6_openTo_34 : decode cX6_openTo 34 = .ok (.iaload, 1) := by decide +kernel
theorem dX6_openTo_35 : decode cX6_openTo 35 = .ok (.ishl, 1) := by decide +kernel
theorem dX6_openTo_36 : decode cX6_openTo 36 = .ok (.iconst 1, 1) := by decide +kernel
theorem dX6_openTo_37 : decode cX6_openTo 37 = .ok (.aload_n 0, 1) := by decide +kernel
theorem dX6_openTo_38 : decode cX6_openTo 38 = .ok (.getfield 15, 3) := by decide +kernel
theorem dX6_openTo_41 : decode cX6_openTo 41 = .ok (.iload 5, 2) := by decide +kernel
theorem dX6_openTo_43 : decode cX6_openTo 43 = .ok (.iaload, 1) := by decide +kernel
theorem dX6_openTo_44 : decode cX6_openTo 44 = .ok (.ishl, 1) := by decide +kernel
theorem dX6_openTo_45 : decode cX6_openTo 45 = .ok (.ior, 1) := by decide +kernel
theorem dX6_openTo_46 : decode cX6_openTo 46 = .ok (.istore 6, 2) := by decide +kernel
theorem dX6_openTo_48 : decode cX6_openTo 48 = .ok (.aload_n 0, 1) := by decide +kernel
theorem dX6_openTo_49 : decode cX6_openTo 49 = .ok (.getfield 21, 3) := by decide +kernel
theorem dX6_openTo_52 : decode cX6_openTo 52 = .ok (.iload 5, 2) := by decide +kernel
theorem dX6_openTo_54 : decode cX6_openTo 54 = .ok (.baload, 1) := by decide +kernel
theorem dX6_openTo_55 : decode cX6_openTo 55 = .ok (.ifCond .ne 15, 3) := by decide +kernel
theorem dX6_openTo_58 : decode cX6_openTo 58 = .ok (.iload_n 2, 1) := by decide +kernel
theorem dX6_openTo_59 : decode cX6_openTo 59 = .ok (.iload 6, 2) := by decide +kernel
theorem dX6_openTo_61 : decode cX6_openTo 61 = .ok (.iand, 1) := by decide +kernel
theorem dX6_openTo_62 : decode cX6_openTo 62 = .ok (.ifCond .eq 8, 3) := by decide +kernel
theorem dX6_openTo_65 : decode cX6_openTo 65 = .ok (.iload_n 2, 1) := by decide +kernel
theorem dX6_openTo_66 : decode cX6_openTo 66 = .ok (.iload 6, 2) := by decide +kernel
theorem dX6_openTo_68 : decode cX6_openTo 68 = .ok (.ior, 1) := by decide +kernel
theorem dX6_openTo_69 : decode cX6_openTo 69 = .ok (.istore_n 2, 1) := by decide +kernel
theorem dX6_openTo_70 : decode cX6_openTo 70 = .ok (.iinc 5 1, 3) := by decide +kernel
theorem dX6_openTo_73 : decode cX6_openTo 73 = .ok (.goto (-55), 3) := by decide +kernel
theorem dX6_openTo_76 : decode cX6_openTo 76 = .ok (.iload_n 2, 1) := by decide +kernel
theorem dX6_openTo_77 : decode cX6_openTo 77 = .ok (.iload 4, 2) := by decide +kernel
theorem dX6_openTo_79 : decode cX6_openTo 79 = .ok (.if_icmp .ne 5, 3) := by decide +kernel
theorem dX6_openTo_82 : decode cX6_openTo 82 = .ok (.iload_n 2, 1) := by decide +kernel
theorem dX6_openTo_83 : decode cX6_openTo 83 = .ok (.ireturn, 1) := by decide +kernel
theorem dX6_openTo_84 : decode cX6_openTo 84 = .ok (.iinc 3 1, 3) := by decide +kernel
theorem dX6_openTo_87 : decode cX6_openTo 87 = .ok (.goto (-81), 3) := by decide +kernel
theorem dX6_openTo_90 : decode cX6_openTo 90 = .ok (.iload_n 2, 1) := by decide +kernel
theorem dX6_openTo_91 : decode cX6_openTo 91 = .ok (.ireturn, 1) := by decide +kernel
theorem okX6_openTo : ab_okM MX6_openTo 1 := ⟨by decide, ⟨by decide, by decide⟩, ab_in 811 (by decide +kernel) (by decide +kernel), ab_in 87 (by decide +kernel) (by decide +kernel), by decide +kernel, by decide⟩
set_option maxHeartbeats 4000000 in
set_option maxRecDepth 100000 in
def lX6_openTo_18 (v3 : Int32) (v4 : Int32) (x : ab_X) (K : Int32 → Prop) (L6 : Int32 → Int32 → Prop) (L18 : Int32 → Int32 → Prop) (v2 : Int32) (v5 : Int32) : Prop := (((x.1 1 7) ≤ v5 → ((¬ v2 = v4 → L6 v2 (v3 + 1)) ∧ (v2 = v4 → K v2))) ∧ (¬ (x.1 1 7) ≤ v5 → (vp_in v5 40 ∧ vp_in v5 40 ∧ vp_in v5 40 ∧ ((¬ (x.1 5 (Int32.toNatClampNeg v5)) = 0 → L18 v2 (v5 + 1)) ∧ ((x.1 5 (Int32.toNatClampNeg v5)) = 0 → (((v2 &&& ((1 <<< ((x.1 2 (Int32.toNatClampNeg v5)) &&& 31)) ||| (1 <<< ((x.1 3 (Int32.toNatClampNeg v5)) &&& 31)))) = 0 → L18 v2 (v5 + 1)) ∧ (¬ (v2 &&& ((1 <<< ((x.1 2 (Int32.toNatClampNeg v5)) &&& 31)) ||| (1 <<< ((x.1 3 (Int32.toNatClampNeg v5)) &&& 31)))) = 0 → L18 (v2 ||| ((1 <<< ((x.1 2 (Int32.toNatClampNeg v5)) &&& 31)) ||| (1 <<< ((x.1 3 (Int32.toNatClampNeg v5)) &&& 31)))) (v5 + 1))))))))
set_option maxHeartbeats 4000000 in
set_option maxRecDepth 100000 in
theorem sX6_openTo_18 (v2 : Int32) (v3 : Int32) (v4 : Int32) (v5 : Int32)  (x : ab_X) (K : Int32 → Prop) (L6 : Int32 → Int32 → Prop) (d bc bs : Nat) (hdp : 0 ≤ d) (hL6 : ∀ (v2 : Int32) (v3 : Int32), L6 v2 v3 → EW MX6_openTo 6 [(0, .ref 1), (2, .int v2), (3, .int v3)] [] (aS x) d bc bs (liP x K)) (h : Lp2 (lX6_openTo_18 v3 v4 x K L6) v2 v5) : EW MX6_openTo 18 [(0, .ref 1), (2, .int v2), (3, .int v3), (4, .int v4), (5, .int v5)] [] (aS x) d bc bs (liP x K) := by
  refine Lp2.use (P := fun v2 v5 => EW MX6_openTo 18 [(0, .ref 1), (2, .int v2), (3, .int v3), (4, .int v4), (5, .int v5)] [] (aS x) d bc bs (liP x K)) (fun L18 v2 v5 hL18 h => ?_) v2 v5 h
  unfold lX6_openTo_18 at h
  refine EW_iload (pc2 := 20) rfl dX6_openTo_18 4 rfl ?_
  refine EW_aload_n (pc2 := 21) rfl dX6_openTo_20 0 rfl ?_
  refine AW_geti ⟨gfRX6_41, rfl⟩ (pc2 := 24) rfl dX6_openTo_21 q1 ?_
  refine EW_icmp_ge (tgt := 76) (pc2 := 27) rfl dX6_openTo_24 (by decide) (fun q => ?_) (fun q => ?_)
  · replace h := h.1 q
    refine EW_iload_n (pc2 := 77) rfl dX6_openTo_76 1 rfl ?_
    refine EW_iload (pc2 := 79) rfl dX6_openTo_77 3 rfl ?_
    refine EW_icmp_ne (tgt := 84) (pc2 := 82) rfl dX6_openTo_79 (by decide) (fun q => ?_) (fun q => ?_)
    · replace h := h.1 q
      refine EW_iinc (v3 + 1) (pc2 := 87) rfl dX6_openTo_84 2 rfl rfl (by decide) [1, 2, 0, 3, 4] [(0, .ref 1), (2, .int v2), (3, .int (v3 + 1)), (4, .int v4), (5, .int v5)] rfl ?_
      refine EW_goto (tgt := 6) dX6_openTo_87 (by decide) ?_
      refine EW_ls [0, 1, 2] rfl ?_
      exact hL6 v2 (v3 + 1) h
    · replace h := h.2 q
      refine EW_iload_n (pc2 := 83) rfl dX6_openTo_82 1 rfl ?_
      exact AW_iret rfl dX6_openTo_83 ⟨_, rfl, rfl, h⟩
  · replace h := h.2 q
    refine EW_iconst (pc2 := 28) (v := 1) rfl dX6_openTo_27 (by decide) ?_
    refine EW_aload_n (pc2 := 29) rfl dX6_openTo_28 0 rfl ?_
    refine AW_getr (r := 2) ⟨gfRX6_9, rfl⟩ (pc2 := 32) rfl dX6_openTo_29 q1 rfl ?_
    refine EW_iload (pc2 := 34) rfl dX6_openTo_32 4 rfl ?_
    obtain ⟨b1, h⟩ := h
    refine AW_iald (pc2 := 35) rfl dX6_openTo_34 q2 b1 ?_
    refine EW_ishl (pc2 := 36) rfl dX6_openTo_35 ?_
    refine EW_iconst (pc2 := 37) (v := 1) rfl dX6_openTo_36 (by decide) ?_
    refine EW_aload_n (pc2 := 38) rfl dX6_openTo_37 0 rfl ?_
    refine AW_getr (r := 3) ⟨gfRX6_15, rfl⟩ (pc2 := 41) rfl dX6_openTo_38 q1 rfl ?_
    refine EW_iload (pc2 := 43) rfl dX6_openTo_41 4 rfl ?_
    obtain ⟨b2, h⟩ := h
    refine AW_iald (pc2 := 44) rfl dX6_openTo_43 q3 b2 ?_
    refine EW_ishl (pc2 := 45) rfl dX6_openTo_44 ?_
    refine EW_ior (pc2 := 46) rfl dX6_openTo_45 ?_
    refine EW_istore (pc2 := 48) rfl dX6_openTo_46 (by decide) [1, 2, 3, 4, 5, 0] [(0, .ref 1), (2, .int v2), (3, .int v3), (4, .int v4), (5, .int v5), (6, .int ((1 <<< ((x.1 2 (Int32.toNatClampNeg v5)) &&& 31)) ||| (1 <<< ((x.1 3 (Int32.toNatClampNeg v5)) &&& 31))))] rfl ?_
    refine EW_aload_n (pc2 := 49) rfl dX6_openTo_48 0 rfl ?_
    refine AW_getr (r := 5) ⟨gfRX6_21, rfl⟩ (pc2 := 52) rfl dX6_openTo_49 q1 rfl ?_
    refine EW_iload (pc2 := 54) rfl dX6_openTo_52 4 rfl ?_
    obtain ⟨b3, h⟩ := h
    refine AW_zald (pc2 := 55) rfl dX6_openTo_54 q5 b3 ?_
    refine EW_if_ne (tgt := 70) (pc2 := 58) rfl dX6_openTo_55 (by decide) (fun q => ?_) (fun q => ?_)
    · replace h := h.1 q
      refine EW_iinc (v5 + 1) (pc2 := 73) rfl dX6_openTo_70 4 rfl rfl (by decide) [1, 2, 3, 4, 0, 5] [(0, .ref 1), (2, .int v2), (3, .int v3), (4, .int v4), (5, .int (v5 + 1)), (6, .int ((1 <<< ((x.1 2 (Int32.toNatClampNeg v5)) &&& 31)) ||| (1 <<< ((x.1 3 (Int32.toNatClampNeg v5)) &&& 31))))] rfl ?_
      refine EW_goto (tgt := 18) dX6_openTo_73 (by decide) ?_
      refine EW_ls [0, 1, 2, 3, 4] rfl ?_
      exact hL18 v2 (v5 + 1) h
    · replace h := h.2 q
      refine EW_iload_n (pc2 := 59) rfl dX6_openTo_58 1 rfl ?_
      refine EW_iload (pc2 := 61) rfl dX6_openTo_59 5 rfl ?_
      refine EW_iand (pc2 := 62) rfl dX6_openTo_61 ?_
      refine EW_if_eq (tgt := 70) (pc2 := 65) rfl dX6_openTo_62 (by decide) (fun q => ?_) (fun q => ?_)
      · replace h := h.1 q
        refine EW_iinc (v5 + 1) (pc2 := 73) rfl dX6_openTo_70 4 rfl rfl (by decide) [1, 2, 3, 4, 0, 5] [(0, .ref 1), (2, .int v2), (3, .int v3), (4, .int v4), (5, .int (v5 + 1)), (6, .int ((1 <<< ((x.1 2 (Int32.toNatClampNeg v5)) &&& 31)) ||| (1 <<< ((x.1 3 (Int32.toNatClampNeg v5)) &&& 31))))] rfl ?_
        refine EW_goto (tgt := 18) dX6_openTo_73 (by decide) ?_
        refine EW_ls [0, 1, 2, 3, 4] rfl ?_
        exact hL18 v2 (v5 + 1) h
      · replace h := h.2 q
        refine EW_iload_n (pc2 := 66) rfl dX6_openTo_65 1 rfl ?_
        refine EW_iload (pc2 := 68) rfl dX6_openTo_66 5 rfl ?_
        refine EW_ior (pc2 := 69) rfl dX6_openTo_68 ?_
        refine EW_istore_n (pc2 := 70) rfl dX6_openTo_69 (by decide) [1, 0, 2, 3, 4, 5] [(0, .ref 1), (2, .int (v2 ||| ((1 <<< ((x.1 2 (Int32.toNatClampNeg v5)) &&& 31)) ||| (1 <<< ((x.1 3 (Int32.toNatClampNeg v5)) &&& 31))))), (3, .int v3), (4, .int v4), (5, .int v5), (6, .int ((1 <<< ((x.1 2 (Int32.toNatClampNeg v5)) &&& 31)) ||| (1 <<< ((x.1 3 (Int32.toNatClampNeg v5)) &&& 31))))] rfl ?_
        refine EW_iinc (v5 + 1) (pc2 := 73) rfl dX6_openTo_70 4 rfl rfl (by decide) [1, 2, 3, 4, 0, 5] [(0, .ref 1), (2, .int (v2 ||| ((1 <<< ((x.1 2 (Int32.toNatClampNeg v5)) &&& 31)) ||| (1 <<< ((x.1 3 (Int32.toNatClampNeg v5)) &&& 31))))), (3, .int v3), (4, .int v4), (5, .int (v5 + 1)), (6, .int ((1 <<< ((x.1 2 (Int32.toNatClampNeg v5)) &&& 31)) ||| (1 <<< ((x.1 3 (Int32.toNatClampNeg v5)) &&& 31))))] rfl ?_
        refine EW_goto (tgt := 18) dX6_openTo_73 (by decide) ?_
        refine EW_ls [0, 1, 2, 3, 4] rfl ?_
        exact hL18 (v2 ||| ((1 <<< ((x.1 2 (Int32.toNatClampNeg v5)) &&& 31)) ||| (1 <<< ((x.1 3 (Int32.toNatClampNeg v5)) &&& 31)))) (v5 + 1) h
set_option maxHeartbeats 4000000 in
set_option maxRecDepth 100000 in
def lX6_openTo_6  (x : ab_X) (K : Int32 → Prop)  (L6 : Int32 → Int32 → Prop) (v2 : Int32) (v3 : Int32) : Prop := ((20 ≤ v3 → K v2) ∧ (¬ 20 ≤ v3 → Lp2 (lX6_openTo_18 v3 v2 x K L6) v2 0))
set_option maxHeartbeats 4000000 in
set_option maxRecDepth 100000 in
theorem sX6_openTo_6 (v2 : Int32) (v3 : Int32)  (x : ab_X) (K : Int32 → Prop)  (d bc bs : Nat) (hdp : 0 ≤ d)  (h : Lp2 (lX6_openTo_6  x K ) v2 v3) : EW MX6_openTo 6 [(0, .ref 1), (2, .int v2), (3, .int v3)] [] (aS x) d bc bs (liP x K) := by
  refine Lp2.use (P := fun v2 v3 => EW MX6_openTo 6 [(0, .ref 1), (2, .int v2), (3, .int v3)] [] (aS x) d bc bs (liP x K)) (fun L6 v2 v3 hL6 h => ?_) v2 v3 h
  unfold lX6_openTo_6 at h
  refine EW_iload_n (pc2 := 7) rfl dX6_openTo_6 2 rfl ?_
  refine EW_bipush (pc2 := 9) (v := 20) rfl dX6_openTo_7 (by decide) ?_
  refine EW_icmp_ge (tgt := 90) (pc2 := 12) rfl dX6_openTo_9 (by decide) (fun q => ?_) (fun q => ?_)
  · replace h := h.1 q
    refine EW_iload_n (pc2 := 91) rfl dX6_openTo_90 1 rfl ?_
    exact AW_iret rfl dX6_openTo_91 ⟨_, rfl, rfl, h⟩
  · replace h := h.2 q
    refine EW_iload_n (pc2 := 13) rfl dX6_openTo_12 1 rfl ?_
    refine EW_istore (pc2 := 15) rfl dX6_openTo_13 (by decide) [1, 2, 3, 0] [(0, .ref 1), (2, .int v2), (3, .int v3), (4, .int v2)] rfl ?_
    refine EW_iconst (pc2 := 16) (v := 0) rfl dX6_openTo_15 (by decide) ?_
    refine EW_istore (pc2 := 18) rfl dX6_openTo_16 (by decide) [1, 2, 3, 4, 0] [(0, .ref 1), (2, .int v2), (3, .int v3), (4, .int v2), (5, .int 0)] rfl ?_
    exact sX6_openTo_18 v2 v3 v2 0 x K L6 d bc bs hdp hL6 h
set_option maxHeartbeats 4000000 in
set_option maxRecDepth 100000 in
def wX6_openTo (v1 : Int32) (x : ab_X) (K : Int32 → Prop) : Prop := Lp2 (lX6_openTo_6 x K ) (1 <<< (v1 &&& 31)) 0
set_option maxHeartbeats 4000000 in
set_option maxRecDepth 100000 in
theorem sX6_openTo (v1 : Int32)  (x : ab_X) (K : Int32 → Prop) (d bc bs : Nat) (hdp : 0 ≤ d) (h : wX6_openTo v1 x K) : EW MX6_openTo 0 [(0, .ref 1), (1, .int v1)] [] (aS x) d bc bs (liP x K) := by
  unfold wX6_openTo at h
  refine EW_iconst (pc2 := 1) (v := 1) rfl dX6_openTo_0 (by decide) ?_
  refine EW_iload_n (pc2 := 2) rfl dX6_openTo_1 1 rfl ?_
  refine EW_ishl (pc2 := 3) rfl dX6_openTo_2 ?_
  refine EW_istore_n (pc2 := 4) rfl dX6_openTo_3 (by decide) [1, 2, 0] [(0, .ref 1), (1, .int v1), (2, .int (1 <<< (v1 &&& 31)))] rfl ?_
  refine EW_iconst (pc2 := 5) (v := 0) rfl dX6_openTo_4 (by decide) ?_
  refine EW_istore_n (pc2 := 6) rfl dX6_openTo_5 (by decide) [1, 2, 3, 0] [(0, .ref 1), (1, .int v1), (2, .int (1 <<< (v1 &&& 31))), (3, .int 0)] rfl ?_
  refine EW_ls [0, 2, 3] rfl ?_
  exact sX6_openTo_6 (1 <<< (v1 &&& 31)) 0 x K d bc bs hdp h
abbrev MX6_partOf : ab_M := (yX6_partOf, cX6_partOf, 1, (some .int))
theorem dX6_partOf_0 : decode cX6_partOf 0 = .ok (.iload_n 0, 1) := by decide +kernel
theorem dX6_partOf_1 : decode cX6_partOf 1 = .ok (.sipush 360, 3) := by decide +kernel
theorem dX6_partOf_4 : decode cX6_partOf 4 = .ok (.idiv, 1) := by decide +kernel
theorem dX6_partOf_5 : decode cX6_partOf 5 = .ok (.iconst 4, 1) := by decide +kernel
theorem dX6_partOf_6 : decode cX6_partOf 6 = .ok (.irem, 1) := by decide +kernel
theorem dX6_partOf_7 : decode cX6_partOf 7 = .ok (.ireturn, 1) := by decide +kernel
theorem okX6_partOf : ab_okM MX6_partOf 1 := ⟨by decide, ⟨by decide, by decide⟩, ab_in 814 (by decide +kernel) (by decide +kernel), ab_in 87 (by decide +kernel) (by decide +kernel), by decide +kernel, by decide⟩
set_option maxHeartbeats 4000000 in
set_option maxRecDepth 100000 in
def wX6_partOf (v0 : Int32) (x : ab_X) (K : Int32 → Prop) : Prop := K ((v0 / 360) - (v0 / 360) / 4 * 4)
set_option maxHeartbeats 4000000 in
set_option maxRecDepth 100000 in
theorem sX6_partOf (v0 : Int32)  (x : ab_X) (K : Int32 → Prop) (d bc bs : Nat) (hdp : 0 ≤ d) (h : wX6_partOf v0 x K) : EW MX6_partOf 0 [(0, .int v0)] [] (aS x) d bc bs (liP x K) := by
  unfold wX6_partOf at h
  refine EW_iload_n (pc2 := 1) rfl dX6_partOf_0 0 rfl ?_
  refine EW_sipush (pc2 := 4) (v := 360) rfl dX6_partOf_1 (by decide) ?_
  refine EW_idiv (pc2 := 5) rfl dX6_partOf_4 (by decide) ?_
  refine EW_iconst (pc2 := 6) (v := 4) rfl dX6_partOf_5 (by decide) ?_
  refine EW_irem (pc2 := 7) rfl dX6_partOf_6 (by decide) ?_
  exact AW_iret rfl dX6_partOf_7 ⟨_, rfl, rfl, h⟩
theorem gfRX6_31 : ab_L RX6 31 6 6 := ⟨by decide, by decide, ab_in 139 (by decide +kernel) (by decide +kernel)⟩
theorem gfRX6_18 : ab_L RX6 18 6 2 := ⟨by decide, by decide, ab_in 133 (by decide +kernel) (by decide +kernel)⟩
theorem gfRX6_25 : ab_L RX6 25 6 4 := ⟨by decide, by decide, ab_in 136 (by decide +kernel) (by decide +kernel)⟩
abbrev MX6_spread : ab_M := (yX6_spread, cX6_spread, 7, none)
theorem dX6_spread_0 : decode cX6_spread 0 = .ok (.aload_n 0, 1) := by decide +kernel
theorem dX6_spread_1 : decode cX6_spread 1 = .ok (.getfield 31, 3) := by decide +kernel
theorem dX6_spread_4 : decode cX6_spread 4 = .ok (.iload_n 1, 1) := by decide +kernel
theorem dX6_spread_5 : decode cX6_spread 5 = .ok (.iaload, 1) := by decide +kernel
theorem dX6_spread_6 : decode cX6_spread 6 = .ok (.istore 4, 2) := by decide +kernel
theorem dX6_spread_8 : decode cX6_spread 8 = .ok (.iconst 0, 1) := by decide +kernel
theorem dX6_spread_9 : decode cX6_spread 9 = .ok (.istore 5, 2) := by decide +kernel
theorem dX6_spread_11 : decode cX6_spread 11 = .ok (.iload 5, 2) := by decide +kernel
theorem dX6_spread_13 : decode cX6_spread 13 = .ok (.aload_n 0, 1) := by decide +kernel
theorem dX6_spread_14 : decode cX6_spread 14 = .ok (.getfield 41, 3) := by decide +kernel
theorem dX6_spread_17 : decode cX6_spread 17 = .ok (.if_icmp .ge 138, 3) := by decide +kernel
theorem dX6_spread_20 : decode cX6_spread 20 = .ok (.iload_n 1, 1) := by decide +kernel
theorem dX6_spread_21 : decode cX6_spread 21 = .ok (.aload_n 0, 1) := by decide +kernel
theorem dX6_spread_22 : decode cX6_spread 22 = .ok (.getfield 18, 3) := by decide +kernel
theorem dX6_spread_25 : decode cX6_spread 25 = .ok (.iload 5, 2) := by decide +kernel
theorem dX6_spread_27 : decode cX6_spread 27 = .ok (.iaload, 1) := by decide +kernel
theorem dX6_spread_28 : decode cX6_spread 28 = .ok (.aload_n 0, 1) := by decide +kernel
theorem dX6_spread_29 : decode cX6_spread 29 = .ok (.getfield 25, 3) := by decide +kernel
theorem dX6_spread_32 : decode cX6_spread 32 = .ok (.iload 5, 2) := by decide +kernel
theorem dX6_spread_34 : decode cX6_spread 34 = .ok (.iconst 4, 1) := by decide +kernel
theorem dX6_spread_35 : decode cX6_spread 35 = .ok (.imul, 1) := by decide +kernel
theorem dX6_spread_36 : decode cX6_spread 36 = .ok (.iload_n 2, 1) := by decide +kernel
theorem dX6_spread_37 : decode cX6_spread 37 = .ok (.iadd, 1) := by decide +kernel
theorem dX6_spread_38 : decode cX6_spread 38 = .ok (.iaload, 1) := by decide +kernel
theorem dX6_spread_39 : decode cX6_spread 39 = .ok (.imul, 1) := by decide +kernel
theorem dX6_spread_40 : decode cX6_spread 40 = .ok (.iload_n 3, 1) := by decide +kernel
theorem dX6_spread_41 : decode cX6_spread 41 = .ok (.imul, 1) := by decide +kernel
theorem dX6_spread_42 : decode cX6_spread 42 = .ok (.sipush 9999, 3) := by decide +kernel
theorem dX6_spread_45 : decode cX6_spread 45 = .ok (.iadd, 1) := by decide +kernel
theorem dX6_spread_46 : decode cX6_spread 46 = .ok (.sipush 10000, 3) := by decide +kernel
theorem dX6_spread_49 : decode cX6_spread 49 = .ok (.idiv, 1) := by decide +kernel
theorem dX6_spread_50 : decode cX6_spread 50 = .ok (.iadd, 1) := by decide +kernel
theorem dX6_spread_51 : decode cX6_spread 51 = .ok (.istore 6, 2) := by decide +kernel
theorem dX6_spread_53 : decode cX6_spread 53 = .ok (.aload_n 0, 1) := by decide +kernel
theorem dX6_spread_54 : decode cX6_spread 54 = .ok (.getfield 21, 3) := by decide +kernel
theorem dX6_spread_57 : decode cX6_spread 57 = .ok (.iload 5, 2) := by decide +kernel
theorem dX6_spread_59 : decode cX6_spread 59 = .ok (.baload, 1) := by decide +kernel
theorem dX6_spread_60 : decode cX6_spread 60 = .ok (.ifCond .ne 89, 3) := by decide +kernel
theorem dX6_spread_63 : decode cX6_spread 63 = .ok (.iload 6, 2) := by decide +kernel
theorem dX6_spread_65 : decode cX6_spread 65 = .ok (.ifCond .lt 84, 3) := by decide +kernel
theorem dX6_spread_68 : decode cX6_spread 68 = .ok (.iload 6, 2) := by decide +kernel
theorem dX6_spread_70 : decode cX6_spread 70 = .ok (.sipush 600, 3) := by decide +kernel
theorem dX6_spread_73 : decode cX6_spread 73 = .ok (.if_icmp .le 6, 3) := by decide +kernel
theorem dX6_spread_76 : decode cX6_spread 76 = .ok (.goto 73, 3) := by decide +kernel
theorem dX6_spread_79 : decode cX6_spread 79 = .ok (.iload 4, 2) := by decide +kernel
theorem dX6_spread_81 : decode cX6_spread 81 = .ok (.aload_n 0, 1) := by decide +kernel
theorem dX6_spread_82 : decode cX6_spread 82 = .ok (.getfield 9, 3) := by decide +kernel
theorem dX6_spread_85 : decode cX6_spread 85 = .ok (.iload 5, 2) := by decide +kernel
theorem dX6_spread_87 : decode cX6_spread 87 = .ok (.iaload, 1) := by decide +kernel
theorem dX6_spread_88 : decode cX6_spread 88 = .ok (.ishr, 1) := by decide +kernel
theorem dX6_spread_89 : decode cX6_spread 89 = .ok (.iconst 1, 1) := by decide +kernel
theorem dX6_spread_90 : decode cX6_spread 90 = .ok (.iand, 1) := by decide +kernel
theorem dX6_spread_91 : decode cX6_spread 91 = .ok (.iconst 1, 1) := by decide +kernel
theorem dX6_spread_92 : decode cX6_spread 92 = .ok (.if_icmp .ne 22, 3) := by decide +kernel
theorem dX6_spread_95 : decode cX6_spread 95 = .ok (.aload_n 0, 1) := by decide +kernel
theorem dX6_spread_96 : decode cX6_spread 96 = .ok (.getfield 31, 3) := by decide +kernel
theorem dX6_spread_99 : decode cX6_spread 99 = .ok (.iload 6, 2) := by decide +kernel
theorem dX6_spread_101 : decode cX6_spread 101 = .ok (.dup2, 1) := by decide +kernel
theorem dX6_spread_102 : decode cX6_spread 102 = .ok (.iaload, 1) := by decide +kernel
theorem dX6_spread_103 : decode cX6_spread 103 = .ok (.iconst 1, 1) := by decide +kernel
theorem dX6_spread_104 : decode cX6_spread 104 = .ok (.aload_n 0, 1) := by decide +kernel
theorem dX6_spread_105 : decode cX6_spread 105 = .ok (.getfield 15, 3) := by decide +kernel
theorem dX6_spread_108 : decode cX6_spread 108 = .ok (.iload 5, 2) := by decide +kernel
theorem dX6_spread_110 : decode cX6_spread 110 = .ok (.iaload, 1) := by decide +kernel
theorem dX6_spread_111 : decode cX6_spread 111 = .ok (.ishl, 1) := by decide +kernel
theorem dX6_spread_112 : decode cX6_spread 112 = .ok (.ior, 1) := by decide +kernel
theorem dX6_spread_113 : decode cX6_spread 113 = .ok (.iastore, 1) := by decide +kernel
theorem dX6_spread_114 : decode cX6_spread 114 = .ok (.iload 4, 2) := by decide +kernel
theorem dX6_spread_116 : decode cX6_spread 116 = .ok (.aload_n 0, 1) := by decide +kernel
theorem dX6_spread_117 : decode cX6_spread 117 = .ok (.getfield 15, 3) := by decide +kernel
theorem dX6_spread_120 : decode cX6_spread 120 = .ok (.iload 5, 2) := by decide +kernel
theorem dX6_spread_122 : decode cX6_spread 122 = .ok (.iaload, 1) := by decide +kernel
theorem dX6_spread_123 : decode cX6_spread 123 = .ok (.ishr, 1) := by decide +kernel
theorem dX6_spread_124 : decode cX6_spread 124 = .ok (.iconst 1, 1) := by decide +kernel
theorem dX6_spread_125 : decode cX6_spread 125 = .ok (.iand, 1) := by decide +kernel
theorem dX6_spread_126 : decode cX6_spread 126 = .ok (.iconst 1, 1) := by decide +kernel
theorem dX6_spread_127 : decode cX6_spread 127 = .ok (.if_icmp .ne 22, 3) := by decide +kernel
theorem dX6_spread_130 : decode cX6_spread 130 = .ok (.aload_n 0, 1) := by decide +kernel
theorem dX6_spread_131 : decode cX6_spread 131 = .ok (.getfield 31, 3) := by decide +kernel
theorem dX6_spread_134 : decode cX6_spread 134 = .ok (.iload 6, 2) := by decide +kernel
theorem dX6_spread_136 : decode cX6_spread 136 = .ok (.dup2, 1) := by decide +kernel
theorem dX6_spread_137 : decode cX6_spread 137 = .ok (.iaload, 1) := by decide +kernel
theorem dX6_spread_138 : decode cX6_spread 138 = .ok (.iconst 1, 1) := by decide +kernel
theorem dX6_spread_139 : decode cX6_spread 139 = .ok (.aload_n 0, 1) := by decide +kernel
theorem dX6_spread_140 : decode cX6_spread 140 = .ok (.getfield 9, 3) := by decide +kernel
theorem dX6_spread_143 : decode cX6_spread 143 = .ok (.iload 5, 2) := by decide +kernel
theorem dX6_spread_145 : decode cX6_spread 145 = .ok (.iaload, 1) := by decide +kernel
theorem dX6_spread_146 : decode cX6_spread 146 = .ok (.ishl, 1) := by decide +kernel
theorem dX6_spread_147 : decode cX6_spread 147 = .ok (.ior, 1) := by decide +kernel
theorem dX6_spread_148 : decode cX6_spread 148 = .ok (.iastore, 1) := by decide +kernel
theorem dX6_spread_149 : decode cX6_spread 149 = .ok (.iinc 5 1, 3) := by decide +kernel
theorem dX6_spread_152 : decode cX6_spread 152 = .ok (.goto (-141), 3) := by decide +kernel
theorem dX6_spread_155 : decode cX6_spread 155 = .ok (.return_, 1) := by decide +kernel
theorem okX6_spread : ab_okM MX6_spread 3 := ⟨by decide, ⟨by decide, by decide⟩, ab_in 818 (by decide +kernel) (by decide +kernel), ab_in 87 (by decide +kernel) (by decide +kernel), by decide +kernel, by decide⟩
set_option maxHeartbeats 4000000 in
set_option maxRecDepth 100000 in
def wX6_spread_114 (v1 : Int32) (v2 : Int32) (v3 : Int32) (v4 : Int32) (v5 : Int32) (v6 : Int32) (x : ab_X) (K : ab_X → Prop) (L11 : Int32 → ab_X → Prop) : Prop := (vp_in v5 40 ∧ ((¬ ((v4 >>> ((x.1 3 (Int32.toNatClampNeg v5)) &&& 31)) &&& 1) = 1 → L11 (v5 + 1) x) ∧ (((v4 >>> ((x.1 3 (Int32.toNatClampNeg v5)) &&& 31)) &&& 1) = 1 → (vp_in v6 601 ∧ vp_in v5 40 ∧ vp_in v6 601 ∧ L11 (v5 + 1) (wr x 8 (Int32.toNatClampNeg v6) ((x.1 8 (Int32.toNatClampNeg v6)) ||| (1 <<< ((x.1 2 (Int32.toNatClampNeg v5)) &&& 31))))))))
set_option maxHeartbeats 4000000 in
set_option maxRecDepth 100000 in
theorem sX6_spread_114 (v1 : Int32) (v2 : Int32) (v3 : Int32) (v4 : Int32) (v5 : Int32) (v6 : Int32)  (x : ab_X) (K : ab_X → Prop) (L11 : Int32 → ab_X → Prop) (d bc bs : Nat) (hdp : 0 ≤ d) (hL11 : ∀ (v5 : Int32) (x : ab_X), L11 v5 x → EW MX6_spread 11 [(0, .ref 1), (1, .int v1), (2, .int v2), (3, .int v3), (4, .int v4), (5, .int v5)] [] (aS x) d bc bs (liV K)) (h : wX6_spread_114 v1 v2 v3 v4 v5 v6 x K L11) : EW MX6_spread 114 [(0, .ref 1), (1, .int v1), (2, .int v2), (3, .int v3), (4, .int v4), (5, .int v5), (6, .int v6)] [] (aS x) d bc bs (liV K) := by
  unfold wX6_spread_114 at h
  refine EW_iload (pc2 := 116) rfl dX6_spread_114 4 rfl ?_
  refine EW_aload_n (pc2 := 117) rfl dX6_spread_116 0 rfl ?_
  refine AW_getr (r := 3) ⟨gfRX6_15, rfl⟩ (pc2 := 120) rfl dX6_spread_117 q1 rfl ?_
  refine EW_iload (pc2 := 122) rfl dX6_spread_120 5 rfl ?_
  obtain ⟨b9, h⟩ := h
  refine AW_iald (pc2 := 123) rfl dX6_spread_122 q3 b9 ?_
  refine EW_ishr (pc2 := 124) rfl dX6_spread_123 ?_
  refine EW_iconst (pc2 := 125) (v := 1) rfl dX6_spread_124 (by decide) ?_
  refine EW_iand (pc2 := 126) rfl dX6_spread_125 ?_
  refine EW_iconst (pc2 := 127) (v := 1) rfl dX6_spread_126 (by decide) ?_
  refine EW_icmp_ne (tgt := 149) (pc2 := 130) rfl dX6_spread_127 (by decide) (fun q => ?_) (fun q => ?_)
  · replace h := h.1 q
    refine EW_iinc (v5 + 1) (pc2 := 152) rfl dX6_spread_149 5 rfl rfl (by decide) [1, 2, 3, 4, 5, 0, 6] [(0, .ref 1), (1, .int v1), (2, .int v2), (3, .int v3), (4, .int v4), (5, .int (v5 + 1)), (6, .int v6)] rfl ?_
    refine EW_goto (tgt := 11) dX6_spread_152 (by decide) ?_
    refine EW_ls [0, 1, 2, 3, 4, 5] rfl ?_
    exact hL11 (v5 + 1) x h
  · replace h := h.2 q
    refine EW_aload_n (pc2 := 131) rfl dX6_spread_130 0 rfl ?_
    refine AW_getr (r := 8) ⟨gfRX6_31, rfl⟩ (pc2 := 134) rfl dX6_spread_131 q1 rfl ?_
    refine EW_iload (pc2 := 136) rfl dX6_spread_134 6 rfl ?_
    refine EW_dup2 (pc2 := 137) rfl dX6_spread_136 rfl rfl ?_
    obtain ⟨b10, h⟩ := h
    refine AW_iald (pc2 := 138) rfl dX6_spread_137 q8 b10 ?_
    refine EW_iconst (pc2 := 139) (v := 1) rfl dX6_spread_138 (by decide) ?_
    refine EW_aload_n (pc2 := 140) rfl dX6_spread_139 0 rfl ?_
    refine AW_getr (r := 2) ⟨gfRX6_9, rfl⟩ (pc2 := 143) rfl dX6_spread_140 q1 rfl ?_
    refine EW_iload (pc2 := 145) rfl dX6_spread_143 5 rfl ?_
    obtain ⟨b11, h⟩ := h
    refine AW_iald (pc2 := 146) rfl dX6_spread_145 q2 b11 ?_
    refine EW_ishl (pc2 := 147) rfl dX6_spread_146 ?_
    refine EW_ior (pc2 := 148) rfl dX6_spread_147 ?_
    obtain ⟨b12, h⟩ := h
    refine AW_iast (pc2 := 149) rfl dX6_spread_148 q8 b12 ?_
    refine EW_iinc (v5 + 1) (pc2 := 152) rfl dX6_spread_149 5 rfl rfl (by decide) [1, 2, 3, 4, 5, 0, 6] [(0, .ref 1), (1, .int v1), (2, .int v2), (3, .int v3), (4, .int v4), (5, .int (v5 + 1)), (6, .int v6)] rfl ?_
    refine EW_goto (tgt := 11) dX6_spread_152 (by decide) ?_
    refine EW_ls [0, 1, 2, 3, 4, 5] rfl ?_
    exact hL11 (v5 + 1) (wr x 8 (Int32.toNatClampNeg v6) ((x.1 8 (Int32.toNatClampNeg v6)) ||| (1 <<< ((x.1 2 (Int32.toNatClampNeg v5)) &&& 31)))) h
set_option maxHeartbeats 4000000 in
set_option maxRecDepth 100000 in
def lX6_spread_11 (v1 : Int32) (v2 : Int32) (v3 : Int32) (v4 : Int32) (K : ab_X → Prop)  (L11 : Int32 → ab_X → Prop) (v5 : Int32) (x : ab_X) : Prop := (((x.1 1 7) ≤ v5 → K x) ∧ (¬ (x.1 1 7) ≤ v5 → (vp_in v5 40 ∧ vp_in ((v5 * 4) + v2) 160 ∧ vp_in v5 40 ∧ ((¬ (x.1 5 (Int32.toNatClampNeg v5)) = 0 → L11 (v5 + 1) x) ∧ ((x.1 5 (Int32.toNatClampNeg v5)) = 0 → (((v1 + (((((x.1 4 (Int32.toNatClampNeg v5)) * (x.1 6 (Int32.toNatClampNeg ((v5 * 4) + v2)))) * v3) + 9999) / 10000)) < 0 → L11 (v5 + 1) x) ∧ (¬ (v1 + (((((x.1 4 (Int32.toNatClampNeg v5)) * (x.1 6 (Int32.toNatClampNeg ((v5 * 4) + v2)))) * v3) + 9999) / 10000)) < 0 → (((v1 + (((((x.1 4 (Int32.toNatClampNeg v5)) * (x.1 6 (Int32.toNatClampNeg ((v5 * 4) + v2)))) * v3) + 9999) / 10000)) ≤ 600 → (vp_in v5 40 ∧ ((¬ ((v4 >>> ((x.1 2 (Int32.toNatClampNeg v5)) &&& 31)) &&& 1) = 1 → wX6_spread_114 v1 v2 v3 v4 v5 (v1 + (((((x.1 4 (Int32.toNatClampNeg v5)) * (x.1 6 (Int32.toNatClampNeg ((v5 * 4) + v2)))) * v3) + 9999) / 10000)) x K L11) ∧ (((v4 >>> ((x.1 2 (Int32.toNatClampNeg v5)) &&& 31)) &&& 1) = 1 → (vp_in (v1 + (((((x.1 4 (Int32.toNatClampNeg v5)) * (x.1 6 (Int32.toNatClampNeg ((v5 * 4) + v2)))) * v3) + 9999) / 10000)) 601 ∧ vp_in v5 40 ∧ vp_in (v1 + (((((x.1 4 (Int32.toNatClampNeg v5)) * (x.1 6 (Int32.toNatClampNeg ((v5 * 4) + v2)))) * v3) + 9999) / 10000)) 601 ∧ wX6_spread_114 v1 v2 v3 v4 v5 (v1 + (((((x.1 4 (Int32.toNatClampNeg v5)) * (x.1 6 (Int32.toNatClampNeg ((v5 * 4) + v2)))) * v3) + 9999) / 10000)) (wr x 8 (Int32.toNatClampNeg (v1 + (((((x.1 4 (Int32.toNatClampNeg v5)) * (x.1 6 (Int32.toNatClampNeg ((v5 * 4) + v2)))) * v3) + 9999) / 10000))) ((x.1 8 (Int32.toNatClampNeg (v1 + (((((x.1 4 (Int32.toNatClampNeg v5)) * (x.1 6 (Int32.toNatClampNeg ((v5 * 4) + v2)))) * v3) + 9999) / 10000)))) ||| (1 <<< ((x.1 3 (Int32.toNatClampNeg v5)) &&& 31)))) K L11))))) ∧ (¬ (v1 + (((((x.1 4 (Int32.toNatClampNeg v5)) * (x.1 6 (Int32.toNatClampNeg ((v5 * 4) + v2)))) * v3) + 9999) / 10000)) ≤ 600 → L11 (v5 + 1) x)))))))))
set_option maxHeartbeats 4000000 in
set_option maxRecDepth 100000 in
theorem sX6_spread_11 (v1 : Int32) (v2 : Int32) (v3 : Int32) (v4 : Int32) (v5 : Int32)  (x : ab_X) (K : ab_X → Prop)  (d bc bs : Nat) (hdp : 0 ≤ d)  (h : Lp2 (lX6_spread_11 v1 v2 v3 v4 K ) v5 x) : EW MX6_spread 11 [(0, .ref 1), (1, .int v1), (2, .int v2), (3, .int v3), (4, .int v4), (5, .int v5)] [] (aS x) d bc bs (liV K) := by
  refine Lp2.use (P := fun v5 x => EW MX6_spread 11 [(0, .ref 1), (1, .int v1), (2, .int v2), (3, .int v3), (4, .int v4), (5, .int v5)] [] (aS x) d bc bs (liV K)) (fun L11 v5 x hL11 h => ?_) v5 x h
  unfold lX6_spread_11 at h
  refine EW_iload (pc2 := 13) rfl dX6_spread_11 5 rfl ?_
  refine EW_aload_n (pc2 := 14) rfl dX6_spread_13 0 rfl ?_
  refine AW_geti ⟨gfRX6_41, rfl⟩ (pc2 := 17) rfl dX6_spread_14 q1 ?_
  refine EW_icmp_ge (tgt := 155) (pc2 := 20) rfl dX6_spread_17 (by decide) (fun q => ?_) (fun q => ?_)
  · replace h := h.1 q
    exact EW_vret rfl dX6_spread_155 ⟨_, rfl, rfl, h⟩
  · replace h := h.2 q
    refine EW_iload_n (pc2 := 21) rfl dX6_spread_20 1 rfl ?_
    refine EW_aload_n (pc2 := 22) rfl dX6_spread_21 0 rfl ?_
    refine AW_getr (r := 4) ⟨gfRX6_18, rfl⟩ (pc2 := 25) rfl dX6_spread_22 q1 rfl ?_
    refine EW_iload (pc2 := 27) rfl dX6_spread_25 5 rfl ?_
    obtain ⟨b2, h⟩ := h
    refine AW_iald (pc2 := 28) rfl dX6_spread_27 q4 b2 ?_
    refine EW_aload_n (pc2 := 29) rfl dX6_spread_28 0 rfl ?_
    refine AW_getr (r := 6) ⟨gfRX6_25, rfl⟩ (pc2 := 32) rfl dX6_spread_29 q1 rfl ?_
    refine EW_iload (pc2 := 34) rfl dX6_spread_32 5 rfl ?_
    refine EW_iconst (pc2 := 35) (v := 4) rfl dX6_spread_34 (by decide) ?_
    refine EW_imul (pc2 := 36) rfl dX6_spread_35 ?_
    refine EW_iload_n (pc2 := 37) rfl dX6_spread_36 2 rfl ?_
    refine EW_iadd (pc2 := 38) rfl dX6_spread_37 ?_
    obtain ⟨b3, h⟩ := h
    refine AW_iald (pc2 := 39) rfl dX6_spread_38 q6 b3 ?_
    refine EW_imul (pc2 := 40) rfl dX6_spread_39 ?_
    refine EW_iload_n (pc2 := 41) rfl dX6_spread_40 3 rfl ?_
    refine EW_imul (pc2 := 42) rfl dX6_spread_41 ?_
    refine EW_sipush (pc2 := 45) (v := 9999) rfl dX6_spread_42 (by decide) ?_
    refine EW_iadd (pc2 := 46) rfl dX6_spread_45 ?_
    refine EW_sipush (pc2 := 49) (v := 10000) rfl dX6_spread_46 (by decide) ?_
    refine EW_idiv (pc2 := 50) rfl dX6_spread_49 (by decide) ?_
    refine EW_iadd (pc2 := 51) rfl dX6_spread_50 ?_
    refine EW_istore (pc2 := 53) rfl dX6_spread_51 (by decide) [1, 2, 3, 4, 5, 6, 0] [(0, .ref 1), (1, .int v1), (2, .int v2), (3, .int v3), (4, .int v4), (5, .int v5), (6, .int (v1 + (((((x.1 4 (Int32.toNatClampNeg v5)) * (x.1 6 (Int32.toNatClampNeg ((v5 * 4) + v2)))) * v3) + 9999) / 10000)))] rfl ?_
    refine EW_aload_n (pc2 := 54) rfl dX6_spread_53 0 rfl ?_
    refine AW_getr (r := 5) ⟨gfRX6_21, rfl⟩ (pc2 := 57) rfl dX6_spread_54 q1 rfl ?_
    refine EW_iload (pc2 := 59) rfl dX6_spread_57 5 rfl ?_
    obtain ⟨b4, h⟩ := h
    refine AW_zald (pc2 := 60) rfl dX6_spread_59 q5 b4 ?_
    refine EW_if_ne (tgt := 149) (pc2 := 63) rfl dX6_spread_60 (by decide) (fun q => ?_) (fun q => ?_)
    · replace h := h.1 q
      refine EW_iinc (v5 + 1) (pc2 := 152) rfl dX6_spread_149 5 rfl rfl (by decide) [1, 2, 3, 4, 5, 0, 6] [(0, .ref 1), (1, .int v1), (2, .int v2), (3, .int v3), (4, .int v4), (5, .int (v5 + 1)), (6, .int (v1 + (((((x.1 4 (Int32.toNatClampNeg v5)) * (x.1 6 (Int32.toNatClampNeg ((v5 * 4) + v2)))) * v3) + 9999) / 10000)))] rfl ?_
      refine EW_goto (tgt := 11) dX6_spread_152 (by decide) ?_
      refine EW_ls [0, 1, 2, 3, 4, 5] rfl ?_
      exact hL11 (v5 + 1) x h
    · replace h := h.2 q
      refine EW_iload (pc2 := 65) rfl dX6_spread_63 6 rfl ?_
      refine EW_if_lt (tgt := 149) (pc2 := 68) rfl dX6_spread_65 (by decide) (fun q => ?_) (fun q => ?_)
      · replace h := h.1 q
        refine EW_iinc (v5 + 1) (pc2 := 152) rfl dX6_spread_149 5 rfl rfl (by decide) [1, 2, 3, 4, 5, 0, 6] [(0, .ref 1), (1, .int v1), (2, .int v2), (3, .int v3), (4, .int v4), (5, .int (v5 + 1)), (6, .int (v1 + (((((x.1 4 (Int32.toNatClampNeg v5)) * (x.1 6 (Int32.toNatClampNeg ((v5 * 4) + v2)))) * v3) + 9999) / 10000)))] rfl ?_
        refine EW_goto (tgt := 11) dX6_spread_152 (by decide) ?_
        refine EW_ls [0, 1, 2, 3, 4, 5] rfl ?_
        exact hL11 (v5 + 1) x h
      · replace h := h.2 q
        refine EW_iload (pc2 := 70) rfl dX6_spread_68 6 rfl ?_
        refine EW_sipush (pc2 := 73) (v := 600) rfl dX6_spread_70 (by decide) ?_
        refine EW_icmp_le (tgt := 79) (pc2 := 76) rfl dX6_spread_73 (by decide) (fun q => ?_) (fun q => ?_)
        · replace h := h.1 q
          refine EW_iload (pc2 := 81) rfl dX6_spread_79 4 rfl ?_
          refine EW_aload_n (pc2 := 82) rfl dX6_spread_81 0 rfl ?_
          refine AW_getr (r := 2) ⟨gfRX6_9, rfl⟩ (pc2 := 85) rfl dX6_spread_82 q1 rfl ?_
          refine EW_iload (pc2 := 87) rfl dX6_spread_85 5 rfl ?_
          obtain ⟨b5, h⟩ := h
          refine AW_iald (pc2 := 88) rfl dX6_spread_87 q2 b5 ?_
          refine EW_ishr (pc2 := 89) rfl dX6_spread_88 ?_
          refine EW_iconst (pc2 := 90) (v := 1) rfl dX6_spread_89 (by decide) ?_
          refine EW_iand (pc2 := 91) rfl dX6_spread_90 ?_
          refine EW_iconst (pc2 := 92) (v := 1) rfl dX6_spread_91 (by decide) ?_
          refine EW_icmp_ne (tgt := 114) (pc2 := 95) rfl dX6_spread_92 (by decide) (fun q => ?_) (fun q => ?_)
          · replace h := h.1 q
            exact sX6_spread_114 v1 v2 v3 v4 v5 (v1 + (((((x.1 4 (Int32.toNatClampNeg v5)) * (x.1 6 (Int32.toNatClampNeg ((v5 * 4) + v2)))) * v3) + 9999) / 10000)) x K L11 d bc bs hdp hL11 h
          · replace h := h.2 q
            refine EW_aload_n (pc2 := 96) rfl dX6_spread_95 0 rfl ?_
            refine AW_getr (r := 8) ⟨gfRX6_31, rfl⟩ (pc2 := 99) rfl dX6_spread_96 q1 rfl ?_
            refine EW_iload (pc2 := 101) rfl dX6_spread_99 6 rfl ?_
            refine EW_dup2 (pc2 := 102) rfl dX6_spread_101 rfl rfl ?_
            obtain ⟨b6, h⟩ := h
            refine AW_iald (pc2 := 103) rfl dX6_spread_102 q8 b6 ?_
            refine EW_iconst (pc2 := 104) (v := 1) rfl dX6_spread_103 (by decide) ?_
            refine EW_aload_n (pc2 := 105) rfl dX6_spread_104 0 rfl ?_
            refine AW_getr (r := 3) ⟨gfRX6_15, rfl⟩ (pc2 := 108) rfl dX6_spread_105 q1 rfl ?_
            refine EW_iload (pc2 := 110) rfl dX6_spread_108 5 rfl ?_
            obtain ⟨b7, h⟩ := h
            refine AW_iald (pc2 := 111) rfl dX6_spread_110 q3 b7 ?_
            refine EW_ishl (pc2 := 112) rfl dX6_spread_111 ?_
            refine EW_ior (pc2 := 113) rfl dX6_spread_112 ?_
            obtain ⟨b8, h⟩ := h
            refine AW_iast (pc2 := 114) rfl dX6_spread_113 q8 b8 ?_
            exact sX6_spread_114 v1 v2 v3 v4 v5 (v1 + (((((x.1 4 (Int32.toNatClampNeg v5)) * (x.1 6 (Int32.toNatClampNeg ((v5 * 4) + v2)))) * v3) + 9999) / 10000)) (wr x 8 (Int32.toNatClampNeg (v1 + (((((x.1 4 (Int32.toNatClampNeg v5)) * (x.1 6 (Int32.toNatClampNeg ((v5 * 4) + v2)))) * v3) + 9999) / 10000))) ((x.1 8 (Int32.toNatClampNeg (v1 + (((((x.1 4 (Int32.toNatClampNeg v5)) * (x.1 6 (Int32.toNatClampNeg ((v5 * 4) + v2)))) * v3) + 9999) / 10000)))) ||| (1 <<< ((x.1 3 (Int32.toNatClampNeg v5)) &&& 31)))) K L11 d bc bs hdp hL11 h
        · replace h := h.2 q
          refine EW_goto (tgt := 149) dX6_spread_76 (by decide) ?_
          refine EW_iinc (v5 + 1) (pc2 := 152) rfl dX6_spread_149 5 rfl rfl (by decide) [1, 2, 3, 4, 5, 0, 6] [(0, .ref 1), (1, .int v1), (2, .int v2), (3, .int v3), (4, .int v4), (5, .int (v5 + 1)), (6, .int (v1 + (((((x.1 4 (Int32.toNatClampNeg v5)) * (x.1 6 (Int32.toNatClampNeg ((v5 * 4) + v2)))) * v3) + 9999) / 10000)))] rfl ?_
          refine EW_goto (tgt := 11) dX6_spread_152 (by decide) ?_
          refine EW_ls [0, 1, 2, 3, 4, 5] rfl ?_
          exact hL11 (v5 + 1) x h
set_option maxHeartbeats 4000000 in
set_option maxRecDepth 100000 in
def wX6_spread (v1 : Int32) (v2 : Int32) (v3 : Int32) (x : ab_X) (K : ab_X → Prop) : Prop := (vp_in v1 601 ∧ Lp2 (lX6_spread_11 v1 v2 v3 (x.1 8 (Int32.toNatClampNeg v1)) K ) 0 x)
set_option maxHeartbeats 4000000 in
set_option maxRecDepth 100000 in
theorem sX6_spread (v1 : Int32) (v2 : Int32) (v3 : Int32)  (x : ab_X) (K : ab_X → Prop) (d bc bs : Nat) (hdp : 0 ≤ d) (h : wX6_spread v1 v2 v3 x K) : EW MX6_spread 0 [(0, .ref 1), (1, .int v1), (2, .int v2), (3, .int v3)] [] (aS x) d bc bs (liV K) := by
  unfold wX6_spread at h
  refine EW_aload_n (pc2 := 1) rfl dX6_spread_0 0 rfl ?_
  refine AW_getr (r := 8) ⟨gfRX6_31, rfl⟩ (pc2 := 4) rfl dX6_spread_1 q1 rfl ?_
  refine EW_iload_n (pc2 := 5) rfl dX6_spread_4 1 rfl ?_
  obtain ⟨b1, h⟩ := h
  refine AW_iald (pc2 := 6) rfl dX6_spread_5 q8 b1 ?_
  refine EW_istore (pc2 := 8) rfl dX6_spread_6 (by decide) [1, 2, 3, 4, 0] [(0, .ref 1), (1, .int v1), (2, .int v2), (3, .int v3), (4, .int (x.1 8 (Int32.toNatClampNeg v1)))] rfl ?_
  refine EW_iconst (pc2 := 9) (v := 0) rfl dX6_spread_8 (by decide) ?_
  refine EW_istore (pc2 := 11) rfl dX6_spread_9 (by decide) [1, 2, 3, 4, 5, 0] [(0, .ref 1), (1, .int v1), (2, .int v2), (3, .int v3), (4, .int (x.1 8 (Int32.toNatClampNeg v1))), (5, .int 0)] rfl ?_
  exact sX6_spread_11 v1 v2 v3 (x.1 8 (Int32.toNatClampNeg v1)) 0 x K d bc bs hdp h
