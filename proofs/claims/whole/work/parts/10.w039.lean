theorem gfRX12_423 : ab_L RX12 423 12 80 := ⟨by decide, by decide, ab_in 1929 (by decide +kernel) (by decide +kernel)⟩
theorem gfRX12_426 : ab_L RX12 426 12 79 := ⟨by decide, by decide, ab_in 1928 (by decide +kernel) (by decide +kernel)⟩
theorem gfRX12_205 : ab_L RX12 205 12 76 := ⟨by decide, by decide, ab_in 1925 (by decide +kernel) (by decide +kernel)⟩
theorem gfRX12_429 : ab_L RX12 429 12 78 := ⟨by decide, by decide, ab_in 1927 (by decide +kernel) (by decide +kernel)⟩
abbrev MX12_look : ab_M := (yX12_look, cX12_look, 1, (some .int))
theorem dX12_look_0 : decode cX12_look 0 = .ok (.aload_n 0, 1) := by decide +kernel
theorem dX12_look_1 : decode cX12_look 1 = .ok (.getfield 423, 3) := by decide +kernel
theorem dX12_look_4 : decode cX12_look 4 = .ok (.aload_n 0, 1) := by decide +kernel
theorem dX12_look_5 : decode cX12_look 5 = .ok (.getfield 426, 3) := by decide +kernel
theorem dX12_look_8 : decode cX12_look 8 = .ok (.if_icmp .ge 35, 3) := by decide +kernel
theorem dX12_look_11 : decode cX12_look 11 = .ok (.aload_n 0, 1) := by decide +kernel
theorem dX12_look_12 : decode cX12_look 12 = .ok (.getfield 205, 3) := by decide +kernel
theorem dX12_look_15 : decode cX12_look 15 = .ok (.aload_n 0, 1) := by decide +kernel
theorem dX12_look_16 : decode cX12_look 16 = .ok (.getfield 429, 3) := by decide +kernel
theorem dX12_look_19 : decode cX12_look 19 = .ok (.aload_n 0, 1) := by decide +kernel
theorem dX12_look_20 : decode cX12_look 20 = .ok (.getfield 423, 3) := by decide +kernel
theorem dX12_look_23 : decode cX12_look 23 = .ok (.iadd, 1) := by decide +kernel
theorem dX12_look_24 : decode cX12_look 24 = .ok (.baload, 1) := by decide +kernel
theorem dX12_look_25 : decode cX12_look 25 = .ok (.bipush 32, 2) := by decide +kernel
theorem dX12_look_27 : decode cX12_look 27 = .ok (.if_icmp .ne 16, 3) := by decide +kernel
theorem dX12_look_30 : decode cX12_look 30 = .ok (.aload_n 0, 1) := by decide +kernel
theorem dX12_look_31 : decode cX12_look 31 = .ok (.dup, 1) := by decide +kernel
theorem dX12_look_32 : decode cX12_look 32 = .ok (.getfield 423, 3) := by decide +kernel
theorem dX12_look_35 : decode cX12_look 35 = .ok (.iconst 1, 1) := by decide +kernel
theorem dX12_look_36 : decode cX12_look 36 = .ok (.iadd, 1) := by decide +kernel
theorem dX12_look_37 : decode cX12_look 37 = .ok (.putfield 423, 3) := by decide +kernel
theorem dX12_look_40 : decode cX12_look 40 = .ok (.goto (-40), 3) := by decide +kernel
theorem dX12_look_43 : decode cX12_look 43 = .ok (.aload_n 0, 1) := by decide +kernel
theorem dX12_look_44 : decode cX12_look 44 = .ok (.getfield 423, 3) := by decide +kernel
theorem dX12_look_47 : decode cX12_look 47 = .ok (.aload_n 0, 1) := by decide +kernel
theorem dX12_look_48 : decode cX12_look 48 = .ok (.getfield 426, 3) := by decide +kernel
theorem dX12_look_51 : decode cX12_look 51 = .ok (.if_icmp .ge 24, 3) := by decide +kernel
theorem dX12_look_54 : decode cX12_look 54 = .ok (.aload_n 0, 1) := by decide +kernel
theorem dX12_look_55 : decode cX12_look 55 = .ok (.getfield 205, 3) := by decide +kernel
theorem dX12_look_58 : decode cX12_look 58 = .ok (.aload_n 0, 1) := by decide +kernel
theorem dX12_look_59 : decode cX12_look 59 = .ok (.getfield 429, 3) := by decide +kernel
theorem dX12_look_62 : decode cX12_look 62 = .ok (.aload_n 0, 1) := by decide +kernel
theorem dX12_look_63 : decode cX12_look 63 = .ok (.getfield 423, 3) := by decide +kernel
theorem dX12_look_66 : decode cX12_look 66 = .ok (.iadd, 1) := by decide +kernel
theorem dX12_look_67 : decode cX12_look 67 = .ok (.baload, 1) := by decide +kernel
theorem dX12_look_68 : decode cX12_look 68 = .ok (.sipush 255, 3) := by decide +kernel
theorem dX12_look_71 : decode cX12_look 71 = .ok (.iand, 1) := by decide +kernel
theorem dX12_look_72 : decode cX12_look 72 = .ok (.goto 4, 3) := by decide +kernel
theorem dX12_look_75 : decode cX12_look 75 = .ok (.iconst (-1), 1) := by decide +kernel
theorem dX12_look_76 : decode cX12_look 76 = .ok (.ireturn, 1) := by decide +kernel
theorem okX12_look : ab_okM MX12_look 0 := ⟨by decide, ⟨by decide, by decide⟩, ab_in 2430 (by decide +kernel) (by decide +kernel), ab_in 99 (by decide +kernel) (by decide +kernel), by decide +kernel, by decide⟩
set_option maxHeartbeats 4000000 in
set_option maxRecDepth 100000 in
def wX12_look_43  (x : ab_X) (K : Int32 → ab_X → Prop)  : Prop := (((x.1 246 79) ≤ (x.1 246 80) → K (-1) x) ∧ (¬ (x.1 246 79) ≤ (x.1 246 80) → ((∃ n, isBA x.2.2.2.2.1 n ∧ vp_in ((x.1 246 78) + (x.1 246 80)) n) ∧ K ((x.1 x.2.2.2.2.1 (Int32.toNatClampNeg ((x.1 246 78) + (x.1 246 80)))) &&& 255) x)))
set_option maxHeartbeats 4000000 in
set_option maxRecDepth 100000 in
theorem sX12_look_43   (x : ab_X) (K : Int32 → ab_X → Prop)  (d bc bs : Nat) (hdp : 0 ≤ d)  (h : wX12_look_43  x K ) : EW MX12_look 43 [(0, .ref 246)] [] (aS x) d bc bs (liI K) := by
  unfold wX12_look_43 at h
  refine EW_aload_n (pc2 := 44) rfl dX12_look_43 0 rfl ?_
  refine AW_geti ⟨gfRX12_423, rfl⟩ (pc2 := 47) rfl dX12_look_44 q246 ?_
  refine EW_aload_n (pc2 := 48) rfl dX12_look_47 0 rfl ?_
  refine AW_geti ⟨gfRX12_426, rfl⟩ (pc2 := 51) rfl dX12_look_48 q246 ?_
  refine EW_icmp_ge (tgt := 75) (pc2 := 54) rfl dX12_look_51 (by decide) (fun q => ?_) (fun q => ?_)
  · replace h := h.1 q
    refine EW_iconst (pc2 := 76) (v := (-1)) rfl dX12_look_75 (by decide) ?_
    exact AW_iret rfl dX12_look_76 ⟨_, _, rfl, rfl, h⟩
  · replace h := h.2 q
    refine EW_aload_n (pc2 := 55) rfl dX12_look_54 0 rfl ?_
    refine AW_getr (r := x.2.2.2.2.1) ⟨gfRX12_205, rfl⟩ (pc2 := 58) rfl dX12_look_55 q246 rfl ?_
    refine EW_aload_n (pc2 := 59) rfl dX12_look_58 0 rfl ?_
    refine AW_geti ⟨gfRX12_429, rfl⟩ (pc2 := 62) rfl dX12_look_59 q246 ?_
    refine EW_aload_n (pc2 := 63) rfl dX12_look_62 0 rfl ?_
    refine AW_geti ⟨gfRX12_423, rfl⟩ (pc2 := 66) rfl dX12_look_63 q246 ?_
    refine EW_iadd (pc2 := 67) rfl dX12_look_66 ?_
    obtain ⟨⟨nb2, hb2, b2⟩, h⟩ := h
    refine AW_bald (pc2 := 68) rfl dX12_look_67 hb2 b2 ?_
    refine EW_sipush (pc2 := 71) (v := 255) rfl dX12_look_68 (by decide) ?_
    refine EW_iand (pc2 := 72) rfl dX12_look_71 ?_
    refine EW_goto (tgt := 76) dX12_look_72 (by decide) ?_
    exact AW_iret rfl dX12_look_76 ⟨_, _, rfl, rfl, h⟩
set_option maxHeartbeats 4000000 in
set_option maxRecDepth 100000 in
def lX12_look_0  (K : Int32 → ab_X → Prop)  (L0 : ab_X → Prop)  (x : ab_X) : Prop := (((x.1 246 79) ≤ (x.1 246 80) → wX12_look_43 x K) ∧ (¬ (x.1 246 79) ≤ (x.1 246 80) → ((∃ n, isBA x.2.2.2.2.1 n ∧ vp_in ((x.1 246 78) + (x.1 246 80)) n) ∧ ((¬ (x.1 x.2.2.2.2.1 (Int32.toNatClampNeg ((x.1 246 78) + (x.1 246 80)))) = 32 → wX12_look_43 x K) ∧ ((x.1 x.2.2.2.2.1 (Int32.toNatClampNeg ((x.1 246 78) + (x.1 246 80)))) = 32 → L0 (wr x 246 80 ((x.1 246 80) + 1)))))))
set_option maxHeartbeats 4000000 in
set_option maxRecDepth 100000 in
theorem sX12_look_0   (x : ab_X) (K : Int32 → ab_X → Prop)  (d bc bs : Nat) (hdp : 0 ≤ d)  (h : Lp1 (lX12_look_0  K )  x) : EW MX12_look 0 [(0, .ref 246)] [] (aS x) d bc bs (liI K) := by
  refine Lp1.use (P := fun  x => EW MX12_look 0 [(0, .ref 246)] [] (aS x) d bc bs (liI K)) (fun L0  x hL0 h => ?_)  x h
  unfold lX12_look_0 at h
  refine EW_aload_n (pc2 := 1) rfl dX12_look_0 0 rfl ?_
  refine AW_geti ⟨gfRX12_423, rfl⟩ (pc2 := 4) rfl dX12_look_1 q246 ?_
  refine EW_aload_n (pc2 := 5) rfl dX12_look_4 0 rfl ?_
  refine AW_geti ⟨gfRX12_426, rfl⟩ (pc2 := 8) rfl dX12_look_5 q246 ?_
  refine EW_icmp_ge (tgt := 43) (pc2 := 11) rfl dX12_look_8 (by decide) (fun q => ?_) (fun q => ?_)
  · replace h := h.1 q
    exact sX12_look_43  x K d bc bs hdp h
  · replace h := h.2 q
    refine EW_aload_n (pc2 := 12) rfl dX12_look_11 0 rfl ?_
    refine AW_getr (r := x.2.2.2.2.1) ⟨gfRX12_205, rfl⟩ (pc2 := 15) rfl dX12_look_12 q246 rfl ?_
    refine EW_aload_n (pc2 := 16) rfl dX12_look_15 0 rfl ?_
    refine AW_geti ⟨gfRX12_429, rfl⟩ (pc2 := 19) rfl dX12_look_16 q246 ?_
    refine EW_aload_n (pc2 := 20) rfl dX12_look_19 0 rfl ?_
    refine AW_geti ⟨gfRX12_423, rfl⟩ (pc2 := 23) rfl dX12_look_20 q246 ?_
    refine EW_iadd (pc2 := 24) rfl dX12_look_23 ?_
    obtain ⟨⟨nb1, hb1, b1⟩, h⟩ := h
    refine AW_bald (pc2 := 25) rfl dX12_look_24 hb1 b1 ?_
    refine EW_bipush (pc2 := 27) (v := 32) rfl dX12_look_25 (by decide) ?_
    refine EW_icmp_ne (tgt := 43) (pc2 := 30) rfl dX12_look_27 (by decide) (fun q => ?_) (fun q => ?_)
    · replace h := h.1 q
      exact sX12_look_43  x K d bc bs hdp h
    · replace h := h.2 q
      refine EW_aload_n (pc2 := 31) rfl dX12_look_30 0 rfl ?_
      refine EW_dup (pc2 := 32) rfl dX12_look_31 rfl ?_
      refine AW_geti ⟨gfRX12_423, rfl⟩ (pc2 := 35) rfl dX12_look_32 q246 ?_
      refine EW_iconst (pc2 := 36) (v := 1) rfl dX12_look_35 (by decide) ?_
      refine EW_iadd (pc2 := 37) rfl dX12_look_36 ?_
      refine AW_puti ⟨gfRX12_423, rfl, rfl⟩ (pc2 := 40) rfl dX12_look_37 q246 ?_
      refine EW_goto (tgt := 0) dX12_look_40 (by decide) ?_
      exact hL0 (wr x 246 80 ((x.1 246 80) + 1)) h
set_option maxHeartbeats 4000000 in
set_option maxRecDepth 100000 in
def wX12_look  (x : ab_X) (K : Int32 → ab_X → Prop) : Prop := Lp1 (lX12_look_0 K ) x
set_option maxHeartbeats 4000000 in
set_option maxRecDepth 100000 in
theorem sX12_look   (x : ab_X) (K : Int32 → ab_X → Prop) (d bc bs : Nat) (hdp : 0 ≤ d) (h : wX12_look  x K) : EW MX12_look 0 [(0, .ref 246)] [] (aS x) d bc bs (liI K) := by
  unfold wX12_look at h
  exact sX12_look_0  x K d bc bs hdp h
theorem gfRX12_432 : ab_L RX12 432 12 81 := ⟨by decide, by decide, ab_in 1930 (by decide +kernel) (by decide +kernel)⟩
abbrev MX12_stop : ab_M := (yX12_stop, cX12_stop, 1, (some .boolean))
theorem dX12_stop_0 : decode cX12_stop 0 = .ok (.aload_n 0, 1) := by decide +kernel
theorem dX12_stop_1 : decode cX12_stop 1 = .ok (.getfield 432, 3) := by decide +kernel
theorem dX12_stop_4 : decode cX12_stop 4 = .ok (.iconst (-1), 1) := by decide +kernel
theorem dX12_stop_5 : decode cX12_stop 5 = .ok (.if_icmp .ne 11, 3) := by decide +kernel
theorem dX12_stop_8 : decode cX12_stop 8 = .ok (.aload_n 0, 1) := by decide +kernel
theorem dX12_stop_9 : decode cX12_stop 9 = .ok (.aload_n 0, 1) := by decide +kernel
theorem dX12_stop_10 : decode cX12_stop 10 = .ok (.getfield 423, 3) := by decide +kernel
theorem dX12_stop_13 : decode cX12_stop 13 = .ok (.putfield 432, 3) := by decide +kernel
theorem dX12_stop_16 : decode cX12_stop 16 = .ok (.iconst 0, 1) := by decide +kernel
theorem dX12_stop_17 : decode cX12_stop 17 = .ok (.ireturn, 1) := by decide +kernel
theorem okX12_stop : ab_okM MX12_stop 0 := ⟨by decide, ⟨by decide, by decide⟩, ab_in 2438 (by decide +kernel) (by decide +kernel), ab_in 99 (by decide +kernel) (by decide +kernel), by decide +kernel, by decide⟩
set_option maxHeartbeats 4000000 in
set_option maxRecDepth 100000 in
def wX12_stop  (x : ab_X) (K : Int32 → ab_X → Prop) : Prop := ((¬ (x.1 246 81) = (-1) → K 0 x) ∧ ((x.1 246 81) = (-1) → K 0 (wr x 246 81 (x.1 246 80))))
set_option maxHeartbeats 4000000 in
set_option maxRecDepth 100000 in
theorem sX12_stop   (x : ab_X) (K : Int32 → ab_X → Prop) (d bc bs : Nat) (hdp : 0 ≤ d) (h : wX12_stop  x K) : EW MX12_stop 0 [(0, .ref 246)] [] (aS x) d bc bs (liI K) := by
  unfold wX12_stop at h
  refine EW_aload_n (pc2 := 1) rfl dX12_stop_0 0 rfl ?_
  refine AW_geti ⟨gfRX12_432, rfl⟩ (pc2 := 4) rfl dX12_stop_1 q246 ?_
  refine EW_iconst (pc2 := 5) (v := (-1)) rfl dX12_stop_4 (by decide) ?_
  refine EW_icmp_ne (tgt := 16) (pc2 := 8) rfl dX12_stop_5 (by decide) (fun q => ?_) (fun q => ?_)
  · replace h := h.1 q
    refine EW_iconst (pc2 := 17) (v := 0) rfl dX12_stop_16 (by decide) ?_
    exact AW_zret rfl isB0 dX12_stop_17 ⟨_, _, rfl, rfl, h⟩
  · replace h := h.2 q
    refine EW_aload_n (pc2 := 9) rfl dX12_stop_8 0 rfl ?_
    refine EW_aload_n (pc2 := 10) rfl dX12_stop_9 0 rfl ?_
    refine AW_geti ⟨gfRX12_423, rfl⟩ (pc2 := 13) rfl dX12_stop_10 q246 ?_
    refine AW_puti ⟨gfRX12_432, rfl, rfl⟩ (pc2 := 16) rfl dX12_stop_13 q246 ?_
    refine EW_iconst (pc2 := 17) (v := 0) rfl dX12_stop_16 (by decide) ?_
    exact AW_zret rfl isB0 dX12_stop_17 ⟨_, _, rfl, rfl, h⟩
theorem gfRX12_435 : ab_L RX12 435 12 82 := ⟨by decide, by decide, ab_in 1931 (by decide +kernel) (by decide +kernel)⟩
theorem mlRX12_438 : Cond.methodLink RX12 438 yX12_stop ∈ ab_G ∧ Cond.instanceMethod yX12_stop ∈ ab_G ∧ Cond.selects RX12 yX12_stop yX12_stop ∈ ab_G := ⟨ab_in 2435 (by decide +kernel) (by decide +kernel), ab_in 2437 (by decide +kernel) (by decide +kernel), ab_in 41 (by decide +kernel) (by decide +kernel)⟩
abbrev MX12_goesIn : ab_M := (yX12_goesIn, cX12_goesIn, 1, (some .boolean))
theorem dX12_goesIn_0 : decode cX12_goesIn 0 = .ok (.aload_n 0, 1) := by decide +kernel
theorem dX12_goesIn_1 : decode cX12_goesIn 1 = .ok (.getfield 435, 3) := by decide +kernel
theorem dX12_goesIn_4 : decode cX12_goesIn 4 = .ok (.bipush 8, 2) := by decide +kernel
theorem dX12_goesIn_6 : decode cX12_goesIn 6 = .ok (.if_icmp .ne 8, 3) := by decide +kernel
theorem dX12_goesIn_9 : decode cX12_goesIn 9 = .ok (.aload_n 0, 1) := by decide +kernel
theorem dX12_goesIn_10 : decode cX12_goesIn 10 = .ok (.invokevirtual 438, 3) := by decide +kernel
theorem dX12_goesIn_13 : decode cX12_goesIn 13 = .ok (.ireturn, 1) := by decide +kernel
theorem dX12_goesIn_14 : decode cX12_goesIn 14 = .ok (.aload_n 0, 1) := by decide +kernel
theorem dX12_goesIn_15 : decode cX12_goesIn 15 = .ok (.dup, 1) := by decide +kernel
theorem dX12_goesIn_16 : decode cX12_goesIn 16 = .ok (.getfield 435, 3) := by decide +kernel
theorem dX12_goesIn_19 : decode cX12_goesIn 19 = .ok (.iconst 1, 1) := by decide +kernel
theorem dX12_goesIn_20 : decode cX12_goesIn 20 = .ok (.iadd, 1) := by decide +kernel
theorem dX12_goesIn_21 : decode cX12_goesIn 21 = .ok (.putfield 435, 3) := by decide +kernel
theorem dX12_goesIn_24 : decode cX12_goesIn 24 = .ok (.aload_n 0, 1) := by decide +kernel
theorem dX12_goesIn_25 : decode cX12_goesIn 25 = .ok (.dup, 1) := by decide +kernel
theorem dX12_goesIn_26 : decode cX12_goesIn 26 = .ok (.getfield 423, 3) := by decide +kernel
theorem dX12_goesIn_29 : decode cX12_goesIn 29 = .ok (.iconst 1, 1) := by decide +kernel
theorem dX12_goesIn_30 : decode cX12_goesIn 30 = .ok (.iadd, 1) := by decide +kernel
theorem dX12_goesIn_31 : decode cX12_goesIn 31 = .ok (.putfield 423, 3) := by decide +kernel
theorem dX12_goesIn_34 : decode cX12_goesIn 34 = .ok (.iconst 1, 1) := by decide +kernel
theorem dX12_goesIn_35 : decode cX12_goesIn 35 = .ok (.ireturn, 1) := by decide +kernel
theorem okX12_goesIn : ab_okM MX12_goesIn 0 := ⟨by decide, ⟨by decide, by decide⟩, ab_in 2434 (by decide +kernel) (by decide +kernel), ab_in 99 (by decide +kernel) (by decide +kernel), by decide +kernel, by decide⟩
set_option maxHeartbeats 4000000 in
set_option maxRecDepth 100000 in
def wX12_goesIn  (x : ab_X) (K : Int32 → ab_X → Prop) : Prop := ((¬ (x.1 246 82) = 8 → K 1 (wr (wr x 246 82 ((x.1 246 82) + 1)) 246 80 (((wr x 246 82 ((x.1 246 82) + 1)).1 246 80) + 1))) ∧ ((x.1 246 82) = 8 → wX12_stop x (fun r1 x2 => (isB r1 ∧ K r1 x2))))
set_option maxHeartbeats 4000000 in
set_option maxRecDepth 100000 in
theorem sX12_goesIn   (x : ab_X) (K : Int32 → ab_X → Prop) (d bc bs : Nat) (hdp : 1 ≤ d) (h : wX12_goesIn  x K) : EW MX12_goesIn 0 [(0, .ref 246)] [] (aS x) d bc bs (liI K) := by
  unfold wX12_goesIn at h
  refine EW_aload_n (pc2 := 1) rfl dX12_goesIn_0 0 rfl ?_
  refine AW_geti ⟨gfRX12_435, rfl⟩ (pc2 := 4) rfl dX12_goesIn_1 q246 ?_
  refine EW_bipush (pc2 := 6) (v := 8) rfl dX12_goesIn_4 (by decide) ?_
  refine EW_icmp_ne (tgt := 14) (pc2 := 9) rfl dX12_goesIn_6 (by decide) (fun q => ?_) (fun q => ?_)
  · replace h := h.1 q
    refine EW_aload_n (pc2 := 15) rfl dX12_goesIn_14 0 rfl ?_
    refine EW_dup (pc2 := 16) rfl dX12_goesIn_15 rfl ?_
    refine AW_geti ⟨gfRX12_435, rfl⟩ (pc2 := 19) rfl dX12_goesIn_16 q246 ?_
    refine EW_iconst (pc2 := 20) (v := 1) rfl dX12_goesIn_19 (by decide) ?_
    refine EW_iadd (pc2 := 21) rfl dX12_goesIn_20 ?_
    refine AW_puti ⟨gfRX12_435, rfl, rfl⟩ (pc2 := 24) rfl dX12_goesIn_21 q246 ?_
    refine EW_aload_n (pc2 := 25) rfl dX12_goesIn_24 0 rfl ?_
    refine EW_dup (pc2 := 26) rfl dX12_goesIn_25 rfl ?_
    refine AW_geti ⟨gfRX12_423, rfl⟩ (pc2 := 29) rfl dX12_goesIn_26 q246 ?_
    refine EW_iconst (pc2 := 30) (v := 1) rfl dX12_goesIn_29 (by decide) ?_
    refine EW_iadd (pc2 := 31) rfl dX12_goesIn_30 ?_
    refine AW_puti ⟨gfRX12_423, rfl, rfl⟩ (pc2 := 34) rfl dX12_goesIn_31 q246 ?_
    refine EW_iconst (pc2 := 35) (v := 1) rfl dX12_goesIn_34 (by decide) ?_
    exact AW_zret rfl isB1 dX12_goesIn_35 ⟨_, _, rfl, rfl, h⟩
  · replace h := h.2 q
    refine EW_aload_n (pc2 := 10) rfl dX12_goesIn_9 0 rfl ?_
    refine AW_invV (M' := MX12_stop) [] (rest := []) mlRX12_438 okX12_stop (pc2 := 13) rfl dX12_goesIn_10 rfl rfl (Nat.le_of_ble_eq_true rfl) (Nat.le_of_ble_eq_true rfl) (d' := 0) (by omega) q246 ⟨by decide, rfl⟩ (EW_mono (fun _ _ hr => ?_) (sX12_stop   x _ _ 0 0 (Nat.le_refl _) h))
    obtain ⟨r1, x2, rfl, rfl, h⟩ := hr
    obtain ⟨z3, h⟩ := h
    exact AW_zret rfl z3 dX12_goesIn_13 ⟨_, _, rfl, rfl, h⟩
theorem cnRX12_449 : Cond.constantLong RX12 449 (-1000000) ∈ ab_G := ab_in 2467 (by decide +kernel) (by decide +kernel)
theorem cnRX12_451 : Cond.constantLong RX12 451 1000000 ∈ ab_G := ab_in 2468 (by decide +kernel) (by decide +kernel)
theorem mmRX12_453 : Cond.methodLink RX12 453 Lib.MathLoose.min_long.x ∈ ab_G ∧ Cond.static Lib.MathLoose.min_long.x ∈ ab_G ∧ Cond.initialized "java/lang/Math" ∈ ab_G ∧ Cond.code Lib.MathLoose.min_long.x Lib.MathLoose.min_long.code 4 (some .long) ∈ ab_G := ⟨ab_in 2469 (by decide +kernel) (by decide +kernel), ab_in 1110 (by decide +kernel) (by decide +kernel), ab_in 100 (by decide +kernel) (by decide +kernel), ab_in 1111 (by decide +kernel) (by decide +kernel)⟩
theorem mmRX12_456 : Cond.methodLink RX12 456 Lib.MathLoose.max_long.x ∈ ab_G ∧ Cond.static Lib.MathLoose.max_long.x ∈ ab_G ∧ Cond.initialized "java/lang/Math" ∈ ab_G ∧ Cond.code Lib.MathLoose.max_long.x Lib.MathLoose.max_long.code 4 (some .long) ∈ ab_G := ⟨ab_in 2470 (by decide +kernel) (by decide +kernel), ab_in 1113 (by decide +kernel) (by decide +kernel), ab_in 100 (by decide +kernel) (by decide +kernel), ab_in 1114 (by decide +kernel) (by decide +kernel)⟩
abbrev MX12_bound : ab_M := (yX12_bound, cX12_bound, 2, (some .int))
theorem dX12_bound_0 : decode cX12_bound 0 = .ok (.ldc2_w 449, 3) := by decide +kernel
theorem dX12_bound_3 : decode cX12_bound 3 = .ok (.ldc2_w 451, 3) := by decide +kernel
theorem dX12_bound_6 : decode cX12_bound 6 = .ok (.lload_n 0, 1) := by decide +kernel
theorem dX12_bound_7 : decode cX12_bound 7 = .ok (.invokestatic 453, 3) := by decide +kernel
theorem dX12_bound_10 : decode cX12_bound 10 = .ok (.invokestatic 456, 3) := by decide +kernel
theorem dX12_bound_13 : decode cX12_bound 13 = .ok (.l2i, 1) := by decide +kernel
theorem dX12_bound_14 : decode cX12_bound 14 = .ok (.ireturn, 1) := by decide +kernel
theorem okX12_bound : ab_okM MX12_bound 1 := ⟨by decide, ⟨by decide, by decide⟩, ab_in 2466 (by decide +kernel) (by decide +kernel), ab_in 99 (by decide +kernel) (by decide +kernel), by decide +kernel, by decide⟩
set_option maxHeartbeats 4000000 in
set_option maxRecDepth 100000 in
def wX12_bound (v0 : Int64) (x : ab_X) (K : Int32 → Prop) : Prop := K (Int64.toInt32 (lmax (-1000000) (lmin 1000000 v0)))
set_option maxHeartbeats 4000000 in
set_option maxRecDepth 100000 in
theorem sX12_bound (v0 : Int64)  (x : ab_X) (K : Int32 → Prop) (d bc bs : Nat) (hdp : 1 ≤ d) (h : wX12_bound v0 x K) : EW MX12_bound 0 [(0, .long v0)] [] (aS x) d bc bs (liP x K) := by
  unfold wX12_bound at h
  refine EW_ldc2 cnRX12_449 (pc2 := 3) rfl dX12_bound_0 ?_
  refine EW_ldc2 cnRX12_451 (pc2 := 6) rfl dX12_bound_3 ?_
  refine EW_lload_n (pc2 := 7) rfl dX12_bound_6 0 rfl ?_
  refine AW_mminl mmRX12_453 (pc2 := 10) rfl dX12_bound_7 (Nat.le_of_ble_eq_true rfl) (by omega) ?_
  refine AW_mmaxl mmRX12_456 (pc2 := 13) rfl dX12_bound_10 (Nat.le_of_ble_eq_true rfl) (by omega) ?_
  refine EW_l2i (pc2 := 14) (v := (Int64.toInt32 (lmax (-1000000) (lmin 1000000 v0)))) rfl dX12_bound_13 rfl ?_
  exact AW_iret rfl dX12_bound_14 ⟨_, rfl, rfl, h⟩
abbrev MX12_isDigit : ab_M := (yX12_isDigit, cX12_isDigit, 1, (some .boolean))
theorem dX12_isDigit_0 : decode cX12_isDigit 0 = .ok (.aload_n 0, 1) := by decide +kernel
theorem dX12_isDigit_1 : decode cX12_isDigit 1 = .ok (.getfield 423, 3) := by decide +kernel
theorem dX12_isDigit_4 : decode cX12_isDigit 4 = .ok (.aload_n 0, 1) := by decide +kernel
theorem dX12_isDigit_5 : decode cX12_isDigit 5 = .ok (.getfield 426, 3) := by decide +kernel
theorem dX12_isDigit_8 : decode cX12_isDigit 8 = .ok (.if_icmp .ge 45, 3) := by decide +kernel
theorem dX12_isDigit_11 : decode cX12_isDigit 11 = .ok (.aload_n 0, 1) := by decide +kernel
theorem dX12_isDigit_12 : decode cX12_isDigit 12 = .ok (.getfield 205, 3) := by decide +kernel
theorem dX12_isDigit_15 : decode cX12_isDigit 15 = .ok (.aload_n 0, 1) := by decide +kernel
theorem dX12_isDigit_16 : decode cX12_isDigit 16 = .ok (.getfield 429, 3) := by decide +kernel
theorem dX12_isDigit_19 : decode cX12_isDigit 19 = .ok (.aload_n 0, 1) := by decide +kernel
theorem dX12_isDigit_20 : decode cX12_isDigit 20 = .ok (.getfield 423, 3) := by decide +kernel
theorem dX12_isDigit_23 : decode cX12_isDigit 23 = .ok (.iadd, 1) := by decide +kernel
theorem dX12_isDigit_24 : decode cX12_isDigit 24 = .ok (.baload, 1) := by decide +kernel
theorem dX12_isDigit_25 : decode cX12_isDigit 25 = .ok (.bipush 48, 2) := by decide +kernel
theorem dX12_isDigit_27 : decode cX12_isDigit 27 = .ok (.if_icmp .lt 26, 3) := by decide +kernel
theorem dX12_isDigit_30 : decode cX12_isDigit 30 = .ok (.aload_n 0, 1) := by decide +kernel
theorem dX12_isDigit_31 : decode cX12_isDigit 31 = .ok (.getfield 205, 3) := by decide +kernel
theorem dX12_isDigit_34 : decode cX12_isDigit 34 = .ok (.aload_n 0, 1) := by decide +kernel
theorem dX12_isDigit_35 : decode cX12_isDigit 35 = .ok (.getfield 429, 3) := by decide +kernel
theorem dX12_isDigit_38 : decode cX12_isDigit 38 = .ok (.aload_n 0, 1) := by decide +kernel
theorem dX12_isDigit_39 : decode cX12_isDigit 39 = .ok (.getfield 423, 3) := by decide +kernel
theorem dX12_isDigit_42 : decode cX12_isDigit 42 = .ok (.iadd, 1) := by decide +kernel
theorem dX12_isDigit_43 : decode cX12_isDigit 43 = .ok (.baload, 1) := by decide +kernel
theorem dX12_isDigit_44 : decode cX12_isDigit 44 = .ok (.bipush 57, 2) := by decide +kernel
theorem dX12_isDigit_46 : decode cX12_isDigit 46 = .ok (.if_icmp .gt 7, 3) := by decide +kernel
theorem dX12_isDigit_49 : decode cX12_isDigit 49 = .ok (.iconst 1, 1) := by decide +kernel
theorem dX12_isDigit_50 : decode cX12_isDigit 50 = .ok (.goto 4, 3) := by decide +kernel
theorem dX12_isDigit_53 : decode cX12_isDigit 53 = .ok (.iconst 0, 1) := by decide +kernel
theorem dX12_isDigit_54 : decode cX12_isDigit 54 = .ok (.ireturn, 1) := by decide +kernel
theorem okX12_isDigit : ab_okM MX12_isDigit 0 := ⟨by decide, ⟨by decide, by decide⟩, ab_in 2463 (by decide +kernel) (by decide +kernel), ab_in 99 (by decide +kernel) (by decide +kernel), by decide +kernel, by decide⟩
set_option maxHeartbeats 4000000 in
set_option maxRecDepth 100000 in
def wX12_isDigit  (x : ab_X) (K : Int32 → Prop) : Prop := (((x.1 246 79) ≤ (x.1 246 80) → K 0) ∧ (¬ (x.1 246 79) ≤ (x.1 246 80) → ((∃ n, isBA x.2.2.2.2.1 n ∧ vp_in ((x.1 246 78) + (x.1 246 80)) n) ∧ (((x.1 x.2.2.2.2.1 (Int32.toNatClampNeg ((x.1 246 78) + (x.1 246 80)))) < 48 → K 0) ∧ (¬ (x.1 x.2.2.2.2.1 (Int32.toNatClampNeg ((x.1 246 78) + (x.1 246 80)))) < 48 → ((∃ n, isBA x.2.2.2.2.1 n ∧ vp_in ((x.1 246 78) + (x.1 246 80)) n) ∧ ((57 < (x.1 x.2.2.2.2.1 (Int32.toNatClampNeg ((x.1 246 78) + (x.1 246 80)))) → K 0) ∧ (¬ 57 < (x.1 x.2.2.2.2.1 (Int32.toNatClampNeg ((x.1 246 78) + (x.1 246 80)))) → K 1))))))))
set_option maxHeartbeats 4000000 in
set_option maxRecDepth 100000 in
theorem sX12_isDigit   (x : ab_X) (K : Int32 → Prop) (d bc bs : Nat) (hdp : 0 ≤ d) (h : wX12_isDigit  x K) : EW MX12_isDigit 0 [(0, .ref 246)] [] (aS x) d bc bs (liP x K) := by
  unfold wX12_isDigit at h
  refine EW_aload_n (pc2 := 1) rfl dX12_isDigit_0 0 rfl ?_
  refine AW_geti ⟨gfRX12_423, rfl⟩ (pc2 := 4) rfl dX12_isDigit_1 q246 ?_
  refine EW_aload_n (pc2 := 5) rfl dX12_isDigit_4 0 rfl ?_
  refine AW_geti ⟨gfRX12_426, rfl⟩ (pc2 := 8) rfl dX12_isDigit_5 q246 ?_
  refine EW_icmp_ge (tgt := 53) (pc2 := 11) rfl dX12_isDigit_8 (by decide) (fun q => ?_) (fun q => ?_)
  · replace h := h.1 q
    refine EW_iconst (pc2 := 54) (v := 0) rfl dX12_isDigit_53 (by decide) ?_
    exact AW_zret rfl isB0 dX12_isDigit_54 ⟨_, rfl, rfl, h⟩
  · replace h := h.2 q
    refine EW_aload_n (pc2 := 12) rfl dX12_isDigit_11 0 rfl ?_
    refine AW_getr (r := x.2.2.2.2.1) ⟨gfRX12_205, rfl⟩ (pc2 := 15) rfl dX12_isDigit_12 q246 rfl ?_
    refine EW_aload_n (pc2 := 16) rfl dX12_isDigit_15 0 rfl ?_
    refine AW_geti ⟨gfRX12_429, rfl⟩ (pc2 := 19) rfl dX12_isDigit_16 q246 ?_
    refine EW_aload_n (pc2 := 20) rfl dX12_isDigit_19 0 rfl ?_
    refine AW_geti ⟨gfRX12_423, rfl⟩ (pc2 := 23) rfl dX12_isDigit_20 q246 ?_
    refine EW_iadd (pc2 := 24) rfl dX12_isDigit_23 ?_
    obtain ⟨⟨nb1, hb1, b1⟩, h⟩ := h
    refine AW_bald (pc2 := 25) rfl dX12_isDigit_24 hb1 b1 ?_
    refine EW_bipush (pc2 := 27) (v := 48) rfl dX12_isDigit_25 (by decide) ?_
    refine EW_icmp_lt (tgt := 53) (pc2 := 30) rfl dX12_isDigit_27 (by decide) (fun q => ?_) (fun q => ?_)
    · replace h := h.1 q
      refine EW_iconst (pc2 := 54) (v := 0) rfl dX12_isDigit_53 (by decide) ?_
      exact AW_zret rfl isB0 dX12_isDigit_54 ⟨_, rfl, rfl, h⟩
    · replace h := h.2 q
      refine EW_aload_n (pc2 := 31) rfl dX12_isDigit_30 0 rfl ?_
      refine AW_getr (r := x.2.2.2.2.1) ⟨gfRX12_205, rfl⟩ (pc2 := 34) rfl dX12_isDigit_31 q246 rfl ?_
      refine EW_aload_n (pc2 := 35) rfl dX12_isDigit_34 0 rfl ?_
      refine AW_geti ⟨gfRX12_429, rfl⟩ (pc2 := 38) rfl dX12_isDigit_35 q246 ?_
      refine EW_aload_n (pc2 := 39) rfl dX12_isDigit_38 0 rfl ?_
      refine AW_geti ⟨gfRX12_423, rfl⟩ (pc2 := 42) rfl dX12_isDigit_39 q246 ?_
      refine EW_iadd (pc2 := 43) rfl dX12_isDigit_42 ?_
      obtain ⟨⟨nb2, hb2, b2⟩, h⟩ := h
      refine AW_bald (pc2 := 44) rfl dX12_isDigit_43 hb2 b2 ?_
      refine EW_bipush (pc2 := 46) (v := 57) rfl dX12_isDigit_44 (by decide) ?_
      refine EW_icmp_gt (tgt := 53) (pc2 := 49) rfl dX12_isDigit_46 (by decide) (fun q => ?_) (fun q => ?_)
      · replace h := h.1 q
        refine EW_iconst (pc2 := 54) (v := 0) rfl dX12_isDigit_53 (by decide) ?_
        exact AW_zret rfl isB0 dX12_isDigit_54 ⟨_, rfl, rfl, h⟩
      · replace h := h.2 q
        refine EW_iconst (pc2 := 50) (v := 1) rfl dX12_isDigit_49 (by decide) ?_
        refine EW_goto (tgt := 54) dX12_isDigit_50 (by decide) ?_
        exact AW_zret rfl isB1 dX12_isDigit_54 ⟨_, rfl, rfl, h⟩
theorem mlRX12_446 : Cond.methodLink RX12 446 yX12_isDigit ∈ ab_G ∧ Cond.instanceMethod yX12_isDigit ∈ ab_G ∧ Cond.selects RX12 yX12_isDigit yX12_isDigit ∈ ab_G := ⟨ab_in 2460 (by decide +kernel) (by decide +kernel), ab_in 2462 (by decide +kernel) (by decide +kernel), ab_in 47 (by decide +kernel) (by decide +kernel)⟩
theorem mlRX12_442 : Cond.methodLink RX12 442 yX12_look ∈ ab_G ∧ Cond.instanceMethod yX12_look ∈ ab_G ∧ Cond.selects RX12 yX12_look yX12_look ∈ ab_G := ⟨ab_in 2427 (by decide +kernel) (by decide +kernel), ab_in 2429 (by decide +kernel) (by decide +kernel), ab_in 39 (by decide +kernel) (by decide +kernel)⟩
abbrev MX12_number : ab_M := (yX12_number, cX12_number, 5, (some .int))
theorem dX12_number_0 : decode cX12_number 0 = .ok (.aload_n 0, 1) := by decide +kernel
theorem dX12_number_1 : decode cX12_number 1 = .ok (.invokevirtual 442, 3) := by decide +kernel
theorem dX12_number_4 : decode cX12_number 4 = .ok (.istore_n 2, 1) := by decide +kernel
theorem dX12_number_5 : decode cX12_number 5 = .ok (.iconst 0, 1) := by decide +kernel
theorem dX12_number_6 : decode cX12_number 6 = .ok (.istore_n 3, 1) := by decide +kernel
theorem dX12_number_7 : decode cX12_number 7 = .ok (.aload_n 0, 1) := by decide +kernel
theorem dX12_number_8 : decode cX12_number 8 = .ok (.invokevirtual 446, 3) := by decide +kernel
theorem dX12_number_11 : decode cX12_number 11 = .ok (.ifCond .ne 8, 3) := by decide +kernel
theorem dX12_number_14 : decode cX12_number 14 = .ok (.aload_n 0, 1) := by decide +kernel
theorem dX12_number_15 : decode cX12_number 15 = .ok (.invokevirtual 438, 3) := by decide +kernel
theorem dX12_number_18 : decode cX12_number 18 = .ok (.pop, 1) := by decide +kernel
theorem dX12_number_19 : decode cX12_number 19 = .ok (.iconst 0, 1) := by decide +kernel
theorem dX12_number_20 : decode cX12_number 20 = .ok (.istore 4, 2) := by decide +kernel
theorem dX12_number_22 : decode cX12_number 22 = .ok (.aload_n 0, 1) := by decide +kernel
theorem dX12_number_23 : decode cX12_number 23 = .ok (.invokevirtual 446, 3) := by decide +kernel
theorem dX12_number_26 : decode cX12_number 26 = .ok (.ifCond .eq 63, 3) := by decide +kernel
theorem dX12_number_29 : decode cX12_number 29 = .ok (.aload_n 0, 1) := by decide +kernel
theorem dX12_number_30 : decode cX12_number 30 = .ok (.getfield 432, 3) := by decide +kernel
theorem dX12_number_33 : decode cX12_number 33 = .ok (.iconst (-1), 1) := by decide +kernel
theorem dX12_number_34 : decode cX12_number 34 = .ok (.if_icmp .ne 55, 3) := by decide +kernel
theorem dX12_number_37 : decode cX12_number 37 = .ok (.iload 4, 2) := by decide +kernel
theorem dX12_number_39 : decode cX12_number 39 = .ok (.iload_n 1, 1) := by decide +kernel
theorem dX12_number_40 : decode cX12_number 40 = .ok (.if_icmp .ne 10, 3) := by decide +kernel
theorem dX12_number_43 : decode cX12_number 43 = .ok (.aload_n 0, 1) := by decide +kernel
theorem dX12_number_44 : decode cX12_number 44 = .ok (.invokevirtual 438, 3) := by decide +kernel
theorem dX12_number_47 : decode cX12_number 47 = .ok (.pop, 1) := by decide +kernel
theorem dX12_number_48 : decode cX12_number 48 = .ok (.iconst 0, 1) := by decide +kernel
theorem dX12_number_49 : decode cX12_number 49 = .ok (.ireturn, 1) := by decide +kernel
theorem dX12_number_50 : decode cX12_number 50 = .ok (.bipush 10, 2) := by decide +kernel
theorem dX12_number_52 : decode cX12_number 52 = .ok (.iload_n 3, 1) := by decide +kernel
theorem dX12_number_53 : decode cX12_number 53 = .ok (.imul, 1) := by decide +kernel
theorem dX12_number_54 : decode cX12_number 54 = .ok (.aload_n 0, 1) := by decide +kernel
theorem dX12_number_55 : decode cX12_number 55 = .ok (.getfield 205, 3) := by decide +kernel
theorem dX12_number_58 : decode cX12_number 58 = .ok (.aload_n 0, 1) := by decide +kernel
theorem dX12_number_59 : decode cX12_number 59 = .ok (.getfield 429, 3) := by decide +kernel
theorem dX12_number_62 : decode cX12_number 62 = .ok (.aload_n 0, 1) := by decide +kernel
theorem dX12_number_63 : decode cX12_number 63 = .ok (.getfield 423, 3) := by decide +kernel
theorem dX12_number_66 : decode cX12_number 66 = .ok (.iadd, 1) := by decide +kernel
theorem dX12_number_67 : decode cX12_number 67 = .ok (.baload, 1) := by decide +kernel
theorem dX12_number_68 : decode cX12_number 68 = .ok (.iadd, 1) := by decide +kernel
theorem dX12_number_69 : decode cX12_number 69 = .ok (.bipush 48, 2) := by decide +kernel
theorem dX12_number_71 : decode cX12_number 71 = .ok (.isub, 1) := by decide +kernel
theorem dX12_number_72 : decode cX12_number 72 = .ok (.istore_n 3, 1) := by decide +kernel
theorem dX12_number_73 : decode cX12_number 73 = .ok (.aload_n 0, 1) := by decide +kernel
theorem dX12_number_74 : decode cX12_number 74 = .ok (.dup, 1) := by decide +kernel
theorem dX12_number_75 : decode cX12_number 75 = .ok (.getfield 423, 3) := by decide +kernel
theorem dX12_number_78 : decode cX12_number 78 = .ok (.iconst 1, 1) := by decide +kernel
theorem dX12_number_79 : decode cX12_number 79 = .ok (.iadd, 1) := by decide +kernel
theorem dX12_number_80 : decode cX12_number 80 = .ok (.putfield 423, 3) := by decide +kernel
theorem dX12_number_83 : decode cX12_number 83 = .ok (.iinc 4 1, 3) := by decide +kernel
theorem dX12_number_86 : decode cX12_number 86 = .ok (.goto (-64), 3) := by decide +kernel
theorem dX12_number_89 : decode cX12_number 89 = .ok (.iload_n 3, 1) := by decide +kernel
theorem dX12_number_90 : decode cX12_number 90 = .ok (.ireturn, 1) := by decide +kernel
theorem okX12_number : ab_okM MX12_number 1 := ⟨by decide, ⟨by decide, by decide⟩, ab_in 2459 (by decide +kernel) (by decide +kernel), ab_in 99 (by decide +kernel) (by decide +kernel), by decide +kernel, by decide⟩
set_option maxHeartbeats 4000000 in
set_option maxRecDepth 100000 in
def lX12_number_22 (v1 : Int32) (K : Int32 → ab_X → Prop)  (L22 : Int32 → Int32 → ab_X → Prop) (v3 : Int32) (v4 : Int32) (x : ab_X) : Prop := wX12_isDigit x (fun r6 => ((r6 = 0 → K v3 x) ∧ (¬ r6 = 0 → ((¬ (x.1 246 81) = (-1) → K v3 x) ∧ ((x.1 246 81) = (-1) → ((¬ v4 = v1 → ((∃ n, isBA x.2.2.2.2.1 n ∧ vp_in ((x.1 246 78) + (x.1 246 80)) n) ∧ L22 (((10 * v3) + (x.1 x.2.2.2.2.1 (Int32.toNatClampNeg ((x.1 246 78) + (x.1 246 80))))) - 48) (v4 + 1) (wr x 246 80 ((x.1 246 80) + 1)))) ∧ (v4 = v1 → wX12_stop x (fun r8 x9 => K 0 x9))))))))
set_option maxHeartbeats 4000000 in
set_option maxRecDepth 100000 in
theorem sX12_number_22 (v1 : Int32) (v3 : Int32) (v4 : Int32)  (x : ab_X) (K : Int32 → ab_X → Prop)  (d bc bs : Nat) (hdp : 1 ≤ d)  (h : Lp3 (lX12_number_22 v1 K ) v3 v4 x) : EW MX12_number 22 [(0, .ref 246), (1, .int v1), (3, .int v3), (4, .int v4)] [] (aS x) d bc bs (liI K) := by
  refine Lp3.use (P := fun v3 v4 x => EW MX12_number 22 [(0, .ref 246), (1, .int v1), (3, .int v3), (4, .int v4)] [] (aS x) d bc bs (liI K)) (fun L22 v3 v4 x hL22 h => ?_) v3 v4 x h
  unfold lX12_number_22 at h
  refine EW_aload_n (pc2 := 23) rfl dX12_number_22 0 rfl ?_
  refine AW_invV (M' := MX12_isDigit) [] (rest := []) mlRX12_446 okX12_isDigit (pc2 := 26) rfl dX12_number_23 rfl rfl (Nat.le_of_ble_eq_true rfl) (Nat.le_of_ble_eq_true rfl) (d' := 0) (by omega) q246 ⟨by decide, rfl⟩ (EW_mono (fun _ _ hr => ?_) (sX12_isDigit   x _ _ 0 0 (Nat.le_refl _) h))
  obtain ⟨r6, rfl, rfl, h⟩ := hr
  refine EW_if_eq (tgt := 89) (pc2 := 29) rfl dX12_number_26 (by decide) (fun q => ?_) (fun q => ?_)
  · replace h := h.1 q
    refine EW_iload_n (pc2 := 90) rfl dX12_number_89 2 rfl ?_
    exact AW_iret rfl dX12_number_90 ⟨_, _, rfl, rfl, h⟩
  · replace h := h.2 q
    refine EW_aload_n (pc2 := 30) rfl dX12_number_29 0 rfl ?_
    refine AW_geti ⟨gfRX12_432, rfl⟩ (pc2 := 33) rfl dX12_number_30 q246 ?_
    refine EW_iconst (pc2 := 34) (v := (-1)) rfl dX12_number_33 (by decide) ?_
    refine EW_icmp_ne (tgt := 89) (pc2 := 37) rfl dX12_number_34 (by decide) (fun q => ?_) (fun q => ?_)
    · replace h := h.1 q
      refine EW_iload_n (pc2 := 90) rfl dX12_number_89 2 rfl ?_
      exact AW_iret rfl dX12_number_90 ⟨_, _, rfl, rfl, h⟩
    · replace h := h.2 q
      refine EW_iload (pc2 := 39) rfl dX12_number_37 3 rfl ?_
      refine EW_iload_n (pc2 := 40) rfl dX12_number_39 1 rfl ?_
      refine EW_icmp_ne (tgt := 50) (pc2 := 43) rfl dX12_number_40 (by decide) (fun q => ?_) (fun q => ?_)
      · replace h := h.1 q
        refine EW_bipush (pc2 := 52) (v := 10) rfl dX12_number_50 (by decide) ?_
        refine EW_iload_n (pc2 := 53) rfl dX12_number_52 2 rfl ?_
        refine EW_imul (pc2 := 54) rfl dX12_number_53 ?_
        refine EW_aload_n (pc2 := 55) rfl dX12_number_54 0 rfl ?_
        refine AW_getr (r := x.2.2.2.2.1) ⟨gfRX12_205, rfl⟩ (pc2 := 58) rfl dX12_number_55 q246 rfl ?_
        refine EW_aload_n (pc2 := 59) rfl dX12_number_58 0 rfl ?_
        refine AW_geti ⟨gfRX12_429, rfl⟩ (pc2 := 62) rfl dX12_number_59 q246 ?_
        refine EW_aload_n (pc2 := 63) rfl dX12_number_62 0 rfl ?_
        refine AW_geti ⟨gfRX12_423, rfl⟩ (pc2 := 66) rfl dX12_number_63 q246 ?_
        refine EW_iadd (pc2 := 67) rfl dX12_number_66 ?_
        obtain ⟨⟨nb7, hb7, b7⟩, h⟩ := h
        refine AW_bald (pc2 := 68) rfl dX12_number_67 hb7 b7 ?_
        refine EW_iadd (pc2 := 69) rfl dX12_number_68 ?_
        refine EW_bipush (pc2 := 71) (v := 48) rfl dX12_number_69 (by decide) ?_
        refine EW_isub (pc2 := 72) rfl dX12_number_71 ?_
        refine EW_istore_n (pc2 := 73) rfl dX12_number_72 (by decide) [1, 2, 0, 3] [(0, .ref 246), (1, .int v1), (3, .int (((10 * v3) + (x.1 x.2.2.2.2.1 (Int32.toNatClampNeg ((x.1 246 78) + (x.1 246 80))))) - 48)), (4, .int v4)] rfl ?_
        refine EW_aload_n (pc2 := 74) rfl dX12_number_73 0 rfl ?_
        refine EW_dup (pc2 := 75) rfl dX12_number_74 rfl ?_
        refine AW_geti ⟨gfRX12_423, rfl⟩ (pc2 := 78) rfl dX12_number_75 q246 ?_
        refine EW_iconst (pc2 := 79) (v := 1) rfl dX12_number_78 (by decide) ?_
        refine EW_iadd (pc2 := 80) rfl dX12_number_79 ?_
        refine AW_puti ⟨gfRX12_423, rfl, rfl⟩ (pc2 := 83) rfl dX12_number_80 q246 ?_
        refine EW_iinc (v4 + 1) (pc2 := 86) rfl dX12_number_83 3 rfl rfl (by decide) [1, 2, 3, 0] [(0, .ref 246), (1, .int v1), (3, .int (((10 * v3) + (x.1 x.2.2.2.2.1 (Int32.toNatClampNeg ((x.1 246 78) + (x.1 246 80))))) - 48)), (4, .int (v4 + 1))] rfl ?_
        refine EW_goto (tgt := 22) dX12_number_86 (by decide) ?_
        exact hL22 (((10 * v3) + (x.1 x.2.2.2.2.1 (Int32.toNatClampNeg ((x.1 246 78) + (x.1 246 80))))) - 48) (v4 + 1) (wr x 246 80 ((x.1 246 80) + 1)) h
      · replace h := h.2 q
        refine EW_aload_n (pc2 := 44) rfl dX12_number_43 0 rfl ?_
        refine AW_invV (M' := MX12_stop) [] (rest := []) mlRX12_438 okX12_stop (pc2 := 47) rfl dX12_number_44 rfl rfl (Nat.le_of_ble_eq_true rfl) (Nat.le_of_ble_eq_true rfl) (d' := 0) (by omega) q246 ⟨by decide, rfl⟩ (EW_mono (fun _ _ hr => ?_) (sX12_stop   x _ _ 0 0 (Nat.le_refl _) h))
        obtain ⟨r8, x9, rfl, rfl, h⟩ := hr
        refine EW_pop (pc2 := 48) rfl dX12_number_47 rfl ?_
        refine EW_iconst (pc2 := 49) (v := 0) rfl dX12_number_48 (by decide) ?_
        exact AW_iret rfl dX12_number_49 ⟨_, _, rfl, rfl, h⟩
set_option maxHeartbeats 4000000 in
set_option maxRecDepth 100000 in
def wX12_number (v1 : Int32) (x : ab_X) (K : Int32 → ab_X → Prop) : Prop := wX12_look x (fun r1 x2 => wX12_isDigit x2 (fun r3 => ((¬ r3 = 0 → Lp3 (lX12_number_22 v1 K ) 0 0 x2) ∧ (r3 = 0 → wX12_stop x2 (fun r4 x5 => Lp3 (lX12_number_22 v1 K ) 0 0 x5)))))
set_option maxHeartbeats 4000000 in
set_option maxRecDepth 100000 in
theorem sX12_number (v1 : Int32)  (x : ab_X) (K : Int32 → ab_X → Prop) (d bc bs : Nat) (hdp : 1 ≤ d) (h : wX12_number v1 x K) : EW MX12_number 0 [(0, .ref 246), (1, .int v1)] [] (aS x) d bc bs (liI K) := by
  unfold wX12_number at h
  refine EW_aload_n (pc2 := 1) rfl dX12_number_0 0 rfl ?_
  refine AW_invV (M' := MX12_look) [] (rest := []) mlRX12_442 okX12_look (pc2 := 4) rfl dX12_number_1 rfl rfl (Nat.le_of_ble_eq_true rfl) (Nat.le_of_ble_eq_true rfl) (d' := 0) (by omega) q246 ⟨by decide, rfl⟩ (EW_mono (fun _ _ hr => ?_) (sX12_look   x _ _ 0 0 (Nat.le_refl _) h))
  obtain ⟨r1, x2, rfl, rfl, h⟩ := hr
  refine EW_istore_n (pc2 := 5) rfl dX12_number_4 (by decide) [1, 2, 0] [(0, .ref 246), (1, .int v1), (2, .int r1)] rfl ?_
  refine EW_iconst (pc2 := 6) (v := 0) rfl dX12_number_5 (by decide) ?_
  refine EW_istore_n (pc2 := 7) rfl dX12_number_6 (by decide) [1, 2, 3, 0] [(0, .ref 246), (1, .int v1), (2, .int r1), (3, .int 0)] rfl ?_
  refine EW_aload_n (pc2 := 8) rfl dX12_number_7 0 rfl ?_
  refine AW_invV (M' := MX12_isDigit) [] (rest := []) mlRX12_446 okX12_isDigit (pc2 := 11) rfl dX12_number_8 rfl rfl (Nat.le_of_ble_eq_true rfl) (Nat.le_of_ble_eq_true rfl) (d' := 0) (by omega) q246 ⟨by decide, rfl⟩ (EW_mono (fun _ _ hr => ?_) (sX12_isDigit   x2 _ _ 0 0 (Nat.le_refl _) h))
  obtain ⟨r3, rfl, rfl, h⟩ := hr
  refine EW_if_ne (tgt := 19) (pc2 := 14) rfl dX12_number_11 (by decide) (fun q => ?_) (fun q => ?_)
  · replace h := h.1 q
    refine EW_iconst (pc2 := 20) (v := 0) rfl dX12_number_19 (by decide) ?_
    refine EW_istore (pc2 := 22) rfl dX12_number_20 (by decide) [1, 2, 3, 4, 0] [(0, .ref 246), (1, .int v1), (2, .int r1), (3, .int 0), (4, .int 0)] rfl ?_
    refine EW_ls [0, 1, 3, 4] rfl ?_
    exact sX12_number_22 v1 0 0 x2 K d bc bs hdp h
  · replace h := h.2 q
    refine EW_aload_n (pc2 := 15) rfl dX12_number_14 0 rfl ?_
    refine AW_invV (M' := MX12_stop) [] (rest := []) mlRX12_438 okX12_stop (pc2 := 18) rfl dX12_number_15 rfl rfl (Nat.le_of_ble_eq_true rfl) (Nat.le_of_ble_eq_true rfl) (d' := 0) (by omega) q246 ⟨by decide, rfl⟩ (EW_mono (fun _ _ hr => ?_) (sX12_stop   x2 _ _ 0 0 (Nat.le_refl _) h))
    obtain ⟨r4, x5, rfl, rfl, h⟩ := hr
    refine EW_pop (pc2 := 19) rfl dX12_number_18 rfl ?_
    refine EW_iconst (pc2 := 20) (v := 0) rfl dX12_number_19 (by decide) ?_
    refine EW_istore (pc2 := 22) rfl dX12_number_20 (by decide) [1, 2, 3, 4, 0] [(0, .ref 246), (1, .int v1), (2, .int r1), (3, .int 0), (4, .int 0)] rfl ?_
    refine EW_ls [0, 1, 3, 4] rfl ?_
    exact sX12_number_22 v1 0 0 x5 K d bc bs hdp h
abbrev MX12_takes : ab_M := (yX12_takes, cX12_takes, 2, (some .boolean))
theorem dX12_takes_0 : decode cX12_takes 0 = .ok (.aload_n 0, 1) := by decide +kernel
theorem dX12_takes_1 : decode cX12_takes 1 = .ok (.getfield 432, 3) := by decide +kernel
theorem dX12_takes_4 : decode cX12_takes 4 = .ok (.iconst (-1), 1) := by decide +kernel
theorem dX12_takes_5 : decode cX12_takes 5 = .ok (.if_icmp .ne 11, 3) := by decide +kernel
theorem dX12_takes_8 : decode cX12_takes 8 = .ok (.aload_n 0, 1) := by decide +kernel
theorem dX12_takes_9 : decode cX12_takes 9 = .ok (.invokevirtual 442, 3) := by decide +kernel
theorem dX12_takes_12 : decode cX12_takes 12 = .ok (.iload_n 1, 1) := by decide +kernel
theorem dX12_takes_13 : decode cX12_takes 13 = .ok (.if_icmp .eq 8, 3) := by decide +kernel
theorem dX12_takes_16 : decode cX12_takes 16 = .ok (.aload_n 0, 1) := by decide +kernel
theorem dX12_takes_17 : decode cX12_takes 17 = .ok (.invokevirtual 438, 3) := by decide +kernel
theorem dX12_takes_20 : decode cX12_takes 20 = .ok (.ireturn, 1) := by decide +kernel
theorem dX12_takes_21 : decode cX12_takes 21 = .ok (.aload_n 0, 1) := by decide +kernel
theorem dX12_takes_22 : decode cX12_takes 22 = .ok (.dup, 1) := by decide +kernel
theorem dX12_takes_23 : decode cX12_takes 23 = .ok (.getfield 423, 3) := by decide +kernel
theorem dX12_takes_26 : decode cX12_takes 26 = .ok (.iconst 1, 1) := by decide +kernel
theorem dX12_takes_27 : decode cX12_takes 27 = .ok (.iadd, 1) := by decide +kernel
theorem dX12_takes_28 : decode cX12_takes 28 = .ok (.putfield 423, 3) := by decide +kernel
theorem dX12_takes_31 : decode cX12_takes 31 = .ok (.iconst 1, 1) := by decide +kernel
theorem dX12_takes_32 : decode cX12_takes 32 = .ok (.ireturn, 1) := by decide +kernel
theorem okX12_takes : ab_okM MX12_takes 1 := ⟨by decide, ⟨by decide, by decide⟩, ab_in 2442 (by decide +kernel) (by decide +kernel), ab_in 99 (by decide +kernel) (by decide +kernel), by decide +kernel, by decide⟩
set_option maxHeartbeats 4000000 in
set_option maxRecDepth 100000 in
def wX12_takes_16  (x : ab_X) (K : Int32 → ab_X → Prop)  : Prop := wX12_stop x (fun r3 x4 => (isB r3 ∧ K r3 x4))
set_option maxHeartbeats 4000000 in
set_option maxRecDepth 100000 in
theorem sX12_takes_16   (x : ab_X) (K : Int32 → ab_X → Prop)  (d bc bs : Nat) (hdp : 1 ≤ d)  (h : wX12_takes_16  x K ) : EW MX12_takes 16 [(0, .ref 246)] [] (aS x) d bc bs (liI K) := by
  unfold wX12_takes_16 at h
  refine EW_aload_n (pc2 := 17) rfl dX12_takes_16 0 rfl ?_
  refine AW_invV (M' := MX12_stop) [] (rest := []) mlRX12_438 okX12_stop (pc2 := 20) rfl dX12_takes_17 rfl rfl (Nat.le_of_ble_eq_true rfl) (Nat.le_of_ble_eq_true rfl) (d' := 0) (by omega) q246 ⟨by decide, rfl⟩ (EW_mono (fun _ _ hr => ?_) (sX12_stop   x _ _ 0 0 (Nat.le_refl _) h))
  obtain ⟨r3, x4, rfl, rfl, h⟩ := hr
  obtain ⟨z5, h⟩ := h
  exact AW_zret rfl z5 dX12_takes_20 ⟨_, _, rfl, rfl, h⟩
set_option maxHeartbeats 4000000 in
set_option maxRecDepth 100000 in
def wX12_takes (v1 : Int32) (x : ab_X) (K : Int32 → ab_X → Prop) : Prop := ((¬ (x.1 246 81) = (-1) → wX12_takes_16 x K) ∧ ((x.1 246 81) = (-1) → wX12_look x (fun r1 x2 => ((r1 = v1 → K 1 (wr x2 246 80 ((x2.1 246 80) + 1))) ∧ (¬ r1 = v1 → wX12_takes_16 x2 K)))))
set_option maxHeartbeats 4000000 in
set_option maxRecDepth 100000 in
theorem sX12_takes (v1 : Int32)  (x : ab_X) (K : Int32 → ab_X → Prop) (d bc bs : Nat) (hdp : 1 ≤ d) (h : wX12_takes v1 x K) : EW MX12_takes 0 [(0, .ref 246), (1, .int v1)] [] (aS x) d bc bs (liI K) := by
  unfold wX12_takes at h
  refine EW_aload_n (pc2 := 1) rfl dX12_takes_0 0 rfl ?_
  refine AW_geti ⟨gfRX12_432, rfl⟩ (pc2 := 4) rfl dX12_takes_1 q246 ?_
  refine EW_iconst (pc2 := 5) (v := (-1)) rfl dX12_takes_4 (by decide) ?_
  refine EW_icmp_ne (tgt := 16) (pc2 := 8) rfl dX12_takes_5 (by decide) (fun q => ?_) (fun q => ?_)
  · replace h := h.1 q
    refine EW_ls [0] rfl ?_
    exact sX12_takes_16  x K d bc bs hdp h
  · replace h := h.2 q
    refine EW_aload_n (pc2 := 9) rfl dX12_takes_8 0 rfl ?_
    refine AW_invV (M' := MX12_look) [] (rest := []) mlRX12_442 okX12_look (pc2 := 12) rfl dX12_takes_9 rfl rfl (Nat.le_of_ble_eq_true rfl) (Nat.le_of_ble_eq_true rfl) (d' := 0) (by omega) q246 ⟨by decide, rfl⟩ (EW_mono (fun _ _ hr => ?_) (sX12_look   x _ _ 0 0 (Nat.le_refl _) h))
    obtain ⟨r1, x2, rfl, rfl, h⟩ := hr
    refine EW_iload_n (pc2 := 13) rfl dX12_takes_12 1 rfl ?_
    refine EW_icmp_eq (tgt := 21) (pc2 := 16) rfl dX12_takes_13 (by decide) (fun q => ?_) (fun q => ?_)
    · replace h := h.1 q
      refine EW_aload_n (pc2 := 22) rfl dX12_takes_21 0 rfl ?_
      refine EW_dup (pc2 := 23) rfl dX12_takes_22 rfl ?_
      refine AW_geti ⟨gfRX12_423, rfl⟩ (pc2 := 26) rfl dX12_takes_23 q246 ?_
      refine EW_iconst (pc2 := 27) (v := 1) rfl dX12_takes_26 (by decide) ?_
      refine EW_iadd (pc2 := 28) rfl dX12_takes_27 ?_
      refine AW_puti ⟨gfRX12_423, rfl, rfl⟩ (pc2 := 31) rfl dX12_takes_28 q246 ?_
      refine EW_iconst (pc2 := 32) (v := 1) rfl dX12_takes_31 (by decide) ?_
      exact AW_zret rfl isB1 dX12_takes_32 ⟨_, _, rfl, rfl, h⟩
    · replace h := h.2 q
      refine EW_ls [0] rfl ?_
      exact sX12_takes_16  x2 K d bc bs hdp h
