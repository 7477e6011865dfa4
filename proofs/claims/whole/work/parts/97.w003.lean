theorem gfRX0_39 : ab_L RX0 39 0 10 := ⟨by decide, by decide, ab_in 561 (by decide +kernel) (by decide +kernel)⟩
abbrev MX0_soonest : ab_M := (yX0_soonest, cX0_soonest, 3, (some .int))
theorem dX0_soonest_0 : decode cX0_soonest 0 = .ok (.iconst (-1), 1) := by decide +kernel
theorem dX0_soonest_1 : decode cX0_soonest 1 = .ok (.istore_n 1, 1) := by decide +kernel
theorem dX0_soonest_2 : decode cX0_soonest 2 = .ok (.iconst 0, 1) := by decide +kernel
theorem dX0_soonest_3 : decode cX0_soonest 3 = .ok (.istore_n 2, 1) := by decide +kernel
theorem dX0_soonest_4 : decode cX0_soonest 4 = .ok (.iload_n 2, 1) := by decide +kernel
theorem dX0_soonest_5 : decode cX0_soonest 5 = .ok (.aload_n 0, 1) := by decide +kernel
theorem dX0_soonest_6 : decode cX0_soonest 6 = .ok (.getfield 55, 3) := by decide +kernel
theorem dX0_soonest_9 : decode cX0_soonest 9 = .ok (.if_icmp .ge 41, 3) := by decide +kernel
theorem dX0_soonest_12 : decode cX0_soonest 12 = .ok (.aload_n 0, 1) := by decide +kernel
theorem dX0_soonest_13 : decode cX0_soonest 13 = .ok (.getfield 39, 3) := by decide +kernel
theorem dX0_soonest_16 : decode cX0_soonest 16 = .ok (.iload_n 2, 1) := by decide +kernel
theorem dX0_soonest_17 : decode cX0_soonest 17 = .ok (.iaload, 1) := by decide +kernel
theorem dX0_soonest_18 : decode cX0_soonest 18 = .ok (.iconst (-1), 1) := by decide +kernel
theorem dX0_soonest_19 : decode cX0_soonest 19 = .ok (.if_icmp .eq 25, 3) := by decide +kernel
theorem dX0_soonest_22 : decode cX0_soonest 22 = .ok (.iload_n 1, 1) := by decide +kernel
theorem dX0_soonest_23 : decode cX0_soonest 23 = .ok (.iconst (-1), 1) := by decide +kernel
theorem dX0_soonest_24 : decode cX0_soonest 24 = .ok (.if_icmp .eq 18, 3) := by decide +kernel
theorem dX0_soonest_27 : decode cX0_soonest 27 = .ok (.aload_n 0, 1) := by decide +kernel
theorem dX0_soonest_28 : decode cX0_soonest 28 = .ok (.getfield 39, 3) := by decide +kernel
theorem dX0_soonest_31 : decode cX0_soonest 31 = .ok (.iload_n 2, 1) := by decide +kernel
theorem dX0_soonest_32 : decode cX0_soonest 32 = .ok (.iaload, 1) := by decide +kernel
theorem dX0_soonest_33 : decode cX0_soonest 33 = .ok (.aload_n 0, 1) := by decide +kernel
theorem dX0_soonest_34 : decode cX0_soonest 34 = .ok (.getfield 39, 3) := by decide +kernel
theorem dX0_soonest_37 : decode cX0_soonest 37 = .ok (.iload_n 1, 1) := by decide +kernel
theorem dX0_soonest_38 : decode cX0_soonest 38 = .ok (.iaload, 1) := by decide +kernel
theorem dX0_soonest_39 : decode cX0_soonest 39 = .ok (.if_icmp .ge 5, 3) := by decide +kernel
theorem dX0_soonest_42 : decode cX0_soonest 42 = .ok (.iload_n 2, 1) := by decide +kernel
theorem dX0_soonest_43 : decode cX0_soonest 43 = .ok (.istore_n 1, 1) := by decide +kernel
theorem dX0_soonest_44 : decode cX0_soonest 44 = .ok (.iinc 2 1, 3) := by decide +kernel
theorem dX0_soonest_47 : decode cX0_soonest 47 = .ok (.goto (-43), 3) := by decide +kernel
theorem dX0_soonest_50 : decode cX0_soonest 50 = .ok (.iload_n 1, 1) := by decide +kernel
theorem dX0_soonest_51 : decode cX0_soonest 51 = .ok (.ireturn, 1) := by decide +kernel
theorem okX0_soonest : ab_okM MX0_soonest 0 := ⟨by decide, ⟨by decide, by decide⟩, ab_in 1126 (by decide +kernel) (by decide +kernel), ab_in 92 (by decide +kernel) (by decide +kernel), by decide +kernel, by decide⟩
set_option maxHeartbeats 4000000 in
set_option maxRecDepth 100000 in
theorem sX0_soonest_42 (v2 : Int32)  (x : ab_X) (K : Int32 → Prop) (L4 : Int32 → Int32 → Prop) (d bc bs : Nat) (hdp : 0 ≤ d) (hL4 : ∀ (v1 : Int32) (v2 : Int32), L4 v1 v2 → EW MX0_soonest 4 [(0, .ref 66), (1, .int v1), (2, .int v2)] [] (aS x) d bc bs (liP x K)) (h : wX0_soonest_42 v2 x K L4) : EW MX0_soonest 42 [(0, .ref 66), (2, .int v2)] [] (aS x) d bc bs (liP x K) := by
  unfold wX0_soonest_42 at h
  refine EW_iload_n (pc2 := 43) rfl dX0_soonest_42 1 rfl ?_
  refine EW_istore_n (pc2 := 44) rfl dX0_soonest_43 (by decide) [1, 0, 2] [(0, .ref 66), (1, .int v2), (2, .int v2)] rfl ?_
  refine EW_iinc (v2 + 1) (pc2 := 47) rfl dX0_soonest_44 2 rfl rfl (by decide) [1, 2, 0] [(0, .ref 66), (1, .int v2), (2, .int (v2 + 1))] rfl ?_
  refine EW_goto (tgt := 4) dX0_soonest_47 (by decide) ?_
  exact hL4 v2 (v2 + 1) h
set_option maxHeartbeats 4000000 in
set_option maxRecDepth 100000 in
theorem sX0_soonest_4 (v1 : Int32) (v2 : Int32)  (x : ab_X) (K : Int32 → Prop)  (d bc bs : Nat) (hdp : 0 ≤ d)  (h : Lp2 (lX0_soonest_4  x K ) v1 v2) : EW MX0_soonest 4 [(0, .ref 66), (1, .int v1), (2, .int v2)] [] (aS x) d bc bs (liP x K) := by
  refine Lp2.use (P := fun v1 v2 => EW MX0_soonest 4 [(0, .ref 66), (1, .int v1), (2, .int v2)] [] (aS x) d bc bs (liP x K)) (fun L4 v1 v2 hL4 h => ?_) v1 v2 h
  unfold lX0_soonest_4 at h
  refine EW_iload_n (pc2 := 5) rfl dX0_soonest_4 2 rfl ?_
  refine EW_aload_n (pc2 := 6) rfl dX0_soonest_5 0 rfl ?_
  refine AW_geti ⟨gfRX0_55, rfl⟩ (pc2 := 9) rfl dX0_soonest_6 q66 ?_
  refine EW_icmp_ge (tgt := 50) (pc2 := 12) rfl dX0_soonest_9 (by decide) (fun q => ?_) (fun q => ?_)
  · replace h := h.1 q
    refine EW_iload_n (pc2 := 51) rfl dX0_soonest_50 1 rfl ?_
    exact AW_iret rfl dX0_soonest_51 ⟨_, rfl, rfl, h⟩
  · replace h := h.2 q
    refine EW_aload_n (pc2 := 13) rfl dX0_soonest_12 0 rfl ?_
    refine AW_getr (r := 80) ⟨gfRX0_39, rfl⟩ (pc2 := 16) rfl dX0_soonest_13 q66 rfl ?_
    refine EW_iload_n (pc2 := 17) rfl dX0_soonest_16 2 rfl ?_
    obtain ⟨b1, h⟩ := h
    refine AW_iald (pc2 := 18) rfl dX0_soonest_17 q80 b1 ?_
    refine EW_iconst (pc2 := 19) (v := (-1)) rfl dX0_soonest_18 (by decide) ?_
    refine EW_icmp_eq (tgt := 44) (pc2 := 22) rfl dX0_soonest_19 (by decide) (fun q => ?_) (fun q => ?_)
    · replace h := h.1 q
      refine EW_iinc (v2 + 1) (pc2 := 47) rfl dX0_soonest_44 2 rfl rfl (by decide) [1, 2, 0] [(0, .ref 66), (1, .int v1), (2, .int (v2 + 1))] rfl ?_
      refine EW_goto (tgt := 4) dX0_soonest_47 (by decide) ?_
      exact hL4 v1 (v2 + 1) h
    · replace h := h.2 q
      refine EW_iload_n (pc2 := 23) rfl dX0_soonest_22 1 rfl ?_
      refine EW_iconst (pc2 := 24) (v := (-1)) rfl dX0_soonest_23 (by decide) ?_
      refine EW_icmp_eq (tgt := 42) (pc2 := 27) rfl dX0_soonest_24 (by decide) (fun q => ?_) (fun q => ?_)
      · replace h := h.1 q
        refine EW_ls [0, 2] rfl ?_
        exact sX0_soonest_42 v2 x K L4 d bc bs hdp hL4 h
      · replace h := h.2 q
        refine EW_aload_n (pc2 := 28) rfl dX0_soonest_27 0 rfl ?_
        refine AW_getr (r := 80) ⟨gfRX0_39, rfl⟩ (pc2 := 31) rfl dX0_soonest_28 q66 rfl ?_
        refine EW_iload_n (pc2 := 32) rfl dX0_soonest_31 2 rfl ?_
        obtain ⟨b2, h⟩ := h
        refine AW_iald (pc2 := 33) rfl dX0_soonest_32 q80 b2 ?_
        refine EW_aload_n (pc2 := 34) rfl dX0_soonest_33 0 rfl ?_
        refine AW_getr (r := 80) ⟨gfRX0_39, rfl⟩ (pc2 := 37) rfl dX0_soonest_34 q66 rfl ?_
        refine EW_iload_n (pc2 := 38) rfl dX0_soonest_37 1 rfl ?_
        obtain ⟨b3, h⟩ := h
        refine AW_iald (pc2 := 39) rfl dX0_soonest_38 q80 b3 ?_
        refine EW_icmp_ge (tgt := 44) (pc2 := 42) rfl dX0_soonest_39 (by decide) (fun q => ?_) (fun q => ?_)
        · replace h := h.1 q
          refine EW_iinc (v2 + 1) (pc2 := 47) rfl dX0_soonest_44 2 rfl rfl (by decide) [1, 2, 0] [(0, .ref 66), (1, .int v1), (2, .int (v2 + 1))] rfl ?_
          refine EW_goto (tgt := 4) dX0_soonest_47 (by decide) ?_
          exact hL4 v1 (v2 + 1) h
        · replace h := h.2 q
          refine EW_ls [0, 2] rfl ?_
          exact sX0_soonest_42 v2 x K L4 d bc bs hdp hL4 h
set_option maxHeartbeats 4000000 in
set_option maxRecDepth 100000 in
theorem sX0_soonest   (x : ab_X) (K : Int32 → Prop) (d bc bs : Nat) (hdp : 0 ≤ d) (h : wX0_soonest  x K) : EW MX0_soonest 0 [(0, .ref 66)] [] (aS x) d bc bs (liP x K) := by
  unfold wX0_soonest at h
  refine EW_iconst (pc2 := 1) (v := (-1)) rfl dX0_soonest_0 (by decide) ?_
  refine EW_istore_n (pc2 := 2) rfl dX0_soonest_1 (by decide) [1, 0] [(0, .ref 66), (1, .int (-1))] rfl ?_
  refine EW_iconst (pc2 := 3) (v := 0) rfl dX0_soonest_2 (by decide) ?_
  refine EW_istore_n (pc2 := 4) rfl dX0_soonest_3 (by decide) [1, 2, 0] [(0, .ref 66), (1, .int (-1)), (2, .int 0)] rfl ?_
  exact sX0_soonest_4 (-1) 0 x K d bc bs hdp h
theorem gfRX2_18 : ab_L RX2 18 2 12 := ⟨by decide, by decide, ab_in 440 (by decide +kernel) (by decide +kernel)⟩
theorem gfRX2_21 : ab_L RX2 21 2 13 := ⟨by decide, by decide, ab_in 443 (by decide +kernel) (by decide +kernel)⟩
abbrev MX2_leaveWork : ab_M := (yX2_leaveWork, cX2_leaveWork, 1, none)
theorem dX2_leaveWork_0 : decode cX2_leaveWork 0 = .ok (.aload_n 0, 1) := by decide +kernel
theorem dX2_leaveWork_1 : decode cX2_leaveWork 1 = .ok (.iconst (-1), 1) := by decide +kernel
theorem dX2_leaveWork_2 : decode cX2_leaveWork 2 = .ok (.putfield 18, 3) := by decide +kernel
theorem dX2_leaveWork_5 : decode cX2_leaveWork 5 = .ok (.aload_n 0, 1) := by decide +kernel
theorem dX2_leaveWork_6 : decode cX2_leaveWork 6 = .ok (.iconst (-1), 1) := by decide +kernel
theorem dX2_leaveWork_7 : decode cX2_leaveWork 7 = .ok (.putfield 21, 3) := by decide +kernel
theorem dX2_leaveWork_10 : decode cX2_leaveWork 10 = .ok (.return_, 1) := by decide +kernel
theorem okX2_leaveWork : ab_okM MX2_leaveWork 0 := ⟨by decide, ⟨by decide, by decide⟩, ab_in 1000 (by decide +kernel) (by decide +kernel), ab_in 94 (by decide +kernel) (by decide +kernel), by decide +kernel, by decide⟩
set_option maxHeartbeats 4000000 in
set_option maxRecDepth 100000 in
theorem sX2_leaveWork (v0 : Nat) (hv0 : isW v0) (x : ab_X) (K : ab_X → Prop) (d bc bs : Nat) (hdp : 0 ≤ d) (h : wX2_leaveWork v0 x K) : EW MX2_leaveWork 0 [(0, .ref v0)] [] (aS x) d bc bs (liV K) := by
  unfold wX2_leaveWork at h
  refine EW_aload_n (pc2 := 1) rfl dX2_leaveWork_0 0 rfl ?_
  refine EW_iconst (pc2 := 2) (v := (-1)) rfl dX2_leaveWork_1 (by decide) ?_
  refine AW_puti ⟨gfRX2_18, rfl, rfl⟩ (pc2 := 5) rfl dX2_leaveWork_2 (isW.o hv0) ?_
  refine EW_aload_n (pc2 := 6) rfl dX2_leaveWork_5 0 rfl ?_
  refine EW_iconst (pc2 := 7) (v := (-1)) rfl dX2_leaveWork_6 (by decide) ?_
  refine AW_puti ⟨gfRX2_21, rfl, rfl⟩ (pc2 := 10) rfl dX2_leaveWork_7 (isW.o hv0) ?_
  exact EW_vret rfl dX2_leaveWork_10 ⟨_, rfl, rfl, h⟩
theorem mlRX2_60 : Cond.methodLink RX2 60 yX2_leaveWork ∈ ab_G ∧ Cond.instanceMethod yX2_leaveWork ∈ ab_G ∧ Cond.selects RX2 yX2_leaveWork yX2_leaveWork ∈ ab_G := ⟨ab_in 997 (by decide +kernel) (by decide +kernel), ab_in 998 (by decide +kernel) (by decide +kernel), ab_in 999 (by decide +kernel) (by decide +kernel)⟩
theorem gfRX2_63 : ab_L RX2 63 2 8 := ⟨by decide, by decide, ab_in 429 (by decide +kernel) (by decide +kernel)⟩
theorem gfRX2_66 : ab_L RX2 66 2 9 := ⟨by decide, by decide, ab_in 432 (by decide +kernel) (by decide +kernel)⟩
theorem gfRX2_9 : ab_L RX2 9 2 10 := ⟨by decide, by decide, ab_in 434 (by decide +kernel) (by decide +kernel)⟩
abbrev MX2_set : ab_M := (yX2_set, cX2_set, 4, none)
theorem dX2_set_0 : decode cX2_set 0 = .ok (.aload_n 0, 1) := by decide +kernel
theorem dX2_set_1 : decode cX2_set 1 = .ok (.invokevirtual 60, 3) := by decide +kernel
theorem dX2_set_4 : decode cX2_set 4 = .ok (.aload_n 0, 1) := by decide +kernel
theorem dX2_set_5 : decode cX2_set 5 = .ok (.iload_n 1, 1) := by decide +kernel
theorem dX2_set_6 : decode cX2_set 6 = .ok (.putfield 63, 3) := by decide +kernel
theorem dX2_set_9 : decode cX2_set 9 = .ok (.aload_n 0, 1) := by decide +kernel
theorem dX2_set_10 : decode cX2_set 10 = .ok (.iload_n 2, 1) := by decide +kernel
theorem dX2_set_11 : decode cX2_set 11 = .ok (.putfield 66, 3) := by decide +kernel
theorem dX2_set_14 : decode cX2_set 14 = .ok (.aload_n 0, 1) := by decide +kernel
theorem dX2_set_15 : decode cX2_set 15 = .ok (.iload_n 3, 1) := by decide +kernel
theorem dX2_set_16 : decode cX2_set 16 = .ok (.putfield 9, 3) := by decide +kernel
theorem dX2_set_19 : decode cX2_set 19 = .ok (.return_, 1) := by decide +kernel
theorem okX2_set : ab_okM MX2_set 3 := ⟨by decide, ⟨by decide, by decide⟩, ab_in 1022 (by decide +kernel) (by decide +kernel), ab_in 94 (by decide +kernel) (by decide +kernel), by decide +kernel, by decide⟩
set_option maxHeartbeats 4000000 in
set_option maxRecDepth 100000 in
theorem sX2_set (v0 : Nat) (v1 : Int32) (v2 : Int32) (v3 : Int32) (hv0 : isW v0) (x : ab_X) (K : ab_X → Prop) (d bc bs : Nat) (hdp : 1 ≤ d) (h : wX2_set v0 v1 v2 v3 x K) : EW MX2_set 0 [(0, .ref v0), (1, .int v1), (2, .int v2), (3, .int v3)] [] (aS x) d bc bs (liV K) := by
  unfold wX2_set at h
  refine EW_aload_n (pc2 := 1) rfl dX2_set_0 0 rfl ?_
  refine AW_invV (M' := MX2_leaveWork) [] (rest := []) mlRX2_60 okX2_leaveWork (pc2 := 4) rfl dX2_set_1 rfl rfl (Nat.le_of_ble_eq_true rfl) (Nat.le_of_ble_eq_true rfl) (d' := 0) (by omega) (isW.o hv0) ⟨by decide, rfl⟩ (EW_mono (fun _ _ hr => ?_) (sX2_leaveWork v0 hv0 x _ _ 0 0 (Nat.le_refl _) h))
  obtain ⟨x1, rfl, rfl, h⟩ := hr
  refine EW_aload_n (pc2 := 5) rfl dX2_set_4 0 rfl ?_
  refine EW_iload_n (pc2 := 6) rfl dX2_set_5 1 rfl ?_
  refine AW_puti ⟨gfRX2_63, rfl, rfl⟩ (pc2 := 9) rfl dX2_set_6 (isW.o hv0) ?_
  refine EW_aload_n (pc2 := 10) rfl dX2_set_9 0 rfl ?_
  refine EW_iload_n (pc2 := 11) rfl dX2_set_10 2 rfl ?_
  refine AW_puti ⟨gfRX2_66, rfl, rfl⟩ (pc2 := 14) rfl dX2_set_11 (isW.o hv0) ?_
  refine EW_aload_n (pc2 := 15) rfl dX2_set_14 0 rfl ?_
  refine EW_iload_n (pc2 := 16) rfl dX2_set_15 3 rfl ?_
  refine AW_puti ⟨gfRX2_9, rfl, rfl⟩ (pc2 := 19) rfl dX2_set_16 (isW.o hv0) ?_
  exact EW_vret rfl dX2_set_19 ⟨_, rfl, rfl, h⟩
theorem mlRX0_180 : Cond.methodLink RX0 180 yX0_soonest ∈ ab_G ∧ Cond.instanceMethod yX0_soonest ∈ ab_G ∧ Cond.selects RX0 yX0_soonest yX0_soonest ∈ ab_G := ⟨ab_in 1123 (by decide +kernel) (by decide +kernel), ab_in 1124 (by decide +kernel) (by decide +kernel), ab_in 1125 (by decide +kernel) (by decide +kernel)⟩
theorem mlRX0_184 : Cond.methodLink RX0 184 yX2_set ∈ ab_G ∧ Cond.instanceMethod yX2_set ∈ ab_G ∧ Cond.selects RX2 yX2_set yX2_set ∈ ab_G := ⟨ab_in 1019 (by decide +kernel) (by decide +kernel), ab_in 1020 (by decide +kernel) (by decide +kernel), ab_in 1021 (by decide +kernel) (by decide +kernel)⟩
theorem mlRX0_208 : Cond.methodLink RX0 208 yX0_isSpare ∈ ab_G ∧ Cond.instanceMethod yX0_isSpare ∈ ab_G ∧ Cond.selects RX0 yX0_isSpare yX0_isSpare ∈ ab_G := ⟨ab_in 1139 (by decide +kernel) (by decide +kernel), ab_in 1140 (by decide +kernel) (by decide +kernel), ab_in 1141 (by decide +kernel) (by decide +kernel)⟩
theorem mlRX0_194 : Cond.methodLink RX0 194 yX0_arrivalOf ∈ ab_G ∧ Cond.instanceMethod yX0_arrivalOf ∈ ab_G ∧ Cond.selects RX0 yX0_arrivalOf yX0_arrivalOf ∈ ab_G := ⟨ab_in 1009 (by decide +kernel) (by decide +kernel), ab_in 1010 (by decide +kernel) (by decide +kernel), ab_in 1011 (by decide +kernel) (by decide +kernel)⟩
theorem mlRX0_205 : Cond.methodLink RX0 205 yX0_barePost ∈ ab_G ∧ Cond.instanceMethod yX0_barePost ∈ ab_G ∧ Cond.selects RX0 yX0_barePost yX0_barePost ∈ ab_G := ⟨ab_in 1131 (by decide +kernel) (by decide +kernel), ab_in 1132 (by decide +kernel) (by decide +kernel), ab_in 1133 (by decide +kernel) (by decide +kernel)⟩
abbrev MX0_moveAll : ab_M := (yX0_moveAll, cX0_moveAll, 5, none)
theorem dX0_moveAll_0 : decode cX0_moveAll 0 = .ok (.iconst 0, 1) := by decide +kernel
theorem dX0_moveAll_1 : decode cX0_moveAll 1 = .ok (.istore_n 2, 1) := by decide +kernel
theorem dX0_moveAll_2 : decode cX0_moveAll 2 = .ok (.iload_n 2, 1) := by decide +kernel
theorem dX0_moveAll_3 : decode cX0_moveAll 3 = .ok (.iload_n 1, 1) := by decide +kernel
theorem dX0_moveAll_4 : decode cX0_moveAll 4 = .ok (.if_icmp .ge 102, 3) := by decide +kernel
theorem dX0_moveAll_7 : decode cX0_moveAll 7 = .ok (.aload_n 0, 1) := by decide +kernel
theorem dX0_moveAll_8 : decode cX0_moveAll 8 = .ok (.invokevirtual 205, 3) := by decide +kernel
theorem dX0_moveAll_11 : decode cX0_moveAll 11 = .ok (.istore_n 3, 1) := by decide +kernel
theorem dX0_moveAll_12 : decode cX0_moveAll 12 = .ok (.iload_n 3, 1) := by decide +kernel
theorem dX0_moveAll_13 : decode cX0_moveAll 13 = .ok (.iconst (-1), 1) := by decide +kernel
theorem dX0_moveAll_14 : decode cX0_moveAll 14 = .ok (.if_icmp .ne 4, 3) := by decide +kernel
theorem dX0_moveAll_17 : decode cX0_moveAll 17 = .ok (.return_, 1) := by decide +kernel
theorem dX0_moveAll_18 : decode cX0_moveAll 18 = .ok (.iconst 0, 1) := by decide +kernel
theorem dX0_moveAll_19 : decode cX0_moveAll 19 = .ok (.istore 4, 2) := by decide +kernel
theorem dX0_moveAll_21 : decode cX0_moveAll 21 = .ok (.iload 4, 2) := by decide +kernel
theorem dX0_moveAll_23 : decode cX0_moveAll 23 = .ok (.aload_n 0, 1) := by decide +kernel
theorem dX0_moveAll_24 : decode cX0_moveAll 24 = .ok (.getfield 55, 3) := by decide +kernel
theorem dX0_moveAll_27 : decode cX0_moveAll 27 = .ok (.if_icmp .ge 41, 3) := by decide +kernel
theorem dX0_moveAll_30 : decode cX0_moveAll 30 = .ok (.aload_n 0, 1) := by decide +kernel
theorem dX0_moveAll_31 : decode cX0_moveAll 31 = .ok (.getfield 39, 3) := by decide +kernel
theorem dX0_moveAll_34 : decode cX0_moveAll 34 = .ok (.iload 4, 2) := by decide +kernel
theorem dX0_moveAll_36 : decode cX0_moveAll 36 = .ok (.aload_n 0, 1) := by decide +kernel
theorem dX0_moveAll_37 : decode cX0_moveAll 37 = .ok (.iload 4, 2) := by decide +kernel
theorem dX0_moveAll_39 : decode cX0_moveAll 39 = .ok (.invokevirtual 208, 3) := by decide +kernel
theorem dX0_moveAll_42 : decode cX0_moveAll 42 = .ok (.ifCond .eq 18, 3) := by decide +kernel
theorem dX0_moveAll_45 : decode cX0_moveAll 45 = .ok (.aload_n 0, 1) := by decide +kernel
theorem dX0_moveAll_46 : decode cX0_moveAll 46 = .ok (.aload_n 0, 1) := by decide +kernel
theorem dX0_moveAll_47 : decode cX0_moveAll 47 = .ok (.getfield 11, 3) := by decide +kernel
theorem dX0_moveAll_50 : decode cX0_moveAll 50 = .ok (.iload 4, 2) := by decide +kernel
theorem dX0_moveAll_52 : decode cX0_moveAll 52 = .ok (.aaload, 1) := by decide +kernel
theorem dX0_moveAll_53 : decode cX0_moveAll 53 = .ok (.iload_n 3, 1) := by decide +kernel
theorem dX0_moveAll_54 : decode cX0_moveAll 54 = .ok (.invokevirtual 194, 3) := by decide +kernel
theorem dX0_moveAll_57 : decode cX0_moveAll 57 = .ok (.goto 4, 3) := by decide +kernel
theorem dX0_moveAll_60 : decode cX0_moveAll 60 = .ok (.iconst (-1), 1) := by decide +kernel
theorem dX0_moveAll_61 : decode cX0_moveAll 61 = .ok (.iastore, 1) := by decide +kernel
theorem dX0_moveAll_62 : decode cX0_moveAll 62 = .ok (.iinc 4 1, 3) := by decide +kernel
theorem dX0_moveAll_65 : decode cX0_moveAll 65 = .ok (.goto (-44), 3) := by decide +kernel
theorem dX0_moveAll_68 : decode cX0_moveAll 68 = .ok (.aload_n 0, 1) := by decide +kernel
theorem dX0_moveAll_69 : decode cX0_moveAll 69 = .ok (.invokevirtual 180, 3) := by decide +kernel
theorem dX0_moveAll_72 : decode cX0_moveAll 72 = .ok (.istore 4, 2) := by decide +kernel
theorem dX0_moveAll_74 : decode cX0_moveAll 74 = .ok (.iload 4, 2) := by decide +kernel
theorem dX0_moveAll_76 : decode cX0_moveAll 76 = .ok (.iconst (-1), 1) := by decide +kernel
theorem dX0_moveAll_77 : decode cX0_moveAll 77 = .ok (.if_icmp .ne 4, 3) := by decide +kernel
theorem dX0_moveAll_80 : decode cX0_moveAll 80 = .ok (.return_, 1) := by decide +kernel
theorem dX0_moveAll_81 : decode cX0_moveAll 81 = .ok (.aload_n 0, 1) := by decide +kernel
theorem dX0_moveAll_82 : decode cX0_moveAll 82 = .ok (.getfield 11, 3) := by decide +kernel
theorem dX0_moveAll_85 : decode cX0_moveAll 85 = .ok (.iload 4, 2) := by decide +kernel
theorem dX0_moveAll_87 : decode cX0_moveAll 87 = .ok (.aaload, 1) := by decide +kernel
theorem dX0_moveAll_88 : decode cX0_moveAll 88 = .ok (.iconst 3, 1) := by decide +kernel
theorem dX0_moveAll_89 : decode cX0_moveAll 89 = .ok (.iload_n 3, 1) := by decide +kernel
theorem dX0_moveAll_90 : decode cX0_moveAll 90 = .ok (.aload_n 0, 1) := by decide +kernel
theorem dX0_moveAll_91 : decode cX0_moveAll 91 = .ok (.getfield 39, 3) := by decide +kernel
theorem dX0_moveAll_94 : decode cX0_moveAll 94 = .ok (.iload 4, 2) := by decide +kernel
theorem dX0_moveAll_96 : decode cX0_moveAll 96 = .ok (.iaload, 1) := by decide +kernel
theorem dX0_moveAll_97 : decode cX0_moveAll 97 = .ok (.invokevirtual 184, 3) := by decide +kernel
theorem dX0_moveAll_100 : decode cX0_moveAll 100 = .ok (.iinc 2 1, 3) := by decide +kernel
theorem dX0_moveAll_103 : decode cX0_moveAll 103 = .ok (.goto (-101), 3) := by decide +kernel
theorem dX0_moveAll_106 : decode cX0_moveAll 106 = .ok (.return_, 1) := by decide +kernel
theorem okX0_moveAll : ab_okM MX0_moveAll 1 := ⟨by decide, ⟨by decide, by decide⟩, ab_in 1130 (by decide +kernel) (by decide +kernel), ab_in 92 (by decide +kernel) (by decide +kernel), by decide +kernel, by decide⟩
set_option maxHeartbeats 4000000 in
set_option maxRecDepth 100000 in
theorem sX0_moveAll_21 (v1 : Int32) (v2 : Int32) (v3 : Int32) (v4 : Int32)  (x : ab_X) (K : ab_X → Prop) (L2 : Int32 → ab_X → Prop) (d bc bs : Nat) (hdp : 3 ≤ d) (hL2 : ∀ (v2 : Int32) (x : ab_X), L2 v2 x → EW MX0_moveAll 2 [(0, .ref 66), (1, .int v1), (2, .int v2)] [] (aS x) d bc bs (liV K)) (h : Lp2 (lX0_moveAll_21 v1 v2 v3 K L2) v4 x) : EW MX0_moveAll 21 [(0, .ref 66), (1, .int v1), (2, .int v2), (3, .int v3), (4, .int v4)] [] (aS x) d bc bs (liV K) := by
  refine Lp2.use (P := fun v4 x => EW MX0_moveAll 21 [(0, .ref 66), (1, .int v1), (2, .int v2), (3, .int v3), (4, .int v4)] [] (aS x) d bc bs (liV K)) (fun L21 v4 x hL21 h => ?_) v4 x h
  unfold lX0_moveAll_21 at h
  refine EW_iload (pc2 := 23) rfl dX0_moveAll_21 4 rfl ?_
  refine EW_aload_n (pc2 := 24) rfl dX0_moveAll_23 0 rfl ?_
  refine AW_geti ⟨gfRX0_55, rfl⟩ (pc2 := 27) rfl dX0_moveAll_24 q66 ?_
  refine EW_icmp_ge (tgt := 68) (pc2 := 30) rfl dX0_moveAll_27 (by decide) (fun q => ?_) (fun q => ?_)
  · replace h := h.1 q
    refine EW_aload_n (pc2 := 69) rfl dX0_moveAll_68 0 rfl ?_
    refine AW_invV (M' := MX0_soonest) [] (rest := []) mlRX0_180 okX0_soonest (pc2 := 72) rfl dX0_moveAll_69 rfl rfl (Nat.le_of_ble_eq_true rfl) (Nat.le_of_ble_eq_true rfl) (d' := 0) (by omega) q66 ⟨by decide, rfl⟩ (EW_mono (fun _ _ hr => ?_) (sX0_soonest   x _ _ 0 0 (Nat.le_refl _) h))
    obtain ⟨r2, rfl, rfl, h⟩ := hr
    refine EW_istore (pc2 := 74) rfl dX0_moveAll_72 (by decide) [1, 2, 3, 4, 0] [(0, .ref 66), (1, .int v1), (2, .int v2), (3, .int v3), (4, .int r2)] rfl ?_
    refine EW_iload (pc2 := 76) rfl dX0_moveAll_74 4 rfl ?_
    refine EW_iconst (pc2 := 77) (v := (-1)) rfl dX0_moveAll_76 (by decide) ?_
    refine EW_icmp_ne (tgt := 81) (pc2 := 80) rfl dX0_moveAll_77 (by decide) (fun q => ?_) (fun q => ?_)
    · replace h := h.1 q
      refine EW_aload_n (pc2 := 82) rfl dX0_moveAll_81 0 rfl ?_
      refine AW_getr (r := 67) ⟨gfRX0_11, rfl⟩ (pc2 := 85) rfl dX0_moveAll_82 q66 rfl ?_
      refine EW_iload (pc2 := 87) rfl dX0_moveAll_85 4 rfl ?_
      obtain ⟨b3, h⟩ := h
      refine AW_aald6 (pc2 := 88) rfl dX0_moveAll_87 b3 ?_
      refine EW_iconst (pc2 := 89) (v := 3) rfl dX0_moveAll_88 (by decide) ?_
      refine EW_iload_n (pc2 := 90) rfl dX0_moveAll_89 3 rfl ?_
      refine EW_aload_n (pc2 := 91) rfl dX0_moveAll_90 0 rfl ?_
      refine AW_getr (r := 80) ⟨gfRX0_39, rfl⟩ (pc2 := 94) rfl dX0_moveAll_91 q66 rfl ?_
      refine EW_iload (pc2 := 96) rfl dX0_moveAll_94 4 rfl ?_
      obtain ⟨b4, h⟩ := h
      refine AW_iald (pc2 := 97) rfl dX0_moveAll_96 q80 b4 ?_
      refine AW_invV (M' := MX2_set) [.int 3, .int v3, .int (x.1 80 (Int32.toNatClampNeg r2))] (rest := []) mlRX0_184 okX2_set (pc2 := 100) rfl dX0_moveAll_97 rfl rfl (Nat.le_of_ble_eq_true rfl) (Nat.le_of_ble_eq_true rfl) (d' := 1) (by omega) (isW.o (isW_of b3)) ⟨by decide, rfl⟩ (EW_mono (fun _ _ hr => ?_) (sX2_set (82 + Int32.toNatClampNeg r2) 3 v3 (x.1 80 (Int32.toNatClampNeg r2)) (isW_of b3) x _ _ 0 0 (Nat.le_refl _) h))
      obtain ⟨x5, rfl, rfl, h⟩ := hr
      refine EW_iinc (v2 + 1) (pc2 := 103) rfl dX0_moveAll_100 2 rfl rfl (by decide) [1, 2, 0, 3, 4] [(0, .ref 66), (1, .int v1), (2, .int (v2 + 1)), (3, .int v3), (4, .int r2)] rfl ?_
      refine EW_goto (tgt := 2) dX0_moveAll_103 (by decide) ?_
      refine EW_ls [0, 1, 2] rfl ?_
      exact hL2 (v2 + 1) x5 h
    · replace h := h.2 q
      exact EW_vret rfl dX0_moveAll_80 ⟨_, rfl, rfl, h⟩
  · replace h := h.2 q
    refine EW_aload_n (pc2 := 31) rfl dX0_moveAll_30 0 rfl ?_
    refine AW_getr (r := 80) ⟨gfRX0_39, rfl⟩ (pc2 := 34) rfl dX0_moveAll_31 q66 rfl ?_
    refine EW_iload (pc2 := 36) rfl dX0_moveAll_34 4 rfl ?_
    refine EW_aload_n (pc2 := 37) rfl dX0_moveAll_36 0 rfl ?_
    refine EW_iload (pc2 := 39) rfl dX0_moveAll_37 4 rfl ?_
    refine AW_invV (M' := MX0_isSpare) [.int v4] (rest := [.int v4, .ref 80]) mlRX0_208 okX0_isSpare (pc2 := 42) rfl dX0_moveAll_39 rfl rfl (Nat.le_of_ble_eq_true rfl) (Nat.le_of_ble_eq_true rfl) (d' := 0) (by omega) q66 ⟨by decide, rfl⟩ (EW_mono (fun _ _ hr => ?_) (sX0_isSpare v4  x _ _ 0 0 (Nat.le_refl _) h))
    obtain ⟨r6, rfl, rfl, h⟩ := hr
    refine EW_if_eq (tgt := 60) (pc2 := 45) rfl dX0_moveAll_42 (by decide) (fun q => ?_) (fun q => ?_)
    · replace h := h.1 q
      refine EW_iconst (pc2 := 61) (v := (-1)) rfl dX0_moveAll_60 (by decide) ?_
      obtain ⟨b7, h⟩ := h
      refine AW_iast (pc2 := 62) rfl dX0_moveAll_61 q80 b7 ?_
      refine EW_iinc (v4 + 1) (pc2 := 65) rfl dX0_moveAll_62 4 rfl rfl (by decide) [1, 2, 3, 4, 0] [(0, .ref 66), (1, .int v1), (2, .int v2), (3, .int v3), (4, .int (v4 + 1))] rfl ?_
      refine EW_goto (tgt := 21) dX0_moveAll_65 (by decide) ?_
      exact hL21 (v4 + 1) (wr x 80 (Int32.toNatClampNeg v4) (-1)) h
    · replace h := h.2 q
      refine EW_aload_n (pc2 := 46) rfl dX0_moveAll_45 0 rfl ?_
      refine EW_aload_n (pc2 := 47) rfl dX0_moveAll_46 0 rfl ?_
      refine AW_getr (r := 67) ⟨gfRX0_11, rfl⟩ (pc2 := 50) rfl dX0_moveAll_47 q66 rfl ?_
      refine EW_iload (pc2 := 52) rfl dX0_moveAll_50 4 rfl ?_
      obtain ⟨b8, h⟩ := h
      refine AW_aald6 (pc2 := 53) rfl dX0_moveAll_52 b8 ?_
      refine EW_iload_n (pc2 := 54) rfl dX0_moveAll_53 3 rfl ?_
      refine AW_invV (M' := MX0_arrivalOf) [.ref (82 + Int32.toNatClampNeg v4), .int v3] (rest := [.int v4, .ref 80]) mlRX0_194 okX0_arrivalOf (pc2 := 57) rfl dX0_moveAll_54 rfl rfl (Nat.le_of_ble_eq_true rfl) (Nat.le_of_ble_eq_true rfl) (d' := 2) (by omega) q66 ⟨by decide, rfl⟩ (EW_mono (fun _ _ hr => ?_) (sX0_arrivalOf (82 + Int32.toNatClampNeg v4) v3 (isW_of b8) x _ _ 0 0 (Nat.le_refl _) h))
      obtain ⟨r9, x10, rfl, rfl, h⟩ := hr
      refine EW_goto (tgt := 61) dX0_moveAll_57 (by decide) ?_
      obtain ⟨b11, h⟩ := h
      refine AW_iast (pc2 := 62) rfl dX0_moveAll_61 q80 b11 ?_
      refine EW_iinc (v4 + 1) (pc2 := 65) rfl dX0_moveAll_62 4 rfl rfl (by decide) [1, 2, 3, 4, 0] [(0, .ref 66), (1, .int v1), (2, .int v2), (3, .int v3), (4, .int (v4 + 1))] rfl ?_
      refine EW_goto (tgt := 21) dX0_moveAll_65 (by decide) ?_
      exact hL21 (v4 + 1) (wr x10 80 (Int32.toNatClampNeg v4) r9) h
set_option maxHeartbeats 4000000 in
set_option maxRecDepth 100000 in
theorem sX0_moveAll_2 (v1 : Int32) (v2 : Int32)  (x : ab_X) (K : ab_X → Prop)  (d bc bs : Nat) (hdp : 3 ≤ d)  (h : Lp2 (lX0_moveAll_2 v1 K ) v2 x) : EW MX0_moveAll 2 [(0, .ref 66), (1, .int v1), (2, .int v2)] [] (aS x) d bc bs (liV K) := by
  refine Lp2.use (P := fun v2 x => EW MX0_moveAll 2 [(0, .ref 66), (1, .int v1), (2, .int v2)] [] (aS x) d bc bs (liV K)) (fun L2 v2 x hL2 h => ?_) v2 x h
  unfold lX0_moveAll_2 at h
  refine EW_iload_n (pc2 := 3) rfl dX0_moveAll_2 2 rfl ?_
  refine EW_iload_n (pc2 := 4) rfl dX0_moveAll_3 1 rfl ?_
  refine EW_icmp_ge (tgt := 106) (pc2 := 7) rfl dX0_moveAll_4 (by decide) (fun q => ?_) (fun q => ?_)
  · replace h := h.1 q
    exact EW_vret rfl dX0_moveAll_106 ⟨_, rfl, rfl, h⟩
  · replace h := h.2 q
    refine EW_aload_n (pc2 := 8) rfl dX0_moveAll_7 0 rfl ?_
    refine AW_invV (M' := MX0_barePost) [] (rest := []) mlRX0_205 okX0_barePost (pc2 := 11) rfl dX0_moveAll_8 rfl rfl (Nat.le_of_ble_eq_true rfl) (Nat.le_of_ble_eq_true rfl) (d' := 1) (by omega) q66 ⟨by decide, rfl⟩ (EW_mono (fun _ _ hr => ?_) (sX0_barePost   x _ _ 0 0 (Nat.le_refl _) h))
    obtain ⟨r1, rfl, rfl, h⟩ := hr
    refine EW_istore_n (pc2 := 12) rfl dX0_moveAll_11 (by decide) [1, 2, 3, 0] [(0, .ref 66), (1, .int v1), (2, .int v2), (3, .int r1)] rfl ?_
    refine EW_iload_n (pc2 := 13) rfl dX0_moveAll_12 3 rfl ?_
    refine EW_iconst (pc2 := 14) (v := (-1)) rfl dX0_moveAll_13 (by decide) ?_
    refine EW_icmp_ne (tgt := 18) (pc2 := 17) rfl dX0_moveAll_14 (by decide) (fun q => ?_) (fun q => ?_)
    · replace h := h.1 q
      refine EW_iconst (pc2 := 19) (v := 0) rfl dX0_moveAll_18 (by decide) ?_
      refine EW_istore (pc2 := 21) rfl dX0_moveAll_19 (by decide) [1, 2, 3, 4, 0] [(0, .ref 66), (1, .int v1), (2, .int v2), (3, .int r1), (4, .int 0)] rfl ?_
      exact sX0_moveAll_21 v1 v2 r1 0 x K L2 d bc bs hdp hL2 h
    · replace h := h.2 q
      exact EW_vret rfl dX0_moveAll_17 ⟨_, rfl, rfl, h⟩
set_option maxHeartbeats 4000000 in
set_option maxRecDepth 100000 in
theorem sX0_moveAll (v1 : Int32)  (x : ab_X) (K : ab_X → Prop) (d bc bs : Nat) (hdp : 3 ≤ d) (h : wX0_moveAll v1 x K) : EW MX0_moveAll 0 [(0, .ref 66), (1, .int v1)] [] (aS x) d bc bs (liV K) := by
  unfold wX0_moveAll at h
  refine EW_iconst (pc2 := 1) (v := 0) rfl dX0_moveAll_0 (by decide) ?_
  refine EW_istore_n (pc2 := 2) rfl dX0_moveAll_1 (by decide) [1, 2, 0] [(0, .ref 66), (1, .int v1), (2, .int 0)] rfl ?_
  exact sX0_moveAll_2 v1 0 x K d bc bs hdp h
theorem gfRX0_84 : ab_L RX0 84 1 2 := ⟨by decide, by decide, ab_in 511 (by decide +kernel) (by decide +kernel)⟩
abbrev MX0_openAt : ab_M := (yX0_openAt, cX0_openAt, 3, (some .int))
theorem dX0_openAt_0 : decode cX0_openAt 0 = .ok (.iconst 0, 1) := by decide +kernel
theorem dX0_openAt_1 : decode cX0_openAt 1 = .ok (.istore_n 2, 1) := by decide +kernel
theorem dX0_openAt_2 : decode cX0_openAt 2 = .ok (.iload_n 2, 1) := by decide +kernel
theorem dX0_openAt_3 : decode cX0_openAt 3 = .ok (.aload_n 0, 1) := by decide +kernel
theorem dX0_openAt_4 : decode cX0_openAt 4 = .ok (.getfield 81, 3) := by decide +kernel
theorem dX0_openAt_7 : decode cX0_openAt 7 = .ok (.if_icmp .ge 36, 3) := by decide +kernel
theorem dX0_openAt_10 : decode cX0_openAt 10 = .ok (.aload_n 0, 1) := by decide +kernel
theorem dX0_openAt_11 : decode cX0_openAt 11 = .ok (.getfield 19, 3) := by decide +kernel
theorem dX0_openAt_14 : decode cX0_openAt 14 = .ok (.iload_n 2, 1) := by decide +kernel
theorem dX0_openAt_15 : decode cX0_openAt 15 = .ok (.aaload, 1) := by decide +kernel
theorem dX0_openAt_16 : decode cX0_openAt 16 = .ok (.getfield 84, 3) := by decide +kernel
theorem dX0_openAt_19 : decode cX0_openAt 19 = .ok (.ifCond .ne 18, 3) := by decide +kernel
theorem dX0_openAt_22 : decode cX0_openAt 22 = .ok (.aload_n 0, 1) := by decide +kernel
theorem dX0_openAt_23 : decode cX0_openAt 23 = .ok (.getfield 19, 3) := by decide +kernel
theorem dX0_openAt_26 : decode cX0_openAt 26 = .ok (.iload_n 2, 1) := by decide +kernel
theorem dX0_openAt_27 : decode cX0_openAt 27 = .ok (.aaload, 1) := by decide +kernel
theorem dX0_openAt_28 : decode cX0_openAt 28 = .ok (.getfield 88, 3) := by decide +kernel
theorem dX0_openAt_31 : decode cX0_openAt 31 = .ok (.iload_n 1, 1) := by decide +kernel
theorem dX0_openAt_32 : decode cX0_openAt 32 = .ok (.if_icmp .ne 5, 3) := by decide +kernel
theorem dX0_openAt_35 : decode cX0_openAt 35 = .ok (.iload_n 2, 1) := by decide +kernel
theorem dX0_openAt_36 : decode cX0_openAt 36 = .ok (.ireturn, 1) := by decide +kernel
theorem dX0_openAt_37 : decode cX0_openAt 37 = .ok (.iinc 2 1, 3) := by decide +kernel
theorem dX0_openAt_40 : decode cX0_openAt 40 = .ok (.goto (-38), 3) := by decide +kernel
theorem dX0_openAt_43 : decode cX0_openAt 43 = .ok (.iconst (-1), 1) := by decide +kernel
theorem dX0_openAt_44 : decode cX0_openAt 44 = .ok (.ireturn, 1) := by decide +kernel
theorem okX0_openAt : ab_okM MX0_openAt 1 := ⟨by decide, ⟨by decide, by decide⟩, ab_in 1050 (by decide +kernel) (by decide +kernel), ab_in 92 (by decide +kernel) (by decide +kernel), by decide +kernel, by decide⟩
set_option maxHeartbeats 4000000 in
set_option maxRecDepth 100000 in
theorem sX0_openAt_2 (v1 : Int32) (v2 : Int32)  (x : ab_X) (K : Int32 → Prop)  (d bc bs : Nat) (hdp : 0 ≤ d)  (h : Lp1 (lX0_openAt_2 v1 x K ) v2) : EW MX0_openAt 2 [(0, .ref 66), (1, .int v1), (2, .int v2)] [] (aS x) d bc bs (liP x K) := by
  refine Lp1.use (P := fun v2 => EW MX0_openAt 2 [(0, .ref 66), (1, .int v1), (2, .int v2)] [] (aS x) d bc bs (liP x K)) (fun L2 v2 hL2 h => ?_) v2 h
  unfold lX0_openAt_2 at h
  refine EW_iload_n (pc2 := 3) rfl dX0_openAt_2 2 rfl ?_
  refine EW_aload_n (pc2 := 4) rfl dX0_openAt_3 0 rfl ?_
  refine AW_geti ⟨gfRX0_81, rfl⟩ (pc2 := 7) rfl dX0_openAt_4 q66 ?_
  refine EW_icmp_ge (tgt := 43) (pc2 := 10) rfl dX0_openAt_7 (by decide) (fun q => ?_) (fun q => ?_)
  · replace h := h.1 q
    refine EW_iconst (pc2 := 44) (v := (-1)) rfl dX0_openAt_43 (by decide) ?_
    exact AW_iret rfl dX0_openAt_44 ⟨_, rfl, rfl, h⟩
  · replace h := h.2 q
    refine EW_aload_n (pc2 := 11) rfl dX0_openAt_10 0 rfl ?_
    refine AW_getr (r := 68) ⟨gfRX0_19, rfl⟩ (pc2 := 14) rfl dX0_openAt_11 q66 rfl ?_
    refine EW_iload_n (pc2 := 15) rfl dX0_openAt_14 2 rfl ?_
    obtain ⟨b1, h⟩ := h
    refine AW_aald7 (pc2 := 16) rfl dX0_openAt_15 b1 ?_
    refine AW_geti ⟨gfRX0_84, rfl⟩ (pc2 := 19) rfl dX0_openAt_16 (isK.o (isK_of b1)) ?_
    refine EW_if_ne (tgt := 37) (pc2 := 22) rfl dX0_openAt_19 (by decide) (fun q => ?_) (fun q => ?_)
    · replace h := h.1 q
      refine EW_iinc (v2 + 1) (pc2 := 40) rfl dX0_openAt_37 2 rfl rfl (by decide) [1, 2, 0] [(0, .ref 66), (1, .int v1), (2, .int (v2 + 1))] rfl ?_
      refine EW_goto (tgt := 2) dX0_openAt_40 (by decide) ?_
      exact hL2 (v2 + 1) h
    · replace h := h.2 q
      refine EW_aload_n (pc2 := 23) rfl dX0_openAt_22 0 rfl ?_
      refine AW_getr (r := 68) ⟨gfRX0_19, rfl⟩ (pc2 := 26) rfl dX0_openAt_23 q66 rfl ?_
      refine EW_iload_n (pc2 := 27) rfl dX0_openAt_26 2 rfl ?_
      obtain ⟨b2, h⟩ := h
      refine AW_aald7 (pc2 := 28) rfl dX0_openAt_27 b2 ?_
      refine AW_geti ⟨gfRX0_88, rfl⟩ (pc2 := 31) rfl dX0_openAt_28 (isK.o (isK_of b2)) ?_
      refine EW_iload_n (pc2 := 32) rfl dX0_openAt_31 1 rfl ?_
      refine EW_icmp_ne (tgt := 37) (pc2 := 35) rfl dX0_openAt_32 (by decide) (fun q => ?_) (fun q => ?_)
      · replace h := h.1 q
        refine EW_iinc (v2 + 1) (pc2 := 40) rfl dX0_openAt_37 2 rfl rfl (by decide) [1, 2, 0] [(0, .ref 66), (1, .int v1), (2, .int (v2 + 1))] rfl ?_
        refine EW_goto (tgt := 2) dX0_openAt_40 (by decide) ?_
        exact hL2 (v2 + 1) h
      · replace h := h.2 q
        refine EW_iload_n (pc2 := 36) rfl dX0_openAt_35 2 rfl ?_
        exact AW_iret rfl dX0_openAt_36 ⟨_, rfl, rfl, h⟩
set_option maxHeartbeats 4000000 in
set_option maxRecDepth 100000 in
theorem sX0_openAt (v1 : Int32)  (x : ab_X) (K : Int32 → Prop) (d bc bs : Nat) (hdp : 0 ≤ d) (h : wX0_openAt v1 x K) : EW MX0_openAt 0 [(0, .ref 66), (1, .int v1)] [] (aS x) d bc bs (liP x K) := by
  unfold wX0_openAt at h
  refine EW_iconst (pc2 := 1) (v := 0) rfl dX0_openAt_0 (by decide) ?_
  refine EW_istore_n (pc2 := 2) rfl dX0_openAt_1 (by decide) [1, 2, 0] [(0, .ref 66), (1, .int v1), (2, .int 0)] rfl ?_
  exact sX0_openAt_2 v1 0 x K d bc bs hdp h
abbrev MX0_callsThatAre : ab_M := (yX0_callsThatAre, cX0_callsThatAre, 4, (some .int))
theorem dX0_callsThatAre_0 : decode cX0_callsThatAre 0 = .ok (.iconst 0, 1) := by decide +kernel
theorem dX0_callsThatAre_1 : decode cX0_callsThatAre 1 = .ok (.istore_n 2, 1) := by decide +kernel
theorem dX0_callsThatAre_2 : decode cX0_callsThatAre 2 = .ok (.iconst 0, 1) := by decide +kernel
theorem dX0_callsThatAre_3 : decode cX0_callsThatAre 3 = .ok (.istore_n 3, 1) := by decide +kernel
theorem dX0_callsThatAre_4 : decode cX0_callsThatAre 4 = .ok (.iload_n 3, 1) := by decide +kernel
theorem dX0_callsThatAre_5 : decode cX0_callsThatAre 5 = .ok (.aload_n 0, 1) := by decide +kernel
theorem dX0_callsThatAre_6 : decode cX0_callsThatAre 6 = .ok (.getfield 81, 3) := by decide +kernel
theorem dX0_callsThatAre_9 : decode cX0_callsThatAre 9 = .ok (.if_icmp .ge 30, 3) := by decide +kernel
theorem dX0_callsThatAre_12 : decode cX0_callsThatAre 12 = .ok (.iload_n 2, 1) := by decide +kernel
theorem dX0_callsThatAre_13 : decode cX0_callsThatAre 13 = .ok (.aload_n 0, 1) := by decide +kernel
theorem dX0_callsThatAre_14 : decode cX0_callsThatAre 14 = .ok (.getfield 19, 3) := by decide +kernel
theorem dX0_callsThatAre_17 : decode cX0_callsThatAre 17 = .ok (.iload_n 3, 1) := by decide +kernel
theorem dX0_callsThatAre_18 : decode cX0_callsThatAre 18 = .ok (.aaload, 1) := by decide +kernel
theorem dX0_callsThatAre_19 : decode cX0_callsThatAre 19 = .ok (.getfield 84, 3) := by decide +kernel
theorem dX0_callsThatAre_22 : decode cX0_callsThatAre 22 = .ok (.iload_n 1, 1) := by decide +kernel
theorem dX0_callsThatAre_23 : decode cX0_callsThatAre 23 = .ok (.if_icmp .ne 7, 3) := by decide +kernel
theorem dX0_callsThatAre_26 : decode cX0_callsThatAre 26 = .ok (.iconst 1, 1) := by decide +kernel
theorem dX0_callsThatAre_27 : decode cX0_callsThatAre 27 = .ok (.goto 4, 3) := by decide +kernel
theorem dX0_callsThatAre_30 : decode cX0_callsThatAre 30 = .ok (.iconst 0, 1) := by decide +kernel
theorem dX0_callsThatAre_31 : decode cX0_callsThatAre 31 = .ok (.iadd, 1) := by decide +kernel
theorem dX0_callsThatAre_32 : decode cX0_callsThatAre 32 = .ok (.istore_n 2, 1) := by decide +kernel
theorem dX0_callsThatAre_33 : decode cX0_callsThatAre 33 = .ok (.iinc 3 1, 3) := by decide +kernel
theorem dX0_callsThatAre_36 : decode cX0_callsThatAre 36 = .ok (.goto (-32), 3) := by decide +kernel
theorem dX0_callsThatAre_39 : decode cX0_callsThatAre 39 = .ok (.iload_n 2, 1) := by decide +kernel
theorem dX0_callsThatAre_40 : decode cX0_callsThatAre 40 = .ok (.ireturn, 1) := by decide +kernel
theorem okX0_callsThatAre : ab_okM MX0_callsThatAre 1 := ⟨by decide, ⟨by decide, by decide⟩, ab_in 1072 (by decide +kernel) (by decide +kernel), ab_in 92 (by decide +kernel) (by decide +kernel), by decide +kernel, by decide⟩
set_option maxHeartbeats 4000000 in
set_option maxRecDepth 100000 in
theorem sX0_callsThatAre_31 (v1 : Int32) (v3 : Int32) (s0 : Int32) (s1 : Int32)  (x : ab_X) (K : Int32 → Prop) (L4 : Int32 → Int32 → Prop) (d bc bs : Nat) (hdp : 0 ≤ d) (hL4 : ∀ (v2 : Int32) (v3 : Int32), L4 v2 v3 → EW MX0_callsThatAre 4 [(0, .ref 66), (1, .int v1), (2, .int v2), (3, .int v3)] [] (aS x) d bc bs (liP x K)) (h : wX0_callsThatAre_31 v1 v3 s0 s1 x K L4) : EW MX0_callsThatAre 31 [(0, .ref 66), (1, .int v1), (3, .int v3)] [.int s1, .int s0] (aS x) d bc bs (liP x K) := by
  unfold wX0_callsThatAre_31 at h
  refine EW_iadd (pc2 := 32) rfl dX0_callsThatAre_31 ?_
  refine EW_istore_n (pc2 := 33) rfl dX0_callsThatAre_32 (by decide) [1, 2, 0, 3] [(0, .ref 66), (1, .int v1), (2, .int (s0 + s1)), (3, .int v3)] rfl ?_
  refine EW_iinc (v3 + 1) (pc2 := 36) rfl dX0_callsThatAre_33 3 rfl rfl (by decide) [1, 2, 3, 0] [(0, .ref 66), (1, .int v1), (2, .int (s0 + s1)), (3, .int (v3 + 1))] rfl ?_
  refine EW_goto (tgt := 4) dX0_callsThatAre_36 (by decide) ?_
  exact hL4 (s0 + s1) (v3 + 1) h
set_option maxHeartbeats 4000000 in
set_option maxRecDepth 100000 in
theorem sX0_callsThatAre_4 (v1 : Int32) (v2 : Int32) (v3 : Int32)  (x : ab_X) (K : Int32 → Prop)  (d bc bs : Nat) (hdp : 0 ≤ d)  (h : Lp2 (lX0_callsThatAre_4 v1 x K ) v2 v3) : EW MX0_callsThatAre 4 [(0, .ref 66), (1, .int v1), (2, .int v2), (3, .int v3)] [] (aS x) d bc bs (liP x K) := by
  refine Lp2.use (P := fun v2 v3 => EW MX0_callsThatAre 4 [(0, .ref 66), (1, .int v1), (2, .int v2), (3, .int v3)] [] (aS x) d bc bs (liP x K)) (fun L4 v2 v3 hL4 h => ?_) v2 v3 h
  unfold lX0_callsThatAre_4 at h
  refine EW_iload_n (pc2 := 5) rfl dX0_callsThatAre_4 3 rfl ?_
  refine EW_aload_n (pc2 := 6) rfl dX0_callsThatAre_5 0 rfl ?_
  refine AW_geti ⟨gfRX0_81, rfl⟩ (pc2 := 9) rfl dX0_callsThatAre_6 q66 ?_
  refine EW_icmp_ge (tgt := 39) (pc2 := 12) rfl dX0_callsThatAre_9 (by decide) (fun q => ?_) (fun q => ?_)
  · replace h := h.1 q
    refine EW_iload_n (pc2 := 40) rfl dX0_callsThatAre_39 2 rfl ?_
    exact AW_iret rfl dX0_callsThatAre_40 ⟨_, rfl, rfl, h⟩
  · replace h := h.2 q
    refine EW_iload_n (pc2 := 13) rfl dX0_callsThatAre_12 2 rfl ?_
    refine EW_aload_n (pc2 := 14) rfl dX0_callsThatAre_13 0 rfl ?_
    refine AW_getr (r := 68) ⟨gfRX0_19, rfl⟩ (pc2 := 17) rfl dX0_callsThatAre_14 q66 rfl ?_
    refine EW_iload_n (pc2 := 18) rfl dX0_callsThatAre_17 3 rfl ?_
    obtain ⟨b1, h⟩ := h
    refine AW_aald7 (pc2 := 19) rfl dX0_callsThatAre_18 b1 ?_
    refine AW_geti ⟨gfRX0_84, rfl⟩ (pc2 := 22) rfl dX0_callsThatAre_19 (isK.o (isK_of b1)) ?_
    refine EW_iload_n (pc2 := 23) rfl dX0_callsThatAre_22 1 rfl ?_
    refine EW_icmp_ne (tgt := 30) (pc2 := 26) rfl dX0_callsThatAre_23 (by decide) (fun q => ?_) (fun q => ?_)
    · replace h := h.1 q
      refine EW_iconst (pc2 := 31) (v := 0) rfl dX0_callsThatAre_30 (by decide) ?_
      refine EW_ls [0, 1, 3] rfl ?_
      exact sX0_callsThatAre_31 v1 v3 v2 0 x K L4 d bc bs hdp hL4 h
    · replace h := h.2 q
      refine EW_iconst (pc2 := 27) (v := 1) rfl dX0_callsThatAre_26 (by decide) ?_
      refine EW_goto (tgt := 31) dX0_callsThatAre_27 (by decide) ?_
      refine EW_ls [0, 1, 3] rfl ?_
      exact sX0_callsThatAre_31 v1 v3 v2 1 x K L4 d bc bs hdp hL4 h
set_option maxHeartbeats 4000000 in
set_option maxRecDepth 100000 in
theorem sX0_callsThatAre (v1 : Int32)  (x : ab_X) (K : Int32 → Prop) (d bc bs : Nat) (hdp : 0 ≤ d) (h : wX0_callsThatAre v1 x K) : EW MX0_callsThatAre 0 [(0, .ref 66), (1, .int v1)] [] (aS x) d bc bs (liP x K) := by
  unfold wX0_callsThatAre at h
  refine EW_iconst (pc2 := 1) (v := 0) rfl dX0_callsThatAre_0 (by decide) ?_
  refine EW_istore_n (pc2 := 2) rfl dX0_callsThatAre_1 (by decide) [1, 2, 0] [(0, .ref 66), (1, .int v1), (2, .int 0)] rfl ?_
  refine EW_iconst (pc2 := 3) (v := 0) rfl dX0_callsThatAre_2 (by decide) ?_
  refine EW_istore_n (pc2 := 4) rfl dX0_callsThatAre_3 (by decide) [1, 2, 3, 0] [(0, .ref 66), (1, .int v1), (2, .int 0), (3, .int 0)] rfl ?_
  exact sX0_callsThatAre_4 v1 0 0 x K d bc bs hdp h
theorem mlRX0_94 : Cond.methodLink RX0 94 yX6_partOf ∈ ab_G ∧ Cond.static yX6_partOf ∈ ab_G := ⟨ab_in 1060 (by decide +kernel) (by decide +kernel), ab_in 813 (by decide +kernel) (by decide +kernel)⟩
abbrev MX0_falseHundredths : ab_M := (yX0_falseHundredths, cX0_falseHundredths, 7, (some .int))
theorem dX0_falseHundredths_0 : decode cX0_falseHundredths 0 = .ok (.iconst 0, 1) := by decide +kernel
theorem dX0_falseHundredths_1 : decode cX0_falseHundredths 1 = .ok (.istore_n 3, 1) := by decide +kernel
theorem dX0_falseHundredths_2 : decode cX0_falseHundredths 2 = .ok (.iconst 0, 1) := by decide +kernel
theorem dX0_falseHundredths_3 : decode cX0_falseHundredths 3 = .ok (.istore 4, 2) := by decide +kernel
theorem dX0_falseHundredths_5 : decode cX0_falseHundredths 5 = .ok (.iconst 0, 1) := by decide +kernel
theorem dX0_falseHundredths_6 : decode cX0_falseHundredths 6 = .ok (.istore 5, 2) := by decide +kernel
theorem dX0_falseHundredths_8 : decode cX0_falseHundredths 8 = .ok (.iload 5, 2) := by decide +kernel
theorem dX0_falseHundredths_10 : decode cX0_falseHundredths 10 = .ok (.aload_n 0, 1) := by decide +kernel
theorem dX0_falseHundredths_11 : decode cX0_falseHundredths 11 = .ok (.getfield 81, 3) := by decide +kernel
theorem dX0_falseHundredths_14 : decode cX0_falseHundredths 14 = .ok (.if_icmp .ge 69, 3) := by decide +kernel
theorem dX0_falseHundredths_17 : decode cX0_falseHundredths 17 = .ok (.aload_n 0, 1) := by decide +kernel
theorem dX0_falseHundredths_18 : decode cX0_falseHundredths 18 = .ok (.getfield 19, 3) := by decide +kernel
theorem dX0_falseHundredths_21 : decode cX0_falseHundredths 21 = .ok (.iload 5, 2) := by decide +kernel
theorem dX0_falseHundredths_23 : decode cX0_falseHundredths 23 = .ok (.aaload, 1) := by decide +kernel
theorem dX0_falseHundredths_24 : decode cX0_falseHundredths 24 = .ok (.astore 6, 2) := by decide +kernel
theorem dX0_falseHundredths_26 : decode cX0_falseHundredths 26 = .ok (.aload 6, 2) := by decide +kernel
theorem dX0_falseHundredths_28 : decode cX0_falseHundredths 28 = .ok (.getfield 88, 3) := by decide +kernel
theorem dX0_falseHundredths_31 : decode cX0_falseHundredths 31 = .ok (.iload_n 1, 1) := by decide +kernel
theorem dX0_falseHundredths_32 : decode cX0_falseHundredths 32 = .ok (.if_icmp .ne 45, 3) := by decide +kernel
theorem dX0_falseHundredths_35 : decode cX0_falseHundredths 35 = .ok (.aload 6, 2) := by decide +kernel
theorem dX0_falseHundredths_37 : decode cX0_falseHundredths 37 = .ok (.getfield 84, 3) := by decide +kernel
theorem dX0_falseHundredths_40 : decode cX0_falseHundredths 40 = .ok (.ifCond .eq 37, 3) := by decide +kernel
theorem dX0_falseHundredths_43 : decode cX0_falseHundredths 43 = .ok (.aload 6, 2) := by decide +kernel
theorem dX0_falseHundredths_45 : decode cX0_falseHundredths 45 = .ok (.getfield 91, 3) := by decide +kernel
theorem dX0_falseHundredths_48 : decode cX0_falseHundredths 48 = .ok (.invokestatic 94, 3) := by decide +kernel
theorem dX0_falseHundredths_51 : decode cX0_falseHundredths 51 = .ok (.iload_n 2, 1) := by decide +kernel
theorem dX0_falseHundredths_52 : decode cX0_falseHundredths 52 = .ok (.if_icmp .ne 25, 3) := by decide +kernel
theorem dX0_falseHundredths_55 : decode cX0_falseHundredths 55 = .ok (.iinc 3 1, 3) := by decide +kernel
theorem dX0_falseHundredths_58 : decode cX0_falseHundredths 58 = .ok (.iload 4, 2) := by decide +kernel
theorem dX0_falseHundredths_60 : decode cX0_falseHundredths 60 = .ok (.aload 6, 2) := by decide +kernel
theorem dX0_falseHundredths_62 : decode cX0_falseHundredths 62 = .ok (.getfield 84, 3) := by decide +kernel
theorem dX0_falseHundredths_65 : decode cX0_falseHundredths 65 = .ok (.iconst 2, 1) := by decide +kernel
theorem dX0_falseHundredths_66 : decode cX0_falseHundredths 66 = .ok (.if_icmp .ne 7, 3) := by decide +kernel
theorem dX0_falseHundredths_69 : decode cX0_falseHundredths 69 = .ok (.iconst 1, 1) := by decide +kernel
theorem dX0_falseHundredths_70 : decode cX0_falseHundredths 70 = .ok (.goto 4, 3) := by decide +kernel
theorem dX0_falseHundredths_73 : decode cX0_falseHundredths 73 = .ok (.iconst 0, 1) := by decide +kernel
theorem dX0_falseHundredths_74 : decode cX0_falseHundredths 74 = .ok (.iadd, 1) := by decide +kernel
theorem dX0_falseHundredths_75 : decode cX0_falseHundredths 75 = .ok (.istore 4, 2) := by decide +kernel
theorem dX0_falseHundredths_77 : decode cX0_falseHundredths 77 = .ok (.iinc 5 1, 3) := by decide +kernel
theorem dX0_falseHundredths_80 : decode cX0_falseHundredths 80 = .ok (.goto (-72), 3) := by decide +kernel
theorem dX0_falseHundredths_83 : decode cX0_falseHundredths 83 = .ok (.iload_n 3, 1) := by decide +kernel
theorem dX0_falseHundredths_84 : decode cX0_falseHundredths 84 = .ok (.ifCond .ne 7, 3) := by decide +kernel
theorem dX0_falseHundredths_87 : decode cX0_falseHundredths 87 = .ok (.iconst 0, 1) := by decide +kernel
theorem dX0_falseHundredths_88 : decode cX0_falseHundredths 88 = .ok (.goto 10, 3) := by decide +kernel
theorem dX0_falseHundredths_91 : decode cX0_falseHundredths 91 = .ok (.iload 4, 2) := by decide +kernel
theorem dX0_falseHundredths_93 : decode cX0_falseHundredths 93 = .ok (.bipush 100, 2) := by decide +kernel
theorem dX0_falseHundredths_95 : decode cX0_falseHundredths 95 = .ok (.imul, 1) := by decide +kernel
theorem dX0_falseHundredths_96 : decode cX0_falseHundredths 96 = .ok (.iload_n 3, 1) := by decide +kernel
theorem dX0_falseHundredths_97 : decode cX0_falseHundredths 97 = .ok (.idiv, 1) := by decide +kernel
theorem dX0_falseHundredths_98 : decode cX0_falseHundredths 98 = .ok (.ireturn, 1) := by decide +kernel
theorem okX0_falseHundredths : ab_okM MX0_falseHundredths 2 := ⟨by decide, ⟨by decide, by decide⟩, ab_in 1064 (by decide +kernel) (by decide +kernel), ab_in 92 (by decide +kernel) (by decide +kernel), by decide +kernel, by decide⟩
set_option maxHeartbeats 4000000 in
set_option maxRecDepth 100000 in
theorem sX0_falseHundredths_74 (v1 : Int32) (v2 : Int32) (v3 : Int32) (v5 : Int32) (s0 : Int32) (s1 : Int32)  (x : ab_X) (K : Int32 → Prop) (L8 : Int32 → Int32 → Int32 → Prop) (d bc bs : Nat) (hdp : 1 ≤ d) (hL8 : ∀ (v3 : Int32) (v4 : Int32) (v5 : Int32), L8 v3 v4 v5 → EW MX0_falseHundredths 8 [(0, .ref 66), (1, .int v1), (2, .int v2), (3, .int v3), (4, .int v4), (5, .int v5)] [] (aS x) d bc bs (liP x K)) (h : wX0_falseHundredths_74 v1 v2 v3 v5 s0 s1 x K L8) : EW MX0_falseHundredths 74 [(0, .ref 66), (1, .int v1), (2, .int v2), (3, .int v3), (5, .int v5)] [.int s1, .int s0] (aS x) d bc bs (liP x K) := by
  unfold wX0_falseHundredths_74 at h
  refine EW_iadd (pc2 := 75) rfl dX0_falseHundredths_74 ?_
  refine EW_istore (pc2 := 77) rfl dX0_falseHundredths_75 (by decide) [1, 2, 3, 4, 0, 5] [(0, .ref 66), (1, .int v1), (2, .int v2), (3, .int v3), (4, .int (s0 + s1)), (5, .int v5)] rfl ?_
  refine EW_iinc (v5 + 1) (pc2 := 80) rfl dX0_falseHundredths_77 5 rfl rfl (by decide) [1, 2, 3, 4, 5, 0] [(0, .ref 66), (1, .int v1), (2, .int v2), (3, .int v3), (4, .int (s0 + s1)), (5, .int (v5 + 1))] rfl ?_
  refine EW_goto (tgt := 8) dX0_falseHundredths_80 (by decide) ?_
  exact hL8 v3 (s0 + s1) (v5 + 1) h
set_option maxHeartbeats 4000000 in
set_option maxRecDepth 100000 in
theorem sX0_falseHundredths_8 (v1 : Int32) (v2 : Int32) (v3 : Int32) (v4 : Int32) (v5 : Int32)  (x : ab_X) (K : Int32 → Prop)  (d bc bs : Nat) (hdp : 1 ≤ d)  (h : Lp3 (lX0_falseHundredths_8 v1 v2 x K ) v3 v4 v5) : EW MX0_falseHundredths 8 [(0, .ref 66), (1, .int v1), (2, .int v2), (3, .int v3), (4, .int v4), (5, .int v5)] [] (aS x) d bc bs (liP x K) := by
  refine Lp3.use (P := fun v3 v4 v5 => EW MX0_falseHundredths 8 [(0, .ref 66), (1, .int v1), (2, .int v2), (3, .int v3), (4, .int v4), (5, .int v5)] [] (aS x) d bc bs (liP x K)) (fun L8 v3 v4 v5 hL8 h => ?_) v3 v4 v5 h
  unfold lX0_falseHundredths_8 at h
  refine EW_iload (pc2 := 10) rfl dX0_falseHundredths_8 5 rfl ?_
  refine EW_aload_n (pc2 := 11) rfl dX0_falseHundredths_10 0 rfl ?_
  refine AW_geti ⟨gfRX0_81, rfl⟩ (pc2 := 14) rfl dX0_falseHundredths_11 q66 ?_
  refine EW_icmp_ge (tgt := 83) (pc2 := 17) rfl dX0_falseHundredths_14 (by decide) (fun q => ?_) (fun q => ?_)
  · replace h := h.1 q
    refine EW_iload_n (pc2 := 84) rfl dX0_falseHundredths_83 3 rfl ?_
    refine EW_if_ne (tgt := 91) (pc2 := 87) rfl dX0_falseHundredths_84 (by decide) (fun q => ?_) (fun q => ?_)
    · replace h := h.1 q
      refine EW_iload (pc2 := 93) rfl dX0_falseHundredths_91 4 rfl ?_
      refine EW_bipush (pc2 := 95) (v := 100) rfl dX0_falseHundredths_93 (by decide) ?_
      refine EW_imul (pc2 := 96) rfl dX0_falseHundredths_95 ?_
      refine EW_iload_n (pc2 := 97) rfl dX0_falseHundredths_96 3 rfl ?_
      obtain ⟨hz, h⟩ := h
      refine EW_idiv (pc2 := 98) rfl dX0_falseHundredths_97 hz ?_
      exact AW_iret rfl dX0_falseHundredths_98 ⟨_, rfl, rfl, h⟩
    · replace h := h.2 q
      refine EW_iconst (pc2 := 88) (v := 0) rfl dX0_falseHundredths_87 (by decide) ?_
      refine EW_goto (tgt := 98) dX0_falseHundredths_88 (by decide) ?_
      exact AW_iret rfl dX0_falseHundredths_98 ⟨_, rfl, rfl, h⟩
  · replace h := h.2 q
    refine EW_aload_n (pc2 := 18) rfl dX0_falseHundredths_17 0 rfl ?_
    refine AW_getr (r := 68) ⟨gfRX0_19, rfl⟩ (pc2 := 21) rfl dX0_falseHundredths_18 q66 rfl ?_
    refine EW_iload (pc2 := 23) rfl dX0_falseHundredths_21 5 rfl ?_
    obtain ⟨b1, h⟩ := h
    refine AW_aald7 (pc2 := 24) rfl dX0_falseHundredths_23 b1 ?_
    refine EW_astore (pc2 := 26) rfl dX0_falseHundredths_24 (by decide) [1, 2, 3, 4, 5, 6, 0] [(0, .ref 66), (1, .int v1), (2, .int v2), (3, .int v3), (4, .int v4), (5, .int v5), (6, .ref (98 + Int32.toNatClampNeg v5))] rfl ?_
    refine EW_aload (pc2 := 28) rfl dX0_falseHundredths_26 6 rfl ?_
    refine AW_geti ⟨gfRX0_88, rfl⟩ (pc2 := 31) rfl dX0_falseHundredths_28 (isK.o (isK_of b1)) ?_
    refine EW_iload_n (pc2 := 32) rfl dX0_falseHundredths_31 1 rfl ?_
    refine EW_icmp_ne (tgt := 77) (pc2 := 35) rfl dX0_falseHundredths_32 (by decide) (fun q => ?_) (fun q => ?_)
    · replace h := h.1 q
      refine EW_iinc (v5 + 1) (pc2 := 80) rfl dX0_falseHundredths_77 5 rfl rfl (by decide) [1, 2, 3, 4, 5, 0, 6] [(0, .ref 66), (1, .int v1), (2, .int v2), (3, .int v3), (4, .int v4), (5, .int (v5 + 1)), (6, .ref (98 + Int32.toNatClampNeg v5))] rfl ?_
      refine EW_goto (tgt := 8) dX0_falseHundredths_80 (by decide) ?_
      refine EW_ls [0, 1, 2, 3, 4, 5] rfl ?_
      exact hL8 v3 v4 (v5 + 1) h
    · replace h := h.2 q
      refine EW_aload (pc2 := 37) rfl dX0_falseHundredths_35 6 rfl ?_
      refine AW_geti ⟨gfRX0_84, rfl⟩ (pc2 := 40) rfl dX0_falseHundredths_37 (isK.o (isK_of b1)) ?_
      refine EW_if_eq (tgt := 77) (pc2 := 43) rfl dX0_falseHundredths_40 (by decide) (fun q => ?_) (fun q => ?_)
      · replace h := h.1 q
        refine EW_iinc (v5 + 1) (pc2 := 80) rfl dX0_falseHundredths_77 5 rfl rfl (by decide) [1, 2, 3, 4, 5, 0, 6] [(0, .ref 66), (1, .int v1), (2, .int v2), (3, .int v3), (4, .int v4), (5, .int (v5 + 1)), (6, .ref (98 + Int32.toNatClampNeg v5))] rfl ?_
        refine EW_goto (tgt := 8) dX0_falseHundredths_80 (by decide) ?_
        refine EW_ls [0, 1, 2, 3, 4, 5] rfl ?_
        exact hL8 v3 v4 (v5 + 1) h
      · replace h := h.2 q
        refine EW_aload (pc2 := 45) rfl dX0_falseHundredths_43 6 rfl ?_
        refine AW_geti ⟨gfRX0_91, rfl⟩ (pc2 := 48) rfl dX0_falseHundredths_45 (isK.o (isK_of b1)) ?_
        refine AW_invS (M' := MX6_partOf) [.int (x.1 (98 + Int32.toNatClampNeg v5) 3)] (rest := []) mlRX0_94 okX6_partOf (pc2 := 51) rfl dX0_falseHundredths_48 rfl rfl (Nat.le_of_ble_eq_true rfl) (Nat.le_of_ble_eq_true rfl) (d' := 0) (by omega) (EW_mono (fun _ _ hr => ?_) (sX6_partOf (x.1 (98 + Int32.toNatClampNeg v5) 3)  x _ _ 0 0 (Nat.le_refl _) h))
        obtain ⟨r2, rfl, rfl, h⟩ := hr
        refine EW_iload_n (pc2 := 52) rfl dX0_falseHundredths_51 2 rfl ?_
        refine EW_icmp_ne (tgt := 77) (pc2 := 55) rfl dX0_falseHundredths_52 (by decide) (fun q => ?_) (fun q => ?_)
        · replace h := h.1 q
          refine EW_iinc (v5 + 1) (pc2 := 80) rfl dX0_falseHundredths_77 5 rfl rfl (by decide) [1, 2, 3, 4, 5, 0, 6] [(0, .ref 66), (1, .int v1), (2, .int v2), (3, .int v3), (4, .int v4), (5, .int (v5 + 1)), (6, .ref (98 + Int32.toNatClampNeg v5))] rfl ?_
          refine EW_goto (tgt := 8) dX0_falseHundredths_80 (by decide) ?_
          refine EW_ls [0, 1, 2, 3, 4, 5] rfl ?_
          exact hL8 v3 v4 (v5 + 1) h
        · replace h := h.2 q
          refine EW_iinc (v3 + 1) (pc2 := 58) rfl dX0_falseHundredths_55 3 rfl rfl (by decide) [1, 2, 3, 0, 4, 5, 6] [(0, .ref 66), (1, .int v1), (2, .int v2), (3, .int (v3 + 1)), (4, .int v4), (5, .int v5), (6, .ref (98 + Int32.toNatClampNeg v5))] rfl ?_
          refine EW_iload (pc2 := 60) rfl dX0_falseHundredths_58 4 rfl ?_
          refine EW_aload (pc2 := 62) rfl dX0_falseHundredths_60 6 rfl ?_
          refine AW_geti ⟨gfRX0_84, rfl⟩ (pc2 := 65) rfl dX0_falseHundredths_62 (isK.o (isK_of b1)) ?_
          refine EW_iconst (pc2 := 66) (v := 2) rfl dX0_falseHundredths_65 (by decide) ?_
          refine EW_icmp_ne (tgt := 73) (pc2 := 69) rfl dX0_falseHundredths_66 (by decide) (fun q => ?_) (fun q => ?_)
          · replace h := h.1 q
            refine EW_iconst (pc2 := 74) (v := 0) rfl dX0_falseHundredths_73 (by decide) ?_
            refine EW_ls [0, 1, 2, 3, 5] rfl ?_
            exact sX0_falseHundredths_74 v1 v2 (v3 + 1) v5 v4 0 x K L8 d bc bs hdp hL8 h
          · replace h := h.2 q
            refine EW_iconst (pc2 := 70) (v := 1) rfl dX0_falseHundredths_69 (by decide) ?_
            refine EW_goto (tgt := 74) dX0_falseHundredths_70 (by decide) ?_
            refine EW_ls [0, 1, 2, 3, 5] rfl ?_
            exact sX0_falseHundredths_74 v1 v2 (v3 + 1) v5 v4 1 x K L8 d bc bs hdp hL8 h
set_option maxHeartbeats 4000000 in
set_option maxRecDepth 100000 in
theorem sX0_falseHundredths (v1 : Int32) (v2 : Int32)  (x : ab_X) (K : Int32 → Prop) (d bc bs : Nat) (hdp : 1 ≤ d) (h : wX0_falseHundredths v1 v2 x K) : EW MX0_falseHundredths 0 [(0, .ref 66), (1, .int v1), (2, .int v2)] [] (aS x) d bc bs (liP x K) := by
  unfold wX0_falseHundredths at h
  refine EW_iconst (pc2 := 1) (v := 0) rfl dX0_falseHundredths_0 (by decide) ?_
  refine EW_istore_n (pc2 := 2) rfl dX0_falseHundredths_1 (by decide) [1, 2, 3, 0] [(0, .ref 66), (1, .int v1), (2, .int v2), (3, .int 0)] rfl ?_
  refine EW_iconst (pc2 := 3) (v := 0) rfl dX0_falseHundredths_2 (by decide) ?_
  refine EW_istore (pc2 := 5) rfl dX0_falseHundredths_3 (by decide) [1, 2, 3, 4, 0] [(0, .ref 66), (1, .int v1), (2, .int v2), (3, .int 0), (4, .int 0)] rfl ?_
  refine EW_iconst (pc2 := 6) (v := 0) rfl dX0_falseHundredths_5 (by decide) ?_
  refine EW_istore (pc2 := 8) rfl dX0_falseHundredths_6 (by decide) [1, 2, 3, 4, 5, 0] [(0, .ref 66), (1, .int v1), (2, .int v2), (3, .int 0), (4, .int 0), (5, .int 0)] rfl ?_
  exact sX0_falseHundredths_8 v1 v2 0 0 0 x K d bc bs hdp h
abbrev MX0_readyOf : ab_M := (yX0_readyOf, cX0_readyOf, 4, (some .int))
theorem dX0_readyOf_0 : decode cX0_readyOf 0 = .ok (.iconst 0, 1) := by decide +kernel
theorem dX0_readyOf_1 : decode cX0_readyOf 1 = .ok (.istore_n 2, 1) := by decide +kernel
theorem dX0_readyOf_2 : decode cX0_readyOf 2 = .ok (.iconst 0, 1) := by decide +kernel
theorem dX0_readyOf_3 : decode cX0_readyOf 3 = .ok (.istore_n 3, 1) := by decide +kernel
theorem dX0_readyOf_4 : decode cX0_readyOf 4 = .ok (.iload_n 3, 1) := by decide +kernel
theorem dX0_readyOf_5 : decode cX0_readyOf 5 = .ok (.aload_n 0, 1) := by decide +kernel
theorem dX0_readyOf_6 : decode cX0_readyOf 6 = .ok (.getfield 55, 3) := by decide +kernel
theorem dX0_readyOf_9 : decode cX0_readyOf 9 = .ok (.if_icmp .ge 42, 3) := by decide +kernel
theorem dX0_readyOf_12 : decode cX0_readyOf 12 = .ok (.iload_n 2, 1) := by decide +kernel
theorem dX0_readyOf_13 : decode cX0_readyOf 13 = .ok (.aload_n 0, 1) := by decide +kernel
theorem dX0_readyOf_14 : decode cX0_readyOf 14 = .ok (.getfield 11, 3) := by decide +kernel
theorem dX0_readyOf_17 : decode cX0_readyOf 17 = .ok (.iload_n 3, 1) := by decide +kernel
theorem dX0_readyOf_18 : decode cX0_readyOf 18 = .ok (.aaload, 1) := by decide +kernel
theorem dX0_readyOf_19 : decode cX0_readyOf 19 = .ok (.getfield 63, 3) := by decide +kernel
theorem dX0_readyOf_22 : decode cX0_readyOf 22 = .ok (.iload_n 1, 1) := by decide +kernel
theorem dX0_readyOf_23 : decode cX0_readyOf 23 = .ok (.if_icmp .ne 19, 3) := by decide +kernel
theorem dX0_readyOf_26 : decode cX0_readyOf 26 = .ok (.aload_n 0, 1) := by decide +kernel
theorem dX0_readyOf_27 : decode cX0_readyOf 27 = .ok (.getfield 11, 3) := by decide +kernel
theorem dX0_readyOf_30 : decode cX0_readyOf 30 = .ok (.iload_n 3, 1) := by decide +kernel
theorem dX0_readyOf_31 : decode cX0_readyOf 31 = .ok (.aaload, 1) := by decide +kernel
theorem dX0_readyOf_32 : decode cX0_readyOf 32 = .ok (.getfield 75, 3) := by decide +kernel
theorem dX0_readyOf_35 : decode cX0_readyOf 35 = .ok (.ifCond .ne 7, 3) := by decide +kernel
theorem dX0_readyOf_38 : decode cX0_readyOf 38 = .ok (.iconst 1, 1) := by decide +kernel
theorem dX0_readyOf_39 : decode cX0_readyOf 39 = .ok (.goto 4, 3) := by decide +kernel
theorem dX0_readyOf_42 : decode cX0_readyOf 42 = .ok (.iconst 0, 1) := by decide +kernel
theorem dX0_readyOf_43 : decode cX0_readyOf 43 = .ok (.iadd, 1) := by decide +kernel
theorem dX0_readyOf_44 : decode cX0_readyOf 44 = .ok (.istore_n 2, 1) := by decide +kernel
theorem dX0_readyOf_45 : decode cX0_readyOf 45 = .ok (.iinc 3 1, 3) := by decide +kernel
theorem dX0_readyOf_48 : decode cX0_readyOf 48 = .ok (.goto (-44), 3) := by decide +kernel
theorem dX0_readyOf_51 : decode cX0_readyOf 51 = .ok (.iload_n 2, 1) := by decide +kernel
theorem dX0_readyOf_52 : decode cX0_readyOf 52 = .ok (.ireturn, 1) := by decide +kernel
theorem okX0_readyOf : ab_okM MX0_readyOf 1 := ⟨by decide, ⟨by decide, by decide⟩, ab_in 1068 (by decide +kernel) (by decide +kernel), ab_in 92 (by decide +kernel) (by decide +kernel), by decide +kernel, by decide⟩
set_option maxHeartbeats 4000000 in
set_option maxRecDepth 100000 in
theorem sX0_readyOf_43 (v1 : Int32) (v3 : Int32) (s0 : Int32) (s1 : Int32)  (x : ab_X) (K : Int32 → Prop) (L4 : Int32 → Int32 → Prop) (d bc bs : Nat) (hdp : 0 ≤ d) (hL4 : ∀ (v2 : Int32) (v3 : Int32), L4 v2 v3 → EW MX0_readyOf 4 [(0, .ref 66), (1, .int v1), (2, .int v2), (3, .int v3)] [] (aS x) d bc bs (liP x K)) (h : wX0_readyOf_43 v1 v3 s0 s1 x K L4) : EW MX0_readyOf 43 [(0, .ref 66), (1, .int v1), (3, .int v3)] [.int s1, .int s0] (aS x) d bc bs (liP x K) := by
  unfold wX0_readyOf_43 at h
  refine EW_iadd (pc2 := 44) rfl dX0_readyOf_43 ?_
  refine EW_istore_n (pc2 := 45) rfl dX0_readyOf_44 (by decide) [1, 2, 0, 3] [(0, .ref 66), (1, .int v1), (2, .int (s0 + s1)), (3, .int v3)] rfl ?_
  refine EW_iinc (v3 + 1) (pc2 := 48) rfl dX0_readyOf_45 3 rfl rfl (by decide) [1, 2, 3, 0] [(0, .ref 66), (1, .int v1), (2, .int (s0 + s1)), (3, .int (v3 + 1))] rfl ?_
  refine EW_goto (tgt := 4) dX0_readyOf_48 (by decide) ?_
  exact hL4 (s0 + s1) (v3 + 1) h
set_option maxHeartbeats 4000000 in
set_option maxRecDepth 100000 in
theorem sX0_readyOf_42 (v1 : Int32) (v3 : Int32) (s0 : Int32)  (x : ab_X) (K : Int32 → Prop) (L4 : Int32 → Int32 → Prop) (d bc bs : Nat) (hdp : 0 ≤ d) (hL4 : ∀ (v2 : Int32) (v3 : Int32), L4 v2 v3 → EW MX0_readyOf 4 [(0, .ref 66), (1, .int v1), (2, .int v2), (3, .int v3)] [] (aS x) d bc bs (liP x K)) (h : wX0_readyOf_42 v1 v3 s0 x K L4) : EW MX0_readyOf 42 [(0, .ref 66), (1, .int v1), (3, .int v3)] [.int s0] (aS x) d bc bs (liP x K) := by
  unfold wX0_readyOf_42 at h
  refine EW_iconst (pc2 := 43) (v := 0) rfl dX0_readyOf_42 (by decide) ?_
  exact sX0_readyOf_43 v1 v3 s0 0 x K L4 d bc bs hdp hL4 h
set_option maxHeartbeats 4000000 in
set_option maxRecDepth 100000 in
theorem sX0_readyOf_4 (v1 : Int32) (v2 : Int32) (v3 : Int32)  (x : ab_X) (K : Int32 → Prop)  (d bc bs : Nat) (hdp : 0 ≤ d)  (h : Lp2 (lX0_readyOf_4 v1 x K ) v2 v3) : EW MX0_readyOf 4 [(0, .ref 66), (1, .int v1), (2, .int v2), (3, .int v3)] [] (aS x) d bc bs (liP x K) := by
  refine Lp2.use (P := fun v2 v3 => EW MX0_readyOf 4 [(0, .ref 66), (1, .int v1), (2, .int v2), (3, .int v3)] [] (aS x) d bc bs (liP x K)) (fun L4 v2 v3 hL4 h => ?_) v2 v3 h
  unfold lX0_readyOf_4 at h
  refine EW_iload_n (pc2 := 5) rfl dX0_readyOf_4 3 rfl ?_
  refine EW_aload_n (pc2 := 6) rfl dX0_readyOf_5 0 rfl ?_
  refine AW_geti ⟨gfRX0_55, rfl⟩ (pc2 := 9) rfl dX0_readyOf_6 q66 ?_
  refine EW_icmp_ge (tgt := 51) (pc2 := 12) rfl dX0_readyOf_9 (by decide) (fun q => ?_) (fun q => ?_)
  · replace h := h.1 q
    refine EW_iload_n (pc2 := 52) rfl dX0_readyOf_51 2 rfl ?_
    exact AW_iret rfl dX0_readyOf_52 ⟨_, rfl, rfl, h⟩
  · replace h := h.2 q
    refine EW_iload_n (pc2 := 13) rfl dX0_readyOf_12 2 rfl ?_
    refine EW_aload_n (pc2 := 14) rfl dX0_readyOf_13 0 rfl ?_
    refine AW_getr (r := 67) ⟨gfRX0_11, rfl⟩ (pc2 := 17) rfl dX0_readyOf_14 q66 rfl ?_
    refine EW_iload_n (pc2 := 18) rfl dX0_readyOf_17 3 rfl ?_
    obtain ⟨b1, h⟩ := h
    refine AW_aald6 (pc2 := 19) rfl dX0_readyOf_18 b1 ?_
    refine AW_geti ⟨gfRX0_63, rfl⟩ (pc2 := 22) rfl dX0_readyOf_19 (isW.o (isW_of b1)) ?_
    refine EW_iload_n (pc2 := 23) rfl dX0_readyOf_22 1 rfl ?_
    refine EW_icmp_ne (tgt := 42) (pc2 := 26) rfl dX0_readyOf_23 (by decide) (fun q => ?_) (fun q => ?_)
    · replace h := h.1 q
      refine EW_ls [0, 1, 3] rfl ?_
      exact sX0_readyOf_42 v1 v3 v2 x K L4 d bc bs hdp hL4 h
    · replace h := h.2 q
      refine EW_aload_n (pc2 := 27) rfl dX0_readyOf_26 0 rfl ?_
      refine AW_getr (r := 67) ⟨gfRX0_11, rfl⟩ (pc2 := 30) rfl dX0_readyOf_27 q66 rfl ?_
      refine EW_iload_n (pc2 := 31) rfl dX0_readyOf_30 3 rfl ?_
      obtain ⟨b2, h⟩ := h
      refine AW_aald6 (pc2 := 32) rfl dX0_readyOf_31 b2 ?_
      refine AW_geti ⟨gfRX0_75, rfl⟩ (pc2 := 35) rfl dX0_readyOf_32 (isW.o (isW_of b2)) ?_
      refine EW_if_ne (tgt := 42) (pc2 := 38) rfl dX0_readyOf_35 (by decide) (fun q => ?_) (fun q => ?_)
      · replace h := h.1 q
        refine EW_ls [0, 1, 3] rfl ?_
        exact sX0_readyOf_42 v1 v3 v2 x K L4 d bc bs hdp hL4 h
      · replace h := h.2 q
        refine EW_iconst (pc2 := 39) (v := 1) rfl dX0_readyOf_38 (by decide) ?_
        refine EW_goto (tgt := 43) dX0_readyOf_39 (by decide) ?_
        refine EW_ls [0, 1, 3] rfl ?_
        exact sX0_readyOf_43 v1 v3 v2 1 x K L4 d bc bs hdp hL4 h
set_option maxHeartbeats 4000000 in
set_option maxRecDepth 100000 in
theorem sX0_readyOf (v1 : Int32)  (x : ab_X) (K : Int32 → Prop) (d bc bs : Nat) (hdp : 0 ≤ d) (h : wX0_readyOf v1 x K) : EW MX0_readyOf 0 [(0, .ref 66), (1, .int v1)] [] (aS x) d bc bs (liP x K) := by
  unfold wX0_readyOf at h
  refine EW_iconst (pc2 := 1) (v := 0) rfl dX0_readyOf_0 (by decide) ?_
  refine EW_istore_n (pc2 := 2) rfl dX0_readyOf_1 (by decide) [1, 2, 0] [(0, .ref 66), (1, .int v1), (2, .int 0)] rfl ?_
  refine EW_iconst (pc2 := 3) (v := 0) rfl dX0_readyOf_2 (by decide) ?_
  refine EW_istore_n (pc2 := 4) rfl dX0_readyOf_3 (by decide) [1, 2, 3, 0] [(0, .ref 66), (1, .int v1), (2, .int 0), (3, .int 0)] rfl ?_
  exact sX0_readyOf_4 v1 0 0 x K d bc bs hdp h
theorem gfRX0_26 : ab_L RX0 26 0 6 := ⟨by decide, by decide, ab_in 555 (by decide +kernel) (by decide +kernel)⟩
theorem mlRX0_170 : Cond.methodLink RX0 170 yX0_callsThatAre ∈ ab_G ∧ Cond.instanceMethod yX0_callsThatAre ∈ ab_G ∧ Cond.selects RX0 yX0_callsThatAre yX0_callsThatAre ∈ ab_G := ⟨ab_in 1069 (by decide +kernel) (by decide +kernel), ab_in 1070 (by decide +kernel) (by decide +kernel), ab_in 1071 (by decide +kernel) (by decide +kernel)⟩
theorem mlRX0_118 : Cond.methodLink RX0 118 yX0_openAt ∈ ab_G ∧ Cond.instanceMethod yX0_openAt ∈ ab_G ∧ Cond.selects RX0 yX0_openAt yX0_openAt ∈ ab_G := ⟨ab_in 1047 (by decide +kernel) (by decide +kernel), ab_in 1048 (by decide +kernel) (by decide +kernel), ab_in 1049 (by decide +kernel) (by decide +kernel)⟩
theorem mlRX0_167 : Cond.methodLink RX0 167 yX0_readyOf ∈ ab_G ∧ Cond.instanceMethod yX0_readyOf ∈ ab_G ∧ Cond.selects RX0 yX0_readyOf yX0_readyOf ∈ ab_G := ⟨ab_in 1065 (by decide +kernel) (by decide +kernel), ab_in 1066 (by decide +kernel) (by decide +kernel), ab_in 1067 (by decide +kernel) (by decide +kernel)⟩
theorem gfRX0_147 : ab_L RX0 147 10 2 := ⟨by decide, by decide, ab_in 316 (by decide +kernel) (by decide +kernel)⟩
theorem mlRX0_164 : Cond.methodLink RX0 164 yX0_falseHundredths ∈ ab_G ∧ Cond.instanceMethod yX0_falseHundredths ∈ ab_G ∧ Cond.selects RX0 yX0_falseHundredths yX0_falseHundredths ∈ ab_G := ⟨ab_in 1061 (by decide +kernel) (by decide +kernel), ab_in 1062 (by decide +kernel) (by decide +kernel), ab_in 1063 (by decide +kernel) (by decide +kernel)⟩
theorem gfRX0_148 : ab_L RX0 148 10 1 := ⟨by decide, by decide, ab_in 312 (by decide +kernel) (by decide +kernel)⟩
theorem gfRX0_155 : ab_L RX0 155 4 3 := ⟨by decide, by decide, ab_in 229 (by decide +kernel) (by decide +kernel)⟩
theorem mmRX0_158 : Cond.methodLink RX0 158 Lib.Math.max.name ∈ ab_G ∧ Cond.static Lib.Math.max.name ∈ ab_G ∧ Cond.initialized "java/lang/Math" ∈ ab_G ∧ Cond.code Lib.Math.max.name Lib.Math.max.code 2 (some .int) ∈ ab_G := ⟨ab_in 1059 (by decide +kernel) (by decide +kernel), ab_in 909 (by decide +kernel) (by decide +kernel), ab_in 100 (by decide +kernel) (by decide +kernel), ab_in 910 (by decide +kernel) (by decide +kernel)⟩
abbrev MX0_readOrders : ab_M := (yX0_readOrders, cX0_readOrders, 6, none)
theorem dX0_readOrders_0 : decode cX0_readOrders 0 = .ok (.iconst 0, 1) := by decide +kernel
theorem dX0_readOrders_1 : decode cX0_readOrders 1 = .ok (.istore_n 3, 1) := by decide +kernel
theorem dX0_readOrders_2 : decode cX0_readOrders 2 = .ok (.iconst 0, 1) := by decide +kernel
theorem dX0_readOrders_3 : decode cX0_readOrders 3 = .ok (.istore 4, 2) := by decide +kernel
theorem dX0_readOrders_5 : decode cX0_readOrders 5 = .ok (.iconst 0, 1) := by decide +kernel
theorem dX0_readOrders_6 : decode cX0_readOrders 6 = .ok (.istore 5, 2) := by decide +kernel
theorem dX0_readOrders_8 : decode cX0_readOrders 8 = .ok (.iload 5, 2) := by decide +kernel
theorem dX0_readOrders_10 : decode cX0_readOrders 10 = .ok (.aload_n 0, 1) := by decide +kernel
theorem dX0_readOrders_11 : decode cX0_readOrders 11 = .ok (.getfield 49, 3) := by decide +kernel
theorem dX0_readOrders_14 : decode cX0_readOrders 14 = .ok (.getfield 147, 3) := by decide +kernel
theorem dX0_readOrders_17 : decode cX0_readOrders 17 = .ok (.if_icmp .ge 47, 3) := by decide +kernel
theorem dX0_readOrders_20 : decode cX0_readOrders 20 = .ok (.aload_n 0, 1) := by decide +kernel
theorem dX0_readOrders_21 : decode cX0_readOrders 21 = .ok (.getfield 49, 3) := by decide +kernel
theorem dX0_readOrders_24 : decode cX0_readOrders 24 = .ok (.getfield 148, 3) := by decide +kernel
theorem dX0_readOrders_27 : decode cX0_readOrders 27 = .ok (.iload 5, 2) := by decide +kernel
theorem dX0_readOrders_29 : decode cX0_readOrders 29 = .ok (.aaload, 1) := by decide +kernel
theorem dX0_readOrders_30 : decode cX0_readOrders 30 = .ok (.getfield 152, 3) := by decide +kernel
theorem dX0_readOrders_33 : decode cX0_readOrders 33 = .ok (.iload_n 1, 1) := by decide +kernel
theorem dX0_readOrders_34 : decode cX0_readOrders 34 = .ok (.if_icmp .ne 24, 3) := by decide +kernel
theorem dX0_readOrders_37 : decode cX0_readOrders 37 = .ok (.iload_n 3, 1) := by decide +kernel
theorem dX0_readOrders_38 : decode cX0_readOrders 38 = .ok (.aload_n 0, 1) := by decide +kernel
theorem dX0_readOrders_39 : decode cX0_readOrders 39 = .ok (.getfield 49, 3) := by decide +kernel
theorem dX0_readOrders_42 : decode cX0_readOrders 42 = .ok (.getfield 148, 3) := by decide +kernel
theorem dX0_readOrders_45 : decode cX0_readOrders 45 = .ok (.iload 5, 2) := by decide +kernel
theorem dX0_readOrders_47 : decode cX0_readOrders 47 = .ok (.aaload, 1) := by decide +kernel
theorem dX0_readOrders_48 : decode cX0_readOrders 48 = .ok (.getfield 155, 3) := by decide +kernel
theorem dX0_readOrders_51 : decode cX0_readOrders 51 = .ok (.invokestatic 158, 3) := by decide +kernel
theorem dX0_readOrders_54 : decode cX0_readOrders 54 = .ok (.istore_n 3, 1) := by decide +kernel
theorem dX0_readOrders_55 : decode cX0_readOrders 55 = .ok (.iinc 4 1, 3) := by decide +kernel
theorem dX0_readOrders_58 : decode cX0_readOrders 58 = .ok (.iinc 5 1, 3) := by decide +kernel
theorem dX0_readOrders_61 : decode cX0_readOrders 61 = .ok (.goto (-53), 3) := by decide +kernel
theorem dX0_readOrders_64 : decode cX0_readOrders 64 = .ok (.aload_n 0, 1) := by decide +kernel
theorem dX0_readOrders_65 : decode cX0_readOrders 65 = .ok (.getfield 35, 3) := by decide +kernel
theorem dX0_readOrders_68 : decode cX0_readOrders 68 = .ok (.iconst 0, 1) := by decide +kernel
theorem dX0_readOrders_69 : decode cX0_readOrders 69 = .ok (.iload_n 2, 1) := by decide +kernel
theorem dX0_readOrders_70 : decode cX0_readOrders 70 = .ok (.iastore, 1) := by decide +kernel
theorem dX0_readOrders_71 : decode cX0_readOrders 71 = .ok (.aload_n 0, 1) := by decide +kernel
theorem dX0_readOrders_72 : decode cX0_readOrders 72 = .ok (.getfield 35, 3) := by decide +kernel
theorem dX0_readOrders_75 : decode cX0_readOrders 75 = .ok (.iconst 1, 1) := by decide +kernel
theorem dX0_readOrders_76 : decode cX0_readOrders 76 = .ok (.aload_n 0, 1) := by decide +kernel
theorem dX0_readOrders_77 : decode cX0_readOrders 77 = .ok (.getfield 144, 3) := by decide +kernel
theorem dX0_readOrders_80 : decode cX0_readOrders 80 = .ok (.bipush 60, 2) := by decide +kernel
theorem dX0_readOrders_82 : decode cX0_readOrders 82 = .ok (.idiv, 1) := by decide +kernel
theorem dX0_readOrders_83 : decode cX0_readOrders 83 = .ok (.bipush 24, 2) := by decide +kernel
theorem dX0_readOrders_85 : decode cX0_readOrders 85 = .ok (.irem, 1) := by decide +kernel
theorem dX0_readOrders_86 : decode cX0_readOrders 86 = .ok (.iastore, 1) := by decide +kernel
theorem dX0_readOrders_87 : decode cX0_readOrders 87 = .ok (.aload_n 0, 1) := by decide +kernel
theorem dX0_readOrders_88 : decode cX0_readOrders 88 = .ok (.getfield 35, 3) := by decide +kernel
theorem dX0_readOrders_91 : decode cX0_readOrders 91 = .ok (.iconst 2, 1) := by decide +kernel
theorem dX0_readOrders_92 : decode cX0_readOrders 92 = .ok (.iload_n 3, 1) := by decide +kernel
theorem dX0_readOrders_93 : decode cX0_readOrders 93 = .ok (.iastore, 1) := by decide +kernel
theorem dX0_readOrders_94 : decode cX0_readOrders 94 = .ok (.aload_n 0, 1) := by decide +kernel
theorem dX0_readOrders_95 : decode cX0_readOrders 95 = .ok (.getfield 35, 3) := by decide +kernel
theorem dX0_readOrders_98 : decode cX0_readOrders 98 = .ok (.iconst 3, 1) := by decide +kernel
theorem dX0_readOrders_99 : decode cX0_readOrders 99 = .ok (.iload 4, 2) := by decide +kernel
theorem dX0_readOrders_101 : decode cX0_readOrders 101 = .ok (.iastore, 1) := by decide +kernel
theorem dX0_readOrders_102 : decode cX0_readOrders 102 = .ok (.aload_n 0, 1) := by decide +kernel
theorem dX0_readOrders_103 : decode cX0_readOrders 103 = .ok (.getfield 35, 3) := by decide +kernel
theorem dX0_readOrders_106 : decode cX0_readOrders 106 = .ok (.iconst 4, 1) := by decide +kernel
theorem dX0_readOrders_107 : decode cX0_readOrders 107 = .ok (.aload_n 0, 1) := by decide +kernel
theorem dX0_readOrders_108 : decode cX0_readOrders 108 = .ok (.iload_n 1, 1) := by decide +kernel
theorem dX0_readOrders_109 : decode cX0_readOrders 109 = .ok (.aload_n 0, 1) := by decide +kernel
theorem dX0_readOrders_110 : decode cX0_readOrders 110 = .ok (.getfield 144, 3) := by decide +kernel
theorem dX0_readOrders_113 : decode cX0_readOrders 113 = .ok (.invokestatic 94, 3) := by decide +kernel
theorem dX0_readOrders_116 : decode cX0_readOrders 116 = .ok (.invokevirtual 164, 3) := by decide +kernel
theorem dX0_readOrders_119 : decode cX0_readOrders 119 = .ok (.iastore, 1) := by decide +kernel
theorem dX0_readOrders_120 : decode cX0_readOrders 120 = .ok (.iconst 0, 1) := by decide +kernel
theorem dX0_readOrders_121 : decode cX0_readOrders 121 = .ok (.istore 5, 2) := by decide +kernel
theorem dX0_readOrders_123 : decode cX0_readOrders 123 = .ok (.iload 5, 2) := by decide +kernel
theorem dX0_readOrders_125 : decode cX0_readOrders 125 = .ok (.iconst 4, 1) := by decide +kernel
theorem dX0_readOrders_126 : decode cX0_readOrders 126 = .ok (.if_icmp .ge 24, 3) := by decide +kernel
theorem dX0_readOrders_129 : decode cX0_readOrders 129 = .ok (.aload_n 0, 1) := by decide +kernel
theorem dX0_readOrders_130 : decode cX0_readOrders 130 = .ok (.getfield 35, 3) := by decide +kernel
theorem dX0_readOrders_133 : decode cX0_readOrders 133 = .ok (.iconst 5, 1) := by decide +kernel
theorem dX0_readOrders_134 : decode cX0_readOrders 134 = .ok (.iload 5, 2) := by decide +kernel
theorem dX0_readOrders_136 : decode cX0_readOrders 136 = .ok (.iadd, 1) := by decide +kernel
theorem dX0_readOrders_137 : decode cX0_readOrders 137 = .ok (.aload_n 0, 1) := by decide +kernel
theorem dX0_readOrders_138 : decode cX0_readOrders 138 = .ok (.iload 5, 2) := by decide +kernel
theorem dX0_readOrders_140 : decode cX0_readOrders 140 = .ok (.invokevirtual 167, 3) := by decide +kernel
theorem dX0_readOrders_143 : decode cX0_readOrders 143 = .ok (.iastore, 1) := by decide +kernel
theorem dX0_readOrders_144 : decode cX0_readOrders 144 = .ok (.iinc 5 1, 3) := by decide +kernel
theorem dX0_readOrders_147 : decode cX0_readOrders 147 = .ok (.goto (-24), 3) := by decide +kernel
theorem dX0_readOrders_150 : decode cX0_readOrders 150 = .ok (.aload_n 0, 1) := by decide +kernel
theorem dX0_readOrders_151 : decode cX0_readOrders 151 = .ok (.getfield 35, 3) := by decide +kernel
theorem dX0_readOrders_154 : decode cX0_readOrders 154 = .ok (.bipush 9, 2) := by decide +kernel
theorem dX0_readOrders_156 : decode cX0_readOrders 156 = .ok (.aload_n 0, 1) := by decide +kernel
theorem dX0_readOrders_157 : decode cX0_readOrders 157 = .ok (.iconst 0, 1) := by decide +kernel
theorem dX0_readOrders_158 : decode cX0_readOrders 158 = .ok (.invokevirtual 170, 3) := by decide +kernel
theorem dX0_readOrders_161 : decode cX0_readOrders 161 = .ok (.aload_n 0, 1) := by decide +kernel
theorem dX0_readOrders_162 : decode cX0_readOrders 162 = .ok (.iload_n 1, 1) := by decide +kernel
theorem dX0_readOrders_163 : decode cX0_readOrders 163 = .ok (.invokevirtual 118, 3) := by decide +kernel
theorem dX0_readOrders_166 : decode cX0_readOrders 166 = .ok (.iconst (-1), 1) := by decide +kernel
theorem dX0_readOrders_167 : decode cX0_readOrders 167 = .ok (.if_icmp .ne 7, 3) := by decide +kernel
theorem dX0_readOrders_170 : decode cX0_readOrders 170 = .ok (.iconst 0, 1) := by decide +kernel
theorem dX0_readOrders_171 : decode cX0_readOrders 171 = .ok (.goto 4, 3) := by decide +kernel
theorem dX0_readOrders_174 : decode cX0_readOrders 174 = .ok (.iconst 1, 1) := by decide +kernel
theorem dX0_readOrders_175 : decode cX0_readOrders 175 = .ok (.isub, 1) := by decide +kernel
theorem dX0_readOrders_176 : decode cX0_readOrders 176 = .ok (.iastore, 1) := by decide +kernel
theorem dX0_readOrders_177 : decode cX0_readOrders 177 = .ok (.aload_n 0, 1) := by decide +kernel
theorem dX0_readOrders_178 : decode cX0_readOrders 178 = .ok (.getfield 26, 3) := by decide +kernel
theorem dX0_readOrders_181 : decode cX0_readOrders 181 = .ok (.aload_n 0, 1) := by decide +kernel
theorem dX0_readOrders_182 : decode cX0_readOrders 182 = .ok (.getfield 35, 3) := by decide +kernel
theorem dX0_readOrders_185 : decode cX0_readOrders 185 = .ok (.invokevirtual 173, 3) := by decide +kernel
theorem dX0_readOrders_188 : decode cX0_readOrders 188 = .ok (.return_, 1) := by decide +kernel
theorem okX0_readOrders : ab_okM MX0_readOrders 2 := ⟨by decide, ⟨by decide, by decide⟩, ab_in 1058 (by decide +kernel) (by decide +kernel), ab_in 92 (by decide +kernel) (by decide +kernel), by decide +kernel, by decide⟩
set_option maxHeartbeats 4000000 in
set_option maxRecDepth 100000 in
theorem sX0_readOrders_175 (s1 : Int32) (s2 : Int32) (s3 : Int32)  (x : ab_X) (K : ab_X → Prop)  (d bc bs : Nat) (hdp : 3 ≤ d)  (h : wX0_readOrders_175 s1 s2 s3 x K ) : EW MX0_readOrders 175 [(0, .ref 66)] [.int s3, .int s2, .int s1, .ref 79] (aS x) d bc bs (liV K) := by
  unfold wX0_readOrders_175 at h
  refine EW_isub (pc2 := 176) rfl dX0_readOrders_175 ?_
  obtain ⟨b14, h⟩ := h
  refine AW_iast (pc2 := 177) rfl dX0_readOrders_176 q79 b14 ?_
  refine EW_aload_n (pc2 := 178) rfl dX0_readOrders_177 0 rfl ?_
  refine AW_getr (r := 69) ⟨gfRX0_26, rfl⟩ (pc2 := 181) rfl dX0_readOrders_178 q66 rfl ?_
  refine EW_aload_n (pc2 := 182) rfl dX0_readOrders_181 0 rfl ?_
  refine AW_getr (r := 79) ⟨gfRX0_35, rfl⟩ (pc2 := 185) rfl dX0_readOrders_182 q66 rfl ?_
  refine AW_invV (M' := MX9_run) [.ref 79] (rest := []) mlRX0_173 okX9_run (pc2 := 188) rfl dX0_readOrders_185 rfl rfl (Nat.le_of_ble_eq_true rfl) (Nat.le_of_ble_eq_true rfl) (d' := 2) (by omega) q69 ⟨by decide, rfl⟩ (EW_mono (fun _ _ hr => ?_) (sX9_run 69 79 (Or.inl rfl : isT 69) (Or.inl rfl : isLA 79) (wr x 79 (Int32.toNatClampNeg s1) (s2 - s3)) _ _ 0 0 (Nat.le_refl _) h))
  obtain ⟨x15, rfl, rfl, h⟩ := hr
  exact EW_vret rfl dX0_readOrders_188 ⟨_, rfl, rfl, h⟩
set_option maxHeartbeats 4000000 in
set_option maxRecDepth 100000 in
theorem sX0_readOrders_123 (v1 : Int32) (v5 : Int32)  (x : ab_X) (K : ab_X → Prop)  (d bc bs : Nat) (hdp : 3 ≤ d)  (h : Lp2 (lX0_readOrders_123 v1 K ) v5 x) : EW MX0_readOrders 123 [(0, .ref 66), (1, .int v1), (5, .int v5)] [] (aS x) d bc bs (liV K) := by
  refine Lp2.use (P := fun v5 x => EW MX0_readOrders 123 [(0, .ref 66), (1, .int v1), (5, .int v5)] [] (aS x) d bc bs (liV K)) (fun L123 v5 x hL123 h => ?_) v5 x h
  unfold lX0_readOrders_123 at h
  refine EW_iload (pc2 := 125) rfl dX0_readOrders_123 2 rfl ?_
  refine EW_iconst (pc2 := 126) (v := 4) rfl dX0_readOrders_125 (by decide) ?_
  refine EW_icmp_ge (tgt := 150) (pc2 := 129) rfl dX0_readOrders_126 (by decide) (fun q => ?_) (fun q => ?_)
  · replace h := h.1 q
    refine EW_aload_n (pc2 := 151) rfl dX0_readOrders_150 0 rfl ?_
    refine AW_getr (r := 79) ⟨gfRX0_35, rfl⟩ (pc2 := 154) rfl dX0_readOrders_151 q66 rfl ?_
    refine EW_bipush (pc2 := 156) (v := 9) rfl dX0_readOrders_154 (by decide) ?_
    refine EW_aload_n (pc2 := 157) rfl dX0_readOrders_156 0 rfl ?_
    refine EW_iconst (pc2 := 158) (v := 0) rfl dX0_readOrders_157 (by decide) ?_
    refine AW_invV (M' := MX0_callsThatAre) [.int 0] (rest := [.int 9, .ref 79]) mlRX0_170 okX0_callsThatAre (pc2 := 161) rfl dX0_readOrders_158 rfl rfl (Nat.le_of_ble_eq_true rfl) (Nat.le_of_ble_eq_true rfl) (d' := 0) (by omega) q66 ⟨by decide, rfl⟩ (EW_mono (fun _ _ hr => ?_) (sX0_callsThatAre 0  x _ _ 0 0 (Nat.le_refl _) h))
    obtain ⟨r10, rfl, rfl, h⟩ := hr
    refine EW_aload_n (pc2 := 162) rfl dX0_readOrders_161 0 rfl ?_
    refine EW_iload_n (pc2 := 163) rfl dX0_readOrders_162 1 rfl ?_
    refine AW_invV (M' := MX0_openAt) [.int v1] (rest := [.int r10, .int 9, .ref 79]) mlRX0_118 okX0_openAt (pc2 := 166) rfl dX0_readOrders_163 rfl rfl (Nat.le_of_ble_eq_true rfl) (Nat.le_of_ble_eq_true rfl) (d' := 0) (by omega) q66 ⟨by decide, rfl⟩ (EW_mono (fun _ _ hr => ?_) (sX0_openAt v1  x _ _ 0 0 (Nat.le_refl _) h))
    obtain ⟨r11, rfl, rfl, h⟩ := hr
    refine EW_iconst (pc2 := 167) (v := (-1)) rfl dX0_readOrders_166 (by decide) ?_
    refine EW_icmp_ne (tgt := 174) (pc2 := 170) rfl dX0_readOrders_167 (by decide) (fun q => ?_) (fun q => ?_)
    · replace h := h.1 q
      refine EW_iconst (pc2 := 175) (v := 1) rfl dX0_readOrders_174 (by decide) ?_
      refine EW_ls [0] rfl ?_
      exact sX0_readOrders_175 9 r10 1 x K d bc bs hdp h
    · replace h := h.2 q
      refine EW_iconst (pc2 := 171) (v := 0) rfl dX0_readOrders_170 (by decide) ?_
      refine EW_goto (tgt := 175) dX0_readOrders_171 (by decide) ?_
      refine EW_ls [0] rfl ?_
      exact sX0_readOrders_175 9 r10 0 x K d bc bs hdp h
  · replace h := h.2 q
    refine EW_aload_n (pc2 := 130) rfl dX0_readOrders_129 0 rfl ?_
    refine AW_getr (r := 79) ⟨gfRX0_35, rfl⟩ (pc2 := 133) rfl dX0_readOrders_130 q66 rfl ?_
    refine EW_iconst (pc2 := 134) (v := 5) rfl dX0_readOrders_133 (by decide) ?_
    refine EW_iload (pc2 := 136) rfl dX0_readOrders_134 2 rfl ?_
    refine EW_iadd (pc2 := 137) rfl dX0_readOrders_136 ?_
    refine EW_aload_n (pc2 := 138) rfl dX0_readOrders_137 0 rfl ?_
    refine EW_iload (pc2 := 140) rfl dX0_readOrders_138 2 rfl ?_
    refine AW_invV (M' := MX0_readyOf) [.int v5] (rest := [.int (5 + v5), .ref 79]) mlRX0_167 okX0_readyOf (pc2 := 143) rfl dX0_readOrders_140 rfl rfl (Nat.le_of_ble_eq_true rfl) (Nat.le_of_ble_eq_true rfl) (d' := 0) (by omega) q66 ⟨by decide, rfl⟩ (EW_mono (fun _ _ hr => ?_) (sX0_readyOf v5  x _ _ 0 0 (Nat.le_refl _) h))
    obtain ⟨r12, rfl, rfl, h⟩ := hr
    obtain ⟨b13, h⟩ := h
    refine AW_iast (pc2 := 144) rfl dX0_readOrders_143 q79 b13 ?_
    refine EW_iinc (v5 + 1) (pc2 := 147) rfl dX0_readOrders_144 2 rfl rfl (by decide) [1, 2, 0] [(0, .ref 66), (1, .int v1), (5, .int (v5 + 1))] rfl ?_
    refine EW_goto (tgt := 123) dX0_readOrders_147 (by decide) ?_
    exact hL123 (v5 + 1) (wr x 79 (Int32.toNatClampNeg (5 + v5)) r12) h
set_option maxHeartbeats 4000000 in
set_option maxRecDepth 100000 in
theorem sX0_readOrders_8 (v1 : Int32) (v2 : Int32) (v3 : Int32) (v4 : Int32) (v5 : Int32)  (x : ab_X) (K : ab_X → Prop)  (d bc bs : Nat) (hdp : 3 ≤ d)  (h : Lp3 (lX0_readOrders_8 v1 v2 x K ) v3 v4 v5) : EW MX0_readOrders 8 [(0, .ref 66), (1, .int v1), (2, .int v2), (3, .int v3), (4, .int v4), (5, .int v5)] [] (aS x) d bc bs (liV K) := by
  refine Lp3.use (P := fun v3 v4 v5 => EW MX0_readOrders 8 [(0, .ref 66), (1, .int v1), (2, .int v2), (3, .int v3), (4, .int v4), (5, .int v5)] [] (aS x) d bc bs (liV K)) (fun L8 v3 v4 v5 hL8 h => ?_) v3 v4 v5 h
  unfold lX0_readOrders_8 at h
  refine EW_iload (pc2 := 10) rfl dX0_readOrders_8 5 rfl ?_
  refine EW_aload_n (pc2 := 11) rfl dX0_readOrders_10 0 rfl ?_
  refine AW_getr (r := 9) ⟨gfRX0_49, rfl⟩ (pc2 := 14) rfl dX0_readOrders_11 q66 rfl ?_
  refine AW_geti ⟨gfRX0_147, rfl⟩ (pc2 := 17) rfl dX0_readOrders_14 q9 ?_
  refine EW_icmp_ge (tgt := 64) (pc2 := 20) rfl dX0_readOrders_17 (by decide) (fun q => ?_) (fun q => ?_)
  · replace h := h.1 q
    refine EW_aload_n (pc2 := 65) rfl dX0_readOrders_64 0 rfl ?_
    refine AW_getr (r := 79) ⟨gfRX0_35, rfl⟩ (pc2 := 68) rfl dX0_readOrders_65 q66 rfl ?_
    refine EW_iconst (pc2 := 69) (v := 0) rfl dX0_readOrders_68 (by decide) ?_
    refine EW_iload_n (pc2 := 70) rfl dX0_readOrders_69 2 rfl ?_
    obtain ⟨b1, h⟩ := h
    refine AW_iast (pc2 := 71) rfl dX0_readOrders_70 q79 b1 ?_
    refine EW_aload_n (pc2 := 72) rfl dX0_readOrders_71 0 rfl ?_
    refine AW_getr (r := 79) ⟨gfRX0_35, rfl⟩ (pc2 := 75) rfl dX0_readOrders_72 q66 rfl ?_
    refine EW_iconst (pc2 := 76) (v := 1) rfl dX0_readOrders_75 (by decide) ?_
    refine EW_aload_n (pc2 := 77) rfl dX0_readOrders_76 0 rfl ?_
    refine AW_geti ⟨gfRX0_144, rfl⟩ (pc2 := 80) rfl dX0_readOrders_77 q66 ?_
    refine EW_bipush (pc2 := 82) (v := 60) rfl dX0_readOrders_80 (by decide) ?_
    refine EW_idiv (pc2 := 83) rfl dX0_readOrders_82 (by decide) ?_
    refine EW_bipush (pc2 := 85) (v := 24) rfl dX0_readOrders_83 (by decide) ?_
    refine EW_irem (pc2 := 86) rfl dX0_readOrders_85 (by decide) ?_
    obtain ⟨b2, h⟩ := h
    refine AW_iast (pc2 := 87) rfl dX0_readOrders_86 q79 b2 ?_
    refine EW_aload_n (pc2 := 88) rfl dX0_readOrders_87 0 rfl ?_
    refine AW_getr (r := 79) ⟨gfRX0_35, rfl⟩ (pc2 := 91) rfl dX0_readOrders_88 q66 rfl ?_
    refine EW_iconst (pc2 := 92) (v := 2) rfl dX0_readOrders_91 (by decide) ?_
    refine EW_iload_n (pc2 := 93) rfl dX0_readOrders_92 3 rfl ?_
    obtain ⟨b3, h⟩ := h
    refine AW_iast (pc2 := 94) rfl dX0_readOrders_93 q79 b3 ?_
    refine EW_aload_n (pc2 := 95) rfl dX0_readOrders_94 0 rfl ?_
    refine AW_getr (r := 79) ⟨gfRX0_35, rfl⟩ (pc2 := 98) rfl dX0_readOrders_95 q66 rfl ?_
    refine EW_iconst (pc2 := 99) (v := 3) rfl dX0_readOrders_98 (by decide) ?_
    refine EW_iload (pc2 := 101) rfl dX0_readOrders_99 4 rfl ?_
    obtain ⟨b4, h⟩ := h
    refine AW_iast (pc2 := 102) rfl dX0_readOrders_101 q79 b4 ?_
    refine EW_aload_n (pc2 := 103) rfl dX0_readOrders_102 0 rfl ?_
    refine AW_getr (r := 79) ⟨gfRX0_35, rfl⟩ (pc2 := 106) rfl dX0_readOrders_103 q66 rfl ?_
    refine EW_iconst (pc2 := 107) (v := 4) rfl dX0_readOrders_106 (by decide) ?_
    refine EW_aload_n (pc2 := 108) rfl dX0_readOrders_107 0 rfl ?_
    refine EW_iload_n (pc2 := 109) rfl dX0_readOrders_108 1 rfl ?_
    refine EW_aload_n (pc2 := 110) rfl dX0_readOrders_109 0 rfl ?_
    refine AW_geti ⟨gfRX0_144, rfl⟩ (pc2 := 113) rfl dX0_readOrders_110 q66 ?_
    refine AW_invS (M' := MX6_partOf) [.int ((wr (wr (wr (wr x 79 (Int32.toNatClampNeg 0) v2) 79 (Int32.toNatClampNeg 1) ((((wr x 79 (Int32.toNatClampNeg 0) v2).1 66 12) / 60) - (((wr x 79 (Int32.toNatClampNeg 0) v2).1 66 12) / 60) / 24 * 24)) 79 (Int32.toNatClampNeg 2) v3) 79 (Int32.toNatClampNeg 3) v4).1 66 12)] (rest := [.int v1, .ref 66, .int 4, .ref 79]) mlRX0_94 okX6_partOf (pc2 := 116) rfl dX0_readOrders_113 rfl rfl (Nat.le_of_ble_eq_true rfl) (Nat.le_of_ble_eq_true rfl) (d' := 0) (by omega) (EW_mono (fun _ _ hr => ?_) (sX6_partOf ((wr (wr (wr (wr x 79 (Int32.toNatClampNeg 0) v2) 79 (Int32.toNatClampNeg 1) ((((wr x 79 (Int32.toNatClampNeg 0) v2).1 66 12) / 60) - (((wr x 79 (Int32.toNatClampNeg 0) v2).1 66 12) / 60) / 24 * 24)) 79 (Int32.toNatClampNeg 2) v3) 79 (Int32.toNatClampNeg 3) v4).1 66 12)  (wr (wr (wr (wr x 79 (Int32.toNatClampNeg 0) v2) 79 (Int32.toNatClampNeg 1) ((((wr x 79 (Int32.toNatClampNeg 0) v2).1 66 12) / 60) - (((wr x 79 (Int32.toNatClampNeg 0) v2).1 66 12) / 60) / 24 * 24)) 79 (Int32.toNatClampNeg 2) v3) 79 (Int32.toNatClampNeg 3) v4) _ _ 0 0 (Nat.le_refl _) h))
    obtain ⟨r5, rfl, rfl, h⟩ := hr
    refine AW_invV (M' := MX0_falseHundredths) [.int v1, .int r5] (rest := [.int 4, .ref 79]) mlRX0_164 okX0_falseHundredths (pc2 := 119) rfl dX0_readOrders_116 rfl rfl (Nat.le_of_ble_eq_true rfl) (Nat.le_of_ble_eq_true rfl) (d' := 1) (by omega) q66 ⟨by decide, rfl⟩ (EW_mono (fun _ _ hr => ?_) (sX0_falseHundredths v1 r5  (wr (wr (wr (wr x 79 (Int32.toNatClampNeg 0) v2) 79 (Int32.toNatClampNeg 1) ((((wr x 79 (Int32.toNatClampNeg 0) v2).1 66 12) / 60) - (((wr x 79 (Int32.toNatClampNeg 0) v2).1 66 12) / 60) / 24 * 24)) 79 (Int32.toNatClampNeg 2) v3) 79 (Int32.toNatClampNeg 3) v4) _ _ 0 0 (Nat.le_refl _) h))
    obtain ⟨r6, rfl, rfl, h⟩ := hr
    obtain ⟨b7, h⟩ := h
    refine AW_iast (pc2 := 120) rfl dX0_readOrders_119 q79 b7 ?_
    refine EW_iconst (pc2 := 121) (v := 0) rfl dX0_readOrders_120 (by decide) ?_
    refine EW_istore (pc2 := 123) rfl dX0_readOrders_121 (by decide) [1, 2, 3, 4, 5, 0] [(0, .ref 66), (1, .int v1), (2, .int v2), (3, .int v3), (4, .int v4), (5, .int 0)] rfl ?_
    refine EW_ls [0, 1, 5] rfl ?_
    exact sX0_readOrders_123 v1 0 (wr (wr (wr (wr (wr x 79 (Int32.toNatClampNeg 0) v2) 79 (Int32.toNatClampNeg 1) ((((wr x 79 (Int32.toNatClampNeg 0) v2).1 66 12) / 60) - (((wr x 79 (Int32.toNatClampNeg 0) v2).1 66 12) / 60) / 24 * 24)) 79 (Int32.toNatClampNeg 2) v3) 79 (Int32.toNatClampNeg 3) v4) 79 (Int32.toNatClampNeg 4) r6) K d bc bs hdp h
  · replace h := h.2 q
    refine EW_aload_n (pc2 := 21) rfl dX0_readOrders_20 0 rfl ?_
    refine AW_getr (r := 9) ⟨gfRX0_49, rfl⟩ (pc2 := 24) rfl dX0_readOrders_21 q66 rfl ?_
    refine AW_getr (r := 10) ⟨gfRX0_148, rfl⟩ (pc2 := 27) rfl dX0_readOrders_24 q9 rfl ?_
    refine EW_iload (pc2 := 29) rfl dX0_readOrders_27 5 rfl ?_
    obtain ⟨b8, h⟩ := h
    refine AW_aald5 (pc2 := 30) rfl dX0_readOrders_29 b8 ?_
    refine AW_geti ⟨gfRX0_152, rfl⟩ (pc2 := 33) rfl dX0_readOrders_30 (isH.o (isH_of b8)) ?_
    refine EW_iload_n (pc2 := 34) rfl dX0_readOrders_33 1 rfl ?_
    refine EW_icmp_ne (tgt := 58) (pc2 := 37) rfl dX0_readOrders_34 (by decide) (fun q => ?_) (fun q => ?_)
    · replace h := h.1 q
      refine EW_iinc (v5 + 1) (pc2 := 61) rfl dX0_readOrders_58 5 rfl rfl (by decide) [1, 2, 3, 4, 5, 0] [(0, .ref 66), (1, .int v1), (2, .int v2), (3, .int v3), (4, .int v4), (5, .int (v5 + 1))] rfl ?_
      refine EW_goto (tgt := 8) dX0_readOrders_61 (by decide) ?_
      exact hL8 v3 v4 (v5 + 1) h
    · replace h := h.2 q
      refine EW_iload_n (pc2 := 38) rfl dX0_readOrders_37 3 rfl ?_
      refine EW_aload_n (pc2 := 39) rfl dX0_readOrders_38 0 rfl ?_
      refine AW_getr (r := 9) ⟨gfRX0_49, rfl⟩ (pc2 := 42) rfl dX0_readOrders_39 q66 rfl ?_
      refine AW_getr (r := 10) ⟨gfRX0_148, rfl⟩ (pc2 := 45) rfl dX0_readOrders_42 q9 rfl ?_
      refine EW_iload (pc2 := 47) rfl dX0_readOrders_45 5 rfl ?_
      obtain ⟨b9, h⟩ := h
      refine AW_aald5 (pc2 := 48) rfl dX0_readOrders_47 b9 ?_
      refine AW_geti ⟨gfRX0_155, rfl⟩ (pc2 := 51) rfl dX0_readOrders_48 (isH.o (isH_of b9)) ?_
      refine AW_mmax mmRX0_158 (pc2 := 54) rfl dX0_readOrders_51 (Nat.le_of_ble_eq_true rfl) (by omega) ?_
      refine EW_istore_n (pc2 := 55) rfl dX0_readOrders_54 (by decide) [1, 2, 3, 0, 4, 5] [(0, .ref 66), (1, .int v1), (2, .int v2), (3, .int (imax v3 (x.1 (30 + 3 * Int32.toNatClampNeg v5) 3))), (4, .int v4), (5, .int v5)] rfl ?_
      refine EW_iinc (v4 + 1) (pc2 := 58) rfl dX0_readOrders_55 4 rfl rfl (by decide) [1, 2, 3, 4, 0, 5] [(0, .ref 66), (1, .int v1), (2, .int v2), (3, .int (imax v3 (x.1 (30 + 3 * Int32.toNatClampNeg v5) 3))), (4, .int (v4 + 1)), (5, .int v5)] rfl ?_
      refine EW_iinc (v5 + 1) (pc2 := 61) rfl dX0_readOrders_58 5 rfl rfl (by decide) [1, 2, 3, 4, 5, 0] [(0, .ref 66), (1, .int v1), (2, .int v2), (3, .int (imax v3 (x.1 (30 + 3 * Int32.toNatClampNeg v5) 3))), (4, .int (v4 + 1)), (5, .int (v5 + 1))] rfl ?_
      refine EW_goto (tgt := 8) dX0_readOrders_61 (by decide) ?_
      exact hL8 (imax v3 (x.1 (30 + 3 * Int32.toNatClampNeg v5) 3)) (v4 + 1) (v5 + 1) h
set_option maxHeartbeats 4000000 in
set_option maxRecDepth 100000 in
theorem sX0_readOrders (v1 : Int32) (v2 : Int32)  (x : ab_X) (K : ab_X → Prop) (d bc bs : Nat) (hdp : 3 ≤ d) (h : wX0_readOrders v1 v2 x K) : EW MX0_readOrders 0 [(0, .ref 66), (1, .int v1), (2, .int v2)] [] (aS x) d bc bs (liV K) := by
  unfold wX0_readOrders at h
  refine EW_iconst (pc2 := 1) (v := 0) rfl dX0_readOrders_0 (by decide) ?_
  refine EW_istore_n (pc2 := 2) rfl dX0_readOrders_1 (by decide) [1, 2, 3, 0] [(0, .ref 66), (1, .int v1), (2, .int v2), (3, .int 0)] rfl ?_
  refine EW_iconst (pc2 := 3) (v := 0) rfl dX0_readOrders_2 (by decide) ?_
  refine EW_istore (pc2 := 5) rfl dX0_readOrders_3 (by decide) [1, 2, 3, 4, 0] [(0, .ref 66), (1, .int v1), (2, .int v2), (3, .int 0), (4, .int 0)] rfl ?_
  refine EW_iconst (pc2 := 6) (v := 0) rfl dX0_readOrders_5 (by decide) ?_
  refine EW_istore (pc2 := 8) rfl dX0_readOrders_6 (by decide) [1, 2, 3, 4, 5, 0] [(0, .ref 66), (1, .int v1), (2, .int v2), (3, .int 0), (4, .int 0), (5, .int 0)] rfl ?_
  exact sX0_readOrders_8 v1 v2 0 0 0 x K d bc bs hdp h
abbrev MX0_findArrivals : ab_M := (yX0_findArrivals, cX0_findArrivals, 5, none)
theorem dX0_findArrivals_0 : decode cX0_findArrivals 0 = .ok (.iconst 0, 1) := by decide +kernel
theorem dX0_findArrivals_1 : decode cX0_findArrivals 1 = .ok (.istore_n 3, 1) := by decide +kernel
theorem dX0_findArrivals_2 : decode cX0_findArrivals 2 = .ok (.iload_n 3, 1) := by decide +kernel
theorem dX0_findArrivals_3 : decode cX0_findArrivals 3 = .ok (.aload_n 0, 1) := by decide +kernel
theorem dX0_findArrivals_4 : decode cX0_findArrivals 4 = .ok (.getfield 55, 3) := by decide +kernel
theorem dX0_findArrivals_7 : decode cX0_findArrivals 7 = .ok (.if_icmp .ge 67, 3) := by decide +kernel
theorem dX0_findArrivals_10 : decode cX0_findArrivals 10 = .ok (.aload_n 0, 1) := by decide +kernel
theorem dX0_findArrivals_11 : decode cX0_findArrivals 11 = .ok (.getfield 11, 3) := by decide +kernel
theorem dX0_findArrivals_14 : decode cX0_findArrivals 14 = .ok (.iload_n 3, 1) := by decide +kernel
theorem dX0_findArrivals_15 : decode cX0_findArrivals 15 = .ok (.aaload, 1) := by decide +kernel
theorem dX0_findArrivals_16 : decode cX0_findArrivals 16 = .ok (.getfield 75, 3) := by decide +kernel
theorem dX0_findArrivals_19 : decode cX0_findArrivals 19 = .ok (.ifCond .ne 20, 3) := by decide +kernel
theorem dX0_findArrivals_22 : decode cX0_findArrivals 22 = .ok (.aload_n 0, 1) := by decide +kernel
theorem dX0_findArrivals_23 : decode cX0_findArrivals 23 = .ok (.getfield 11, 3) := by decide +kernel
theorem dX0_findArrivals_26 : decode cX0_findArrivals 26 = .ok (.iload_n 3, 1) := by decide +kernel
theorem dX0_findArrivals_27 : decode cX0_findArrivals 27 = .ok (.aaload, 1) := by decide +kernel
theorem dX0_findArrivals_28 : decode cX0_findArrivals 28 = .ok (.getfield 63, 3) := by decide +kernel
theorem dX0_findArrivals_31 : decode cX0_findArrivals 31 = .ok (.iload_n 2, 1) := by decide +kernel
theorem dX0_findArrivals_32 : decode cX0_findArrivals 32 = .ok (.if_icmp .ne 7, 3) := by decide +kernel
theorem dX0_findArrivals_35 : decode cX0_findArrivals 35 = .ok (.iconst 1, 1) := by decide +kernel
theorem dX0_findArrivals_36 : decode cX0_findArrivals 36 = .ok (.goto 4, 3) := by decide +kernel
theorem dX0_findArrivals_39 : decode cX0_findArrivals 39 = .ok (.iconst 0, 1) := by decide +kernel
theorem dX0_findArrivals_40 : decode cX0_findArrivals 40 = .ok (.istore 4, 2) := by decide +kernel
theorem dX0_findArrivals_42 : decode cX0_findArrivals 42 = .ok (.aload_n 0, 1) := by decide +kernel
theorem dX0_findArrivals_43 : decode cX0_findArrivals 43 = .ok (.getfield 39, 3) := by decide +kernel
theorem dX0_findArrivals_46 : decode cX0_findArrivals 46 = .ok (.iload_n 3, 1) := by decide +kernel
theorem dX0_findArrivals_47 : decode cX0_findArrivals 47 = .ok (.iload 4, 2) := by decide +kernel
theorem dX0_findArrivals_49 : decode cX0_findArrivals 49 = .ok (.ifCond .eq 17, 3) := by decide +kernel
theorem dX0_findArrivals_52 : decode cX0_findArrivals 52 = .ok (.aload_n 0, 1) := by decide +kernel
theorem dX0_findArrivals_53 : decode cX0_findArrivals 53 = .ok (.aload_n 0, 1) := by decide +kernel
theorem dX0_findArrivals_54 : decode cX0_findArrivals 54 = .ok (.getfield 11, 3) := by decide +kernel
theorem dX0_findArrivals_57 : decode cX0_findArrivals 57 = .ok (.iload_n 3, 1) := by decide +kernel
theorem dX0_findArrivals_58 : decode cX0_findArrivals 58 = .ok (.aaload, 1) := by decide +kernel
theorem dX0_findArrivals_59 : decode cX0_findArrivals 59 = .ok (.iload_n 1, 1) := by decide +kernel
theorem dX0_findArrivals_60 : decode cX0_findArrivals 60 = .ok (.invokevirtual 194, 3) := by decide +kernel
theorem dX0_findArrivals_63 : decode cX0_findArrivals 63 = .ok (.goto 4, 3) := by decide +kernel
theorem dX0_findArrivals_66 : decode cX0_findArrivals 66 = .ok (.iconst (-1), 1) := by decide +kernel
theorem dX0_findArrivals_67 : decode cX0_findArrivals 67 = .ok (.iastore, 1) := by decide +kernel
theorem dX0_findArrivals_68 : decode cX0_findArrivals 68 = .ok (.iinc 3 1, 3) := by decide +kernel
theorem dX0_findArrivals_71 : decode cX0_findArrivals 71 = .ok (.goto (-69), 3) := by decide +kernel
theorem dX0_findArrivals_74 : decode cX0_findArrivals 74 = .ok (.return_, 1) := by decide +kernel
theorem okX0_findArrivals : ab_okM MX0_findArrivals 2 := ⟨by decide, ⟨by decide, by decide⟩, ab_in 1122 (by decide +kernel) (by decide +kernel), ab_in 92 (by decide +kernel) (by decide +kernel), by decide +kernel, by decide⟩
set_option maxHeartbeats 4000000 in
set_option maxRecDepth 100000 in
theorem sX0_findArrivals_40 (v1 : Int32) (v2 : Int32) (v3 : Int32) (s0 : Int32)  (x : ab_X) (K : ab_X → Prop) (L2 : Int32 → ab_X → Prop) (d bc bs : Nat) (hdp : 3 ≤ d) (hL2 : ∀ (v3 : Int32) (x : ab_X), L2 v3 x → EW MX0_findArrivals 2 [(0, .ref 66), (1, .int v1), (2, .int v2), (3, .int v3)] [] (aS x) d bc bs (liV K)) (h : wX0_findArrivals_40 v1 v2 v3 s0 x K L2) : EW MX0_findArrivals 40 [(0, .ref 66), (1, .int v1), (2, .int v2), (3, .int v3)] [.int s0] (aS x) d bc bs (liV K) := by
  unfold wX0_findArrivals_40 at h
  refine EW_istore (pc2 := 42) rfl dX0_findArrivals_40 (by decide) [1, 2, 3, 4, 0] [(0, .ref 66), (1, .int v1), (2, .int v2), (3, .int v3), (4, .int s0)] rfl ?_
  refine EW_aload_n (pc2 := 43) rfl dX0_findArrivals_42 0 rfl ?_
  refine AW_getr (r := 80) ⟨gfRX0_39, rfl⟩ (pc2 := 46) rfl dX0_findArrivals_43 q66 rfl ?_
  refine EW_iload_n (pc2 := 47) rfl dX0_findArrivals_46 3 rfl ?_
  refine EW_iload (pc2 := 49) rfl dX0_findArrivals_47 4 rfl ?_
  refine EW_if_eq (tgt := 66) (pc2 := 52) rfl dX0_findArrivals_49 (by decide) (fun q => ?_) (fun q => ?_)
  · replace h := h.1 q
    refine EW_iconst (pc2 := 67) (v := (-1)) rfl dX0_findArrivals_66 (by decide) ?_
    obtain ⟨b3, h⟩ := h
    refine AW_iast (pc2 := 68) rfl dX0_findArrivals_67 q80 b3 ?_
    refine EW_iinc (v3 + 1) (pc2 := 71) rfl dX0_findArrivals_68 3 rfl rfl (by decide) [1, 2, 3, 0, 4] [(0, .ref 66), (1, .int v1), (2, .int v2), (3, .int (v3 + 1)), (4, .int s0)] rfl ?_
    refine EW_goto (tgt := 2) dX0_findArrivals_71 (by decide) ?_
    refine EW_ls [0, 1, 2, 3] rfl ?_
    exact hL2 (v3 + 1) (wr x 80 (Int32.toNatClampNeg v3) (-1)) h
  · replace h := h.2 q
    refine EW_aload_n (pc2 := 53) rfl dX0_findArrivals_52 0 rfl ?_
    refine EW_aload_n (pc2 := 54) rfl dX0_findArrivals_53 0 rfl ?_
    refine AW_getr (r := 67) ⟨gfRX0_11, rfl⟩ (pc2 := 57) rfl dX0_findArrivals_54 q66 rfl ?_
    refine EW_iload_n (pc2 := 58) rfl dX0_findArrivals_57 3 rfl ?_
    obtain ⟨b4, h⟩ := h
    refine AW_aald6 (pc2 := 59) rfl dX0_findArrivals_58 b4 ?_
    refine EW_iload_n (pc2 := 60) rfl dX0_findArrivals_59 1 rfl ?_
    refine AW_invV (M' := MX0_arrivalOf) [.ref (82 + Int32.toNatClampNeg v3), .int v1] (rest := [.int v3, .ref 80]) mlRX0_194 okX0_arrivalOf (pc2 := 63) rfl dX0_findArrivals_60 rfl rfl (Nat.le_of_ble_eq_true rfl) (Nat.le_of_ble_eq_true rfl) (d' := 2) (by omega) q66 ⟨by decide, rfl⟩ (EW_mono (fun _ _ hr => ?_) (sX0_arrivalOf (82 + Int32.toNatClampNeg v3) v1 (isW_of b4) x _ _ 0 0 (Nat.le_refl _) h))
    obtain ⟨r5, x6, rfl, rfl, h⟩ := hr
    refine EW_goto (tgt := 67) dX0_findArrivals_63 (by decide) ?_
    obtain ⟨b7, h⟩ := h
    refine AW_iast (pc2 := 68) rfl dX0_findArrivals_67 q80 b7 ?_
    refine EW_iinc (v3 + 1) (pc2 := 71) rfl dX0_findArrivals_68 3 rfl rfl (by decide) [1, 2, 3, 0, 4] [(0, .ref 66), (1, .int v1), (2, .int v2), (3, .int (v3 + 1)), (4, .int s0)] rfl ?_
    refine EW_goto (tgt := 2) dX0_findArrivals_71 (by decide) ?_
    refine EW_ls [0, 1, 2, 3] rfl ?_
    exact hL2 (v3 + 1) (wr x6 80 (Int32.toNatClampNeg v3) r5) h
set_option maxHeartbeats 4000000 in
set_option maxRecDepth 100000 in
theorem sX0_findArrivals_39 (v1 : Int32) (v2 : Int32) (v3 : Int32)  (x : ab_X) (K : ab_X → Prop) (L2 : Int32 → ab_X → Prop) (d bc bs : Nat) (hdp : 3 ≤ d) (hL2 : ∀ (v3 : Int32) (x : ab_X), L2 v3 x → EW MX0_findArrivals 2 [(0, .ref 66), (1, .int v1), (2, .int v2), (3, .int v3)] [] (aS x) d bc bs (liV K)) (h : wX0_findArrivals_39 v1 v2 v3 x K L2) : EW MX0_findArrivals 39 [(0, .ref 66), (1, .int v1), (2, .int v2), (3, .int v3)] [] (aS x) d bc bs (liV K) := by
  unfold wX0_findArrivals_39 at h
  refine EW_iconst (pc2 := 40) (v := 0) rfl dX0_findArrivals_39 (by decide) ?_
  exact sX0_findArrivals_40 v1 v2 v3 0 x K L2 d bc bs hdp hL2 h
set_option maxHeartbeats 4000000 in
set_option maxRecDepth 100000 in
theorem sX0_findArrivals_2 (v1 : Int32) (v2 : Int32) (v3 : Int32)  (x : ab_X) (K : ab_X → Prop)  (d bc bs : Nat) (hdp : 3 ≤ d)  (h : Lp2 (lX0_findArrivals_2 v1 v2 K ) v3 x) : EW MX0_findArrivals 2 [(0, .ref 66), (1, .int v1), (2, .int v2), (3, .int v3)] [] (aS x) d bc bs (liV K) := by
  refine Lp2.use (P := fun v3 x => EW MX0_findArrivals 2 [(0, .ref 66), (1, .int v1), (2, .int v2), (3, .int v3)] [] (aS x) d bc bs (liV K)) (fun L2 v3 x hL2 h => ?_) v3 x h
  unfold lX0_findArrivals_2 at h
  refine EW_iload_n (pc2 := 3) rfl dX0_findArrivals_2 3 rfl ?_
  refine EW_aload_n (pc2 := 4) rfl dX0_findArrivals_3 0 rfl ?_
  refine AW_geti ⟨gfRX0_55, rfl⟩ (pc2 := 7) rfl dX0_findArrivals_4 q66 ?_
  refine EW_icmp_ge (tgt := 74) (pc2 := 10) rfl dX0_findArrivals_7 (by decide) (fun q => ?_) (fun q => ?_)
  · replace h := h.1 q
    exact EW_vret rfl dX0_findArrivals_74 ⟨_, rfl, rfl, h⟩
  · replace h := h.2 q
    refine EW_aload_n (pc2 := 11) rfl dX0_findArrivals_10 0 rfl ?_
    refine AW_getr (r := 67) ⟨gfRX0_11, rfl⟩ (pc2 := 14) rfl dX0_findArrivals_11 q66 rfl ?_
    refine EW_iload_n (pc2 := 15) rfl dX0_findArrivals_14 3 rfl ?_
    obtain ⟨b1, h⟩ := h
    refine AW_aald6 (pc2 := 16) rfl dX0_findArrivals_15 b1 ?_
    refine AW_geti ⟨gfRX0_75, rfl⟩ (pc2 := 19) rfl dX0_findArrivals_16 (isW.o (isW_of b1)) ?_
    refine EW_if_ne (tgt := 39) (pc2 := 22) rfl dX0_findArrivals_19 (by decide) (fun q => ?_) (fun q => ?_)
    · replace h := h.1 q
      exact sX0_findArrivals_39 v1 v2 v3 x K L2 d bc bs hdp hL2 h
    · replace h := h.2 q
      refine EW_aload_n (pc2 := 23) rfl dX0_findArrivals_22 0 rfl ?_
      refine AW_getr (r := 67) ⟨gfRX0_11, rfl⟩ (pc2 := 26) rfl dX0_findArrivals_23 q66 rfl ?_
      refine EW_iload_n (pc2 := 27) rfl dX0_findArrivals_26 3 rfl ?_
      obtain ⟨b2, h⟩ := h
      refine AW_aald6 (pc2 := 28) rfl dX0_findArrivals_27 b2 ?_
      refine AW_geti ⟨gfRX0_63, rfl⟩ (pc2 := 31) rfl dX0_findArrivals_28 (isW.o (isW_of b2)) ?_
      refine EW_iload_n (pc2 := 32) rfl dX0_findArrivals_31 2 rfl ?_
      refine EW_icmp_ne (tgt := 39) (pc2 := 35) rfl dX0_findArrivals_32 (by decide) (fun q => ?_) (fun q => ?_)
      · replace h := h.1 q
        exact sX0_findArrivals_39 v1 v2 v3 x K L2 d bc bs hdp hL2 h
      · replace h := h.2 q
        refine EW_iconst (pc2 := 36) (v := 1) rfl dX0_findArrivals_35 (by decide) ?_
        refine EW_goto (tgt := 40) dX0_findArrivals_36 (by decide) ?_
        exact sX0_findArrivals_40 v1 v2 v3 1 x K L2 d bc bs hdp hL2 h
set_option maxHeartbeats 4000000 in
set_option maxRecDepth 100000 in
theorem sX0_findArrivals (v1 : Int32) (v2 : Int32)  (x : ab_X) (K : ab_X → Prop) (d bc bs : Nat) (hdp : 3 ≤ d) (h : wX0_findArrivals v1 v2 x K) : EW MX0_findArrivals 0 [(0, .ref 66), (1, .int v1), (2, .int v2)] [] (aS x) d bc bs (liV K) := by
  unfold wX0_findArrivals at h
  refine EW_iconst (pc2 := 1) (v := 0) rfl dX0_findArrivals_0 (by decide) ?_
  refine EW_istore_n (pc2 := 2) rfl dX0_findArrivals_1 (by decide) [1, 2, 3, 0] [(0, .ref 66), (1, .int v1), (2, .int v2), (3, .int 0)] rfl ?_
  exact sX0_findArrivals_2 v1 v2 0 x K d bc bs hdp h
theorem gfRX0_188 : ab_L RX0 188 2 11 := ⟨by decide, by decide, ab_in 438 (by decide +kernel) (by decide +kernel)⟩
theorem gfRX0_191 : ab_L RX0 191 1 5 := ⟨by decide, by decide, ab_in 517 (by decide +kernel) (by decide +kernel)⟩
theorem gfRX0_85 : ab_L RX0 85 1 6 := ⟨by decide, by decide, ab_in 519 (by decide +kernel) (by decide +kernel)⟩
theorem gfRX0_138 : ab_L RX0 138 9 7 := ⟨by decide, by decide, ab_in 377 (by decide +kernel) (by decide +kernel)⟩
theorem mlRX0_177 : Cond.methodLink RX0 177 yX0_findArrivals ∈ ab_G ∧ Cond.instanceMethod yX0_findArrivals ∈ ab_G ∧ Cond.selects RX0 yX0_findArrivals yX0_findArrivals ∈ ab_G := ⟨ab_in 1119 (by decide +kernel) (by decide +kernel), ab_in 1120 (by decide +kernel) (by decide +kernel), ab_in 1121 (by decide +kernel) (by decide +kernel)⟩
abbrev MX0_sendAll : ab_M := (yX0_sendAll, cX0_sendAll, 7, none)
theorem dX0_sendAll_0 : decode cX0_sendAll 0 = .ok (.aload_n 0, 1) := by decide +kernel
theorem dX0_sendAll_1 : decode cX0_sendAll 1 = .ok (.getfield 19, 3) := by decide +kernel
theorem dX0_sendAll_4 : decode cX0_sendAll 4 = .ok (.iload_n 1, 1) := by decide +kernel
theorem dX0_sendAll_5 : decode cX0_sendAll 5 = .ok (.aaload, 1) := by decide +kernel
theorem dX0_sendAll_6 : decode cX0_sendAll 6 = .ok (.astore_n 2, 1) := by decide +kernel
theorem dX0_sendAll_7 : decode cX0_sendAll 7 = .ok (.iconst 0, 1) := by decide +kernel
theorem dX0_sendAll_8 : decode cX0_sendAll 8 = .ok (.istore_n 3, 1) := by decide +kernel
theorem dX0_sendAll_9 : decode cX0_sendAll 9 = .ok (.iload_n 3, 1) := by decide +kernel
theorem dX0_sendAll_10 : decode cX0_sendAll 10 = .ok (.iconst 4, 1) := by decide +kernel
theorem dX0_sendAll_11 : decode cX0_sendAll 11 = .ok (.if_icmp .ge 126, 3) := by decide +kernel
theorem dX0_sendAll_14 : decode cX0_sendAll 14 = .ok (.aload_n 0, 1) := by decide +kernel
theorem dX0_sendAll_15 : decode cX0_sendAll 15 = .ok (.getfield 26, 3) := by decide +kernel
theorem dX0_sendAll_18 : decode cX0_sendAll 18 = .ok (.getfield 138, 3) := by decide +kernel
theorem dX0_sendAll_21 : decode cX0_sendAll 21 = .ok (.iload_n 3, 1) := by decide +kernel
theorem dX0_sendAll_22 : decode cX0_sendAll 22 = .ok (.iaload, 1) := by decide +kernel
theorem dX0_sendAll_23 : decode cX0_sendAll 23 = .ok (.istore 4, 2) := by decide +kernel
theorem dX0_sendAll_25 : decode cX0_sendAll 25 = .ok (.iload 4, 2) := by decide +kernel
theorem dX0_sendAll_27 : decode cX0_sendAll 27 = .ok (.ifCond .le 12, 3) := by decide +kernel
theorem dX0_sendAll_30 : decode cX0_sendAll 30 = .ok (.aload_n 0, 1) := by decide +kernel
theorem dX0_sendAll_31 : decode cX0_sendAll 31 = .ok (.aload_n 2, 1) := by decide +kernel
theorem dX0_sendAll_32 : decode cX0_sendAll 32 = .ok (.getfield 88, 3) := by decide +kernel
theorem dX0_sendAll_35 : decode cX0_sendAll 35 = .ok (.iload_n 3, 1) := by decide +kernel
theorem dX0_sendAll_36 : decode cX0_sendAll 36 = .ok (.invokevirtual 177, 3) := by decide +kernel
theorem dX0_sendAll_39 : decode cX0_sendAll 39 = .ok (.iconst 0, 1) := by decide +kernel
theorem dX0_sendAll_40 : decode cX0_sendAll 40 = .ok (.istore 5, 2) := by decide +kernel
theorem dX0_sendAll_42 : decode cX0_sendAll 42 = .ok (.iload 5, 2) := by decide +kernel
theorem dX0_sendAll_44 : decode cX0_sendAll 44 = .ok (.iload 4, 2) := by decide +kernel
theorem dX0_sendAll_46 : decode cX0_sendAll 46 = .ok (.if_icmp .ge 85, 3) := by decide +kernel
theorem dX0_sendAll_49 : decode cX0_sendAll 49 = .ok (.aload_n 0, 1) := by decide +kernel
theorem dX0_sendAll_50 : decode cX0_sendAll 50 = .ok (.invokevirtual 180, 3) := by decide +kernel
theorem dX0_sendAll_53 : decode cX0_sendAll 53 = .ok (.istore 6, 2) := by decide +kernel
theorem dX0_sendAll_55 : decode cX0_sendAll 55 = .ok (.iload 6, 2) := by decide +kernel
theorem dX0_sendAll_57 : decode cX0_sendAll 57 = .ok (.iconst (-1), 1) := by decide +kernel
theorem dX0_sendAll_58 : decode cX0_sendAll 58 = .ok (.if_icmp .ne 16, 3) := by decide +kernel
theorem dX0_sendAll_61 : decode cX0_sendAll 61 = .ok (.aload_n 2, 1) := by decide +kernel
theorem dX0_sendAll_62 : decode cX0_sendAll 62 = .ok (.dup, 1) := by decide +kernel
theorem dX0_sendAll_63 : decode cX0_sendAll 63 = .ok (.getfield 85, 3) := by decide +kernel
theorem dX0_sendAll_66 : decode cX0_sendAll 66 = .ok (.iconst 1, 1) := by decide +kernel
theorem dX0_sendAll_67 : decode cX0_sendAll 67 = .ok (.iadd, 1) := by decide +kernel
theorem dX0_sendAll_68 : decode cX0_sendAll 68 = .ok (.putfield 85, 3) := by decide +kernel
theorem dX0_sendAll_71 : decode cX0_sendAll 71 = .ok (.goto 54, 3) := by decide +kernel
theorem dX0_sendAll_74 : decode cX0_sendAll 74 = .ok (.aload_n 0, 1) := by decide +kernel
theorem dX0_sendAll_75 : decode cX0_sendAll 75 = .ok (.getfield 11, 3) := by decide +kernel
theorem dX0_sendAll_78 : decode cX0_sendAll 78 = .ok (.iload 6, 2) := by decide +kernel
theorem dX0_sendAll_80 : decode cX0_sendAll 80 = .ok (.aaload, 1) := by decide +kernel
theorem dX0_sendAll_81 : decode cX0_sendAll 81 = .ok (.iconst 1, 1) := by decide +kernel
theorem dX0_sendAll_82 : decode cX0_sendAll 82 = .ok (.aload_n 2, 1) := by decide +kernel
theorem dX0_sendAll_83 : decode cX0_sendAll 83 = .ok (.getfield 88, 3) := by decide +kernel
theorem dX0_sendAll_86 : decode cX0_sendAll 86 = .ok (.aload_n 0, 1) := by decide +kernel
theorem dX0_sendAll_87 : decode cX0_sendAll 87 = .ok (.getfield 39, 3) := by decide +kernel
theorem dX0_sendAll_90 : decode cX0_sendAll 90 = .ok (.iload 6, 2) := by decide +kernel
theorem dX0_sendAll_92 : decode cX0_sendAll 92 = .ok (.iaload, 1) := by decide +kernel
theorem dX0_sendAll_93 : decode cX0_sendAll 93 = .ok (.invokevirtual 184, 3) := by decide +kernel
theorem dX0_sendAll_96 : decode cX0_sendAll 96 = .ok (.aload_n 0, 1) := by decide +kernel
theorem dX0_sendAll_97 : decode cX0_sendAll 97 = .ok (.getfield 11, 3) := by decide +kernel
theorem dX0_sendAll_100 : decode cX0_sendAll 100 = .ok (.iload 6, 2) := by decide +kernel
theorem dX0_sendAll_102 : decode cX0_sendAll 102 = .ok (.aaload, 1) := by decide +kernel
theorem dX0_sendAll_103 : decode cX0_sendAll 103 = .ok (.iload_n 1, 1) := by decide +kernel
theorem dX0_sendAll_104 : decode cX0_sendAll 104 = .ok (.putfield 188, 3) := by decide +kernel
theorem dX0_sendAll_107 : decode cX0_sendAll 107 = .ok (.aload_n 0, 1) := by decide +kernel
theorem dX0_sendAll_108 : decode cX0_sendAll 108 = .ok (.getfield 39, 3) := by decide +kernel
theorem dX0_sendAll_111 : decode cX0_sendAll 111 = .ok (.iload 6, 2) := by decide +kernel
theorem dX0_sendAll_113 : decode cX0_sendAll 113 = .ok (.iconst (-1), 1) := by decide +kernel
theorem dX0_sendAll_114 : decode cX0_sendAll 114 = .ok (.iastore, 1) := by decide +kernel
theorem dX0_sendAll_115 : decode cX0_sendAll 115 = .ok (.aload_n 2, 1) := by decide +kernel
theorem dX0_sendAll_116 : decode cX0_sendAll 116 = .ok (.dup, 1) := by decide +kernel
theorem dX0_sendAll_117 : decode cX0_sendAll 117 = .ok (.getfield 191, 3) := by decide +kernel
theorem dX0_sendAll_120 : decode cX0_sendAll 120 = .ok (.iconst 1, 1) := by decide +kernel
theorem dX0_sendAll_121 : decode cX0_sendAll 121 = .ok (.iadd, 1) := by decide +kernel
theorem dX0_sendAll_122 : decode cX0_sendAll 122 = .ok (.putfield 191, 3) := by decide +kernel
theorem dX0_sendAll_125 : decode cX0_sendAll 125 = .ok (.iinc 5 1, 3) := by decide +kernel
theorem dX0_sendAll_128 : decode cX0_sendAll 128 = .ok (.goto (-86), 3) := by decide +kernel
theorem dX0_sendAll_131 : decode cX0_sendAll 131 = .ok (.iinc 3 1, 3) := by decide +kernel
theorem dX0_sendAll_134 : decode cX0_sendAll 134 = .ok (.goto (-125), 3) := by decide +kernel
theorem dX0_sendAll_137 : decode cX0_sendAll 137 = .ok (.return_, 1) := by decide +kernel
theorem okX0_sendAll : ab_okM MX0_sendAll 1 := ⟨by decide, ⟨by decide, by decide⟩, ab_in 1118 (by decide +kernel) (by decide +kernel), ab_in 92 (by decide +kernel) (by decide +kernel), by decide +kernel, by decide⟩
set_option maxHeartbeats 4000000 in
set_option maxRecDepth 100000 in
theorem sX0_sendAll_42 (v1 : Int32) (v2 : Nat) (v3 : Int32) (v4 : Int32) (v5 : Int32) (hv2 : isK v2) (x : ab_X) (K : ab_X → Prop) (L9 : Int32 → ab_X → Prop) (d bc bs : Nat) (hdp : 4 ≤ d) (hL9 : ∀ (v3 : Int32) (x : ab_X), L9 v3 x → EW MX0_sendAll 9 [(0, .ref 66), (1, .int v1), (2, .ref v2), (3, .int v3)] [] (aS x) d bc bs (liV K)) (h : Lp2 (lX0_sendAll_42 v1 v2 v3 v4 K L9) v5 x) : EW MX0_sendAll 42 [(0, .ref 66), (1, .int v1), (2, .ref v2), (3, .int v3), (4, .int v4), (5, .int v5)] [] (aS x) d bc bs (liV K) := by
  refine Lp2.use (P := fun v5 x => EW MX0_sendAll 42 [(0, .ref 66), (1, .int v1), (2, .ref v2), (3, .int v3), (4, .int v4), (5, .int v5)] [] (aS x) d bc bs (liV K)) (fun L42 v5 x hL42 h => ?_) v5 x h
  unfold lX0_sendAll_42 at h
  refine EW_iload (pc2 := 44) rfl dX0_sendAll_42 5 rfl ?_
  refine EW_iload (pc2 := 46) rfl dX0_sendAll_44 4 rfl ?_
  refine EW_icmp_ge (tgt := 131) (pc2 := 49) rfl dX0_sendAll_46 (by decide) (fun q => ?_) (fun q => ?_)
  · replace h := h.1 q
    refine EW_iinc (v3 + 1) (pc2 := 134) rfl dX0_sendAll_131 3 rfl rfl (by decide) [1, 2, 3, 0, 4, 5] [(0, .ref 66), (1, .int v1), (2, .ref v2), (3, .int (v3 + 1)), (4, .int v4), (5, .int v5)] rfl ?_
    refine EW_goto (tgt := 9) dX0_sendAll_134 (by decide) ?_
    refine EW_ls [0, 1, 2, 3] rfl ?_
    exact hL9 (v3 + 1) x h
  · replace h := h.2 q
    refine EW_aload_n (pc2 := 50) rfl dX0_sendAll_49 0 rfl ?_
    refine AW_invV (M' := MX0_soonest) [] (rest := []) mlRX0_180 okX0_soonest (pc2 := 53) rfl dX0_sendAll_50 rfl rfl (Nat.le_of_ble_eq_true rfl) (Nat.le_of_ble_eq_true rfl) (d' := 0) (by omega) q66 ⟨by decide, rfl⟩ (EW_mono (fun _ _ hr => ?_) (sX0_soonest   x _ _ 0 0 (Nat.le_refl _) h))
    obtain ⟨r4, rfl, rfl, h⟩ := hr
    refine EW_istore (pc2 := 55) rfl dX0_sendAll_53 (by decide) [1, 2, 3, 4, 5, 6, 0] [(0, .ref 66), (1, .int v1), (2, .ref v2), (3, .int v3), (4, .int v4), (5, .int v5), (6, .int r4)] rfl ?_
    refine EW_iload (pc2 := 57) rfl dX0_sendAll_55 6 rfl ?_
    refine EW_iconst (pc2 := 58) (v := (-1)) rfl dX0_sendAll_57 (by decide) ?_
    refine EW_icmp_ne (tgt := 74) (pc2 := 61) rfl dX0_sendAll_58 (by decide) (fun q => ?_) (fun q => ?_)
    · replace h := h.1 q
      refine EW_aload_n (pc2 := 75) rfl dX0_sendAll_74 0 rfl ?_
      refine AW_getr (r := 67) ⟨gfRX0_11, rfl⟩ (pc2 := 78) rfl dX0_sendAll_75 q66 rfl ?_
      refine EW_iload (pc2 := 80) rfl dX0_sendAll_78 6 rfl ?_
      obtain ⟨b5, h⟩ := h
      refine AW_aald6 (pc2 := 81) rfl dX0_sendAll_80 b5 ?_
      refine EW_iconst (pc2 := 82) (v := 1) rfl dX0_sendAll_81 (by decide) ?_
      refine EW_aload_n (pc2 := 83) rfl dX0_sendAll_82 2 rfl ?_
      refine AW_geti ⟨gfRX0_88, rfl⟩ (pc2 := 86) rfl dX0_sendAll_83 (isK.o hv2) ?_
      refine EW_aload_n (pc2 := 87) rfl dX0_sendAll_86 0 rfl ?_
      refine AW_getr (r := 80) ⟨gfRX0_39, rfl⟩ (pc2 := 90) rfl dX0_sendAll_87 q66 rfl ?_
      refine EW_iload (pc2 := 92) rfl dX0_sendAll_90 6 rfl ?_
      obtain ⟨b6, h⟩ := h
      refine AW_iald (pc2 := 93) rfl dX0_sendAll_92 q80 b6 ?_
      refine AW_invV (M' := MX2_set) [.int 1, .int (x.1 v2 0), .int (x.1 80 (Int32.toNatClampNeg r4))] (rest := []) mlRX0_184 okX2_set (pc2 := 96) rfl dX0_sendAll_93 rfl rfl (Nat.le_of_ble_eq_true rfl) (Nat.le_of_ble_eq_true rfl) (d' := 1) (by omega) (isW.o (isW_of b5)) ⟨by decide, rfl⟩ (EW_mono (fun _ _ hr => ?_) (sX2_set (82 + Int32.toNatClampNeg r4) 1 (x.1 v2 0) (x.1 80 (Int32.toNatClampNeg r4)) (isW_of b5) x _ _ 0 0 (Nat.le_refl _) h))
      obtain ⟨x7, rfl, rfl, h⟩ := hr
      refine EW_aload_n (pc2 := 97) rfl dX0_sendAll_96 0 rfl ?_
      refine AW_getr (r := 67) ⟨gfRX0_11, rfl⟩ (pc2 := 100) rfl dX0_sendAll_97 q66 rfl ?_
      refine EW_iload (pc2 := 102) rfl dX0_sendAll_100 6 rfl ?_
      obtain ⟨b8, h⟩ := h
      refine AW_aald6 (pc2 := 103) rfl dX0_sendAll_102 b8 ?_
      refine EW_iload_n (pc2 := 104) rfl dX0_sendAll_103 1 rfl ?_
      refine AW_puti ⟨gfRX0_188, rfl, rfl⟩ (pc2 := 107) rfl dX0_sendAll_104 (isW.o (isW_of b8)) ?_
      refine EW_aload_n (pc2 := 108) rfl dX0_sendAll_107 0 rfl ?_
      refine AW_getr (r := 80) ⟨gfRX0_39, rfl⟩ (pc2 := 111) rfl dX0_sendAll_108 q66 rfl ?_
      refine EW_iload (pc2 := 113) rfl dX0_sendAll_111 6 rfl ?_
      refine EW_iconst (pc2 := 114) (v := (-1)) rfl dX0_sendAll_113 (by decide) ?_
      obtain ⟨b9, h⟩ := h
      refine AW_iast (pc2 := 115) rfl dX0_sendAll_114 q80 b9 ?_
      refine EW_aload_n (pc2 := 116) rfl dX0_sendAll_115 2 rfl ?_
      refine EW_dup (pc2 := 117) rfl dX0_sendAll_116 rfl ?_
      refine AW_geti ⟨gfRX0_191, rfl⟩ (pc2 := 120) rfl dX0_sendAll_117 (isK.o hv2) ?_
      refine EW_iconst (pc2 := 121) (v := 1) rfl dX0_sendAll_120 (by decide) ?_
      refine EW_iadd (pc2 := 122) rfl dX0_sendAll_121 ?_
      refine AW_puti ⟨gfRX0_191, rfl, rfl⟩ (pc2 := 125) rfl dX0_sendAll_122 (isK.o hv2) ?_
      refine EW_iinc (v5 + 1) (pc2 := 128) rfl dX0_sendAll_125 5 rfl rfl (by decide) [1, 2, 3, 4, 5, 0, 6] [(0, .ref 66), (1, .int v1), (2, .ref v2), (3, .int v3), (4, .int v4), (5, .int (v5 + 1)), (6, .int r4)] rfl ?_
      refine EW_goto (tgt := 42) dX0_sendAll_128 (by decide) ?_
      refine EW_ls [0, 1, 2, 3, 4, 5] rfl ?_
      exact hL42 (v5 + 1) (wr (wr (wr x7 (82 + Int32.toNatClampNeg r4) 11 v1) 80 (Int32.toNatClampNeg r4) (-1)) v2 5 (((wr (wr x7 (82 + Int32.toNatClampNeg r4) 11 v1) 80 (Int32.toNatClampNeg r4) (-1)).1 v2 5) + 1)) h
    · replace h := h.2 q
      refine EW_aload_n (pc2 := 62) rfl dX0_sendAll_61 2 rfl ?_
      refine EW_dup (pc2 := 63) rfl dX0_sendAll_62 rfl ?_
      refine AW_geti ⟨gfRX0_85, rfl⟩ (pc2 := 66) rfl dX0_sendAll_63 (isK.o hv2) ?_
      refine EW_iconst (pc2 := 67) (v := 1) rfl dX0_sendAll_66 (by decide) ?_
      refine EW_iadd (pc2 := 68) rfl dX0_sendAll_67 ?_
      refine AW_puti ⟨gfRX0_85, rfl, rfl⟩ (pc2 := 71) rfl dX0_sendAll_68 (isK.o hv2) ?_
      refine EW_goto (tgt := 125) dX0_sendAll_71 (by decide) ?_
      refine EW_iinc (v5 + 1) (pc2 := 128) rfl dX0_sendAll_125 5 rfl rfl (by decide) [1, 2, 3, 4, 5, 0, 6] [(0, .ref 66), (1, .int v1), (2, .ref v2), (3, .int v3), (4, .int v4), (5, .int (v5 + 1)), (6, .int r4)] rfl ?_
      refine EW_goto (tgt := 42) dX0_sendAll_128 (by decide) ?_
      refine EW_ls [0, 1, 2, 3, 4, 5] rfl ?_
      exact hL42 (v5 + 1) (wr x v2 6 ((x.1 v2 6) + 1)) h
set_option maxHeartbeats 4000000 in
set_option maxRecDepth 100000 in
theorem sX0_sendAll_9 (v1 : Int32) (v2 : Nat) (v3 : Int32) (hv2 : isK v2) (x : ab_X) (K : ab_X → Prop)  (d bc bs : Nat) (hdp : 4 ≤ d)  (h : Lp2 (lX0_sendAll_9 v1 v2 K ) v3 x) : EW MX0_sendAll 9 [(0, .ref 66), (1, .int v1), (2, .ref v2), (3, .int v3)] [] (aS x) d bc bs (liV K) := by
  refine Lp2.use (P := fun v3 x => EW MX0_sendAll 9 [(0, .ref 66), (1, .int v1), (2, .ref v2), (3, .int v3)] [] (aS x) d bc bs (liV K)) (fun L9 v3 x hL9 h => ?_) v3 x h
  unfold lX0_sendAll_9 at h
  refine EW_iload_n (pc2 := 10) rfl dX0_sendAll_9 3 rfl ?_
  refine EW_iconst (pc2 := 11) (v := 4) rfl dX0_sendAll_10 (by decide) ?_
  refine EW_icmp_ge (tgt := 137) (pc2 := 14) rfl dX0_sendAll_11 (by decide) (fun q => ?_) (fun q => ?_)
  · replace h := h.1 q
    exact EW_vret rfl dX0_sendAll_137 ⟨_, rfl, rfl, h⟩
  · replace h := h.2 q
    refine EW_aload_n (pc2 := 15) rfl dX0_sendAll_14 0 rfl ?_
    refine AW_getr (r := 69) ⟨gfRX0_26, rfl⟩ (pc2 := 18) rfl dX0_sendAll_15 q66 rfl ?_
    refine AW_getr (r := 72) ⟨gfRX0_138, rfl⟩ (pc2 := 21) rfl dX0_sendAll_18 q69 rfl ?_
    refine EW_iload_n (pc2 := 22) rfl dX0_sendAll_21 3 rfl ?_
    obtain ⟨b2, h⟩ := h
    refine AW_iald (pc2 := 23) rfl dX0_sendAll_22 q72 b2 ?_
    refine EW_istore (pc2 := 25) rfl dX0_sendAll_23 (by decide) [1, 2, 3, 4, 0] [(0, .ref 66), (1, .int v1), (2, .ref v2), (3, .int v3), (4, .int (x.1 72 (Int32.toNatClampNeg v3)))] rfl ?_
    refine EW_iload (pc2 := 27) rfl dX0_sendAll_25 4 rfl ?_
    refine EW_if_le (tgt := 39) (pc2 := 30) rfl dX0_sendAll_27 (by decide) (fun q => ?_) (fun q => ?_)
    · replace h := h.1 q
      refine EW_iconst (pc2 := 40) (v := 0) rfl dX0_sendAll_39 (by decide) ?_
      refine EW_istore (pc2 := 42) rfl dX0_sendAll_40 (by decide) [1, 2, 3, 4, 5, 0] [(0, .ref 66), (1, .int v1), (2, .ref v2), (3, .int v3), (4, .int (x.1 72 (Int32.toNatClampNeg v3))), (5, .int 0)] rfl ?_
      exact sX0_sendAll_42 v1 v2 v3 (x.1 72 (Int32.toNatClampNeg v3)) 0 hv2 x K L9 d bc bs hdp hL9 h
    · replace h := h.2 q
      refine EW_aload_n (pc2 := 31) rfl dX0_sendAll_30 0 rfl ?_
      refine EW_aload_n (pc2 := 32) rfl dX0_sendAll_31 2 rfl ?_
      refine AW_geti ⟨gfRX0_88, rfl⟩ (pc2 := 35) rfl dX0_sendAll_32 (isK.o hv2) ?_
      refine EW_iload_n (pc2 := 36) rfl dX0_sendAll_35 3 rfl ?_
      refine AW_invV (M' := MX0_findArrivals) [.int (x.1 v2 0), .int v3] (rest := []) mlRX0_177 okX0_findArrivals (pc2 := 39) rfl dX0_sendAll_36 rfl rfl (Nat.le_of_ble_eq_true rfl) (Nat.le_of_ble_eq_true rfl) (d' := 3) (by omega) q66 ⟨by decide, rfl⟩ (EW_mono (fun _ _ hr => ?_) (sX0_findArrivals (x.1 v2 0) v3  x _ _ 0 0 (Nat.le_refl _) h))
      obtain ⟨x3, rfl, rfl, h⟩ := hr
      refine EW_iconst (pc2 := 40) (v := 0) rfl dX0_sendAll_39 (by decide) ?_
      refine EW_istore (pc2 := 42) rfl dX0_sendAll_40 (by decide) [1, 2, 3, 4, 5, 0] [(0, .ref 66), (1, .int v1), (2, .ref v2), (3, .int v3), (4, .int (x.1 72 (Int32.toNatClampNeg v3))), (5, .int 0)] rfl ?_
      exact sX0_sendAll_42 v1 v2 v3 (x.1 72 (Int32.toNatClampNeg v3)) 0 hv2 x3 K L9 d bc bs hdp hL9 h
set_option maxHeartbeats 4000000 in
set_option maxRecDepth 100000 in
theorem sX0_sendAll (v1 : Int32)  (x : ab_X) (K : ab_X → Prop) (d bc bs : Nat) (hdp : 4 ≤ d) (h : wX0_sendAll v1 x K) : EW MX0_sendAll 0 [(0, .ref 66), (1, .int v1)] [] (aS x) d bc bs (liV K) := by
  unfold wX0_sendAll at h
  refine EW_aload_n (pc2 := 1) rfl dX0_sendAll_0 0 rfl ?_
  refine AW_getr (r := 68) ⟨gfRX0_19, rfl⟩ (pc2 := 4) rfl dX0_sendAll_1 q66 rfl ?_
  refine EW_iload_n (pc2 := 5) rfl dX0_sendAll_4 1 rfl ?_
  obtain ⟨b1, h⟩ := h
  refine AW_aald7 (pc2 := 6) rfl dX0_sendAll_5 b1 ?_
  refine EW_astore_n (pc2 := 7) rfl dX0_sendAll_6 (by decide) [1, 2, 0] [(0, .ref 66), (1, .int v1), (2, .ref (98 + Int32.toNatClampNeg v1))] rfl ?_
  refine EW_iconst (pc2 := 8) (v := 0) rfl dX0_sendAll_7 (by decide) ?_
  refine EW_istore_n (pc2 := 9) rfl dX0_sendAll_8 (by decide) [1, 2, 3, 0] [(0, .ref 66), (1, .int v1), (2, .ref (98 + Int32.toNatClampNeg v1)), (3, .int 0)] rfl ?_
  exact sX0_sendAll_9 v1 (98 + Int32.toNatClampNeg v1) 0 (isK_of b1) x K d bc bs hdp h
