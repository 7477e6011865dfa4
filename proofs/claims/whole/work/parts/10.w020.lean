theorem gfRX5_17 : ab_L RX5 17 5 2 := ⟨by decide, by decide, ab_in 632 (by decide +kernel) (by decide +kernel)⟩
theorem gfRX5_46 : ab_L RX5 46 5 4 := ⟨by decide, by decide, ab_in 634 (by decide +kernel) (by decide +kernel)⟩
theorem gfRX5_21 : ab_L RX5 21 5 3 := ⟨by decide, by decide, ab_in 633 (by decide +kernel) (by decide +kernel)⟩
abbrev MX5_addAct : ab_M := (yX5_addAct, cX5_addAct, 3, (some .int))
theorem dX5_addAct_0 : decode cX5_addAct 0 = .ok (.aload_n 0, 1) := by decide +kernel
theorem dX5_addAct_1 : decode cX5_addAct 1 = .ok (.getfield 17, 3) := by decide +kernel
theorem dX5_addAct_4 : decode cX5_addAct 4 = .ok (.aload_n 0, 1) := by decide +kernel
theorem dX5_addAct_5 : decode cX5_addAct 5 = .ok (.getfield 46, 3) := by decide +kernel
theorem dX5_addAct_8 : decode cX5_addAct 8 = .ok (.iload_n 1, 1) := by decide +kernel
theorem dX5_addAct_9 : decode cX5_addAct 9 = .ok (.iastore, 1) := by decide +kernel
theorem dX5_addAct_10 : decode cX5_addAct 10 = .ok (.aload_n 0, 1) := by decide +kernel
theorem dX5_addAct_11 : decode cX5_addAct 11 = .ok (.getfield 21, 3) := by decide +kernel
theorem dX5_addAct_14 : decode cX5_addAct 14 = .ok (.aload_n 0, 1) := by decide +kernel
theorem dX5_addAct_15 : decode cX5_addAct 15 = .ok (.getfield 46, 3) := by decide +kernel
theorem dX5_addAct_18 : decode cX5_addAct 18 = .ok (.iload_n 2, 1) := by decide +kernel
theorem dX5_addAct_19 : decode cX5_addAct 19 = .ok (.iastore, 1) := by decide +kernel
theorem dX5_addAct_20 : decode cX5_addAct 20 = .ok (.aload_n 0, 1) := by decide +kernel
theorem dX5_addAct_21 : decode cX5_addAct 21 = .ok (.dup, 1) := by decide +kernel
theorem dX5_addAct_22 : decode cX5_addAct 22 = .ok (.getfield 46, 3) := by decide +kernel
theorem dX5_addAct_25 : decode cX5_addAct 25 = .ok (.iconst 1, 1) := by decide +kernel
theorem dX5_addAct_26 : decode cX5_addAct 26 = .ok (.iadd, 1) := by decide +kernel
theorem dX5_addAct_27 : decode cX5_addAct 27 = .ok (.putfield 46, 3) := by decide +kernel
theorem dX5_addAct_30 : decode cX5_addAct 30 = .ok (.aload_n 0, 1) := by decide +kernel
theorem dX5_addAct_31 : decode cX5_addAct 31 = .ok (.getfield 46, 3) := by decide +kernel
theorem dX5_addAct_34 : decode cX5_addAct 34 = .ok (.iconst 1, 1) := by decide +kernel
theorem dX5_addAct_35 : decode cX5_addAct 35 = .ok (.isub, 1) := by decide +kernel
theorem dX5_addAct_36 : decode cX5_addAct 36 = .ok (.ireturn, 1) := by decide +kernel
theorem okX5_addAct : ab_okM MX5_addAct 2 := ⟨by decide, ⟨by decide, by decide⟩, ab_in 1518 (by decide +kernel) (by decide +kernel), ab_in 97 (by decide +kernel) (by decide +kernel), by decide +kernel, by decide⟩
set_option maxHeartbeats 4000000 in
set_option maxRecDepth 100000 in
def wX5_addAct (v1 : Int32) (v2 : Int32) (x : ab_X) (K : Int32 → ab_X → Prop) : Prop := (vp_in (x.1 165 4) 12 ∧ vp_in ((wr x 167 (Int32.toNatClampNeg (x.1 165 4)) v1).1 165 4) 12 ∧ K (((wr (wr (wr x 167 (Int32.toNatClampNeg (x.1 165 4)) v1) 168 (Int32.toNatClampNeg ((wr x 167 (Int32.toNatClampNeg (x.1 165 4)) v1).1 165 4)) v2) 165 4 (((wr (wr x 167 (Int32.toNatClampNeg (x.1 165 4)) v1) 168 (Int32.toNatClampNeg ((wr x 167 (Int32.toNatClampNeg (x.1 165 4)) v1).1 165 4)) v2).1 165 4) + 1)).1 165 4) - 1) (wr (wr (wr x 167 (Int32.toNatClampNeg (x.1 165 4)) v1) 168 (Int32.toNatClampNeg ((wr x 167 (Int32.toNatClampNeg (x.1 165 4)) v1).1 165 4)) v2) 165 4 (((wr (wr x 167 (Int32.toNatClampNeg (x.1 165 4)) v1) 168 (Int32.toNatClampNeg ((wr x 167 (Int32.toNatClampNeg (x.1 165 4)) v1).1 165 4)) v2).1 165 4) + 1)))
set_option maxHeartbeats 4000000 in
set_option maxRecDepth 100000 in
theorem sX5_addAct (v1 : Int32) (v2 : Int32)  (x : ab_X) (K : Int32 → ab_X → Prop) (d bc bs : Nat) (hdp : 0 ≤ d) (h : wX5_addAct v1 v2 x K) : EW MX5_addAct 0 [(0, .ref 165), (1, .int v1), (2, .int v2)] [] (aS x) d bc bs (liI K) := by
  unfold wX5_addAct at h
  refine EW_aload_n (pc2 := 1) rfl dX5_addAct_0 0 rfl ?_
  refine AW_getr (r := 167) ⟨gfRX5_17, rfl⟩ (pc2 := 4) rfl dX5_addAct_1 q165 rfl ?_
  refine EW_aload_n (pc2 := 5) rfl dX5_addAct_4 0 rfl ?_
  refine AW_geti ⟨gfRX5_46, rfl⟩ (pc2 := 8) rfl dX5_addAct_5 q165 ?_
  refine EW_iload_n (pc2 := 9) rfl dX5_addAct_8 1 rfl ?_
  obtain ⟨b1, h⟩ := h
  refine AW_iast (pc2 := 10) rfl dX5_addAct_9 q167 b1 ?_
  refine EW_aload_n (pc2 := 11) rfl dX5_addAct_10 0 rfl ?_
  refine AW_getr (r := 168) ⟨gfRX5_21, rfl⟩ (pc2 := 14) rfl dX5_addAct_11 q165 rfl ?_
  refine EW_aload_n (pc2 := 15) rfl dX5_addAct_14 0 rfl ?_
  refine AW_geti ⟨gfRX5_46, rfl⟩ (pc2 := 18) rfl dX5_addAct_15 q165 ?_
  refine EW_iload_n (pc2 := 19) rfl dX5_addAct_18 2 rfl ?_
  obtain ⟨b2, h⟩ := h
  refine AW_iast (pc2 := 20) rfl dX5_addAct_19 q168 b2 ?_
  refine EW_aload_n (pc2 := 21) rfl dX5_addAct_20 0 rfl ?_
  refine EW_dup (pc2 := 22) rfl dX5_addAct_21 rfl ?_
  refine AW_geti ⟨gfRX5_46, rfl⟩ (pc2 := 25) rfl dX5_addAct_22 q165 ?_
  refine EW_iconst (pc2 := 26) (v := 1) rfl dX5_addAct_25 (by decide) ?_
  refine EW_iadd (pc2 := 27) rfl dX5_addAct_26 ?_
  refine AW_puti ⟨gfRX5_46, rfl, rfl⟩ (pc2 := 30) rfl dX5_addAct_27 q165 ?_
  refine EW_aload_n (pc2 := 31) rfl dX5_addAct_30 0 rfl ?_
  refine AW_geti ⟨gfRX5_46, rfl⟩ (pc2 := 34) rfl dX5_addAct_31 q165 ?_
  refine EW_iconst (pc2 := 35) (v := 1) rfl dX5_addAct_34 (by decide) ?_
  refine EW_isub (pc2 := 36) rfl dX5_addAct_35 ?_
  exact AW_iret rfl dX5_addAct_36 ⟨_, _, rfl, rfl, h⟩
theorem mmRX9_28 : Cond.methodLink RX9 28 arraycopyName ∈ ab_G ∧ Cond.native arraycopyName ∈ ab_G ∧ Cond.static arraycopyName ∈ ab_G ∧ Cond.initialized "java/lang/System" ∈ ab_G := ⟨ab_in 1335 (by decide +kernel) (by decide +kernel), ab_in 1337 (by decide +kernel) (by decide +kernel), ab_in 1336 (by decide +kernel) (by decide +kernel), ab_in 111 (by decide +kernel) (by decide +kernel)⟩
abbrev MX9_become : ab_M := (yX9_become, cX9_become, 2, none)
theorem dX9_become_0 : decode cX9_become 0 = .ok (.aload_n 1, 1) := by decide +kernel
theorem dX9_become_1 : decode cX9_become 1 = .ok (.getfield 9, 3) := by decide +kernel
theorem dX9_become_4 : decode cX9_become 4 = .ok (.iconst 0, 1) := by decide +kernel
theorem dX9_become_5 : decode cX9_become 5 = .ok (.aload_n 0, 1) := by decide +kernel
theorem dX9_become_6 : decode cX9_become 6 = .ok (.getfield 9, 3) := by decide +kernel
theorem dX9_become_9 : decode cX9_become 9 = .ok (.iconst 0, 1) := by decide +kernel
theorem dX9_become_10 : decode cX9_become 10 = .ok (.sipush 200, 3) := by decide +kernel
theorem dX9_become_13 : decode cX9_become 13 = .ok (.invokestatic 28, 3) := by decide +kernel
theorem dX9_become_16 : decode cX9_become 16 = .ok (.aload_n 0, 1) := by decide +kernel
theorem dX9_become_17 : decode cX9_become 17 = .ok (.aload_n 1, 1) := by decide +kernel
theorem dX9_become_18 : decode cX9_become 18 = .ok (.getfield 24, 3) := by decide +kernel
theorem dX9_become_21 : decode cX9_become 21 = .ok (.putfield 24, 3) := by decide +kernel
theorem dX9_become_24 : decode cX9_become 24 = .ok (.return_, 1) := by decide +kernel
theorem okX9_become : ab_okM MX9_become 1 := ⟨by decide, ⟨by decide, by decide⟩, ab_in 1334 (by decide +kernel) (by decide +kernel), ab_in 93 (by decide +kernel) (by decide +kernel), by decide +kernel, by decide⟩
set_option maxHeartbeats 4000000 in
set_option maxRecDepth 100000 in
def wX9_become (v0 : Nat) (v1 : Nat) (x : ab_X) (K : ab_X → Prop) : Prop := (¬ 0 < 0 ∧ ¬ 0 < 0 ∧ ¬ 200 < 0 ∧ (Int32.toNatClampNeg 0) + (Int32.toNatClampNeg 200) ≤ 200 ∧ (Int32.toNatClampNeg 0) + (Int32.toNatClampNeg 200) ≤ 200 ∧ K (wr (wrA x (v0 + 1) (va_cpy (x.1 (v1 + 1)) (x.1 (v0 + 1)) (Int32.toNatClampNeg 0) (Int32.toNatClampNeg 0) (Int32.toNatClampNeg 200))) v0 1 ((wrA x (v0 + 1) (va_cpy (x.1 (v1 + 1)) (x.1 (v0 + 1)) (Int32.toNatClampNeg 0) (Int32.toNatClampNeg 0) (Int32.toNatClampNeg 200))).1 v1 1)))
set_option maxHeartbeats 4000000 in
set_option maxRecDepth 100000 in
theorem sX9_become (v0 : Nat) (v1 : Nat) (hv0 : isT v0) (hv1 : isT v1) (x : ab_X) (K : ab_X → Prop) (d bc bs : Nat) (hdp : 1 ≤ d) (h : wX9_become v0 v1 x K) : EW MX9_become 0 [(0, .ref v0), (1, .ref v1)] [] (aS x) d bc bs (liV K) := by
  unfold wX9_become at h
  refine EW_aload_n (pc2 := 1) rfl dX9_become_0 1 rfl ?_
  refine AW_getr (r := (v1 + 1)) ⟨gfRX9_9, rfl⟩ (pc2 := 4) rfl dX9_become_1 (isT.o hv1) (isT.r0 hv1) ?_
  refine EW_iconst (pc2 := 5) (v := 0) rfl dX9_become_4 (by decide) ?_
  refine EW_aload_n (pc2 := 6) rfl dX9_become_5 0 rfl ?_
  refine AW_getr (r := (v0 + 1)) ⟨gfRX9_9, rfl⟩ (pc2 := 9) rfl dX9_become_6 (isT.o hv0) (isT.r0 hv0) ?_
  refine EW_iconst (pc2 := 10) (v := 0) rfl dX9_become_9 (by decide) ?_
  refine EW_sipush (pc2 := 13) (v := 200) rfl dX9_become_10 (by decide) ?_
  obtain ⟨c1, h⟩ := h
  obtain ⟨c2, h⟩ := h
  obtain ⟨c3, h⟩ := h
  obtain ⟨c4, h⟩ := h
  obtain ⟨c5, h⟩ := h
  refine AW_copyi mmRX9_28 (pc2 := 16) rfl dX9_become_13 (Nat.le_of_ble_eq_true rfl) (by omega) (isT.a0 hv1) (isT.a0 hv0) c1 c2 c3 c4 c5 ?_
  refine EW_aload_n (pc2 := 17) rfl dX9_become_16 0 rfl ?_
  refine EW_aload_n (pc2 := 18) rfl dX9_become_17 1 rfl ?_
  refine AW_geti ⟨gfRX9_24, rfl⟩ (pc2 := 21) rfl dX9_become_18 (isT.o hv1) ?_
  refine AW_puti ⟨gfRX9_24, rfl, rfl⟩ (pc2 := 24) rfl dX9_become_21 (isT.o hv0) ?_
  exact EW_vret rfl dX9_become_24 ⟨_, rfl, rfl, h⟩
theorem gfRX8_24 : ab_L RX8 24 8 4 := ⟨by decide, by decide, ab_in 607 (by decide +kernel) (by decide +kernel)⟩
theorem mlRX8_32 : Cond.methodLink RX8 32 yX9_become ∈ ab_G ∧ Cond.instanceMethod yX9_become ∈ ab_G ∧ Cond.selects RX9 yX9_become yX9_become ∈ ab_G := ⟨ab_in 1331 (by decide +kernel) (by decide +kernel), ab_in 1332 (by decide +kernel) (by decide +kernel), ab_in 1333 (by decide +kernel) (by decide +kernel)⟩
theorem gfRX8_28 : ab_L RX8 28 8 1 := ⟨by decide, by decide, ab_in 602 (by decide +kernel) (by decide +kernel)⟩
abbrev MX8_handOver : ab_M := (yX8_handOver, cX8_handOver, 2, none)
theorem dX8_handOver_0 : decode cX8_handOver 0 = .ok (.aload_n 1, 1) := by decide +kernel
theorem dX8_handOver_1 : decode cX8_handOver 1 = .ok (.aload_n 0, 1) := by decide +kernel
theorem dX8_handOver_2 : decode cX8_handOver 2 = .ok (.getfield 24, 3) := by decide +kernel
theorem dX8_handOver_5 : decode cX8_handOver 5 = .ok (.invokevirtual 32, 3) := by decide +kernel
theorem dX8_handOver_8 : decode cX8_handOver 8 = .ok (.aload_n 0, 1) := by decide +kernel
theorem dX8_handOver_9 : decode cX8_handOver 9 = .ok (.iconst 0, 1) := by decide +kernel
theorem dX8_handOver_10 : decode cX8_handOver 10 = .ok (.putfield 28, 3) := by decide +kernel
theorem dX8_handOver_13 : decode cX8_handOver 13 = .ok (.return_, 1) := by decide +kernel
theorem okX8_handOver : ab_okM MX8_handOver 1 := ⟨by decide, ⟨by decide, by decide⟩, ab_in 1330 (by decide +kernel) (by decide +kernel), ab_in 96 (by decide +kernel) (by decide +kernel), by decide +kernel, by decide⟩
set_option maxHeartbeats 4000000 in
set_option maxRecDepth 100000 in
def wX8_handOver (v1 : Nat) (x : ab_X) (K : ab_X → Prop) : Prop := wX9_become v1 160 x (fun x1 => K (wr x1 158 1 0))
set_option maxHeartbeats 4000000 in
set_option maxRecDepth 100000 in
theorem sX8_handOver (v1 : Nat) (hv1 : isT v1) (x : ab_X) (K : ab_X → Prop) (d bc bs : Nat) (hdp : 2 ≤ d) (h : wX8_handOver v1 x K) : EW MX8_handOver 0 [(0, .ref 158), (1, .ref v1)] [] (aS x) d bc bs (liV K) := by
  unfold wX8_handOver at h
  refine EW_aload_n (pc2 := 1) rfl dX8_handOver_0 1 rfl ?_
  refine EW_aload_n (pc2 := 2) rfl dX8_handOver_1 0 rfl ?_
  refine AW_getr (r := 160) ⟨gfRX8_24, rfl⟩ (pc2 := 5) rfl dX8_handOver_2 q158 rfl ?_
  refine AW_invV (M' := MX9_become) [.ref 160] (rest := []) mlRX8_32 okX9_become (pc2 := 8) rfl dX8_handOver_5 rfl rfl (Nat.le_of_ble_eq_true rfl) (Nat.le_of_ble_eq_true rfl) (d' := 1) (by omega) (isT.o hv1) ⟨by decide, rfl⟩ (EW_mono (fun _ _ hr => ?_) (sX9_become v1 160 hv1 (Or.inr (Or.inr (Or.inl rfl)) : isT 160) x _ _ 0 0 (Nat.le_refl _) h))
  obtain ⟨x1, rfl, rfl, h⟩ := hr
  refine EW_aload_n (pc2 := 9) rfl dX8_handOver_8 0 rfl ?_
  refine EW_iconst (pc2 := 10) (v := 0) rfl dX8_handOver_9 (by decide) ?_
  refine AW_puti ⟨gfRX8_28, rfl, rfl⟩ (pc2 := 13) rfl dX8_handOver_10 q158 ?_
  exact EW_vret rfl dX8_handOver_13 ⟨_, rfl, rfl, h⟩
theorem gfRX8_36 : ab_L RX8 36 8 2 := ⟨by decide, by decide, ab_in 604 (by decide +kernel) (by decide +kernel)⟩
theorem gfRX8_9 : ab_L RX8 9 8 0 := ⟨by decide, by decide, ab_in 601 (by decide +kernel) (by decide +kernel)⟩
abbrev MX8_peek : ab_M := (yX8_peek, cX8_peek, 2, (some .int))
theorem dX8_peek_0 : decode cX8_peek 0 = .ok (.iconst 0, 1) := by decide +kernel
theorem dX8_peek_1 : decode cX8_peek 1 = .ok (.istore_n 1, 1) := by decide +kernel
theorem dX8_peek_2 : decode cX8_peek 2 = .ok (.iload_n 1, 1) := by decide +kernel
theorem dX8_peek_3 : decode cX8_peek 3 = .ok (.sipush 200, 3) := by decide +kernel
theorem dX8_peek_6 : decode cX8_peek 6 = .ok (.if_icmp .ge 44, 3) := by decide +kernel
theorem dX8_peek_9 : decode cX8_peek 9 = .ok (.aload_n 0, 1) := by decide +kernel
theorem dX8_peek_10 : decode cX8_peek 10 = .ok (.getfield 36, 3) := by decide +kernel
theorem dX8_peek_13 : decode cX8_peek 13 = .ok (.aload_n 0, 1) := by decide +kernel
theorem dX8_peek_14 : decode cX8_peek 14 = .ok (.getfield 28, 3) := by decide +kernel
theorem dX8_peek_17 : decode cX8_peek 17 = .ok (.if_icmp .ge 33, 3) := by decide +kernel
theorem dX8_peek_20 : decode cX8_peek 20 = .ok (.aload_n 0, 1) := by decide +kernel
theorem dX8_peek_21 : decode cX8_peek 21 = .ok (.getfield 9, 3) := by decide +kernel
theorem dX8_peek_24 : decode cX8_peek 24 = .ok (.aload_n 0, 1) := by decide +kernel
theorem dX8_peek_25 : decode cX8_peek 25 = .ok (.getfield 36, 3) := by decide +kernel
theorem dX8_peek_28 : decode cX8_peek 28 = .ok (.iaload, 1) := by decide +kernel
theorem dX8_peek_29 : decode cX8_peek 29 = .ok (.bipush 32, 2) := by decide +kernel
theorem dX8_peek_31 : decode cX8_peek 31 = .ok (.if_icmp .ne 19, 3) := by decide +kernel
theorem dX8_peek_34 : decode cX8_peek 34 = .ok (.aload_n 0, 1) := by decide +kernel
theorem dX8_peek_35 : decode cX8_peek 35 = .ok (.dup, 1) := by decide +kernel
theorem dX8_peek_36 : decode cX8_peek 36 = .ok (.getfield 36, 3) := by decide +kernel
theorem dX8_peek_39 : decode cX8_peek 39 = .ok (.iconst 1, 1) := by decide +kernel
theorem dX8_peek_40 : decode cX8_peek 40 = .ok (.iadd, 1) := by decide +kernel
theorem dX8_peek_41 : decode cX8_peek 41 = .ok (.putfield 36, 3) := by decide +kernel
theorem dX8_peek_44 : decode cX8_peek 44 = .ok (.iinc 1 1, 3) := by decide +kernel
theorem dX8_peek_47 : decode cX8_peek 47 = .ok (.goto (-45), 3) := by decide +kernel
theorem dX8_peek_50 : decode cX8_peek 50 = .ok (.aload_n 0, 1) := by decide +kernel
theorem dX8_peek_51 : decode cX8_peek 51 = .ok (.getfield 36, 3) := by decide +kernel
theorem dX8_peek_54 : decode cX8_peek 54 = .ok (.aload_n 0, 1) := by decide +kernel
theorem dX8_peek_55 : decode cX8_peek 55 = .ok (.getfield 28, 3) := by decide +kernel
theorem dX8_peek_58 : decode cX8_peek 58 = .ok (.if_icmp .ge 15, 3) := by decide +kernel
theorem dX8_peek_61 : decode cX8_peek 61 = .ok (.aload_n 0, 1) := by decide +kernel
theorem dX8_peek_62 : decode cX8_peek 62 = .ok (.getfield 9, 3) := by decide +kernel
theorem dX8_peek_65 : decode cX8_peek 65 = .ok (.aload_n 0, 1) := by decide +kernel
theorem dX8_peek_66 : decode cX8_peek 66 = .ok (.getfield 36, 3) := by decide +kernel
theorem dX8_peek_69 : decode cX8_peek 69 = .ok (.iaload, 1) := by decide +kernel
theorem dX8_peek_70 : decode cX8_peek 70 = .ok (.goto 4, 3) := by decide +kernel
theorem dX8_peek_73 : decode cX8_peek 73 = .ok (.iconst (-1), 1) := by decide +kernel
theorem dX8_peek_74 : decode cX8_peek 74 = .ok (.ireturn, 1) := by decide +kernel
theorem okX8_peek : ab_okM MX8_peek 0 := ⟨by decide, ⟨by decide, by decide⟩, ab_in 1191 (by decide +kernel) (by decide +kernel), ab_in 96 (by decide +kernel) (by decide +kernel), by decide +kernel, by decide⟩
set_option maxHeartbeats 4000000 in
set_option maxRecDepth 100000 in
def wX8_peek_50  (x : ab_X) (K : Int32 → ab_X → Prop)  : Prop := (((x.1 158 1) ≤ (x.1 158 2) → K (-1) x) ∧ (¬ (x.1 158 1) ≤ (x.1 158 2) → (vp_in (x.1 158 2) 200 ∧ K (x.1 159 (Int32.toNatClampNeg (x.1 158 2))) x)))
set_option maxHeartbeats 4000000 in
set_option maxRecDepth 100000 in
theorem sX8_peek_50   (x : ab_X) (K : Int32 → ab_X → Prop)  (d bc bs : Nat) (hdp : 0 ≤ d)  (h : wX8_peek_50  x K ) : EW MX8_peek 50 [(0, .ref 158)] [] (aS x) d bc bs (liI K) := by
  unfold wX8_peek_50 at h
  refine EW_aload_n (pc2 := 51) rfl dX8_peek_50 0 rfl ?_
  refine AW_geti ⟨gfRX8_36, rfl⟩ (pc2 := 54) rfl dX8_peek_51 q158 ?_
  refine EW_aload_n (pc2 := 55) rfl dX8_peek_54 0 rfl ?_
  refine AW_geti ⟨gfRX8_28, rfl⟩ (pc2 := 58) rfl dX8_peek_55 q158 ?_
  refine EW_icmp_ge (tgt := 73) (pc2 := 61) rfl dX8_peek_58 (by decide) (fun q => ?_) (fun q => ?_)
  · replace h := h.1 q
    refine EW_iconst (pc2 := 74) (v := (-1)) rfl dX8_peek_73 (by decide) ?_
    exact AW_iret rfl dX8_peek_74 ⟨_, _, rfl, rfl, h⟩
  · replace h := h.2 q
    refine EW_aload_n (pc2 := 62) rfl dX8_peek_61 0 rfl ?_
    refine AW_getr (r := 159) ⟨gfRX8_9, rfl⟩ (pc2 := 65) rfl dX8_peek_62 q158 rfl ?_
    refine EW_aload_n (pc2 := 66) rfl dX8_peek_65 0 rfl ?_
    refine AW_geti ⟨gfRX8_36, rfl⟩ (pc2 := 69) rfl dX8_peek_66 q158 ?_
    obtain ⟨b2, h⟩ := h
    refine AW_iald (pc2 := 70) rfl dX8_peek_69 q159 b2 ?_
    refine EW_goto (tgt := 74) dX8_peek_70 (by decide) ?_
    exact AW_iret rfl dX8_peek_74 ⟨_, _, rfl, rfl, h⟩
set_option maxHeartbeats 4000000 in
set_option maxRecDepth 100000 in
def lX8_peek_2  (K : Int32 → ab_X → Prop)  (L2 : Int32 → ab_X → Prop) (v1 : Int32) (x : ab_X) : Prop := ((200 ≤ v1 → wX8_peek_50 x K) ∧ (¬ 200 ≤ v1 → (((x.1 158 1) ≤ (x.1 158 2) → wX8_peek_50 x K) ∧ (¬ (x.1 158 1) ≤ (x.1 158 2) → (vp_in (x.1 158 2) 200 ∧ ((¬ (x.1 159 (Int32.toNatClampNeg (x.1 158 2))) = 32 → wX8_peek_50 x K) ∧ ((x.1 159 (Int32.toNatClampNeg (x.1 158 2))) = 32 → L2 (v1 + 1) (wr x 158 2 ((x.1 158 2) + 1)))))))))
set_option maxHeartbeats 4000000 in
set_option maxRecDepth 100000 in
theorem sX8_peek_2 (v1 : Int32)  (x : ab_X) (K : Int32 → ab_X → Prop)  (d bc bs : Nat) (hdp : 0 ≤ d)  (h : Lp2 (lX8_peek_2  K ) v1 x) : EW MX8_peek 2 [(0, .ref 158), (1, .int v1)] [] (aS x) d bc bs (liI K) := by
  refine Lp2.use (P := fun v1 x => EW MX8_peek 2 [(0, .ref 158), (1, .int v1)] [] (aS x) d bc bs (liI K)) (fun L2 v1 x hL2 h => ?_) v1 x h
  unfold lX8_peek_2 at h
  refine EW_iload_n (pc2 := 3) rfl dX8_peek_2 1 rfl ?_
  refine EW_sipush (pc2 := 6) (v := 200) rfl dX8_peek_3 (by decide) ?_
  refine EW_icmp_ge (tgt := 50) (pc2 := 9) rfl dX8_peek_6 (by decide) (fun q => ?_) (fun q => ?_)
  · replace h := h.1 q
    refine EW_ls [0] rfl ?_
    exact sX8_peek_50  x K d bc bs hdp h
  · replace h := h.2 q
    refine EW_aload_n (pc2 := 10) rfl dX8_peek_9 0 rfl ?_
    refine AW_geti ⟨gfRX8_36, rfl⟩ (pc2 := 13) rfl dX8_peek_10 q158 ?_
    refine EW_aload_n (pc2 := 14) rfl dX8_peek_13 0 rfl ?_
    refine AW_geti ⟨gfRX8_28, rfl⟩ (pc2 := 17) rfl dX8_peek_14 q158 ?_
    refine EW_icmp_ge (tgt := 50) (pc2 := 20) rfl dX8_peek_17 (by decide) (fun q => ?_) (fun q => ?_)
    · replace h := h.1 q
      refine EW_ls [0] rfl ?_
      exact sX8_peek_50  x K d bc bs hdp h
    · replace h := h.2 q
      refine EW_aload_n (pc2 := 21) rfl dX8_peek_20 0 rfl ?_
      refine AW_getr (r := 159) ⟨gfRX8_9, rfl⟩ (pc2 := 24) rfl dX8_peek_21 q158 rfl ?_
      refine EW_aload_n (pc2 := 25) rfl dX8_peek_24 0 rfl ?_
      refine AW_geti ⟨gfRX8_36, rfl⟩ (pc2 := 28) rfl dX8_peek_25 q158 ?_
      obtain ⟨b1, h⟩ := h
      refine AW_iald (pc2 := 29) rfl dX8_peek_28 q159 b1 ?_
      refine EW_bipush (pc2 := 31) (v := 32) rfl dX8_peek_29 (by decide) ?_
      refine EW_icmp_ne (tgt := 50) (pc2 := 34) rfl dX8_peek_31 (by decide) (fun q => ?_) (fun q => ?_)
      · replace h := h.1 q
        refine EW_ls [0] rfl ?_
        exact sX8_peek_50  x K d bc bs hdp h
      · replace h := h.2 q
        refine EW_aload_n (pc2 := 35) rfl dX8_peek_34 0 rfl ?_
        refine EW_dup (pc2 := 36) rfl dX8_peek_35 rfl ?_
        refine AW_geti ⟨gfRX8_36, rfl⟩ (pc2 := 39) rfl dX8_peek_36 q158 ?_
        refine EW_iconst (pc2 := 40) (v := 1) rfl dX8_peek_39 (by decide) ?_
        refine EW_iadd (pc2 := 41) rfl dX8_peek_40 ?_
        refine AW_puti ⟨gfRX8_36, rfl, rfl⟩ (pc2 := 44) rfl dX8_peek_41 q158 ?_
        refine EW_iinc (v1 + 1) (pc2 := 47) rfl dX8_peek_44 1 rfl rfl (by decide) [1, 0] [(0, .ref 158), (1, .int (v1 + 1))] rfl ?_
        refine EW_goto (tgt := 2) dX8_peek_47 (by decide) ?_
        exact hL2 (v1 + 1) (wr x 158 2 ((x.1 158 2) + 1)) h
set_option maxHeartbeats 4000000 in
set_option maxRecDepth 100000 in
def wX8_peek  (x : ab_X) (K : Int32 → ab_X → Prop) : Prop := Lp2 (lX8_peek_2 K ) 0 x
set_option maxHeartbeats 4000000 in
set_option maxRecDepth 100000 in
theorem sX8_peek   (x : ab_X) (K : Int32 → ab_X → Prop) (d bc bs : Nat) (hdp : 0 ≤ d) (h : wX8_peek  x K) : EW MX8_peek 0 [(0, .ref 158)] [] (aS x) d bc bs (liI K) := by
  unfold wX8_peek at h
  refine EW_iconst (pc2 := 1) (v := 0) rfl dX8_peek_0 (by decide) ?_
  refine EW_istore_n (pc2 := 2) rfl dX8_peek_1 (by decide) [1, 0] [(0, .ref 158), (1, .int 0)] rfl ?_
  exact sX8_peek_2 0 x K d bc bs hdp h
theorem mlRX8_46 : Cond.methodLink RX8 46 yX8_peek ∈ ab_G ∧ Cond.instanceMethod yX8_peek ∈ ab_G ∧ Cond.selects RX8 yX8_peek yX8_peek ∈ ab_G := ⟨ab_in 1188 (by decide +kernel) (by decide +kernel), ab_in 1189 (by decide +kernel) (by decide +kernel), ab_in 1190 (by decide +kernel) (by decide +kernel)⟩
theorem mlRX8_100 : Cond.methodLink RX8 100 yJ0_indexOf_0f7a4 ∈ ab_G ∧ Cond.instanceMethod yJ0_indexOf_0f7a4 ∈ ab_G ∧ Cond.selects RJ0 yJ0_indexOf_0f7a4 yJ0_indexOf_0f7a4 ∈ ab_G := ⟨ab_in 1231 (by decide +kernel) (by decide +kernel), ab_in 1232 (by decide +kernel) (by decide +kernel), ab_in 1233 (by decide +kernel) (by decide +kernel)⟩
abbrev MX8_indexIn : ab_M := (yX8_indexIn, cX8_indexIn, 3, (some .int))
theorem dX8_indexIn_0 : decode cX8_indexIn 0 = .ok (.aload_n 0, 1) := by decide +kernel
theorem dX8_indexIn_1 : decode cX8_indexIn 1 = .ok (.invokevirtual 46, 3) := by decide +kernel
theorem dX8_indexIn_4 : decode cX8_indexIn 4 = .ok (.istore_n 2, 1) := by decide +kernel
theorem dX8_indexIn_5 : decode cX8_indexIn 5 = .ok (.iload_n 2, 1) := by decide +kernel
theorem dX8_indexIn_6 : decode cX8_indexIn 6 = .ok (.iconst (-1), 1) := by decide +kernel
theorem dX8_indexIn_7 : decode cX8_indexIn 7 = .ok (.if_icmp .ne 7, 3) := by decide +kernel
theorem dX8_indexIn_10 : decode cX8_indexIn 10 = .ok (.iconst (-1), 1) := by decide +kernel
theorem dX8_indexIn_11 : decode cX8_indexIn 11 = .ok (.goto 9, 3) := by decide +kernel
theorem dX8_indexIn_14 : decode cX8_indexIn 14 = .ok (.aload_n 1, 1) := by decide +kernel
theorem dX8_indexIn_15 : decode cX8_indexIn 15 = .ok (.iload_n 2, 1) := by decide +kernel
theorem dX8_indexIn_16 : decode cX8_indexIn 16 = .ok (.i2c, 1) := by decide +kernel
theorem dX8_indexIn_17 : decode cX8_indexIn 17 = .ok (.invokevirtual 100, 3) := by decide +kernel
theorem dX8_indexIn_20 : decode cX8_indexIn 20 = .ok (.ireturn, 1) := by decide +kernel
theorem okX8_indexIn : ab_okM MX8_indexIn 1 := ⟨by decide, ⟨by decide, by decide⟩, ab_in 1230 (by decide +kernel) (by decide +kernel), ab_in 96 (by decide +kernel) (by decide +kernel), by decide +kernel, by decide⟩
set_option maxHeartbeats 4000000 in
set_option maxRecDepth 100000 in
def wX8_indexIn (v1 : Nat) (x : ab_X) (K : Int32 → ab_X → Prop) : Prop := wX8_peek x (fun r1 x2 => ((¬ r1 = (-1) → wJ0_indexOf_0f7a4 v1 ((r1).toUInt32 % 65536).toInt32 x2 (fun r3 => K r3 x2)) ∧ (r1 = (-1) → K (-1) x2)))
set_option maxHeartbeats 4000000 in
set_option maxRecDepth 100000 in
theorem sX8_indexIn (v1 : Nat) (hv1 : isS v1) (x : ab_X) (K : Int32 → ab_X → Prop) (d bc bs : Nat) (hdp : 4 ≤ d) (h : wX8_indexIn v1 x K) : EW MX8_indexIn 0 [(0, .ref 158), (1, .ref v1)] [] (aS x) d bc bs (liI K) := by
  unfold wX8_indexIn at h
  refine EW_aload_n (pc2 := 1) rfl dX8_indexIn_0 0 rfl ?_
  refine AW_invV (M' := MX8_peek) [] (rest := []) mlRX8_46 okX8_peek (pc2 := 4) rfl dX8_indexIn_1 rfl rfl (Nat.le_of_ble_eq_true rfl) (Nat.le_of_ble_eq_true rfl) (d' := 0) (by omega) q158 ⟨by decide, rfl⟩ (EW_mono (fun _ _ hr => ?_) (sX8_peek   x _ _ 0 0 (Nat.le_refl _) h))
  obtain ⟨r1, x2, rfl, rfl, h⟩ := hr
  refine EW_istore_n (pc2 := 5) rfl dX8_indexIn_4 (by decide) [1, 2, 0] [(0, .ref 158), (1, .ref v1), (2, .int r1)] rfl ?_
  refine EW_iload_n (pc2 := 6) rfl dX8_indexIn_5 2 rfl ?_
  refine EW_iconst (pc2 := 7) (v := (-1)) rfl dX8_indexIn_6 (by decide) ?_
  refine EW_icmp_ne (tgt := 14) (pc2 := 10) rfl dX8_indexIn_7 (by decide) (fun q => ?_) (fun q => ?_)
  · replace h := h.1 q
    refine EW_aload_n (pc2 := 15) rfl dX8_indexIn_14 1 rfl ?_
    refine EW_iload_n (pc2 := 16) rfl dX8_indexIn_15 2 rfl ?_
    refine EW_i2c (pc2 := 17) (v := ((r1).toUInt32 % 65536).toInt32) rfl dX8_indexIn_16 rfl ?_
    refine AW_invVS (M' := MJ0_indexOf_0f7a4) [.int ((r1).toUInt32 % 65536).toInt32] (rest := []) mlRX8_100 okJ0_indexOf_0f7a4 (pc2 := 20) rfl dX8_indexIn_17 rfl rfl (Nat.le_of_ble_eq_true rfl) (Nat.le_of_ble_eq_true rfl) (d' := 3) (by omega) hv1 rfl (EW_mono (fun _ _ hr => ?_) (sJ0_indexOf_0f7a4 v1 ((r1).toUInt32 % 65536).toInt32 hv1 x2 _ _ 0 0 (Nat.le_refl _) h))
    obtain ⟨r3, rfl, rfl, h⟩ := hr
    exact AW_iret rfl dX8_indexIn_20 ⟨_, _, rfl, rfl, h⟩
  · replace h := h.2 q
    refine EW_iconst (pc2 := 11) (v := (-1)) rfl dX8_indexIn_10 (by decide) ?_
    refine EW_goto (tgt := 20) dX8_indexIn_11 (by decide) ?_
    exact AW_iret rfl dX8_indexIn_20 ⟨_, _, rfl, rfl, h⟩
abbrev MX8_isDigit : ab_M := (yX8_isDigit, cX8_isDigit, 1, (some .boolean))
theorem dX8_isDigit_0 : decode cX8_isDigit 0 = .ok (.iload_n 0, 1) := by decide +kernel
theorem dX8_isDigit_1 : decode cX8_isDigit 1 = .ok (.bipush 48, 2) := by decide +kernel
theorem dX8_isDigit_3 : decode cX8_isDigit 3 = .ok (.if_icmp .lt 13, 3) := by decide +kernel
theorem dX8_isDigit_6 : decode cX8_isDigit 6 = .ok (.iload_n 0, 1) := by decide +kernel
theorem dX8_isDigit_7 : decode cX8_isDigit 7 = .ok (.bipush 57, 2) := by decide +kernel
theorem dX8_isDigit_9 : decode cX8_isDigit 9 = .ok (.if_icmp .gt 7, 3) := by decide +kernel
theorem dX8_isDigit_12 : decode cX8_isDigit 12 = .ok (.iconst 1, 1) := by decide +kernel
theorem dX8_isDigit_13 : decode cX8_isDigit 13 = .ok (.goto 4, 3) := by decide +kernel
theorem dX8_isDigit_16 : decode cX8_isDigit 16 = .ok (.iconst 0, 1) := by decide +kernel
theorem dX8_isDigit_17 : decode cX8_isDigit 17 = .ok (.ireturn, 1) := by decide +kernel
theorem okX8_isDigit : ab_okM MX8_isDigit 1 := ⟨by decide, ⟨by decide, by decide⟩, ab_in 1222 (by decide +kernel) (by decide +kernel), ab_in 96 (by decide +kernel) (by decide +kernel), by decide +kernel, by decide⟩
set_option maxHeartbeats 4000000 in
set_option maxRecDepth 100000 in
def wX8_isDigit (v0 : Int32) (x : ab_X) (K : Int32 → Prop) : Prop := ((v0 < 48 → K 0) ∧ (¬ v0 < 48 → ((57 < v0 → K 0) ∧ (¬ 57 < v0 → K 1))))
set_option maxHeartbeats 4000000 in
set_option maxRecDepth 100000 in
theorem sX8_isDigit (v0 : Int32)  (x : ab_X) (K : Int32 → Prop) (d bc bs : Nat) (hdp : 0 ≤ d) (h : wX8_isDigit v0 x K) : EW MX8_isDigit 0 [(0, .int v0)] [] (aS x) d bc bs (liP x K) := by
  unfold wX8_isDigit at h
  refine EW_iload_n (pc2 := 1) rfl dX8_isDigit_0 0 rfl ?_
  refine EW_bipush (pc2 := 3) (v := 48) rfl dX8_isDigit_1 (by decide) ?_
  refine EW_icmp_lt (tgt := 16) (pc2 := 6) rfl dX8_isDigit_3 (by decide) (fun q => ?_) (fun q => ?_)
  · replace h := h.1 q
    refine EW_iconst (pc2 := 17) (v := 0) rfl dX8_isDigit_16 (by decide) ?_
    exact AW_zret rfl isB0 dX8_isDigit_17 ⟨_, rfl, rfl, h⟩
  · replace h := h.2 q
    refine EW_iload_n (pc2 := 7) rfl dX8_isDigit_6 0 rfl ?_
    refine EW_bipush (pc2 := 9) (v := 57) rfl dX8_isDigit_7 (by decide) ?_
    refine EW_icmp_gt (tgt := 16) (pc2 := 12) rfl dX8_isDigit_9 (by decide) (fun q => ?_) (fun q => ?_)
    · replace h := h.1 q
      refine EW_iconst (pc2 := 17) (v := 0) rfl dX8_isDigit_16 (by decide) ?_
      exact AW_zret rfl isB0 dX8_isDigit_17 ⟨_, rfl, rfl, h⟩
    · replace h := h.2 q
      refine EW_iconst (pc2 := 13) (v := 1) rfl dX8_isDigit_12 (by decide) ?_
      refine EW_goto (tgt := 17) dX8_isDigit_13 (by decide) ?_
      exact AW_zret rfl isB1 dX8_isDigit_17 ⟨_, rfl, rfl, h⟩
abbrev MX9_add : ab_M := (yX9_add, cX9_add, 3, none)
theorem dX9_add_0 : decode cX9_add 0 = .ok (.aload_n 0, 1) := by decide +kernel
theorem dX9_add_1 : decode cX9_add 1 = .ok (.getfield 24, 3) := by decide +kernel
theorem dX9_add_4 : decode cX9_add 4 = .ok (.sipush 200, 3) := by decide +kernel
theorem dX9_add_7 : decode cX9_add 7 = .ok (.if_icmp .ge 28, 3) := by decide +kernel
theorem dX9_add_10 : decode cX9_add 10 = .ok (.aload_n 0, 1) := by decide +kernel
theorem dX9_add_11 : decode cX9_add 11 = .ok (.getfield 9, 3) := by decide +kernel
theorem dX9_add_14 : decode cX9_add 14 = .ok (.aload_n 0, 1) := by decide +kernel
theorem dX9_add_15 : decode cX9_add 15 = .ok (.getfield 24, 3) := by decide +kernel
theorem dX9_add_18 : decode cX9_add 18 = .ok (.iload_n 1, 1) := by decide +kernel
theorem dX9_add_19 : decode cX9_add 19 = .ok (.bipush 16, 2) := by decide +kernel
theorem dX9_add_21 : decode cX9_add 21 = .ok (.ishl, 1) := by decide +kernel
theorem dX9_add_22 : decode cX9_add 22 = .ok (.iload_n 2, 1) := by decide +kernel
theorem dX9_add_23 : decode cX9_add 23 = .ok (.ior, 1) := by decide +kernel
theorem dX9_add_24 : decode cX9_add 24 = .ok (.iastore, 1) := by decide +kernel
theorem dX9_add_25 : decode cX9_add 25 = .ok (.aload_n 0, 1) := by decide +kernel
theorem dX9_add_26 : decode cX9_add 26 = .ok (.dup, 1) := by decide +kernel
theorem dX9_add_27 : decode cX9_add 27 = .ok (.getfield 24, 3) := by decide +kernel
theorem dX9_add_30 : decode cX9_add 30 = .ok (.iconst 1, 1) := by decide +kernel
theorem dX9_add_31 : decode cX9_add 31 = .ok (.iadd, 1) := by decide +kernel
theorem dX9_add_32 : decode cX9_add 32 = .ok (.putfield 24, 3) := by decide +kernel
theorem dX9_add_35 : decode cX9_add 35 = .ok (.return_, 1) := by decide +kernel
theorem okX9_add : ab_okM MX9_add 2 := ⟨by decide, ⟨by decide, by decide⟩, ab_in 1199 (by decide +kernel) (by decide +kernel), ab_in 93 (by decide +kernel) (by decide +kernel), by decide +kernel, by decide⟩
set_option maxHeartbeats 4000000 in
set_option maxRecDepth 100000 in
def wX9_add (v0 : Nat) (v1 : Int32) (v2 : Int32) (x : ab_X) (K : ab_X → Prop) : Prop := ((200 ≤ (x.1 v0 1) → K x) ∧ (¬ 200 ≤ (x.1 v0 1) → (vp_in (x.1 v0 1) 200 ∧ K (wr (wr x (v0 + 1) (Int32.toNatClampNeg (x.1 v0 1)) ((v1 <<< (16 &&& 31)) ||| v2)) v0 1 (((wr x (v0 + 1) (Int32.toNatClampNeg (x.1 v0 1)) ((v1 <<< (16 &&& 31)) ||| v2)).1 v0 1) + 1)))))
set_option maxHeartbeats 4000000 in
set_option maxRecDepth 100000 in
theorem sX9_add (v0 : Nat) (v1 : Int32) (v2 : Int32) (hv0 : isT v0) (x : ab_X) (K : ab_X → Prop) (d bc bs : Nat) (hdp : 0 ≤ d) (h : wX9_add v0 v1 v2 x K) : EW MX9_add 0 [(0, .ref v0), (1, .int v1), (2, .int v2)] [] (aS x) d bc bs (liV K) := by
  unfold wX9_add at h
  refine EW_aload_n (pc2 := 1) rfl dX9_add_0 0 rfl ?_
  refine AW_geti ⟨gfRX9_24, rfl⟩ (pc2 := 4) rfl dX9_add_1 (isT.o hv0) ?_
  refine EW_sipush (pc2 := 7) (v := 200) rfl dX9_add_4 (by decide) ?_
  refine EW_icmp_ge (tgt := 35) (pc2 := 10) rfl dX9_add_7 (by decide) (fun q => ?_) (fun q => ?_)
  · replace h := h.1 q
    exact EW_vret rfl dX9_add_35 ⟨_, rfl, rfl, h⟩
  · replace h := h.2 q
    refine EW_aload_n (pc2 := 11) rfl dX9_add_10 0 rfl ?_
    refine AW_getr (r := (v0 + 1)) ⟨gfRX9_9, rfl⟩ (pc2 := 14) rfl dX9_add_11 (isT.o hv0) (isT.r0 hv0) ?_
    refine EW_aload_n (pc2 := 15) rfl dX9_add_14 0 rfl ?_
    refine AW_geti ⟨gfRX9_24, rfl⟩ (pc2 := 18) rfl dX9_add_15 (isT.o hv0) ?_
    refine EW_iload_n (pc2 := 19) rfl dX9_add_18 1 rfl ?_
    refine EW_bipush (pc2 := 21) (v := 16) rfl dX9_add_19 (by decide) ?_
    refine EW_ishl (pc2 := 22) rfl dX9_add_21 ?_
    refine EW_iload_n (pc2 := 23) rfl dX9_add_22 2 rfl ?_
    refine EW_ior (pc2 := 24) rfl dX9_add_23 ?_
    obtain ⟨b1, h⟩ := h
    refine AW_iast (pc2 := 25) rfl dX9_add_24 (isT.a0 hv0) b1 ?_
    refine EW_aload_n (pc2 := 26) rfl dX9_add_25 0 rfl ?_
    refine EW_dup (pc2 := 27) rfl dX9_add_26 rfl ?_
    refine AW_geti ⟨gfRX9_24, rfl⟩ (pc2 := 30) rfl dX9_add_27 (isT.o hv0) ?_
    refine EW_iconst (pc2 := 31) (v := 1) rfl dX9_add_30 (by decide) ?_
    refine EW_iadd (pc2 := 32) rfl dX9_add_31 ?_
    refine AW_puti ⟨gfRX9_24, rfl, rfl⟩ (pc2 := 35) rfl dX9_add_32 (isT.o hv0) ?_
    exact EW_vret rfl dX9_add_35 ⟨_, rfl, rfl, h⟩
theorem mlRX8_72 : Cond.methodLink RX8 72 yX8_indexIn ∈ ab_G ∧ Cond.instanceMethod yX8_indexIn ∈ ab_G ∧ Cond.selects RX8 yX8_indexIn yX8_indexIn ∈ ab_G := ⟨ab_in 1227 (by decide +kernel) (by decide +kernel), ab_in 1228 (by decide +kernel) (by decide +kernel), ab_in 1229 (by decide +kernel) (by decide +kernel)⟩
theorem mlRX8_76 : Cond.methodLink RX8 76 yX8_isDigit ∈ ab_G ∧ Cond.static yX8_isDigit ∈ ab_G := ⟨ab_in 1220 (by decide +kernel) (by decide +kernel), ab_in 1221 (by decide +kernel) (by decide +kernel)⟩
theorem mlRX8_58 : Cond.methodLink RX8 58 yX9_add ∈ ab_G ∧ Cond.instanceMethod yX9_add ∈ ab_G ∧ Cond.selects RX9 yX9_add yX9_add ∈ ab_G := ⟨ab_in 1196 (by decide +kernel) (by decide +kernel), ab_in 1197 (by decide +kernel) (by decide +kernel), ab_in 1198 (by decide +kernel) (by decide +kernel)⟩
abbrev MX8_actions : ab_M := (yX8_actions, cX8_actions, 3, (some .boolean))
theorem dX8_actions_0 : decode cX8_actions 0 = .ok (.iconst 0, 1) := by decide +kernel
theorem dX8_actions_1 : decode cX8_actions 1 = .ok (.istore_n 1, 1) := by decide +kernel
theorem dX8_actions_2 : decode cX8_actions 2 = .ok (.iload_n 1, 1) := by decide +kernel
theorem dX8_actions_3 : decode cX8_actions 3 = .ok (.sipush 200, 3) := by decide +kernel
theorem dX8_actions_6 : decode cX8_actions 6 = .ok (.if_icmp .ge 89, 3) := by decide +kernel
theorem dX8_actions_9 : decode cX8_actions 9 = .ok (.aload_n 0, 1) := by decide +kernel
theorem dX8_actions_10 : decode cX8_actions 10 = .ok (.ldc 70, 2) := by decide +kernel
theorem dX8_actions_12 : decode cX8_actions 12 = .ok (.invokevirtual 72, 3) := by decide +kernel
theorem dX8_actions_15 : decode cX8_actions 15 = .ok (.istore_n 2, 1) := by decide +kernel
theorem dX8_actions_16 : decode cX8_actions 16 = .ok (.iload_n 2, 1) := by decide +kernel
theorem dX8_actions_17 : decode cX8_actions 17 = .ok (.iconst (-1), 1) := by decide +kernel
theorem dX8_actions_18 : decode cX8_actions 18 = .ok (.if_icmp .ne 13, 3) := by decide +kernel
theorem dX8_actions_21 : decode cX8_actions 21 = .ok (.iload_n 1, 1) := by decide +kernel
theorem dX8_actions_22 : decode cX8_actions 22 = .ok (.ifCond .le 7, 3) := by decide +kernel
theorem dX8_actions_25 : decode cX8_actions 25 = .ok (.iconst 1, 1) := by decide +kernel
theorem dX8_actions_26 : decode cX8_actions 26 = .ok (.goto 4, 3) := by decide +kernel
theorem dX8_actions_29 : decode cX8_actions 29 = .ok (.iconst 0, 1) := by decide +kernel
theorem dX8_actions_30 : decode cX8_actions 30 = .ok (.ireturn, 1) := by decide +kernel
theorem dX8_actions_31 : decode cX8_actions 31 = .ok (.aload_n 0, 1) := by decide +kernel
theorem dX8_actions_32 : decode cX8_actions 32 = .ok (.dup, 1) := by decide +kernel
theorem dX8_actions_33 : decode cX8_actions 33 = .ok (.getfield 36, 3) := by decide +kernel
theorem dX8_actions_36 : decode cX8_actions 36 = .ok (.iconst 1, 1) := by decide +kernel
theorem dX8_actions_37 : decode cX8_actions 37 = .ok (.iadd, 1) := by decide +kernel
theorem dX8_actions_38 : decode cX8_actions 38 = .ok (.putfield 36, 3) := by decide +kernel
theorem dX8_actions_41 : decode cX8_actions 41 = .ok (.aload_n 0, 1) := by decide +kernel
theorem dX8_actions_42 : decode cX8_actions 42 = .ok (.invokevirtual 46, 3) := by decide +kernel
theorem dX8_actions_45 : decode cX8_actions 45 = .ok (.invokestatic 76, 3) := by decide +kernel
theorem dX8_actions_48 : decode cX8_actions 48 = .ok (.ifCond .ne 5, 3) := by decide +kernel
theorem dX8_actions_51 : decode cX8_actions 51 = .ok (.iconst 0, 1) := by decide +kernel
theorem dX8_actions_52 : decode cX8_actions 52 = .ok (.ireturn, 1) := by decide +kernel
theorem dX8_actions_53 : decode cX8_actions 53 = .ok (.aload_n 0, 1) := by decide +kernel
theorem dX8_actions_54 : decode cX8_actions 54 = .ok (.getfield 24, 3) := by decide +kernel
theorem dX8_actions_57 : decode cX8_actions 57 = .ok (.bipush 12, 2) := by decide +kernel
theorem dX8_actions_59 : decode cX8_actions 59 = .ok (.iload_n 2, 1) := by decide +kernel
theorem dX8_actions_60 : decode cX8_actions 60 = .ok (.bipush 10, 2) := by decide +kernel
theorem dX8_actions_62 : decode cX8_actions 62 = .ok (.imul, 1) := by decide +kernel
theorem dX8_actions_63 : decode cX8_actions 63 = .ok (.aload_n 0, 1) := by decide +kernel
theorem dX8_actions_64 : decode cX8_actions 64 = .ok (.getfield 9, 3) := by decide +kernel
theorem dX8_actions_67 : decode cX8_actions 67 = .ok (.aload_n 0, 1) := by decide +kernel
theorem dX8_actions_68 : decode cX8_actions 68 = .ok (.getfield 36, 3) := by decide +kernel
theorem dX8_actions_71 : decode cX8_actions 71 = .ok (.iaload, 1) := by decide +kernel
theorem dX8_actions_72 : decode cX8_actions 72 = .ok (.iadd, 1) := by decide +kernel
theorem dX8_actions_73 : decode cX8_actions 73 = .ok (.bipush 48, 2) := by decide +kernel
theorem dX8_actions_75 : decode cX8_actions 75 = .ok (.isub, 1) := by decide +kernel
theorem dX8_actions_76 : decode cX8_actions 76 = .ok (.invokevirtual 58, 3) := by decide +kernel
theorem dX8_actions_79 : decode cX8_actions 79 = .ok (.aload_n 0, 1) := by decide +kernel
theorem dX8_actions_80 : decode cX8_actions 80 = .ok (.dup, 1) := by decide +kernel
theorem dX8_actions_81 : decode cX8_actions 81 = .ok (.getfield 36, 3) := by decide +kernel
theorem dX8_actions_84 : decode cX8_actions 84 = .ok (.iconst 1, 1) := by decide +kernel
theorem dX8_actions_85 : decode cX8_actions 85 = .ok (.iadd, 1) := by decide +kernel
theorem dX8_actions_86 : decode cX8_actions 86 = .ok (.putfield 36, 3) := by decide +kernel
theorem dX8_actions_89 : decode cX8_actions 89 = .ok (.iinc 1 1, 3) := by decide +kernel
theorem dX8_actions_92 : decode cX8_actions 92 = .ok (.goto (-90), 3) := by decide +kernel
theorem dX8_actions_95 : decode cX8_actions 95 = .ok (.iconst 0, 1) := by decide +kernel
theorem dX8_actions_96 : decode cX8_actions 96 = .ok (.ireturn, 1) := by decide +kernel
theorem okX8_actions : ab_okM MX8_actions 0 := ⟨by decide, ⟨by decide, by decide⟩, ab_in 1321 (by decide +kernel) (by decide +kernel), ab_in 96 (by decide +kernel) (by decide +kernel), by decide +kernel, by decide⟩
set_option maxHeartbeats 4000000 in
set_option maxRecDepth 100000 in
def lX8_actions_2  (K : Int32 → ab_X → Prop)  (L2 : Int32 → ab_X → Prop) (v1 : Int32) (x : ab_X) : Prop := ((200 ≤ v1 → K 0 x) ∧ (¬ 200 ≤ v1 → wX8_indexIn 1000003 x (fun r1 x2 => ((¬ r1 = (-1) → wX8_peek (wr x2 158 2 ((x2.1 158 2) + 1)) (fun r3 x4 => wX8_isDigit r3 x4 (fun r5 => ((¬ r5 = 0 → (vp_in (x4.1 158 2) 200 ∧ wX9_add 160 12 (((r1 * 10) + (x4.1 159 (Int32.toNatClampNeg (x4.1 158 2)))) - 48) x4 (fun x7 => L2 (v1 + 1) (wr x7 158 2 ((x7.1 158 2) + 1))))) ∧ (r5 = 0 → K 0 x4))))) ∧ (r1 = (-1) → ((v1 ≤ 0 → K 0 x2) ∧ (¬ v1 ≤ 0 → K 1 x2)))))))
set_option maxHeartbeats 4000000 in
set_option maxRecDepth 100000 in
theorem sX8_actions_2 (v1 : Int32)  (x : ab_X) (K : Int32 → ab_X → Prop)  (d bc bs : Nat) (hdp : 5 ≤ d)  (h : Lp2 (lX8_actions_2  K ) v1 x) : EW MX8_actions 2 [(0, .ref 158), (1, .int v1)] [] (aS x) d bc bs (liI K) := by
  refine Lp2.use (P := fun v1 x => EW MX8_actions 2 [(0, .ref 158), (1, .int v1)] [] (aS x) d bc bs (liI K)) (fun L2 v1 x hL2 h => ?_) v1 x h
  unfold lX8_actions_2 at h
  refine EW_iload_n (pc2 := 3) rfl dX8_actions_2 1 rfl ?_
  refine EW_sipush (pc2 := 6) (v := 200) rfl dX8_actions_3 (by decide) ?_
  refine EW_icmp_ge (tgt := 95) (pc2 := 9) rfl dX8_actions_6 (by decide) (fun q => ?_) (fun q => ?_)
  · replace h := h.1 q
    refine EW_iconst (pc2 := 96) (v := 0) rfl dX8_actions_95 (by decide) ?_
    exact AW_zret rfl isB0 dX8_actions_96 ⟨_, _, rfl, rfl, h⟩
  · replace h := h.2 q
    refine EW_aload_n (pc2 := 10) rfl dX8_actions_9 0 rfl ?_
    refine AW_str_T70 rfl (pc2 := 12) rfl dX8_actions_10 ?_
    refine AW_invV (M' := MX8_indexIn) [.ref 1000003] (rest := []) mlRX8_72 okX8_indexIn (pc2 := 15) rfl dX8_actions_12 rfl rfl (Nat.le_of_ble_eq_true rfl) (Nat.le_of_ble_eq_true rfl) (d' := 4) (by omega) q158 ⟨by decide, rfl⟩ (EW_mono (fun _ _ hr => ?_) (sX8_indexIn 1000003 (⟨3, by decide, rfl⟩ : isS 1000003) x _ _ 0 0 (Nat.le_refl _) h))
    obtain ⟨r1, x2, rfl, rfl, h⟩ := hr
    refine EW_istore_n (pc2 := 16) rfl dX8_actions_15 (by decide) [1, 2, 0] [(0, .ref 158), (1, .int v1), (2, .int r1)] rfl ?_
    refine EW_iload_n (pc2 := 17) rfl dX8_actions_16 2 rfl ?_
    refine EW_iconst (pc2 := 18) (v := (-1)) rfl dX8_actions_17 (by decide) ?_
    refine EW_icmp_ne (tgt := 31) (pc2 := 21) rfl dX8_actions_18 (by decide) (fun q => ?_) (fun q => ?_)
    · replace h := h.1 q
      refine EW_aload_n (pc2 := 32) rfl dX8_actions_31 0 rfl ?_
      refine EW_dup (pc2 := 33) rfl dX8_actions_32 rfl ?_
      refine AW_geti ⟨gfRX8_36, rfl⟩ (pc2 := 36) rfl dX8_actions_33 q158 ?_
      refine EW_iconst (pc2 := 37) (v := 1) rfl dX8_actions_36 (by decide) ?_
      refine EW_iadd (pc2 := 38) rfl dX8_actions_37 ?_
      refine AW_puti ⟨gfRX8_36, rfl, rfl⟩ (pc2 := 41) rfl dX8_actions_38 q158 ?_
      refine EW_aload_n (pc2 := 42) rfl dX8_actions_41 0 rfl ?_
      refine AW_invV (M' := MX8_peek) [] (rest := []) mlRX8_46 okX8_peek (pc2 := 45) rfl dX8_actions_42 rfl rfl (Nat.le_of_ble_eq_true rfl) (Nat.le_of_ble_eq_true rfl) (d' := 0) (by omega) q158 ⟨by decide, rfl⟩ (EW_mono (fun _ _ hr => ?_) (sX8_peek   (wr x2 158 2 ((x2.1 158 2) + 1)) _ _ 0 0 (Nat.le_refl _) h))
      obtain ⟨r3, x4, rfl, rfl, h⟩ := hr
      refine AW_invS (M' := MX8_isDigit) [.int r3] (rest := []) mlRX8_76 okX8_isDigit (pc2 := 48) rfl dX8_actions_45 rfl rfl (Nat.le_of_ble_eq_true rfl) (Nat.le_of_ble_eq_true rfl) (d' := 0) (by omega) (EW_mono (fun _ _ hr => ?_) (sX8_isDigit r3  x4 _ _ 0 0 (Nat.le_refl _) h))
      obtain ⟨r5, rfl, rfl, h⟩ := hr
      refine EW_if_ne (tgt := 53) (pc2 := 51) rfl dX8_actions_48 (by decide) (fun q => ?_) (fun q => ?_)
      · replace h := h.1 q
        refine EW_aload_n (pc2 := 54) rfl dX8_actions_53 0 rfl ?_
        refine AW_getr (r := 160) ⟨gfRX8_24, rfl⟩ (pc2 := 57) rfl dX8_actions_54 q158 rfl ?_
        refine EW_bipush (pc2 := 59) (v := 12) rfl dX8_actions_57 (by decide) ?_
        refine EW_iload_n (pc2 := 60) rfl dX8_actions_59 2 rfl ?_
        refine EW_bipush (pc2 := 62) (v := 10) rfl dX8_actions_60 (by decide) ?_
        refine EW_imul (pc2 := 63) rfl dX8_actions_62 ?_
        refine EW_aload_n (pc2 := 64) rfl dX8_actions_63 0 rfl ?_
        refine AW_getr (r := 159) ⟨gfRX8_9, rfl⟩ (pc2 := 67) rfl dX8_actions_64 q158 rfl ?_
        refine EW_aload_n (pc2 := 68) rfl dX8_actions_67 0 rfl ?_
        refine AW_geti ⟨gfRX8_36, rfl⟩ (pc2 := 71) rfl dX8_actions_68 q158 ?_
        obtain ⟨b6, h⟩ := h
        refine AW_iald (pc2 := 72) rfl dX8_actions_71 q159 b6 ?_
        refine EW_iadd (pc2 := 73) rfl dX8_actions_72 ?_
        refine EW_bipush (pc2 := 75) (v := 48) rfl dX8_actions_73 (by decide) ?_
        refine EW_isub (pc2 := 76) rfl dX8_actions_75 ?_
        refine AW_invV (M' := MX9_add) [.int 12, .int (((r1 * 10) + (x4.1 159 (Int32.toNatClampNeg (x4.1 158 2)))) - 48)] (rest := []) mlRX8_58 okX9_add (pc2 := 79) rfl dX8_actions_76 rfl rfl (Nat.le_of_ble_eq_true rfl) (Nat.le_of_ble_eq_true rfl) (d' := 0) (by omega) q160 ⟨by decide, rfl⟩ (EW_mono (fun _ _ hr => ?_) (sX9_add 160 12 (((r1 * 10) + (x4.1 159 (Int32.toNatClampNeg (x4.1 158 2)))) - 48) (Or.inr (Or.inr (Or.inl rfl)) : isT 160) x4 _ _ 0 0 (Nat.le_refl _) h))
        obtain ⟨x7, rfl, rfl, h⟩ := hr
        refine EW_aload_n (pc2 := 80) rfl dX8_actions_79 0 rfl ?_
        refine EW_dup (pc2 := 81) rfl dX8_actions_80 rfl ?_
        refine AW_geti ⟨gfRX8_36, rfl⟩ (pc2 := 84) rfl dX8_actions_81 q158 ?_
        refine EW_iconst (pc2 := 85) (v := 1) rfl dX8_actions_84 (by decide) ?_
        refine EW_iadd (pc2 := 86) rfl dX8_actions_85 ?_
        refine AW_puti ⟨gfRX8_36, rfl, rfl⟩ (pc2 := 89) rfl dX8_actions_86 q158 ?_
        refine EW_iinc (v1 + 1) (pc2 := 92) rfl dX8_actions_89 1 rfl rfl (by decide) [1, 0, 2] [(0, .ref 158), (1, .int (v1 + 1)), (2, .int r1)] rfl ?_
        refine EW_goto (tgt := 2) dX8_actions_92 (by decide) ?_
        refine EW_ls [0, 1] rfl ?_
        exact hL2 (v1 + 1) (wr x7 158 2 ((x7.1 158 2) + 1)) h
      · replace h := h.2 q
        refine EW_iconst (pc2 := 52) (v := 0) rfl dX8_actions_51 (by decide) ?_
        exact AW_zret rfl isB0 dX8_actions_52 ⟨_, _, rfl, rfl, h⟩
    · replace h := h.2 q
      refine EW_iload_n (pc2 := 22) rfl dX8_actions_21 1 rfl ?_
      refine EW_if_le (tgt := 29) (pc2 := 25) rfl dX8_actions_22 (by decide) (fun q => ?_) (fun q => ?_)
      · replace h := h.1 q
        refine EW_iconst (pc2 := 30) (v := 0) rfl dX8_actions_29 (by decide) ?_
        exact AW_zret rfl isB0 dX8_actions_30 ⟨_, _, rfl, rfl, h⟩
      · replace h := h.2 q
        refine EW_iconst (pc2 := 26) (v := 1) rfl dX8_actions_25 (by decide) ?_
        refine EW_goto (tgt := 30) dX8_actions_26 (by decide) ?_
        exact AW_zret rfl isB1 dX8_actions_30 ⟨_, _, rfl, rfl, h⟩
set_option maxHeartbeats 4000000 in
set_option maxRecDepth 100000 in
def wX8_actions  (x : ab_X) (K : Int32 → ab_X → Prop) : Prop := Lp2 (lX8_actions_2 K ) 0 x
set_option maxHeartbeats 4000000 in
set_option maxRecDepth 100000 in
theorem sX8_actions   (x : ab_X) (K : Int32 → ab_X → Prop) (d bc bs : Nat) (hdp : 5 ≤ d) (h : wX8_actions  x K) : EW MX8_actions 0 [(0, .ref 158)] [] (aS x) d bc bs (liI K) := by
  unfold wX8_actions at h
  refine EW_iconst (pc2 := 1) (v := 0) rfl dX8_actions_0 (by decide) ?_
  refine EW_istore_n (pc2 := 2) rfl dX8_actions_1 (by decide) [1, 0] [(0, .ref 158), (1, .int 0)] rfl ?_
  exact sX8_actions_2 0 x K d bc bs hdp h
abbrev MX8_passes : ab_M := (yX8_passes, cX8_passes, 2, (some .boolean))
theorem dX8_passes_0 : decode cX8_passes 0 = .ok (.aload_n 0, 1) := by decide +kernel
theorem dX8_passes_1 : decode cX8_passes 1 = .ok (.invokevirtual 46, 3) := by decide +kernel
theorem dX8_passes_4 : decode cX8_passes 4 = .ok (.iload_n 1, 1) := by decide +kernel
theorem dX8_passes_5 : decode cX8_passes 5 = .ok (.if_icmp .eq 5, 3) := by decide +kernel
theorem dX8_passes_8 : decode cX8_passes 8 = .ok (.iconst 0, 1) := by decide +kernel
theorem dX8_passes_9 : decode cX8_passes 9 = .ok (.ireturn, 1) := by decide +kernel
theorem dX8_passes_10 : decode cX8_passes 10 = .ok (.aload_n 0, 1) := by decide +kernel
theorem dX8_passes_11 : decode cX8_passes 11 = .ok (.dup, 1) := by decide +kernel
theorem dX8_passes_12 : decode cX8_passes 12 = .ok (.getfield 36, 3) := by decide +kernel
theorem dX8_passes_15 : decode cX8_passes 15 = .ok (.iconst 1, 1) := by decide +kernel
theorem dX8_passes_16 : decode cX8_passes 16 = .ok (.iadd, 1) := by decide +kernel
theorem dX8_passes_17 : decode cX8_passes 17 = .ok (.putfield 36, 3) := by decide +kernel
theorem dX8_passes_20 : decode cX8_passes 20 = .ok (.iconst 1, 1) := by decide +kernel
theorem dX8_passes_21 : decode cX8_passes 21 = .ok (.ireturn, 1) := by decide +kernel
theorem okX8_passes : ab_okM MX8_passes 1 := ⟨by decide, ⟨by decide, by decide⟩, ab_in 1203 (by decide +kernel) (by decide +kernel), ab_in 96 (by decide +kernel) (by decide +kernel), by decide +kernel, by decide⟩
set_option maxHeartbeats 4000000 in
set_option maxRecDepth 100000 in
def wX8_passes (v1 : Int32) (x : ab_X) (K : Int32 → ab_X → Prop) : Prop := wX8_peek x (fun r1 x2 => ((r1 = v1 → K 1 (wr x2 158 2 ((x2.1 158 2) + 1))) ∧ (¬ r1 = v1 → K 0 x2)))
set_option maxHeartbeats 4000000 in
set_option maxRecDepth 100000 in
theorem sX8_passes (v1 : Int32)  (x : ab_X) (K : Int32 → ab_X → Prop) (d bc bs : Nat) (hdp : 1 ≤ d) (h : wX8_passes v1 x K) : EW MX8_passes 0 [(0, .ref 158), (1, .int v1)] [] (aS x) d bc bs (liI K) := by
  unfold wX8_passes at h
  refine EW_aload_n (pc2 := 1) rfl dX8_passes_0 0 rfl ?_
  refine AW_invV (M' := MX8_peek) [] (rest := []) mlRX8_46 okX8_peek (pc2 := 4) rfl dX8_passes_1 rfl rfl (Nat.le_of_ble_eq_true rfl) (Nat.le_of_ble_eq_true rfl) (d' := 0) (by omega) q158 ⟨by decide, rfl⟩ (EW_mono (fun _ _ hr => ?_) (sX8_peek   x _ _ 0 0 (Nat.le_refl _) h))
  obtain ⟨r1, x2, rfl, rfl, h⟩ := hr
  refine EW_iload_n (pc2 := 5) rfl dX8_passes_4 1 rfl ?_
  refine EW_icmp_eq (tgt := 10) (pc2 := 8) rfl dX8_passes_5 (by decide) (fun q => ?_) (fun q => ?_)
  · replace h := h.1 q
    refine EW_aload_n (pc2 := 11) rfl dX8_passes_10 0 rfl ?_
    refine EW_dup (pc2 := 12) rfl dX8_passes_11 rfl ?_
    refine AW_geti ⟨gfRX8_36, rfl⟩ (pc2 := 15) rfl dX8_passes_12 q158 ?_
    refine EW_iconst (pc2 := 16) (v := 1) rfl dX8_passes_15 (by decide) ?_
    refine EW_iadd (pc2 := 17) rfl dX8_passes_16 ?_
    refine AW_puti ⟨gfRX8_36, rfl, rfl⟩ (pc2 := 20) rfl dX8_passes_17 q158 ?_
    refine EW_iconst (pc2 := 21) (v := 1) rfl dX8_passes_20 (by decide) ?_
    exact AW_zret rfl isB1 dX8_passes_21 ⟨_, _, rfl, rfl, h⟩
  · replace h := h.2 q
    refine EW_iconst (pc2 := 9) (v := 0) rfl dX8_passes_8 (by decide) ?_
    exact AW_zret rfl isB0 dX8_passes_9 ⟨_, _, rfl, rfl, h⟩
