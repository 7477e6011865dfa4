abbrev MX11_kept : ab_M := (yX11_kept, cX11_kept, 2, (some .int))
theorem dX11_kept_0 : decode cX11_kept 0 = .ok (.iload_n 0, 1) := by decide +kernel
theorem dX11_kept_1 : decode cX11_kept 1 = .ok (.ifCond .ne 6, 3) := by decide +kernel
theorem dX11_kept_4 : decode cX11_kept 4 = .ok (.iload_n 1, 1) := by decide +kernel
theorem dX11_kept_5 : decode cX11_kept 5 = .ok (.i2b, 1) := by decide +kernel
theorem dX11_kept_6 : decode cX11_kept 6 = .ok (.ireturn, 1) := by decide +kernel
theorem dX11_kept_7 : decode cX11_kept 7 = .ok (.iload_n 0, 1) := by decide +kernel
theorem dX11_kept_8 : decode cX11_kept 8 = .ok (.iconst 1, 1) := by decide +kernel
theorem dX11_kept_9 : decode cX11_kept 9 = .ok (.if_icmp .ne 8, 3) := by decide +kernel
theorem dX11_kept_12 : decode cX11_kept 12 = .ok (.iload_n 1, 1) := by decide +kernel
theorem dX11_kept_13 : decode cX11_kept 13 = .ok (.i2s, 1) := by decide +kernel
theorem dX11_kept_14 : decode cX11_kept 14 = .ok (.goto 4, 3) := by decide +kernel
theorem dX11_kept_17 : decode cX11_kept 17 = .ok (.iload_n 1, 1) := by decide +kernel
theorem dX11_kept_18 : decode cX11_kept 18 = .ok (.ireturn, 1) := by decide +kernel
theorem okX11_kept : ab_okM MX11_kept 2 := ⟨by decide, ⟨by decide, by decide⟩, ab_in 1699 (by decide +kernel) (by decide +kernel), ab_in 86 (by decide +kernel) (by decide +kernel), by decide +kernel, by decide⟩
set_option maxHeartbeats 4000000 in
set_option maxRecDepth 100000 in
def wX11_kept (v0 : Int32) (v1 : Int32) (x : ab_X) (K : Int32 → Prop) : Prop := ((¬ v0 = 0 → ((¬ v0 = 1 → K v1) ∧ (v0 = 1 → K (v1).toInt16.toInt32))) ∧ (v0 = 0 → K (v1).toInt8.toInt32))
set_option maxHeartbeats 4000000 in
set_option maxRecDepth 100000 in
theorem sX11_kept (v0 : Int32) (v1 : Int32)  (x : ab_X) (K : Int32 → Prop) (d bc bs : Nat) (hdp : 0 ≤ d) (h : wX11_kept v0 v1 x K) : EW MX11_kept 0 [(0, .int v0), (1, .int v1)] [] (aS x) d bc bs (liP x K) := by
  unfold wX11_kept at h
  refine EW_iload_n (pc2 := 1) rfl dX11_kept_0 0 rfl ?_
  refine EW_if_ne (tgt := 7) (pc2 := 4) rfl dX11_kept_1 (by decide) (fun q => ?_) (fun q => ?_)
  · replace h := h.1 q
    refine EW_iload_n (pc2 := 8) rfl dX11_kept_7 0 rfl ?_
    refine EW_iconst (pc2 := 9) (v := 1) rfl dX11_kept_8 (by decide) ?_
    refine EW_icmp_ne (tgt := 17) (pc2 := 12) rfl dX11_kept_9 (by decide) (fun q => ?_) (fun q => ?_)
    · replace h := h.1 q
      refine EW_iload_n (pc2 := 18) rfl dX11_kept_17 1 rfl ?_
      exact AW_iret rfl dX11_kept_18 ⟨_, rfl, rfl, h⟩
    · replace h := h.2 q
      refine EW_iload_n (pc2 := 13) rfl dX11_kept_12 1 rfl ?_
      refine EW_i2s (pc2 := 14) (v := (v1).toInt16.toInt32) rfl dX11_kept_13 rfl ?_
      refine EW_goto (tgt := 18) dX11_kept_14 (by decide) ?_
      exact AW_iret rfl dX11_kept_18 ⟨_, rfl, rfl, h⟩
  · replace h := h.2 q
    refine EW_iload_n (pc2 := 5) rfl dX11_kept_4 1 rfl ?_
    refine EW_i2b (pc2 := 6) (v := (v1).toInt8.toInt32) rfl dX11_kept_5 rfl ?_
    exact AW_iret rfl dX11_kept_6 ⟨_, rfl, rfl, h⟩
theorem gfRX11_385 : ab_L RX11 385 0 8 := ⟨by decide, by decide, ab_in 559 (by decide +kernel) (by decide +kernel)⟩
abbrev MX11_leaving : ab_M := (yX11_leaving, cX11_leaving, 1, (some .boolean))
theorem dX11_leaving_0 : decode cX11_leaving 0 = .ok (.aload_n 0, 1) := by decide +kernel
theorem dX11_leaving_1 : decode cX11_leaving 1 = .ok (.getfield 37, 3) := by decide +kernel
theorem dX11_leaving_4 : decode cX11_leaving 4 = .ok (.iconst 1, 1) := by decide +kernel
theorem dX11_leaving_5 : decode cX11_leaving 5 = .ok (.invokevirtual 368, 3) := by decide +kernel
theorem dX11_leaving_8 : decode cX11_leaving 8 = .ok (.ifCond .ne 5, 3) := by decide +kernel
theorem dX11_leaving_11 : decode cX11_leaving 11 = .ok (.iconst 0, 1) := by decide +kernel
theorem dX11_leaving_12 : decode cX11_leaving 12 = .ok (.ireturn, 1) := by decide +kernel
theorem dX11_leaving_13 : decode cX11_leaving 13 = .ok (.aload_n 0, 1) := by decide +kernel
theorem dX11_leaving_14 : decode cX11_leaving 14 = .ok (.getfield 37, 3) := by decide +kernel
theorem dX11_leaving_17 : decode cX11_leaving 17 = .ok (.aload_n 0, 1) := by decide +kernel
theorem dX11_leaving_18 : decode cX11_leaving 18 = .ok (.getfield 30, 3) := by decide +kernel
theorem dX11_leaving_21 : decode cX11_leaving 21 = .ok (.getfield 385, 3) := by decide +kernel
theorem dX11_leaving_24 : decode cX11_leaving 24 = .ok (.invokevirtual 381, 3) := by decide +kernel
theorem dX11_leaving_27 : decode cX11_leaving 27 = .ok (.iconst 1, 1) := by decide +kernel
theorem dX11_leaving_28 : decode cX11_leaving 28 = .ok (.ireturn, 1) := by decide +kernel
theorem okX11_leaving : ab_okM MX11_leaving 0 := ⟨by decide, ⟨by decide, by decide⟩, ab_in 1341 (by decide +kernel) (by decide +kernel), ab_in 86 (by decide +kernel) (by decide +kernel), by decide +kernel, by decide⟩
set_option maxHeartbeats 4000000 in
set_option maxRecDepth 100000 in
def wX11_leaving  (x : ab_X) (K : Int32 → ab_X → Prop) : Prop := wX8_parse 1 x (fun r1 x2 => ((¬ r1 = 0 → wX8_handOver 74 x2 (fun x3 => K 1 x3)) ∧ (r1 = 0 → K 0 x2)))
set_option maxHeartbeats 4000000 in
set_option maxRecDepth 100000 in
theorem sX11_leaving   (x : ab_X) (K : Int32 → ab_X → Prop) (d bc bs : Nat) (hdp : 212 ≤ d) (h : wX11_leaving  x K) : EW MX11_leaving 0 [(0, .ref 0)] [] (aS x) d bc bs (liI K) := by
  unfold wX11_leaving at h
  refine EW_aload_n (pc2 := 1) rfl dX11_leaving_0 0 rfl ?_
  refine AW_getr (r := 158) ⟨gfRX11_37, rfl⟩ (pc2 := 4) rfl dX11_leaving_1 q0 rfl ?_
  refine EW_iconst (pc2 := 5) (v := 1) rfl dX11_leaving_4 (by decide) ?_
  refine AW_invV (M' := MX8_parse) [.int 1] (rest := []) mlRX11_368 okX8_parse (pc2 := 8) rfl dX11_leaving_5 rfl rfl (Nat.le_of_ble_eq_true rfl) (Nat.le_of_ble_eq_true rfl) (d' := 211) (by omega) q158 ⟨by decide, rfl⟩ (EW_mono (fun _ _ hr => ?_) (sX8_parse 1  x _ _ 0 0 (Nat.le_refl _) h))
  obtain ⟨r1, x2, rfl, rfl, h⟩ := hr
  refine EW_if_ne (tgt := 13) (pc2 := 11) rfl dX11_leaving_8 (by decide) (fun q => ?_) (fun q => ?_)
  · replace h := h.1 q
    refine EW_aload_n (pc2 := 14) rfl dX11_leaving_13 0 rfl ?_
    refine AW_getr (r := 158) ⟨gfRX11_37, rfl⟩ (pc2 := 17) rfl dX11_leaving_14 q0 rfl ?_
    refine EW_aload_n (pc2 := 18) rfl dX11_leaving_17 0 rfl ?_
    refine AW_getr (r := 66) ⟨gfRX11_30, rfl⟩ (pc2 := 21) rfl dX11_leaving_18 q0 rfl ?_
    refine AW_getr (r := 74) ⟨gfRX11_385, rfl⟩ (pc2 := 24) rfl dX11_leaving_21 q66 rfl ?_
    refine AW_invV (M' := MX8_handOver) [.ref 74] (rest := []) mlRX11_381 okX8_handOver (pc2 := 27) rfl dX11_leaving_24 rfl rfl (Nat.le_of_ble_eq_true rfl) (Nat.le_of_ble_eq_true rfl) (d' := 2) (by omega) q158 ⟨by decide, rfl⟩ (EW_mono (fun _ _ hr => ?_) (sX8_handOver 74 (Or.inr (Or.inl rfl) : isT 74) x2 _ _ 0 0 (Nat.le_refl _) h))
    obtain ⟨x3, rfl, rfl, h⟩ := hr
    refine EW_iconst (pc2 := 28) (v := 1) rfl dX11_leaving_27 (by decide) ?_
    exact AW_zret rfl isB1 dX11_leaving_28 ⟨_, _, rfl, rfl, h⟩
  · replace h := h.2 q
    refine EW_iconst (pc2 := 12) (v := 0) rfl dX11_leaving_11 (by decide) ?_
    exact AW_zret rfl isB0 dX11_leaving_12 ⟨_, _, rfl, rfl, h⟩
abbrev MX3_kindle : ab_M := (yX3_kindle, cX3_kindle, 2, none)
theorem dX3_kindle_0 : decode cX3_kindle 0 = .ok (.aload_n 0, 1) := by decide +kernel
theorem dX3_kindle_1 : decode cX3_kindle 1 = .ok (.getfield 9, 3) := by decide +kernel
theorem dX3_kindle_4 : decode cX3_kindle 4 = .ok (.iload_n 1, 1) := by decide +kernel
theorem dX3_kindle_5 : decode cX3_kindle 5 = .ok (.aload_n 0, 1) := by decide +kernel
theorem dX3_kindle_6 : decode cX3_kindle 6 = .ok (.getfield 9, 3) := by decide +kernel
theorem dX3_kindle_9 : decode cX3_kindle 9 = .ok (.iload_n 1, 1) := by decide +kernel
theorem dX3_kindle_10 : decode cX3_kindle 10 = .ok (.iaload, 1) := by decide +kernel
theorem dX3_kindle_11 : decode cX3_kindle 11 = .ok (.sipush 400, 3) := by decide +kernel
theorem dX3_kindle_14 : decode cX3_kindle 14 = .ok (.invokestatic 74, 3) := by decide +kernel
theorem dX3_kindle_17 : decode cX3_kindle 17 = .ok (.iastore, 1) := by decide +kernel
theorem dX3_kindle_18 : decode cX3_kindle 18 = .ok (.aload_n 0, 1) := by decide +kernel
theorem dX3_kindle_19 : decode cX3_kindle 19 = .ok (.iconst 0, 1) := by decide +kernel
theorem dX3_kindle_20 : decode cX3_kindle 20 = .ok (.putfield 34, 3) := by decide +kernel
theorem dX3_kindle_23 : decode cX3_kindle 23 = .ok (.return_, 1) := by decide +kernel
theorem okX3_kindle : ab_okM MX3_kindle 1 := ⟨by decide, ⟨by decide, by decide⟩, ab_in 907 (by decide +kernel) (by decide +kernel), ab_in 90 (by decide +kernel) (by decide +kernel), by decide +kernel, by decide⟩
set_option maxHeartbeats 4000000 in
set_option maxRecDepth 100000 in
def wX3_kindle (v0 : Nat) (v1 : Int32) (x : ab_X) (K : ab_X → Prop) : Prop := (vp_in v1 288 ∧ vp_in v1 288 ∧ K (wr (wr x (v0 + 1) (Int32.toNatClampNeg v1) (imax (x.1 (v0 + 1) (Int32.toNatClampNeg v1)) 400)) v0 7 0))
set_option maxHeartbeats 4000000 in
set_option maxRecDepth 100000 in
theorem sX3_kindle (v0 : Nat) (v1 : Int32) (hv0 : isF v0) (x : ab_X) (K : ab_X → Prop) (d bc bs : Nat) (hdp : 1 ≤ d) (h : wX3_kindle v0 v1 x K) : EW MX3_kindle 0 [(0, .ref v0), (1, .int v1)] [] (aS x) d bc bs (liV K) := by
  unfold wX3_kindle at h
  refine EW_aload_n (pc2 := 1) rfl dX3_kindle_0 0 rfl ?_
  refine AW_getr (r := (v0 + 1)) ⟨gfRX3_9, rfl⟩ (pc2 := 4) rfl dX3_kindle_1 (isF.o hv0) (isF.r0 hv0) ?_
  refine EW_iload_n (pc2 := 5) rfl dX3_kindle_4 1 rfl ?_
  refine EW_aload_n (pc2 := 6) rfl dX3_kindle_5 0 rfl ?_
  refine AW_getr (r := (v0 + 1)) ⟨gfRX3_9, rfl⟩ (pc2 := 9) rfl dX3_kindle_6 (isF.o hv0) (isF.r0 hv0) ?_
  refine EW_iload_n (pc2 := 10) rfl dX3_kindle_9 1 rfl ?_
  obtain ⟨b1, h⟩ := h
  refine AW_iald (pc2 := 11) rfl dX3_kindle_10 (isF.a0 hv0) b1 ?_
  refine EW_sipush (pc2 := 14) (v := 400) rfl dX3_kindle_11 (by decide) ?_
  refine AW_mmax mmRX3_74 (pc2 := 17) rfl dX3_kindle_14 (Nat.le_of_ble_eq_true rfl) (by omega) ?_
  obtain ⟨b2, h⟩ := h
  refine AW_iast (pc2 := 18) rfl dX3_kindle_17 (isF.a0 hv0) b2 ?_
  refine EW_aload_n (pc2 := 19) rfl dX3_kindle_18 0 rfl ?_
  refine EW_iconst (pc2 := 20) (v := 0) rfl dX3_kindle_19 (by decide) ?_
  refine AW_putz ⟨gfRX3_34, rfl, rfl⟩ isB0 (pc2 := 23) rfl dX3_kindle_20 (isF.o hv0) ?_
  exact EW_vret rfl dX3_kindle_23 ⟨_, rfl, rfl, h⟩
theorem mlRX11_173 : Cond.methodLink RX11 173 yX10_hasRoom ∈ ab_G ∧ Cond.instanceMethod yX10_hasRoom ∈ ab_G ∧ Cond.selects RX10 yX10_hasRoom yX10_hasRoom ∈ ab_G := ⟨ab_in 895 (by decide +kernel) (by decide +kernel), ab_in 896 (by decide +kernel) (by decide +kernel), ab_in 897 (by decide +kernel) (by decide +kernel)⟩
theorem mlRX11_176 : Cond.methodLink RX11 176 yX4_floorOf ∈ ab_G ∧ Cond.instanceMethod yX4_floorOf ∈ ab_G ∧ Cond.selects RX4 yX4_floorOf yX4_floorOf ∈ ab_G := ⟨ab_in 899 (by decide +kernel) (by decide +kernel), ab_in 900 (by decide +kernel) (by decide +kernel), ab_in 901 (by decide +kernel) (by decide +kernel)⟩
theorem mlRX11_180 : Cond.methodLink RX11 180 yX4_place ∈ ab_G ∧ Cond.instanceMethod yX4_place ∈ ab_G ∧ Cond.selects RX4 yX4_place yX4_place ∈ ab_G := ⟨ab_in 903 (by decide +kernel) (by decide +kernel), ab_in 872 (by decide +kernel) (by decide +kernel), ab_in 873 (by decide +kernel) (by decide +kernel)⟩
theorem mlRX11_183 : Cond.methodLink RX11 183 yX3_kindle ∈ ab_G ∧ Cond.instanceMethod yX3_kindle ∈ ab_G ∧ Cond.selects RX3 yX3_kindle yX3_kindle ∈ ab_G := ⟨ab_in 904 (by decide +kernel) (by decide +kernel), ab_in 905 (by decide +kernel) (by decide +kernel), ab_in 906 (by decide +kernel) (by decide +kernel)⟩
abbrev MX11_light : ab_M := (yX11_light, cX11_light, 4, (some .boolean))
theorem dX11_light_0 : decode cX11_light 0 = .ok (.aload_n 0, 1) := by decide +kernel
theorem dX11_light_1 : decode cX11_light 1 = .ok (.getfield 21, 3) := by decide +kernel
theorem dX11_light_4 : decode cX11_light 4 = .ok (.iload_n 1, 1) := by decide +kernel
theorem dX11_light_5 : decode cX11_light 5 = .ok (.iload_n 2, 1) := by decide +kernel
theorem dX11_light_6 : decode cX11_light 6 = .ok (.invokevirtual 173, 3) := by decide +kernel
theorem dX11_light_9 : decode cX11_light 9 = .ok (.ifCond .ne 5, 3) := by decide +kernel
theorem dX11_light_12 : decode cX11_light 12 = .ok (.iconst 0, 1) := by decide +kernel
theorem dX11_light_13 : decode cX11_light 13 = .ok (.ireturn, 1) := by decide +kernel
theorem dX11_light_14 : decode cX11_light 14 = .ok (.aload_n 0, 1) := by decide +kernel
theorem dX11_light_15 : decode cX11_light 15 = .ok (.getfield 21, 3) := by decide +kernel
theorem dX11_light_18 : decode cX11_light 18 = .ok (.getfield 127, 3) := by decide +kernel
theorem dX11_light_21 : decode cX11_light 21 = .ok (.iload_n 1, 1) := by decide +kernel
theorem dX11_light_22 : decode cX11_light 22 = .ok (.aaload, 1) := by decide +kernel
theorem dX11_light_23 : decode cX11_light 23 = .ok (.astore_n 3, 1) := by decide +kernel
theorem dX11_light_24 : decode cX11_light 24 = .ok (.aload_n 0, 1) := by decide +kernel
theorem dX11_light_25 : decode cX11_light 25 = .ok (.getfield 21, 3) := by decide +kernel
theorem dX11_light_28 : decode cX11_light 28 = .ok (.getfield 150, 3) := by decide +kernel
theorem dX11_light_31 : decode cX11_light 31 = .ok (.aload_n 3, 1) := by decide +kernel
theorem dX11_light_32 : decode cX11_light 32 = .ok (.aload_n 3, 1) := by decide +kernel
theorem dX11_light_33 : decode cX11_light 33 = .ok (.iload_n 2, 1) := by decide +kernel
theorem dX11_light_34 : decode cX11_light 34 = .ok (.invokevirtual 176, 3) := by decide +kernel
theorem dX11_light_37 : decode cX11_light 37 = .ok (.invokevirtual 154, 3) := by decide +kernel
theorem dX11_light_40 : decode cX11_light 40 = .ok (.ifCond .eq 5, 3) := by decide +kernel
theorem dX11_light_43 : decode cX11_light 43 = .ok (.iconst 0, 1) := by decide +kernel
theorem dX11_light_44 : decode cX11_light 44 = .ok (.ireturn, 1) := by decide +kernel
theorem dX11_light_45 : decode cX11_light 45 = .ok (.aload_n 0, 1) := by decide +kernel
theorem dX11_light_46 : decode cX11_light 46 = .ok (.getfield 21, 3) := by decide +kernel
theorem dX11_light_49 : decode cX11_light 49 = .ok (.getfield 150, 3) := by decide +kernel
theorem dX11_light_52 : decode cX11_light 52 = .ok (.aload_n 3, 1) := by decide +kernel
theorem dX11_light_53 : decode cX11_light 53 = .ok (.iload_n 2, 1) := by decide +kernel
theorem dX11_light_54 : decode cX11_light 54 = .ok (.invokevirtual 180, 3) := by decide +kernel
theorem dX11_light_57 : decode cX11_light 57 = .ok (.invokevirtual 183, 3) := by decide +kernel
theorem dX11_light_60 : decode cX11_light 60 = .ok (.aload_n 0, 1) := by decide +kernel
theorem dX11_light_61 : decode cX11_light 61 = .ok (.getfield 30, 3) := by decide +kernel
theorem dX11_light_64 : decode cX11_light 64 = .ok (.invokevirtual 170, 3) := by decide +kernel
theorem dX11_light_67 : decode cX11_light 67 = .ok (.iconst 1, 1) := by decide +kernel
theorem dX11_light_68 : decode cX11_light 68 = .ok (.ireturn, 1) := by decide +kernel
theorem okX11_light : ab_okM MX11_light 2 := ⟨by decide, ⟨by decide, by decide⟩, ab_in 894 (by decide +kernel) (by decide +kernel), ab_in 86 (by decide +kernel) (by decide +kernel), by decide +kernel, by decide⟩
set_option maxHeartbeats 4000000 in
set_option maxRecDepth 100000 in
def wX11_light (v1 : Int32) (v2 : Int32) (x : ab_X) (K : Int32 → ab_X → Prop) : Prop := wX10_hasRoom v1 v2 x (fun r1 => ((¬ r1 = 0 → (vp_in v1 12 ∧ wX4_floorOf (30 + 3 * Int32.toNatClampNeg v1) v2 x (fun r3 => wX3_hasFallen 11 (30 + 3 * Int32.toNatClampNeg v1) r3 x (fun r4 => ((r4 = 0 → wX4_place (30 + 3 * Int32.toNatClampNeg v1) v2 x (fun r5 => wX3_kindle 11 r5 x (fun x6 => wX0_witness x6 (fun x7 => K 1 x7)))) ∧ (¬ r4 = 0 → K 0 x)))))) ∧ (r1 = 0 → K 0 x)))
set_option maxHeartbeats 4000000 in
set_option maxRecDepth 100000 in
theorem sX11_light (v1 : Int32) (v2 : Int32)  (x : ab_X) (K : Int32 → ab_X → Prop) (d bc bs : Nat) (hdp : 4 ≤ d) (h : wX11_light v1 v2 x K) : EW MX11_light 0 [(0, .ref 0), (1, .int v1), (2, .int v2)] [] (aS x) d bc bs (liI K) := by
  unfold wX11_light at h
  refine EW_aload_n (pc2 := 1) rfl dX11_light_0 0 rfl ?_
  refine AW_getr (r := 9) ⟨gfRX11_21, rfl⟩ (pc2 := 4) rfl dX11_light_1 q0 rfl ?_
  refine EW_iload_n (pc2 := 5) rfl dX11_light_4 1 rfl ?_
  refine EW_iload_n (pc2 := 6) rfl dX11_light_5 2 rfl ?_
  refine AW_invV (M' := MX10_hasRoom) [.int v1, .int v2] (rest := []) mlRX11_173 okX10_hasRoom (pc2 := 9) rfl dX11_light_6 rfl rfl (Nat.le_of_ble_eq_true rfl) (Nat.le_of_ble_eq_true rfl) (d' := 2) (by omega) q9 ⟨by decide, rfl⟩ (EW_mono (fun _ _ hr => ?_) (sX10_hasRoom v1 v2  x _ _ 0 0 (Nat.le_refl _) h))
  obtain ⟨r1, rfl, rfl, h⟩ := hr
  refine EW_if_ne (tgt := 14) (pc2 := 12) rfl dX11_light_9 (by decide) (fun q => ?_) (fun q => ?_)
  · replace h := h.1 q
    refine EW_aload_n (pc2 := 15) rfl dX11_light_14 0 rfl ?_
    refine AW_getr (r := 9) ⟨gfRX11_21, rfl⟩ (pc2 := 18) rfl dX11_light_15 q0 rfl ?_
    refine AW_getr (r := 10) ⟨gfRX11_127, rfl⟩ (pc2 := 21) rfl dX11_light_18 q9 rfl ?_
    refine EW_iload_n (pc2 := 22) rfl dX11_light_21 1 rfl ?_
    obtain ⟨b2, h⟩ := h
    refine AW_aald5 (pc2 := 23) rfl dX11_light_22 b2 ?_
    refine EW_astore_n (pc2 := 24) rfl dX11_light_23 (by decide) [1, 2, 3, 0] [(0, .ref 0), (1, .int v1), (2, .int v2), (3, .ref (30 + 3 * Int32.toNatClampNeg v1))] rfl ?_
    refine EW_aload_n (pc2 := 25) rfl dX11_light_24 0 rfl ?_
    refine AW_getr (r := 9) ⟨gfRX11_21, rfl⟩ (pc2 := 28) rfl dX11_light_25 q0 rfl ?_
    refine AW_getr (r := 11) ⟨gfRX11_150, rfl⟩ (pc2 := 31) rfl dX11_light_28 q9 rfl ?_
    refine EW_aload_n (pc2 := 32) rfl dX11_light_31 3 rfl ?_
    refine EW_aload_n (pc2 := 33) rfl dX11_light_32 3 rfl ?_
    refine EW_iload_n (pc2 := 34) rfl dX11_light_33 2 rfl ?_
    refine AW_invV (M' := MX4_floorOf) [.int v2] (rest := [.ref (30 + 3 * Int32.toNatClampNeg v1), .ref 11]) mlRX11_176 okX4_floorOf (pc2 := 37) rfl dX11_light_34 rfl rfl (Nat.le_of_ble_eq_true rfl) (Nat.le_of_ble_eq_true rfl) (d' := 0) (by omega) (isH.o (isH_of b2)) ⟨by decide, rfl⟩ (EW_mono (fun _ _ hr => ?_) (sX4_floorOf (30 + 3 * Int32.toNatClampNeg v1) v2 (isH_of b2) x _ _ 0 0 (Nat.le_refl _) h))
    obtain ⟨r3, rfl, rfl, h⟩ := hr
    refine AW_invV (M' := MX3_hasFallen) [.ref (30 + 3 * Int32.toNatClampNeg v1), .int r3] (rest := []) mlRX11_154 okX3_hasFallen (pc2 := 40) rfl dX11_light_37 rfl rfl (Nat.le_of_ble_eq_true rfl) (Nat.le_of_ble_eq_true rfl) (d' := 1) (by omega) q11 ⟨by decide, rfl⟩ (EW_mono (fun _ _ hr => ?_) (sX3_hasFallen 11 (30 + 3 * Int32.toNatClampNeg v1) r3 (Or.inl rfl : isF 11) (isH_of b2) x _ _ 0 0 (Nat.le_refl _) h))
    obtain ⟨r4, rfl, rfl, h⟩ := hr
    refine EW_if_eq (tgt := 45) (pc2 := 43) rfl dX11_light_40 (by decide) (fun q => ?_) (fun q => ?_)
    · replace h := h.1 q
      refine EW_aload_n (pc2 := 46) rfl dX11_light_45 0 rfl ?_
      refine AW_getr (r := 9) ⟨gfRX11_21, rfl⟩ (pc2 := 49) rfl dX11_light_46 q0 rfl ?_
      refine AW_getr (r := 11) ⟨gfRX11_150, rfl⟩ (pc2 := 52) rfl dX11_light_49 q9 rfl ?_
      refine EW_aload_n (pc2 := 53) rfl dX11_light_52 3 rfl ?_
      refine EW_iload_n (pc2 := 54) rfl dX11_light_53 2 rfl ?_
      refine AW_invV (M' := MX4_place) [.int v2] (rest := [.ref 11]) mlRX11_180 okX4_place (pc2 := 57) rfl dX11_light_54 rfl rfl (Nat.le_of_ble_eq_true rfl) (Nat.le_of_ble_eq_true rfl) (d' := 0) (by omega) (isH.o (isH_of b2)) ⟨by decide, rfl⟩ (EW_mono (fun _ _ hr => ?_) (sX4_place (30 + 3 * Int32.toNatClampNeg v1) v2 (isH_of b2) x _ _ 0 0 (Nat.le_refl _) h))
      obtain ⟨r5, rfl, rfl, h⟩ := hr
      refine AW_invV (M' := MX3_kindle) [.int r5] (rest := []) mlRX11_183 okX3_kindle (pc2 := 60) rfl dX11_light_57 rfl rfl (Nat.le_of_ble_eq_true rfl) (Nat.le_of_ble_eq_true rfl) (d' := 1) (by omega) q11 ⟨by decide, rfl⟩ (EW_mono (fun _ _ hr => ?_) (sX3_kindle 11 r5 (Or.inl rfl : isF 11) x _ _ 0 0 (Nat.le_refl _) h))
      obtain ⟨x6, rfl, rfl, h⟩ := hr
      refine EW_aload_n (pc2 := 61) rfl dX11_light_60 0 rfl ?_
      refine AW_getr (r := 66) ⟨gfRX11_30, rfl⟩ (pc2 := 64) rfl dX11_light_61 q0 rfl ?_
      refine AW_invV (M' := MX0_witness) [] (rest := []) mlRX11_170 okX0_witness (pc2 := 67) rfl dX11_light_64 rfl rfl (Nat.le_of_ble_eq_true rfl) (Nat.le_of_ble_eq_true rfl) (d' := 3) (by omega) q66 ⟨by decide, rfl⟩ (EW_mono (fun _ _ hr => ?_) (sX0_witness   x6 _ _ 0 0 (Nat.le_refl _) h))
      obtain ⟨x7, rfl, rfl, h⟩ := hr
      refine EW_iconst (pc2 := 68) (v := 1) rfl dX11_light_67 (by decide) ?_
      exact AW_zret rfl isB1 dX11_light_68 ⟨_, _, rfl, rfl, h⟩
    · replace h := h.2 q
      refine EW_iconst (pc2 := 44) (v := 0) rfl dX11_light_43 (by decide) ?_
      exact AW_zret rfl isB0 dX11_light_44 ⟨_, _, rfl, rfl, h⟩
  · replace h := h.2 q
    refine EW_iconst (pc2 := 13) (v := 0) rfl dX11_light_12 (by decide) ?_
    exact AW_zret rfl isB0 dX11_light_13 ⟨_, _, rfl, rfl, h⟩
abbrev MX11_look : ab_M := (yX11_look, cX11_look, 2, (some .boolean))
theorem dX11_look_0 : decode cX11_look 0 = .ok (.aload_n 0, 1) := by decide +kernel
theorem dX11_look_1 : decode cX11_look 1 = .ok (.getfield 21, 3) := by decide +kernel
theorem dX11_look_4 : decode cX11_look 4 = .ok (.iload_n 1, 1) := by decide +kernel
theorem dX11_look_5 : decode cX11_look 5 = .ok (.invokevirtual 124, 3) := by decide +kernel
theorem dX11_look_8 : decode cX11_look 8 = .ok (.ifCond .eq 33, 3) := by decide +kernel
theorem dX11_look_11 : decode cX11_look 11 = .ok (.aload_n 0, 1) := by decide +kernel
theorem dX11_look_12 : decode cX11_look 12 = .ok (.getfield 46, 3) := by decide +kernel
theorem dX11_look_15 : decode cX11_look 15 = .ok (.iload_n 1, 1) := by decide +kernel
theorem dX11_look_16 : decode cX11_look 16 = .ok (.aload_n 0, 1) := by decide +kernel
theorem dX11_look_17 : decode cX11_look 17 = .ok (.getfield 30, 3) := by decide +kernel
theorem dX11_look_20 : decode cX11_look 20 = .ok (.getfield 400, 3) := by decide +kernel
theorem dX11_look_23 : decode cX11_look 23 = .ok (.iconst (-1), 1) := by decide +kernel
theorem dX11_look_24 : decode cX11_look 24 = .ok (.aload_n 0, 1) := by decide +kernel
theorem dX11_look_25 : decode cX11_look 25 = .ok (.getfield 30, 3) := by decide +kernel
theorem dX11_look_28 : decode cX11_look 28 = .ok (.getfield 400, 3) := by decide +kernel
theorem dX11_look_31 : decode cX11_look 31 = .ok (.invokevirtual 422, 3) := by decide +kernel
theorem dX11_look_34 : decode cX11_look 34 = .ok (.ifCond .eq 7, 3) := by decide +kernel
theorem dX11_look_37 : decode cX11_look 37 = .ok (.iconst 1, 1) := by decide +kernel
theorem dX11_look_38 : decode cX11_look 38 = .ok (.goto 4, 3) := by decide +kernel
theorem dX11_look_41 : decode cX11_look 41 = .ok (.iconst 0, 1) := by decide +kernel
theorem dX11_look_42 : decode cX11_look 42 = .ok (.ireturn, 1) := by decide +kernel
theorem okX11_look : ab_okM MX11_look 1 := ⟨by decide, ⟨by decide, by decide⟩, ab_in 1550 (by decide +kernel) (by decide +kernel), ab_in 86 (by decide +kernel) (by decide +kernel), by decide +kernel, by decide⟩
set_option maxHeartbeats 4000000 in
set_option maxRecDepth 100000 in
def wX11_look (v1 : Int32) (x : ab_X) (K : Int32 → ab_X → Prop) : Prop := wX10_has v1 x (fun r1 => ((r1 = 0 → K 0 x) ∧ (¬ r1 = 0 → wX5_tell v1 (x.1 66 12) (-1) (x.1 66 12) x (fun r2 x3 => ((r2 = 0 → K 0 x3) ∧ (¬ r2 = 0 → K 1 x3))))))
set_option maxHeartbeats 4000000 in
set_option maxRecDepth 100000 in
theorem sX11_look (v1 : Int32)  (x : ab_X) (K : Int32 → ab_X → Prop) (d bc bs : Nat) (hdp : 2 ≤ d) (h : wX11_look v1 x K) : EW MX11_look 0 [(0, .ref 0), (1, .int v1)] [] (aS x) d bc bs (liI K) := by
  unfold wX11_look at h
  refine EW_aload_n (pc2 := 1) rfl dX11_look_0 0 rfl ?_
  refine AW_getr (r := 9) ⟨gfRX11_21, rfl⟩ (pc2 := 4) rfl dX11_look_1 q0 rfl ?_
  refine EW_iload_n (pc2 := 5) rfl dX11_look_4 1 rfl ?_
  refine AW_invV (M' := MX10_has) [.int v1] (rest := []) mlRX11_124 okX10_has (pc2 := 8) rfl dX11_look_5 rfl rfl (Nat.le_of_ble_eq_true rfl) (Nat.le_of_ble_eq_true rfl) (d' := 1) (by omega) q9 ⟨by decide, rfl⟩ (EW_mono (fun _ _ hr => ?_) (sX10_has v1  x _ _ 0 0 (Nat.le_refl _) h))
  obtain ⟨r1, rfl, rfl, h⟩ := hr
  refine EW_if_eq (tgt := 41) (pc2 := 11) rfl dX11_look_8 (by decide) (fun q => ?_) (fun q => ?_)
  · replace h := h.1 q
    refine EW_iconst (pc2 := 42) (v := 0) rfl dX11_look_41 (by decide) ?_
    exact AW_zret rfl isB0 dX11_look_42 ⟨_, _, rfl, rfl, h⟩
  · replace h := h.2 q
    refine EW_aload_n (pc2 := 12) rfl dX11_look_11 0 rfl ?_
    refine AW_getr (r := 165) ⟨gfRX11_46, rfl⟩ (pc2 := 15) rfl dX11_look_12 q0 rfl ?_
    refine EW_iload_n (pc2 := 16) rfl dX11_look_15 1 rfl ?_
    refine EW_aload_n (pc2 := 17) rfl dX11_look_16 0 rfl ?_
    refine AW_getr (r := 66) ⟨gfRX11_30, rfl⟩ (pc2 := 20) rfl dX11_look_17 q0 rfl ?_
    refine AW_geti ⟨gfRX11_400, rfl⟩ (pc2 := 23) rfl dX11_look_20 q66 ?_
    refine EW_iconst (pc2 := 24) (v := (-1)) rfl dX11_look_23 (by decide) ?_
    refine EW_aload_n (pc2 := 25) rfl dX11_look_24 0 rfl ?_
    refine AW_getr (r := 66) ⟨gfRX11_30, rfl⟩ (pc2 := 28) rfl dX11_look_25 q0 rfl ?_
    refine AW_geti ⟨gfRX11_400, rfl⟩ (pc2 := 31) rfl dX11_look_28 q66 ?_
    refine AW_invV (M' := MX5_tell) [.int v1, .int (x.1 66 12), .int (-1), .int (x.1 66 12)] (rest := []) mlRX11_422 okX5_tell (pc2 := 34) rfl dX11_look_31 rfl rfl (Nat.le_of_ble_eq_true rfl) (Nat.le_of_ble_eq_true rfl) (d' := 0) (by omega) q165 ⟨by decide, rfl⟩ (EW_mono (fun _ _ hr => ?_) (sX5_tell v1 (x.1 66 12) (-1) (x.1 66 12)  x _ _ 0 0 (Nat.le_refl _) h))
    obtain ⟨r2, x3, rfl, rfl, h⟩ := hr
    refine EW_if_eq (tgt := 41) (pc2 := 37) rfl dX11_look_34 (by decide) (fun q => ?_) (fun q => ?_)
    · replace h := h.1 q
      refine EW_iconst (pc2 := 42) (v := 0) rfl dX11_look_41 (by decide) ?_
      exact AW_zret rfl isB0 dX11_look_42 ⟨_, _, rfl, rfl, h⟩
    · replace h := h.2 q
      refine EW_iconst (pc2 := 38) (v := 1) rfl dX11_look_37 (by decide) ?_
      refine EW_goto (tgt := 42) dX11_look_38 (by decide) ?_
      exact AW_zret rfl isB1 dX11_look_42 ⟨_, _, rfl, rfl, h⟩
abbrev MX11_lose : ab_M := (yX11_lose, cX11_lose, 2, (some .boolean))
theorem dX11_lose_0 : decode cX11_lose 0 = .ok (.aload_n 0, 1) := by decide +kernel
theorem dX11_lose_1 : decode cX11_lose 1 = .ok (.iload_n 1, 1) := by decide +kernel
theorem dX11_lose_2 : decode cX11_lose 2 = .ok (.invokevirtual 467, 3) := by decide +kernel
theorem dX11_lose_5 : decode cX11_lose 5 = .ok (.ifCond .ne 5, 3) := by decide +kernel
theorem dX11_lose_8 : decode cX11_lose 8 = .ok (.iconst 0, 1) := by decide +kernel
theorem dX11_lose_9 : decode cX11_lose 9 = .ok (.ireturn, 1) := by decide +kernel
theorem dX11_lose_10 : decode cX11_lose 10 = .ok (.aload_n 0, 1) := by decide +kernel
theorem dX11_lose_11 : decode cX11_lose 11 = .ok (.getfield 63, 3) := by decide +kernel
theorem dX11_lose_14 : decode cX11_lose 14 = .ok (.iload_n 1, 1) := by decide +kernel
theorem dX11_lose_15 : decode cX11_lose 15 = .ok (.iconst 1, 1) := by decide +kernel
theorem dX11_lose_16 : decode cX11_lose 16 = .ok (.bastore, 1) := by decide +kernel
theorem dX11_lose_17 : decode cX11_lose 17 = .ok (.iconst 1, 1) := by decide +kernel
theorem dX11_lose_18 : decode cX11_lose 18 = .ok (.ireturn, 1) := by decide +kernel
theorem okX11_lose : ab_okM MX11_lose 1 := ⟨by decide, ⟨by decide, by decide⟩, ab_in 1703 (by decide +kernel) (by decide +kernel), ab_in 86 (by decide +kernel) (by decide +kernel), by decide +kernel, by decide⟩
set_option maxHeartbeats 4000000 in
set_option maxRecDepth 100000 in
def wX11_lose (v1 : Int32) (x : ab_X) (K : Int32 → ab_X → Prop) : Prop := wX11_hasRow v1 x (fun r1 => ((¬ r1 = 0 → (vp_in v1 6 ∧ K 1 (wr x 244 (Int32.toNatClampNeg v1) 1))) ∧ (r1 = 0 → K 0 x)))
set_option maxHeartbeats 4000000 in
set_option maxRecDepth 100000 in
theorem sX11_lose (v1 : Int32)  (x : ab_X) (K : Int32 → ab_X → Prop) (d bc bs : Nat) (hdp : 2 ≤ d) (h : wX11_lose v1 x K) : EW MX11_lose 0 [(0, .ref 0), (1, .int v1)] [] (aS x) d bc bs (liI K) := by
  unfold wX11_lose at h
  refine EW_aload_n (pc2 := 1) rfl dX11_lose_0 0 rfl ?_
  refine EW_iload_n (pc2 := 2) rfl dX11_lose_1 1 rfl ?_
  refine AW_invV (M' := MX11_hasRow) [.int v1] (rest := []) mlRX11_467 okX11_hasRow (pc2 := 5) rfl dX11_lose_2 rfl rfl (Nat.le_of_ble_eq_true rfl) (Nat.le_of_ble_eq_true rfl) (d' := 1) (by omega) q0 ⟨by decide, rfl⟩ (EW_mono (fun _ _ hr => ?_) (sX11_hasRow v1  x _ _ 0 0 (Nat.le_refl _) h))
  obtain ⟨r1, rfl, rfl, h⟩ := hr
  refine EW_if_ne (tgt := 10) (pc2 := 8) rfl dX11_lose_5 (by decide) (fun q => ?_) (fun q => ?_)
  · replace h := h.1 q
    refine EW_aload_n (pc2 := 11) rfl dX11_lose_10 0 rfl ?_
    refine AW_getr (r := 244) ⟨gfRX11_63, rfl⟩ (pc2 := 14) rfl dX11_lose_11 q0 rfl ?_
    refine EW_iload_n (pc2 := 15) rfl dX11_lose_14 1 rfl ?_
    refine EW_iconst (pc2 := 16) (v := 1) rfl dX11_lose_15 (by decide) ?_
    obtain ⟨b2, h⟩ := h
    refine AW_zast (pc2 := 17) rfl dX11_lose_16 q244 b2 isB1 ?_
    refine EW_iconst (pc2 := 18) (v := 1) rfl dX11_lose_17 (by decide) ?_
    exact AW_zret rfl isB1 dX11_lose_18 ⟨_, _, rfl, rfl, h⟩
  · replace h := h.2 q
    refine EW_iconst (pc2 := 9) (v := 0) rfl dX11_lose_8 (by decide) ?_
    exact AW_zret rfl isB0 dX11_lose_9 ⟨_, _, rfl, rfl, h⟩
abbrev MX11_loss : ab_M := (yX11_loss, cX11_loss, 5, (some .double))
theorem dX11_loss_0 : decode cX11_loss 0 = .ok (.aload_n 0, 1) := by decide +kernel
theorem dX11_loss_1 : decode cX11_loss 1 = .ok (.iload_n 1, 1) := by decide +kernel
theorem dX11_loss_2 : decode cX11_loss 2 = .ok (.iload_n 2, 1) := by decide +kernel
theorem dX11_loss_3 : decode cX11_loss 3 = .ok (.iload_n 3, 1) := by decide +kernel
theorem dX11_loss_4 : decode cX11_loss 4 = .ok (.invokevirtual 480, 3) := by decide +kernel
theorem dX11_loss_7 : decode cX11_loss 7 = .ok (.ifCond .eq 20, 3) := by decide +kernel
theorem dX11_loss_10 : decode cX11_loss 10 = .ok (.iload 4, 2) := by decide +kernel
theorem dX11_loss_12 : decode cX11_loss 12 = .ok (.invokestatic 70, 3) := by decide +kernel
theorem dX11_loss_15 : decode cX11_loss 15 = .ok (.ifCond .eq 12, 3) := by decide +kernel
theorem dX11_loss_18 : decode cX11_loss 18 = .ok (.iload_n 2, 1) := by decide +kernel
theorem dX11_loss_19 : decode cX11_loss 19 = .ok (.iload 4, 2) := by decide +kernel
theorem dX11_loss_21 : decode cX11_loss 21 = .ok (.ishr, 1) := by decide +kernel
theorem dX11_loss_22 : decode cX11_loss 22 = .ok (.iconst 1, 1) := by decide +kernel
theorem dX11_loss_23 : decode cX11_loss 23 = .ok (.iand, 1) := by decide +kernel
theorem dX11_loss_24 : decode cX11_loss 24 = .ok (.ifCond .ne 7, 3) := by decide +kernel
theorem dX11_loss_27 : decode cX11_loss 27 = .ok (.ldc2_w 489, 3) := by decide +kernel
theorem dX11_loss_30 : decode cX11_loss 30 = .ok (.dreturn, 1) := by decide +kernel
theorem dX11_loss_31 : decode cX11_loss 31 = .ok (.aload_n 0, 1) := by decide +kernel
theorem dX11_loss_32 : decode cX11_loss 32 = .ok (.iload_n 1, 1) := by decide +kernel
theorem dX11_loss_33 : decode cX11_loss 33 = .ok (.iload_n 2, 1) := by decide +kernel
theorem dX11_loss_34 : decode cX11_loss 34 = .ok (.iload_n 3, 1) := by decide +kernel
theorem dX11_loss_35 : decode cX11_loss 35 = .ok (.invokevirtual 483, 3) := by decide +kernel
theorem dX11_loss_38 : decode cX11_loss 38 = .ok (.aload_n 0, 1) := by decide +kernel
theorem dX11_loss_39 : decode cX11_loss 39 = .ok (.iload_n 1, 1) := by decide +kernel
theorem dX11_loss_40 : decode cX11_loss 40 = .ok (.iload_n 2, 1) := by decide +kernel
theorem dX11_loss_41 : decode cX11_loss 41 = .ok (.iconst 1, 1) := by decide +kernel
theorem dX11_loss_42 : decode cX11_loss 42 = .ok (.iload 4, 2) := by decide +kernel
theorem dX11_loss_44 : decode cX11_loss 44 = .ok (.ishl, 1) := by decide +kernel
theorem dX11_loss_45 : decode cX11_loss 45 = .ok (.iconst (-1), 1) := by decide +kernel
theorem dX11_loss_46 : decode cX11_loss 46 = .ok (.ixor, 1) := by decide +kernel
theorem dX11_loss_47 : decode cX11_loss 47 = .ok (.iand, 1) := by decide +kernel
theorem dX11_loss_48 : decode cX11_loss 48 = .ok (.iload_n 3, 1) := by decide +kernel
theorem dX11_loss_49 : decode cX11_loss 49 = .ok (.invokevirtual 483, 3) := by decide +kernel
theorem dX11_loss_52 : decode cX11_loss 52 = .ok (.dsub, 1) := by decide +kernel
theorem dX11_loss_53 : decode cX11_loss 53 = .ok (.dreturn, 1) := by decide +kernel
theorem okX11_loss : ab_okM MX11_loss 4 := ⟨by decide, ⟨by decide, by decide⟩, ab_in 1734 (by decide +kernel) (by decide +kernel), ab_in 86 (by decide +kernel) (by decide +kernel), by decide +kernel, by decide⟩
set_option maxHeartbeats 4000000 in
set_option maxRecDepth 100000 in
def wX11_loss (v1 : Int32) (v2 : Int32) (v3 : Int32) (v4 : Int32) (x : ab_X) (K : UInt64 → ab_X → Prop) : Prop := wX11_canJudge v1 v2 v3 x (fun r1 => ((r1 = 0 → K 9221120237041090560 x) ∧ (¬ r1 = 0 → wX11_isCorner v4 x (fun r2 => ((r2 = 0 → K 9221120237041090560 x) ∧ (¬ r2 = 0 → ((¬ ((v2 >>> (v4 &&& 31)) &&& 1) = 0 → wX11_judgement v1 v2 v3 x (fun r3 x4 => wX11_judgement v1 (v2 &&& ((1 <<< (v4 &&& 31)) ^^^ (-1))) v3 x4 (fun r5 x6 => (∀ r7, alike64 r7 (FP.dsub r3 r5) = true → K r7 x6)))) ∧ (((v2 >>> (v4 &&& 31)) &&& 1) = 0 → K 9221120237041090560 x))))))))
set_option maxHeartbeats 4000000 in
set_option maxRecDepth 100000 in
theorem sX11_loss (v1 : Int32) (v2 : Int32) (v3 : Int32) (v4 : Int32)  (x : ab_X) (K : UInt64 → ab_X → Prop) (d bc bs : Nat) (hdp : 4 ≤ d) (h : wX11_loss v1 v2 v3 v4 x K) : EW MX11_loss 0 [(0, .ref 0), (1, .int v1), (2, .int v2), (3, .int v3), (4, .int v4)] [] (aS x) d bc bs (liDI K) := by
  unfold wX11_loss at h
  refine EW_aload_n (pc2 := 1) rfl dX11_loss_0 0 rfl ?_
  refine EW_iload_n (pc2 := 2) rfl dX11_loss_1 1 rfl ?_
  refine EW_iload_n (pc2 := 3) rfl dX11_loss_2 2 rfl ?_
  refine EW_iload_n (pc2 := 4) rfl dX11_loss_3 3 rfl ?_
  refine AW_invV (M' := MX11_canJudge) [.int v1, .int v2, .int v3] (rest := []) mlRX11_480 okX11_canJudge (pc2 := 7) rfl dX11_loss_4 rfl rfl (Nat.le_of_ble_eq_true rfl) (Nat.le_of_ble_eq_true rfl) (d' := 2) (by omega) q0 ⟨by decide, rfl⟩ (EW_mono (fun _ _ hr => ?_) (sX11_canJudge v1 v2 v3  x _ _ 0 0 (Nat.le_refl _) h))
  obtain ⟨r1, rfl, rfl, h⟩ := hr
  refine EW_if_eq (tgt := 27) (pc2 := 10) rfl dX11_loss_7 (by decide) (fun q => ?_) (fun q => ?_)
  · replace h := h.1 q
    refine EW_ldc2d cnRX11_489 (pc2 := 30) rfl dX11_loss_27 ?_
    exact EW_dret rfl dX11_loss_30 ⟨_, _, rfl, rfl, h⟩
  · replace h := h.2 q
    refine EW_iload (pc2 := 12) rfl dX11_loss_10 4 rfl ?_
    refine AW_invS (M' := MX11_isCorner) [.int v4] (rest := []) mlRX11_70 okX11_isCorner (pc2 := 15) rfl dX11_loss_12 rfl rfl (Nat.le_of_ble_eq_true rfl) (Nat.le_of_ble_eq_true rfl) (d' := 0) (by omega) (EW_mono (fun _ _ hr => ?_) (sX11_isCorner v4  x _ _ 0 0 (Nat.le_refl _) h))
    obtain ⟨r2, rfl, rfl, h⟩ := hr
    refine EW_if_eq (tgt := 27) (pc2 := 18) rfl dX11_loss_15 (by decide) (fun q => ?_) (fun q => ?_)
    · replace h := h.1 q
      refine EW_ldc2d cnRX11_489 (pc2 := 30) rfl dX11_loss_27 ?_
      exact EW_dret rfl dX11_loss_30 ⟨_, _, rfl, rfl, h⟩
    · replace h := h.2 q
      refine EW_iload_n (pc2 := 19) rfl dX11_loss_18 2 rfl ?_
      refine EW_iload (pc2 := 21) rfl dX11_loss_19 4 rfl ?_
      refine EW_ishr (pc2 := 22) rfl dX11_loss_21 ?_
      refine EW_iconst (pc2 := 23) (v := 1) rfl dX11_loss_22 (by decide) ?_
      refine EW_iand (pc2 := 24) rfl dX11_loss_23 ?_
      refine EW_if_ne (tgt := 31) (pc2 := 27) rfl dX11_loss_24 (by decide) (fun q => ?_) (fun q => ?_)
      · replace h := h.1 q
        refine EW_aload_n (pc2 := 32) rfl dX11_loss_31 0 rfl ?_
        refine EW_iload_n (pc2 := 33) rfl dX11_loss_32 1 rfl ?_
        refine EW_iload_n (pc2 := 34) rfl dX11_loss_33 2 rfl ?_
        refine EW_iload_n (pc2 := 35) rfl dX11_loss_34 3 rfl ?_
        refine AW_invV (M' := MX11_judgement) [.int v1, .int v2, .int v3] (rest := []) mlRX11_483 okX11_judgement (pc2 := 38) rfl dX11_loss_35 rfl rfl (Nat.le_of_ble_eq_true rfl) (Nat.le_of_ble_eq_true rfl) (d' := 3) (by omega) q0 ⟨by decide, rfl⟩ (EW_mono (fun _ _ hr => ?_) (sX11_judgement v1 v2 v3  x _ _ 0 0 (Nat.le_refl _) h))
        obtain ⟨r3, x4, rfl, rfl, h⟩ := hr
        refine EW_aload_n (pc2 := 39) rfl dX11_loss_38 0 rfl ?_
        refine EW_iload_n (pc2 := 40) rfl dX11_loss_39 1 rfl ?_
        refine EW_iload_n (pc2 := 41) rfl dX11_loss_40 2 rfl ?_
        refine EW_iconst (pc2 := 42) (v := 1) rfl dX11_loss_41 (by decide) ?_
        refine EW_iload (pc2 := 44) rfl dX11_loss_42 4 rfl ?_
        refine EW_ishl (pc2 := 45) rfl dX11_loss_44 ?_
        refine EW_iconst (pc2 := 46) (v := (-1)) rfl dX11_loss_45 (by decide) ?_
        refine EW_ixor (pc2 := 47) rfl dX11_loss_46 ?_
        refine EW_iand (pc2 := 48) rfl dX11_loss_47 ?_
        refine EW_iload_n (pc2 := 49) rfl dX11_loss_48 3 rfl ?_
        refine AW_invV (M' := MX11_judgement) [.int v1, .int (v2 &&& ((1 <<< (v4 &&& 31)) ^^^ (-1))), .int v3] (rest := [.double r3]) mlRX11_483 okX11_judgement (pc2 := 52) rfl dX11_loss_49 rfl rfl (Nat.le_of_ble_eq_true rfl) (Nat.le_of_ble_eq_true rfl) (d' := 3) (by omega) q0 ⟨by decide, rfl⟩ (EW_mono (fun _ _ hr => ?_) (sX11_judgement v1 (v2 &&& ((1 <<< (v4 &&& 31)) ^^^ (-1))) v3  x4 _ _ 0 0 (Nat.le_refl _) h))
        obtain ⟨r5, x6, rfl, rfl, h⟩ := hr
        refine EW_dsub_any (pc2 := 53) rfl dX11_loss_52 (fun r7 qr7 => ?_)
        replace h := h r7 qr7
        exact EW_dret rfl dX11_loss_53 ⟨_, _, rfl, rfl, h⟩
      · replace h := h.2 q
        refine EW_ldc2d cnRX11_489 (pc2 := 30) rfl dX11_loss_27 ?_
        exact EW_dret rfl dX11_loss_30 ⟨_, _, rfl, rfl, h⟩
theorem mlRX11_228 : Cond.methodLink RX11 228 yX10_addMain ∈ ab_G ∧ Cond.instanceMethod yX10_addMain ∈ ab_G ∧ Cond.selects RX10 yX10_addMain yX10_addMain ∈ ab_G := ⟨ab_in 947 (by decide +kernel) (by decide +kernel), ab_in 948 (by decide +kernel) (by decide +kernel), ab_in 949 (by decide +kernel) (by decide +kernel)⟩
abbrev MX11_main : ab_M := (yX11_main, cX11_main, 2, (some .int))
theorem dX11_main_0 : decode cX11_main 0 = .ok (.iload_n 1, 1) := by decide +kernel
theorem dX11_main_1 : decode cX11_main 1 = .ok (.bipush 10, 2) := by decide +kernel
theorem dX11_main_3 : decode cX11_main 3 = .ok (.sipush 2000, 3) := by decide +kernel
theorem dX11_main_6 : decode cX11_main 6 = .ok (.invokestatic 74, 3) := by decide +kernel
theorem dX11_main_9 : decode cX11_main 9 = .ok (.ifCond .eq 14, 3) := by decide +kernel
theorem dX11_main_12 : decode cX11_main 12 = .ok (.aload_n 0, 1) := by decide +kernel
theorem dX11_main_13 : decode cX11_main 13 = .ok (.getfield 21, 3) := by decide +kernel
theorem dX11_main_16 : decode cX11_main 16 = .ok (.iload_n 1, 1) := by decide +kernel
theorem dX11_main_17 : decode cX11_main 17 = .ok (.invokevirtual 228, 3) := by decide +kernel
theorem dX11_main_20 : decode cX11_main 20 = .ok (.goto 4, 3) := by decide +kernel
theorem dX11_main_23 : decode cX11_main 23 = .ok (.iconst (-1), 1) := by decide +kernel
theorem dX11_main_24 : decode cX11_main 24 = .ok (.ireturn, 1) := by decide +kernel
theorem okX11_main : ab_okM MX11_main 1 := ⟨by decide, ⟨by decide, by decide⟩, ab_in 946 (by decide +kernel) (by decide +kernel), ab_in 86 (by decide +kernel) (by decide +kernel), by decide +kernel, by decide⟩
set_option maxHeartbeats 4000000 in
set_option maxRecDepth 100000 in
def wX11_main (v1 : Int32) (x : ab_X) (K : Int32 → ab_X → Prop) : Prop := wX11_within v1 10 2000 x (fun r1 => ((r1 = 0 → K (-1) x) ∧ (¬ r1 = 0 → wX10_addMain v1 x (fun r2 x3 => K r2 x3))))
set_option maxHeartbeats 4000000 in
set_option maxRecDepth 100000 in
theorem sX11_main (v1 : Int32)  (x : ab_X) (K : Int32 → ab_X → Prop) (d bc bs : Nat) (hdp : 1 ≤ d) (h : wX11_main v1 x K) : EW MX11_main 0 [(0, .ref 0), (1, .int v1)] [] (aS x) d bc bs (liI K) := by
  unfold wX11_main at h
  refine EW_iload_n (pc2 := 1) rfl dX11_main_0 1 rfl ?_
  refine EW_bipush (pc2 := 3) (v := 10) rfl dX11_main_1 (by decide) ?_
  refine EW_sipush (pc2 := 6) (v := 2000) rfl dX11_main_3 (by decide) ?_
  refine AW_invS (M' := MX11_within) [.int v1, .int 10, .int 2000] (rest := []) mlRX11_74 okX11_within (pc2 := 9) rfl dX11_main_6 rfl rfl (Nat.le_of_ble_eq_true rfl) (Nat.le_of_ble_eq_true rfl) (d' := 0) (by omega) (EW_mono (fun _ _ hr => ?_) (sX11_within v1 10 2000  x _ _ 0 0 (Nat.le_refl _) h))
  obtain ⟨r1, rfl, rfl, h⟩ := hr
  refine EW_if_eq (tgt := 23) (pc2 := 12) rfl dX11_main_9 (by decide) (fun q => ?_) (fun q => ?_)
  · replace h := h.1 q
    refine EW_iconst (pc2 := 24) (v := (-1)) rfl dX11_main_23 (by decide) ?_
    exact AW_iret rfl dX11_main_24 ⟨_, _, rfl, rfl, h⟩
  · replace h := h.2 q
    refine EW_aload_n (pc2 := 13) rfl dX11_main_12 0 rfl ?_
    refine AW_getr (r := 9) ⟨gfRX11_21, rfl⟩ (pc2 := 16) rfl dX11_main_13 q0 rfl ?_
    refine EW_iload_n (pc2 := 17) rfl dX11_main_16 1 rfl ?_
    refine AW_invV (M' := MX10_addMain) [.int v1] (rest := []) mlRX11_228 okX10_addMain (pc2 := 20) rfl dX11_main_17 rfl rfl (Nat.le_of_ble_eq_true rfl) (Nat.le_of_ble_eq_true rfl) (d' := 0) (by omega) q9 ⟨by decide, rfl⟩ (EW_mono (fun _ _ hr => ?_) (sX10_addMain v1  x _ _ 0 0 (Nat.le_refl _) h))
    obtain ⟨r2, x3, rfl, rfl, h⟩ := hr
    refine EW_goto (tgt := 24) dX11_main_20 (by decide) ?_
    exact AW_iret rfl dX11_main_24 ⟨_, _, rfl, rfl, h⟩
abbrev MX11_orders : ab_M := (yX11_orders, cX11_orders, 1, (some .int))
theorem dX11_orders_0 : decode cX11_orders 0 = .ok (.aload_n 0, 1) := by decide +kernel
theorem dX11_orders_1 : decode cX11_orders 1 = .ok (.getfield 30, 3) := by decide +kernel
theorem dX11_orders_4 : decode cX11_orders 4 = .ok (.getfield 374, 3) := by decide +kernel
theorem dX11_orders_7 : decode cX11_orders 7 = .ok (.bipush 20, 2) := by decide +kernel
theorem dX11_orders_9 : decode cX11_orders 9 = .ok (.if_icmp .ge 14, 3) := by decide +kernel
theorem dX11_orders_12 : decode cX11_orders 12 = .ok (.aload_n 0, 1) := by decide +kernel
theorem dX11_orders_13 : decode cX11_orders 13 = .ok (.getfield 37, 3) := by decide +kernel
theorem dX11_orders_16 : decode cX11_orders 16 = .ok (.iconst 0, 1) := by decide +kernel
theorem dX11_orders_17 : decode cX11_orders 17 = .ok (.invokevirtual 368, 3) := by decide +kernel
theorem dX11_orders_20 : decode cX11_orders 20 = .ok (.ifCond .ne 5, 3) := by decide +kernel
theorem dX11_orders_23 : decode cX11_orders 23 = .ok (.iconst (-1), 1) := by decide +kernel
theorem dX11_orders_24 : decode cX11_orders 24 = .ok (.ireturn, 1) := by decide +kernel
theorem dX11_orders_25 : decode cX11_orders 25 = .ok (.aload_n 0, 1) := by decide +kernel
theorem dX11_orders_26 : decode cX11_orders 26 = .ok (.getfield 37, 3) := by decide +kernel
theorem dX11_orders_29 : decode cX11_orders 29 = .ok (.aload_n 0, 1) := by decide +kernel
theorem dX11_orders_30 : decode cX11_orders 30 = .ok (.getfield 30, 3) := by decide +kernel
theorem dX11_orders_33 : decode cX11_orders 33 = .ok (.getfield 377, 3) := by decide +kernel
theorem dX11_orders_36 : decode cX11_orders 36 = .ok (.invokevirtual 381, 3) := by decide +kernel
theorem dX11_orders_39 : decode cX11_orders 39 = .ok (.aload_n 0, 1) := by decide +kernel
theorem dX11_orders_40 : decode cX11_orders 40 = .ok (.getfield 30, 3) := by decide +kernel
theorem dX11_orders_43 : decode cX11_orders 43 = .ok (.dup, 1) := by decide +kernel
theorem dX11_orders_44 : decode cX11_orders 44 = .ok (.getfield 374, 3) := by decide +kernel
theorem dX11_orders_47 : decode cX11_orders 47 = .ok (.iconst 1, 1) := by decide +kernel
theorem dX11_orders_48 : decode cX11_orders 48 = .ok (.iadd, 1) := by decide +kernel
theorem dX11_orders_49 : decode cX11_orders 49 = .ok (.putfield 374, 3) := by decide +kernel
theorem dX11_orders_52 : decode cX11_orders 52 = .ok (.aload_n 0, 1) := by decide +kernel
theorem dX11_orders_53 : decode cX11_orders 53 = .ok (.getfield 30, 3) := by decide +kernel
theorem dX11_orders_56 : decode cX11_orders 56 = .ok (.getfield 374, 3) := by decide +kernel
theorem dX11_orders_59 : decode cX11_orders 59 = .ok (.iconst 1, 1) := by decide +kernel
theorem dX11_orders_60 : decode cX11_orders 60 = .ok (.isub, 1) := by decide +kernel
theorem dX11_orders_61 : decode cX11_orders 61 = .ok (.ireturn, 1) := by decide +kernel
theorem okX11_orders : ab_okM MX11_orders 0 := ⟨by decide, ⟨by decide, by decide⟩, ab_in 1326 (by decide +kernel) (by decide +kernel), ab_in 86 (by decide +kernel) (by decide +kernel), by decide +kernel, by decide⟩
set_option maxHeartbeats 4000000 in
set_option maxRecDepth 100000 in
def wX11_orders  (x : ab_X) (K : Int32 → ab_X → Prop) : Prop := ((20 ≤ (x.1 66 7) → K (-1) x) ∧ (¬ 20 ≤ (x.1 66 7) → wX8_parse 0 x (fun r1 x2 => ((¬ r1 = 0 → wX8_handOver 69 x2 (fun x3 => K (((wr x3 66 7 ((x3.1 66 7) + 1)).1 66 7) - 1) (wr x3 66 7 ((x3.1 66 7) + 1)))) ∧ (r1 = 0 → K (-1) x2)))))
set_option maxHeartbeats 4000000 in
set_option maxRecDepth 100000 in
theorem sX11_orders   (x : ab_X) (K : Int32 → ab_X → Prop) (d bc bs : Nat) (hdp : 212 ≤ d) (h : wX11_orders  x K) : EW MX11_orders 0 [(0, .ref 0)] [] (aS x) d bc bs (liI K) := by
  unfold wX11_orders at h
  refine EW_aload_n (pc2 := 1) rfl dX11_orders_0 0 rfl ?_
  refine AW_getr (r := 66) ⟨gfRX11_30, rfl⟩ (pc2 := 4) rfl dX11_orders_1 q0 rfl ?_
  refine AW_geti ⟨gfRX11_374, rfl⟩ (pc2 := 7) rfl dX11_orders_4 q66 ?_
  refine EW_bipush (pc2 := 9) (v := 20) rfl dX11_orders_7 (by decide) ?_
  refine EW_icmp_ge (tgt := 23) (pc2 := 12) rfl dX11_orders_9 (by decide) (fun q => ?_) (fun q => ?_)
  · replace h := h.1 q
    refine EW_iconst (pc2 := 24) (v := (-1)) rfl dX11_orders_23 (by decide) ?_
    exact AW_iret rfl dX11_orders_24 ⟨_, _, rfl, rfl, h⟩
  · replace h := h.2 q
    refine EW_aload_n (pc2 := 13) rfl dX11_orders_12 0 rfl ?_
    refine AW_getr (r := 158) ⟨gfRX11_37, rfl⟩ (pc2 := 16) rfl dX11_orders_13 q0 rfl ?_
    refine EW_iconst (pc2 := 17) (v := 0) rfl dX11_orders_16 (by decide) ?_
    refine AW_invV (M' := MX8_parse) [.int 0] (rest := []) mlRX11_368 okX8_parse (pc2 := 20) rfl dX11_orders_17 rfl rfl (Nat.le_of_ble_eq_true rfl) (Nat.le_of_ble_eq_true rfl) (d' := 211) (by omega) q158 ⟨by decide, rfl⟩ (EW_mono (fun _ _ hr => ?_) (sX8_parse 0  x _ _ 0 0 (Nat.le_refl _) h))
    obtain ⟨r1, x2, rfl, rfl, h⟩ := hr
    refine EW_if_ne (tgt := 25) (pc2 := 23) rfl dX11_orders_20 (by decide) (fun q => ?_) (fun q => ?_)
    · replace h := h.1 q
      refine EW_aload_n (pc2 := 26) rfl dX11_orders_25 0 rfl ?_
      refine AW_getr (r := 158) ⟨gfRX11_37, rfl⟩ (pc2 := 29) rfl dX11_orders_26 q0 rfl ?_
      refine EW_aload_n (pc2 := 30) rfl dX11_orders_29 0 rfl ?_
      refine AW_getr (r := 66) ⟨gfRX11_30, rfl⟩ (pc2 := 33) rfl dX11_orders_30 q0 rfl ?_
      refine AW_getr (r := 69) ⟨gfRX11_377, rfl⟩ (pc2 := 36) rfl dX11_orders_33 q66 rfl ?_
      refine AW_invV (M' := MX8_handOver) [.ref 69] (rest := []) mlRX11_381 okX8_handOver (pc2 := 39) rfl dX11_orders_36 rfl rfl (Nat.le_of_ble_eq_true rfl) (Nat.le_of_ble_eq_true rfl) (d' := 2) (by omega) q158 ⟨by decide, rfl⟩ (EW_mono (fun _ _ hr => ?_) (sX8_handOver 69 (Or.inl rfl : isT 69) x2 _ _ 0 0 (Nat.le_refl _) h))
      obtain ⟨x3, rfl, rfl, h⟩ := hr
      refine EW_aload_n (pc2 := 40) rfl dX11_orders_39 0 rfl ?_
      refine AW_getr (r := 66) ⟨gfRX11_30, rfl⟩ (pc2 := 43) rfl dX11_orders_40 q0 rfl ?_
      refine EW_dup (pc2 := 44) rfl dX11_orders_43 rfl ?_
      refine AW_geti ⟨gfRX11_374, rfl⟩ (pc2 := 47) rfl dX11_orders_44 q66 ?_
      refine EW_iconst (pc2 := 48) (v := 1) rfl dX11_orders_47 (by decide) ?_
      refine EW_iadd (pc2 := 49) rfl dX11_orders_48 ?_
      refine AW_puti ⟨gfRX11_374, rfl, rfl⟩ (pc2 := 52) rfl dX11_orders_49 q66 ?_
      refine EW_aload_n (pc2 := 53) rfl dX11_orders_52 0 rfl ?_
      refine AW_getr (r := 66) ⟨gfRX11_30, rfl⟩ (pc2 := 56) rfl dX11_orders_53 q0 rfl ?_
      refine AW_geti ⟨gfRX11_374, rfl⟩ (pc2 := 59) rfl dX11_orders_56 q66 ?_
      refine EW_iconst (pc2 := 60) (v := 1) rfl dX11_orders_59 (by decide) ?_
      refine EW_isub (pc2 := 61) rfl dX11_orders_60 ?_
      exact AW_iret rfl dX11_orders_61 ⟨_, _, rfl, rfl, h⟩
    · replace h := h.2 q
      refine EW_iconst (pc2 := 24) (v := (-1)) rfl dX11_orders_23 (by decide) ?_
      exact AW_iret rfl dX11_orders_24 ⟨_, _, rfl, rfl, h⟩
theorem gfRX7_158 : ab_L RX7 158 7 16 := ⟨by decide, by decide, ab_in 691 (by decide +kernel) (by decide +kernel)⟩
theorem gfRX7_161 : ab_L RX7 161 7 17 := ⟨by decide, by decide, ab_in 693 (by decide +kernel) (by decide +kernel)⟩
theorem gfRX7_33 : ab_L RX7 33 7 15 := ⟨by decide, by decide, ab_in 690 (by decide +kernel) (by decide +kernel)⟩
theorem mlRX7_171 : Cond.methodLink RX7 171 yX7_pointsAt ∈ ab_G ∧ Cond.instanceMethod yX7_pointsAt ∈ ab_G ∧ Cond.selects RX7 yX7_pointsAt yX7_pointsAt ∈ ab_G := ⟨ab_in 1667 (by decide +kernel) (by decide +kernel), ab_in 1668 (by decide +kernel) (by decide +kernel), ab_in 1669 (by decide +kernel) (by decide +kernel)⟩
abbrev MX7_weigh : ab_M := (yX7_weigh, cX7_weigh, 4, none)
theorem dX7_weigh_0 : decode cX7_weigh 0 = .ok (.iconst 0, 1) := by decide +kernel
theorem dX7_weigh_1 : decode cX7_weigh 1 = .ok (.istore_n 2, 1) := by decide +kernel
theorem dX7_weigh_2 : decode cX7_weigh 2 = .ok (.iconst 0, 1) := by decide +kernel
theorem dX7_weigh_3 : decode cX7_weigh 3 = .ok (.istore_n 3, 1) := by decide +kernel
theorem dX7_weigh_4 : decode cX7_weigh 4 = .ok (.iload_n 3, 1) := by decide +kernel
theorem dX7_weigh_5 : decode cX7_weigh 5 = .ok (.bipush 20, 2) := by decide +kernel
theorem dX7_weigh_7 : decode cX7_weigh 7 = .ok (.if_icmp .ge 25, 3) := by decide +kernel
theorem dX7_weigh_10 : decode cX7_weigh 10 = .ok (.iload_n 2, 1) := by decide +kernel
theorem dX7_weigh_11 : decode cX7_weigh 11 = .ok (.aload_n 0, 1) := by decide +kernel
theorem dX7_weigh_12 : decode cX7_weigh 12 = .ok (.getfield 33, 3) := by decide +kernel
theorem dX7_weigh_15 : decode cX7_weigh 15 = .ok (.iload_n 3, 1) := by decide +kernel
theorem dX7_weigh_16 : decode cX7_weigh 16 = .ok (.iaload, 1) := by decide +kernel
theorem dX7_weigh_17 : decode cX7_weigh 17 = .ok (.aload_n 0, 1) := by decide +kernel
theorem dX7_weigh_18 : decode cX7_weigh 18 = .ok (.iload_n 3, 1) := by decide +kernel
theorem dX7_weigh_19 : decode cX7_weigh 19 = .ok (.iload_n 1, 1) := by decide +kernel
theorem dX7_weigh_20 : decode cX7_weigh 20 = .ok (.invokevirtual 171, 3) := by decide +kernel
theorem dX7_weigh_23 : decode cX7_weigh 23 = .ok (.imul, 1) := by decide +kernel
theorem dX7_weigh_24 : decode cX7_weigh 24 = .ok (.iadd, 1) := by decide +kernel
theorem dX7_weigh_25 : decode cX7_weigh 25 = .ok (.istore_n 2, 1) := by decide +kernel
theorem dX7_weigh_26 : decode cX7_weigh 26 = .ok (.iinc 3 1, 3) := by decide +kernel
theorem dX7_weigh_29 : decode cX7_weigh 29 = .ok (.goto (-25), 3) := by decide +kernel
theorem dX7_weigh_32 : decode cX7_weigh 32 = .ok (.iload_n 2, 1) := by decide +kernel
theorem dX7_weigh_33 : decode cX7_weigh 33 = .ok (.aload_n 0, 1) := by decide +kernel
theorem dX7_weigh_34 : decode cX7_weigh 34 = .ok (.getfield 158, 3) := by decide +kernel
theorem dX7_weigh_37 : decode cX7_weigh 37 = .ok (.if_icmp .le 13, 3) := by decide +kernel
theorem dX7_weigh_40 : decode cX7_weigh 40 = .ok (.aload_n 0, 1) := by decide +kernel
theorem dX7_weigh_41 : decode cX7_weigh 41 = .ok (.iload_n 2, 1) := by decide +kernel
theorem dX7_weigh_42 : decode cX7_weigh 42 = .ok (.putfield 158, 3) := by decide +kernel
theorem dX7_weigh_45 : decode cX7_weigh 45 = .ok (.aload_n 0, 1) := by decide +kernel
theorem dX7_weigh_46 : decode cX7_weigh 46 = .ok (.iload_n 1, 1) := by decide +kernel
theorem dX7_weigh_47 : decode cX7_weigh 47 = .ok (.putfield 161, 3) := by decide +kernel
theorem dX7_weigh_50 : decode cX7_weigh 50 = .ok (.return_, 1) := by decide +kernel
theorem okX7_weigh : ab_okM MX7_weigh 1 := ⟨by decide, ⟨by decide, by decide⟩, ab_in 1666 (by decide +kernel) (by decide +kernel), ab_in 98 (by decide +kernel) (by decide +kernel), by decide +kernel, by decide⟩
set_option maxHeartbeats 4000000 in
set_option maxRecDepth 100000 in
def lX7_weigh_4 (v1 : Int32) (x : ab_X) (K : ab_X → Prop)  (L4 : Int32 → Int32 → Prop) (v2 : Int32) (v3 : Int32) : Prop := ((20 ≤ v3 → ((v2 ≤ (x.1 234 16) → K x) ∧ (¬ v2 ≤ (x.1 234 16) → K (wr (wr x 234 16 v2) 234 17 v1)))) ∧ (¬ 20 ≤ v3 → (vp_in v3 20 ∧ wX7_pointsAt v3 v1 x (fun r2 => L4 (v2 + ((x.1 242 (Int32.toNatClampNeg v3)) * r2)) (v3 + 1)))))
set_option maxHeartbeats 4000000 in
set_option maxRecDepth 100000 in
theorem sX7_weigh_4 (v1 : Int32) (v2 : Int32) (v3 : Int32)  (x : ab_X) (K : ab_X → Prop)  (d bc bs : Nat) (hdp : 2 ≤ d)  (h : Lp2 (lX7_weigh_4 v1 x K ) v2 v3) : EW MX7_weigh 4 [(0, .ref 234), (1, .int v1), (2, .int v2), (3, .int v3)] [] (aS x) d bc bs (liV K) := by
  refine Lp2.use (P := fun v2 v3 => EW MX7_weigh 4 [(0, .ref 234), (1, .int v1), (2, .int v2), (3, .int v3)] [] (aS x) d bc bs (liV K)) (fun L4 v2 v3 hL4 h => ?_) v2 v3 h
  unfold lX7_weigh_4 at h
  refine EW_iload_n (pc2 := 5) rfl dX7_weigh_4 3 rfl ?_
  refine EW_bipush (pc2 := 7) (v := 20) rfl dX7_weigh_5 (by decide) ?_
  refine EW_icmp_ge (tgt := 32) (pc2 := 10) rfl dX7_weigh_7 (by decide) (fun q => ?_) (fun q => ?_)
  · replace h := h.1 q
    refine EW_iload_n (pc2 := 33) rfl dX7_weigh_32 2 rfl ?_
    refine EW_aload_n (pc2 := 34) rfl dX7_weigh_33 0 rfl ?_
    refine AW_geti ⟨gfRX7_158, rfl⟩ (pc2 := 37) rfl dX7_weigh_34 q234 ?_
    refine EW_icmp_le (tgt := 50) (pc2 := 40) rfl dX7_weigh_37 (by decide) (fun q => ?_) (fun q => ?_)
    · replace h := h.1 q
      exact EW_vret rfl dX7_weigh_50 ⟨_, rfl, rfl, h⟩
    · replace h := h.2 q
      refine EW_aload_n (pc2 := 41) rfl dX7_weigh_40 0 rfl ?_
      refine EW_iload_n (pc2 := 42) rfl dX7_weigh_41 2 rfl ?_
      refine AW_puti ⟨gfRX7_158, rfl, rfl⟩ (pc2 := 45) rfl dX7_weigh_42 q234 ?_
      refine EW_aload_n (pc2 := 46) rfl dX7_weigh_45 0 rfl ?_
      refine EW_iload_n (pc2 := 47) rfl dX7_weigh_46 1 rfl ?_
      refine AW_puti ⟨gfRX7_161, rfl, rfl⟩ (pc2 := 50) rfl dX7_weigh_47 q234 ?_
      exact EW_vret rfl dX7_weigh_50 ⟨_, rfl, rfl, h⟩
  · replace h := h.2 q
    refine EW_iload_n (pc2 := 11) rfl dX7_weigh_10 2 rfl ?_
    refine EW_aload_n (pc2 := 12) rfl dX7_weigh_11 0 rfl ?_
    refine AW_getr (r := 242) ⟨gfRX7_33, rfl⟩ (pc2 := 15) rfl dX7_weigh_12 q234 rfl ?_
    refine EW_iload_n (pc2 := 16) rfl dX7_weigh_15 3 rfl ?_
    obtain ⟨b1, h⟩ := h
    refine AW_iald (pc2 := 17) rfl dX7_weigh_16 q242 b1 ?_
    refine EW_aload_n (pc2 := 18) rfl dX7_weigh_17 0 rfl ?_
    refine EW_iload_n (pc2 := 19) rfl dX7_weigh_18 3 rfl ?_
    refine EW_iload_n (pc2 := 20) rfl dX7_weigh_19 1 rfl ?_
    refine AW_invV (M' := MX7_pointsAt) [.int v3, .int v1] (rest := [.int (x.1 242 (Int32.toNatClampNeg v3)), .int v2]) mlRX7_171 okX7_pointsAt (pc2 := 23) rfl dX7_weigh_20 rfl rfl (Nat.le_of_ble_eq_true rfl) (Nat.le_of_ble_eq_true rfl) (d' := 1) (by omega) q234 ⟨by decide, rfl⟩ (EW_mono (fun _ _ hr => ?_) (sX7_pointsAt v3 v1  x _ _ 0 0 (Nat.le_refl _) h))
    obtain ⟨r2, rfl, rfl, h⟩ := hr
    refine EW_imul (pc2 := 24) rfl dX7_weigh_23 ?_
    refine EW_iadd (pc2 := 25) rfl dX7_weigh_24 ?_
    refine EW_istore_n (pc2 := 26) rfl dX7_weigh_25 (by decide) [1, 2, 0, 3] [(0, .ref 234), (1, .int v1), (2, .int (v2 + ((x.1 242 (Int32.toNatClampNeg v3)) * r2))), (3, .int v3)] rfl ?_
    refine EW_iinc (v3 + 1) (pc2 := 29) rfl dX7_weigh_26 3 rfl rfl (by decide) [1, 2, 3, 0] [(0, .ref 234), (1, .int v1), (2, .int (v2 + ((x.1 242 (Int32.toNatClampNeg v3)) * r2))), (3, .int (v3 + 1))] rfl ?_
    refine EW_goto (tgt := 4) dX7_weigh_29 (by decide) ?_
    exact hL4 (v2 + ((x.1 242 (Int32.toNatClampNeg v3)) * r2)) (v3 + 1) h
set_option maxHeartbeats 4000000 in
set_option maxRecDepth 100000 in
def wX7_weigh (v1 : Int32) (x : ab_X) (K : ab_X → Prop) : Prop := Lp2 (lX7_weigh_4 v1 x K ) 0 0
set_option maxHeartbeats 4000000 in
set_option maxRecDepth 100000 in
theorem sX7_weigh (v1 : Int32)  (x : ab_X) (K : ab_X → Prop) (d bc bs : Nat) (hdp : 2 ≤ d) (h : wX7_weigh v1 x K) : EW MX7_weigh 0 [(0, .ref 234), (1, .int v1)] [] (aS x) d bc bs (liV K) := by
  unfold wX7_weigh at h
  refine EW_iconst (pc2 := 1) (v := 0) rfl dX7_weigh_0 (by decide) ?_
  refine EW_istore_n (pc2 := 2) rfl dX7_weigh_1 (by decide) [1, 2, 0] [(0, .ref 234), (1, .int v1), (2, .int 0)] rfl ?_
  refine EW_iconst (pc2 := 3) (v := 0) rfl dX7_weigh_2 (by decide) ?_
  refine EW_istore_n (pc2 := 4) rfl dX7_weigh_3 (by decide) [1, 2, 3, 0] [(0, .ref 234), (1, .int v1), (2, .int 0), (3, .int 0)] rfl ?_
  exact sX7_weigh_4 v1 0 0 x K d bc bs hdp h
