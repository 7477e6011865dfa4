theorem gfRJ0_38 : Cond.fieldLink RJ0 38 "java/lang/String" "COMPACT_STRINGS" "Z" ∈ ab_G := ab_in 1243 (by decide +kernel) (by decide +kernel)
theorem gfRJ0_15 : Cond.fieldLink RJ0 15 "java/lang/String" "coder" "B" ∈ ab_G := ab_in 2768 (by decide +kernel) (by decide +kernel)
abbrev MJ0_isLatin1_aae02 : ab_M := (yJ0_isLatin1_aae02, cJ0_isLatin1_aae02, 1, (some .boolean))
theorem dJ0_isLatin1_aae02_0 : decode cJ0_isLatin1_aae02 0 = .ok (.getstatic 38, 3) := by decide +kernel
theorem dJ0_isLatin1_aae02_3 : decode cJ0_isLatin1_aae02 3 = .ok (.ifCond .eq 14, 3) := by decide +kernel
theorem dJ0_isLatin1_aae02_6 : decode cJ0_isLatin1_aae02 6 = .ok (.aload_n 0, 1) := by decide +kernel
theorem dJ0_isLatin1_aae02_7 : decode cJ0_isLatin1_aae02 7 = .ok (.getfield 15, 3) := by decide +kernel
theorem dJ0_isLatin1_aae02_10 : decode cJ0_isLatin1_aae02 10 = .ok (.ifCond .ne 7, 3) := by decide +kernel
theorem dJ0_isLatin1_aae02_13 : decode cJ0_isLatin1_aae02 13 = .ok (.iconst 1, 1) := by decide +kernel
theorem dJ0_isLatin1_aae02_14 : decode cJ0_isLatin1_aae02 14 = .ok (.goto 4, 3) := by decide +kernel
theorem dJ0_isLatin1_aae02_17 : decode cJ0_isLatin1_aae02 17 = .ok (.iconst 0, 1) := by decide +kernel
theorem dJ0_isLatin1_aae02_18 : decode cJ0_isLatin1_aae02 18 = .ok (.ireturn, 1) := by decide +kernel
theorem okJ0_isLatin1_aae02 : ab_okM MJ0_isLatin1_aae02 0 := ⟨by decide, ⟨by decide, by decide⟩, ab_in 1242 (by decide +kernel) (by decide +kernel), ab_in 106 (by decide +kernel) (by decide +kernel), by decide +kernel, by decide⟩
set_option maxHeartbeats 4000000 in
set_option maxRecDepth 100000 in
theorem sJ0_isLatin1_aae02 (v0 : Nat) (hv0 : isS v0) (x : ab_X) (K : Int32 → Prop) (d bc bs : Nat) (hdp : 0 ≤ d) (h : wJ0_isLatin1_aae02 v0 x K) : EW MJ0_isLatin1_aae02 0 [(0, .ref v0)] [] (aS x) d bc bs (liP x K) := by
  unfold wJ0_isLatin1_aae02 at h
  refine AW_scomp gfRJ0_38 (pc2 := 3) rfl dJ0_isLatin1_aae02_0 ?_
  refine EW_if_eq (tgt := 17) (pc2 := 6) rfl dJ0_isLatin1_aae02_3 (by decide) (fun q => ?_) (fun q => ?_)
  · replace h := h.1 q
    refine EW_iconst (pc2 := 18) (v := 0) rfl dJ0_isLatin1_aae02_17 (by decide) ?_
    exact AW_zret rfl isB0 dJ0_isLatin1_aae02_18 ⟨_, rfl, rfl, h⟩
  · replace h := h.2 q
    refine EW_aload_n (pc2 := 7) rfl dJ0_isLatin1_aae02_6 0 rfl ?_
    refine AW_scod hv0 gfRJ0_15 (pc2 := 10) rfl dJ0_isLatin1_aae02_7 ?_
    refine EW_if_ne (tgt := 17) (pc2 := 13) rfl dJ0_isLatin1_aae02_10 (by decide) (fun q => ?_) (fun q => ?_)
    · replace h := h.1 q
      refine EW_iconst (pc2 := 18) (v := 0) rfl dJ0_isLatin1_aae02_17 (by decide) ?_
      exact AW_zret rfl isB0 dJ0_isLatin1_aae02_18 ⟨_, rfl, rfl, h⟩
    · replace h := h.2 q
      refine EW_iconst (pc2 := 14) (v := 1) rfl dJ0_isLatin1_aae02_13 (by decide) ?_
      refine EW_goto (tgt := 18) dJ0_isLatin1_aae02_14 (by decide) ?_
      exact AW_zret rfl isB1 dJ0_isLatin1_aae02_18 ⟨_, rfl, rfl, h⟩
abbrev MJ0_coder_7d493 : ab_M := (yJ0_coder_7d493, cJ0_coder_7d493, 1, (some .byte))
theorem dJ0_coder_7d493_0 : decode cJ0_coder_7d493 0 = .ok (.getstatic 38, 3) := by decide +kernel
theorem dJ0_coder_7d493_3 : decode cJ0_coder_7d493 3 = .ok (.ifCond .eq 10, 3) := by decide +kernel
theorem dJ0_coder_7d493_6 : decode cJ0_coder_7d493 6 = .ok (.aload_n 0, 1) := by decide +kernel
theorem dJ0_coder_7d493_7 : decode cJ0_coder_7d493 7 = .ok (.getfield 15, 3) := by decide +kernel
theorem dJ0_coder_7d493_10 : decode cJ0_coder_7d493 10 = .ok (.goto 4, 3) := by decide +kernel
theorem dJ0_coder_7d493_13 : decode cJ0_coder_7d493 13 = .ok (.iconst 1, 1) := by decide +kernel
theorem dJ0_coder_7d493_14 : decode cJ0_coder_7d493 14 = .ok (.ireturn, 1) := by decide +kernel
theorem okJ0_coder_7d493 : ab_okM MJ0_coder_7d493 0 := ⟨by decide, ⟨by decide, by decide⟩, ab_in 1252 (by decide +kernel) (by decide +kernel), ab_in 106 (by decide +kernel) (by decide +kernel), by decide +kernel, by decide⟩
set_option maxHeartbeats 4000000 in
set_option maxRecDepth 100000 in
theorem sJ0_coder_7d493 (v0 : Nat) (hv0 : isS v0) (x : ab_X) (K : Int32 → Prop) (d bc bs : Nat) (hdp : 0 ≤ d) (h : wJ0_coder_7d493 v0 x K) : EW MJ0_coder_7d493 0 [(0, .ref v0)] [] (aS x) d bc bs (liP x K) := by
  unfold wJ0_coder_7d493 at h
  refine AW_scomp gfRJ0_38 (pc2 := 3) rfl dJ0_coder_7d493_0 ?_
  refine EW_if_eq (tgt := 13) (pc2 := 6) rfl dJ0_coder_7d493_3 (by decide) (fun q => ?_) (fun q => ?_)
  · replace h := h.1 q
    refine EW_iconst (pc2 := 14) (v := 1) rfl dJ0_coder_7d493_13 (by decide) ?_
    exact EW_iret (ty := .byte) rfl rfl dJ0_coder_7d493_14 ⟨_, rfl, rfl, h⟩
  · replace h := h.2 q
    refine EW_aload_n (pc2 := 7) rfl dJ0_coder_7d493_6 0 rfl ?_
    refine AW_scod hv0 gfRJ0_15 (pc2 := 10) rfl dJ0_coder_7d493_7 ?_
    refine EW_goto (tgt := 14) dJ0_coder_7d493_10 (by decide) ?_
    exact EW_iret (ty := .byte) rfl rfl dJ0_coder_7d493_14 ⟨_, rfl, rfl, h⟩
theorem gfRJ0_9 : Cond.fieldLink RJ0 9 "java/lang/String" "value" "[B" ∈ ab_G := ab_in 2769 (by decide +kernel) (by decide +kernel)
theorem mlRJ0_335 : Cond.methodLink RJ0 335 yJ0_coder_7d493 ∈ ab_G ∧ Cond.instanceMethod yJ0_coder_7d493 ∈ ab_G ∧ Cond.selects RJ0 yJ0_coder_7d493 yJ0_coder_7d493 ∈ ab_G := ⟨ab_in 1249 (by decide +kernel) (by decide +kernel), ab_in 1250 (by decide +kernel) (by decide +kernel), ab_in 1251 (by decide +kernel) (by decide +kernel)⟩
abbrev MJ0_length_8abf5 : ab_M := (yJ0_length_8abf5, cJ0_length_8abf5, 1, (some .int))
theorem dJ0_length_8abf5_0 : decode cJ0_length_8abf5 0 = .ok (.aload_n 0, 1) := by decide +kernel
theorem dJ0_length_8abf5_1 : decode cJ0_length_8abf5 1 = .ok (.getfield 9, 3) := by decide +kernel
theorem dJ0_length_8abf5_4 : decode cJ0_length_8abf5 4 = .ok (.arraylength, 1) := by decide +kernel
theorem dJ0_length_8abf5_5 : decode cJ0_length_8abf5 5 = .ok (.aload_n 0, 1) := by decide +kernel
theorem dJ0_length_8abf5_6 : decode cJ0_length_8abf5 6 = .ok (.invokevirtual 335, 3) := by decide +kernel
theorem dJ0_length_8abf5_9 : decode cJ0_length_8abf5 9 = .ok (.ishr, 1) := by decide +kernel
theorem dJ0_length_8abf5_10 : decode cJ0_length_8abf5 10 = .ok (.ireturn, 1) := by decide +kernel
theorem okJ0_length_8abf5 : ab_okM MJ0_length_8abf5 0 := ⟨by decide, ⟨by decide, by decide⟩, ab_in 1248 (by decide +kernel) (by decide +kernel), ab_in 106 (by decide +kernel) (by decide +kernel), by decide +kernel, by decide⟩
set_option maxHeartbeats 4000000 in
set_option maxRecDepth 100000 in
theorem sJ0_length_8abf5 (v0 : Nat) (hv0 : isS v0) (x : ab_X) (K : Int32 → Prop) (d bc bs : Nat) (hdp : 1 ≤ d) (h : wJ0_length_8abf5 v0 x K) : EW MJ0_length_8abf5 0 [(0, .ref v0)] [] (aS x) d bc bs (liP x K) := by
  unfold wJ0_length_8abf5 at h
  refine EW_aload_n (pc2 := 1) rfl dJ0_length_8abf5_0 0 rfl ?_
  refine AW_sval hv0 gfRJ0_9 (pc2 := 4) rfl dJ0_length_8abf5_1 ?_
  refine AW_salen (isS.b hv0) (pc2 := 5) rfl dJ0_length_8abf5_4 ?_
  refine EW_aload_n (pc2 := 6) rfl dJ0_length_8abf5_5 0 rfl ?_
  refine AW_invVS (M' := MJ0_coder_7d493) [] (rest := [.int (Int32.ofNat (slen (v0 + 1000000)))]) mlRJ0_335 okJ0_coder_7d493 (pc2 := 9) rfl dJ0_length_8abf5_6 rfl rfl (Nat.le_of_ble_eq_true rfl) (Nat.le_of_ble_eq_true rfl) (d' := 0) (by omega) hv0 rfl (EW_mono (fun _ _ hr => ?_) (sJ0_coder_7d493 v0 hv0 x _ _ 0 0 (Nat.le_refl _) h))
  obtain ⟨r1, rfl, rfl, h⟩ := hr
  refine EW_ishr (pc2 := 10) rfl dJ0_length_8abf5_9 ?_
  exact AW_iret rfl dJ0_length_8abf5_10 ⟨_, rfl, rfl, h⟩
abbrev MJ1_canEncode_9a6ad : ab_M := (yJ1_canEncode_9a6ad, cJ1_canEncode_9a6ad, 1, (some .boolean))
theorem dJ1_canEncode_9a6ad_0 : decode cJ1_canEncode_9a6ad 0 = .ok (.iload_n 0, 1) := by decide +kernel
theorem dJ1_canEncode_9a6ad_1 : decode cJ1_canEncode_9a6ad 1 = .ok (.ifCond .lt 14, 3) := by decide +kernel
theorem dJ1_canEncode_9a6ad_4 : decode cJ1_canEncode_9a6ad 4 = .ok (.iload_n 0, 1) := by decide +kernel
theorem dJ1_canEncode_9a6ad_5 : decode cJ1_canEncode_9a6ad 5 = .ok (.sipush 255, 3) := by decide +kernel
theorem dJ1_canEncode_9a6ad_8 : decode cJ1_canEncode_9a6ad 8 = .ok (.if_icmp .gt 7, 3) := by decide +kernel
theorem dJ1_canEncode_9a6ad_11 : decode cJ1_canEncode_9a6ad 11 = .ok (.iconst 1, 1) := by decide +kernel
theorem dJ1_canEncode_9a6ad_12 : decode cJ1_canEncode_9a6ad 12 = .ok (.goto 4, 3) := by decide +kernel
theorem dJ1_canEncode_9a6ad_15 : decode cJ1_canEncode_9a6ad 15 = .ok (.iconst 0, 1) := by decide +kernel
theorem dJ1_canEncode_9a6ad_16 : decode cJ1_canEncode_9a6ad 16 = .ok (.ireturn, 1) := by decide +kernel
theorem okJ1_canEncode_9a6ad : ab_okM MJ1_canEncode_9a6ad 1 := ⟨by decide, ⟨by decide, by decide⟩, ab_in 1258 (by decide +kernel) (by decide +kernel), ab_in 107 (by decide +kernel) (by decide +kernel), by decide +kernel, by decide⟩
set_option maxHeartbeats 4000000 in
set_option maxRecDepth 100000 in
theorem sJ1_canEncode_9a6ad (v0 : Int32)  (x : ab_X) (K : Int32 → Prop) (d bc bs : Nat) (hdp : 0 ≤ d) (h : wJ1_canEncode_9a6ad v0 x K) : EW MJ1_canEncode_9a6ad 0 [(0, .int v0)] [] (aS x) d bc bs (liP x K) := by
  unfold wJ1_canEncode_9a6ad at h
  refine EW_iload_n (pc2 := 1) rfl dJ1_canEncode_9a6ad_0 0 rfl ?_
  refine EW_if_lt (tgt := 15) (pc2 := 4) rfl dJ1_canEncode_9a6ad_1 (by decide) (fun q => ?_) (fun q => ?_)
  · replace h := h.1 q
    refine EW_iconst (pc2 := 16) (v := 0) rfl dJ1_canEncode_9a6ad_15 (by decide) ?_
    exact AW_zret rfl isB0 dJ1_canEncode_9a6ad_16 ⟨_, rfl, rfl, h⟩
  · replace h := h.2 q
    refine EW_iload_n (pc2 := 5) rfl dJ1_canEncode_9a6ad_4 0 rfl ?_
    refine EW_sipush (pc2 := 8) (v := 255) rfl dJ1_canEncode_9a6ad_5 (by decide) ?_
    refine EW_icmp_gt (tgt := 15) (pc2 := 11) rfl dJ1_canEncode_9a6ad_8 (by decide) (fun q => ?_) (fun q => ?_)
    · replace h := h.1 q
      refine EW_iconst (pc2 := 16) (v := 0) rfl dJ1_canEncode_9a6ad_15 (by decide) ?_
      exact AW_zret rfl isB0 dJ1_canEncode_9a6ad_16 ⟨_, rfl, rfl, h⟩
    · replace h := h.2 q
      refine EW_iconst (pc2 := 12) (v := 1) rfl dJ1_canEncode_9a6ad_11 (by decide) ?_
      refine EW_goto (tgt := 16) dJ1_canEncode_9a6ad_12 (by decide) ?_
      exact AW_zret rfl isB1 dJ1_canEncode_9a6ad_16 ⟨_, rfl, rfl, h⟩
abbrev MJ1_indexOfChar_4cfef : ab_M := (yJ1_indexOfChar_4cfef, cJ1_indexOfChar_4cfef, 6, (some .int))
theorem dJ1_indexOfChar_4cfef_0 : decode cJ1_indexOfChar_4cfef 0 = .ok (.iload_n 1, 1) := by decide +kernel
theorem dJ1_indexOfChar_4cfef_1 : decode cJ1_indexOfChar_4cfef 1 = .ok (.i2b, 1) := by decide +kernel
theorem dJ1_indexOfChar_4cfef_2 : decode cJ1_indexOfChar_4cfef 2 = .ok (.istore 4, 2) := by decide +kernel
theorem dJ1_indexOfChar_4cfef_4 : decode cJ1_indexOfChar_4cfef 4 = .ok (.iload_n 2, 1) := by decide +kernel
theorem dJ1_indexOfChar_4cfef_5 : decode cJ1_indexOfChar_4cfef 5 = .ok (.istore 5, 2) := by decide +kernel
theorem dJ1_indexOfChar_4cfef_7 : decode cJ1_indexOfChar_4cfef 7 = .ok (.iload 5, 2) := by decide +kernel
theorem dJ1_indexOfChar_4cfef_9 : decode cJ1_indexOfChar_4cfef 9 = .ok (.iload_n 3, 1) := by decide +kernel
theorem dJ1_indexOfChar_4cfef_10 : decode cJ1_indexOfChar_4cfef 10 = .ok (.if_icmp .ge 21, 3) := by decide +kernel
theorem dJ1_indexOfChar_4cfef_13 : decode cJ1_indexOfChar_4cfef 13 = .ok (.aload_n 0, 1) := by decide +kernel
theorem dJ1_indexOfChar_4cfef_14 : decode cJ1_indexOfChar_4cfef 14 = .ok (.iload 5, 2) := by decide +kernel
theorem dJ1_indexOfChar_4cfef_16 : decode cJ1_indexOfChar_4cfef 16 = .ok (.baload, 1) := by decide +kernel
theorem dJ1_indexOfChar_4cfef_17 : decode cJ1_indexOfChar_4cfef 17 = .ok (.iload 4, 2) := by decide +kernel
theorem dJ1_indexOfChar_4cfef_19 : decode cJ1_indexOfChar_4cfef 19 = .ok (.if_icmp .ne 6, 3) := by decide +kernel
theorem dJ1_indexOfChar_4cfef_22 : decode cJ1_indexOfChar_4cfef 22 = .ok (.iload 5, 2) := by decide +kernel
theorem dJ1_indexOfChar_4cfef_24 : decode cJ1_indexOfChar_4cfef 24 = .ok (.ireturn, 1) := by decide +kernel
theorem dJ1_indexOfChar_4cfef_25 : decode cJ1_indexOfChar_4cfef 25 = .ok (.iinc 5 1, 3) := by decide +kernel
theorem dJ1_indexOfChar_4cfef_28 : decode cJ1_indexOfChar_4cfef 28 = .ok (.goto (-21), 3) := by decide +kernel
theorem dJ1_indexOfChar_4cfef_31 : decode cJ1_indexOfChar_4cfef 31 = .ok (.iconst (-1), 1) := by decide +kernel
theorem dJ1_indexOfChar_4cfef_32 : decode cJ1_indexOfChar_4cfef 32 = .ok (.ireturn, 1) := by decide +kernel
theorem okJ1_indexOfChar_4cfef : ab_okM MJ1_indexOfChar_4cfef 4 := ⟨by decide, ⟨by decide, by decide⟩, ab_in 1263 (by decide +kernel) (by decide +kernel), ab_in 107 (by decide +kernel) (by decide +kernel), by decide +kernel, by decide⟩
set_option maxHeartbeats 4000000 in
set_option maxRecDepth 100000 in
theorem sJ1_indexOfChar_4cfef_7 (v0 : Nat) (v3 : Int32) (v4 : Int32) (v5 : Int32) (hv0 : isSB v0) (x : ab_X) (K : Int32 → Prop)  (d bc bs : Nat) (hdp : 0 ≤ d)  (h : Lp1 (lJ1_indexOfChar_4cfef_7 v0 v3 v4 x K ) v5) : EW MJ1_indexOfChar_4cfef 7 [(0, .ref v0), (3, .int v3), (4, .int v4), (5, .int v5)] [] (aS x) d bc bs (liP x K) := by
  refine Lp1.use (P := fun v5 => EW MJ1_indexOfChar_4cfef 7 [(0, .ref v0), (3, .int v3), (4, .int v4), (5, .int v5)] [] (aS x) d bc bs (liP x K)) (fun L7 v5 hL7 h => ?_) v5 h
  unfold lJ1_indexOfChar_4cfef_7 at h
  refine EW_iload (pc2 := 9) rfl dJ1_indexOfChar_4cfef_7 3 rfl ?_
  refine EW_iload_n (pc2 := 10) rfl dJ1_indexOfChar_4cfef_9 1 rfl ?_
  refine EW_icmp_ge (tgt := 31) (pc2 := 13) rfl dJ1_indexOfChar_4cfef_10 (by decide) (fun q => ?_) (fun q => ?_)
  · replace h := h.1 q
    refine EW_iconst (pc2 := 32) (v := (-1)) rfl dJ1_indexOfChar_4cfef_31 (by decide) ?_
    exact AW_iret rfl dJ1_indexOfChar_4cfef_32 ⟨_, rfl, rfl, h⟩
  · replace h := h.2 q
    refine EW_aload_n (pc2 := 14) rfl dJ1_indexOfChar_4cfef_13 0 rfl ?_
    refine EW_iload (pc2 := 16) rfl dJ1_indexOfChar_4cfef_14 3 rfl ?_
    obtain ⟨b1, h⟩ := h
    refine AW_sbald hv0 (pc2 := 17) rfl dJ1_indexOfChar_4cfef_16 b1 ?_
    refine EW_iload (pc2 := 19) rfl dJ1_indexOfChar_4cfef_17 2 rfl ?_
    refine EW_icmp_ne (tgt := 25) (pc2 := 22) rfl dJ1_indexOfChar_4cfef_19 (by decide) (fun q => ?_) (fun q => ?_)
    · replace h := h.1 q
      refine EW_iinc (v5 + 1) (pc2 := 28) rfl dJ1_indexOfChar_4cfef_25 3 rfl rfl (by decide) [1, 2, 3, 0] [(0, .ref v0), (3, .int v3), (4, .int v4), (5, .int (v5 + 1))] rfl ?_
      refine EW_goto (tgt := 7) dJ1_indexOfChar_4cfef_28 (by decide) ?_
      exact hL7 (v5 + 1) h
    · replace h := h.2 q
      refine EW_iload (pc2 := 24) rfl dJ1_indexOfChar_4cfef_22 3 rfl ?_
      exact AW_iret rfl dJ1_indexOfChar_4cfef_24 ⟨_, rfl, rfl, h⟩
set_option maxHeartbeats 4000000 in
set_option maxRecDepth 100000 in
theorem sJ1_indexOfChar_4cfef (v0 : Nat) (v1 : Int32) (v2 : Int32) (v3 : Int32) (hv0 : isSB v0) (x : ab_X) (K : Int32 → Prop) (d bc bs : Nat) (hdp : 0 ≤ d) (h : wJ1_indexOfChar_4cfef v0 v1 v2 v3 x K) : EW MJ1_indexOfChar_4cfef 0 [(0, .ref v0), (1, .int v1), (2, .int v2), (3, .int v3)] [] (aS x) d bc bs (liP x K) := by
  unfold wJ1_indexOfChar_4cfef at h
  refine EW_iload_n (pc2 := 1) rfl dJ1_indexOfChar_4cfef_0 1 rfl ?_
  refine EW_i2b (pc2 := 2) (v := (v1).toInt8.toInt32) rfl dJ1_indexOfChar_4cfef_1 rfl ?_
  refine EW_istore (pc2 := 4) rfl dJ1_indexOfChar_4cfef_2 (by decide) [1, 2, 3, 4, 0] [(0, .ref v0), (1, .int v1), (2, .int v2), (3, .int v3), (4, .int (v1).toInt8.toInt32)] rfl ?_
  refine EW_iload_n (pc2 := 5) rfl dJ1_indexOfChar_4cfef_4 2 rfl ?_
  refine EW_istore (pc2 := 7) rfl dJ1_indexOfChar_4cfef_5 (by decide) [1, 2, 3, 4, 5, 0] [(0, .ref v0), (1, .int v1), (2, .int v2), (3, .int v3), (4, .int (v1).toInt8.toInt32), (5, .int v2)] rfl ?_
  refine EW_ls [0, 3, 4, 5] rfl ?_
  exact sJ1_indexOfChar_4cfef_7 v0 v3 (v1).toInt8.toInt32 v2 hv0 x K d bc bs hdp h
theorem mlRJ1_88 : Cond.methodLink RJ1 88 yJ1_canEncode_9a6ad ∈ ab_G ∧ Cond.static yJ1_canEncode_9a6ad ∈ ab_G := ⟨ab_in 1256 (by decide +kernel) (by decide +kernel), ab_in 1257 (by decide +kernel) (by decide +kernel)⟩
theorem mmRJ1_92 : Cond.methodLink RJ1 92 Lib.Math.max.name ∈ ab_G ∧ Cond.static Lib.Math.max.name ∈ ab_G ∧ Cond.initialized "java/lang/Math" ∈ ab_G ∧ Cond.code Lib.Math.max.name Lib.Math.max.code 2 (some .int) ∈ ab_G := ⟨ab_in 1259 (by decide +kernel) (by decide +kernel), ab_in 909 (by decide +kernel) (by decide +kernel), ab_in 100 (by decide +kernel) (by decide +kernel), ab_in 910 (by decide +kernel) (by decide +kernel)⟩
theorem mmRJ1_38 : Cond.methodLink RJ1 38 Lib.Math.min.name ∈ ab_G ∧ Cond.static Lib.Math.min.name ∈ ab_G ∧ Cond.initialized "java/lang/Math" ∈ ab_G ∧ Cond.code Lib.Math.min.name Lib.Math.min.code 2 (some .int) ∈ ab_G := ⟨ab_in 1260 (by decide +kernel) (by decide +kernel), ab_in 787 (by decide +kernel) (by decide +kernel), ab_in 100 (by decide +kernel) (by decide +kernel), ab_in 788 (by decide +kernel) (by decide +kernel)⟩
theorem mlRJ1_95 : Cond.methodLink RJ1 95 yJ1_indexOfChar_4cfef ∈ ab_G ∧ Cond.static yJ1_indexOfChar_4cfef ∈ ab_G := ⟨ab_in 1261 (by decide +kernel) (by decide +kernel), ab_in 1262 (by decide +kernel) (by decide +kernel)⟩
abbrev MJ1_indexOf_4cfef : ab_M := (yJ1_indexOf_4cfef, cJ1_indexOf_4cfef, 4, (some .int))
theorem dJ1_indexOf_4cfef_0 : decode cJ1_indexOf_4cfef 0 = .ok (.iload_n 1, 1) := by decide +kernel
theorem dJ1_indexOf_4cfef_1 : decode cJ1_indexOf_4cfef 1 = .ok (.invokestatic 88, 3) := by decide +kernel
theorem dJ1_indexOf_4cfef_4 : decode cJ1_indexOf_4cfef 4 = .ok (.ifCond .ne 5, 3) := by decide +kernel
theorem dJ1_indexOf_4cfef_7 : decode cJ1_indexOf_4cfef 7 = .ok (.iconst (-1), 1) := by decide +kernel
theorem dJ1_indexOf_4cfef_8 : decode cJ1_indexOf_4cfef 8 = .ok (.ireturn, 1) := by decide +kernel
theorem dJ1_indexOf_4cfef_9 : decode cJ1_indexOf_4cfef 9 = .ok (.iload_n 2, 1) := by decide +kernel
theorem dJ1_indexOf_4cfef_10 : decode cJ1_indexOf_4cfef 10 = .ok (.iconst 0, 1) := by decide +kernel
theorem dJ1_indexOf_4cfef_11 : decode cJ1_indexOf_4cfef 11 = .ok (.invokestatic 92, 3) := by decide +kernel
theorem dJ1_indexOf_4cfef_14 : decode cJ1_indexOf_4cfef 14 = .ok (.istore_n 2, 1) := by decide +kernel
theorem dJ1_indexOf_4cfef_15 : decode cJ1_indexOf_4cfef 15 = .ok (.iload_n 3, 1) := by decide +kernel
theorem dJ1_indexOf_4cfef_16 : decode cJ1_indexOf_4cfef 16 = .ok (.aload_n 0, 1) := by decide +kernel
theorem dJ1_indexOf_4cfef_17 : decode cJ1_indexOf_4cfef 17 = .ok (.arraylength, 1) := by decide +kernel
theorem dJ1_indexOf_4cfef_18 : decode cJ1_indexOf_4cfef 18 = .ok (.invokestatic 38, 3) := by decide +kernel
theorem dJ1_indexOf_4cfef_21 : decode cJ1_indexOf_4cfef 21 = .ok (.istore_n 3, 1) := by decide +kernel
theorem dJ1_indexOf_4cfef_22 : decode cJ1_indexOf_4cfef 22 = .ok (.iload_n 2, 1) := by decide +kernel
theorem dJ1_indexOf_4cfef_23 : decode cJ1_indexOf_4cfef 23 = .ok (.iload_n 3, 1) := by decide +kernel
theorem dJ1_indexOf_4cfef_24 : decode cJ1_indexOf_4cfef 24 = .ok (.if_icmp .lt 5, 3) := by decide +kernel
theorem dJ1_indexOf_4cfef_27 : decode cJ1_indexOf_4cfef 27 = .ok (.iconst (-1), 1) := by decide +kernel
theorem dJ1_indexOf_4cfef_28 : decode cJ1_indexOf_4cfef 28 = .ok (.ireturn, 1) := by decide +kernel
theorem dJ1_indexOf_4cfef_29 : decode cJ1_indexOf_4cfef 29 = .ok (.aload_n 0, 1) := by decide +kernel
theorem dJ1_indexOf_4cfef_30 : decode cJ1_indexOf_4cfef 30 = .ok (.iload_n 1, 1) := by decide +kernel
theorem dJ1_indexOf_4cfef_31 : decode cJ1_indexOf_4cfef 31 = .ok (.iload_n 2, 1) := by decide +kernel
theorem dJ1_indexOf_4cfef_32 : decode cJ1_indexOf_4cfef 32 = .ok (.iload_n 3, 1) := by decide +kernel
theorem dJ1_indexOf_4cfef_33 : decode cJ1_indexOf_4cfef 33 = .ok (.invokestatic 95, 3) := by decide +kernel
theorem dJ1_indexOf_4cfef_36 : decode cJ1_indexOf_4cfef 36 = .ok (.ireturn, 1) := by decide +kernel
theorem okJ1_indexOf_4cfef : ab_okM MJ1_indexOf_4cfef 4 := ⟨by decide, ⟨by decide, by decide⟩, ab_in 1255 (by decide +kernel) (by decide +kernel), ab_in 107 (by decide +kernel) (by decide +kernel), by decide +kernel, by decide⟩
set_option maxHeartbeats 4000000 in
set_option maxRecDepth 100000 in
theorem sJ1_indexOf_4cfef (v0 : Nat) (v1 : Int32) (v2 : Int32) (v3 : Int32) (hv0 : isSB v0) (x : ab_X) (K : Int32 → Prop) (d bc bs : Nat) (hdp : 1 ≤ d) (h : wJ1_indexOf_4cfef v0 v1 v2 v3 x K) : EW MJ1_indexOf_4cfef 0 [(0, .ref v0), (1, .int v1), (2, .int v2), (3, .int v3)] [] (aS x) d bc bs (liP x K) := by
  unfold wJ1_indexOf_4cfef at h
  refine EW_iload_n (pc2 := 1) rfl dJ1_indexOf_4cfef_0 1 rfl ?_
  refine AW_invS (M' := MJ1_canEncode_9a6ad) [.int v1] (rest := []) mlRJ1_88 okJ1_canEncode_9a6ad (pc2 := 4) rfl dJ1_indexOf_4cfef_1 rfl rfl (Nat.le_of_ble_eq_true rfl) (Nat.le_of_ble_eq_true rfl) (d' := 0) (by omega) (EW_mono (fun _ _ hr => ?_) (sJ1_canEncode_9a6ad v1  x _ _ 0 0 (Nat.le_refl _) h))
  obtain ⟨r1, rfl, rfl, h⟩ := hr
  refine EW_if_ne (tgt := 9) (pc2 := 7) rfl dJ1_indexOf_4cfef_4 (by decide) (fun q => ?_) (fun q => ?_)
  · replace h := h.1 q
    refine EW_iload_n (pc2 := 10) rfl dJ1_indexOf_4cfef_9 2 rfl ?_
    refine EW_iconst (pc2 := 11) (v := 0) rfl dJ1_indexOf_4cfef_10 (by decide) ?_
    refine AW_mmax mmRJ1_92 (pc2 := 14) rfl dJ1_indexOf_4cfef_11 (Nat.le_of_ble_eq_true rfl) (by omega) ?_
    refine EW_istore_n (pc2 := 15) rfl dJ1_indexOf_4cfef_14 (by decide) [1, 2, 0, 3] [(0, .ref v0), (1, .int v1), (2, .int (imax v2 0)), (3, .int v3)] rfl ?_
    refine EW_iload_n (pc2 := 16) rfl dJ1_indexOf_4cfef_15 3 rfl ?_
    refine EW_aload_n (pc2 := 17) rfl dJ1_indexOf_4cfef_16 0 rfl ?_
    refine AW_salen hv0 (pc2 := 18) rfl dJ1_indexOf_4cfef_17 ?_
    refine AW_mmin mmRJ1_38 (pc2 := 21) rfl dJ1_indexOf_4cfef_18 (Nat.le_of_ble_eq_true rfl) (by omega) ?_
    refine EW_istore_n (pc2 := 22) rfl dJ1_indexOf_4cfef_21 (by decide) [1, 2, 3, 0] [(0, .ref v0), (1, .int v1), (2, .int (imax v2 0)), (3, .int (imin v3 (Int32.ofNat (slen v0))))] rfl ?_
    refine EW_iload_n (pc2 := 23) rfl dJ1_indexOf_4cfef_22 2 rfl ?_
    refine EW_iload_n (pc2 := 24) rfl dJ1_indexOf_4cfef_23 3 rfl ?_
    refine EW_icmp_lt (tgt := 29) (pc2 := 27) rfl dJ1_indexOf_4cfef_24 (by decide) (fun q => ?_) (fun q => ?_)
    · replace h := h.1 q
      refine EW_aload_n (pc2 := 30) rfl dJ1_indexOf_4cfef_29 0 rfl ?_
      refine EW_iload_n (pc2 := 31) rfl dJ1_indexOf_4cfef_30 1 rfl ?_
      refine EW_iload_n (pc2 := 32) rfl dJ1_indexOf_4cfef_31 2 rfl ?_
      refine EW_iload_n (pc2 := 33) rfl dJ1_indexOf_4cfef_32 3 rfl ?_
      refine AW_invS (M' := MJ1_indexOfChar_4cfef) [.ref v0, .int v1, .int (imax v2 0), .int (imin v3 (Int32.ofNat (slen v0)))] (rest := []) mlRJ1_95 okJ1_indexOfChar_4cfef (pc2 := 36) rfl dJ1_indexOf_4cfef_33 rfl rfl (Nat.le_of_ble_eq_true rfl) (Nat.le_of_ble_eq_true rfl) (d' := 0) (by omega) (EW_mono (fun _ _ hr => ?_) (sJ1_indexOfChar_4cfef v0 v1 (imax v2 0) (imin v3 (Int32.ofNat (slen v0))) hv0 x _ _ 0 0 (Nat.le_refl _) h))
      obtain ⟨r2, rfl, rfl, h⟩ := hr
      exact AW_iret rfl dJ1_indexOf_4cfef_36 ⟨_, rfl, rfl, h⟩
    · replace h := h.2 q
      refine EW_iconst (pc2 := 28) (v := (-1)) rfl dJ1_indexOf_4cfef_27 (by decide) ?_
      exact AW_iret rfl dJ1_indexOf_4cfef_28 ⟨_, rfl, rfl, h⟩
  · replace h := h.2 q
    refine EW_iconst (pc2 := 8) (v := (-1)) rfl dJ1_indexOf_4cfef_7 (by decide) ?_
    exact AW_iret rfl dJ1_indexOf_4cfef_8 ⟨_, rfl, rfl, h⟩
theorem mlRJ0_492 : Cond.methodLink RJ0 492 yJ0_isLatin1_aae02 ∈ ab_G ∧ Cond.instanceMethod yJ0_isLatin1_aae02 ∈ ab_G ∧ Cond.selects RJ0 yJ0_isLatin1_aae02 yJ0_isLatin1_aae02 ∈ ab_G := ⟨ab_in 1239 (by decide +kernel) (by decide +kernel), ab_in 1240 (by decide +kernel) (by decide +kernel), ab_in 1241 (by decide +kernel) (by decide +kernel)⟩
theorem mlRJ0_505 : Cond.methodLink RJ0 505 yJ0_length_8abf5 ∈ ab_G ∧ Cond.instanceMethod yJ0_length_8abf5 ∈ ab_G ∧ Cond.selects RJ0 yJ0_length_8abf5 yJ0_length_8abf5 ∈ ab_G := ⟨ab_in 1245 (by decide +kernel) (by decide +kernel), ab_in 1246 (by decide +kernel) (by decide +kernel), ab_in 1247 (by decide +kernel) (by decide +kernel)⟩
theorem mlRJ0_637 : Cond.methodLink RJ0 637 yJ1_indexOf_4cfef ∈ ab_G ∧ Cond.static yJ1_indexOf_4cfef ∈ ab_G := ⟨ab_in 1253 (by decide +kernel) (by decide +kernel), ab_in 1254 (by decide +kernel) (by decide +kernel)⟩
abbrev MJ0_indexOf_7cf53 : ab_M := (yJ0_indexOf_7cf53, cJ0_indexOf_7cf53, 3, (some .int))
theorem dJ0_indexOf_7cf53_0 : decode cJ0_indexOf_7cf53 0 = .ok (.aload_n 0, 1) := by decide +kernel
theorem dJ0_indexOf_7cf53_1 : decode cJ0_indexOf_7cf53 1 = .ok (.invokevirtual 492, 3) := by decide +kernel
theorem dJ0_indexOf_7cf53_4 : decode cJ0_indexOf_7cf53 4 = .ok (.ifCond .eq 19, 3) := by decide +kernel
theorem dJ0_indexOf_7cf53_7 : decode cJ0_indexOf_7cf53 7 = .ok (.aload_n 0, 1) := by decide +kernel
theorem dJ0_indexOf_7cf53_8 : decode cJ0_indexOf_7cf53 8 = .ok (.getfield 9, 3) := by decide +kernel
theorem dJ0_indexOf_7cf53_11 : decode cJ0_indexOf_7cf53 11 = .ok (.iload_n 1, 1) := by decide +kernel
theorem dJ0_indexOf_7cf53_12 : decode cJ0_indexOf_7cf53 12 = .ok (.iload_n 2, 1) := by decide +kernel
theorem dJ0_indexOf_7cf53_13 : decode cJ0_indexOf_7cf53 13 = .ok (.aload_n 0, 1) := by decide +kernel
theorem dJ0_indexOf_7cf53_14 : decode cJ0_indexOf_7cf53 14 = .ok (.invokevirtual 505, 3) := by decide +kernel
theorem dJ0_indexOf_7cf53_17 : decode cJ0_indexOf_7cf53 17 = .ok (.invokestatic 637, 3) := by decide +kernel
theorem dJ0_indexOf_7cf53_20 : decode cJ0_indexOf_7cf53 20 = .ok (.goto 16, 3) := by decide +kernel
theorem dJ0_indexOf_7cf53_23 : decode cJ0_indexOf_7cf53 23 = .ok (.aload_n 0, 1) := by decide +kernel
theorem dJ0_indexOf_7cf53_24 : decode cJ0_indexOf_7cf53 24 = .ok (.getfield 9, 3) := by decide +kernel
theorem dJ0_indexOf_7cf53_27 : decode cJ0_indexOf_7cf53 27 = .ok (.iload_n 1, 1) := by decide +kernel
theorem dJ0_indexOf_7cf53_28 : decode cJ0_indexOf_7cf53 28 = .ok (.iload_n 2, 1) := by decide +kernel
theorem dJ0_indexOf_7cf53_29 : decode cJ0_indexOf_7cf53 29 = .ok (.aload_n 0, 1) := by decide +kernel
theorem dJ0_indexOf_7cf53_30 : decode cJ0_indexOf_7cf53 30 = .ok (.invokevirtual 505, 3) := by decide +kernel
theorem dJ0_indexOf_7cf53_33 : decode cJ0_indexOf_7cf53 33 = .ok (.invokestatic 640, 3) := by decide +kernel
theorem dJ0_indexOf_7cf53_36 : decode cJ0_indexOf_7cf53 36 = .ok (.ireturn, 1) := by decide +kernel
theorem okJ0_indexOf_7cf53 : ab_okM MJ0_indexOf_7cf53 2 := ⟨by decide, ⟨by decide, by decide⟩, ab_in 1238 (by decide +kernel) (by decide +kernel), ab_in 106 (by decide +kernel) (by decide +kernel), by decide +kernel, by decide⟩
set_option maxHeartbeats 4000000 in
set_option maxRecDepth 100000 in
theorem sJ0_indexOf_7cf53 (v0 : Nat) (v1 : Int32) (v2 : Int32) (hv0 : isS v0) (x : ab_X) (K : Int32 → Prop) (d bc bs : Nat) (hdp : 2 ≤ d) (h : wJ0_indexOf_7cf53 v0 v1 v2 x K) : EW MJ0_indexOf_7cf53 0 [(0, .ref v0), (1, .int v1), (2, .int v2)] [] (aS x) d bc bs (liP x K) := by
  unfold wJ0_indexOf_7cf53 at h
  refine EW_aload_n (pc2 := 1) rfl dJ0_indexOf_7cf53_0 0 rfl ?_
  refine AW_invVS (M' := MJ0_isLatin1_aae02) [] (rest := []) mlRJ0_492 okJ0_isLatin1_aae02 (pc2 := 4) rfl dJ0_indexOf_7cf53_1 rfl rfl (Nat.le_of_ble_eq_true rfl) (Nat.le_of_ble_eq_true rfl) (d' := 0) (by omega) hv0 rfl (EW_mono (fun _ _ hr => ?_) (sJ0_isLatin1_aae02 v0 hv0 x _ _ 0 0 (Nat.le_refl _) h))
  obtain ⟨r1, rfl, rfl, h⟩ := hr
  refine EW_if_eq (tgt := 23) (pc2 := 7) rfl dJ0_indexOf_7cf53_4 (by decide) (fun q => ?_) (fun q => ?_)
  · replace h := h.1 q
    refine EW_aload_n (pc2 := 24) rfl dJ0_indexOf_7cf53_23 0 rfl ?_
    refine AW_sval hv0 gfRJ0_9 (pc2 := 27) rfl dJ0_indexOf_7cf53_24 ?_
    refine EW_iload_n (pc2 := 28) rfl dJ0_indexOf_7cf53_27 1 rfl ?_
    refine EW_iload_n (pc2 := 29) rfl dJ0_indexOf_7cf53_28 2 rfl ?_
    refine EW_aload_n (pc2 := 30) rfl dJ0_indexOf_7cf53_29 0 rfl ?_
    refine AW_invVS (M' := MJ0_length_8abf5) [] (rest := [.int v2, .int v1, .ref (v0 + 1000000)]) mlRJ0_505 okJ0_length_8abf5 (pc2 := 33) rfl dJ0_indexOf_7cf53_30 rfl rfl (Nat.le_of_ble_eq_true rfl) (Nat.le_of_ble_eq_true rfl) (d' := 1) (by omega) hv0 rfl (EW_mono (fun _ _ hr => ?_) (sJ0_length_8abf5 v0 hv0 x _ _ 0 0 (Nat.le_refl _) h))
    obtain ⟨r2, rfl, rfl, h⟩ := hr
    exact False.elim h
  · replace h := h.2 q
    refine EW_aload_n (pc2 := 8) rfl dJ0_indexOf_7cf53_7 0 rfl ?_
    refine AW_sval hv0 gfRJ0_9 (pc2 := 11) rfl dJ0_indexOf_7cf53_8 ?_
    refine EW_iload_n (pc2 := 12) rfl dJ0_indexOf_7cf53_11 1 rfl ?_
    refine EW_iload_n (pc2 := 13) rfl dJ0_indexOf_7cf53_12 2 rfl ?_
    refine EW_aload_n (pc2 := 14) rfl dJ0_indexOf_7cf53_13 0 rfl ?_
    refine AW_invVS (M' := MJ0_length_8abf5) [] (rest := [.int v2, .int v1, .ref (v0 + 1000000)]) mlRJ0_505 okJ0_length_8abf5 (pc2 := 17) rfl dJ0_indexOf_7cf53_14 rfl rfl (Nat.le_of_ble_eq_true rfl) (Nat.le_of_ble_eq_true rfl) (d' := 1) (by omega) hv0 rfl (EW_mono (fun _ _ hr => ?_) (sJ0_length_8abf5 v0 hv0 x _ _ 0 0 (Nat.le_refl _) h))
    obtain ⟨r3, rfl, rfl, h⟩ := hr
    refine AW_invS (M' := MJ1_indexOf_4cfef) [.ref (v0 + 1000000), .int v1, .int v2, .int r3] (rest := []) mlRJ0_637 okJ1_indexOf_4cfef (pc2 := 20) rfl dJ0_indexOf_7cf53_17 rfl rfl (Nat.le_of_ble_eq_true rfl) (Nat.le_of_ble_eq_true rfl) (d' := 1) (by omega) (EW_mono (fun _ _ hr => ?_) (sJ1_indexOf_4cfef (v0 + 1000000) v1 v2 r3 (isS.b hv0) x _ _ 0 0 (Nat.le_refl _) h))
    obtain ⟨r4, rfl, rfl, h⟩ := hr
    refine EW_goto (tgt := 36) dJ0_indexOf_7cf53_20 (by decide) ?_
    exact AW_iret rfl dJ0_indexOf_7cf53_36 ⟨_, rfl, rfl, h⟩
theorem mlRJ0_633 : Cond.methodLink RJ0 633 yJ0_indexOf_7cf53 ∈ ab_G ∧ Cond.instanceMethod yJ0_indexOf_7cf53 ∈ ab_G ∧ Cond.selects RJ0 yJ0_indexOf_7cf53 yJ0_indexOf_7cf53 ∈ ab_G := ⟨ab_in 1235 (by decide +kernel) (by decide +kernel), ab_in 1236 (by decide +kernel) (by decide +kernel), ab_in 1237 (by decide +kernel) (by decide +kernel)⟩
abbrev MJ0_indexOf_0f7a4 : ab_M := (yJ0_indexOf_0f7a4, cJ0_indexOf_0f7a4, 2, (some .int))
theorem dJ0_indexOf_0f7a4_0 : decode cJ0_indexOf_0f7a4 0 = .ok (.aload_n 0, 1) := by decide +kernel
theorem dJ0_indexOf_0f7a4_1 : decode cJ0_indexOf_0f7a4 1 = .ok (.iload_n 1, 1) := by decide +kernel
theorem dJ0_indexOf_0f7a4_2 : decode cJ0_indexOf_0f7a4 2 = .ok (.iconst 0, 1) := by decide +kernel
theorem dJ0_indexOf_0f7a4_3 : decode cJ0_indexOf_0f7a4 3 = .ok (.invokevirtual 633, 3) := by decide +kernel
theorem dJ0_indexOf_0f7a4_6 : decode cJ0_indexOf_0f7a4 6 = .ok (.ireturn, 1) := by decide +kernel
theorem okJ0_indexOf_0f7a4 : ab_okM MJ0_indexOf_0f7a4 1 := ⟨by decide, ⟨by decide, by decide⟩, ab_in 1234 (by decide +kernel) (by decide +kernel), ab_in 106 (by decide +kernel) (by decide +kernel), by decide +kernel, by decide⟩
set_option maxHeartbeats 4000000 in
set_option maxRecDepth 100000 in
theorem sJ0_indexOf_0f7a4 (v0 : Nat) (v1 : Int32) (hv0 : isS v0) (x : ab_X) (K : Int32 → Prop) (d bc bs : Nat) (hdp : 3 ≤ d) (h : wJ0_indexOf_0f7a4 v0 v1 x K) : EW MJ0_indexOf_0f7a4 0 [(0, .ref v0), (1, .int v1)] [] (aS x) d bc bs (liP x K) := by
  unfold wJ0_indexOf_0f7a4 at h
  refine EW_aload_n (pc2 := 1) rfl dJ0_indexOf_0f7a4_0 0 rfl ?_
  refine EW_iload_n (pc2 := 2) rfl dJ0_indexOf_0f7a4_1 1 rfl ?_
  refine EW_iconst (pc2 := 3) (v := 0) rfl dJ0_indexOf_0f7a4_2 (by decide) ?_
  refine AW_invVS (M' := MJ0_indexOf_7cf53) [.int v1, .int 0] (rest := []) mlRJ0_633 okJ0_indexOf_7cf53 (pc2 := 6) rfl dJ0_indexOf_0f7a4_3 rfl rfl (Nat.le_of_ble_eq_true rfl) (Nat.le_of_ble_eq_true rfl) (d' := 2) (by omega) hv0 rfl (EW_mono (fun _ _ hr => ?_) (sJ0_indexOf_7cf53 v0 v1 0 hv0 x _ _ 0 0 (Nat.le_refl _) h))
  obtain ⟨r1, rfl, rfl, h⟩ := hr
  exact AW_iret rfl dJ0_indexOf_0f7a4_6 ⟨_, rfl, rfl, h⟩
theorem cnRJ6_265 : Cond.constant RJ6 265 1431655765 ∈ ab_G := ab_in 1674 (by decide +kernel) (by decide +kernel)
theorem cnRJ6_266 : Cond.constant RJ6 266 858993459 ∈ ab_G := ab_in 1675 (by decide +kernel) (by decide +kernel)
theorem cnRJ6_267 : Cond.constant RJ6 267 252645135 ∈ ab_G := ab_in 1676 (by decide +kernel) (by decide +kernel)
abbrev MJ6_bitCount_0f7a4 : ab_M := (yJ6_bitCount_0f7a4, cJ6_bitCount_0f7a4, 1, (some .int))
theorem dJ6_bitCount_0f7a4_0 : decode cJ6_bitCount_0f7a4 0 = .ok (.iload_n 0, 1) := by decide +kernel
theorem dJ6_bitCount_0f7a4_1 : decode cJ6_bitCount_0f7a4 1 = .ok (.iload_n 0, 1) := by decide +kernel
theorem dJ6_bitCount_0f7a4_2 : decode cJ6_bitCount_0f7a4 2 = .ok (.iconst 1, 1) := by decide +kernel
theorem dJ6_bitCount_0f7a4_3 : decode cJ6_bitCount_0f7a4 3 = .ok (.iushr, 1) := by decide +kernel
theorem dJ6_bitCount_0f7a4_4 : decode cJ6_bitCount_0f7a4 4 = .ok (.ldc_w 265, 3) := by decide +kernel
theorem dJ6_bitCount_0f7a4_7 : decode cJ6_bitCount_0f7a4 7 = .ok (.iand, 1) := by decide +kernel
theorem dJ6_bitCount_0f7a4_8 : decode cJ6_bitCount_0f7a4 8 = .ok (.isub, 1) := by decide +kernel
theorem dJ6_bitCount_0f7a4_9 : decode cJ6_bitCount_0f7a4 9 = .ok (.istore_n 0, 1) := by decide +kernel
theorem dJ6_bitCount_0f7a4_10 : decode cJ6_bitCount_0f7a4 10 = .ok (.iload_n 0, 1) := by decide +kernel
theorem dJ6_bitCount_0f7a4_11 : decode cJ6_bitCount_0f7a4 11 = .ok (.ldc_w 266, 3) := by decide +kernel
theorem dJ6_bitCount_0f7a4_14 : decode cJ6_bitCount_0f7a4 14 = .ok (.iand, 1) := by decide +kernel
theorem dJ6_bitCount_0f7a4_15 : decode cJ6_bitCount_0f7a4 15 = .ok (.iload_n 0, 1) := by decide +kernel
theorem dJ6_bitCount_0f7a4_16 : decode cJ6_bitCount_0f7a4 16 = .ok (.iconst 2, 1) := by decide +kernel
theorem dJ6_bitCount_0f7a4_17 : decode cJ6_bitCount_0f7a4 17 = .ok (.iushr, 1) := by decide +kernel
theorem dJ6_bitCount_0f7a4_18 : decode cJ6_bitCount_0f7a4 18 = .ok (.ldc_w 266, 3) := by decide +kernel
theorem dJ6_bitCount_0f7a4_21 : decode cJ6_bitCount_0f7a4 21 = .ok (.iand, 1) := by decide +kernel
theorem dJ6_bitCount_0f7a4_22 : decode cJ6_bitCount_0f7a4 22 = .ok (.iadd, 1) := by decide +kernel
theorem dJ6_bitCount_0f7a4_23 : decode cJ6_bitCount_0f7a4 23 = .ok (.istore_n 0, 1) := by decide +kernel
theorem dJ6_bitCount_0f7a4_24 : decode cJ6_bitCount_0f7a4 24 = .ok (.iload_n 0, 1) := by decide +kernel
theorem dJ6_bitCount_0f7a4_25 : decode cJ6_bitCount_0f7a4 25 = .ok (.iload_n 0, 1) := by decide +kernel
theorem dJ6_bitCount_0f7a4_26 : decode cJ6_bitCount_0f7a4 26 = .ok (.iconst 4, 1) := by decide +kernel
theorem dJ6_bitCount_0f7a4_27 : decode cJ6_bitCount_0f7a4 27 = .ok (.iushr, 1) := by decide +kernel
theorem dJ6_bitCount_0f7a4_28 : decode cJ6_bitCount_0f7a4 28 = .ok (.iadd, 1) := by decide +kernel
theorem dJ6_bitCount_0f7a4_29 : decode cJ6_bitCount_0f7a4 29 = .ok (.ldc_w 267, 3) := by decide +kernel
theorem dJ6_bitCount_0f7a4_32 : decode cJ6_bitCount_0f7a4 32 = .ok (.iand, 1) := by decide +kernel
theorem dJ6_bitCount_0f7a4_33 : decode cJ6_bitCount_0f7a4 33 = .ok (.istore_n 0, 1) := by decide +kernel
theorem dJ6_bitCount_0f7a4_34 : decode cJ6_bitCount_0f7a4 34 = .ok (.iload_n 0, 1) := by decide +kernel
theorem dJ6_bitCount_0f7a4_35 : decode cJ6_bitCount_0f7a4 35 = .ok (.iload_n 0, 1) := by decide +kernel
theorem dJ6_bitCount_0f7a4_36 : decode cJ6_bitCount_0f7a4 36 = .ok (.bipush 8, 2) := by decide +kernel
theorem dJ6_bitCount_0f7a4_38 : decode cJ6_bitCount_0f7a4 38 = .ok (.iushr, 1) := by decide +kernel
theorem dJ6_bitCount_0f7a4_39 : decode cJ6_bitCount_0f7a4 39 = .ok (.iadd, 1) := by decide +kernel
theorem dJ6_bitCount_0f7a4_40 : decode cJ6_bitCount_0f7a4 40 = .ok (.istore_n 0, 1) := by decide +kernel
theorem dJ6_bitCount_0f7a4_41 : decode cJ6_bitCount_0f7a4 41 = .ok (.iload_n 0, 1) := by decide +kernel
theorem dJ6_bitCount_0f7a4_42 : decode cJ6_bitCount_0f7a4 42 = .ok (.iload_n 0, 1) := by decide +kernel
theorem dJ6_bitCount_0f7a4_43 : decode cJ6_bitCount_0f7a4 43 = .ok (.bipush 16, 2) := by decide +kernel
theorem dJ6_bitCount_0f7a4_45 : decode cJ6_bitCount_0f7a4 45 = .ok (.iushr, 1) := by decide +kernel
theorem dJ6_bitCount_0f7a4_46 : decode cJ6_bitCount_0f7a4 46 = .ok (.iadd, 1) := by decide +kernel
theorem dJ6_bitCount_0f7a4_47 : decode cJ6_bitCount_0f7a4 47 = .ok (.istore_n 0, 1) := by decide +kernel
theorem dJ6_bitCount_0f7a4_48 : decode cJ6_bitCount_0f7a4 48 = .ok (.iload_n 0, 1) := by decide +kernel
theorem dJ6_bitCount_0f7a4_49 : decode cJ6_bitCount_0f7a4 49 = .ok (.bipush 63, 2) := by decide +kernel
theorem dJ6_bitCount_0f7a4_51 : decode cJ6_bitCount_0f7a4 51 = .ok (.iand, 1) := by decide +kernel
theorem dJ6_bitCount_0f7a4_52 : decode cJ6_bitCount_0f7a4 52 = .ok (.ireturn, 1) := by decide +kernel
theorem okJ6_bitCount_0f7a4 : ab_okM MJ6_bitCount_0f7a4 1 := ⟨by decide, ⟨by decide, by decide⟩, ab_in 1673 (by decide +kernel) (by decide +kernel), ab_in 105 (by decide +kernel) (by decide +kernel), by decide +kernel, by decide⟩
set_option maxHeartbeats 4000000 in
set_option maxRecDepth 100000 in
theorem sJ6_bitCount_0f7a4 (v0 : Int32)  (x : ab_X) (K : Int32 → Prop) (d bc bs : Nat) (hdp : 0 ≤ d) (h : wJ6_bitCount_0f7a4 v0 x K) : EW MJ6_bitCount_0f7a4 0 [(0, .int v0)] [] (aS x) d bc bs (liP x K) := by
  unfold wJ6_bitCount_0f7a4 at h
  refine EW_iload_n (pc2 := 1) rfl dJ6_bitCount_0f7a4_0 0 rfl ?_
  refine EW_iload_n (pc2 := 2) rfl dJ6_bitCount_0f7a4_1 0 rfl ?_
  refine EW_iconst (pc2 := 3) (v := 1) rfl dJ6_bitCount_0f7a4_2 (by decide) ?_
  refine EW_iushr (pc2 := 4) (v := (iushr v0 1)) rfl dJ6_bitCount_0f7a4_3 rfl ?_
  refine EW_ldcw cnRJ6_265 (pc2 := 7) rfl dJ6_bitCount_0f7a4_4 ?_
  refine EW_iand (pc2 := 8) rfl dJ6_bitCount_0f7a4_7 ?_
  refine EW_isub (pc2 := 9) rfl dJ6_bitCount_0f7a4_8 ?_
  refine EW_istore_n (pc2 := 10) rfl dJ6_bitCount_0f7a4_9 (by decide) [0] [(0, .int (v0 - ((iushr v0 1) &&& 1431655765)))] rfl ?_
  refine EW_iload_n (pc2 := 11) rfl dJ6_bitCount_0f7a4_10 0 rfl ?_
  refine EW_ldcw cnRJ6_266 (pc2 := 14) rfl dJ6_bitCount_0f7a4_11 ?_
  refine EW_iand (pc2 := 15) rfl dJ6_bitCount_0f7a4_14 ?_
  refine EW_iload_n (pc2 := 16) rfl dJ6_bitCount_0f7a4_15 0 rfl ?_
  refine EW_iconst (pc2 := 17) (v := 2) rfl dJ6_bitCount_0f7a4_16 (by decide) ?_
  refine EW_iushr (pc2 := 18) (v := (iushr (v0 - ((iushr v0 1) &&& 1431655765)) 2)) rfl dJ6_bitCount_0f7a4_17 rfl ?_
  refine EW_ldcw cnRJ6_266 (pc2 := 21) rfl dJ6_bitCount_0f7a4_18 ?_
  refine EW_iand (pc2 := 22) rfl dJ6_bitCount_0f7a4_21 ?_
  refine EW_iadd (pc2 := 23) rfl dJ6_bitCount_0f7a4_22 ?_
  refine EW_istore_n (pc2 := 24) rfl dJ6_bitCount_0f7a4_23 (by decide) [0] [(0, .int (((v0 - ((iushr v0 1) &&& 1431655765)) &&& 858993459) + ((iushr (v0 - ((iushr v0 1) &&& 1431655765)) 2) &&& 858993459)))] rfl ?_
  refine EW_iload_n (pc2 := 25) rfl dJ6_bitCount_0f7a4_24 0 rfl ?_
  refine EW_iload_n (pc2 := 26) rfl dJ6_bitCount_0f7a4_25 0 rfl ?_
  refine EW_iconst (pc2 := 27) (v := 4) rfl dJ6_bitCount_0f7a4_26 (by decide) ?_
  refine EW_iushr (pc2 := 28) (v := (iushr (((v0 - ((iushr v0 1) &&& 1431655765)) &&& 858993459) + ((iushr (v0 - ((iushr v0 1) &&& 1431655765)) 2) &&& 858993459)) 4)) rfl dJ6_bitCount_0f7a4_27 rfl ?_
  refine EW_iadd (pc2 := 29) rfl dJ6_bitCount_0f7a4_28 ?_
  refine EW_ldcw cnRJ6_267 (pc2 := 32) rfl dJ6_bitCount_0f7a4_29 ?_
  refine EW_iand (pc2 := 33) rfl dJ6_bitCount_0f7a4_32 ?_
  refine EW_istore_n (pc2 := 34) rfl dJ6_bitCount_0f7a4_33 (by decide) [0] [(0, .int (((((v0 - ((iushr v0 1) &&& 1431655765)) &&& 858993459) + ((iushr (v0 - ((iushr v0 1) &&& 1431655765)) 2) &&& 858993459)) + (iushr (((v0 - ((iushr v0 1) &&& 1431655765)) &&& 858993459) + ((iushr (v0 - ((iushr v0 1) &&& 1431655765)) 2) &&& 858993459)) 4)) &&& 252645135))] rfl ?_
  refine EW_iload_n (pc2 := 35) rfl dJ6_bitCount_0f7a4_34 0 rfl ?_
  refine EW_iload_n (pc2 := 36) rfl dJ6_bitCount_0f7a4_35 0 rfl ?_
  refine EW_bipush (pc2 := 38) (v := 8) rfl dJ6_bitCount_0f7a4_36 (by decide) ?_
  refine EW_iushr (pc2 := 39) (v := (iushr (((((v0 - ((iushr v0 1) &&& 1431655765)) &&& 858993459) + ((iushr (v0 - ((iushr v0 1) &&& 1431655765)) 2) &&& 858993459)) + (iushr (((v0 - ((iushr v0 1) &&& 1431655765)) &&& 858993459) + ((iushr (v0 - ((iushr v0 1) &&& 1431655765)) 2) &&& 858993459)) 4)) &&& 252645135) 8)) rfl dJ6_bitCount_0f7a4_38 rfl ?_
  refine EW_iadd (pc2 := 40) rfl dJ6_bitCount_0f7a4_39 ?_
  refine EW_istore_n (pc2 := 41) rfl dJ6_bitCount_0f7a4_40 (by decide) [0] [(0, .int ((((((v0 - ((iushr v0 1) &&& 1431655765)) &&& 858993459) + ((iushr (v0 - ((iushr v0 1) &&& 1431655765)) 2) &&& 858993459)) + (iushr (((v0 - ((iushr v0 1) &&& 1431655765)) &&& 858993459) + ((iushr (v0 - ((iushr v0 1) &&& 1431655765)) 2) &&& 858993459)) 4)) &&& 252645135) + (iushr (((((v0 - ((iushr v0 1) &&& 1431655765)) &&& 858993459) + ((iushr (v0 - ((iushr v0 1) &&& 1431655765)) 2) &&& 858993459)) + (iushr (((v0 - ((iushr v0 1) &&& 1431655765)) &&& 858993459) + ((iushr (v0 - ((iushr v0 1) &&& 1431655765)) 2) &&& 858993459)) 4)) &&& 252645135) 8)))] rfl ?_
  refine EW_iload_n (pc2 := 42) rfl dJ6_bitCount_0f7a4_41 0 rfl ?_
  refine EW_iload_n (pc2 := 43) rfl dJ6_bitCount_0f7a4_42 0 rfl ?_
  refine EW_bipush (pc2 := 45) (v := 16) rfl dJ6_bitCount_0f7a4_43 (by decide) ?_
  refine EW_iushr (pc2 := 46) (v := (iushr ((((((v0 - ((iushr v0 1) &&& 1431655765)) &&& 858993459) + ((iushr (v0 - ((iushr v0 1) &&& 1431655765)) 2) &&& 858993459)) + (iushr (((v0 - ((iushr v0 1) &&& 1431655765)) &&& 858993459) + ((iushr (v0 - ((iushr v0 1) &&& 1431655765)) 2) &&& 858993459)) 4)) &&& 252645135) + (iushr (((((v0 - ((iushr v0 1) &&& 1431655765)) &&& 858993459) + ((iushr (v0 - ((iushr v0 1) &&& 1431655765)) 2) &&& 858993459)) + (iushr (((v0 - ((iushr v0 1) &&& 1431655765)) &&& 858993459) + ((iushr (v0 - ((iushr v0 1) &&& 1431655765)) 2) &&& 858993459)) 4)) &&& 252645135) 8)) 16)) rfl dJ6_bitCount_0f7a4_45 rfl ?_
  refine EW_iadd (pc2 := 47) rfl dJ6_bitCount_0f7a4_46 ?_
  refine EW_istore_n (pc2 := 48) rfl dJ6_bitCount_0f7a4_47 (by decide) [0] [(0, .int (((((((v0 - ((iushr v0 1) &&& 1431655765)) &&& 858993459) + ((iushr (v0 - ((iushr v0 1) &&& 1431655765)) 2) &&& 858993459)) + (iushr (((v0 - ((iushr v0 1) &&& 1431655765)) &&& 858993459) + ((iushr (v0 - ((iushr v0 1) &&& 1431655765)) 2) &&& 858993459)) 4)) &&& 252645135) + (iushr (((((v0 - ((iushr v0 1) &&& 1431655765)) &&& 858993459) + ((iushr (v0 - ((iushr v0 1) &&& 1431655765)) 2) &&& 858993459)) + (iushr (((v0 - ((iushr v0 1) &&& 1431655765)) &&& 858993459) + ((iushr (v0 - ((iushr v0 1) &&& 1431655765)) 2) &&& 858993459)) 4)) &&& 252645135) 8)) + (iushr ((((((v0 - ((iushr v0 1) &&& 1431655765)) &&& 858993459) + ((iushr (v0 - ((iushr v0 1) &&& 1431655765)) 2) &&& 858993459)) + (iushr (((v0 - ((iushr v0 1) &&& 1431655765)) &&& 858993459) + ((iushr (v0 - ((iushr v0 1) &&& 1431655765)) 2) &&& 858993459)) 4)) &&& 252645135) + (iushr (((((v0 - ((iushr v0 1) &&& 1431655765)) &&& 858993459) + ((iushr (v0 - ((iushr v0 1) &&& 1431655765)) 2) &&& 858993459)) + (iushr (((v0 - ((iushr v0 1) &&& 1431655765)) &&& 858993459) + ((iushr (v0 - ((iushr v0 1) &&& 1431655765)) 2) &&& 858993459)) 4)) &&& 252645135) 8)) 16)))] rfl ?_
  refine EW_iload_n (pc2 := 49) rfl dJ6_bitCount_0f7a4_48 0 rfl ?_
  refine EW_bipush (pc2 := 51) (v := 63) rfl dJ6_bitCount_0f7a4_49 (by decide) ?_
  refine EW_iand (pc2 := 52) rfl dJ6_bitCount_0f7a4_51 ?_
  exact AW_iret rfl dJ6_bitCount_0f7a4_52 ⟨_, rfl, rfl, h⟩
theorem cnRJ6_264 : Cond.constant RJ6 264 65536 ∈ ab_G := ab_in 1138 (by decide +kernel) (by decide +kernel)
abbrev MJ6_numberOfTrailingZeros_0f7a4 : ab_M := (yJ6_numberOfTrailingZeros_0f7a4, cJ6_numberOfTrailingZeros_0f7a4, 2, (some .int))
theorem dJ6_numberOfTrailingZeros_0f7a4_0 : decode cJ6_numberOfTrailingZeros_0f7a4 0 = .ok (.iload_n 0, 1) := by decide +kernel
theorem dJ6_numberOfTrailingZeros_0f7a4_1 : decode cJ6_numberOfTrailingZeros_0f7a4 1 = .ok (.iconst (-1), 1) := by decide +kernel
theorem dJ6_numberOfTrailingZeros_0f7a4_2 : decode cJ6_numberOfTrailingZeros_0f7a4 2 = .ok (.ixor, 1) := by decide +kernel
theorem dJ6_numberOfTrailingZeros_0f7a4_3 : decode cJ6_numberOfTrailingZeros_0f7a4 3 = .ok (.iload_n 0, 1) := by decide +kernel
theorem dJ6_numberOfTrailingZeros_0f7a4_4 : decode cJ6_numberOfTrailingZeros_0f7a4 4 = .ok (.iconst 1, 1) := by decide +kernel
theorem dJ6_numberOfTrailingZeros_0f7a4_5 : decode cJ6_numberOfTrailingZeros_0f7a4 5 = .ok (.isub, 1) := by decide +kernel
theorem dJ6_numberOfTrailingZeros_0f7a4_6 : decode cJ6_numberOfTrailingZeros_0f7a4 6 = .ok (.iand, 1) := by decide +kernel
theorem dJ6_numberOfTrailingZeros_0f7a4_7 : decode cJ6_numberOfTrailingZeros_0f7a4 7 = .ok (.istore_n 0, 1) := by decide +kernel
theorem dJ6_numberOfTrailingZeros_0f7a4_8 : decode cJ6_numberOfTrailingZeros_0f7a4 8 = .ok (.iload_n 0, 1) := by decide +kernel
theorem dJ6_numberOfTrailingZeros_0f7a4_9 : decode cJ6_numberOfTrailingZeros_0f7a4 9 = .ok (.ifCond .gt 8, 3) := by decide +kernel
theorem dJ6_numberOfTrailingZeros_0f7a4_12 : decode cJ6_numberOfTrailingZeros_0f7a4 12 = .ok (.iload_n 0, 1) := by decide +kernel
theorem dJ6_numberOfTrailingZeros_0f7a4_13 : decode cJ6_numberOfTrailingZeros_0f7a4 13 = .ok (.bipush 32, 2) := by decide +kernel
theorem dJ6_numberOfTrailingZeros_0f7a4_15 : decode cJ6_numberOfTrailingZeros_0f7a4 15 = .ok (.iand, 1) := by decide +kernel
theorem dJ6_numberOfTrailingZeros_0f7a4_16 : decode cJ6_numberOfTrailingZeros_0f7a4 16 = .ok (.ireturn, 1) := by decide +kernel
theorem dJ6_numberOfTrailingZeros_0f7a4_17 : decode cJ6_numberOfTrailingZeros_0f7a4 17 = .ok (.iconst 1, 1) := by decide +kernel
theorem dJ6_numberOfTrailingZeros_0f7a4_18 : decode cJ6_numberOfTrailingZeros_0f7a4 18 = .ok (.istore_n 1, 1) := by decide +kernel
theorem dJ6_numberOfTrailingZeros_0f7a4_19 : decode cJ6_numberOfTrailingZeros_0f7a4 19 = .ok (.iload_n 0, 1) := by decide +kernel
theorem dJ6_numberOfTrailingZeros_0f7a4_20 : decode cJ6_numberOfTrailingZeros_0f7a4 20 = .ok (.ldc_w 264, 3) := by decide +kernel
theorem dJ6_numberOfTrailingZeros_0f7a4_23 : decode cJ6_numberOfTrailingZeros_0f7a4 23 = .ok (.if_icmp .le 11, 3) := by decide +kernel
theorem dJ6_numberOfTrailingZeros_0f7a4_26 : decode cJ6_numberOfTrailingZeros_0f7a4 26 = .ok (.iinc 1 16, 3) := by decide +kernel
theorem dJ6_numberOfTrailingZeros_0f7a4_29 : decode cJ6_numberOfTrailingZeros_0f7a4 29 = .ok (.iload_n 0, 1) := by decide +kernel
theorem dJ6_numberOfTrailingZeros_0f7a4_30 : decode cJ6_numberOfTrailingZeros_0f7a4 30 = .ok (.bipush 16, 2) := by decide +kernel
theorem dJ6_numberOfTrailingZeros_0f7a4_32 : decode cJ6_numberOfTrailingZeros_0f7a4 32 = .ok (.iushr, 1) := by decide +kernel
theorem dJ6_numberOfTrailingZeros_0f7a4_33 : decode cJ6_numberOfTrailingZeros_0f7a4 33 = .ok (.istore_n 0, 1) := by decide +kernel
theorem dJ6_numberOfTrailingZeros_0f7a4_34 : decode cJ6_numberOfTrailingZeros_0f7a4 34 = .ok (.iload_n 0, 1) := by decide +kernel
theorem dJ6_numberOfTrailingZeros_0f7a4_35 : decode cJ6_numberOfTrailingZeros_0f7a4 35 = .ok (.sipush 256, 3) := by decide +kernel
theorem dJ6_numberOfTrailingZeros_0f7a4_38 : decode cJ6_numberOfTrailingZeros_0f7a4 38 = .ok (.if_icmp .le 11, 3) := by decide +kernel
theorem dJ6_numberOfTrailingZeros_0f7a4_41 : decode cJ6_numberOfTrailingZeros_0f7a4 41 = .ok (.iinc 1 8, 3) := by decide +kernel
theorem dJ6_numberOfTrailingZeros_0f7a4_44 : decode cJ6_numberOfTrailingZeros_0f7a4 44 = .ok (.iload_n 0, 1) := by decide +kernel
theorem dJ6_numberOfTrailingZeros_0f7a4_45 : decode cJ6_numberOfTrailingZeros_0f7a4 45 = .ok (.bipush 8, 2) := by decide +kernel
theorem dJ6_numberOfTrailingZeros_0f7a4_47 : decode cJ6_numberOfTrailingZeros_0f7a4 47 = .ok (.iushr, 1) := by decide +kernel
theorem dJ6_numberOfTrailingZeros_0f7a4_48 : decode cJ6_numberOfTrailingZeros_0f7a4 48 = .ok (.istore_n 0, 1) := by decide +kernel
theorem dJ6_numberOfTrailingZeros_0f7a4_49 : decode cJ6_numberOfTrailingZeros_0f7a4 49 = .ok (.iload_n 0, 1) := by decide +kernel
theorem dJ6_numberOfTrailingZeros_0f7a4_50 : decode cJ6_numberOfTrailingZeros_0f7a4 50 = .ok (.bipush 16, 2) := by decide +kernel
theorem dJ6_numberOfTrailingZeros_0f7a4_52 : decode cJ6_numberOfTrailingZeros_0f7a4 52 = .ok (.if_icmp .le 10, 3) := by decide +kernel
theorem dJ6_numberOfTrailingZeros_0f7a4_55 : decode cJ6_numberOfTrailingZeros_0f7a4 55 = .ok (.iinc 1 4, 3) := by decide +kernel
theorem dJ6_numberOfTrailingZeros_0f7a4_58 : decode cJ6_numberOfTrailingZeros_0f7a4 58 = .ok (.iload_n 0, 1) := by decide +kernel
theorem dJ6_numberOfTrailingZeros_0f7a4_59 : decode cJ6_numberOfTrailingZeros_0f7a4 59 = .ok (.iconst 4, 1) := by decide +kernel
theorem dJ6_numberOfTrailingZeros_0f7a4_60 : decode cJ6_numberOfTrailingZeros_0f7a4 60 = .ok (.iushr, 1) := by decide +kernel
theorem dJ6_numberOfTrailingZeros_0f7a4_61 : decode cJ6_numberOfTrailingZeros_0f7a4 61 = .ok (.istore_n 0, 1) := by decide +kernel
theorem dJ6_numberOfTrailingZeros_0f7a4_62 : decode cJ6_numberOfTrailingZeros_0f7a4 62 = .ok (.iload_n 0, 1) := by decide +kernel
theorem dJ6_numberOfTrailingZeros_0f7a4_63 : decode cJ6_numberOfTrailingZeros_0f7a4 63 = .ok (.iconst 4, 1) := by decide +kernel
theorem dJ6_numberOfTrailingZeros_0f7a4_64 : decode cJ6_numberOfTrailingZeros_0f7a4 64 = .ok (.if_icmp .le 10, 3) := by decide +kernel
theorem dJ6_numberOfTrailingZeros_0f7a4_67 : decode cJ6_numberOfTrailingZeros_0f7a4 67 = .ok (.iinc 1 2, 3) := by decide +kernel
theorem dJ6_numberOfTrailingZeros_0f7a4_70 : decode cJ6_numberOfTrailingZeros_0f7a4 70 = .ok (.iload_n 0, 1) := by decide +kernel
theorem dJ6_numberOfTrailingZeros_0f7a4_71 : decode cJ6_numberOfTrailingZeros_0f7a4 71 = .ok (.iconst 2, 1) := by decide +kernel
theorem dJ6_numberOfTrailingZeros_0f7a4_72 : decode cJ6_numberOfTrailingZeros_0f7a4 72 = .ok (.iushr, 1) := by decide +kernel
theorem dJ6_numberOfTrailingZeros_0f7a4_73 : decode cJ6_numberOfTrailingZeros_0f7a4 73 = .ok (.istore_n 0, 1) := by decide +kernel
theorem dJ6_numberOfTrailingZeros_0f7a4_74 : decode cJ6_numberOfTrailingZeros_0f7a4 74 = .ok (.iload_n 1, 1) := by decide +kernel
theorem dJ6_numberOfTrailingZeros_0f7a4_75 : decode cJ6_numberOfTrailingZeros_0f7a4 75 = .ok (.iload_n 0, 1) := by decide +kernel
theorem dJ6_numberOfTrailingZeros_0f7a4_76 : decode cJ6_numberOfTrailingZeros_0f7a4 76 = .ok (.iconst 1, 1) := by decide +kernel
theorem dJ6_numberOfTrailingZeros_0f7a4_77 : decode cJ6_numberOfTrailingZeros_0f7a4 77 = .ok (.iushr, 1) := by decide +kernel
theorem dJ6_numberOfTrailingZeros_0f7a4_78 : decode cJ6_numberOfTrailingZeros_0f7a4 78 = .ok (.iadd, 1) := by decide +kernel
theorem dJ6_numberOfTrailingZeros_0f7a4_79 : decode cJ6_numberOfTrailingZeros_0f7a4 79 = .ok (.ireturn, 1) := by decide +kernel
theorem okJ6_numberOfTrailingZeros_0f7a4 : ab_okM MJ6_numberOfTrailingZeros_0f7a4 1 := ⟨by decide, ⟨by decide, by decide⟩, ab_in 1137 (by decide +kernel) (by decide +kernel), ab_in 105 (by decide +kernel) (by decide +kernel), by decide +kernel, by decide⟩
set_option maxHeartbeats 4000000 in
set_option maxRecDepth 100000 in
theorem sJ6_numberOfTrailingZeros_0f7a4_74 (v0 : Int32) (v1 : Int32)  (x : ab_X) (K : Int32 → Prop)  (d bc bs : Nat) (hdp : 0 ≤ d)  (h : wJ6_numberOfTrailingZeros_0f7a4_74 v0 v1 x K ) : EW MJ6_numberOfTrailingZeros_0f7a4 74 [(0, .int v0), (1, .int v1)] [] (aS x) d bc bs (liP x K) := by
  unfold wJ6_numberOfTrailingZeros_0f7a4_74 at h
  refine EW_iload_n (pc2 := 75) rfl dJ6_numberOfTrailingZeros_0f7a4_74 1 rfl ?_
  refine EW_iload_n (pc2 := 76) rfl dJ6_numberOfTrailingZeros_0f7a4_75 0 rfl ?_
  refine EW_iconst (pc2 := 77) (v := 1) rfl dJ6_numberOfTrailingZeros_0f7a4_76 (by decide) ?_
  refine EW_iushr (pc2 := 78) (v := (iushr v0 1)) rfl dJ6_numberOfTrailingZeros_0f7a4_77 rfl ?_
  refine EW_iadd (pc2 := 79) rfl dJ6_numberOfTrailingZeros_0f7a4_78 ?_
  exact AW_iret rfl dJ6_numberOfTrailingZeros_0f7a4_79 ⟨_, rfl, rfl, h⟩
set_option maxHeartbeats 4000000 in
set_option maxRecDepth 100000 in
theorem sJ6_numberOfTrailingZeros_0f7a4_62 (v0 : Int32) (v1 : Int32)  (x : ab_X) (K : Int32 → Prop)  (d bc bs : Nat) (hdp : 0 ≤ d)  (h : wJ6_numberOfTrailingZeros_0f7a4_62 v0 v1 x K ) : EW MJ6_numberOfTrailingZeros_0f7a4 62 [(0, .int v0), (1, .int v1)] [] (aS x) d bc bs (liP x K) := by
  unfold wJ6_numberOfTrailingZeros_0f7a4_62 at h
  refine EW_iload_n (pc2 := 63) rfl dJ6_numberOfTrailingZeros_0f7a4_62 0 rfl ?_
  refine EW_iconst (pc2 := 64) (v := 4) rfl dJ6_numberOfTrailingZeros_0f7a4_63 (by decide) ?_
  refine EW_icmp_le (tgt := 74) (pc2 := 67) rfl dJ6_numberOfTrailingZeros_0f7a4_64 (by decide) (fun q => ?_) (fun q => ?_)
  · replace h := h.1 q
    exact sJ6_numberOfTrailingZeros_0f7a4_74 v0 v1 x K d bc bs hdp h
  · replace h := h.2 q
    refine EW_iinc (v1 + 2) (pc2 := 70) rfl dJ6_numberOfTrailingZeros_0f7a4_67 1 rfl rfl (by decide) [1, 0] [(0, .int v0), (1, .int (v1 + 2))] rfl ?_
    refine EW_iload_n (pc2 := 71) rfl dJ6_numberOfTrailingZeros_0f7a4_70 0 rfl ?_
    refine EW_iconst (pc2 := 72) (v := 2) rfl dJ6_numberOfTrailingZeros_0f7a4_71 (by decide) ?_
    refine EW_iushr (pc2 := 73) (v := (iushr v0 2)) rfl dJ6_numberOfTrailingZeros_0f7a4_72 rfl ?_
    refine EW_istore_n (pc2 := 74) rfl dJ6_numberOfTrailingZeros_0f7a4_73 (by decide) [0, 1] [(0, .int (iushr v0 2)), (1, .int (v1 + 2))] rfl ?_
    exact sJ6_numberOfTrailingZeros_0f7a4_74 (iushr v0 2) (v1 + 2) x K d bc bs hdp h
set_option maxHeartbeats 4000000 in
set_option maxRecDepth 100000 in
theorem sJ6_numberOfTrailingZeros_0f7a4_49 (v0 : Int32) (v1 : Int32)  (x : ab_X) (K : Int32 → Prop)  (d bc bs : Nat) (hdp : 0 ≤ d)  (h : wJ6_numberOfTrailingZeros_0f7a4_49 v0 v1 x K ) : EW MJ6_numberOfTrailingZeros_0f7a4 49 [(0, .int v0), (1, .int v1)] [] (aS x) d bc bs (liP x K) := by
  unfold wJ6_numberOfTrailingZeros_0f7a4_49 at h
  refine EW_iload_n (pc2 := 50) rfl dJ6_numberOfTrailingZeros_0f7a4_49 0 rfl ?_
  refine EW_bipush (pc2 := 52) (v := 16) rfl dJ6_numberOfTrailingZeros_0f7a4_50 (by decide) ?_
  refine EW_icmp_le (tgt := 62) (pc2 := 55) rfl dJ6_numberOfTrailingZeros_0f7a4_52 (by decide) (fun q => ?_) (fun q => ?_)
  · replace h := h.1 q
    exact sJ6_numberOfTrailingZeros_0f7a4_62 v0 v1 x K d bc bs hdp h
  · replace h := h.2 q
    refine EW_iinc (v1 + 4) (pc2 := 58) rfl dJ6_numberOfTrailingZeros_0f7a4_55 1 rfl rfl (by decide) [1, 0] [(0, .int v0), (1, .int (v1 + 4))] rfl ?_
    refine EW_iload_n (pc2 := 59) rfl dJ6_numberOfTrailingZeros_0f7a4_58 0 rfl ?_
    refine EW_iconst (pc2 := 60) (v := 4) rfl dJ6_numberOfTrailingZeros_0f7a4_59 (by decide) ?_
    refine EW_iushr (pc2 := 61) (v := (iushr v0 4)) rfl dJ6_numberOfTrailingZeros_0f7a4_60 rfl ?_
    refine EW_istore_n (pc2 := 62) rfl dJ6_numberOfTrailingZeros_0f7a4_61 (by decide) [0, 1] [(0, .int (iushr v0 4)), (1, .int (v1 + 4))] rfl ?_
    exact sJ6_numberOfTrailingZeros_0f7a4_62 (iushr v0 4) (v1 + 4) x K d bc bs hdp h
set_option maxHeartbeats 4000000 in
set_option maxRecDepth 100000 in
theorem sJ6_numberOfTrailingZeros_0f7a4_34 (v0 : Int32) (v1 : Int32)  (x : ab_X) (K : Int32 → Prop)  (d bc bs : Nat) (hdp : 0 ≤ d)  (h : wJ6_numberOfTrailingZeros_0f7a4_34 v0 v1 x K ) : EW MJ6_numberOfTrailingZeros_0f7a4 34 [(0, .int v0), (1, .int v1)] [] (aS x) d bc bs (liP x K) := by
  unfold wJ6_numberOfTrailingZeros_0f7a4_34 at h
  refine EW_iload_n (pc2 := 35) rfl dJ6_numberOfTrailingZeros_0f7a4_34 0 rfl ?_
  refine EW_sipush (pc2 := 38) (v := 256) rfl dJ6_numberOfTrailingZeros_0f7a4_35 (by decide) ?_
  refine EW_icmp_le (tgt := 49) (pc2 := 41) rfl dJ6_numberOfTrailingZeros_0f7a4_38 (by decide) (fun q => ?_) (fun q => ?_)
  · replace h := h.1 q
    exact sJ6_numberOfTrailingZeros_0f7a4_49 v0 v1 x K d bc bs hdp h
  · replace h := h.2 q
    refine EW_iinc (v1 + 8) (pc2 := 44) rfl dJ6_numberOfTrailingZeros_0f7a4_41 1 rfl rfl (by decide) [1, 0] [(0, .int v0), (1, .int (v1 + 8))] rfl ?_
    refine EW_iload_n (pc2 := 45) rfl dJ6_numberOfTrailingZeros_0f7a4_44 0 rfl ?_
    refine EW_bipush (pc2 := 47) (v := 8) rfl dJ6_numberOfTrailingZeros_0f7a4_45 (by decide) ?_
    refine EW_iushr (pc2 := 48) (v := (iushr v0 8)) rfl dJ6_numberOfTrailingZeros_0f7a4_47 rfl ?_
    refine EW_istore_n (pc2 := 49) rfl dJ6_numberOfTrailingZeros_0f7a4_48 (by decide) [0, 1] [(0, .int (iushr v0 8)), (1, .int (v1 + 8))] rfl ?_
    exact sJ6_numberOfTrailingZeros_0f7a4_49 (iushr v0 8) (v1 + 8) x K d bc bs hdp h
set_option maxHeartbeats 4000000 in
set_option maxRecDepth 100000 in
theorem sJ6_numberOfTrailingZeros_0f7a4 (v0 : Int32)  (x : ab_X) (K : Int32 → Prop) (d bc bs : Nat) (hdp : 0 ≤ d) (h : wJ6_numberOfTrailingZeros_0f7a4 v0 x K) : EW MJ6_numberOfTrailingZeros_0f7a4 0 [(0, .int v0)] [] (aS x) d bc bs (liP x K) := by
  unfold wJ6_numberOfTrailingZeros_0f7a4 at h
  refine EW_iload_n (pc2 := 1) rfl dJ6_numberOfTrailingZeros_0f7a4_0 0 rfl ?_
  refine EW_iconst (pc2 := 2) (v := (-1)) rfl dJ6_numberOfTrailingZeros_0f7a4_1 (by decide) ?_
  refine EW_ixor (pc2 := 3) rfl dJ6_numberOfTrailingZeros_0f7a4_2 ?_
  refine EW_iload_n (pc2 := 4) rfl dJ6_numberOfTrailingZeros_0f7a4_3 0 rfl ?_
  refine EW_iconst (pc2 := 5) (v := 1) rfl dJ6_numberOfTrailingZeros_0f7a4_4 (by decide) ?_
  refine EW_isub (pc2 := 6) rfl dJ6_numberOfTrailingZeros_0f7a4_5 ?_
  refine EW_iand (pc2 := 7) rfl dJ6_numberOfTrailingZeros_0f7a4_6 ?_
  refine EW_istore_n (pc2 := 8) rfl dJ6_numberOfTrailingZeros_0f7a4_7 (by decide) [0] [(0, .int ((v0 ^^^ (-1)) &&& (v0 - 1)))] rfl ?_
  refine EW_iload_n (pc2 := 9) rfl dJ6_numberOfTrailingZeros_0f7a4_8 0 rfl ?_
  refine EW_if_gt (tgt := 17) (pc2 := 12) rfl dJ6_numberOfTrailingZeros_0f7a4_9 (by decide) (fun q => ?_) (fun q => ?_)
  · replace h := h.1 q
    refine EW_iconst (pc2 := 18) (v := 1) rfl dJ6_numberOfTrailingZeros_0f7a4_17 (by decide) ?_
    refine EW_istore_n (pc2 := 19) rfl dJ6_numberOfTrailingZeros_0f7a4_18 (by decide) [1, 0] [(0, .int ((v0 ^^^ (-1)) &&& (v0 - 1))), (1, .int 1)] rfl ?_
    refine EW_iload_n (pc2 := 20) rfl dJ6_numberOfTrailingZeros_0f7a4_19 0 rfl ?_
    refine EW_ldcw cnRJ6_264 (pc2 := 23) rfl dJ6_numberOfTrailingZeros_0f7a4_20 ?_
    refine EW_icmp_le (tgt := 34) (pc2 := 26) rfl dJ6_numberOfTrailingZeros_0f7a4_23 (by decide) (fun q => ?_) (fun q => ?_)
    · replace h := h.1 q
      exact sJ6_numberOfTrailingZeros_0f7a4_34 ((v0 ^^^ (-1)) &&& (v0 - 1)) 1 x K d bc bs hdp h
    · replace h := h.2 q
      refine EW_iinc (1 + 16) (pc2 := 29) rfl dJ6_numberOfTrailingZeros_0f7a4_26 1 rfl rfl (by decide) [1, 0] [(0, .int ((v0 ^^^ (-1)) &&& (v0 - 1))), (1, .int (1 + 16))] rfl ?_
      refine EW_iload_n (pc2 := 30) rfl dJ6_numberOfTrailingZeros_0f7a4_29 0 rfl ?_
      refine EW_bipush (pc2 := 32) (v := 16) rfl dJ6_numberOfTrailingZeros_0f7a4_30 (by decide) ?_
      refine EW_iushr (pc2 := 33) (v := (iushr ((v0 ^^^ (-1)) &&& (v0 - 1)) 16)) rfl dJ6_numberOfTrailingZeros_0f7a4_32 rfl ?_
      refine EW_istore_n (pc2 := 34) rfl dJ6_numberOfTrailingZeros_0f7a4_33 (by decide) [0, 1] [(0, .int (iushr ((v0 ^^^ (-1)) &&& (v0 - 1)) 16)), (1, .int (1 + 16))] rfl ?_
      exact sJ6_numberOfTrailingZeros_0f7a4_34 (iushr ((v0 ^^^ (-1)) &&& (v0 - 1)) 16) (1 + 16) x K d bc bs hdp h
  · replace h := h.2 q
    refine EW_iload_n (pc2 := 13) rfl dJ6_numberOfTrailingZeros_0f7a4_12 0 rfl ?_
    refine EW_bipush (pc2 := 15) (v := 32) rfl dJ6_numberOfTrailingZeros_0f7a4_13 (by decide) ?_
    refine EW_iand (pc2 := 16) rfl dJ6_numberOfTrailingZeros_0f7a4_15 ?_
    exact AW_iret rfl dJ6_numberOfTrailingZeros_0f7a4_16 ⟨_, rfl, rfl, h⟩
abbrev MJ7_fill_53178 : ab_M := (yJ7_fill_53178, cJ7_fill_53178, 4, none)
theorem dJ7_fill_53178_0 : decode cJ7_fill_53178 0 = .ok (.iconst 0, 1) := by decide +kernel
theorem dJ7_fill_53178_1 : decode cJ7_fill_53178 1 = .ok (.istore_n 2, 1) := by decide +kernel
theorem dJ7_fill_53178_2 : decode cJ7_fill_53178 2 = .ok (.aload_n 0, 1) := by decide +kernel
theorem dJ7_fill_53178_3 : decode cJ7_fill_53178 3 = .ok (.arraylength, 1) := by decide +kernel
theorem dJ7_fill_53178_4 : decode cJ7_fill_53178 4 = .ok (.istore_n 3, 1) := by decide +kernel
theorem dJ7_fill_53178_5 : decode cJ7_fill_53178 5 = .ok (.iload_n 2, 1) := by decide +kernel
theorem dJ7_fill_53178_6 : decode cJ7_fill_53178 6 = .ok (.iload_n 3, 1) := by decide +kernel
theorem dJ7_fill_53178_7 : decode cJ7_fill_53178 7 = .ok (.if_icmp .ge 13, 3) := by decide +kernel
theorem dJ7_fill_53178_10 : decode cJ7_fill_53178 10 = .ok (.aload_n 0, 1) := by decide +kernel
theorem dJ7_fill_53178_11 : decode cJ7_fill_53178 11 = .ok (.iload_n 2, 1) := by decide +kernel
theorem dJ7_fill_53178_12 : decode cJ7_fill_53178 12 = .ok (.iload_n 1, 1) := by decide +kernel
theorem dJ7_fill_53178_13 : decode cJ7_fill_53178 13 = .ok (.iastore, 1) := by decide +kernel
theorem dJ7_fill_53178_14 : decode cJ7_fill_53178 14 = .ok (.iinc 2 1, 3) := by decide +kernel
theorem dJ7_fill_53178_17 : decode cJ7_fill_53178 17 = .ok (.goto (-12), 3) := by decide +kernel
theorem dJ7_fill_53178_20 : decode cJ7_fill_53178 20 = .ok (.return_, 1) := by decide +kernel
theorem okJ7_fill_53178 : ab_okM MJ7_fill_53178 2 := ⟨by decide, ⟨by decide, by decide⟩, ab_in 129 (by decide +kernel) (by decide +kernel), ab_in 88 (by decide +kernel) (by decide +kernel), by decide +kernel, by decide⟩
set_option maxHeartbeats 4000000 in
set_option maxRecDepth 100000 in
theorem sJ7_fill_53178_5 (v0 : Nat) (v0n : Nat) (v1 : Int32) (v2 : Int32) (v3 : Int32) (hv0n : isA v0 v0n) (x : ab_X) (K : ab_X → Prop)  (d bc bs : Nat) (hdp : 0 ≤ d)  (h : Lp2 (lJ7_fill_53178_5 v0 v0n v1 v3 K ) v2 x) : EW MJ7_fill_53178 5 [(0, .ref v0), (1, .int v1), (2, .int v2), (3, .int v3)] [] (aS x) d bc bs (liV K) := by
  refine Lp2.use (P := fun v2 x => EW MJ7_fill_53178 5 [(0, .ref v0), (1, .int v1), (2, .int v2), (3, .int v3)] [] (aS x) d bc bs (liV K)) (fun L5 v2 x hL5 h => ?_) v2 x h
  unfold lJ7_fill_53178_5 at h
  refine EW_iload_n (pc2 := 6) rfl dJ7_fill_53178_5 2 rfl ?_
  refine EW_iload_n (pc2 := 7) rfl dJ7_fill_53178_6 3 rfl ?_
  refine EW_icmp_ge (tgt := 20) (pc2 := 10) rfl dJ7_fill_53178_7 (by decide) (fun q => ?_) (fun q => ?_)
  · replace h := h.1 q
    exact EW_vret rfl dJ7_fill_53178_20 ⟨_, rfl, rfl, h⟩
  · replace h := h.2 q
    refine EW_aload_n (pc2 := 11) rfl dJ7_fill_53178_10 0 rfl ?_
    refine EW_iload_n (pc2 := 12) rfl dJ7_fill_53178_11 2 rfl ?_
    refine EW_iload_n (pc2 := 13) rfl dJ7_fill_53178_12 1 rfl ?_
    obtain ⟨b1, h⟩ := h
    refine AW_iast (pc2 := 14) rfl dJ7_fill_53178_13 hv0n b1 ?_
    refine EW_iinc (v2 + 1) (pc2 := 17) rfl dJ7_fill_53178_14 2 rfl rfl (by decide) [1, 2, 0, 3] [(0, .ref v0), (1, .int v1), (2, .int (v2 + 1)), (3, .int v3)] rfl ?_
    refine EW_goto (tgt := 5) dJ7_fill_53178_17 (by decide) ?_
    exact hL5 (v2 + 1) (wr x v0 (Int32.toNatClampNeg v2) v1) h
set_option maxHeartbeats 4000000 in
set_option maxRecDepth 100000 in
theorem sJ7_fill_53178 (v0 : Nat) (v0n : Nat) (v1 : Int32) (hv0n : isA v0 v0n) (x : ab_X) (K : ab_X → Prop) (d bc bs : Nat) (hdp : 0 ≤ d) (h : wJ7_fill_53178 v0 v0n v1 x K) : EW MJ7_fill_53178 0 [(0, .ref v0), (1, .int v1)] [] (aS x) d bc bs (liV K) := by
  unfold wJ7_fill_53178 at h
  refine EW_iconst (pc2 := 1) (v := 0) rfl dJ7_fill_53178_0 (by decide) ?_
  refine EW_istore_n (pc2 := 2) rfl dJ7_fill_53178_1 (by decide) [1, 2, 0] [(0, .ref v0), (1, .int v1), (2, .int 0)] rfl ?_
  refine EW_aload_n (pc2 := 3) rfl dJ7_fill_53178_2 0 rfl ?_
  refine AW_alen (t := 0) (by decide) (pc2 := 4) rfl dJ7_fill_53178_3 hv0n (v := (Int32.ofNat v0n)) rfl ?_
  refine EW_istore_n (pc2 := 5) rfl dJ7_fill_53178_4 (by decide) [1, 2, 3, 0] [(0, .ref v0), (1, .int v1), (2, .int 0), (3, .int (Int32.ofNat v0n))] rfl ?_
  exact sJ7_fill_53178_5 v0 v0n v1 0 (Int32.ofNat v0n) hv0n x K d bc bs hdp h
theorem gfRX2_30 : ab_L RX2 30 2 0 := ⟨by decide, by decide, ab_in 409 (by decide +kernel) (by decide +kernel)⟩
abbrev MX2_hasHose : ab_M := (yX2_hasHose, cX2_hasHose, 1, (some .boolean))
theorem dX2_hasHose_0 : decode cX2_hasHose 0 = .ok (.aload_n 0, 1) := by decide +kernel
theorem dX2_hasHose_1 : decode cX2_hasHose 1 = .ok (.getfield 30, 3) := by decide +kernel
theorem dX2_hasHose_4 : decode cX2_hasHose 4 = .ok (.ifCond .eq 11, 3) := by decide +kernel
theorem dX2_hasHose_7 : decode cX2_hasHose 7 = .ok (.aload_n 0, 1) := by decide +kernel
theorem dX2_hasHose_8 : decode cX2_hasHose 8 = .ok (.getfield 30, 3) := by decide +kernel
theorem dX2_hasHose_11 : decode cX2_hasHose 11 = .ok (.iconst 1, 1) := by decide +kernel
theorem dX2_hasHose_12 : decode cX2_hasHose 12 = .ok (.if_icmp .ne 7, 3) := by decide +kernel
theorem dX2_hasHose_15 : decode cX2_hasHose 15 = .ok (.iconst 1, 1) := by decide +kernel
theorem dX2_hasHose_16 : decode cX2_hasHose 16 = .ok (.goto 4, 3) := by decide +kernel
theorem dX2_hasHose_19 : decode cX2_hasHose 19 = .ok (.iconst 0, 1) := by decide +kernel
theorem dX2_hasHose_20 : decode cX2_hasHose 20 = .ok (.ireturn, 1) := by decide +kernel
theorem okX2_hasHose : ab_okM MX2_hasHose 0 := ⟨by decide, ⟨by decide, by decide⟩, ab_in 974 (by decide +kernel) (by decide +kernel), ab_in 94 (by decide +kernel) (by decide +kernel), by decide +kernel, by decide⟩
set_option maxHeartbeats 4000000 in
set_option maxRecDepth 100000 in
theorem sX2_hasHose (v0 : Nat) (hv0 : isW v0) (x : ab_X) (K : Int32 → Prop) (d bc bs : Nat) (hdp : 0 ≤ d) (h : wX2_hasHose v0 x K) : EW MX2_hasHose 0 [(0, .ref v0)] [] (aS x) d bc bs (liP x K) := by
  unfold wX2_hasHose at h
  refine EW_aload_n (pc2 := 1) rfl dX2_hasHose_0 0 rfl ?_
  refine AW_geti ⟨gfRX2_30, rfl⟩ (pc2 := 4) rfl dX2_hasHose_1 (isW.o hv0) ?_
  refine EW_if_eq (tgt := 15) (pc2 := 7) rfl dX2_hasHose_4 (by decide) (fun q => ?_) (fun q => ?_)
  · replace h := h.1 q
    refine EW_iconst (pc2 := 16) (v := 1) rfl dX2_hasHose_15 (by decide) ?_
    refine EW_goto (tgt := 20) dX2_hasHose_16 (by decide) ?_
    exact AW_zret rfl isB1 dX2_hasHose_20 ⟨_, rfl, rfl, h⟩
  · replace h := h.2 q
    refine EW_aload_n (pc2 := 8) rfl dX2_hasHose_7 0 rfl ?_
    refine AW_geti ⟨gfRX2_30, rfl⟩ (pc2 := 11) rfl dX2_hasHose_8 (isW.o hv0) ?_
    refine EW_iconst (pc2 := 12) (v := 1) rfl dX2_hasHose_11 (by decide) ?_
    refine EW_icmp_ne (tgt := 19) (pc2 := 15) rfl dX2_hasHose_12 (by decide) (fun q => ?_) (fun q => ?_)
    · replace h := h.1 q
      refine EW_iconst (pc2 := 20) (v := 0) rfl dX2_hasHose_19 (by decide) ?_
      exact AW_zret rfl isB0 dX2_hasHose_20 ⟨_, rfl, rfl, h⟩
    · replace h := h.2 q
      refine EW_iconst (pc2 := 16) (v := 1) rfl dX2_hasHose_15 (by decide) ?_
      refine EW_goto (tgt := 20) dX2_hasHose_16 (by decide) ?_
      exact AW_zret rfl isB1 dX2_hasHose_20 ⟨_, rfl, rfl, h⟩
theorem gfRX2_54 : ab_L RX2 54 2 6 := ⟨by decide, by decide, ab_in 422 (by decide +kernel) (by decide +kernel)⟩
theorem gfRX2_57 : ab_L RX2 57 2 7 := ⟨by decide, by decide, ab_in 425 (by decide +kernel) (by decide +kernel)⟩
theorem gfRX2_51 : ab_L RX2 51 2 5 := ⟨by decide, by decide, ab_in 419 (by decide +kernel) (by decide +kernel)⟩
theorem mlRX2_43 : Cond.methodLink RX2 43 yX2_hasHose ∈ ab_G ∧ Cond.instanceMethod yX2_hasHose ∈ ab_G ∧ Cond.selects RX2 yX2_hasHose yX2_hasHose ∈ ab_G := ⟨ab_in 971 (by decide +kernel) (by decide +kernel), ab_in 972 (by decide +kernel) (by decide +kernel), ab_in 973 (by decide +kernel) (by decide +kernel)⟩
abbrev MX2_beginGear : ab_M := (yX2_beginGear, cX2_beginGear, 1, none)
theorem dX2_beginGear_0 : decode cX2_beginGear 0 = .ok (.aload_n 0, 1) := by decide +kernel
theorem dX2_beginGear_1 : decode cX2_beginGear 1 = .ok (.aload_n 0, 1) := by decide +kernel
theorem dX2_beginGear_2 : decode cX2_beginGear 2 = .ok (.invokevirtual 43, 3) := by decide +kernel
theorem dX2_beginGear_5 : decode cX2_beginGear 5 = .ok (.ifCond .eq 8, 3) := by decide +kernel
theorem dX2_beginGear_8 : decode cX2_beginGear 8 = .ok (.bipush 100, 2) := by decide +kernel
theorem dX2_beginGear_10 : decode cX2_beginGear 10 = .ok (.goto 16, 3) := by decide +kernel
theorem dX2_beginGear_13 : decode cX2_beginGear 13 = .ok (.aload_n 0, 1) := by decide +kernel
theorem dX2_beginGear_14 : decode cX2_beginGear 14 = .ok (.getfield 30, 3) := by decide +kernel
theorem dX2_beginGear_17 : decode cX2_beginGear 17 = .ok (.iconst 2, 1) := by decide +kernel
theorem dX2_beginGear_18 : decode cX2_beginGear 18 = .ok (.if_icmp .ne 7, 3) := by decide +kernel
theorem dX2_beginGear_21 : decode cX2_beginGear 21 = .ok (.iconst 1, 1) := by decide +kernel
theorem dX2_beginGear_22 : decode cX2_beginGear 22 = .ok (.goto 4, 3) := by decide +kernel
theorem dX2_beginGear_25 : decode cX2_beginGear 25 = .ok (.iconst 0, 1) := by decide +kernel
theorem dX2_beginGear_26 : decode cX2_beginGear 26 = .ok (.putfield 51, 3) := by decide +kernel
theorem dX2_beginGear_29 : decode cX2_beginGear 29 = .ok (.aload_n 0, 1) := by decide +kernel
theorem dX2_beginGear_30 : decode cX2_beginGear 30 = .ok (.aload_n 0, 1) := by decide +kernel
theorem dX2_beginGear_31 : decode cX2_beginGear 31 = .ok (.invokevirtual 43, 3) := by decide +kernel
theorem dX2_beginGear_34 : decode cX2_beginGear 34 = .ok (.ifCond .eq 8, 3) := by decide +kernel
theorem dX2_beginGear_37 : decode cX2_beginGear 37 = .ok (.bipush 10, 2) := by decide +kernel
theorem dX2_beginGear_39 : decode cX2_beginGear 39 = .ok (.goto 4, 3) := by decide +kernel
theorem dX2_beginGear_42 : decode cX2_beginGear 42 = .ok (.iconst 0, 1) := by decide +kernel
theorem dX2_beginGear_43 : decode cX2_beginGear 43 = .ok (.putfield 54, 3) := by decide +kernel
theorem dX2_beginGear_46 : decode cX2_beginGear 46 = .ok (.aload_n 0, 1) := by decide +kernel
theorem dX2_beginGear_47 : decode cX2_beginGear 47 = .ok (.aload_n 0, 1) := by decide +kernel
theorem dX2_beginGear_48 : decode cX2_beginGear 48 = .ok (.getfield 30, 3) := by decide +kernel
theorem dX2_beginGear_51 : decode cX2_beginGear 51 = .ok (.iconst 1, 1) := by decide +kernel
theorem dX2_beginGear_52 : decode cX2_beginGear 52 = .ok (.if_icmp .ne 7, 3) := by decide +kernel
theorem dX2_beginGear_55 : decode cX2_beginGear 55 = .ok (.iconst 1, 1) := by decide +kernel
theorem dX2_beginGear_56 : decode cX2_beginGear 56 = .ok (.goto 4, 3) := by decide +kernel
theorem dX2_beginGear_59 : decode cX2_beginGear 59 = .ok (.iconst 0, 1) := by decide +kernel
theorem dX2_beginGear_60 : decode cX2_beginGear 60 = .ok (.putfield 57, 3) := by decide +kernel
theorem dX2_beginGear_63 : decode cX2_beginGear 63 = .ok (.return_, 1) := by decide +kernel
theorem okX2_beginGear : ab_okM MX2_beginGear 0 := ⟨by decide, ⟨by decide, by decide⟩, ab_in 970 (by decide +kernel) (by decide +kernel), ab_in 94 (by decide +kernel) (by decide +kernel), by decide +kernel, by decide⟩
set_option maxHeartbeats 4000000 in
set_option maxRecDepth 100000 in
theorem sX2_beginGear_43 (v0 : Nat) (s0 : Nat) (s1 : Int32) (hv0 : isW v0) (hs0 : isW s0) (x : ab_X) (K : ab_X → Prop)  (d bc bs : Nat) (hdp : 1 ≤ d)  (h : wX2_beginGear_43 v0 s0 s1 x K ) : EW MX2_beginGear 43 [(0, .ref v0)] [.int s1, .ref s0] (aS x) d bc bs (liV K) := by
  unfold wX2_beginGear_43 at h
  refine AW_puti ⟨gfRX2_54, rfl, rfl⟩ (pc2 := 46) rfl dX2_beginGear_43 (isW.o hs0) ?_
  refine EW_aload_n (pc2 := 47) rfl dX2_beginGear_46 0 rfl ?_
  refine EW_aload_n (pc2 := 48) rfl dX2_beginGear_47 0 rfl ?_
  refine AW_geti ⟨gfRX2_30, rfl⟩ (pc2 := 51) rfl dX2_beginGear_48 (isW.o hv0) ?_
  refine EW_iconst (pc2 := 52) (v := 1) rfl dX2_beginGear_51 (by decide) ?_
  refine EW_icmp_ne (tgt := 59) (pc2 := 55) rfl dX2_beginGear_52 (by decide) (fun q => ?_) (fun q => ?_)
  · replace h := h.1 q
    refine EW_iconst (pc2 := 60) (v := 0) rfl dX2_beginGear_59 (by decide) ?_
    refine AW_puti ⟨gfRX2_57, rfl, rfl⟩ (pc2 := 63) rfl dX2_beginGear_60 (isW.o hv0) ?_
    exact EW_vret rfl dX2_beginGear_63 ⟨_, rfl, rfl, h⟩
  · replace h := h.2 q
    refine EW_iconst (pc2 := 56) (v := 1) rfl dX2_beginGear_55 (by decide) ?_
    refine EW_goto (tgt := 60) dX2_beginGear_56 (by decide) ?_
    refine AW_puti ⟨gfRX2_57, rfl, rfl⟩ (pc2 := 63) rfl dX2_beginGear_60 (isW.o hv0) ?_
    exact EW_vret rfl dX2_beginGear_63 ⟨_, rfl, rfl, h⟩
set_option maxHeartbeats 4000000 in
set_option maxRecDepth 100000 in
theorem sX2_beginGear_26 (v0 : Nat) (s0 : Nat) (s1 : Int32) (hv0 : isW v0) (hs0 : isW s0) (x : ab_X) (K : ab_X → Prop)  (d bc bs : Nat) (hdp : 1 ≤ d)  (h : wX2_beginGear_26 v0 s0 s1 x K ) : EW MX2_beginGear 26 [(0, .ref v0)] [.int s1, .ref s0] (aS x) d bc bs (liV K) := by
  unfold wX2_beginGear_26 at h
  refine AW_puti ⟨gfRX2_51, rfl, rfl⟩ (pc2 := 29) rfl dX2_beginGear_26 (isW.o hs0) ?_
  refine EW_aload_n (pc2 := 30) rfl dX2_beginGear_29 0 rfl ?_
  refine EW_aload_n (pc2 := 31) rfl dX2_beginGear_30 0 rfl ?_
  refine AW_invV (M' := MX2_hasHose) [] (rest := [.ref v0]) mlRX2_43 okX2_hasHose (pc2 := 34) rfl dX2_beginGear_31 rfl rfl (Nat.le_of_ble_eq_true rfl) (Nat.le_of_ble_eq_true rfl) (d' := 0) (by omega) (isW.o hv0) ⟨by decide, rfl⟩ (EW_mono (fun _ _ hr => ?_) (sX2_hasHose v0 hv0 (wr x s0 5 s1) _ _ 0 0 (Nat.le_refl _) h))
  obtain ⟨r2, rfl, rfl, h⟩ := hr
  refine EW_if_eq (tgt := 42) (pc2 := 37) rfl dX2_beginGear_34 (by decide) (fun q => ?_) (fun q => ?_)
  · replace h := h.1 q
    refine EW_iconst (pc2 := 43) (v := 0) rfl dX2_beginGear_42 (by decide) ?_
    exact sX2_beginGear_43 v0 v0 0 hv0 hv0 (wr x s0 5 s1) K d bc bs hdp h
  · replace h := h.2 q
    refine EW_bipush (pc2 := 39) (v := 10) rfl dX2_beginGear_37 (by decide) ?_
    refine EW_goto (tgt := 43) dX2_beginGear_39 (by decide) ?_
    exact sX2_beginGear_43 v0 v0 10 hv0 hv0 (wr x s0 5 s1) K d bc bs hdp h
set_option maxHeartbeats 4000000 in
set_option maxRecDepth 100000 in
theorem sX2_beginGear (v0 : Nat) (hv0 : isW v0) (x : ab_X) (K : ab_X → Prop) (d bc bs : Nat) (hdp : 1 ≤ d) (h : wX2_beginGear v0 x K) : EW MX2_beginGear 0 [(0, .ref v0)] [] (aS x) d bc bs (liV K) := by
  unfold wX2_beginGear at h
  refine EW_aload_n (pc2 := 1) rfl dX2_beginGear_0 0 rfl ?_
  refine EW_aload_n (pc2 := 2) rfl dX2_beginGear_1 0 rfl ?_
  refine AW_invV (M' := MX2_hasHose) [] (rest := [.ref v0]) mlRX2_43 okX2_hasHose (pc2 := 5) rfl dX2_beginGear_2 rfl rfl (Nat.le_of_ble_eq_true rfl) (Nat.le_of_ble_eq_true rfl) (d' := 0) (by omega) (isW.o hv0) ⟨by decide, rfl⟩ (EW_mono (fun _ _ hr => ?_) (sX2_hasHose v0 hv0 x _ _ 0 0 (Nat.le_refl _) h))
  obtain ⟨r1, rfl, rfl, h⟩ := hr
  refine EW_if_eq (tgt := 13) (pc2 := 8) rfl dX2_beginGear_5 (by decide) (fun q => ?_) (fun q => ?_)
  · replace h := h.1 q
    refine EW_aload_n (pc2 := 14) rfl dX2_beginGear_13 0 rfl ?_
    refine AW_geti ⟨gfRX2_30, rfl⟩ (pc2 := 17) rfl dX2_beginGear_14 (isW.o hv0) ?_
    refine EW_iconst (pc2 := 18) (v := 2) rfl dX2_beginGear_17 (by decide) ?_
    refine EW_icmp_ne (tgt := 25) (pc2 := 21) rfl dX2_beginGear_18 (by decide) (fun q => ?_) (fun q => ?_)
    · replace h := h.1 q
      refine EW_iconst (pc2 := 26) (v := 0) rfl dX2_beginGear_25 (by decide) ?_
      exact sX2_beginGear_26 v0 v0 0 hv0 hv0 x K d bc bs hdp h
    · replace h := h.2 q
      refine EW_iconst (pc2 := 22) (v := 1) rfl dX2_beginGear_21 (by decide) ?_
      refine EW_goto (tgt := 26) dX2_beginGear_22 (by decide) ?_
      exact sX2_beginGear_26 v0 v0 1 hv0 hv0 x K d bc bs hdp h
  · replace h := h.2 q
    refine EW_bipush (pc2 := 10) (v := 100) rfl dX2_beginGear_8 (by decide) ?_
    refine EW_goto (tgt := 26) dX2_beginGear_10 (by decide) ?_
    exact sX2_beginGear_26 v0 v0 100 hv0 hv0 x K d bc bs hdp h
theorem gfRX0_11 : ab_L RX0 11 0 2 := ⟨by decide, by decide, ab_in 545 (by decide +kernel) (by decide +kernel)⟩
theorem gfRX0_55 : ab_L RX0 55 0 3 := ⟨by decide, by decide, ab_in 547 (by decide +kernel) (by decide +kernel)⟩
theorem gfRX0_63 : ab_L RX0 63 2 0 := ⟨by decide, by decide, ab_in 410 (by decide +kernel) (by decide +kernel)⟩
theorem gfRX0_66 : ab_L RX0 66 2 1 := ⟨by decide, by decide, ab_in 411 (by decide +kernel) (by decide +kernel)⟩
theorem gfRX0_69 : ab_L RX0 69 2 9 := ⟨by decide, by decide, ab_in 431 (by decide +kernel) (by decide +kernel)⟩
theorem mlRX0_72 : Cond.methodLink RX0 72 yX2_beginGear ∈ ab_G ∧ Cond.instanceMethod yX2_beginGear ∈ ab_G ∧ Cond.selects RX2 yX2_beginGear yX2_beginGear ∈ ab_G := ⟨ab_in 967 (by decide +kernel) (by decide +kernel), ab_in 968 (by decide +kernel) (by decide +kernel), ab_in 969 (by decide +kernel) (by decide +kernel)⟩
abbrev MX0_addCrew : ab_M := (yX0_addCrew, cX0_addCrew, 4, (some .int))
theorem dX0_addCrew_0 : decode cX0_addCrew 0 = .ok (.aload_n 0, 1) := by decide +kernel
theorem dX0_addCrew_1 : decode cX0_addCrew 1 = .ok (.getfield 11, 3) := by decide +kernel
theorem dX0_addCrew_4 : decode cX0_addCrew 4 = .ok (.aload_n 0, 1) := by decide +kernel
theorem dX0_addCrew_5 : decode cX0_addCrew 5 = .ok (.getfield 55, 3) := by decide +kernel
theorem dX0_addCrew_8 : decode cX0_addCrew 8 = .ok (.aaload, 1) := by decide +kernel
theorem dX0_addCrew_9 : decode cX0_addCrew 9 = .ok (.astore_n 3, 1) := by decide +kernel
theorem dX0_addCrew_10 : decode cX0_addCrew 10 = .ok (.aload_n 3, 1) := by decide +kernel
theorem dX0_addCrew_11 : decode cX0_addCrew 11 = .ok (.iload_n 1, 1) := by decide +kernel
theorem dX0_addCrew_12 : decode cX0_addCrew 12 = .ok (.putfield 63, 3) := by decide +kernel
theorem dX0_addCrew_15 : decode cX0_addCrew 15 = .ok (.aload_n 3, 1) := by decide +kernel
theorem dX0_addCrew_16 : decode cX0_addCrew 16 = .ok (.iload_n 2, 1) := by decide +kernel
theorem dX0_addCrew_17 : decode cX0_addCrew 17 = .ok (.putfield 66, 3) := by decide +kernel
theorem dX0_addCrew_20 : decode cX0_addCrew 20 = .ok (.aload_n 3, 1) := by decide +kernel
theorem dX0_addCrew_21 : decode cX0_addCrew 21 = .ok (.iload_n 2, 1) := by decide +kernel
theorem dX0_addCrew_22 : decode cX0_addCrew 22 = .ok (.putfield 69, 3) := by decide +kernel
theorem dX0_addCrew_25 : decode cX0_addCrew 25 = .ok (.aload_n 3, 1) := by decide +kernel
theorem dX0_addCrew_26 : decode cX0_addCrew 26 = .ok (.invokevirtual 72, 3) := by decide +kernel
theorem dX0_addCrew_29 : decode cX0_addCrew 29 = .ok (.aload_n 0, 1) := by decide +kernel
theorem dX0_addCrew_30 : decode cX0_addCrew 30 = .ok (.dup, 1) := by decide +kernel
theorem dX0_addCrew_31 : decode cX0_addCrew 31 = .ok (.getfield 55, 3) := by decide +kernel
theorem dX0_addCrew_34 : decode cX0_addCrew 34 = .ok (.iconst 1, 1) := by decide +kernel
theorem dX0_addCrew_35 : decode cX0_addCrew 35 = .ok (.iadd, 1) := by decide +kernel
theorem dX0_addCrew_36 : decode cX0_addCrew 36 = .ok (.putfield 55, 3) := by decide +kernel
theorem dX0_addCrew_39 : decode cX0_addCrew 39 = .ok (.aload_n 0, 1) := by decide +kernel
theorem dX0_addCrew_40 : decode cX0_addCrew 40 = .ok (.getfield 55, 3) := by decide +kernel
theorem dX0_addCrew_43 : decode cX0_addCrew 43 = .ok (.iconst 1, 1) := by decide +kernel
theorem dX0_addCrew_44 : decode cX0_addCrew 44 = .ok (.isub, 1) := by decide +kernel
theorem dX0_addCrew_45 : decode cX0_addCrew 45 = .ok (.ireturn, 1) := by decide +kernel
theorem okX0_addCrew : ab_okM MX0_addCrew 2 := ⟨by decide, ⟨by decide, by decide⟩, ab_in 966 (by decide +kernel) (by decide +kernel), ab_in 92 (by decide +kernel) (by decide +kernel), by decide +kernel, by decide⟩
set_option maxHeartbeats 4000000 in
set_option maxRecDepth 100000 in
theorem sX0_addCrew (v1 : Int32) (v2 : Int32)  (x : ab_X) (K : Int32 → ab_X → Prop) (d bc bs : Nat) (hdp : 2 ≤ d) (h : wX0_addCrew v1 v2 x K) : EW MX0_addCrew 0 [(0, .ref 66), (1, .int v1), (2, .int v2)] [] (aS x) d bc bs (liI K) := by
  unfold wX0_addCrew at h
  refine EW_aload_n (pc2 := 1) rfl dX0_addCrew_0 0 rfl ?_
  refine AW_getr (r := 67) ⟨gfRX0_11, rfl⟩ (pc2 := 4) rfl dX0_addCrew_1 q66 rfl ?_
  refine EW_aload_n (pc2 := 5) rfl dX0_addCrew_4 0 rfl ?_
  refine AW_geti ⟨gfRX0_55, rfl⟩ (pc2 := 8) rfl dX0_addCrew_5 q66 ?_
  obtain ⟨b1, h⟩ := h
  refine AW_aald6 (pc2 := 9) rfl dX0_addCrew_8 b1 ?_
  refine EW_astore_n (pc2 := 10) rfl dX0_addCrew_9 (by decide) [1, 2, 3, 0] [(0, .ref 66), (1, .int v1), (2, .int v2), (3, .ref (82 + Int32.toNatClampNeg (x.1 66 3)))] rfl ?_
  refine EW_aload_n (pc2 := 11) rfl dX0_addCrew_10 3 rfl ?_
  refine EW_iload_n (pc2 := 12) rfl dX0_addCrew_11 1 rfl ?_
  refine AW_puti ⟨gfRX0_63, rfl, rfl⟩ (pc2 := 15) rfl dX0_addCrew_12 (isW.o (isW_of b1)) ?_
  refine EW_aload_n (pc2 := 16) rfl dX0_addCrew_15 3 rfl ?_
  refine EW_iload_n (pc2 := 17) rfl dX0_addCrew_16 2 rfl ?_
  refine AW_puti ⟨gfRX0_66, rfl, rfl⟩ (pc2 := 20) rfl dX0_addCrew_17 (isW.o (isW_of b1)) ?_
  refine EW_aload_n (pc2 := 21) rfl dX0_addCrew_20 3 rfl ?_
  refine EW_iload_n (pc2 := 22) rfl dX0_addCrew_21 2 rfl ?_
  refine AW_puti ⟨gfRX0_69, rfl, rfl⟩ (pc2 := 25) rfl dX0_addCrew_22 (isW.o (isW_of b1)) ?_
  refine EW_aload_n (pc2 := 26) rfl dX0_addCrew_25 3 rfl ?_
  refine AW_invV (M' := MX2_beginGear) [] (rest := []) mlRX0_72 okX2_beginGear (pc2 := 29) rfl dX0_addCrew_26 rfl rfl (Nat.le_of_ble_eq_true rfl) (Nat.le_of_ble_eq_true rfl) (d' := 1) (by omega) (isW.o (isW_of b1)) ⟨by decide, rfl⟩ (EW_mono (fun _ _ hr => ?_) (sX2_beginGear (82 + Int32.toNatClampNeg (x.1 66 3)) (isW_of b1) (wr (wr (wr x (82 + Int32.toNatClampNeg (x.1 66 3)) 0 v1) (82 + Int32.toNatClampNeg (x.1 66 3)) 1 v2) (82 + Int32.toNatClampNeg (x.1 66 3)) 9 v2) _ _ 0 0 (Nat.le_refl _) h))
  obtain ⟨x2, rfl, rfl, h⟩ := hr
  refine EW_aload_n (pc2 := 30) rfl dX0_addCrew_29 0 rfl ?_
  refine EW_dup (pc2 := 31) rfl dX0_addCrew_30 rfl ?_
  refine AW_geti ⟨gfRX0_55, rfl⟩ (pc2 := 34) rfl dX0_addCrew_31 q66 ?_
  refine EW_iconst (pc2 := 35) (v := 1) rfl dX0_addCrew_34 (by decide) ?_
  refine EW_iadd (pc2 := 36) rfl dX0_addCrew_35 ?_
  refine AW_puti ⟨gfRX0_55, rfl, rfl⟩ (pc2 := 39) rfl dX0_addCrew_36 q66 ?_
  refine EW_aload_n (pc2 := 40) rfl dX0_addCrew_39 0 rfl ?_
  refine AW_geti ⟨gfRX0_55, rfl⟩ (pc2 := 43) rfl dX0_addCrew_40 q66 ?_
  refine EW_iconst (pc2 := 44) (v := 1) rfl dX0_addCrew_43 (by decide) ?_
  refine EW_isub (pc2 := 45) rfl dX0_addCrew_44 ?_
  exact AW_iret rfl dX0_addCrew_45 ⟨_, _, rfl, rfl, h⟩
theorem gfRX3_9 : ab_L RX3 9 3 0 := ⟨by decide, by decide, ab_in 175 (by decide +kernel) (by decide +kernel)⟩
theorem gfRX3_15 : ab_L RX3 15 3 1 := ⟨by decide, by decide, ab_in 178 (by decide +kernel) (by decide +kernel)⟩
abbrev MX3_burns : ab_M := (yX3_burns, cX3_burns, 2, (some .boolean))
theorem dX3_burns_0 : decode cX3_burns 0 = .ok (.aload_n 0, 1) := by decide +kernel
theorem dX3_burns_1 : decode cX3_burns 1 = .ok (.getfield 9, 3) := by decide +kernel
theorem dX3_burns_4 : decode cX3_burns 4 = .ok (.iload_n 1, 1) := by decide +kernel
theorem dX3_burns_5 : decode cX3_burns 5 = .ok (.iaload, 1) := by decide +kernel
theorem dX3_burns_6 : decode cX3_burns 6 = .ok (.sipush 300, 3) := by decide +kernel
theorem dX3_burns_9 : decode cX3_burns 9 = .ok (.if_icmp .lt 16, 3) := by decide +kernel
theorem dX3_burns_12 : decode cX3_burns 12 = .ok (.aload_n 0, 1) := by decide +kernel
theorem dX3_burns_13 : decode cX3_burns 13 = .ok (.getfield 15, 3) := by decide +kernel
theorem dX3_burns_16 : decode cX3_burns 16 = .ok (.iload_n 1, 1) := by decide +kernel
theorem dX3_burns_17 : decode cX3_burns 17 = .ok (.iaload, 1) := by decide +kernel
theorem dX3_burns_18 : decode cX3_burns 18 = .ok (.ifCond .le 7, 3) := by decide +kernel
theorem dX3_burns_21 : decode cX3_burns 21 = .ok (.iconst 1, 1) := by decide +kernel
theorem dX3_burns_22 : decode cX3_burns 22 = .ok (.goto 4, 3) := by decide +kernel
theorem dX3_burns_25 : decode cX3_burns 25 = .ok (.iconst 0, 1) := by decide +kernel
theorem dX3_burns_26 : decode cX3_burns 26 = .ok (.ireturn, 1) := by decide +kernel
theorem okX3_burns : ab_okM MX3_burns 1 := ⟨by decide, ⟨by decide, by decide⟩, ab_in 890 (by decide +kernel) (by decide +kernel), ab_in 90 (by decide +kernel) (by decide +kernel), by decide +kernel, by decide⟩
set_option maxHeartbeats 4000000 in
set_option maxRecDepth 100000 in
theorem sX3_burns (v0 : Nat) (v1 : Int32) (hv0 : isF v0) (x : ab_X) (K : Int32 → Prop) (d bc bs : Nat) (hdp : 0 ≤ d) (h : wX3_burns v0 v1 x K) : EW MX3_burns 0 [(0, .ref v0), (1, .int v1)] [] (aS x) d bc bs (liP x K) := by
  unfold wX3_burns at h
  refine EW_aload_n (pc2 := 1) rfl dX3_burns_0 0 rfl ?_
  refine AW_getr (r := (v0 + 1)) ⟨gfRX3_9, rfl⟩ (pc2 := 4) rfl dX3_burns_1 (isF.o hv0) (isF.r0 hv0) ?_
  refine EW_iload_n (pc2 := 5) rfl dX3_burns_4 1 rfl ?_
  obtain ⟨b1, h⟩ := h
  refine AW_iald (pc2 := 6) rfl dX3_burns_5 (isF.a0 hv0) b1 ?_
  refine EW_sipush (pc2 := 9) (v := 300) rfl dX3_burns_6 (by decide) ?_
  refine EW_icmp_lt (tgt := 25) (pc2 := 12) rfl dX3_burns_9 (by decide) (fun q => ?_) (fun q => ?_)
  · replace h := h.1 q
    refine EW_iconst (pc2 := 26) (v := 0) rfl dX3_burns_25 (by decide) ?_
    exact AW_zret rfl isB0 dX3_burns_26 ⟨_, rfl, rfl, h⟩
  · replace h := h.2 q
    refine EW_aload_n (pc2 := 13) rfl dX3_burns_12 0 rfl ?_
    refine AW_getr (r := (v0 + 2)) ⟨gfRX3_15, rfl⟩ (pc2 := 16) rfl dX3_burns_13 (isF.o hv0) (isF.r1 hv0) ?_
    refine EW_iload_n (pc2 := 17) rfl dX3_burns_16 1 rfl ?_
    obtain ⟨b2, h⟩ := h
    refine AW_iald (pc2 := 18) rfl dX3_burns_17 (isF.a1 hv0) b2 ?_
    refine EW_if_le (tgt := 25) (pc2 := 21) rfl dX3_burns_18 (by decide) (fun q => ?_) (fun q => ?_)
    · replace h := h.1 q
      refine EW_iconst (pc2 := 26) (v := 0) rfl dX3_burns_25 (by decide) ?_
      exact AW_zret rfl isB0 dX3_burns_26 ⟨_, rfl, rfl, h⟩
    · replace h := h.2 q
      refine EW_iconst (pc2 := 22) (v := 1) rfl dX3_burns_21 (by decide) ?_
      refine EW_goto (tgt := 26) dX3_burns_22 (by decide) ?_
      exact AW_zret rfl isB1 dX3_burns_26 ⟨_, rfl, rfl, h⟩
theorem gfRX4_37 : ab_L RX4 37 4 0 := ⟨by decide, by decide, ab_in 213 (by decide +kernel) (by decide +kernel)⟩
abbrev MX4_place : ab_M := (yX4_place, cX4_place, 2, (some .int))
theorem dX4_place_0 : decode cX4_place 0 = .ok (.aload_n 0, 1) := by decide +kernel
theorem dX4_place_1 : decode cX4_place 1 = .ok (.getfield 37, 3) := by decide +kernel
theorem dX4_place_4 : decode cX4_place 4 = .ok (.bipush 24, 2) := by decide +kernel
theorem dX4_place_6 : decode cX4_place 6 = .ok (.imul, 1) := by decide +kernel
theorem dX4_place_7 : decode cX4_place 7 = .ok (.iload_n 1, 1) := by decide +kernel
theorem dX4_place_8 : decode cX4_place 8 = .ok (.iadd, 1) := by decide +kernel
theorem dX4_place_9 : decode cX4_place 9 = .ok (.ireturn, 1) := by decide +kernel
theorem okX4_place : ab_okM MX4_place 1 := ⟨by decide, ⟨by decide, by decide⟩, ab_in 874 (by decide +kernel) (by decide +kernel), ab_in 91 (by decide +kernel) (by decide +kernel), by decide +kernel, by decide⟩
set_option maxHeartbeats 4000000 in
set_option maxRecDepth 100000 in
theorem sX4_place (v0 : Nat) (v1 : Int32) (hv0 : isH v0) (x : ab_X) (K : Int32 → Prop) (d bc bs : Nat) (hdp : 0 ≤ d) (h : wX4_place v0 v1 x K) : EW MX4_place 0 [(0, .ref v0), (1, .int v1)] [] (aS x) d bc bs (liP x K) := by
  unfold wX4_place at h
  refine EW_aload_n (pc2 := 1) rfl dX4_place_0 0 rfl ?_
  refine AW_geti ⟨gfRX4_37, rfl⟩ (pc2 := 4) rfl dX4_place_1 (isH.o hv0) ?_
  refine EW_bipush (pc2 := 6) (v := 24) rfl dX4_place_4 (by decide) ?_
  refine EW_imul (pc2 := 7) rfl dX4_place_6 ?_
  refine EW_iload_n (pc2 := 8) rfl dX4_place_7 1 rfl ?_
  refine EW_iadd (pc2 := 9) rfl dX4_place_8 ?_
  exact AW_iret rfl dX4_place_9 ⟨_, rfl, rfl, h⟩
theorem gfRX3_56 : ab_L RX3 56 4 3 := ⟨by decide, by decide, ab_in 226 (by decide +kernel) (by decide +kernel)⟩
theorem gfRX3_60 : ab_L RX3 60 4 4 := ⟨by decide, by decide, ab_in 232 (by decide +kernel) (by decide +kernel)⟩
theorem mlRX3_63 : Cond.methodLink RX3 63 yX4_place ∈ ab_G ∧ Cond.instanceMethod yX4_place ∈ ab_G ∧ Cond.selects RX4 yX4_place yX4_place ∈ ab_G := ⟨ab_in 871 (by decide +kernel) (by decide +kernel), ab_in 872 (by decide +kernel) (by decide +kernel), ab_in 873 (by decide +kernel) (by decide +kernel)⟩
theorem mlRX3_66 : Cond.methodLink RX3 66 yX3_burns ∈ ab_G ∧ Cond.instanceMethod yX3_burns ∈ ab_G ∧ Cond.selects RX3 yX3_burns yX3_burns ∈ ab_G := ⟨ab_in 887 (by decide +kernel) (by decide +kernel), ab_in 888 (by decide +kernel) (by decide +kernel), ab_in 889 (by decide +kernel) (by decide +kernel)⟩
theorem gfRX3_34 : ab_L RX3 34 3 7 := ⟨by decide, by decide, ab_in 188 (by decide +kernel) (by decide +kernel)⟩
abbrev MX3_burningRooms : ab_M := (yX3_burningRooms, cX3_burningRooms, 4, (some .int))
theorem dX3_burningRooms_0 : decode cX3_burningRooms 0 = .ok (.iconst 0, 1) := by decide +kernel
theorem dX3_burningRooms_1 : decode cX3_burningRooms 1 = .ok (.istore_n 2, 1) := by decide +kernel
theorem dX3_burningRooms_2 : decode cX3_burningRooms 2 = .ok (.aload_n 0, 1) := by decide +kernel
theorem dX3_burningRooms_3 : decode cX3_burningRooms 3 = .ok (.getfield 34, 3) := by decide +kernel
theorem dX3_burningRooms_6 : decode cX3_burningRooms 6 = .ok (.ifCond .ne 44, 3) := by decide +kernel
theorem dX3_burningRooms_9 : decode cX3_burningRooms 9 = .ok (.iconst 0, 1) := by decide +kernel
theorem dX3_burningRooms_10 : decode cX3_burningRooms 10 = .ok (.istore_n 3, 1) := by decide +kernel
theorem dX3_burningRooms_11 : decode cX3_burningRooms 11 = .ok (.iload_n 3, 1) := by decide +kernel
theorem dX3_burningRooms_12 : decode cX3_burningRooms 12 = .ok (.aload_n 1, 1) := by decide +kernel
theorem dX3_burningRooms_13 : decode cX3_burningRooms 13 = .ok (.getfield 56, 3) := by decide +kernel
theorem dX3_burningRooms_16 : decode cX3_burningRooms 16 = .ok (.aload_n 1, 1) := by decide +kernel
theorem dX3_burningRooms_17 : decode cX3_burningRooms 17 = .ok (.getfield 60, 3) := by decide +kernel
theorem dX3_burningRooms_20 : decode cX3_burningRooms 20 = .ok (.imul, 1) := by decide +kernel
theorem dX3_burningRooms_21 : decode cX3_burningRooms 21 = .ok (.if_icmp .ge 29, 3) := by decide +kernel
theorem dX3_burningRooms_24 : decode cX3_burningRooms 24 = .ok (.iload_n 2, 1) := by decide +kernel
theorem dX3_burningRooms_25 : decode cX3_burningRooms 25 = .ok (.aload_n 0, 1) := by decide +kernel
theorem dX3_burningRooms_26 : decode cX3_burningRooms 26 = .ok (.aload_n 1, 1) := by decide +kernel
theorem dX3_burningRooms_27 : decode cX3_burningRooms 27 = .ok (.iload_n 3, 1) := by decide +kernel
theorem dX3_burningRooms_28 : decode cX3_burningRooms 28 = .ok (.invokevirtual 63, 3) := by decide +kernel
theorem dX3_burningRooms_31 : decode cX3_burningRooms 31 = .ok (.invokevirtual 66, 3) := by decide +kernel
theorem dX3_burningRooms_34 : decode cX3_burningRooms 34 = .ok (.ifCond .eq 7, 3) := by decide +kernel
theorem dX3_burningRooms_37 : decode cX3_burningRooms 37 = .ok (.iconst 1, 1) := by decide +kernel
theorem dX3_burningRooms_38 : decode cX3_burningRooms 38 = .ok (.goto 4, 3) := by decide +kernel
theorem dX3_burningRooms_41 : decode cX3_burningRooms 41 = .ok (.iconst 0, 1) := by decide +kernel
theorem dX3_burningRooms_42 : decode cX3_burningRooms 42 = .ok (.iadd, 1) := by decide +kernel
theorem dX3_burningRooms_43 : decode cX3_burningRooms 43 = .ok (.istore_n 2, 1) := by decide +kernel
theorem dX3_burningRooms_44 : decode cX3_burningRooms 44 = .ok (.iinc 3 1, 3) := by decide +kernel
theorem dX3_burningRooms_47 : decode cX3_burningRooms 47 = .ok (.goto (-36), 3) := by decide +kernel
theorem dX3_burningRooms_50 : decode cX3_burningRooms 50 = .ok (.iload_n 2, 1) := by decide +kernel
theorem dX3_burningRooms_51 : decode cX3_burningRooms 51 = .ok (.ireturn, 1) := by decide +kernel
theorem okX3_burningRooms : ab_okM MX3_burningRooms 1 := ⟨by decide, ⟨by decide, by decide⟩, ab_in 886 (by decide +kernel) (by decide +kernel), ab_in 90 (by decide +kernel) (by decide +kernel), by decide +kernel, by decide⟩
set_option maxHeartbeats 4000000 in
set_option maxRecDepth 100000 in
theorem sX3_burningRooms_42 (v0 : Nat) (v1 : Nat) (v3 : Int32) (s0 : Int32) (s1 : Int32) (hv0 : isF v0) (hv1 : isH v1) (x : ab_X) (K : Int32 → Prop) (L11 : Int32 → Int32 → Prop) (d bc bs : Nat) (hdp : 1 ≤ d) (hL11 : ∀ (v2 : Int32) (v3 : Int32), L11 v2 v3 → EW MX3_burningRooms 11 [(0, .ref v0), (1, .ref v1), (2, .int v2), (3, .int v3)] [] (aS x) d bc bs (liP x K)) (h : wX3_burningRooms_42 v0 v1 v3 s0 s1 x K L11) : EW MX3_burningRooms 42 [(0, .ref v0), (1, .ref v1), (3, .int v3)] [.int s1, .int s0] (aS x) d bc bs (liP x K) := by
  unfold wX3_burningRooms_42 at h
  refine EW_iadd (pc2 := 43) rfl dX3_burningRooms_42 ?_
  refine EW_istore_n (pc2 := 44) rfl dX3_burningRooms_43 (by decide) [1, 2, 0, 3] [(0, .ref v0), (1, .ref v1), (2, .int (s0 + s1)), (3, .int v3)] rfl ?_
  refine EW_iinc (v3 + 1) (pc2 := 47) rfl dX3_burningRooms_44 3 rfl rfl (by decide) [1, 2, 3, 0] [(0, .ref v0), (1, .ref v1), (2, .int (s0 + s1)), (3, .int (v3 + 1))] rfl ?_
  refine EW_goto (tgt := 11) dX3_burningRooms_47 (by decide) ?_
  exact hL11 (s0 + s1) (v3 + 1) h
set_option maxHeartbeats 4000000 in
set_option maxRecDepth 100000 in
theorem sX3_burningRooms_11 (v0 : Nat) (v1 : Nat) (v2 : Int32) (v3 : Int32) (hv0 : isF v0) (hv1 : isH v1) (x : ab_X) (K : Int32 → Prop)  (d bc bs : Nat) (hdp : 1 ≤ d)  (h : Lp2 (lX3_burningRooms_11 v0 v1 x K ) v2 v3) : EW MX3_burningRooms 11 [(0, .ref v0), (1, .ref v1), (2, .int v2), (3, .int v3)] [] (aS x) d bc bs (liP x K) := by
  refine Lp2.use (P := fun v2 v3 => EW MX3_burningRooms 11 [(0, .ref v0), (1, .ref v1), (2, .int v2), (3, .int v3)] [] (aS x) d bc bs (liP x K)) (fun L11 v2 v3 hL11 h => ?_) v2 v3 h
  unfold lX3_burningRooms_11 at h
  refine EW_iload_n (pc2 := 12) rfl dX3_burningRooms_11 3 rfl ?_
  refine EW_aload_n (pc2 := 13) rfl dX3_burningRooms_12 1 rfl ?_
  refine AW_geti ⟨gfRX3_56, rfl⟩ (pc2 := 16) rfl dX3_burningRooms_13 (isH.o hv1) ?_
  refine EW_aload_n (pc2 := 17) rfl dX3_burningRooms_16 1 rfl ?_
  refine AW_geti ⟨gfRX3_60, rfl⟩ (pc2 := 20) rfl dX3_burningRooms_17 (isH.o hv1) ?_
  refine EW_imul (pc2 := 21) rfl dX3_burningRooms_20 ?_
  refine EW_icmp_ge (tgt := 50) (pc2 := 24) rfl dX3_burningRooms_21 (by decide) (fun q => ?_) (fun q => ?_)
  · replace h := h.1 q
    refine EW_iload_n (pc2 := 51) rfl dX3_burningRooms_50 2 rfl ?_
    exact AW_iret rfl dX3_burningRooms_51 ⟨_, rfl, rfl, h⟩
  · replace h := h.2 q
    refine EW_iload_n (pc2 := 25) rfl dX3_burningRooms_24 2 rfl ?_
    refine EW_aload_n (pc2 := 26) rfl dX3_burningRooms_25 0 rfl ?_
    refine EW_aload_n (pc2 := 27) rfl dX3_burningRooms_26 1 rfl ?_
    refine EW_iload_n (pc2 := 28) rfl dX3_burningRooms_27 3 rfl ?_
    refine AW_invV (M' := MX4_place) [.int v3] (rest := [.ref v0, .int v2]) mlRX3_63 okX4_place (pc2 := 31) rfl dX3_burningRooms_28 rfl rfl (Nat.le_of_ble_eq_true rfl) (Nat.le_of_ble_eq_true rfl) (d' := 0) (by omega) (isH.o hv1) ⟨by decide, rfl⟩ (EW_mono (fun _ _ hr => ?_) (sX4_place v1 v3 hv1 x _ _ 0 0 (Nat.le_refl _) h))
    obtain ⟨r1, rfl, rfl, h⟩ := hr
    refine AW_invV (M' := MX3_burns) [.int r1] (rest := [.int v2]) mlRX3_66 okX3_burns (pc2 := 34) rfl dX3_burningRooms_31 rfl rfl (Nat.le_of_ble_eq_true rfl) (Nat.le_of_ble_eq_true rfl) (d' := 0) (by omega) (isF.o hv0) ⟨by decide, rfl⟩ (EW_mono (fun _ _ hr => ?_) (sX3_burns v0 r1 hv0 x _ _ 0 0 (Nat.le_refl _) h))
    obtain ⟨r2, rfl, rfl, h⟩ := hr
    refine EW_if_eq (tgt := 41) (pc2 := 37) rfl dX3_burningRooms_34 (by decide) (fun q => ?_) (fun q => ?_)
    · replace h := h.1 q
      refine EW_iconst (pc2 := 42) (v := 0) rfl dX3_burningRooms_41 (by decide) ?_
      refine EW_ls [0, 1, 3] rfl ?_
      exact sX3_burningRooms_42 v0 v1 v3 v2 0 hv0 hv1 x K L11 d bc bs hdp hL11 h
    · replace h := h.2 q
      refine EW_iconst (pc2 := 38) (v := 1) rfl dX3_burningRooms_37 (by decide) ?_
      refine EW_goto (tgt := 42) dX3_burningRooms_38 (by decide) ?_
      refine EW_ls [0, 1, 3] rfl ?_
      exact sX3_burningRooms_42 v0 v1 v3 v2 1 hv0 hv1 x K L11 d bc bs hdp hL11 h
set_option maxHeartbeats 4000000 in
set_option maxRecDepth 100000 in
theorem sX3_burningRooms (v0 : Nat) (v1 : Nat) (hv0 : isF v0) (hv1 : isH v1) (x : ab_X) (K : Int32 → Prop) (d bc bs : Nat) (hdp : 1 ≤ d) (h : wX3_burningRooms v0 v1 x K) : EW MX3_burningRooms 0 [(0, .ref v0), (1, .ref v1)] [] (aS x) d bc bs (liP x K) := by
  unfold wX3_burningRooms at h
  refine EW_iconst (pc2 := 1) (v := 0) rfl dX3_burningRooms_0 (by decide) ?_
  refine EW_istore_n (pc2 := 2) rfl dX3_burningRooms_1 (by decide) [1, 2, 0] [(0, .ref v0), (1, .ref v1), (2, .int 0)] rfl ?_
  refine EW_aload_n (pc2 := 3) rfl dX3_burningRooms_2 0 rfl ?_
  refine AW_geti ⟨gfRX3_34, rfl⟩ (pc2 := 6) rfl dX3_burningRooms_3 (isF.o hv0) ?_
  refine EW_if_ne (tgt := 50) (pc2 := 9) rfl dX3_burningRooms_6 (by decide) (fun q => ?_) (fun q => ?_)
  · replace h := h.1 q
    refine EW_iload_n (pc2 := 51) rfl dX3_burningRooms_50 2 rfl ?_
    exact AW_iret rfl dX3_burningRooms_51 ⟨_, rfl, rfl, h⟩
  · replace h := h.2 q
    refine EW_iconst (pc2 := 10) (v := 0) rfl dX3_burningRooms_9 (by decide) ?_
    refine EW_istore_n (pc2 := 11) rfl dX3_burningRooms_10 (by decide) [1, 2, 3, 0] [(0, .ref v0), (1, .ref v1), (2, .int 0), (3, .int 0)] rfl ?_
    exact sX3_burningRooms_11 v0 v1 0 0 hv0 hv1 x K d bc bs hdp h
abbrev MX4_storey : ab_M := (yX4_storey, cX4_storey, 2, (some .int))
theorem dX4_storey_0 : decode cX4_storey 0 = .ok (.aload_n 0, 1) := by decide +kernel
theorem dX4_storey_1 : decode cX4_storey 1 = .ok (.getfield 37, 3) := by decide +kernel
theorem dX4_storey_4 : decode cX4_storey 4 = .ok (.bipush 6, 2) := by decide +kernel
theorem dX4_storey_6 : decode cX4_storey 6 = .ok (.imul, 1) := by decide +kernel
theorem dX4_storey_7 : decode cX4_storey 7 = .ok (.iload_n 1, 1) := by decide +kernel
theorem dX4_storey_8 : decode cX4_storey 8 = .ok (.iadd, 1) := by decide +kernel
theorem dX4_storey_9 : decode cX4_storey 9 = .ok (.ireturn, 1) := by decide +kernel
theorem okX4_storey : ab_okM MX4_storey 1 := ⟨by decide, ⟨by decide, by decide⟩, ab_in 866 (by decide +kernel) (by decide +kernel), ab_in 91 (by decide +kernel) (by decide +kernel), by decide +kernel, by decide⟩
set_option maxHeartbeats 4000000 in
set_option maxRecDepth 100000 in
theorem sX4_storey (v0 : Nat) (v1 : Int32) (hv0 : isH v0) (x : ab_X) (K : Int32 → Prop) (d bc bs : Nat) (hdp : 0 ≤ d) (h : wX4_storey v0 v1 x K) : EW MX4_storey 0 [(0, .ref v0), (1, .int v1)] [] (aS x) d bc bs (liP x K) := by
  unfold wX4_storey at h
  refine EW_aload_n (pc2 := 1) rfl dX4_storey_0 0 rfl ?_
  refine AW_geti ⟨gfRX4_37, rfl⟩ (pc2 := 4) rfl dX4_storey_1 (isH.o hv0) ?_
  refine EW_bipush (pc2 := 6) (v := 6) rfl dX4_storey_4 (by decide) ?_
  refine EW_imul (pc2 := 7) rfl dX4_storey_6 ?_
  refine EW_iload_n (pc2 := 8) rfl dX4_storey_7 1 rfl ?_
  refine EW_iadd (pc2 := 9) rfl dX4_storey_8 ?_
  exact AW_iret rfl dX4_storey_9 ⟨_, rfl, rfl, h⟩
theorem mlRX3_50 : Cond.methodLink RX3 50 yX4_storey ∈ ab_G ∧ Cond.instanceMethod yX4_storey ∈ ab_G ∧ Cond.selects RX4 yX4_storey yX4_storey ∈ ab_G := ⟨ab_in 863 (by decide +kernel) (by decide +kernel), ab_in 864 (by decide +kernel) (by decide +kernel), ab_in 865 (by decide +kernel) (by decide +kernel)⟩
theorem gfRX3_21 : ab_L RX3 21 3 3 := ⟨by decide, by decide, ab_in 183 (by decide +kernel) (by decide +kernel)⟩
abbrev MX3_load : ab_M := (yX3_load, cX3_load, 4, (some .int))
theorem dX3_load_0 : decode cX3_load 0 = .ok (.aload_n 1, 1) := by decide +kernel
theorem dX3_load_1 : decode cX3_load 1 = .ok (.iload_n 2, 1) := by decide +kernel
theorem dX3_load_2 : decode cX3_load 2 = .ok (.invokevirtual 50, 3) := by decide +kernel
theorem dX3_load_5 : decode cX3_load 5 = .ok (.istore_n 3, 1) := by decide +kernel
theorem dX3_load_6 : decode cX3_load 6 = .ok (.iload_n 2, 1) := by decide +kernel
theorem dX3_load_7 : decode cX3_load 7 = .ok (.iconst 1, 1) := by decide +kernel
theorem dX3_load_8 : decode cX3_load 8 = .ok (.if_icmp .ge 7, 3) := by decide +kernel
theorem dX3_load_11 : decode cX3_load 11 = .ok (.iconst 0, 1) := by decide +kernel
theorem dX3_load_12 : decode cX3_load 12 = .ok (.goto 20, 3) := by decide +kernel
theorem dX3_load_15 : decode cX3_load 15 = .ok (.aload_n 0, 1) := by decide +kernel
theorem dX3_load_16 : decode cX3_load 16 = .ok (.getfield 21, 3) := by decide +kernel
theorem dX3_load_19 : decode cX3_load 19 = .ok (.iload_n 3, 1) := by decide +kernel
theorem dX3_load_20 : decode cX3_load 20 = .ok (.iaload, 1) := by decide +kernel
theorem dX3_load_21 : decode cX3_load 21 = .ok (.iconst 2, 1) := by decide +kernel
theorem dX3_load_22 : decode cX3_load 22 = .ok (.aload_n 0, 1) := by decide +kernel
theorem dX3_load_23 : decode cX3_load 23 = .ok (.getfield 21, 3) := by decide +kernel
theorem dX3_load_26 : decode cX3_load 26 = .ok (.iload_n 3, 1) := by decide +kernel
theorem dX3_load_27 : decode cX3_load 27 = .ok (.iconst 1, 1) := by decide +kernel
theorem dX3_load_28 : decode cX3_load 28 = .ok (.isub, 1) := by decide +kernel
theorem dX3_load_29 : decode cX3_load 29 = .ok (.iaload, 1) := by decide +kernel
theorem dX3_load_30 : decode cX3_load 30 = .ok (.imul, 1) := by decide +kernel
theorem dX3_load_31 : decode cX3_load 31 = .ok (.iadd, 1) := by decide +kernel
theorem dX3_load_32 : decode cX3_load 32 = .ok (.ireturn, 1) := by decide +kernel
theorem okX3_load : ab_okM MX3_load 2 := ⟨by decide, ⟨by decide, by decide⟩, ab_in 924 (by decide +kernel) (by decide +kernel), ab_in 90 (by decide +kernel) (by decide +kernel), by decide +kernel, by decide⟩
set_option maxHeartbeats 4000000 in
set_option maxRecDepth 100000 in
theorem sX3_load (v0 : Nat) (v1 : Nat) (v2 : Int32) (hv0 : isF v0) (hv1 : isH v1) (x : ab_X) (K : Int32 → Prop) (d bc bs : Nat) (hdp : 1 ≤ d) (h : wX3_load v0 v1 v2 x K) : EW MX3_load 0 [(0, .ref v0), (1, .ref v1), (2, .int v2)] [] (aS x) d bc bs (liP x K) := by
  unfold wX3_load at h
  refine EW_aload_n (pc2 := 1) rfl dX3_load_0 1 rfl ?_
  refine EW_iload_n (pc2 := 2) rfl dX3_load_1 2 rfl ?_
  refine AW_invV (M' := MX4_storey) [.int v2] (rest := []) mlRX3_50 okX4_storey (pc2 := 5) rfl dX3_load_2 rfl rfl (Nat.le_of_ble_eq_true rfl) (Nat.le_of_ble_eq_true rfl) (d' := 0) (by omega) (isH.o hv1) ⟨by decide, rfl⟩ (EW_mono (fun _ _ hr => ?_) (sX4_storey v1 v2 hv1 x _ _ 0 0 (Nat.le_refl _) h))
  obtain ⟨r1, rfl, rfl, h⟩ := hr
  refine EW_istore_n (pc2 := 6) rfl dX3_load_5 (by decide) [1, 2, 3, 0] [(0, .ref v0), (1, .ref v1), (2, .int v2), (3, .int r1)] rfl ?_
  refine EW_iload_n (pc2 := 7) rfl dX3_load_6 2 rfl ?_
  refine EW_iconst (pc2 := 8) (v := 1) rfl dX3_load_7 (by decide) ?_
  refine EW_icmp_ge (tgt := 15) (pc2 := 11) rfl dX3_load_8 (by decide) (fun q => ?_) (fun q => ?_)
  · replace h := h.1 q
    refine EW_aload_n (pc2 := 16) rfl dX3_load_15 0 rfl ?_
    refine AW_getr (r := (v0 + 4)) ⟨gfRX3_21, rfl⟩ (pc2 := 19) rfl dX3_load_16 (isF.o hv0) (isF.r3 hv0) ?_
    refine EW_iload_n (pc2 := 20) rfl dX3_load_19 3 rfl ?_
    obtain ⟨b2, h⟩ := h
    refine AW_iald (pc2 := 21) rfl dX3_load_20 (isF.a3 hv0) b2 ?_
    refine EW_iconst (pc2 := 22) (v := 2) rfl dX3_load_21 (by decide) ?_
    refine EW_aload_n (pc2 := 23) rfl dX3_load_22 0 rfl ?_
    refine AW_getr (r := (v0 + 4)) ⟨gfRX3_21, rfl⟩ (pc2 := 26) rfl dX3_load_23 (isF.o hv0) (isF.r3 hv0) ?_
    refine EW_iload_n (pc2 := 27) rfl dX3_load_26 3 rfl ?_
    refine EW_iconst (pc2 := 28) (v := 1) rfl dX3_load_27 (by decide) ?_
    refine EW_isub (pc2 := 29) rfl dX3_load_28 ?_
    obtain ⟨b3, h⟩ := h
    refine AW_iald (pc2 := 30) rfl dX3_load_29 (isF.a3 hv0) b3 ?_
    refine EW_imul (pc2 := 31) rfl dX3_load_30 ?_
    refine EW_iadd (pc2 := 32) rfl dX3_load_31 ?_
    exact AW_iret rfl dX3_load_32 ⟨_, rfl, rfl, h⟩
  · replace h := h.2 q
    refine EW_iconst (pc2 := 12) (v := 0) rfl dX3_load_11 (by decide) ?_
    refine EW_goto (tgt := 32) dX3_load_12 (by decide) ?_
    exact AW_iret rfl dX3_load_32 ⟨_, rfl, rfl, h⟩
theorem gfRX4_15 : ab_L RX4 15 4 4 := ⟨by decide, by decide, ab_in 230 (by decide +kernel) (by decide +kernel)⟩
abbrev MX4_floorOf : ab_M := (yX4_floorOf, cX4_floorOf, 2, (some .int))
theorem dX4_floorOf_0 : decode cX4_floorOf 0 = .ok (.aload_n 0, 1) := by decide +kernel
theorem dX4_floorOf_1 : decode cX4_floorOf 1 = .ok (.getfield 15, 3) := by decide +kernel
theorem dX4_floorOf_4 : decode cX4_floorOf 4 = .ok (.iconst 1, 1) := by decide +kernel
theorem dX4_floorOf_5 : decode cX4_floorOf 5 = .ok (.if_icmp .ge 7, 3) := by decide +kernel
theorem dX4_floorOf_8 : decode cX4_floorOf 8 = .ok (.iconst 0, 1) := by decide +kernel
theorem dX4_floorOf_9 : decode cX4_floorOf 9 = .ok (.goto 9, 3) := by decide +kernel
theorem dX4_floorOf_12 : decode cX4_floorOf 12 = .ok (.iload_n 1, 1) := by decide +kernel
theorem dX4_floorOf_13 : decode cX4_floorOf 13 = .ok (.aload_n 0, 1) := by decide +kernel
theorem dX4_floorOf_14 : decode cX4_floorOf 14 = .ok (.getfield 15, 3) := by decide +kernel
theorem dX4_floorOf_17 : decode cX4_floorOf 17 = .ok (.idiv, 1) := by decide +kernel
theorem dX4_floorOf_18 : decode cX4_floorOf 18 = .ok (.ireturn, 1) := by decide +kernel
theorem okX4_floorOf : ab_okM MX4_floorOf 1 := ⟨by decide, ⟨by decide, by decide⟩, ab_in 902 (by decide +kernel) (by decide +kernel), ab_in 91 (by decide +kernel) (by decide +kernel), by decide +kernel, by decide⟩
set_option maxHeartbeats 4000000 in
set_option maxRecDepth 100000 in
theorem sX4_floorOf (v0 : Nat) (v1 : Int32) (hv0 : isH v0) (x : ab_X) (K : Int32 → Prop) (d bc bs : Nat) (hdp : 0 ≤ d) (h : wX4_floorOf v0 v1 x K) : EW MX4_floorOf 0 [(0, .ref v0), (1, .int v1)] [] (aS x) d bc bs (liP x K) := by
  unfold wX4_floorOf at h
  refine EW_aload_n (pc2 := 1) rfl dX4_floorOf_0 0 rfl ?_
  refine AW_geti ⟨gfRX4_15, rfl⟩ (pc2 := 4) rfl dX4_floorOf_1 (isH.o hv0) ?_
  refine EW_iconst (pc2 := 5) (v := 1) rfl dX4_floorOf_4 (by decide) ?_
  refine EW_icmp_ge (tgt := 12) (pc2 := 8) rfl dX4_floorOf_5 (by decide) (fun q => ?_) (fun q => ?_)
  · replace h := h.1 q
    refine EW_iload_n (pc2 := 13) rfl dX4_floorOf_12 1 rfl ?_
    refine EW_aload_n (pc2 := 14) rfl dX4_floorOf_13 0 rfl ?_
    refine AW_geti ⟨gfRX4_15, rfl⟩ (pc2 := 17) rfl dX4_floorOf_14 (isH.o hv0) ?_
    obtain ⟨hz, h⟩ := h
    refine EW_idiv (pc2 := 18) rfl dX4_floorOf_17 hz ?_
    exact AW_iret rfl dX4_floorOf_18 ⟨_, rfl, rfl, h⟩
  · replace h := h.2 q
    refine EW_iconst (pc2 := 9) (v := 0) rfl dX4_floorOf_8 (by decide) ?_
    refine EW_goto (tgt := 18) dX4_floorOf_9 (by decide) ?_
    exact AW_iret rfl dX4_floorOf_18 ⟨_, rfl, rfl, h⟩
theorem gfRX4_40 : ab_L RX4 40 4 2 := ⟨by decide, by decide, ab_in 221 (by decide +kernel) (by decide +kernel)⟩
abbrev MX4_limit : ab_M := (yX4_limit, cX4_limit, 1, (some .int))
theorem dX4_limit_0 : decode cX4_limit 0 = .ok (.aload_n 0, 1) := by decide +kernel
theorem dX4_limit_1 : decode cX4_limit 1 = .ok (.getfield 15, 3) := by decide +kernel
theorem dX4_limit_4 : decode cX4_limit 4 = .ok (.aload_n 0, 1) := by decide +kernel
theorem dX4_limit_5 : decode cX4_limit 5 = .ok (.getfield 40, 3) := by decide +kernel
theorem dX4_limit_8 : decode cX4_limit 8 = .ok (.ifCond .ne 8, 3) := by decide +kernel
theorem dX4_limit_11 : decode cX4_limit 11 = .ok (.bipush 60, 2) := by decide +kernel
theorem dX4_limit_13 : decode cX4_limit 13 = .ok (.goto 19, 3) := by decide +kernel
theorem dX4_limit_16 : decode cX4_limit 16 = .ok (.aload_n 0, 1) := by decide +kernel
theorem dX4_limit_17 : decode cX4_limit 17 = .ok (.getfield 40, 3) := by decide +kernel
theorem dX4_limit_20 : decode cX4_limit 20 = .ok (.iconst 1, 1) := by decide +kernel
theorem dX4_limit_21 : decode cX4_limit 21 = .ok (.if_icmp .ne 8, 3) := by decide +kernel
theorem dX4_limit_24 : decode cX4_limit 24 = .ok (.bipush 100, 2) := by decide +kernel
theorem dX4_limit_26 : decode cX4_limit 26 = .ok (.goto 6, 3) := by decide +kernel
theorem dX4_limit_29 : decode cX4_limit 29 = .ok (.sipush 140, 3) := by decide +kernel
theorem dX4_limit_32 : decode cX4_limit 32 = .ok (.imul, 1) := by decide +kernel
theorem dX4_limit_33 : decode cX4_limit 33 = .ok (.ireturn, 1) := by decide +kernel
theorem okX4_limit : ab_okM MX4_limit 0 := ⟨by decide, ⟨by decide, by decide⟩, ab_in 1422 (by decide +kernel) (by decide +kernel), ab_in 91 (by decide +kernel) (by decide +kernel), by decide +kernel, by decide⟩
set_option maxHeartbeats 4000000 in
set_option maxRecDepth 100000 in
theorem sX4_limit (v0 : Nat) (hv0 : isH v0) (x : ab_X) (K : Int32 → Prop) (d bc bs : Nat) (hdp : 0 ≤ d) (h : wX4_limit v0 x K) : EW MX4_limit 0 [(0, .ref v0)] [] (aS x) d bc bs (liP x K) := by
  unfold wX4_limit at h
  refine EW_aload_n (pc2 := 1) rfl dX4_limit_0 0 rfl ?_
  refine AW_geti ⟨gfRX4_15, rfl⟩ (pc2 := 4) rfl dX4_limit_1 (isH.o hv0) ?_
  refine EW_aload_n (pc2 := 5) rfl dX4_limit_4 0 rfl ?_
  refine AW_geti ⟨gfRX4_40, rfl⟩ (pc2 := 8) rfl dX4_limit_5 (isH.o hv0) ?_
  refine EW_if_ne (tgt := 16) (pc2 := 11) rfl dX4_limit_8 (by decide) (fun q => ?_) (fun q => ?_)
  · replace h := h.1 q
    refine EW_aload_n (pc2 := 17) rfl dX4_limit_16 0 rfl ?_
    refine AW_geti ⟨gfRX4_40, rfl⟩ (pc2 := 20) rfl dX4_limit_17 (isH.o hv0) ?_
    refine EW_iconst (pc2 := 21) (v := 1) rfl dX4_limit_20 (by decide) ?_
    refine EW_icmp_ne (tgt := 29) (pc2 := 24) rfl dX4_limit_21 (by decide) (fun q => ?_) (fun q => ?_)
    · replace h := h.1 q
      refine EW_sipush (pc2 := 32) (v := 140) rfl dX4_limit_29 (by decide) ?_
      refine EW_imul (pc2 := 33) rfl dX4_limit_32 ?_
      exact AW_iret rfl dX4_limit_33 ⟨_, rfl, rfl, h⟩
    · replace h := h.2 q
      refine EW_bipush (pc2 := 26) (v := 100) rfl dX4_limit_24 (by decide) ?_
      refine EW_goto (tgt := 32) dX4_limit_26 (by decide) ?_
      refine EW_imul (pc2 := 33) rfl dX4_limit_32 ?_
      exact AW_iret rfl dX4_limit_33 ⟨_, rfl, rfl, h⟩
  · replace h := h.2 q
    refine EW_bipush (pc2 := 13) (v := 60) rfl dX4_limit_11 (by decide) ?_
    refine EW_goto (tgt := 32) dX4_limit_13 (by decide) ?_
    refine EW_imul (pc2 := 33) rfl dX4_limit_32 ?_
    exact AW_iret rfl dX4_limit_33 ⟨_, rfl, rfl, h⟩
theorem gfRX9_34 : ab_L RX9 34 9 3 := ⟨by decide, by decide, ab_in 371 (by decide +kernel) (by decide +kernel)⟩
theorem gfRX9_15 : ab_L RX9 15 9 2 := ⟨by decide, by decide, ab_in 370 (by decide +kernel) (by decide +kernel)⟩
abbrev MX9_holds : ab_M := (yX9_holds, cX9_holds, 1, (some .boolean))
theorem dX9_holds_0 : decode cX9_holds 0 = .ok (.aload_n 0, 1) := by decide +kernel
theorem dX9_holds_1 : decode cX9_holds 1 = .ok (.getfield 34, 3) := by decide +kernel
theorem dX9_holds_4 : decode cX9_holds 4 = .ok (.ifCond .le 16, 3) := by decide +kernel
theorem dX9_holds_7 : decode cX9_holds 7 = .ok (.aload_n 0, 1) := by decide +kernel
theorem dX9_holds_8 : decode cX9_holds 8 = .ok (.getfield 15, 3) := by decide +kernel
theorem dX9_holds_11 : decode cX9_holds 11 = .ok (.iconst 0, 1) := by decide +kernel
theorem dX9_holds_12 : decode cX9_holds 12 = .ok (.iaload, 1) := by decide +kernel
theorem dX9_holds_13 : decode cX9_holds 13 = .ok (.ifCond .eq 7, 3) := by decide +kernel
theorem dX9_holds_16 : decode cX9_holds 16 = .ok (.iconst 1, 1) := by decide +kernel
theorem dX9_holds_17 : decode cX9_holds 17 = .ok (.goto 4, 3) := by decide +kernel
theorem dX9_holds_20 : decode cX9_holds 20 = .ok (.iconst 0, 1) := by decide +kernel
theorem dX9_holds_21 : decode cX9_holds 21 = .ok (.ireturn, 1) := by decide +kernel
theorem okX9_holds : ab_okM MX9_holds 0 := ⟨by decide, ⟨by decide, by decide⟩, ab_in 1427 (by decide +kernel) (by decide +kernel), ab_in 93 (by decide +kernel) (by decide +kernel), by decide +kernel, by decide⟩
set_option maxHeartbeats 4000000 in
set_option maxRecDepth 100000 in
theorem sX9_holds (v0 : Nat) (hv0 : isT v0) (x : ab_X) (K : Int32 → Prop) (d bc bs : Nat) (hdp : 0 ≤ d) (h : wX9_holds v0 x K) : EW MX9_holds 0 [(0, .ref v0)] [] (aS x) d bc bs (liP x K) := by
  unfold wX9_holds at h
  refine EW_aload_n (pc2 := 1) rfl dX9_holds_0 0 rfl ?_
  refine AW_geti ⟨gfRX9_34, rfl⟩ (pc2 := 4) rfl dX9_holds_1 (isT.o hv0) ?_
  refine EW_if_le (tgt := 20) (pc2 := 7) rfl dX9_holds_4 (by decide) (fun q => ?_) (fun q => ?_)
  · replace h := h.1 q
    refine EW_iconst (pc2 := 21) (v := 0) rfl dX9_holds_20 (by decide) ?_
    exact AW_zret rfl isB0 dX9_holds_21 ⟨_, rfl, rfl, h⟩
  · replace h := h.2 q
    refine EW_aload_n (pc2 := 8) rfl dX9_holds_7 0 rfl ?_
    refine AW_getr (r := (v0 + 2)) ⟨gfRX9_15, rfl⟩ (pc2 := 11) rfl dX9_holds_8 (isT.o hv0) (isT.r2 hv0) ?_
    refine EW_iconst (pc2 := 12) (v := 0) rfl dX9_holds_11 (by decide) ?_
    obtain ⟨b1, h⟩ := h
    refine AW_iald (pc2 := 13) rfl dX9_holds_12 (isT.a2 hv0) b1 ?_
    refine EW_if_eq (tgt := 20) (pc2 := 16) rfl dX9_holds_13 (by decide) (fun q => ?_) (fun q => ?_)
    · replace h := h.1 q
      refine EW_iconst (pc2 := 21) (v := 0) rfl dX9_holds_20 (by decide) ?_
      exact AW_zret rfl isB0 dX9_holds_21 ⟨_, rfl, rfl, h⟩
    · replace h := h.2 q
      refine EW_iconst (pc2 := 17) (v := 1) rfl dX9_holds_16 (by decide) ?_
      refine EW_goto (tgt := 21) dX9_holds_17 (by decide) ?_
      exact AW_zret rfl isB1 dX9_holds_21 ⟨_, rfl, rfl, h⟩
abbrev MX11_below : ab_M := (yX11_below, cX11_below, 2, (some .boolean))
theorem dX11_below_0 : decode cX11_below 0 = .ok (.iload_n 0, 1) := by decide +kernel
theorem dX11_below_1 : decode cX11_below 1 = .ok (.ifCond .lt 12, 3) := by decide +kernel
theorem dX11_below_4 : decode cX11_below 4 = .ok (.iload_n 0, 1) := by decide +kernel
theorem dX11_below_5 : decode cX11_below 5 = .ok (.iload_n 1, 1) := by decide +kernel
theorem dX11_below_6 : decode cX11_below 6 = .ok (.if_icmp .ge 7, 3) := by decide +kernel
theorem dX11_below_9 : decode cX11_below 9 = .ok (.iconst 1, 1) := by decide +kernel
theorem dX11_below_10 : decode cX11_below 10 = .ok (.goto 4, 3) := by decide +kernel
theorem dX11_below_13 : decode cX11_below 13 = .ok (.iconst 0, 1) := by decide +kernel
theorem dX11_below_14 : decode cX11_below 14 = .ok (.ireturn, 1) := by decide +kernel
theorem okX11_below : ab_okM MX11_below 2 := ⟨by decide, ⟨by decide, by decide⟩, ab_in 795 (by decide +kernel) (by decide +kernel), ab_in 86 (by decide +kernel) (by decide +kernel), by decide +kernel, by decide⟩
set_option maxHeartbeats 4000000 in
set_option maxRecDepth 100000 in
theorem sX11_below (v0 : Int32) (v1 : Int32)  (x : ab_X) (K : Int32 → Prop) (d bc bs : Nat) (hdp : 0 ≤ d) (h : wX11_below v0 v1 x K) : EW MX11_below 0 [(0, .int v0), (1, .int v1)] [] (aS x) d bc bs (liP x K) := by
  unfold wX11_below at h
  refine EW_iload_n (pc2 := 1) rfl dX11_below_0 0 rfl ?_
  refine EW_if_lt (tgt := 13) (pc2 := 4) rfl dX11_below_1 (by decide) (fun q => ?_) (fun q => ?_)
  · replace h := h.1 q
    refine EW_iconst (pc2 := 14) (v := 0) rfl dX11_below_13 (by decide) ?_
    exact AW_zret rfl isB0 dX11_below_14 ⟨_, rfl, rfl, h⟩
  · replace h := h.2 q
    refine EW_iload_n (pc2 := 5) rfl dX11_below_4 0 rfl ?_
    refine EW_iload_n (pc2 := 6) rfl dX11_below_5 1 rfl ?_
    refine EW_icmp_ge (tgt := 13) (pc2 := 9) rfl dX11_below_6 (by decide) (fun q => ?_) (fun q => ?_)
    · replace h := h.1 q
      refine EW_iconst (pc2 := 14) (v := 0) rfl dX11_below_13 (by decide) ?_
      exact AW_zret rfl isB0 dX11_below_14 ⟨_, rfl, rfl, h⟩
    · replace h := h.2 q
      refine EW_iconst (pc2 := 10) (v := 1) rfl dX11_below_9 (by decide) ?_
      refine EW_goto (tgt := 14) dX11_below_10 (by decide) ?_
      exact AW_zret rfl isB1 dX11_below_14 ⟨_, rfl, rfl, h⟩
theorem gfRX9_40 : ab_L RX9 40 9 5 := ⟨by decide, by decide, ab_in 373 (by decide +kernel) (by decide +kernel)⟩
theorem gfRX9_18 : ab_L RX9 18 9 7 := ⟨by decide, by decide, ab_in 376 (by decide +kernel) (by decide +kernel)⟩
theorem mlRX9_61 : Cond.methodLinkNest RX9 61 yX11_below "CityBrigade" ∈ tables_1.filter ab_isN ∧ Cond.static yX11_below ∈ ab_G := ⟨List.mem_filter.mpr ⟨List.mem_of_getElem? (i := 998) (by decide +kernel), rfl⟩, ab_in 794 (by decide +kernel) (by decide +kernel)⟩
theorem mmRX9_88 : Cond.methodLink RX9 88 Lib.Math.min.name ∈ ab_G ∧ Cond.static Lib.Math.min.name ∈ ab_G ∧ Cond.initialized "java/lang/Math" ∈ ab_G ∧ Cond.code Lib.Math.min.name Lib.Math.min.code 2 (some .int) ∈ ab_G := ⟨ab_in 1096 (by decide +kernel) (by decide +kernel), ab_in 787 (by decide +kernel) (by decide +kernel), ab_in 100 (by decide +kernel) (by decide +kernel), ab_in 788 (by decide +kernel) (by decide +kernel)⟩
abbrev MX9_ask : ab_M := (yX9_ask, cX9_ask, 3, none)
theorem dX9_ask_0 : decode cX9_ask 0 = .ok (.aload_n 0, 1) := by decide +kernel
theorem dX9_ask_1 : decode cX9_ask 1 = .ok (.getfield 40, 3) := by decide +kernel
theorem dX9_ask_4 : decode cX9_ask 4 = .ok (.ifCond .eq 34, 3) := by decide +kernel
theorem dX9_ask_7 : decode cX9_ask 7 = .ok (.iload_n 1, 1) := by decide +kernel
theorem dX9_ask_8 : decode cX9_ask 8 = .ok (.aload_n 0, 1) := by decide +kernel
theorem dX9_ask_9 : decode cX9_ask 9 = .ok (.getfield 18, 3) := by decide +kernel
theorem dX9_ask_12 : decode cX9_ask 12 = .ok (.arraylength, 1) := by decide +kernel
theorem dX9_ask_13 : decode cX9_ask 13 = .ok (.invokestatic 61, 3) := by decide +kernel
theorem dX9_ask_16 : decode cX9_ask 16 = .ok (.ifCond .eq 22, 3) := by decide +kernel
theorem dX9_ask_19 : decode cX9_ask 19 = .ok (.aload_n 0, 1) := by decide +kernel
theorem dX9_ask_20 : decode cX9_ask 20 = .ok (.getfield 18, 3) := by decide +kernel
theorem dX9_ask_23 : decode cX9_ask 23 = .ok (.iload_n 1, 1) := by decide +kernel
theorem dX9_ask_24 : decode cX9_ask 24 = .ok (.bipush 9, 2) := by decide +kernel
theorem dX9_ask_26 : decode cX9_ask 26 = .ok (.aload_n 0, 1) := by decide +kernel
theorem dX9_ask_27 : decode cX9_ask 27 = .ok (.getfield 18, 3) := by decide +kernel
theorem dX9_ask_30 : decode cX9_ask 30 = .ok (.iload_n 1, 1) := by decide +kernel
theorem dX9_ask_31 : decode cX9_ask 31 = .ok (.iaload, 1) := by decide +kernel
theorem dX9_ask_32 : decode cX9_ask 32 = .ok (.iload_n 2, 1) := by decide +kernel
theorem dX9_ask_33 : decode cX9_ask 33 = .ok (.iadd, 1) := by decide +kernel
theorem dX9_ask_34 : decode cX9_ask 34 = .ok (.invokestatic 88, 3) := by decide +kernel
theorem dX9_ask_37 : decode cX9_ask 37 = .ok (.iastore, 1) := by decide +kernel
theorem dX9_ask_38 : decode cX9_ask 38 = .ok (.return_, 1) := by decide +kernel
theorem okX9_ask : ab_okM MX9_ask 2 := ⟨by decide, ⟨by decide, by decide⟩, ab_in 1095 (by decide +kernel) (by decide +kernel), ab_in 93 (by decide +kernel) (by decide +kernel), by decide +kernel, by decide⟩
set_option maxHeartbeats 4000000 in
set_option maxRecDepth 100000 in
theorem sX9_ask (v0 : Nat) (v1 : Int32) (v2 : Int32) (hv0 : isT v0) (x : ab_X) (K : ab_X → Prop) (d bc bs : Nat) (hdp : 1 ≤ d) (h : wX9_ask v0 v1 v2 x K) : EW MX9_ask 0 [(0, .ref v0), (1, .int v1), (2, .int v2)] [] (aS x) d bc bs (liV K) := by
  unfold wX9_ask at h
  refine EW_aload_n (pc2 := 1) rfl dX9_ask_0 0 rfl ?_
  refine AW_geti ⟨gfRX9_40, rfl⟩ (pc2 := 4) rfl dX9_ask_1 (isT.o hv0) ?_
  refine EW_if_eq (tgt := 38) (pc2 := 7) rfl dX9_ask_4 (by decide) (fun q => ?_) (fun q => ?_)
  · replace h := h.1 q
    exact EW_vret rfl dX9_ask_38 ⟨_, rfl, rfl, h⟩
  · replace h := h.2 q
    refine EW_iload_n (pc2 := 8) rfl dX9_ask_7 1 rfl ?_
    refine EW_aload_n (pc2 := 9) rfl dX9_ask_8 0 rfl ?_
    refine AW_getr (r := (v0 + 3)) ⟨gfRX9_18, rfl⟩ (pc2 := 12) rfl dX9_ask_9 (isT.o hv0) (isT.r7 hv0) ?_
    refine AW_alen (t := 0) (by decide) (pc2 := 13) rfl dX9_ask_12 (isT.a7 hv0) (v := 5) rfl ?_
    refine AW_invSN (M' := MX11_below) [.int v1, .int 5] (rest := []) mlRX9_61 okX11_below (pc2 := 16) rfl dX9_ask_13 rfl rfl (Nat.le_of_ble_eq_true rfl) (Nat.le_of_ble_eq_true rfl) (d' := 0) (by omega) (EW_mono (fun _ _ hr => ?_) (sX11_below v1 5  x _ _ 0 0 (Nat.le_refl _) h))
    obtain ⟨r1, rfl, rfl, h⟩ := hr
    refine EW_if_eq (tgt := 38) (pc2 := 19) rfl dX9_ask_16 (by decide) (fun q => ?_) (fun q => ?_)
    · replace h := h.1 q
      exact EW_vret rfl dX9_ask_38 ⟨_, rfl, rfl, h⟩
    · replace h := h.2 q
      refine EW_aload_n (pc2 := 20) rfl dX9_ask_19 0 rfl ?_
      refine AW_getr (r := (v0 + 3)) ⟨gfRX9_18, rfl⟩ (pc2 := 23) rfl dX9_ask_20 (isT.o hv0) (isT.r7 hv0) ?_
      refine EW_iload_n (pc2 := 24) rfl dX9_ask_23 1 rfl ?_
      refine EW_bipush (pc2 := 26) (v := 9) rfl dX9_ask_24 (by decide) ?_
      refine EW_aload_n (pc2 := 27) rfl dX9_ask_26 0 rfl ?_
      refine AW_getr (r := (v0 + 3)) ⟨gfRX9_18, rfl⟩ (pc2 := 30) rfl dX9_ask_27 (isT.o hv0) (isT.r7 hv0) ?_
      refine EW_iload_n (pc2 := 31) rfl dX9_ask_30 1 rfl ?_
      obtain ⟨b2, h⟩ := h
      refine AW_iald (pc2 := 32) rfl dX9_ask_31 (isT.a7 hv0) b2 ?_
      refine EW_iload_n (pc2 := 33) rfl dX9_ask_32 2 rfl ?_
      refine EW_iadd (pc2 := 34) rfl dX9_ask_33 ?_
      refine AW_mmin mmRX9_88 (pc2 := 37) rfl dX9_ask_34 (Nat.le_of_ble_eq_true rfl) (by omega) ?_
      obtain ⟨b3, h⟩ := h
      refine AW_iast (pc2 := 38) rfl dX9_ask_37 (isT.a7 hv0) b3 ?_
      exact EW_vret rfl dX9_ask_38 ⟨_, rfl, rfl, h⟩
theorem gfRX9_37 : ab_L RX9 37 9 4 := ⟨by decide, by decide, ab_in 372 (by decide +kernel) (by decide +kernel)⟩
theorem gfRX9_44 : ab_L RX9 44 9 6 := ⟨by decide, by decide, ab_in 374 (by decide +kernel) (by decide +kernel)⟩
abbrev MX9_beginActions : ab_M := (yX9_beginActions, cX9_beginActions, 2, none)
theorem dX9_beginActions_0 : decode cX9_beginActions 0 = .ok (.aload_n 0, 1) := by decide +kernel
theorem dX9_beginActions_1 : decode cX9_beginActions 1 = .ok (.iload_n 1, 1) := by decide +kernel
theorem dX9_beginActions_2 : decode cX9_beginActions 2 = .ok (.putfield 40, 3) := by decide +kernel
theorem dX9_beginActions_5 : decode cX9_beginActions 5 = .ok (.iload_n 1, 1) := by decide +kernel
theorem dX9_beginActions_6 : decode cX9_beginActions 6 = .ok (.ifCond .eq 27, 3) := by decide +kernel
theorem dX9_beginActions_9 : decode cX9_beginActions 9 = .ok (.aload_n 0, 1) := by decide +kernel
theorem dX9_beginActions_10 : decode cX9_beginActions 10 = .ok (.getfield 37, 3) := by decide +kernel
theorem dX9_beginActions_13 : decode cX9_beginActions 13 = .ok (.bipush 30, 2) := by decide +kernel
theorem dX9_beginActions_15 : decode cX9_beginActions 15 = .ok (.if_icmp .ge 18, 3) := by decide +kernel
theorem dX9_beginActions_18 : decode cX9_beginActions 18 = .ok (.aload_n 0, 1) := by decide +kernel
theorem dX9_beginActions_19 : decode cX9_beginActions 19 = .ok (.dup, 1) := by decide +kernel
theorem dX9_beginActions_20 : decode cX9_beginActions 20 = .ok (.getfield 44, 3) := by decide +kernel
theorem dX9_beginActions_23 : decode cX9_beginActions 23 = .ok (.iconst 1, 1) := by decide +kernel
theorem dX9_beginActions_24 : decode cX9_beginActions 24 = .ok (.aload_n 0, 1) := by decide +kernel
theorem dX9_beginActions_25 : decode cX9_beginActions 25 = .ok (.getfield 37, 3) := by decide +kernel
theorem dX9_beginActions_28 : decode cX9_beginActions 28 = .ok (.ishl, 1) := by decide +kernel
theorem dX9_beginActions_29 : decode cX9_beginActions 29 = .ok (.ior, 1) := by decide +kernel
theorem dX9_beginActions_30 : decode cX9_beginActions 30 = .ok (.putfield 44, 3) := by decide +kernel
theorem dX9_beginActions_33 : decode cX9_beginActions 33 = .ok (.aload_n 0, 1) := by decide +kernel
theorem dX9_beginActions_34 : decode cX9_beginActions 34 = .ok (.dup, 1) := by decide +kernel
theorem dX9_beginActions_35 : decode cX9_beginActions 35 = .ok (.getfield 37, 3) := by decide +kernel
theorem dX9_beginActions_38 : decode cX9_beginActions 38 = .ok (.iconst 1, 1) := by decide +kernel
theorem dX9_beginActions_39 : decode cX9_beginActions 39 = .ok (.iadd, 1) := by decide +kernel
theorem dX9_beginActions_40 : decode cX9_beginActions 40 = .ok (.putfield 37, 3) := by decide +kernel
theorem dX9_beginActions_43 : decode cX9_beginActions 43 = .ok (.return_, 1) := by decide +kernel
theorem okX9_beginActions : ab_okM MX9_beginActions 1 := ⟨by decide, ⟨by decide, by decide⟩, ab_in 1091 (by decide +kernel) (by decide +kernel), ab_in 93 (by decide +kernel) (by decide +kernel), by decide +kernel, by decide⟩
set_option maxHeartbeats 4000000 in
set_option maxRecDepth 100000 in
theorem sX9_beginActions_33 (v0 : Nat) (hv0 : isT v0) (x : ab_X) (K : ab_X → Prop)  (d bc bs : Nat) (hdp : 0 ≤ d)  (h : wX9_beginActions_33 v0 x K ) : EW MX9_beginActions 33 [(0, .ref v0)] [] (aS x) d bc bs (liV K) := by
  unfold wX9_beginActions_33 at h
  refine EW_aload_n (pc2 := 34) rfl dX9_beginActions_33 0 rfl ?_
  refine EW_dup (pc2 := 35) rfl dX9_beginActions_34 rfl ?_
  refine AW_geti ⟨gfRX9_37, rfl⟩ (pc2 := 38) rfl dX9_beginActions_35 (isT.o hv0) ?_
  refine EW_iconst (pc2 := 39) (v := 1) rfl dX9_beginActions_38 (by decide) ?_
  refine EW_iadd (pc2 := 40) rfl dX9_beginActions_39 ?_
  refine AW_puti ⟨gfRX9_37, rfl, rfl⟩ (pc2 := 43) rfl dX9_beginActions_40 (isT.o hv0) ?_
  exact EW_vret rfl dX9_beginActions_43 ⟨_, rfl, rfl, h⟩
set_option maxHeartbeats 4000000 in
set_option maxRecDepth 100000 in
theorem sX9_beginActions (v0 : Nat) (v1 : Int32) (hv0 : isT v0) (x : ab_X) (K : ab_X → Prop) (d bc bs : Nat) (hdp : 0 ≤ d) (h : wX9_beginActions v0 v1 x K) : EW MX9_beginActions 0 [(0, .ref v0), (1, .int v1)] [] (aS x) d bc bs (liV K) := by
  unfold wX9_beginActions at h
  refine EW_aload_n (pc2 := 1) rfl dX9_beginActions_0 0 rfl ?_
  refine EW_iload_n (pc2 := 2) rfl dX9_beginActions_1 1 rfl ?_
  obtain ⟨z1, h⟩ := h
  refine AW_putz ⟨gfRX9_40, rfl, rfl⟩ z1 (pc2 := 5) rfl dX9_beginActions_2 (isT.o hv0) ?_
  refine EW_iload_n (pc2 := 6) rfl dX9_beginActions_5 1 rfl ?_
  refine EW_if_eq (tgt := 33) (pc2 := 9) rfl dX9_beginActions_6 (by decide) (fun q => ?_) (fun q => ?_)
  · replace h := h.1 q
    refine EW_ls [0] rfl ?_
    exact sX9_beginActions_33 v0 hv0 (wr x v0 5 v1) K d bc bs hdp h
  · replace h := h.2 q
    refine EW_aload_n (pc2 := 10) rfl dX9_beginActions_9 0 rfl ?_
    refine AW_geti ⟨gfRX9_37, rfl⟩ (pc2 := 13) rfl dX9_beginActions_10 (isT.o hv0) ?_
    refine EW_bipush (pc2 := 15) (v := 30) rfl dX9_beginActions_13 (by decide) ?_
    refine EW_icmp_ge (tgt := 33) (pc2 := 18) rfl dX9_beginActions_15 (by decide) (fun q => ?_) (fun q => ?_)
    · replace h := h.1 q
      refine EW_ls [0] rfl ?_
      exact sX9_beginActions_33 v0 hv0 (wr x v0 5 v1) K d bc bs hdp h
    · replace h := h.2 q
      refine EW_aload_n (pc2 := 19) rfl dX9_beginActions_18 0 rfl ?_
      refine EW_dup (pc2 := 20) rfl dX9_beginActions_19 rfl ?_
      refine AW_geti ⟨gfRX9_44, rfl⟩ (pc2 := 23) rfl dX9_beginActions_20 (isT.o hv0) ?_
      refine EW_iconst (pc2 := 24) (v := 1) rfl dX9_beginActions_23 (by decide) ?_
      refine EW_aload_n (pc2 := 25) rfl dX9_beginActions_24 0 rfl ?_
      refine AW_geti ⟨gfRX9_37, rfl⟩ (pc2 := 28) rfl dX9_beginActions_25 (isT.o hv0) ?_
      refine EW_ishl (pc2 := 29) rfl dX9_beginActions_28 ?_
      refine EW_ior (pc2 := 30) rfl dX9_beginActions_29 ?_
      refine AW_puti ⟨gfRX9_44, rfl, rfl⟩ (pc2 := 33) rfl dX9_beginActions_30 (isT.o hv0) ?_
      refine EW_ls [0] rfl ?_
      exact sX9_beginActions_33 v0 hv0 (wr (wr x v0 5 v1) v0 6 (((wr x v0 5 v1).1 v0 6) ||| (1 <<< (((wr x v0 5 v1).1 v0 4) &&& 31)))) K d bc bs hdp h
theorem cnRX9_94 : Cond.constantLong RX9 94 (-1000000) ∈ ab_G := ab_in 1107 (by decide +kernel) (by decide +kernel)
theorem cnRX9_96 : Cond.constantLong RX9 96 1000000 ∈ ab_G := ab_in 1108 (by decide +kernel) (by decide +kernel)
theorem mmRX9_98 : Cond.methodLink RX9 98 Lib.MathLoose.min_long.x ∈ ab_G ∧ Cond.static Lib.MathLoose.min_long.x ∈ ab_G ∧ Cond.initialized "java/lang/Math" ∈ ab_G ∧ Cond.code Lib.MathLoose.min_long.x Lib.MathLoose.min_long.code 4 (some .long) ∈ ab_G := ⟨ab_in 1109 (by decide +kernel) (by decide +kernel), ab_in 1110 (by decide +kernel) (by decide +kernel), ab_in 100 (by decide +kernel) (by decide +kernel), ab_in 1111 (by decide +kernel) (by decide +kernel)⟩
theorem mmRX9_101 : Cond.methodLink RX9 101 Lib.MathLoose.max_long.x ∈ ab_G ∧ Cond.static Lib.MathLoose.max_long.x ∈ ab_G ∧ Cond.initialized "java/lang/Math" ∈ ab_G ∧ Cond.code Lib.MathLoose.max_long.x Lib.MathLoose.max_long.code 4 (some .long) ∈ ab_G := ⟨ab_in 1112 (by decide +kernel) (by decide +kernel), ab_in 1113 (by decide +kernel) (by decide +kernel), ab_in 100 (by decide +kernel) (by decide +kernel), ab_in 1114 (by decide +kernel) (by decide +kernel)⟩
abbrev MX9_bounded : ab_M := (yX9_bounded, cX9_bounded, 2, (some .int))
theorem dX9_bounded_0 : decode cX9_bounded 0 = .ok (.ldc2_w 94, 3) := by decide +kernel
theorem dX9_bounded_3 : decode cX9_bounded 3 = .ok (.ldc2_w 96, 3) := by decide +kernel
theorem dX9_bounded_6 : decode cX9_bounded 6 = .ok (.lload_n 0, 1) := by decide +kernel
theorem dX9_bounded_7 : decode cX9_bounded 7 = .ok (.invokestatic 98, 3) := by decide +kernel
theorem dX9_bounded_10 : decode cX9_bounded 10 = .ok (.invokestatic 101, 3) := by decide +kernel
theorem dX9_bounded_13 : decode cX9_bounded 13 = .ok (.l2i, 1) := by decide +kernel
theorem dX9_bounded_14 : decode cX9_bounded 14 = .ok (.ireturn, 1) := by decide +kernel
theorem okX9_bounded : ab_okM MX9_bounded 1 := ⟨by decide, ⟨by decide, by decide⟩, ab_in 1106 (by decide +kernel) (by decide +kernel), ab_in 93 (by decide +kernel) (by decide +kernel), by decide +kernel, by decide⟩
set_option maxHeartbeats 4000000 in
set_option maxRecDepth 100000 in
theorem sX9_bounded (v0 : Int64)  (x : ab_X) (K : Int32 → Prop) (d bc bs : Nat) (hdp : 1 ≤ d) (h : wX9_bounded v0 x K) : EW MX9_bounded 0 [(0, .long v0)] [] (aS x) d bc bs (liP x K) := by
  unfold wX9_bounded at h
  refine EW_ldc2 cnRX9_94 (pc2 := 3) rfl dX9_bounded_0 ?_
  refine EW_ldc2 cnRX9_96 (pc2 := 6) rfl dX9_bounded_3 ?_
  refine EW_lload_n (pc2 := 7) rfl dX9_bounded_6 0 rfl ?_
  refine AW_mminl mmRX9_98 (pc2 := 10) rfl dX9_bounded_7 (Nat.le_of_ble_eq_true rfl) (by omega) ?_
  refine AW_mmaxl mmRX9_101 (pc2 := 13) rfl dX9_bounded_10 (Nat.le_of_ble_eq_true rfl) (by omega) ?_
  refine EW_l2i (pc2 := 14) (v := (Int64.toInt32 (lmax (-1000000) (lmin 1000000 v0)))) rfl dX9_bounded_13 rfl ?_
  exact AW_iret rfl dX9_bounded_14 ⟨_, rfl, rfl, h⟩
theorem gfRX9_47 : ab_L RX9 47 9 9 := ⟨by decide, by decide, ab_in 381 (by decide +kernel) (by decide +kernel)⟩
theorem gfRX9_21 : ab_L RX9 21 9 8 := ⟨by decide, by decide, ab_in 379 (by decide +kernel) (by decide +kernel)⟩
abbrev MX9_find : ab_M := (yX9_find, cX9_find, 2, none)
theorem dX9_find_0 : decode cX9_find 0 = .ok (.aload_n 0, 1) := by decide +kernel
theorem dX9_find_1 : decode cX9_find 1 = .ok (.getfield 40, 3) := by decide +kernel
theorem dX9_find_4 : decode cX9_find 4 = .ok (.ifCond .eq 32, 3) := by decide +kernel
theorem dX9_find_7 : decode cX9_find 7 = .ok (.aload_n 0, 1) := by decide +kernel
theorem dX9_find_8 : decode cX9_find 8 = .ok (.getfield 47, 3) := by decide +kernel
theorem dX9_find_11 : decode cX9_find 11 = .ok (.bipush 40, 2) := by decide +kernel
theorem dX9_find_13 : decode cX9_find 13 = .ok (.if_icmp .ge 23, 3) := by decide +kernel
theorem dX9_find_16 : decode cX9_find 16 = .ok (.aload_n 0, 1) := by decide +kernel
theorem dX9_find_17 : decode cX9_find 17 = .ok (.getfield 21, 3) := by decide +kernel
theorem dX9_find_20 : decode cX9_find 20 = .ok (.aload_n 0, 1) := by decide +kernel
theorem dX9_find_21 : decode cX9_find 21 = .ok (.getfield 47, 3) := by decide +kernel
theorem dX9_find_24 : decode cX9_find 24 = .ok (.iload_n 1, 1) := by decide +kernel
theorem dX9_find_25 : decode cX9_find 25 = .ok (.iastore, 1) := by decide +kernel
theorem dX9_find_26 : decode cX9_find 26 = .ok (.aload_n 0, 1) := by decide +kernel
theorem dX9_find_27 : decode cX9_find 27 = .ok (.dup, 1) := by decide +kernel
theorem dX9_find_28 : decode cX9_find 28 = .ok (.getfield 47, 3) := by decide +kernel
theorem dX9_find_31 : decode cX9_find 31 = .ok (.iconst 1, 1) := by decide +kernel
theorem dX9_find_32 : decode cX9_find 32 = .ok (.iadd, 1) := by decide +kernel
theorem dX9_find_33 : decode cX9_find 33 = .ok (.putfield 47, 3) := by decide +kernel
theorem dX9_find_36 : decode cX9_find 36 = .ok (.return_, 1) := by decide +kernel
theorem okX9_find : ab_okM MX9_find 1 := ⟨by decide, ⟨by decide, by decide⟩, ab_in 1100 (by decide +kernel) (by decide +kernel), ab_in 93 (by decide +kernel) (by decide +kernel), by decide +kernel, by decide⟩
set_option maxHeartbeats 4000000 in
set_option maxRecDepth 100000 in
theorem sX9_find (v0 : Nat) (v1 : Int32) (hv0 : isT v0) (x : ab_X) (K : ab_X → Prop) (d bc bs : Nat) (hdp : 0 ≤ d) (h : wX9_find v0 v1 x K) : EW MX9_find 0 [(0, .ref v0), (1, .int v1)] [] (aS x) d bc bs (liV K) := by
  unfold wX9_find at h
  refine EW_aload_n (pc2 := 1) rfl dX9_find_0 0 rfl ?_
  refine AW_geti ⟨gfRX9_40, rfl⟩ (pc2 := 4) rfl dX9_find_1 (isT.o hv0) ?_
  refine EW_if_eq (tgt := 36) (pc2 := 7) rfl dX9_find_4 (by decide) (fun q => ?_) (fun q => ?_)
  · replace h := h.1 q
    exact EW_vret rfl dX9_find_36 ⟨_, rfl, rfl, h⟩
  · replace h := h.2 q
    refine EW_aload_n (pc2 := 8) rfl dX9_find_7 0 rfl ?_
    refine AW_geti ⟨gfRX9_47, rfl⟩ (pc2 := 11) rfl dX9_find_8 (isT.o hv0) ?_
    refine EW_bipush (pc2 := 13) (v := 40) rfl dX9_find_11 (by decide) ?_
    refine EW_icmp_ge (tgt := 36) (pc2 := 16) rfl dX9_find_13 (by decide) (fun q => ?_) (fun q => ?_)
    · replace h := h.1 q
      exact EW_vret rfl dX9_find_36 ⟨_, rfl, rfl, h⟩
    · replace h := h.2 q
      refine EW_aload_n (pc2 := 17) rfl dX9_find_16 0 rfl ?_
      refine AW_getr (r := (v0 + 4)) ⟨gfRX9_21, rfl⟩ (pc2 := 20) rfl dX9_find_17 (isT.o hv0) (isT.r8 hv0) ?_
      refine EW_aload_n (pc2 := 21) rfl dX9_find_20 0 rfl ?_
      refine AW_geti ⟨gfRX9_47, rfl⟩ (pc2 := 24) rfl dX9_find_21 (isT.o hv0) ?_
      refine EW_iload_n (pc2 := 25) rfl dX9_find_24 1 rfl ?_
      obtain ⟨b1, h⟩ := h
      refine AW_iast (pc2 := 26) rfl dX9_find_25 (isT.a8 hv0) b1 ?_
      refine EW_aload_n (pc2 := 27) rfl dX9_find_26 0 rfl ?_
      refine EW_dup (pc2 := 28) rfl dX9_find_27 rfl ?_
      refine AW_geti ⟨gfRX9_47, rfl⟩ (pc2 := 31) rfl dX9_find_28 (isT.o hv0) ?_
      refine EW_iconst (pc2 := 32) (v := 1) rfl dX9_find_31 (by decide) ?_
      refine EW_iadd (pc2 := 33) rfl dX9_find_32 ?_
      refine AW_puti ⟨gfRX9_47, rfl, rfl⟩ (pc2 := 36) rfl dX9_find_33 (isT.o hv0) ?_
      exact EW_vret rfl dX9_find_36 ⟨_, rfl, rfl, h⟩
