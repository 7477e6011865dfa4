theorem gfRJ0_38 : Cond.fieldLink RJ0 38 "java/lang/String" "COMPACT_STRINGS" "Z" ∈ ab_G := ab_in 1243 (by decide +kernel) (by decide +kernel)
theorem gfRJ0_15 : Cond.fieldLink RJ0 15 "java/lang/String" "coder" "B" ∈ ab_G := ab_in 2768 (by decide +kernel) (by decide +kernel)
abbrev MJ0_isLatin1_aae02 : ab_M := (yJ0_isLatin1_aae02, cJ0_isLatin1_aae02, 1, (some .boolean))
theorem dJ0_isLatin1_aae02_0 : decode cJ0_isLatin1_aae02 0 = .ok (.getstatic 38, 3) := by decide +kernel
theorem dJ0_isLatin1_aae02_3 : decode cJ0_isLatin1_aae02 3 = .ok (.ifCond .eq 14, 3) := by decide +kernel
theorem dJ0_isLatin1_aae02_6 : decode cJ0_isLatin1_aae02 6 = .ok (.aload_n 0, 1) := by decide +kernel
theorem dJ0_isLatin1_aae02_7 : decode cJ0_isLatin1_aae02 7 = .ok (.getfield 15, 3) := by decide +kernel
theorem dJ0_isLatin1_aae02_10 : decode cJ0_isLatin1_aae02 10 = .ok (.ifCond .ne 7, 3) := by decide +kernel
theorem dJ0_isLatin1_aae02_13 : decode cJ0_isLatin1_aae02 13 = .ok (.iconst 1, 1) := by decide +kernel
theorem dJ0_isLatin1_aae02_14 : decode cJ0_isLatin1_aae02 14 = .ok (.goto 4, 3) := by decide +kernel
theorem dJ0_isLatin1_aae02_17 : decode cJ0_isLatin1_aae02 17 = .ok (.iconst 0, 1) := by decide +kernel
theorem dJ0_isLatin1_aae02_18 : decode cJ0_isLatin1_aae02 18 = .ok (.ireturn, 1) := by decide +kernel
theorem okJ0_isLatin1_aae02 : ab_okM MJ0_isLatin1_aae02 0 := ⟨by decide, ⟨by decide, by decide⟩, ab_in 1242 (by decide +kernel) (by decide +kernel), ab_in 106 (by decide +kernel) (by decide +kernel), by decide +kernel, by decide⟩
set_option maxHeartbeats 4000000 in
set_option maxRecDepth 100000 in
def wJ0_isLatin1_aae02 (v0 : Nat) (x : ab_X) (K : Int32 → Prop) : Prop := ((1 = 0 → K 0) ∧ (¬ 1 = 0 → ((¬ 0 = 0 → K 0) ∧ (0 = 0 → K 1))))
set_option maxHeartbeats 4000000 in
set_option maxRecDepth 100000 in
theorem sJ0_isLatin1_aae02 (v0 : Nat) (hv0 : isS v0) (x : ab_X) (K : Int32 → Prop) (d bc bs : Nat) (hdp : 0 ≤ d) (h : wJ0_isLatin1_aae02 v0 x K) : EW MJ0_isLatin1_aae02 0 [(0, .ref v0)] [] (aS x) d bc bs (liP x K) := by
  unfold wJ0_isLatin1_aae02 at h
  refine AW_scomp gfRJ0_38 (pc2 := 3) rfl dJ0_isLatin1_aae02_0 ?_
  refine EW_if_eq (tgt := 17) (pc2 := 6) rfl dJ0_isLatin1_aae02_3 (by decide) (fun q => ?_) (fun q => ?_)
  · replace h := h.1 q
    refine EW_iconst (pc2 := 18) (v := 0) rfl dJ0_isLatin1_aae02_17 (by decide) ?_
    exact AW_zret rfl isB0 dJ0_isLatin1_aae02_18 ⟨_, rfl, rfl, h⟩
  · replace h := h.2 q
    refine EW_aload_n (pc2 := 7) rfl dJ0_isLatin1_aae02_6 0 rfl ?_
    refine AW_scod hv0 gfRJ0_15 (pc2 := 10) rfl dJ0_isLatin1_aae02_7 ?_
    refine EW_if_ne (tgt := 17) (pc2 := 13) rfl dJ0_isLatin1_aae02_10 (by decide) (fun q => ?_) (fun q => ?_)
    · replace h := h.1 q
      refine EW_iconst (pc2 := 18) (v := 0) rfl dJ0_isLatin1_aae02_17 (by decide) ?_
      exact AW_zret rfl isB0 dJ0_isLatin1_aae02_18 ⟨_, rfl, rfl, h⟩
    · replace h := h.2 q
      refine EW_iconst (pc2 := 14) (v := 1) rfl dJ0_isLatin1_aae02_13 (by decide) ?_
      refine EW_goto (tgt := 18) dJ0_isLatin1_aae02_14 (by decide) ?_
      exact AW_zret rfl isB1 dJ0_isLatin1_aae02_18 ⟨_, rfl, rfl, h⟩
abbrev MJ0_coder_7d493 : ab_M := (yJ0_coder_7d493, cJ0_coder_7d493, 1, (some .byte))
theorem dJ0_coder_7d493_0 : decode cJ0_coder_7d493 0 = .ok (.getstatic 38, 3) := by decide +kernel
theorem dJ0_coder_7d493_3 : decode cJ0_coder_7d493 3 = .ok (.ifCond .eq 10, 3) := by decide +kernel
theorem dJ0_coder_7d493_6 : decode cJ0_coder_7d493 6 = .ok (.aload_n 0, 1) := by decide +kernel
theorem dJ0_coder_7d493_7 : decode cJ0_coder_7d493 7 = .ok (.getfield 15, 3) := by decide +kernel
theorem dJ0_coder_7d493_10 : decode cJ0_coder_7d493 10 = .ok (.goto 4, 3) := by decide +kernel
theorem dJ0_coder_7d493_13 : decode cJ0_coder_7d493 13 = .ok (.iconst 1, 1) := by decide +kernel
theorem dJ0_coder_7d493_14 : decode cJ0_coder_7d493 14 = .ok (.ireturn, 1) := by decide +kernel
theorem okJ0_coder_7d493 : ab_okM MJ0_coder_7d493 0 := ⟨by decide, ⟨by decide, by decide⟩, ab_in 1252 (by decide +kernel) (by decide +kernel), ab_in 106 (by decide +kernel) (by decide +kernel), by decide +kernel, by decide⟩
set_option maxHeartbeats 4000000 in
set_option maxRecDepth 100000 in
def wJ0_coder_7d493 (v0 : Nat) (x : ab_X) (K : Int32 → Prop) : Prop := ((1 = 0 → K 1) ∧ (¬ 1 = 0 → K 0))
set_option maxHeartbeats 4000000 in
set_option maxRecDepth 100000 in
theorem sJ0_coder_7d493 (v0 : Nat) (hv0 : isS v0) (x : ab_X) (K : Int32 → Prop) (d bc bs : Nat) (hdp : 0 ≤ d) (h : wJ0_coder_7d493 v0 x K) : EW MJ0_coder_7d493 0 [(0, .ref v0)] [] (aS x) d bc bs (liP x K) := by
  unfold wJ0_coder_7d493 at h
  refine AW_scomp gfRJ0_38 (pc2 := 3) rfl dJ0_coder_7d493_0 ?_
  refine EW_if_eq (tgt := 13) (pc2 := 6) rfl dJ0_coder_7d493_3 (by decide) (fun q => ?_) (fun q => ?_)
  · replace h := h.1 q
    refine EW_iconst (pc2 := 14) (v := 1) rfl dJ0_coder_7d493_13 (by decide) ?_
    exact EW_iret (ty := .byte) rfl rfl dJ0_coder_7d493_14 ⟨_, rfl, rfl, h⟩
  · replace h := h.2 q
    refine EW_aload_n (pc2 := 7) rfl dJ0_coder_7d493_6 0 rfl ?_
    refine AW_scod hv0 gfRJ0_15 (pc2 := 10) rfl dJ0_coder_7d493_7 ?_
    refine EW_goto (tgt := 14) dJ0_coder_7d493_10 (by decide) ?_
    exact EW_iret (ty := .byte) rfl rfl dJ0_coder_7d493_14 ⟨_, rfl, rfl, h⟩
theorem gfRJ0_9 : Cond.fieldLink RJ0 9 "java/lang/String" "value" "[B" ∈ ab_G := ab_in 2769 (by decide +kernel) (by decide +kernel)
theorem mlRJ0_335 : Cond.methodLink RJ0 335 yJ0_coder_7d493 ∈ ab_G ∧ Cond.instanceMethod yJ0_coder_7d493 ∈ ab_G ∧ Cond.selects RJ0 yJ0_coder_7d493 yJ0_coder_7d493 ∈ ab_G := ⟨ab_in 1249 (by decide +kernel) (by decide +kernel), ab_in 1250 (by decide +kernel) (by decide +kernel), ab_in 1251 (by decide +kernel) (by decide +kernel)⟩
abbrev MJ0_length_8abf5 : ab_M := (yJ0_length_8abf5, cJ0_length_8abf5, 1, (some .int))
theorem dJ0_length_8abf5_0 : decode cJ0_length_8abf5 0 = .ok (.aload_n 0, 1) := by decide +kernel
theorem dJ0_length_8abf5_1 : decode cJ0_length_8abf5 1 = .ok (.getfield 9, 3) := by decide +kernel
theorem dJ0_length_8abf5_4 : decode cJ0_length_8abf5 4 = .ok (.arraylength, 1) := by decide +kernel
theorem dJ0_length_8abf5_5 : decode cJ0_length_8abf5 5 = .ok (.aload_n 0, 1) := by decide +kernel
theorem dJ0_length_8abf5_6 : decode cJ0_length_8abf5 6 = .ok (.invokevirtual 335, 3) := by decide +kernel
theorem dJ0_length_8abf5_9 : decode cJ0_length_8abf5 9 = .ok (.ishr, 1) := by decide +kernel
theorem dJ0_length_8abf5_10 : decode cJ0_length_8abf5 10 = .ok (.ireturn, 1) := by decide +kernel
theorem okJ0_length_8abf5 : ab_okM MJ0_length_8abf5 0 := ⟨by decide, ⟨by decide, by decide⟩, ab_in 1248 (by decide +kernel) (by decide +kernel), ab_in 106 (by decide +kernel) (by decide +kernel), by decide +kernel, by decide⟩
set_option maxHeartbeats 4000000 in
set_option maxRecDepth 100000 in
def wJ0_length_8abf5 (v0 : Nat) (x : ab_X) (K : Int32 → Prop) : Prop := wJ0_coder_7d493 v0 x (fun r1 => K ((Int32.ofNat (slen (v0 + 1000000))) >>> (r1 &&& 31)))
set_option maxHeartbeats 4000000 in
set_option maxRecDepth 100000 in
theorem sJ0_length_8abf5 (v0 : Nat) (hv0 : isS v0) (x : ab_X) (K : Int32 → Prop) (d bc bs : Nat) (hdp : 1 ≤ d) (h : wJ0_length_8abf5 v0 x K) : EW MJ0_length_8abf5 0 [(0, .ref v0)] [] (aS x) d bc bs (liP x K) := by
  unfold wJ0_length_8abf5 at h
  refine EW_aload_n (pc2 := 1) rfl dJ0_length_8abf5_0 0 rfl ?_
  refine AW_sval hv0 gfRJ0_9 (pc2 := 4) rfl dJ0_length_8abf5_1 ?_
  refine AW_salen (isS.b hv0) (pc2 := 5) rfl dJ0_length_8abf5_4 ?_
  refine EW_aload_n (pc2 := 6) rfl dJ0_length_8abf5_5 0 rfl ?_
  refine AW_invVS (M' := MJ0_coder_7d493) [] (rest := [.int (Int32.ofNat (slen (v0 + 1000000)))]) mlRJ0_335 okJ0_coder_7d493 (pc2 := 9) rfl dJ0_length_8abf5_6 rfl rfl (Nat.le_of_ble_eq_true rfl) (Nat.le_of_ble_eq_true rfl) (d' := 0) (by omega) hv0 rfl (EW_mono (fun _ _ hr => ?_) (sJ0_coder_7d493 v0 hv0 x _ _ 0 0 (Nat.le_refl _) h))
  obtain ⟨r1, rfl, rfl, h⟩ := hr
  refine EW_ishr (pc2 := 10) rfl dJ0_length_8abf5_9 ?_
  exact AW_iret rfl dJ0_length_8abf5_10 ⟨_, rfl, rfl, h⟩
abbrev MJ1_canEncode_9a6ad : ab_M := (yJ1_canEncode_9a6ad, cJ1_canEncode_9a6ad, 1, (some .boolean))
theorem dJ1_canEncode_9a6ad_0 : decode cJ1_canEncode_9a6ad 0 = .ok (.iload_n 0, 1) := by decide +kernel
theorem dJ1_canEncode_9a6ad_1 : decode cJ1_canEncode_9a6ad 1 = .ok (.ifCond .lt 14, 3) := by decide +kernel
theorem dJ1_canEncode_9a6ad_4 : decode cJ1_canEncode_9a6ad 4 = .ok (.iload_n 0, 1) := by decide +kernel
theorem dJ1_canEncode_9a6ad_5 : decode cJ1_canEncode_9a6ad 5 = .ok (.sipush 255, 3) := by decide +kernel
theorem dJ1_canEncode_9a6ad_8 : decode cJ1_canEncode_9a6ad 8 = .ok (.if_icmp .gt 7, 3) := by decide +kernel
theorem dJ1_canEncode_9a6ad_11 : decode cJ1_canEncode_9a6ad 11 = .ok (.iconst 1, 1) := by decide +kernel
theorem dJ1_canEncode_9a6ad_12 : decode cJ1_canEncode_9a6ad 12 = .ok (.goto 4, 3) := by decide +kernel
theorem dJ1_canEncode_9a6ad_15 : decode cJ1_canEncode_9a6ad 15 = .ok (.iconst 0, 1) := by decide +kernel
theorem dJ1_canEncode_9a6ad_16 : decode cJ1_canEncode_9a6ad 16 = .ok (.ireturn, 1) := by decide +kernel
theorem okJ1_canEncode_9a6ad : ab_okM MJ1_canEncode_9a6ad 1 := ⟨by decide, ⟨by decide, by decide⟩, ab_in 1258 (by decide +kernel) (by decide +kernel), ab_in 107 (by decide +kernel) (by decide +kernel), by decide +kernel, by decide⟩
set_option maxHeartbeats 4000000 in
set_option maxRecDepth 100000 in
def wJ1_canEncode_9a6ad (v0 : Int32) (x : ab_X) (K : Int32 → Prop) : Prop := ((v0 < 0 → K 0) ∧ (¬ v0 < 0 → ((255 < v0 → K 0) ∧ (¬ 255 < v0 → K 1))))
set_option maxHeartbeats 4000000 in
set_option maxRecDepth 100000 in
theorem sJ1_canEncode_9a6ad (v0 : Int32)  (x : ab_X) (K : Int32 → Prop) (d bc bs : Nat) (hdp : 0 ≤ d) (h : wJ1_canEncode_9a6ad v0 x K) : EW MJ1_canEncode_9a6ad 0 [(0, .int v0)] [] (aS x) d bc bs (liP x K) := by
  unfold wJ1_canEncode_9a6ad at h
  refine EW_iload_n (pc2 := 1) rfl dJ1_canEncode_9a6ad_0 0 rfl ?_
  refine EW_if_lt (tgt := 15) (pc2 := 4) rfl dJ1_canEncode_9a6ad_1 (by decide) (fun q => ?_) (fun q => ?_)
  · replace h := h.1 q
    refine EW_iconst (pc2 := 16) (v := 0) rfl dJ1_canEncode_9a6ad_15 (by decide) ?_
    exact AW_zret rfl isB0 dJ1_canEncode_9a6ad_16 ⟨_, rfl, rfl, h⟩
  · replace h := h.2 q
    refine EW_iload_n (pc2 := 5) rfl dJ1_canEncode_9a6ad_4 0 rfl ?_
    refine EW_sipush (pc2 := 8) (v := 255) rfl dJ1_canEncode_9a6ad_5 (by decide) ?_
    refine EW_icmp_gt (tgt := 15) (pc2 := 11) rfl dJ1_canEncode_9a6ad_8 (by decide) (fun q => ?_) (fun q => ?_)
    · replace h := h.1 q
      refine EW_iconst (pc2 := 16) (v := 0) rfl dJ1_canEncode_9a6ad_15 (by decide) ?_
      exact AW_zret rfl isB0 dJ1_canEncode_9a6ad_16 ⟨_, rfl, rfl, h⟩
    · replace h := h.2 q
      refine EW_iconst (pc2 := 12) (v := 1) rfl dJ1_canEncode_9a6ad_11 (by decide) ?_
      refine EW_goto (tgt := 16) dJ1_canEncode_9a6ad_12 (by decide) ?_
      exact AW_zret rfl isB1 dJ1_canEncode_9a6ad_16 ⟨_, rfl, rfl, h⟩
abbrev MJ1_indexOfChar_4cfef : ab_M := (yJ1_indexOfChar_4cfef, cJ1_indexOfChar_4cfef, 6, (some .int))
theorem dJ1_indexOfChar_4cfef_0 : decode cJ1_indexOfChar_4cfef 0 = .ok (.iload_n 1, 1) := by decide +kernel
theorem dJ1_indexOfChar_4cfef_1 : decode cJ1_indexOfChar_4cfef 1 = .ok (.i2b, 1) := by decide +kernel
theorem dJ1_indexOfChar_4cfef_2 : decode cJ1_indexOfChar_4cfef 2 = .ok (.istore 4, 2) := by decide +kernel
theorem dJ1_indexOfChar_4cfef_4 : decode cJ1_indexOfChar_4cfef 4 = .ok (.iload_n 2, 1) := by decide +kernel
theorem dJ1_indexOfChar_4cfef_5 : decode cJ1_indexOfChar_4cfef 5 = .ok (.istore 5, 2) := by decide +kernel
theorem dJ1_indexOfChar_4cfef_7 : decode cJ1_indexOfChar_4cfef 7 = .ok (.iload 5, 2) := by decide +kernel
theorem dJ1_indexOfChar_4cfef_9 : decode cJ1_indexOfChar_4cfef 9 = .ok (.iload_n 3, 1) := by decide +kernel
theorem dJ1_indexOfChar_4cfef_10 : decode cJ1_indexOfChar_4cfef 10 = .ok (.if_icmp .ge 21, 3) := by decide +kernel
theorem dJ1_indexOfChar_4cfef_13 : decode cJ1_indexOfChar_4cfef 13 = .ok (.aload_n 0, 1) := by decide +kernel
theorem dJ1_indexOfChar_4cfef_14 : decode cJ1_indexOfChar_4cfef 14 = .ok (.iload 5, 2) := by decide +kernel
theorem dJ1_indexOfChar_4cfef_16 : decode cJ1_indexOfChar_4cfef 16 = .ok (.baload, 1) := by decide +kernel
theorem dJ1_indexOfChar_4cfef_17 : decode cJ1_indexOfChar_4cfef 17 = .ok (.iload 4, 2) := by decide +kernel
theorem dJ1_indexOfChar_4cfef_19 : decode cJ1_indexOfChar_4cfef 19 = .ok (.if_icmp .ne 6, 3) := by decide +kernel
theorem dJ1_indexOfChar_4cfef_22 : decode cJ1_indexOfChar_4cfef 22 = .ok (.iload 5, 2) := by decide +kernel
theorem dJ1_indexOfChar_4cfef_24 : decode cJ1_indexOfChar_4cfef 24 = .ok (.ireturn, 1) := by decide +kernel
theorem dJ1_indexOfChar_4cfef_25 : decode cJ1_indexOfChar_4cfef 25 = .ok (.iinc 5 1, 3) := by decide +kernel
theorem dJ1_indexOfChar_4cfef_28 : decode cJ1_indexOfChar_4cfef 28 = .ok (.goto (-21), 3) := by decide +kernel
theorem dJ1_indexOfChar_4cfef_31 : decode cJ1_indexOfChar_4cfef 31 = .ok (.iconst (-1), 1) := by decide +kernel
theorem dJ1_indexOfChar_4cfef_32 : decode cJ1_indexOfChar_4cfef 32 = .ok (.ireturn, 1) := by decide +kernel
theorem okJ1_indexOfChar_4cfef : ab_okM MJ1_indexOfChar_4cfef 4 := ⟨by decide, ⟨by decide, by decide⟩, ab_in 1263 (by decide +kernel) (by decide +kernel), ab_in 107 (by decide +kernel) (by decide +kernel), by decide +kernel, by decide⟩
set_option maxHeartbeats 4000000 in
set_option maxRecDepth 100000 in
def lJ1_indexOfChar_4cfef_7 (v0 : Nat) (v3 : Int32) (v4 : Int32) (x : ab_X) (K : Int32 → Prop)  (L7 : Int32 → Prop) (v5 : Int32) : Prop := ((v3 ≤ v5 → K (-1)) ∧ (¬ v3 ≤ v5 → (vp_in v5 (slen v0) ∧ ((¬ (sbyte v0 (Int32.toNatClampNeg v5)) = v4 → L7 (v5 + 1)) ∧ ((sbyte v0 (Int32.toNatClampNeg v5)) = v4 → K v5)))))
set_option maxHeartbeats 4000000 in
set_option maxRecDepth 100000 in
theorem sJ1_indexOfChar_4cfef_7 (v0 : Nat) (v3 : Int32) (v4 : Int32) (v5 : Int32) (hv0 : isSB v0) (x : ab_X) (K : Int32 → Prop)  (d bc bs : Nat) (hdp : 0 ≤ d)  (h : Lp1 (lJ1_indexOfChar_4cfef_7 v0 v3 v4 x K ) v5) : EW MJ1_indexOfChar_4cfef 7 [(0, .ref v0), (3, .int v3), (4, .int v4), (5, .int v5)] [] (aS x) d bc bs (liP x K) := by
  refine Lp1.use (P := fun v5 => EW MJ1_indexOfChar_4cfef 7 [(0, .ref v0), (3, .int v3), (4, .int v4), (5, .int v5)] [] (aS x) d bc bs (liP x K)) (fun L7 v5 hL7 h => ?_) v5 h
  unfold lJ1_indexOfChar_4cfef_7 at h
  refine EW_iload (pc2 := 9) rfl dJ1_indexOfChar_4cfef_7 3 rfl ?_
  refine EW_iload_n (pc2 := 10) rfl dJ1_indexOfChar_4cfef_9 1 rfl ?_
  refine EW_icmp_ge (tgt := 31) (pc2 := 13) rfl dJ1_indexOfChar_4cfef_10 (by decide) (fun q => ?_) (fun q => ?_)
  · replace h := h.1 q
    refine EW_iconst (pc2 := 32) (v := (-1)) rfl dJ1_indexOfChar_4cfef_31 (by decide) ?_
    exact AW_iret rfl dJ1_indexOfChar_4cfef_32 ⟨_, rfl, rfl, h⟩
  · replace h := h.2 q
    refine EW_aload_n (pc2 := 14) rfl dJ1_indexOfChar_4cfef_13 0 rfl ?_
    refine EW_iload (pc2 := 16) rfl dJ1_indexOfChar_4cfef_14 3 rfl ?_
    obtain ⟨b1, h⟩ := h
    refine AW_sbald hv0 (pc2 := 17) rfl dJ1_indexOfChar_4cfef_16 b1 ?_
    refine EW_iload (pc2 := 19) rfl dJ1_indexOfChar_4cfef_17 2 rfl ?_
    refine EW_icmp_ne (tgt := 25) (pc2 := 22) rfl dJ1_indexOfChar_4cfef_19 (by decide) (fun q => ?_) (fun q => ?_)
    · replace h := h.1 q
      refine EW_iinc (v5 + 1) (pc2 := 28) rfl dJ1_indexOfChar_4cfef_25 3 rfl rfl (by decide) [1, 2, 3, 0] [(0, .ref v0), (3, .int v3), (4, .int v4), (5, .int (v5 + 1))] rfl ?_
      refine EW_goto (tgt := 7) dJ1_indexOfChar_4cfef_28 (by decide) ?_
      exact hL7 (v5 + 1) h
    · replace h := h.2 q
      refine EW_iload (pc2 := 24) rfl dJ1_indexOfChar_4cfef_22 3 rfl ?_
      exact AW_iret rfl dJ1_indexOfChar_4cfef_24 ⟨_, rfl, rfl, h⟩
set_option maxHeartbeats 4000000 in
set_option maxRecDepth 100000 in
def wJ1_indexOfChar_4cfef (v0 : Nat) (v1 : Int32) (v2 : Int32) (v3 : Int32) (x : ab_X) (K : Int32 → Prop) : Prop := Lp1 (lJ1_indexOfChar_4cfef_7 v0 v3 (v1).toInt8.toInt32 x K ) v2
set_option maxHeartbeats 4000000 in
set_option maxRecDepth 100000 in
theorem sJ1_indexOfChar_4cfef (v0 : Nat) (v1 : Int32) (v2 : Int32) (v3 : Int32) (hv0 : isSB v0) (x : ab_X) (K : Int32 → Prop) (d bc bs : Nat) (hdp : 0 ≤ d) (h : wJ1_indexOfChar_4cfef v0 v1 v2 v3 x K) : EW MJ1_indexOfChar_4cfef 0 [(0, .ref v0), (1, .int v1), (2, .int v2), (3, .int v3)] [] (aS x) d bc bs (liP x K) := by
  unfold wJ1_indexOfChar_4cfef at h
  refine EW_iload_n (pc2 := 1) rfl dJ1_indexOfChar_4cfef_0 1 rfl ?_
  refine EW_i2b (pc2 := 2) (v := (v1).toInt8.toInt32) rfl dJ1_indexOfChar_4cfef_1 rfl ?_
  refine EW_istore (pc2 := 4) rfl dJ1_indexOfChar_4cfef_2 (by decide) [1, 2, 3, 4, 0] [(0, .ref v0), (1, .int v1), (2, .int v2), (3, .int v3), (4, .int (v1).toInt8.toInt32)] rfl ?_
  refine EW_iload_n (pc2 := 5) rfl dJ1_indexOfChar_4cfef_4 2 rfl ?_
  refine EW_istore (pc2 := 7) rfl dJ1_indexOfChar_4cfef_5 (by decide) [1, 2, 3, 4, 5, 0] [(0, .ref v0), (1, .int v1), (2, .int v2), (3, .int v3), (4, .int (v1).toInt8.toInt32), (5, .int v2)] rfl ?_
  refine EW_ls [0, 3, 4, 5] rfl ?_
  exact sJ1_indexOfChar_4cfef_7 v0 v3 (v1).toInt8.toInt32 v2 hv0 x K d bc bs hdp h
theorem mlRJ1_88 : Cond.methodLink RJ1 88 yJ1_canEncode_9a6ad ∈ ab_G ∧ Cond.static yJ1_canEncode_9a6ad ∈ ab_G := ⟨ab_in 1256 (by decide +kernel) (by decide +kernel), ab_in 1257 (by decide +kernel) (by decide +kernel)⟩
theorem mmRJ1_92 : Cond.methodLink RJ1 92 Lib.Math.max.name ∈ ab_G ∧ Cond.static Lib.Math.max.name ∈ ab_G ∧ Cond.initialized "java/lang/Math" ∈ ab_G ∧ Cond.code Lib.Math.max.name Lib.Math.max.code 2 (some .int) ∈ ab_G := ⟨ab_in 1259 (by decide +kernel) (by decide +kernel), ab_in 909 (by decide +kernel) (by decide +kernel), ab_in 100 (by decide +kernel) (by decide +kernel), ab_in 910 (by decide +kernel) (by decide +kernel)⟩
theorem mmRJ1_38 : Cond.methodLink RJ1 38 Lib.Math.min.name ∈ ab_G ∧ Cond.static Lib.Math.min.name ∈ ab_G ∧ Cond.initialized "java/lang/Math" ∈ ab_G ∧ Cond.code Lib.Math.min.name Lib.Math.min.code 2 (some .int) ∈ ab_G := ⟨ab_in 1260 (by decide +kernel) (by decide +kernel), ab_in 787 (by decide +kernel) (by decide +kernel), ab_in 100 (by decide +kernel) (by decide +kernel), ab_in 788 (by decide +kernel) (by decide +kernel)⟩
theorem mlRJ1_95 : Cond.methodLink RJ1 95 yJ1_indexOfChar_4cfef ∈ ab_G ∧ Cond.static yJ1_indexOfChar_4cfef ∈ ab_G := ⟨ab_in 1261 (by decide +kernel) (by decide +kernel), ab_in 1262 (by decide +kernel) (by decide +kernel)⟩
abbrev MJ1_indexOf_4cfef : ab_M := (yJ1_indexOf_4cfef, cJ1_indexOf_4cfef, 4, (some .int))
theorem dJ1_indexOf_4cfef_0 : decode cJ1_indexOf_4cfef 0 = .ok (.iload_n 1, 1) := by decide +kernel
theorem dJ1_indexOf_4cfef_1 : decode cJ1_indexOf_4cfef 1 = .ok (.invokestatic 88, 3) := by decide +kernel
theorem dJ1_indexOf_4cfef_4 : decode cJ1_indexOf_4cfef 4 = .ok (.ifCond .ne 5, 3) := by decide +kernel
theorem dJ1_indexOf_4cfef_7 : decode cJ1_indexOf_4cfef 7 = .ok (.iconst (-1), 1) := by decide +kernel
theorem dJ1_indexOf_4cfef_8 : decode cJ1_indexOf_4cfef 8 = .ok (.ireturn, 1) := by decide +kernel
theorem dJ1_indexOf_4cfef_9 : decode cJ1_indexOf_4cfef 9 = .ok (.iload_n 2, 1) := by decide +kernel
theorem dJ1_indexOf_4cfef_10 : decode cJ1_indexOf_4cfef 10 = .ok (.iconst 0, 1) := by decide +kernel
theorem dJ1_indexOf_4cfef_11 : decode cJ1_indexOf_4cfef 11 = .ok (.invokestatic 92, 3) := by decide +kernel
theorem dJ1_indexOf_4cfef_14 : decode cJ1_indexOf_4cfef 14 = .ok (.istore_n 2, 1) := by decide +kernel
theorem dJ1_indexOf_4cfef_15 : decode cJ1_indexOf_4cfef 15 = .ok (.iload_n 3, 1) := by decide +kernel
theorem dJ1_indexOf_4cfef_16 : decode cJ1_indexOf_4cfef 16 = .ok (.aload_n 0, 1) := by decide +kernel
theorem dJ1_indexOf_4cfef_17 : decode cJ1_indexOf_4cfef 17 = .ok (.arraylength, 1) := by decide +kernel
theorem dJ1_indexOf_4cfef_18 : decode cJ1_indexOf_4cfef 18 = .ok (.invokestatic 38, 3) := by decide +kernel
theorem dJ1_indexOf_4cfef_21 : decode cJ1_indexOf_4cfef 21 = .ok (.istore_n 3, 1) := by decide +kernel
theorem dJ1_indexOf_4cfef_22 : decode cJ1_indexOf_4cfef 22 = .ok (.iload_n 2, 1) := by decide +kernel
theorem dJ1_indexOf_4cfef_23 : decode cJ1_indexOf_4cfef 23 = .ok (.iload_n 3, 1) := by decide +kernel
theorem dJ1_indexOf_4cfef_24 : decode cJ1_indexOf_4cfef 24 = .ok (.if_icmp .lt 5, 3) := by decide +kernel
theorem dJ1_indexOf_4cfef_27 : decode cJ1_indexOf_4cfef 27 = .ok (.iconst (-1), 1) := by decide +kernel
theorem dJ1_indexOf_4cfef_28 : decode cJ1_indexOf_4cfef 28 = .ok (.ireturn, 1) := by decide +kernel
theorem dJ1_indexOf_4cfef_29 : decode cJ1_indexOf_4cfef 29 = .ok (.aload_n 0, 1) := by decide +kernel
theorem dJ1_indexOf_4cfef_30 : decode cJ1_indexOf_4cfef 30 = .ok (.iload_n 1, 1) := by decide +kernel
theorem dJ1_indexOf_4cfef_31 : decode cJ1_indexOf_4cfef 31 = .ok (.iload_n 2, 1) := by decide +kernel
theorem dJ1_indexOf_4cfef_32 : decode cJ1_indexOf_4cfef 32 = .ok (.iload_n 3, 1) := by decide +kernel
theorem dJ1_indexOf_4cfef_33 : decode cJ1_indexOf_4cfef 33 = .ok (.invokestatic 95, 3) := by decide +kernel
theorem dJ1_indexOf_4cfef_36 : decode cJ1_indexOf_4cfef 36 = .ok (.ireturn, 1) := by decide +kernel
theorem okJ1_indexOf_4cfef : ab_okM MJ1_indexOf_4cfef 4 := ⟨by decide, ⟨by decide, by decide⟩, ab_in 1255 (by decide +kernel) (by decide +kernel), ab_in 107 (by decide +kernel) (by decide +kernel), by decide +kernel, by decide⟩
set_option maxHeartbeats 4000000 in
set_option maxRecDepth 100000 in
def wJ1_indexOf_4cfef (v0 : Nat) (v1 : Int32) (v2 : Int32) (v3 : Int32) (x : ab_X) (K : Int32 → Prop) : Prop := wJ1_canEncode_9a6ad v1 x (fun r1 => ((¬ r1 = 0 → (((imax v2 0) < (imin v3 (Int32.ofNat (slen v0))) → wJ1_indexOfChar_4cfef v0 v1 (imax v2 0) (imin v3 (Int32.ofNat (slen v0))) x (fun r2 => K r2)) ∧ (¬ (imax v2 0) < (imin v3 (Int32.ofNat (slen v0))) → K (-1)))) ∧ (r1 = 0 → K (-1))))
set_option maxHeartbeats 4000000 in
set_option maxRecDepth 100000 in
theorem sJ1_indexOf_4cfef (v0 : Nat) (v1 : Int32) (v2 : Int32) (v3 : Int32) (hv0 : isSB v0) (x : ab_X) (K : Int32 → Prop) (d bc bs : Nat) (hdp : 1 ≤ d) (h : wJ1_indexOf_4cfef v0 v1 v2 v3 x K) : EW MJ1_indexOf_4cfef 0 [(0, .ref v0), (1, .int v1), (2, .int v2), (3, .int v3)] [] (aS x) d bc bs (liP x K) := by
  unfold wJ1_indexOf_4cfef at h
  refine EW_iload_n (pc2 := 1) rfl dJ1_indexOf_4cfef_0 1 rfl ?_
  refine AW_invS (M' := MJ1_canEncode_9a6ad) [.int v1] (rest := []) mlRJ1_88 okJ1_canEncode_9a6ad (pc2 := 4) rfl dJ1_indexOf_4cfef_1 rfl rfl (Nat.le_of_ble_eq_true rfl) (Nat.le_of_ble_eq_true rfl) (d' := 0) (by omega) (EW_mono (fun _ _ hr => ?_) (sJ1_canEncode_9a6ad v1  x _ _ 0 0 (Nat.le_refl _) h))
  obtain ⟨r1, rfl, rfl, h⟩ := hr
  refine EW_if_ne (tgt := 9) (pc2 := 7) rfl dJ1_indexOf_4cfef_4 (by decide) (fun q => ?_) (fun q => ?_)
  · replace h := h.1 q
    refine EW_iload_n (pc2 := 10) rfl dJ1_indexOf_4cfef_9 2 rfl ?_
    refine EW_iconst (pc2 := 11) (v := 0) rfl dJ1_indexOf_4cfef_10 (by decide) ?_
    refine AW_mmax mmRJ1_92 (pc2 := 14) rfl dJ1_indexOf_4cfef_11 (Nat.le_of_ble_eq_true rfl) (by omega) ?_
    refine EW_istore_n (pc2 := 15) rfl dJ1_indexOf_4cfef_14 (by decide) [1, 2, 0, 3] [(0, .ref v0), (1, .int v1), (2, .int (imax v2 0)), (3, .int v3)] rfl ?_
    refine EW_iload_n (pc2 := 16) rfl dJ1_indexOf_4cfef_15 3 rfl ?_
    refine EW_aload_n (pc2 := 17) rfl dJ1_indexOf_4cfef_16 0 rfl ?_
    refine AW_salen hv0 (pc2 := 18) rfl dJ1_indexOf_4cfef_17 ?_
    refine AW_mmin mmRJ1_38 (pc2 := 21) rfl dJ1_indexOf_4cfef_18 (Nat.le_of_ble_eq_true rfl) (by omega) ?_
    refine EW_istore_n (pc2 := 22) rfl dJ1_indexOf_4cfef_21 (by decide) [1, 2, 3, 0] [(0, .ref v0), (1, .int v1), (2, .int (imax v2 0)), (3, .int (imin v3 (Int32.ofNat (slen v0))))] rfl ?_
    refine EW_iload_n (pc2 := 23) rfl dJ1_indexOf_4cfef_22 2 rfl ?_
    refine EW_iload_n (pc2 := 24) rfl dJ1_indexOf_4cfef_23 3 rfl ?_
    refine EW_icmp_lt (tgt := 29) (pc2 := 27) rfl dJ1_indexOf_4cfef_24 (by decide) (fun q => ?_) (fun q => ?_)
    · replace h := h.1 q
      refine EW_aload_n (pc2 := 30) rfl dJ1_indexOf_4cfef_29 0 rfl ?_
      refine EW_iload_n (pc2 := 31) rfl dJ1_indexOf_4cfef_30 1 rfl ?_
      refine EW_iload_n (pc2 := 32) rfl dJ1_indexOf_4cfef_31 2 rfl ?_
      refine EW_iload_n (pc2 := 33) rfl dJ1_indexOf_4cfef_32 3 rfl ?_
      refine AW_invS (M' := MJ1_indexOfChar_4cfef) [.ref v0, .int v1, .int (imax v2 0), .int (imin v3 (Int32.ofNat (slen v0)))] (rest := []) mlRJ1_95 okJ1_indexOfChar_4cfef (pc2 := 36) rfl dJ1_indexOf_4cfef_33 rfl rfl (Nat.le_of_ble_eq_true rfl) (Nat.le_of_ble_eq_true rfl) (d' := 0) (by omega) (EW_mono (fun _ _ hr => ?_) (sJ1_indexOfChar_4cfef v0 v1 (imax v2 0) (imin v3 (Int32.ofNat (slen v0))) hv0 x _ _ 0 0 (Nat.le_refl _) h))
      obtain ⟨r2, rfl, rfl, h⟩ := hr
      exact AW_iret rfl dJ1_indexOf_4cfef_36 ⟨_, rfl, rfl, h⟩
    · replace h := h.2 q
      refine EW_iconst (pc2 := 28) (v := (-1)) rfl dJ1_indexOf_4cfef_27 (by decide) ?_
      exact AW_iret rfl dJ1_indexOf_4cfef_28 ⟨_, rfl, rfl, h⟩
  · replace h := h.2 q
    refine EW_iconst (pc2 := 8) (v := (-1)) rfl dJ1_indexOf_4cfef_7 (by decide) ?_
    exact AW_iret rfl dJ1_indexOf_4cfef_8 ⟨_, rfl, rfl, h⟩
theorem mlRJ0_492 : Cond.methodLink RJ0 492 yJ0_isLatin1_aae02 ∈ ab_G ∧ Cond.instanceMethod yJ0_isLatin1_aae02 ∈ ab_G ∧ Cond.selects RJ0 yJ0_isLatin1_aae02 yJ0_isLatin1_aae02 ∈ ab_G := ⟨ab_in 1239 (by decide +kernel) (by decide +kernel), ab_in 1240 (by decide +kernel) (by decide +kernel), ab_in 1241 (by decide +kernel) (by decide +kernel)⟩
theorem mlRJ0_505 : Cond.methodLink RJ0 505 yJ0_length_8abf5 ∈ ab_G ∧ Cond.instanceMethod yJ0_length_8abf5 ∈ ab_G ∧ Cond.selects RJ0 yJ0_length_8abf5 yJ0_length_8abf5 ∈ ab_G := ⟨ab_in 1245 (by decide +kernel) (by decide +kernel), ab_in 1246 (by decide +kernel) (by decide +kernel), ab_in 1247 (by decide +kernel) (by decide +kernel)⟩
theorem mlRJ0_637 : Cond.methodLink RJ0 637 yJ1_indexOf_4cfef ∈ ab_G ∧ Cond.static yJ1_indexOf_4cfef ∈ ab_G := ⟨ab_in 1253 (by decide +kernel) (by decide +kernel), ab_in 1254 (by decide +kernel) (by decide +kernel)⟩
abbrev MJ0_indexOf_7cf53 : ab_M := (yJ0_indexOf_7cf53, cJ0_indexOf_7cf53, 3, (some .int))
theorem dJ0_indexOf_7cf53_0 : decode cJ0_indexOf_7cf53 0 = .ok (.aload_n 0, 1) := by decide +kernel
theorem dJ0_indexOf_7cf53_1 : decode cJ0_indexOf_7cf53 1 = .ok (.invokevirtual 492, 3) := by decide +kernel
theorem dJ0_indexOf_7cf53_4 : decode cJ0_indexOf_7cf53 4 = .ok (.ifCond .eq 19, 3) := by decide +kernel
theorem dJ0_indexOf_7cf53_7 : decode cJ0_indexOf_7cf53 7 = .ok (.aload_n 0, 1) := by decide +kernel
theorem dJ0_indexOf_7cf53_8 : decode cJ0_indexOf_7cf53 8 = .ok (.getfield 9, 3) := by decide +kernel
theorem dJ0_indexOf_7cf53_11 : decode cJ0_indexOf_7cf53 11 = .ok (.iload_n 1, 1) := by decide +kernel
theorem dJ0_indexOf_7cf53_12 : decode cJ0_indexOf_7cf53 12 = .ok (.iload_n 2, 1) := by decide +kernel
theorem dJ0_indexOf_7cf53_13 : decode cJ0_indexOf_7cf53 13 = .ok (.aload_n 0, 1) := by decide +kernel
theorem dJ0_indexOf_7cf53_14 : decode cJ0_indexOf_7cf53 14 = .ok (.invokevirtual 505, 3) := by decide +kernel
theorem dJ0_indexOf_7cf53_17 : decode cJ0_indexOf_7cf53 17 = .ok (.invokestatic 637, 3) := by decide +kernel
theorem dJ0_indexOf_7cf53_20 : decode cJ0_indexOf_7cf53 20 = .ok (.goto 16, 3) := by decide +kernel
theorem dJ0_indexOf_7cf53_23 : decode cJ0_indexOf_7cf53 23 = .ok (.aload_n 0, 1) := by decide +kernel
theorem dJ0_indexOf_7cf53_24 : decode cJ0_indexOf_7cf53 24 = .ok (.getfield 9, 3) := by decide +kernel
theorem dJ0_indexOf_7cf53_27 : decode cJ0_indexOf_7cf53 27 = .ok (.iload_n 1, 1) := by decide +kernel
theorem dJ0_indexOf_7cf53_28 : decode cJ0_indexOf_7cf53 28 = .ok (.iload_n 2, 1) := by decide +kernel
theorem dJ0_indexOf_7cf53_29 : decode cJ0_indexOf_7cf53 29 = .ok (.aload_n 0, 1) := by decide +kernel
theorem dJ0_indexOf_7cf53_30 : decode cJ0_indexOf_7cf53 30 = .ok (.invokevirtual 505, 3) := by decide +kernel
theorem dJ0_indexOf_7cf53_33 : decode cJ0_indexOf_7cf53 33 = .ok (.invokestatic 640, 3) := by decide +kernel
theorem dJ0_indexOf_7cf53_36 : decode cJ0_indexOf_7cf53 36 = .ok (.ireturn, 1) := by decide +kernel
theorem okJ0_indexOf_7cf53 : ab_okM MJ0_indexOf_7cf53 2 := ⟨by decide, ⟨by decide, by decide⟩, ab_in 1238 (by decide +kernel) (by decide +kernel), ab_in 106 (by decide +kernel) (by decide +kernel), by decide +kernel, by decide⟩
set_option maxHeartbeats 4000000 in
set_option maxRecDepth 100000 in
def wJ0_indexOf_7cf53 (v0 : Nat) (v1 : Int32) (v2 : Int32) (x : ab_X) (K : Int32 → Prop) : Prop := wJ0_isLatin1_aae02 v0 x (fun r1 => ((r1 = 0 → wJ0_length_8abf5 v0 x (fun r2 => False)) ∧ (¬ r1 = 0 → wJ0_length_8abf5 v0 x (fun r3 => wJ1_indexOf_4cfef (v0 + 1000000) v1 v2 r3 x (fun r4 => K r4)))))
set_option maxHeartbeats 4000000 in
set_option maxRecDepth 100000 in
theorem sJ0_indexOf_7cf53 (v0 : Nat) (v1 : Int32) (v2 : Int32) (hv0 : isS v0) (x : ab_X) (K : Int32 → Prop) (d bc bs : Nat) (hdp : 2 ≤ d) (h : wJ0_indexOf_7cf53 v0 v1 v2 x K) : EW MJ0_indexOf_7cf53 0 [(0, .ref v0), (1, .int v1), (2, .int v2)] [] (aS x) d bc bs (liP x K) := by
  unfold wJ0_indexOf_7cf53 at h
  refine EW_aload_n (pc2 := 1) rfl dJ0_indexOf_7cf53_0 0 rfl ?_
  refine AW_invVS (M' := MJ0_isLatin1_aae02) [] (rest := []) mlRJ0_492 okJ0_isLatin1_aae02 (pc2 := 4) rfl dJ0_indexOf_7cf53_1 rfl rfl (Nat.le_of_ble_eq_true rfl) (Nat.le_of_ble_eq_true rfl) (d' := 0) (by omega) hv0 rfl (EW_mono (fun _ _ hr => ?_) (sJ0_isLatin1_aae02 v0 hv0 x _ _ 0 0 (Nat.le_refl _) h))
  obtain ⟨r1, rfl, rfl, h⟩ := hr
  refine EW_if_eq (tgt := 23) (pc2 := 7) rfl dJ0_indexOf_7cf53_4 (by decide) (fun q => ?_) (fun q => ?_)
  · replace h := h.1 q
    refine EW_aload_n (pc2 := 24) rfl dJ0_indexOf_7cf53_23 0 rfl ?_
    refine AW_sval hv0 gfRJ0_9 (pc2 := 27) rfl dJ0_indexOf_7cf53_24 ?_
    refine EW_iload_n (pc2 := 28) rfl dJ0_indexOf_7cf53_27 1 rfl ?_
    refine EW_iload_n (pc2 := 29) rfl dJ0_indexOf_7cf53_28 2 rfl ?_
    refine EW_aload_n (pc2 := 30) rfl dJ0_indexOf_7cf53_29 0 rfl ?_
    refine AW_invVS (M' := MJ0_length_8abf5) [] (rest := [.int v2, .int v1, .ref (v0 + 1000000)]) mlRJ0_505 okJ0_length_8abf5 (pc2 := 33) rfl dJ0_indexOf_7cf53_30 rfl rfl (Nat.le_of_ble_eq_true rfl) (Nat.le_of_ble_eq_true rfl) (d' := 1) (by omega) hv0 rfl (EW_mono (fun _ _ hr => ?_) (sJ0_length_8abf5 v0 hv0 x _ _ 0 0 (Nat.le_refl _) h))
    obtain ⟨r2, rfl, rfl, h⟩ := hr
    exact False.elim h
  · replace h := h.2 q
    refine EW_aload_n (pc2 := 8) rfl dJ0_indexOf_7cf53_7 0 rfl ?_
    refine AW_sval hv0 gfRJ0_9 (pc2 := 11) rfl dJ0_indexOf_7cf53_8 ?_
    refine EW_iload_n (pc2 := 12) rfl dJ0_indexOf_7cf53_11 1 rfl ?_
    refine EW_iload_n (pc2 := 13) rfl dJ0_indexOf_7cf53_12 2 rfl ?_
    refine EW_aload_n (pc2 := 14) rfl dJ0_indexOf_7cf53_13 0 rfl ?_
    refine AW_invVS (M' := MJ0_length_8abf5) [] (rest := [.int v2, .int v1, .ref (v0 + 1000000)]) mlRJ0_505 okJ0_length_8abf5 (pc2 := 17) rfl dJ0_indexOf_7cf53_14 rfl rfl (Nat.le_of_ble_eq_true rfl) (Nat.le_of_ble_eq_true rfl) (d' := 1) (by omega) hv0 rfl (EW_mono (fun _ _ hr => ?_) (sJ0_length_8abf5 v0 hv0 x _ _ 0 0 (Nat.le_refl _) h))
    obtain ⟨r3, rfl, rfl, h⟩ := hr
    refine AW_invS (M' := MJ1_indexOf_4cfef) [.ref (v0 + 1000000), .int v1, .int v2, .int r3] (rest := []) mlRJ0_637 okJ1_indexOf_4cfef (pc2 := 20) rfl dJ0_indexOf_7cf53_17 rfl rfl (Nat.le_of_ble_eq_true rfl) (Nat.le_of_ble_eq_true rfl) (d' := 1) (by omega) (EW_mono (fun _ _ hr => ?_) (sJ1_indexOf_4cfef (v0 + 1000000) v1 v2 r3 (isS.b hv0) x _ _ 0 0 (Nat.le_refl _) h))
    obtain ⟨r4, rfl, rfl, h⟩ := hr
    refine EW_goto (tgt := 36) dJ0_indexOf_7cf53_20 (by decide) ?_
    exact AW_iret rfl dJ0_indexOf_7cf53_36 ⟨_, rfl, rfl, h⟩
theorem mlRJ0_633 : Cond.methodLink RJ0 633 yJ0_indexOf_7cf53 ∈ ab_G ∧ Cond.instanceMethod yJ0_indexOf_7cf53 ∈ ab_G ∧ Cond.selects RJ0 yJ0_indexOf_7cf53 yJ0_indexOf_7cf53 ∈ ab_G := ⟨ab_in 1235 (by decide +kernel) (by decide +kernel), ab_in 1236 (by decide +kernel) (by decide +kernel), ab_in 1237 (by decide +kernel) (by decide +kernel)⟩
abbrev MJ0_indexOf_0f7a4 : ab_M := (yJ0_indexOf_0f7a4, cJ0_indexOf_0f7a4, 2, (some .int))
theorem dJ0_indexOf_0f7a4_0 : decode cJ0_indexOf_0f7a4 0 = .ok (.aload_n 0, 1) := by decide +kernel
theorem dJ0_indexOf_0f7a4_1 : decode cJ0_indexOf_0f7a4 1 = .ok (.iload_n 1, 1) := by decide +kernel
theorem dJ0_indexOf_0f7a4_2 : decode cJ0_indexOf_0f7a4 2 = .ok (.iconst 0, 1) := by decide +kernel
theorem dJ0_indexOf_0f7a4_3 : decode cJ0_indexOf_0f7a4 3 = .ok (.invokevirtual 633, 3) := by decide +kernel
theorem dJ0_indexOf_0f7a4_6 : decode cJ0_indexOf_0f7a4 6 = .ok (.ireturn, 1) := by decide +kernel
theorem okJ0_indexOf_0f7a4 : ab_okM MJ0_indexOf_0f7a4 1 := ⟨by decide, ⟨by decide, by decide⟩, ab_in 1234 (by decide +kernel) (by decide +kernel), ab_in 106 (by decide +kernel) (by decide +kernel), by decide +kernel, by decide⟩
set_option maxHeartbeats 4000000 in
set_option maxRecDepth 100000 in
def wJ0_indexOf_0f7a4 (v0 : Nat) (v1 : Int32) (x : ab_X) (K : Int32 → Prop) : Prop := wJ0_indexOf_7cf53 v0 v1 0 x (fun r1 => K r1)
set_option maxHeartbeats 4000000 in
set_option maxRecDepth 100000 in
theorem sJ0_indexOf_0f7a4 (v0 : Nat) (v1 : Int32) (hv0 : isS v0) (x : ab_X) (K : Int32 → Prop) (d bc bs : Nat) (hdp : 3 ≤ d) (h : wJ0_indexOf_0f7a4 v0 v1 x K) : EW MJ0_indexOf_0f7a4 0 [(0, .ref v0), (1, .int v1)] [] (aS x) d bc bs (liP x K) := by
  unfold wJ0_indexOf_0f7a4 at h
  refine EW_aload_n (pc2 := 1) rfl dJ0_indexOf_0f7a4_0 0 rfl ?_
  refine EW_iload_n (pc2 := 2) rfl dJ0_indexOf_0f7a4_1 1 rfl ?_
  refine EW_iconst (pc2 := 3) (v := 0) rfl dJ0_indexOf_0f7a4_2 (by decide) ?_
  refine AW_invVS (M' := MJ0_indexOf_7cf53) [.int v1, .int 0] (rest := []) mlRJ0_633 okJ0_indexOf_7cf53 (pc2 := 6) rfl dJ0_indexOf_0f7a4_3 rfl rfl (Nat.le_of_ble_eq_true rfl) (Nat.le_of_ble_eq_true rfl) (d' := 2) (by omega) hv0 rfl (EW_mono (fun _ _ hr => ?_) (sJ0_indexOf_7cf53 v0 v1 0 hv0 x _ _ 0 0 (Nat.le_refl _) h))
  obtain ⟨r1, rfl, rfl, h⟩ := hr
  exact AW_iret rfl dJ0_indexOf_0f7a4_6 ⟨_, rfl, rfl, h⟩
theorem cnRJ6_265 : Cond.constant RJ6 265 1431655765 ∈ ab_G := ab_in 1674 (by decide +kernel) (by decide +kernel)
theorem cnRJ6_266 : Cond.constant RJ6 266 858993459 ∈ ab_G := ab_in 1675 (by decide +kernel) (by decide +kernel)
theorem cnRJ6_267 : Cond.constant RJ6 267 252645135 ∈ ab_G := ab_in 1676 (by decide +kernel) (by decide +kernel)
abbrev MJ6_bitCount_0f7a4 : ab_M := (yJ6_bitCount_0f7a4, cJ6_bitCount_0f7a4, 1, (some .int))
theorem dJ6_bitCount_0f7a4_0 : decode cJ6_bitCount_0f7a4 0 = .ok (.iload_n 0, 1) := by decide +kernel
theorem dJ6_bitCount_0f7a4_1 : decode cJ6_bitCount_0f7a4 1 = .ok (.iload_n 0, 1) := by decide +kernel
theorem dJ6_bitCount_0f7a4_2 : decode cJ6_bitCount_0f7a4 2 = .ok (.iconst 1, 1) := by decide +kernel
theorem dJ6_bitCount_0f7a4_3 : decode cJ6_bitCount_0f7a4 3 = .ok (.iushr, 1) := by decide +kernel
theorem dJ6_bitCount_0f7a4_4 : decode cJ6_bitCount_0f7a4 4 = .ok (.ldc_w 265, 3) := by decide +kernel
theorem dJ6_bitCount_0f7a4_7 : decode cJ6_bitCount_0f7a4 7 = .ok (.iand, 1) := by decide +kernel
theorem dJ6_bitCount_0f7a4_8 : decode cJ6_bitCount_0f7a4 8 = .ok (.isub, 1) := by decide +kernel
theorem dJ6_bitCount_0f7a4_9 : decode cJ6_bitCount_0f7a4 9 = .ok (.istore_n 0, 1) := by decide +kernel
theorem dJ6_bitCount_0f7a4_10 : decode cJ6_bitCount_0f7a4 10 = .ok (.iload_n 0, 1) := by decide +kernel
theorem dJ6_bitCount_0f7a4_11 : decode cJ6_bitCount_0f7a4 11 = .ok (.ldc_w 266, 3) := by decide +kernel
theorem dJ6_bitCount_0f7a4_14 : decode cJ6_bitCount_0f7a4 14 = .ok (.iand, 1) := by decide +kernel
theorem dJ6_bitCount_0f7a4_15 : decode cJ6_bitCount_0f7a4 15 = .ok (.iload_n 0, 1) := by decide +kernel
theorem dJ6_bitCount_0f7a4_16 : decode cJ6_bitCount_0f7a4 16 = .ok (.iconst 2, 1) := by decide +kernel
theorem dJ6_bitCount_0f7a4_17 : decode cJ6_bitCount_0f7a4 17 = .ok (.iushr, 1) := by decide +kernel
theorem dJ6_bitCount_0f7a4_18 : decode cJ6_bitCount_0f7a4 18 = .ok (.ldc_w 266, 3) := by decide +kernel
theorem dJ6_bitCount_0f7a4_21 : decode cJ6_bitCount_0f7a4 21 = .ok (.iand, 1) := by decide +kernel
theorem dJ6_bitCount_0f7a4_22 : decode cJ6_bitCount_0f7a4 22 = .ok (.iadd, 1) := by decide +kernel
theorem dJ6_bitCount_0f7a4_23 : decode cJ6_bitCount_0f7a4 23 = .ok (.istore_n 0, 1) := by decide +kernel
theorem dJ6_bitCount_0f7a4_24 : decode cJ6_bitCount_0f7a4 24 = .ok (.iload_n 0, 1) := by decide +kernel
theorem dJ6_bitCount_0f7a4_25 : decode cJ6_bitCount_0f7a4 25 = .ok (.iload_n 0, 1) := by decide +kernel
theorem dJ6_bitCount_0f7a4_26 : decode cJ6_bitCount_0f7a4 26 = .ok (.iconst 4, 1) := by decide +kernel
theorem dJ6_bitCount_0f7a4_27 : decode cJ6_bitCount_0f7a4 27 = .ok (.iushr, 1) := by decide +kernel
theorem dJ6_bitCount_0f7a4_28 : decode cJ6_bitCount_0f7a4 28 = .ok (.iadd, 1) := by decide +kernel
theorem dJ6_bitCount_0f7a4_29 : decode cJ6_bitCount_0f7a4 29 = .ok (.ldc_w 267, 3) := by decide +kernel
theorem dJ6_bitCount_0f7a4_32 : decode cJ6_bitCount_0f7a4 32 = .ok (.iand, 1) := by decide +kernel
theorem dJ6_bitCount_0f7a4_33 : decode cJ6_bitCount_0f7a4 33 = .ok (.istore_n 0, 1) := by decide +kernel
theorem dJ6_bitCount_0f7a4_34 : decode cJ6_bitCount_0f7a4 34 = .ok (.iload_n 0, 1) := by decide +kernel
theorem dJ6_bitCount_0f7a4_35 : decode cJ6_bitCount_0f7a4 35 = .ok (.iload_n 0, 1) := by decide +kernel
theorem dJ6_bitCount_0f7a4_36 : decode cJ6_bitCount_0f7a4 36 = .ok (.bipush 8, 2) := by decide +kernel
theorem dJ6_bitCount_0f7a4_38 : decode cJ6_bitCount_0f7a4 38 = .ok (.iushr, 1) := by decide +kernel
theorem dJ6_bitCount_0f7a4_39 : decode cJ6_bitCount_0f7a4 39 = .ok (.iadd, 1) := by decide +kernel
theorem dJ6_bitCount_0f7a4_40 : decode cJ6_bitCount_0f7a4 40 = .ok (.istore_n 0, 1) := by decide +kernel
theorem dJ6_bitCount_0f7a4_41 : decode cJ6_bitCount_0f7a4 41 = .ok (.iload_n 0, 1) := by decide +kernel
theorem dJ6_bitCount_0f7a4_42 : decode cJ6_bitCount_0f7a4 42 = .ok (.iload_n 0, 1) := by decide +kernel
theorem dJ6_bitCount_0f7a4_43 : decode cJ6_bitCount_0f7a4 43 = .ok (.bipush 16, 2) := by decide +kernel
theorem dJ6_bitCount_0f7a4_45 : decode cJ6_bitCount_0f7a4 45 = .ok (.iushr, 1) := by decide +kernel
theorem dJ6_bitCount_0f7a4_46 : decode cJ6_bitCount_0f7a4 46 = .ok (.iadd, 1) := by decide +kernel
theorem dJ6_bitCount_0f7a4_47 : decode cJ6_bitCount_0f7a4 47 = .ok (.istore_n 0, 1) := by decide +kernel
theorem dJ6_bitCount_0f7a4_48 : decode cJ6_bitCount_0f7a4 48 = .ok (.iload_n 0, 1) := by decide +kernel
theorem dJ6_bitCount_0f7a4_49 : decode cJ6_bitCount_0f7a4 49 = .ok (.bipush 63, 2) := by decide +kernel
theorem dJ6_bitCount_0f7a4_51 : decode cJ6_bitCount_0f7a4 51 = .ok (.iand, 1) := by decide +kernel
theorem dJ6_bitCount_0f7a4_52 : decode cJ6_bitCount_0f7a4 52 = .ok (.ireturn, 1) := by decide +kernel
theorem okJ6_bitCount_0f7a4 : ab_okM MJ6_bitCount_0f7a4 1 := ⟨by decide, ⟨by decide, by decide⟩, ab_in 1673 (by decide +kernel) (by decide +kernel), ab_in 105 (by decide +kernel) (by decide +kernel), by decide +kernel, by decide⟩
set_option maxHeartbeats 4000000 in
set_option maxRecDepth 100000 in
def wJ6_bitCount_0f7a4 (v0 : Int32) (x : ab_X) (K : Int32 → Prop) : Prop := K ((((((((v0 - ((iushr v0 1) &&& 1431655765)) &&& 858993459) + ((iushr (v0 - ((iushr v0 1) &&& 1431655765)) 2) &&& 858993459)) + (iushr (((v0 - ((iushr v0 1) &&& 1431655765)) &&& 858993459) + ((iushr (v0 - ((iushr v0 1) &&& 1431655765)) 2) &&& 858993459)) 4)) &&& 252645135) + (iushr (((((v0 - ((iushr v0 1) &&& 1431655765)) &&& 858993459) + ((iushr (v0 - ((iushr v0 1) &&& 1431655765)) 2) &&& 858993459)) + (iushr (((v0 - ((iushr v0 1) &&& 1431655765)) &&& 858993459) + ((iushr (v0 - ((iushr v0 1) &&& 1431655765)) 2) &&& 858993459)) 4)) &&& 252645135) 8)) + (iushr ((((((v0 - ((iushr v0 1) &&& 1431655765)) &&& 858993459) + ((iushr (v0 - ((iushr v0 1) &&& 1431655765)) 2) &&& 858993459)) + (iushr (((v0 - ((iushr v0 1) &&& 1431655765)) &&& 858993459) + ((iushr (v0 - ((iushr v0 1) &&& 1431655765)) 2) &&& 858993459)) 4)) &&& 252645135) + (iushr (((((v0 - ((iushr v0 1) &&& 1431655765)) &&& 858993459) + ((iushr (v0 - ((iushr v0 1) &&& 1431655765)) 2) &&& 858993459)) + (iushr (((v0 - ((iushr v0 1) &&& 1431655765)) &&& 858993459) + ((iushr (v0 - ((iushr v0 1) &&& 1431655765)) 2) &&& 858993459)) 4)) &&& 252645135) 8)) 16)) &&& 63)
set_option maxHeartbeats 4000000 in
set_option maxRecDepth 100000 in
theorem sJ6_bitCount_0f7a4 (v0 : Int32)  (x : ab_X) (K : Int32 → Prop) (d bc bs : Nat) (hdp : 0 ≤ d) (h : wJ6_bitCount_0f7a4 v0 x K) : EW MJ6_bitCount_0f7a4 0 [(0, .int v0)] [] (aS x) d bc bs (liP x K) := by
  unfold wJ6_bitCount_0f7a4 at h
  refine EW_iload_n (pc2 := 1) rfl dJ6_bitCount_0f7a4_0 0 rfl ?_
  refine EW_iload_n (pc2 := 2) rfl dJ6_bitCount_0f7a4_1 0 rfl ?_
  refine EW_iconst (pc2 := 3) (v := 1) rfl dJ6_bitCount_0f7a4_2 (by decide) ?_
  refine EW_iushr (pc2 := 4) (v := (iushr v0 1)) rfl dJ6_bitCount_0f7a4_3 rfl ?_
  refine EW_ldcw cnRJ6_265 (pc2 := 7) rfl dJ6_bitCount_0f7a4_4 ?_
  refine EW_iand (pc2 := 8) rfl dJ6_bitCount_0f7a4_7 ?_
  refine EW_isub (pc2 := 9) rfl dJ6_bitCount_0f7a4_8 ?_
  refine EW_istore_n (pc2 := 10) rfl dJ6_bitCount_0f7a4_9 (by decide) [0] [(0, .int (v0 - ((iushr v0 1) &&& 1431655765)))] rfl ?_
  refine EW_iload_n (pc2 := 11) rfl dJ6_bitCount_0f7a4_10 0 rfl ?_
  refine EW_ldcw cnRJ6_266 (pc2 := 14) rfl dJ6_bitCount_0f7a4_11 ?_
  refine EW_iand (pc2 := 15) rfl dJ6_bitCount_0f7a4_14 ?_
  refine EW_iload_n (pc2 := 16) rfl dJ6_bitCount_0f7a4_15 0 rfl ?_
  refine EW_iconst (pc2 := 17) (v := 2) rfl dJ6_bitCount_0f7a4_16 (by decide) ?_
  refine EW_iushr (pc2 := 18) (v := (iushr (v0 - ((iushr v0 1) &&& 1431655765)) 2)) rfl dJ6_bitCount_0f7a4_17 rfl ?_
  refine EW_ldcw cnRJ6_266 (pc2 := 21) rfl dJ6_bitCount_0f7a4_18 ?_
  refine EW_iand (pc2 := 22) rfl dJ6_bitCount_0f7a4_21 ?_
  refine EW_iadd (pc2 := 23) rfl dJ6_bitCount_0f7a4_22 ?_
  refine EW_istore_n (pc2 := 24) rfl dJ6_bitCount_0f7a4_23 (by decide) [0] [(0, .int (((v0 - ((iushr v0 1) &&& 1431655765)) &&& 858993459) + ((iushr (v0 - ((iushr v0 1) &&& 1431655765)) 2) &&& 858993459)))] rfl ?_
  refine EW_iload_n (pc2 := 25) rfl dJ6_bitCount_0f7a4_24 0 rfl ?_
  refine EW_iload_n (pc2 := 26) rfl dJ6_bitCount_0f7a4_25 0 rfl ?_
  refine EW_iconst (pc2 := 27) (v := 4) rfl dJ6_bitCount_0f7a4_26 (by decide) ?_
  refine EW_iushr (pc2 := 28) (v := (iushr (((v0 - ((iushr v0 1) &&& 1431655765)) &&& 858993459) + ((iushr (v0 - ((iushr v0 1) &&& 1431655765)) 2) &&& 858993459)) 4)) rfl dJ6_bitCount_0f7a4_27 rfl ?_
  refine EW_iadd (pc2 := 29) rfl dJ6_bitCount_0f7a4_28 ?_
  refine EW_ldcw cnRJ6_267 (pc2 := 32) rfl dJ6_bitCount_0f7a4_29 ?_
  refine EW_iand (pc2 := 33) rfl dJ6_bitCount_0f7a4_32 ?_
  refine EW_istore_n (pc2 := 34) rfl dJ6_bitCount_0f7a4_33 (by decide) [0] [(0, .int (((((v0 - ((iushr v0 1) &&& 1431655765)) &&& 858993459) + ((iushr (v0 - ((iushr v0 1) &&& 1431655765)) 2) &&& 858993459)) + (iushr (((v0 - ((iushr v0 1) &&& 1431655765)) &&& 858993459) + ((iushr (v0 - ((iushr v0 1) &&& 1431655765)) 2) &&& 858993459)) 4)) &&& 252645135))] rfl ?_
  refine EW_iload_n (pc2 := 35) rfl dJ6_bitCount_0f7a4_34 0 rfl ?_
  refine EW_iload_n (pc2 := 36) rfl dJ6_bitCount_0f7a4_35 0 rfl ?_
  refine EW_bipush (pc2 := 38) (v := 8) rfl dJ6_bitCount_0f7a4_36 (by decide) ?_
  refine EW_iushr (pc2 := 39) (v := (iushr (((((v0 - ((iushr v0 1) &&& 1431655765)) &&& 858993459) + ((iushr (v0 - ((iushr v0 1) &&& 1431655765)) 2) &&& 858993459)) + (iushr (((v0 - ((iushr v0 1) &&& 1431655765)) &&& 858993459) + ((iushr (v0 - ((iushr v0 1) &&& 1431655765)) 2) &&& 858993459)) 4)) &&& 252645135) 8)) rfl dJ6_bitCount_0f7a4_38 rfl ?_
  refine EW_iadd (pc2 := 40) rfl dJ6_bitCount_0f7a4_39 ?_
  refine EW_istore_n (pc2 := 41) rfl dJ6_bitCount_0f7a4_40 (by decide) [0] [(0, .int ((((((v0 - ((iushr v0 1) &&& 1431655765)) &&& 858993459) + ((iushr (v0 - ((iushr v0 1) &&& 1431655765)) 2) &&& 858993459)) + (iushr (((v0 - ((iushr v0 1) &&& 1431655765)) &&& 858993459) + ((iushr (v0 - ((iushr v0 1) &&& 1431655765)) 2) &&& 858993459)) 4)) &&& 252645135) + (iushr (((((v0 - ((iushr v0 1) &&& 1431655765)) &&& 858993459) + ((iushr (v0 - ((iushr v0 1) &&& 1431655765)) 2) &&& 858993459)) + (iushr (((v0 - ((iushr v0 1) &&& 1431655765)) &&& 858993459) + ((iushr (v0 - ((iushr v0 1) &&& 1431655765)) 2) &&& 858993459)) 4)) &&& 252645135) 8)))] rfl ?_
  refine EW_iload_n (pc2 := 42) rfl dJ6_bitCount_0f7a4_41 0 rfl ?_
  refine EW_iload_n (pc2 := 43) rfl dJ6_bitCount_0f7a4_42 0 rfl ?_
  refine EW_bipush (pc2 := 45) (v := 16) rfl dJ6_bitCount_0f7a4_43 (by decide) ?_
  refine EW_iushr (pc2 := 46) (v := (iushr ((((((v0 - ((iushr v0 1) &&& 1431655765)) &&& 858993459) + ((iushr (v0 - ((iushr v0 1) &&& 1431655765)) 2) &&& 858993459)) + (iushr (((v0 - ((iushr v0 1) &&& 1431655765)) &&& 858993459) + ((iushr (v0 - ((iushr v0 1) &&& 1431655765)) 2) &&& 858993459)) 4)) &&& 252645135) + (iushr (((((v0 - ((iushr v0 1) &&& 1431655765)) &&& 858993459) + ((iushr (v0 - ((iushr v0 1) &&& 1431655765)) 2) &&& 858993459)) + (iushr (((v0 - ((iushr v0 1) &&& 1431655765)) &&& 858993459) + ((iushr (v0 - ((iushr v0 1) &&& 1431655765)) 2) &&& 858993459)) 4)) &&& 252645135) 8)) 16)) rfl dJ6_bitCount_0f7a4_45 rfl ?_
  refine EW_iadd (pc2 := 47) rfl dJ6_bitCount_0f7a4_46 ?_
  refine EW_istore_n (pc2 := 48) rfl dJ6_bitCount_0f7a4_47 (by decide) [0] [(0, .int (((((((v0 - ((iushr v0 1) &&& 1431655765)) &&& 858993459) + ((iushr (v0 - ((iushr v0 1) &&& 1431655765)) 2) &&& 858993459)) + (iushr (((v0 - ((iushr v0 1) &&& 1431655765)) &&& 858993459) + ((iushr (v0 - ((iushr v0 1) &&& 1431655765)) 2) &&& 858993459)) 4)) &&& 252645135) + (iushr (((((v0 - ((iushr v0 1) &&& 1431655765)) &&& 858993459) + ((iushr (v0 - ((iushr v0 1) &&& 1431655765)) 2) &&& 858993459)) + (iushr (((v0 - ((iushr v0 1) &&& 1431655765)) &&& 858993459) + ((iushr (v0 - ((iushr v0 1) &&& 1431655765)) 2) &&& 858993459)) 4)) &&& 252645135) 8)) + (iushr ((((((v0 - ((iushr v0 1) &&& 1431655765)) &&& 858993459) + ((iushr (v0 - ((iushr v0 1) &&& 1431655765)) 2) &&& 858993459)) + (iushr (((v0 - ((iushr v0 1) &&& 1431655765)) &&& 858993459) + ((iushr (v0 - ((iushr v0 1) &&& 1431655765)) 2) &&& 858993459)) 4)) &&& 252645135) + (iushr (((((v0 - ((iushr v0 1) &&& 1431655765)) &&& 858993459) + ((iushr (v0 - ((iushr v0 1) &&& 1431655765)) 2) &&& 858993459)) + (iushr (((v0 - ((iushr v0 1) &&& 1431655765)) &&& 858993459) + ((iushr (v0 - ((iushr v0 1) &&& 1431655765)) 2) &&& 858993459)) 4)) &&& 252645135) 8)) 16)))] rfl ?_
  refine EW_iload_n (pc2 := 49) rfl dJ6_bitCount_0f7a4_48 0 rfl ?_
  refine EW_bipush (pc2 := 51) (v := 63) rfl dJ6_bitCount_0f7a4_49 (by decide) ?_
  refine EW_iand (pc2 := 52) rfl dJ6_bitCount_0f7a4_51 ?_
  exact AW_iret rfl dJ6_bitCount_0f7a4_52 ⟨_, rfl, rfl, h⟩
