theorem mlRX8_79 : Cond.methodLink RX8 79 yX8_part ∈ ab_G ∧ Cond.instanceMethod yX8_part ∈ ab_G ∧ Cond.selects RX8 yX8_part yX8_part ∈ ab_G := ⟨ab_in 1180 (by decide +kernel) (by decide +kernel), ab_in 1182 (by decide +kernel) (by decide +kernel), ab_in 1 (by decide +kernel) (by decide +kernel)⟩
theorem mlRX8_82 : Cond.methodLink RX8 82 yX8_unit ∈ ab_G ∧ Cond.instanceMethod yX8_unit ∈ ab_G ∧ Cond.selects RX8 yX8_unit yX8_unit ∈ ab_G := ⟨ab_in 1184 (by decide +kernel) (by decide +kernel), ab_in 1186 (by decide +kernel) (by decide +kernel), ab_in 2 (by decide +kernel) (by decide +kernel)⟩
theorem mlRX8_88 : Cond.methodLink RX8 88 yX8_comparison ∈ ab_G ∧ Cond.instanceMethod yX8_comparison ∈ ab_G ∧ Cond.selects RX8 yX8_comparison yX8_comparison ∈ ab_G := ⟨ab_in 1204 (by decide +kernel) (by decide +kernel), ab_in 1206 (by decide +kernel) (by decide +kernel), ab_in 3 (by decide +kernel) (by decide +kernel)⟩
theorem mlRX8_42 : Cond.methodLink RX8 42 yX8_condition ∈ ab_G ∧ Cond.instanceMethod yX8_condition ∈ ab_G ∧ Cond.selects RX8 yX8_condition yX8_condition ∈ ab_G := ⟨ab_in 1176 (by decide +kernel) (by decide +kernel), ab_in 1178 (by decide +kernel) (by decide +kernel), ab_in 0 (by decide +kernel) (by decide +kernel)⟩
abbrev MX8_condition : ab_M := (yX8_condition, cX8_condition, 3, (some .boolean))
theorem dX8_condition_0 : decode cX8_condition 0 = .ok (.aload_n 0, 1) := by decide +kernel
theorem dX8_condition_1 : decode cX8_condition 1 = .ok (.iload_n 1, 1) := by decide +kernel
theorem dX8_condition_2 : decode cX8_condition 2 = .ok (.invokevirtual 79, 3) := by decide +kernel
theorem dX8_condition_5 : decode cX8_condition 5 = .ok (.ifCond .ne 5, 3) := by decide +kernel
theorem dX8_condition_8 : decode cX8_condition 8 = .ok (.iconst 0, 1) := by decide +kernel
theorem dX8_condition_9 : decode cX8_condition 9 = .ok (.ireturn, 1) := by decide +kernel
theorem dX8_condition_10 : decode cX8_condition 10 = .ok (.iconst 0, 1) := by decide +kernel
theorem dX8_condition_11 : decode cX8_condition 11 = .ok (.istore_n 2, 1) := by decide +kernel
theorem dX8_condition_12 : decode cX8_condition 12 = .ok (.iload_n 2, 1) := by decide +kernel
theorem dX8_condition_13 : decode cX8_condition 13 = .ok (.sipush 200, 3) := by decide +kernel
theorem dX8_condition_16 : decode cX8_condition 16 = .ok (.if_icmp .ge 38, 3) := by decide +kernel
theorem dX8_condition_19 : decode cX8_condition 19 = .ok (.aload_n 0, 1) := by decide +kernel
theorem dX8_condition_20 : decode cX8_condition 20 = .ok (.bipush 124, 2) := by decide +kernel
theorem dX8_condition_22 : decode cX8_condition 22 = .ok (.invokevirtual 55, 3) := by decide +kernel
theorem dX8_condition_25 : decode cX8_condition 25 = .ok (.ifCond .eq 29, 3) := by decide +kernel
theorem dX8_condition_28 : decode cX8_condition 28 = .ok (.aload_n 0, 1) := by decide +kernel
theorem dX8_condition_29 : decode cX8_condition 29 = .ok (.iload_n 1, 1) := by decide +kernel
theorem dX8_condition_30 : decode cX8_condition 30 = .ok (.invokevirtual 79, 3) := by decide +kernel
theorem dX8_condition_33 : decode cX8_condition 33 = .ok (.ifCond .ne 5, 3) := by decide +kernel
theorem dX8_condition_36 : decode cX8_condition 36 = .ok (.iconst 0, 1) := by decide +kernel
theorem dX8_condition_37 : decode cX8_condition 37 = .ok (.ireturn, 1) := by decide +kernel
theorem dX8_condition_38 : decode cX8_condition 38 = .ok (.aload_n 0, 1) := by decide +kernel
theorem dX8_condition_39 : decode cX8_condition 39 = .ok (.getfield 24, 3) := by decide +kernel
theorem dX8_condition_42 : decode cX8_condition 42 = .ok (.bipush 10, 2) := by decide +kernel
theorem dX8_condition_44 : decode cX8_condition 44 = .ok (.iconst 0, 1) := by decide +kernel
theorem dX8_condition_45 : decode cX8_condition 45 = .ok (.invokevirtual 58, 3) := by decide +kernel
theorem dX8_condition_48 : decode cX8_condition 48 = .ok (.iinc 2 1, 3) := by decide +kernel
theorem dX8_condition_51 : decode cX8_condition 51 = .ok (.goto (-39), 3) := by decide +kernel
theorem dX8_condition_54 : decode cX8_condition 54 = .ok (.iconst 1, 1) := by decide +kernel
theorem dX8_condition_55 : decode cX8_condition 55 = .ok (.ireturn, 1) := by decide +kernel
theorem okX8_condition : ab_okM MX8_condition 1 := ⟨by decide, ⟨by decide, by decide⟩, ab_in 1179 (by decide +kernel) (by decide +kernel), ab_in 96 (by decide +kernel) (by decide +kernel), by decide +kernel, by decide⟩
abbrev MX8_part : ab_M := (yX8_part, cX8_part, 3, (some .boolean))
theorem dX8_part_0 : decode cX8_part 0 = .ok (.aload_n 0, 1) := by decide +kernel
theorem dX8_part_1 : decode cX8_part 1 = .ok (.iload_n 1, 1) := by decide +kernel
theorem dX8_part_2 : decode cX8_part 2 = .ok (.invokevirtual 82, 3) := by decide +kernel
theorem dX8_part_5 : decode cX8_part 5 = .ok (.ifCond .ne 5, 3) := by decide +kernel
theorem dX8_part_8 : decode cX8_part 8 = .ok (.iconst 0, 1) := by decide +kernel
theorem dX8_part_9 : decode cX8_part 9 = .ok (.ireturn, 1) := by decide +kernel
theorem dX8_part_10 : decode cX8_part 10 = .ok (.iconst 0, 1) := by decide +kernel
theorem dX8_part_11 : decode cX8_part 11 = .ok (.istore_n 2, 1) := by decide +kernel
theorem dX8_part_12 : decode cX8_part 12 = .ok (.iload_n 2, 1) := by decide +kernel
theorem dX8_part_13 : decode cX8_part 13 = .ok (.sipush 200, 3) := by decide +kernel
theorem dX8_part_16 : decode cX8_part 16 = .ok (.if_icmp .ge 38, 3) := by decide +kernel
theorem dX8_part_19 : decode cX8_part 19 = .ok (.aload_n 0, 1) := by decide +kernel
theorem dX8_part_20 : decode cX8_part 20 = .ok (.bipush 38, 2) := by decide +kernel
theorem dX8_part_22 : decode cX8_part 22 = .ok (.invokevirtual 55, 3) := by decide +kernel
theorem dX8_part_25 : decode cX8_part 25 = .ok (.ifCond .eq 29, 3) := by decide +kernel
theorem dX8_part_28 : decode cX8_part 28 = .ok (.aload_n 0, 1) := by decide +kernel
theorem dX8_part_29 : decode cX8_part 29 = .ok (.iload_n 1, 1) := by decide +kernel
theorem dX8_part_30 : decode cX8_part 30 = .ok (.invokevirtual 82, 3) := by decide +kernel
theorem dX8_part_33 : decode cX8_part 33 = .ok (.ifCond .ne 5, 3) := by decide +kernel
theorem dX8_part_36 : decode cX8_part 36 = .ok (.iconst 0, 1) := by decide +kernel
theorem dX8_part_37 : decode cX8_part 37 = .ok (.ireturn, 1) := by decide +kernel
theorem dX8_part_38 : decode cX8_part 38 = .ok (.aload_n 0, 1) := by decide +kernel
theorem dX8_part_39 : decode cX8_part 39 = .ok (.getfield 24, 3) := by decide +kernel
theorem dX8_part_42 : decode cX8_part 42 = .ok (.bipush 9, 2) := by decide +kernel
theorem dX8_part_44 : decode cX8_part 44 = .ok (.iconst 0, 1) := by decide +kernel
theorem dX8_part_45 : decode cX8_part 45 = .ok (.invokevirtual 58, 3) := by decide +kernel
theorem dX8_part_48 : decode cX8_part 48 = .ok (.iinc 2 1, 3) := by decide +kernel
theorem dX8_part_51 : decode cX8_part 51 = .ok (.goto (-39), 3) := by decide +kernel
theorem dX8_part_54 : decode cX8_part 54 = .ok (.iconst 1, 1) := by decide +kernel
theorem dX8_part_55 : decode cX8_part 55 = .ok (.ireturn, 1) := by decide +kernel
theorem okX8_part : ab_okM MX8_part 1 := ⟨by decide, ⟨by decide, by decide⟩, ab_in 1183 (by decide +kernel) (by decide +kernel), ab_in 96 (by decide +kernel) (by decide +kernel), by decide +kernel, by decide⟩
abbrev MX8_unit : ab_M := (yX8_unit, cX8_unit, 3, (some .boolean))
theorem dX8_unit_0 : decode cX8_unit 0 = .ok (.aload_n 0, 1) := by decide +kernel
theorem dX8_unit_1 : decode cX8_unit 1 = .ok (.invokevirtual 46, 3) := by decide +kernel
theorem dX8_unit_4 : decode cX8_unit 4 = .ok (.istore_n 2, 1) := by decide +kernel
theorem dX8_unit_5 : decode cX8_unit 5 = .ok (.iload_n 2, 1) := by decide +kernel
theorem dX8_unit_6 : decode cX8_unit 6 = .ok (.bipush 33, 2) := by decide +kernel
theorem dX8_unit_8 : decode cX8_unit 8 = .ok (.if_icmp .ne 35, 3) := by decide +kernel
theorem dX8_unit_11 : decode cX8_unit 11 = .ok (.aload_n 0, 1) := by decide +kernel
theorem dX8_unit_12 : decode cX8_unit 12 = .ok (.iload_n 1, 1) := by decide +kernel
theorem dX8_unit_13 : decode cX8_unit 13 = .ok (.invokevirtual 85, 3) := by decide +kernel
theorem dX8_unit_16 : decode cX8_unit 16 = .ok (.ifCond .eq 13, 3) := by decide +kernel
theorem dX8_unit_19 : decode cX8_unit 19 = .ok (.aload_n 0, 1) := by decide +kernel
theorem dX8_unit_20 : decode cX8_unit 20 = .ok (.iload_n 1, 1) := by decide +kernel
theorem dX8_unit_21 : decode cX8_unit 21 = .ok (.iconst 1, 1) := by decide +kernel
theorem dX8_unit_22 : decode cX8_unit 22 = .ok (.iadd, 1) := by decide +kernel
theorem dX8_unit_23 : decode cX8_unit 23 = .ok (.invokevirtual 82, 3) := by decide +kernel
theorem dX8_unit_26 : decode cX8_unit 26 = .ok (.ifCond .ne 5, 3) := by decide +kernel
theorem dX8_unit_29 : decode cX8_unit 29 = .ok (.iconst 0, 1) := by decide +kernel
theorem dX8_unit_30 : decode cX8_unit 30 = .ok (.ireturn, 1) := by decide +kernel
theorem dX8_unit_31 : decode cX8_unit 31 = .ok (.aload_n 0, 1) := by decide +kernel
theorem dX8_unit_32 : decode cX8_unit 32 = .ok (.getfield 24, 3) := by decide +kernel
theorem dX8_unit_35 : decode cX8_unit 35 = .ok (.bipush 8, 2) := by decide +kernel
theorem dX8_unit_37 : decode cX8_unit 37 = .ok (.iconst 0, 1) := by decide +kernel
theorem dX8_unit_38 : decode cX8_unit 38 = .ok (.invokevirtual 58, 3) := by decide +kernel
theorem dX8_unit_41 : decode cX8_unit 41 = .ok (.iconst 1, 1) := by decide +kernel
theorem dX8_unit_42 : decode cX8_unit 42 = .ok (.ireturn, 1) := by decide +kernel
theorem dX8_unit_43 : decode cX8_unit 43 = .ok (.iload_n 2, 1) := by decide +kernel
theorem dX8_unit_44 : decode cX8_unit 44 = .ok (.bipush 40, 2) := by decide +kernel
theorem dX8_unit_46 : decode cX8_unit 46 = .ok (.if_icmp .ne 36, 3) := by decide +kernel
theorem dX8_unit_49 : decode cX8_unit 49 = .ok (.aload_n 0, 1) := by decide +kernel
theorem dX8_unit_50 : decode cX8_unit 50 = .ok (.iload_n 1, 1) := by decide +kernel
theorem dX8_unit_51 : decode cX8_unit 51 = .ok (.invokevirtual 85, 3) := by decide +kernel
theorem dX8_unit_54 : decode cX8_unit 54 = .ok (.ifCond .eq 26, 3) := by decide +kernel
theorem dX8_unit_57 : decode cX8_unit 57 = .ok (.aload_n 0, 1) := by decide +kernel
theorem dX8_unit_58 : decode cX8_unit 58 = .ok (.iload_n 1, 1) := by decide +kernel
theorem dX8_unit_59 : decode cX8_unit 59 = .ok (.iconst 1, 1) := by decide +kernel
theorem dX8_unit_60 : decode cX8_unit 60 = .ok (.iadd, 1) := by decide +kernel
theorem dX8_unit_61 : decode cX8_unit 61 = .ok (.invokevirtual 42, 3) := by decide +kernel
theorem dX8_unit_64 : decode cX8_unit 64 = .ok (.ifCond .eq 16, 3) := by decide +kernel
theorem dX8_unit_67 : decode cX8_unit 67 = .ok (.aload_n 0, 1) := by decide +kernel
theorem dX8_unit_68 : decode cX8_unit 68 = .ok (.bipush 41, 2) := by decide +kernel
theorem dX8_unit_70 : decode cX8_unit 70 = .ok (.invokevirtual 55, 3) := by decide +kernel
theorem dX8_unit_73 : decode cX8_unit 73 = .ok (.ifCond .eq 7, 3) := by decide +kernel
theorem dX8_unit_76 : decode cX8_unit 76 = .ok (.iconst 1, 1) := by decide +kernel
theorem dX8_unit_77 : decode cX8_unit 77 = .ok (.goto 4, 3) := by decide +kernel
theorem dX8_unit_80 : decode cX8_unit 80 = .ok (.iconst 0, 1) := by decide +kernel
theorem dX8_unit_81 : decode cX8_unit 81 = .ok (.ireturn, 1) := by decide +kernel
theorem dX8_unit_82 : decode cX8_unit 82 = .ok (.aload_n 0, 1) := by decide +kernel
theorem dX8_unit_83 : decode cX8_unit 83 = .ok (.iload_n 1, 1) := by decide +kernel
theorem dX8_unit_84 : decode cX8_unit 84 = .ok (.invokevirtual 88, 3) := by decide +kernel
theorem dX8_unit_87 : decode cX8_unit 87 = .ok (.ireturn, 1) := by decide +kernel
theorem okX8_unit : ab_okM MX8_unit 1 := ⟨by decide, ⟨by decide, by decide⟩, ab_in 1187 (by decide +kernel) (by decide +kernel), ab_in 96 (by decide +kernel) (by decide +kernel), by decide +kernel, by decide⟩
set_option maxHeartbeats 4000000 in
set_option maxRecDepth 100000 in
def lX8_condition_12 (RX8_condition : Int32 → ab_X → (Int32 → ab_X → Prop) → Prop) (RX8_part : Int32 → ab_X → (Int32 → ab_X → Prop) → Prop) (RX8_unit : Int32 → ab_X → (Int32 → ab_X → Prop) → Prop) (v1 : Int32) (K : Int32 → ab_X → Prop)  (L12 : Int32 → ab_X → Prop) (v2 : Int32) (x : ab_X) : Prop := ((200 ≤ v2 → K 1 x) ∧ (¬ 200 ≤ v2 → wX8_passes 124 x (fun r3 x4 => ((r3 = 0 → K 1 x4) ∧ (¬ r3 = 0 → RX8_part v1 x4 (fun r5 x6 => ((¬ r5 = 0 → wX9_add 160 10 0 x6 (fun x7 => L12 (v2 + 1) x7)) ∧ (r5 = 0 → K 0 x6))))))))
set_option maxHeartbeats 4000000 in
set_option maxRecDepth 100000 in
theorem sX8_condition_12 (RX8_condition : Int32 → ab_X → (Int32 → ab_X → Prop) → Prop) (RX8_part : Int32 → ab_X → (Int32 → ab_X → Prop) → Prop) (RX8_unit : Int32 → ab_X → (Int32 → ab_X → Prop) → Prop) (v1 : Int32) (v2 : Int32)  (x : ab_X) (K : Int32 → ab_X → Prop)  (d bc bs : Nat) (hdp : 2 ≤ d) (dr : Nat) (hRX8_condition : ∀ (v1 : Int32)  (x : ab_X) (K : Int32 → ab_X → Prop), RX8_condition v1 x K → EW MX8_condition 0 [(0, .ref 158), (1, .int v1)] [] (aS x) dr 0 0 (liI K)) (hRX8_part : ∀ (v1 : Int32)  (x : ab_X) (K : Int32 → ab_X → Prop), RX8_part v1 x K → EW MX8_part 0 [(0, .ref 158), (1, .int v1)] [] (aS x) dr 0 0 (liI K)) (hRX8_unit : ∀ (v1 : Int32)  (x : ab_X) (K : Int32 → ab_X → Prop), RX8_unit v1 x K → EW MX8_unit 0 [(0, .ref 158), (1, .int v1)] [] (aS x) dr 0 0 (liI K)) (hdr : dr + 1 ≤ d)  (h : Lp2 (lX8_condition_12 RX8_condition RX8_part RX8_unit v1 K ) v2 x) : EW MX8_condition 12 [(0, .ref 158), (1, .int v1), (2, .int v2)] [] (aS x) d bc bs (liI K) := by
  refine Lp2.use (P := fun v2 x => EW MX8_condition 12 [(0, .ref 158), (1, .int v1), (2, .int v2)] [] (aS x) d bc bs (liI K)) (fun L12 v2 x hL12 h => ?_) v2 x h
  unfold lX8_condition_12 at h
  refine EW_iload_n (pc2 := 13) rfl dX8_condition_12 2 rfl ?_
  refine EW_sipush (pc2 := 16) (v := 200) rfl dX8_condition_13 (by decide) ?_
  refine EW_icmp_ge (tgt := 54) (pc2 := 19) rfl dX8_condition_16 (by decide) (fun q => ?_) (fun q => ?_)
  · replace h := h.1 q
    refine EW_iconst (pc2 := 55) (v := 1) rfl dX8_condition_54 (by decide) ?_
    exact AW_zret rfl isB1 dX8_condition_55 ⟨_, _, rfl, rfl, h⟩
  · replace h := h.2 q
    refine EW_aload_n (pc2 := 20) rfl dX8_condition_19 0 rfl ?_
    refine EW_bipush (pc2 := 22) (v := 124) rfl dX8_condition_20 (by decide) ?_
    refine AW_invV (M' := MX8_passes) [.int 124] (rest := []) mlRX8_55 okX8_passes (pc2 := 25) rfl dX8_condition_22 rfl rfl (Nat.le_of_ble_eq_true rfl) (Nat.le_of_ble_eq_true rfl) (d' := 1) (by omega) q158 ⟨by decide, rfl⟩ (EW_mono (fun _ _ hr => ?_) (sX8_passes 124  x _ _ 0 0 (Nat.le_refl _) h))
    obtain ⟨r3, x4, rfl, rfl, h⟩ := hr
    refine EW_if_eq (tgt := 54) (pc2 := 28) rfl dX8_condition_25 (by decide) (fun q => ?_) (fun q => ?_)
    · replace h := h.1 q
      refine EW_iconst (pc2 := 55) (v := 1) rfl dX8_condition_54 (by decide) ?_
      exact AW_zret rfl isB1 dX8_condition_55 ⟨_, _, rfl, rfl, h⟩
    · replace h := h.2 q
      refine EW_aload_n (pc2 := 29) rfl dX8_condition_28 0 rfl ?_
      refine EW_iload_n (pc2 := 30) rfl dX8_condition_29 1 rfl ?_
      refine AW_invV (M' := MX8_part) [.int v1] (rest := []) mlRX8_79 okX8_part (pc2 := 33) rfl dX8_condition_30 rfl rfl (Nat.le_of_ble_eq_true rfl) (Nat.le_of_ble_eq_true rfl) (d' := dr) (by omega) q158 ⟨by decide, rfl⟩ (EW_mono (fun _ _ hr => ?_) (hRX8_part v1  x4 _  h))
      obtain ⟨r5, x6, rfl, rfl, h⟩ := hr
      refine EW_if_ne (tgt := 38) (pc2 := 36) rfl dX8_condition_33 (by decide) (fun q => ?_) (fun q => ?_)
      · replace h := h.1 q
        refine EW_aload_n (pc2 := 39) rfl dX8_condition_38 0 rfl ?_
        refine AW_getr (r := 160) ⟨gfRX8_24, rfl⟩ (pc2 := 42) rfl dX8_condition_39 q158 rfl ?_
        refine EW_bipush (pc2 := 44) (v := 10) rfl dX8_condition_42 (by decide) ?_
        refine EW_iconst (pc2 := 45) (v := 0) rfl dX8_condition_44 (by decide) ?_
        refine AW_invV (M' := MX9_add) [.int 10, .int 0] (rest := []) mlRX8_58 okX9_add (pc2 := 48) rfl dX8_condition_45 rfl rfl (Nat.le_of_ble_eq_true rfl) (Nat.le_of_ble_eq_true rfl) (d' := 0) (by omega) q160 ⟨by decide, rfl⟩ (EW_mono (fun _ _ hr => ?_) (sX9_add 160 10 0 (Or.inr (Or.inr (Or.inl rfl)) : isT 160) x6 _ _ 0 0 (Nat.le_refl _) h))
        obtain ⟨x7, rfl, rfl, h⟩ := hr
        refine EW_iinc (v2 + 1) (pc2 := 51) rfl dX8_condition_48 2 rfl rfl (by decide) [1, 2, 0] [(0, .ref 158), (1, .int v1), (2, .int (v2 + 1))] rfl ?_
        refine EW_goto (tgt := 12) dX8_condition_51 (by decide) ?_
        exact hL12 (v2 + 1) x7 h
      · replace h := h.2 q
        refine EW_iconst (pc2 := 37) (v := 0) rfl dX8_condition_36 (by decide) ?_
        exact AW_zret rfl isB0 dX8_condition_37 ⟨_, _, rfl, rfl, h⟩
set_option maxHeartbeats 4000000 in
set_option maxRecDepth 100000 in
def bX8_condition (RX8_condition : Int32 → ab_X → (Int32 → ab_X → Prop) → Prop) (RX8_part : Int32 → ab_X → (Int32 → ab_X → Prop) → Prop) (RX8_unit : Int32 → ab_X → (Int32 → ab_X → Prop) → Prop) (v1 : Int32) (x : ab_X) (K : Int32 → ab_X → Prop) : Prop := RX8_part v1 x (fun r1 x2 => ((¬ r1 = 0 → Lp2 (lX8_condition_12 RX8_condition RX8_part RX8_unit v1 K ) 0 x2) ∧ (r1 = 0 → K 0 x2)))
set_option maxHeartbeats 4000000 in
set_option maxRecDepth 100000 in
theorem bsX8_condition (RX8_condition : Int32 → ab_X → (Int32 → ab_X → Prop) → Prop) (RX8_part : Int32 → ab_X → (Int32 → ab_X → Prop) → Prop) (RX8_unit : Int32 → ab_X → (Int32 → ab_X → Prop) → Prop) (v1 : Int32)  (x : ab_X) (K : Int32 → ab_X → Prop) (d bc bs : Nat) (hdp : 2 ≤ d) (dr : Nat) (hRX8_condition : ∀ (v1 : Int32)  (x : ab_X) (K : Int32 → ab_X → Prop), RX8_condition v1 x K → EW MX8_condition 0 [(0, .ref 158), (1, .int v1)] [] (aS x) dr 0 0 (liI K)) (hRX8_part : ∀ (v1 : Int32)  (x : ab_X) (K : Int32 → ab_X → Prop), RX8_part v1 x K → EW MX8_part 0 [(0, .ref 158), (1, .int v1)] [] (aS x) dr 0 0 (liI K)) (hRX8_unit : ∀ (v1 : Int32)  (x : ab_X) (K : Int32 → ab_X → Prop), RX8_unit v1 x K → EW MX8_unit 0 [(0, .ref 158), (1, .int v1)] [] (aS x) dr 0 0 (liI K)) (hdr : dr + 1 ≤ d) (h : bX8_condition RX8_condition RX8_part RX8_unit v1 x K) : EW MX8_condition 0 [(0, .ref 158), (1, .int v1)] [] (aS x) d bc bs (liI K) := by
  unfold bX8_condition at h
  refine EW_aload_n (pc2 := 1) rfl dX8_condition_0 0 rfl ?_
  refine EW_iload_n (pc2 := 2) rfl dX8_condition_1 1 rfl ?_
  refine AW_invV (M' := MX8_part) [.int v1] (rest := []) mlRX8_79 okX8_part (pc2 := 5) rfl dX8_condition_2 rfl rfl (Nat.le_of_ble_eq_true rfl) (Nat.le_of_ble_eq_true rfl) (d' := dr) (by omega) q158 ⟨by decide, rfl⟩ (EW_mono (fun _ _ hr => ?_) (hRX8_part v1  x _  h))
  obtain ⟨r1, x2, rfl, rfl, h⟩ := hr
  refine EW_if_ne (tgt := 10) (pc2 := 8) rfl dX8_condition_5 (by decide) (fun q => ?_) (fun q => ?_)
  · replace h := h.1 q
    refine EW_iconst (pc2 := 11) (v := 0) rfl dX8_condition_10 (by decide) ?_
    refine EW_istore_n (pc2 := 12) rfl dX8_condition_11 (by decide) [1, 2, 0] [(0, .ref 158), (1, .int v1), (2, .int 0)] rfl ?_
    exact sX8_condition_12 RX8_condition RX8_part RX8_unit v1 0 x2 K d bc bs hdp dr hRX8_condition hRX8_part hRX8_unit hdr h
  · replace h := h.2 q
    refine EW_iconst (pc2 := 9) (v := 0) rfl dX8_condition_8 (by decide) ?_
    exact AW_zret rfl isB0 dX8_condition_9 ⟨_, _, rfl, rfl, h⟩
set_option maxHeartbeats 4000000 in
set_option maxRecDepth 100000 in
def lX8_part_12 (RX8_condition : Int32 → ab_X → (Int32 → ab_X → Prop) → Prop) (RX8_part : Int32 → ab_X → (Int32 → ab_X → Prop) → Prop) (RX8_unit : Int32 → ab_X → (Int32 → ab_X → Prop) → Prop) (v1 : Int32) (K : Int32 → ab_X → Prop)  (L12 : Int32 → ab_X → Prop) (v2 : Int32) (x : ab_X) : Prop := ((200 ≤ v2 → K 1 x) ∧ (¬ 200 ≤ v2 → wX8_passes 38 x (fun r3 x4 => ((r3 = 0 → K 1 x4) ∧ (¬ r3 = 0 → RX8_unit v1 x4 (fun r5 x6 => ((¬ r5 = 0 → wX9_add 160 9 0 x6 (fun x7 => L12 (v2 + 1) x7)) ∧ (r5 = 0 → K 0 x6))))))))
set_option maxHeartbeats 4000000 in
set_option maxRecDepth 100000 in
theorem sX8_part_12 (RX8_condition : Int32 → ab_X → (Int32 → ab_X → Prop) → Prop) (RX8_part : Int32 → ab_X → (Int32 → ab_X → Prop) → Prop) (RX8_unit : Int32 → ab_X → (Int32 → ab_X → Prop) → Prop) (v1 : Int32) (v2 : Int32)  (x : ab_X) (K : Int32 → ab_X → Prop)  (d bc bs : Nat) (hdp : 2 ≤ d) (dr : Nat) (hRX8_condition : ∀ (v1 : Int32)  (x : ab_X) (K : Int32 → ab_X → Prop), RX8_condition v1 x K → EW MX8_condition 0 [(0, .ref 158), (1, .int v1)] [] (aS x) dr 0 0 (liI K)) (hRX8_part : ∀ (v1 : Int32)  (x : ab_X) (K : Int32 → ab_X → Prop), RX8_part v1 x K → EW MX8_part 0 [(0, .ref 158), (1, .int v1)] [] (aS x) dr 0 0 (liI K)) (hRX8_unit : ∀ (v1 : Int32)  (x : ab_X) (K : Int32 → ab_X → Prop), RX8_unit v1 x K → EW MX8_unit 0 [(0, .ref 158), (1, .int v1)] [] (aS x) dr 0 0 (liI K)) (hdr : dr + 1 ≤ d)  (h : Lp2 (lX8_part_12 RX8_condition RX8_part RX8_unit v1 K ) v2 x) : EW MX8_part 12 [(0, .ref 158), (1, .int v1), (2, .int v2)] [] (aS x) d bc bs (liI K) := by
  refine Lp2.use (P := fun v2 x => EW MX8_part 12 [(0, .ref 158), (1, .int v1), (2, .int v2)] [] (aS x) d bc bs (liI K)) (fun L12 v2 x hL12 h => ?_) v2 x h
  unfold lX8_part_12 at h
  refine EW_iload_n (pc2 := 13) rfl dX8_part_12 2 rfl ?_
  refine EW_sipush (pc2 := 16) (v := 200) rfl dX8_part_13 (by decide) ?_
  refine EW_icmp_ge (tgt := 54) (pc2 := 19) rfl dX8_part_16 (by decide) (fun q => ?_) (fun q => ?_)
  · replace h := h.1 q
    refine EW_iconst (pc2 := 55) (v := 1) rfl dX8_part_54 (by decide) ?_
    exact AW_zret rfl isB1 dX8_part_55 ⟨_, _, rfl, rfl, h⟩
  · replace h := h.2 q
    refine EW_aload_n (pc2 := 20) rfl dX8_part_19 0 rfl ?_
    refine EW_bipush (pc2 := 22) (v := 38) rfl dX8_part_20 (by decide) ?_
    refine AW_invV (M' := MX8_passes) [.int 38] (rest := []) mlRX8_55 okX8_passes (pc2 := 25) rfl dX8_part_22 rfl rfl (Nat.le_of_ble_eq_true rfl) (Nat.le_of_ble_eq_true rfl) (d' := 1) (by omega) q158 ⟨by decide, rfl⟩ (EW_mono (fun _ _ hr => ?_) (sX8_passes 38  x _ _ 0 0 (Nat.le_refl _) h))
    obtain ⟨r3, x4, rfl, rfl, h⟩ := hr
    refine EW_if_eq (tgt := 54) (pc2 := 28) rfl dX8_part_25 (by decide) (fun q => ?_) (fun q => ?_)
    · replace h := h.1 q
      refine EW_iconst (pc2 := 55) (v := 1) rfl dX8_part_54 (by decide) ?_
      exact AW_zret rfl isB1 dX8_part_55 ⟨_, _, rfl, rfl, h⟩
    · replace h := h.2 q
      refine EW_aload_n (pc2 := 29) rfl dX8_part_28 0 rfl ?_
      refine EW_iload_n (pc2 := 30) rfl dX8_part_29 1 rfl ?_
      refine AW_invV (M' := MX8_unit) [.int v1] (rest := []) mlRX8_82 okX8_unit (pc2 := 33) rfl dX8_part_30 rfl rfl (Nat.le_of_ble_eq_true rfl) (Nat.le_of_ble_eq_true rfl) (d' := dr) (by omega) q158 ⟨by decide, rfl⟩ (EW_mono (fun _ _ hr => ?_) (hRX8_unit v1  x4 _  h))
      obtain ⟨r5, x6, rfl, rfl, h⟩ := hr
      refine EW_if_ne (tgt := 38) (pc2 := 36) rfl dX8_part_33 (by decide) (fun q => ?_) (fun q => ?_)
      · replace h := h.1 q
        refine EW_aload_n (pc2 := 39) rfl dX8_part_38 0 rfl ?_
        refine AW_getr (r := 160) ⟨gfRX8_24, rfl⟩ (pc2 := 42) rfl dX8_part_39 q158 rfl ?_
        refine EW_bipush (pc2 := 44) (v := 9) rfl dX8_part_42 (by decide) ?_
        refine EW_iconst (pc2 := 45) (v := 0) rfl dX8_part_44 (by decide) ?_
        refine AW_invV (M' := MX9_add) [.int 9, .int 0] (rest := []) mlRX8_58 okX9_add (pc2 := 48) rfl dX8_part_45 rfl rfl (Nat.le_of_ble_eq_true rfl) (Nat.le_of_ble_eq_true rfl) (d' := 0) (by omega) q160 ⟨by decide, rfl⟩ (EW_mono (fun _ _ hr => ?_) (sX9_add 160 9 0 (Or.inr (Or.inr (Or.inl rfl)) : isT 160) x6 _ _ 0 0 (Nat.le_refl _) h))
        obtain ⟨x7, rfl, rfl, h⟩ := hr
        refine EW_iinc (v2 + 1) (pc2 := 51) rfl dX8_part_48 2 rfl rfl (by decide) [1, 2, 0] [(0, .ref 158), (1, .int v1), (2, .int (v2 + 1))] rfl ?_
        refine EW_goto (tgt := 12) dX8_part_51 (by decide) ?_
        exact hL12 (v2 + 1) x7 h
      · replace h := h.2 q
        refine EW_iconst (pc2 := 37) (v := 0) rfl dX8_part_36 (by decide) ?_
        exact AW_zret rfl isB0 dX8_part_37 ⟨_, _, rfl, rfl, h⟩
set_option maxHeartbeats 4000000 in
set_option maxRecDepth 100000 in
def bX8_part (RX8_condition : Int32 → ab_X → (Int32 → ab_X → Prop) → Prop) (RX8_part : Int32 → ab_X → (Int32 → ab_X → Prop) → Prop) (RX8_unit : Int32 → ab_X → (Int32 → ab_X → Prop) → Prop) (v1 : Int32) (x : ab_X) (K : Int32 → ab_X → Prop) : Prop := RX8_unit v1 x (fun r1 x2 => ((¬ r1 = 0 → Lp2 (lX8_part_12 RX8_condition RX8_part RX8_unit v1 K ) 0 x2) ∧ (r1 = 0 → K 0 x2)))
set_option maxHeartbeats 4000000 in
set_option maxRecDepth 100000 in
theorem bsX8_part (RX8_condition : Int32 → ab_X → (Int32 → ab_X → Prop) → Prop) (RX8_part : Int32 → ab_X → (Int32 → ab_X → Prop) → Prop) (RX8_unit : Int32 → ab_X → (Int32 → ab_X → Prop) → Prop) (v1 : Int32)  (x : ab_X) (K : Int32 → ab_X → Prop) (d bc bs : Nat) (hdp : 2 ≤ d) (dr : Nat) (hRX8_condition : ∀ (v1 : Int32)  (x : ab_X) (K : Int32 → ab_X → Prop), RX8_condition v1 x K → EW MX8_condition 0 [(0, .ref 158), (1, .int v1)] [] (aS x) dr 0 0 (liI K)) (hRX8_part : ∀ (v1 : Int32)  (x : ab_X) (K : Int32 → ab_X → Prop), RX8_part v1 x K → EW MX8_part 0 [(0, .ref 158), (1, .int v1)] [] (aS x) dr 0 0 (liI K)) (hRX8_unit : ∀ (v1 : Int32)  (x : ab_X) (K : Int32 → ab_X → Prop), RX8_unit v1 x K → EW MX8_unit 0 [(0, .ref 158), (1, .int v1)] [] (aS x) dr 0 0 (liI K)) (hdr : dr + 1 ≤ d) (h : bX8_part RX8_condition RX8_part RX8_unit v1 x K) : EW MX8_part 0 [(0, .ref 158), (1, .int v1)] [] (aS x) d bc bs (liI K) := by
  unfold bX8_part at h
  refine EW_aload_n (pc2 := 1) rfl dX8_part_0 0 rfl ?_
  refine EW_iload_n (pc2 := 2) rfl dX8_part_1 1 rfl ?_
  refine AW_invV (M' := MX8_unit) [.int v1] (rest := []) mlRX8_82 okX8_unit (pc2 := 5) rfl dX8_part_2 rfl rfl (Nat.le_of_ble_eq_true rfl) (Nat.le_of_ble_eq_true rfl) (d' := dr) (by omega) q158 ⟨by decide, rfl⟩ (EW_mono (fun _ _ hr => ?_) (hRX8_unit v1  x _  h))
  obtain ⟨r1, x2, rfl, rfl, h⟩ := hr
  refine EW_if_ne (tgt := 10) (pc2 := 8) rfl dX8_part_5 (by decide) (fun q => ?_) (fun q => ?_)
  · replace h := h.1 q
    refine EW_iconst (pc2 := 11) (v := 0) rfl dX8_part_10 (by decide) ?_
    refine EW_istore_n (pc2 := 12) rfl dX8_part_11 (by decide) [1, 2, 0] [(0, .ref 158), (1, .int v1), (2, .int 0)] rfl ?_
    exact sX8_part_12 RX8_condition RX8_part RX8_unit v1 0 x2 K d bc bs hdp dr hRX8_condition hRX8_part hRX8_unit hdr h
  · replace h := h.2 q
    refine EW_iconst (pc2 := 9) (v := 0) rfl dX8_part_8 (by decide) ?_
    exact AW_zret rfl isB0 dX8_part_9 ⟨_, _, rfl, rfl, h⟩
set_option maxHeartbeats 4000000 in
set_option maxRecDepth 100000 in
def bX8_unit (RX8_condition : Int32 → ab_X → (Int32 → ab_X → Prop) → Prop) (RX8_part : Int32 → ab_X → (Int32 → ab_X → Prop) → Prop) (RX8_unit : Int32 → ab_X → (Int32 → ab_X → Prop) → Prop) (v1 : Int32) (x : ab_X) (K : Int32 → ab_X → Prop) : Prop := wX8_peek x (fun r1 x2 => ((¬ r1 = 33 → ((¬ r1 = 40 → wX8_comparison v1 x2 (fun r3 x4 => (isB r3 ∧ K r3 x4))) ∧ (r1 = 40 → wX8_opens v1 x2 (fun r6 x7 => ((r6 = 0 → K 0 x7) ∧ (¬ r6 = 0 → RX8_condition (v1 + 1) x7 (fun r8 x9 => ((r8 = 0 → K 0 x9) ∧ (¬ r8 = 0 → wX8_passes 41 x9 (fun r10 x11 => ((r10 = 0 → K 0 x11) ∧ (¬ r10 = 0 → K 1 x11)))))))))))) ∧ (r1 = 33 → wX8_opens v1 x2 (fun r12 x13 => ((r12 = 0 → K 0 x13) ∧ (¬ r12 = 0 → RX8_unit (v1 + 1) x13 (fun r14 x15 => ((¬ r14 = 0 → wX9_add 160 8 0 x15 (fun x16 => K 1 x16)) ∧ (r14 = 0 → K 0 x15)))))))))
set_option maxHeartbeats 4000000 in
set_option maxRecDepth 100000 in
theorem bsX8_unit (RX8_condition : Int32 → ab_X → (Int32 → ab_X → Prop) → Prop) (RX8_part : Int32 → ab_X → (Int32 → ab_X → Prop) → Prop) (RX8_unit : Int32 → ab_X → (Int32 → ab_X → Prop) → Prop) (v1 : Int32)  (x : ab_X) (K : Int32 → ab_X → Prop) (d bc bs : Nat) (hdp : 108 ≤ d) (dr : Nat) (hRX8_condition : ∀ (v1 : Int32)  (x : ab_X) (K : Int32 → ab_X → Prop), RX8_condition v1 x K → EW MX8_condition 0 [(0, .ref 158), (1, .int v1)] [] (aS x) dr 0 0 (liI K)) (hRX8_part : ∀ (v1 : Int32)  (x : ab_X) (K : Int32 → ab_X → Prop), RX8_part v1 x K → EW MX8_part 0 [(0, .ref 158), (1, .int v1)] [] (aS x) dr 0 0 (liI K)) (hRX8_unit : ∀ (v1 : Int32)  (x : ab_X) (K : Int32 → ab_X → Prop), RX8_unit v1 x K → EW MX8_unit 0 [(0, .ref 158), (1, .int v1)] [] (aS x) dr 0 0 (liI K)) (hdr : dr + 1 ≤ d) (h : bX8_unit RX8_condition RX8_part RX8_unit v1 x K) : EW MX8_unit 0 [(0, .ref 158), (1, .int v1)] [] (aS x) d bc bs (liI K) := by
  unfold bX8_unit at h
  refine EW_aload_n (pc2 := 1) rfl dX8_unit_0 0 rfl ?_
  refine AW_invV (M' := MX8_peek) [] (rest := []) mlRX8_46 okX8_peek (pc2 := 4) rfl dX8_unit_1 rfl rfl (Nat.le_of_ble_eq_true rfl) (Nat.le_of_ble_eq_true rfl) (d' := 0) (by omega) q158 ⟨by decide, rfl⟩ (EW_mono (fun _ _ hr => ?_) (sX8_peek   x _ _ 0 0 (Nat.le_refl _) h))
  obtain ⟨r1, x2, rfl, rfl, h⟩ := hr
  refine EW_istore_n (pc2 := 5) rfl dX8_unit_4 (by decide) [1, 2, 0] [(0, .ref 158), (1, .int v1), (2, .int r1)] rfl ?_
  refine EW_iload_n (pc2 := 6) rfl dX8_unit_5 2 rfl ?_
  refine EW_bipush (pc2 := 8) (v := 33) rfl dX8_unit_6 (by decide) ?_
  refine EW_icmp_ne (tgt := 43) (pc2 := 11) rfl dX8_unit_8 (by decide) (fun q => ?_) (fun q => ?_)
  · replace h := h.1 q
    refine EW_iload_n (pc2 := 44) rfl dX8_unit_43 2 rfl ?_
    refine EW_bipush (pc2 := 46) (v := 40) rfl dX8_unit_44 (by decide) ?_
    refine EW_icmp_ne (tgt := 82) (pc2 := 49) rfl dX8_unit_46 (by decide) (fun q => ?_) (fun q => ?_)
    · replace h := h.1 q
      refine EW_aload_n (pc2 := 83) rfl dX8_unit_82 0 rfl ?_
      refine EW_iload_n (pc2 := 84) rfl dX8_unit_83 1 rfl ?_
      refine AW_invV (M' := MX8_comparison) [.int v1] (rest := []) mlRX8_88 okX8_comparison (pc2 := 87) rfl dX8_unit_84 rfl rfl (Nat.le_of_ble_eq_true rfl) (Nat.le_of_ble_eq_true rfl) (d' := 107) (by omega) q158 ⟨by decide, rfl⟩ (EW_mono (fun _ _ hr => ?_) (sX8_comparison v1  x2 _ _ 0 0 (Nat.le_refl _) h))
      obtain ⟨r3, x4, rfl, rfl, h⟩ := hr
      obtain ⟨z5, h⟩ := h
      exact AW_zret rfl z5 dX8_unit_87 ⟨_, _, rfl, rfl, h⟩
    · replace h := h.2 q
      refine EW_aload_n (pc2 := 50) rfl dX8_unit_49 0 rfl ?_
      refine EW_iload_n (pc2 := 51) rfl dX8_unit_50 1 rfl ?_
      refine AW_invV (M' := MX8_opens) [.int v1] (rest := []) mlRX8_85 okX8_opens (pc2 := 54) rfl dX8_unit_51 rfl rfl (Nat.le_of_ble_eq_true rfl) (Nat.le_of_ble_eq_true rfl) (d' := 0) (by omega) q158 ⟨by decide, rfl⟩ (EW_mono (fun _ _ hr => ?_) (sX8_opens v1  x2 _ _ 0 0 (Nat.le_refl _) h))
      obtain ⟨r6, x7, rfl, rfl, h⟩ := hr
      refine EW_if_eq (tgt := 80) (pc2 := 57) rfl dX8_unit_54 (by decide) (fun q => ?_) (fun q => ?_)
      · replace h := h.1 q
        refine EW_iconst (pc2 := 81) (v := 0) rfl dX8_unit_80 (by decide) ?_
        exact AW_zret rfl isB0 dX8_unit_81 ⟨_, _, rfl, rfl, h⟩
      · replace h := h.2 q
        refine EW_aload_n (pc2 := 58) rfl dX8_unit_57 0 rfl ?_
        refine EW_iload_n (pc2 := 59) rfl dX8_unit_58 1 rfl ?_
        refine EW_iconst (pc2 := 60) (v := 1) rfl dX8_unit_59 (by decide) ?_
        refine EW_iadd (pc2 := 61) rfl dX8_unit_60 ?_
        refine AW_invV (M' := MX8_condition) [.int (v1 + 1)] (rest := []) mlRX8_42 okX8_condition (pc2 := 64) rfl dX8_unit_61 rfl rfl (Nat.le_of_ble_eq_true rfl) (Nat.le_of_ble_eq_true rfl) (d' := dr) (by omega) q158 ⟨by decide, rfl⟩ (EW_mono (fun _ _ hr => ?_) (hRX8_condition (v1 + 1)  x7 _  h))
        obtain ⟨r8, x9, rfl, rfl, h⟩ := hr
        refine EW_if_eq (tgt := 80) (pc2 := 67) rfl dX8_unit_64 (by decide) (fun q => ?_) (fun q => ?_)
        · replace h := h.1 q
          refine EW_iconst (pc2 := 81) (v := 0) rfl dX8_unit_80 (by decide) ?_
          exact AW_zret rfl isB0 dX8_unit_81 ⟨_, _, rfl, rfl, h⟩
        · replace h := h.2 q
          refine EW_aload_n (pc2 := 68) rfl dX8_unit_67 0 rfl ?_
          refine EW_bipush (pc2 := 70) (v := 41) rfl dX8_unit_68 (by decide) ?_
          refine AW_invV (M' := MX8_passes) [.int 41] (rest := []) mlRX8_55 okX8_passes (pc2 := 73) rfl dX8_unit_70 rfl rfl (Nat.le_of_ble_eq_true rfl) (Nat.le_of_ble_eq_true rfl) (d' := 1) (by omega) q158 ⟨by decide, rfl⟩ (EW_mono (fun _ _ hr => ?_) (sX8_passes 41  x9 _ _ 0 0 (Nat.le_refl _) h))
          obtain ⟨r10, x11, rfl, rfl, h⟩ := hr
          refine EW_if_eq (tgt := 80) (pc2 := 76) rfl dX8_unit_73 (by decide) (fun q => ?_) (fun q => ?_)
          · replace h := h.1 q
            refine EW_iconst (pc2 := 81) (v := 0) rfl dX8_unit_80 (by decide) ?_
            exact AW_zret rfl isB0 dX8_unit_81 ⟨_, _, rfl, rfl, h⟩
          · replace h := h.2 q
            refine EW_iconst (pc2 := 77) (v := 1) rfl dX8_unit_76 (by decide) ?_
            refine EW_goto (tgt := 81) dX8_unit_77 (by decide) ?_
            exact AW_zret rfl isB1 dX8_unit_81 ⟨_, _, rfl, rfl, h⟩
  · replace h := h.2 q
    refine EW_aload_n (pc2 := 12) rfl dX8_unit_11 0 rfl ?_
    refine EW_iload_n (pc2 := 13) rfl dX8_unit_12 1 rfl ?_
    refine AW_invV (M' := MX8_opens) [.int v1] (rest := []) mlRX8_85 okX8_opens (pc2 := 16) rfl dX8_unit_13 rfl rfl (Nat.le_of_ble_eq_true rfl) (Nat.le_of_ble_eq_true rfl) (d' := 0) (by omega) q158 ⟨by decide, rfl⟩ (EW_mono (fun _ _ hr => ?_) (sX8_opens v1  x2 _ _ 0 0 (Nat.le_refl _) h))
    obtain ⟨r12, x13, rfl, rfl, h⟩ := hr
    refine EW_if_eq (tgt := 29) (pc2 := 19) rfl dX8_unit_16 (by decide) (fun q => ?_) (fun q => ?_)
    · replace h := h.1 q
      refine EW_iconst (pc2 := 30) (v := 0) rfl dX8_unit_29 (by decide) ?_
      exact AW_zret rfl isB0 dX8_unit_30 ⟨_, _, rfl, rfl, h⟩
    · replace h := h.2 q
      refine EW_aload_n (pc2 := 20) rfl dX8_unit_19 0 rfl ?_
      refine EW_iload_n (pc2 := 21) rfl dX8_unit_20 1 rfl ?_
      refine EW_iconst (pc2 := 22) (v := 1) rfl dX8_unit_21 (by decide) ?_
      refine EW_iadd (pc2 := 23) rfl dX8_unit_22 ?_
      refine AW_invV (M' := MX8_unit) [.int (v1 + 1)] (rest := []) mlRX8_82 okX8_unit (pc2 := 26) rfl dX8_unit_23 rfl rfl (Nat.le_of_ble_eq_true rfl) (Nat.le_of_ble_eq_true rfl) (d' := dr) (by omega) q158 ⟨by decide, rfl⟩ (EW_mono (fun _ _ hr => ?_) (hRX8_unit (v1 + 1)  x13 _  h))
      obtain ⟨r14, x15, rfl, rfl, h⟩ := hr
      refine EW_if_ne (tgt := 31) (pc2 := 29) rfl dX8_unit_26 (by decide) (fun q => ?_) (fun q => ?_)
      · replace h := h.1 q
        refine EW_aload_n (pc2 := 32) rfl dX8_unit_31 0 rfl ?_
        refine AW_getr (r := 160) ⟨gfRX8_24, rfl⟩ (pc2 := 35) rfl dX8_unit_32 q158 rfl ?_
        refine EW_bipush (pc2 := 37) (v := 8) rfl dX8_unit_35 (by decide) ?_
        refine EW_iconst (pc2 := 38) (v := 0) rfl dX8_unit_37 (by decide) ?_
        refine AW_invV (M' := MX9_add) [.int 8, .int 0] (rest := []) mlRX8_58 okX9_add (pc2 := 41) rfl dX8_unit_38 rfl rfl (Nat.le_of_ble_eq_true rfl) (Nat.le_of_ble_eq_true rfl) (d' := 0) (by omega) q160 ⟨by decide, rfl⟩ (EW_mono (fun _ _ hr => ?_) (sX9_add 160 8 0 (Or.inr (Or.inr (Or.inl rfl)) : isT 160) x15 _ _ 0 0 (Nat.le_refl _) h))
        obtain ⟨x16, rfl, rfl, h⟩ := hr
        refine EW_iconst (pc2 := 42) (v := 1) rfl dX8_unit_41 (by decide) ?_
        exact AW_zret rfl isB1 dX8_unit_42 ⟨_, _, rfl, rfl, h⟩
      · replace h := h.2 q
        refine EW_iconst (pc2 := 30) (v := 0) rfl dX8_unit_29 (by decide) ?_
        exact AW_zret rfl isB0 dX8_unit_30 ⟨_, _, rfl, rfl, h⟩
def famX8_condition : Nat → (Int32 → ab_X → (Int32 → ab_X → Prop) → Prop) × (Int32 → ab_X → (Int32 → ab_X → Prop) → Prop) × (Int32 → ab_X → (Int32 → ab_X → Prop) → Prop)
  | 0 => ((fun v1 x K => False), (fun v1 x K => False), (fun v1 x K => False))
  | n + 1 => ((fun v1 x K => bX8_condition (famX8_condition n).1 (famX8_condition n).2.1 (famX8_condition n).2.2 v1 x K), (fun v1 x K => bX8_part (famX8_condition n).1 (famX8_condition n).2.1 (famX8_condition n).2.2 v1 x K), (fun v1 x K => bX8_unit (famX8_condition n).1 (famX8_condition n).2.1 (famX8_condition n).2.2 v1 x K))
set_option maxHeartbeats 4000000 in
theorem famX8_conditionS : ∀ n, (∀ (v1 : Int32)  (x : ab_X) (K : Int32 → ab_X → Prop), (famX8_condition n).1 v1 x K → EW MX8_condition 0 [(0, .ref 158), (1, .int v1)] [] (aS x) (108 + n) 0 0 (liI K)) ∧ (∀ (v1 : Int32)  (x : ab_X) (K : Int32 → ab_X → Prop), (famX8_condition n).2.1 v1 x K → EW MX8_part 0 [(0, .ref 158), (1, .int v1)] [] (aS x) (108 + n) 0 0 (liI K)) ∧ (∀ (v1 : Int32)  (x : ab_X) (K : Int32 → ab_X → Prop), (famX8_condition n).2.2 v1 x K → EW MX8_unit 0 [(0, .ref 158), (1, .int v1)] [] (aS x) (108 + n) 0 0 (liI K)) := by
  intro n
  induction n with
  | zero => exact ⟨fun v1  x K h => False.elim h, fun v1  x K h => False.elim h, fun v1  x K h => False.elim h⟩
  | succ n ih =>
    obtain ⟨i0, i1, i2⟩ := ih
    exact ⟨fun v1  x K h => bsX8_condition _ _ _ v1  x K (108 + (n + 1)) 0 0 (by omega) (108 + n) i0 i1 i2 (by omega) h, fun v1  x K h => bsX8_part _ _ _ v1  x K (108 + (n + 1)) 0 0 (by omega) (108 + n) i0 i1 i2 (by omega) h, fun v1  x K h => bsX8_unit _ _ _ v1  x K (108 + (n + 1)) 0 0 (by omega) (108 + n) i0 i1 i2 (by omega) h⟩
def wX8_condition (v1 : Int32) (x : ab_X) (K : Int32 → ab_X → Prop) : Prop := ∃ n, n ≤ 100 ∧ (famX8_condition n).1 v1 x K
theorem sX8_condition (v1 : Int32)  (x : ab_X) (K : Int32 → ab_X → Prop) (d bc bs : Nat) (hdp : 209 ≤ d) (h : wX8_condition v1 x K) : EW MX8_condition 0 [(0, .ref 158), (1, .int v1)] [] (aS x) d bc bs (liI K) := by
  obtain ⟨n, hn, h⟩ := h
  cases n with
  | zero => exact False.elim h
  | succ n =>
    obtain ⟨i0, i1, i2⟩ := famX8_conditionS n
    exact bsX8_condition _ _ _ v1  x K d bc bs (by omega) (108 + n) i0 i1 i2 (by omega) h
def wX8_part (v1 : Int32) (x : ab_X) (K : Int32 → ab_X → Prop) : Prop := ∃ n, n ≤ 100 ∧ (famX8_condition n).2.1 v1 x K
theorem sX8_part (v1 : Int32)  (x : ab_X) (K : Int32 → ab_X → Prop) (d bc bs : Nat) (hdp : 209 ≤ d) (h : wX8_part v1 x K) : EW MX8_part 0 [(0, .ref 158), (1, .int v1)] [] (aS x) d bc bs (liI K) := by
  obtain ⟨n, hn, h⟩ := h
  cases n with
  | zero => exact False.elim h
  | succ n =>
    obtain ⟨i0, i1, i2⟩ := famX8_conditionS n
    exact bsX8_part _ _ _ v1  x K d bc bs (by omega) (108 + n) i0 i1 i2 (by omega) h
def wX8_unit (v1 : Int32) (x : ab_X) (K : Int32 → ab_X → Prop) : Prop := ∃ n, n ≤ 100 ∧ (famX8_condition n).2.2 v1 x K
theorem sX8_unit (v1 : Int32)  (x : ab_X) (K : Int32 → ab_X → Prop) (d bc bs : Nat) (hdp : 209 ≤ d) (h : wX8_unit v1 x K) : EW MX8_unit 0 [(0, .ref 158), (1, .int v1)] [] (aS x) d bc bs (liI K) := by
  obtain ⟨n, hn, h⟩ := h
  cases n with
  | zero => exact False.elim h
  | succ n =>
    obtain ⟨i0, i1, i2⟩ := famX8_conditionS n
    exact bsX8_unit _ _ _ v1  x K d bc bs (by omega) (108 + n) i0 i1 i2 (by omega) h
theorem mlRX8_62 : Cond.methodLink RX8 62 yX8_actions ∈ ab_G ∧ Cond.instanceMethod yX8_actions ∈ ab_G ∧ Cond.selects RX8 yX8_actions yX8_actions ∈ ab_G := ⟨ab_in 1318 (by decide +kernel) (by decide +kernel), ab_in 1319 (by decide +kernel) (by decide +kernel), ab_in 1320 (by decide +kernel) (by decide +kernel)⟩
abbrev MX8_clause : ab_M := (yX8_clause, cX8_clause, 2, (some .boolean))
theorem dX8_clause_0 : decode cX8_clause 0 = .ok (.aload_n 0, 1) := by decide +kernel
theorem dX8_clause_1 : decode cX8_clause 1 = .ok (.iconst 0, 1) := by decide +kernel
theorem dX8_clause_2 : decode cX8_clause 2 = .ok (.invokevirtual 42, 3) := by decide +kernel
theorem dX8_clause_5 : decode cX8_clause 5 = .ok (.ifCond .eq 12, 3) := by decide +kernel
theorem dX8_clause_8 : decode cX8_clause 8 = .ok (.aload_n 0, 1) := by decide +kernel
theorem dX8_clause_9 : decode cX8_clause 9 = .ok (.bipush 63, 2) := by decide +kernel
theorem dX8_clause_11 : decode cX8_clause 11 = .ok (.invokevirtual 55, 3) := by decide +kernel
theorem dX8_clause_14 : decode cX8_clause 14 = .ok (.ifCond .ne 5, 3) := by decide +kernel
theorem dX8_clause_17 : decode cX8_clause 17 = .ok (.iconst 0, 1) := by decide +kernel
theorem dX8_clause_18 : decode cX8_clause 18 = .ok (.ireturn, 1) := by decide +kernel
theorem dX8_clause_19 : decode cX8_clause 19 = .ok (.aload_n 0, 1) := by decide +kernel
theorem dX8_clause_20 : decode cX8_clause 20 = .ok (.getfield 24, 3) := by decide +kernel
theorem dX8_clause_23 : decode cX8_clause 23 = .ok (.bipush 11, 2) := by decide +kernel
theorem dX8_clause_25 : decode cX8_clause 25 = .ok (.iconst 0, 1) := by decide +kernel
theorem dX8_clause_26 : decode cX8_clause 26 = .ok (.invokevirtual 58, 3) := by decide +kernel
theorem dX8_clause_29 : decode cX8_clause 29 = .ok (.iload_n 1, 1) := by decide +kernel
theorem dX8_clause_30 : decode cX8_clause 30 = .ok (.ifCond .ne 10, 3) := by decide +kernel
theorem dX8_clause_33 : decode cX8_clause 33 = .ok (.aload_n 0, 1) := by decide +kernel
theorem dX8_clause_34 : decode cX8_clause 34 = .ok (.invokevirtual 62, 3) := by decide +kernel
theorem dX8_clause_37 : decode cX8_clause 37 = .ok (.goto 10, 3) := by decide +kernel
theorem dX8_clause_40 : decode cX8_clause 40 = .ok (.aload_n 0, 1) := by decide +kernel
theorem dX8_clause_41 : decode cX8_clause 41 = .ok (.iconst 3, 1) := by decide +kernel
theorem dX8_clause_42 : decode cX8_clause 42 = .ok (.bipush 13, 2) := by decide +kernel
theorem dX8_clause_44 : decode cX8_clause 44 = .ok (.invokevirtual 66, 3) := by decide +kernel
theorem dX8_clause_47 : decode cX8_clause 47 = .ok (.ireturn, 1) := by decide +kernel
theorem okX8_clause : ab_okM MX8_clause 1 := ⟨by decide, ⟨by decide, by decide⟩, ab_in 1317 (by decide +kernel) (by decide +kernel), ab_in 96 (by decide +kernel) (by decide +kernel), by decide +kernel, by decide⟩
set_option maxHeartbeats 4000000 in
set_option maxRecDepth 100000 in
def wX8_clause (v1 : Int32) (x : ab_X) (K : Int32 → ab_X → Prop) : Prop := wX8_condition 0 x (fun r1 x2 => ((r1 = 0 → K 0 x2) ∧ (¬ r1 = 0 → wX8_passes 63 x2 (fun r3 x4 => ((¬ r3 = 0 → wX9_add 160 11 0 x4 (fun x5 => ((¬ v1 = 0 → wX8_number 3 13 x5 (fun r6 x7 => (isB r6 ∧ K r6 x7))) ∧ (v1 = 0 → wX8_actions x5 (fun r9 x10 => (isB r9 ∧ K r9 x10)))))) ∧ (r3 = 0 → K 0 x4))))))
set_option maxHeartbeats 4000000 in
set_option maxRecDepth 100000 in
theorem sX8_clause (v1 : Int32)  (x : ab_X) (K : Int32 → ab_X → Prop) (d bc bs : Nat) (hdp : 210 ≤ d) (h : wX8_clause v1 x K) : EW MX8_clause 0 [(0, .ref 158), (1, .int v1)] [] (aS x) d bc bs (liI K) := by
  unfold wX8_clause at h
  refine EW_aload_n (pc2 := 1) rfl dX8_clause_0 0 rfl ?_
  refine EW_iconst (pc2 := 2) (v := 0) rfl dX8_clause_1 (by decide) ?_
  refine AW_invV (M' := MX8_condition) [.int 0] (rest := []) mlRX8_42 okX8_condition (pc2 := 5) rfl dX8_clause_2 rfl rfl (Nat.le_of_ble_eq_true rfl) (Nat.le_of_ble_eq_true rfl) (d' := 209) (by omega) q158 ⟨by decide, rfl⟩ (EW_mono (fun _ _ hr => ?_) (sX8_condition 0  x _ _ 0 0 (Nat.le_refl _) h))
  obtain ⟨r1, x2, rfl, rfl, h⟩ := hr
  refine EW_if_eq (tgt := 17) (pc2 := 8) rfl dX8_clause_5 (by decide) (fun q => ?_) (fun q => ?_)
  · replace h := h.1 q
    refine EW_iconst (pc2 := 18) (v := 0) rfl dX8_clause_17 (by decide) ?_
    exact AW_zret rfl isB0 dX8_clause_18 ⟨_, _, rfl, rfl, h⟩
  · replace h := h.2 q
    refine EW_aload_n (pc2 := 9) rfl dX8_clause_8 0 rfl ?_
    refine EW_bipush (pc2 := 11) (v := 63) rfl dX8_clause_9 (by decide) ?_
    refine AW_invV (M' := MX8_passes) [.int 63] (rest := []) mlRX8_55 okX8_passes (pc2 := 14) rfl dX8_clause_11 rfl rfl (Nat.le_of_ble_eq_true rfl) (Nat.le_of_ble_eq_true rfl) (d' := 1) (by omega) q158 ⟨by decide, rfl⟩ (EW_mono (fun _ _ hr => ?_) (sX8_passes 63  x2 _ _ 0 0 (Nat.le_refl _) h))
    obtain ⟨r3, x4, rfl, rfl, h⟩ := hr
    refine EW_if_ne (tgt := 19) (pc2 := 17) rfl dX8_clause_14 (by decide) (fun q => ?_) (fun q => ?_)
    · replace h := h.1 q
      refine EW_aload_n (pc2 := 20) rfl dX8_clause_19 0 rfl ?_
      refine AW_getr (r := 160) ⟨gfRX8_24, rfl⟩ (pc2 := 23) rfl dX8_clause_20 q158 rfl ?_
      refine EW_bipush (pc2 := 25) (v := 11) rfl dX8_clause_23 (by decide) ?_
      refine EW_iconst (pc2 := 26) (v := 0) rfl dX8_clause_25 (by decide) ?_
      refine AW_invV (M' := MX9_add) [.int 11, .int 0] (rest := []) mlRX8_58 okX9_add (pc2 := 29) rfl dX8_clause_26 rfl rfl (Nat.le_of_ble_eq_true rfl) (Nat.le_of_ble_eq_true rfl) (d' := 0) (by omega) q160 ⟨by decide, rfl⟩ (EW_mono (fun _ _ hr => ?_) (sX9_add 160 11 0 (Or.inr (Or.inr (Or.inl rfl)) : isT 160) x4 _ _ 0 0 (Nat.le_refl _) h))
      obtain ⟨x5, rfl, rfl, h⟩ := hr
      refine EW_iload_n (pc2 := 30) rfl dX8_clause_29 1 rfl ?_
      refine EW_if_ne (tgt := 40) (pc2 := 33) rfl dX8_clause_30 (by decide) (fun q => ?_) (fun q => ?_)
      · replace h := h.1 q
        refine EW_aload_n (pc2 := 41) rfl dX8_clause_40 0 rfl ?_
        refine EW_iconst (pc2 := 42) (v := 3) rfl dX8_clause_41 (by decide) ?_
        refine EW_bipush (pc2 := 44) (v := 13) rfl dX8_clause_42 (by decide) ?_
        refine AW_invV (M' := MX8_number) [.int 3, .int 13] (rest := []) mlRX8_66 okX8_number (pc2 := 47) rfl dX8_clause_44 rfl rfl (Nat.le_of_ble_eq_true rfl) (Nat.le_of_ble_eq_true rfl) (d' := 1) (by omega) q158 ⟨by decide, rfl⟩ (EW_mono (fun _ _ hr => ?_) (sX8_number 3 13  x5 _ _ 0 0 (Nat.le_refl _) h))
        obtain ⟨r6, x7, rfl, rfl, h⟩ := hr
        obtain ⟨z8, h⟩ := h
        exact AW_zret rfl z8 dX8_clause_47 ⟨_, _, rfl, rfl, h⟩
      · replace h := h.2 q
        refine EW_aload_n (pc2 := 34) rfl dX8_clause_33 0 rfl ?_
        refine AW_invV (M' := MX8_actions) [] (rest := []) mlRX8_62 okX8_actions (pc2 := 37) rfl dX8_clause_34 rfl rfl (Nat.le_of_ble_eq_true rfl) (Nat.le_of_ble_eq_true rfl) (d' := 5) (by omega) q158 ⟨by decide, rfl⟩ (EW_mono (fun _ _ hr => ?_) (sX8_actions   x5 _ _ 0 0 (Nat.le_refl _) h))
        obtain ⟨r9, x10, rfl, rfl, h⟩ := hr
        refine EW_goto (tgt := 47) dX8_clause_37 (by decide) ?_
        obtain ⟨z11, h⟩ := h
        exact AW_zret rfl z11 dX8_clause_47 ⟨_, _, rfl, rfl, h⟩
    · replace h := h.2 q
      refine EW_iconst (pc2 := 18) (v := 0) rfl dX8_clause_17 (by decide) ?_
      exact AW_zret rfl isB0 dX8_clause_18 ⟨_, _, rfl, rfl, h⟩
theorem mlRX8_52 : Cond.methodLink RX8 52 yX8_clause ∈ ab_G ∧ Cond.instanceMethod yX8_clause ∈ ab_G ∧ Cond.selects RX8 yX8_clause yX8_clause ∈ ab_G := ⟨ab_in 1314 (by decide +kernel) (by decide +kernel), ab_in 1315 (by decide +kernel) (by decide +kernel), ab_in 1316 (by decide +kernel) (by decide +kernel)⟩
theorem gfRX8_39 : ab_L RX8 39 9 1 := ⟨by decide, by decide, ab_in 369 (by decide +kernel) (by decide +kernel)⟩
abbrev MX8_parse : ab_M := (yX8_parse, cX8_parse, 3, (some .boolean))
theorem dX8_parse_0 : decode cX8_parse 0 = .ok (.aload_n 0, 1) := by decide +kernel
theorem dX8_parse_1 : decode cX8_parse 1 = .ok (.iconst 0, 1) := by decide +kernel
theorem dX8_parse_2 : decode cX8_parse 2 = .ok (.putfield 36, 3) := by decide +kernel
theorem dX8_parse_5 : decode cX8_parse 5 = .ok (.aload_n 0, 1) := by decide +kernel
theorem dX8_parse_6 : decode cX8_parse 6 = .ok (.getfield 24, 3) := by decide +kernel
theorem dX8_parse_9 : decode cX8_parse 9 = .ok (.iconst 0, 1) := by decide +kernel
theorem dX8_parse_10 : decode cX8_parse 10 = .ok (.putfield 39, 3) := by decide +kernel
theorem dX8_parse_13 : decode cX8_parse 13 = .ok (.iload_n 1, 1) := by decide +kernel
theorem dX8_parse_14 : decode cX8_parse 14 = .ok (.iconst 1, 1) := by decide +kernel
theorem dX8_parse_15 : decode cX8_parse 15 = .ok (.if_icmp .ne 31, 3) := by decide +kernel
theorem dX8_parse_18 : decode cX8_parse 18 = .ok (.aload_n 0, 1) := by decide +kernel
theorem dX8_parse_19 : decode cX8_parse 19 = .ok (.ldc 40, 2) := by decide +kernel
theorem dX8_parse_21 : decode cX8_parse 21 = .ok (.putfield 17, 3) := by decide +kernel
theorem dX8_parse_24 : decode cX8_parse 24 = .ok (.aload_n 0, 1) := by decide +kernel
theorem dX8_parse_25 : decode cX8_parse 25 = .ok (.iconst 0, 1) := by decide +kernel
theorem dX8_parse_26 : decode cX8_parse 26 = .ok (.invokevirtual 42, 3) := by decide +kernel
theorem dX8_parse_29 : decode cX8_parse 29 = .ok (.ifCond .eq 15, 3) := by decide +kernel
theorem dX8_parse_32 : decode cX8_parse 32 = .ok (.aload_n 0, 1) := by decide +kernel
theorem dX8_parse_33 : decode cX8_parse 33 = .ok (.invokevirtual 46, 3) := by decide +kernel
theorem dX8_parse_36 : decode cX8_parse 36 = .ok (.iconst (-1), 1) := by decide +kernel
theorem dX8_parse_37 : decode cX8_parse 37 = .ok (.if_icmp .ne 7, 3) := by decide +kernel
theorem dX8_parse_40 : decode cX8_parse 40 = .ok (.iconst 1, 1) := by decide +kernel
theorem dX8_parse_41 : decode cX8_parse 41 = .ok (.goto 4, 3) := by decide +kernel
theorem dX8_parse_44 : decode cX8_parse 44 = .ok (.iconst 0, 1) := by decide +kernel
theorem dX8_parse_45 : decode cX8_parse 45 = .ok (.ireturn, 1) := by decide +kernel
theorem dX8_parse_46 : decode cX8_parse 46 = .ok (.aload_n 0, 1) := by decide +kernel
theorem dX8_parse_47 : decode cX8_parse 47 = .ok (.iload_n 1, 1) := by decide +kernel
theorem dX8_parse_48 : decode cX8_parse 48 = .ok (.ifCond .ne 8, 3) := by decide +kernel
theorem dX8_parse_51 : decode cX8_parse 51 = .ok (.ldc 15, 2) := by decide +kernel
theorem dX8_parse_53 : decode cX8_parse 53 = .ok (.goto 5, 3) := by decide +kernel
theorem dX8_parse_56 : decode cX8_parse 56 = .ok (.ldc 50, 2) := by decide +kernel
theorem dX8_parse_58 : decode cX8_parse 58 = .ok (.putfield 17, 3) := by decide +kernel
theorem dX8_parse_61 : decode cX8_parse 61 = .ok (.iconst 0, 1) := by decide +kernel
theorem dX8_parse_62 : decode cX8_parse 62 = .ok (.istore_n 2, 1) := by decide +kernel
theorem dX8_parse_63 : decode cX8_parse 63 = .ok (.iload_n 2, 1) := by decide +kernel
theorem dX8_parse_64 : decode cX8_parse 64 = .ok (.sipush 200, 3) := by decide +kernel
theorem dX8_parse_67 : decode cX8_parse 67 = .ok (.if_icmp .ge 40, 3) := by decide +kernel
theorem dX8_parse_70 : decode cX8_parse 70 = .ok (.aload_n 0, 1) := by decide +kernel
theorem dX8_parse_71 : decode cX8_parse 71 = .ok (.iload_n 1, 1) := by decide +kernel
theorem dX8_parse_72 : decode cX8_parse 72 = .ok (.invokevirtual 52, 3) := by decide +kernel
theorem dX8_parse_75 : decode cX8_parse 75 = .ok (.ifCond .ne 5, 3) := by decide +kernel
theorem dX8_parse_78 : decode cX8_parse 78 = .ok (.iconst 0, 1) := by decide +kernel
theorem dX8_parse_79 : decode cX8_parse 79 = .ok (.ireturn, 1) := by decide +kernel
theorem dX8_parse_80 : decode cX8_parse 80 = .ok (.aload_n 0, 1) := by decide +kernel
theorem dX8_parse_81 : decode cX8_parse 81 = .ok (.invokevirtual 46, 3) := by decide +kernel
theorem dX8_parse_84 : decode cX8_parse 84 = .ok (.iconst (-1), 1) := by decide +kernel
theorem dX8_parse_85 : decode cX8_parse 85 = .ok (.if_icmp .ne 5, 3) := by decide +kernel
theorem dX8_parse_88 : decode cX8_parse 88 = .ok (.iconst 1, 1) := by decide +kernel
theorem dX8_parse_89 : decode cX8_parse 89 = .ok (.ireturn, 1) := by decide +kernel
theorem dX8_parse_90 : decode cX8_parse 90 = .ok (.aload_n 0, 1) := by decide +kernel
theorem dX8_parse_91 : decode cX8_parse 91 = .ok (.bipush 59, 2) := by decide +kernel
theorem dX8_parse_93 : decode cX8_parse 93 = .ok (.invokevirtual 55, 3) := by decide +kernel
theorem dX8_parse_96 : decode cX8_parse 96 = .ok (.ifCond .ne 5, 3) := by decide +kernel
theorem dX8_parse_99 : decode cX8_parse 99 = .ok (.iconst 0, 1) := by decide +kernel
theorem dX8_parse_100 : decode cX8_parse 100 = .ok (.ireturn, 1) := by decide +kernel
theorem dX8_parse_101 : decode cX8_parse 101 = .ok (.iinc 2 1, 3) := by decide +kernel
theorem dX8_parse_104 : decode cX8_parse 104 = .ok (.goto (-41), 3) := by decide +kernel
theorem dX8_parse_107 : decode cX8_parse 107 = .ok (.iconst 0, 1) := by decide +kernel
theorem dX8_parse_108 : decode cX8_parse 108 = .ok (.ireturn, 1) := by decide +kernel
theorem okX8_parse : ab_okM MX8_parse 1 := ⟨by decide, ⟨by decide, by decide⟩, ab_in 1174 (by decide +kernel) (by decide +kernel), ab_in 96 (by decide +kernel) (by decide +kernel), by decide +kernel, by decide⟩
set_option maxHeartbeats 4000000 in
set_option maxRecDepth 100000 in
def lX8_parse_63 (v1 : Int32) (K : Int32 → ab_X → Prop)  (L63 : Int32 → ab_X → Prop) (v2 : Int32) (x : ab_X) : Prop := ((200 ≤ v2 → K 0 x) ∧ (¬ 200 ≤ v2 → wX8_clause v1 x (fun r5 x6 => ((¬ r5 = 0 → wX8_peek x6 (fun r7 x8 => ((¬ r7 = (-1) → wX8_passes 59 x8 (fun r9 x10 => ((¬ r9 = 0 → L63 (v2 + 1) x10) ∧ (r9 = 0 → K 0 x10)))) ∧ (r7 = (-1) → K 1 x8)))) ∧ (r5 = 0 → K 0 x6)))))
set_option maxHeartbeats 4000000 in
set_option maxRecDepth 100000 in
theorem sX8_parse_63 (v1 : Int32) (v2 : Int32)  (x : ab_X) (K : Int32 → ab_X → Prop)  (d bc bs : Nat) (hdp : 211 ≤ d)  (h : Lp2 (lX8_parse_63 v1 K ) v2 x) : EW MX8_parse 63 [(0, .ref 158), (1, .int v1), (2, .int v2)] [] (aS x) d bc bs (liI K) := by
  refine Lp2.use (P := fun v2 x => EW MX8_parse 63 [(0, .ref 158), (1, .int v1), (2, .int v2)] [] (aS x) d bc bs (liI K)) (fun L63 v2 x hL63 h => ?_) v2 x h
  unfold lX8_parse_63 at h
  refine EW_iload_n (pc2 := 64) rfl dX8_parse_63 2 rfl ?_
  refine EW_sipush (pc2 := 67) (v := 200) rfl dX8_parse_64 (by decide) ?_
  refine EW_icmp_ge (tgt := 107) (pc2 := 70) rfl dX8_parse_67 (by decide) (fun q => ?_) (fun q => ?_)
  · replace h := h.1 q
    refine EW_iconst (pc2 := 108) (v := 0) rfl dX8_parse_107 (by decide) ?_
    exact AW_zret rfl isB0 dX8_parse_108 ⟨_, _, rfl, rfl, h⟩
  · replace h := h.2 q
    refine EW_aload_n (pc2 := 71) rfl dX8_parse_70 0 rfl ?_
    refine EW_iload_n (pc2 := 72) rfl dX8_parse_71 1 rfl ?_
    refine AW_invV (M' := MX8_clause) [.int v1] (rest := []) mlRX8_52 okX8_clause (pc2 := 75) rfl dX8_parse_72 rfl rfl (Nat.le_of_ble_eq_true rfl) (Nat.le_of_ble_eq_true rfl) (d' := 210) (by omega) q158 ⟨by decide, rfl⟩ (EW_mono (fun _ _ hr => ?_) (sX8_clause v1  x _ _ 0 0 (Nat.le_refl _) h))
    obtain ⟨r5, x6, rfl, rfl, h⟩ := hr
    refine EW_if_ne (tgt := 80) (pc2 := 78) rfl dX8_parse_75 (by decide) (fun q => ?_) (fun q => ?_)
    · replace h := h.1 q
      refine EW_aload_n (pc2 := 81) rfl dX8_parse_80 0 rfl ?_
      refine AW_invV (M' := MX8_peek) [] (rest := []) mlRX8_46 okX8_peek (pc2 := 84) rfl dX8_parse_81 rfl rfl (Nat.le_of_ble_eq_true rfl) (Nat.le_of_ble_eq_true rfl) (d' := 0) (by omega) q158 ⟨by decide, rfl⟩ (EW_mono (fun _ _ hr => ?_) (sX8_peek   x6 _ _ 0 0 (Nat.le_refl _) h))
      obtain ⟨r7, x8, rfl, rfl, h⟩ := hr
      refine EW_iconst (pc2 := 85) (v := (-1)) rfl dX8_parse_84 (by decide) ?_
      refine EW_icmp_ne (tgt := 90) (pc2 := 88) rfl dX8_parse_85 (by decide) (fun q => ?_) (fun q => ?_)
      · replace h := h.1 q
        refine EW_aload_n (pc2 := 91) rfl dX8_parse_90 0 rfl ?_
        refine EW_bipush (pc2 := 93) (v := 59) rfl dX8_parse_91 (by decide) ?_
        refine AW_invV (M' := MX8_passes) [.int 59] (rest := []) mlRX8_55 okX8_passes (pc2 := 96) rfl dX8_parse_93 rfl rfl (Nat.le_of_ble_eq_true rfl) (Nat.le_of_ble_eq_true rfl) (d' := 1) (by omega) q158 ⟨by decide, rfl⟩ (EW_mono (fun _ _ hr => ?_) (sX8_passes 59  x8 _ _ 0 0 (Nat.le_refl _) h))
        obtain ⟨r9, x10, rfl, rfl, h⟩ := hr
        refine EW_if_ne (tgt := 101) (pc2 := 99) rfl dX8_parse_96 (by decide) (fun q => ?_) (fun q => ?_)
        · replace h := h.1 q
          refine EW_iinc (v2 + 1) (pc2 := 104) rfl dX8_parse_101 2 rfl rfl (by decide) [1, 2, 0] [(0, .ref 158), (1, .int v1), (2, .int (v2 + 1))] rfl ?_
          refine EW_goto (tgt := 63) dX8_parse_104 (by decide) ?_
          exact hL63 (v2 + 1) x10 h
        · replace h := h.2 q
          refine EW_iconst (pc2 := 100) (v := 0) rfl dX8_parse_99 (by decide) ?_
          exact AW_zret rfl isB0 dX8_parse_100 ⟨_, _, rfl, rfl, h⟩
      · replace h := h.2 q
        refine EW_iconst (pc2 := 89) (v := 1) rfl dX8_parse_88 (by decide) ?_
        exact AW_zret rfl isB1 dX8_parse_89 ⟨_, _, rfl, rfl, h⟩
    · replace h := h.2 q
      refine EW_iconst (pc2 := 79) (v := 0) rfl dX8_parse_78 (by decide) ?_
      exact AW_zret rfl isB0 dX8_parse_79 ⟨_, _, rfl, rfl, h⟩
set_option maxHeartbeats 4000000 in
set_option maxRecDepth 100000 in
def wX8_parse (v1 : Int32) (x : ab_X) (K : Int32 → ab_X → Prop) : Prop := ((¬ v1 = 1 → ((¬ v1 = 0 → Lp2 (lX8_parse_63 v1 K ) 0 (wlt (wr (wr x 158 2 0) 160 1 0) 1000002)) ∧ (v1 = 0 → Lp2 (lX8_parse_63 v1 K ) 0 (wlt (wr (wr x 158 2 0) 160 1 0) 1000000)))) ∧ (v1 = 1 → wX8_condition 0 (wlt (wr (wr x 158 2 0) 160 1 0) 1000001) (fun r1 x2 => ((r1 = 0 → K 0 x2) ∧ (¬ r1 = 0 → wX8_peek x2 (fun r3 x4 => ((¬ r3 = (-1) → K 0 x4) ∧ (r3 = (-1) → K 1 x4))))))))
set_option maxHeartbeats 4000000 in
set_option maxRecDepth 100000 in
theorem sX8_parse (v1 : Int32)  (x : ab_X) (K : Int32 → ab_X → Prop) (d bc bs : Nat) (hdp : 211 ≤ d) (h : wX8_parse v1 x K) : EW MX8_parse 0 [(0, .ref 158), (1, .int v1)] [] (aS x) d bc bs (liI K) := by
  unfold wX8_parse at h
  refine EW_aload_n (pc2 := 1) rfl dX8_parse_0 0 rfl ?_
  refine EW_iconst (pc2 := 2) (v := 0) rfl dX8_parse_1 (by decide) ?_
  refine AW_puti ⟨gfRX8_36, rfl, rfl⟩ (pc2 := 5) rfl dX8_parse_2 q158 ?_
  refine EW_aload_n (pc2 := 6) rfl dX8_parse_5 0 rfl ?_
  refine AW_getr (r := 160) ⟨gfRX8_24, rfl⟩ (pc2 := 9) rfl dX8_parse_6 q158 rfl ?_
  refine EW_iconst (pc2 := 10) (v := 0) rfl dX8_parse_9 (by decide) ?_
  refine AW_puti ⟨gfRX8_39, rfl, rfl⟩ (pc2 := 13) rfl dX8_parse_10 q160 ?_
  refine EW_iload_n (pc2 := 14) rfl dX8_parse_13 1 rfl ?_
  refine EW_iconst (pc2 := 15) (v := 1) rfl dX8_parse_14 (by decide) ?_
  refine EW_icmp_ne (tgt := 46) (pc2 := 18) rfl dX8_parse_15 (by decide) (fun q => ?_) (fun q => ?_)
  · replace h := h.1 q
    refine EW_aload_n (pc2 := 47) rfl dX8_parse_46 0 rfl ?_
    refine EW_iload_n (pc2 := 48) rfl dX8_parse_47 1 rfl ?_
    refine EW_if_ne (tgt := 56) (pc2 := 51) rfl dX8_parse_48 (by decide) (fun q => ?_) (fun q => ?_)
    · replace h := h.1 q
      refine AW_str_T50 rfl (pc2 := 58) rfl dX8_parse_56 ?_
      refine AW_putlt gfRX8_17 (pc2 := 61) rfl dX8_parse_58 ?_
      refine EW_iconst (pc2 := 62) (v := 0) rfl dX8_parse_61 (by decide) ?_
      refine EW_istore_n (pc2 := 63) rfl dX8_parse_62 (by decide) [1, 2, 0] [(0, .ref 158), (1, .int v1), (2, .int 0)] rfl ?_
      exact sX8_parse_63 v1 0 (wlt (wr (wr x 158 2 0) 160 1 0) 1000002) K d bc bs hdp h
    · replace h := h.2 q
      refine AW_str_T15 rfl (pc2 := 53) rfl dX8_parse_51 ?_
      refine EW_goto (tgt := 58) dX8_parse_53 (by decide) ?_
      refine AW_putlt gfRX8_17 (pc2 := 61) rfl dX8_parse_58 ?_
      refine EW_iconst (pc2 := 62) (v := 0) rfl dX8_parse_61 (by decide) ?_
      refine EW_istore_n (pc2 := 63) rfl dX8_parse_62 (by decide) [1, 2, 0] [(0, .ref 158), (1, .int v1), (2, .int 0)] rfl ?_
      exact sX8_parse_63 v1 0 (wlt (wr (wr x 158 2 0) 160 1 0) 1000000) K d bc bs hdp h
  · replace h := h.2 q
    refine EW_aload_n (pc2 := 19) rfl dX8_parse_18 0 rfl ?_
    refine AW_str_T40 rfl (pc2 := 21) rfl dX8_parse_19 ?_
    refine AW_putlt gfRX8_17 (pc2 := 24) rfl dX8_parse_21 ?_
    refine EW_aload_n (pc2 := 25) rfl dX8_parse_24 0 rfl ?_
    refine EW_iconst (pc2 := 26) (v := 0) rfl dX8_parse_25 (by decide) ?_
    refine AW_invV (M' := MX8_condition) [.int 0] (rest := []) mlRX8_42 okX8_condition (pc2 := 29) rfl dX8_parse_26 rfl rfl (Nat.le_of_ble_eq_true rfl) (Nat.le_of_ble_eq_true rfl) (d' := 209) (by omega) q158 ⟨by decide, rfl⟩ (EW_mono (fun _ _ hr => ?_) (sX8_condition 0  (wlt (wr (wr x 158 2 0) 160 1 0) 1000001) _ _ 0 0 (Nat.le_refl _) h))
    obtain ⟨r1, x2, rfl, rfl, h⟩ := hr
    refine EW_if_eq (tgt := 44) (pc2 := 32) rfl dX8_parse_29 (by decide) (fun q => ?_) (fun q => ?_)
    · replace h := h.1 q
      refine EW_iconst (pc2 := 45) (v := 0) rfl dX8_parse_44 (by decide) ?_
      exact AW_zret rfl isB0 dX8_parse_45 ⟨_, _, rfl, rfl, h⟩
    · replace h := h.2 q
      refine EW_aload_n (pc2 := 33) rfl dX8_parse_32 0 rfl ?_
      refine AW_invV (M' := MX8_peek) [] (rest := []) mlRX8_46 okX8_peek (pc2 := 36) rfl dX8_parse_33 rfl rfl (Nat.le_of_ble_eq_true rfl) (Nat.le_of_ble_eq_true rfl) (d' := 0) (by omega) q158 ⟨by decide, rfl⟩ (EW_mono (fun _ _ hr => ?_) (sX8_peek   x2 _ _ 0 0 (Nat.le_refl _) h))
      obtain ⟨r3, x4, rfl, rfl, h⟩ := hr
      refine EW_iconst (pc2 := 37) (v := (-1)) rfl dX8_parse_36 (by decide) ?_
      refine EW_icmp_ne (tgt := 44) (pc2 := 40) rfl dX8_parse_37 (by decide) (fun q => ?_) (fun q => ?_)
      · replace h := h.1 q
        refine EW_iconst (pc2 := 45) (v := 0) rfl dX8_parse_44 (by decide) ?_
        exact AW_zret rfl isB0 dX8_parse_45 ⟨_, _, rfl, rfl, h⟩
      · replace h := h.2 q
        refine EW_iconst (pc2 := 41) (v := 1) rfl dX8_parse_40 (by decide) ?_
        refine EW_goto (tgt := 45) dX8_parse_41 (by decide) ?_
        exact AW_zret rfl isB1 dX8_parse_45 ⟨_, _, rfl, rfl, h⟩
